section P3
def hbx (a1 a2 a3 a4 : Int) : Int := iand (ixor ((ixor ((((((a1 * 31) + a2) * 8191) + a3) * 131071) + a4) (iushr ((((((a1 * 31) + a2) * 8191) + a3) * 131071) + a4) 15)) * 739982445) (iushr ((ixor ((((((a1 * 31) + a2) * 8191) + a3) * 131071) + a4) (iushr ((((((a1 * 31) + a2) * 8191) + a3) * 131071) + a4) 15)) * 739982445) 13)) 32767
theorem hbx_in (a b c d : Int) : ∃ k : Nat, k < 32768 ∧ hbx a b c d = (k : Int) := iand15 _
def HH (M : g_M) (x : Nat) : Int := hbx (M 0 x) (M 1 (3 * x)) (M 1 (3 * x + 1)) (M 1 (3 * x + 2))
def sg (M : g_M) (x : Nat) : Nat := (M 0 x).toNat
def NO (M : g_M) (x : Nat) (s a b c : Int) : Prop := M 0 x = s ∧ M 1 (3 * x) = a ∧ M 1 (3 * x + 1) = b ∧ M 1 (3 * x + 2) = c
/-- what stands in an argument's place -/
def okp (n : Nat) (r : Nat) (i : Nat) (v : Int) : Prop := (i < r → 0 ≤ v ∧ v < (n : Int)) ∧ (¬ i < r → v = -1)
def ext (w h : Int) (M : g_M) (a b c : Int) : Prop := w = min (1 + rg M 2 a / 512 + rg M 2 b / 512 + rg M 2 c / 512) 4194303 ∧ h = min (1 + max (max (rg M 2 a % 512 / 2) (rg M 2 b % 512 / 2)) (rg M 2 c % 512 / 2)) 255
def ST (M : g_M) (n : Nat) : Prop :=
  (M 42 9 = (n : Int) ∧ M 42 10 = (n : Int) ∧ M 42 11 = 0 ∧ M 42 12 = 4096 ∧ n ≤ 3000) ∧
  (∀ x, x < n → 0 ≤ M 0 x ∧ M 0 x < 5) ∧
  (∀ x, x < n → okp x (arN (sg M x)) 0 (M 1 (3 * x)) ∧ okp x (arN (sg M x)) 1 (M 1 (3 * x + 1)) ∧ okp x (arN (sg M x)) 2 (M 1 (3 * x + 2))) ∧
  (∀ x y, x < n → y < n → M 0 x = M 0 y → M 1 (3 * x) = M 1 (3 * y) → M 1 (3 * x + 1) = M 1 (3 * y + 1) → M 1 (3 * x + 2) = M 1 (3 * y + 2) → x = y) ∧
  (∀ b : Nat, b < 32768 → 0 ≤ M 5 b ∧ M 5 b ≤ (n : Int) ∧ (0 < M 5 b → HH M ((M 5 b).toNat - 1) = (b : Int)) ∧ ∀ z, z < n → HH M z = (b : Int) → (z : Int) < M 5 b) ∧
  (∀ x : Nat, x < n → 0 ≤ M 4 x ∧ M 4 x ≤ (x : Int) ∧ (0 < M 4 x → HH M ((M 4 x).toNat - 1) = HH M x) ∧ ∀ z : Nat, z < x → HH M z = HH M x → (z : Int) < M 4 x) ∧
  (∀ x, x < n → 512 ≤ M 2 x ∧ M 2 x ≤ 2147483647 ∧ M 2 x % 2 = 0 ∧ ext (M 2 x / 512) (M 2 x % 512 / 2) M (M 1 (3 * x)) (M 1 (3 * x + 1)) (M 1 (3 * x + 2)))
/-- the first n nodes are the same -/
def EX (n : Nat) (M M' : g_M) : Prop := ∀ x, x < n → M' 0 x = M 0 x ∧ M' 1 (3 * x) = M 1 (3 * x) ∧ M' 1 (3 * x + 1) = M 1 (3 * x + 1) ∧ M' 1 (3 * x + 2) = M 1 (3 * x + 2) ∧ M' 2 x = M 2 x
theorem EX.rf (n : Nat) (M : g_M) : EX n M M := fun _ _ => ⟨rfl, rfl, rfl, rfl, rfl⟩
theorem EX.tr {n m : Nat} {M M' M'' : g_M} (h : EX n M M') (h' : EX m M' M'') (hm : n ≤ m) : EX n M M'' := fun x hx => by
  obtain ⟨a1, a2, a3, a4, a5⟩ := h x hx
  obtain ⟨b1, b2, b3, b4, b5⟩ := h' x (by omega)
  exact ⟨b1.trans a1, b2.trans a2, b3.trans a3, b4.trans a4, b5.trans a5⟩
theorem EX.of {n : Nat} {M M' : g_M} (h0 : M' 0 = M 0) (h1 : M' 1 = M 1) (h2 : M' 2 = M 2) : EX n M M' := fun x _ => by rw [h0, h1, h2]; exact ⟨rfl, rfl, rfl, rfl, rfl⟩
theorem EX.hh {n : Nat} {M M' : g_M} (h : EX n M M') {x : Nat} (hx : x < n) : HH M' x = HH M x := by
  obtain ⟨a1, a2, a3, a4, -⟩ := h x hx
  unfold HH
  rw [a1, a2, a3, a4]
theorem ST.cong {n : Nat} {M M' : g_M} (h : ST M n) (h0 : M' 0 = M 0) (h1 : M' 1 = M 1) (h2 : M' 2 = M 2) (h4 : M' 4 = M 4) (h5 : M' 5 = M 5) (h42 : M' 42 = M 42) : ST M' n := by
  unfold ST HH sg ext rg at *
  rw [h0, h1, h2, h4, h5, h42]
  exact h
end P3
