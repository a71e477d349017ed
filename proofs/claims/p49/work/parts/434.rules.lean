section S4
/-- the rules: left sides differ and know their places -/
def RUL (M : g_M) (n r : Nat) : Prop := M 45 17 = (r : Int) ∧ r ≤ 30 ∧ ∀ i, i < r → ∃ l v : Nat, l < n ∧ v < n ∧ M 59 i = (l : Int) ∧ M 60 i = (v : Int) ∧ M 32 l = (i : Int)
theorem RUL.cong {M M' : g_M} {n n' r : Nat} (h : RUL M n r) (hn : n ≤ n') (h17 : M' 45 17 = M 45 17) (h59 : M' 59 = M 59) (h60 : M' 60 = M 60) (h32 : M' 32 = M 32) : RUL M' n' r := by
  refine ⟨h17.trans h.1, h.2.1, fun i hi => ?_⟩
  obtain ⟨l, v, l1, v1, e1, e2, e3⟩ := h.2.2 i hi
  exact ⟨l, v, by omega, by omega, by rw [h59, e1], by rw [h60, e2], by rw [h32, e3]⟩
theorem r_ruleFor {M : g_M} {Q : Int → g_M → Prop} {n r : Nat} (hR : RG M) (h : RUL M n r) (y : Nat) (hy : y ≤ 3000) (k1 : ∀ i, i < r → M 59 i = (y : Int) → Q i M) (k2 : (∀ i, i < r → M 59 i ≠ (y : Int)) → Q (-1) M) : F_X9_ruleFor Q y M := by
  obtain ⟨h1, h2, h3⟩ := h
  have h32 := hR 32 y
  have no : ∀ i, i < r → M 59 i = (y : Int) → M 32 y = (i : Int) := fun i hi e => by
    obtain ⟨l, v, -, -, e1, -, e3⟩ := h3 i hi
    rw [show y = l by omega]
    exact e3
  unfold F_X9_ruleFor
  rw [rgn y (by omega), hR.b, h1, bq (x := (r : Int)) (by omega) (by omega), bq (x := (y : Int)) (by omega) (by omega), show bm 30 = 30 by decide]
  refine ⟨fun c => k2 (fun i hi e => ?_), fun c => ⟨fun c2 => ⟨fun c3 => ⟨?_, ?_, ?_⟩, fun c3 => absurd c3 (by omega)⟩, fun c2 => k2 (fun i hi e => ?_)⟩⟩
  · have := no i hi e
    omega
  · exact ink (M 32 y).toNat (by omega) (by omega) (by omega)
  · intro c4
    rw [hR.b] at c4
    have := k1 (M 32 y).toNat (by omega) c4
    rw [show (((M 32 y).toNat : Nat) : Int) = M 32 y by omega] at this
    exact this
  · intro c4
    rw [hR.b] at c4
    refine k2 (fun i hi e => c4 ?_)
    have := no i hi e
    rw [show (M 32 y).toNat = i by omega]
    exact e
  · have := no i hi e
    omega
theorem r_rightSide {M : g_M} {Q : Int → g_M → Prop} {n r : Nat} (h : RUL M n r) (i : Nat) (hi : i < r) (k : Q (M 60 i) M) : F_X9_rightSide Q i M := by
  have h2 := h.2.1
  unfold F_X9_rightSide
  rw [bq (x := (i : Int)) (by omega) (by omega), show bm 30 = 30 by decide]
  refine ⟨fun c => absurd c (by omega), fun _ => ⟨fun _ => ⟨ink i rfl (by omega) (by omega), ?_⟩, fun c => absurd c (by omega)⟩⟩
  rw [Int.toNat_natCast]
  exact k
/-- the root of a walk that starts empty stands last -/
theorem post_end {M : g_M} {n : Nat} (hp : PLt M n) {x : Nat} (hx : x < n) : ∃ K, post M [] x = K ++ [x] := ⟨_, post_out hp hx (by simp)⟩
theorem wl_end {M : g_M} {c x : Nat} {K : List Nat} (h : wl M c = K ++ [x]) : 0 < c ∧ (M 7 (c - 1)).toNat = x := by
  cases c with
  | zero =>
    have h : ([] : List Nat) = K ++ [x] := h
    have := congrArg List.length h
    simp at this
  | succ c =>
    have h : wl M c ++ [(M 7 c).toNat] = K ++ [x] := h
    refine ⟨by omega, ?_⟩
    have := congrArg List.getLast? h
    simpa using this
end S4
