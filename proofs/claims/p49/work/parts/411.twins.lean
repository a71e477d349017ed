section Q1
def lp (M : g_M) (i p : Nat) : Int := rg M 24 (M 29 (3 * i + p))
def tw (M : g_M) (i j : Nat) : Prop := M 28 i = M 28 j ∧ ∀ p, p < 3 → lp M i p = lp M j p
def hm (a b c d : Int) : Int := ((a * 8191 + b) * 8191 + c) * 8191 + d
def hb (M : g_M) (i : Nat) : Int := iand (ixor (hm (M 28 i) (lp M i 0) (lp M i 1) (lp M i 2) * 739982445) (iushr (hm (M 28 i) (lp M i 0) (lp M i 1) (lp M i 2) * 739982445) 15)) 63
theorem hb_in (M : g_M) (i : Nat) : ∃ k : Nat, k < 64 ∧ hb M i = (k : Int) := iand63 _
theorem tw.hq {M : g_M} {i j : Nat} (h : tw M i j) : hb M i = hb M j := by
  unfold hb
  rw [h.1, h.2 0 (by decide), h.2 1 (by decide), h.2 2 (by decide)]
theorem tw.sy {M : g_M} {i j : Nat} (h : tw M i j) : tw M j i := ⟨h.1.symm, fun p hp => (h.2 p hp).symm⟩
theorem tw.tr {M : g_M} {i j k : Nat} (h : tw M i j) (h' : tw M j k) : tw M i k := ⟨h.1.trans h'.1, fun p hp => (h.2 p hp).trans (h'.2 p hp)⟩
theorem lp.cong {M M' : g_M} (h1 : M' 24 = M 24) (h2 : M' 29 = M 29) (i p : Nat) : lp M' i p = lp M i p := by
  unfold lp rg
  rw [h1, h2]
theorem tw.cong {M M' : g_M} (h1 : M' 24 = M 24) (h2 : M' 28 = M 28) (h3 : M' 29 = M 29) (i j : Nat) : tw M' i j ↔ tw M i j := by
  unfold tw
  simp only [lp.cong h1 h3, h2]
theorem hb.cong {M M' : g_M} (h1 : M' 24 = M 24) (h2 : M' 28 = M 28) (h3 : M' 29 = M 29) (i : Nat) : hb M' i = hb M i := by
  unfold hb
  simp only [lp.cong h1 h3, h2]
theorem r_areTwins_28 {M : g_M} {Q : Int → g_M → Prop} (hRG : RG M) (i j : Nat) (hi : i ≤ 1000) (hj : j ≤ 1000) (hs : M 28 i = M 28 j) (k1 : tw M i j → Q 1 M) (k2 : ¬ tw M i j → Q 0 M) : ∀ (f p : Nat), p ≤ 3 → 3 - p < f → (∀ p', p' < p → lp M i p' = lp M j p') → F_X1_areTwins_28 Q f i j 1 p M := by
  intro f
  induction f with
  | zero => intro p h1 h2; omega
  | succ f ih =>
    intro p h1 h2 h3
    unfold F_X1_areTwins_28
    rw [bq (x := (p : Int)) (by omega) (by omega), show bm 3 = 3 by decide, show bm 1 = 1 by decide, rgk (i := 3 * (i : Int) + (p : Int)) (3 * i + p) (by omega) (by omega), rgk (i := 3 * (j : Int) + (p : Int)) (3 * j + p) (by omega) (by omega), hRG.br, hRG.br]
    refine ⟨fun _ => ⟨fun c => absurd c (by decide), fun _ => ⟨fun c => ?_, fun c => ?_⟩⟩, fun c => ?_⟩
    · unfold F_X1_areTwins_86
      rw [show (p : Int) + 1 = ((p + 1 : Nat) : Int) by omega]
      refine ih (p + 1) (by omega) (by omega) (fun p' hp' => ?_)
      by_cases hpp : p' = p
      · subst hpp
        exact c
      · exact h3 p' (by omega)
    · unfold F_X1_areTwins_86
      have hq : Q 0 M := k2 (fun ht => c (ht.2 p (by omega)))
      obtain ⟨f', rfl⟩ : ∃ f', f = f' + 1 := ⟨f - 1, by omega⟩
      unfold F_X1_areTwins_28 F_X1_areTwins_93
      rw [show bm 0 = 0 by decide]
      exact ⟨fun _ => ⟨fun _ => ⟨Or.inl rfl, hq⟩, fun c => absurd rfl c⟩, fun _ => ⟨Or.inl rfl, hq⟩⟩
    · unfold F_X1_areTwins_93
      exact ⟨Or.inr rfl, k1 ⟨hs, fun p' hp' => h3 p' (by omega)⟩⟩
theorem r_areTwins {M : g_M} {Q : Int → g_M → Prop} (hRG : RG M) (i j : Nat) (hi : i ≤ 1000) (hj : j ≤ 1000) (k1 : tw M i j → Q 1 M) (k2 : ¬ tw M i j → Q 0 M) : F_X1_areTwins Q i j M := by
  unfold F_X1_areTwins
  rw [rgn i (by omega), rgn j (by omega), hRG.b, hRG.b]
  refine ⟨fun c => ⟨4, r_areTwins_28 hRG i j hi hj c k1 k2 4 0 (by omega) (by omega) (fun p' h => absurd h (by omega))⟩, fun c => ⟨4, ?_⟩⟩
  have hq : Q 0 M := k2 (fun ht => c ht.1)
  unfold F_X1_areTwins_28 F_X1_areTwins_93
  rw [show bm 0 = 0 by decide]
  exact ⟨fun _ => ⟨fun _ => ⟨Or.inl rfl, hq⟩, fun c => absurd rfl c⟩, fun _ => ⟨Or.inl rfl, hq⟩⟩
theorem r_cbucket {M : g_M} {Q : Int → g_M → Prop} (i : Nat) (hi : i ≤ 1000) (h47 : M 47 10 = 64) (k : Q (hb M i) M) : F_X1_bucketOf Q i M := by
  unfold F_X1_bucketOf
  have e : ∀ p : Nat, p < 3 → rg M 24 (rg M 29 (3 * (i : Int) + (p : Int))) = lp M i p := fun p hp => by
    rw [rgk (i := 3 * (i : Int) + (p : Int)) (3 * i + p) (by omega) (by omega)]
    rfl
  rw [rgn i (by omega)]
  refine ⟨4, ?_⟩
  unfold F_X1_bucketOf_11
  refine ⟨fun _ => ?_, fun c => absurd (by decide) c⟩
  unfold F_X1_bucketOf_11
  refine ⟨fun _ => ?_, fun c => absurd (by decide) c⟩
  unfold F_X1_bucketOf_11
  refine ⟨fun _ => ?_, fun c => absurd (by decide) c⟩
  unfold F_X1_bucketOf_11
  refine ⟨fun c => absurd c (by decide), fun _ => ?_⟩
  have e0 := e 0 (by decide)
  have e1 := e 1 (by decide)
  have e2 := e 2 (by decide)
  rw [show (0 : Int) + 1 + 1 = ((2 : Nat) : Int) by omega, e2, show (0 : Int) + 1 = ((1 : Nat) : Int) by omega, e1, show (0 : Int) = ((0 : Nat) : Int) by omega, e0, h47, show (64 : Int) - 1 = 63 by omega]
  exact k
/-- what the closure reads but doesn't change -/
def CX (M : g_M) (c : Nat) : Prop := M 43 6 = (c : Int) ∧ M 47 10 = 64 ∧ ∀ i, i < c → (0 ≤ M 28 i ∧ M 28 i < 5) ∧ ∀ p, p < 3 → (p < arN (M 28 i).toNat → ∃ k : Nat, k < i ∧ M 29 (3 * i + p) = (k : Int)) ∧ (¬ p < arN (M 28 i).toNat → M 29 (3 * i + p) = -1)
theorem CX.cong {M M' : g_M} {c : Nat} (h : CX M c) (h1 : M' 43 = M 43) (h2 : M' 47 = M 47) (h3 : M' 28 = M 28) (h4 : M' 29 = M 29) : CX M' c := by
  unfold CX
  rw [h1, h2, h3, h4]
  exact h
/-- a closed relation on the places -/
def EC (E : Nat → Nat → Prop) (M : g_M) (c : Nat) : Prop := (∀ i j, E i j → E j i) ∧ (∀ i j k, E i j → E j k → E i k) ∧ ∀ i j, i < c → j < c → M 28 i = M 28 j → (∀ p a b : Nat, p < arN (M 28 i).toNat → M 29 (3 * i + p) = (a : Int) → M 29 (3 * j + p) = (b : Int) → E a b) → E i j
def SO (E : Nat → Nat → Prop) (M : g_M) (c : Nat) : Prop := ∀ i j, i < c → j < c → M 24 i = M 24 j → E i j
theorem EC.cong {E : Nat → Nat → Prop} {M M' : g_M} {c : Nat} (h : EC E M c) (h3 : M' 28 = M 28) (h4 : M' 29 = M 29) : EC E M' c := by
  unfold EC
  rw [h3, h4]
  exact h
theorem EC.tw {E : Nat → Nat → Prop} {M : g_M} {c : Nat} (h : EC E M c) (hX : CX M c) (hc : c ≤ 1000) (hS : SO E M c) {i j : Nat} (hi : i < c) (hj : j < c) (ht : tw M i j) : E i j := by
  refine h.2.2 i j hi hj ht.1 (fun p a b hp ea eb => ?_)
  have hr := arN_le (M 28 i).toNat
  have hpi := (hX.2.2 i hi).2 p (by omega)
  have hpj := (hX.2.2 j hj).2 p (by omega)
  rw [← ht.1] at hpj
  obtain ⟨a', a1, a2⟩ := hpi.1 hp
  obtain ⟨b', b1, b2⟩ := hpj.1 hp
  have e := ht.2 p (by omega)
  unfold lp at e
  rw [ea, eb, rgn a (by omega), rgn b (by omega)] at e
  exact hS a b (by omega) (by omega) e
end Q1
