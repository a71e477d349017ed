section S6
theorem WK.idx {M : g_M} {n c a x j : Nat} (hK : WK M n c) (ha : a < c) (ex : M 7 a = (x : Int)) (hj : j < ax M x) : ∃ i' : Nat, i' < a ∧ M 7 i' = M 1 (3 * x + j) ∧ M 6 (pn M x j) = (i' : Int) := by
  obtain ⟨y, y1, y2, y3, y4⟩ := hK.2.2 a ha
  have : y = x := by omega
  subst this
  obtain ⟨i', h1, h2⟩ := y4 j hj
  obtain ⟨z, z1, z2, z3, -⟩ := hK.2.2 i' (by omega)
  refine ⟨i', h1, h2, ?_⟩
  rw [show pn M y j = z by unfold pn; omega]
  exact z3
/-- an entry that is normalized -/
def NS (M : g_M) (n r a : Nat) : Prop := ∃ x y : Nat, x < n ∧ y < n ∧ M 7 a = (x : Int) ∧ NO M y (sg M x) (vA M x) (vB M x) (-1) ∧ ((∃ i, i < r ∧ M 59 i = (y : Int) ∧ M 8 a = M 60 i ∧ M 9 a = sT M x (ax M x) + 1) ∨ (∀ i, i < r → M 59 i ≠ (y : Int)) ∧ M 8 a = (y : Int) ∧ M 9 a = sT M x (ax M x))
theorem vals_cong {M M' : g_M} {n c a x : Nat} (hK : WK M n c) (ha : a < c) (hx : x < n) (ex : M 7 a = (x : Int)) (hE : EX n M M') (h6 : M' 6 = M 6) (h8 : ∀ i, i < a → M' 8 i = M 8 i) (h9 : ∀ i, i < a → M' 9 i = M 9 i) : sg M' x = sg M x ∧ ax M' x = ax M x ∧ vA M' x = vA M x ∧ vB M' x = vB M x ∧ sT M' x (ax M x) = sT M x (ax M x) := by
  obtain ⟨e0, e1, e2, -⟩ := hE x hx
  have es : sg M' x = sg M x := by unfold sg; rw [e0]
  have ea : ax M' x = ax M x := by unfold ax; rw [es]
  have hr : ax M x ≤ 2 := arN_le _
  have ep : ∀ j, j < ax M x → pn M' x j = pn M x j := fun j hj => by
    unfold pn
    rcases Nat.lt_or_ge j 1 with h | h
    · rw [show j = 0 by omega]
      exact congrArg Int.toNat e1
    · rw [show j = 1 by omega]
      exact congrArg Int.toNat e2
  have ev : ∀ j, j < ax M x → vv M' (pn M' x j) = vv M (pn M x j) ∧ tl M' (pn M' x j) = tl M (pn M x j) := fun j hj => by
    obtain ⟨i', i1, i2, i3⟩ := hK.idx ha ex hj
    unfold vv tl
    rw [ep j hj, h6, i3, Int.toNat_natCast, h8 i' i1, h9 i' i1]
    exact ⟨rfl, rfl⟩
  have hT : ∀ r, r ≤ ax M x → sT M' x r = sT M x r := by
    intro r
    induction r with
    | zero => intro _; rfl
    | succ r ih =>
      intro hr
      show sT M' x r + tl M' (pn M' x r) = sT M x r + tl M (pn M x r)
      rw [ih (by omega), (ev r (by omega)).2]
  refine ⟨es, ea, ?_, ?_, hT _ (Nat.le_refl _)⟩
  · unfold vA
    rw [ea]
    by_cases h : 0 < ax M x
    · rw [if_pos h, if_pos h, (ev 0 h).1]
    · rw [if_neg h, if_neg h]
  · unfold vB
    rw [ea]
    by_cases h : 1 < ax M x
    · rw [if_pos h, if_pos h, (ev 1 h).1]
    · rw [if_neg h, if_neg h]
theorem NS.cong {M M' : g_M} {n n' c r a : Nat} (h : NS M n r a) (hK : WK M n c) (ha : a < c) (hn : n ≤ n') (hE : EX n M M') (h6 : M' 6 = M 6) (h7 : M' 7 = M 7) (h59 : M' 59 = M 59) (h60 : M' 60 = M 60) (h8 : ∀ i, i ≤ a → M' 8 i = M 8 i) (h9 : ∀ i, i ≤ a → M' 9 i = M 9 i) : NS M' n' r a := by
  obtain ⟨x, y, x1, y1, ex, hN, hv⟩ := h
  obtain ⟨v1, v2, v3, v4, v5⟩ := vals_cong hK ha x1 ex hE h6 (fun i hi => h8 i (by omega)) (fun i hi => h9 i (by omega))
  obtain ⟨b1, b2, b3, b4, -⟩ := hE y y1
  refine ⟨x, y, by omega, by omega, by rw [h7, ex], ?_, ?_⟩
  · rw [v1, v3, v4]
    exact ⟨b1.trans hN.1, b2.trans hN.2.1, b3.trans hN.2.2.1, b4.trans hN.2.2.2⟩
  · rw [v2, v5, h59, h60, h8 a (Nat.le_refl _), h9 a (Nat.le_refl _)]
    exact hv
end S6
