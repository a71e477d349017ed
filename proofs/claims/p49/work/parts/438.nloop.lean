section S8
theorem r_value {M : g_M} {Q : Int → g_M → Prop} (i : Nat) (hi : i ≤ 3000) (k : Q (M 8 i) M) : F_X10_value Q i M := by
  unfold F_X10_value
  rw [rgn i (by omega)]
  exact k
theorem NI.step {M0 M M1 : g_M} {n0 n n1 m c r a x y : Nat} {v w : Int} (h : NI M0 M n0 n m c r a) (hn3 : n0 + c < 3000) (ha : a < c) (ex : M 7 a = (x : Int)) (hx : x < n)
    (hW1 : WF M1 n1 m) (hn : n ≤ n1) (hn1 : n1 ≤ n + 1) (hy : y < n1) (hE : EX n M M1) (hN : NO M1 y (sg M x) (vA M x) (vB M x) (-1)) (hS : SM [0, 1, 2, 4, 5, 42] M M1) (hv0 : 0 ≤ v ∧ v < (n1 : Int)) (hw : w = 0 ∨ w = 1)
    (hr : (∃ i, i < r ∧ M 59 i = (y : Int) ∧ v = M 60 i ∧ w = 1) ∨ (∀ i, i < r → M 59 i ≠ (y : Int)) ∧ v = (y : Int) ∧ w = 0) : sT (up M1 8 a v) x (ax (up M1 8 a v) x) = sT M x (ax M x) ∧ NI M0 (up (up M1 8 a v) 9 a (sT M x (ax M x) + w)) n0 n1 m c r (a + 1) := by
  obtain ⟨⟨hW, hK, hRU⟩, h1, h2, h3, ⟨h4, h5, h6, h7⟩, h8⟩ := h
  have hnd : nd M a = x := by unfold nd; omega
  have hwx := (h8 a ha).2
  rw [hnd] at hwx
  obtain ⟨s0, s1⟩ := sT_le hW hK ha hx ex hwx h3
  have hS8 : SM [0, 1, 2, 4, 5, 8, 42] M (up M1 8 a v) := (hS.mono (by decide)).u (by decide)
  have hE8 : EX n M (up M1 8 a v) := hE.tr (EX.of (by rw [up_ne (by decide)]) (by rw [up_ne (by decide)]) (by rw [up_ne (by decide)])) (Nat.le_refl _)
  have e8 : ∀ i, i < a → up M1 8 a v 8 i = M 8 i := fun i hi => by rw [up2 (by omega), hS 8 (by decide)]
  obtain ⟨v1, v2, v3, v4, v5⟩ := vals_cong hK ha hx ex hE8 (hS8 6 (by decide)) e8 (fun i _ => by rw [hS8 9 (by decide)])
  refine ⟨by rw [v2, v5], ?_⟩
  generalize hM2 : up (up M1 8 a v) 9 a (sT M x (ax M x) + w) = M2
  have u8 : ∀ i, M2 8 i = if i = a then v else M 8 i := fun i => by rw [← hM2, upi, upi, hS 8 (by decide)]; simp
  have u9 : ∀ i, M2 9 i = if i = a then sT M x (ax M x) + w else M 9 i := fun i => by rw [← hM2, upi, upi, hS 9 (by decide)]; simp
  have hS2 : SM [0, 1, 2, 4, 5, 8, 9, 42] M M2 := by
    rw [← hM2]
    exact (hS8.mono (by decide)).u (by decide)
  have hS12 : SM [8, 9] M1 M2 := by
    rw [← hM2]
    exact ((SM.rf _ _).u (by decide)).u (by decide)
  have hE2 : EX n M M2 := hE.tr (EX.of (hS12 0 (by decide)) (hS12 1 (by decide)) (hS12 2 (by decide))) (Nat.le_refl _)
  have hR2 : RG M2 := by
    rw [← hM2]
    exact (hW1.rg.u (by omega) (by omega)).u (by omega) (by omega)
  have hW2 : WF M2 n1 m := hW1.cong hR2 hS12 (by decide)
  have m2 : ∀ i, i < c → nd M2 i = nd M i ∧ M2 2 (nd M i) = M 2 (nd M i) := fun i hi => by
    refine ⟨by unfold nd; rw [hS2 7 (by decide)], (hE2 _ ?_).2.2.2.2⟩
    have := (h8 i hi).1
    omega
  obtain ⟨z1, z2, z3, z4, z5⟩ := vals_cong hK ha hx ex hE2 (hS2 6 (by decide)) (fun i hi => by rw [u8, if_neg (by omega)]) (fun i hi => by rw [u9, if_neg (by omega)])
  refine ⟨⟨hW2, hK.cong hW.st hn hE2 (hS2 6 (by decide)) (hS2 7 (by decide)) (by rw [hS2 43 (by decide)]), hRU.cong hn (by rw [hS2 45 (by decide)]) (hS2 59 (by decide)) (hS2 60 (by decide)) (hS2 32 (by decide))⟩, fun i hi => ?_, fun i hi => ?_, fun i hi => ?_, ⟨h4.tr hE2 h5, by omega, by omega, h7.tr hS2⟩, fun i hi => ?_⟩
  · by_cases hia : i = a
    · subst hia
      refine ⟨x, y, by omega, hy, by rw [hS2 7 (by decide), ex], ?_, ?_⟩
      · rw [z1, z3, z4]
        unfold NO at hN ⊢
        rw [hS12 0 (by decide), hS12 1 (by decide)]
        exact hN
      · rw [z2, z5, u8, u9, if_pos rfl, if_pos rfl, hS2 59 (by decide), hS2 60 (by decide)]
        rcases hr with ⟨i', r1, r2, r3, r4⟩ | ⟨r1, r2, r3⟩
        · exact Or.inl ⟨i', r1, r2, r3, by rw [r4]⟩
        · exact Or.inr ⟨r1, r2, by rw [r3]; omega⟩
    · exact (h1 i (by omega)).cong hK (by omega) hn hE2 (hS2 6 (by decide)) (hS2 7 (by decide)) (hS2 59 (by decide)) (hS2 60 (by decide)) (fun q hq => by rw [u8, if_neg (by omega)]) (fun q hq => by rw [u9, if_neg (by omega)])
  · rw [u8]
    by_cases hia : i = a
    · rw [if_pos hia]
      exact hv0
    · rw [if_neg hia]
      have := h2 i (by omega)
      omega
  · rw [u9, (m2 i (by omega)).1, (m2 i (by omega)).2]
    by_cases hia : i = a
    · rw [if_pos hia, hia, hnd]
      clear hr
      omega
    · rw [if_neg hia]
      exact h3 i (by omega)
  · rw [(m2 i hi).1, (m2 i hi).2]
    exact h8 i hi
end S8
