section X3
theorem r_isGround {M : g_M} {Q : Int → g_M → Prop} {n : Nat} (hST : ST M n) (x : Nat) (hx : x < n) (k : Q 1 M) : F_X8_isGround Q x M := by
  obtain ⟨h1, h2, h3, -⟩ := hST.2.2.2.2.2.2 x hx
  have t5 := hST.1.2.2.2.2
  unfold F_X8_isGround
  rw [rgn x (by omega), show M 2 x = (((M 2 x).toNat : Nat) : Int) by omega, iand1 _ (by omega), show ((((M 2 x).toNat % 2 : Nat) : Int)) = 0 by omega]
  exact ⟨fun _ => k, fun c => absurd (show bm 0 = 0 by decide) c⟩
theorem r_equate {M : g_M} {Q : Int → g_M → Prop} {QE : g_M → Prop} {n m n0 r ec lv q : Nat} {S : Nat → Nat} (h : OB M n m n0 r ec lv S) (hn : n ≤ 1300) (hm : m < 16000) (hec : ec < 30) (i j x y : Nat) (hi : i < m) (hj : j < m) (ex : M 33 i = (x : Int)) (ey : M 33 j = (y : Int)) (hx : x < n0) (hy : y < n0) (h99 : M 99 0 = (q : Int)) (hq : q < 1000)
    (k1 : ∀ (n' r' : Nat) (M' : g_M), OB M' n' m n0 r' (ec + 1) lv S → n ≤ n' → n' ≤ n + n0 → EX n M M' → (∀ e, e < ec → M' 55 e = M 55 e ∧ M' 56 e = M 56 e) → M' 55 ec = (x : Int) → M' 56 ec = (y : Int) → M' 33 = M 33 → M' 99 = M 99 → M' 41 9 = M 41 9 → Q ec M')
    (k2 : ∀ M' : g_M, OB M' n m n0 r ec lv S → EX n M M' → (∀ e, e < ec → M' 55 e = M 55 e ∧ M' 56 e = M 56 e) → M' 33 = M 33 → M' 99 0 = ((q + 1 : Nat) : Int) → M' 41 9 = M 41 9 → QE M') : F_X11_equate Q QE i j M := by
  have hW := h.wf
  have hn0 := h.1.2.2.1
  have hQ0 := h.eqo
  unfold F_X11_equate
  refine r_isTerm hW.nu hm i hi ⟨fun c => absurd c (by decide), fun _ => ?_⟩
  refine r_isTerm hW.nu hm j hj ⟨fun c => absurd c (by decide), fun _ => ?_⟩
  rw [rgn i (by omega), ex]
  refine r_isGround hW.st x (by omega) ⟨fun c => absurd c (by decide), fun _ => ?_⟩
  rw [rgn j (by omega), ey]
  refine r_isGround hW.st y (by omega) ⟨fun c => absurd c (by decide), fun _ => ?_⟩
  rw [hQ0.1, bq (x := (ec : Int)) (by omega) (by omega), show bm 30 = 30 by decide]
  refine ⟨fun _ => ?_, fun c => absurd c (by omega)⟩
  refine r_tidy hW.st ?_
  rw [rgn i (by omega), ex, rgn j (by omega), ey]
  unfold F_X9_addEquation
  rw [hQ0.1, bq (x := (ec : Int)) (by omega) (by omega), show bm 30 = 30 by decide]
  refine ⟨fun c => absurd c (by omega), fun _ => ⟨fun _ => ⟨ink ec rfl (by omega) (by omega), ?_⟩, fun c => absurd c (by omega)⟩⟩
  rw [Int.toNat_natCast, up3 (by decide), hQ0.1, bq (x := (ec : Int)) (by omega) (by omega), Int.toNat_natCast]
  refine ⟨ink ec rfl (by omega) (by omega), ?_⟩
  rw [up3 (by decide), up3 (by decide), hQ0.1]
  generalize hM1 : up (up (up M 55 ec (x : Int)) 56 ec (y : Int)) 45 7 ((ec : Int) + 1) = M1
  have u : ∀ a b, M1 a b = if a = 45 ∧ b = 7 then (ec : Int) + 1 else if a = 56 ∧ b = ec then (y : Int) else if a = 55 ∧ b = ec then (x : Int) else M a b := fun a b => by rw [← hM1]; rfl
  have hS1 : SM [45, 55, 56] M M1 := by
    rw [← hM1]
    exact (((SM.rf _ _).u (by decide)).u (by decide)).u (by decide)
  have hR1 : RG M1 := by
    rw [← hM1]
    have := hW.st.1.2.2.2.2
    exact ((hW.rg.u (by omega) (by omega)).u (by omega) (by omega)).u (by omega) (by omega)
  have hW1 : WF M1 n m := hW.cong hR1 hS1 (by decide)
  have v55 : ∀ e, M1 55 e = if e = ec then (x : Int) else M 55 e := fun e => by rw [u]; simp
  have v56 : ∀ e, M1 56 e = if e = ec then (y : Int) else M 56 e := fun e => by rw [u]; simp
  have v45 : ∀ b, M1 45 b = if b = 7 then (ec : Int) + 1 else M 45 b := fun b => by rw [u]; simp
  have old : ∀ e, e < ec → M1 55 e = M 55 e ∧ M1 56 e = M 56 e := fun e he => by
    rw [v55, v56, if_neg (by omega), if_neg (by omega)]
    exact ⟨rfl, rfl⟩
  have hE1 : EX n M M1 := EX.of (hS1 0 (by decide)) (hS1 1 (by decide)) (hS1 2 (by decide))
  have hO1 : ORD M M1 := ORD.of hS1 (by decide)
  have hQ1 : EQO M1 n0 (ec + 1) := by
    refine ⟨by rw [v45, if_pos rfl]; omega, by omega, fun e he => ?_⟩
    unfold eL eR
    rw [v55, v56]
    by_cases h9 : e = ec
    · rw [if_pos h9, if_pos h9]
      omega
    · rw [if_neg h9, if_neg h9]
      exact hQ0.2.2 e (by omega)
  have hH1 : HT M1 n0 := fun z hz => by rw [hS1 2 (by decide)]; exact h.1.2.2.2 z hz
  obtain ⟨⟨c1, c2, c3⟩, d⟩ := h.2.2
  refine r_complete hW1 (by omega) (by have := h.1.2.1; omega) hn0 hH1 hQ1 (fun hOK n' r' M' g1 g2 g3 g4 g5 g6 g7 => ⟨fun c => absurd c (by decide), fun _ => ?_⟩) (fun _ _ M' g1 g2 => ⟨fun _ => ?_, fun c => absurd rfl c⟩)
  · have e45 : ∀ b, b ≠ 17 → b ≠ 7 → M' 45 b = M 45 b := fun b h1 h2 => by rw [g7 b h1, v45, if_neg h2]
    have hE' : EX n M M' := hE1.tr g4 (Nat.le_refl _)
    have hO' : ORD M1 M' := ORD.of g6 (by decide)
    have old' : ∀ e, e < ec → M' 55 e = M 55 e ∧ M' 56 e = M 56 e := fun e he => by
      rw [g6 55 (by decide), g6 56 (by decide)]
      exact old e he
    have hOKold : ∀ e, e ≤ ec → OKC M n0 e → OKC M' n0 e := fun e he hh => hh.ext (hE'.mono hn0) (hO1.tr hO') (fun p hp => old' p (by omega))
    rw [g7 7 (by decide), v45, if_pos rfl, show (ec : Int) + 1 - 1 = (ec : Int) by omega]
    refine k1 n' r' M' ⟨⟨g1, h.1.2.1, by omega, fun z hz => ?_⟩, ⟨g5, Or.inr (hOK.ext (g4.mono hn0) hO' (fun e _ => by rw [g6 55 (by decide), g6 56 (by decide)]; exact ⟨rfl, rfl⟩))⟩, ⟨by rw [e45 13 (by decide) (by decide)]; exact c1, c2, by rw [e45 10 (by decide) (by decide)]; exact c3⟩, fun l hl => ?_⟩ g2 g3 hE' old' ?_ ?_ (by rw [g6 33 (by decide), hS1 33 (by decide)]) (by rw [g6 99 (by decide), hS1 99 (by decide)]) (by rw [g6 41 (by decide), hS1 41 (by decide)])
    · rw [(hE' z (by omega)).2.2.2.2]
      exact h.1.2.2.2 z hz
    · obtain ⟨e1, e2, e3, e4, e5⟩ := d l hl
      rw [g6 57 (by decide), g6 58 (by decide), hS1 57 (by decide), hS1 58 (by decide)]
      exact ⟨e1, e2, by omega, e4, e5.imp id (hOKold _ e3)⟩
    · rw [g6 55 (by decide), v55, if_pos rfl]
    · rw [g6 56 (by decide), v56, if_pos rfl]
  · unfold F_X9_goBack
    have w7 : M' 45 7 = (ec : Int) + 1 := by rw [g2 45 (by decide), v45, if_pos rfl]
    have w10 : M' 45 10 = 0 := by rw [g2 45 (by decide), v45, if_neg (by decide), c3]
    rw [w7, w10, show (ec : Int) + 1 - 1 = (ec : Int) by omega]
    generalize hM3 : up (up M' 45 7 (ec : Int)) 45 10 0 = M3
    have hS3 : SM [45] M' M3 := by
      rw [← hM3]
      exact ((SM.rf _ _).u (by decide)).u (by decide)
    have e99 : M3 99 0 = (q : Int) := by rw [hS3 99 (by decide), g2 99 (by decide), hS1 99 (by decide), h99]
    refine ⟨by omega, ?_⟩
    generalize hM4 : up M3 99 0 (M3 99 0 + 1) = M4
    have hS4 : SM [99] M3 M4 := by
      rw [← hM4]
      exact up99
    have hR4 : RG M4 := by
      rw [← hM4, ← hM3]
      refine ((g1.rg.u (by omega) (by omega)).u (by omega) (by omega)).u ?_ ?_ <;> rw [hM3] <;> omega
    have hS14 : SM [6, 7, 10, 11, 12, 13, 14, 15, 16, 17, 18, 19, 20, 21, 22, 24, 25, 26, 27, 28, 29, 30, 31, 43, 44, 45, 47, 61, 99] M1 M4 := ((g2.mono (by decide)).tr (hS3.mono (by decide))).tr (hS4.mono (by decide))
    have hW4 : WF M4 n m := hW1.cong hR4 hS14 (by decide)
    have hSA : SM [6, 7, 10, 11, 12, 13, 14, 15, 16, 17, 18, 19, 20, 21, 22, 24, 25, 26, 27, 28, 29, 30, 31, 43, 44, 45, 47, 55, 56, 61, 99] M M4 := (hS1.mono (by decide)).tr (hS14.mono (by decide))
    have e45 : M4 45 = M 45 := by
      funext b
      rw [hS4 45 (by decide), ← hM3]
      by_cases h10 : b = 10
      · rw [h10, up1, c3]
      · rw [up2 h10]
        by_cases h7 : b = 7
        · rw [h7, up1, hQ0.1]
        · rw [up2 h7, g2 45 (by decide), v45, if_neg h7]
    have hE4 : EX n M M4 := EX.of (hSA 0 (by decide)) (hSA 1 (by decide)) (hSA 2 (by decide))
    have old4 : ∀ e, e < ec → M4 55 e = M 55 e ∧ M4 56 e = M 56 e := fun e he => by
      rw [hS14 55 (by decide), hS14 56 (by decide)]
      exact old e he
    refine k2 M4 (h.ext2 hW4 (Nat.le_refl _) hE4 (by rw [hSA 41 (by decide)]) (fun a ha => ?_) old4) hE4 old4 (hSA 33 (by decide)) ?_ (by rw [hSA 41 (by decide)])
    · by_cases h45 : a = 45
      · rw [h45, e45]
      · refine hSA a ?_
        revert h45
        revert a
        decide
    · rw [← hM4, up1, e99]
      omega
end X3
