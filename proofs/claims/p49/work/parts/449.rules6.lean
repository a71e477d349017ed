section T9
theorem GF.cg {M M' : g_M} {C G t : Nat} (h : GF M C G t) (hSY : SY M') (h10 : M' 10 = M 10) (h11 : M' 11 = M 11) (h12 : M' 12 = M 12) (h22 : M' 22 = M 22) (h44 : M' 44 = M 44) : GF M' C G t := by
  obtain ⟨-, a2, a3, a4, a5, a6, a7⟩ := h
  refine ⟨hSY, a2.cong h10 h11 h12 (by rw [h44]) (by rw [h44]), a3, a4, a5, by rw [h44]; exact a6, fun i hi => ?_⟩
  have e : sq M' i = sq M i := by unfold sq; rw [h22]
  rw [e, h22]
  exact a7 i hi
theorem YI.rules {M0 M M' : g_M} {n r i : Nat} {Y : Nat → Nat} (hY : YI M0 M n r i Y) (hS : SM [32, 45, 59, 60] M M') (hq : ∀ q, q < r → M' 59 q = M 59 q ∧ M' 60 q = M 60 q) : YI M0 M' n r i Y := by
  obtain ⟨y1, y2, y3⟩ := hY
  have e23 : M' 23 = M 23 := hS 23 (by decide)
  refine ⟨fun a ha hma => ?_, y2, fun q h => ?_⟩
  · obtain ⟨b1, b2, b3, b4⟩ := y1 a ha hma
    obtain ⟨m1, m2⟩ := mA_cong (M := M) (M' := M') (p := sq M0 a) (hS 11 (by decide)) (hS 12 (by decide)) (fun j _ => by rw [e23])
    refine ⟨b1, ?_, fun h => by rw [e23]; exact b3 h, fun h => ?_⟩
    · rw [m1, m2]
      unfold NO at b2 ⊢
      rw [hS 0 (by decide), hS 1 (by decide)]
      exact b2
    · obtain ⟨q, q1, q2, q3⟩ := b4 h
      exact ⟨q, q1, by rw [(hq q q1).1, q2], by rw [(hq q q1).2, q3, e23]⟩
  · obtain ⟨a, a1, a2, a3, a4⟩ := y3 q h
    exact ⟨a, a1, a2, by rw [(hq q h).1, a3], by rw [(hq q h).2, a4, e23]⟩
/-- the loop that makes terms and rules -/
def TI (M0 M : g_M) (n0 n m r i : Nat) (Y : Nat → Nat) : Prop := (WF M n m ∧ RUL M n r ∧ YI M0 M n r i Y) ∧ (EX n0 M0 M ∧ n0 ≤ n ∧ n ≤ n0 + i ∧ r ≤ i) ∧ SM [0, 1, 2, 4, 5, 23, 32, 42, 45, 59, 60] M0 M ∧ ∀ j, j ≠ 17 → M 45 j = M0 45 j
theorem r_takeRules_91 {M0 : g_M} {Q : g_M → Prop} {C G t n0 m : Nat} (h : RK M0 C G t) (hN2 : ∀ i, i < t → N2 M0 M0 i) (hN3 : ∀ i, i < t → N3 M0 M0 i) (hn : n0 + t < 2900)
    (k : ∀ (n r : Nat) (M : g_M) (Y : Nat → Nat), TI M0 M n0 n m r t Y → Q M) :
    ∀ (f i n r : Nat) (M : g_M) (Y : Nat → Nat), i ≤ t → t - i < f → TI M0 M n0 n m r i Y → F_X9_takeRules_91 Q f i M := by
  intro f
  induction f with
  | zero => intros; omega
  | succ f ih =>
    intro i n r M Y h1 h2 hT
    have hT' := hT
    obtain ⟨⟨hW, hRU, hY⟩, ⟨hE, e1, e2, e3⟩, hS, h45⟩ := hT'
    have hF0 := h.1
    have hG := hF0.2.2.1
    have hC := hF0.2.2.2.1
    have ht := hF0.2.2.2.2.1
    have ht29 := h.2.1
    have m10 : M 10 = M0 10 := hS 10 (by decide)
    have m11 : M 11 = M0 11 := hS 11 (by decide)
    have m12 : M 12 = M0 12 := hS 12 (by decide)
    have m13 : M 13 = M0 13 := hS 13 (by decide)
    have m20 : M 20 = M0 20 := hS 20 (by decide)
    have m22 : M 22 = M0 22 := hS 22 (by decide)
    have hF : GF M C G t := hF0.cg hW.sy m10 m11 m12 m22 (hS 44 (by decide))
    have egs : ∀ q, gs M q = gs M0 q := fun q => by unfold gs; rw [m11]
    have egp : ∀ q j, gp M q j = gp M0 q j := fun q j => by unfold gp; rw [m12]
    have eow : ∀ q, ow M q = ow M0 q := fun q => by unfold ow; rw [m10]
    unfold F_X9_takeRules_91
    refine r_seqCount hF.2.2.2.2.2.1 ?_
    rw [bq (x := (i : Int)) (by omega) (by omega), bq (x := (t : Int)) (by omega) (by omega)]
    refine ⟨fun c9 => ?_, fun c9 => ?_⟩
    · have hi : i < t := by omega
      obtain ⟨s1, s2⟩ := hF0.2.2.2.2.2.2 i hi
      obtain ⟨o1, o2⟩ := hF0.own s2
      refine r_ranked i (by omega) ?_
      rw [m22, s1]
      refine r_owner (sq M0 i) (by omega) ?_
      rw [m10, o1]
      have parts : mad M0 i → ∀ j, j < arN (gs M (sq M0 i)) → 0 ≤ M 23 (gp M (sq M0 i) j) ∧ M 23 (gp M (sq M0 i) j) < (n : Int) := fun hm j hj => by
        rw [egs] at hj
        obtain ⟨a', c1, c2, c3, c4⟩ := h.parts hN2 hN3 hi hm hj
        obtain ⟨b1, -, b3, -⟩ := hY.1 a' c1 c4
        rw [egp, ← c3, b3 c2]
        omega
      have made : mad M0 i → ∀ (y n1 : Nat) (M1 : g_M), WF M1 n1 m → n ≤ n1 → EX n M M1 → NO M1 y (gs M (sq M0 i)) (mA M (sq M0 i)) (mB M (sq M0 i)) (-1) → SM [0, 1, 2, 4, 5, 42] M M1 → YI M0 M1 n1 r i Y ∧ RUL M1 n1 r ∧ NO M1 y (gs M0 (sq M0 i)) (mA M1 (sq M0 i)) (mB M1 (sq M0 i)) (-1) ∧ ∀ a, a < i → mad M0 a → Y a ≠ y := fun hm y n1 M1 g1 g2 g3 g4 g5 => by
        have hY1 : YI M0 M1 n1 r i Y := hY.keep h (by omega) g2 g3 (g5 11 (by decide)) (g5 12 (by decide)) m11 m12 (g5 59 (by decide)) (g5 60 (by decide)) (fun a _ _ => by rw [g5 23 (by decide)])
        obtain ⟨x1, x2⟩ := mA_cong (M := M) (M' := M1) (p := sq M0 i) (g5 11 (by decide)) (g5 12 (by decide)) (fun j _ => by rw [g5 23 (by decide)])
        have hN : NO M1 y (gs M0 (sq M0 i)) (mA M1 (sq M0 i)) (mB M1 (sq M0 i)) (-1) := by
          rw [x1, x2, ← egs]
          exact g4
        exact ⟨hY1, hRU.cong g2 (by rw [g5 45 (by decide)]) (g5 59 (by decide)) (g5 60 (by decide)) (g5 32 (by decide)), hN, hY1.new h hN2 hN3 ((g5 11 (by decide)).trans m11) ((g5 12 (by decide)).trans m12) hi hm hN⟩
      refine r_isNeeded hW.rg hF (sq M0 i) s2 (fun hne => ⟨fun c => absurd c (by decide), fun _ => ?_⟩) (fun hne => ⟨fun _ => ?_, fun c => absurd rfl c⟩)
      · unfold nee at hne
        rw [eow, m20, m13] at hne
        have hcho : cho M0 i := hne.1
        have hm : mad M0 i := Or.inr hne.2
        refine r_makeTerm hW hF (by omega) s2 (parts hm) (fun y n1 M1 g1 g2 g3 g4 g5 g6 g7 => ?_)
        obtain ⟨hY1, hRU1, hN1, hnew⟩ := made hm y n1 M1 g1 g2 g5 g6 g7
        unfold F_X2_setLeastTerm F_X9_takeRules_190
        refine ⟨okk (ow M0 (sq M0 i)) rfl (by show ow M0 (sq M0 i) < 65536; omega), ?_⟩
        rw [rsk (ow M0 (sq M0 i)) rfl (by omega), show (i : Int) + 1 = ((i + 1 : Nat) : Int) by omega]
        generalize hM2 : up M1 23 (ow M0 (sq M0 i)) (y : Int) = M2
        have hS2 : SM [23] M1 M2 := by
          rw [← hM2]
          exact (SM.rf _ _).u (by decide)
        have v23 : ∀ d, M2 23 d = if d = ow M0 (sq M0 i) then (y : Int) else M1 23 d := fun d => by rw [← hM2, upi]; simp
        have hR2 : RG M2 := by
          rw [← hM2]
          have := g1.st.1.2.2.2.2
          exact g1.rg.u (by omega) (by omega)
        have hE2 : EX n1 M1 M2 := EX.of (hS2 0 (by decide)) (hS2 1 (by decide)) (hS2 2 (by decide))
        have other : ∀ a, a < i → cho M0 a → ow M0 (sq M0 a) ≠ ow M0 (sq M0 i) := fun a ha hca e => by
          have := h.2.2.2.2.2.1 a i (by omega) hi hca hcho e
          omega
        have hY2 : YI M0 M2 n1 r i Y := hY1.keep h (by omega) (Nat.le_refl _) hE2 (hS2 11 (by decide)) (hS2 12 (by decide)) ((g7 11 (by decide)).trans m11) ((g7 12 (by decide)).trans m12) (hS2 59 (by decide)) (hS2 60 (by decide)) (fun a ha hca => by rw [v23, if_neg (other a ha hca)])
        have hN2' : NO M2 y (gs M0 (sq M0 i)) (mA M2 (sq M0 i)) (mB M2 (sq M0 i)) (-1) := by
          obtain ⟨x1, x2⟩ := mA_cong (M := M1) (M' := M2) (p := sq M0 i) (hS2 11 (by decide)) (hS2 12 (by decide)) (fun j hj => by
            rw [show gs M1 (sq M0 i) = gs M0 (sq M0 i) by unfold gs; rw [g7 11 (by decide), m11]] at hj
            obtain ⟨a', c1, c2, c3, c4⟩ := h.parts hN2 hN3 hi hm hj
            rw [show gp M1 (sq M0 i) j = gp M0 (sq M0 i) j by unfold gp; rw [g7 12 (by decide), m12], v23, if_neg]
            rw [← c3]
            exact other a' c1 c2)
          rw [x1, x2]
          unfold NO at hN1 ⊢
          rw [hS2 0 (by decide), hS2 1 (by decide)]
          exact hN1
        refine ih (i + 1) n1 r M2 _ (by omega) (by omega) ⟨⟨g1.cong hR2 hS2 (by decide), hRU1.cong (Nat.le_refl _) (by rw [hS2 45 (by decide)]) (hS2 59 (by decide)) (hS2 60 (by decide)) (hS2 32 (by decide)), hY2.add (Nat.le_refl _) g4 hN2' hnew (fun _ => by rw [v23, if_pos rfl]) (fun hc => absurd hcho hc) (fun q q1 q2 => absurd q1 (by omega))⟩, ⟨(hE.tr g5 e1).tr hE2 (by omega), by omega, by omega, by omega⟩, (hS.tr (g7.mono (by decide))).tr (hS2.mono (by decide)), fun j hj => by rw [hS2 45 (by decide), g7 45 (by decide), h45 j hj]⟩
      · unfold nee at hne
        rw [eow, m20, m13] at hne
        have hRb : M 20 (ow M0 (sq M0 i)) = M0 20 (ow M0 (sq M0 i)) := by rw [m20]
        refine r_choice (ow M0 (sq M0 i)) (by omega) ?_
        rw [hW.rg.b, hRb, bq (x := ((sq M0 i : Nat) : Int)) (by omega) (by omega)]
        unfold F_X9_takeRules_190
        rw [show (i : Int) + 1 = ((i + 1 : Nat) : Int) by omega]
        refine ⟨fun hc => ?_, fun hc => ?_⟩
        · have hm : ¬ mad M0 i := fun hm => by
            rcases hm with hm | hm
            · exact hm hc
            · exact hne ⟨hc, hm⟩
          exact ih (i + 1) n r M Y (by omega) (by omega) ⟨⟨hW, hRU, hY.skip hm⟩, ⟨hE, e1, by omega, by omega⟩, hS, h45⟩
        · have hm : mad M0 i := Or.inl hc
          refine r_makeTerm hW hF (by omega) s2 (parts hm) (fun y n1 M1 g1 g2 g3 g4 g5 g6 g7 => ?_)
          obtain ⟨hY1, hRU1, hN1, hnew⟩ := made hm y n1 M1 g1 g2 g5 g6 g7
          unfold F_X2_leastTerm
          rw [rgn (ow M0 (sq M0 i)) (by omega)]
          obtain ⟨a', q1, q2, q3⟩ := h.2.2.2.2.1 i hi
          have ha' : a' < i := by
            by_cases e : a' = i
            · rw [e] at q2
              exact absurd q2 hc
            · omega
          have hma' : mad M0 a' := Or.inr (by rw [q3]; exact (hN2 i hi hc).1)
          obtain ⟨b1, -, b3, -⟩ := hY1.1 a' ha' hma'
          have b3' := b3 q2
          rw [q3] at b3'
          rw [b3']
          have hn1 := g1.st.1.2.2.2.2
          refine r_addRule g1.rg hRU1 (by omega) y (Y a') g4 b1 hn1 (fun q hq e => ?_) (fun M2 f1 f2 f3 f4 f5 f6 f7 => ?_)
          · obtain ⟨a, a1, a2, a3, -⟩ := hY1.2.2 q hq
            exact hnew a a1 (Or.inl a2) (by omega)
          · have e23 : M2 23 = M1 23 := f2 23 (by decide)
            have hY2 : YI M0 M2 n1 r i Y := hY1.rules f2 f4
            have hN2' : NO M2 y (gs M0 (sq M0 i)) (mA M2 (sq M0 i)) (mB M2 (sq M0 i)) (-1) := by
              obtain ⟨x1, x2⟩ := mA_cong (M := M1) (M' := M2) (p := sq M0 i) (f2 11 (by decide)) (f2 12 (by decide)) (fun j hj => by rw [e23])
              rw [x1, x2]
              unfold NO at hN1 ⊢
              rw [f2 0 (by decide), f2 1 (by decide)]
              exact hN1
            refine ih (i + 1) n1 (r + 1) M2 _ (by omega) (by omega) ⟨⟨g1.cong f1 f2 (by decide), f3, hY2.add (Nat.le_succ _) g4 hN2' hnew (fun h => absurd h hc) (fun _ => ⟨r, by omega, f5, by rw [f6, e23, b3']⟩) (fun q q1 q2 => ?_)⟩, ⟨(hE.tr g5 e1).tr (EX.of (f2 0 (by decide)) (f2 1 (by decide)) (f2 2 (by decide))) (show n0 ≤ n1 by omega), by omega, by omega, by omega⟩, (hS.tr (g7.mono (by decide))).tr (f2.mono (by decide)), fun j hj => by rw [f7 j hj, g7 45 (by decide), h45 j hj]⟩
            have : q = r := by omega
            subst this
            exact ⟨hc, f5, by rw [f6, e23, b3']⟩
    · have hit : i = t := by omega
      subst hit
      exact k n r M Y hT
end T9
