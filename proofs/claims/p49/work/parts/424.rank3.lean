section R4
theorem ucn_all {q : Nat} : ∀ r, ucn (fun _ => true) q r = r
  | 0 => rfl
  | r + 1 => by
    show ucn (fun _ => true) q r + (if true = true then 1 else 0) = r + 1
    rw [ucn_all r, if_pos rfl]
def E0 (M0 : g_M) (k q : Nat) : Prop := q < k ∧ arN (gs M0 q) = 0
def R0 (M0 M : g_M) (C G k n : Nat) : Prop :=
  (RG M ∧ SY M ∧ GS M C G ∧ LK M C G (3 * G) ∧ (M 44 19 = 0 ∨ M 44 19 = 1) ∧ M 44 17 = (n : Int) ∧ M 44 18 = 0) ∧
  (∀ q, q < k → M 13 q = ((arN (gs M0 q) : Nat) : Int)) ∧
  (HO (KY M) (E0 M0 k) M n ∧ CM M (E0 M0 k) C G) ∧ (∀ q, E0 M0 k q ↔ inH M n q) ∧ (∀ q, E0 M0 k q → WQ M q) ∧ (∀ c, c < C → M 20 c = -1) ∧ SM [13, 16, 17, 18, 19, 44] M0 M
theorem r_rank_21 {M0 : g_M} {Q : g_M → Prop} {C G : Nat} (hG1 : G ≤ 900) (hC : C ≤ 900)
    (kk : ∀ (M' : g_M) (n : Nat), RI M' C G n 0 (fun _ => true) → LU M' G (fun _ => true) 0 (-1) → SM [13, 16, 17, 18, 19, 44] M0 M' → (∀ j, j ≠ 17 → M' 44 j = M0 44 j) → ∃ n9, F_X2_rank_63 Q n9 0 M') :
    ∀ (f k n : Nat) (M : g_M), k ≤ G → G - k < f → R0 M0 M C G k n → (∀ j, j ≠ 17 → M 44 j = M0 44 j) → F_X2_rank_21 Q f k M := by
  intro f
  induction f with
  | zero => intros; omega
  | succ f ih =>
    intro k n M h1 h2 h h44
    obtain ⟨⟨a1, a2, a3, a4, a5, a6, a7⟩, b, ⟨c1, c2⟩, e1, w, h20, hS⟩ := h
    have egs : ∀ q, gs M q = gs M0 q := fun q => by unfold gs; rw [hS 11 (by decide)]
    unfold F_X2_rank_21
    rw [a3.2.1, bq (x := (k : Int)) (by omega) (by omega), bq (x := (G : Int)) (by omega) (by omega)]
    refine ⟨fun hk => ?_, fun hk => ?_⟩
    · have hk : k < G := by omega
      refine r_gArity a2 a3 (by omega) k hk ⟨okk k rfl (by show k < 65536; omega), ?_⟩
      have hr := arN_le (gs M k)
      rw [rsk k rfl (by omega)]
      generalize hM1 : up M 13 k ((arN (gs M k) : Nat) : Int) = M1
      have hS1 : SM [13] M M1 := by
        rw [← hM1]
        exact (SM.rf _ _).u (by decide)
      have hR1 : RG M1 := by
        rw [← hM1]
        exact a1.u (by omega) (by omega)
      have v13 : ∀ p, M1 13 p = if p = k then ((arN (gs M k) : Nat) : Int) else M 13 p := fun p => by rw [← hM1, upi]; simp
      have m : ∀ a, a ≠ 13 → M1 a = M a := fun a ha => hS1 a (by simp [ha])
      have egs1 : ∀ q, gs M1 q = gs M q := fun q => by unfold gs; rw [m 11 (by decide)]
      have eKf : KY M1 = KY M := funext (fun q => KY.cong (m 11 (by decide)) (m 12 (by decide)) (m 16 (by decide)) (m 21 (by decide)) (m 52 (by decide)) (m 54 (by decide)) q)
      have hSY' := a2.cong (M' := M1) (by rw [m 41 (by decide)]) (by rw [m 41 (by decide)]) (m 50 (by decide)) (m 51 (by decide)) (m 52 (by decide)) (m 53 (by decide)) (m 54 (by decide))
      have hG' := a3.cong (M' := M1) (m 10 (by decide)) (m 11 (by decide)) (m 12 (by decide)) (by rw [m 44 (by decide)]) (by rw [m 44 (by decide)])
      have hCM' := c2.cg hSY' hG' (m 11 (by decide)) (m 12 (by decide)) (m 16 (by decide)) (m 21 (by decide))
      have b1 : ∀ q, q < k + 1 → M1 13 q = ((arN (gs M0 q) : Nat) : Int) := fun q hq => by
        rw [v13]
        by_cases hqk : q = k
        · rw [if_pos hqk, hqk, egs]
        · rw [if_neg hqk]
          exact b q (by omega)
      have wc : ∀ q, WQ M q → WQ M1 q := fun q hq => hq.cong (m 11 (by decide)) (m 12 (by decide)) (m 51 (by decide)) (by rw [m 44 (by decide)]) ⟨by rw [m 16 (by decide)], by rw [m 17 (by decide)], by rw [m 18 (by decide)]⟩ (fun j _ => ⟨by rw [m 20 (by decide)], by rw [m 16 (by decide)], by rw [m 17 (by decide)], by rw [m 18 (by decide)]⟩)
      have hn : n ≤ G := pigeon G n (hv M) (fun i hi => by have := (c1.1 i hi).2.1; omega) (fun i j hi hj e => c1.2.1 i j hi hj (by
        have h1 := (c1.1 i hi).1
        have h2 := (c1.1 j hj).1
        unfold hv at e
        omega))
      refine r_gArity hSY' hG' (by omega) k hk ?_
      rw [egs1, bq (x := (arN (gs M k) : Int)) (by omega) (by omega)]
      unfold F_X2_rank_55
      rw [show (k : Int) + 1 = ((k + 1 : Nat) : Int) by omega]
      refine ⟨fun h0 => ?_, fun h0 => ?_⟩
      · have h0' : arN (gs M k) = 0 := by omega
        have hE : ∀ q, E0 M0 (k + 1) q ↔ E0 M0 k q ∨ q = k := fun q => by
          unfold E0
          constructor
          · rintro ⟨q1, q2⟩
            by_cases hqk : q = k
            · exact Or.inr hqk
            · exact Or.inl ⟨by omega, q2⟩
          · rintro (⟨q1, q2⟩ | q1)
            · exact ⟨by omega, q2⟩
            · rw [q1, ← egs]
              exact ⟨by omega, h0'⟩
        have hnk : ¬ E0 M0 k k := fun h => absurd h.1 (by omega)
        have no : ∀ q, E0 M0 (k + 1) q → ∀ j, ¬ j < arN (gs M1 q) := fun q hq j hj => by
          rw [egs1, egs, hq.2] at hj
          omega
        have hEk : E0 M0 (k + 1) k := (hE k).2 (Or.inr rfl)
        refine r_enter (En := E0 M0 k) (En' := E0 M0 (k + 1)) (C := C) (G := G) (n := n) hR1 hSY' hCM' (by omega) (by omega) (by omega) (by rw [m 44 (by decide)]; exact a6) (by rw [m 44 (by decide)]; exact a5) (by rw [eKf]; exact c1.cong (m 19 (by decide)) (fun q hq => ⟨hq, rfl⟩)) k hk hnk hE (fun j hj => absurd hj (no k hEk j)) (fun j hj => absurd hj (no k hEk j)) (fun a b' ha hb i j hi hj e => absurd hi (no a ha i)) (fun M2 g1 g2 g3 g4 g5 g6 g7 g8 g9 g10 => ?_)
        have n2 : ∀ a, a ∉ [13, 16, 17, 18, 19, 44] → M2 a = M a := fun a ha => by
          simp only [List.mem_cons, List.not_mem_nil, or_false, not_or] at ha
          rw [g2 a (by simp [ha]), m a ha.1]
        have k44 : ∀ j, j ≠ 17 → M2 44 j = M 44 j := fun j hj => by rw [g4 j hj, m 44 (by decide)]
        have o16 : ∀ q, q ≠ k → M2 16 q = M 16 q ∧ M2 17 q = M 17 q ∧ M2 18 q = M 18 q := fun q hq => by
          rw [g5, g6, g7, if_neg hq, if_neg hq, if_neg hq, m 16 (by decide), m 17 (by decide), m 18 (by decide)]
          exact ⟨rfl, rfl, rfl⟩
        refine ih (k + 1) (n + 1) M2 (by omega) (by omega) ⟨⟨g1, g8.1, g8.2.1, a4.cong (n2 11 (by decide)) (n2 12 (by decide)) (n2 14 (by decide)) (n2 15 (by decide)), by rw [k44 19 (by decide)]; exact a5, g3, by rw [k44 18 (by decide)]; exact a7⟩, fun q hq => by rw [g2 13 (by decide)]; exact b1 q hq, ⟨g9, g8⟩, fun q => ?_, fun q hq => ?_, fun c hc => by rw [n2 20 (by decide)]; exact h20 c hc, hS.tr ((hS1.mono (by decide)).tr (g2.mono (by decide)))⟩ (fun j hj => by rw [k44 j hj]; exact h44 j hj)
        · rw [hE, e1, g10]
          unfold inH
          rw [m 19 (by decide)]
        · have noM : ∀ j, ¬ j < arN (gs M q) := fun j hj => by
            rw [egs, hq.2] at hj
            omega
          by_cases hqk : q = k
          · have e3 := w_cong (M := M1) (M' := M2) (k := k) (g2 11 (by decide)) (g2 12 (by decide)) (g2 51 (by decide)) (g4 19 (by decide)) (fun j hj => absurd hj (no k hEk j))
            have hgs5 : gs M1 k < 5 := by
              rw [egs1]
              have := (a3.2.2 k hk).2.1
              unfold gs
              omega
            have win := w_in (G := G) hSY' hgs5 (fun j hj => absurd hj (no k hEk j))
            unfold WQ
            rw [hqk, e3.1, e3.2.1, e3.2.2, g5, g6, g7, if_pos rfl, if_pos rfl, if_pos rfl]
            exact ⟨⟨rfl, rfl, rfl⟩, win⟩
          · have hqM : E0 M0 k q := by
              rcases (hE q).1 hq with h1 | h1
              · exact h1
              · exact absurd h1 hqk
            exact (w q hqM).cong (n2 11 (by decide)) (n2 12 (by decide)) (n2 51 (by decide)) (k44 19 (by decide)) (o16 q hqk) (fun j hj => absurd hj (noM j))
      · have hE : E0 M0 (k + 1) = E0 M0 k := funext (fun q => propext (by
          unfold E0
          constructor
          · rintro ⟨q1, q2⟩
            refine ⟨?_, q2⟩
            by_cases hqk : q = k
            · rw [hqk, ← egs] at q2
              omega
            · omega
          · rintro ⟨q1, q2⟩
            exact ⟨by omega, q2⟩))
        refine ih (k + 1) n M1 (by omega) (by omega) ⟨⟨hR1, hSY', hG', a4.cong (m 11 (by decide)) (m 12 (by decide)) (m 14 (by decide)) (m 15 (by decide)), by rw [m 44 (by decide)]; exact a5, by rw [m 44 (by decide)]; exact a6, by rw [m 44 (by decide)]; exact a7⟩, b1, ⟨by rw [hE, eKf]; exact c1.cong (m 19 (by decide)) (fun q hq => ⟨hq, rfl⟩), by rw [hE]; exact hCM'⟩, fun q => ?_, fun q hq => ?_, fun c hc => by rw [m 20 (by decide)]; exact h20 c hc, hS.tr (hS1.mono (by decide))⟩ (fun j hj => by rw [m 44 (by decide)]; exact h44 j hj)
        · rw [hE, e1]
          unfold inH
          rw [m 19 (by decide)]
        · rw [hE] at hq
          exact wc q (w q hq)
    · have hkG : k = G := by omega
      subst hkG
      have hEN : EN M k = E0 M0 k := funext (fun q => propext (by
        unfold EN E0
        constructor
        · rintro ⟨q1, q2⟩
          rw [b q q1] at q2
          exact ⟨q1, by omega⟩
        · rintro ⟨q1, q2⟩
          rw [b q q1, q2]
          exact ⟨q1, rfl⟩))
      refine kk M n ⟨⟨a1, a2, a3, a4, a5, a6, a7⟩, fun q hq => by rw [ucn_all, egs]; exact b q hq, ⟨by rw [hEN]; exact c1, by rw [hEN]; exact c2⟩, ⟨fun i hi => absurd hi (by omega), fun i j hi => absurd hi (by omega)⟩, ⟨fun q => ?_, fun q _ ho => ?_⟩, fun q hq => w q (by rw [← hEN]; exact hq), fun c hc => Or.inl ⟨h20 c hc, fun i hi => absurd hi (by omega)⟩, fun i hi => absurd hi (by omega)⟩ (fun s hs => ?_) hS h44
      · rw [hEN, e1]
        exact ⟨fun h => Or.inl h, fun h => by
          rcases h with h | ⟨i, hi, -⟩
          · exact h
          · omega⟩
      · obtain ⟨i, hi, -⟩ := ho
        omega
      · have hcls := vs_cls a3 hs
        exact ⟨fun _ => Or.inl (h20 _ (by omega)), fun _ => rfl⟩
/-- the ranking -/
theorem r_ranking {M : g_M} {Q : g_M → Prop} {C G : Nat} {md : Int} (hG1 : G ≤ 900) (hC : C ≤ 900) (hR : RG M) (hSY : SY M) (hG : GS M C G) (hmd : md = 0 ∨ md = 1)
    (kk : ∀ (M' : g_M) (t : Nat) (U : Nat → Bool), RI M' C G 0 t U → LU M' G U 0 (-1) → SM [13, 14, 15, 16, 17, 18, 19, 20, 21, 22, 44] M M' → (∀ j, j ≠ 17 → j ≠ 18 → j ≠ 19 → M' 44 j = M 44 j) → M' 44 19 = md → Q M') : F_X2_rank Q md M := by
  unfold F_X2_rank
  have hmd' : -2147483648 ≤ md ∧ md ≤ 2147483647 := by
    rcases hmd with h | h <;> rw [h] <;> decide
  generalize hM1 : up (up (up M 44 19 md) 44 17 0) 44 18 0 = M1
  have v44 : ∀ j, M1 44 j = if j = 18 then 0 else if j = 17 then 0 else if j = 19 then md else M 44 j := fun j => by rw [← hM1, upi, upi, upi]; simp
  have hS1 : SM [44] M M1 := by
    rw [← hM1]
    exact (((SM.rf _ _).u (by decide)).u (by decide)).u (by decide)
  have hR1 : RG M1 := by
    rw [← hM1]
    exact ((hR.u hmd'.1 hmd'.2).u (by omega) (by omega)).u (by omega) (by omega)
  have hSY1 := hSY.cong (M' := M1) (by rw [hS1 41 (by decide)]) (by rw [hS1 41 (by decide)]) (hS1 50 (by decide)) (hS1 51 (by decide)) (hS1 52 (by decide)) (hS1 53 (by decide)) (hS1 54 (by decide))
  have hG' := hG.cong (M' := M1) (hS1 10 (by decide)) (hS1 11 (by decide)) (hS1 12 (by decide)) (by rw [v44]; simp) (by rw [v44]; simp)
  refine r_linkUsers hR1 hSY1 hG' (by omega) (by omega) (fun M2 g1 g2 g3 g4 => ⟨G + 1, ?_⟩)
  have e44 : M2 44 = M1 44 := g2 44 (by decide)
  have hSY2 := hSY1.cong (M' := M2) (by rw [g2 41 (by decide)]) (by rw [g2 41 (by decide)]) (g2 50 (by decide)) (g2 51 (by decide)) (g2 52 (by decide)) (g2 53 (by decide)) (g2 54 (by decide))
  have hG2 := hG'.cong (M' := M2) (g2 10 (by decide)) (g2 11 (by decide)) (g2 12 (by decide)) (by rw [e44]) (by rw [e44])
  have f19 : M2 44 19 = md := by rw [e44, v44]; simp
  refine r_rank_21 (M0 := M2) hG1 hC (fun M3 n p1 p2 p3 p4 => ⟨G + 1, ?_⟩) (G + 1) 0 0 M2 (by omega) (by omega) ⟨⟨g1, hSY2, hG2, g3, by rw [f19]; exact hmd, by rw [e44, v44]; simp, by rw [e44, v44]; simp⟩, fun q h => absurd h (by omega), ⟨⟨fun i h => absurd h (by omega), fun i j h => absurd h (by omega), fun i _ h => absurd h (by omega)⟩, ⟨hSY2, hG2, fun k h => absurd h.1 (by omega), fun a b h => absurd h.1 (by omega)⟩⟩, fun q => ⟨fun h => absurd h.1 (by omega), fun ⟨i, h, _⟩ => absurd h (by omega)⟩, fun q h => absurd h.1 (by omega), g4, SM.rf _ _⟩ (fun _ _ => rfl)
  refine r_rank_63 (M0 := M3) hG1 hC (fun M4 t U s1 s2 s3 s4 => kk M4 t U s1 s2 ?_ (fun j h17 h18 h19 => ?_) ?_) (G + 1) 0 n _ M3 (by omega) p1 p2 (SM.rf _ _) (fun _ _ _ => rfl)
  · exact (((hS1.mono (by decide)).tr (g2.mono (by decide))).tr (p3.mono (by decide))).tr (s3.mono (by decide))
  · rw [s4 j h17 h18, p4 j h17, e44, v44]
    simp [h17, h18, h19]
  · rw [s4 19 (by decide) (by decide), p4 19 (by decide), f19]
end R4
