section R1
theorem CM.cg {M M' : g_M} {En : Nat → Prop} {C G : Nat} (h : CM M En C G) (hSY : SY M') (hG : GS M' C G) (h11 : M' 11 = M 11) (h12 : M' 12 = M 12) (h16 : M' 16 = M 16) (h21 : M' 21 = M 21) : CM M' En C G := by
  obtain ⟨-, -, h3, h4⟩ := h
  refine ⟨hSY, hG, fun k hk => ⟨(h3 k hk).1, ?_⟩, ?_⟩
  · have := (h3 k hk).2
    unfold PO gs gp at this ⊢
    rw [h16, h11, h12, h21]
    exact this
  · unfold gs gp at h4 ⊢
    rw [h11, h12, h21]
    exact h4
theorem CH.cong {M M' : g_M} {t c : Nat} (h : CH M t c) (h10 : M' 10 = M 10) (h20 : M' 20 = M 20) (h21 : M' 21 = M 21) (h22 : M' 22 = M 22) : CH M' t c := by
  unfold CH sq at *
  rw [h10, h20, h21, h22]
  exact h
theorem rdy_EN {M : g_M} {C G n t i : Nat} {U : Nat → Bool} {c x : Int} (h : RI M C G n t U) (hU : LU M G U c x) (hx : ∀ s, vs M G s → M 12 s = c → (s : Int) ≤ x → ¬ M 21 (M 12 s).toNat < (i : Int)) {q : Nat} (hq : rdy M G q i) : EN M G q := by
  refine ⟨hq.1, ?_⟩
  rw [h.2.1 q hq.1, (ucn_zero (U := U) (q := q) _).2 (fun j hj => ?_)]
  · rfl
  · have hv := vs_mk hq.1 hj
    obtain ⟨r1, r2⟩ := hq.2 j hj
    cases hu : U (3 * q + j)
    · rfl
    · rcases (hU _ hv).1 hu with h9 | ⟨h9, h8⟩
      · exact absurd h9 r1
      · exact absurd r2 (hx _ hv h9 h8)
/-- only the waits change -/
theorem RI.dec {M M' : g_M} {C G n t : Nat} {U U' : Nat → Bool} (h : RI M C G n t U) (hR : RG M') (hS : SM [13] M M') (hw : ∀ q, q < G → M' 13 q = ((ucn U' q (arN (gs M q)) : Nat) : Int)) (hE : ∀ q, EN M' G q ↔ EN M G q) : RI M' C G n t U' := by
  have hEN : EN M' G = EN M G := funext (fun q => propext (hE q))
  obtain ⟨⟨-, a2, a3, a4, a5, a6, a7⟩, b, ⟨c1, c2⟩, ⟨d1, d2⟩, ⟨e1, e2⟩, f, g, k⟩ := h
  have m : ∀ a, a ≠ 13 → M' a = M a := fun a ha => hS a (by simp [ha])
  have egs : ∀ q, gs M' q = gs M q := fun q => by unfold gs; rw [m 11 (by decide)]
  have egp : ∀ q j, gp M' q j = gp M q j := fun q j => by unfold gp; rw [m 12 (by decide)]
  have eKf : KY M' = KY M := funext (fun q => KY.cong (m 11 (by decide)) (m 12 (by decide)) (m 16 (by decide)) (m 21 (by decide)) (m 52 (by decide)) (m 54 (by decide)) q)
  have hSY' := a2.cong (M' := M') (by rw [m 41 (by decide)]) (by rw [m 41 (by decide)]) (m 50 (by decide)) (m 51 (by decide)) (m 52 (by decide)) (m 53 (by decide)) (m 54 (by decide))
  have hG' := a3.cong (M' := M') (m 10 (by decide)) (m 11 (by decide)) (m 12 (by decide)) (by rw [m 44 (by decide)]) (by rw [m 44 (by decide)])
  have esq : ∀ i, sq M' i = sq M i := fun i => by unfold sq; rw [m 22 (by decide)]
  unfold RI
  rw [hEN, eKf, m 44 (by decide), m 22 (by decide)]
  refine ⟨⟨hR, hSY', hG', a4.cong (m 11 (by decide)) (m 12 (by decide)) (m 14 (by decide)) (m 15 (by decide)), a5, a6, a7⟩, fun q hq => by rw [egs]; exact hw q hq, ⟨c1.cong (m 19 (by decide)) (fun q hq => ⟨hq, rfl⟩), c2.cg hSY' hG' (m 11 (by decide)) (m 12 (by decide)) (m 16 (by decide)) (m 21 (by decide))⟩, ⟨fun i hi => by rw [esq]; exact d1 i hi, d2⟩, ?_, fun q hq => ?_, fun c hc => (g c hc).cong (m 10 (by decide)) (m 20 (by decide)) (m 21 (by decide)) (m 22 (by decide)), fun i hi => ⟨fun j hj => ?_, fun q hq hno => ?_⟩⟩
  · unfold inH outM at *
    rw [m 19 (by decide), m 22 (by decide)]
    exact ⟨e1, e2⟩
  · refine (f q hq).cong (m 11 (by decide)) (m 12 (by decide)) (m 51 (by decide)) (by rw [m 44 (by decide)]) ⟨by rw [m 16 (by decide)], by rw [m 17 (by decide)], by rw [m 18 (by decide)]⟩ (fun j _ => ⟨by rw [m 20 (by decide)], by rw [m 16 (by decide)], by rw [m 17 (by decide)], by rw [m 18 (by decide)]⟩)
  · rw [esq, egs] at hj
    rw [esq, egp, m 21 (by decide)]
    exact (k i hi).1 j hj
  · rw [esq]
    refine (k i hi).2 q ?_ hno
    unfold rdy at hq ⊢
    rw [egs, m 20 (by decide), m 21 (by decide)] at hq
    refine ⟨hq.1, fun j hj => ?_⟩
    have := hq.2 j hj
    rw [egp] at this
    exact this
/-- a production whose last wait is over comes into the heap -/
theorem r_enterRI {M M1 : g_M} {Q : g_M → Prop} {C G n t k : Nat} {U U' : Nat → Bool} {c x x' : Int} (hG1 : G ≤ 900) (hC : C ≤ 900) (ht : t ≤ 900) (h : RI M C G n t U) (hU : LU M G U c x)
    (hx : ∀ i, i < t → ∀ s, vs M G s → M 12 s = c → (s : Int) ≤ x → ¬ M 21 (M 12 s).toNat < (i : Int))
    (hk : k < G) (hnk : ¬ EN M G k) (hR1 : RG M1) (hS1 : SM [13] M M1) (hw : ∀ q, q < G → M1 13 q = ((ucn U' q (arN (gs M q)) : Nat) : Int)) (hE : ∀ q, EN M1 G q ↔ EN M G q ∨ q = k) (hU' : LU M1 G U' c x')
    (kk : ∀ M' : g_M, RI M' C G (n + 1) t U' → LU M' G U' c x' → SM [13, 16, 17, 18, 19, 44] M M' → (∀ j, j ≠ 17 → M' 44 j = M 44 j) → Q M') : F_X2_enter Q k M1 := by
  have h' := h
  obtain ⟨⟨a1, a2, a3, a4, a5, a6, a7⟩, b, ⟨c1, c2⟩, ⟨d1, d2⟩, ⟨e1, e2⟩, f, g, kmin⟩ := h'
  have m : ∀ a, a ≠ 13 → M1 a = M a := fun a ha => hS1 a (by simp [ha])
  have egs : ∀ q, gs M1 q = gs M q := fun q => by unfold gs; rw [m 11 (by decide)]
  have egp : ∀ q j, gp M1 q j = gp M q j := fun q j => by unfold gp; rw [m 12 (by decide)]
  have epk : ∀ q j, pk M1 q j = pk M q j := fun q j => by unfold pk; rw [egp, m 20 (by decide)]
  have eKf : KY M1 = KY M := funext (fun q => KY.cong (m 11 (by decide)) (m 12 (by decide)) (m 16 (by decide)) (m 21 (by decide)) (m 52 (by decide)) (m 54 (by decide)) q)
  have hSY' := a2.cong (M' := M1) (by rw [m 41 (by decide)]) (by rw [m 41 (by decide)]) (m 50 (by decide)) (m 51 (by decide)) (m 52 (by decide)) (m 53 (by decide)) (m 54 (by decide))
  have hG' := a3.cong (M' := M1) (m 10 (by decide)) (m 11 (by decide)) (m 12 (by decide)) (by rw [m 44 (by decide)]) (by rw [m 44 (by decide)])
  have hEk : EN M1 G k := (hE k).2 (Or.inr rfl)
  -- the parts of what is entered
  have pM : ∀ q, EN M1 G q → ∀ j, j < arN (gs M q) → M 20 (gp M q j) ≠ -1 := fun q hq j hj => by
    have e := hw q hq.1
    rw [hq.2] at e
    have h0 := (ucn_zero (U := U') (q := q) (arN (gs M q))).1 (by omega) j hj
    have hv := vs_mk hq.1 hj
    have h1 := hU' (3 * q + j) (by unfold vs at hv ⊢; rw [egs]; exact hv)
    rw [h0, m 12 (by decide), m 20 (by decide)] at h1
    intro h9
    exact absurd (h1.2 (Or.inl h9)) (by decide)
  have gC : ∀ q, q < G → ∀ j, j < arN (gs M q) → M 12 (3 * q + j) = ((gp M q j : Nat) : Int) ∧ gp M q j < C := fun q hq j hj => by
    have := (a3.2.2 q hq).2.2 j hj
    unfold gp
    omega
  have pOut : ∀ q, EN M1 G q → ∀ j, j < arN (gs M q) → ∃ i, i < t ∧ M 20 (gp M q j) = ((sq M i : Nat) : Int) ∧ pk M q j = sq M i ∧ M 10 (sq M i) = ((gp M q j : Nat) : Int) ∧ M 21 (gp M q j) = (i : Int) := fun q hq j hj => by
    obtain ⟨i, i1, i2, i3, i4⟩ := (g _ (gC q hq.1 j hj).2).out (pM q hq j hj)
    have := (d1 i i1).1
    refine ⟨i, i1, by omega, ?_, i3, i4⟩
    unfold pk
    omega
  have hn : n ≤ G := pigeon G n (hv M) (fun i hi => (c1.1 i hi).2.1) (fun i j hi hj e => c1.2.1 i j hi hj (by
    have h1 := (c1.1 i hi).1
    have h2 := (c1.1 j hj).1
    unfold hv at e
    omega))
  have hPQ : PQ M1 G k := fun j hj => by
    rw [egs] at hj
    obtain ⟨i, i1, i2, i3, i4, i5⟩ := pOut k hEk j hj
    have hEi := (d1 i i1).2
    obtain ⟨-, w1, w2, w3⟩ := f _ hEi
    rw [epk, egp, i3, m 20 (by decide), m 16 (by decide), m 17 (by decide), m 18 (by decide)]
    exact ⟨hEi.1, i2, w1, w2, w3⟩
  have hS44 : M1 44 = M 44 := m 44 (by decide)
  refine r_enter (En := EN M G) (En' := EN M1 G) (C := C) (G := G) (n := n) hR1 hSY' (c2.cg hSY' hG' (m 11 (by decide)) (m 12 (by decide)) (m 16 (by decide)) (m 21 (by decide))) (by omega) (by omega) (by omega) (by rw [hS44]; exact a6) (by rw [hS44]; exact a5) (by rw [eKf]; exact c1.cong (m 19 (by decide)) (fun q hq => ⟨hq, rfl⟩)) k hk hnk hE hPQ (fun j hj => ?_) (fun a b ha hb i j hi hj e => ?_) (fun M2 g1 g2 g3 g4 g5 g6 g7 g8 g9 g10 => ?_)
  · rw [egs] at hj
    obtain ⟨i, i1, i2, i3, i4, i5⟩ := pOut k hEk j hj
    rw [egp, m 21 (by decide), i5]
    omega
  · rw [egs] at hi hj
    rw [egp, egp, m 21 (by decide)] at e
    obtain ⟨u, u1, u2, u3, u4, u5⟩ := pOut a ha i hi
    obtain ⟨v, v1, v2, v3, v4, v5⟩ := pOut b hb j hj
    have : u = v := by omega
    subst this
    rw [m 12 (by decide), (gC a ha.1 i hi).1, (gC b hb.1 j hj).1]
    omega
  · have n2 : ∀ a, a ∉ [13, 16, 17, 18, 19, 44] → M2 a = M a := fun a ha => by
      simp only [List.mem_cons, List.not_mem_nil, or_false, not_or] at ha
      rw [g2 a (by simp [ha]), m a ha.1]
    have m13 : M2 13 = M1 13 := g2 13 (by decide)
    have hEN2 : ∀ q, EN M2 G q ↔ EN M G q ∨ q = k := fun q => by
      unfold EN
      rw [m13]
      exact hE q
    have hEN2' : EN M2 G = EN M1 G := funext (fun q => by unfold EN; rw [m13])
    have egs2 : ∀ q, gs M2 q = gs M q := fun q => by unfold gs; rw [n2 11 (by decide)]
    have egp2 : ∀ q j, gp M2 q j = gp M q j := fun q j => by unfold gp; rw [n2 12 (by decide)]
    have esq2 : ∀ i, sq M2 i = sq M i := fun i => by unfold sq; rw [n2 22 (by decide)]
    have k44 : ∀ j, j ≠ 17 → M2 44 j = M 44 j := fun j hj => by rw [g4 j hj, hS44]
    have hSY2 := a2.cong (M' := M2) (by rw [n2 41 (by decide)]) (by rw [n2 41 (by decide)]) (n2 50 (by decide)) (n2 51 (by decide)) (n2 52 (by decide)) (n2 53 (by decide)) (n2 54 (by decide))
    have hG2 := a3.cong (M' := M2) (n2 10 (by decide)) (n2 11 (by decide)) (n2 12 (by decide)) (k44 15 (by decide)) (k44 16 (by decide))
    have o16 : ∀ q, q ≠ k → M2 16 q = M 16 q ∧ M2 17 q = M 17 q ∧ M2 18 q = M 18 q := fun q hq => by
      rw [g5, g6, g7, if_neg hq, if_neg hq, if_neg hq, m 16 (by decide), m 17 (by decide), m 18 (by decide)]
      exact ⟨rfl, rfl, rfl⟩
    have pne : ∀ q, EN M1 G q → ∀ j, j < arN (gs M q) → pk M q j ≠ k := fun q hq j hj e => by
      obtain ⟨i, i1, i2, i3, i4, i5⟩ := pOut q hq j hj
      rw [i3] at e
      exact hnk (e ▸ (d1 i i1).2)
    have eKY : ∀ q, q ≠ k → KY M2 q = KY M q := fun q hq => KY.cong' (n2 11 (by decide)) (n2 12 (by decide)) (n2 52 (by decide)) (n2 54 (by decide)) (o16 q hq).1 (fun j _ => by rw [n2 21 (by decide)])
    refine kk M2 ⟨⟨g1, hSY2, hG2, a4.cong (n2 11 (by decide)) (n2 12 (by decide)) (n2 14 (by decide)) (n2 15 (by decide)), by rw [k44 19 (by decide)]; exact a5, g3, by rw [k44 18 (by decide)]; exact a7⟩, fun q hq => by rw [m13, egs2]; exact hw q hq, ⟨by rw [hEN2']; exact g9, by rw [hEN2']; exact g8⟩, ⟨fun i hi => ?_, fun i j hi hj e => ?_⟩, ⟨fun q => ?_, fun q hq ho => ?_⟩, fun q hq => ?_, fun d hd => (g d hd).cong (n2 10 (by decide)) (n2 20 (by decide)) (n2 21 (by decide)) (n2 22 (by decide)), fun i hi => ⟨fun j hj => ?_, fun q hq hno => ?_⟩⟩ ?_ ((hS1.mono (by decide)).tr (g2.mono (by decide))) k44
    · rw [esq2, n2 22 (by decide), hEN2]
      exact ⟨(d1 i hi).1, Or.inl (d1 i hi).2⟩
    · rw [n2 22 (by decide)] at e
      exact d2 i j hi hj e
    · rw [hEN2, e1, g10]
      unfold inH outM
      rw [m 19 (by decide), n2 22 (by decide)]
      constructor
      · rintro ((h1 | h1) | h1)
        · exact Or.inl (Or.inl h1)
        · exact Or.inr h1
        · exact Or.inl (Or.inr h1)
      · rintro ((h1 | h1) | h1)
        · exact Or.inl (Or.inl h1)
        · exact Or.inr h1
        · exact Or.inl (Or.inr h1)
    · unfold outM at ho
      rw [n2 22 (by decide)] at ho
      rcases (g10 q).1 hq with h1 | h1
      · unfold inH at h1
        rw [m 19 (by decide)] at h1
        exact e2 q h1 ho
      · rw [h1] at ho
        exact hnk ((e1 k).2 (Or.inr ho))
    · have hq1 : EN M1 G q := by rw [← hEN2']; exact hq
      by_cases hqk : q = k
      · have e3 := w_cong (M := M1) (M' := M2) (k := k) (g2 11 (by decide)) (g2 12 (by decide)) (g2 51 (by decide)) (g4 19 (by decide)) (fun j hj => by
          rw [egs] at hj
          have hne := pne k hEk j hj
          rw [egp, epk, g2 20 (by decide), g5, g6, g7, if_neg hne, if_neg hne, if_neg hne]
          exact ⟨rfl, rfl, rfl, rfl⟩)
        have hgs5 : gs M1 k < 5 := by
          rw [egs]
          have := (a3.2.2 k hk).2.1
          unfold gs
          omega
        have win := w_in hSY' hgs5 hPQ
        unfold WQ
        rw [hqk, e3.1, e3.2.1, e3.2.2, g5, g6, g7, if_pos rfl, if_pos rfl, if_pos rfl]
        exact ⟨⟨rfl, rfl, rfl⟩, win⟩
      · have hqM : EN M G q := by
          rcases (hE q).1 hq1 with h1 | h1
          · exact h1
          · exact absurd h1 hqk
        refine (f q hqM).cong (n2 11 (by decide)) (n2 12 (by decide)) (n2 51 (by decide)) (k44 19 (by decide)) (o16 q hqk) (fun j hj => ?_)
        have hne := pne q hq1 j hj
        rw [n2 20 (by decide)]
        exact ⟨rfl, o16 _ hne⟩
    · rw [esq2, egs2] at hj
      rw [esq2, egp2, n2 21 (by decide)]
      exact (kmin i hi).1 j hj
    · have hq' : rdy M G q i := by
        unfold rdy at hq ⊢
        rw [egs2, n2 20 (by decide), n2 21 (by decide)] at hq
        refine ⟨hq.1, fun j hj => ?_⟩
        have := hq.2 j hj
        rw [egp2] at this
        exact this
      rw [n2 22 (by decide)] at hno
      have hEq := rdy_EN h hU (hx i hi) hq'
      rw [esq2, eKY _ (fun e => hnk (e ▸ (d1 i hi).2)), eKY q (fun e => hnk (e ▸ hEq))]
      exact (kmin i hi).2 q hq' hno
    · intro s hs
      have h9 := hU' s (by unfold vs at hs ⊢; rw [egs2] at hs; rw [egs]; exact hs)
      rw [m 12 (by decide), m 20 (by decide)] at h9
      rw [n2 12 (by decide), n2 20 (by decide)]
      exact h9
end R1
