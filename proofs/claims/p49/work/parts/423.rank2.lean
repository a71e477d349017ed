section R3
theorem RI.out {M M' : g_M} {C G n t x c : Nat} {U : Nat → Bool} (h : RI M C G (n + 1) t U) (hU : LU M G U 0 (-1)) (hR : RG M') (hS : SM [19, 20, 21, 22, 44] M M') (hx : EN M G x) (hin : inH M (n + 1) x) (hl : ∀ k', inH M (n + 1) k' → KY M x ≤ KY M k') (hH : HO (KY M) (EN M G) M' n) (hi : ∀ k', inH M' n k' ↔ inH M (n + 1) k' ∧ k' ≠ x)
    (hc : M 10 x = (c : Int)) (v22 : ∀ i, M' 22 i = if i = t then (x : Int) else M 22 i) (v17 : M' 44 17 = (n : Int)) (v18 : M' 44 18 = ((t + 1 : Nat) : Int)) (v44 : ∀ j, j ≠ 17 → j ≠ 18 → M' 44 j = M 44 j)
    (v20 : ∀ d, M' 20 d = if d = c ∧ M 20 c = -1 then (x : Int) else M 20 d) (v21 : ∀ d, M' 21 d = if d = c ∧ M 20 c = -1 then (t : Int) else M 21 d) : RI M' C G n (t + 1) U := by
  have h' := h
  obtain ⟨⟨a1, a2, a3, a4, a5, a6, a7⟩, b, ⟨c1, c2⟩, ⟨d1, d2⟩, ⟨e1, e2⟩, f, g, kmin⟩ := h'
  have m : ∀ a, a ∉ [19, 20, 21, 22, 44] → M' a = M a := fun a ha => hS a ha
  have egs : ∀ q, gs M' q = gs M q := fun q => by unfold gs; rw [m 11 (by decide)]
  have egp : ∀ q j, gp M' q j = gp M q j := fun q j => by unfold gp; rw [m 12 (by decide)]
  have hSY' := a2.cong (M' := M') (by rw [m 41 (by decide)]) (by rw [m 41 (by decide)]) (m 50 (by decide)) (m 51 (by decide)) (m 52 (by decide)) (m 53 (by decide)) (m 54 (by decide))
  have hG' := a3.cong (M' := M') (m 10 (by decide)) (m 11 (by decide)) (m 12 (by decide)) (v44 15 (by decide) (by decide)) (v44 16 (by decide) (by decide))
  have hEN : EN M' G = EN M G := funext (fun q => by unfold EN; rw [m 13 (by decide)])
  have same : ∀ q, EN M G q → ∀ j, j < arN (gs M q) → M' 20 (gp M q j) = M 20 (gp M q j) ∧ M' 21 (gp M q j) = M 21 (gp M q j) := fun q hq j hj => by
    have hne := h.parts hU hq hj
    rw [v20, v21, if_neg (fun e => hne (by rw [e.1]; exact e.2)), if_neg (fun e => hne (by rw [e.1]; exact e.2))]
    exact ⟨rfl, rfl⟩
  have eKY : ∀ q, EN M G q → KY M' q = KY M q := fun q hq => KY.cong' (m 11 (by decide)) (m 12 (by decide)) (m 52 (by decide)) (m 54 (by decide)) (by rw [m 16 (by decide)]) (fun j hj => (same q hq j hj).2)
  have xno := e2 x hin
  have esq : ∀ i, i < t → sq M' i = sq M i := fun i hi => by unfold sq; rw [v22, if_neg (by omega)]
  have esqt : sq M' t = x := by unfold sq; rw [v22, if_pos rfl]; exact Int.toNat_natCast x
  have hPO := c2.2.2.1
  refine ⟨⟨hR, hSY', hG', a4.cong (m 11 (by decide)) (m 12 (by decide)) (m 14 (by decide)) (m 15 (by decide)), by rw [v44 19 (by decide) (by decide)]; exact a5, v17, v18⟩, fun q hq => by rw [m 13 (by decide), egs]; exact b q hq, ⟨?_, ?_⟩, ⟨fun i hi => ?_, fun i j hi hj e => ?_⟩, ⟨fun q => ?_, fun q hq ho => ?_⟩, fun q hq => ?_, fun d hd => ?_, fun i hi => ⟨fun j hj => ?_, fun q hq hno => ?_⟩⟩
  · rw [hEN]
    exact hH.cong rfl (fun q hq => ⟨hq, eKY q hq⟩)
  · rw [hEN]
    refine ⟨hSY', hG', fun q hq => ⟨(hPO q hq).1, ?_, fun j hj => ?_⟩, fun a b' ha hb i j hi hj e => ?_⟩
    · rw [m 16 (by decide)]
      exact (hPO q hq).2.1
    · rw [egs] at hj
      rw [egp, (same q hq j hj).2]
      exact (hPO q hq).2.2 j hj
    · rw [egs] at hi hj
      rw [egp, egp, (same a ha i hi).2, (same b' hb j hj).2] at e
      rw [m 12 (by decide)]
      exact c2.2.2.2 a b' ha hb i j hi hj e
  · rw [hEN]
    by_cases hit : i = t
    · rw [hit, esqt, v22, if_pos rfl]
      exact ⟨rfl, hx⟩
    · rw [esq i (by omega), v22, if_neg hit]
      exact d1 i (by omega)
  · rw [v22, v22] at e
    by_cases hit : i = t
    · by_cases hjt : j = t
      · omega
      · rw [if_pos hit, if_neg hjt] at e
        exact absurd ⟨j, by omega, e.symm⟩ xno
    · by_cases hjt : j = t
      · rw [if_neg hit, if_pos hjt] at e
        exact absurd ⟨i, by omega, e⟩ xno
      · rw [if_neg hit, if_neg hjt] at e
        exact d2 i j (by omega) (by omega) e
  · rw [hEN, e1, hi]
    constructor
    · rintro (h1 | ⟨i, i1, i2⟩)
      · by_cases hqx : q = x
        · exact Or.inr ⟨t, by omega, by rw [v22, if_pos rfl, hqx]⟩
        · exact Or.inl ⟨h1, hqx⟩
      · exact Or.inr ⟨i, by omega, by rw [v22, if_neg (by omega), i2]⟩
    · rintro (h1 | ⟨i, i1, i2⟩)
      · exact Or.inl h1.1
      · rw [v22] at i2
        by_cases hit : i = t
        · rw [if_pos hit] at i2
          have : q = x := by omega
          rw [this]
          exact Or.inl hin
        · rw [if_neg hit] at i2
          exact Or.inr ⟨i, by omega, i2⟩
  · obtain ⟨h1, h2⟩ := (hi q).1 hq
    obtain ⟨i, i1, i2⟩ := ho
    rw [v22] at i2
    by_cases hit : i = t
    · rw [if_pos hit] at i2
      omega
    · rw [if_neg hit] at i2
      exact e2 q h1 ⟨i, by omega, i2⟩
  · rw [hEN] at hq
    refine (f q hq).cong (m 11 (by decide)) (m 12 (by decide)) (m 51 (by decide)) (v44 19 (by decide) (by decide)) ⟨by rw [m 16 (by decide)], by rw [m 17 (by decide)], by rw [m 18 (by decide)]⟩ (fun j hj => ⟨(same q hq j hj).1, by rw [m 16 (by decide)], by rw [m 17 (by decide)], by rw [m 18 (by decide)]⟩)
  · have hd' := g d hd
    by_cases hdc : d = c ∧ M 20 c = -1
    · obtain ⟨h1, h2⟩ := hdc
      refine Or.inr ⟨t, by omega, by rw [v20, if_pos ⟨h1, h2⟩, v22, if_pos rfl], by rw [esqt, m 10 (by decide), hc, h1], by rw [v21, if_pos ⟨h1, h2⟩], fun i' hi' => ?_⟩
      rw [esq i' hi', m 10 (by decide)]
      rw [h1] at hd' ⊢
      rcases hd' with ⟨-, h3⟩ | ⟨i, i1, i2, -⟩
      · exact h3 i' hi'
      · have := (d1 i i1).1
        omega
    · rcases hd' with ⟨h1, h3⟩ | ⟨i, i1, i2, i3, i4, i5⟩
      · refine Or.inl ⟨by rw [v20, if_neg hdc, h1], fun i hi => ?_⟩
        by_cases hit : i = t
        · rw [hit, esqt, m 10 (by decide), hc]
          intro e
          have : d = c := by omega
          exact hdc ⟨this, by rw [← this]; exact h1⟩
        · rw [esq i (by omega), m 10 (by decide)]
          exact h3 i (by omega)
      · refine Or.inr ⟨i, by omega, by rw [v20, if_neg hdc, v22, if_neg (by omega), i2], by rw [esq i i1, m 10 (by decide), i3], by rw [v21, if_neg hdc, i4], fun i' hi' => ?_⟩
        rw [esq i' (by omega), m 10 (by decide)]
        exact i5 i' hi'
  · by_cases hit : i = t
    · rw [hit, esqt, egs] at hj
      rw [hit, esqt, egp, (same x hx j hj).2]
      have hCg : gp M x j < C := by
        have := (a3.2.2 x hx.1).2.2 j hj
        unfold gp
        omega
      obtain ⟨i', i1, -, -, i4⟩ := (g _ hCg).out (h.parts hU hx hj)
      omega
    · rw [esq i (by omega), egs] at hj
      rw [esq i (by omega), egp, (same _ (d1 i (by omega)).2 j hj).2]
      exact (kmin i (by omega)).1 j hj
  · have hq' : rdy M G q i := by
      refine ⟨hq.1, fun j hj => ?_⟩
      have h9 := hq.2 j (by rw [egs]; exact hj)
      rw [egp, v20, v21] at h9
      by_cases hdc : gp M q j = c ∧ M 20 c = -1
      · rw [if_pos hdc, if_pos hdc] at h9
        omega
      · rw [if_neg hdc, if_neg hdc] at h9
        exact h9
    have hq3 := rdy_EN h hU (fun s _ _ h1 => by omega) hq'
    rw [eKY q hq3]
    by_cases hit : i = t
    · rw [hit, esqt, eKY x hx]
      rcases (e1 q).1 hq3 with h1 | ⟨i', h1, h2⟩
      · exact hl q h1
      · exact absurd (by rw [v22, if_neg (by omega), h2]) (hno i' (by omega))
    · rw [esq i (by omega), eKY _ (d1 i (by omega)).2]
      refine (kmin i (by omega)).2 q hq' (fun i' hi' e => ?_)
      exact absurd (by rw [v22, if_neg (by omega), e]) (hno i' hi')
theorem RI.cnt {M : g_M} {C G n t : Nat} {U : Nat → Bool} (h : RI M C G n t U) : n + t ≤ G := by
  obtain ⟨-, -, ⟨c1, c2⟩, ⟨d1, d2⟩, ⟨e1, e2⟩, -⟩ := h
  have eH : ∀ i, i < n → M 19 i = ((hv M i : Nat) : Int) := fun i hi => by
    have := (c1.1 i hi).1
    unfold hv
    omega
  have key : ∀ i j, i < n → j < t → hv M i ≠ sq M j := fun i j hi hj e => by
    refine e2 (hv M i) ⟨i, hi, eH i hi⟩ ⟨j, hj, ?_⟩
    rw [(d1 j hj).1, e]
  refine pigeon G (n + t) (fun i => if i < n then hv M i else sq M (i - n)) (fun i hi => ?_) (fun i j hi hj e => ?_)
  · show (if i < n then hv M i else sq M (i - n)) < G
    by_cases h1 : i < n
    · rw [if_pos h1]
      exact (c1.1 i h1).2.1
    · rw [if_neg h1]
      exact (d1 (i - n) (by omega)).2.1
  · replace e : (if i < n then hv M i else sq M (i - n)) = (if j < n then hv M j else sq M (j - n)) := e
    by_cases h1 : i < n
    · by_cases h2 : j < n
      · rw [if_pos h1, if_pos h2] at e
        exact c1.2.1 i j h1 h2 (by rw [eH i h1, eH j h2, e])
      · rw [if_pos h1, if_neg h2] at e
        exact absurd e (key i (j - n) h1 (by omega))
    · by_cases h2 : j < n
      · rw [if_neg h1, if_pos h2] at e
        exact absurd e.symm (key j (i - n) h2 (by omega))
      · rw [if_neg h1, if_neg h2] at e
        have := d2 (i - n) (j - n) (by omega) (by omega) (by rw [(d1 (i - n) (by omega)).1, (d1 (j - n) (by omega)).1, e])
        omega
theorem r_rank_63 {M0 : g_M} {Q : g_M → Prop} {C G : Nat} (hG1 : G ≤ 900) (hC : C ≤ 900)
    (kk : ∀ (M' : g_M) (t : Nat) (U : Nat → Bool), RI M' C G 0 t U → LU M' G U 0 (-1) → SM [13, 16, 17, 18, 19, 20, 21, 22, 44] M0 M' → (∀ j, j ≠ 17 → j ≠ 18 → M' 44 j = M0 44 j) → Q M') :
    ∀ (f t n : Nat) (U : Nat → Bool) (M : g_M), G - t < f → RI M C G n t U → LU M G U 0 (-1) → SM [13, 16, 17, 18, 19, 20, 21, 22, 44] M0 M → (∀ j, j ≠ 17 → j ≠ 18 → M 44 j = M0 44 j) → F_X2_rank_63 Q f t M := by
  intro f
  induction f with
  | zero => intros; omega
  | succ f ih =>
    intro t n U M hf hRI hU hS h44
    have hcnt := hRI.cnt
    have h' := hRI
    obtain ⟨⟨a1, a2, a3, a4, a5, a6, a7⟩, b, ⟨c1, c2⟩, -, -, -, g, -⟩ := h'
    unfold F_X2_rank_63
    rw [a3.2.1, a6, bq (x := (t : Int)) (by omega) (by omega), bq (x := (G : Int)) (by omega) (by omega), bq (x := (n : Int)) (by omega) (by omega)]
    refine ⟨fun ht => ⟨fun hn => ?_, fun hn => ?_⟩, fun ht => ?_⟩
    · obtain ⟨n', rfl⟩ : ∃ n', n = n' + 1 := ⟨n - 1, by omega⟩
      refine r_takeLeast c2 (by omega) (by omega) (by omega) a1 a6 c1 (fun x M9 g1 g2 g3 g4 g5 g6 g7 g8 g9 => ?_)
      have hxG := g1.1
      refine ⟨okk t rfl (by show t < 65536; omega), ?_⟩
      have x10 := (a3.2.2 x hxG).1
      obtain ⟨c, hc⟩ : ∃ c : Nat, M 10 x = (c : Int) := ⟨(M 10 x).toNat, by omega⟩
      rw [rsk t rfl (by omega), rgn x (by omega), g5 10 (by decide), hc, rgn c (by omega), up3 (by decide), up3 (by decide), g5 20 (by decide), a1.b, show bm (-1) = -1 by decide, show (t : Int) + 1 = ((t + 1 : Nat) : Int) by omega]
      generalize hM10 : up (up M9 22 t (x : Int)) 44 18 ((t + 1 : Nat) : Int) = M10
      have hR10 : RG M10 := by
        rw [← hM10]
        exact (g4.u (by omega) (by omega)).u (by omega) (by omega)
      have hS10 : SM [22, 44] M9 M10 := by
        rw [← hM10]
        exact ((SM.rf _ _).u (by decide)).u (by decide)
      have w22 : ∀ i, M10 22 i = if i = t then (x : Int) else M 22 i := fun i => by
        rw [← hM10, upi, upi, g5 22 (by decide)]
        simp
      have w44 : ∀ j, M10 44 j = if j = 18 then ((t + 1 : Nat) : Int) else M9 44 j := fun j => by
        rw [← hM10, upi, upi]
        simp
      have w19 : M10 19 = M9 19 := hS10 19 (by decide)
      have q17 : M10 44 17 = (n' : Int) := by rw [w44, if_neg (by decide), g6]
      have q18 : M10 44 18 = ((t + 1 : Nat) : Int) := by rw [w44, if_pos rfl]
      have q44 : ∀ j, j ≠ 17 → j ≠ 18 → M10 44 j = M 44 j := fun j h1 h2 => by rw [w44, if_neg h2, g7 j h1]
      have hS09 : SM [19, 22, 44] M M10 := (g5.mono (by decide)).tr (hS10.mono (by decide))
      refine ⟨fun h20 => ⟨okk c rfl (by show c < 65536; omega), okk c rfl (by show c < 65536; omega), ?_⟩, fun h20 => ?_⟩
      · rw [rsk (M := M10) c rfl (by omega), rsk c rfl (by omega)]
        generalize hM11 : up (up M10 20 c (x : Int)) 21 c (t : Int) = M11
        have hR11 : RG M11 := by
          rw [← hM11]
          exact (hR10.u (by omega) (by omega)).u (by omega) (by omega)
        have hS11 : SM [20, 21] M10 M11 := by
          rw [← hM11]
          exact ((SM.rf _ _).u (by decide)).u (by decide)
        have hSA : SM [19, 20, 21, 22, 44] M M11 := (hS09.mono (by decide)).tr (hS11.mono (by decide))
        have u20 : ∀ d, M11 20 d = if d = c ∧ M 20 c = -1 then (x : Int) else M 20 d := fun d => by
          rw [← hM11, upi, upi, hS09 20 (by decide)]
          simp [h20]
        have u21 : ∀ d, M11 21 d = if d = c ∧ M 20 c = -1 then (t : Int) else M 21 d := fun d => by
          rw [← hM11, upi, upi, hS09 21 (by decide)]
          simp [h20]
        have e44 : M11 44 = M10 44 := hS11 44 (by decide)
        have hRI' : RI M11 C G n' (t + 1) U := RI.out (x := x) (c := c) hRI hU hR11 hSA g1 g2 g3 (g8.cong (by rw [hS11 19 (by decide), w19]) (fun q hq => ⟨hq, rfl⟩)) (fun k' => by unfold inH at g9 ⊢; rw [hS11 19 (by decide), w19]; exact g9 k') hc (fun i => by rw [hS11 22 (by decide), w22]) (by rw [e44, q17]) (by rw [e44, q18]) (fun j h1 h2 => by rw [e44, q44 j h1 h2]) u20 u21
        obtain ⟨l1, l2, l3, l4⟩ := a4.1 c (by omega)
        have evs : ∀ z, vs M11 G z ↔ vs M G z := fun z => by unfold vs gs; rw [hSA 11 (by decide)]
        refine ⟨3 * G + 2, ?_⟩
        rw [rgn c (by omega), hSA 14 (by decide)]
        refine r_rank_158 (M0 := M11) (C := C) (G := G) (c := c) hG1 hC (by omega) (by omega) (fun M' n2 U' k1 k2 k3 k4 => ih (t + 1) n2 U' M' (by omega) k1 (fun s hs => ?_) ((hS.tr (hSA.mono (by decide))).tr (k3.mono (by decide))) (fun j h1 h2 => by rw [k4 j h1, e44, q44 j h1 h2, h44 j h1 h2])) (3 * G + 2) (M 14 c - 1) 0 n' U M11 hRI' (fun s hs => ?_) ?_ ?_ ?_ (by omega) (by omega) (SM.rf _ _) (fun _ _ => rfl)
        · rw [k2 s hs]
          constructor
          · rintro (h1 | ⟨-, h2⟩)
            · exact Or.inl h1
            · omega
          · rintro (h1 | ⟨-, h2⟩)
            · exact Or.inl h1
            · omega
        · rw [evs] at hs
          have hcls := vs_cls a3 hs
          rw [hSA 12 (by decide), u20, hU s hs]
          by_cases hsc : M 12 s = (c : Int)
          · rw [hsc, Int.toNat_natCast]
            have := l4 s (by have := hs.1; omega) hs hsc
            exact ⟨fun _ => Or.inr ⟨rfl, by omega⟩, fun _ => Or.inl h20⟩
          · rw [if_neg (fun e => hsc (by omega))]
            constructor
            · rintro (h1 | ⟨-, h2⟩)
              · exact Or.inl h1
              · omega
            · rintro (h1 | ⟨h2, -⟩)
              · exact Or.inl h1
              · exact absurd h2 hsc
        · rw [u20, if_pos ⟨rfl, h20⟩]
          omega
        · rw [u21, if_pos ⟨rfl, h20⟩]
        · rcases Int.lt_or_le 0 (M 14 c) with hp | hp
          · obtain ⟨s1, s2⟩ := l3 hp
            exact Or.inr ⟨(M 14 c - 1).toNat, by omega, (evs _).2 s1, by rw [hSA 12 (by decide)]; exact s2⟩
          · exact Or.inl (by omega)
      · unfold F_X2_rank_210
        rw [show (t : Int) + 1 = ((t + 1 : Nat) : Int) by omega]
        have evs : ∀ z, vs M10 G z ↔ vs M G z := fun z => by unfold vs gs; rw [hS09 11 (by decide)]
        refine ih (t + 1) n' U M10 (by omega) (RI.out (x := x) (c := c) hRI hU hR10 (hS09.mono (by decide)) g1 g2 g3 (g8.cong w19 (fun q hq => ⟨hq, rfl⟩)) (fun k' => by unfold inH at g9 ⊢; rw [w19]; exact g9 k') hc w22 q17 q18 q44 (fun d => ?_) (fun d => ?_)) (fun s hs => ?_) (hS.tr (hS09.mono (by decide))) (fun j h1 h2 => by rw [q44 j h1 h2, h44 j h1 h2])
        · rw [hS09 20 (by decide), if_neg (fun e => h20 e.2)]
        · rw [hS09 21 (by decide), if_neg (fun e => h20 e.2)]
        · rw [evs] at hs
          rw [hS09 12 (by decide), hS09 20 (by decide)]
          exact hU s hs
    · have : n = 0 := by omega
      subst this
      exact kk M t U hRI hU hS h44
    · have : n = 0 := by omega
      subst this
      exact kk M t U hRI hU hS h44
end R3
