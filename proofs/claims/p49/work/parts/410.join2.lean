section Q0
def JN (M M' : g_M) (c a b : Nat) : Prop := ∃ l3 l4 : Nat, l3 < c ∧ l4 < c ∧ l3 ≠ l4 ∧ (M 24 l3 = (l3 : Int) ∧ M 24 l4 = (l4 : Int)) ∧ (M 24 a = (l3 : Int) ∧ M 24 b = (l4 : Int) ∨ M 24 a = (l4 : Int) ∧ M 24 b = (l3 : Int)) ∧ ∀ q, q < c → M' 24 q = if M 24 q = (l4 : Int) then (l3 : Int) else M 24 q
theorem JN.keep {M M' : g_M} {c a b : Nat} (h : JN M M' c a b) {i j : Nat} (hi : i < c) (hj : j < c) (e : M 24 i = M 24 j) : M' 24 i = M' 24 j := by
  obtain ⟨l3, l4, -, -, -, -, -, h6⟩ := h
  rw [h6 i hi, h6 j hj, e]
theorem JN.eq {M M' : g_M} {c a b : Nat} (h : JN M M' c a b) (ha : a < c) (hb : b < c) : M' 24 a = M' 24 b := by
  obtain ⟨l3, l4, -, -, h3, -, h5, h6⟩ := h
  have h3' : (l3 : Int) ≠ (l4 : Int) := by omega
  rw [h6 a ha, h6 b hb]
  rcases h5 with ⟨e1, e2⟩ | ⟨e1, e2⟩ <;> rw [e1, e2] <;> simp
theorem JN.sound {M M' : g_M} {c a b : Nat} (h : JN M M' c a b) (ha : a < c) (hb : b < c) {E : Nat → Nat → Prop} (hs : ∀ i j, E i j → E j i) (ht : ∀ i j k, E i j → E j k → E i k) (hE : ∀ i j, i < c → j < c → M 24 i = M 24 j → E i j) (hab : E a b) : ∀ i j, i < c → j < c → M' 24 i = M' 24 j → E i j := by
  obtain ⟨l3, l4, k1, k2, h3, h4, h5, h6⟩ := h
  intro i j hi hj e
  rw [h6 i hi, h6 j hj] at e
  -- both kinds of ends
  have key : ∀ u v, u < c → v < c → M 24 u = (l4 : Int) → M 24 v = (l3 : Int) → E u v := fun u v hu hv eu ev => by
    rcases h5 with ⟨e1, e2⟩ | ⟨e1, e2⟩
    · exact ht _ _ _ (hE u b hu hb (eu.trans e2.symm)) (ht _ _ _ (hs _ _ hab) (hE a v ha hv (e1.trans ev.symm)))
    · exact ht _ _ _ (hE u a hu ha (eu.trans e1.symm)) (ht _ _ _ hab (hE b v hb hv (e2.trans ev.symm)))
  by_cases ei : M 24 i = (l4 : Int)
  · by_cases ej : M 24 j = (l4 : Int)
    · exact hE i j hi hj (ei.trans ej.symm)
    · rw [if_pos ei, if_neg ej] at e
      exact key i j hi hj ei e.symm
  · by_cases ej : M 24 j = (l4 : Int)
    · rw [if_neg ei, if_pos ej] at e
      exact hs _ _ (key j i hj hi ej e)
    · rw [if_neg ei, if_neg ej] at e
      exact hE i j hi hj e
theorem JN.rts {M M' : g_M} {c a b : Nat} (h : JN M M' c a b) : rts (M' 24) c < rts (M 24) c := by
  obtain ⟨l3, l4, k1, k2, h3, ⟨h9, h4⟩, h5, h6⟩ := h
  refine rts_lt c (fun i hi e => ?_) ⟨l4, k2, h4, ?_⟩
  · rw [h6 i hi] at e
    by_cases ei : M 24 i = (l4 : Int)
    · rw [if_pos ei] at e
      have : i = l3 := by omega
      subst this
      exact h9
    · rw [if_neg ei] at e
      exact e
  · rw [h6 l4 k2, if_pos h4]
    omega
theorem r_join_59 {M : g_M} {Q : g_M → Prop} {c l3 l4 : Nat} (hRG : RG M) (hc : c ≤ 1000) (hL : CL M c) (h3 : l3 < c) (h4 : l4 < c) (e3 : M 24 l3 = (l3 : Int)) (e4 : M 24 l4 = (l4 : Int)) (hne : l3 ≠ l4)
    (k : ∀ M', RG M' → CL M' c → SM [24, 25, 26] M M' → (∀ q, q < c → M' 24 q = if M 24 q = (l4 : Int) then (l3 : Int) else M 24 q) → Q M') : F_X1_join_59 Q l3 l4 M := by
  have cyc : ∀ l, l < c → M 24 l = (l : Int) → CY M c l := fun l hl el => by
    obtain ⟨l', h1, h2, h3⟩ := hL l hl
    have : l' = l := by omega
    subst this
    exact h3
  obtain ⟨f3, R3, a1, a2, a3, a4, a5, a6⟩ := cyc l3 h3 e3
  obtain ⟨f4, R4, b1, b2, b3, b4, b5, b6⟩ := cyc l4 h4 e4
  have len3 : (f3 :: R3).length ≤ c := nd_len c _ a5 (fun x hx => ((a6 x).1 hx).1)
  have len4 : (f4 :: R4).length ≤ c := nd_len c _ b5 (fun x hx => ((b6 x).1 hx).1)
  have l3' : R3.length + 1 ≤ c := by simpa using len3
  have l4' : R4.length + 1 ≤ c := by simpa using len4
  have hf4 := ((b6 f4).1 (by simp)).1
  have hf3 := ((a6 f3).1 (by simp)).1
  have l4mem : l4 ∈ f4 :: R4 := b3.mem
  unfold F_X1_join_59
  refine ⟨1 + R4.length + 1, ?_⟩
  unfold F_X1_join_66
  rw [rgn l4 (by omega), b4, show ((R4.length : Int) + 1) = ((R4.length + 1 : Nat) : Int) by omega, bq (x := ((R4.length + 1 : Nat) : Int)) (by omega) (by omega)]
  refine ⟨fun _ => ⟨okk l4 rfl (by show l4 < 65536; omega), ?_⟩, fun c9 => absurd (show bm 0 < ((R4.length + 1 : Nat) : Int) by rw [show bm 0 = 0 by decide]; omega) c9⟩
  have hS : SM [24] M (up M 24 l4 (l3 : Int)) := (SM.rf _ _).u (by decide)
  rw [rsk l4 rfl (by omega), rgn l4 (by omega), hS 25 (by decide), b2, show (0 : Int) + 1 = ((1 : Nat) : Int) by omega]
  refine r_join_66 (c := c) (cnt := R4.length + 1) (by omega) h3 h4 (by omega) R4 f4 _ 1 0 (hRG.u (by omega) (by omega)) (by rw [hS 25 (by decide)]; exact b3) (fun q hq => ((b6 q).1 hq).1) (by rw [hS 26 (by decide), b4]; omega) (by omega) (fun M1 g1 g2 g3 => ?_) b5
  have hS1 : SM [24] M M1 := hS.tr g2
  have v24 : ∀ q, q < c → M1 24 q = if M 24 q = (l4 : Int) then (l3 : Int) else M 24 q := fun q hq => by
    rw [g3 q, upi]
    by_cases hm : q ∈ f4 :: R4
    · rw [if_pos ((b6 q).1 hm).2]
      by_cases hq4 : q = l4
      · rw [if_neg (fun h => h.2 hq4), if_pos ⟨rfl, hq4⟩]
      · rw [if_pos ⟨hm, hq4⟩]
    · rw [if_neg (fun h => hm h.1), if_neg (fun h => hm (by rw [h.2]; exact l4mem)), if_neg (fun h => hm ((b6 q).2 ⟨hq, h⟩))]
  unfold F_X1_join_66
  have m26 : M1 26 = M 26 := hS1 26 (by decide)
  have m25 : M1 25 = M 25 := hS1 25 (by decide)
  rw [rgn l4 (by omega), m26, b4, show ((R4.length : Int) + 1) = ((R4.length + 1 : Nat) : Int) by omega]
  refine ⟨fun c9 => absurd c9 (Int.lt_irrefl _), fun _ => ⟨okk l3 rfl (by show l3 < 65536; omega), okk l3 rfl (by show l3 < 65536; omega), okk l4 rfl (by show l4 < 65536; omega), ?_⟩⟩
  rw [rsk (M := M1) (r := 26) l3 rfl (by omega), rgn l3 (by omega), m26, a4, rgn l3 (by omega), rgn l4 (by omega), up3 (by decide), up3 (by decide), m25, a2, b2, rsk l3 rfl (by omega), rsk l4 rfl (by omega)]
  generalize hM' : up (up (up M1 26 l3 ((R3.length : Int) + 1 + ((R4.length + 1 : Nat) : Int))) 25 l3 (f4 : Int)) 25 l4 (f3 : Int) = M'
  have u : ∀ r j, M' r j = if r = 25 ∧ j = l4 then (f3 : Int) else if r = 25 ∧ j = l3 then (f4 : Int) else if r = 26 ∧ j = l3 then (R3.length : Int) + 1 + ((R4.length + 1 : Nat) : Int) else M1 r j := fun r j => by rw [← hM']; rfl
  have hS2 : SM [24, 25, 26] M M' := by
    intro r hr
    funext j
    simp only [List.mem_cons, List.not_mem_nil, or_false, not_or] at hr
    rw [u, hS1 r (by simp [hr])]
    simp [hr]
  have w24 : ∀ q, M' 24 q = M1 24 q := fun q => by rw [u]; simp
  have w25 : ∀ q, M' 25 q = if q = l4 then (f3 : Int) else if q = l3 then (f4 : Int) else M 25 q := fun q => by rw [u, m25]; simp
  have w26 : ∀ q, M' 26 q = if q = l3 then (R3.length : Int) + 1 + ((R4.length + 1 : Nat) : Int) else M 26 q := fun q => by rw [u, m26]; simp
  have hR : RG M' := by
    rw [← hM']
    exact ((g1.u (by omega) (by omega)).u (by omega) (by omega)).u (by omega) (by omega)
  have dis : ∀ y, y ∈ f4 :: R4 → y ∈ f3 :: R3 → False := fun y h1 h2 => by
    have := ((b6 y).1 h1).2
    have := ((a6 y).1 h2).2
    omega
  have l3mem : l3 ∈ f3 :: R3 := a3.mem
  have cy3 : CY M' c l3 := by
    refine ⟨f4, R4 ++ f3 :: R3, ?_, ?_, ?_, ?_, ?_, fun q => ?_⟩
    · rw [w24, v24 l3 h3, e3, if_neg (by omega)]
    · rw [w25, if_neg hne, if_pos rfl]
    · refine PA.app (l := l4) (f' := f3) (by rw [w25, if_pos rfl]) (Ne.symm hne) ?_ ?_ (fun y hy e => dis y hy (by rw [e]; exact l3mem))
      · refine a3.cong (fun y hy hyl => ?_)
        rw [w25, if_neg (fun e => dis y (by rw [e]; exact l4mem) hy), if_neg hyl]
      · refine b3.cong (fun y hy hyl => ?_)
        rw [w25, if_neg hyl, if_neg (fun e => dis y hy (by rw [e]; exact l3mem))]
    · rw [w26, if_pos rfl, List.length_append, List.length_cons]
      omega
    · rw [show f4 :: (R4 ++ f3 :: R3) = (f4 :: R4) ++ (f3 :: R3) by rfl]
      refine List.nodup_append.2 ⟨b5, a5, fun x hx y hy e => dis x hx (by rw [e]; exact hy)⟩
    · rw [show f4 :: (R4 ++ f3 :: R3) = (f4 :: R4) ++ (f3 :: R3) by rfl, List.mem_append, b6, a6, w24]
      constructor
      · rintro (⟨q1, q2⟩ | ⟨q1, q2⟩)
        · exact ⟨q1, by rw [v24 q q1, if_pos q2]⟩
        · exact ⟨q1, by rw [v24 q q1, if_neg (by omega), q2]⟩
      · rintro ⟨q1, q2⟩
        rw [v24 q q1] at q2
        by_cases hq : M 24 q = (l4 : Int)
        · exact Or.inl ⟨q1, hq⟩
        · rw [if_neg hq] at q2
          exact Or.inr ⟨q1, q2⟩
  refine k M' hR (fun i hi => ?_) hS2 (fun q hq => by rw [w24, v24 q hq])
  obtain ⟨l, hl, hil, hcy⟩ := hL i hi
  rw [w24, v24 i hi]
  by_cases h4i : M 24 i = (l4 : Int)
  · rw [if_pos h4i]
    exact ⟨l3, h3, rfl, cy3⟩
  · rw [if_neg h4i]
    by_cases hl3 : l = l3
    · subst hl3
      exact ⟨l, hl, hil, cy3⟩
    · refine ⟨l, hl, hil, ?_⟩
      have hl4 : l ≠ l4 := fun e => h4i (by rw [hil, e])
      obtain ⟨f, R, c1, c2, c3, c4, c5, c6⟩ := hcy
      refine ⟨f, R, ?_, ?_, ?_, ?_, c5, fun q => ?_⟩
      · rw [w24, v24 l hl, c1, if_neg (by omega)]
      · rw [w25, if_neg hl4, if_neg hl3, c2]
      · refine c3.cong (fun y hy hyl => ?_)
        have := ((c6 y).1 hy).2
        rw [w25, if_neg (fun e => by rw [e] at this; omega), if_neg (fun e => by rw [e] at this; omega)]
      · rw [w26, if_neg hl3, c4]
      · rw [c6, w24]
        constructor
        · rintro ⟨q1, q2⟩
          exact ⟨q1, by rw [v24 q q1, if_neg (by omega), q2]⟩
        · rintro ⟨q1, q2⟩
          rw [v24 q q1] at q2
          by_cases hq : M 24 q = (l4 : Int)
          · rw [if_pos hq] at q2
            omega
          · rw [if_neg hq] at q2
            exact ⟨q1, q2⟩
theorem r_join {M : g_M} {Q : g_M → Prop} {c : Nat} (hRG : RG M) (hc : c ≤ 1000) (hL : CL M c) (a b : Nat) (ha : a < c) (hb : b < c)
    (k1 : M 24 a = M 24 b → Q M) (k2 : M 24 a ≠ M 24 b → ∀ M', RG M' → CL M' c → SM [24, 25, 26] M M' → JN M M' c a b → Q M') : F_X1_join Q a b M := by
  obtain ⟨la, a1, a2, a3⟩ := hL a ha
  obtain ⟨lb, b1, b2, b3⟩ := hL b hb
  have ea : M 24 la = (la : Int) := by
    obtain ⟨f, R, h, -⟩ := a3
    exact h
  have eb : M 24 lb = (lb : Int) := by
    obtain ⟨f, R, h, -⟩ := b3
    exact h
  unfold F_X1_join
  rw [rgn a (by omega), rgn b (by omega), hRG.b, hRG.b]
  refine ⟨k1, fun hne => ?_⟩
  have hne' : la ≠ lb := fun e => hne (by rw [a2, b2, e])
  rw [a2, b2]
  refine ⟨fun _ => ?_, fun _ => ?_⟩
  · exact r_join_59 hRG hc hL b1 a1 eb ea (Ne.symm hne') (fun M' g1 g2 g3 g4 => k2 hne M' g1 g2 g3 ⟨lb, la, b1, a1, Ne.symm hne', ⟨eb, ea⟩, Or.inr ⟨a2, b2⟩, g4⟩)
  · exact r_join_59 hRG hc hL a1 b1 ea eb hne' (fun M' g1 g2 g3 g4 => k2 hne M' g1 g2 g3 ⟨la, lb, a1, b1, hne', ⟨ea, eb⟩, Or.inl ⟨a2, b2⟩, g4⟩)
end Q0
