section X4
theorem r_push {M : g_M} {Q : Int → g_M → Prop} {n m n0 r ec lv : Nat} {S : Nat → Nat} (h : OB M n m n0 r ec lv S) (hlv : lv < 8)
    (k : ∀ M' : g_M, OB M' n m n0 r ec (lv + 1) (fun l => if l = lv then ec else S l) → EX n M M' → M' 33 = M 33 → M' 99 = M 99 → M' 55 = M 55 → M' 56 = M 56 → M' 41 9 = M 41 9 → Q ((lv + 1 : Nat) : Int) M') : F_X11_push Q M := by
  obtain ⟨⟨c1, c2, c3⟩, d⟩ := h.2.2
  have hW := h.wf
  have hQ0 := h.eqo
  have he30 := hQ0.2.1
  unfold F_X11_push
  rw [c1, bq (x := (lv : Int)) (by omega) (by omega), show bm 8 = 8 by decide]
  refine ⟨fun _ => ?_, fun c => absurd c (by omega)⟩
  unfold F_X9_openLevel
  rw [c1, bq (x := (lv : Int)) (by omega) (by omega), show bm 8 = 8 by decide]
  refine ⟨fun c => absurd c (by omega), fun _ => ⟨fun _ => ⟨ink lv rfl (by omega) (by omega), ?_⟩, fun c => absurd c (by omega)⟩⟩
  rw [Int.toNat_natCast, up3 (by decide), c1, bq (x := (lv : Int)) (by omega) (by omega), Int.toNat_natCast]
  refine ⟨ink lv rfl (by omega) (by omega), ?_⟩
  rw [up3 (by decide), c3, up3 (by decide), up3 (by decide), c1, hQ0.1]
  generalize hM1 : up (up (up M 57 lv (ec : Int)) 58 lv 0) 45 13 ((lv : Int) + 1) = M1
  have u : ∀ a b, M1 a b = if a = 45 ∧ b = 13 then (lv : Int) + 1 else if a = 58 ∧ b = lv then 0 else if a = 57 ∧ b = lv then (ec : Int) else M a b := fun a b => by rw [← hM1]; rfl
  have hS1 : SM [45, 57, 58] M M1 := by
    rw [← hM1]
    exact (((SM.rf _ _).u (by decide)).u (by decide)).u (by decide)
  have hR1 : RG M1 := by
    rw [← hM1]
    exact ((hW.rg.u (by omega) (by omega)).u (by omega) (by omega)).u (by omega) (by omega)
  have hW1 : WF M1 n m := hW.cong hR1 hS1 (by decide)
  have v57 : ∀ e, M1 57 e = if e = lv then (ec : Int) else M 57 e := fun e => by rw [u]; simp
  have v58 : ∀ e, M1 58 e = if e = lv then 0 else M 58 e := fun e => by rw [u]; simp
  have v45 : ∀ b, M1 45 b = if b = 13 then (lv : Int) + 1 else M 45 b := fun b => by rw [u]; simp
  have hE1 : EX n M M1 := EX.of (hS1 0 (by decide)) (hS1 1 (by decide)) (hS1 2 (by decide))
  have hO1 : ORD M M1 := ORD.of hS1 (by decide)
  obtain ⟨a1, a2, a3, a4⟩ := h.1
  obtain ⟨b1, b2⟩ := h.2.1
  have hOK : ∀ e, OKC M n0 e → OKC M1 n0 e := fun e he => he.ext (hE1.mono a3) hO1 (fun q _ => by rw [hS1 55 (by decide), hS1 56 (by decide)]; exact ⟨rfl, rfl⟩)
  have hRU : RUL M1 n r := b1.1.1.cong (Nat.le_refl _) (by rw [v45, if_neg (by decide)]) (hS1 59 (by decide)) (hS1 60 (by decide)) (hS1 32 (by decide))
  have hRSK : RSK M1 n n0 r ec := b1.ext a1.st hW1.st hE1 (Nat.le_refl _) hO1 hRU (fun i _ => by rw [hS1 59 (by decide), hS1 60 (by decide)]; exact ⟨rfl, rfl⟩) (by rw [v45, if_neg (by decide)]) (fun e _ => by rw [hS1 55 (by decide), hS1 56 (by decide)]; exact ⟨rfl, rfl⟩)
  have e13 : M1 45 13 = ((lv + 1 : Nat) : Int) := by
    rw [v45, if_pos rfl]
    omega
  rw [e13]
  refine k M1 ⟨⟨hW1, a2, a3, fun x hx => by rw [hS1 2 (by decide)]; exact a4 x hx⟩, ⟨hRSK, b2.imp id (hOK _)⟩, ⟨e13, by omega, by rw [v45, if_neg (by decide), c3]⟩, fun l hl => ?_⟩ hE1 (hS1 33 (by decide)) (hS1 99 (by decide)) (hS1 55 (by decide)) (hS1 56 (by decide)) (by rw [hS1 41 (by decide)])
  show M1 57 l = (((if l = lv then ec else S l) : Nat) : Int) ∧ M1 58 l = 0 ∧ (if l = lv then ec else S l) ≤ ec ∧ (∀ l', l' < l → (if l' = lv then ec else S l') ≤ (if l = lv then ec else S l)) ∧ ((if l = lv then ec else S l) = 0 ∨ OKC M1 n0 (if l = lv then ec else S l))
  rw [v57, v58]
  by_cases e : l = lv
  · rw [if_pos e, if_pos e, if_pos e]
    refine ⟨rfl, rfl, Nat.le_refl _, fun l' hl' => ?_, b2.imp id (hOK _)⟩
    rw [if_neg (by omega)]
    exact (d l' (by omega)).2.2.1
  · rw [if_neg e, if_neg e, if_neg e]
    obtain ⟨e1, e2, e3, e4, e5⟩ := d l (by omega)
    refine ⟨e1, e2, e3, fun l' hl' => ?_, e5.imp id (hOK _)⟩
    rw [if_neg (by omega)]
    exact e4 l' hl'
theorem r_pop {M : g_M} {Q : Int → g_M → Prop} {QE : g_M → Prop} {n m n0 r ec lv q : Nat} {S : Nat → Nat} (h : OB M n m n0 r ec lv S) (hn : n ≤ 1300) (h99 : M 99 0 = (q : Int)) (hq : q < 1000)
    (k1 : 0 < lv → ∀ (n' r' : Nat) (M' : g_M), OB M' n' m n0 r' (S (lv - 1)) (lv - 1) S → n ≤ n' → n' ≤ n + n0 → EX n M M' → M' 33 = M 33 → M' 99 = M 99 → M' 55 = M 55 → M' 56 = M 56 → M' 41 9 = M 41 9 → Q ((lv - 1 : Nat) : Int) M')
    (k2 : lv = 0 → ∀ M' : g_M, OB M' n m n0 r ec lv S → EX n M M' → M' 33 = M 33 → M' 99 0 = ((q + 1 : Nat) : Int) → M' 55 = M 55 → M' 56 = M 56 → M' 41 9 = M 41 9 → QE M') : F_X11_pop Q QE M := by
  obtain ⟨⟨c1, c2, c3⟩, d⟩ := h.2.2
  have hW := h.wf
  have hQ0 := h.eqo
  have he30 := hQ0.2.1
  have hn0 := h.1.2.2.1
  unfold F_X11_pop
  rw [c1, bq (x := (lv : Int)) (by omega) (by omega)]
  refine ⟨fun hl => ?_, fun hl => ?_⟩
  · have hl0 : 0 < lv := by omega
    obtain ⟨l, rfl⟩ : ∃ l, lv = l + 1 := ⟨lv - 1, by omega⟩
    obtain ⟨s1, s2, s3, s4, s5⟩ := d l (by omega)
    refine r_tidy hW.st ?_
    unfold F_X9_closeLevel
    rw [c1, bq (x := ((l + 1 : Nat) : Int)) (by omega) (by omega), show bm 8 = 8 by decide]
    refine ⟨fun _ => ⟨fun c => absurd c (by omega), fun _ => ?_⟩, fun c => absurd c (by omega)⟩
    rw [show (((l + 1 : Nat) : Int) - 1) = (l : Int) by omega, up1]
    refine ⟨ink l rfl (by omega) (by omega), ink l rfl (by omega) (by omega), ?_⟩
    rw [bq (x := (l : Int)) (by omega) (by omega), Int.toNat_natCast, up3 (by decide), up3 (by decide), s1, s2]
    unfold F_X9_goBack
    generalize hM1 : up (up (up M 45 13 (l : Int)) 45 7 ((S l : Nat) : Int)) 45 10 0 = M1
    have u : ∀ b, M1 45 b = if b = 10 then 0 else if b = 7 then ((S l : Nat) : Int) else if b = 13 then (l : Int) else M 45 b := fun b => by rw [← hM1, upi, upi, upi]; simp
    have hS1 : SM [45] M M1 := by
      rw [← hM1]
      exact (((SM.rf _ _).u (by decide)).u (by decide)).u (by decide)
    have hR1 : RG M1 := by
      rw [← hM1]
      exact ((hW.rg.u (by omega) (by omega)).u (by omega) (by omega)).u (by omega) (by omega)
    have hW1 : WF M1 n m := hW.cong hR1 hS1 (by decide)
    have hE1 : EX n M M1 := EX.of (hS1 0 (by decide)) (hS1 1 (by decide)) (hS1 2 (by decide))
    have hO1 : ORD M M1 := ORD.of hS1 (by decide)
    have hQ1 : EQO M1 n0 (S l) := by
      refine ⟨by rw [u, if_neg (by decide), if_pos rfl], by omega, fun e he => ?_⟩
      unfold eL eR
      rw [hS1 55 (by decide), hS1 56 (by decide)]
      exact hQ0.2.2 e (by omega)
    have hOK1 : ∀ e, OKC M n0 e → OKC M1 n0 e := fun e he => he.ext (hE1.mono hn0) hO1 (fun q _ => by rw [hS1 55 (by decide), hS1 56 (by decide)]; exact ⟨rfl, rfl⟩)
    refine r_complete hW1 (by omega) (by have := h.1.2.1; omega) hn0 (fun z hz => by rw [hS1 2 (by decide)]; exact h.1.2.2.2 z hz) hQ1 (fun hOK n' r' M' g1 g2 g3 g4 g5 g6 g7 => ?_) (fun hne hno => ?_)
    · have hE' : EX n M M' := hE1.tr g4 (Nat.le_refl _)
      have hO' : ORD M1 M' := ORD.of g6 (by decide)
      have hOK' : ∀ e, OKC M1 n0 e → OKC M' n0 e := fun e he => he.ext (g4.mono hn0) hO' (fun q _ => by rw [g6 55 (by decide), g6 56 (by decide)]; exact ⟨rfl, rfl⟩)
      have e13 : M' 45 13 = (l : Int) := by rw [g7 13 (by decide), u, if_neg (by decide), if_neg (by decide), if_pos rfl]
      rw [e13]
      refine k1 hl0 n' r' M' ⟨⟨g1, h.1.2.1, by omega, fun z hz => ?_⟩, ⟨g5, Or.inr (hOK' _ hOK)⟩, ⟨e13, by omega, by rw [g7 10 (by decide), u, if_pos rfl]⟩, fun l' hl' => ?_⟩ g2 g3 hE' (by rw [g6 33 (by decide), hS1 33 (by decide)]) (by rw [g6 99 (by decide), hS1 99 (by decide)]) (by rw [g6 55 (by decide), hS1 55 (by decide)]) (by rw [g6 56 (by decide), hS1 56 (by decide)]) (by rw [g6 41 (by decide), hS1 41 (by decide)])
      · rw [(hE' z (by omega)).2.2.2.2]
        exact h.1.2.2.2 z hz
      · obtain ⟨e1, e2, e3, e4, e5⟩ := d l' (by omega)
        rw [g6 57 (by decide), g6 58 (by decide), hS1 57 (by decide), hS1 58 (by decide)]
        exact ⟨e1, e2, s4 l' hl', e4, e5.imp id (fun h => hOK' _ (hOK1 _ h))⟩
    · exfalso
      rcases s5 with s5 | s5
      · exact hne s5
      · exact hno (hOK1 _ s5)
  · have hl0 : lv = 0 := by omega
    refine ⟨by omega, ?_⟩
    generalize hM1 : up M 99 0 (M 99 0 + 1) = M1
    have hS1 : SM [99] M M1 := by
      rw [← hM1]
      exact up99
    have hR1 : RG M1 := by
      rw [← hM1]
      exact hW.rg.u (by omega) (by omega)
    have hE1 : EX n M M1 := EX.of (hS1 0 (by decide)) (hS1 1 (by decide)) (hS1 2 (by decide))
    refine k2 hl0 M1 (h.ext (hW.cong hR1 hS1 (by decide)) (Nat.le_refl _) hE1 (by rw [hS1 41 (by decide)]) (fun a ha => hS1 a (by
      revert a
      decide))) hE1 (hS1 33 (by decide)) ?_ (hS1 55 (by decide)) (hS1 56 (by decide)) (by rw [hS1 41 (by decide)])
    rw [← hM1, up1, h99]
    omega
end X4
