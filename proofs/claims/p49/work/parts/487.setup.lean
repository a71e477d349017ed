section Y6
/-- the ranks behind a promotion -/
def mv (s r j : Nat) : Nat := if s < j ∧ j ≤ r then j - 1 else if j < s ∧ r ≤ j then j + 1 else j
theorem r_moveTo {M : g_M} {Q : g_M → Prop} {s r : Nat} (hR : RG M) (h7 : M 41 7 = 5) (h52 : ∀ j, j < 5 → M 52 j = (j : Int)) (hs : s < 5) (hr : r < 5)
    (kk : ∀ M', RG M' → SM [52] M M' → (∀ j, j < 5 → M' 52 j = if j = s then (r : Int) else ((mv s r j : Nat) : Int)) → Q M') : F_X7_moveTo Q s r M := by
  have loop : ∀ (f i : Nat) (M1 : g_M), i ≤ 5 → 5 - i < f → RG M1 → SM [52] M M1 → (∀ j, j < 5 → M1 52 j = if j < i then ((mv s r j : Nat) : Int) else (j : Int)) → F_X7_moveTo_23 Q f s r s i M1 := by
    intro f
    induction f with
    | zero => intros; omega
    | succ f ih =>
      intro i M1 h1 h2 hR1 hS hv
      unfold F_X7_moveTo_23
      rw [hS 41 (by decide), h7, bq (x := (i : Int)) (by omega) (by omega), show bm 5 = 5 by decide, bq (x := (s : Int)) (by omega) (by omega), bq (x := (r : Int)) (by omega) (by omega), Int.toNat_natCast, Int.toNat_natCast]
      refine ⟨fun c => ?_, fun c => ?_⟩
      · have hi : i < 5 := by omega
        have e := hv i hi
        rw [if_neg (by omega)] at e
        rw [e, bq (x := (i : Int)) (by omega) (by omega)]
        have go : ∀ (M2 : g_M) (v : Nat), RG M2 → SM [52] M1 M2 → (∀ j, M2 52 j = if j = i then (v : Int) else M1 52 j) → mv s r i = v → F_X7_moveTo_101 Q (F_X7_moveTo_23 Q f) s r s i M2 := fun M2 v r2 s2 u2 hm => by
          unfold F_X7_moveTo_101
          rw [show (i : Int) + 1 = ((i + 1 : Nat) : Int) by omega]
          refine ih (i + 1) M2 (by omega) (by omega) r2 (hS.tr s2) (fun j hj => ?_)
          rw [u2, hv j hj]
          by_cases hji : j = i
          · subst hji
            rw [if_pos rfl, if_pos (by omega), hm]
          · rw [if_neg hji]
            by_cases hjl : j < i
            · rw [if_pos hjl, if_pos (by omega)]
            · rw [if_neg hjl, if_neg (by omega)]
        have stay : mv s r i = i → F_X7_moveTo_101 Q (F_X7_moveTo_23 Q f) s r s i M1 := fun hm => go M1 i hR1 (SM.rf _ _) (fun j => by
          by_cases hji : j = i
          · rw [if_pos hji, hji, e]
          · rw [if_neg hji]) hm
        have k68 : (¬ (s < i ∧ i ≤ r)) → F_X7_moveTo_68 Q (F_X7_moveTo_23 Q f) s r s i M1 := fun hn => by
          unfold F_X7_moveTo_68
          rw [bq (x := (i : Int)) (by omega) (by omega), bq (x := (s : Int)) (by omega) (by omega), bq (x := (r : Int)) (by omega) (by omega), Int.toNat_natCast, e, bq (x := (i : Int)) (by omega) (by omega)]
          refine ⟨ink i rfl (by omega) (by omega), fun c1 => ⟨ink i rfl (by omega) (by omega), fun c2 => stay ?_, fun c2 => ⟨ink i rfl (by omega) (by omega), ink i rfl (by omega) (by omega), ?_⟩⟩, fun c1 => stay ?_⟩
          · unfold mv
            rw [if_neg hn, if_neg (by omega)]
          · refine go _ (i + 1) (hR1.u (by omega) (by omega)) ((SM.rf _ _).u (by decide)) (fun j => ?_) ?_
            · rw [upi]
              by_cases hji : j = i
              · rw [if_pos ⟨rfl, hji⟩, if_pos hji]
                omega
              · rw [if_neg (fun h => hji h.2), if_neg hji]
            · unfold mv
              rw [if_neg hn, if_pos (by omega)]
          · unfold mv
            rw [if_neg hn, if_neg (by omega)]
        refine ⟨ink i rfl (by omega) (by omega), fun c1 => ⟨ink i rfl (by omega) (by omega), fun c2 => k68 (by omega), fun c2 => ⟨ink i rfl (by omega) (by omega), ink i rfl (by omega) (by omega), ?_⟩⟩, fun c1 => k68 (by omega)⟩
        refine go _ (i - 1) (hR1.u (by omega) (by omega)) ((SM.rf _ _).u (by decide)) (fun j => ?_) ?_
        · rw [upi]
          by_cases hji : j = i
          · rw [if_pos ⟨rfl, hji⟩, if_pos hji]
            omega
          · rw [if_neg (fun h => hji h.2), if_neg hji]
        · unfold mv
          rw [if_pos (by omega)]
      · have hi : i = 5 := by omega
        subst hi
        refine ⟨ink s rfl (by omega) (by omega), kk _ (hR1.u (by omega) (by omega)) (hS.u (by decide)) (fun j hj => ?_)⟩
        rw [upi]
        by_cases hjs : j = s
        · rw [if_pos ⟨rfl, hjs⟩, if_pos hjs]
        · rw [if_neg (fun h => hjs h.2), if_neg hjs, hv j hj, if_pos (by omega)]
  unfold F_X7_moveTo
  rw [h7, bq (x := (s : Int)) (by omega) (by omega), show bm 5 = 5 by decide, Int.toNat_natCast, h52 s hs]
  exact ⟨fun c => absurd c (by omega), fun _ => ⟨fun _ => ⟨ink s rfl (by omega) (by omega), 6, loop 6 0 M (by omega) (by omega) hR (SM.rf _ _) (fun j hj => by rw [if_neg (by omega), h52 j hj])⟩, fun c => absurd c (by omega)⟩⟩
theorem r_hasS {M : g_M} {Q : Int → g_M → Prop} {s : Nat} (h7 : M 41 7 = 5) (hs : s < 5) (kk : Q 1 M) : F_X7_has Q s M := by
  unfold F_X7_has
  rw [h7, bq (x := (s : Int)) (by omega) (by omega), show bm 5 = 5 by decide]
  exact ⟨fun c => absurd c (by omega), fun _ => ⟨fun _ => kk, fun c => absurd c (by omega)⟩⟩
/-- the object before the terms -/
def IN0 (M : g_M) : Prop := WF M 0 0 ∧ SM [41, 46, 48, 49, 50, 51, 52, 53, 54, 62] M0 M
theorem r_setUp149 {M : g_M} {Q : Int → g_M → Prop} {s r : Nat} {d : Int} (hR : RG M) (hS : SM [41, 46, 48, 49, 50, 51, 52, 53, 62] M0 M) (h7 : M 41 7 = 5) (h9 : isB (M 41 9)) (h10 : M 41 10 = 0) (hT : ∀ j, j < 5 → M 50 j = (arN j : Int) ∧ (1 ≤ M 51 j ∧ M 51 j ≤ 9) ∧ M 52 j = (j : Int) ∧ M 53 j = -1) (hs : s < 5) (hr : r < 5) (hd : isB d)
    (kk : ∀ M', IN0 M' → Q 1 M') : F_L_setUp_149 Q s r 4 d M := by
  have e54 : ∀ j, M 54 j = 0 := fun j => by rw [hS 54 (by decide)]; rfl
  have bd : -2147483648 ≤ d ∧ d ≤ 2147483647 := by
    rcases hd with hd | hd <;> omega
  unfold F_L_setUp_149 F_X11_setDirection
  refine r_hasS (s := 4) h7 (by omega) ⟨fun c => absurd c (by decide), fun _ => ?_⟩
  unfold F_X7_isOrderFixed
  rw [h10]
  refine ⟨Or.inl rfl, fun _ => ?_, fun c => absurd (by decide) c⟩
  unfold F_X7_isFromRight
  rw [h7, show bm 4 = 4 by decide, show bm 5 = 5 by decide]
  refine ⟨fun c => absurd c (by decide), fun _ => ⟨fun _ => ⟨ink 4 rfl (by omega) (by omega), fun _ => ?_, fun c => absurd (by rw [e54]; decide) c⟩, fun c => absurd (by decide) c⟩⟩
  unfold F_X7_direct
  dsimp only
  rw [h7, show bm 4 = 4 by decide, show bm 5 = 5 by decide]
  refine ⟨fun c => absurd c (by decide), fun _ => ⟨fun _ => ⟨ink 4 rfl (by omega) (by omega), hd, Or.inl rfl, ?_⟩, fun c => absurd (by decide) c⟩⟩
  refine ⟨fun _ => ?_, fun c => absurd (show bm 0 = 0 by decide) c⟩
  rw [show (4 : Int).toNat = 4 by decide]
  generalize hM1 : up M 54 4 d = M1
  have s1 : SM [54] M M1 := by
    rw [← hM1]
    exact (SM.rf _ _).u (by decide)
  have r1 : RG M1 := by
    rw [← hM1]
    exact hR.u bd.1 bd.2
  have v54 : ∀ j, isB (M1 54 j) := fun j => by
    rw [← hM1, upi]
    by_cases h : j = 4
    · rw [if_pos ⟨rfl, h⟩]
      exact hd
    · rw [if_neg (fun h' => h h'.2), e54]
      exact Or.inl rfl
  have h7' : M1 41 7 = 5 := by rw [s1 41 (by decide), h7]
  unfold F_X11_promote
  refine r_hasS (s := s) h7' hs ⟨fun c => absurd c (by decide), fun _ => ?_⟩
  refine r_hasS (s := r) h7' hr ⟨fun c => absurd c (by decide), fun _ => ?_⟩
  unfold F_X7_isOrderFixed
  rw [s1 41 (by decide), h10]
  refine ⟨Or.inl rfl, fun _ => ?_, fun c => absurd (by decide) c⟩
  unfold F_X7_rank
  have h52 : ∀ j, j < 5 → M1 52 j = (j : Int) := fun j hj => by rw [s1 52 (by decide)]; exact (hT j hj).2.2.1
  rw [h7', bq (x := (s : Int)) (by omega) (by omega), show bm 5 = 5 by decide, Int.toNat_natCast, h52 s hs]
  refine ⟨fun c => absurd c (by omega), fun _ => ⟨fun _ => ⟨ink s rfl (by omega) (by omega), ?_⟩, fun c => absurd c (by omega)⟩⟩
  refine r_moveTo r1 h7' h52 hs hr (fun M2 r2 s2 v2 => ?_)
  have h7'' : M2 41 7 = 5 := by rw [s2 41 (by decide), h7']
  dsimp only
  refine ⟨fun _ => ?_, fun c => absurd (bq (by omega) (by omega)) c⟩
  unfold F_X11_rankOf
  refine r_hasS (s := s) h7'' hs ⟨fun c => absurd c (by decide), fun _ => ?_⟩
  unfold F_X7_rank
  rw [h7'', bq (x := (s : Int)) (by omega) (by omega), show bm 5 = 5 by decide, Int.toNat_natCast, v2 s hs, if_pos rfl]
  refine ⟨fun c => absurd c (by omega), fun _ => ⟨fun _ => ⟨ink s rfl (by omega) (by omega), ?_⟩, fun c => absurd c (by omega)⟩⟩
  dsimp only
  refine ⟨fun _ => ?_, fun c => absurd rfl c⟩
  have s12 : SM [52, 54] M M2 := (s1.mono (by decide)).tr (s2.mono (by decide))
  have hS2 : SM [41, 46, 48, 49, 50, 51, 52, 53, 54, 62] M0 M2 := (hS.mono (by decide)).tr (s12.mono (by decide))
  have z : ∀ a, a ∈ [3, 4, 5, 33, 40] → ∀ j, M2 a j = 0 := fun a ha j => by
    rw [hS2 a (by revert a; decide)]
    show (if a = 42 ∧ j = 12 then (4096 : Int) else if a = 46 ∧ j = 9 then -1 else 0) = 0
    rw [if_neg (fun h => by rw [h.1] at ha; revert ha; decide), if_neg (fun h => by rw [h.1] at ha; revert ha; decide)]
  have e42 : M2 42 = M0 42 := hS2 42 (by decide)
  have rk2 : ∀ j, j < 5 → ∃ v : Nat, v < 5 ∧ M2 52 j = (v : Int) ∧ v = if j = s then r else mv s r j := fun j hj => by
    have hmv : mv s r j < 5 := by
      unfold mv
      split
      · omega
      · split <;> omega
    by_cases hjs : j = s
    · exact ⟨r, hr, by rw [v2 j hj, if_pos hjs], by rw [if_pos hjs]⟩
    · exact ⟨mv s r j, hmv, by rw [v2 j hj, if_neg hjs], by rw [if_neg hjs]⟩
  refine kk M2 ⟨⟨r2, ?_, ?_, ?_⟩, hS2⟩
  · refine ⟨h7'', fun j hj => by rw [s12 50 (by decide)]; exact (hT j hj).1, fun j hj => by rw [s12 51 (by decide)]; exact (hT j hj).2.1, fun j hj => ?_, fun a b ha hb e => ?_, fun j hj => by rw [s12 53 (by decide)]; exact (hT j hj).2.2.2, fun j _ => by rw [s2 54 (by decide)]; exact v54 j, by rw [s12 41 (by decide)]; exact h9⟩
    · obtain ⟨v, v1, v3, -⟩ := rk2 j hj
      omega
    · obtain ⟨v, v1, v3, v4⟩ := rk2 a ha
      obtain ⟨w, w1, w3, w4⟩ := rk2 b hb
      have hvw : v = w := by omega
      rw [v4, w4] at hvw
      unfold mv at hvw
      split at hvw <;> split at hvw <;> (try omega) <;> (repeat' split at hvw) <;> omega
  · refine ⟨⟨by rw [e42]; rfl, by rw [e42]; rfl, by rw [e42]; rfl, by rw [e42]; rfl, by omega⟩, fun x h => absurd h (by omega), fun x h => absurd h (by omega), fun x y h => absurd h (by omega), fun b _ => ?_, fun x h => absurd h (by omega), fun x h => absurd h (by omega)⟩
    rw [z 5 (by decide)]
    exact ⟨by omega, by omega, fun h => absurd h (by omega), fun z h => absurd h (by omega)⟩
  · exact ⟨by rw [z 40 (by decide)]; rfl, fun i h => absurd h (by omega), fun x => Or.inl (z 3 (by decide) x)⟩
theorem r_setUp {Q : Int → g_M → Prop} {a : Int} (kk : ∀ M', IN0 M' → Q 1 M') : F_L_setUp Q a M0 := by
  have h0 : DC M0 0 := by
    refine ⟨fun r i => ?_, SM.rf _ _, ⟨rfl, rfl, rfl, rfl⟩, fun j h => absurd h (by omega)⟩
    show -2147483648 ≤ (if r = 42 ∧ i = 12 then (4096 : Int) else if r = 46 ∧ i = 9 then -1 else 0) ∧ (if r = 42 ∧ i = 12 then (4096 : Int) else if r = 46 ∧ i = 9 then -1 else 0) ≤ 2147483647
    split
    · omega
    · split <;> omega
  have k92 : ∀ M, DC M 5 → F_L_setUp_92 Q a 1 M := fun M h => by
    obtain ⟨hR, hS, ⟨a1, a2, a3, a4⟩, hT⟩ := h
    unfold F_L_setUp_92
    refine r_below 5 (by omega) (by omega) (fun s hs => ?_)
    refine r_below 5 (by omega) (by omega) (fun r hr => ?_)
    have k129 : ∀ b : Int, isB b → F_L_setUp_129 Q a s r b M := fun b hb => by
      have bb : -2147483648 ≤ b ∧ b ≤ 2147483647 := by
        rcases hb with hb | hb <;> omega
      unfold F_L_setUp_129 F_X11_orderByWeight F_X7_isOrderFixed
      rw [a3]
      refine ⟨Or.inl rfl, fun _ => ?_, fun c => absurd (by decide) c⟩
      unfold F_X7_isByWeight
      rw [a2]
      refine ⟨Or.inl rfl, hb, Or.inl rfl, ?_⟩
      have s1 : SM [41] M (up M 41 9 b) := (SM.rf _ _).u (by decide)
      have k149 : ∀ d, isB d → F_L_setUp_149 Q s r 4 d (up M 41 9 b) := fun d hd => r_setUp149 (hR.u bb.1 bb.2) (hS.tr (s1.mono (by decide))) (by rw [up2 (by decide)]; exact a1) (by rw [up1]; exact hb) (by rw [up2 (by decide)]; exact a3) (fun j hj => by
        obtain ⟨-, -, t3, t4, t5, t6⟩ := hT j hj
        rw [s1 50 (by decide), s1 51 (by decide), s1 52 (by decide), s1 53 (by decide)]
        exact ⟨t3, t4, t5, t6⟩) hs hr hd kk
      exact ⟨fun _ => ⟨fun _ => k149 1 (Or.inr rfl), fun _ => k149 0 (Or.inl rfl)⟩, fun c => absurd (show bm 0 = 0 by decide) c⟩
    exact ⟨fun c => absurd c (by decide), fun _ => ⟨fun _ => k129 1 (Or.inr rfl), fun _ => k129 0 (Or.inl rfl)⟩⟩
  unfold F_L_setUp
  refine r_below 3 (by omega) (by omega) (fun v1 hv1 => ?_)
  refine r_declareL (k := 0) (w := 1 + (v1 : Int)) h0 (by omega) (by omega) (fun M1 h1 => ⟨fun _ => ?_, fun c => absurd (show bm ((0 : Nat) : Int) = 0 by decide) c⟩)
  refine r_declareL (k := 1) (w := 1) h1 (by omega) (by omega) (fun M2 h2 => ⟨fun _ => ?_, fun c => absurd (show bm ((1 : Nat) : Int) = bm 1 by decide) c⟩)
  refine r_declareL (k := 2) (w := 2) h2 (by omega) (by omega) (fun M3 h3 => ⟨fun _ => ?_, fun c => absurd (show bm ((2 : Nat) : Int) = bm 2 by decide) c⟩)
  unfold F_L_setUp_49
  refine ⟨fun c => absurd c (by decide), fun _ => ?_⟩
  refine r_below 3 (by omega) (by omega) (fun v9 hv9 => ?_)
  refine r_declareL (k := 3) (w := 1 + (v9 : Int)) h3 (by omega) (by omega) (fun M4 h4 => ⟨fun _ => ?_, fun c => absurd (show bm ((3 : Nat) : Int) = bm 3 by decide) c⟩)
  refine r_declareL (k := 4) (w := 1) h4 (by omega) (by omega) (fun M5 h5 => ⟨fun _ => k92 M5 h5, fun c => absurd (show bm ((4 : Nat) : Int) = bm 4 by decide) c⟩)
end Y6
