section P8
def SK (M : g_M) (n c D x0 : Nat) (P : Nat → Prop) : Prop := (∀ i, i < D → ∃ y : Nat, y < n ∧ M 61 i = (y : Int) ∧ M 2 y % 512 / 2 + (i : Int) ≤ 60 ∧ P y ∧ ¬ inW M c y) ∧ (∀ i j, i < j → j < D → M 61 j < M 61 i) ∧ (0 < D → M 61 0 = (x0 : Int)) ∧ (D = 0 → inW M c x0)
theorem inW_wl {M : g_M} {n c : Nat} (hK : WK M n c) (y : Nat) : y ∈ wl M c ↔ inW M c y := by
  rw [wl_mem]
  constructor
  · rintro ⟨i, h1, h2⟩
    obtain ⟨z, -, z2, -⟩ := hK.2.2 i h1
    exact ⟨i, h1, by omega⟩
  · rintro ⟨i, h1, h2⟩
    exact ⟨i, h1, by omega⟩
theorem r_add_26 {M0 : g_M} {n m c0 x0 : Nat} {Q : g_M → Prop} {P : Nat → Prop} {F : List Nat}
    (hP : ∀ z, z < n → P z → ∀ j, j < arN (sg M0 z) → ∀ p : Nat, M0 1 (3 * z + j) = (p : Int) → P p) (hc0 : ∀ i, i < c0 → 0 ≤ M0 7 i)
    (k : ∀ (c' : Nat) (M' : g_M), RG M' → WK M' n c' → c0 ≤ c' → (∀ i, i < c0 → M' 7 i = M0 7 i) → inW M' c' x0 → (∀ i, i < c' → c0 ≤ i → ∃ y : Nat, M' 7 i = (y : Int) ∧ P y) → SM [6, 7, 43, 61] M0 M' → wl M' c' = F → Q M') :
    ∀ (f : Nat) (M : g_M) (c D i : Nat) (x2 : Int), x2 = (D : Int) - 1 → WF M n m → WK M n c → SK M n c D x0 P → c0 ≤ c → (∀ i, i < c0 → M 7 i = M0 7 i) → (∀ i, i < c → c0 ≤ i → ∃ y : Nat, M 7 i = (y : Int) ∧ P y) → SM [6, 7, 43, 61] M0 M → stF M D (wl M c) = F → 2 * (n - c) + 61 - D < f → i + (2 * (n - c) + 61 - D) < 1000000 → F_X10_add_26 Q f x2 i M := by
  intro f
  induction f with
  | zero => intros; omega
  | succ f ih =>
    intro M c D i x2 e2 hW hK hS h1 h2 h3 h4 hF h5 h6
    have hp : PLt M n := hW.st.plt
    have t5 := hW.st.1.2.2.2.2
    have hc := hK.2.1
    obtain ⟨s1, s2, s3, s4⟩ := hS
    have hD : D ≤ 61 := by
      rcases Nat.eq_zero_or_pos D with h0 | h0
      · omega
      · obtain ⟨y, y1, y2, y3, -⟩ := s1 (D - 1) (by omega)
        have h2y := (hW.st.2.2.2.2.2.2 y y1).1
        omega
    unfold F_X10_add_26
    rw [bq (x := (i : Int)) (by omega) (by omega), show bm 1048576 = 1048576 by decide, e2, bq (x := (D : Int) - 1) (by omega) (by omega)]
    refine ⟨fun _ => ⟨fun c9 => ?_, fun c9 => ⟨fun c8 => ?_, fun c8 => ?_⟩⟩, fun c9 => by omega⟩
    · have hD0 : D = 0 := by omega
      exact k c M hW.rg hK h1 h2 (s4 hD0) h3 h4 (by rw [hD0] at hF; exact hF)
    · obtain ⟨d, rfl⟩ : ∃ d, D = d + 1 := ⟨D - 1, by omega⟩
      obtain ⟨y, y1, y2, y3, y4, y5⟩ := s1 d (by omega)
      have h2y := (hW.st.2.2.2.2.2.2 y y1).1
      rw [show (((d + 1 : Nat) : Int) - 1) = (d : Int) by omega]
      refine ⟨ink d rfl (by omega) (by omega), ?_⟩
      rw [Int.toNat_natCast, y2]
      have m0 : M 0 = M0 0 := h4 0 (by decide)
      have m1 : M 1 = M0 1 := h4 1 (by decide)
      refine r_firstUnlisted hW hK y y1 (fun hall => ⟨fun _ => ⟨ink d rfl (by omega) (by omega), ?_⟩, fun c7 => absurd rfl c7⟩) (fun j p hj hpy hpe hfst hno => ⟨fun c7 => ?_, fun c7 => ⟨ink (d + 1) (by omega) (by omega) (by omega), ?_⟩⟩)
      · rw [y2]
        refine r_append hW hK y y1 hall (fun h => absurd h y5) (fun _ M' g1 g2 g3 g4 g5 => ?_)
        unfold F_X10_add_90
        have hin : ∀ v, inW M' (c + 1) v → inW M c v ∨ v = (y : Int) := fun v ⟨q, q1, q2⟩ => by
          by_cases hqc : q = c
          · subst hqc
            exact Or.inr (q2.symm.trans g4)
          · exact Or.inl ⟨q, by omega, by rw [← g3 q (by omega), q2]⟩
        have m61 : M' 61 = M 61 := g5 61 (by decide)
        have m2 : M' 2 = M 2 := g5 2 (by decide)
        rw [show (i : Int) + 1 = ((i + 1 : Nat) : Int) by omega]
        refine ih M' (c + 1) d (i + 1) ((d : Int) + (-1)) (by omega) (hW.cong g1 g5 (by decide)) g2 ⟨fun q hq => ?_, fun q r hqr hr => ?_, fun hd => ?_, fun hd => ?_⟩ (by omega) (fun q hq => ?_) (fun q hq hcq => ?_) (h4.tr (g5.mono (by decide))) ?_ ?_ ?_
        · obtain ⟨z, z1, z2, z3, z4, z5⟩ := s1 q (by omega)
          rw [m61, m2]
          refine ⟨z, z1, z2, z3, z4, fun hz => ?_⟩
          rcases hin _ hz with h | h
          · exact z5 h
          · have := s2 q d (by omega) (by omega)
            omega
        · rw [m61]
          exact s2 q r hqr (by omega)
        · rw [m61]
          exact s3 (by omega)
        · subst hd
          exact ⟨c, by omega, by rw [g4, ← y2, s3 (by omega)]⟩
        · rw [g3 q (by omega), h2 q hq]
        · by_cases hqc : q = c
          · subst hqc
            exact ⟨y, g4, y4⟩
          · rw [g3 q (by omega)]
            exact h3 q (by omega) hcq
        · have hny : y ∉ wl M c := fun h => y5 ((inW_wl hK y).1 h)
          have hpl := post_last hp (L := wl M c) y1 hny (fun i hi => by
            obtain ⟨q, q1, q2⟩ := hall i hi
            exact (wl_mem c).2 ⟨q, q1, by unfold pn; rw [q2]⟩)
          have e1 : wl M' (c + 1) = wl M c ++ [y] := by
            show wl M' c ++ [(M' 7 c).toNat] = _
            rw [wl_same c g3, g4, Int.toNat_natCast]
          rw [e1, ← hpl, stF_fun (g5 0 (by decide)) (g5 1 (by decide)) d (fun i _ => by rw [m61]), ← hF]
          show stF M d (post M (wl M c) y) = stF M d (post M (wl M c) (M 61 d).toNat)
          rw [y2, Int.toNat_natCast]
        · have := g2.2.1
          omega
        · have := g2.2.1
          omega
      · exfalso
        rw [bq (x := (p : Int)) (by omega) (by omega)] at c7
        rw [show bm (-1) = -1 by decide] at c7
        omega
      · unfold F_X10_add_90
        rw [bnat (d + 1) (by omega) (by omega), show (i : Int) + 1 = ((i + 1 : Nat) : Int) by omega]
        have v : ∀ q, up M 61 (d + 1) (p : Int) 61 q = if q = d + 1 then (p : Int) else M 61 q := fun q => by rw [upi]; simp
        have hS1 : SM [6, 7, 43, 61] M (up M 61 (d + 1) (p : Int)) := (SM.rf _ _).u (by decide)
        have hS2 : SM [61] M (up M 61 (d + 1) (p : Int)) := (SM.rf _ _).u (by decide)
        have hR := hW.rg.u (a := 61) (i := d + 1) (v := (p : Int)) (by omega) (by omega)
        have hW' := hW.cong hR hS1 (by decide)
        have e7 : ∀ q, up M 61 (d + 1) (p : Int) 7 q = M 7 q := fun q => by rw [hS2 7 (by decide)]
        have ein : ∀ cc v, inW (up M 61 (d + 1) (p : Int)) cc v ↔ inW M cc v := fun cc v => by
          unfold inW
          rw [hS2 7 (by decide)]
        obtain ⟨p', p1', p2', p3'⟩ := hW.st.pt y1 hj
        have hpp : p' = p := by omega
        subst hpp
        have hP' : P p' := hP y y1 y4 j (by rw [← show sg M y = sg M0 y by unfold sg; rw [m0]]; exact hj) p' (by rw [← m1]; exact hpe)
        refine ih _ c (d + 2) (i + 1) _ (by omega) hW' (hK.cong hW.st (Nat.le_refl _) (EX.of (hS2 0 (by decide)) (hS2 1 (by decide)) (hS2 2 (by decide))) (hS2 6 (by decide)) (hS2 7 (by decide)) (by rw [hS2 43 (by decide)])) ⟨fun q hq => ?_, fun q r hqr hr => ?_, fun hd => ?_, fun hd => absurd hd (by omega)⟩ h1 (fun q hq => ?_) (fun q hq hcq => ?_) (h4.tr hS1) ?_ ?_ ?_
        · rw [v, hS2 2 (by decide)]
          by_cases hqd : q = d + 1
          · rw [if_pos hqd]
            exact ⟨p', by omega, rfl, by have := p3' (by omega); omega, hP', by rw [ein]; exact hno⟩
          · rw [if_neg hqd]
            obtain ⟨z, z1, z2, z3, z4, z5⟩ := s1 q (by omega)
            exact ⟨z, z1, z2, z3, z4, by rw [ein]; exact z5⟩
        · rw [v, v]
          by_cases hrd : r = d + 1
          · rw [if_pos hrd, if_neg (by omega)]
            by_cases hqd : q = d
            · rw [hqd, y2]
              omega
            · have := s2 q d (by omega) (by omega)
              omega
          · rw [if_neg hrd, if_neg (by omega)]
            exact s2 q r hqr (by omega)
        · rw [v, if_neg (by omega)]
          exact s3 (by omega)
        · rw [e7]
          exact h2 q hq
        · rw [e7]
          exact h3 q hq hcq
        · have hny : y ∉ wl M c := fun h => y5 ((inW_wl hK y).1 h)
          have epn : pn M y j = p' := by unfold pn; rw [p2', Int.toNat_natCast]
          have hps := post_push hp (L := wl M c) y1 hj hny (fun i hi => by
            obtain ⟨q, q1, q2⟩ := hfst i hi
            exact (wl_mem c).2 ⟨q, q1, by unfold pn; rw [q2]⟩)
          rw [epn] at hps
          rw [wl_same c (fun i _ => e7 i), ← hF]
          show stF (up M 61 (d + 1) (p' : Int)) (d + 1) (post (up M 61 (d + 1) (p' : Int)) (wl M c) (up M 61 (d + 1) (p' : Int) 61 (d + 1)).toNat) = stF M d (post M (wl M c) (M 61 d).toNat)
          rw [up1, Int.toNat_natCast, post_fun (hS2 0 (by decide)) (hS2 1 (by decide)), stF_fun (hS2 0 (by decide)) (hS2 1 (by decide)) (d + 1) (fun i hi => by rw [v, if_neg (by omega)])]
          show stF M d (post M (post M (wl M c) p') (M 61 d).toNat) = stF M d (post M (wl M c) (M 61 d).toNat)
          rw [y2, Int.toNat_natCast, hps]
        · omega
        · omega
    · exfalso
      rw [bq (x := (D : Int) - 1 + 1) (by omega) (by omega), show bm 256 = 256 by decide] at c8
      omega
theorem r_add {M : g_M} {n m c : Nat} {Q : g_M → Prop} (P : Nat → Prop) (hW : WF M n m) (hK : WK M n c) (x : Nat) (hx : x < n) (hh : M 2 x % 512 / 2 ≤ 60) (hPx : P x)
    (hP : ∀ z, z < n → P z → ∀ j, j < arN (sg M z) → ∀ p : Nat, M 1 (3 * z + j) = (p : Int) → P p)
    (k : ∀ (c' : Nat) (M' : g_M), RG M' → WK M' n c' → c ≤ c' → (∀ i, i < c → M' 7 i = M 7 i) → inW M' c' x → (∀ i, i < c' → c ≤ i → ∃ y : Nat, M' 7 i = (y : Int) ∧ P y) → SM [6, 7, 43, 61] M M' → wl M' c' = post M (wl M c) x → Q M') : F_X10_add Q x M := by
  have t5 := hW.st.1.2.2.2.2
  have hc := hK.2.1
  have h7 : ∀ i, i < c → 0 ≤ M 7 i := fun i hi => by
    obtain ⟨y, -, y2, -⟩ := hK.2.2 i hi
    omega
  unfold F_X10_add
  rw [bq (x := (x : Int)) (by omega) (by omega)]
  refine ⟨fun c9 => by omega, fun _ => ?_⟩
  refine r_indexOf hW.rg hK t5 x (by omega) (fun i hi e => ⟨fun c9 => ?_, fun _ => ?_⟩) (fun hno => ⟨fun _ => ⟨ink 0 rfl (by omega) (by omega), ?_⟩, fun c9 => absurd rfl c9⟩)
  · rw [bq (x := (i : Int)) (by omega) (by omega), show bm (-1) = -1 by decide] at c9
    omega
  · refine ⟨20000, ?_⟩
    exact r_add_26 (P := P) (F := wl M c) hP h7 (fun c' M' g1 g2 g3 g4 g5 g6 g7 g8 => k c' M' g1 g2 g3 g4 g5 g6 g7 (by rw [g8, post_in ((inW_wl hK x).2 ⟨i, hi, e⟩)])) 20000 M c 0 0 (-1) rfl hW hK ⟨fun i h => absurd h (by omega), fun i j h1 h2 => absurd h2 (by omega), fun h => absurd h (by omega), fun _ => ⟨i, hi, e⟩⟩ (Nat.le_refl _) (fun _ _ => rfl) (fun i h1 h2 => absurd h1 (by omega)) (SM.rf _ _) rfl (by omega) (by omega)
  · rw [show (bm 0).toNat = 0 by decide]
    have hS2 : SM [61] M (up M 61 0 (x : Int)) := (SM.rf _ _).u (by decide)
    have hR := hW.rg.u (a := 61) (i := 0) (v := (x : Int)) (by omega) (by omega)
    have hW' := hW.cong hR hS2 (by decide)
    have e7 : ∀ q, up M 61 0 (x : Int) 7 q = M 7 q := fun q => by rw [hS2 7 (by decide)]
    have e1 : ∀ q, up M 61 0 (x : Int) 1 q = M 1 q := fun q => by rw [hS2 1 (by decide)]
    have e0 : ∀ q, sg (up M 61 0 (x : Int)) q = sg M q := fun q => by unfold sg; rw [hS2 0 (by decide)]
    refine ⟨20000, ?_⟩
    refine r_add_26 (P := P) (F := post M (wl M c) x) (c0 := c) (x0 := x) (n := n) (m := m) (M0 := up M 61 0 (x : Int)) (fun z hz hp j hj p hpp => hP z hz hp j (by rw [← e0]; exact hj) p (by rw [← e1]; exact hpp)) (fun i hi => by rw [e7]; exact h7 i hi) (fun c' M' g1 g2 g3 g4 g5 g6 g7 g8 => k c' M' g1 g2 g3 (fun i hi => by rw [g4 i hi, e7]) g5 g6 ((hS2.mono (by decide)).tr g7) g8) 20000 _ c 1 0 0 rfl hW' (hK.cong hW.st (Nat.le_refl _) (EX.of (hS2 0 (by decide)) (hS2 1 (by decide)) (hS2 2 (by decide))) (hS2 6 (by decide)) (hS2 7 (by decide)) (by rw [hS2 43 (by decide)])) ⟨fun i h => ?_, fun i j h1 h2 => absurd h2 (by omega), fun _ => up1 _ _ _ _, fun h => absurd h (by omega)⟩ (Nat.le_refl _) (fun _ _ => rfl) (fun i h1 h2 => absurd h1 (by omega)) (SM.rf _ _) (by show post (up M 61 0 (x : Int)) (wl (up M 61 0 (x : Int)) c) (up M 61 0 (x : Int) 61 0).toNat = _; rw [up1, Int.toNat_natCast, post_fun (hS2 0 (by decide)) (hS2 1 (by decide)), wl_same c (fun i _ => e7 i)]) (by omega) (by omega)
    have : i = 0 := by omega
    subst this
    refine ⟨x, hx, up1 _ _ _ _, ?_, hPx, ?_⟩
    · rw [hS2 2 (by decide)]
      omega
    · unfold inW at hno ⊢
      rw [hS2 7 (by decide)]
      exact hno
/-- the place of an entry's part -/
theorem r_partOf {M : g_M} {n m c : Nat} {Q : Int → g_M → Prop} (hW : WF M n m) (hK : WK M n c) (i x j : Nat) (hi : i < c) (ex : M 7 i = (x : Int)) (hj : j < arN (sg M x)) (k : ∀ i' : Nat, i' < i → M 7 i' = M 1 (3 * x + j) → Q i' M) : F_X10_partOf Q i j M := by
  obtain ⟨y, y1, y2, y3, y4⟩ := hK.2.2 i hi
  have hxy : x = y := by omega
  subst hxy
  have t5 := hW.st.1.2.2.2.2
  have hc := hK.2.1
  have hr := arN_le (sg M x)
  unfold F_X10_partOf
  rw [rgn i (by omega), y2]
  refine r_part x j (by omega) (by omega) ?_
  obtain ⟨i', h1, h2⟩ := y4 j hj
  obtain ⟨p, p1, p2, -⟩ := hW.st.pt y1 hj
  rw [p2]
  rw [p2] at h2
  refine r_indexOf hW.rg hK t5 p (by omega) (fun i2 q1 q2 => ?_) (fun hno => absurd ⟨i', by omega, h2⟩ hno)
  have : i2 = i' := by
    obtain ⟨a, a1, a2, a3, -⟩ := hK.2.2 i2 q1
    obtain ⟨b, b1, b2, b3, -⟩ := hK.2.2 i' (by omega)
    have : a = b := by omega
    subst this
    omega
  subst this
  exact k i2 h1 (by rw [h2, p2])
end P8
