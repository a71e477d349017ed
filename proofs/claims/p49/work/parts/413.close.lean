section Q3
theorem r_count {M : g_M} {Q : Int → g_M → Prop} {c : Nat} (h : M 43 6 = (c : Int)) (k : Q c M) : F_X10_count Q M := by
  unfold F_X10_count
  rw [h]
  exact k
theorem r_joinTwins_61 {M0 M : g_M} {Q : Int → g_M → Prop} {k29 : Int → Int → g_M → Prop} {c i bk : Nat} {x1 : Int} (hc : c ≤ 1000) (hX : CX M0 c) (hP : PI M0 M c i x1) (hi : i < c) (hbk : bk < 64) (ebk : hb M i = (bk : Int))
    (k : ∀ (M' : g_M) (x1' : Int), PI M0 M' c (i + 1) x1' → k29 x1' ((i + 1 : Nat) : Int) M') :
    ∀ (f : Nat) (x4 : Int) (x5 : Nat), -1 ≤ x4 → x4 < i → (0 ≤ x4 → M 27 x4.toNat = 0) → (x5 : Int) + x4 + 1 ≤ i → x4 + 1 < f → (x1 = 0 → (0 ≤ x4 → hb M x4.toNat = (bk : Int)) ∧ ∀ z : Nat, z < i → M 27 z = 0 → tw M i z → (z : Int) ≤ x4) → F_X1_joinTwins_61 Q k29 f x1 i bk x4 x5 M := by
  have hP' := hP
  obtain ⟨⟨hR, hL, hS⟩, hsnd, hmon, hx1, hB1, hB2⟩ := hP'
  have h43 : M 43 6 = (c : Int) := by rw [hS 43 (by decide)]; exact hX.1
  intro f
  induction f with
  | zero => intros; omega
  | succ f ih =>
    intro x4 x5 h1 h2 h3 h4 h5 h6
    unfold F_X1_joinTwins_61
    refine r_count h43 ?_
    rw [bq (x := (x5 : Int)) (by omega) (by omega), bq (x := (c : Int)) (by omega) (by omega), bq (x := x4) (by omega) (by omega)]
    refine ⟨fun _ => ⟨fun c9 => ?_, fun c9 => ?_⟩, fun c9 => absurd c9 (by omega)⟩
    · have : x4 = -1 := by omega
      subst this
      exact r_joinTwins_107 hc hX hP hi hbk ebk (Or.inl rfl) (fun h0 _ z hz hz27 ht => by have := (h6 h0).2 z hz hz27 ht; omega) k
    · obtain ⟨r, rfl⟩ : ∃ r : Nat, x4 = (r : Int) := ⟨x4.toNat, by omega⟩
      rw [Int.toNat_natCast] at h3 h6
      refine r_areTwins hR i r (by omega) (by omega) (fun ht => ⟨fun c8 => absurd c8 (by decide), fun _ => ?_⟩) (fun ht => ⟨fun _ => ?_, fun c8 => absurd rfl c8⟩)
      · exact r_joinTwins_107 hc hX hP hi hbk ebk (Or.inr ⟨r, by omega, rfl, h3 (by omega), ht⟩) (fun _ h => absurd h (by omega)) k
      · obtain ⟨p1, p2, p3⟩ := hB2 r (by omega) (h3 (by omega))
        rw [rgn r (by omega), show (x5 : Int) + 1 = ((x5 + 1 : Nat) : Int) by omega]
        refine ih (M 31 r - 1) (x5 + 1) (by omega) (by omega) (fun hp => p3 (by omega)) (by omega) (by omega) (fun h0 => ?_)
        rcases hx1 with ⟨h, -⟩ | ⟨-, -, f1, f2, f3, f4, f5⟩
        · omega
        · obtain ⟨g1, g2⟩ := h6 h0
          have hbr := g1 (by omega)
          obtain ⟨q1, q2⟩ := f3 r (by omega) (h3 (by omega))
          refine ⟨fun hp => by rw [q1 (by omega), hbr], fun z hz hz27 hzt => ?_⟩
          have hzr := g2 z hz hz27 hzt
          have hzn : z ≠ r := fun e => ht (e ▸ hzt)
          have := q2 z (by omega) hz27 (by rw [hbr, ← ebk, hzt.hq])
          omega
theorem r_joinTwins_29 {M0 : g_M} {Q : Int → g_M → Prop} {c : Nat} (hc : c ≤ 1000) (hX : CX M0 c)
    (k : ∀ (M' : g_M) (x1' : Int), PI M0 M' c c x1' → Q x1' M') : ∀ (f i : Nat) (M : g_M) (x1 : Int), i ≤ c → c - i < f → PI M0 M c i x1 → F_X1_joinTwins_29 Q f x1 i M := by
  intro f
  induction f with
  | zero => intros; omega
  | succ f ih =>
    intro i M x1 h1 h2 hP
    have hP' := hP
    obtain ⟨⟨hR, hL, hS⟩, hsnd, hmon, hx1, hB1, hB2⟩ := hP'
    have h43 : M 43 6 = (c : Int) := by rw [hS 43 (by decide)]; exact hX.1
    have h47 : M 47 10 = 64 := by rw [hS 47 (by decide)]; exact hX.2.1
    unfold F_X1_joinTwins_29
    refine r_count h43 ?_
    rw [bq (x := (i : Int)) (by omega) (by omega), bq (x := (c : Int)) (by omega) (by omega)]
    refine ⟨fun hi => ?_, fun hi => ?_⟩
    · refine r_cbucket i (by omega) h47 ?_
      obtain ⟨bk, hbk, ebk⟩ := hb_in M i
      rw [ebk]
      obtain ⟨p1, p2, p3⟩ := hB1 bk hbk
      refine ⟨i + 2, ?_⟩
      rw [rgn bk (by omega)]
      refine r_joinTwins_61 hc hX hP (by omega) hbk ebk (fun M' x1' g => ih (i + 1) M' x1' (by omega) (by omega) g) (i + 2) (M 30 bk - 1) 0 (by omega) (by omega) (fun hp => p3 (by omega)) (by omega) (by omega) (fun h0 => ?_)
      rcases hx1 with ⟨h, -⟩ | ⟨-, -, f1, f2, f3, f4, f5⟩
      · omega
      · obtain ⟨q1, q2⟩ := f2 bk hbk
        refine ⟨fun hp => q1 (by omega), fun z hz hz27 hzt => ?_⟩
        have := q2 z hz hz27 (by rw [← ebk, hzt.hq])
        omega
    · have hic : i = c := by omega
      rw [hic] at hP
      refine ⟨?_, k M x1 hP⟩
      rcases hx1 with ⟨h, -⟩ | ⟨h, -⟩
      · exact Or.inr h
      · exact Or.inl h
theorem r_joinTwins_4 {M0 : g_M} {Q : Int → g_M → Prop} {c : Nat} (hc : c ≤ 1000) (hX : CX M0 c)
    (k : ∀ (M' : g_M) (x1' : Int), PI M0 M' c c x1' → Q x1' M') : ∀ (f b : Nat) (M : g_M), b ≤ 64 → 64 - b < f → RG M → CL M c → SM [30] M0 M → (∀ b', b' < b → M 30 b' = 0) → F_X1_joinTwins_4 Q f 0 b M := by
  intro f
  induction f with
  | zero => intros; omega
  | succ f ih =>
    intro b M h1 h2 hR hL hS hz
    have h47 : M 47 10 = 64 := by rw [hS 47 (by decide)]; exact hX.2.1
    unfold F_X1_joinTwins_4
    rw [h47, bq (x := (b : Int)) (by omega) (by omega), show bm 64 = 64 by decide]
    refine ⟨fun hb' => ⟨okk b rfl (by show b < 16384; omega), ?_⟩, fun hb' => ?_⟩
    · rw [rsk b rfl (by omega), show (b : Int) + 1 = ((b + 1 : Nat) : Int) by omega]
      have hS1 : SM [30] M (up M 30 b 0) := (SM.rf _ _).u (by decide)
      refine ih (b + 1) _ (by omega) (by omega) (hR.u (by omega) (by omega)) (hL.cong (hS1 24 (by decide)) (hS1 25 (by decide)) (hS1 26 (by decide))) (hS.tr hS1) (fun b' hb2 => ?_)
      rw [upi]
      by_cases hbb : b' = b
      · rw [if_pos ⟨rfl, hbb⟩]
      · rw [if_neg (fun e => hbb e.2)]
        exact hz b' (by omega)
    · refine ⟨c + 1, ?_⟩
      have e24 : M 24 = M0 24 := hS 24 (by decide)
      refine r_joinTwins_29 hc hX k (c + 1) 0 M 0 (by omega) (by omega) ⟨⟨hR, hL, hS.mono (by decide)⟩, fun E g1 g2 => ?_, fun a b ha hb2 e => ?_, Or.inr ⟨rfl, e24, fun q hq => absurd hq (by omega), fun b' hb2 => ⟨fun hp => ?_, fun q hq => absurd hq (by omega)⟩, fun q hq => absurd hq (by omega), fun q r hq => absurd hq (by omega), fun q hq => absurd hq (by omega)⟩, fun b' hb2 => ?_, fun q hq => absurd hq (by omega)⟩
      · unfold SO
        rw [e24]
        exact g2
      · rw [e24]
        exact e
      · rw [hz b' (by omega)] at hp
        omega
      · rw [hz b' (by omega)]
        exact ⟨by omega, by omega, fun hp => absurd hp (by omega)⟩
theorem r_joinTwins {M : g_M} {Q : Int → g_M → Prop} {c : Nat} (hc : c ≤ 1000) (hR : RG M) (hL : CL M c) (hX : CX M c)
    (k : ∀ (M' : g_M) (x1' : Int), PI M M' c c x1' → Q x1' M') : F_X1_joinTwins Q M := by
  unfold F_X1_joinTwins
  exact ⟨65, r_joinTwins_4 hc hX k 65 0 M (by omega) (by omega) hR hL (SM.rf _ _) (fun b h => absurd h (by omega))⟩
theorem r_close_2 {M0 : g_M} {Q : g_M → Prop} {c : Nat} (hc : c ≤ 1000) (hX : CX M0 c)
    (k : ∀ M' : g_M, RG M' → CL M' c → SM [24, 25, 26, 27, 30, 31] M0 M' → (∀ E, EC E M0 c → SO E M0 c → SO E M' c) → (∀ a b, a < c → b < c → M0 24 a = M0 24 b → M' 24 a = M' 24 b) → FU M' c → Q M') :
    ∀ (f i : Nat) (M : g_M), rts (M 24) c + i ≤ c → c - i < f → RG M → CL M c → SM [24, 25, 26, 27, 30, 31] M0 M → (∀ E, EC E M0 c → SO E M0 c → SO E M c) → (∀ a b, a < c → b < c → M0 24 a = M0 24 b → M 24 a = M 24 b) → F_X1_close_2 Q f i M := by
  intro f
  induction f with
  | zero => intros; omega
  | succ f ih =>
    intro i M h1 h2 hR hL hS hsnd hmon
    have h43 : M 43 6 = (c : Int) := by rw [hS 43 (by decide)]; exact hX.1
    unfold F_X1_close_2
    refine r_count h43 ?_
    rw [bq (x := (i : Int)) (by omega) (by omega), bq (x := (c : Int)) (by omega) (by omega)]
    refine ⟨fun c9 => by omega, fun _ => ?_⟩
    have m28 : M 28 = M0 28 := hS 28 (by decide)
    have m29 : M 29 = M0 29 := hS 29 (by decide)
    have hXM : CX M c := hX.cong (hS 43 (by decide)) (hS 47 (by decide)) m28 m29
    refine r_joinTwins hc hR hL hXM (fun M' x1' hP => ?_)
    obtain ⟨⟨hR', hL', hS'⟩, hsnd', hmon', hx1, hB1, hB2⟩ := hP
    have A1 := hS.tr hS'
    have A2 : ∀ E, EC E M0 c → SO E M0 c → SO E M' c := fun E g1 g2 => hsnd' E (g1.cong m28 m29) (hsnd E g1 g2)
    have A3 : ∀ a b, a < c → b < c → M0 24 a = M0 24 b → M' 24 a = M' 24 b := fun a b ha hb' e => hmon' a b ha hb' (hmon a b ha hb' e)
    rcases hx1 with ⟨rfl, hlt⟩ | ⟨rfl, -, hF⟩
    · refine ⟨fun c8 => absurd c8 (by decide), fun _ => ?_⟩
      rw [show (i : Int) + 1 = ((i + 1 : Nat) : Int) by omega]
      exact ih (i + 1) M' (by omega) (by omega) hR' hL' A1 A2 A3
    · exact ⟨fun _ => k M' hR' hL' A1 A2 A3 hF, fun c8 => absurd rfl c8⟩
/-- the closure -/
theorem r_close {M : g_M} {Q : g_M → Prop} {c : Nat} (hc : c ≤ 1000) (hX : CX M c) (hR : RG M) (hL : CL M c)
    (k : ∀ M' : g_M, RG M' → CL M' c → SM [24, 25, 26, 27, 30, 31] M M' → (∀ E, EC E M c → SO E M c → SO E M' c) → (∀ a b, a < c → b < c → M 24 a = M 24 b → M' 24 a = M' 24 b) → FU M' c → Q M') : F_X1_close Q M := by
  unfold F_X1_close
  refine ⟨c + 1, r_close_2 hc hX k (c + 1) 0 M ?_ (by omega) hR hL (SM.rf _ _) (fun _ _ h => h) (fun _ _ _ _ h => h)⟩
  exact rts_c _ _
/-- what is closed -/
theorem FU.closed {M : g_M} {c : Nat} (hF : FU M c) {i j : Nat} (hi : i < c) (hj : j < c) (ht : tw M i j) : M 24 i = M 24 j := by
  obtain ⟨f1, f2, f3, f4, f5⟩ := hF
  have rep : ∀ q, q < c → ∃ r, r < c ∧ M 27 r = 0 ∧ tw M q r ∧ M 24 q = M 24 r := fun q hq => by
    rcases f1 q hq with h | h
    · exact ⟨q, hq, h, ⟨rfl, fun _ _ => rfl⟩, rfl⟩
    · obtain ⟨r, r1, r2, r3, r4⟩ := f5 q hq h
      exact ⟨r, by omega, r2, r3, r4⟩
  obtain ⟨a, a1, a2, a3, a4⟩ := rep i hi
  obtain ⟨b, b1, b2, b3, b4⟩ := rep j hj
  have := f4 a b a1 b1 a2 b2 ((a3.sy.tr ht).tr b3)
  subst this
  rw [a4, b4]
theorem FU.closed' {M : g_M} {c : Nat} (hF : FU M c) (hX : CX M c) {i j : Nat} (hi : i < c) (hj : j < c) (hc : c ≤ 1000) (h28 : M 28 i = M 28 j) (hp : ∀ p a b : Nat, p < arN (M 28 i).toNat → M 29 (3 * i + p) = (a : Int) → M 29 (3 * j + p) = (b : Int) → M 24 a = M 24 b) : M 24 i = M 24 j := by
  refine hF.closed hi hj ⟨h28, fun p hp3 => ?_⟩
  have hpi := (hX.2.2 i hi).2 p hp3
  have hpj := (hX.2.2 j hj).2 p hp3
  rw [← h28] at hpj
  unfold lp
  by_cases hpa : p < arN (M 28 i).toNat
  · obtain ⟨a, a1, a2⟩ := hpi.1 hpa
    obtain ⟨b, b1, b2⟩ := hpj.1 hpa
    rw [a2, b2, rgn a (by omega), rgn b (by omega)]
    exact hp p a b hpa a2 b2
  · rw [hpi.2 hpa, hpj.2 hpa]
end Q3
