section V9
theorem FU.cong {M M' : g_M} {c : Nat} (h : FU M c) (h24 : M' 24 = M 24) (h27 : M' 27 = M 27) (h28 : M' 28 = M 28) (h29 : M' 29 = M 29) (h30 : M' 30 = M 30) (h31 : M' 31 = M 31) : FU M' c := by
  unfold FU at h ⊢
  rw [h27, h30, h31, h24]
  simp only [hb.cong h24 h28 h29, tw.cong h24 h28 h29]
  exact h
theorem EC.rf {E : Nat → Nat → Prop} {M : g_M} {c : Nat} (h : EC E M c) (hX : CX M c) : ∀ i, i < c → E i i := by
  intro i
  induction i using Nat.strongRecOn with
  | _ i ih =>
    intro hi
    refine h.2.2 i i hi hi rfl (fun p a b hp ha hb => ?_)
    have hr := arN_le (M 28 i).toNat
    obtain ⟨k, k1, k2⟩ := ((hX.2.2 i hi).2 p (by omega)).1 hp
    have e1 : a = k := by omega
    have e2 : b = k := by omega
    rw [e1, e2]
    exact ih k k1 (by omega)
/-- the state behind the ranking in complete -/
def CERT (M : g_M) (n m n0 c ec G t : Nat) (P : Nat → Nat) (U : Nat → Bool) : Prop :=
  (WF M n m ∧ WK M n c ∧ UE M n0 c ∧ wl M c = wlE M ec ∧ c ≤ n0) ∧ (CL M c ∧ CX M c ∧ FU M c) ∧
  (∀ q, q < c → M 28 q = M 0 (nd M q) ∧ ∀ p, p < 3 → PR M M (nd M q) q p) ∧
  ((∀ E : Nat → Nat → Prop, EC E M c → EQP M c ec E → SO E M c) ∧ EQP M c ec (fun a b => M 24 a = M 24 b) ∧ ∀ e, e < ec → inW M c (eL M e) ∧ inW M c (eR M e)) ∧
  (GS M c G ∧ PG M M P G c ∧ G ≤ c) ∧ RI M c G 0 t U ∧ LU M G U 0 (-1) ∧ M 44 19 = M 41 9
theorem wlE_fun {M M' : g_M} (h0 : M' 0 = M 0) (h1 : M' 1 = M 1) (h55 : M' 55 = M 55) (h56 : M' 56 = M 56) : ∀ e, wlE M' e = wlE M e := by
  intro e
  induction e with
  | zero => rfl
  | succ e ih =>
    show post M' (post M' (wlE M' e) (eL M' e)) (eR M' e) = post M (post M (wlE M e) (eL M e)) (eR M e)
    rw [ih, post_fun h0 h1, post_fun h0 h1]
    unfold eL eR
    rw [h55, h56]
theorem r_completeA {M : g_M} {Q : Int → g_M → Prop} {n m n0 ec : Nat} (hW : WF M n m) (hn : n ≤ 2900) (h60 : n0 ≤ 60) (hn0 : n0 ≤ n) (hH : HT M n0) (hQ : EQO M n0 ec)
    (k : ∀ (c G t : Nat) (P : Nat → Nat) (U : Nat → Bool) (M' : g_M), SM [6, 7, 10, 11, 12, 13, 14, 15, 16, 17, 18, 19, 20, 21, 22, 24, 25, 26, 27, 28, 29, 30, 31, 43, 44, 47, 61] M M' → CERT M' n m n0 c ec G t P U → ∃ n9, F_X9_complete_41 Q n9 0 M') : F_X9_complete Q M := by
  unfold F_X9_complete
  refine r_gather hW hn h60 hn0 hH hQ (fun c Mw M1 hG => ?_)
  obtain ⟨⟨g1, g2, g3, g4, g5, g6⟩, ⟨r1, l1, x1, s1⟩, p1, n1, q1, i1⟩ := hG
  refine r_close (by omega) x1 r1 l1 (fun M2 r2 l2 s2 so2 kp2 f2 => ?_)
  have sW2 : SM [24, 25, 26, 27, 28, 29, 30, 31, 47] Mw M2 := (s1.mono (by decide)).tr (s2.mono (by decide))
  have w2 : WF M2 n m := g1.cong r2 sW2 (by decide)
  have k2 : WK M2 n c := g2.cong g1.st (Nat.le_refl _) (EX.of (sW2 0 (by decide)) (sW2 1 (by decide)) (sW2 2 (by decide))) (sW2 6 (by decide)) (sW2 7 (by decide)) (by rw [sW2 43 (by decide)])
  have x2 : CX M2 c := x1.cong (s2 43 (by decide)) (s2 47 (by decide)) (s2 28 (by decide)) (s2 29 (by decide))
  have p2 : ∀ q, q < c → M2 28 q = M2 0 (nd M2 q) ∧ ∀ p, p < 3 → PR M2 M2 (nd M2 q) q p := fun q hq => by
    have e : nd M2 q = nd Mw q := by unfold nd; rw [sW2 7 (by decide)]
    obtain ⟨a1, a2⟩ := p1 q hq
    rw [e, s2 28 (by decide), sW2 0 (by decide)]
    refine ⟨a1, fun p hp => ?_⟩
    have := a2 p hp
    unfold PR sg at this ⊢
    rw [s2 29 (by decide), sW2 0 (by decide), sW2 1 (by decide), sW2 7 (by decide)]
    exact this
  refine r_pourInto (by omega) w2 k2 x2 l2 f2.1 (fun q hq x hx => ?_) (fun M3 G P r3 s3 v3 hG3 gs3 pg3 => ?_)
  · rw [(p2 q hq).1, show nd M2 q = x by unfold nd; rw [hx, Int.toNat_natCast]]
  · have w3 := w2.cong r3 s3 (by decide)
    refine r_orderMode w3.sy ?_
    refine r_ranking (by omega) (by omega) r3 w3.sy gs3 w3.sy.2.2.2.2.2.2.2 (fun M4 t U hRI hLU s4 v4 h19 => ?_)
    have r4 : RG M4 := hRI.1.1
    have s24 : SM [10, 11, 12, 13, 14, 15, 16, 17, 18, 19, 20, 21, 22, 44] M2 M4 := (s3.mono (by decide)).tr (s4.mono (by decide))
    have sW4 : SM [10, 11, 12, 13, 14, 15, 16, 17, 18, 19, 20, 21, 22, 24, 25, 26, 27, 28, 29, 30, 31, 44, 47] Mw M4 := (sW2.mono (by decide)).tr (s24.mono (by decide))
    have w4 := w3.cong r4 s4 (by decide)
    have e24 : M4 24 = M2 24 := s24 24 (by decide)
    have e27 : M4 27 = M2 27 := s24 27 (by decide)
    have e28 : M4 28 = M2 28 := s24 28 (by decide)
    have e29 : M4 29 = M2 29 := s24 29 (by decide)
    have end4 : ∀ q, nd M4 q = nd M2 q := fun q => by unfold nd; rw [s24 7 (by decide)]
    have endw : ∀ q, nd M4 q = nd Mw q := fun q => by unfold nd; rw [sW4 7 (by decide)]
    have eLw : ∀ e, eL M4 e = eL Mw e := fun e => by unfold eL; rw [sW4 55 (by decide)]
    have eRw : ∀ e, eR M4 e = eR Mw e := fun e => by unfold eR; rw [sW4 56 (by decide)]
    have hEQP : ∀ E, EQP M4 c ec E ↔ EQP Mw c ec E := fun E => by
      unfold EQP
      simp only [endw, eLw, eRw]
    refine k c G t P U M4 (((g5.mono (by decide)).tr (sW4.mono (by decide)))) ⟨⟨w4, k2.cong w2.st (Nat.le_refl _) (EX.of (s24 0 (by decide)) (s24 1 (by decide)) (s24 2 (by decide))) (s24 6 (by decide)) (s24 7 (by decide)) (by rw [s24 43 (by decide)]), fun i hi => by rw [endw]; exact g3 i hi, ?_, g6⟩, ⟨l2.cong e24 (s24 25 (by decide)) (s24 26 (by decide)), x2.cong (s24 43 (by decide)) (s24 47 (by decide)) e28 e29, f2.cong e24 e27 e28 e29 (s24 30 (by decide)) (s24 31 (by decide))⟩, fun q hq => ?_, ⟨fun E hE hP => ?_, (hEQP _).2 (fun e he a b ha hb h1 h2 => ?_), fun e he => ?_⟩, ⟨hRI.1.2.2.1, ?_, hG3⟩, hRI, hLU, ?_⟩
    · have sA : SM [6, 7, 10, 11, 12, 13, 14, 15, 16, 17, 18, 19, 20, 21, 22, 24, 25, 26, 27, 28, 29, 30, 31, 43, 44, 47, 61] M M4 := (g5.mono (by decide)).tr (sW4.mono (by decide))
      rw [wlE_fun (sA 0 (by decide)) (sA 1 (by decide)) (sA 55 (by decide)) (sA 56 (by decide)), ← g4]
      exact wl_same c (fun i _ => by rw [sW4 7 (by decide)])
    · obtain ⟨a1, a2⟩ := p2 q hq
      rw [end4, e28, s24 0 (by decide)]
      refine ⟨a1, fun p hp => ?_⟩
      have := a2 p hp
      unfold PR sg at this ⊢
      rw [e29, s24 0 (by decide), s24 1 (by decide), s24 7 (by decide)]
      exact this
    · have hE2 : EC E M1 c := hE.cong (by rw [e28, s2 28 (by decide)]) (by rw [e29, s2 29 (by decide)])
      have hS1 := n1 E hE.1 hE.2.1 (hE2.rf x1) ((hEQP E).1 hP)
      have hS2 := so2 E hE2 hS1
      unfold SO at hS2 ⊢
      rw [e24]
      exact hS2
    · show M4 24 a = M4 24 b
      rw [e24]
      exact kp2 a b ha hb (q1 e he a b ha hb h1 h2)
    · rw [eLw, eRw]
      unfold inW
      rw [sW4 7 (by decide)]
      exact i1 e he
    · unfold PG GQ pl at pg3 ⊢
      rw [e24, e27, e28, e29, s4 10 (by decide), s4 11 (by decide), s4 12 (by decide)]
      exact pg3
    · rw [h19, s4 41 (by decide)]
end V9
