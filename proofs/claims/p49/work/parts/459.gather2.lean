section V8
/-- places whose nodes are the sides of the first e equations -/
def EQP (M : g_M) (c e : Nat) (E : Nat → Nat → Prop) : Prop := ∀ e', e' < e → ∀ a b, a < c → b < c → nd M a = eL M e' → nd M b = eR M e' → E a b
def SND (M0 M : g_M) (c e : Nat) : Prop := ∀ E : Nat → Nat → Prop, (∀ i j, E i j → E j i) → (∀ i j k, E i j → E j k → E i k) → (∀ i, i < c → E i i) → EQP M0 c e E → SO E M c
theorem r_gather_92 {M0 : g_M} {Q : g_M → Prop} {n m n0 c ec : Nat} (hn3 : n ≤ 3000) (hW : WF M0 n m) (hK : WK M0 n c) (hc : c ≤ 1000) (hQ : EQO M0 n0 ec) (hI : ∀ e, e < ec → inW M0 c (eL M0 e) ∧ inW M0 c (eR M0 e))
    (k : ∀ M', RG M' → CL M' c → SM [24, 25, 26] M0 M' → SND M0 M' c ec → EQP M0 c ec (fun a b => M' 24 a = M' 24 b) → Q M') :
    ∀ (f e : Nat) (M : g_M), e ≤ ec → ec - e < f → RG M → CL M c → SM [24, 25, 26] M0 M → SND M0 M c e → EQP M0 c e (fun a b => M 24 a = M 24 b) → F_X9_gather_92 Q f (-1) e M := by
  obtain ⟨q1, q2, q3⟩ := hQ
  intro f
  induction f with
  | zero => intros; omega
  | succ f ih =>
    intro e M h1 h2 hR hL hS hN hP
    unfold F_X9_gather_92
    rw [hS 45 (by decide), q1, bq (x := (e : Int)) (by omega) (by omega), bq (x := (ec : Int)) (by omega) (by omega), show bm 30 = 30 by decide, show bm (-1) = -1 by decide]
    refine ⟨fun c9 => ⟨fun _ => ⟨fun c8 => absurd c8 (by omega), fun _ => ⟨ink e rfl (by omega) (by omega), ?_⟩⟩, fun c8 => absurd c8 (by omega)⟩, fun c9 => ?_⟩
    · obtain ⟨p1, p2, p3, p4⟩ := q3 e (by omega)
      obtain ⟨iL, iR⟩ := hI e (by omega)
      have hK1 : WK M n c := hK.cong hW.st (Nat.le_refl _) (EX.of (hS 0 (by decide)) (hS 1 (by decide)) (hS 2 (by decide))) (hS 6 (by decide)) (hS 7 (by decide)) (by rw [hS 43 (by decide)])
      have e7 : M 7 = M0 7 := hS 7 (by decide)
      have xL : eL M0 e ≤ 3000 := by
        obtain ⟨i, i1, i2⟩ := iL
        obtain ⟨x, x1, x2, -⟩ := hK.2.2 i i1
        omega
      have xR : eR M0 e ≤ 3000 := by
        obtain ⟨i, i1, i2⟩ := iR
        obtain ⟨x, x1, x2, -⟩ := hK.2.2 i i1
        omega
      rw [Int.toNat_natCast, hS 55 (by decide), show M0 55 e = ((eL M0 e : Nat) : Int) by unfold eL; omega]
      refine r_indexOf hR hK1 hn3 (eL M0 e) xL (fun a ha ea => ⟨ink e rfl (by omega) (by omega), ?_⟩) (fun hno => absurd (by unfold inW at iL ⊢; rw [e7]; exact iL) hno)
      rw [hS 56 (by decide), show M0 56 e = ((eR M0 e : Nat) : Int) by unfold eR; omega]
      refine r_indexOf hR hK1 hn3 (eR M0 e) xR (fun b hb eb => ?_) (fun hno => absurd (by unfold inW at iR ⊢; rw [e7]; exact iR) hno)
      have na : nd M0 a = eL M0 e := by unfold nd; rw [← e7, ea, Int.toNat_natCast]
      have nb : nd M0 b = eR M0 e := by unfold nd; rw [← e7, eb, Int.toNat_natCast]
      have uni : ∀ a' b', a' < c → b' < c → nd M0 a' = eL M0 e → nd M0 b' = eR M0 e → a' = a ∧ b' = b := fun a' b' h1 h2 h3 h4 => ⟨hK.inj h1 ha (h3.trans na.symm), hK.inj h2 hb (h4.trans nb.symm)⟩
      unfold F_X9_gather_149
      rw [show (e : Int) + 1 = ((e + 1 : Nat) : Int) by omega]
      refine r_join hR hc hL a b ha hb (fun heq => ?_) (fun hne M' g1 g2 g3 g4 => ?_)
      · refine ih (e + 1) M (by omega) (by omega) hR hL hS (fun E s1 s2 s3 s4 => hN E s1 s2 s3 (fun e' he' => s4 e' (by omega))) (fun e' he' a' b' v1 v2 v3 v4 => ?_)
        by_cases hee : e' = e
        · subst hee
          obtain ⟨u1, u2⟩ := uni a' b' v1 v2 v3 v4
          rw [u1, u2]
          exact heq
        · exact hP e' (by omega) a' b' v1 v2 v3 v4
      · refine ih (e + 1) M' (by omega) (by omega) g1 g2 (hS.tr g3) (fun E s1 s2 s3 s4 => ?_) (fun e' he' a' b' v1 v2 v3 v4 => ?_)
        · exact g4.sound ha hb s1 s2 (hN E s1 s2 s3 (fun e' he' => s4 e' (by omega))) (s4 e (by omega) a b ha hb na nb)
        · by_cases hee : e' = e
          · subst hee
            obtain ⟨u1, u2⟩ := uni a' b' v1 v2 v3 v4
            rw [u1, u2]
            exact g4.eq ha hb
          · exact g4.keep v1 v2 (hP e' (by omega) a' b' v1 v2 v3 v4)
    · have he : e = ec := by omega
      subst he
      exact k M hR hL hS hN hP
/-- what gather leaves: Mw is the memory behind the walk -/
def GA (M0 Mw M' : g_M) (n m n0 c ec : Nat) : Prop :=
  (WF Mw n m ∧ WK Mw n c ∧ UE Mw n0 c ∧ wl Mw c = wlE M0 ec ∧ SM [6, 7, 43, 61] M0 Mw ∧ c ≤ n0) ∧
  (RG M' ∧ CL M' c ∧ CX M' c ∧ SM [24, 25, 26, 28, 29, 47] Mw M') ∧
  (∀ q, q < c → M' 28 q = Mw 0 (nd Mw q) ∧ ∀ p, p < 3 → PR Mw M' (nd Mw q) q p) ∧
  SND Mw M' c ec ∧ EQP Mw c ec (fun a b => M' 24 a = M' 24 b) ∧ ∀ e, e < ec → inW Mw c (eL Mw e) ∧ inW Mw c (eR Mw e)
theorem r_gather {M : g_M} {Q : g_M → Prop} {n m n0 ec : Nat} (hW : WF M n m) (hn : n ≤ 2900) (h60 : n0 ≤ 60) (hn0 : n0 ≤ n) (hH : HT M n0) (hQ : EQO M n0 ec)
    (k : ∀ (c : Nat) (Mw M' : g_M), GA M Mw M' n m n0 c ec → Q M') : F_X9_gather Q (-1) (-1) (-1) M := by
  unfold F_X9_gather
  refine r_clearW hW (fun Ma hWa hKa hSa => ⟨ec + 1, ?_⟩)
  have hS0 : SM [6, 7, 43, 61] M Ma := hSa.mono (by decide)
  have hQa : EQO Ma n0 ec := by
    unfold EQO eL eR
    rw [hSa 45 (by decide), hSa 55 (by decide), hSa 56 (by decide)]
    exact hQ
  have hHa : HT Ma n0 := fun x hx => by rw [hSa 2 (by decide)]; exact hH x hx
  have eLa : ∀ e, eL Ma e = eL M e := fun e => by unfold eL; rw [hSa 55 (by decide)]
  have eRa : ∀ e, eR Ma e = eR M e := fun e => by unfold eR; rw [hSa 56 (by decide)]
  have hwlE : ∀ e, wlE Ma e = wlE M e := by
    intro e
    induction e with
    | zero => rfl
    | succ e ih =>
      show post Ma (post Ma (wlE Ma e) (eL Ma e)) (eR Ma e) = post M (post M (wlE M e) (eL M e)) (eR M e)
      rw [ih, eLa, eRa, post_fun (hSa 0 (by decide)) (hSa 1 (by decide)), post_fun (hSa 0 (by decide)) (hSa 1 (by decide))]
  refine r_gather_10 hn0 hHa hQa (fun c Mw hWw hKw hUw hLw hIw hSw => ?_) (ec + 1) 0 0 Ma (by omega) (by omega) hWa hKa (fun i h => absurd h (by omega)) rfl (fun e h => absurd h (by omega)) (SM.rf _ _)
  unfold F_X9_gather_66
  refine r_addNone (r_addNone ?_)
  have hc := hUw.le hKw
  have hQw : EQO Mw n0 ec := by
    unfold EQO eL eR
    rw [hSw 45 (by decide), hSw 55 (by decide), hSw 56 (by decide)]
    exact hQa
  have hIw' : ∀ e, e < ec → inW Mw c (eL Mw e) ∧ inW Mw c (eR Mw e) := fun e he => by
    have := hIw e he
    unfold eL eR at this ⊢
    rw [hSw 55 (by decide), hSw 56 (by decide)]
    exact this
  refine r_cstart (by omega) hWw hKw (fun M1 r1 s1 l1 x1 st1 => ⟨ec + 1, ?_⟩)
  have hW1 : WF M1 n m := hWw.cong r1 s1 (by decide)
  have hK1 : WK M1 n c := hKw.cong hWw.st (Nat.le_refl _) (EX.of (s1 0 (by decide)) (s1 1 (by decide)) (s1 2 (by decide))) (s1 6 (by decide)) (s1 7 (by decide)) (by rw [s1 43 (by decide)])
  have end1 : ∀ a, nd M1 a = nd Mw a := fun a => by unfold nd; rw [s1 7 (by decide)]
  have eL1 : ∀ e, eL M1 e = eL Mw e := fun e => by unfold eL; rw [s1 55 (by decide)]
  have eR1 : ∀ e, eR M1 e = eR Mw e := fun e => by unfold eR; rw [s1 56 (by decide)]
  have hQ1 : EQO M1 n0 ec := by
    unfold EQO
    rw [s1 45 (by decide), s1 55 (by decide), s1 56 (by decide)]
    refine ⟨hQw.1, hQw.2.1, fun e he => ?_⟩
    rw [eL1, eR1]
    exact hQw.2.2 e he
  have hI1 : ∀ e, e < ec → inW M1 c (eL M1 e) ∧ inW M1 c (eR M1 e) := fun e he => by
    have := hIw' e he
    rw [eL1, eR1]
    unfold inW at this ⊢
    rw [s1 7 (by decide)]
    exact this
  have hEQP : ∀ e E, EQP M1 c e E ↔ EQP Mw c e E := fun e E => by
    unfold EQP
    simp only [end1, eL1, eR1]
  refine r_gather_92 (by omega) hW1 hK1 (by omega) hQ1 hI1 (fun M2 r2 l2 s2 n2 p2 => ?_) (ec + 1) 0 M1 (by omega) (by omega) r1 l1 (SM.rf _ _) (fun E _ _ s3 _ i j hi hj e => ?_) (fun e h => absurd h (by omega))
  · refine k c Mw M2 ⟨⟨hWw, hKw, hUw, by rw [hLw, hwlE], hS0.tr hSw, hc⟩, ⟨r2, l2, x1.cong (s2 43 (by decide)) (s2 47 (by decide)) (s2 28 (by decide)) (s2 29 (by decide)), s1.tr (s2.mono (by decide))⟩, fun q hq => ?_, fun E t1 t2 t3 t4 => n2 E t1 t2 t3 ((hEQP ec E).2 t4), (hEQP ec _).1 p2, hIw'⟩
    obtain ⟨x, y1, y2, ⟨y3, y4, y5, y6⟩, y7⟩ := st1 q hq
    have : nd Mw q = x := by unfold nd; rw [y2, Int.toNat_natCast]
    rw [this, s2 28 (by decide)]
    refine ⟨y6, fun p hp => ?_⟩
    have := y7 p hp
    unfold PR at this ⊢
    rw [s2 29 (by decide)]
    exact this
  · obtain ⟨x, -, -, ⟨y3, -⟩, -⟩ := st1 i hi
    obtain ⟨x', -, -, ⟨z3, -⟩, -⟩ := st1 j hj
    have : i = j := by omega
    subst this
    exact s3 i hi
end V8
