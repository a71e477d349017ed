section X6
def lf (N : g_M) (e : Nat) : Nat := (N 4 e).toNat
def rt (N : g_M) (e : Nat) : Nat := (N 5 e).toNat
def xv (N : g_M) (i : Nat) : Nat := (N 1 i).toNat
def yv (N : g_M) (i : Nat) : Nat := (N 2 i).toNat
/-- the law's rows stand -/
def TS (N : g_M) (many : Nat) : Prop := (∀ i, i < 14 → 0 ≤ N 0 i ∧ N 0 i < 16000) ∧ (∀ i, 3 ≤ i → i < 14 → (0 ≤ N 1 i ∧ N 1 i < 14) ∧ -1 ≤ N 2 i ∧ N 2 i < 14) ∧ many ≤ 30 ∧ ∀ e, e < many → (0 ≤ N 4 e ∧ N 4 e < 14) ∧ 0 ≤ N 5 e ∧ N 5 e < 14
theorem TS.sm {N N' : g_M} {many : Nat} (h : TS N many) (hS : SM [3] N N') : TS N' many := by
  unfold TS
  rw [hS 0 (by decide), hS 1 (by decide), hS 2 (by decide), hS 4 (by decide), hS 5 (by decide)]
  exact h
/-- a congruence on places as the law has it -/
def ELAW (N : g_M) (many : Nat) (E : Nat → Nat → Prop) : Prop := (∀ i j, E i j → E j i) ∧ (∀ i j k, E i j → E j k → E i k) ∧ (∀ i j, i < 14 → j < 14 → N 0 i = N 0 j → E i j) ∧ (∀ e, e < many → E (lf N e) (rt N e)) ∧ ∀ i k, 3 ≤ i → 3 ≤ k → i < 14 → k < 14 → (N 2 i < 0 ↔ N 2 k < 0) → E (xv N i) (xv N k) → (¬ N 2 i < 0 → E (yv N i) (yv N k)) → E i k
theorem ELAW.sm {N N' : g_M} {many : Nat} {E : Nat → Nat → Prop} (h : ELAW N many E) (hS : SM [3] N N') : ELAW N' many E := by
  unfold ELAW lf rt xv yv
  rw [hS 0 (by decide), hS 1 (by decide), hS 2 (by decide), hS 4 (by decide), hS 5 (by decide)]
  exact h
def LIKE (N : g_M) (i k : Nat) : Prop := (N 2 i < 0 ↔ N 2 k < 0) ∧ cl N (xv N i) = cl N (xv N k) ∧ (¬ N 2 i < 0 → cl N (yv N i) = cl N (yv N k))
/-- the classes before any equation -/
def CI (N : g_M) (k : Nat) : Prop := (∀ j, j < k → ∃ v : Nat, v ≤ j ∧ N 3 j = (v : Int) ∧ N 3 v = (v : Int) ∧ N 0 v = N 0 j) ∧ ∀ i j, i < k → j < k → N 0 i = N 0 j → N 3 i = N 3 j
theorem r_close_24 {Q : g_M → g_M → Prop} {k7 : Int → Int → Int → Int → g_M → g_M → Prop} {M N0 : g_M} {many k : Nat} (hT : TS N0 many) (hk : k < 14) (hC : CI N0 k)
    (kk : ∀ N', SM [3] N0 N' → CI N' (k + 1) → k7 many (-1) 14 ((k + 1 : Nat) : Int) M N') :
    ∀ (f i : Nat) (N : g_M), i ≤ k → k - i < f → SM [3] N0 N → (∀ j, j ≠ k → N 3 j = N0 3 j) → (∀ i', i' < i → N0 0 i' = N0 0 k → N 3 k = N0 3 i') → ((∀ i', i' < i → N0 0 i' ≠ N0 0 k) → N 3 k = (k : Int)) → F_L_close_24 Q k7 f many (-1) 14 k i M N := by
  intro f
  induction f with
  | zero => intros; omega
  | succ f ih =>
    intro i N h1 h2 hS hv hy hn
    unfold F_L_close_24
    rw [bq (x := (i : Int)) (by omega) (by omega), bq (x := (k : Int)) (by omega) (by omega)]
    refine ⟨fun c9 => ⟨ink i rfl (by omega) (by omega), ink k rfl (by omega) (by omega), ?_⟩, fun c9 => ?_⟩
    · have t1 := hT.1 i (by omega)
      have t2 := hT.1 k hk
      rw [Int.toNat_natCast, Int.toNat_natCast, hS 0 (by decide), bq (x := N0 0 i) (by omega) (by omega), bq (x := N0 0 k) (by omega) (by omega)]
      unfold F_L_close_52
      rw [show (i : Int) + 1 = ((i + 1 : Nat) : Int) by omega]
      refine ⟨fun e => ⟨ink i rfl (by omega) (by omega), ink k rfl (by omega) (by omega), ?_⟩, fun e => ?_⟩
      · refine ih (i + 1) _ (by omega) (by omega) (hS.u (by decide)) (fun j hj => by rw [up2 hj, hv j hj]) (fun i' hi' e' => ?_) (fun hno => absurd e (hno i (by omega)))
        rw [up1, hv i (by omega)]
        exact hC.2 i i' (by omega) (by omega) (e.trans e'.symm)
      · refine ih (i + 1) N (by omega) (by omega) hS hv (fun i' hi' e' => ?_) (fun hno => hn (fun i' hi' => hno i' (by omega)))
        by_cases hii : i' = i
        · subst hii
          exact absurd e' e
        · exact hy i' (by omega) e'
    · have hik : i = k := by omega
      subst hik
      have e0 : N 0 = N0 0 := hS 0 (by decide)
      have hnew : ∃ v : Nat, v ≤ i ∧ N 3 i = (v : Int) ∧ N 3 v = (v : Int) ∧ N0 0 v = N0 0 i := by
        by_cases hex : ∃ i', i' < i ∧ N0 0 i' = N0 0 i
        · obtain ⟨i', a1, a2⟩ := hex
          obtain ⟨v, v1, v2, v3, v4⟩ := hC.1 i' a1
          exact ⟨v, by omega, by rw [hy i' a1 a2, v2], by rw [hv v (by omega), v3], by rw [v4, a2]⟩
        · have := hn (fun i' hi' e => hex ⟨i', hi', e⟩)
          exact ⟨i, Nat.le_refl _, this, this, rfl⟩
      refine kk N hS ⟨fun j hj => ?_, fun p q hp hq e => ?_⟩
      · rw [e0]
        by_cases hji : j = i
        · rw [hji]
          exact hnew
        · obtain ⟨v, v1, v2, v3, v4⟩ := hC.1 j (by omega)
          exact ⟨v, v1, by rw [hv j hji, v2], by rw [hv v (by omega), v3], v4⟩
      · rw [e0] at e
        by_cases hpi : p = i
        · by_cases hqi : q = i
          · rw [hpi, hqi]
          · rw [hpi] at e ⊢
            rw [hv q hqi]
            exact hy q (by omega) e.symm
        · by_cases hqi : q = i
          · rw [hqi] at e ⊢
            rw [hv p hpi]
            exact (hy p (by omega) e).symm
          · rw [hv p hpi, hv q hqi]
            exact hC.2 p q (by omega) (by omega) e
theorem r_close_7 {Q : g_M → g_M → Prop} {M N0 : g_M} {many : Nat} (hT : TS N0 many)
    (kk : ∀ N', SM [3] N0 N' → CI N' 14 → ∃ n9, F_L_close_67 Q n9 many (-1) 14 0 M N') :
    ∀ (f k : Nat) (N : g_M), k ≤ 14 → 14 - k < f → SM [3] N0 N → CI N k → F_L_close_7 Q f many (-1) 14 k M N := by
  intro f
  induction f with
  | zero => intros; omega
  | succ f ih =>
    intro k N h1 h2 hS hC
    unfold F_L_close_7
    rw [bq (x := (k : Int)) (by omega) (by omega), show bm 14 = 14 by decide]
    refine ⟨fun c9 => ⟨ink k rfl (by omega) (by omega), k + 1, ?_⟩, fun c9 => ?_⟩
    · rw [Int.toNat_natCast]
      have hS1 : SM [3] N (up N 3 k (k : Int)) := (SM.rf _ _).u (by decide)
      have hC1 : CI (up N 3 k (k : Int)) k := by
        refine ⟨fun j hj => ?_, fun p q hp hq e => ?_⟩
        · obtain ⟨v, v1, v2, v3, v4⟩ := hC.1 j hj
          exact ⟨v, v1, by rw [up2 (by omega), v2], by rw [up2 (by omega), v3], by rw [hS1 0 (by decide)]; exact v4⟩
        · rw [hS1 0 (by decide)] at e
          rw [up2 (by omega), up2 (by omega)]
          exact hC.2 p q hp hq e
      exact r_close_24 (hT.sm (hS.tr hS1)) (by omega) hC1 (fun N' g1 g2 => ih (k + 1) N' (by omega) (by omega) ((hS.tr hS1).tr g1) g2) (k + 1) 0 _ (by omega) (by omega) (SM.rf _ _) (fun _ _ => rfl) (fun i' h => absurd h (by omega)) (fun _ => up1 _ _ _ _)
    · have : k = 14 := by omega
      subst this
      exact kk N hS hC
theorem CI.cls {N : g_M} (h : CI N 14) : CLS N := by
  intro i hi
  obtain ⟨v, v1, v2, v3, -⟩ := h.1 i hi
  have e : cl N i = v := by unfold cl; omega
  rw [e]
  refine ⟨v2, by omega, ?_⟩
  unfold cl
  omega
theorem CI.sub {N : g_M} {many : Nat} {E : Nat → Nat → Prop} (h : CI N 14) (hE : ELAW N many E) : SUB N E := by
  intro i j hi hj e
  obtain ⟨v, v1, v2, v3, v4⟩ := h.1 i hi
  obtain ⟨w, w1, w2, w3, w4⟩ := h.1 j hj
  unfold cl at e
  have : v = w := by omega
  subst this
  exact hE.2.2.1 i j hi hj (v4.symm.trans w4)
/-- between the equations: what holds of the classes -/
def MID (N0 N : g_M) (many e : Nat) : Prop := SM [3] N0 N ∧ CLS N ∧ (∀ E, ELAW N0 many E → SUB N E) ∧ (∀ i j, i < 14 → j < 14 → N0 0 i = N0 0 j → cl N i = cl N j) ∧ ∀ e', e' < e → cl N (lf N0 e') = cl N (rt N0 e')
theorem r_close_67 {Q : g_M → g_M → Prop} {M N0 : g_M} {many : Nat} (hT : TS N0 many)
    (kk : ∀ N', MID N0 N' many many → ∃ n9, F_L_close_110 Q n9 14 1 M N') :
    ∀ (f e : Nat) (N : g_M), e ≤ many → many - e < f → MID N0 N many e → F_L_close_67 Q f many (-1) 14 e M N := by
  intro f
  induction f with
  | zero => intros; omega
  | succ f ih =>
    intro e N h1 h2 hm
    have hm' := hm
    obtain ⟨hS, hC, hE, h0, hq⟩ := hm'
    have hT' := hT.sm hS
    have ht := hT.2.2
    unfold F_L_close_67
    rw [bq (x := (e : Int)) (by omega) (by omega), bq (x := (many : Int)) (by omega) (by omega), show bm (-1) = -1 by decide]
    refine ⟨fun c9 => ⟨fun c8 => absurd c8 (by omega), fun _ => ?_⟩, fun c9 => ?_⟩
    · obtain ⟨a1, a2⟩ := ht.2 e (by omega)
      have eL : N 4 e = ((lf N0 e : Nat) : Int) := by rw [hS 4 (by decide)]; unfold lf; omega
      have eR : N 5 e = ((rt N0 e : Nat) : Int) := by rw [hS 5 (by decide)]; unfold rt; omega
      have l1 : lf N0 e < 14 := by unfold lf; omega
      have l2 : rt N0 e < 14 := by unfold rt; omega
      rw [Int.toNat_natCast, eL, eR]
      refine ⟨ink e rfl (by omega) (by omega), ink (lf N0 e) rfl l1 (by omega), ink e rfl (by omega) (by omega), ink (rt N0 e) rfl l2 (by omega), ?_⟩
      rw [bq (x := ((lf N0 e : Nat) : Int)) (by omega) (by omega), bq (x := ((rt N0 e : Nat) : Int)) (by omega) (by omega), Int.toNat_natCast, Int.toNat_natCast]
      obtain ⟨p1, p2, p3⟩ := hC (lf N0 e) l1
      obtain ⟨q1, q2, q3⟩ := hC (rt N0 e) l2
      rw [p1, q1]
      refine r_unite hC p2 q2 p3 (fun N' g1 g2 => ?_)
      unfold F_L_close_101
      rw [show (e : Int) + 1 = ((e + 1 : Nat) : Int) by omega]
      refine ih (e + 1) N' (by omega) (by omega) ⟨hS.tr g1, g2.cls hC p2 p3, fun E hL => g2.sub hC l1 l2 hL.1 hL.2.1 (hE E hL) (hL.2.2.2.1 e (by omega)), fun i j hi hj e' => g2.keep hC hi hj (h0 i j hi hj e'), fun e' he' => ?_⟩
      by_cases hee : e' = e
      · subst hee
        exact g2.eq hC l1 l2
      · obtain ⟨b1, b2⟩ := ht.2 e' (by omega)
        exact g2.keep hC (by unfold lf; omega) (by unfold rt; omega) (hq e' (by omega))
    · have : e = many := by omega
      subst this
      exact kk N hm
end X6
