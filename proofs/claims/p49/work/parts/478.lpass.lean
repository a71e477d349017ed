section X7
theorem r_like {Q : g_M → g_M → Prop} {k110 : Int → Int → g_M → g_M → Prop} {k121 : Int → Int → Int → g_M → g_M → Prop} {k131 : Int → Int → Int → Int → g_M → g_M → Prop} {M N : g_M} {many i k : Nat} {f : Int} (hT : TS N many) (hC : CLS N) (h3 : 3 ≤ k) (hki : k < i) (hi : i < 14)
    (h1 : LIKE N i k → F_L_close_211 Q k110 k121 k131 14 f i k 1 M N) (h0 : ¬ LIKE N i k → F_L_close_211 Q k110 k121 k131 14 f i k 0 M N) :
    inI i 14 ∧ ((bm (N 2 (bm (i : Int)).toNat) < 0 → F_L_close_150 Q k110 k121 k131 14 f i k 1 M N) ∧ (¬ bm (N 2 (bm (i : Int)).toNat) < 0 → F_L_close_150 Q k110 k121 k131 14 f i k 0 M N)) := by
  obtain ⟨⟨xi1, xi2⟩, yi1, yi2⟩ := hT.2.1 i (by omega) hi
  obtain ⟨⟨xk1, xk2⟩, yk1, yk2⟩ := hT.2.1 k (by omega) (by omega)
  have bi : bm (i : Int) = (i : Int) := bq (by omega) (by omega)
  have bk : bm (k : Int) = (k : Int) := bq (by omega) (by omega)
  have ex : ∀ p : Nat, 0 ≤ N 1 p ∧ N 1 p < 14 → bm (N 1 p) = ((xv N p : Nat) : Int) ∧ xv N p < 14 := fun p h => by
    rw [bq (by omega) (by omega)]
    unfold xv
    omega
  have ey : ∀ p : Nat, 0 ≤ N 2 p ∧ N 2 p < 14 → bm (N 2 p) = ((yv N p : Nat) : Int) ∧ yv N p < 14 := fun p h => by
    rw [bq (by omega) (by omega)]
    unfold yv
    omega
  obtain ⟨exi, lxi⟩ := ex i ⟨xi1, xi2⟩
  obtain ⟨exk, lxk⟩ := ex k ⟨xk1, xk2⟩
  have ecl : ∀ p, p < 14 → bm (N 3 p) = ((cl N p : Nat) : Int) := fun p hp => by
    obtain ⟨a, b, -⟩ := hC p hp
    rw [a, bq (by omega) (by omega)]
  have n0 : ¬ LIKE N i k → F_L_close_210 Q k110 k121 k131 14 f i k M N := fun h => h0 h
  have inx : ∀ p : Nat, 0 ≤ N 1 p ∧ N 1 p < 14 → inI (N 1 p) 14 := fun p h => ink (xv N p) (by unfold xv; omega) (by unfold xv; omega) (by omega)
  have iny : ∀ p : Nat, 0 ≤ N 2 p ∧ N 2 p < 14 → inI (N 2 p) 14 := fun p h => ink (yv N p) (by unfold yv; omega) (by unfold yv; omega) (by omega)
  have r162 : ∀ t0 t1 : Int, (t0 = 1 ∧ N 2 i < 0 ∨ t0 = 0 ∧ ¬ N 2 i < 0) → (t1 = 1 ∧ N 2 k < 0 ∨ t1 = 0 ∧ ¬ N 2 k < 0) → F_L_close_162 Q k110 k121 k131 14 f i k t0 t1 M N := fun t0 t1 ht0 ht1 => by
    unfold F_L_close_162
    rw [bi, bk, Int.toNat_natCast, Int.toNat_natCast]
    refine ⟨fun e => ⟨ink i rfl hi (by omega), inx i ⟨xi1, xi2⟩, ink k rfl (by omega) (by omega), inx k ⟨xk1, xk2⟩, ?_⟩, fun e => n0 (fun hL => e ?_)⟩
    · have hlike : N 2 i < 0 ↔ N 2 k < 0 := by
        rcases ht0 with ⟨rfl, a⟩ | ⟨rfl, a⟩ <;> rcases ht1 with ⟨rfl, b⟩ | ⟨rfl, b⟩
        · exact ⟨fun _ => b, fun _ => a⟩
        · exact absurd e (by decide)
        · exact absurd e (by decide)
        · exact ⟨fun h => absurd h a, fun h => absurd h b⟩
      rw [exi, exk, Int.toNat_natCast, Int.toNat_natCast, ecl _ lxi, ecl _ lxk]
      refine ⟨fun e2 => ⟨ink i rfl hi (by omega), fun c => ?_, fun c => ?_⟩, fun e2 => n0 (fun hL => e2 (by rw [hL.2.1]))⟩
      · rw [bq (by omega) (by omega)] at c
        exact h1 ⟨hlike, by omega, fun h => absurd c h⟩
      · rw [bq (by omega) (by omega)] at c
        have ck : ¬ N 2 k < 0 := fun h => c (hlike.2 h)
        obtain ⟨eyi, lyi⟩ := ey i ⟨by omega, yi2⟩
        obtain ⟨eyk, lyk⟩ := ey k ⟨by omega, yk2⟩
        refine ⟨ink i rfl hi (by omega), iny i ⟨by omega, yi2⟩, ink k rfl (by omega) (by omega), iny k ⟨by omega, yk2⟩, ?_⟩
        rw [eyi, eyk, Int.toNat_natCast, Int.toNat_natCast, ecl _ lyi, ecl _ lyk]
        exact ⟨fun e3 => h1 ⟨hlike, by omega, fun _ => by omega⟩, fun e3 => n0 (fun hL => e3 (by rw [hL.2.2 c]))⟩
    · rcases ht0 with ⟨rfl, a⟩ | ⟨rfl, a⟩ <;> rcases ht1 with ⟨rfl, b⟩ | ⟨rfl, b⟩
      · rfl
      · exact absurd (hL.1.1 a) b
      · exact absurd (hL.1.2 b) a
      · rfl
  have r150 : ∀ t0 : Int, (t0 = 1 ∧ N 2 i < 0 ∨ t0 = 0 ∧ ¬ N 2 i < 0) → F_L_close_150 Q k110 k121 k131 14 f i k t0 M N := fun t0 ht0 => by
    unfold F_L_close_150
    rw [bk, Int.toNat_natCast]
    refine ⟨ink k rfl (by omega) (by omega), fun c => r162 t0 1 ht0 (Or.inl ⟨rfl, ?_⟩), fun c => r162 t0 0 ht0 (Or.inr ⟨rfl, ?_⟩)⟩
    · rw [bq (by omega) (by omega)] at c
      exact c
    · rw [bq (by omega) (by omega)] at c
      exact c
  rw [bi, Int.toNat_natCast]
  refine ⟨ink i rfl hi (by omega), fun c => r150 1 (Or.inl ⟨rfl, ?_⟩), fun c => r150 0 (Or.inr ⟨rfl, ?_⟩)⟩
  · rw [bq (by omega) (by omega)] at c
    exact c
  · rw [bq (by omega) (by omega)] at c
    exact c
/-- within a pass -/
def PAS (N0 Ns N : g_M) (many i k : Nat) (f : Int) : Prop := MID N0 N many many ∧ (f = 0 ∧ (∀ q, q < 14 → N 3 q = Ns 3 q) ∧ (∀ i' k', 3 ≤ k' → k' < i' → i' < 14 → (i' < i ∨ i' = i ∧ k' < k) → LIKE N i' k' → cl N i' = cl N k') ∨ f = 1 ∧ rts (N 3) 14 < rts (Ns 3) 14)
theorem r_close_131 {Q : g_M → g_M → Prop} {k110 : Int → Int → g_M → g_M → Prop} {k121 : Int → Int → Int → g_M → g_M → Prop} {M N0 Ns : g_M} {many i : Nat} (hT : TS N0 many) (h3 : 3 ≤ i) (hi : i < 14)
    (kk : ∀ (N : g_M) (f : Int), PAS N0 Ns N many (i + 1) 3 f → k121 14 f ((i + 1 : Nat) : Int) M N) :
    ∀ (g k : Nat) (N : g_M) (f : Int), 3 ≤ k → k ≤ i → i - k < g → PAS N0 Ns N many i k f → F_L_close_131 Q k110 k121 g 14 f i k M N := by
  intro g
  induction g with
  | zero => intros; omega
  | succ g ih =>
    intro k N f h1 h2 h4 hP
    have hP' := hP
    obtain ⟨hm, hf⟩ := hP'
    obtain ⟨hS, hC, hE, hk0, hq⟩ := hm
    have hTN := hT.sm hS
    unfold F_L_close_131
    rw [bq (x := (k : Int)) (by omega) (by omega)]
    refine ⟨fun c9 => ?_, fun c9 => ?_⟩
    · have hki : k < i := by
        rw [bq (x := (i : Int)) (by omega) (by omega)] at c9
        omega
      have next : ∀ (N' : g_M) (f' : Int), PAS N0 Ns N' many i (k + 1) f' → F_L_close_252 Q k110 k121 (F_L_close_131 Q k110 k121 g) 14 f' i k M N' := fun N' f' h => by
        unfold F_L_close_252
        rw [show (k : Int) + 1 = ((k + 1 : Nat) : Int) by omega]
        exact ih (k + 1) N' f' (by omega) (by omega) (by omega) h
      have more : (LIKE N i k → cl N i = cl N k) → PAS N0 Ns N many i (k + 1) f := fun hl => by
        refine ⟨hP.1, ?_⟩
        rcases hf with ⟨f0, f1, f2⟩ | hf
        · refine Or.inl ⟨f0, f1, fun i' k' g1 g2 g3 g4 gl => ?_⟩
          by_cases e : i' = i ∧ k' = k
          · obtain ⟨e1, e2⟩ := e
            subst e1
            subst e2
            exact hl gl
          · exact f2 i' k' g1 g2 g3 (by omega) gl
        · exact Or.inr hf
      refine r_like hTN hC h1 hki hi (fun hL => ?_) (fun hL => ?_)
      · unfold F_L_close_211
        refine ⟨fun c => absurd c (by decide), fun _ => ?_⟩
        obtain ⟨p1, p2, p3⟩ := hC i hi
        obtain ⟨q1, q2, q3⟩ := hC k (by omega)
        rw [bq (x := (i : Int)) (by omega) (by omega), bq (x := (k : Int)) (by omega) (by omega), Int.toNat_natCast, Int.toNat_natCast, p1, q1, bq (x := ((cl N i : Nat) : Int)) (by omega) (by omega), bq (x := ((cl N k : Nat) : Int)) (by omega) (by omega)]
        refine ⟨ink i rfl hi (by omega), ink k rfl (by omega) (by omega), fun e => next N f (more (fun _ => by omega)), fun e => ⟨ink k rfl (by omega) (by omega), ink i rfl hi (by omega), ?_⟩⟩
        refine r_unite hC q2 p2 q3 (fun N' g1 g2 => next N' 1 ⟨⟨hS.tr g1, g2.cls hC q2 q3, fun E hLE => g2.sub hC (by omega) hi hLE.1 hLE.2.1 (hE E hLE) ?_, fun a b ha hb e' => g2.keep hC ha hb (hk0 a b ha hb e'), fun e' he' => ?_⟩, Or.inr ⟨rfl, ?_⟩⟩)
        · have sub := hE E hLE
          have hTi := hT.2.1 i (by omega) hi
          have hTk := hT.2.1 k (by omega) (by omega)
          have exi : xv N0 i < 14 := by unfold xv; omega
          have exk : xv N0 k < 14 := by unfold xv; omega
          have eyi : yv N0 i < 14 := by unfold yv; omega
          have eyk : yv N0 k < 14 := by unfold yv; omega
          have e1 : N 1 = N0 1 := hS 1 (by decide)
          have e2 : N 2 = N0 2 := hS 2 (by decide)
          have exx : ∀ p, xv N p = xv N0 p := fun p => by unfold xv; rw [e1]
          have eyy : ∀ p, yv N p = yv N0 p := fun p => by unfold yv; rw [e2]
          obtain ⟨L1, L2, L3⟩ := hL
          rw [e2] at L1 L3
          rw [exx, exx] at L2
          refine hLE.1 _ _ (hLE.2.2.2.2 i k h3 h1 hi (by omega) L1 (sub _ _ exi exk L2) (fun h => ?_))
          have := L3 h
          rw [eyy, eyy] at this
          exact sub _ _ eyi eyk this
        · obtain ⟨b1, b2⟩ := hT.2.2.2 e' he'
          exact g2.keep hC (by unfold lf; omega) (by unfold rt; omega) (hq e' he')
        · have hlt := g2.rts hC (by omega) hi (fun e' => e (by rw [e']))
          rcases hf with ⟨-, f1, -⟩ | ⟨-, f2⟩
          · have : rts (N 3) 14 ≤ rts (Ns 3) 14 := rts_le 14 (fun q hq' e' => by rw [← f1 q hq']; exact e')
            omega
          · omega
      · unfold F_L_close_211
        exact ⟨fun _ => next N f (more (fun h => absurd h hL)), fun c => absurd (show bm 0 = 0 by decide) c⟩
    · have hki : k = i := by
        rw [bq (x := (i : Int)) (by omega) (by omega)] at c9
        omega
      subst hki
      rw [show (k : Int) + 1 = ((k + 1 : Nat) : Int) by omega]
      refine kk N f ⟨hP.1, ?_⟩
      rcases hf with ⟨f0, f1, f2⟩ | hf
      · exact Or.inl ⟨f0, f1, fun i' k' g1 g2 g3 g4 gl => f2 i' k' g1 g2 g3 (by omega) gl⟩
      · exact Or.inr hf
theorem r_close_121 {Q : g_M → g_M → Prop} {k110 : Int → Int → g_M → g_M → Prop} {M N0 Ns : g_M} {many : Nat} (hT : TS N0 many)
    (kk : ∀ (N : g_M) (f : Int), PAS N0 Ns N many 14 3 f → k110 14 f M N) :
    ∀ (g i : Nat) (N : g_M) (f : Int), 3 ≤ i → i ≤ 14 → 14 - i < g → PAS N0 Ns N many i 3 f → F_L_close_121 Q k110 g 14 f i M N := by
  intro g
  induction g with
  | zero => intros; omega
  | succ g ih =>
    intro i N f h1 h2 h4 hP
    unfold F_L_close_121
    rw [bq (x := (i : Int)) (by omega) (by omega), show bm 14 = 14 by decide]
    refine ⟨fun c9 => ⟨i + 1, ?_⟩, fun c9 => ?_⟩
    · exact r_close_131 hT h1 (by omega) (fun N' f' h => ih (i + 1) N' f' (by omega) (by omega) (by omega) h) (i + 1) 3 N f (by omega) (by omega) (by omega) hP
    · have : i = 14 := by omega
      subst this
      exact kk N f hP
theorem r_close_110 {Q : g_M → g_M → Prop} {M N0 : g_M} {many : Nat} (hT : TS N0 many)
    (kk : ∀ N', SM [3] N0 N' → CLS N' → (∀ E, ELAW N0 many E → SUB N' E) → ELAW N0 many (fun i j => cl N' i = cl N' j) → Q M N') :
    ∀ (g : Nat) (N : g_M) (f : Int), MID N0 N many many → 0 < g → (f = 1 → rts (N 3) 14 + 1 < g) → (f = 0 → ∀ i' k', 3 ≤ k' → k' < i' → i' < 14 → LIKE N i' k' → cl N i' = cl N k') → (f = 0 ∨ f = 1) → F_L_close_110 Q g 14 f M N := by
  intro g
  induction g with
  | zero => intros; omega
  | succ g ih =>
    intro N f hm hg0 hg hcl hf
    have hm' := hm
    obtain ⟨hS, hC, hE, hk0, hq⟩ := hm'
    unfold F_L_close_110
    have fin : f = 0 → Q M N := fun e => by
      have hcl' := hcl e
      have e1 : N 1 = N0 1 := hS 1 (by decide)
      have e2 : N 2 = N0 2 := hS 2 (by decide)
      have exx : ∀ p, xv N p = xv N0 p := fun p => by unfold xv; rw [e1]
      have eyy : ∀ p, yv N p = yv N0 p := fun p => by unfold yv; rw [e2]
      refine kk N hS hC hE ⟨fun _ _ h => h.symm, fun _ _ _ h h' => h.trans h', hk0, hq, fun i k h1 h2 h3 h4 h5 h6 h7 => ?_⟩
      have hx : cl N (xv N i) = cl N (xv N k) := by rw [exx, exx]; exact h6
      rcases Nat.lt_trichotomy i k with h | h | h
      · refine (hcl' k i h1 h h4 ⟨by rw [e2]; exact h5.symm, hx.symm, fun h8 => ?_⟩).symm
        rw [eyy, eyy]
        rw [e2] at h8
        exact (h7 (fun h9 => h8 (h5.1 h9))).symm
      · rw [h]
      · refine hcl' i k h2 h h3 ⟨by rw [e2]; exact h5, hx, fun h8 => ?_⟩
        rw [eyy, eyy]
        rw [e2] at h8
        exact h7 h8
    rcases hf with rfl | rfl
    · exact ⟨fun _ => fin rfl, fun c => absurd (show bm 0 = 0 by decide) c⟩
    · refine ⟨fun c => absurd c (by decide), fun _ => ⟨20, ?_⟩⟩
      refine r_close_121 hT (fun N' f' hP => ?_) 20 3 N 0 (by omega) (by omega) (by omega) ⟨hm, Or.inl ⟨rfl, fun _ _ => rfl, fun i' k' h1 h2 h3 h4 => by omega⟩⟩
      obtain ⟨hm2, hf2⟩ := hP
      rcases hf2 with ⟨f0, f1, f2⟩ | ⟨f1, f2⟩
      · have hg1 := hg rfl
        exact ih N' f' hm2 (by omega) (fun h => by omega) (fun _ i' k' h1 h2 h3 hl => f2 i' k' h1 h2 h3 (by omega) hl) (Or.inl f0)
      · have hg1 := hg rfl
        exact ih N' f' hm2 (by omega) (fun _ => by omega) (fun h => by omega) (Or.inr f1)
end X7
