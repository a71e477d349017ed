section Y4
variable {Ls : Nat} {xs : Nat → Int32} {M N : g_M} {n m n0 r ec lv nb q : Nat} {S uf : Nat → Nat}
/-- the state at the head of the law's loop -/
def LW (M N : g_M) (n m n0 r ec lv q : Nat) (S uf : Nat → Nat) : Prop := OB M n m n0 r ec lv S ∧ US M N m n0 uf ∧ UQ M N ec uf ∧ M 99 0 = (q : Int) ∧ ∀ l, l < lv → N 6 l = ((S l : Nat) : Int)
theorem r_law254 {k81 : Int → Int → Int → g_M → g_M → Prop} {c : Int} {k : Nat} (h : LW M N n m n0 r ec lv q S uf) (hn : n ≤ 840) (hm : m + 28 < 16000) (hq : q + 28 ≤ 1000)
    (kk : ∀ (n' m' q' : Nat) (M' N' : g_M), LW M' N' n' m' n0 r ec lv q' S uf → n' ≤ n + n0 → m' ≤ m + 28 → q' ≤ q + 28 → k81 ec lv ((k + 1 : Nat) : Int) M' N') : F_L_law_254 Ls xs k81 ec lv k c M N := by
  obtain ⟨hO, hU, hUQ, h99, h6⟩ := h
  have hQ := hO.eqo
  have h14 := hO.1.2.1
  unfold F_L_law_254 F_X11_equationCount
  rw [hQ.1]
  refine ⟨fun _ => ?_, fun c => absurd rfl c⟩
  refine r_lclose (hU.ts (by omega) hUQ hQ.2.1) (fun N' g1 g2 g3 g4 => ⟨15, ?_⟩)
  have hU' : US M N' m n0 uf := by
    unfold US
    rw [g1 0 (by decide), g1 1 (by decide), g1 2 (by decide)]
    exact hU
  have hUQ' : UQ M N' ec uf := by
    unfold UQ
    rw [g1 4 (by decide), g1 5 (by decide)]
    exact hUQ
  have hback : ∀ E, ELAW N' ec E ↔ ELAW N ec E := fun E => by
    unfold ELAW lf rt xv yv
    rw [g1 0 (by decide), g1 1 (by decide), g1 2 (by decide), g1 4 (by decide), g1 5 (by decide)]
  refine r_law284 (nb := n) (m0 := m) (q0 := q) ⟨(hback _).2 g4, fun E hE => g3 E ((hback E).1 hE), g2⟩ (by omega) hm hq (fun n' m' q' M' hC h1 h2 => ?_) 15 0 n m q M (by omega) (by omega) ⟨hO, hU', hUQ', PT.new, h99⟩ (by omega) (by omega)
  obtain ⟨a1, a2, a3, a4, a5⟩ := hC
  have := kk n' m' q' M' N' ⟨a1, a2, a3, a5, fun l hl => by rw [g1 6 (by decide)]; exact h6 l hl⟩ a4.le h1 h2
  rw [show (k : Int) + 1 = ((k + 1 : Nat) : Int) by omega]
  exact this
theorem r_cell {Q : Int → g_M → Prop} {a : Nat} (ha : a < 1000) (hL : Ls ≤ 260) (k : ∀ v : Int, Q v M) : F_L_cell Ls xs Q (a : Int) M := by
  unfold F_L_cell
  rw [bq (x := (a : Int)) (by omega) (by omega), bq (x := (Ls : Int)) (by omega) (by omega)]
  exact ⟨fun h => ⟨ink a rfl (by omega) (by omega), k _⟩, fun _ => k _⟩
theorem UQ.le {ec' : Nat} (h : UQ M N ec uf) (hle : ec' ≤ ec) : UQ M N ec' uf := fun e he => h e (by omega)
theorem r_law81 (hL : Ls ≤ 260) : ∀ (f k n m r ec lv q : Nat) (S : Nat → Nat) (M N : g_M), k ≤ 12 → 12 - k < f → LW M N n m n0 r ec lv q S uf → n ≤ 14 + 28 * k → m ≤ 14 + 28 * k → q ≤ 29 * k → ec ≤ k → F_L_law_81 Ls xs f ec lv k M N := by
  intro f
  induction f with
  | zero => intros; omega
  | succ f ih =>
    intro k n m r ec lv q S M N h1 h2 h hn hm hq hec
    have hO := h.1
    have hU := h.2.1
    have hUQ := h.2.2.1
    have h99 : LW M N n m n0 r ec lv q S uf → M 99 0 = (q : Int) := fun h => h.2.2.2.1
    have h6 := h.2.2.2.2
    have h14 := hO.1.2.1
    have hn0 := hO.1.2.2.1
    have hlv := hO.2.2.1.2.1
    unfold F_L_law_81
    rw [bq (x := (k : Int)) (by omega) (by omega), show bm 12 = 12 by decide, bq (x := (lv : Int)) (by omega) (by omega), show bm 8 = 8 by decide]
    refine ⟨fun c9 => ?_, fun _ => trivial⟩
    rw [show (15 : Int) + (k : Int) = ((15 + k : Nat) : Int) by omega]
    refine r_cell (by omega) hL (fun c => ?_)
    refine r_below 6 (by omega) (by omega) (fun what hw => ?_)
    -- behind an operation: the checks, then the next turn
    have after : ∀ (n1 m1 r1 ec1 lv1 q1 : Nat) (S1 : Nat → Nat) (M1 N1 : g_M), LW M1 N1 n1 m1 n0 r1 ec1 lv1 q1 S1 uf → n1 ≤ n + n0 → m1 ≤ m → q1 ≤ q + 1 → ec1 ≤ ec + 1 → F_L_law_254 Ls xs (F_L_law_81 Ls xs f) ec1 lv1 k c M1 N1 := fun n1 m1 r1 ec1 lv1 q1 S1 M1 N1 hL1 b1 b2 b3 b4 =>
      r_law254 hL1 (by omega) (by omega) (by omega) (fun n' m' q' M' N' hL' d1 d2 d3 => ih (k + 1) n' m' r1 ec1 lv1 q' S1 M' N' (by omega) (by omega) hL' (by omega) (by omega) (by omega) (by omega))
    have k141 : F_L_law_141 Ls xs (F_L_law_81 Ls xs f) ec lv k c what M N := by
      unfold F_L_law_141
      refine ⟨fun _ => ?_, fun _ => ?_⟩
      · unfold F_L_pop
        refine r_pop hO (by omega) (h99 h) (by omega) (fun hl n' r' M' g1 g2 g3 g4 g5 g6 g7 g8 g9 => ?_) (fun hl M' g1 g2 g3 g4 g5 g6 g7 => ?_)
        · refine ⟨fun _ => ⟨fun _ => ⟨ink (lv - 1) (by omega) (by omega) (by omega), ?_⟩, fun c => absurd c (fun h9 => h9 (by rw [bq (x := (lv : Int)) (by omega) (by omega)]; omega))⟩, fun c => absurd (by rw [show ((lv - 1 : Nat) : Int) = (lv : Int) - 1 by omega]) c⟩
          rw [bnat (i := (lv : Int) + (-1)) (lv - 1) (by omega) (by omega), h6 (lv - 1) (by omega), show (lv : Int) + (-1) = ((lv - 1 : Nat) : Int) by omega]
          have hS := ((hO.2.2.2 (lv - 1) (by omega)).2.2.1)
          refine after n' m r' (S (lv - 1)) (lv - 1) q S M' N ⟨g1, hU.ext g4 hn0 (Nat.le_refl _) (fun i _ => by rw [g5]), fun e he => ?_, by rw [g6, h99 h], fun l hl' => h6 l (by omega)⟩ g3 (Nat.le_refl _) (by omega) (by omega)
          rw [g7, g8]
          exact hUQ.le hS e he
        · subst hl
          refine ⟨fun _ => ⟨fun c => absurd c (by decide), fun _ => ?_⟩, fun c => absurd (by decide) c⟩
          refine after n m r ec 0 (q + 1) S M' N ⟨g1, hU.ext g2 hn0 (Nat.le_refl _) (fun i _ => by rw [g3]), ?_, g4, fun l hl' => absurd hl' (by omega)⟩ (by omega) (Nat.le_refl _) (Nat.le_refl _) (by omega)
          unfold UQ
          rw [g5, g6]
          exact hUQ
      · refine r_below 14 (by omega) (by omega) (fun i hi => ?_)
        refine r_below 14 (by omega) (by omega) (fun j hj => ?_)
        rw [bq (x := (i : Int)) (by omega) (by omega), bq (x := (j : Int)) (by omega) (by omega), Int.toNat_natCast, Int.toNat_natCast]
        refine ⟨ink i rfl hi (by omega), ink j rfl hj (by omega), ?_⟩
        obtain ⟨p, p1, p2, p3, hx⟩ := hU.1 i hi
        obtain ⟨s, s1, s2, s3, hy⟩ := hU.1 j hj
        rw [p2, s2]
        unfold F_L_equate
        refine r_equate hO (by omega) (by omega) (by omega) p s (uf i) (uf j) p1 s1 p3 s3 hx hy (h99 h) (by omega) (fun n' r' M' g1 g2 g3 g4 g5 g6 g7 g8 g9 g10 => ?_) (fun M' g1 g2 g3 g4 g5 g6 => ?_)
        · have k230 : F_L_law_230 Ls xs (F_L_law_81 Ls xs f) ec lv k c i j ec M' N := by
            unfold F_L_law_230
            refine ⟨fun _ => ⟨ink ec rfl (by omega) (by omega), ink ec rfl (by omega) (by omega), ?_⟩, fun c => absurd rfl c⟩
            rw [bq (x := (ec : Int)) (by omega) (by omega), Int.toNat_natCast, show (ec : Int) + 1 = ((ec + 1 : Nat) : Int) by omega]
            generalize hN1 : up (up N 4 ec (i : Int)) 5 ec (j : Int) = N1
            have hS : SM [4, 5] N N1 := by
              rw [← hN1]
              exact ((SM.rf _ _).u (by decide)).u (by decide)
            have v4 : ∀ e, N1 4 e = if e = ec then (i : Int) else N 4 e := fun e => by rw [← hN1, upi, upi]; simp
            have v5 : ∀ e, N1 5 e = if e = ec then (j : Int) else N 5 e := fun e => by rw [← hN1, upi, upi]; simp
            refine after n' m r' (ec + 1) lv q S M' N1 ⟨g1, ?_, fun e he => ?_, by rw [g9, h99 h], fun l hl => by rw [hS 6 (by decide)]; exact h6 l hl⟩ g3 (Nat.le_refl _) (by omega) (by omega)
            · have := hU.ext g4 hn0 (Nat.le_refl m) (fun i _ => by rw [g8])
              unfold US at this ⊢
              rw [hS 0 (by decide), hS 1 (by decide), hS 2 (by decide)]
              exact this
            · rw [v4, v5]
              by_cases e9 : e = ec
              · rw [if_pos e9, if_pos e9, e9, g6, g7]
                exact ⟨i, j, hi, hj, rfl, rfl, rfl, rfl⟩
              · rw [if_neg e9, if_neg e9, (g5 e (by omega)).1, (g5 e (by omega)).2]
                exact hUQ e (by omega)
          refine ⟨fun _ => k230, fun _ => ⟨fun _ => k230, fun c => absurd rfl c⟩⟩
        · refine ⟨fun _ => ?_, fun c => absurd rfl c⟩
          unfold F_L_law_230
          rw [bq (x := (ec : Int)) (by omega) (by omega), show bm (-1) = -1 by decide]
          refine ⟨fun c => absurd c (by omega), fun _ => ?_⟩
          refine after n m r ec lv (q + 1) S M' N ⟨g1, hU.ext g2 hn0 (Nat.le_refl _) (fun i _ => by rw [g4]), fun e he => ?_, g5, h6⟩ (by omega) (Nat.le_refl _) (Nat.le_refl _) (by omega)
          rw [(g3 e he).1, (g3 e he).2]
          exact hUQ e he
    refine ⟨fun _ => ⟨fun hlt => ⟨ink lv rfl (by omega) (by omega), ?_⟩, fun _ => k141⟩, fun _ => k141⟩
    refine r_push hO (by omega) (fun M' g1 g2 g3 g4 g5 g6 g7 => ⟨fun _ => ?_, fun c => absurd (by rw [show ((lv + 1 : Nat) : Int) = (lv : Int) + 1 by omega]) c⟩)
    rw [Int.toNat_natCast, show (lv : Int) + 1 = ((lv + 1 : Nat) : Int) by omega]
    generalize hN1 : up N 6 lv (ec : Int) = N1
    have hS : SM [6] N N1 := by
      rw [← hN1]
      exact (SM.rf _ _).u (by decide)
    have v6 : ∀ l, N1 6 l = if l = lv then (ec : Int) else N 6 l := fun l => by rw [← hN1, upi]; simp
    refine after n m r ec (lv + 1) q _ M' N1 ⟨g1, ?_, ?_, by rw [g4, h99 h], fun l hl => ?_⟩ (by omega) (Nat.le_refl _) (by omega) (by omega)
    · have := hU.ext g2 hn0 (Nat.le_refl m) (fun i _ => by rw [g3])
      unfold US at this ⊢
      rw [hS 0 (by decide), hS 1 (by decide), hS 2 (by decide)]
      exact this
    · unfold UQ
      rw [g5, g6, hS 4 (by decide), hS 5 (by decide)]
      exact hUQ
    · show N1 6 l = (((if l = lv then ec else S l) : Nat) : Int)
      rw [v6]
      by_cases e : l = lv
      · rw [if_pos e, if_pos e]
      · rw [if_neg e, if_neg e]
        exact h6 l (by omega)
end Y4
