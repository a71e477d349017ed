section Y9
variable {Ls : Nat} {xs : Nat → Int32}
theorem SMN.mono {M : g_M} {x : Nat} {a b : Int} (h : SMN M x a) (hab : a ≤ b) : SMN M x b := ⟨h.1, h.2.1, Int.le_trans h.2.2 hab⟩
theorem r_build95 {Mi M N : g_M} {Q : g_M → g_M → Prop} {k3 : Int → Int → g_M → g_M → Prop} {k n m a b : Nat} {c : Int} {uf : Nat → Nat} (h : BD Mi M N k n m uf) (hk3 : 3 ≤ k) (hk : k < 14) (ha : a < k) (hb : b < k) (sa : SMN M (uf a) 6) (sb : SMN M (uf b) 6)
    (kk : ∀ (n' m' : Nat) (M' N' : g_M) (uf' : Nat → Nat), BD Mi M' N' (k + 1) n' m' uf' → k3 1 ((k + 1 : Nat) : Int) M' N') : F_L_build_95 Ls xs Q k3 1 k c a b M N := by
  have bk : bm (k : Int) = (k : Int) := bq (by omega) (by omega)
  have k135 : ∀ vb : Int, (vb = -1 ∨ vb = (b : Int)) → F_L_build_135 Ls xs Q k3 1 k a b k vb M (up N 1 k (a : Int)) := fun vb hvb => by
    unfold F_L_build_135
    rw [bk, Int.toNat_natCast, show bm 3 = 3 by decide, up1]
    refine ⟨ink k rfl hk (by omega), fun c => absurd c (by omega), fun _ => ⟨ink k rfl hk (by omega), fun c => ?_, fun c => ?_⟩⟩
    · have hv : vb = -1 := by
        rcases hvb with h | h
        · exact h
        · rw [h, bq (by omega) (by omega)] at c
          omega
      exact r_build171 h hk3 hk ha hb sa sb (s := 3) (Or.inl ⟨rfl, hv⟩) (fun i => ⟨by rw [up3 (by decide), up3 (by decide)], by rw [up3 (by decide), upi]; simp, by rw [upi, up3 (by decide)]; simp⟩) kk
    · have hv : vb = (b : Int) := by
        rcases hvb with h | h
        · rw [h] at c
          exact absurd (by decide) c
        · exact h
      exact r_build171 h hk3 hk ha hb sa sb (s := 4) (Or.inr ⟨rfl, hv⟩) (fun i => ⟨by rw [up3 (by decide), up3 (by decide)], by rw [up3 (by decide), upi]; simp, by rw [upi, up3 (by decide)]; simp⟩) kk
  unfold F_L_build_95
  rw [bk, show bm 3 = 3 by decide]
  refine ⟨fun c => absurd c (by omega), fun _ => ?_⟩
  unfold F_L_build_111
  rw [bk, show bm 3 = 3 by decide, Int.toNat_natCast]
  exact ⟨ink k rfl hk (by omega), fun c => absurd c (by omega), fun _ => ⟨fun _ => k135 (-1) (Or.inl rfl), fun _ => k135 b (Or.inr rfl)⟩⟩
theorem r_build73 {Mi M N : g_M} {Q : g_M → g_M → Prop} {k3 : Int → Int → g_M → g_M → Prop} {k n m a b : Nat} {c : Int} {uf : Nat → Nat} (h : BD Mi M N k n m uf) (hk3 : 3 ≤ k) (hk : k < 14) (ha : a < k) (hb : b < k) (sa : SMN M (uf a) 6)
    (kk : ∀ (n' m' : Nat) (M' N' : g_M) (uf' : Nat → Nat), BD Mi M' N' (k + 1) n' m' uf' → k3 1 ((k + 1 : Nat) : Int) M' N') : F_L_build_73 Ls xs Q k3 1 k c a b M N := by
  have bb : bm (b : Int) = (b : Int) := bq (by omega) (by omega)
  have s1 : SMN M (uf 1) 6 := (h.2.2.2.2.2.1 1 (by omega) (by omega)).mono (by omega)
  have hbz : SMN M (uf b) 13 := by
    obtain ⟨j, j1, j2, j3, j4⟩ := h.2.1 b hb
    exact h.2.2.2.2.2.2 _ j4
  unfold F_L_build_73
  rw [bq (x := (k : Int)) (by omega) (by omega), show bm 3 = 3 by decide, bb, Int.toNat_natCast]
  refine ⟨fun c => absurd c (by omega), fun _ => ⟨ink b rfl (by omega) (by omega), ?_⟩⟩
  refine h.size (by omega) hb (fun w hw hw13 => ?_)
  rw [bq (x := (w : Int)) (by omega) (by omega), show bm 6 = 6 by decide]
  refine ⟨fun _ => r_build95 (b := 1) h hk3 hk ha (by omega) sa s1 kk, fun c => r_build95 h hk3 hk ha hb sa ⟨hbz.1, hbz.2.1, ?_⟩ kk⟩
  rw [← hw]
  exact Int.not_lt.1 c
theorem r_build_3 {Mi : g_M} {Q : g_M → g_M → Prop} (hL : Ls ≤ 260) (kk : ∀ (n m : Nat) (M N : g_M) (uf : Nat → Nat), BD Mi M N 14 n m uf → Q M N) :
    ∀ (f k n m : Nat) (uf : Nat → Nat) (M N : g_M), k ≤ 14 → 14 - k < f → BD Mi M N k n m uf → F_L_build_3 Ls xs Q f 1 k M N := by
  intro f
  induction f with
  | zero => intros; omega
  | succ f ih =>
    intro k n m uf M N h1 h2 h
    have bk : bm (k : Int) = (k : Int) := bq (by omega) (by omega)
    unfold F_L_build_3
    rw [bk, show bm 14 = 14 by decide, show bm 3 = 3 by decide]
    refine ⟨fun c9 => ?_, fun c9 => ?_⟩
    · rw [show (1 : Int) + (k : Int) = ((1 + k : Nat) : Int) by omega]
      refine r_cell (by omega) hL (fun c => ?_)
      rw [imaxk (a := (k : Int)) (b := 1) (by omega) (by omega) (by omega) (by omega), show max (k : Int) 1 = ((max k 1 : Nat) : Int) by omega]
      refine r_below (max k 1) (by omega) (by omega) (fun a ha => ?_)
      refine r_below (max k 1) (by omega) (by omega) (fun b hb => ?_)
      have go : ∀ (n' m' : Nat) (M' N' : g_M) (uf' : Nat → Nat), BD Mi M' N' (k + 1) n' m' uf' → F_L_build_3 Ls xs Q f 1 ((k + 1 : Nat) : Int) M' N' := fun n' m' M' N' uf' h' => ih (k + 1) n' m' uf' M' N' (by omega) (by omega) h'
      refine ⟨fun c3 => ?_, fun c3 => ?_⟩
      · have hk3 : k < 3 := by omega
        have hW := h.1.1
        have hnk := h.1.2.1
        have hmk := h.1.2.2.1
        unfold F_L_build_73
        rw [bk, show bm 3 = 3 by decide]
        refine ⟨fun _ => ?_, fun c => absurd c3 c⟩
        unfold F_L_build_95
        rw [bk, show bm 3 = 3 by decide]
        refine ⟨fun _ => ?_, fun c => absurd c3 c⟩
        unfold F_L_build_111
        rw [bk, show bm 3 = 3 by decide, Int.toNat_natCast]
        refine ⟨ink k rfl (by omega) (by omega), fun _ => ?_, fun c => absurd c3 c⟩
        unfold F_L_build_135
        rw [bk, show bm 3 = 3 by decide, Int.toNat_natCast]
        refine ⟨ink k rfl (by omega) (by omega), fun _ => ?_, fun c => absurd c3 c⟩
        have har : arN k = 0 := by
          unfold arN
          rw [if_neg (by omega), if_neg (by omega)]
        refine r_term2 hW (by omega) (by omega) k (by omega) 0 0 (-1) (-1) (fun h0 => absurd h0 (by omega)) (fun _ => rfl) (fun h0 => absurd h0 (by omega)) (fun _ => rfl) (fun M' n' x e1 e2 e3 e4 => ?_) (fun j n' m' x M' g1 g2 g3 g4 g5 g6 g7 gn g8 g9 g10 g11 g12 g13 => ?_)
        · have := new_size (by omega) e1 e2 e3 e4 (Or.inl rfl) (Or.inl rfl)
          unfold SMN at this
          omega
        · have hz := new_size (by omega) g1.st g11 g7 g9 (Or.inl rfl) (Or.inl rfl)
          have hsg : sg M' x = k := by
            unfold sg
            rw [g9.1]
            rfl
          have hz1 : SMN M' x 1 := by
            obtain ⟨p1, p2, p3, p4, p5⟩ := g1.st.2.2.2.2.2.2 x g7
            rw [g9.2.1, g9.2.2.1, g9.2.2.2, rgm] at p4 p5
            unfold SMN
            omega
          unfold F_L_build_183
          rw [bk, Int.toNat_natCast, show (k : Int) + 1 = ((k + 1 : Nat) : Int) by omega]
          refine ⟨ink k rfl (by omega) (by omega), go n' m' M' _ _ (h.step (by omega) g1 g2 g3 g4 g5 g6 g7 gn g8 g10 g11 g12 hz (va := -1) (vb := -1) (fun i => ⟨?_, ?_, ?_⟩) ⟨fun _ => ⟨hsg, hz1⟩, fun h9 => absurd hk3 (by omega)⟩)⟩
          · rw [upi, up3 (by decide), up3 (by decide)]
            simp
          · rw [up3 (by decide), up3 (by decide), upi]
            simp
          · rw [up3 (by decide), upi, up3 (by decide)]
            simp
      · have hk3 : 3 ≤ k := by omega
        have hk : k < 14 := by omega
        rw [show max k 1 = k by omega] at ha hb
        have haz : SMN M (uf a) 13 := by
          obtain ⟨j, j1, j2, j3, j4⟩ := h.2.1 a ha
          exact h.2.2.2.2.2.2 _ j4
        have s0 : SMN M (uf 0) 6 := (h.2.2.2.2.2.1 0 (by omega) (by omega)).mono (by omega)
        rw [bq (x := (a : Int)) (by omega) (by omega), Int.toNat_natCast]
        refine ⟨ink a rfl (by omega) (by omega), ?_⟩
        refine h.size h1 ha (fun w hw hw13 => ?_)
        rw [bq (x := (w : Int)) (by omega) (by omega), show bm 6 = 6 by decide]
        refine ⟨fun _ => r_build73 (a := 0) h hk3 hk (by omega) hb s0 go, fun c => r_build73 h hk3 hk ha hb ⟨haz.1, haz.2.1, ?_⟩ go⟩
        rw [← hw]
        exact Int.not_lt.1 c
    · have : k = 14 := by omega
      subst this
      exact kk n m M N uf h
theorem F_done (hL : Ls ≤ 260) : F_start Ls xs := by
  unfold F_start
  refine r_cell (a := 0) (by omega) hL (fun c => ?_)
  refine r_setUp (fun Mi hI => ⟨by decide, ?_⟩)
  obtain ⟨hW, hS⟩ := hI
  unfold F_L_law F_L_build
  refine ⟨15, r_build_3 (Mi := Mi) hL (fun n m M N uf h => ⟨13, ?_⟩) 15 0 0 0 (fun _ => 0) Mi (fun _ _ => 0) (by omega) (by omega) ⟨⟨hW, Nat.le_refl _, Nat.le_refl _, SM.rf _ _⟩, fun i h => absurd h (by omega), fun i h => absurd h (by omega), fun i h => absurd h (by omega), fun i _ h => absurd h (by omega), fun i h => absurd h (by omega), fun i h => absurd h (by omega)⟩⟩
  obtain ⟨⟨b1, b2, b3, b4⟩, c1, c2, c3, c4, c5, c6⟩ := h
  have hA : SM [0, 1, 2, 3, 4, 5, 33, 40, 41, 42, 46, 48, 49, 50, 51, 52, 53, 54, 62] M0 M := (hS.mono (by decide)).tr (b4.mono (by decide))
  have z45 : ∀ j, M 45 j = 0 := fun j => by rw [hA 45 (by decide)]; rfl
  have hUS : US M N m n uf := ⟨c1, c2, fun i hi => c3 i (by omega) hi, fun i h3 hi => c4 i h3 hi⟩
  have hRSK : RSK M n n 0 0 := by
    refine ⟨⟨⟨by rw [z45]; rfl, by omega, fun i h => absurd h (by omega)⟩, Nat.le_refl _, by omega, by rw [z45]; rfl, fun e h => absurd h (by omega)⟩, fun i h => absurd h (by omega), fun i h => absurd h (by omega), fun E _ _ i h => absurd h (by omega), fun M' n' _ _ _ _ e _ _ _ _ h => absurd h (by omega)⟩
  have hOB : OB M n m n 0 0 0 (fun _ => 0) := ⟨⟨b1, b2, Nat.le_refl _, fun x hx => by
    have := c6 x hx
    unfold SMN at this
    omega⟩, ⟨hRSK, Or.inl rfl⟩, ⟨by rw [z45]; rfl, by omega, z45 10⟩, fun l h => absurd h (by omega)⟩
  exact r_law81 hL 13 0 n m 0 0 0 0 (fun _ => 0) M N (by omega) (by omega) ⟨hOB, hUS, fun e h => absurd h (by omega), by rw [hA 99 (by decide)]; rfl, fun l h => absurd h (by omega)⟩ (by omega) (by omega) (by omega) (by omega)
end Y9
