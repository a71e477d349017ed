section Q9
def vs (M : g_M) (G s : Nat) : Prop := s / 3 < G ∧ s % 3 < arN (gs M (s / 3))
def LK (M : g_M) (C G lim : Nat) : Prop :=
  (∀ c : Nat, c < C → 0 ≤ M 14 c ∧ M 14 c ≤ (lim : Int) ∧ (0 < M 14 c → vs M G (M 14 c - 1).toNat ∧ M 12 (M 14 c - 1).toNat = (c : Int)) ∧ ∀ s : Nat, s < lim → vs M G s → M 12 s = (c : Int) → (s : Int) < M 14 c) ∧
  (∀ s : Nat, s < lim → vs M G s → 0 ≤ M 15 s ∧ M 15 s ≤ (s : Int) ∧ (0 < M 15 s → vs M G (M 15 s - 1).toNat ∧ M 12 (M 15 s - 1).toNat = M 12 s) ∧ ∀ z : Nat, z < s → vs M G z → M 12 z = M 12 s → (z : Int) < M 15 s)
theorem LK.cong {M M' : g_M} {C G lim : Nat} (h : LK M C G lim) (h11 : M' 11 = M 11) (h12 : M' 12 = M 12) (h14 : M' 14 = M 14) (h15 : M' 15 = M 15) : LK M' C G lim := by
  unfold LK vs gs at *
  rw [h11, h12, h14, h15]
  exact h
theorem LK.more {M : g_M} {C G lim lim' : Nat} (h : LK M C G lim) (hl : lim ≤ lim') (hn : ∀ s, lim ≤ s → s < lim' → ¬ vs M G s) : LK M C G lim' := by
  obtain ⟨h1, h2⟩ := h
  have lt : ∀ s, s < lim' → vs M G s → s < lim := fun s hs hv => by
    rcases Nat.lt_or_ge s lim with h | h
    · exact h
    · exact absurd hv (hn s h hs)
  refine ⟨fun c hc => ?_, fun s hs hv => h2 s (lt s hs hv) hv⟩
  obtain ⟨a1, a2, a3, a4⟩ := h1 c hc
  exact ⟨a1, by omega, a3, fun s hs hv e => a4 s (lt s hs hv) hv e⟩
theorem vs_cls {M : g_M} {C G s : Nat} (hG : GS M C G) (h : vs M G s) : 0 ≤ M 12 s ∧ M 12 s < (C : Int) := by
  have := (hG.2.2 (s / 3) h.1).2.2 (s % 3) h.2
  rw [show 3 * (s / 3) + s % 3 = s by omega] at this
  exact this
theorem r_linkUsers_46 {M0 : g_M} {Q : g_M → Prop} {k36 : Int → g_M → Prop} {C G k : Nat} (hSY : SY M0) (hG : GS M0 C G) (hG1 : G ≤ 1000) (hC : C ≤ 1000) (hk : k < G)
    (kk : ∀ M' : g_M, RG M' → SM [14, 15, 20] M0 M' → M' 20 = M' 20 → LK M' C G (3 * (k + 1)) → (∀ c, c < C → M' 20 c = -1) → k36 ((k + 1 : Nat) : Int) M') :
    ∀ (f j : Nat) (M : g_M), j ≤ arN (gs M0 k) → arN (gs M0 k) - j < f → RG M → SM [14, 15, 20] M0 M → LK M C G (3 * k + j) → (∀ c, c < C → M 20 c = -1) → F_X2_linkUsers_46 Q k36 f k j M := by
  have hr := arN_le (gs M0 k)
  intro f
  induction f with
  | zero => intros; omega
  | succ f ih =>
    intro j M h1 h2 hR hS hL h20
    have hSY' := hSY.cong (M' := M) (by rw [hS 41 (by decide)]) (by rw [hS 41 (by decide)]) (hS 50 (by decide)) (hS 51 (by decide)) (hS 52 (by decide)) (hS 53 (by decide)) (hS 54 (by decide))
    have hG' := hG.cong (M' := M) (hS 10 (by decide)) (hS 11 (by decide)) (hS 12 (by decide)) (by rw [hS 44 (by decide)]) (by rw [hS 44 (by decide)])
    have egs : ∀ q, gs M q = gs M0 q := fun q => by unfold gs; rw [hS 11 (by decide)]
    unfold F_X2_linkUsers_46
    refine r_gArity hSY' hG' hG1 k hk ?_
    rw [egs, bq (x := (j : Int)) (by omega) (by omega), bq (x := (arN (gs M0 k) : Int)) (by omega) (by omega)]
    refine ⟨fun c9 => ?_, fun c9 => ?_⟩
    · have hvs : vs M G (3 * k + j) := ⟨by omega, by rw [show (3 * k + j) / 3 = k by omega, show (3 * k + j) % 3 = j by omega, egs]; omega⟩
      obtain ⟨x1, x2⟩ := vs_cls hG' hvs
      obtain ⟨c, hc⟩ : ∃ c : Nat, M 12 (3 * k + j) = (c : Int) := ⟨(M 12 (3 * k + j)).toNat, by omega⟩
      obtain ⟨a1, a2, a3, a4⟩ := hL.1 c (by omega)
      rw [rgk (i := 3 * (k : Int) + (j : Int)) (3 * k + j) (by omega) (by omega), hc]
      refine ⟨okk (3 * k + j) (by omega) (by show 3 * k + j < 65536; omega), okk c rfl (by show c < 65536; omega), ?_⟩
      rw [rgn c (by omega), rsk (i := 3 * (k : Int) + (j : Int)) (3 * k + j) (by omega) (by omega), rsk c rfl (by omega), show (j : Int) + 1 = ((j + 1 : Nat) : Int) by omega, show 3 * (k : Int) + (j : Int) + 1 = ((3 * k + j + 1 : Nat) : Int) by omega]
      generalize hM1 : up (up M 15 (3 * k + j) (M 14 c)) 14 c ((3 * k + j + 1 : Nat) : Int) = M1
      have hR1 : RG M1 := by
        rw [← hM1]
        exact (hR.u (by omega) (by omega)).u (by omega) (by omega)
      have hS1 : SM [14, 15] M M1 := by
        rw [← hM1]
        exact ((SM.rf _ _).u (by decide)).u (by decide)
      have v14 : ∀ q, M1 14 q = if q = c then ((3 * k + j + 1 : Nat) : Int) else M 14 q := fun q => by rw [← hM1, upi, upi]; simp
      have v15 : ∀ q, M1 15 q = if q = 3 * k + j then M 14 c else M 15 q := fun q => by rw [← hM1, upi, upi]; simp
      have m12 : M1 12 = M 12 := hS1 12 (by decide)
      have evs : ∀ s, vs M1 G s ↔ vs M G s := fun s => by unfold vs gs; rw [hS1 11 (by decide)]
      refine ih (j + 1) M1 (by omega) (by omega) hR1 (hS.tr (hS1.mono (by decide))) ⟨fun d hd => ?_, fun s hs hv => ?_⟩ (fun d hd => by rw [hS1 20 (by decide)]; exact h20 d hd)
      · rw [v14, m12]
        by_cases hdc : d = c
        · rw [if_pos hdc]
          refine ⟨by omega, by omega, fun _ => ?_, fun s hs _ _ => by omega⟩
          rw [show (((3 * k + j + 1 : Nat) : Int) - 1).toNat = 3 * k + j by omega, evs, hdc]
          exact ⟨hvs, hc⟩
        · rw [if_neg hdc]
          obtain ⟨b1, b2, b3, b4⟩ := hL.1 d hd
          refine ⟨b1, by omega, fun hp => ?_, fun s hs hv e => ?_⟩
          · rw [evs]
            exact b3 hp
          · rw [evs] at hv
            by_cases hsk : s = 3 * k + j
            · rw [hsk, hc] at e
              omega
            · exact b4 s (by omega) hv e
      · rw [evs] at hv
        rw [v15, m12]
        by_cases hsk : s = 3 * k + j
        · rw [if_pos hsk, hsk, hc]
          refine ⟨a1, by omega, fun hp => ?_, fun z hz hvz e => a4 z hz ((evs z).1 hvz) e⟩
          rw [evs]
          exact a3 hp
        · rw [if_neg hsk]
          obtain ⟨b1, b2, b3, b4⟩ := hL.2 s (by omega) hv
          refine ⟨b1, b2, fun hp => ?_, fun z hz hvz e => b4 z hz ((evs z).1 hvz) e⟩
          rw [evs]
          exact b3 hp
    · rw [show (k : Int) + 1 = ((k + 1 : Nat) : Int) by omega]
      refine kk M hR hS rfl (hL.more (by omega) (fun s hs1 hs2 hv => ?_)) h20
      have h3 := hv.2
      rw [show s / 3 = k by omega, egs] at h3
      omega
theorem r_linkUsers_36 {M0 : g_M} {Q : g_M → Prop} {C G : Nat} (hSY : SY M0) (hG : GS M0 C G) (hG1 : G ≤ 1000) (hC : C ≤ 1000)
    (kk : ∀ M' : g_M, RG M' → SM [14, 15, 20] M0 M' → LK M' C G (3 * G) → (∀ c, c < C → M' 20 c = -1) → Q M') :
    ∀ (f k : Nat) (M : g_M), k ≤ G → G - k < f → RG M → SM [14, 15, 20] M0 M → LK M C G (3 * k) → (∀ c, c < C → M 20 c = -1) → F_X2_linkUsers_36 Q f k M := by
  intro f
  induction f with
  | zero => intros; omega
  | succ f ih =>
    intro k M h1 h2 hR hS hL h20
    unfold F_X2_linkUsers_36
    rw [hS 44 (by decide), hG.2.1, bq (x := (k : Int)) (by omega) (by omega), bq (x := (G : Int)) (by omega) (by omega)]
    refine ⟨fun c9 => ⟨4, ?_⟩, fun c9 => ?_⟩
    · have hr := arN_le (gs M0 k)
      exact r_linkUsers_46 hSY hG hG1 hC (by omega) (fun M' g1 g2 _ g3 g4 => ih (k + 1) M' (by omega) (by omega) g1 g2 g3 g4) 4 0 M (by omega) (by omega) hR hS hL h20
    · have : k = G := by omega
      subst this
      exact kk M hR hS hL h20
theorem r_linkUsers_2 {M0 : g_M} {Q : g_M → Prop} {C G : Nat} (hSY : SY M0) (hG : GS M0 C G) (hG1 : G ≤ 1000) (hC : C ≤ 1000)
    (kk : ∀ M' : g_M, RG M' → SM [14, 15, 20] M0 M' → LK M' C G (3 * G) → (∀ c, c < C → M' 20 c = -1) → Q M') :
    ∀ (f c : Nat) (M : g_M), c ≤ C → C - c < f → RG M → SM [14, 15, 20] M0 M → (∀ d, d < c → M 14 d = 0 ∧ M 20 d = -1) → F_X2_linkUsers_2 Q f c M := by
  intro f
  induction f with
  | zero => intros; omega
  | succ f ih =>
    intro c M h1 h2 hR hS hz
    unfold F_X2_linkUsers_2
    rw [hS 44 (by decide), hG.1, bq (x := (c : Int)) (by omega) (by omega), bq (x := (C : Int)) (by omega) (by omega)]
    refine ⟨fun c9 => ⟨okk c rfl (by show c < 65536; omega), okk c rfl (by show c < 65536; omega), ?_⟩, fun c9 => ⟨G + 1, ?_⟩⟩
    · rw [rsk (M := M) c rfl (by omega), rsk c rfl (by omega), show (c : Int) + 1 = ((c + 1 : Nat) : Int) by omega]
      refine ih (c + 1) _ (by omega) (by omega) ((hR.u (by omega) (by omega)).u (by omega) (by omega)) ((hS.u (by decide)).u (by decide)) (fun d hd => ?_)
      by_cases hdc : d = c
      · subst hdc
        exact ⟨by rw [up3 (by decide), up1], by rw [up1]⟩
      · rw [up3 (by decide), up2 hdc, up2 hdc, up3 (by decide)]
        exact hz d (by omega)
    · have hcc : c = C := by omega
      subst hcc
      refine r_linkUsers_36 hSY hG hG1 hC kk (G + 1) 0 M (by omega) (by omega) hR hS ⟨fun d hd => ?_, fun s hs => absurd hs (by omega)⟩ (fun d hd => (hz d hd).2)
      rw [(hz d hd).1]
      exact ⟨by omega, by omega, fun h => absurd h (by omega), fun s hs => absurd hs (by omega)⟩
theorem r_linkUsers {M : g_M} {Q : g_M → Prop} {C G : Nat} (hR : RG M) (hSY : SY M) (hG : GS M C G) (hG1 : G ≤ 1000) (hC : C ≤ 1000)
    (kk : ∀ M' : g_M, RG M' → SM [14, 15, 20] M M' → LK M' C G (3 * G) → (∀ c, c < C → M' 20 c = -1) → Q M') : F_X2_linkUsers Q M := by
  unfold F_X2_linkUsers
  exact ⟨C + 1, r_linkUsers_2 hSY hG hG1 hC kk (C + 1) 0 M (by omega) (by omega) hR (SM.rf _ _) (fun d h => absurd h (by omega))⟩
end Q9
