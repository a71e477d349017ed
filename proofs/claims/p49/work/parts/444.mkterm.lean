section T4
/-- the terms of a production's parts -/
def mA (M : g_M) (k : Nat) : Int := if 0 < arN (gs M k) then M 23 (gp M k 0) else -1
def mB (M : g_M) (k : Nat) : Int := if 1 < arN (gs M k) then M 23 (gp M k 1) else -1
theorem r_makeTerm {M : g_M} {Q : Int → g_M → Prop} {n m C G t p : Nat} (hW : WF M n m) (h : GF M C G t) (hn : n < 3000) (hp : p < G) (hv : ∀ j, j < arN (gs M p) → 0 ≤ M 23 (gp M p j) ∧ M 23 (gp M p j) < (n : Int))
    (k : ∀ (y n' : Nat) (M' : g_M), WF M' n' m → n ≤ n' → n' ≤ n + 1 → y < n' → EX n M M' → NO M' y (gs M p) (mA M p) (mB M p) (-1) → SM [0, 1, 2, 4, 5, 42] M M' → Q y M') : F_X2_makeTerm Q p M := by
  have hG := h.2.2.1
  have hC := h.2.2.2.1
  have hr := arN_le (gs M p)
  have h11 := (h.2.1.2.2 p hp).2.1
  have hs5 : gs M p < 5 := by unfold gs; omega
  have es : M 11 p = ((gs M p : Nat) : Int) := by unfold gs; omega
  have okA : okp n (arN (gs M p)) 0 (mA M p) := ⟨fun h => by unfold mA; rw [if_pos h]; exact hv 0 h, fun h => by unfold mA; rw [if_neg h]⟩
  have okB : okp n (arN (gs M p)) 1 (mB M p) := ⟨fun h => by unfold mB; rw [if_pos h]; exact hv 1 h, fun h => by unfold mB; rw [if_neg h]⟩
  have fin : ∀ t0, t0 = -1 → F_X2_makeTerm_93 Q p (mA M p) (mB M p) t0 M := fun t0 h0 => by
    subst h0
    unfold F_X2_makeTerm_93
    rw [rgn p (by omega), es]
    exact r_makeW hW hn (gs M p) hs5 _ _ _ okA okB ⟨fun h => by omega, fun _ => rfl⟩ (fun y n' M' g1 g2 g3 g4 _ _ g7 g8 g9 => k y n' M' g1 g2 g3 g4 g7 g8 g9)
  have hbr : bm (arN (gs M p) : Int) = (arN (gs M p) : Int) := bq (by omega) (by omega)
  have rd : ∀ j, j < arN (gs M p) → rg M 23 (rg M 12 ((3 * (p : Int)) + (j : Int))) = M 23 (gp M p j) := fun j hj => by
    obtain ⟨e1, e2⟩ := h.part hp hj
    rw [rgk (i := 3 * (p : Int) + (j : Int)) (3 * p + j) (by omega) (by omega), e1, rgn (gp M p j) (by omega)]
  have s64 : ∀ t0, t0 = mB M p → F_X2_makeTerm_64 Q p (3 * (p : Int)) (arN (gs M p)) (mA M p) t0 M := fun t0 h0 => by
    subst h0
    unfold F_X2_makeTerm_64
    rw [hbr, show bm 2 = 2 by decide]
    exact ⟨fun c => absurd c (by omega), fun _ => fin _ rfl⟩
  have s35 : ∀ t0, t0 = mA M p → F_X2_makeTerm_35 Q p (3 * (p : Int)) (arN (gs M p)) t0 M := fun t0 h0 => by
    subst h0
    unfold F_X2_makeTerm_35
    rw [hbr, show bm 1 = 1 by decide]
    refine ⟨fun c => s64 _ ?_, fun c => s64 _ ?_⟩
    · have := rd 1 (by omega)
      unfold mB
      rw [if_pos (by omega)]
      exact this
    · unfold mB
      rw [if_neg (by omega)]
  unfold F_X2_makeTerm
  refine r_gArity h.1 h.2.1 (by omega) p hp ?_
  rw [hbr]
  refine ⟨fun c => s35 _ ?_, fun c => s35 _ ?_⟩
  · have := rd 0 (by omega)
    rw [show (3 * (p : Int)) + ((0 : Nat) : Int) = 3 * (p : Int) by omega] at this
    unfold mA
    rw [if_pos (by omega)]
    exact this
  · unfold mA
    rw [if_neg (by omega)]
theorem r_addRule {M : g_M} {Q : g_M → Prop} {n r : Nat} (hR : RG M) (hRU : RUL M n r) (hr : r < 30) (l v : Nat) (hl : l < n) (hv : v < n) (hn : n ≤ 3000) (hne : ∀ i, i < r → M 59 i ≠ (l : Int))
    (k : ∀ M', RG M' → SM [32, 45, 59, 60] M M' → RUL M' n (r + 1) → (∀ i, i < r → M' 59 i = M 59 i ∧ M' 60 i = M 60 i) → M' 59 r = (l : Int) → M' 60 r = (v : Int) → (∀ j, j ≠ 17 → M' 45 j = M 45 j) → Q M') : F_X9_addRule Q l v M := by
  obtain ⟨h1, h2, h3⟩ := hRU
  unfold F_X9_addRule
  rw [h1, bq (x := (r : Int)) (by omega) (by omega), show bm 30 = 30 by decide]
  refine ⟨fun c => absurd c (by omega), fun _ => ⟨fun _ => ⟨ink r rfl (by omega) (by omega), ?_⟩, fun c => absurd c (by omega)⟩⟩
  rw [Int.toNat_natCast, up3 (by decide), h1, bq (x := (r : Int)) (by omega) (by omega), Int.toNat_natCast]
  refine ⟨ink r rfl (by omega) (by omega), okk l rfl (by show l < 65536; omega), ?_⟩
  rw [up3 (by decide), up3 (by decide), h1, rsk l rfl (by omega), up3 (by decide), up3 (by decide), up3 (by decide), h1]
  generalize hM' : up (up (up (up M 59 r (l : Int)) 60 r (v : Int)) 32 l (r : Int)) 45 17 ((r : Int) + 1) = M'
  have u : ∀ a j, M' a j = if a = 45 ∧ j = 17 then (r : Int) + 1 else if a = 32 ∧ j = l then (r : Int) else if a = 60 ∧ j = r then (v : Int) else if a = 59 ∧ j = r then (l : Int) else M a j := fun a j => by rw [← hM']; rfl
  have hR' : RG M' := by
    rw [← hM']
    exact (((hR.u (by omega) (by omega)).u (by omega) (by omega)).u (by omega) (by omega)).u (by omega) (by omega)
  have hS : SM [32, 45, 59, 60] M M' := by
    intro a ha
    funext j
    simp only [List.mem_cons, List.not_mem_nil, or_false, not_or] at ha
    rw [u]
    simp [ha]
  have v59 : ∀ i, M' 59 i = if i = r then (l : Int) else M 59 i := fun i => by rw [u]; simp
  have v60 : ∀ i, M' 60 i = if i = r then (v : Int) else M 60 i := fun i => by rw [u]; simp
  have v32 : ∀ i, M' 32 i = if i = l then (r : Int) else M 32 i := fun i => by rw [u]; simp
  refine k M' hR' hS ⟨by rw [u]; simp, by omega, fun i hi => ?_⟩ (fun i hi => ⟨by rw [v59, if_neg (by omega)], by rw [v60, if_neg (by omega)]⟩) (by rw [v59, if_pos rfl]) (by rw [v60, if_pos rfl]) (fun j hj => by rw [u]; simp [hj])
  by_cases e : i = r
  · subst e
    exact ⟨l, v, hl, hv, by rw [v59, if_pos rfl], by rw [v60, if_pos rfl], by rw [v32, if_pos rfl]⟩
  · obtain ⟨l', v', a1, a2, a3, a4, a5⟩ := h3 i (by omega)
    refine ⟨l', v', a1, a2, by rw [v59, if_neg e, a3], by rw [v60, if_neg e, a4], ?_⟩
    rw [v32, if_neg (fun h => hne i (by omega) (by rw [a3, h])), a5]
end T4
