section T1
/-- what the needs read -/
def GF (M : g_M) (C G t : Nat) : Prop := SY M ∧ GS M C G ∧ G ≤ 900 ∧ C ≤ 900 ∧ t ≤ G ∧ M 44 18 = (t : Int) ∧ ∀ i, i < t → M 22 i = ((sq M i : Nat) : Int) ∧ sq M i < G
def ow (M : g_M) (k : Nat) : Nat := (M 10 k).toNat
theorem GF.cong {M M' : g_M} {C G t : Nat} (h : GF M C G t) (hS : SM [13] M M') : GF M' C G t ∧ (∀ k, gs M' k = gs M k) ∧ (∀ k j, gp M' k j = gp M k j) ∧ (∀ k, ow M' k = ow M k) ∧ ∀ i, sq M' i = sq M i := by
  obtain ⟨h1, h2, h3, h4, h5, h6, h7⟩ := h
  have m : ∀ a, a ≠ 13 → M' a = M a := fun a ha => hS a (by simp [ha])
  have e : ∀ i, sq M' i = sq M i := fun i => by unfold sq; rw [m 22 (by decide)]
  refine ⟨⟨h1.cong (by rw [m 41 (by decide)]) (by rw [m 41 (by decide)]) (m 50 (by decide)) (m 51 (by decide)) (m 52 (by decide)) (m 53 (by decide)) (m 54 (by decide)), h2.cong (m 10 (by decide)) (m 11 (by decide)) (m 12 (by decide)) (by rw [m 44 (by decide)]) (by rw [m 44 (by decide)]), h3, h4, h5, by rw [m 44 (by decide)]; exact h6, fun i hi => by rw [e, m 22 (by decide)]; exact h7 i hi⟩, fun k => by unfold gs; rw [m 11 (by decide)], fun k j => by unfold gp; rw [m 12 (by decide)], fun k => by unfold ow; rw [m 10 (by decide)], e⟩
theorem GF.own {M : g_M} {C G t k : Nat} (h : GF M C G t) (hk : k < G) : M 10 k = ((ow M k : Nat) : Int) ∧ ow M k < C := by
  have := (h.2.1.2.2 k hk).1
  unfold ow
  omega
theorem GF.part {M : g_M} {C G t k j : Nat} (h : GF M C G t) (hk : k < G) (hj : j < arN (gs M k)) : M 12 (3 * k + j) = ((gp M k j : Nat) : Int) ∧ gp M k j < C := by
  have := (h.2.1.2.2 k hk).2.2 j hj
  unfold gp
  omega
theorem r_dropNeeds {M0 : g_M} {Q : g_M → Prop} {C G t : Nat} (hR : RG M0) (h : GF M0 C G t) (k : ∀ M', RG M' → SM [13] M0 M' → (∀ d, d < C → M' 13 d = 0) → Q M') : F_X2_dropNeeds Q M0 := by
  have hC := h.2.2.2.1
  have loop : ∀ (f d : Nat) (M : g_M), d ≤ C → C - d < f → RG M → SM [13] M0 M → (∀ d', d' < d → M 13 d' = 0) → F_X2_dropNeeds_2 Q f d M := by
    intro f
    induction f with
    | zero => intros; omega
    | succ f ih =>
      intro d M h1 h2 hR hS hz
      unfold F_X2_dropNeeds_2
      rw [hS 44 (by decide), h.2.1.1, bq (x := (d : Int)) (by omega) (by omega), bq (x := (C : Int)) (by omega) (by omega)]
      refine ⟨fun c9 => ⟨okk d rfl (by show d < 65536; omega), ?_⟩, fun c9 => k M hR hS (fun d' hd' => hz d' (by omega))⟩
      rw [rsk d rfl (by omega), show (d : Int) + 1 = ((d + 1 : Nat) : Int) by omega]
      refine ih (d + 1) _ (by omega) (by omega) (hR.u (by omega) (by omega)) (hS.u (by decide)) (fun d' hd' => ?_)
      by_cases e : d' = d
      · rw [e, up1]
      · rw [up2 e]
        exact hz d' (by omega)
  unfold F_X2_dropNeeds
  exact ⟨C + 1, loop (C + 1) 0 M0 (by omega) (by omega) hR (SM.rf _ _) (fun d h => absurd h (by omega))⟩
/-- a production's parts are needed -/
theorem r_needParts {M0 : g_M} {Q : g_M → Prop} {C G t p : Nat} (hR : RG M0) (h : GF M0 C G t) (hp : p < G) (k : ∀ M', RG M' → SM [13] M0 M' → (∀ j, j < arN (gs M0 p) → M' 13 (gp M0 p j) = 1) → (∀ d, M' 13 d = M0 13 d ∨ M' 13 d = 1 ∧ ∃ j, j < arN (gs M0 p) ∧ gp M0 p j = d) → Q M') : F_X2_needParts Q p M0 := by
  have hG := h.2.2.1
  have hC := h.2.2.2.1
  have hr := arN_le (gs M0 p)
  have loop : ∀ (f j : Nat) (M : g_M), j ≤ arN (gs M0 p) → arN (gs M0 p) - j < f → RG M → SM [13] M0 M → (∀ j', j' < j → M 13 (gp M0 p j') = 1) → (∀ d, M 13 d = M0 13 d ∨ M 13 d = 1 ∧ ∃ j, j < arN (gs M0 p) ∧ gp M0 p j = d) → F_X2_needParts_2 Q f p j M := by
    intro f
    induction f with
    | zero => intros; omega
    | succ f ih =>
      intro j M h1 h2 hR hS hz hd
      obtain ⟨hF, egs, egp, -, -⟩ := h.cong hS
      unfold F_X2_needParts_2
      refine r_gArity hF.1 hF.2.1 (by omega) p hp ?_
      rw [egs, bq (x := (j : Int)) (by omega) (by omega), bq (x := (arN (gs M0 p) : Int)) (by omega) (by omega)]
      have b1 : j < arN (gs M0 p) → j + 1 ≤ arN (gs M0 p) ∧ arN (gs M0 p) - (j + 1) < f := fun h => by omega
      refine ⟨fun c9 => ?_, fun c9 => k M hR hS (fun j' hj' => hz j' (by omega)) hd⟩
      have hj : j < arN (gs M0 p) := by omega
      obtain ⟨e1, e2⟩ := h.part hp hj
      rw [rgk (i := 3 * (p : Int) + (j : Int)) (3 * p + j) (by omega) (by omega), hS 12 (by decide), e1]
      refine ⟨okk (gp M0 p j) rfl (by show gp M0 p j < 65536; omega), ?_⟩
      rw [rsk (gp M0 p j) rfl (by omega), show (j : Int) + 1 = ((j + 1 : Nat) : Int) by omega]
      have v : ∀ d, up M 13 (gp M0 p j) 1 13 d = if d = gp M0 p j then 1 else M 13 d := fun d => by rw [upi]; simp
      refine ih (j + 1) _ (b1 hj).1 (b1 hj).2 (hR.u (by omega) (by omega)) (hS.u (by decide)) (fun j' hj' => ?_) (fun d => ?_)
      · rw [v]
        by_cases e : gp M0 p j' = gp M0 p j
        · rw [if_pos e]
        · rw [if_neg e]
          refine hz j' ?_
          by_cases e2 : j' = j
          · exact absurd (by rw [e2]) e
          · omega
      · rw [v]
        by_cases e : d = gp M0 p j
        · rw [if_pos e]
          exact Or.inr ⟨rfl, j, hj, e.symm⟩
        · rw [if_neg e]
          exact hd d
  unfold F_X2_needParts
  exact ⟨4, loop 4 0 M0 (by omega) (by omega) hR (SM.rf _ _) (fun j h => absurd h (by omega)) (fun d => Or.inl rfl)⟩
/-- a production that is its class's choice, the class needed -/
def nee (M : g_M) (p : Nat) : Prop := M 20 (ow M p) = (p : Int) ∧ M 13 (ow M p) = 1
theorem r_isNeeded {M : g_M} {Q : Int → g_M → Prop} {C G t : Nat} (hR : RG M) (h : GF M C G t) (p : Nat) (hp : p < G) (k1 : nee M p → Q 1 M) (k2 : ¬ nee M p → Q 0 M) : F_X2_isNeeded Q p M := by
  obtain ⟨e1, e2⟩ := h.own hp
  have hG := h.2.2.1
  have hC := h.2.2.2.1
  unfold F_X2_isNeeded
  rw [rgn p (by omega), e1, rgn (ow M p) (by omega), rgn (ow M p) (by omega), hR.b, hR.b, bq (x := (p : Int)) (by omega) (by omega), show bm 1 = 1 by decide]
  exact ⟨fun a => ⟨fun b => k1 ⟨a, b⟩, fun b => k2 (fun h => b h.2)⟩, fun a => k2 (fun h => a h.1)⟩
end T1
