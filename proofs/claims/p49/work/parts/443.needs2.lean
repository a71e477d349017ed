section T3
theorem r_takeRules_9 {M0 : g_M} {Q : g_M → Prop} {C G t : Nat} (h : GF M0 C G t) (hR0 : RG M0) (hE : ∀ i, i < t → ∀ j, j < arN (gs M0 (sq M0 i)) → ∀ i', i' < t → ow M0 (sq M0 i') = gp M0 (sq M0 i) j → M0 20 (ow M0 (sq M0 i')) = ((sq M0 i' : Nat) : Int) → i' < i)
    (k : ∀ M', RG M' → SM [13] M0 M' → (∀ i, i < t → N2 M0 M' i) → (∀ i, i < t → N3 M0 M' i) → ∃ n9, F_X9_takeRules_91 Q n9 0 (up M' 45 17 0)) :
    ∀ (f i : Nat) (M : g_M), i ≤ t → t - i < f → RG M → SM [13] M0 M → (∀ d, M 13 d = 0 ∨ M 13 d = 1 ∨ C ≤ d) → (∀ i', i' < i → N2 M0 M i') → F_X9_takeRules_9 Q f i M := by
  have hG := h.2.2.1
  have hC := h.2.2.2.1
  have ht := h.2.2.2.2.1
  intro f
  induction f with
  | zero => intros; omega
  | succ f ih =>
    intro i M h1 h2 hR hS h01 hN2
    obtain ⟨hF, egs, egp, eow, esq⟩ := h.cong hS
    unfold F_X9_takeRules_9
    refine r_seqCount hF.2.2.2.2.2.1 ?_
    rw [bq (x := (i : Int)) (by omega) (by omega), bq (x := (t : Int)) (by omega) (by omega)]
    refine ⟨fun c9 => ?_, fun c9 => ?_⟩
    · obtain ⟨s1, s2⟩ := h.2.2.2.2.2.2 i (by omega)
      obtain ⟨o1, o2⟩ := h.own s2
      refine r_ranked i (by omega) ?_
      rw [hS 22 (by decide), s1]
      refine r_owner (sq M0 i) (by omega) ?_
      rw [hS 10 (by decide), o1]
      refine r_choice (ow M0 (sq M0 i)) (by omega) ?_
      rw [hS 20 (by decide), hR0.b, bq (x := ((sq M0 i : Nat) : Int)) (by omega) (by omega)]
      unfold F_X9_takeRules_71
      rw [show (i : Int) + 1 = ((i + 1 : Nat) : Int) by omega]
      refine ⟨fun hc => ?_, fun hc => ?_⟩
      · refine ih (i + 1) M (by omega) (by omega) hR hS h01 (fun i' hi' => ?_)
        by_cases e : i' = i
        · subst e
          exact fun hne => absurd hc hne
        · exact hN2 i' (by omega)
      · refine r_owner (sq M0 i) (by omega) ?_
        rw [hS 10 (by decide), o1]
        unfold F_X2_need
        refine ⟨okk (ow M0 (sq M0 i)) rfl (by show ow M0 (sq M0 i) < 65536; omega), ?_⟩
        rw [rsk (ow M0 (sq M0 i)) rfl (by omega)]
        have hSn : SM [13] M0 (up M 13 (ow M0 (sq M0 i)) 1) := hS.u (by decide)
        obtain ⟨hFn, egs', egp', eow', esq'⟩ := h.cong hSn
        have v : ∀ d, up M 13 (ow M0 (sq M0 i)) 1 13 d = if d = ow M0 (sq M0 i) then 1 else M 13 d := fun d => by rw [upi]; simp
        refine r_needParts (hR.u (by omega) (by omega)) hFn s2 (fun M2 g1 g2 g3 g4 => ?_)
        have mono : ∀ z, M 13 z = 1 → M2 13 z = 1 := fun z hz => by
          rcases g4 z with h9 | h9
          · rw [h9, v]
            by_cases e : z = ow M0 (sq M0 i)
            · rw [if_pos e]
            · rw [if_neg e, hz]
          · exact h9.1
        refine ih (i + 1) M2 (by omega) (by omega) g1 (hSn.tr g2) (fun z => ?_) (fun i' hi' hne => ?_)
        · rcases g4 z with h9 | h9
          · rw [h9, v]
            by_cases e : z = ow M0 (sq M0 i)
            · rw [if_pos e]
              exact Or.inr (Or.inl rfl)
            · rw [if_neg e]
              exact h01 z
          · exact Or.inr (Or.inl h9.1)
        · by_cases e : i' = i
          · subst e
            refine ⟨?_, fun j hj => ?_⟩
            · rcases g4 (ow M0 (sq M0 i')) with h9 | h9
              · rw [h9, v, if_pos rfl]
              · exact h9.1
            · have := g3 j (by rw [egs']; exact hj)
              rw [egp'] at this
              exact this
          · obtain ⟨q1, q2⟩ := hN2 i' (by omega) hne
            exact ⟨mono _ q1, fun j hj => mono _ (q2 j hj)⟩
    · have hit : i = t := by omega
      subst hit
      unfold F_X2_spreadNeeds
      refine ⟨i + 1, ?_⟩
      rw [hF.2.2.2.2.2.1]
      exact r_spread h hE (fun M' g1 g2 _ g4 g5 => k M' g1 g2 g4 g5) (i + 1) i M (Nat.le_refl _) (by omega) hR hS h01 hN2 (fun i' h1 h2 => absurd h2 (by omega))
theorem r_takeRules0 {M : g_M} {Q : g_M → Prop} {C G t : Nat} (h : GF M C G t) (hR : RG M) (hE : ∀ i, i < t → ∀ j, j < arN (gs M (sq M i)) → ∀ i', i' < t → ow M (sq M i') = gp M (sq M i) j → M 20 (ow M (sq M i')) = ((sq M i' : Nat) : Int) → i' < i)
    (k : ∀ M', RG M' → SM [13] M M' → (∀ i, i < t → N2 M M' i) → (∀ i, i < t → N3 M M' i) → ∃ n9, F_X9_takeRules_91 Q n9 0 (up M' 45 17 0)) : F_X9_takeRules Q M := by
  unfold F_X9_takeRules
  refine r_dropNeeds hR h (fun M1 g1 g2 g3 => ⟨t + 1, ?_⟩)
  refine r_takeRules_9 h hR hE k (t + 1) 0 M1 (by omega) (by omega) g1 g2 (fun d => ?_) (fun i' h => absurd h (by omega))
  rcases Nat.lt_or_ge d C with h9 | h9
  · exact Or.inl (g3 d h9)
  · exact Or.inr (Or.inr h9)
end T3
