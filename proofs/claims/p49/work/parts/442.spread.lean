section T2
theorem r_ranked {M : g_M} {Q : Int → g_M → Prop} (i : Nat) (hi : i ≤ 3000) (k : Q (M 22 i) M) : F_X2_ranked Q i M := by
  unfold F_X2_ranked
  rw [rgn i (by omega)]
  exact k
theorem r_owner {M : g_M} {Q : Int → g_M → Prop} (i : Nat) (hi : i ≤ 3000) (k : Q (M 10 i) M) : F_X2_owner Q i M := by
  unfold F_X2_owner
  rw [rgn i (by omega)]
  exact k
theorem r_choice {M : g_M} {Q : Int → g_M → Prop} (i : Nat) (hi : i ≤ 3000) (k : Q (M 20 i) M) : F_X2_choice Q i M := by
  unfold F_X2_choice
  rw [rgn i (by omega)]
  exact k
theorem r_seqCount {M : g_M} {Q : Int → g_M → Prop} {t : Nat} (h : M 44 18 = (t : Int)) (k : Q t M) : F_X2_sequenceCount Q M := by
  unfold F_X2_sequenceCount
  rw [h]
  exact k
/-- what the rules' sides need -/
def N2 (M0 M : g_M) (i : Nat) : Prop := M0 20 (ow M0 (sq M0 i)) ≠ ((sq M0 i : Nat) : Int) → M 13 (ow M0 (sq M0 i)) = 1 ∧ ∀ j, j < arN (gs M0 (sq M0 i)) → M 13 (gp M0 (sq M0 i) j) = 1
/-- what the needed choices need -/
def N3 (M0 M : g_M) (i : Nat) : Prop := M0 20 (ow M0 (sq M0 i)) = ((sq M0 i : Nat) : Int) → M 13 (ow M0 (sq M0 i)) = 1 → ∀ j, j < arN (gs M0 (sq M0 i)) → M 13 (gp M0 (sq M0 i) j) = 1
theorem r_spread {M0 : g_M} {Q : g_M → Prop} {C G t : Nat} (h : GF M0 C G t) (hE : ∀ i, i < t → ∀ j, j < arN (gs M0 (sq M0 i)) → ∀ i', i' < t → ow M0 (sq M0 i') = gp M0 (sq M0 i) j → M0 20 (ow M0 (sq M0 i')) = ((sq M0 i' : Nat) : Int) → i' < i)
    (k : ∀ M', RG M' → SM [13] M0 M' → (∀ d, M' 13 d = 0 ∨ M' 13 d = 1 ∨ C ≤ d) → (∀ i, i < t → N2 M0 M' i) → (∀ i, i < t → N3 M0 M' i) → Q M') :
    ∀ (f b : Nat) (M : g_M), b ≤ t → b < f → RG M → SM [13] M0 M → (∀ d, M 13 d = 0 ∨ M 13 d = 1 ∨ C ≤ d) → (∀ i, i < t → N2 M0 M i) → (∀ i, b ≤ i → i < t → N3 M0 M i) → F_X2_spreadNeeds_7 Q f ((b : Int) - 1) M := by
  have hG := h.2.2.1
  have ht := h.2.2.2.2.1
  intro f
  induction f with
  | zero => intros; omega
  | succ f ih =>
    intro b M h1 h2 hR hS h01 hN2 hN3
    obtain ⟨hF, egs, egp, eow, esq⟩ := h.cong hS
    unfold F_X2_spreadNeeds_7
    rw [bq (x := (b : Int) - 1) (by omega) (by omega)]
    refine ⟨fun c9 => k M hR hS h01 hN2 (fun i hi => hN3 i (by omega) hi), fun c9 => ?_⟩
    obtain ⟨d, rfl⟩ : ∃ d, b = d + 1 := ⟨b - 1, by omega⟩
    rw [show (((d + 1 : Nat) : Int) - 1) = (d : Int) by omega]
    obtain ⟨s1, s2⟩ := h.2.2.2.2.2.2 d (by omega)
    rw [rgn d (by omega), hS 22 (by decide), s1]
    refine r_isNeeded hR hF (sq M0 d) s2 (fun hn => ⟨fun c8 => absurd c8 (by decide), fun _ => ?_⟩) (fun hn => ⟨fun _ => ?_, fun c8 => absurd rfl c8⟩)
    · try rw [rgn d (by omega), hS 22 (by decide), s1]
      refine r_needParts hR hF s2 (fun M2 g1 g2 g3 g4 => ?_)
      unfold F_X2_spreadNeeds_33
      rw [show (d : Int) + (-1) = (d : Int) - 1 by omega]
      have up1' : ∀ z, M 13 z = 1 → M2 13 z = 1 := fun z hz => by
        rcases g4 z with h9 | h9
        · rw [h9, hz]
        · exact h9.1
      refine ih d M2 (by omega) (by omega) g1 (hS.tr g2) (fun z => ?_) (fun i hi hne => ?_) (fun i hi1 hi2 hc h13 => ?_)
      · rcases g4 z with h9 | h9
        · rw [h9]
          exact h01 z
        · exact Or.inr (Or.inl h9.1)
      · obtain ⟨q1, q2⟩ := hN2 i hi hne
        exact ⟨up1' _ q1, fun j hj => up1' _ (q2 j hj)⟩
      · by_cases hid : i = d
        · subst hid
          intro j hj
          have := g3 j (by rw [egs]; exact hj)
          rw [egp] at this
          exact this
        · rcases g4 (ow M0 (sq M0 i)) with h9 | ⟨-, j, hj, h9⟩
          · rw [h9] at h13
            exact fun j hj => up1' _ (hN3 i (by omega) hi2 hc h13 j hj)
          · rw [egs] at hj
            rw [egp] at h9
            have := hE d (by omega) j hj i hi2 h9.symm hc
            omega
    · unfold F_X2_spreadNeeds_33
      rw [show (d : Int) + (-1) = (d : Int) - 1 by omega]
      refine ih d M (by omega) (by omega) hR hS h01 hN2 (fun i hi1 hi2 hc h13 => ?_)
      by_cases hid : i = d
      · subst hid
        refine absurd ⟨?_, ?_⟩ hn
        · rw [eow, hS 20 (by decide)]
          exact hc
        · rw [eow]
          exact h13
      · exact hN3 i (by omega) hi2 hc h13
end T2
