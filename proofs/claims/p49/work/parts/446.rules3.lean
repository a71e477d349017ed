section T6
def mj (M : g_M) (k j : Nat) : Int := M 23 (gp M k j)
theorem mAB {M : g_M} {p q : Nat} (hs : gs M p = gs M q) (ha : mA M p = mA M q) (hb : mB M p = mB M q) : ∀ j, j < arN (gs M p) → mj M p j = mj M q j := fun j hj => by
  have hr := arN_le (gs M p)
  unfold mA at ha
  unfold mB at hb
  rw [← hs] at ha hb
  unfold mj
  rcases Nat.lt_or_ge j 1 with h | h
  · have : j = 0 := by omega
    subst this
    rw [if_pos (by omega), if_pos (by omega)] at ha
    exact ha
  · have : j = 1 := by omega
    subst this
    rw [if_pos (by omega), if_pos (by omega)] at hb
    exact hb
theorem mA_cong {M M' : g_M} {p : Nat} (h11 : M' 11 = M 11) (h12 : M' 12 = M 12) (h : ∀ j, j < arN (gs M p) → M' 23 (gp M p j) = M 23 (gp M p j)) : mA M' p = mA M p ∧ mB M' p = mB M p := by
  have egs : gs M' p = gs M p := by unfold gs; rw [h11]
  have egp : ∀ j, gp M' p j = gp M p j := fun j => by unfold gp; rw [h12]
  unfold mA mB
  rw [egs, egp, egp]
  constructor
  · by_cases h0 : 0 < arN (gs M p)
    · rw [if_pos h0, if_pos h0, h 0 h0]
    · rw [if_neg h0, if_neg h0]
  · by_cases h0 : 1 < arN (gs M p)
    · rw [if_pos h0, if_pos h0, h 1 h0]
    · rw [if_neg h0, if_neg h0]
/-- the parts of what is made are made -/
theorem RK.parts {M : g_M} {C G t : Nat} (h : RK M C G t) (hN2 : ∀ i, i < t → N2 M M i) (hN3 : ∀ i, i < t → N3 M M i) {i j : Nat} (hi : i < t) (hm : mad M i) (hj : j < arN (gs M (sq M i))) : ∃ i', i' < i ∧ cho M i' ∧ ow M (sq M i') = gp M (sq M i) j ∧ mad M i' := by
  obtain ⟨i', h1, h2, h3⟩ := h.2.2.2.1 i hi j hj
  refine ⟨i', h1, h2, h3, Or.inr ?_⟩
  rw [h3]
  by_cases hc : cho M i
  · rcases hm with hm | hm
    · exact absurd hc hm
    · exact hN3 i hi hc hm j hj
  · exact (hN2 i hi hc).2 j hj
/-- a new term is none of those before -/
theorem YI.new {M0 M : g_M} {C G t n r i y : Nat} {Y : Nat → Nat} (h : RK M0 C G t) (hN2 : ∀ i, i < t → N2 M0 M0 i) (hN3 : ∀ i, i < t → N3 M0 M0 i) (hY : YI M0 M n r i Y) (h11 : M 11 = M0 11) (h12 : M 12 = M0 12) (hi : i < t) (hm : mad M0 i) (hN : NO M y (gs M0 (sq M0 i)) (mA M (sq M0 i)) (mB M (sq M0 i)) (-1)) : ∀ a, a < i → mad M0 a → Y a ≠ y := by
  intro a ha hma e
  obtain ⟨y1, y2, y3⟩ := hY
  obtain ⟨-, b2, -, -⟩ := y1 a ha hma
  have egs : ∀ q, gs M q = gs M0 q := fun q => by unfold gs; rw [h11]
  have egp : ∀ q j, gp M q j = gp M0 q j := fun q j => by unfold gp; rw [h12]
  rw [e] at b2
  have hs : gs M0 (sq M0 a) = gs M0 (sq M0 i) := Int.ofNat.inj (b2.1.symm.trans hN.1)
  have hj := mAB (M := M) (p := sq M0 a) (q := sq M0 i) (by rw [egs, egs]; exact hs) (b2.2.1.symm.trans hN.2.1) (b2.2.2.1.symm.trans hN.2.2.1)
  have hsq : sq M0 a = sq M0 i := by
    refine h.2.2.2.2.2.2 _ _ (h.1.2.2.2.2.2.2 a (by omega)).2 (h.1.2.2.2.2.2.2 i hi).2 hs (fun j hja => ?_)
    obtain ⟨a', c1, c2, c3, c4⟩ := h.parts hN2 hN3 (by omega) hma hja
    obtain ⟨i', d1, d2, d3, d4⟩ := h.parts hN2 hN3 hi hm (show j < arN (gs M0 (sq M0 i)) by rw [← hs]; exact hja)
    have f1 := (y1 a' (by omega) c4).2.2.1 c2
    have f2 := (y1 i' (by omega) d4).2.2.1 d2
    have f3 := hj j (by rw [egs]; exact hja)
    unfold mj at f3
    rw [egp, egp, ← c3, ← d3, f1, f2] at f3
    have := y2 a' i' (by omega) (by omega) c4 d4 (by omega)
    rw [← c3, ← d3, this]
  have := h.2.2.1 a i (by omega) hi hsq
  omega
end T6
