section W3
variable {M M1 M' : g_M} {n n1 m n0 c ec G t r : Nat} {P Y : Nat → Nat} {U : Nat → Bool}
/-- the terms that were made: Y i is the term at i -/
def YS (M M' : g_M) (n' r t : Nat) (Y : Nat → Nat) (md : Nat → Prop) : Prop :=
  (∀ i, i < t → md i → ∀ j, j < arN (zs M i) → md (zc M i j)) ∧ (∀ i, i < t → zf M i ≠ i → md i ∧ md (zf M i)) ∧
  (∀ i, i < t → md i → Y i < n' ∧ NO M' (Y i) (zs M i) (ivx (arN (zs M i)) (fun j => Y (zc M i j)) 0) (ivx (arN (zs M i)) (fun j => Y (zc M i j)) 1) (-1)) ∧
  (∀ i i', i < t → i' < t → md i → md i' → Y i = Y i' → i = i') ∧
  (∀ q, q < r → ∃ i, i < t ∧ zf M i ≠ i ∧ M' 59 q = ((Y i : Nat) : Int) ∧ M' 60 q = ((Y (zf M i) : Nat) : Int)) ∧
  ∀ i, i < t → zf M i ≠ i → ∃ q, q < r ∧ M' 59 q = ((Y i : Nat) : Int) ∧ M' 60 q = ((Y (zf M i) : Nat) : Int)
theorem CERT.ys (h : CERT M n m n0 c ec G t P U) (hS : SM [13, 45] M M1) (hK : RK M1 c G t) (hN2 : ∀ i, i < t → N2 M1 M1 i) (hN3 : ∀ i, i < t → N3 M1 M1 i) (hT : TI M1 M' n n1 m r t Y) : YS M M' n1 r t Y (mad M1) := by
  obtain ⟨⟨hW', hRU, y1, y2, y3⟩, -, hS', -⟩ := hT
  have e10 : M1 10 = M 10 := hS 10 (by decide)
  have e11 : M1 11 = M 11 := hS 11 (by decide)
  have e12 : M1 12 = M 12 := hS 12 (by decide)
  have e20 : M1 20 = M 20 := hS 20 (by decide)
  have e22 : M1 22 = M 22 := hS 22 (by decide)
  have esq : ∀ i, sq M1 i = sq M i := fun i => by unfold sq; rw [e22]
  have egs : ∀ q, gs M1 q = gs M q := fun q => by unfold gs; rw [e11]
  have egp : ∀ q j, gp M1 q j = gp M q j := fun q j => by unfold gp; rw [e12]
  have eow : ∀ q, ow M1 q = ow M q := fun q => by unfold ow; rw [e10]
  have egs' : ∀ q, gs M' q = gs M q := fun q => by unfold gs; rw [hS' 11 (by decide), e11]
  have egp' : ∀ q j, gp M' q j = gp M q j := fun q j => by unfold gp; rw [hS' 12 (by decide), e12]
  have echo : ∀ i, cho M1 i ↔ cho M i := fun i => cho_cong e10 e20 e22 i
  have hzc : ∀ i, i < t → mad M1 i → ∀ j, j < arN (zs M i) → mad M1 (zc M i j) := fun i hi hm j hj => by
    obtain ⟨a1, a2, a3, a4⟩ := h.zcp hi hj
    obtain ⟨i', b1, b2, b3, b4⟩ := hK.parts hN2 hN3 hi hm (j := j) (by rw [egs, esq]; exact hj)
    have : i' = zc M i j := by
      refine hK.2.2.2.2.2.1 i' (zc M i j) (by omega) (by omega) b2 ((echo _).2 a3) ?_
      rw [b3, egp, eow, esq, esq, a4]
    rw [← this]
    exact b4
  have hne : ∀ i, i < t → zf M i ≠ i → ¬ cho M1 i := fun i hi hz hc => hz ((h.zcho hi).2 ((echo i).1 hc))
  have hzf : ∀ i, i < t → zf M i ≠ i → mad M1 i ∧ mad M1 (zf M i) := fun i hi hz => by
    obtain ⟨a1, a2, a3, a4⟩ := h.zfp hi
    refine ⟨Or.inl (hne i hi hz), Or.inr ?_⟩
    rw [eow, esq, a4, ← esq, ← eow]
    exact (hN2 i hi (hne i hi hz)).1
  have hY23 : ∀ i, i < t → mad M1 i → cho M i → M' 23 (ow M (sq M i)) = ((Y i : Nat) : Int) := fun i hi hm hc => by
    have := (y1 i hi hm).2.2.1 ((echo i).2 hc)
    rw [eow, esq] at this
    exact this
  have hfirst : ∀ i, i < t → zf M i ≠ i → M' 23 (ow M (sq M i)) = ((Y (zf M i) : Nat) : Int) := fun i hi hz => by
    obtain ⟨a1, a2, a3, a4⟩ := h.zfp hi
    rw [← a4]
    exact hY23 _ (by omega) (hzf i hi hz).2 a3
  refine ⟨hzc, hzf, fun i hi hm => ?_, fun i i' hi hi' hm hm' e => y2 i i' hi hi' hm hm' e, fun q hq => ?_, fun i hi hz => ?_⟩
  · obtain ⟨b1, b2, -⟩ := y1 i hi hm
    refine ⟨b1, ?_⟩
    rw [esq, egs] at b2
    have pt : ∀ j, j < arN (zs M i) → M' 23 (gp M' (sq M i) j) = ((Y (zc M i j) : Nat) : Int) := fun j hj => by
      obtain ⟨a1, a2, a3, a4⟩ := h.zcp hi hj
      rw [egp', ← a4]
      exact hY23 _ (by omega) (hzc i hi hm j hj) a3
    have eA : mA M' (sq M i) = ivx (arN (zs M i)) (fun j => Y (zc M i j)) 0 := by
      unfold mA ivx
      rw [egs']
      by_cases h0 : 0 < arN (zs M i)
      · rw [if_pos (show 0 < arN (gs M (sq M i)) from h0), if_pos h0, pt 0 h0]
      · rw [if_neg (show ¬ 0 < arN (gs M (sq M i)) from h0), if_neg h0]
    have eB : mB M' (sq M i) = ivx (arN (zs M i)) (fun j => Y (zc M i j)) 1 := by
      unfold mB ivx
      rw [egs']
      by_cases h0 : 1 < arN (zs M i)
      · rw [if_pos (show 1 < arN (gs M (sq M i)) from h0), if_pos h0, pt 1 h0]
      · rw [if_neg (show ¬ 1 < arN (gs M (sq M i)) from h0), if_neg h0]
    rw [eA, eB] at b2
    exact b2
  · obtain ⟨i, i1, i2, i3, i4⟩ := y3 q hq
    rw [eow, esq] at i4
    have hz : zf M i ≠ i := fun e => i2 ((echo i).2 ((h.zcho i1).1 e))
    exact ⟨i, i1, hz, i3, by rw [i4, hfirst i i1 hz]⟩
  · obtain ⟨q, q1, q2, q3⟩ := (y1 i hi (Or.inl (hne i hi hz))).2.2.2 (hne i hi hz)
    rw [eow, esq, hfirst i hi hz] at q3
    exact ⟨q, q1, q2, q3⟩
end W3
