section W9
variable {A B : g_M} {n n' m m' n0 c c' ec G G' t t' : Nat} {P P' : Nat → Nat} {U U' : Nat → Bool} {ia ib : Nat → Nat}
variable {i : Nat}
theorem HQ.sy (hQ : HQ A B ia ib c t i) (dA : DS A c t ia) (dB : DS B c t' ib) : HQ B A ib ia c t' i := by
  refine ⟨fun q hq h => (hQ.1 q hq h.symm).symm, fun i' h1 h2 => ?_⟩
  obtain ⟨q, q1, q2⟩ := dB.2.1 i' h2
  have := hQ.1 q q1 (Or.inr (by omega))
  have := (dA.1 q q1).1
  exact (hQ.2 i' h1 (by omega)).symm
theorem HQ.claim (h29 : n0 ≤ 29) (hB : CERT B n' m' n0 c ec G' t' P' U') (hA : CERT A n m n0 c ec G t P U) (dA : DS A c t ia) (dB : DS B c t' ib) (hb : BTH A B c) {i : Nat} (hQ : HQ A B ia ib c t i) {q : Nat} (hq : q < c) (hi : ia q = i) : ib q = i := by
  have hit : i < t := by have := (dA.1 q hq).1; omega
  have hqb := (dB.1 q hq).1
  have hge : i ≤ ib q := by
    rcases Nat.lt_or_ge (ib q) i with h | h
    · have := hQ.1 q hq (Or.inr h)
      omega
    · exact h
  have hit' : i < t' := by omega
  obtain ⟨p, p1, p2⟩ := dB.2.1 i hit'
  have hpa := (dA.1 p p1).1
  have hge' : i ≤ ia p := by
    rcases Nat.lt_or_ge (ia p) i with h | h
    · have := hQ.1 p p1 (Or.inl h)
      omega
    · exact h
  have rB : ∀ j, j < arN (zs B (ib p)) → zc B (ib p) j < i := fun j hj => by
    rw [p2] at hj ⊢
    exact (hB.zcp hit' hj).1
  have rA : ∀ j, j < arN (zs A (ia q)) → zc A (ia q) j < i := fun j hj => by
    rw [hi] at hj ⊢
    exact (hA.zcp hit hj).1
  obtain ⟨a1, a2⟩ := rdy_eq hB hA dA dB hb hQ.1 p1 rB
  obtain ⟨b1, b2⟩ := rdy_eq hA hB dB dA hb.sy (hQ.sy dA dB).1 hq rA
  have wP : W3 A (ia p) = W3 B (ib p) := W3_eq hB hA hb.2.1 hpa (by omega) a1 a2 (fun j hj => by
    have := rB j hj
    rw [a2 j hj]
    exact hQ.2 _ this (by omega))
  have wQ : W3 A (ia q) = W3 B (ib q) := W3_eq hB hA hb.2.1 (by omega) hqb b1.symm (fun j hj => (b2 j (by rw [← b1]; exact hj)).symm) (fun j hj => by
    have hj' : j < arN (zs A (ia q)) := by rw [← b1]; exact hj
    have := rA j hj'
    rw [b2 j hj']
    exact hQ.2 _ this (by omega))
  have kP := KY_same hb.2.1 a1 a2 wP
  have kQ := KY_same hb.2.1 b1.symm (fun j hj => (b2 j (by rw [← b1]; exact hj)).symm) wQ
  have m1 := hA.kmin hit hpa hge' (fun j hj => by rw [a1] at hj; rw [a2 j hj]; exact rB j hj)
  have m2 := hB.kmin hit' hqb hge (fun j hj => by rw [b1] at hj; rw [b2 j hj]; exact rA j hj)
  rw [hi] at kQ
  rw [p2] at kP
  exact (hB.kne h29 hit' hqb (by omega)).symm
theorem HQ.all (h29 : n0 ≤ 29) (hB : CERT B n' m' n0 c ec G' t' P' U') (hA : CERT A n m n0 c ec G t P U) (dA : DS A c t ia) (dB : DS B c t' ib) (hb : BTH A B c) : ∀ i, HQ A B ia ib c t i := by
  intro i
  induction i with
  | zero => exact ⟨fun q _ h => by omega, fun i' h _ => absurd h (by omega)⟩
  | succ i ih =>
    have c1 : ∀ q, q < c → ia q = i → ib q = i := fun q hq h => ih.claim h29 hB hA dA dB hb hq h
    have c2 : ∀ q, q < c → ib q = i → ia q = i := fun q hq h => (ih.sy dA dB).claim h29 hA hB dB dA hb.sy hq h
    refine ⟨fun q hq h => ?_, fun i' h1 h2 => ?_⟩
    · by_cases e1 : ia q = i
      · rw [e1, c1 q hq e1]
      · by_cases e2 : ib q = i
        · rw [e2, c2 q hq e2]
        · exact ih.1 q hq (by omega)
    · by_cases e : i' = i
      · subst e
        obtain ⟨q, q1, q2⟩ := dA.2.1 i' h2
        have q3 := c1 q q1 q2
        have hqb := (dB.1 q q1).1
        have rB : ∀ j, j < arN (zs B (ib q)) → zc B (ib q) j < i' := fun j hj => by
          have := (hB.zcp hqb hj).1
          omega
        obtain ⟨a1, a2⟩ := rdy_eq hB hA dA dB hb ih.1 q1 rB
        have := W3_eq hB hA hb.2.1 (dA.1 q q1).1 hqb a1 a2 (fun j hj => by
          have := rB j hj
          rw [a2 j hj]
          exact ih.2 _ this (by omega))
        rw [q2, q3] at this
        exact this
      · exact ih.2 i' (by omega) h2
/-- two runs over the same equations agree on the sides' sizes -/
theorem TWO.small (h : TWO A B n0 ec) (h29 : n0 ≤ 29) (hn : n0 ≤ n) (hn' : n0 ≤ n') (hA : CERT A n m n0 c ec G t P U) (hB : CERT B n' m' n0 c' ec G' t' P' U') (hS : ∀ i, i < t → SMA A i) : ∀ i, i < t' → SMA B i := by
  obtain ⟨e, -⟩ := h.nodes hn hA hB
  subst e
  have hb := h.bth h29 hn hn' hA hB
  obtain ⟨ia, dA⟩ := hA.ds h29
  obtain ⟨ib, dB⟩ := hB.ds h29
  have hQ := HQ.all h29 hB hA dA dB hb (t + t' + 1)
  intro i hi hc
  obtain ⟨q, q1, q2⟩ := dB.2.1 i hi
  have q3 := hQ.1 q q1 (Or.inr (by omega))
  have hia := (dA.1 q q1).1
  obtain ⟨z1, z2, z3, z4⟩ := hB.zfp hi
  obtain ⟨y1, y2, y3, y4⟩ := hA.zfp (i := i) (by omega)
  have hz := cls_eq hB hA dA dB hb (i := t + t' + 1) hQ.1 q1 (by rw [q2]; omega)
  rw [q3, q2] at hz
  have hcA : ¬ cho A i := fun h9 => hc ((hB.zcho hi).1 (by rw [← hz]; exact (hA.zcho (by omega)).2 h9))
  obtain ⟨s1, s2⟩ := hS i (by omega) hcA
  have w1 := hQ.2 i (by omega) (by omega)
  have w2 := hQ.2 (zf A i) (by omega) (by omega)
  rw [hz] at w2
  have eA : (A 20 (ow A (sq A i))).toNat = sq A (zf A i) := by
    unfold cho at y3
    rw [y4] at y3
    rw [y3]
    rfl
  have eB : (B 20 (ow B (sq B i))).toNat = sq B (zf B i) := by
    unfold cho at z3
    rw [z4] at z3
    rw [z3]
    rfl
  rw [eA, hz] at s2
  rw [eB]
  unfold TOO at s1 s2 ⊢
  unfold W3 at w1 w2
  have a1 := congrArg (fun p => p.2.1) w1
  have a2 := congrArg (fun p => p.2.2) w1
  have b1 := congrArg (fun p => p.2.1) w2
  have b2 := congrArg (fun p => p.2.2) w2
  replace a1 : A 17 (sq A i) = B 17 (sq B i) := a1
  replace a2 : A 18 (sq A i) = B 18 (sq B i) := a2
  replace b1 : A 17 (sq A (zf B i)) = B 17 (sq B (zf B i)) := b1
  replace b2 : A 18 (sq A (zf B i)) = B 18 (sq B (zf B i)) := b2
  rw [← a1, ← a2, ← b1, ← b2]
  exact ⟨s1, s2⟩
end W9
