section W2
variable {M : g_M} {n m n0 c ec G t : Nat} {P : Nat → Nat} {U : Nat → Bool}
/-- the sequence by itself: symbols, the parts' places, the class's first place -/
def zs (M : g_M) (i : Nat) : Nat := gs M (sq M i)
def zc (M : g_M) (i j : Nat) : Nat := (M 21 (gp M (sq M i) j)).toNat
def zf (M : g_M) (i : Nat) : Nat := (M 21 (ow M (sq M i))).toNat
theorem CERT.zcp (h : CERT M n m n0 c ec G t P U) {i j : Nat} (hi : i < t) (hj : j < arN (zs M i)) : zc M i j < i ∧ zf M (zc M i j) = zc M i j ∧ cho M (zc M i j) ∧ ow M (sq M (zc M i j)) = gp M (sq M i) j := by
  obtain ⟨i', b1, b2, b3, b4, b5⟩ := h.before hi hj
  have e : zc M i j = i' := by unfold zc; omega
  rw [e]
  refine ⟨b1, ?_, b2, b3⟩
  unfold zf
  rw [b3, b4]
  rfl
theorem CERT.zfp (h : CERT M n m n0 c ec G t P U) {i : Nat} (hi : i < t) : zf M i ≤ i ∧ zf M (zf M i) = zf M i ∧ cho M (zf M i) ∧ ow M (sq M (zf M i)) = ow M (sq M i) := by
  obtain ⟨i', b1, b2, b3, b4, b5⟩ := h.first hi
  have e : zf M i = i' := by unfold zf; omega
  rw [e]
  refine ⟨b1, ?_, b5, b3⟩
  unfold zf
  rw [b3, b4]
  rfl
theorem CERT.zcho (h : CERT M n m n0 c ec G t P U) {i : Nat} (hi : i < t) : zf M i = i ↔ cho M i := by
  obtain ⟨a1, a2, a3, a4⟩ := h.zfp hi
  constructor
  · intro e
    rw [e] at a3
    exact a3
  · intro hc
    have hc' := hc
    unfold cho at a3 hc
    rw [a4, hc] at a3
    have : sq M i = sq M (zf M i) := Int.ofNat.inj a3
    refine (h.2.2.2.2.2.1.2.2.2.1.2 i (zf M i) hi (by omega) ?_).symm
    rw [(h.sqn hi).1, (h.sqn (show zf M i < t by omega)).1, this]
theorem CERT.zow (h : CERT M n m n0 c ec G t P U) {i i' : Nat} (hi : i < t) (hi' : i' < t) : ow M (sq M i) = ow M (sq M i') ↔ zf M i = zf M i' := by
  constructor
  · intro e
    unfold zf
    rw [e]
  · intro e
    rw [← (h.zfp hi).2.2.2, ← (h.zfp hi').2.2.2, e]
theorem CERT.zinj (h : CERT M n m n0 c ec G t P U) (h29 : n0 ≤ 29) {i i' : Nat} (hi : i < t) (hi' : i' < t) (hs : zs M i = zs M i') (hj : ∀ j, j < arN (zs M i) → zc M i j = zc M i' j) : i = i' := by
  have hr := h.rk h29
  refine hr.2.2.1 i i' hi hi' (hr.2.2.2.2.2.2 _ _ (h.sqn hi).2 (h.sqn hi').2 hs (fun j hj' => ?_))
  rw [← (h.zcp hi hj').2.2.2, ← (h.zcp hi' (by rw [← hs]; exact hj')).2.2.2, hj j hj']
/-- where the entries' productions stand -/
theorem CERT.ix (h : CERT M n m n0 c ec G t P U) : ∃ ix : Nat → Nat, (∀ q, q < c → ix q < t ∧ zs M (ix q) = sg M (nd M q) ∧ ∀ j, j < ax M (nd M q) → ∃ k, k < q ∧ nd M k = pn M (nd M q) j ∧ zf M (ix k) = zc M (ix q) j) ∧ (∀ a b, a < c → b < c → (M 24 a = M 24 b ↔ zf M (ix a) = zf M (ix b))) ∧ ∀ i, i < t → ∃ q, q < c ∧ zf M (ix q) = zf M i ∧ zs M i = sg M (nd M q) ∧ ∀ j, j < ax M (nd M q) → ∃ k, k < q ∧ nd M k = pn M (nd M q) j ∧ zf M (ix k) = zc M i j := by
  have ch : ∀ q, ∃ i, q < c → i < t ∧ LINK M i q := fun q => by
    by_cases hq : q < c
    · obtain ⟨i, i1, i2⟩ := h.ent hq
      exact ⟨i, fun _ => ⟨i1, i2⟩⟩
    · exact ⟨0, fun h => absurd h hq⟩
  obtain ⟨ix, hix⟩ := Classical.axiomOfChoice ch
  have lead : ∀ a, a < c → M 24 a = ((ow M (sq M (ix a)) : Nat) : Int) := fun a ha => (hix a ha).2.1
  have part : ∀ i q, i < t → q < c → LINK M i q → ∀ j, j < ax M (nd M q) → ∃ k, k < q ∧ nd M k = pn M (nd M q) j ∧ zf M (ix k) = zc M i j := fun i q hi hq hl j hj => by
    obtain ⟨k, k1, k2, k3⟩ := hl.2.2 j hj
    refine ⟨k, k1, k2, ?_⟩
    have := lead k (by omega)
    have e : ow M (sq M (ix k)) = gp M (sq M i) j := by omega
    unfold zf zc
    rw [e]
  refine ⟨ix, fun q hq => ⟨(hix q hq).1, (hix q hq).2.2.1, part _ q (hix q hq).1 hq (hix q hq).2⟩, fun a b ha hb => ?_, fun i hi => ?_⟩
  · rw [lead a ha, lead b hb, ← h.zow (hix a ha).1 (hix b hb).1]
    constructor
    · exact fun e => Int.ofNat.inj e
    · exact fun e => by rw [e]
  · obtain ⟨q, q1, -, -, q4⟩ := h.of hi
    refine ⟨q, q1, ?_, q4.2.1, part i q hi q1 q4⟩
    rw [← h.zow (hix q q1).1 hi]
    have := lead q q1
    have := q4.1
    omega
end W2
