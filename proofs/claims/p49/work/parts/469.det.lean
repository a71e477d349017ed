section W8
variable {A B : g_M} {n n' m m' n0 c c' ec G G' t t' : Nat} {P P' : Nat → Nat} {U U' : Nat → Bool} {ia ib : Nat → Nat}
def DS (M : g_M) (c t : Nat) (ix : Nat → Nat) : Prop :=
  (∀ q, q < c → ix q < t ∧ zs M (ix q) = sg M (nd M q) ∧ ∀ j, j < ax M (nd M q) → ∃ k, k < q ∧ nd M k = pn M (nd M q) j ∧ zf M (ix k) = zc M (ix q) j) ∧
  (∀ i, i < t → ∃ q, q < c ∧ ix q = i) ∧ ∀ a b, a < c → b < c → (M 24 a = M 24 b ↔ zf M (ix a) = zf M (ix b))
theorem CERT.ds (h : CERT A n m n0 c ec G t P U) (h29 : n0 ≤ 29) : ∃ ix, DS A c t ix := by
  obtain ⟨ix, h0, h1, h2⟩ := h.ix
  refine ⟨ix, h0, fun i hi => ?_, h1⟩
  obtain ⟨q, q1, q2, q3, q4⟩ := h2 i hi
  obtain ⟨b1, b2, b3⟩ := h0 q q1
  refine ⟨q, q1, h.zinj h29 b1 hi (by rw [b2, q3]) (fun j hj => ?_)⟩
  have hj' : j < ax A (nd A q) := by
    rw [b2] at hj
    exact hj
  obtain ⟨k, k1, k2, k3⟩ := b3 j hj'
  obtain ⟨l, l1, l2, l3⟩ := q4 j hj'
  have : k = l := h.1.2.1.inj (by omega) (by omega) (k2.trans l2.symm)
  rw [← k3, ← l3, this]
/-- what both runs share -/
def BTH (A B : g_M) (c : Nat) : Prop := (∀ a b, a < c → b < c → (A 24 a = A 24 b ↔ B 24 a = B 24 b)) ∧ ORD A B ∧ (∀ i j, i < c → j < c → nd A i = nd A j → i = j) ∧ ∀ q, q < c → nd B q = nd A q ∧ sg B (nd B q) = sg A (nd A q) ∧ ax B (nd B q) = ax A (nd A q) ∧ ∀ j, j < ax A (nd A q) → pn B (nd B q) j = pn A (nd A q) j
theorem BTH.sy (h : BTH A B c) : BTH B A c := by
  obtain ⟨h1, h2, h3, h4⟩ := h
  refine ⟨fun a b ha hb => (h1 a b ha hb).symm, ⟨h2.1.symm, h2.2.1.symm, h2.2.2.1.symm, h2.2.2.2.symm⟩, fun i j hi hj e => h3 i j hi hj (by rw [← (h4 i hi).1, ← (h4 j hj).1, e]), fun q hq => ?_⟩
  obtain ⟨a1, a2, a3, a4⟩ := h4 q hq
  exact ⟨a1.symm, a2.symm, a3.symm, fun j hj => (a4 j (by omega)).symm⟩
theorem TWO.sy (h : TWO A B n0 ec) : TWO B A n0 ec := by
  obtain ⟨h1, h2, h3⟩ := h
  refine ⟨fun x hx => ?_, ⟨h2.1.symm, h2.2.1.symm, h2.2.2.1.symm, h2.2.2.2.symm⟩, fun e he => ?_⟩
  · obtain ⟨a1, a2, a3, a4, a5⟩ := h1 x hx
    exact ⟨a1.symm, a2.symm, a3.symm, a4.symm, a5.symm⟩
  · obtain ⟨⟨b1, b2⟩, b3, b4⟩ := h3 e he
    exact ⟨⟨b1.symm, b2.symm⟩, by omega, by omega⟩
theorem TWO.bth (h : TWO A B n0 ec) (h29 : n0 ≤ 29) (hn : n0 ≤ n) (hn' : n0 ≤ n') (hA : CERT A n m n0 c ec G t P U) (hB : CERT B n' m' n0 c ec G' t' P' U') : BTH A B c := by
  obtain ⟨-, hnd⟩ := h.nodes hn hA hB
  refine ⟨fun a b ha hb => ⟨h.half h29 hn hA hB a b ha hb, h.sy.half h29 hn' hB hA a b ha hb⟩, h.2.1, fun i j hi hj e => hA.1.2.1.inj hi hj e, fun q hq => ?_⟩
  obtain ⟨p1, p2, p3, p4, p5⟩ := h.ent hn hA hB hq
  exact ⟨hnd q hq, p3, p2, p4⟩
/-- the weight, size and depth at a place -/
def W3 (M : g_M) (i : Nat) : Int × Int × Int := (M 16 (sq M i), M 17 (sq M i), M 18 (sq M i))
def HQ (A B : g_M) (ia ib : Nat → Nat) (c t i : Nat) : Prop := (∀ q, q < c → ia q < i ∨ ib q < i → ia q = ib q) ∧ ∀ i', i' < i → i' < t → W3 A i' = W3 B i'
theorem cls_le (hB : CERT B n' m' n0 c ec G' t' P' U') (hA : CERT A n m n0 c ec G t P U) (dA : DS A c t ia) (dB : DS B c t' ib) (hb : BTH A B c) {i : Nat} (hQ : ∀ q, q < c → ia q < i ∨ ib q < i → ia q = ib q) {k : Nat} (hk : k < c) (hlt : zf B (ib k) < i) : zf A (ia k) ≤ zf B (ib k) := by
  have hk' := (dB.1 k hk).1
  obtain ⟨z1, z2, -, -⟩ := hB.zfp hk'
  obtain ⟨q, q1, q2⟩ := dB.2.1 (zf B (ib k)) (by omega)
  have h24 : B 24 q = B 24 k := (dB.2.2 q k q1 hk).2 (by rw [q2, z2])
  have h24' := (hb.1 q k q1 hk).2 h24
  have hz := (dA.2.2 q k q1 hk).1 h24'
  have hq := hQ q q1 (Or.inr (by omega))
  have := (hA.zfp (dA.1 q q1).1).1
  omega
theorem cls_eq (hB : CERT B n' m' n0 c ec G' t' P' U') (hA : CERT A n m n0 c ec G t P U) (dA : DS A c t ia) (dB : DS B c t' ib) (hb : BTH A B c) {i : Nat} (hQ : ∀ q, q < c → ia q < i ∨ ib q < i → ia q = ib q) {k : Nat} (hk : k < c) (hlt : zf B (ib k) < i) : zf A (ia k) = zf B (ib k) := by
  have h1 := cls_le hB hA dA dB hb hQ hk hlt
  have h2 := cls_le hA hB dB dA hb.sy (fun q hq h => (hQ q hq (h.symm)).symm) hk (by omega)
  omega
/-- what is ready before i in one run is so in the other -/
theorem rdy_eq (hB : CERT B n' m' n0 c ec G' t' P' U') (hA : CERT A n m n0 c ec G t P U) (dA : DS A c t ia) (dB : DS B c t' ib) (hb : BTH A B c) {i : Nat} (hQ : ∀ q, q < c → ia q < i ∨ ib q < i → ia q = ib q) {q : Nat} (hq : q < c) (hr : ∀ j, j < arN (zs B (ib q)) → zc B (ib q) j < i) : zs A (ia q) = zs B (ib q) ∧ ∀ j, j < arN (zs B (ib q)) → zc A (ia q) j = zc B (ib q) j := by
  obtain ⟨a1, a2, a3⟩ := dA.1 q hq
  obtain ⟨b1, b2, b3⟩ := dB.1 q hq
  obtain ⟨n1, n2, n3, n4⟩ := hb.2.2.2 q hq
  have hs : zs A (ia q) = zs B (ib q) := by rw [a2, b2, n2]
  refine ⟨hs, fun j hj => ?_⟩
  have hjB : j < ax B (nd B q) := by
    have := hj
    rw [b2] at this
    exact this
  obtain ⟨k, k1, k2, k3⟩ := a3 j (by rw [← n3]; exact hjB)
  obtain ⟨l, l1, l2, l3⟩ := b3 j hjB
  have e : k = l := by
    refine hb.2.2.1 k l (by omega) (by omega) ?_
    rw [k2, ← (hb.2.2.2 l (by omega)).1, l2, n4 j (by rw [← n3]; exact hjB)]
  rw [← k3, ← l3, e]
  exact cls_eq hB hA dA dB hb hQ (by omega) (by rw [l3]; exact hr j hj)
theorem W3_eq (hB : CERT B n' m' n0 c ec G' t' P' U') (hA : CERT A n m n0 c ec G t P U) (hO : ORD A B) {i i' : Nat} (hi : i < t) (hi' : i' < t') (hs : zs A i = zs B i') (hz : ∀ j, j < arN (zs B i') → zc A i j = zc B i' j) (hw : ∀ j, j < arN (zs B i') → W3 A (zc A i j) = W3 B (zc B i' j)) : W3 A i = W3 B i' := by
  have hRA := hA.2.2.2.2.2.1
  have hRB := hB.2.2.2.2.2.1
  obtain ⟨⟨u1, u2, u3⟩, -⟩ := hRA.2.2.2.2.2.1 _ (hRA.2.2.2.1.1 i hi).2
  obtain ⟨⟨v1, v2, v3⟩, -⟩ := hRB.2.2.2.2.2.1 _ (hRB.2.2.2.1.1 i' hi').2
  have hs' : gs A (sq A i) = gs B (sq B i') := hs
  have pk' : ∀ j, j < arN (zs B i') → A 16 (pk A (sq A i) j) = B 16 (pk B (sq B i') j) ∧ A 17 (pk A (sq A i) j) = B 17 (pk B (sq B i') j) ∧ A 18 (pk A (sq A i) j) = B 18 (pk B (sq B i') j) := fun j hj => by
    have := hw j hj
    unfold W3 at this
    rw [hA.pkz hi (by rw [hs]; exact hj), hB.pkz hi' hj]
    have h1 := congrArg Prod.fst this
    have h2 := congrArg (fun p => p.2.1) this
    have h3 := congrArg (fun p => p.2.2) this
    exact ⟨h1, h2, h3⟩
  have s16 : ∀ r, r ≤ arN (zs B i') → sS A 16 (sq A i) r = sS B 16 (sq B i') r := by
    intro r
    induction r with
    | zero => intro _; rfl
    | succ r ih =>
      intro hr
      show sS A 16 (sq A i) r + A 16 (pk A (sq A i) r) = sS B 16 (sq B i') r + B 16 (pk B (sq B i') r)
      rw [ih (by omega), (pk' r (by omega)).1]
  have s17 : ∀ r, r ≤ arN (zs B i') → sS A 17 (sq A i) r = sS B 17 (sq B i') r := by
    intro r
    induction r with
    | zero => intro _; rfl
    | succ r ih =>
      intro hr
      show sS A 17 (sq A i) r + A 17 (pk A (sq A i) r) = sS B 17 (sq B i') r + B 17 (pk B (sq B i') r)
      rw [ih (by omega), (pk' r (by omega)).2.1]
  have s18 : ∀ r, r ≤ arN (zs B i') → sD A (sq A i) r = sD B (sq B i') r := by
    intro r
    induction r with
    | zero => intro _; rfl
    | succ r ih =>
      intro hr
      show max (sD A (sq A i) r) (A 18 (pk A (sq A i) r)) = max (sD B (sq B i') r) (B 18 (pk B (sq B i') r))
      rw [ih (by omega), (pk' r (by omega)).2.2]
  have ear : arN (zs B i') = arN (gs B (sq B i')) := rfl
  unfold W3
  rw [u1, u2, u3, v1, v2, v3]
  unfold wS zS dS
  rw [hs', ← ear, s16 _ (Nat.le_refl _), s17 _ (Nat.le_refl _), s18 _ (Nat.le_refl _), hA.2.2.2.2.2.2.2, hB.2.2.2.2.2.2.2, hO.1, hO.2.1]
theorem KY_same (hO : ORD A B) {i i' : Nat} (hs : zs A i = zs B i') (hz : ∀ j, j < arN (zs B i') → zc A i j = zc B i' j) (hw : W3 A i = W3 B i') : KY A (sq A i) = KY B (sq B i') := by
  obtain ⟨a1, a2⟩ := zq (M := A) (i := i)
  obtain ⟨b1, b2⟩ := zq (M := B) (i := i')
  have h16 : A 16 (sq A i) = B 16 (sq B i') := congrArg Prod.fst hw
  have hs' : gs A (sq A i) = gs B (sq B i') := hs
  have ej1 : j1 B (zs B i') = j1 A (zs B i') := by unfold j1; rw [hO.2.2.2]
  have ej2 : j2 B (zs B i') = j2 A (zs B i') := by unfold j2; rw [hO.2.2.2]
  have hr := arN_le (zs B i')
  have e1 : q1 A (sq A i) = q1 B (sq B i') := by
    rw [a1, b1, hs, ej1]
    by_cases h0 : arN (zs B i') = 0
    · rw [if_pos h0, if_pos h0]
    · rw [if_neg h0, if_neg h0]
      refine hz _ ?_
      unfold j1
      split <;> omega
  have e2 : q2 A (sq A i) = q2 B (sq B i') := by
    rw [a2, b2, hs, ej2]
    by_cases h0 : arN (zs B i') = 2
    · rw [if_pos h0, if_pos h0]
      refine hz _ ?_
      unfold j2
      split <;> omega
    · rw [if_neg h0, if_neg h0]
  unfold KY
  rw [h16, hs', e1, e2, hO.2.2.1]
end W8
