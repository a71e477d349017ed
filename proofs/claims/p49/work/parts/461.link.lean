section W0
variable {M : g_M} {n m n0 c ec G t : Nat} {P : Nat → Nat} {U : Nat → Bool}
/-- the production at i of the sequence is that of entry q -/
def LINK (M : g_M) (i q : Nat) : Prop := M 24 q = ((ow M (sq M i) : Nat) : Int) ∧ gs M (sq M i) = sg M (nd M q) ∧ ∀ j, j < ax M (nd M q) → ∃ k : Nat, k < q ∧ nd M k = pn M (nd M q) j ∧ M 24 k = ((gp M (sq M i) j : Nat) : Int)
theorem CERT.lead (h : CERT M n m n0 c ec G t P U) {q : Nat} (hq : q < c) : ∃ l : Nat, l < c ∧ M 24 q = (l : Int) := by
  obtain ⟨l, l1, l2, -⟩ := h.2.1.1 q hq
  exact ⟨l, l1, l2⟩
/-- an entry's symbol and its parts' places -/
theorem CERT.entry (h : CERT M n m n0 c ec G t P U) {q : Nat} (hq : q < c) : M 28 q = ((sg M (nd M q) : Nat) : Int) ∧ sg M (nd M q) < 5 ∧ ∀ j, j < 3 → (j < ax M (nd M q) → ∃ k : Nat, k < q ∧ M 29 (3 * q + j) = (k : Int) ∧ nd M k = pn M (nd M q) j) ∧ (¬ j < ax M (nd M q) → M 29 (3 * q + j) = -1) := by
  obtain ⟨⟨hW, hK, hU, -, -⟩, -, h28, -⟩ := h
  obtain ⟨a1, a2⟩ := h28 q hq
  obtain ⟨x, x1, x2, -⟩ := hK.2.2 q hq
  have e : nd M q = x := by unfold nd; omega
  have h0 := hW.st.2.1 x x1
  rw [e] at a1 a2 ⊢
  refine ⟨by unfold sg; omega, by unfold sg; omega, fun j hj => ⟨fun h1 => ?_, fun h1 => (a2 j hj).2 h1⟩⟩
  obtain ⟨k, k1, k2, k3⟩ := (a2 j hj).1 h1
  refine ⟨k, k1, k2, ?_⟩
  unfold nd pn
  rw [k3]
theorem CERT.prodOf (h : CERT M n m n0 c ec G t P U) {i p : Nat} (hs : sq M i = p) (hp : p < G) {q : Nat} (hq : q < c) (h1 : M 10 p = M 24 q) (h2 : M 11 p = M 28 q) (h3 : ∀ j, j < arN (M 28 q).toNat → M 12 (3 * p + j) = lp M q j) : LINK M i q := by
  obtain ⟨e1, e2, e3⟩ := h.entry hq
  have hg := h.2.2.2.2.1.1.2.2 p hp
  have hn : c ≤ 3000 := by
    have := h.1.2.1.2.1
    have := h.1.1.st.1.2.2.2.2
    omega
  have hgs : gs M p = sg M (nd M q) := by unfold gs; rw [h2, e1]; rfl
  unfold LINK
  rw [hs]
  refine ⟨by unfold ow; rw [← h1]; omega, hgs, fun j hj => ?_⟩
  have hr := ax_le M (nd M q)
  obtain ⟨k, k1, k2, k3⟩ := (e3 j (by omega)).1 hj
  refine ⟨k, k1, k3, ?_⟩
  have h12 := h3 j (by rw [e1]; exact hj)
  unfold lp at h12
  rw [k2, rgn k (by omega)] at h12
  have := (hg.2.2 j (by rw [hgs]; exact hj)).1
  unfold gp
  omega
theorem lp_pl (h : CERT M n m n0 c ec G t P U) {q j : Nat} (hq : q < c) (hj : j < arN (M 28 q).toNat) : pl M q j = lp M q j := by
  obtain ⟨e1, e2, e3⟩ := h.entry hq
  have hr := ax_le M (nd M q)
  have hn : c ≤ 3000 := by
    have := h.1.2.1.2.1
    have := h.1.1.st.1.2.2.2.2
    omega
  have hj' : j < ax M (nd M q) := by
    rw [e1] at hj
    exact hj
  obtain ⟨k, k1, k2, k3⟩ := (e3 j (by omega)).1 hj'
  unfold pl lp
  rw [k2, rgn k (by omega), Int.toNat_natCast]
/-- every production of the sequence is an entry's -/
theorem CERT.of (h : CERT M n m n0 c ec G t P U) {i : Nat} (hi : i < t) : ∃ q, q < c ∧ M 27 q = 0 ∧ P (sq M i) = q ∧ LINK M i q := by
  obtain ⟨hG, hP, -⟩ := h.2.2.2.2.1
  have hRI := h.2.2.2.2.2.1
  have hE := (hRI.2.2.2.1.1 i hi).2.1
  obtain ⟨b1, b2, b3, b4, b5⟩ := hP.1 (sq M i) hE
  refine ⟨P (sq M i), b1, b2, rfl, h.prodOf rfl hE b1 b3 b4 (fun j hj => ?_)⟩
  rw [b5 j hj, lp_pl h b1 hj]
theorem tw_lp {i j : Nat} (h : tw M i j) : M 28 i = M 28 j ∧ ∀ p, p < 3 → lp M i p = lp M j p := h
/-- a production without twins -/
theorem CERT.prod (h : CERT M n m n0 c ec G t P U) {q : Nat} (hq : q < c) : ∃ p, p < G ∧ P p ≤ q ∧ M 10 p = M 24 q ∧ M 11 p = M 28 q ∧ ∀ j, j < arN (M 28 q).toNat → M 12 (3 * p + j) = lp M q j := by
  obtain ⟨hG, hP, -⟩ := h.2.2.2.2.1
  have hF := h.2.1.2.2
  have main : ∀ r, r < c → M 27 r = 0 → ∃ p, p < G ∧ P p = r ∧ M 10 p = M 24 r ∧ M 11 p = M 28 r ∧ ∀ j, j < arN (M 28 r).toNat → M 12 (3 * p + j) = lp M r j := fun r hr h27 => by
    obtain ⟨p, p1, p2⟩ := hP.2.2 r hr h27
    obtain ⟨-, -, b3, b4, b5⟩ := hP.1 p p1
    rw [p2] at b3 b4 b5
    exact ⟨p, p1, p2, b3, b4, fun j hj => by rw [b5 j hj, lp_pl h hr hj]⟩
  rcases hF.1 q hq with h0 | h1
  · obtain ⟨p, p1, p2, p3⟩ := main q hq h0
    exact ⟨p, p1, by omega, p3⟩
  · obtain ⟨r, r1, r2, r3, r4⟩ := hF.2.2.2.2 q hq h1
    obtain ⟨p, p1, p2, p3, p4, p5⟩ := main r (by omega) r2
    refine ⟨p, p1, by omega, by rw [p3, r4], by rw [p4, r3.1], fun j hj => ?_⟩
    have hr := arN_le (M 28 q).toNat
    rw [p5 j (by rw [← r3.1]; exact hj), r3.2 j (by omega)]
/-- every class has its choice -/
theorem CERT.out (h : CERT M n m n0 c ec G t P U) {p : Nat} (hp : p < G) (hc : ∀ j, j < arN (gs M p) → M 20 (gp M p j) ≠ -1) : ∃ i, i < t ∧ M 22 i = (p : Int) := by
  have hRI := h.2.2.2.2.2.1
  have hLU := h.2.2.2.2.2.2.1
  have hG := h.2.2.2.2.1.1
  have hE : EN M G p := by
    refine rdy_EN (i := t + 1) hRI hLU (fun s _ _ hs => absurd hs (by omega)) ⟨hp, fun j hj => ⟨hc j hj, ?_⟩⟩
    have hb := (hG.2.2 p hp).2.2 j hj
    have hcl : gp M p j < c := by unfold gp; omega
    obtain ⟨i, i1, -, -, i4⟩ := CH.out (hRI.2.2.2.2.2.2.1 (gp M p j) hcl) (hc j hj)
    omega
  rcases (hRI.2.2.2.2.1.1 p).1 hE with ⟨i, i1, -⟩ | h9
  · exact absurd i1 (by omega)
  · exact h9
theorem CERT.chosen (h : CERT M n m n0 c ec G t P U) : ∀ q, q < c → ∀ l : Nat, M 24 q = (l : Int) → M 20 l ≠ -1 := by
  have hRI := h.2.2.2.2.2.1
  have hG := h.2.2.2.2.1.1
  have hn : c ≤ 3000 := by
    have := h.1.2.1.2.1
    have := h.1.1.st.1.2.2.2.2
    omega
  intro q
  induction q using Nat.strongRecOn with
  | _ q ih =>
    intro hq l hl
    obtain ⟨p, p1, p2, p3, p4, p5⟩ := h.prod hq
    obtain ⟨e1, e2, e3⟩ := h.entry hq
    have hr := ax_le M (nd M q)
    have hgs : gs M p = sg M (nd M q) := by unfold gs; rw [p4, e1]; rfl
    obtain ⟨i, i1, i2⟩ := h.out p1 (fun j hj => by
      rw [hgs] at hj
      have hr2 : arN (sg M (nd M q)) = ax M (nd M q) := rfl
      obtain ⟨k, k1, k2, k3⟩ := (e3 j (by omega)).1 hj
      have h12 := p5 j (by rw [e1]; exact hj)
      unfold lp at h12
      rw [k2, rgn k (by omega)] at h12
      obtain ⟨l', l1, l2⟩ := h.lead (q := k) (by omega)
      have : gp M p j = l' := by unfold gp; omega
      rw [this]
      exact ih k k1 (by omega) l' l2)
    obtain ⟨l', l1, l2⟩ := h.lead hq
    have hll : l' = l := by omega
    subst hll
    intro hno
    rcases hRI.2.2.2.2.2.2.1 l' l1 with ⟨-, h9⟩ | ⟨i', i'1, i'2, -⟩
    · refine h9 i i1 ?_
      rw [show sq M i = p by unfold sq; rw [i2]; rfl, p3, l2]
    · have := (hRI.2.2.2.1.1 i' i'1).1
      omega
/-- every entry's production is in the sequence -/
theorem CERT.ent (h : CERT M n m n0 c ec G t P U) {q : Nat} (hq : q < c) : ∃ i, i < t ∧ LINK M i q := by
  have hn : c ≤ 3000 := by
    have := h.1.2.1.2.1
    have := h.1.1.st.1.2.2.2.2
    omega
  obtain ⟨p, p1, p2, p3, p4, p5⟩ := h.prod hq
  obtain ⟨e1, e2, e3⟩ := h.entry hq
  have hr := ax_le M (nd M q)
  have hgs : gs M p = sg M (nd M q) := by unfold gs; rw [p4, e1]; rfl
  obtain ⟨i, i1, i2⟩ := h.out p1 (fun j hj => by
    rw [hgs] at hj
    have hr2 : arN (sg M (nd M q)) = ax M (nd M q) := rfl
    obtain ⟨k, k1, k2, k3⟩ := (e3 j (by omega)).1 hj
    have h12 := p5 j (by rw [e1]; exact hj)
    unfold lp at h12
    rw [k2, rgn k (by omega)] at h12
    obtain ⟨l', l1, l2⟩ := h.lead (q := k) (by omega)
    have : gp M p j = l' := by unfold gp; omega
    rw [this]
    exact h.chosen k (by omega) l' l2)
  exact ⟨i, i1, h.prodOf (by unfold sq; rw [i2]; rfl) p1 hq p3 p4 p5⟩
end W0
