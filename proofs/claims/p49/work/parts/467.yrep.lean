section W6
variable {M M1 M' M2 : g_M} {n n1 n2 m m' n0 c ec G t r : Nat} {P Y : Nat → Nat} {U : Nat → Bool} {md : Nat → Prop}
/-- a congruence with the equations holds the leaders' equality -/
theorem CERT.cge (h : CERT M n m n0 c ec G t P U) {E : Nat → Nat → Prop} (hC : CGE M n0 E) (hQ : EQS M ec E) : ∀ a b, a < c → b < c → M 24 a = M 24 b → E (nd M a) (nd M b) := by
  refine h.2.2.2.1.1 (fun a b => E (nd M a) (nd M b)) ⟨fun a b => hC.1 _ _, fun a b d => hC.2.1 _ _ _, fun a b ha hb h28 hp => ?_⟩ (fun e he a b ha hb h1 h2 => ?_)
  · obtain ⟨e1, e2, e3⟩ := h.entry ha
    obtain ⟨f1, f2, f3⟩ := h.entry hb
    have hs : sg M (nd M a) = sg M (nd M b) := by omega
    have hax : ax M (nd M b) = ax M (nd M a) := by unfold ax; rw [hs]
    have hr := ax_le M (nd M a)
    refine hC.2.2 _ _ (h.1.2.2.1 a ha) (h.1.2.2.1 b hb) hs (fun j hj => ?_)
    obtain ⟨k, k1, k2, k3⟩ := (e3 j (by omega)).1 hj
    obtain ⟨k', l1, l2, l3⟩ := (f3 j (by omega)).1 (by rw [hax]; exact hj)
    rw [← k3, ← l3]
    exact hp j k k' (by rw [e1]; exact hj) k2 l2
  · show E (nd M a) (nd M b)
    rw [h1, h2]
    exact hQ e he
theorem YS.rep (h : CERT M n m n0 c ec G t P U) (hn0 : n0 ≤ n) (hY : YS M M' n1 r t Y md) (hp : PLt M' n1) (hE : EX n M M') (hn : n ≤ n1) {E : Nat → Nat → Prop} (hC : CGE M n0 E) (hQ : EQS M ec E) {ix : Nat → Nat} (hx1 : ∀ a b, a < c → b < c → (M 24 a = M 24 b ↔ zf M (ix a) = zf M (ix b))) (hx2 : ∀ i, i < t → ∃ q, q < c ∧ zf M (ix q) = zf M i ∧ zs M i = sg M (nd M q) ∧ ∀ j, j < ax M (nd M q) → ∃ k, k < q ∧ nd M k = pn M (nd M q) j ∧ zf M (ix k) = zc M i j) : ∀ i, i < t → md i → ∀ q, q < c → zf M (ix q) = zf M i → REP M' n0 E (Y i) (nd M q) := by
  intro i
  induction i using Nat.strongRecOn with
  | _ i ih =>
    intro hi hm q hq hz
    obtain ⟨q0, b1, b2, b3, b4⟩ := hx2 i hi
    obtain ⟨a1, a2, a3, a4⟩ := hY.node hi hm
    have hU0 := h.1.2.2.1 q0 b1
    obtain ⟨e1, e2, e3⟩ := hE.node (x := nd M q0) (by omega)
    have hr := ax_le M (nd M q0)
    have hax : ax M (nd M q0) = arN (zs M i) := by rw [b3]; rfl
    refine (REP_eq hp a1).2 ⟨nd M q0, hU0, ?_, by rw [a2, e1, b3], fun j hj => ?_⟩
    · exact h.cge hC hQ q0 q b1 hq ((hx1 q0 q b1 hq).2 (b2.trans hz.symm))
    · rw [a3, ← hax] at hj
      obtain ⟨k, k1, k2, k3⟩ := b4 j hj
      rw [e3 j (by omega), ← k2]
      rw [hax] at hj
      rw [a4 j hj]
      obtain ⟨c1, c2, -, -⟩ := h.zcp hi hj
      exact ih _ c1 (by omega) (hY.1 i hi hm j hj) k (by omega) (by rw [k3, c2])
/-- what complete leaves -/
theorem CERT.rsk (h : CERT M n m n0 c ec G t P U) (h29 : n0 ≤ 29) (hn0 : n0 ≤ n) (hQ0 : EQO M n0 ec) (hY : YS M M' n1 r t Y md) (hW' : WF M' n1 m') (hR : RUL M' n1 r) (hE : EX n M M') (hn : n ≤ n1) (hO : ORD M M') (h45 : M' 45 7 = M 45 7) (h55 : M' 55 = M 55) (h56 : M' 56 = M 56) : RSK M' n1 n0 r ec := by
  have hp := hW'.st.plt
  obtain ⟨ix, hx0, hx1, hx2⟩ := h.ix
  have eeL : ∀ q, eL M' q = eL M q := fun q => by unfold eL; rw [h55]
  have eeR : ∀ q, eR M' q = eR M q := fun q => by unfold eR; rw [h56]
  have rule : ∀ q, q < r → ∃ i, i < t ∧ zf M i ≠ i ∧ rl M' q = Y i ∧ rv M' q = Y (zf M i) ∧ md i ∧ md (zf M i) := fun q hq => by
    obtain ⟨i, i1, i2, i3, i4⟩ := hY.2.2.2.2.1 q hq
    obtain ⟨m1, m2⟩ := hY.2.1 i i1 i2
    exact ⟨i, i1, i2, by unfold rl; rw [i3]; rfl, by unfold rv; rw [i4]; rfl, m1, m2⟩
  refine ⟨⟨hR, by omega, hQ0.2.1, by rw [h45]; exact hQ0.1, fun e he => ?_⟩, fun q hq => ?_, fun q hq => ?_, fun E hC hQ q hq => ?_, fun M2 n2 s1 s2 s3 s4 e z k z' k' he f1 f2 => ?_⟩
  · rw [h55, h56, eeL, eeR]
    exact hQ0.2.2 e he
  · obtain ⟨i, i1, i2, i3, i4, m1, m2⟩ := rule q hq
    have := (h.zfp i1).1
    rw [i3, i4]
    exact hY.order h h29 hp hO _ _ _ (Nat.le_refl _) (by omega) i1 m2 m1
  · obtain ⟨i, i1, i2, i3, i4, m1, m2⟩ := rule q hq
    obtain ⟨z1, z2, -⟩ := h.zfp i1
    rw [i4]
    exact hY.norm h hW' _ (by omega) m2 z2
  · obtain ⟨i, i1, i2, i3, i4, m1, m2⟩ := rule q hq
    obtain ⟨z1, z2, -⟩ := h.zfp i1
    obtain ⟨q0, b1, b2, -⟩ := hx2 i i1
    have hCM := hC.ext hE hn0
    have hQM : EQS M ec E := fun e he => by
      have := hQ e he
      rw [eeL, eeR] at this
      exact this
    rw [i3, i4]
    exact ⟨nd M q0, hY.rep h hn0 hp hE hn hCM hQM hx1 hx2 i i1 m1 q0 b1 b2, hY.rep h hn0 hp hE hn hCM hQM hx1 hx2 _ (by omega) m2 q0 b1 (by rw [b2, z2])⟩
  · rw [eeL] at f1
    rw [eeR] at f2
    obtain ⟨⟨a, a1, a2⟩, b, b1, b2⟩ := h.2.2.2.1.2.2 e he
    have na : nd M a = eL M e := by unfold nd; rw [a2]; rfl
    have nb : nd M b = eR M e := by unfold nd; rw [b2]; rfl
    have hl := h.2.2.2.1.2.1 e he a b a1 b1 na nb
    have hz := (hx1 a b a1 b1).1 hl
    have g1 := hY.nf h h29 (hE.tr s2 hn) s2 s3 (by omega) s1 s4 hx0 a z k a1 (by rw [na]; exact f1)
    have g2 := hY.nf h h29 (hE.tr s2 hn) s2 s3 (by omega) s1 s4 hx0 b z' k' b1 (by rw [nb]; exact f2)
    rw [← hz] at g2
    exact LN_det h s1 _ _ _ (by have := (h.zfp (hx0 a a1).1).1; have := (hx0 a a1).1; omega) g1 g2
end W6
