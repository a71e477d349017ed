section Q6
/-- what may be compared -/
def CM (M : g_M) (En : Nat → Prop) (C G : Nat) : Prop := SY M ∧ GS M C G ∧ (∀ k, En k → k < G ∧ PO M k) ∧ ∀ a b, En a → En b → ∀ i j, i < arN (gs M a) → j < arN (gs M b) → M 21 (gp M a i) = M 21 (gp M b j) → M 12 (3 * a + i) = M 12 (3 * b + j)
theorem CM.cong {M M' : g_M} {En : Nat → Prop} {C G : Nat} (h : CM M En C G) (hS : SM [19, 44] M M') (h15 : M' 44 15 = M 44 15) (h16 : M' 44 16 = M 44 16) : CM M' En C G := by
  obtain ⟨h1, h2, h3, h4⟩ := h
  have e : ∀ a, a ≠ 19 → a ≠ 44 → M' a = M a := fun a ha hb => hS a (by simp [ha, hb])
  refine ⟨h1.cong (by rw [e 41 (by decide) (by decide)]) (by rw [e 41 (by decide) (by decide)]) (e 50 (by decide) (by decide)) (e 51 (by decide) (by decide)) (e 52 (by decide) (by decide)) (e 53 (by decide) (by decide)) (e 54 (by decide) (by decide)), h2.cong (e 10 (by decide) (by decide)) (e 11 (by decide) (by decide)) (e 12 (by decide) (by decide)) h15 h16, fun k hk => ⟨(h3 k hk).1, ?_⟩, ?_⟩
  · have := (h3 k hk).2
    unfold PO gs gp at this ⊢
    rw [e 16 (by decide) (by decide), e 11 (by decide) (by decide), e 12 (by decide) (by decide), e 21 (by decide) (by decide)]
    exact this
  · unfold gs gp at h4 ⊢
    rw [e 11 (by decide) (by decide), e 12 (by decide) (by decide), e 21 (by decide) (by decide)]
    exact h4
theorem r_cmp {M0 M : g_M} {Q : Int → g_M → Prop} {En : Nat → Prop} {C G : Nat} (h : CM M0 En C G) (hR : RG M) (hS : SM [19] M0 M) (hG1 : G ≤ 1000) (hC : C ≤ 1000) (a b : Nat) (ha : En a) (hb : En b) (k1 : KY M0 a < KY M0 b → Q 1 M) (k2 : ¬ KY M0 a < KY M0 b → Q 0 M) : F_X2_isBefore Q a b M := by
  obtain ⟨h1, h2, h3, h4⟩ := h.cong (hS.mono (by decide)) (by rw [hS 44 (by decide)]) (by rw [hS 44 (by decide)])
  have e : ∀ k, KY M k = KY M0 k := fun k => KY.cong (hS 11 (by decide)) (hS 12 (by decide)) (hS 16 (by decide)) (hS 21 (by decide)) (hS 52 (by decide)) (hS 54 (by decide)) k
  exact r_isBefore hR h1 h2 hG1 hC a b (h3 a ha).1 (h3 b hb).1 (h3 a ha).2 (h3 b hb).2 (h4 a b ha hb) (by rw [e, e]; exact k1) (by rw [e, e]; exact k2)
def hv (M : g_M) (i : Nat) : Nat := (M 19 i).toNat
/-- a heap of n entries -/
def HO (K : Nat → Nat) (En : Nat → Prop) (M : g_M) (n : Nat) : Prop := (∀ i, i < n → 0 ≤ M 19 i ∧ En (hv M i)) ∧ (∀ i j, i < n → j < n → M 19 i = M 19 j → i = j) ∧ ∀ i, 0 < i → i < n → K (hv M ((i - 1) / 2)) ≤ K (hv M i)
def inH (M : g_M) (n k : Nat) : Prop := ∃ i, i < n ∧ M 19 i = (k : Int)
/-- a heap with a hole at p -/
def HH0 (K : Nat → Nat) (En : Nat → Prop) (mem : Nat → Prop) (M : g_M) (n p x : Nat) : Prop := (∀ i, i < n → i ≠ p → 0 ≤ M 19 i ∧ En (hv M i) ∧ M 19 i ≠ (x : Int)) ∧ (∀ i j, i < n → j < n → i ≠ p → j ≠ p → M 19 i = M 19 j → i = j) ∧ (∀ i, 0 < i → i < n → i ≠ p → (i - 1) / 2 ≠ p → K (hv M ((i - 1) / 2)) ≤ K (hv M i)) ∧ ∀ k : Nat, (∃ i, i < n ∧ i ≠ p ∧ M 19 i = (k : Int)) ↔ mem k
theorem HH0.put {K : Nat → Nat} {En mem : Nat → Prop} {M : g_M} {n p x : Nat} (h : HH0 K En mem M n p x) (hp : p < n) (hx : En x) (h1 : 0 < p → K (hv M ((p - 1) / 2)) ≤ K x) (h2 : ∀ i, 0 < i → i < n → (i - 1) / 2 = p → K x ≤ K (hv M i)) : HO K En (up M 19 p (x : Int)) n ∧ ∀ k, inH (up M 19 p (x : Int)) n k ↔ mem k ∨ k = x := by
  obtain ⟨a1, a2, a3, a4⟩ := h
  have v : ∀ i, up M 19 p (x : Int) 19 i = if i = p then (x : Int) else M 19 i := fun i => by rw [upi]; simp
  have w : ∀ i, hv (up M 19 p (x : Int)) i = if i = p then x else hv M i := fun i => by
    unfold hv
    rw [v]
    split <;> simp
  refine ⟨⟨fun i hi => ?_, fun i j hi hj e => ?_, fun i h0 hi => ?_⟩, fun k => ⟨fun hk => ?_, fun hk => ?_⟩⟩
  · rw [v, w]
    by_cases hip : i = p
    · rw [if_pos hip, if_pos hip]
      exact ⟨by omega, hx⟩
    · rw [if_neg hip, if_neg hip]
      exact ⟨(a1 i hi hip).1, (a1 i hi hip).2.1⟩
  · rw [v, v] at e
    by_cases hip : i = p
    · by_cases hjp : j = p
      · omega
      · rw [if_pos hip, if_neg hjp] at e
        exact absurd e.symm (a1 j hj hjp).2.2
    · by_cases hjp : j = p
      · rw [if_neg hip, if_pos hjp] at e
        exact absurd e (a1 i hi hip).2.2
      · rw [if_neg hip, if_neg hjp] at e
        exact a2 i j hi hj hip hjp e
  · rw [w, w]
    by_cases hip : i = p
    · rw [if_pos hip, if_neg (by omega), hip]
      exact h1 (by omega)
    · rw [if_neg hip]
      by_cases hpp : (i - 1) / 2 = p
      · rw [if_pos hpp]
        exact h2 i h0 hi hpp
      · rw [if_neg hpp]
        exact a3 i h0 hi hip hpp
  · obtain ⟨i, hi, e⟩ := hk
    rw [v] at e
    by_cases hip : i = p
    · rw [if_pos hip] at e
      exact Or.inr (by omega)
    · rw [if_neg hip] at e
      exact Or.inl ((a4 k).1 ⟨i, hi, hip, e⟩)
  · rcases hk with hk | hk
    · obtain ⟨i, hi, hip, e⟩ := (a4 k).2 hk
      exact ⟨i, hi, by rw [v, if_neg hip, e]⟩
    · exact ⟨p, hp, by rw [v, if_pos rfl, hk]⟩
/-- the hole moves from p to r -/
theorem HH0.move {K : Nat → Nat} {En mem : Nat → Prop} {M : g_M} {n p r x : Nat} (h : HH0 K En mem M n p x) (hp : p < n) (hr : r < n) (hne : r ≠ p)
    (hord : ∀ i, 0 < i → i < n → i ≠ r → (i - 1) / 2 ≠ r → (i = p → K (hv M ((p - 1) / 2)) ≤ K (hv M r)) ∧ (i ≠ p → (i - 1) / 2 = p → K (hv M r) ≤ K (hv M i))) : HH0 K En mem (up M 19 p (M 19 r)) n r x := by
  obtain ⟨a1, a2, a3, a4⟩ := h
  have v : ∀ i, up M 19 p (M 19 r) 19 i = if i = p then M 19 r else M 19 i := fun i => by rw [upi]; simp
  have w : ∀ i, hv (up M 19 p (M 19 r)) i = if i = p then hv M r else hv M i := fun i => by
    unfold hv
    rw [v]
    split <;> rfl
  refine ⟨fun i hi hir => ?_, fun i j hi hj hir hjr e => ?_, fun i h0 hi hir hpr => ?_, fun k => ⟨fun hk => ?_, fun hk => ?_⟩⟩
  · rw [v, w]
    by_cases hip : i = p
    · rw [if_pos hip, if_pos hip]
      exact a1 r hr hne
    · rw [if_neg hip, if_neg hip]
      exact a1 i hi hip
  · rw [v, v] at e
    by_cases hip : i = p
    · by_cases hjp : j = p
      · omega
      · rw [if_pos hip, if_neg hjp] at e
        exact absurd (a2 r j hr hj hne hjp e).symm hjr
    · by_cases hjp : j = p
      · rw [if_neg hip, if_pos hjp] at e
        exact absurd (a2 i r hi hr hip hne e) hir
      · rw [if_neg hip, if_neg hjp] at e
        exact a2 i j hi hj hip hjp e
  · rw [w, w]
    obtain ⟨o1, o2⟩ := hord i h0 hi hir hpr
    by_cases hip : i = p
    · rw [if_pos hip, if_neg (by omega), hip]
      exact o1 hip
    · rw [if_neg hip]
      by_cases hpp : (i - 1) / 2 = p
      · rw [if_pos hpp]
        exact o2 hip hpp
      · rw [if_neg hpp]
        exact a3 i h0 hi hip hpp
  · obtain ⟨i, hi, hir, e⟩ := hk
    rw [v] at e
    by_cases hip : i = p
    · rw [if_pos hip] at e
      exact (a4 k).1 ⟨r, hr, hne, e⟩
    · rw [if_neg hip] at e
      exact (a4 k).1 ⟨i, hi, hip, e⟩
  · obtain ⟨i, hi, hip, e⟩ := (a4 k).2 hk
    by_cases hir : i = r
    · exact ⟨p, hp, Ne.symm hne, by rw [v, if_pos rfl, ← hir, e]⟩
    · exact ⟨i, hi, hir, by rw [v, if_neg hip, e]⟩
theorem HO.least {K : Nat → Nat} {En : Nat → Prop} {M : g_M} {n : Nat} (h : HO K En M n) : ∀ i, i < n → K (hv M 0) ≤ K (hv M i) := by
  intro i
  induction i using Nat.strongRecOn with
  | _ i ih =>
    intro hi
    rcases Nat.eq_zero_or_pos i with h0 | h0
    · rw [h0]
      exact Nat.le_refl _
    · exact Nat.le_trans (ih ((i - 1) / 2) (by omega) (by omega)) (h.2.2 i h0 hi)
end Q6
