section S1
/-- a ranking of the walk's own terms -/
def nd (M : g_M) (a : Nat) : Nat := (M 7 a).toNat
def TR (M : g_M) (n c t : Nat) (U : Nat → Bool) : Prop := RI M c c 0 t U ∧ LU M c U 0 (-1) ∧ M 44 19 = M 41 9 ∧ (∀ a, a < c → TQ M M n a) ∧ ∀ a, a < c → M 6 (nd M a) = (a : Int)
theorem KY_lt {M : g_M} {a b : Nat} (hSY : SY M) (pa : PO M a) (pb : PO M b) (ha : gs M a < 5) (hb : gs M b < 5) : KY M a < KY M b ↔ (M 16 a).toNat < (M 16 b).toNat ∨ (M 16 a).toNat = (M 16 b).toNat ∧ ((M 52 (gs M a)).toNat < (M 52 (gs M b)).toNat ∨ (M 52 (gs M a)).toNat = (M 52 (gs M b)).toNat ∧ (q1 M a < q1 M b ∨ q1 M a = q1 M b ∧ q2 M a < q2 M b)) := by
  obtain ⟨x1, x2⟩ := q_lt pa
  obtain ⟨y1, y2⟩ := q_lt pb
  have h1 := hSY.2.2.2.1 _ ha
  have h2 := hSY.2.2.2.1 _ hb
  unfold KY
  omega
section
variable {M : g_M} {n c t : Nat} {U : Nat → Bool}
theorem TR.ent (h : TR M n c t U) {a : Nat} (ha : a < c) : nd M a < n ∧ M 7 a = ((nd M a : Nat) : Int) ∧ M 10 a = (a : Int) ∧ gs M a = sg M (nd M a) ∧ ∀ j, j < ax M (nd M a) → gp M a j < a ∧ M 12 (3 * a + j) = ((gp M a j : Nat) : Int) ∧ nd M (gp M a j) = pn M (nd M a) j := by
  obtain ⟨x, x1, x2, x3, x4, x5⟩ := h.2.2.2.1 a ha
  have e : nd M a = x := by unfold nd; omega
  rw [e]
  refine ⟨x1, x2, x3, by unfold gs sg; rw [x4], fun j hj => ?_⟩
  obtain ⟨i', i1, i2, i3⟩ := x5 j hj
  have eg : gp M a j = i' := by unfold gp; omega
  rw [eg]
  exact ⟨i1, i2, by unfold nd pn; rw [i3]⟩
theorem TR.out (h : TR M n c t U) : ∀ a, a < c → outM M t a := by
  intro a
  induction a using Nat.strongRecOn with
  | _ a ih =>
    intro ha
    obtain ⟨e1, e2, e3, e4, e5⟩ := h.ent ha
    have hRI := h.1
    have chosen : ∀ j, j < arN (gs M a) → M 20 (gp M a j) ≠ -1 := fun j hj => by
      rw [e4] at hj
      obtain ⟨f1, f2, f3⟩ := e5 j hj
      obtain ⟨i, i1, i2⟩ := ih _ f1 (by omega)
      obtain ⟨-, -, g3, -⟩ := h.ent (show gp M a j < c by omega)
      rcases hRI.2.2.2.2.2.2.1 (gp M a j) (by omega) with ⟨-, h2⟩ | ⟨i', k1, k2, -⟩
      · refine absurd ?_ (h2 i i1)
        rw [show sq M i = gp M a j by unfold sq; omega, g3]
      · have := (hRI.2.2.2.1.1 i' k1).1
        omega
    have hEN : EN M c a := by
      refine ⟨ha, ?_⟩
      rw [hRI.2.1 a ha, (ucn_zero (U := U) (q := a) _).2 (fun j hj => ?_)]
      · rfl
      · have hv := vs_mk ha hj
        cases hu : U (3 * a + j)
        · rfl
        · rcases (h.2.1 _ hv).1 hu with h9 | ⟨-, h8⟩
          · exact absurd h9 (chosen j hj)
          · omega
    rcases (hRI.2.2.2.2.1.1 a).1 hEN with ⟨i, hi, -⟩ | h9
    · omega
    · exact h9
def ps (M : g_M) (a : Nat) : Nat := (M 21 a).toNat
theorem TR.pos (h : TR M n c t U) {a : Nat} (ha : a < c) : ps M a < t ∧ M 21 a = ((ps M a : Nat) : Int) ∧ M 22 (ps M a) = (a : Int) ∧ M 20 a = (a : Int) ∧ EN M c a := by
  obtain ⟨i, i1, i2⟩ := h.out a ha
  obtain ⟨e1, e2, e3, e4, e5⟩ := h.ent ha
  have hRI := h.1
  have hEN : EN M c a := (hRI.2.2.2.2.1.1 a).2 (Or.inr ⟨i, i1, i2⟩)
  rcases hRI.2.2.2.2.2.2.1 a ha with ⟨-, h2⟩ | ⟨i', k1, k2, k3, k4, k5⟩
  · refine absurd ?_ (h2 i i1)
    rw [show sq M i = a by unfold sq; omega, e3]
  · obtain ⟨s1, s2⟩ := hRI.2.2.2.1.1 i' k1
    obtain ⟨-, -, g3, -⟩ := h.ent s2.1
    have hsa : sq M i' = a := by omega
    have hpi : ps M a = i' := by unfold ps; omega
    rw [hpi]
    exact ⟨k1, k4, by rw [s1, hsa], by rw [k2, s1, hsa], hEN⟩
theorem TR.inj (h : TR M n c t U) {a b : Nat} (ha : a < c) (hb : b < c) (e : ps M a = ps M b) : a = b := by
  have h1 := (h.pos ha).2.2.1
  have h2 := (h.pos hb).2.2.1
  rw [e] at h1
  omega
theorem TR.weight (h : TR M n c t U) (hp : PLt M n) : ∀ a, a < c → (M 16 a).toNat = Wt M (nd M a) ∧ 0 ≤ M 16 a := by
  intro a
  induction a using Nat.strongRecOn with
  | _ a ih =>
    intro ha
    obtain ⟨e1, e2, e3, e4, e5⟩ := h.ent ha
    obtain ⟨-, -, -, -, hEN⟩ := h.pos ha
    obtain ⟨⟨w1, -⟩, w2, -⟩ := h.1.2.2.2.2.2.1 a hEN
    have hSY := h.1.1.2.1
    have h11 := (h.1.1.2.2.1.2.2 a ha).2.1
    have hs5 : gs M a < 5 := by unfold gs; omega
    have hw9 := hSY.2.2.1 _ hs5
    refine ⟨?_, w2.1⟩
    have sums : ∀ r, r ≤ ax M (nd M a) → sS M 16 a r = ((sP (Wt M) M (nd M a) r : Nat) : Int) := by
      intro r
      induction r with
      | zero => intro _; rfl
      | succ r ihr =>
        intro hr
        obtain ⟨f1, f2, f3⟩ := e5 r (by omega)
        obtain ⟨k1, k2⟩ := ih _ f1 (by omega)
        have hpk : pk M a r = gp M a r := by
          unfold pk
          rw [(h.pos (show gp M a r < c by omega)).2.2.2.1]
          exact Int.toNat_natCast _
        show sS M 16 a r + M 16 (pk M a r) = ((sP (Wt M) M (nd M a) r + Wt M (pn M (nd M a) r) : Nat) : Int)
        rw [ihr (by omega), hpk, ← f3, ← k1]
        omega
    rw [w1, Wt_eq hp e1]
    unfold wS
    rw [h.2.2.1, e4, show arN (sg M (nd M a)) = ax M (nd M a) from rfl, sums _ (Nat.le_refl _)]
    rw [e4] at hw9
    split <;> omega
end
end S1
