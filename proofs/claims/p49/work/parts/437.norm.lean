section S7
def NI (M0 M : g_M) (n0 n m c r a : Nat) : Prop := (WF M n m ∧ WK M n c ∧ RUL M n r) ∧ (∀ i, i < a → NS M n r i) ∧ (∀ i, i < a → 0 ≤ M 8 i ∧ M 8 i < (n : Int)) ∧ (∀ i, i < a → 0 ≤ M 9 i ∧ M 9 i ≤ M 2 (nd M i) / 512) ∧ (EX n0 M0 M ∧ n0 ≤ n ∧ n ≤ n0 + a ∧ SM [0, 1, 2, 4, 5, 8, 9, 42] M0 M) ∧ ∀ i, i < c → nd M i < n0 ∧ M 2 (nd M i) / 512 ≤ 1000
theorem sT_le {M : g_M} {n m c a x : Nat} (hW : WF M n m) (hK : WK M n c) (ha : a < c) (hx : x < n) (ex : M 7 a = (x : Int)) (hw : M 2 x / 512 ≤ 1000) (ht : ∀ i, i < a → 0 ≤ M 9 i ∧ M 9 i ≤ M 2 (nd M i) / 512) : 0 ≤ sT M x (ax M x) ∧ sT M x (ax M x) + 1 ≤ M 2 x / 512 := by
  have hr : ax M x ≤ 2 := arN_le _
  have t5 := hW.st.1.2.2.2.2
  have hcn := hK.2.1
  obtain ⟨w1, w2, w3, w4, -⟩ := hW.st.2.2.2.2.2.2 x hx
  have part : ∀ j, j < ax M x → 0 ≤ tl M (pn M x j) ∧ tl M (pn M x j) ≤ rg M 2 (M 1 (3 * x + j)) / 512 := fun j hj => by
    obtain ⟨i', i1, i2, i3⟩ := hK.idx ha ex hj
    obtain ⟨z, z1, z2, z3, -⟩ := hK.2.2 i' (by omega)
    have hz : nd M i' = z := by unfold nd; omega
    have := ht i' i1
    rw [hz] at this
    unfold tl
    rw [i3, Int.toNat_natCast, ← i2, z2, rgn z (by omega)]
    exact this
  have pos : ∀ v : Int, 0 ≤ rg M 2 v / 512 ∨ True := fun _ => Or.inr trivial
  obtain ⟨o1, o2, o3⟩ := hW.st.2.2.1 x hx
  have nn : ∀ (i : Nat) (v : Int), okp x (arN (sg M x)) i v → 0 ≤ rg M 2 v := fun i v h => by
    rcases okp_to h with h | ⟨q, q1, q2⟩
    · rw [h, rgm]
      exact Int.le_refl _
    · rw [q2, rgn q (by omega)]
      have := (hW.st.2.2.2.2.2.2 q (by omega)).1
      omega
  have n1 := nn 0 _ o1
  have n2 := nn 1 _ o2
  have n3 := nn 2 _ o3
  rcases (show ax M x = 0 ∨ ax M x = 1 ∨ ax M x = 2 by omega) with h | h | h
  · rw [h]
    show 0 ≤ (0 : Int) ∧ (0 : Int) + 1 ≤ M 2 x / 512
    omega
  · have p0 := part 0 (by omega)
    rw [h]
    show 0 ≤ 0 + tl M (pn M x 0) ∧ 0 + tl M (pn M x 0) + 1 ≤ M 2 x / 512
    rw [show M 1 (3 * x + 0) = M 1 (3 * x) from rfl] at p0
    omega
  · have p0 := part 0 (by omega)
    have p1 := part 1 (by omega)
    rw [h]
    show 0 ≤ 0 + tl M (pn M x 0) + tl M (pn M x 1) ∧ 0 + tl M (pn M x 0) + tl M (pn M x 1) + 1 ≤ M 2 x / 512
    rw [show M 1 (3 * x + 0) = M 1 (3 * x) from rfl] at p0
    omega
end S7
