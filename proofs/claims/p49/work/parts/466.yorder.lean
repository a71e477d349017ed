section W5
variable {M M1 M' M2 : g_M} {n n1 n2 m m' n0 c ec G t r : Nat} {P Y : Nat → Nat} {U : Nat → Bool} {md : Nat → Prop}
theorem CERT.zlt5 (h : CERT M n m n0 c ec G t P U) {i : Nat} (hi : i < t) : zs M i < 5 := by
  have := (h.2.2.2.2.1.1.2.2 _ (h.sqn hi).2).2.1
  unfold zs gs
  omega
theorem CERT.po (h : CERT M n m n0 c ec G t P U) {i : Nat} (hi : i < t) : PO M (sq M i) := by
  have hRI := h.2.2.2.2.2.1
  exact (hRI.2.2.1.2.2.2.1 _ (hRI.2.2.2.1.1 i hi).2).2
def j1 (M : g_M) (s : Nat) : Nat := if arN s = 2 ∧ M 54 s ≠ 0 then 1 else 0
def j2 (M : g_M) (s : Nat) : Nat := if M 54 s = 0 then 1 else 0
theorem zq {i : Nat} : q1 M (sq M i) = (if arN (zs M i) = 0 then 0 else zc M i (j1 M (zs M i))) ∧ q2 M (sq M i) = if arN (zs M i) = 2 then zc M i (j2 M (zs M i)) else 0 := by
  have hr := arN_le (zs M i)
  unfold q1 q2 j1 j2 zc
  show (if arN (zs M i) = 0 then 0 else if arN (zs M i) = 1 then (M 21 (gp M (sq M i) 0)).toNat else if M 54 (zs M i) = 0 then (M 21 (gp M (sq M i) 0)).toNat else (M 21 (gp M (sq M i) 1)).toNat) = _ ∧ (if arN (zs M i) = 0 then 0 else if arN (zs M i) = 1 then 0 else if M 54 (zs M i) = 0 then (M 21 (gp M (sq M i) 1)).toNat else (M 21 (gp M (sq M i) 0)).toNat) = _
  by_cases h0 : arN (zs M i) = 0
  · simp [h0]
  · by_cases h1 : arN (zs M i) = 1
    · simp [h1]
    · have h2 : arN (zs M i) = 2 := by omega
      by_cases hd : M 54 (zs M i) = 0 <;> simp [h2, hd]
/-- a place that is ready comes no earlier by its key -/
theorem CERT.kmin (h : CERT M n m n0 c ec G t P U) {i i' : Nat} (hi : i < t) (hi' : i' < t) (hlt : i ≤ i') (hr : ∀ j, j < arN (zs M i') → zc M i' j < i) : KY M (sq M i) ≤ KY M (sq M i') := by
  have hRI := h.2.2.2.2.2.1
  refine (hRI.2.2.2.2.2.2.2 i hi).2 (sq M i') ⟨(h.sqn hi').2, fun j hj => ?_⟩ (fun i2 h2 e => ?_)
  · obtain ⟨i2, b1, b2, b3, b4, b5⟩ := h.before hi' hj
    have := hr j hj
    unfold zc at this
    rw [b5, b4] at *
    omega
  · have := hRI.2.2.2.1.2 i2 i' (by omega) hi' (by rw [e, (h.sqn hi').1])
    omega
theorem CERT.kne (h : CERT M n m n0 c ec G t P U) (h29 : n0 ≤ 29) {i i' : Nat} (hi : i < t) (hi' : i' < t) (e : KY M (sq M i) = KY M (sq M i')) : i = i' := by
  have hSY := h.1.1.sy
  have n1 : ¬ KY M (sq M i) < KY M (sq M i') := by omega
  have n2 : ¬ KY M (sq M i') < KY M (sq M i) := by omega
  rw [KY_lt hSY (h.po hi) (h.po hi') (h.zlt5 hi) (h.zlt5 hi')] at n1
  rw [KY_lt hSY (h.po hi') (h.po hi) (h.zlt5 hi') (h.zlt5 hi)] at n2
  have hi5 := hSY.2.2.2.2.1 _ _ (h.zlt5 hi) (h.zlt5 hi')
  have ra := hSY.2.2.2.1 _ (h.zlt5 hi)
  have rb := hSY.2.2.2.1 _ (h.zlt5 hi')
  have hs : zs M i = zs M i' := hi5 (by unfold zs at *; omega)
  have hq : q1 M (sq M i) = q1 M (sq M i') ∧ q2 M (sq M i) = q2 M (sq M i') := by omega
  obtain ⟨a1, a2⟩ := zq (M := M) (i := i)
  obtain ⟨b1, b2⟩ := zq (M := M) (i := i')
  rw [a1, b1, a2, b2, ← hs] at hq
  have hr := arN_le (zs M i)
  refine h.zinj h29 hi hi' hs (fun j hj => ?_)
  obtain ⟨h1, h2⟩ := hq
  rw [if_neg (by omega), if_neg (by omega)] at h1
  by_cases hj1 : j = j1 M (zs M i)
  · rw [hj1]
    exact h1
  · have h22 : arN (zs M i) = 2 := by
      unfold j1 at hj1
      split at hj1 <;> omega
    rw [if_pos h22, if_pos h22] at h2
    have : j = j2 M (zs M i) := by
      have hd := hSY.2.2.2.2.2.2.1 _ (h.zlt5 hi)
      unfold j1 at hj1
      unfold j2
      rcases hd with hd | hd
      · rw [hd] at hj1 ⊢
        simp at hj1 ⊢
        omega
      · rw [hd] at hj1 ⊢
        simp [h22] at hj1 ⊢
        omega
    rw [this]
    exact h2
theorem YS.node (hY : YS M M' n1 r t Y md) {i : Nat} (hi : i < t) (hm : md i) : Y i < n1 ∧ sg M' (Y i) = zs M i ∧ ax M' (Y i) = arN (zs M i) ∧ ∀ j, j < arN (zs M i) → pn M' (Y i) j = Y (zc M i j) := by
  obtain ⟨a1, a2⟩ := hY.2.2.1 i hi hm
  exact ⟨a1, a2.parts⟩
theorem CERT.pkz (h : CERT M n m n0 c ec G t P U) {i j : Nat} (hi : i < t) (hj : j < arN (zs M i)) : pk M (sq M i) j = sq M (zc M i j) := by
  obtain ⟨i2, b1, b2, b3, b4, b5⟩ := h.before hi hj
  have e : zc M i j = i2 := by unfold zc; omega
  unfold pk
  rw [b5, e]
  rfl
theorem YS.weight (h : CERT M n m n0 c ec G t P U) (hY : YS M M' n1 r t Y md) (hp : PLt M' n1) (hO : ORD M M') : ∀ i, i < t → md i → (M 16 (sq M i)).toNat = Wt M' (Y i) ∧ 0 ≤ M 16 (sq M i) := by
  have hRI := h.2.2.2.2.2.1
  intro i
  induction i using Nat.strongRecOn with
  | _ i ih =>
    intro hi hm
    obtain ⟨b1, b2, b3, b4⟩ := hY.node hi hm
    obtain ⟨⟨w1, -⟩, w2, -⟩ := hRI.2.2.2.2.2.1 _ (hRI.2.2.2.1.1 i hi).2
    have hw9 := h.1.1.sy.2.2.1 _ (h.zlt5 hi)
    refine ⟨?_, w2.1⟩
    have sums : ∀ q, q ≤ arN (zs M i) → sS M 16 (sq M i) q = ((sP (Wt M') M' (Y i) q : Nat) : Int) := by
      intro q
      induction q with
      | zero => intro _; rfl
      | succ q ihq =>
        intro hq
        have hz := (h.zcp hi (j := q) (by omega)).1
        obtain ⟨k1, k2⟩ := ih _ hz (by omega) (hY.1 i hi hm q (by omega))
        show sS M 16 (sq M i) q + M 16 (pk M (sq M i) q) = ((sP (Wt M') M' (Y i) q + Wt M' (pn M' (Y i) q) : Nat) : Int)
        rw [ihq (by omega), h.pkz hi (by omega), b4 q (by omega), ← k1]
        omega
    rw [w1, Wt_eq hp b1]
    unfold wS
    rw [h.2.2.2.2.2.2.2, hO.1, b3, b2, hO.2.1]
    show (if M 41 9 = 1 then min (M 51 (zs M i) + sS M 16 (sq M i) (arN (zs M i))) 1048575 else 0).toNat = _
    rw [sums _ (Nat.le_refl _)]
    split <;> omega
/-- the terms of the sequence ascend -/
theorem YS.order (h : CERT M n m n0 c ec G t P U) (h29 : n0 ≤ 29) (hY : YS M M' n1 r t Y md) (hp : PLt M' n1) (hO : ORD M M') : ∀ N i i', i + i' ≤ N → i < i' → i' < t → md i → md i' → LT M' (Y i) (Y i') := by
  intro N
  induction N using Nat.strongRecOn with
  | _ N ih =>
    intro i i' hN hlt hi' hm hm'
    have hi : i < t := by omega
    obtain ⟨a1, a2, a3, a4⟩ := hY.node hi hm
    obtain ⟨b1, b2, b3, b4⟩ := hY.node hi' hm'
    have za := fun j hj => h.zcp hi (j := j) hj
    have zb := fun j hj => h.zcp hi' (j := j) hj
    by_cases hex : ∃ j, j < arN (zs M i') ∧ i ≤ zc M i' j
    · obtain ⟨j, hj, hle⟩ := hex
      have z1 := (zb j hj).1
      refine (LT_eq hp a1 b1).2 (Or.inl ⟨j, by rw [b3]; exact hj, ?_⟩)
      rw [b4 j hj]
      rcases Nat.lt_or_ge i (zc M i' j) with h1 | h1
      · exact Or.inr (ih (i + zc M i' j) (by omega) i (zc M i' j) (Nat.le_refl _) h1 (by omega) hm (hY.1 i' hi' hm' j hj))
      · exact Or.inl (by rw [show zc M i' j = i by omega])
    · have hall : ∀ j, j < arN (zs M i') → zc M i' j < i := fun j hj => by
        rcases Nat.lt_or_ge (zc M i' j) i with h1 | h1
        · exact h1
        · exact absurd ⟨j, hj, h1⟩ hex
      have hle := h.kmin hi hi' (by omega) hall
      have hne : KY M (sq M i) ≠ KY M (sq M i') := fun e => by
        have := h.kne h29 hi hi' e
        omega
      have hkey : KY M (sq M i) < KY M (sq M i') := by omega
      have hSY := h.1.1.sy
      rw [KY_lt hSY (h.po hi) (h.po hi') (h.zlt5 hi) (h.zlt5 hi'), (hY.weight h hp hO i hi hm).1, (hY.weight h hp hO i' hi' hm').1] at hkey
      refine (LT_eq hp a1 b1).2 (Or.inr ⟨?_, fun j hj => ?_⟩)
      · unfold KL
        have era : rk M' (Y i) = (M 52 (gs M (sq M i))).toNat := by unfold rk; rw [a2, hO.2.2.1]; rfl
        have erb : rk M' (Y i') = (M 52 (gs M (sq M i'))).toNat := by unfold rk; rw [b2, hO.2.2.1]; rfl
        rw [era, erb, a2, b2]
        rcases hkey with k1 | ⟨k1, k2⟩
        · exact Or.inl k1
        · refine Or.inr ⟨k1, ?_⟩
          rcases k2 with k2 | ⟨k2, k3⟩
          · exact Or.inl k2
          · have hi5 := hSY.2.2.2.2.1 _ _ (h.zlt5 hi) (h.zlt5 hi')
            have ra := hSY.2.2.2.1 _ (h.zlt5 hi)
            have rb := hSY.2.2.2.1 _ (h.zlt5 hi')
            have hs : zs M i = zs M i' := hi5 (by unfold zs at *; omega)
            refine Or.inr ⟨hs, ?_⟩
            obtain ⟨x1, x2⟩ := zq (M := M) (i := i)
            obtain ⟨y1, y2⟩ := zq (M := M) (i := i')
            rw [x1, y1, x2, y2, ← hs] at k3
            have hr := arN_le (zs M i)
            have ei1 : i1 M' (Y i) = j1 M (zs M i) := by unfold i1 j1; rw [a3, a2, hO.2.2.2]
            have ei2 : i2 M' (Y i) = j2 M (zs M i) := by unfold i2 j2; rw [a2, hO.2.2.2]
            have lt : ∀ j, j < arN (zs M i) → zc M i j < zc M i' j → LT M' (pn M' (Y i) j) (pn M' (Y i') j) := fun j hj hz => by
              have hj' : j < arN (zs M i') := by rw [← hs]; exact hj
              have c1 := (za j hj).1
              have c2 := (zb j hj').1
              rw [a4 j hj, b4 j hj']
              exact ih (zc M i j + zc M i' j) (by omega) _ _ (Nat.le_refl _) hz (by omega) (hY.1 i hi hm j hj) (hY.1 i' hi' hm' j hj')
            have eqj : ∀ j, j < arN (zs M i) → zc M i j = zc M i' j → pn M' (Y i) j = pn M' (Y i') j := fun j hj hz => by
              rw [a4 j hj, b4 j (by rw [← hs]; exact hj), hz]
            have l1 : 0 < arN (zs M i) → j1 M (zs M i) < arN (zs M i) := fun h0 => by
              unfold j1
              split <;> omega
            have l2 : arN (zs M i) = 2 → j2 M (zs M i) < arN (zs M i) := fun h0 => by
              unfold j2
              split <;> omega
            by_cases h0 : arN (zs M i) = 0
            · exfalso
              simp [h0] at k3
            · rw [if_neg h0, if_neg h0] at k3
              unfold LEX
              rw [ei1, ei2, a3]
              refine ⟨by omega, ?_⟩
              rcases k3 with k3 | ⟨k3, k4⟩
              · exact Or.inl (lt _ (l1 (by omega)) k3)
              · by_cases h2 : arN (zs M i) = 2
                · rw [if_pos h2, if_pos h2] at k4
                  exact Or.inr ⟨eqj _ (l1 (by omega)) k3, by omega, lt _ (l2 h2) k4⟩
                · rw [if_neg h2, if_neg h2] at k4
                  exact absurd k4 (by omega)
      · rw [a3] at hj
        rw [a4 j hj]
        have c1 := (za j hj).1
        exact ih (zc M i j + i') (by omega) _ _ (Nat.le_refl _) (by omega) hi' (hY.1 i hi hm j hj) hm'
end W5
