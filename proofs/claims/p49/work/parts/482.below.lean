section Y1
theorem irem_nat (k c : Nat) (hk : k < 2 ^ 31) (h0 : 0 < c) (hc : c < 2 ^ 31) : irem (k : Int) (c : Int) = ((k % c : Nat) : Int) := by
  unfold irem
  rw [ofI, ofI, pk_div hk h0 hc]
  have e : k % c = k - k / c * c := by
    have := Nat.div_add_mod k c
    rw [Nat.mul_comm] at this
    omega
  have hle : k / c * c ≤ k := Nat.div_mul_le_self k c
  have h1 : nI (k / c) * nI c = nI (k / c * c) := by
    exact (Int32.ofNat_mul _ _).symm
  rw [h1]
  have h2 : nI k - nI (k / c * c) = nI (k % c) := by
    rw [e]
    exact (Int32.ofNat_sub _ _ hle).symm
  rw [h2, tI (Nat.lt_of_le_of_lt (Nat.mod_le k c) hk)]
theorem iand31 (y : Int) : ∃ k : Nat, k < 2147483648 ∧ iand y 2147483647 = (k : Int) := by
  unfold iand
  refine ⟨(Int32.ofInt y).toBitVec.toNat % 2 ^ 31, by omega, ?_⟩
  rw [pk_and (Int32.ofInt y) (m := Int32.ofInt 2147483647) 31 (by decide +kernel), tI (by omega)]
theorem r_below {M : g_M} {Q : Int → g_M → Prop} {a : Int} (c : Nat) (h0 : 0 < c) (hc : c < 1000) (k : ∀ j : Nat, j < c → Q j M) : F_L_below Q a (c : Int) M := by
  unfold F_L_below
  obtain ⟨p, p1, p2⟩ := iand31 a
  rw [p2, irem_nat p c (by omega) h0 (by omega), bq (by omega) (by omega)]
  exact ⟨by omega, k _ (Nat.mod_lt _ h0)⟩
end Y1
