section P2
theorem ofI (n : Nat) : Int32.ofInt (n : Int) = nI n := Int32.ofInt_eq_ofNat
theorem tI {n : Nat} (h : n < 2 ^ 31) : (nI n).toInt = (n : Int) := nI_toInt h
theorem nI_or (a b : Nat) : nI a ||| nI b = nI (a ||| b) := by
  apply Int32.toBitVec_inj.1
  show BitVec.ofNat 32 a ||| BitVec.ofNat 32 b = BitVec.ofNat 32 (a ||| b)
  apply BitVec.eq_of_getLsbD_eq
  intro i hi
  simp [hi]
theorem iushr9 (n : Nat) (h : n < 2 ^ 31) : iushr n 9 = ((n / 512 : Nat) : Int) := by
  unfold iushr
  rw [ofI, show Int32.ofInt 9 = (9 : Int32) by decide, pk_ushrN (n := n) (by omega) 9 9 (by decide +kernel), tI (by omega)]
theorem iushr1 (n : Nat) (h : n < 2 ^ 31) : iushr n 1 = ((n / 2 : Nat) : Int) := by
  unfold iushr
  rw [ofI, show Int32.ofInt 1 = (1 : Int32) by decide, pk_ushrN (n := n) (by omega) 1 1 (by decide +kernel), tI (by omega)]
theorem iand255 (n : Nat) (h : n < 2 ^ 31) : iand n 255 = ((n % 256 : Nat) : Int) := by
  unfold iand
  rw [ofI, show Int32.ofInt 255 = (255 : Int32) by decide, pk_andN (n := n) (by omega) (m := 255) 8 (by decide +kernel), tI (by omega)]
theorem iand1 (n : Nat) (h : n < 2 ^ 31) : iand n 1 = ((n % 2 : Nat) : Int) := by
  unfold iand
  rw [ofI, show Int32.ofInt 1 = (1 : Int32) by decide, pk_andN (n := n) (by omega) (m := 1) 1 (by decide +kernel), tI (by omega)]
theorem ishl9 (n : Nat) (h : n < 4194304) : ishl n 9 = ((n * 512 : Nat) : Int) := by
  unfold ishl
  rw [ofI, pk_shlN (n := n) (Int32.ofInt 9 &&& 31) 9 (by decide +kernel) (by omega), tI (by omega)]
theorem ishl1 (n : Nat) (h : n < 1000) : ishl n 1 = ((n * 2 : Nat) : Int) := by
  unfold ishl
  rw [ofI, pk_shlN (n := n) (Int32.ofInt 1 &&& 31) 1 (by decide +kernel) (by omega), tI (by omega)]
theorem ior_n (a b : Nat) (h : a ||| b < 2 ^ 31) : ior a b = ((a ||| b : Nat) : Int) := by
  unfold ior
  rw [ofI, ofI, nI_or, tI h]
theorem or_lt {a b k : Nat} (ha : a < 2 ^ k) (hb : b < 2 ^ k) : a ||| b < 2 ^ k := Nat.or_lt_two_pow ha hb
theorem or_even {a b : Nat} (ha : a % 2 = 0) (hb : b % 2 = 0) : (a ||| b) % 2 = 0 := by
  have h := Nat.or_mod_two_pow (a := a) (b := b) (n := 1)
  simp only [Nat.pow_one] at h
  rw [h, ha, hb]
  rfl
theorem iand15 (y : Int) : ∃ k : Nat, k < 32768 ∧ iand y 32767 = (k : Int) := by
  unfold iand
  refine ⟨(Int32.ofInt y).toBitVec.toNat % 2 ^ 15, by omega, ?_⟩
  rw [pk_and (Int32.ofInt y) (m := Int32.ofInt 32767) 15 (by decide +kernel), tI (by omega)]
theorem iand63 (y : Int) : ∃ k : Nat, k < 64 ∧ iand y 63 = (k : Int) := by
  unfold iand
  refine ⟨(Int32.ofInt y).toBitVec.toNat % 2 ^ 6, by omega, ?_⟩
  rw [pk_and (Int32.ofInt y) (m := Int32.ofInt 63) 6 (by decide +kernel), tI (by omega)]
theorem idivk (a k : Nat) (ha : a < 2 ^ 31) (h0 : 0 < k) (hk : k < 2 ^ 31) : idiv a k = ((a / k : Nat) : Int) := by
  unfold idiv
  rw [ofI, ofI, pk_div ha h0 hk, tI (Nat.lt_of_le_of_lt (Nat.div_le_self a k) ha)]
theorem imaxk {a b : Int} (h1 : -2147483648 ≤ a) (h2 : a ≤ 2147483647) (h3 : -2147483648 ≤ b) (h4 : b ≤ 2147483647) : imax a b = max a b := by
  unfold imax
  rw [bq h1 h2, bq h3 h4]
  split <;> omega
theorem imink {a b : Int} (h1 : -2147483648 ≤ a) (h2 : a ≤ 2147483647) (h3 : -2147483648 ≤ b) (h4 : b ≤ 2147483647) : imin a b = min a b := by
  unfold imin
  rw [bq h1 h2, bq h3 h4]
  split <;> omega
/-- sizes and depths in one int -/
theorem ext_pack (w h e1 e2 e3 : Nat) (hw : w < 4194304) (hh : h < 256) (h1 : e1 % 2 = 0) (h2 : e2 % 2 = 0) (h3 : e3 % 2 = 0) (l1 : e1 < 2 ^ 31) (l2 : e2 < 2 ^ 31) (l3 : e3 < 2 ^ 31) : ior (ior (ior (ishl w 9) (ishl h 1)) 0) (iand (ior (ior e1 e2) e3) 1) = ((512 * w + 2 * h : Nat) : Int) := by
  have o1 : (w * 512) ||| (h * 2) = 512 * w + 2 * h := by
    have e := (Nat.two_pow_add_eq_or_of_lt (i := 9) (b := h * 2) (by omega) w).symm
    rw [show (2 : Nat) ^ 9 = 512 by decide] at e
    rw [Nat.mul_comm w 512, e]
    omega
  have o2 : e1 ||| e2 < 2 ^ 31 := or_lt l1 l2
  have o3 : e1 ||| e2 ||| e3 < 2 ^ 31 := or_lt o2 l3
  rw [ishl9 w hw, ishl1 h (by omega), ior_n _ _ (by rw [o1]; omega), o1, ior_n e1 e2 o2, ior_n _ e3 o3, iand1 _ o3]
  have o4 : (e1 ||| e2 ||| e3) % 2 = 0 := or_even (or_even h1 h2) h3
  rw [o4]
  show ior (ior ((512 * w + 2 * h : Nat) : Int) ((0 : Nat) : Int)) ((0 : Nat) : Int) = _
  rw [ior_n _ 0 (by rw [Nat.or_zero]; omega), Nat.or_zero, ior_n _ 0 (by rw [Nat.or_zero]; omega), Nat.or_zero]
end P2
