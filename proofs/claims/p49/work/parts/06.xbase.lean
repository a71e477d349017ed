section XA
abbrev iv (x : Int) : Value := .int (Int32.ofInt x)
def fo0 (K : Nat → Nat) (m : Nat → Int) : List Value := [.ref (K 1), .ref (K 2), .ref (K 3), .ref (K 4), .ref (K 5), .ref (K 6), .ref (K 100), .ref (K 101), .ref (K 102), .ref (K 89), iv (m 10)]
def fo1 (K : Nat → Nat) (m : Nat → Int) : List Value := [.ref (K 8), .ref (K 9), .ref (K 10), .ref (K 11), .ref (K 12), .ref (K 13), .ref (K 14), iv (m 7), iv (m 8), iv (m 9), iv (m 10)]
def fo2 (K : Nat → Nat) (m : Nat → Int) : List Value := [.ref (K 1), .ref (K 23), .ref (K 25), .ref (K 27), .ref (K 29), .ref (K 31), .ref (K 33), .ref (K 103), iv (m 8), iv (m 9), iv (m 10), iv (m 11), iv (m 12)]
def fo3 (K : Nat → Nat) (m : Nat → Int) : List Value := [.ref (K 2), .ref (K 35), .ref (K 37), .ref (K 39), .ref (K 41), .ref (K 21), iv (m 6)]
def fo4 (K : Nat → Nat) (m : Nat → Int) : List Value := [.ref (K 1), .ref (K 43), .ref (K 45), .ref (K 47), .ref (K 49), .ref (K 51), .ref (K 53), .ref (K 55), .ref (K 57), .ref (K 59), .ref (K 61), .ref (K 63), .ref (K 65), .ref (K 67), .ref (K 69), iv (m 15), iv (m 16), iv (m 17), iv (m 18), iv (m 19)]
def fo5 (K : Nat → Nat) (m : Nat → Int) : List Value := [.ref (K 1), .ref (K 2), .ref (K 3), .ref (K 4), .ref (K 7), .ref (K 15), .ref (K 16), iv (m 7), .ref (K 104), .ref (K 105), iv (m 10), .ref (K 17), .ref (K 18), iv (m 13), .ref (K 19), .ref (K 20), .ref (K 87), iv (m 17)]
def fo6 (K : Nat → Nat) (m : Nat → Int) : List Value := [.ref (K 1), .ref (K 2), .ref (K 22), iv (m 3), iv (m 4), iv (m 5), iv (m 6), iv (m 7), iv (m 8), iv (m 9), .ref (K 106), .ref (K 107), .ref (K 108), .ref (K 109), iv (m 14), .ref (K 110), .ref (K 111), .ref (K 112), iv (m 18)]
def fo7 (K : Nat → Nat) (m : Nat → Int) : List Value := [.ref (K 2), .ref (K 3), .ref (K 71), .ref (K 73), .ref (K 75), .ref (K 77), .ref (K 79), .ref (K 81), .ref (K 83), .ref (K 85), iv (m 10)]
def nbR (r : Nat) : Nat := [513, 1537, 513, 513, 513, 33, 513, 129, 129, 129, 129, 129, 385, 129, 129, 385, 129, 129, 129, 129, 129, 129, 129, 129, 129, 129, 129, 129, 129, 385, 17, 129, 513, 129].getD r 0
def we (K : Nat → Nat) (d : Nat → ClassId) (B : Nat → Nat → Option Nat) (m : Nat → Int) : Nat → va_E
  | 0 => .inr (11, fo0 K m)
  | 1 => .inr (7, fo1 K m)
  | 2 => .inr (8, fo2 K m)
  | 3 => .inr (10, fo3 K m)
  | 4 => .inr (2, fo4 K m)
  | 5 => .inr (9, fo5 K m)
  | 6 => .inr (5, fo6 K m)
  | 7 => .inr (1, fo7 K m)
  | 8 => .inl (d 1, 192, .inl (fun i => Int32.ofInt (m i)))
  | 9 => .inl (d 0, 24, .inl (fun i => Int32.ofInt (m i)))
  | 10 => .inl (d 0, 24, .inl (fun i => Int32.ofInt (m i)))
  | 11 => .inl (d 0, 24, .inl (fun i => Int32.ofInt (m i)))
  | 12 => .inl (d 0, 24, .inl (fun i => Int32.ofInt (m i)))
  | 13 => .inl (d 0, 24, .inl (fun i => Int32.ofInt (m i)))
  | 14 => .inl (d 2, 24, .inl (fun i => Int32.ofInt (m i)))
  | 15 => .inl (d 0, 30, .inl (fun i => Int32.ofInt (m i)))
  | 16 => .inl (d 0, 30, .inl (fun i => Int32.ofInt (m i)))
  | 17 => .inl (d 0, 8, .inl (fun i => Int32.ofInt (m i)))
  | 18 => .inl (d 0, 8, .inl (fun i => Int32.ofInt (m i)))
  | 19 => .inl (d 0, 30, .inl (fun i => Int32.ofInt (m i)))
  | 20 => .inl (d 0, 30, .inl (fun i => Int32.ofInt (m i)))
  | 21 => .inl (d 0, 256, .inl (fun i => Int32.ofInt (m i)))
  | 22 => .inl (d 1, 400, .inl (fun i => Int32.ofInt (m i)))
  | j + 23 => if j % 2 = 0 then .inr (6, [.ref (K (j + 24))]) else .inl (d 4, nbR (j / 2), .inr (.inr (.inr (.inr (B (j / 2))))))
def BA (LB : g_B) (r b : Nat) : Option Nat := (LB.find? (fun q => q.1 == r && q.2.1 == b)).map (fun q => q.2.2)
def bl (d : Nat → ClassId) (M : g_M) (LB : g_B) : va_W := LB.map (fun q => (q.2.2, .inl (d 0, 1024, .inl (fun i => Int32.ofInt (if i < 1024 then M q.1 (1024 * q.2.1 + i) else 0)))))
def fx (K : Nat → Nat) (d : Nat → ClassId) (M : g_M) (LB : g_B) : va_W := (List.range 91).map (fun j => (K j, we K d (BA LB) (M (40 + j)) j))
def wd (K : Nat → Nat) (d : Nat → ClassId) (L : va_W) (M : g_M) (LB : g_B) : va_W := fx K d M LB ++ (L ++ bl d M LB)
def g_wf (M : g_M) (LB : g_B) : Prop := (∀ q ∈ LB, q.1 < 34 ∧ q.2.1 < capB q.1) ∧ (LB.map (fun q => 64 * q.1 + q.2.1)).Nodup ∧ (∀ r i, r < 34 → BA LB r (i / 1024) = none → M r i = 0) ∧ 0 ≤ M 99 0 ∧ M 99 0 ≤ 1000
def nC (M : g_M) (LB : g_B) : Int := LB.length + M 99 0
def nS (M : g_M) (LB : g_B) : Int := 1024 * LB.length + 6 * M 99 0
def cC (M : g_M) (LB : g_B) : Nat := (3176 - nC M LB).toNat
def cS (M : g_M) (LB : g_B) : Nat := (2234224 - nS M LB).toNat
theorem nodup_len : ∀ (n : Nat) (l : List Nat), l.Nodup → (∀ x ∈ l, x < n) → l.length ≤ n
  | 0, [], _, _ => Nat.le_refl _
  | 0, x :: l, _, h => absurd (h x List.mem_cons_self) (Nat.not_lt_zero _)
  | n + 1, l, hn, h => by
    have h1 := nodup_len n (l.erase n) (hn.erase n) (fun x hx => by
      have h2 := (List.Nodup.mem_erase_iff hn).mp hx
      have h3 := h x h2.2
      have h4 := h2.1
      omega)
    rw [List.length_erase] at h1
    split at h1 <;> omega
theorem capB_le (r : Nat) : capB r ≤ 64 := by
  unfold capB
  split
  · decide
  · split <;> decide
theorem g_wf.len {M : g_M} {LB : g_B} (h : g_wf M LB) : LB.length ≤ 2176 := by
  have h1 := nodup_len 2176 _ h.2.1 (fun x hx => by
    obtain ⟨q, hq, rfl⟩ := List.mem_map.mp hx
    have h2 := h.1 q hq
    have h3 := capB_le q.1
    omega)
  simpa using h1
theorem g_wf.cap {M : g_M} {LB : g_B} (h : g_wf M LB) : 0 ≤ nC M LB ∧ nC M LB ≤ 3176 ∧ 0 ≤ nS M LB ∧ nS M LB ≤ 2234224 := by
  have h1 := h.len
  have h2 := h.2.2.2
  unfold nC nS
  omega
theorem fx_at (K : Nat → Nat) (d : Nat → ClassId) (L : va_W) (M : g_M) (LB : g_B) {j : Nat} (hj : j < 91) : (wd K d L M LB)[j]? = some (K j, we K d (BA LB) (M (40 + j)) j) := by
  unfold wd fx
  rw [List.getElem?_append_left (by simpa using hj), List.getElem?_map, List.getElem?_range hj]
  rfl
theorem fx_len (K : Nat → Nat) (d : Nat → ClassId) (M : g_M) (LB : g_B) : (fx K d M LB).length = 91 := by simp [fx]
theorem L_at (K : Nat → Nat) (d : Nat → ClassId) (L : va_W) (M : g_M) (LB : g_B) {j : Nat} (hj : j < L.length) : (wd K d L M LB)[91 + j]? = L[j]? := by
  unfold wd
  rw [List.getElem?_append_right (by rw [fx_len]; omega), fx_len, Nat.add_sub_cancel_left, List.getElem?_append_left hj]
theorem bl_at (K : Nat → Nat) (d : Nat → ClassId) (L : va_W) (M : g_M) (LB : g_B) (i : Nat) : (wd K d L M LB)[91 + (L.length + i)]? = (bl d M LB)[i]? := by
  unfold wd
  rw [List.getElem?_append_right (by rw [fx_len]; omega), fx_len, Nat.add_sub_cancel_left, List.getElem?_append_right (by omega), Nat.add_sub_cancel_left]
theorem we_row {K : Nat → Nat} {d : Nat → ClassId} {B : Nat → Nat → Option Nat} {m : Nat → Int} {r : Nat} : we K d B m (23 + 2 * r) = .inr (6, [.ref (K (24 + 2 * r))]) := by
  rw [show 23 + 2 * r = 2 * r + 23 by omega]
  show (if (2 * r) % 2 = 0 then _ else _) = _
  rw [if_pos (by omega), show 2 * r + 24 = 24 + 2 * r by omega]
theorem we_out {K : Nat → Nat} {d : Nat → ClassId} {B : Nat → Nat → Option Nat} {m : Nat → Int} {r : Nat} : we K d B m (24 + 2 * r) = .inl (d 4, nbR r, .inr (.inr (.inr (.inr (B r))))) := by
  rw [show 24 + 2 * r = (2 * r + 1) + 23 by omega]
  show (if (2 * r + 1) % 2 = 0 then _ else _) = _
  rw [if_neg (by omega), show (2 * r + 1) / 2 = r by omega]
/-- a cell of the fixed part is set anew -/
theorem wd_set {K : Nat → Nat} {d : Nat → ClassId} {L : va_W} {M M' : g_M} {LB : g_B} {j : Nat} {x : va_E} (hj : j < 91) (hx : we K d (BA LB) (M' (40 + j)) j = x) (ho : ∀ a, a ≠ 40 + j → M' a = M a) (hb : ∀ q ∈ LB, q.1 < 34) : (wd K d L M LB).set j (K j, x) = wd K d L M' LB := by
  unfold wd
  rw [List.set_append_left _ _ (by rw [fx_len]; exact hj)]
  have h1 : (fx K d M LB).set j (K j, x) = fx K d M' LB := by
    refine List.ext_getElem? (fun i => ?_)
    by_cases hi : i < 91
    · have e0 : ∀ N : g_M, (fx K d N LB)[i]? = some (K i, we K d (BA LB) (N (40 + i)) i) := fun N => by
        unfold fx
        rw [List.getElem?_map, List.getElem?_range hi]
        rfl
      by_cases hij : i = j
      · subst hij
        rw [List.getElem?_set_self (by rw [fx_len]; exact hi), e0, hx]
      · rw [List.getElem?_set_ne (Ne.symm hij), e0, e0, ho (40 + i) (by omega)]
    · rw [List.getElem?_eq_none (by rw [List.length_set, fx_len]; omega), List.getElem?_eq_none (by rw [fx_len]; omega)]
  have h2 : bl d M LB = bl d M' LB := by
    unfold bl
    refine List.map_congr_left (fun q hq => ?_)
    have h3 := hb q hq
    rw [ho q.1 (by omega)]
  rw [h1, h2]
theorem up_self (M : g_M) (a i : Nat) (v : Int) : up M a i v a i = v := by simp [up]
theorem up_ne {M : g_M} {a i b : Nat} {v : Int} (h : b ≠ a) : up M a i v b = M b := by
  funext j
  simp [up, h]
theorem up_row (M : g_M) (a i : Nat) (v : Int) : up M a i v a = fun j => if j = i then v else M a j := by
  funext j
  simp [up]
theorem ofInt_toInt (x : Int32) : Int32.ofInt x.toInt = x := Int32.ofInt_toInt x
theorem toInt_ofInt (x : Int) : (Int32.ofInt x).toInt = bm x := Int32.toInt_ofInt
theorem i_eq (x y : Int) : Int32.ofInt x = Int32.ofInt y ↔ bm x = bm y := by rw [← Int32.toInt_inj, toInt_ofInt, toInt_ofInt]
theorem i_lt (x y : Int) : Int32.ofInt x < Int32.ofInt y ↔ bm x < bm y := by rw [Int32.lt_iff_toInt_lt, toInt_ofInt, toInt_ofInt]
theorem i_ge (x y : Int) : Int32.ofInt y ≤ Int32.ofInt x ↔ ¬ bm x < bm y := by rw [Int32.le_iff_toInt_le, toInt_ofInt, toInt_ofInt]; omega
theorem i_zero : (0 : Int32) = Int32.ofInt 0 := by decide
theorem bm_zero : bm 0 = 0 := by decide
theorem bm_lt (x : Int) : -2147483648 ≤ bm x ∧ bm x < 2147483648 := by
  unfold bm
  have h1 := Int.le_bmod (x := x) (m := 4294967296) (by decide)
  have h2 := Int.bmod_lt (x := x) (m := 4294967296) (by decide)
  omega
theorem i_in {i : Int} {n : Nat} (h : inI i n) : vp_in (Int32.ofInt i) n := by
  unfold vp_in
  have h1 := h.1
  have h2 := h.2
  intro hh
  rcases hh with hh | hh
  · rw [i_zero, i_lt, bm_zero] at hh
    omega
  · rw [show (Int32.ofInt i).toNatClampNeg = (bm i).toNat by rw [← toInt_ofInt]; rfl] at hh
    omega
theorem i_nat (i : Int) : (Int32.ofInt i).toNatClampNeg = (bm i).toNat := by rw [← toInt_ofInt]; rfl
theorem i_bool {v : Int} (h : isB v) : narrow .boolean (iv v) = iv v ∧ fits .boolean (iv v) = true := by
  rcases h with rfl | rfl <;> exact ⟨by decide +kernel, by decide +kernel⟩
theorem i_byte {v : Int} (h : isY v) : narrow .byte (iv v) = iv v := by
  show Value.int (Int32.ofInt v).toInt8.toInt32 = Value.int (Int32.ofInt v)
  congr 1
  rw [← Int32.toInt_inj, Int8.toInt_toInt32, Int32.toInt_toInt8, toInt_ofInt]
  have h1 : bm v = v := by unfold bm; exact Int.bmod_eq_of_le (by have := h.1; omega) (by have := h.2; omega)
  rw [h1]
  exact Int.bmod_eq_of_le (by have := h.1; omega) (by have := h.2; omega)
end XA
section XB
def XH (D : va_G) (d : Nat → ClassId) (K : Nat → Nat) (A : Nat → Prop) (s : State) (zc zs : Int) (L : va_W) (M : g_M) (LB : g_B) (H : Heap) (locs : List Loc) : Prop :=
  g_wf M LB ∧ va_P D gCl (wd K d L M LB) H ∧ va_D A (wd K d L M LB) ∧ va_S A s.heap H locs ∧ (H.size : Int) ≤ zc + nC M LB ∧ (TOT H : Int) ≤ zs + nS M LB
def X (p : Program) (l : Launch) (e : Env) (R : Room) (s : State) (m : MethodId) (args : Array Value) (below : List Frame) (meth : Method) (c : Code) (Q : State → Prop) (D : va_G) (d : Nat → ClassId) (K : Nat → Nat) (A : Nat → Prop) (nL : Nat) (zc zs : Int) (L : va_W) (M : g_M) (lv : List (Nat × Value)) (pc : Nat) (st : List Value) : Prop :=
  ∀ (H : Heap) (locs : List Loc) (ls : Array Slot) (LB : g_B), XH D d K A s zc zs L M LB H locs → lv_has ls nL lv → W p l e R s m args below meth c H locs R.cells R.slots Q (F0 m pc ls st)
def XC (p : Program) (R : Room) (s : State) (m : MethodId) (args : Array Value) (c : Code) (D : va_G) (d : Nat → ClassId) (A : Nat → Prop) (cc : ByteArray) (nL : Nat) (own : String) (lvl : Nat) (zc zs : Int) : Prop :=
  VC p s m args c D d A cc nL own ∧ g_ex A s ∧ lvl + 6 ≤ R.frames ∧ 150 + 50 * lvl ≤ R.locals ∧ zc + 3176 - s.heap.size ≤ R.cells ∧ zs + 2234224 - TOT s.heap ≤ R.slots
variable {p : Program} {l : Launch} {e : Env} {R : Room} {s : State} {m : MethodId} {args : Array Value} {below : List Frame} {meth : Method} {c : Code} {Q : State → Prop} {D : va_G} {d : Nat → ClassId} {K : Nat → Nat} {A : Nat → Prop} {cc : ByteArray} {nL lvl : Nat} {own : String} {zc zs : Int} {L : va_W} {M : g_M} {lv : List (Nat × Value)} {pc : Nat} {st : List Value}

theorem x_lv {lv' : List (Nat × Value)} (ks : List Nat) (h : lv_pick lv ks = lv') (k : X p l e R s m args below meth c Q D d K A nL zc zs L M lv' pc st) : X p l e R s m args below meth c Q D d K A nL zc zs L M lv pc st := fun H locs ls LB hh hl => k H locs ls LB hh (lv_sub hl ks h)
theorem x_iconst (C : XC p R s m args c D d A cc nL own lvl zc zs) {n : Int} (dg : decode cc pc = .ok (.iconst n, 1)) (k : X p l e R s m args below meth c Q D d K A nL zc zs L M lv (pc + 1) (iv n :: st)) : X p l e R s m args below meth c Q D d K A nL zc zs L M lv pc st := fun H locs ls LB hh hl => lv_iconst C.1.1 C.1.2.1 dg rfl (k H locs ls LB hh hl)
theorem x_bipush (C : XC p R s m args c D d A cc nL own lvl zc zs) {n : Int} (h1 : -128 ≤ n) (h2 : n ≤ 127) (dg : decode cc pc = .ok (.bipush n, 2)) (k : X p l e R s m args below meth c Q D d K A nL zc zs L M lv (pc + 2) (iv n :: st)) : X p l e R s m args below meth c Q D d K A nL zc zs L M lv pc st := fun H locs ls LB hh hl => lv_bipush C.1.1 C.1.2.1 dg (by
  rw [← Int32.toInt_inj, Int8.toInt_toInt32, Int8.toInt_ofInt, toInt_ofInt]
  unfold bm
  rw [Int.bmod_eq_of_le (by simp only [Int8.size, Int16.size]; omega) (by simp only [Int8.size, Int16.size]; omega)]
  exact (Int.bmod_eq_of_le (by omega) (by omega)).symm) (k H locs ls LB hh hl)
theorem x_sipush (C : XC p R s m args c D d A cc nL own lvl zc zs) {n : Int} (h1 : -32768 ≤ n) (h2 : n ≤ 32767) (dg : decode cc pc = .ok (.sipush n, 3)) (k : X p l e R s m args below meth c Q D d K A nL zc zs L M lv (pc + 3) (iv n :: st)) : X p l e R s m args below meth c Q D d K A nL zc zs L M lv pc st := fun H locs ls LB hh hl => lv_sipush C.1.1 C.1.2.1 dg (by
  rw [← Int32.toInt_inj, Int16.toInt_toInt32, Int16.toInt_ofInt, toInt_ofInt]
  unfold bm
  rw [Int.bmod_eq_of_le (by simp only [Int8.size, Int16.size]; omega) (by simp only [Int8.size, Int16.size]; omega)]
  exact (Int.bmod_eq_of_le (by omega) (by omega)).symm) (k H locs ls LB hh hl)
theorem x_ldc (C : XC p R s m args c D d A cc nL own lvl zc zs) {n : Int} {i : Nat} (hc : Cond.constant own i (Int32.ofInt n) ∈ gW) (dg : decode cc pc = .ok (.ldc i, 2)) (k : X p l e R s m args below meth c Q D d K A nL zc zs L M lv (pc + 2) (iv n :: st)) : X p l e R s m args below meth c Q D d K A nL zc zs L M lv pc st := fun H locs ls LB hh hl => lv_ldc C.1.1 C.1.2.1 C.1.2.2.2.1 (C.1.2.2.2.2.1 _ hc) dg (k H locs ls LB hh hl)
theorem x_iload_n (C : XC p R s m args c D d A cc nL own lvl zc zs) {j : Fin 4} {i : Nat} {x : Int32} (dg : decode cc pc = .ok (.iload_n j, 1)) (hi : (j : Nat) = i) (q : Nat) (hq : lv[q]? = some (i, .int x)) (k : X p l e R s m args below meth c Q D d K A nL zc zs L M lv (pc + 1) (.int x :: st)) : X p l e R s m args below meth c Q D d K A nL zc zs L M lv pc st := fun H locs ls LB hh hl => lv_iload_n C.1.1 C.1.2.1 dg hi (lv_at hl q hq) (k H locs ls LB hh hl)
theorem x_iload (C : XC p R s m args c D d A cc nL own lvl zc zs) {i : Nat} {x : Int32} (dg : decode cc pc = .ok (.iload i, 2)) (q : Nat) (hq : lv[q]? = some (i, .int x)) (k : X p l e R s m args below meth c Q D d K A nL zc zs L M lv (pc + 2) (.int x :: st)) : X p l e R s m args below meth c Q D d K A nL zc zs L M lv pc st := fun H locs ls LB hh hl => lv_iload C.1.1 C.1.2.1 dg (lv_at hl q hq) (k H locs ls LB hh hl)
theorem x_aload_n (C : XC p R s m args c D d A cc nL own lvl zc zs) {j : Fin 4} {i : Nat} {x : Nat} (dg : decode cc pc = .ok (.aload_n j, 1)) (hi : (j : Nat) = i) (q : Nat) (hq : lv[q]? = some (i, .ref x)) (k : X p l e R s m args below meth c Q D d K A nL zc zs L M lv (pc + 1) (.ref x :: st)) : X p l e R s m args below meth c Q D d K A nL zc zs L M lv pc st := fun H locs ls LB hh hl => lv_aload_n C.1.1 C.1.2.1 dg hi (lv_at hl q hq) (k H locs ls LB hh hl)
theorem x_aload (C : XC p R s m args c D d A cc nL own lvl zc zs) {i : Nat} {x : Nat} (dg : decode cc pc = .ok (.aload i, 2)) (q : Nat) (hq : lv[q]? = some (i, .ref x)) (k : X p l e R s m args below meth c Q D d K A nL zc zs L M lv (pc + 2) (.ref x :: st)) : X p l e R s m args below meth c Q D d K A nL zc zs L M lv pc st := fun H locs ls LB hh hl => lv_aload C.1.1 C.1.2.1 dg (lv_at hl q hq) (k H locs ls LB hh hl)
theorem x_istore_n (C : XC p R s m args c D d A cc nL own lvl zc zs) {j : Fin 4} {i : Nat} {x : Int32} (dg : decode cc pc = .ok (.istore_n j, 1)) (hi : (j : Nat) = i) (hn : i < nL) (lv' : List (Nat × Value)) (he : (i, Value.int x) :: lv.filter (fun q => !(q.1 == i) && !(q.1 + 1 == i && q.2.category == 2)) = lv') (k : X p l e R s m args below meth c Q D d K A nL zc zs L M lv' (pc + 1) st) : X p l e R s m args below meth c Q D d K A nL zc zs L M lv pc (.int x :: st) := fun H locs ls LB hh hl => lv_istore_n C.1.1 C.1.2.1 dg hi hl hn he (fun ls' hl' => k H locs ls' LB hh hl')
theorem x_istore (C : XC p R s m args c D d A cc nL own lvl zc zs) {i : Nat} {x : Int32} (dg : decode cc pc = .ok (.istore i, 2)) (hn : i < nL) (lv' : List (Nat × Value)) (he : (i, Value.int x) :: lv.filter (fun q => !(q.1 == i) && !(q.1 + 1 == i && q.2.category == 2)) = lv') (k : X p l e R s m args below meth c Q D d K A nL zc zs L M lv' (pc + 2) st) : X p l e R s m args below meth c Q D d K A nL zc zs L M lv pc (.int x :: st) := fun H locs ls LB hh hl => lv_istore C.1.1 C.1.2.1 dg hl hn he (fun ls' hl' => k H locs ls' LB hh hl')
theorem x_astore_n (C : XC p R s m args c D d A cc nL own lvl zc zs) {j : Fin 4} {i : Nat} {x : Nat} (dg : decode cc pc = .ok (.astore_n j, 1)) (hi : (j : Nat) = i) (hn : i < nL) (lv' : List (Nat × Value)) (he : (i, Value.ref x) :: lv.filter (fun q => !(q.1 == i) && !(q.1 + 1 == i && q.2.category == 2)) = lv') (k : X p l e R s m args below meth c Q D d K A nL zc zs L M lv' (pc + 1) st) : X p l e R s m args below meth c Q D d K A nL zc zs L M lv pc (.ref x :: st) := fun H locs ls LB hh hl => lv_astore_n C.1.1 C.1.2.1 dg hi hl hn he (fun ls' hl' => k H locs ls' LB hh hl')
theorem x_astore (C : XC p R s m args c D d A cc nL own lvl zc zs) {i : Nat} {x : Nat} (dg : decode cc pc = .ok (.astore i, 2)) (hn : i < nL) (lv' : List (Nat × Value)) (he : (i, Value.ref x) :: lv.filter (fun q => !(q.1 == i) && !(q.1 + 1 == i && q.2.category == 2)) = lv') (k : X p l e R s m args below meth c Q D d K A nL zc zs L M lv' (pc + 2) st) : X p l e R s m args below meth c Q D d K A nL zc zs L M lv pc (.ref x :: st) := fun H locs ls LB hh hl => lv_astore C.1.1 C.1.2.1 dg hl hn he (fun ls' hl' => k H locs ls' LB hh hl')
theorem x_iinc (C : XC p R s m args c D d A cc nL own lvl zc zs) {i : Nat} {n x : Int} (dg : decode cc pc = .ok (.iinc i n, 3)) (q : Nat) (hq : lv[q]? = some (i, iv x)) (hn : i < nL) (lv' : List (Nat × Value)) (he : (i, iv (x + n)) :: lv.filter (fun q => !(q.1 == i) && !(q.1 + 1 == i && q.2.category == 2)) = lv') (k : X p l e R s m args below meth c Q D d K A nL zc zs L M lv' (pc + 3) st) : X p l e R s m args below meth c Q D d K A nL zc zs L M lv pc st := fun H locs ls LB hh hl => lv_iinc C.1.1 C.1.2.1 dg hl (k := q) hq (Int32.ofInt_add x n).symm hn he (fun ls' hl' => k H locs ls' LB hh hl')
theorem x_iadd (C : XC p R s m args c D d A cc nL own lvl zc zs) {x y : Int} (dg : decode cc pc = .ok (.iadd, 1)) (k : X p l e R s m args below meth c Q D d K A nL zc zs L M lv (pc + 1) (iv (x + y) :: st)) : X p l e R s m args below meth c Q D d K A nL zc zs L M lv pc (iv y :: iv x :: st) := fun H locs ls LB hh hl => lv_iadd C.1.1 C.1.2.1 dg (by have h := k H locs ls LB hh hl; unfold iv at h; rw [Int32.ofInt_add x y] at h; exact h)
theorem x_isub (C : XC p R s m args c D d A cc nL own lvl zc zs) {x y : Int} (dg : decode cc pc = .ok (.isub, 1)) (k : X p l e R s m args below meth c Q D d K A nL zc zs L M lv (pc + 1) (iv (x - y) :: st)) : X p l e R s m args below meth c Q D d K A nL zc zs L M lv pc (iv y :: iv x :: st) := fun H locs ls LB hh hl => lv_isub C.1.1 C.1.2.1 dg (by have h := k H locs ls LB hh hl; unfold iv at h; rw [Int32.ofInt_sub x y] at h; exact h)
theorem x_imul (C : XC p R s m args c D d A cc nL own lvl zc zs) {x y : Int} (dg : decode cc pc = .ok (.imul, 1)) (k : X p l e R s m args below meth c Q D d K A nL zc zs L M lv (pc + 1) (iv (x * y) :: st)) : X p l e R s m args below meth c Q D d K A nL zc zs L M lv pc (iv y :: iv x :: st) := fun H locs ls LB hh hl => lv_imul C.1.1 C.1.2.1 dg (by have h := k H locs ls LB hh hl; unfold iv at h; rw [Int32.ofInt_mul x y] at h; exact h)
theorem x_iand (C : XC p R s m args c D d A cc nL own lvl zc zs) {x y : Int} (dg : decode cc pc = .ok (.iand, 1)) (k : X p l e R s m args below meth c Q D d K A nL zc zs L M lv (pc + 1) (iv (iand x y) :: st)) : X p l e R s m args below meth c Q D d K A nL zc zs L M lv pc (iv y :: iv x :: st) := fun H locs ls LB hh hl => lv_iand C.1.1 C.1.2.1 dg (by have h := k H locs ls LB hh hl; unfold iv iand at h; rw [ofInt_toInt] at h; exact h)
theorem x_ior (C : XC p R s m args c D d A cc nL own lvl zc zs) {x y : Int} (dg : decode cc pc = .ok (.ior, 1)) (k : X p l e R s m args below meth c Q D d K A nL zc zs L M lv (pc + 1) (iv (ior x y) :: st)) : X p l e R s m args below meth c Q D d K A nL zc zs L M lv pc (iv y :: iv x :: st) := fun H locs ls LB hh hl => lv_ior C.1.1 C.1.2.1 dg (by have h := k H locs ls LB hh hl; unfold iv ior at h; rw [ofInt_toInt] at h; exact h)
theorem x_ixor (C : XC p R s m args c D d A cc nL own lvl zc zs) {x y : Int} (dg : decode cc pc = .ok (.ixor, 1)) (k : X p l e R s m args below meth c Q D d K A nL zc zs L M lv (pc + 1) (iv (ixor x y) :: st)) : X p l e R s m args below meth c Q D d K A nL zc zs L M lv pc (iv y :: iv x :: st) := fun H locs ls LB hh hl => lv_ixor C.1.1 C.1.2.1 dg (by have h := k H locs ls LB hh hl; unfold iv ixor at h; rw [ofInt_toInt] at h; exact h)
theorem x_ishl (C : XC p R s m args c D d A cc nL own lvl zc zs) {x y : Int} (dg : decode cc pc = .ok (.ishl, 1)) (k : X p l e R s m args below meth c Q D d K A nL zc zs L M lv (pc + 1) (iv (ishl x y) :: st)) : X p l e R s m args below meth c Q D d K A nL zc zs L M lv pc (iv y :: iv x :: st) := fun H locs ls LB hh hl => lv_ishl C.1.1 C.1.2.1 dg (by have h := k H locs ls LB hh hl; unfold iv ishl at h; rw [ofInt_toInt] at h; exact h)
theorem x_ishr (C : XC p R s m args c D d A cc nL own lvl zc zs) {x y : Int} (dg : decode cc pc = .ok (.ishr, 1)) (k : X p l e R s m args below meth c Q D d K A nL zc zs L M lv (pc + 1) (iv (ishr x y) :: st)) : X p l e R s m args below meth c Q D d K A nL zc zs L M lv pc (iv y :: iv x :: st) := fun H locs ls LB hh hl => lv_ishr C.1.1 C.1.2.1 dg (by have h := k H locs ls LB hh hl; unfold iv ishr at h; rw [ofInt_toInt] at h; exact h)
theorem x_iushr (C : XC p R s m args c D d A cc nL own lvl zc zs) {x y : Int} (dg : decode cc pc = .ok (.iushr, 1)) (k : X p l e R s m args below meth c Q D d K A nL zc zs L M lv (pc + 1) (iv (iushr x y) :: st)) : X p l e R s m args below meth c Q D d K A nL zc zs L M lv pc (iv y :: iv x :: st) := fun H locs ls LB hh hl => lv_iushr C.1.1 C.1.2.1 dg rfl (by have h := k H locs ls LB hh hl; unfold iv iushr at h; rw [ofInt_toInt] at h; exact h)
theorem x_idiv (C : XC p R s m args c D d A cc nL own lvl zc zs) {x y : Int} (dg : decode cc pc = .ok (.idiv, 1)) (hn : bm y ≠ 0) (k : X p l e R s m args below meth c Q D d K A nL zc zs L M lv (pc + 1) (iv (idiv x y) :: st)) : X p l e R s m args below meth c Q D d K A nL zc zs L M lv pc (iv y :: iv x :: st) := fun H locs ls LB hh hl => lv_idiv C.1.1 C.1.2.1 dg (fun h => hn (by rw [← bm_zero, ← i_eq]; exact h)) (by have h := k H locs ls LB hh hl; unfold iv idiv at h; rw [ofInt_toInt] at h; exact h)
theorem x_irem (C : XC p R s m args c D d A cc nL own lvl zc zs) {x y : Int} (dg : decode cc pc = .ok (.irem, 1)) (hn : bm y ≠ 0) (k : X p l e R s m args below meth c Q D d K A nL zc zs L M lv (pc + 1) (iv (irem x y) :: st)) : X p l e R s m args below meth c Q D d K A nL zc zs L M lv pc (iv y :: iv x :: st) := fun H locs ls LB hh hl => lv_irem C.1.1 C.1.2.1 dg (fun h => hn (by rw [← bm_zero, ← i_eq]; exact h)) (by have h := k H locs ls LB hh hl; unfold iv irem at h; rw [ofInt_toInt] at h; exact h)
theorem x_i2b (C : XC p R s m args c D d A cc nL own lvl zc zs) {x : Int} (dg : decode cc pc = .ok (.i2b, 1)) (k : X p l e R s m args below meth c Q D d K A nL zc zs L M lv (pc + 1) (iv (i2b x) :: st)) : X p l e R s m args below meth c Q D d K A nL zc zs L M lv pc (iv x :: st) := fun H locs ls LB hh hl => lv_i2b C.1.1 C.1.2.1 dg rfl (by have h := k H locs ls LB hh hl; unfold iv i2b at h; rw [ofInt_toInt] at h; exact h)
theorem x_dup (C : XC p R s m args c D d A cc nL own lvl zc zs) {va : Value} (dg : decode cc pc = .ok (.dup, 1)) (hva : va.category = 1) (k : X p l e R s m args below meth c Q D d K A nL zc zs L M lv (pc + 1) (va :: va :: st)) : X p l e R s m args below meth c Q D d K A nL zc zs L M lv pc (va :: st) := fun H locs ls LB hh hl => lv_dup C.1.1 C.1.2.1 dg hva (k H locs ls LB hh hl)
theorem x_dup2 (C : XC p R s m args c D d A cc nL own lvl zc zs) {va vb : Value} (dg : decode cc pc = .ok (.dup2, 1)) (hva : va.category = 1) (hvb : vb.category = 1) (k : X p l e R s m args below meth c Q D d K A nL zc zs L M lv (pc + 1) (va :: vb :: va :: vb :: st)) : X p l e R s m args below meth c Q D d K A nL zc zs L M lv pc (va :: vb :: st) := fun H locs ls LB hh hl => lv_dup2_11 C.1.1 C.1.2.1 dg hva hvb (k H locs ls LB hh hl)
theorem x_pop (C : XC p R s m args c D d A cc nL own lvl zc zs) {va : Value} (dg : decode cc pc = .ok (.pop, 1)) (hva : va.category = 1) (k : X p l e R s m args below meth c Q D d K A nL zc zs L M lv (pc + 1) st) : X p l e R s m args below meth c Q D d K A nL zc zs L M lv pc (va :: st) := fun H locs ls LB hh hl => lv_pop C.1.1 C.1.2.1 dg hva (k H locs ls LB hh hl)
theorem x_goto (C : XC p R s m args c D d A cc nL own lvl zc zs) {off : Int} (tgt : Nat) (dg : decode cc pc = .ok (.goto off, 3)) (ht : (pc : Int) + off = (tgt : Int)) (k : X p l e R s m args below meth c Q D d K A nL zc zs L M lv tgt st) : X p l e R s m args below meth c Q D d K A nL zc zs L M lv pc st := fun H locs ls LB hh hl => lv_goto C.1.1 C.1.2.1 dg ht (k H locs ls LB hh hl)
theorem x_if_eq (C : XC p R s m args c D d A cc nL own lvl zc zs) {x : Int} {off : Int} (tgt : Nat) (dg : decode cc pc = .ok (.ifCond .eq off, 3)) (ht : (pc : Int) + off = (tgt : Int)) (k1 : bm x = 0 → X p l e R s m args below meth c Q D d K A nL zc zs L M lv tgt st) (k2 : ¬ bm x = 0 → X p l e R s m args below meth c Q D d K A nL zc zs L M lv (pc + 3) st) : X p l e R s m args below meth c Q D d K A nL zc zs L M lv pc (iv x :: st) := by
  intro H locs ls LB hh hl
  refine lv_if_eq C.1.1 C.1.2.1 dg ht (fun h => ?_) (fun h => ?_)
  · exact k1 (by
    have h9 := (i_eq x 0)
    rw [bm_zero] at h9
    rw [i_zero] at h
    exact h9.mp h) H locs ls LB hh hl
  · exact k2 (by
    have h9 := (i_eq x 0)
    rw [bm_zero] at h9
    rw [i_zero] at h
    exact fun q => h (h9.mpr q)) H locs ls LB hh hl
theorem x_icmp_eq (C : XC p R s m args c D d A cc nL own lvl zc zs) {x y : Int} {off : Int} (tgt : Nat) (dg : decode cc pc = .ok (.if_icmp .eq off, 3)) (ht : (pc : Int) + off = (tgt : Int)) (k1 : bm x = bm y → X p l e R s m args below meth c Q D d K A nL zc zs L M lv tgt st) (k2 : ¬ bm x = bm y → X p l e R s m args below meth c Q D d K A nL zc zs L M lv (pc + 3) st) : X p l e R s m args below meth c Q D d K A nL zc zs L M lv pc (iv y :: iv x :: st) := by
  intro H locs ls LB hh hl
  refine lv_icmp_eq C.1.1 C.1.2.1 dg ht (fun h => ?_) (fun h => ?_)
  · exact k1 (by
    have h9 := (i_eq x y)
    exact h9.mp h) H locs ls LB hh hl
  · exact k2 (by
    have h9 := (i_eq x y)
    exact fun q => h (h9.mpr q)) H locs ls LB hh hl
theorem x_if_ne (C : XC p R s m args c D d A cc nL own lvl zc zs) {x : Int} {off : Int} (tgt : Nat) (dg : decode cc pc = .ok (.ifCond .ne off, 3)) (ht : (pc : Int) + off = (tgt : Int)) (k1 : bm x = 0 → X p l e R s m args below meth c Q D d K A nL zc zs L M lv (pc + 3) st) (k2 : ¬ bm x = 0 → X p l e R s m args below meth c Q D d K A nL zc zs L M lv tgt st) : X p l e R s m args below meth c Q D d K A nL zc zs L M lv pc (iv x :: st) := by
  intro H locs ls LB hh hl
  refine lv_if_ne C.1.1 C.1.2.1 dg ht (fun h => ?_) (fun h => ?_)
  · exact k2 (by
    have h9 := (i_eq x 0)
    rw [bm_zero] at h9
    rw [i_zero] at h
    exact fun q => h (h9.mpr q)) H locs ls LB hh hl
  · exact k1 (by
    have h9 := (i_eq x 0)
    rw [bm_zero] at h9
    rw [i_zero] at h
    exact Classical.byContradiction (fun q => by first | exact h (fun q2 => q (h9.mp q2)) | exact q (h9.mp h) | exact absurd h (fun q2 => q (h9.mp q2)))) H locs ls LB hh hl
theorem x_icmp_ne (C : XC p R s m args c D d A cc nL own lvl zc zs) {x y : Int} {off : Int} (tgt : Nat) (dg : decode cc pc = .ok (.if_icmp .ne off, 3)) (ht : (pc : Int) + off = (tgt : Int)) (k1 : bm x = bm y → X p l e R s m args below meth c Q D d K A nL zc zs L M lv (pc + 3) st) (k2 : ¬ bm x = bm y → X p l e R s m args below meth c Q D d K A nL zc zs L M lv tgt st) : X p l e R s m args below meth c Q D d K A nL zc zs L M lv pc (iv y :: iv x :: st) := by
  intro H locs ls LB hh hl
  refine lv_icmp_ne C.1.1 C.1.2.1 dg ht (fun h => ?_) (fun h => ?_)
  · exact k2 (by
    have h9 := (i_eq x y)
    exact fun q => h (h9.mpr q)) H locs ls LB hh hl
  · exact k1 (by
    have h9 := (i_eq x y)
    exact Classical.byContradiction (fun q => by first | exact h (fun q2 => q (h9.mp q2)) | exact q (h9.mp h) | exact absurd h (fun q2 => q (h9.mp q2)))) H locs ls LB hh hl
theorem x_if_lt (C : XC p R s m args c D d A cc nL own lvl zc zs) {x : Int} {off : Int} (tgt : Nat) (dg : decode cc pc = .ok (.ifCond .lt off, 3)) (ht : (pc : Int) + off = (tgt : Int)) (k1 : bm x < 0 → X p l e R s m args below meth c Q D d K A nL zc zs L M lv tgt st) (k2 : ¬ bm x < 0 → X p l e R s m args below meth c Q D d K A nL zc zs L M lv (pc + 3) st) : X p l e R s m args below meth c Q D d K A nL zc zs L M lv pc (iv x :: st) := by
  intro H locs ls LB hh hl
  refine lv_if_lt C.1.1 C.1.2.1 dg ht (fun h => ?_) (fun h => ?_)
  · exact k1 (by
    have h9 := (i_lt x 0)
    rw [bm_zero] at h9
    rw [i_zero] at h
    exact h9.mp h) H locs ls LB hh hl
  · exact k2 (by
    have h9 := (i_lt x 0)
    rw [bm_zero] at h9
    rw [i_zero] at h
    exact fun q => h (h9.mpr q)) H locs ls LB hh hl
theorem x_icmp_lt (C : XC p R s m args c D d A cc nL own lvl zc zs) {x y : Int} {off : Int} (tgt : Nat) (dg : decode cc pc = .ok (.if_icmp .lt off, 3)) (ht : (pc : Int) + off = (tgt : Int)) (k1 : bm x < bm y → X p l e R s m args below meth c Q D d K A nL zc zs L M lv tgt st) (k2 : ¬ bm x < bm y → X p l e R s m args below meth c Q D d K A nL zc zs L M lv (pc + 3) st) : X p l e R s m args below meth c Q D d K A nL zc zs L M lv pc (iv y :: iv x :: st) := by
  intro H locs ls LB hh hl
  refine lv_icmp_lt C.1.1 C.1.2.1 dg ht (fun h => ?_) (fun h => ?_)
  · exact k1 (by
    have h9 := (i_lt x y)
    exact h9.mp h) H locs ls LB hh hl
  · exact k2 (by
    have h9 := (i_lt x y)
    exact fun q => h (h9.mpr q)) H locs ls LB hh hl
theorem x_if_ge (C : XC p R s m args c D d A cc nL own lvl zc zs) {x : Int} {off : Int} (tgt : Nat) (dg : decode cc pc = .ok (.ifCond .ge off, 3)) (ht : (pc : Int) + off = (tgt : Int)) (k1 : bm x < 0 → X p l e R s m args below meth c Q D d K A nL zc zs L M lv (pc + 3) st) (k2 : ¬ bm x < 0 → X p l e R s m args below meth c Q D d K A nL zc zs L M lv tgt st) : X p l e R s m args below meth c Q D d K A nL zc zs L M lv pc (iv x :: st) := by
  intro H locs ls LB hh hl
  refine lv_if_ge C.1.1 C.1.2.1 dg ht (fun h => ?_) (fun h => ?_)
  · exact k2 (by
    have h9 := (i_ge x 0)
    rw [bm_zero] at h9
    rw [i_zero] at h
    exact h9.mp h) H locs ls LB hh hl
  · exact k1 (by
    have h9 := (i_ge x 0)
    rw [bm_zero] at h9
    rw [i_zero] at h
    exact Classical.byContradiction (fun q => h (h9.mpr q))) H locs ls LB hh hl
theorem x_icmp_ge (C : XC p R s m args c D d A cc nL own lvl zc zs) {x y : Int} {off : Int} (tgt : Nat) (dg : decode cc pc = .ok (.if_icmp .ge off, 3)) (ht : (pc : Int) + off = (tgt : Int)) (k1 : bm x < bm y → X p l e R s m args below meth c Q D d K A nL zc zs L M lv (pc + 3) st) (k2 : ¬ bm x < bm y → X p l e R s m args below meth c Q D d K A nL zc zs L M lv tgt st) : X p l e R s m args below meth c Q D d K A nL zc zs L M lv pc (iv y :: iv x :: st) := by
  intro H locs ls LB hh hl
  refine lv_icmp_ge C.1.1 C.1.2.1 dg ht (fun h => ?_) (fun h => ?_)
  · exact k2 (by
    have h9 := (i_ge x y)
    exact h9.mp h) H locs ls LB hh hl
  · exact k1 (by
    have h9 := (i_ge x y)
    exact Classical.byContradiction (fun q => h (h9.mpr q))) H locs ls LB hh hl
theorem x_if_gt (C : XC p R s m args c D d A cc nL own lvl zc zs) {x : Int} {off : Int} (tgt : Nat) (dg : decode cc pc = .ok (.ifCond .gt off, 3)) (ht : (pc : Int) + off = (tgt : Int)) (k1 : 0 < bm x → X p l e R s m args below meth c Q D d K A nL zc zs L M lv tgt st) (k2 : ¬ 0 < bm x → X p l e R s m args below meth c Q D d K A nL zc zs L M lv (pc + 3) st) : X p l e R s m args below meth c Q D d K A nL zc zs L M lv pc (iv x :: st) := by
  intro H locs ls LB hh hl
  refine lv_if_gt C.1.1 C.1.2.1 dg ht (fun h => ?_) (fun h => ?_)
  · exact k1 (by
    have h9 := (i_lt 0 x)
    rw [bm_zero] at h9
    rw [i_zero] at h
    exact h9.mp h) H locs ls LB hh hl
  · exact k2 (by
    have h9 := (i_lt 0 x)
    rw [bm_zero] at h9
    rw [i_zero] at h
    exact fun q => h (h9.mpr q)) H locs ls LB hh hl
theorem x_icmp_gt (C : XC p R s m args c D d A cc nL own lvl zc zs) {x y : Int} {off : Int} (tgt : Nat) (dg : decode cc pc = .ok (.if_icmp .gt off, 3)) (ht : (pc : Int) + off = (tgt : Int)) (k1 : bm y < bm x → X p l e R s m args below meth c Q D d K A nL zc zs L M lv tgt st) (k2 : ¬ bm y < bm x → X p l e R s m args below meth c Q D d K A nL zc zs L M lv (pc + 3) st) : X p l e R s m args below meth c Q D d K A nL zc zs L M lv pc (iv y :: iv x :: st) := by
  intro H locs ls LB hh hl
  refine lv_icmp_gt C.1.1 C.1.2.1 dg ht (fun h => ?_) (fun h => ?_)
  · exact k1 (by
    have h9 := (i_lt y x)
    exact h9.mp h) H locs ls LB hh hl
  · exact k2 (by
    have h9 := (i_lt y x)
    exact fun q => h (h9.mpr q)) H locs ls LB hh hl
theorem x_if_le (C : XC p R s m args c D d A cc nL own lvl zc zs) {x : Int} {off : Int} (tgt : Nat) (dg : decode cc pc = .ok (.ifCond .le off, 3)) (ht : (pc : Int) + off = (tgt : Int)) (k1 : 0 < bm x → X p l e R s m args below meth c Q D d K A nL zc zs L M lv (pc + 3) st) (k2 : ¬ 0 < bm x → X p l e R s m args below meth c Q D d K A nL zc zs L M lv tgt st) : X p l e R s m args below meth c Q D d K A nL zc zs L M lv pc (iv x :: st) := by
  intro H locs ls LB hh hl
  refine lv_if_le C.1.1 C.1.2.1 dg ht (fun h => ?_) (fun h => ?_)
  · exact k2 (by
    have h9 := (i_ge 0 x)
    rw [bm_zero] at h9
    rw [i_zero] at h
    exact h9.mp h) H locs ls LB hh hl
  · exact k1 (by
    have h9 := (i_ge 0 x)
    rw [bm_zero] at h9
    rw [i_zero] at h
    exact Classical.byContradiction (fun q => h (h9.mpr q))) H locs ls LB hh hl
theorem x_icmp_le (C : XC p R s m args c D d A cc nL own lvl zc zs) {x y : Int} {off : Int} (tgt : Nat) (dg : decode cc pc = .ok (.if_icmp .le off, 3)) (ht : (pc : Int) + off = (tgt : Int)) (k1 : bm y < bm x → X p l e R s m args below meth c Q D d K A nL zc zs L M lv (pc + 3) st) (k2 : ¬ bm y < bm x → X p l e R s m args below meth c Q D d K A nL zc zs L M lv tgt st) : X p l e R s m args below meth c Q D d K A nL zc zs L M lv pc (iv y :: iv x :: st) := by
  intro H locs ls LB hh hl
  refine lv_icmp_le C.1.1 C.1.2.1 dg ht (fun h => ?_) (fun h => ?_)
  · exact k2 (by
    have h9 := (i_ge y x)
    exact h9.mp h) H locs ls LB hh hl
  · exact k1 (by
    have h9 := (i_ge y x)
    exact Classical.byContradiction (fun q => h (h9.mpr q))) H locs ls LB hh hl
end XB
