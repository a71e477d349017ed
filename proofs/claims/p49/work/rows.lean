section
def bm (x : Int) : Int := Int.bmod x 4294967296
abbrev g_M : Type := Nat → Nat → Int
abbrev g_B : Type := List (Nat × Nat × Nat)
def up (M : g_M) (a i : Nat) (v : Int) : g_M := fun b j => if b = a ∧ j = i then v else M b j
def rg (M : g_M) (r : Nat) (i : Int) : Int := if bm i < 0 then 0 else M r (bm i).toNat
def rs (M : g_M) (r : Nat) (i v : Int) : g_M := up M r (bm i).toNat v
def capB (r : Nat) : Nat := if r = 5 then 32 else if r = 30 then 16 else 64
def okI (r : Nat) (i : Int) : Prop := 0 ≤ bm i ∧ bm i < 1024 * capB r
def inI (i : Int) (n : Nat) : Prop := 0 ≤ bm i ∧ bm i < (n : Int)
def isB (v : Int) : Prop := v = 0 ∨ v = 1
def isY (v : Int) : Prop := -128 ≤ v ∧ v ≤ 127
def idiv (a b : Int) : Int := (Int32.ofInt a / Int32.ofInt b).toInt
def irem (a b : Int) : Int := (Int32.ofInt a - Int32.ofInt a / Int32.ofInt b * Int32.ofInt b).toInt
def iand (a b : Int) : Int := (Int32.ofInt a &&& Int32.ofInt b).toInt
def ior (a b : Int) : Int := (Int32.ofInt a ||| Int32.ofInt b).toInt
def ixor (a b : Int) : Int := (Int32.ofInt a ^^^ Int32.ofInt b).toInt
def ishl (a b : Int) : Int := (Int32.ofInt a <<< (Int32.ofInt b &&& 31)).toInt
def ishr (a b : Int) : Int := (Int32.ofInt a >>> (Int32.ofInt b &&& 31)).toInt
def iushr (a b : Int) : Int := ((Int32.ofInt a).toUInt32 >>> ((Int32.ofInt b).toUInt32 &&& Int32.toUInt32 31)).toInt32.toInt
def i2b (a : Int) : Int := (Int32.ofInt a).toInt8.toInt32.toInt
def imax (a b : Int) : Int := if bm a < bm b then b else a
def imin (a b : Int) : Int := if bm b < bm a then b else a
end
section
def F_X5_length (Q : Int → g_M → Prop) (M : g_M) : Prop := Q (M 46 3) M
def F_X5_append_47 (Q : g_M → Prop) (k3 : Int → Int → g_M → Prop) (x1 x2 : Int) (M : g_M) : Prop := k3 x1 (x2 + (-8)) M
def F_X5_append_3 (Q : g_M → Prop) : Nat → Int → Int → g_M → Prop
  | 0 => fun _ _ _ => False
  | n + 1 => fun x1 x2 M => ((bm x2 < 0 → (Q M)) ∧ (¬ bm x2 < 0 → (((bm (M 46 3) < 0 → (F_X5_append_47 Q (F_X5_append_3 Q n) x1 x2 M)) ∧ (¬ bm (M 46 3) < 0 → (((bm (M 46 3) < bm 400 → ((inI (M 46 3) 400 ∧ F_X5_append_47 Q (F_X5_append_3 Q n) x1 x2 (up (up M 62 (bm (M 46 3)).toNat (i2b (i2b (ishr x1 x2)))) 46 3 (((up M 62 (bm (M 46 3)).toNat (i2b (i2b (ishr x1 x2)))) 46 3) + 1))))) ∧ (¬ bm (M 46 3) < bm 400 → (F_X5_append_47 Q (F_X5_append_3 Q n) x1 x2 M)))))))))
def F_X5_append (Q : g_M → Prop) (a1 : Int) (M : g_M) : Prop := ∃ n9, F_X5_append_3 Q n9 a1 24 M
def F_X11_feed (Q : Int → g_M → Prop) (a1 a2 a3 a4 a5 : Int) (M : g_M) : Prop := F_X5_length (fun v1 M1 => ((bm 400 < bm (v1 + 20) → (False)) ∧ (¬ bm 400 < bm (v1 + 20) → (F_X5_append (fun M3 => F_X5_append (fun M4 => F_X5_append (fun M5 => F_X5_append (fun M6 => F_X5_append (fun M7 => F_X5_length (fun v8 M8 => Q v8 M8) M7) a5 M6) a4 M5) a3 M4) a2 M3) a1 M1)))) M
def F_X5_shorten (Q : g_M → Prop) (a1 : Int) (M : g_M) : Prop := Q (up M 46 3 a1)
def F_X11_trim (Q : Int → g_M → Prop) (a1 : Int) (M : g_M) : Prop := ((bm a1 < 0 → (False)) ∧ (¬ bm a1 < 0 → (F_X5_length (fun v2 M2 => ((bm v2 < bm a1 → (False)) ∧ (¬ bm v2 < bm a1 → (F_X5_shorten (fun M4 => Q a1 M4) a1 M2)))) M)))
def F_X5_isLetter (Q : Int → g_M → Prop) (a1 : Int) (M : g_M) : Prop := ((bm a1 < bm 97 → (Q 0 M)) ∧ (¬ bm a1 < bm 97 → (((bm 122 < bm a1 → (Q 0 M)) ∧ (¬ bm 122 < bm a1 → (Q 1 M))))))
def F_X5_isNamePart (Q : Int → g_M → Prop) (a1 : Int) (M : g_M) : Prop := F_X5_isLetter (fun v1 M1 => ((bm v1 = 0 → (((bm a1 < bm 48 → (Q 0 M1)) ∧ (¬ bm a1 < bm 48 → (((bm 57 < bm a1 → (Q 0 M1)) ∧ (¬ bm 57 < bm a1 → (Q 1 M1)))))))) ∧ (¬ bm v1 = 0 → (Q 1 M1)))) a1 M
def F_X5_holdsName_34 (Q : Int → g_M → Prop) : Nat → Int → g_M → Prop
  | 0 => fun _ _ => False
  | n + 1 => fun x1 M => ((bm x1 < bm (M 46 3) → ((inI x1 400 ∧ F_X5_isNamePart (fun v6 M6 => ((bm v6 = 0 → (Q 0 M6)) ∧ (¬ bm v6 = 0 → (F_X5_holdsName_34 Q n (x1 + 1) M6)))) (M 62 (bm x1).toNat) M))) ∧ (¬ bm x1 < bm (M 46 3) → (Q 1 M)))
def F_X5_holdsName (Q : Int → g_M → Prop) (M : g_M) : Prop := ((bm (M 46 3) < bm 1 → (Q 0 M)) ∧ (¬ bm (M 46 3) < bm 1 → (((bm 8 < bm (M 46 3) → (Q 0 M)) ∧ (¬ bm 8 < bm (M 46 3) → ((inI 0 400 ∧ F_X5_isLetter (fun v3 M3 => ((bm v3 = 0 → (Q 0 M3)) ∧ (¬ bm v3 = 0 → (∃ n9, F_X5_holdsName_34 Q n9 1 M3)))) (M 62 (bm 0).toNat) M)))))))
def F_X7_nameLength (Q : Int → g_M → Prop) (a1 : Int) (M : g_M) : Prop := ((bm a1 < 0 → (Q 0 M)) ∧ (¬ bm a1 < 0 → (((bm a1 < bm (M 41 7) → ((inI a1 24 ∧ Q (M 49 (bm a1).toNat) M))) ∧ (¬ bm a1 < bm (M 41 7) → (Q 0 M))))))
def F_X7_nameByte_31 (Q : Int → g_M → Prop) (x1 x2 t0 : Int) (M : g_M) : Prop := ((bm t0 = 0 → (isY 0 ∧ Q 0 M)) ∧ (¬ bm t0 = 0 → ((inI ((x1 * 8) + x2) 192 ∧ isY (M 48 (bm ((x1 * 8) + x2)).toNat) ∧ Q (M 48 (bm ((x1 * 8) + x2)).toNat) M))))
def F_X7_nameByte_30 (Q : Int → g_M → Prop) (x1 x2 : Int) (M : g_M) : Prop := F_X7_nameByte_31 Q x1 x2 0 M
def F_X7_nameByte (Q : Int → g_M → Prop) (a1 a2 : Int) (M : g_M) : Prop := ((bm a1 < 0 → (F_X7_nameByte_30 Q a1 a2 M)) ∧ (¬ bm a1 < 0 → (((bm a1 < bm (M 41 7) → (((bm a2 < 0 → (F_X7_nameByte_30 Q a1 a2 M)) ∧ (¬ bm a2 < 0 → ((inI a1 24 ∧ ((bm a2 < bm (M 49 (bm a1).toNat) → (F_X7_nameByte_31 Q a1 a2 1 M)) ∧ (¬ bm a2 < bm (M 49 (bm a1).toNat) → (F_X7_nameByte_30 Q a1 a2 M))))))))) ∧ (¬ bm a1 < bm (M 41 7) → (F_X7_nameByte_30 Q a1 a2 M))))))
def F_X7_isNameAt_3 (Q : Int → g_M → Prop) : Nat → Int → Int → Int → g_M → Prop
  | 0 => fun _ _ _ _ => False
  | n + 1 => fun x1 x3 x4 M => F_X7_nameLength (fun v1 M1 => ((bm x4 < bm v1 → (((bm (x3 + x4) < 0 → (Q 0 M1)) ∧ (¬ bm (x3 + x4) < 0 → (((bm (x3 + x4) < bm 400 → ((inI (x3 + x4) 400 ∧ F_X7_nameByte (fun v5 M5 => ((bm (M1 62 (bm (x3 + x4)).toNat) = bm v5 → (F_X7_isNameAt_3 Q n x1 x3 (x4 + 1) M5)) ∧ (¬ bm (M1 62 (bm (x3 + x4)).toNat) = bm v5 → (Q 0 M5)))) x1 x4 M1))) ∧ (¬ bm (x3 + x4) < bm 400 → (Q 0 M1)))))))) ∧ (¬ bm x4 < bm v1 → (Q 1 M1)))) x1 M
def F_X7_isNameAt (Q : Int → g_M → Prop) (a1 a3 : Int) (M : g_M) : Prop := ∃ n9, F_X7_isNameAt_3 Q n9 a1 a3 0 M
def F_X7_find_62 (Q : Int → g_M → Prop) (k28 : Int → Int → Int → g_M → Prop) (x2 x3 x4 : Int) (M : g_M) : Prop := k28 x2 x3 (x4 + 1) M
def F_X7_find_28 (Q : Int → g_M → Prop) : Nat → Int → Int → Int → g_M → Prop
  | 0 => fun _ _ _ _ => False
  | n + 1 => fun x2 x3 x4 M => ((bm x4 < bm (M 41 7) → ((inI x4 24 ∧ ((bm (M 49 (bm x4).toNat) = bm x3 → (F_X7_isNameAt (fun v7 M7 => ((bm v7 = 0 → (F_X7_find_62 Q (F_X7_find_28 Q n) x2 x3 x4 M7)) ∧ (¬ bm v7 = 0 → (Q x4 M7)))) x4 x2 M)) ∧ (¬ bm (M 49 (bm x4).toNat) = bm x3 → (F_X7_find_62 Q (F_X7_find_28 Q n) x2 x3 x4 M)))))) ∧ (¬ bm x4 < bm (M 41 7) → (Q (-1) M)))
def F_X7_find (Q : Int → g_M → Prop) (a2 a3 : Int) (M : g_M) : Prop := ((bm a2 < 0 → (Q (-1) M)) ∧ (¬ bm a2 < 0 → (((bm a3 < bm 1 → (Q (-1) M)) ∧ (¬ bm a3 < bm 1 → (((bm 8 < bm a3 → (Q (-1) M)) ∧ (¬ bm 8 < bm a3 → (((bm 400 < bm (a2 + a3) → (Q (-1) M)) ∧ (¬ bm 400 < bm (a2 + a3) → (∃ n9, F_X7_find_28 Q n9 a2 a3 0 M))))))))))))
def F_X5_heldSymbol (Q : Int → g_M → Prop) (M : g_M) : Prop := F_X7_find (fun v1 M1 => Q v1 M1) 0 (M 46 3) M
def F_X5_drain (Q : Int → g_M → Prop) (M : g_M) : Prop := Q (M 46 3) (up M 46 3 0)
def F_X7_isFull (Q : Int → g_M → Prop) (M : g_M) : Prop := ((bm (M 41 7) < bm 24 → (Q 0 M)) ∧ (¬ bm (M 41 7) < bm 24 → (Q 1 M)))
def F_X7_add_32 (Q : Int → g_M → Prop) : Nat → Int → Int → Int → Int → Int → g_M → Prop
  | 0 => fun _ _ _ _ _ _ => False
  | n + 1 => fun x2 x3 x4 x5 x6 M => ((bm x6 < bm x2 → ((inI x6 400 ∧ (inI ((x5 * 8) + x6) 192 ∧ F_X7_add_32 Q n x2 x3 x4 x5 (x6 + 1) (up M 48 (bm ((x5 * 8) + x6)).toNat (i2b (M 62 (bm x6).toNat))))))) ∧ (¬ bm x6 < bm x2 → ((inI x5 24 ∧ (inI x5 24 ∧ (inI x5 24 ∧ (inI x5 24 ∧ (inI x5 24 ∧ Q x5 (up (up (up (up (up (up M 49 (bm x5).toNat x2) 50 (bm x5).toNat x3) 51 (bm x5).toNat x4) 52 (bm x5).toNat x5) 53 (bm x5).toNat (-1)) 41 7 (((up (up (up (up (up M 49 (bm x5).toNat x2) 50 (bm x5).toNat x3) 51 (bm x5).toNat x4) 52 (bm x5).toNat x5) 53 (bm x5).toNat (-1)) 41 7) + 1))))))))))
def F_X7_add (Q : Int → g_M → Prop) (a2 a3 a4 : Int) (M : g_M) : Prop := ((bm (M 41 7) < bm 24 → (((bm 8 < bm a2 → (Q (-1) M)) ∧ (¬ bm 8 < bm a2 → (((bm 400 < bm a2 → (Q (-1) M)) ∧ (¬ bm 400 < bm a2 → (∃ n9, F_X7_add_32 Q n9 a2 a3 a4 (M 41 7) 0 M)))))))) ∧ (¬ bm (M 41 7) < bm 24 → (Q (-1) M)))
def F_X11_declare (Q : Int → g_M → Prop) (a1 a2 : Int) (M : g_M) : Prop := F_X5_holdsName (fun v1 M1 => F_X5_heldSymbol (fun v2 M2 => F_X5_drain (fun v3 M3 => ((bm a1 < 0 → (False)) ∧ (¬ bm a1 < 0 → (((bm 3 < bm a1 → (False)) ∧ (¬ bm 3 < bm a1 → (((bm a2 < bm 1 → (False)) ∧ (¬ bm a2 < bm 1 → (((bm 9 < bm a2 → (False)) ∧ (¬ bm 9 < bm a2 → (((bm v1 = 0 → (False)) ∧ (¬ bm v1 = 0 → (((bm v2 = bm (-1) → (F_X7_isFull (fun v10 M10 => ((bm v10 = 0 → (F_X7_add (fun v12 M12 => Q v12 M12) v3 a1 a2 M10)) ∧ (¬ bm v10 = 0 → (False)))) M3)) ∧ (¬ bm v2 = bm (-1) → (False))))))))))))))))))) M2) M1) M
def F_X7_isOrderFixed (Q : Int → g_M → Prop) (M : g_M) : Prop := isB (M 41 10) ∧ Q (M 41 10) M
def F_X7_isByWeight (Q : Int → g_M → Prop) (M : g_M) : Prop := isB (M 41 9) ∧ Q (M 41 9) M
def F_X7_chooseOrder (Q : g_M → Prop) (a1 : Int) (M : g_M) : Prop := (isB a1 ∧ Q (up M 41 9 a1))
def F_X11_orderByWeight (Q : Int → g_M → Prop) (a1 : Int) (M : g_M) : Prop := F_X7_isOrderFixed (fun v1 M1 => ((bm v1 = 0 → (F_X7_isByWeight (fun v3 M3 => F_X7_chooseOrder (fun M4 => isB v3 ∧ Q v3 M4) a1 M3) M1)) ∧ (¬ bm v1 = 0 → (False)))) M
def F_X7_has (Q : Int → g_M → Prop) (a1 : Int) (M : g_M) : Prop := ((bm a1 < 0 → (Q 0 M)) ∧ (¬ bm a1 < 0 → (((bm a1 < bm (M 41 7) → (Q 1 M)) ∧ (¬ bm a1 < bm (M 41 7) → (Q 0 M))))))
def F_X7_rank (Q : Int → g_M → Prop) (a1 : Int) (M : g_M) : Prop := ((bm a1 < 0 → (Q 0 M)) ∧ (¬ bm a1 < 0 → (((bm a1 < bm (M 41 7) → ((inI a1 24 ∧ Q (M 52 (bm a1).toNat) M))) ∧ (¬ bm a1 < bm (M 41 7) → (Q 0 M))))))
def F_X7_moveTo_101 (Q : g_M → Prop) (k23 : Int → Int → Int → Int → g_M → Prop) (x1 x2 x3 x4 : Int) (M : g_M) : Prop := k23 x1 x2 x3 (x4 + 1) M
def F_X7_moveTo_68 (Q : g_M → Prop) (k23 : Int → Int → Int → Int → g_M → Prop) (x1 x2 x3 x4 : Int) (M : g_M) : Prop := (inI x4 24 ∧ ((bm (M 52 (bm x4).toNat) < bm x3 → ((inI x4 24 ∧ ((bm (M 52 (bm x4).toNat) < bm x2 → (F_X7_moveTo_101 Q k23 x1 x2 x3 x4 M)) ∧ (¬ bm (M 52 (bm x4).toNat) < bm x2 → ((inI x4 24 ∧ (inI x4 24 ∧ F_X7_moveTo_101 Q k23 x1 x2 x3 x4 (up M 52 (bm x4).toNat ((M 52 (bm x4).toNat) + 1)))))))))) ∧ (¬ bm (M 52 (bm x4).toNat) < bm x3 → (F_X7_moveTo_101 Q k23 x1 x2 x3 x4 M))))
def F_X7_moveTo_23 (Q : g_M → Prop) : Nat → Int → Int → Int → Int → g_M → Prop
  | 0 => fun _ _ _ _ _ => False
  | n + 1 => fun x1 x2 x3 x4 M => ((bm x4 < bm (M 41 7) → ((inI x4 24 ∧ ((bm x3 < bm (M 52 (bm x4).toNat) → ((inI x4 24 ∧ ((bm x2 < bm (M 52 (bm x4).toNat) → (F_X7_moveTo_68 Q (F_X7_moveTo_23 Q n) x1 x2 x3 x4 M)) ∧ (¬ bm x2 < bm (M 52 (bm x4).toNat) → ((inI x4 24 ∧ (inI x4 24 ∧ F_X7_moveTo_101 Q (F_X7_moveTo_23 Q n) x1 x2 x3 x4 (up M 52 (bm x4).toNat ((M 52 (bm x4).toNat) - 1)))))))))) ∧ (¬ bm x3 < bm (M 52 (bm x4).toNat) → (F_X7_moveTo_68 Q (F_X7_moveTo_23 Q n) x1 x2 x3 x4 M)))))) ∧ (¬ bm x4 < bm (M 41 7) → ((inI x1 24 ∧ Q (up M 52 (bm x1).toNat x2)))))
def F_X7_moveTo (Q : g_M → Prop) (a1 a2 : Int) (M : g_M) : Prop := ((bm a1 < 0 → (Q M)) ∧ (¬ bm a1 < 0 → (((bm a1 < bm (M 41 7) → ((inI a1 24 ∧ ∃ n9, F_X7_moveTo_23 Q n9 a1 a2 (M 52 (bm a1).toNat) 0 M))) ∧ (¬ bm a1 < bm (M 41 7) → (Q M))))))
def F_X11_promote (Q : Int → g_M → Prop) (a1 a2 : Int) (M : g_M) : Prop := F_X7_has (fun v1 M1 => ((bm v1 = 0 → (False)) ∧ (¬ bm v1 = 0 → (F_X7_has (fun v3 M3 => ((bm v3 = 0 → (False)) ∧ (¬ bm v3 = 0 → (F_X7_isOrderFixed (fun v5 M5 => ((bm v5 = 0 → (F_X7_rank (fun v7 M7 => F_X7_moveTo (fun M8 => Q v7 M8) a1 a2 M7) a1 M5)) ∧ (¬ bm v5 = 0 → (False)))) M3)))) a2 M1)))) a1 M
def F_X11_rankOf (Q : Int → g_M → Prop) (a1 : Int) (M : g_M) : Prop := F_X7_has (fun v1 M1 => ((bm v1 = 0 → (False)) ∧ (¬ bm v1 = 0 → (F_X7_rank (fun v3 M3 => Q v3 M3) a1 M1)))) a1 M
def F_X7_isFromRight (Q : Int → g_M → Prop) (a1 : Int) (M : g_M) : Prop := ((bm a1 < 0 → (Q 0 M)) ∧ (¬ bm a1 < 0 → (((bm a1 < bm (M 41 7) → ((inI a1 24 ∧ ((bm (M 54 (bm a1).toNat) = 0 → (Q 0 M)) ∧ (¬ bm (M 54 (bm a1).toNat) = 0 → (Q 1 M)))))) ∧ (¬ bm a1 < bm (M 41 7) → (Q 0 M))))))
def F_X7_direct (Q : g_M → Prop) (a1 a2 : Int) (M : g_M) : Prop := ((bm a1 < 0 → (Q M)) ∧ (¬ bm a1 < 0 → (((bm a1 < bm (M 41 7) → ((inI a1 24 ∧ isB a2 ∧ Q (up M 54 (bm a1).toNat a2)))) ∧ (¬ bm a1 < bm (M 41 7) → (Q M))))))
def F_X11_setDirection (Q : Int → g_M → Prop) (a1 a2 : Int) (M : g_M) : Prop := F_X7_has (fun v1 M1 => ((bm v1 = 0 → (False)) ∧ (¬ bm v1 = 0 → (F_X7_isOrderFixed (fun v3 M3 => ((bm v3 = 0 → (F_X7_isFromRight (fun v5 M5 => F_X7_direct (fun M6 => isB v5 ∧ Q v5 M6) a1 a2 M5) a1 M3)) ∧ (¬ bm v3 = 0 → (False)))) M1)))) a1 M
def F_X7_arity (Q : Int → g_M → Prop) (a1 : Int) (M : g_M) : Prop := ((bm a1 < 0 → (Q 0 M)) ∧ (¬ bm a1 < 0 → (((bm a1 < bm (M 41 7) → ((inI a1 24 ∧ Q (M 50 (bm a1).toNat) M))) ∧ (¬ bm a1 < bm (M 41 7) → (Q 0 M))))))
def F_X11_isTerm (Q : Int → g_M → Prop) (a1 : Int) (M : g_M) : Prop := ((bm a1 < 0 → (Q 0 M)) ∧ (¬ bm a1 < 0 → (((bm a1 < bm (M 40 10) → (Q 1 M)) ∧ (¬ bm a1 < bm (M 40 10) → (Q 0 M))))))
def F_X8_isCrowded (Q : Int → g_M → Prop) (M : g_M) : Prop := ((bm (M 42 12) < bm (M 42 10) → (Q 1 M)) ∧ (¬ bm (M 42 12) < bm (M 42 10) → (Q 0 M)))
def F_X11_tidy (Q : g_M → Prop) (M : g_M) : Prop := F_X8_isCrowded (fun v1 M1 => ((bm v1 = 0 → (Q M1)) ∧ (¬ bm v1 = 0 → (False)))) M
def F_X8_bucketOf (Q : Int → g_M → Prop) (a1 a2 a3 a4 : Int) (M : g_M) : Prop := Q (iand (ixor ((ixor ((((((a1 * 31) + a2) * 8191) + a3) * 131071) + a4) (iushr ((((((a1 * 31) + a2) * 8191) + a3) * 131071) + a4) 15)) * 739982445) (iushr ((ixor ((((((a1 * 31) + a2) * 8191) + a3) * 131071) + a4) (iushr ((((((a1 * 31) + a2) * 8191) + a3) * 131071) + a4) 15)) * 739982445) 13)) 32767) M
def F_X7_variableOrdinal (Q : Int → g_M → Prop) (a1 : Int) (M : g_M) : Prop := ((bm a1 < 0 → (Q (-1) M)) ∧ (¬ bm a1 < 0 → (((bm a1 < bm (M 41 7) → ((inI a1 24 ∧ Q (M 53 (bm a1).toNat) M))) ∧ (¬ bm a1 < bm (M 41 7) → (Q (-1) M))))))
def F_X8_extentOver (Q : Int → g_M → Prop) (a1 a2 a3 a4 : Int) (M : g_M) : Prop := Q (ior (ior (ior (ishl (imin (((1 + (iushr a2 9)) + (iushr a3 9)) + (iushr a4 9)) 4194303) 9) (ishl (imin (1 + (imax (imax (iand (iushr a2 1) 255) (iand (iushr a3 1) 255)) (iand (iushr a4 1) 255))) 255) 1)) a1) (iand (ior (ior a2 a3) a4) 1)) M
def F_X8_keep_137 (Q : Int → g_M → Prop) (x2 x3 x4 x5 x6 t0 : Int) (M : g_M) : Prop := F_X8_extentOver (fun v5 M5 => (okI 2 x6 ∧ (okI 4 x6 ∧ (okI 5 x5 ∧ Q x6 (rs (rs (rs M5 2 x6 v5) 4 x6 (rg (rs M5 2 x6 v5) 5 x5)) 5 x5 (x6 + 1)))))) t0 (rg M 2 x2) (rg M 2 x3) (rg M 2 x4) M
def F_X8_keep_59 (Q : Int → g_M → Prop) (x1 x2 x3 x4 x5 x6 : Int) (M : g_M) : Prop := (okI 0 x6 ∧ (okI 1 (3 * x6) ∧ (okI 1 ((3 * x6) + 1) ∧ (okI 1 ((3 * x6) + 2) ∧ F_X7_variableOrdinal (fun v3 M3 => ((bm v3 = bm (-1) → (F_X8_keep_137 Q x2 x3 x4 x5 x6 0 M3)) ∧ (¬ bm v3 = bm (-1) → (F_X8_keep_137 Q x2 x3 x4 x5 x6 1 M3)))) x1 (rs (rs (rs (rs (up M 42 10 ((M 42 10) + 1)) 0 x6 x1) 1 (3 * x6) x2) 1 ((3 * x6) + 1) x3) 1 ((3 * x6) + 2) x4)))))
def F_X8_keep (Q : Int → g_M → Prop) (a1 a2 a3 a4 a5 : Int) (M : g_M) : Prop := ((bm ((M 42 11) - 1) < 0 → (((bm (M 42 9) < bm 524288 → (F_X8_keep_59 Q a1 a2 a3 a4 a5 (M 42 9) (up M 42 9 ((M 42 9) + 1)))) ∧ (¬ bm (M 42 9) < bm 524288 → (Q 0 M))))) ∧ (¬ bm ((M 42 11) - 1) < 0 → (F_X8_keep_59 Q a1 a2 a3 a4 a5 ((M 42 11) - 1) (up M 42 11 (rg M 4 ((M 42 11) - 1))))))
def F_X8_make_126 (Q : Int → g_M → Prop) (x1 x2 x3 x4 x5 : Int) (M : g_M) : Prop := F_X8_keep (fun v8 M8 => Q v8 M8) x1 x2 x3 x4 x5 M
def F_X8_make_107 (Q : Int → g_M → Prop) (k27 : Int → Int → Int → Int → Int → Int → Int → g_M → Prop) (x1 x2 x3 x4 x5 x6 x7 : Int) (M : g_M) : Prop := k27 x1 x2 x3 x4 x5 ((rg M 4 x6) - 1) (x7 + 1) M
def F_X8_make_27 (Q : Int → g_M → Prop) : Nat → Int → Int → Int → Int → Int → Int → Int → g_M → Prop
  | 0 => fun _ _ _ _ _ _ _ _ => False
  | n + 1 => fun x1 x2 x3 x4 x5 x6 x7 M => ((bm x7 < bm (M 42 9) → (((bm x6 < 0 → (F_X8_make_126 Q x1 x2 x3 x4 x5 M)) ∧ (¬ bm x6 < 0 → (((bm (rg M 0 x6) = bm x1 → (((bm (rg M 1 (3 * x6)) = bm x2 → (((bm (rg M 1 ((3 * x6) + 1)) = bm x3 → (((bm (rg M 1 ((3 * x6) + 2)) = bm x4 → (Q x6 M)) ∧ (¬ bm (rg M 1 ((3 * x6) + 2)) = bm x4 → (F_X8_make_107 Q (F_X8_make_27 Q n) x1 x2 x3 x4 x5 x6 x7 M))))) ∧ (¬ bm (rg M 1 ((3 * x6) + 1)) = bm x3 → (F_X8_make_107 Q (F_X8_make_27 Q n) x1 x2 x3 x4 x5 x6 x7 M))))) ∧ (¬ bm (rg M 1 (3 * x6)) = bm x2 → (F_X8_make_107 Q (F_X8_make_27 Q n) x1 x2 x3 x4 x5 x6 x7 M))))) ∧ (¬ bm (rg M 0 x6) = bm x1 → (F_X8_make_107 Q (F_X8_make_27 Q n) x1 x2 x3 x4 x5 x6 x7 M)))))))) ∧ (¬ bm x7 < bm (M 42 9) → (F_X8_make_126 Q x1 x2 x3 x4 x5 M)))
def F_X8_make (Q : Int → g_M → Prop) (a1 a2 a3 a4 : Int) (M : g_M) : Prop := F_X8_bucketOf (fun v1 M1 => ∃ n9, F_X8_make_27 Q n9 a1 a2 a3 a4 v1 ((rg M1 5 v1) - 1) 0 M1) a1 a2 a3 a4 M
def F_X8_width (Q : Int → g_M → Prop) (a1 : Int) (M : g_M) : Prop := Q (iushr (rg M 2 a1) 9) M
def F_X8_height (Q : Int → g_M → Prop) (a1 : Int) (M : g_M) : Prop := Q (iand (iushr (rg M 2 a1) 1) 255) M
def F_X8_isTooLarge (Q : Int → g_M → Prop) (a1 : Int) (M : g_M) : Prop := F_X8_width (fun v1 M1 => ((bm 1000 < bm v1 → (Q 1 M1)) ∧ (¬ bm 1000 < bm v1 → (F_X8_height (fun v3 M3 => ((bm 60 < bm v3 → (Q 1 M3)) ∧ (¬ bm 60 < bm v3 → (Q 0 M3)))) a1 M1)))) a1 M
def F_X8_number (Q : Int → g_M → Prop) (a1 : Int) (M : g_M) : Prop := Q ((rg M 3 a1) - 1) M
def F_X8_setNumber (Q : g_M → Prop) (a1 a2 : Int) (M : g_M) : Prop := (okI 3 a1 ∧ Q (rs M 3 a1 (a2 + 1)))
def F_X7_fixOrder (Q : g_M → Prop) (M : g_M) : Prop := Q (up M 41 10 1)
def F_X11_giveNumber_54 (Q : Int → g_M → Prop) (x2 : Int) (M : g_M) : Prop := Q x2 M
def F_X11_giveNumber (Q : Int → g_M → Prop) (a1 : Int) (M : g_M) : Prop := F_X8_number (fun v1 M1 => ((bm v1 = bm (-1) → (F_X8_setNumber (fun M3 => (okI 33 (M1 40 10) ∧ F_X7_fixOrder (fun M4 => F_X11_giveNumber_54 Q (M1 40 10) M4) (up (rs M3 33 (M1 40 10) a1) 40 10 (((rs M3 33 (M1 40 10) a1) 40 10) + 1)))) a1 (M1 40 10) M1)) ∧ (¬ bm v1 = bm (-1) → (F_X11_giveNumber_54 Q v1 M1)))) a1 M
def F_X11_term_136 (Q : Int → g_M → Prop) (t1 t2 t3 t4 : Int) (M : g_M) : Prop := F_X8_make (fun v17 M17 => F_X8_isTooLarge (fun v18 M18 => ((bm v18 = 0 → (F_X11_giveNumber (fun v20 M20 => Q v20 M20) v17 M18)) ∧ (¬ bm v18 = 0 → (False)))) v17 M17) t1 t2 t3 t4 M
def F_X11_term_117 (Q : Int → g_M → Prop) (x4 x5 t1 t2 t3 : Int) (M : g_M) : Prop := ((bm 2 < bm x5 → (F_X11_term_136 Q t1 t2 t3 (rg M 33 x4) M)) ∧ (¬ bm 2 < bm x5 → (F_X11_term_136 Q t1 t2 t3 (-1) M)))
def F_X11_term_99 (Q : Int → g_M → Prop) (x3 x4 x5 t1 t2 : Int) (M : g_M) : Prop := ((bm 1 < bm x5 → (F_X11_term_117 Q x4 x5 t1 t2 (rg M 33 x3) M)) ∧ (¬ bm 1 < bm x5 → (F_X11_term_117 Q x4 x5 t1 t2 (-1) M)))
def F_X11_term_73 (Q : Int → g_M → Prop) (x1 x2 x3 x4 x5 : Int) (M : g_M) : Prop := F_X11_tidy (fun M13 => ((0 < bm x5 → (F_X11_term_99 Q x3 x4 x5 x1 (rg M13 33 x2) M13)) ∧ (¬ 0 < bm x5 → (F_X11_term_99 Q x3 x4 x5 x1 (-1) M13)))) M
def F_X11_term_48 (Q : Int → g_M → Prop) (x1 x2 x3 x4 x5 : Int) (M : g_M) : Prop := ((bm 2 < bm x5 → (F_X11_isTerm (fun v11 M11 => ((bm v11 = 0 → (False)) ∧ (¬ bm v11 = 0 → (F_X11_term_73 Q x1 x2 x3 x4 x5 M11)))) x4 M)) ∧ (¬ bm 2 < bm x5 → (F_X11_term_73 Q x1 x2 x3 x4 x5 M)))
def F_X11_term_34 (Q : Int → g_M → Prop) (x1 x2 x3 x4 x5 : Int) (M : g_M) : Prop := ((bm 1 < bm x5 → (F_X11_isTerm (fun v8 M8 => ((bm v8 = 0 → (False)) ∧ (¬ bm v8 = 0 → (F_X11_term_48 Q x1 x2 x3 x4 x5 M8)))) x3 M)) ∧ (¬ bm 1 < bm x5 → (F_X11_term_48 Q x1 x2 x3 x4 x5 M)))
def F_X11_term (Q : Int → g_M → Prop) (a1 a2 a3 a4 : Int) (M : g_M) : Prop := F_X7_arity (fun v1 M1 => F_X7_has (fun v2 M2 => ((bm v2 = 0 → (False)) ∧ (¬ bm v2 = 0 → (((0 < bm v1 → (F_X11_isTerm (fun v5 M5 => ((bm v5 = 0 → (False)) ∧ (¬ bm v5 = 0 → (F_X11_term_34 Q a1 a2 a3 a4 v1 M5)))) a2 M2)) ∧ (¬ 0 < bm v1 → (F_X11_term_34 Q a1 a2 a3 a4 v1 M2))))))) a1 M1) a1 M
def F_X11_size (Q : Int → g_M → Prop) (a1 : Int) (M : g_M) : Prop := F_X11_isTerm (fun v1 M1 => ((bm v1 = 0 → (False)) ∧ (¬ bm v1 = 0 → (F_X8_width (fun v3 M3 => Q v3 M3) (rg M1 33 a1) M1)))) a1 M
def F_X10_clear (Q : g_M → Prop) (M : g_M) : Prop := Q (up M 43 6 0)
def F_X10_indexOf_16 (Q : Int → g_M → Prop) (x1 t0 : Int) (M : g_M) : Prop := ((bm t0 < 0 → (Q (-1) M)) ∧ (¬ bm t0 < 0 → (((bm t0 < bm (M 43 6) → (((bm (rg M 7 t0) = bm x1 → (Q t0 M)) ∧ (¬ bm (rg M 7 t0) = bm x1 → (Q (-1) M))))) ∧ (¬ bm t0 < bm (M 43 6) → (Q (-1) M))))))
def F_X10_indexOf (Q : Int → g_M → Prop) (a1 : Int) (M : g_M) : Prop := ((bm a1 < 0 → (F_X10_indexOf_16 Q a1 (-1) M)) ∧ (¬ bm a1 < 0 → (F_X10_indexOf_16 Q a1 (rg M 6 a1) M)))
def F_X8_arity (Q : Int → g_M → Prop) (a1 : Int) (M : g_M) : Prop := F_X7_arity (fun v1 M1 => Q v1 M1) (rg M 0 a1) M
def F_X8_part (Q : Int → g_M → Prop) (a1 a2 : Int) (M : g_M) : Prop := ((bm a1 < 0 → (Q (-1) M)) ∧ (¬ bm a1 < 0 → (Q (rg M 1 ((3 * a1) + a2)) M)))
def F_X10_firstUnlisted_2 (Q : Int → g_M → Prop) : Nat → Int → Int → g_M → Prop
  | 0 => fun _ _ _ => False
  | n + 1 => fun x1 x2 M => F_X8_arity (fun v1 M1 => ((bm x2 < bm v1 → (F_X8_part (fun v3 M3 => F_X10_indexOf (fun v4 M4 => ((bm v4 = bm (-1) → (Q v3 M4)) ∧ (¬ bm v4 = bm (-1) → (F_X10_firstUnlisted_2 Q n x1 (x2 + 1) M4)))) v3 M3) x1 x2 M1)) ∧ (¬ bm x2 < bm v1 → (Q (-1) M1)))) x1 M
def F_X10_firstUnlisted (Q : Int → g_M → Prop) (a1 : Int) (M : g_M) : Prop := ∃ n9, F_X10_firstUnlisted_2 Q n9 a1 0 M
def F_X10_append (Q : g_M → Prop) (a1 : Int) (M : g_M) : Prop := ((bm a1 < 0 → (Q M)) ∧ (¬ bm a1 < 0 → (F_X10_indexOf (fun v2 M2 => ((bm v2 = bm (-1) → ((okI 6 a1 ∧ (okI 7 ((rs M2 6 a1 (M2 43 6)) 43 6) ∧ Q (up (rs (rs M2 6 a1 (M2 43 6)) 7 ((rs M2 6 a1 (M2 43 6)) 43 6) a1) 43 6 (((rs (rs M2 6 a1 (M2 43 6)) 7 ((rs M2 6 a1 (M2 43 6)) 43 6) a1) 43 6) + 1)))))) ∧ (¬ bm v2 = bm (-1) → (Q M2)))) a1 M)))
def F_X10_add_90 (Q : g_M → Prop) (k26 : Int → Int → g_M → Prop) (x2 x3 : Int) (M : g_M) : Prop := k26 x2 (x3 + 1) M
def F_X10_add_26 (Q : g_M → Prop) : Nat → Int → Int → g_M → Prop
  | 0 => fun _ _ _ => False
  | n + 1 => fun x2 x3 M => ((bm x3 < bm 1048576 → (((bm x2 < 0 → (Q M)) ∧ (¬ bm x2 < 0 → (((bm (x2 + 1) < bm 256 → ((inI x2 256 ∧ F_X10_firstUnlisted (fun v7 M7 => ((bm v7 = bm (-1) → ((inI x2 256 ∧ F_X10_append (fun M9 => F_X10_add_90 Q (F_X10_add_26 Q n) (x2 + (-1)) x3 M9) (M7 61 (bm x2).toNat) M7))) ∧ (¬ bm v7 = bm (-1) → ((inI (x2 + 1) 256 ∧ F_X10_add_90 Q (F_X10_add_26 Q n) (x2 + 1) x3 (up M7 61 (bm (x2 + 1)).toNat v7)))))) (M 61 (bm x2).toNat) M))) ∧ (¬ bm (x2 + 1) < bm 256 → (Q M)))))))) ∧ (¬ bm x3 < bm 1048576 → (Q M)))
def F_X10_add_24 (Q : g_M → Prop) (x2 : Int) (M : g_M) : Prop := ∃ n9, F_X10_add_26 Q n9 x2 0 M
def F_X10_add (Q : g_M → Prop) (a1 : Int) (M : g_M) : Prop := ((bm a1 < 0 → (F_X10_add_24 Q (-1) M)) ∧ (¬ bm a1 < 0 → (F_X10_indexOf (fun v2 M2 => ((bm v2 = bm (-1) → ((inI 0 256 ∧ F_X10_add_24 Q 0 (up M2 61 (bm 0).toNat a1)))) ∧ (¬ bm v2 = bm (-1) → (F_X10_add_24 Q (-1) M2)))) a1 M)))
def F_X10_count (Q : Int → g_M → Prop) (M : g_M) : Prop := Q (M 43 6) M
def F_X2_clear (Q : g_M → Prop) (a1 : Int) (M : g_M) : Prop := Q (up (up M 44 15 a1) 44 16 0)
def F_X10_node (Q : Int → g_M → Prop) (a1 : Int) (M : g_M) : Prop := Q (rg M 7 a1) M
def F_X8_symbol (Q : Int → g_M → Prop) (a1 : Int) (M : g_M) : Prop := Q (rg M 0 a1) M
def F_X2_addProduction (Q : Int → g_M → Prop) (a1 a2 : Int) (M : g_M) : Prop := (okI 10 (M 44 16) ∧ (okI 11 (M 44 16) ∧ Q (M 44 16) (up (rs (rs M 10 (M 44 16) a1) 11 (M 44 16) a2) 44 16 (((rs (rs M 10 (M 44 16) a1) 11 (M 44 16) a2) 44 16) + 1))))
def F_X2_arity (Q : Int → g_M → Prop) (a1 : Int) (M : g_M) : Prop := F_X7_arity (fun v1 M1 => Q v1 M1) (rg M 11 a1) M
def F_X10_partOf (Q : Int → g_M → Prop) (a1 a2 : Int) (M : g_M) : Prop := F_X8_part (fun v1 M1 => F_X10_indexOf (fun v2 M2 => Q v2 M2) v1 M1) (rg M 7 a1) a2 M
def F_X2_setPart (Q : g_M → Prop) (a1 a2 a3 : Int) (M : g_M) : Prop := (okI 12 ((3 * a1) + a2) ∧ Q (rs M 12 ((3 * a1) + a2) a3))
def F_X2_takeTerms_37 (Q : g_M → Prop) (k10 : Int → g_M → Prop) : Nat → Int → Int → Int → g_M → Prop
  | 0 => fun _ _ _ _ => False
  | n + 1 => fun x3 x4 x5 M => F_X2_arity (fun v8 M8 => ((bm x5 < bm v8 → (F_X10_partOf (fun v10 M10 => F_X2_setPart (fun M11 => F_X2_takeTerms_37 Q k10 n x3 x4 (x5 + 1) M11) x4 x5 v10 M10) x3 x5 M8)) ∧ (¬ bm x5 < bm v8 → (k10 (x3 + 1) M8)))) x4 M
def F_X2_takeTerms_10 (Q : g_M → Prop) : Nat → Int → g_M → Prop
  | 0 => fun _ _ => False
  | n + 1 => fun x3 M => F_X10_count (fun v3 M3 => ((bm x3 < bm v3 → (F_X10_node (fun v5 M5 => F_X8_symbol (fun v6 M6 => F_X2_addProduction (fun v7 M7 => ∃ n9, F_X2_takeTerms_37 Q (F_X2_takeTerms_10 Q n) n9 x3 v7 0 M7) x3 v6 M6) v5 M5) x3 M3)) ∧ (¬ bm x3 < bm v3 → (Q M3)))) M
def F_X2_takeTerms (Q : g_M → Prop) (M : g_M) : Prop := F_X10_count (fun v1 M1 => F_X2_clear (fun M2 => ∃ n9, F_X2_takeTerms_10 Q n9 0 M2) v1 M1) M
def F_X7_orderMode (Q : Int → g_M → Prop) (M : g_M) : Prop := ((bm (M 41 9) = 0 → (Q 0 M)) ∧ (¬ bm (M 41 9) = 0 → (Q 1 M)))
def F_X2_linkUsers_46 (Q : g_M → Prop) (k36 : Int → g_M → Prop) : Nat → Int → Int → g_M → Prop
  | 0 => fun _ _ _ => False
  | n + 1 => fun x1 x2 M => F_X2_arity (fun v3 M3 => ((bm x2 < bm v3 → ((okI 15 ((3 * x1) + x2) ∧ (okI 14 (rg M3 12 ((3 * x1) + x2)) ∧ F_X2_linkUsers_46 Q k36 n x1 (x2 + 1) (rs (rs M3 15 ((3 * x1) + x2) (rg M3 14 (rg M3 12 ((3 * x1) + x2)))) 14 (rg M3 12 ((3 * x1) + x2)) (((3 * x1) + x2) + 1)))))) ∧ (¬ bm x2 < bm v3 → (k36 (x1 + 1) M3)))) x1 M
def F_X2_linkUsers_36 (Q : g_M → Prop) : Nat → Int → g_M → Prop
  | 0 => fun _ _ => False
  | n + 1 => fun x1 M => ((bm x1 < bm (M 44 16) → (∃ n9, F_X2_linkUsers_46 Q (F_X2_linkUsers_36 Q n) n9 x1 0 M)) ∧ (¬ bm x1 < bm (M 44 16) → (Q M)))
def F_X2_linkUsers_2 (Q : g_M → Prop) : Nat → Int → g_M → Prop
  | 0 => fun _ _ => False
  | n + 1 => fun x1 M => ((bm x1 < bm (M 44 15) → ((okI 14 x1 ∧ (okI 20 x1 ∧ F_X2_linkUsers_2 Q n (x1 + 1) (rs (rs M 14 x1 0) 20 x1 (-1)))))) ∧ (¬ bm x1 < bm (M 44 15) → (∃ n9, F_X2_linkUsers_36 Q n9 0 M)))
def F_X2_linkUsers (Q : g_M → Prop) (M : g_M) : Prop := ∃ n9, F_X2_linkUsers_2 Q n9 0 M
def F_X7_weight (Q : Int → g_M → Prop) (a1 : Int) (M : g_M) : Prop := ((bm a1 < 0 → (Q 0 M)) ∧ (¬ bm a1 < 0 → (((bm a1 < bm (M 41 7) → ((inI a1 24 ∧ Q (M 51 (bm a1).toNat) M))) ∧ (¬ bm a1 < bm (M 41 7) → (Q 0 M))))))
def F_X2_isBefore_144 (Q : Int → g_M → Prop) (k120 : Int → Int → Int → Int → Int → g_M → Prop) (x1 x2 x4 x5 x6 t0 : Int) (M : g_M) : Prop := ((bm (rg M 12 ((3 * x1) + t0)) = bm (rg M 12 ((3 * x2) + t0)) → (k120 x1 x2 x4 x5 (x6 + 1) M)) ∧ (¬ bm (rg M 12 ((3 * x1) + t0)) = bm (rg M 12 ((3 * x2) + t0)) → (((bm (rg M 21 (rg M 12 ((3 * x1) + t0))) < bm (rg M 21 (rg M 12 ((3 * x2) + t0))) → (Q 1 M)) ∧ (¬ bm (rg M 21 (rg M 12 ((3 * x1) + t0))) < bm (rg M 21 (rg M 12 ((3 * x2) + t0))) → (Q 0 M))))))
def F_X2_isBefore_120 (Q : Int → g_M → Prop) : Nat → Int → Int → Int → Int → Int → g_M → Prop
  | 0 => fun _ _ _ _ _ _ => False
  | n + 1 => fun x1 x2 x4 x5 x6 M => ((bm x6 < bm x4 → (((bm x5 = 0 → (F_X2_isBefore_144 Q (F_X2_isBefore_120 Q n) x1 x2 x4 x5 x6 x6 M)) ∧ (¬ bm x5 = 0 → (F_X2_isBefore_144 Q (F_X2_isBefore_120 Q n) x1 x2 x4 x5 x6 ((x4 - 1) - x6) M))))) ∧ (¬ bm x6 < bm x4 → (Q 0 M)))
def F_X2_isBefore (Q : Int → g_M → Prop) (a1 a2 : Int) (M : g_M) : Prop := ((bm (rg M 16 a1) = bm (rg M 16 a2) → (((bm (rg M 11 a1) = bm (rg M 11 a2) → (F_X7_arity (fun v3 M3 => F_X7_isFromRight (fun v4 M4 => ∃ n9, F_X2_isBefore_120 Q n9 a1 a2 v3 v4 0 M4) (rg M 11 a1) M3) (rg M 11 a1) M)) ∧ (¬ bm (rg M 11 a1) = bm (rg M 11 a2) → (F_X7_rank (fun v5 M5 => F_X7_rank (fun v6 M6 => ((bm v5 < bm v6 → (Q 1 M6)) ∧ (¬ bm v5 < bm v6 → (Q 0 M6)))) (rg M5 11 a2) M5) (rg M 11 a1) M))))) ∧ (¬ bm (rg M 16 a1) = bm (rg M 16 a2) → (((bm (rg M 16 a1) < bm (rg M 16 a2) → (Q 1 M)) ∧ (¬ bm (rg M 16 a1) < bm (rg M 16 a2) → (Q 0 M))))))
def F_X2_enter_260 (Q : g_M → Prop) (x1 x5 : Int) (M : g_M) : Prop := (okI 19 x5 ∧ Q (rs M 19 x5 x1))
def F_X2_enter_190 (Q : g_M → Prop) : Nat → Int → Int → Int → g_M → Prop
  | 0 => fun _ _ _ _ => False
  | n + 1 => fun x1 x5 x6 M => ((bm x6 < bm (M 44 17) → (((0 < bm x5 → (F_X2_isBefore (fun v8 M8 => ((bm v8 = 0 → (F_X2_enter_260 Q x1 x5 M8)) ∧ (¬ bm v8 = 0 → ((okI 19 x5 ∧ F_X2_enter_190 Q n x1 (idiv (x5 - 1) 2) (x6 + 1) (rs M8 19 x5 (rg M8 19 (idiv (x5 - 1) 2)))))))) x1 (rg M 19 (idiv (x5 - 1) 2)) M)) ∧ (¬ 0 < bm x5 → (F_X2_enter_260 Q x1 x5 M))))) ∧ (¬ bm x6 < bm (M 44 17) → (F_X2_enter_260 Q x1 x5 M)))
def F_X2_enter_168 (Q : g_M → Prop) (x1 t1 t2 : Int) (M : g_M) : Prop := (okI 16 t1 ∧ ∃ n9, F_X2_enter_190 Q n9 x1 ((rs M 16 t1 t2) 44 17) 0 (up (rs M 16 t1 t2) 44 17 (((rs M 16 t1 t2) 44 17) + 1)))
def F_X2_enter_24 (Q : g_M → Prop) : Nat → Int → Int → Int → Int → Int → g_M → Prop
  | 0 => fun _ _ _ _ _ _ => False
  | n + 1 => fun x1 x2 x3 x4 x5 M => F_X2_arity (fun v2 M2 => ((bm x5 < bm v2 → (F_X2_enter_24 Q n x1 (x2 + (rg M2 17 (rg M2 20 (rg M2 12 ((3 * x1) + x5))))) (imax x3 (rg M2 18 (rg M2 20 (rg M2 12 ((3 * x1) + x5))))) (x4 + (rg M2 16 (rg M2 20 (rg M2 12 ((3 * x1) + x5))))) (x5 + 1) M2)) ∧ (¬ bm x5 < bm v2 → ((okI 17 x1 ∧ (okI 18 x1 ∧ ((bm ((rs (rs M2 17 x1 (imin x2 1048575)) 18 x1 (imin (x3 + 1) 1048575)) 44 19) = bm 1 → (F_X2_enter_168 Q x1 x1 (imin x4 1048575) (rs (rs M2 17 x1 (imin x2 1048575)) 18 x1 (imin (x3 + 1) 1048575)))) ∧ (¬ bm ((rs (rs M2 17 x1 (imin x2 1048575)) 18 x1 (imin (x3 + 1) 1048575)) 44 19) = bm 1 → (((bm ((rs (rs M2 17 x1 (imin x2 1048575)) 18 x1 (imin (x3 + 1) 1048575)) 44 19) = bm 2 → (F_X2_enter_168 Q x1 x1 x2 (rs (rs M2 17 x1 (imin x2 1048575)) 18 x1 (imin (x3 + 1) 1048575)))) ∧ (¬ bm ((rs (rs M2 17 x1 (imin x2 1048575)) 18 x1 (imin (x3 + 1) 1048575)) 44 19) = bm 2 → (F_X2_enter_168 Q x1 x1 0 (rs (rs M2 17 x1 (imin x2 1048575)) 18 x1 (imin (x3 + 1) 1048575)))))))))))))) x1 M
def F_X2_enter (Q : g_M → Prop) (a1 : Int) (M : g_M) : Prop := F_X7_weight (fun v1 M1 => ∃ n9, F_X2_enter_24 Q n9 a1 1 0 v1 0 M1) (rg M 11 a1) M
def F_X2_takeLeast_151 (Q : Int → g_M → Prop) (x1 x2 x3 : Int) (M : g_M) : Prop := (okI 19 x3 ∧ Q x1 (rs M 19 x3 x2))
def F_X2_takeLeast_105 (Q : Int → g_M → Prop) (k36 : Int → Int → Int → Int → g_M → Prop) (x1 x2 x3 x4 x5 : Int) (M : g_M) : Prop := F_X2_isBefore (fun v6 M6 => ((bm v6 = 0 → (F_X2_takeLeast_151 Q x1 x2 x3 M6)) ∧ (¬ bm v6 = 0 → ((okI 19 x3 ∧ k36 x1 x2 x5 (x4 + 1) (rs M6 19 x3 (rg M6 19 x5))))))) (rg M 19 x5) x2 M
def F_X2_takeLeast_36 (Q : Int → g_M → Prop) : Nat → Int → Int → Int → Int → g_M → Prop
  | 0 => fun _ _ _ _ _ => False
  | n + 1 => fun x1 x2 x3 x4 M => ((bm x4 < bm (M 44 17) → (((bm ((2 * x3) + 1) < bm (M 44 17) → (((bm (((2 * x3) + 1) + 1) < bm (M 44 17) → (F_X2_isBefore (fun v4 M4 => ((bm v4 = 0 → (F_X2_takeLeast_105 Q (F_X2_takeLeast_36 Q n) x1 x2 x3 x4 ((2 * x3) + 1) M4)) ∧ (¬ bm v4 = 0 → (F_X2_takeLeast_105 Q (F_X2_takeLeast_36 Q n) x1 x2 x3 x4 (((2 * x3) + 1) + 1) M4)))) (rg M 19 (((2 * x3) + 1) + 1)) (rg M 19 ((2 * x3) + 1)) M)) ∧ (¬ bm (((2 * x3) + 1) + 1) < bm (M 44 17) → (F_X2_takeLeast_105 Q (F_X2_takeLeast_36 Q n) x1 x2 x3 x4 ((2 * x3) + 1) M))))) ∧ (¬ bm ((2 * x3) + 1) < bm (M 44 17) → (F_X2_takeLeast_151 Q x1 x2 x3 M))))) ∧ (¬ bm x4 < bm (M 44 17) → (F_X2_takeLeast_151 Q x1 x2 x3 M)))
def F_X2_takeLeast (Q : Int → g_M → Prop) (M : g_M) : Prop := ∃ n9, F_X2_takeLeast_36 Q n9 (rg M 19 0) (rg (up M 44 17 ((M 44 17) - 1)) 19 ((up M 44 17 ((M 44 17) - 1)) 44 17)) 0 0 (up M 44 17 ((M 44 17) - 1))
def F_X2_isReadyAfter (Q : Int → g_M → Prop) (a1 : Int) (M : g_M) : Prop := (okI 13 (idiv a1 3) ∧ ((bm (rg (rs M 13 (idiv a1 3) ((rg M 13 (idiv a1 3)) - 1)) 13 (idiv a1 3)) = 0 → (Q 1 (rs M 13 (idiv a1 3) ((rg M 13 (idiv a1 3)) - 1)))) ∧ (¬ bm (rg (rs M 13 (idiv a1 3) ((rg M 13 (idiv a1 3)) - 1)) 13 (idiv a1 3)) = 0 → (Q 0 (rs M 13 (idiv a1 3) ((rg M 13 (idiv a1 3)) - 1))))))
def F_X2_rank_55 (Q : g_M → Prop) (k21 : Int → g_M → Prop) (x2 : Int) (M : g_M) : Prop := k21 (x2 + 1) M
def F_X2_rank_210 (Q : g_M → Prop) (k63 : Int → g_M → Prop) (x2 : Int) (M : g_M) : Prop := k63 (x2 + 1) M
def F_X2_rank_191 (Q : g_M → Prop) (k63 : Int → g_M → Prop) (k158 : Int → Int → Int → g_M → Prop) (x2 x5 x6 : Int) (M : g_M) : Prop := k158 x2 ((rg M 15 x5) - 1) (x6 + 1) M
def F_X2_rank_158 (Q : g_M → Prop) (k63 : Int → g_M → Prop) : Nat → Int → Int → Int → g_M → Prop
  | 0 => fun _ _ _ _ => False
  | n + 1 => fun x2 x5 x6 M => ((bm x5 < 0 → (F_X2_rank_210 Q k63 x2 M)) ∧ (¬ bm x5 < 0 → (((bm x6 < bm (3 * (M 44 16)) → (F_X2_isReadyAfter (fun v13 M13 => ((bm v13 = 0 → (F_X2_rank_191 Q k63 (F_X2_rank_158 Q k63 n) x2 x5 x6 M13)) ∧ (¬ bm v13 = 0 → (F_X2_enter (fun M15 => F_X2_rank_191 Q k63 (F_X2_rank_158 Q k63 n) x2 x5 x6 M15) (idiv x5 3) M13)))) x5 M)) ∧ (¬ bm x6 < bm (3 * (M 44 16)) → (F_X2_rank_210 Q k63 x2 M))))))
def F_X2_rank_63 (Q : g_M → Prop) : Nat → Int → g_M → Prop
  | 0 => fun _ _ => False
  | n + 1 => fun x2 M => ((bm x2 < bm (M 44 16) → (((0 < bm (M 44 17) → (F_X2_takeLeast (fun v9 M9 => (okI 22 x2 ∧ ((bm (rg (up (rs M9 22 x2 v9) 44 18 (x2 + 1)) 20 (rg M9 10 v9)) = bm (-1) → ((okI 20 (rg M9 10 v9) ∧ (okI 21 (rg M9 10 v9) ∧ ∃ n9, F_X2_rank_158 Q (F_X2_rank_63 Q n) n9 x2 ((rg (rs (rs (up (rs M9 22 x2 v9) 44 18 (x2 + 1)) 20 (rg M9 10 v9) v9) 21 (rg M9 10 v9) x2) 14 (rg M9 10 v9)) - 1) 0 (rs (rs (up (rs M9 22 x2 v9) 44 18 (x2 + 1)) 20 (rg M9 10 v9) v9) 21 (rg M9 10 v9) x2))))) ∧ (¬ bm (rg (up (rs M9 22 x2 v9) 44 18 (x2 + 1)) 20 (rg M9 10 v9)) = bm (-1) → (F_X2_rank_210 Q (F_X2_rank_63 Q n) x2 (up (rs M9 22 x2 v9) 44 18 (x2 + 1))))))) M)) ∧ (¬ 0 < bm (M 44 17) → (Q M))))) ∧ (¬ bm x2 < bm (M 44 16) → (Q M)))
def F_X2_rank_21 (Q : g_M → Prop) : Nat → Int → g_M → Prop
  | 0 => fun _ _ => False
  | n + 1 => fun x2 M => ((bm x2 < bm (M 44 16) → (F_X2_arity (fun v3 M3 => (okI 13 x2 ∧ F_X2_arity (fun v4 M4 => ((bm v4 = 0 → (F_X2_enter (fun M6 => F_X2_rank_55 Q (F_X2_rank_21 Q n) x2 M6) x2 M4)) ∧ (¬ bm v4 = 0 → (F_X2_rank_55 Q (F_X2_rank_21 Q n) x2 M4)))) x2 (rs M3 13 x2 v3))) x2 M)) ∧ (¬ bm x2 < bm (M 44 16) → (∃ n9, F_X2_rank_63 Q n9 0 M)))
def F_X2_rank (Q : g_M → Prop) (a1 : Int) (M : g_M) : Prop := F_X2_linkUsers (fun M1 => ∃ n9, F_X2_rank_21 Q n9 0 M1) (up (up (up M 44 19 a1) 44 17 0) 44 18 0)
def F_X2_position (Q : Int → g_M → Prop) (a1 : Int) (M : g_M) : Prop := Q (rg M 21 a1) M
def F_X11_compare (Q : Int → g_M → Prop) (a1 a2 : Int) (M : g_M) : Prop := F_X11_isTerm (fun v1 M1 => ((bm v1 = 0 → (False)) ∧ (¬ bm v1 = 0 → (F_X11_isTerm (fun v3 M3 => ((bm v3 = 0 → (False)) ∧ (¬ bm v3 = 0 → (((bm a1 = bm a2 → (Q 0 M3)) ∧ (¬ bm a1 = bm a2 → (F_X10_clear (fun M6 => F_X10_add (fun M7 => F_X10_add (fun M8 => F_X2_takeTerms (fun M9 => F_X7_orderMode (fun v10 M10 => F_X2_rank (fun M11 => F_X10_indexOf (fun v12 M12 => F_X2_position (fun v13 M13 => F_X10_indexOf (fun v14 M14 => F_X2_position (fun v15 M15 => ((bm v15 < bm v13 → (Q 1 M15)) ∧ (¬ bm v15 < bm v13 → (Q (-1) M15)))) v14 M14) (rg M13 33 a2) M13) v12 M12) (rg M11 33 a1) M11) v10 M10) M9) M8) (rg M7 33 a2) M7) (rg M6 33 a1) M6) M3))))))) a2 M1)))) a1 M
def F_X8_isGround (Q : Int → g_M → Prop) (a1 : Int) (M : g_M) : Prop := ((bm (iand (rg M 2 a1) 1) = 0 → (Q 1 M)) ∧ (¬ bm (iand (rg M 2 a1) 1) = 0 → (Q 0 M)))
def F_X9_addEquation (Q : g_M → Prop) (a1 a2 : Int) (M : g_M) : Prop := ((bm (M 45 7) < 0 → (Q M)) ∧ (¬ bm (M 45 7) < 0 → (((bm (M 45 7) < bm 30 → ((inI (M 45 7) 30 ∧ (inI ((up M 55 (bm (M 45 7)).toNat a1) 45 7) 30 ∧ Q (up (up (up M 55 (bm (M 45 7)).toNat a1) 56 (bm ((up M 55 (bm (M 45 7)).toNat a1) 45 7)).toNat a2) 45 7 (((up (up M 55 (bm (M 45 7)).toNat a1) 56 (bm ((up M 55 (bm (M 45 7)).toNat a1) 45 7)).toNat a2) 45 7) + 1)))))) ∧ (¬ bm (M 45 7) < bm 30 → (Q M))))))
def F_X1_start_131 (Q : g_M → Prop) (k8 : Int → g_M → Prop) (x1 : Int) (M : g_M) : Prop := k8 (x1 + 1) M
def F_X1_start_71 (Q : g_M → Prop) (k8 : Int → g_M → Prop) : Nat → Int → Int → g_M → Prop
  | 0 => fun _ _ _ => False
  | n + 1 => fun x1 x2 M => ((bm x2 < bm 3 → (F_X10_partOf (fun v6 M6 => (okI 29 ((3 * x1) + x2) ∧ F_X1_start_71 Q k8 n x1 (x2 + 1) (rs M6 29 ((3 * x1) + x2) v6))) x1 x2 M)) ∧ (¬ bm x2 < bm 3 → (((bm (M 47 10) < bm x1 → (((bm (M 47 10) < bm 16384 → (F_X1_start_131 Q k8 x1 (up M 47 10 ((M 47 10) * 2)))) ∧ (¬ bm (M 47 10) < bm 16384 → (F_X1_start_131 Q k8 x1 M))))) ∧ (¬ bm (M 47 10) < bm x1 → (F_X1_start_131 Q k8 x1 M))))))
def F_X1_start_8 (Q : g_M → Prop) : Nat → Int → g_M → Prop
  | 0 => fun _ _ => False
  | n + 1 => fun x1 M => F_X10_count (fun v1 M1 => ((bm x1 < bm v1 → ((okI 24 x1 ∧ (okI 25 x1 ∧ (okI 26 x1 ∧ F_X10_node (fun v3 M3 => F_X8_symbol (fun v4 M4 => (okI 28 x1 ∧ ∃ n9, F_X1_start_71 Q (F_X1_start_8 Q n) n9 x1 0 (rs M4 28 x1 v4))) v3 M3) x1 (rs (rs (rs M1 24 x1 x1) 25 x1 x1) 26 x1 1)))))) ∧ (¬ bm x1 < bm v1 → (Q M1)))) M
def F_X1_start (Q : g_M → Prop) (M : g_M) : Prop := ∃ n9, F_X1_start_8 Q n9 0 (up M 47 10 64)
def F_X1_join_66 (Q : g_M → Prop) : Nat → Int → Int → Int → Int → g_M → Prop
  | 0 => fun _ _ _ _ _ => False
  | n + 1 => fun x3 x4 x5 x6 M => ((bm x6 < bm (rg M 26 x4) → ((okI 24 x5 ∧ F_X1_join_66 Q n x3 x4 (rg (rs M 24 x5 x3) 25 x5) (x6 + 1) (rs M 24 x5 x3)))) ∧ (¬ bm x6 < bm (rg M 26 x4) → ((okI 26 x3 ∧ (okI 25 x3 ∧ (okI 25 x4 ∧ Q (rs (rs (rs M 26 x3 ((rg M 26 x3) + (rg M 26 x4))) 25 x3 (rg (rs M 26 x3 ((rg M 26 x3) + (rg M 26 x4))) 25 x4)) 25 x4 (rg (rs M 26 x3 ((rg M 26 x3) + (rg M 26 x4))) 25 x3))))))))
def F_X1_join_59 (Q : g_M → Prop) (x3 x4 : Int) (M : g_M) : Prop := ∃ n9, F_X1_join_66 Q n9 x3 x4 x4 0 M
def F_X1_join (Q : g_M → Prop) (a1 a2 : Int) (M : g_M) : Prop := ((bm (rg M 24 a1) = bm (rg M 24 a2) → (Q M)) ∧ (¬ bm (rg M 24 a1) = bm (rg M 24 a2) → (((bm (rg M 26 (rg M 24 a1)) < bm (rg M 26 (rg M 24 a2)) → (F_X1_join_59 Q (rg M 24 a2) (rg M 24 a1) M)) ∧ (¬ bm (rg M 26 (rg M 24 a1)) < bm (rg M 26 (rg M 24 a2)) → (F_X1_join_59 Q (rg M 24 a1) (rg M 24 a2) M))))))
def F_X9_gather_60 (Q : g_M → Prop) (k10 : Int → Int → Int → Int → g_M → Prop) (x1 x2 x3 x4 : Int) (M : g_M) : Prop := k10 x1 x2 x3 (x4 + 1) M
def F_X9_gather_149 (Q : g_M → Prop) (k92 : Int → Int → g_M → Prop) (x1 x4 : Int) (M : g_M) : Prop := k92 x1 (x4 + 1) M
def F_X9_gather_92 (Q : g_M → Prop) : Nat → Int → Int → g_M → Prop
  | 0 => fun _ _ _ => False
  | n + 1 => fun x1 x4 M => ((bm x4 < bm (M 45 7) → (((bm x4 < bm 30 → (((bm x4 = bm x1 → (F_X9_gather_149 Q (F_X9_gather_92 Q n) x1 x4 M)) ∧ (¬ bm x4 = bm x1 → ((inI x4 30 ∧ F_X10_indexOf (fun v13 M13 => (inI x4 30 ∧ F_X10_indexOf (fun v14 M14 => F_X1_join (fun M15 => F_X9_gather_149 Q (F_X9_gather_92 Q n) x1 x4 M15) v13 v14 M14) (M13 56 (bm x4).toNat) M13)) (M 55 (bm x4).toNat) M)))))) ∧ (¬ bm x4 < bm 30 → (Q M))))) ∧ (¬ bm x4 < bm (M 45 7) → (Q M)))
def F_X9_gather_66 (Q : g_M → Prop) (x1 x2 x3 : Int) (M : g_M) : Prop := F_X10_add (fun M7 => F_X10_add (fun M8 => F_X1_start (fun M9 => ∃ n9, F_X9_gather_92 Q n9 x1 0 M9) M8) x3 M7) x2 M
def F_X9_gather_10 (Q : g_M → Prop) : Nat → Int → Int → Int → Int → g_M → Prop
  | 0 => fun _ _ _ _ _ => False
  | n + 1 => fun x1 x2 x3 x4 M => ((bm x4 < bm (M 45 7) → (((bm x4 < bm 30 → (((bm x4 = bm x1 → (F_X9_gather_60 Q (F_X9_gather_10 Q n) x1 x2 x3 x4 M)) ∧ (¬ bm x4 = bm x1 → ((inI x4 30 ∧ F_X10_add (fun M5 => (inI x4 30 ∧ F_X10_add (fun M6 => F_X9_gather_60 Q (F_X9_gather_10 Q n) x1 x2 x3 x4 M6) (M5 56 (bm x4).toNat) M5)) (M 55 (bm x4).toNat) M)))))) ∧ (¬ bm x4 < bm 30 → (F_X9_gather_66 Q x1 x2 x3 M))))) ∧ (¬ bm x4 < bm (M 45 7) → (F_X9_gather_66 Q x1 x2 x3 M)))
def F_X9_gather (Q : g_M → Prop) (a1 a2 a3 : Int) (M : g_M) : Prop := F_X10_clear (fun M1 => ∃ n9, F_X9_gather_10 Q n9 a1 a2 a3 0 M1) M
def F_X1_bucketOf_11 (Q : Int → g_M → Prop) : Nat → Int → Int → Int → g_M → Prop
  | 0 => fun _ _ _ _ => False
  | n + 1 => fun x1 x2 x3 M => ((bm x3 < bm 3 → (F_X1_bucketOf_11 Q n x1 ((x2 * 8191) + (rg M 24 (rg M 29 ((3 * x1) + x3)))) (x3 + 1) M)) ∧ (¬ bm x3 < bm 3 → (Q (iand (ixor (x2 * 739982445) (iushr (x2 * 739982445) 15)) ((M 47 10) - 1)) M)))
def F_X1_bucketOf (Q : Int → g_M → Prop) (a1 : Int) (M : g_M) : Prop := ∃ n9, F_X1_bucketOf_11 Q n9 a1 (rg M 28 a1) 0 M
def F_X1_areTwins_93 (Q : Int → g_M → Prop) (x3 : Int) (M : g_M) : Prop := isB x3 ∧ Q x3 M
def F_X1_areTwins_86 (Q : Int → g_M → Prop) (k28 : Int → Int → Int → Int → g_M → Prop) (x1 x2 x4 t0 : Int) (M : g_M) : Prop := k28 x1 x2 t0 (x4 + 1) M
def F_X1_areTwins_28 (Q : Int → g_M → Prop) : Nat → Int → Int → Int → Int → g_M → Prop
  | 0 => fun _ _ _ _ _ => False
  | n + 1 => fun x1 x2 x3 x4 M => ((bm x4 < bm 3 → (((bm x3 = 0 → (F_X1_areTwins_93 Q x3 M)) ∧ (¬ bm x3 = 0 → (((bm (rg M 24 (rg M 29 ((3 * x1) + x4))) = bm (rg M 24 (rg M 29 ((3 * x2) + x4))) → (F_X1_areTwins_86 Q (F_X1_areTwins_28 Q n) x1 x2 x4 1 M)) ∧ (¬ bm (rg M 24 (rg M 29 ((3 * x1) + x4))) = bm (rg M 24 (rg M 29 ((3 * x2) + x4))) → (F_X1_areTwins_86 Q (F_X1_areTwins_28 Q n) x1 x2 x4 0 M)))))))) ∧ (¬ bm x4 < bm 3 → (F_X1_areTwins_93 Q x3 M)))
def F_X1_areTwins_24 (Q : Int → g_M → Prop) (x1 x2 t0 : Int) (M : g_M) : Prop := ∃ n9, F_X1_areTwins_28 Q n9 x1 x2 t0 0 M
def F_X1_areTwins (Q : Int → g_M → Prop) (a1 a2 : Int) (M : g_M) : Prop := ((bm (rg M 28 a1) = bm (rg M 28 a2) → (F_X1_areTwins_24 Q a1 a2 1 M)) ∧ (¬ bm (rg M 28 a1) = bm (rg M 28 a2) → (F_X1_areTwins_24 Q a1 a2 0 M)))
def F_X1_joinTwins_189 (Q : Int → g_M → Prop) (k29 : Int → Int → g_M → Prop) (x1 x2 : Int) (M : g_M) : Prop := k29 x1 (x2 + 1) M
def F_X1_joinTwins_122 (Q : Int → g_M → Prop) (k29 : Int → Int → g_M → Prop) (x1 x2 x3 x4 t1 t2 : Int) (M : g_M) : Prop := (okI 27 t1 ∧ ((bm x4 < 0 → ((okI 31 x2 ∧ (okI 30 x3 ∧ F_X1_joinTwins_189 Q k29 x1 x2 (rs (rs (rs M 27 t1 t2) 31 x2 (rg (rs M 27 t1 t2) 30 x3)) 30 x3 (x2 + 1)))))) ∧ (¬ bm x4 < 0 → (((bm (rg (rs M 27 t1 t2) 24 x4) = bm (rg (rs M 27 t1 t2) 24 x2) → (F_X1_joinTwins_189 Q k29 x1 x2 (rs M 27 t1 t2))) ∧ (¬ bm (rg (rs M 27 t1 t2) 24 x4) = bm (rg (rs M 27 t1 t2) 24 x2) → (F_X1_join (fun M13 => F_X1_joinTwins_189 Q k29 1 x2 M13) x4 x2 (rs M 27 t1 t2))))))))
def F_X1_joinTwins_107 (Q : Int → g_M → Prop) (k29 : Int → Int → g_M → Prop) (x1 x2 x3 x4 : Int) (M : g_M) : Prop := ((bm x4 < 0 → (F_X1_joinTwins_122 Q k29 x1 x2 x3 x4 x2 0 M)) ∧ (¬ bm x4 < 0 → (F_X1_joinTwins_122 Q k29 x1 x2 x3 x4 x2 1 M)))
def F_X1_joinTwins_61 (Q : Int → g_M → Prop) (k29 : Int → Int → g_M → Prop) : Nat → Int → Int → Int → Int → Int → g_M → Prop
  | 0 => fun _ _ _ _ _ _ => False
  | n + 1 => fun x1 x2 x3 x4 x5 M => F_X10_count (fun v5 M5 => ((bm x5 < bm v5 → (((bm x4 < 0 → (F_X1_joinTwins_107 Q k29 x1 x2 x3 x4 M5)) ∧ (¬ bm x4 < 0 → (F_X1_areTwins (fun v8 M8 => ((bm v8 = 0 → (F_X1_joinTwins_61 Q k29 n x1 x2 x3 ((rg M8 31 x4) - 1) (x5 + 1) M8)) ∧ (¬ bm v8 = 0 → (F_X1_joinTwins_107 Q k29 x1 x2 x3 x4 M8)))) x2 x4 M5))))) ∧ (¬ bm x5 < bm v5 → (F_X1_joinTwins_107 Q k29 x1 x2 x3 x4 M5)))) M
def F_X1_joinTwins_29 (Q : Int → g_M → Prop) : Nat → Int → Int → g_M → Prop
  | 0 => fun _ _ _ => False
  | n + 1 => fun x1 x2 M => F_X10_count (fun v2 M2 => ((bm x2 < bm v2 → (F_X1_bucketOf (fun v4 M4 => ∃ n9, F_X1_joinTwins_61 Q (F_X1_joinTwins_29 Q n) n9 x1 x2 v4 ((rg M4 30 v4) - 1) 0 M4) x2 M2)) ∧ (¬ bm x2 < bm v2 → (isB x1 ∧ Q x1 M2)))) M
def F_X1_joinTwins_4 (Q : Int → g_M → Prop) : Nat → Int → Int → g_M → Prop
  | 0 => fun _ _ _ => False
  | n + 1 => fun x1 x2 M => ((bm x2 < bm (M 47 10) → ((okI 30 x2 ∧ F_X1_joinTwins_4 Q n x1 (x2 + 1) (rs M 30 x2 0)))) ∧ (¬ bm x2 < bm (M 47 10) → (∃ n9, F_X1_joinTwins_29 Q n9 x1 0 M)))
def F_X1_joinTwins (Q : Int → g_M → Prop) (M : g_M) : Prop := ∃ n9, F_X1_joinTwins_4 Q n9 0 0 M
def F_X1_close_2 (Q : g_M → Prop) : Nat → Int → g_M → Prop
  | 0 => fun _ _ => False
  | n + 1 => fun x1 M => F_X10_count (fun v1 M1 => ((bm v1 < bm x1 → (Q M1)) ∧ (¬ bm v1 < bm x1 → (F_X1_joinTwins (fun v3 M3 => ((bm v3 = 0 → (Q M3)) ∧ (¬ bm v3 = 0 → (F_X1_close_2 Q n (x1 + 1) M3)))) M1)))) M
def F_X1_close (Q : g_M → Prop) (M : g_M) : Prop := ∃ n9, F_X1_close_2 Q n9 0 M
def F_X1_pourInto_109 (Q : g_M → Prop) (k13 : Int → g_M → Prop) (x2 : Int) (M : g_M) : Prop := k13 (x2 + 1) M
def F_X1_pourInto_66 (Q : g_M → Prop) (k13 : Int → g_M → Prop) : Nat → Int → Int → Int → g_M → Prop
  | 0 => fun _ _ _ _ => False
  | n + 1 => fun x2 x3 x4 M => F_X2_arity (fun v9 M9 => ((bm x4 < bm v9 → (F_X2_setPart (fun M11 => F_X1_pourInto_66 Q k13 n x2 x3 (x4 + 1) M11) x3 x4 (rg M9 24 (rg M9 29 ((3 * x2) + x4))) M9)) ∧ (¬ bm x4 < bm v9 → (F_X1_pourInto_109 Q k13 x2 M9)))) x3 M
def F_X1_pourInto_13 (Q : g_M → Prop) : Nat → Int → g_M → Prop
  | 0 => fun _ _ => False
  | n + 1 => fun x2 M => F_X10_count (fun v3 M3 => ((bm x2 < bm v3 → (((bm (rg M3 27 x2) = 0 → (F_X10_node (fun v6 M6 => F_X8_symbol (fun v7 M7 => F_X2_addProduction (fun v8 M8 => ∃ n9, F_X1_pourInto_66 Q (F_X1_pourInto_13 Q n) n9 x2 v8 0 M8) (rg M3 24 x2) v7 M7) v6 M6) x2 M3)) ∧ (¬ bm (rg M3 27 x2) = 0 → (F_X1_pourInto_109 Q (F_X1_pourInto_13 Q n) x2 M3))))) ∧ (¬ bm x2 < bm v3 → (Q M3)))) M
def F_X1_pourInto (Q : g_M → Prop) (M : g_M) : Prop := F_X10_count (fun v1 M1 => F_X2_clear (fun M2 => ∃ n9, F_X1_pourInto_13 Q n9 0 M2) v1 M1) M
def F_X2_sequenceCount (Q : Int → g_M → Prop) (M : g_M) : Prop := Q (M 44 18) M
def F_X2_ranked (Q : Int → g_M → Prop) (a1 : Int) (M : g_M) : Prop := Q (rg M 22 a1) M
def F_X2_owner (Q : Int → g_M → Prop) (a1 : Int) (M : g_M) : Prop := Q (rg M 10 a1) M
def F_X2_choice (Q : Int → g_M → Prop) (a1 : Int) (M : g_M) : Prop := Q (rg M 20 a1) M
def F_X2_termSize (Q : Int → g_M → Prop) (a1 : Int) (M : g_M) : Prop := Q (rg M 17 a1) M
def F_X2_termDepth (Q : Int → g_M → Prop) (a1 : Int) (M : g_M) : Prop := Q (rg M 18 a1) M
def F_X9_isTooLargeSide (Q : Int → g_M → Prop) (a1 : Int) (M : g_M) : Prop := F_X2_termSize (fun v1 M1 => ((bm 300 < bm v1 → (Q 1 M1)) ∧ (¬ bm 300 < bm v1 → (F_X2_termDepth (fun v3 M3 => ((bm 40 < bm v3 → (Q 1 M3)) ∧ (¬ bm 40 < bm v3 → (Q 0 M3)))) a1 M1)))) a1 M
def F_X2_dropNeeds_2 (Q : g_M → Prop) : Nat → Int → g_M → Prop
  | 0 => fun _ _ => False
  | n + 1 => fun x1 M => ((bm x1 < bm (M 44 15) → ((okI 13 x1 ∧ F_X2_dropNeeds_2 Q n (x1 + 1) (rs M 13 x1 0)))) ∧ (¬ bm x1 < bm (M 44 15) → (Q M)))
def F_X2_dropNeeds (Q : g_M → Prop) (M : g_M) : Prop := ∃ n9, F_X2_dropNeeds_2 Q n9 0 M
def F_X2_need (Q : g_M → Prop) (a1 : Int) (M : g_M) : Prop := (okI 13 a1 ∧ Q (rs M 13 a1 1))
def F_X2_needParts_2 (Q : g_M → Prop) : Nat → Int → Int → g_M → Prop
  | 0 => fun _ _ _ => False
  | n + 1 => fun x1 x2 M => F_X2_arity (fun v1 M1 => ((bm x2 < bm v1 → ((okI 13 (rg M1 12 ((3 * x1) + x2)) ∧ F_X2_needParts_2 Q n x1 (x2 + 1) (rs M1 13 (rg M1 12 ((3 * x1) + x2)) 1)))) ∧ (¬ bm x2 < bm v1 → (Q M1)))) x1 M
def F_X2_needParts (Q : g_M → Prop) (a1 : Int) (M : g_M) : Prop := ∃ n9, F_X2_needParts_2 Q n9 a1 0 M
def F_X2_isNeeded (Q : Int → g_M → Prop) (a1 : Int) (M : g_M) : Prop := ((bm (rg M 20 (rg M 10 a1)) = bm a1 → (((bm (rg M 13 (rg M 10 a1)) = bm 1 → (Q 1 M)) ∧ (¬ bm (rg M 13 (rg M 10 a1)) = bm 1 → (Q 0 M))))) ∧ (¬ bm (rg M 20 (rg M 10 a1)) = bm a1 → (Q 0 M)))
def F_X2_spreadNeeds_33 (Q : g_M → Prop) (k7 : Int → g_M → Prop) (x1 : Int) (M : g_M) : Prop := k7 (x1 + (-1)) M
def F_X2_spreadNeeds_7 (Q : g_M → Prop) : Nat → Int → g_M → Prop
  | 0 => fun _ _ => False
  | n + 1 => fun x1 M => ((bm x1 < 0 → (Q M)) ∧ (¬ bm x1 < 0 → (F_X2_isNeeded (fun v2 M2 => ((bm v2 = 0 → (F_X2_spreadNeeds_33 Q (F_X2_spreadNeeds_7 Q n) x1 M2)) ∧ (¬ bm v2 = 0 → (F_X2_needParts (fun M4 => F_X2_spreadNeeds_33 Q (F_X2_spreadNeeds_7 Q n) x1 M4) (rg M 22 x1) M2)))) (rg M 22 x1) M)))
def F_X2_spreadNeeds (Q : g_M → Prop) (M : g_M) : Prop := ∃ n9, F_X2_spreadNeeds_7 Q n9 ((M 44 18) - 1) M
def F_X2_makeTerm_93 (Q : Int → g_M → Prop) (x1 x5 x6 t0 : Int) (M : g_M) : Prop := F_X8_make (fun v5 M5 => Q v5 M5) (rg M 11 x1) x5 x6 t0 M
def F_X2_makeTerm_64 (Q : Int → g_M → Prop) (x1 x3 x4 x5 t0 : Int) (M : g_M) : Prop := ((bm 2 < bm x4 → (F_X2_makeTerm_93 Q x1 x5 t0 (rg M 23 (rg M 12 (x3 + 2))) M)) ∧ (¬ bm 2 < bm x4 → (F_X2_makeTerm_93 Q x1 x5 t0 (-1) M)))
def F_X2_makeTerm_35 (Q : Int → g_M → Prop) (x1 x3 x4 t0 : Int) (M : g_M) : Prop := ((bm 1 < bm x4 → (F_X2_makeTerm_64 Q x1 x3 x4 t0 (rg M 23 (rg M 12 (x3 + 1))) M)) ∧ (¬ bm 1 < bm x4 → (F_X2_makeTerm_64 Q x1 x3 x4 t0 (-1) M)))
def F_X2_makeTerm (Q : Int → g_M → Prop) (a1 : Int) (M : g_M) : Prop := F_X2_arity (fun v1 M1 => ((0 < bm v1 → (F_X2_makeTerm_35 Q a1 (3 * a1) v1 (rg M1 23 (rg M1 12 (3 * a1))) M1)) ∧ (¬ 0 < bm v1 → (F_X2_makeTerm_35 Q a1 (3 * a1) v1 (-1) M1)))) a1 M
def F_X2_leastTerm (Q : Int → g_M → Prop) (a1 : Int) (M : g_M) : Prop := Q (rg M 23 a1) M
def F_X9_addRule (Q : g_M → Prop) (a1 a2 : Int) (M : g_M) : Prop := ((bm (M 45 17) < 0 → (Q M)) ∧ (¬ bm (M 45 17) < 0 → (((bm (M 45 17) < bm 30 → ((inI (M 45 17) 30 ∧ (inI ((up M 59 (bm (M 45 17)).toNat a1) 45 17) 30 ∧ (okI 32 a1 ∧ Q (up (rs (up (up M 59 (bm (M 45 17)).toNat a1) 60 (bm ((up M 59 (bm (M 45 17)).toNat a1) 45 17)).toNat a2) 32 a1 ((up (up M 59 (bm (M 45 17)).toNat a1) 60 (bm ((up M 59 (bm (M 45 17)).toNat a1) 45 17)).toNat a2) 45 17)) 45 17 (((rs (up (up M 59 (bm (M 45 17)).toNat a1) 60 (bm ((up M 59 (bm (M 45 17)).toNat a1) 45 17)).toNat a2) 32 a1 ((up (up M 59 (bm (M 45 17)).toNat a1) 60 (bm ((up M 59 (bm (M 45 17)).toNat a1) 45 17)).toNat a2) 45 17)) 45 17) + 1))))))) ∧ (¬ bm (M 45 17) < bm 30 → (Q M))))))
def F_X2_setLeastTerm (Q : g_M → Prop) (a1 a2 : Int) (M : g_M) : Prop := (okI 23 a1 ∧ Q (rs M 23 a1 a2))
def F_X9_takeRules_71 (Q : g_M → Prop) (k9 : Int → g_M → Prop) (x1 : Int) (M : g_M) : Prop := k9 (x1 + 1) M
def F_X9_takeRules_190 (Q : g_M → Prop) (k91 : Int → g_M → Prop) (x1 : Int) (M : g_M) : Prop := k91 (x1 + 1) M
def F_X9_takeRules_91 (Q : g_M → Prop) : Nat → Int → g_M → Prop
  | 0 => fun _ _ => False
  | n + 1 => fun x1 M => F_X2_sequenceCount (fun v12 M12 => ((bm x1 < bm v12 → (F_X2_ranked (fun v14 M14 => F_X2_owner (fun v15 M15 => F_X2_isNeeded (fun v16 M16 => ((bm v16 = 0 → (F_X2_choice (fun v18 M18 => ((bm v18 = bm v14 → (F_X9_takeRules_190 Q (F_X9_takeRules_91 Q n) x1 M18)) ∧ (¬ bm v18 = bm v14 → (F_X2_makeTerm (fun v20 M20 => F_X2_leastTerm (fun v21 M21 => F_X9_addRule (fun M22 => F_X9_takeRules_190 Q (F_X9_takeRules_91 Q n) x1 M22) v20 v21 M21) v15 M20) v14 M18)))) v15 M16)) ∧ (¬ bm v16 = 0 → (F_X2_makeTerm (fun v23 M23 => F_X2_setLeastTerm (fun M24 => F_X9_takeRules_190 Q (F_X9_takeRules_91 Q n) x1 M24) v15 v23 M23) v14 M16)))) v14 M15) v14 M14) x1 M12)) ∧ (¬ bm x1 < bm v12 → (Q M12)))) M
def F_X9_takeRules_9 (Q : g_M → Prop) : Nat → Int → g_M → Prop
  | 0 => fun _ _ => False
  | n + 1 => fun x1 M => F_X2_sequenceCount (fun v2 M2 => ((bm x1 < bm v2 → (F_X2_ranked (fun v4 M4 => F_X2_owner (fun v5 M5 => F_X2_choice (fun v6 M6 => ((bm v6 = bm v4 → (F_X9_takeRules_71 Q (F_X9_takeRules_9 Q n) x1 M6)) ∧ (¬ bm v6 = bm v4 → (F_X2_owner (fun v8 M8 => F_X2_need (fun M9 => F_X2_needParts (fun M10 => F_X9_takeRules_71 Q (F_X9_takeRules_9 Q n) x1 M10) v4 M9) v8 M8) v4 M6)))) v5 M5) v4 M4) x1 M2)) ∧ (¬ bm x1 < bm v2 → (F_X2_spreadNeeds (fun M11 => ∃ n9, F_X9_takeRules_91 Q n9 0 (up M11 45 17 0)) M2)))) M
def F_X9_takeRules (Q : g_M → Prop) (M : g_M) : Prop := F_X2_dropNeeds (fun M1 => ∃ n9, F_X9_takeRules_9 Q n9 0 M1) M
def F_X9_complete_100 (Q : Int → g_M → Prop) (k41 : Int → g_M → Prop) (x1 : Int) (M : g_M) : Prop := k41 (x1 + 1) M
def F_X9_complete_41 (Q : Int → g_M → Prop) : Nat → Int → g_M → Prop
  | 0 => fun _ _ => False
  | n + 1 => fun x1 M => F_X2_sequenceCount (fun v6 M6 => ((bm x1 < bm v6 → (F_X2_ranked (fun v8 M8 => F_X2_owner (fun v9 M9 => F_X2_choice (fun v10 M10 => ((bm v8 = bm v10 → (F_X9_complete_100 Q (F_X9_complete_41 Q n) x1 M10)) ∧ (¬ bm v8 = bm v10 → (F_X9_isTooLargeSide (fun v12 M12 => ((bm v12 = 0 → (F_X9_isTooLargeSide (fun v14 M14 => ((bm v14 = 0 → (F_X9_complete_100 Q (F_X9_complete_41 Q n) x1 M14)) ∧ (¬ bm v14 = 0 → (Q 0 M14)))) v10 M12)) ∧ (¬ bm v12 = 0 → (Q 0 M12)))) v8 M10)))) v9 M9) v8 M8) x1 M6)) ∧ (¬ bm x1 < bm v6 → (F_X9_takeRules (fun M16 => Q 1 M16) M6)))) M
def F_X9_complete (Q : Int → g_M → Prop) (M : g_M) : Prop := F_X9_gather (fun M1 => F_X1_close (fun M2 => F_X1_pourInto (fun M3 => F_X7_orderMode (fun v4 M4 => F_X2_rank (fun M5 => ∃ n9, F_X9_complete_41 Q n9 0 M5) v4 M4) M3) M2) M1) (-1) (-1) (-1) M
def F_X9_goBack (Q : g_M → Prop) (a1 a2 : Int) (M : g_M) : Prop := Q (up (up M 45 7 a1) 45 10 a2)
def F_X11_equate (Q : Int → g_M → Prop) (QE : g_M → Prop) (a1 a2 : Int) (M : g_M) : Prop := F_X11_isTerm (fun v1 M1 => ((bm v1 = 0 → (False)) ∧ (¬ bm v1 = 0 → (F_X11_isTerm (fun v3 M3 => ((bm v3 = 0 → (False)) ∧ (¬ bm v3 = 0 → (F_X8_isGround (fun v5 M5 => ((bm v5 = 0 → (False)) ∧ (¬ bm v5 = 0 → (F_X8_isGround (fun v7 M7 => ((bm v7 = 0 → (False)) ∧ (¬ bm v7 = 0 → (((bm (M7 45 7) < bm 30 → (F_X11_tidy (fun M10 => F_X9_addEquation (fun M11 => F_X9_complete (fun v12 M12 => ((bm v12 = 0 → (F_X9_goBack (fun M14 => M14 99 0 < 1000 ∧ QE (up M14 99 0 (M14 99 0 + 1))) ((M12 45 7) - 1) (M12 45 10) M12)) ∧ (¬ bm v12 = 0 → (Q ((M12 45 7) - 1) M12)))) M11) (rg M10 33 a1) (rg M10 33 a2) M10) M7)) ∧ (¬ bm (M7 45 7) < bm 30 → (False))))))) (rg M5 33 a2) M5)))) (rg M3 33 a1) M3)))) a2 M1)))) a1 M
def F_X11_equationCount (Q : Int → g_M → Prop) (M : g_M) : Prop := Q (M 45 7) M
def F_X9_openLevel (Q : g_M → Prop) (M : g_M) : Prop := ((bm (M 45 13) < 0 → (Q M)) ∧ (¬ bm (M 45 13) < 0 → (((bm (M 45 13) < bm 8 → ((inI (M 45 13) 8 ∧ (inI ((up M 57 (bm (M 45 13)).toNat (M 45 7)) 45 13) 8 ∧ Q (up (up (up M 57 (bm (M 45 13)).toNat (M 45 7)) 58 (bm ((up M 57 (bm (M 45 13)).toNat (M 45 7)) 45 13)).toNat ((up M 57 (bm (M 45 13)).toNat (M 45 7)) 45 10)) 45 13 (((up (up M 57 (bm (M 45 13)).toNat (M 45 7)) 58 (bm ((up M 57 (bm (M 45 13)).toNat (M 45 7)) 45 13)).toNat ((up M 57 (bm (M 45 13)).toNat (M 45 7)) 45 10)) 45 13) + 1)))))) ∧ (¬ bm (M 45 13) < bm 8 → (Q M))))))
def F_X11_push (Q : Int → g_M → Prop) (M : g_M) : Prop := ((bm (M 45 13) < bm 8 → (F_X9_openLevel (fun M2 => Q (M2 45 13) M2) M)) ∧ (¬ bm (M 45 13) < bm 8 → (False)))
def F_X9_closeLevel (Q : g_M → Prop) (M : g_M) : Prop := ((0 < bm (M 45 13) → (((bm 8 < bm (M 45 13) → (Q M)) ∧ (¬ bm 8 < bm (M 45 13) → ((inI ((up M 45 13 ((M 45 13) - 1)) 45 13) 8 ∧ (inI ((up M 45 13 ((M 45 13) - 1)) 45 13) 8 ∧ F_X9_goBack (fun M3 => Q M3) ((up M 45 13 ((M 45 13) - 1)) 57 (bm ((up M 45 13 ((M 45 13) - 1)) 45 13)).toNat) ((up M 45 13 ((M 45 13) - 1)) 58 (bm ((up M 45 13 ((M 45 13) - 1)) 45 13)).toNat) (up M 45 13 ((M 45 13) - 1))))))))) ∧ (¬ 0 < bm (M 45 13) → (Q M)))
def F_X11_pop (Q : Int → g_M → Prop) (QE : g_M → Prop) (M : g_M) : Prop := ((0 < bm (M 45 13) → (F_X11_tidy (fun M2 => F_X9_closeLevel (fun M3 => F_X9_complete (fun v4 M4 => Q (M4 45 13) M4) M3) M2) M)) ∧ (¬ 0 < bm (M 45 13) → (M 99 0 < 1000 ∧ QE (up M 99 0 (M 99 0 + 1)))))
def F_X10_rebuild_87 (Q : Int → g_M → Prop) (x2 x4 x5 t0 : Int) (M : g_M) : Prop := F_X8_symbol (fun v8 M8 => F_X8_make (fun v9 M9 => Q v9 M9) v8 x4 x5 t0 M8) x2 M
def F_X10_rebuild_63 (Q : Int → g_M → Prop) (x1 x2 x3 x4 t0 : Int) (M : g_M) : Prop := ((bm 2 < bm x3 → (F_X10_partOf (fun v7 M7 => F_X10_rebuild_87 Q x2 x4 t0 (rg M7 8 v7) M7) x1 2 M)) ∧ (¬ bm 2 < bm x3 → (F_X10_rebuild_87 Q x2 x4 t0 (-1) M)))
def F_X10_rebuild_39 (Q : Int → g_M → Prop) (x1 x2 x3 t0 : Int) (M : g_M) : Prop := ((bm 1 < bm x3 → (F_X10_partOf (fun v5 M5 => F_X10_rebuild_63 Q x1 x2 x3 t0 (rg M5 8 v5) M5) x1 1 M)) ∧ (¬ bm 1 < bm x3 → (F_X10_rebuild_63 Q x1 x2 x3 t0 (-1) M)))
def F_X10_rebuild (Q : Int → g_M → Prop) (a1 : Int) (M : g_M) : Prop := F_X8_arity (fun v1 M1 => ((0 < bm v1 → (F_X10_partOf (fun v3 M3 => F_X10_rebuild_39 Q a1 (rg M 7 a1) v1 (rg M3 8 v3) M3) a1 0 M1)) ∧ (¬ 0 < bm v1 → (F_X10_rebuild_39 Q a1 (rg M 7 a1) v1 (-1) M1)))) (rg M 7 a1) M
def F_X9_ruleFor (Q : Int → g_M → Prop) (a1 : Int) (M : g_M) : Prop := ((bm (rg M 32 a1) < 0 → (Q (-1) M)) ∧ (¬ bm (rg M 32 a1) < 0 → (((bm (rg M 32 a1) < bm (M 45 17) → (((bm (rg M 32 a1) < bm 30 → ((inI (rg M 32 a1) 30 ∧ ((bm (M 59 (bm (rg M 32 a1)).toNat) = bm a1 → (Q (rg M 32 a1) M)) ∧ (¬ bm (M 59 (bm (rg M 32 a1)).toNat) = bm a1 → (Q (-1) M)))))) ∧ (¬ bm (rg M 32 a1) < bm 30 → (Q (-1) M))))) ∧ (¬ bm (rg M 32 a1) < bm (M 45 17) → (Q (-1) M))))))
def F_X9_rightSide (Q : Int → g_M → Prop) (a1 : Int) (M : g_M) : Prop := ((bm a1 < 0 → (Q (-1) M)) ∧ (¬ bm a1 < 0 → (((bm a1 < bm 30 → ((inI a1 30 ∧ Q (M 60 (bm a1).toNat) M))) ∧ (¬ bm a1 < bm 30 → (Q (-1) M))))))
def F_X10_value (Q : Int → g_M → Prop) (a1 : Int) (M : g_M) : Prop := Q (rg M 8 a1) M
def F_X10_setValue (Q : g_M → Prop) (a1 a2 : Int) (M : g_M) : Prop := (okI 8 a1 ∧ Q (rs M 8 a1 a2))
def F_X10_sumOfParts_4 (Q : Int → g_M → Prop) : Nat → Int → Int → Int → g_M → Prop
  | 0 => fun _ _ _ _ => False
  | n + 1 => fun x1 x2 x3 M => F_X8_arity (fun v1 M1 => ((bm x3 < bm v1 → (F_X10_partOf (fun v3 M3 => F_X10_sumOfParts_4 Q n x1 (x2 + (rg M3 9 v3)) (x3 + 1) M3) x1 x3 M1)) ∧ (¬ bm x3 < bm v1 → (Q x2 M1)))) (rg M 7 x1) M
def F_X10_sumOfParts (Q : Int → g_M → Prop) (a1 : Int) (M : g_M) : Prop := ∃ n9, F_X10_sumOfParts_4 Q n9 a1 0 0 M
def F_X10_setTally (Q : g_M → Prop) (a1 a2 : Int) (M : g_M) : Prop := (okI 9 a1 ∧ Q (rs M 9 a1 a2))
def F_X9_normalize_92 (Q : Int → g_M → Prop) (k17 : Int → g_M → Prop) (x2 t1 t2 t3 : Int) (M : g_M) : Prop := F_X10_setTally (fun M14 => k17 (x2 + 1) M14) t1 (t2 + t3) M
def F_X9_normalize_65 (Q : Int → g_M → Prop) (k17 : Int → g_M → Prop) (x2 x4 t1 t2 : Int) (M : g_M) : Prop := F_X10_setValue (fun M11 => F_X10_sumOfParts (fun v12 M12 => ((bm x4 = bm (-1) → (F_X9_normalize_92 Q k17 x2 x2 v12 0 M12)) ∧ (¬ bm x4 = bm (-1) → (F_X9_normalize_92 Q k17 x2 x2 v12 1 M12)))) x2 M11) t1 t2 M
def F_X9_normalize_17 (Q : Int → g_M → Prop) : Nat → Int → g_M → Prop
  | 0 => fun _ _ => False
  | n + 1 => fun x2 M => F_X10_count (fun v3 M3 => ((bm x2 < bm v3 → (F_X10_rebuild (fun v5 M5 => F_X9_ruleFor (fun v6 M6 => ((bm v6 = bm (-1) → (F_X9_normalize_65 Q (F_X9_normalize_17 Q n) x2 v6 x2 v5 M6)) ∧ (¬ bm v6 = bm (-1) → (F_X9_rightSide (fun v8 M8 => F_X9_normalize_65 Q (F_X9_normalize_17 Q n) x2 v6 x2 v8 M8) v6 M6)))) v5 M5) x2 M3)) ∧ (¬ bm x2 < bm v3 → (F_X10_count (fun v9 M9 => F_X10_value (fun v10 M10 => Q v10 M10) (v9 - 1) M9) M3)))) M
def F_X9_normalize (Q : Int → g_M → Prop) (a1 : Int) (M : g_M) : Prop := F_X10_clear (fun M1 => F_X10_add (fun M2 => ∃ n9, F_X9_normalize_17 Q n9 0 M2) a1 M1) M
def F_X11_normalForm (Q : Int → g_M → Prop) (QE : g_M → Prop) (a1 : Int) (M : g_M) : Prop := F_X11_isTerm (fun v1 M1 => ((bm v1 = 0 → (False)) ∧ (¬ bm v1 = 0 → (F_X11_tidy (fun M3 => F_X9_normalize (fun v4 M4 => F_X8_isTooLarge (fun v5 M5 => ((bm v5 = 0 → (F_X11_giveNumber (fun v7 M7 => Q v7 M7) v4 M5)) ∧ (¬ bm v5 = 0 → (M5 99 0 < 1000 ∧ QE (up M5 99 0 (M5 99 0 + 1)))))) v4 M4) (rg M3 33 a1) M3) M1)))) a1 M
def F_X9_makesEqual (Q : Int → g_M → Prop) (a1 a2 : Int) (M : g_M) : Prop := ((bm a1 = bm a2 → (Q 1 M)) ∧ (¬ bm a1 = bm a2 → (F_X9_normalize (fun v2 M2 => F_X9_normalize (fun v3 M3 => ((bm v2 = bm v3 → (Q 1 M3)) ∧ (¬ bm v2 = bm v3 → (Q 0 M3)))) a2 M2) a1 M)))
def F_X11_areEqual (Q : Int → g_M → Prop) (a1 a2 : Int) (M : g_M) : Prop := F_X11_isTerm (fun v1 M1 => ((bm v1 = 0 → (False)) ∧ (¬ bm v1 = 0 → (F_X11_isTerm (fun v3 M3 => ((bm v3 = 0 → (False)) ∧ (¬ bm v3 = 0 → (F_X11_tidy (fun M5 => F_X9_makesEqual (fun v6 M6 => isB v6 ∧ Q v6 M6) (rg M5 33 a1) (rg M5 33 a2) M5) M3)))) a2 M1)))) a1 M
def F_X10_tally (Q : Int → g_M → Prop) (a1 : Int) (M : g_M) : Prop := Q (rg M 9 a1) M
def F_X9_countSteps (Q : Int → g_M → Prop) (a1 : Int) (M : g_M) : Prop := F_X9_normalize (fun v1 M1 => F_X10_count (fun v2 M2 => F_X10_tally (fun v3 M3 => Q v3 M3) (v2 - 1) M2) M1) a1 M
def F_X11_stepCount (Q : Int → g_M → Prop) (a1 : Int) (M : g_M) : Prop := F_X11_isTerm (fun v1 M1 => ((bm v1 = 0 → (False)) ∧ (¬ bm v1 = 0 → (F_X11_tidy (fun M3 => F_X9_countSteps (fun v4 M4 => Q v4 M4) (rg M3 33 a1) M3) M1)))) a1 M
def F_L_below (Q : Int → g_M → Prop) (a0 a1 : Int) (M : g_M) : Prop := (bm a1 ≠ 0 ∧ Q (irem (iand a0 2147483647) a1) M)
def F_L_cell (Ls : Nat) (xs : Nat → Int32) (Q : Int → g_M → Prop) (a1 : Int) (M : g_M) : Prop := ((bm a1 < bm (Ls : Int) → ((inI a1 Ls ∧ Q ((xs (bm a1).toNat).toInt) M))) ∧ (¬ bm a1 < bm (Ls : Int) → (Q (790386105 * (a1 + 3)) M)))
def F_L_declare (Q : Int → g_M → Prop) (a1 a2 a3 : Int) (M : g_M) : Prop := F_X11_feed (fun v1 M1 => ((bm v1 = bm 20 → (F_X11_trim (fun v3 M3 => ((bm v3 = bm 1 → (F_X11_declare (fun v5 M5 => Q v5 M5) a2 a3 M3)) ∧ (¬ bm v3 = bm 1 → (Q (-1) M3)))) 1 M1)) ∧ (¬ bm v1 = bm 20 → (Q (-1) M1)))) (ishl a1 24) 0 0 0 0 M
def F_L_setUp_149 (Q : Int → g_M → Prop) (x3 x4 t1 t2 : Int) (M : g_M) : Prop := F_X11_setDirection (fun v21 M21 => ((bm v21 = 0 → (F_X11_promote (fun v23 M23 => ((bm v23 = bm x3 → (F_X11_rankOf (fun v25 M25 => ((bm v25 = bm x4 → (Q 1 M25)) ∧ (¬ bm v25 = bm x4 → (Q 0 M25)))) x3 M23)) ∧ (¬ bm v23 = bm x3 → (Q 0 M23)))) x3 x4 M21)) ∧ (¬ bm v21 = 0 → (Q 0 M21)))) t1 t2 M
def F_L_setUp_129 (Q : Int → g_M → Prop) (x1 x3 x4 t1 : Int) (M : g_M) : Prop := F_X11_orderByWeight (fun v18 M18 => ((bm v18 = 0 → (((bm (iand x1 2) = bm 2 → (F_L_setUp_149 Q x3 x4 4 1 M18)) ∧ (¬ bm (iand x1 2) = bm 2 → (F_L_setUp_149 Q x3 x4 4 0 M18))))) ∧ (¬ bm v18 = 0 → (Q 0 M18)))) t1 M
def F_L_setUp_92 (Q : Int → g_M → Prop) (x1 t0 : Int) (M : g_M) : Prop := F_L_below (fun v14 M14 => F_L_below (fun v15 M15 => ((bm t0 = 0 → (Q 0 M15)) ∧ (¬ bm t0 = 0 → (((bm (iand x1 1) = bm 1 → (F_L_setUp_129 Q x1 v14 v15 1 M15)) ∧ (¬ bm (iand x1 1) = bm 1 → (F_L_setUp_129 Q x1 v14 v15 0 M15))))))) (ishr x1 12) 5 M14) (ishr x1 8) 5 M
def F_L_setUp_91 (Q : Int → g_M → Prop) (x1 : Int) (M : g_M) : Prop := F_L_setUp_92 Q x1 0 M
def F_L_setUp_49 (Q : Int → g_M → Prop) (x1 t0 : Int) (M : g_M) : Prop := ((bm t0 = 0 → (F_L_setUp_91 Q x1 M)) ∧ (¬ bm t0 = 0 → (F_L_below (fun v9 M9 => F_L_declare (fun v10 M10 => ((bm v10 = bm 3 → (F_L_declare (fun v12 M12 => ((bm v12 = bm 4 → (F_L_setUp_92 Q x1 1 M12)) ∧ (¬ bm v12 = bm 4 → (F_L_setUp_91 Q x1 M12)))) 103 2 1 M10)) ∧ (¬ bm v10 = bm 3 → (F_L_setUp_91 Q x1 M10)))) 102 1 (1 + v9) M9) (ishr x1 24) 3 M)))
def F_L_setUp_48 (Q : Int → g_M → Prop) (x1 : Int) (M : g_M) : Prop := F_L_setUp_49 Q x1 0 M
def F_L_setUp (Q : Int → g_M → Prop) (a1 : Int) (M : g_M) : Prop := F_L_below (fun v1 M1 => F_L_declare (fun v2 M2 => ((bm v2 = 0 → (F_L_declare (fun v4 M4 => ((bm v4 = bm 1 → (F_L_declare (fun v6 M6 => ((bm v6 = bm 2 → (F_L_setUp_49 Q a1 1 M6)) ∧ (¬ bm v6 = bm 2 → (F_L_setUp_48 Q a1 M6)))) 99 0 2 M4)) ∧ (¬ bm v4 = bm 1 → (F_L_setUp_48 Q a1 M4)))) 98 0 1 M2)) ∧ (¬ bm v2 = 0 → (F_L_setUp_48 Q a1 M2)))) 97 0 (1 + v1) M1) (ishr a1 20) 3 M
def F_L_build_183 (Ls : Nat) (xs : Nat → Int32) (Q : g_M → g_M → Prop) (k3 : Int → Int → g_M → g_M → Prop) (x2 x6 t1 t2 : Int) (M N : g_M) : Prop := (inI t1 14 ∧ k3 x2 (x6 + 1) M (up N 0 (bm t1).toNat t2))
def F_L_build_171 (Ls : Nat) (xs : Nat → Int32) (Q : g_M → g_M → Prop) (k3 : Int → Int → g_M → g_M → Prop) (x2 x6 x8 x9 t1 t3 : Int) (M N : g_M) : Prop := (inI x8 14 ∧ (inI x9 14 ∧ F_X11_term (fun v17 M17 => F_L_build_183 Ls xs Q k3 x2 x6 t1 v17 M17 N) t3 (N 0 (bm x8).toNat) (N 0 (bm x9).toNat) 0 M))
def F_L_build_135 (Ls : Nat) (xs : Nat → Int32) (Q : g_M → g_M → Prop) (k3 : Int → Int → g_M → g_M → Prop) (x2 x6 x8 x9 t1 t2 : Int) (M N : g_M) : Prop := (inI t1 14 ∧ ((bm x6 < bm 3 → (F_X11_term (fun v15 M15 => F_L_build_183 Ls xs Q k3 x2 x6 x6 v15 M15 (up N 2 (bm t1).toNat t2)) x6 0 0 0 M)) ∧ (¬ bm x6 < bm 3 → ((inI x6 14 ∧ ((bm ((up N 2 (bm t1).toNat t2) 2 (bm x6).toNat) < 0 → (F_L_build_171 Ls xs Q k3 x2 x6 x8 x9 x6 3 M (up N 2 (bm t1).toNat t2))) ∧ (¬ bm ((up N 2 (bm t1).toNat t2) 2 (bm x6).toNat) < 0 → (F_L_build_171 Ls xs Q k3 x2 x6 x8 x9 x6 4 M (up N 2 (bm t1).toNat t2)))))))))
def F_L_build_111 (Ls : Nat) (xs : Nat → Int32) (Q : g_M → g_M → Prop) (k3 : Int → Int → g_M → g_M → Prop) (x2 x6 x7 x8 x9 t1 t2 : Int) (M N : g_M) : Prop := (inI t1 14 ∧ ((bm x6 < bm 3 → (F_L_build_135 Ls xs Q k3 x2 x6 x8 x9 x6 (-1) M (up N 1 (bm t1).toNat t2))) ∧ (¬ bm x6 < bm 3 → (((bm (iand x7 3) = 0 → (F_L_build_135 Ls xs Q k3 x2 x6 x8 x9 x6 (-1) M (up N 1 (bm t1).toNat t2))) ∧ (¬ bm (iand x7 3) = 0 → (F_L_build_135 Ls xs Q k3 x2 x6 x8 x9 x6 x9 M (up N 1 (bm t1).toNat t2))))))))
def F_L_build_95 (Ls : Nat) (xs : Nat → Int32) (Q : g_M → g_M → Prop) (k3 : Int → Int → g_M → g_M → Prop) (x2 x6 x7 x8 x9 : Int) (M N : g_M) : Prop := ((bm x6 < bm 3 → (F_L_build_111 Ls xs Q k3 x2 x6 x7 x8 x9 x6 (-1) M N)) ∧ (¬ bm x6 < bm 3 → (F_L_build_111 Ls xs Q k3 x2 x6 x7 x8 x9 x6 x8 M N)))
def F_L_build_73 (Ls : Nat) (xs : Nat → Int32) (Q : g_M → g_M → Prop) (k3 : Int → Int → g_M → g_M → Prop) (x2 x6 x7 x8 x9 : Int) (M N : g_M) : Prop := ((bm x6 < bm 3 → (F_L_build_95 Ls xs Q k3 x2 x6 x7 x8 x9 M N)) ∧ (¬ bm x6 < bm 3 → ((inI x9 14 ∧ F_X11_size (fun v9 M9 => ((bm 6 < bm v9 → (F_L_build_95 Ls xs Q k3 x2 x6 x7 x8 1 M9 N)) ∧ (¬ bm 6 < bm v9 → (F_L_build_95 Ls xs Q k3 x2 x6 x7 x8 x9 M9 N)))) (N 0 (bm x9).toNat) M))))
def F_L_build_3 (Ls : Nat) (xs : Nat → Int32) (Q : g_M → g_M → Prop) : Nat → Int → Int → g_M → g_M → Prop
  | 0 => fun _ _ _ _ => False
  | n + 1 => fun x2 x6 M N => ((bm x6 < bm 14 → (F_L_cell Ls xs (fun v2 M2 => F_L_below (fun v3 M3 => F_L_below (fun v4 M4 => ((bm x6 < bm 3 → (F_L_build_73 Ls xs Q (F_L_build_3 Ls xs Q n) x2 x6 v2 v3 v4 M4 N)) ∧ (¬ bm x6 < bm 3 → ((inI v3 14 ∧ F_X11_size (fun v6 M6 => ((bm 6 < bm v6 → (F_L_build_73 Ls xs Q (F_L_build_3 Ls xs Q n) x2 x6 v2 0 v4 M6 N)) ∧ (¬ bm 6 < bm v6 → (F_L_build_73 Ls xs Q (F_L_build_3 Ls xs Q n) x2 x6 v2 v3 v4 M6 N)))) (N 0 (bm v3).toNat) M4))))) (ishr v2 10) (imax x6 1) M3) (ishr v2 2) (imax x6 1) M2) (x2 + x6) M)) ∧ (¬ bm x6 < bm 14 → (Q M N)))
def F_L_build (Ls : Nat) (xs : Nat → Int32) (Q : g_M → g_M → Prop) (a2 : Int) (M N : g_M) : Prop := ∃ n9, F_L_build_3 Ls xs Q n9 a2 0 M N
def F_L_equate (Q : Int → g_M → Prop) (a1 a2 : Int) (M : g_M) : Prop := F_X11_equate (fun v1 M1 => Q v1 M1) (fun M2 => Q (-1) M2) a1 a2 M
def F_L_normal (Q : Int → g_M → Prop) (a1 : Int) (M : g_M) : Prop := F_X11_normalForm (fun v1 M1 => Q v1 M1) (fun M2 => Q (-1) M2) a1 M
def F_L_unite_19 (Q : g_M → g_M → Prop) (k2 : Int → Int → Int → g_M → g_M → Prop) (x1 x2 x3 : Int) (M N : g_M) : Prop := k2 x1 x2 (x3 + 1) M N
def F_L_unite_2 (Q : g_M → g_M → Prop) : Nat → Int → Int → Int → g_M → g_M → Prop
  | 0 => fun _ _ _ _ _ => False
  | n + 1 => fun x1 x2 x3 M N => ((bm x3 < bm 14 → ((inI x3 14 ∧ ((bm (N 3 (bm x3).toNat) = bm x2 → ((inI x3 14 ∧ F_L_unite_19 Q (F_L_unite_2 Q n) x1 x2 x3 M (up N 3 (bm x3).toNat x1)))) ∧ (¬ bm (N 3 (bm x3).toNat) = bm x2 → (F_L_unite_19 Q (F_L_unite_2 Q n) x1 x2 x3 M N)))))) ∧ (¬ bm x3 < bm 14 → (Q M N)))
def F_L_unite (Q : g_M → g_M → Prop) (a1 a2 : Int) (M N : g_M) : Prop := ∃ n9, F_L_unite_2 Q n9 a1 a2 0 M N
def F_L_close_52 (Q : g_M → g_M → Prop) (k7 : Int → Int → Int → Int → g_M → g_M → Prop) (k24 : Int → Int → Int → Int → Int → g_M → g_M → Prop) (x5 x6 x8 x9 x10 : Int) (M N : g_M) : Prop := k24 x5 x6 x8 x9 (x10 + 1) M N
def F_L_close_24 (Q : g_M → g_M → Prop) (k7 : Int → Int → Int → Int → g_M → g_M → Prop) : Nat → Int → Int → Int → Int → Int → g_M → g_M → Prop
  | 0 => fun _ _ _ _ _ _ _ => False
  | n + 1 => fun x5 x6 x8 x9 x10 M N => ((bm x10 < bm x9 → ((inI x10 14 ∧ (inI x9 14 ∧ ((bm (N 0 (bm x10).toNat) = bm (N 0 (bm x9).toNat) → ((inI x10 14 ∧ (inI x9 14 ∧ F_L_close_52 Q k7 (F_L_close_24 Q k7 n) x5 x6 x8 x9 x10 M (up N 3 (bm x9).toNat (N 3 (bm x10).toNat)))))) ∧ (¬ bm (N 0 (bm x10).toNat) = bm (N 0 (bm x9).toNat) → (F_L_close_52 Q k7 (F_L_close_24 Q k7 n) x5 x6 x8 x9 x10 M N))))))) ∧ (¬ bm x10 < bm x9 → (k7 x5 x6 x8 (x9 + 1) M N)))
def F_L_close_101 (Q : g_M → g_M → Prop) (k67 : Int → Int → Int → Int → g_M → g_M → Prop) (x5 x6 x8 x9 : Int) (M N : g_M) : Prop := k67 x5 x6 x8 (x9 + 1) M N
def F_L_close_252 (Q : g_M → g_M → Prop) (k110 : Int → Int → g_M → g_M → Prop) (k121 : Int → Int → Int → g_M → g_M → Prop) (k131 : Int → Int → Int → Int → g_M → g_M → Prop) (x8 x9 x10 x11 : Int) (M N : g_M) : Prop := k131 x8 x9 x10 (x11 + 1) M N
def F_L_close_211 (Q : g_M → g_M → Prop) (k110 : Int → Int → g_M → g_M → Prop) (k121 : Int → Int → Int → g_M → g_M → Prop) (k131 : Int → Int → Int → Int → g_M → g_M → Prop) (x8 x9 x10 x11 t0 : Int) (M N : g_M) : Prop := ((bm t0 = 0 → (F_L_close_252 Q k110 k121 k131 x8 x9 x10 x11 M N)) ∧ (¬ bm t0 = 0 → ((inI x10 14 ∧ (inI x11 14 ∧ ((bm (N 3 (bm x10).toNat) = bm (N 3 (bm x11).toNat) → (F_L_close_252 Q k110 k121 k131 x8 x9 x10 x11 M N)) ∧ (¬ bm (N 3 (bm x10).toNat) = bm (N 3 (bm x11).toNat) → ((inI x11 14 ∧ (inI x10 14 ∧ F_L_unite (fun M18 N18 => F_L_close_252 Q k110 k121 k131 x8 1 x10 x11 M18 N18) (N 3 (bm x11).toNat) (N 3 (bm x10).toNat) M N))))))))))
def F_L_close_210 (Q : g_M → g_M → Prop) (k110 : Int → Int → g_M → g_M → Prop) (k121 : Int → Int → Int → g_M → g_M → Prop) (k131 : Int → Int → Int → Int → g_M → g_M → Prop) (x8 x9 x10 x11 : Int) (M N : g_M) : Prop := F_L_close_211 Q k110 k121 k131 x8 x9 x10 x11 0 M N
def F_L_close_162 (Q : g_M → g_M → Prop) (k110 : Int → Int → g_M → g_M → Prop) (k121 : Int → Int → Int → g_M → g_M → Prop) (k131 : Int → Int → Int → Int → g_M → g_M → Prop) (x8 x9 x10 x11 t0 t1 : Int) (M N : g_M) : Prop := ((bm t0 = bm t1 → ((inI x10 14 ∧ (inI (N 1 (bm x10).toNat) 14 ∧ (inI x11 14 ∧ (inI (N 1 (bm x11).toNat) 14 ∧ ((bm (N 3 (bm (N 1 (bm x10).toNat)).toNat) = bm (N 3 (bm (N 1 (bm x11).toNat)).toNat) → ((inI x10 14 ∧ ((bm (N 2 (bm x10).toNat) < 0 → (F_L_close_211 Q k110 k121 k131 x8 x9 x10 x11 1 M N)) ∧ (¬ bm (N 2 (bm x10).toNat) < 0 → ((inI x10 14 ∧ (inI (N 2 (bm x10).toNat) 14 ∧ (inI x11 14 ∧ (inI (N 2 (bm x11).toNat) 14 ∧ ((bm (N 3 (bm (N 2 (bm x10).toNat)).toNat) = bm (N 3 (bm (N 2 (bm x11).toNat)).toNat) → (F_L_close_211 Q k110 k121 k131 x8 x9 x10 x11 1 M N)) ∧ (¬ bm (N 3 (bm (N 2 (bm x10).toNat)).toNat) = bm (N 3 (bm (N 2 (bm x11).toNat)).toNat) → (F_L_close_210 Q k110 k121 k131 x8 x9 x10 x11 M N))))))))))))) ∧ (¬ bm (N 3 (bm (N 1 (bm x10).toNat)).toNat) = bm (N 3 (bm (N 1 (bm x11).toNat)).toNat) → (F_L_close_210 Q k110 k121 k131 x8 x9 x10 x11 M N))))))))) ∧ (¬ bm t0 = bm t1 → (F_L_close_210 Q k110 k121 k131 x8 x9 x10 x11 M N)))
def F_L_close_150 (Q : g_M → g_M → Prop) (k110 : Int → Int → g_M → g_M → Prop) (k121 : Int → Int → Int → g_M → g_M → Prop) (k131 : Int → Int → Int → Int → g_M → g_M → Prop) (x8 x9 x10 x11 t0 : Int) (M N : g_M) : Prop := (inI x11 14 ∧ ((bm (N 2 (bm x11).toNat) < 0 → (F_L_close_162 Q k110 k121 k131 x8 x9 x10 x11 t0 1 M N)) ∧ (¬ bm (N 2 (bm x11).toNat) < 0 → (F_L_close_162 Q k110 k121 k131 x8 x9 x10 x11 t0 0 M N))))
def F_L_close_131 (Q : g_M → g_M → Prop) (k110 : Int → Int → g_M → g_M → Prop) (k121 : Int → Int → Int → g_M → g_M → Prop) : Nat → Int → Int → Int → Int → g_M → g_M → Prop
  | 0 => fun _ _ _ _ _ _ => False
  | n + 1 => fun x8 x9 x10 x11 M N => ((bm x11 < bm x10 → ((inI x10 14 ∧ ((bm (N 2 (bm x10).toNat) < 0 → (F_L_close_150 Q k110 k121 (F_L_close_131 Q k110 k121 n) x8 x9 x10 x11 1 M N)) ∧ (¬ bm (N 2 (bm x10).toNat) < 0 → (F_L_close_150 Q k110 k121 (F_L_close_131 Q k110 k121 n) x8 x9 x10 x11 0 M N)))))) ∧ (¬ bm x11 < bm x10 → (k121 x8 x9 (x10 + 1) M N)))
def F_L_close_121 (Q : g_M → g_M → Prop) (k110 : Int → Int → g_M → g_M → Prop) : Nat → Int → Int → Int → g_M → g_M → Prop
  | 0 => fun _ _ _ _ _ => False
  | n + 1 => fun x8 x9 x10 M N => ((bm x10 < bm x8 → (∃ n9, F_L_close_131 Q k110 (F_L_close_121 Q k110 n) n9 x8 x9 x10 3 M N)) ∧ (¬ bm x10 < bm x8 → (k110 x8 x9 M N)))
def F_L_close_110 (Q : g_M → g_M → Prop) : Nat → Int → Int → g_M → g_M → Prop
  | 0 => fun _ _ _ _ => False
  | n + 1 => fun x8 x9 M N => ((bm x9 = 0 → (Q M N)) ∧ (¬ bm x9 = 0 → (∃ n9, F_L_close_121 Q (F_L_close_110 Q n) n9 x8 0 3 M N)))
def F_L_close_67 (Q : g_M → g_M → Prop) : Nat → Int → Int → Int → Int → g_M → g_M → Prop
  | 0 => fun _ _ _ _ _ _ => False
  | n + 1 => fun x5 x6 x8 x9 M N => ((bm x9 < bm x5 → (((bm x9 = bm x6 → (F_L_close_101 Q (F_L_close_67 Q n) x5 x6 x8 x9 M N)) ∧ (¬ bm x9 = bm x6 → ((inI x9 30 ∧ (inI (N 4 (bm x9).toNat) 14 ∧ (inI x9 30 ∧ (inI (N 5 (bm x9).toNat) 14 ∧ F_L_unite (fun M6 N6 => F_L_close_101 Q (F_L_close_67 Q n) x5 x6 x8 x9 M6 N6) (N 3 (bm (N 4 (bm x9).toNat)).toNat) (N 3 (bm (N 5 (bm x9).toNat)).toNat) M N))))))))) ∧ (¬ bm x9 < bm x5 → (∃ n9, F_L_close_110 Q n9 x8 1 M N)))
def F_L_close_7 (Q : g_M → g_M → Prop) : Nat → Int → Int → Int → Int → g_M → g_M → Prop
  | 0 => fun _ _ _ _ _ _ => False
  | n + 1 => fun x5 x6 x8 x9 M N => ((bm x9 < bm x8 → ((inI x9 14 ∧ ∃ n9, F_L_close_24 Q (F_L_close_7 Q n) n9 x5 x6 x8 x9 0 M (up N 3 (bm x9).toNat x9)))) ∧ (¬ bm x9 < bm x8 → (∃ n9, F_L_close_67 Q n9 x5 x6 x8 0 M N)))
def F_L_close (Q : g_M → g_M → Prop) (a5 a6 : Int) (M N : g_M) : Prop := ∃ n9, F_L_close_7 Q n9 a5 a6 14 0 M N
def F_L_pop (Q : Int → g_M → Prop) (M : g_M) : Prop := F_X11_pop (fun v1 M1 => Q v1 M1) (fun M2 => Q (-1) M2) M
end
section
def TOT (H : Heap) : Nat := (H.toList.map (fun c : Cell => c.slots.size)).sum
theorem tot_list : ∀ (l l0 : List Cell), (∀ (i : Nat) (c : Cell), l0[i]? = some c → ∃ c', l[i]? = some c' ∧ c'.slots.size = c.slots.size) → (l.map (fun c : Cell => c.slots.size)).sum = (l0.map (fun c : Cell => c.slots.size)).sum + ((l.drop l0.length).map (fun c : Cell => c.slots.size)).sum
  | l, [], _ => by simp
  | [], c :: l0, h => by
    obtain ⟨c', h1, -⟩ := h 0 c rfl
    simp at h1
  | x :: l, c :: l0, h => by
    obtain ⟨c', h1, h2⟩ := h 0 c rfl
    have h1 : x = c' := by simpa using h1
    subst h1
    have ih := tot_list l l0 (fun i c hi => h (i + 1) c (by simpa using hi))
    simp only [List.map_cons, List.sum_cons, List.length_cons, List.drop_succ_cons]
    omega
theorem tot_same {s s' : State} {locs : List Loc} {c n : Nat} (h : s.sameButNew s' locs c n) : TOT s'.heap = TOT s.heap + ((s'.heap.toList.drop s.heap.size).map (·.slots.size)).sum := by
  obtain ⟨-, -, -, -, -, h6⟩ := h
  refine tot_list s'.heap.toList s.heap.toList (fun i c hi => ?_)
  rw [Array.getElem?_toList] at hi
  obtain ⟨c', h1, -, h2, -⟩ := h6 i c hi
  exact ⟨c', by rw [Array.getElem?_toList]; exact h1, h2⟩
theorem tot_le {s s' : State} {locs : List Loc} {c n : Nat} (h : s.sameButNew s' locs c n) : TOT s'.heap ≤ TOT s.heap + n := by
  have h1 := tot_same h
  obtain ⟨-, -, -, -, h5, -⟩ := h
  omega
theorem tot_put {H H1 : Heap} {a : Nat} {c c1 : Cell} (hz : H1.size = H.size) (ho : ∀ q : Nat, q ≠ a → H1[q]? = H[q]?) (hc : H[a]? = some c) (hc1 : H1[a]? = some c1) (hs : c1.slots.size = c.slots.size) : TOT H1 = TOT H := by
  have h := tot_list H1.toList H.toList (fun i x hi => by
    rw [Array.getElem?_toList] at hi
    by_cases e : i = a
    · subst e
      rw [hc] at hi
      cases hi
      exact ⟨c1, by rw [Array.getElem?_toList]; exact hc1, hs⟩
    · exact ⟨x, by rw [Array.getElem?_toList, ho i e]; exact hi, rfl⟩)
  have e : H1.toList.drop H.toList.length = [] := List.drop_eq_nil_of_le (by rw [Array.length_toList, Array.length_toList]; omega)
  rw [e] at h
  simpa [TOT] using h
theorem tot_push (H : Heap) (c : Cell) : TOT (H.push c) = TOT H + c.slots.size := by
  unfold TOT
  simp [Array.toList_push]
end
section
-- ===== PART A: goes FIRST, ahead of the names: the tables' words, and 'selects' of the private methods out of them =====
/-- a private method of a class that the tables say can be made, by its rows of tables_1 -/
def lw_okq (q : MethodName × Nat) : Prop := (q.1.cls ≠ "java/lang/invoke/MethodHandle" ∧ q.1.cls ≠ "java/lang/invoke/VarHandle") ∧ Cond.instantiable q.1.cls q.2 ∈ tables_1 ∧ Cond.privateMethod q.1 ∈ tables_1 ∧ Cond.instanceMethod q.1 ∈ tables_1
theorem lw_p0 : lw_okq (⟨"GroundProver", "isTerm", "(I)Z"⟩, 11) := ⟨⟨by decide +kernel, by decide +kernel⟩, List.mem_of_getElem? (i := 23) (by decide +kernel), List.mem_of_getElem? (i := 544) (by decide +kernel), List.mem_of_getElem? (i := 545) (by decide +kernel)⟩
theorem lw_p1 : lw_okq (⟨"java/lang/Throwable", "fillInStackTrace", "(I)Ljava/lang/Throwable;"⟩, 6) := ⟨⟨by decide +kernel, by decide +kernel⟩, List.mem_of_getElem? (i := 587) (by decide +kernel), List.mem_of_getElem? (i := 585) (by decide +kernel), List.mem_of_getElem? (i := 586) (by decide +kernel)⟩
theorem lw_p2 : lw_okq (⟨"GroundProver$Walk", "firstUnlisted", "(I)I"⟩, 7) := ⟨⟨by decide +kernel, by decide +kernel⟩, List.mem_of_getElem? (i := 137) (by decide +kernel), List.mem_of_getElem? (i := 634) (by decide +kernel), List.mem_of_getElem? (i := 635) (by decide +kernel)⟩
theorem lw_p3 : lw_okq (⟨"GroundProver$Grammar", "linkUsers", "()V"⟩, 20) := ⟨⟨by decide +kernel, by decide +kernel⟩, List.mem_of_getElem? (i := 169) (by decide +kernel), List.mem_of_getElem? (i := 706) (by decide +kernel), List.mem_of_getElem? (i := 707) (by decide +kernel)⟩
theorem lw_p4 : lw_okq (⟨"GroundProver$Grammar", "enter", "(I)V"⟩, 20) := ⟨⟨by decide +kernel, by decide +kernel⟩, List.mem_of_getElem? (i := 169) (by decide +kernel), List.mem_of_getElem? (i := 710) (by decide +kernel), List.mem_of_getElem? (i := 711) (by decide +kernel)⟩
theorem lw_p5 : lw_okq (⟨"GroundProver$Grammar", "isBefore", "(II)Z"⟩, 20) := ⟨⟨by decide +kernel, by decide +kernel⟩, List.mem_of_getElem? (i := 169) (by decide +kernel), List.mem_of_getElem? (i := 723) (by decide +kernel), List.mem_of_getElem? (i := 724) (by decide +kernel)⟩
theorem lw_p6 : lw_okq (⟨"GroundProver$Grammar", "takeLeast", "()I"⟩, 20) := ⟨⟨by decide +kernel, by decide +kernel⟩, List.mem_of_getElem? (i := 169) (by decide +kernel), List.mem_of_getElem? (i := 735) (by decide +kernel), List.mem_of_getElem? (i := 736) (by decide +kernel)⟩
theorem lw_p7 : lw_okq (⟨"GroundProver$Grammar", "isReadyAfter", "(I)Z"⟩, 20) := ⟨⟨by decide +kernel, by decide +kernel⟩, List.mem_of_getElem? (i := 169) (by decide +kernel), List.mem_of_getElem? (i := 739) (by decide +kernel), List.mem_of_getElem? (i := 740) (by decide +kernel)⟩
theorem lw_p8 : lw_okq (⟨"GroundProver", "tidy", "()V"⟩, 11) := ⟨⟨by decide +kernel, by decide +kernel⟩, List.mem_of_getElem? (i := 23) (by decide +kernel), List.mem_of_getElem? (i := 780) (by decide +kernel), List.mem_of_getElem? (i := 781) (by decide +kernel)⟩
theorem lw_p9 : lw_okq (⟨"GroundProver$TermStore", "markOne", "(I)V"⟩, 13) := ⟨⟨by decide +kernel, by decide +kernel⟩, List.mem_of_getElem? (i := 73) (by decide +kernel), List.mem_of_getElem? (i := 792) (by decide +kernel), List.mem_of_getElem? (i := 793) (by decide +kernel)⟩
theorem lw_p10 : lw_okq (⟨"GroundProver$TermStore", "relink", "(I)V"⟩, 13) := ⟨⟨by decide +kernel, by decide +kernel⟩, List.mem_of_getElem? (i := 73) (by decide +kernel), List.mem_of_getElem? (i := 817) (by decide +kernel), List.mem_of_getElem? (i := 818) (by decide +kernel)⟩
theorem lw_p11 : lw_okq (⟨"GroundProver$TermStore", "bucketOf", "(IIII)I"⟩, 13) := ⟨⟨by decide +kernel, by decide +kernel⟩, List.mem_of_getElem? (i := 73) (by decide +kernel), List.mem_of_getElem? (i := 821) (by decide +kernel), List.mem_of_getElem? (i := 822) (by decide +kernel)⟩
theorem lw_p12 : lw_okq (⟨"GroundProver$TermStore", "keep", "(IIIII)I"⟩, 13) := ⟨⟨by decide +kernel, by decide +kernel⟩, List.mem_of_getElem? (i := 73) (by decide +kernel), List.mem_of_getElem? (i := 848) (by decide +kernel), List.mem_of_getElem? (i := 849) (by decide +kernel)⟩
theorem lw_p13 : lw_okq (⟨"GroundProver$TermStore", "extentOver", "(IIII)I"⟩, 13) := ⟨⟨by decide +kernel, by decide +kernel⟩, List.mem_of_getElem? (i := 73) (by decide +kernel), List.mem_of_getElem? (i := 856) (by decide +kernel), List.mem_of_getElem? (i := 857) (by decide +kernel)⟩
theorem lw_p14 : lw_okq (⟨"GroundProver$Theory", "ruleFor", "(I)I"⟩, 18) := ⟨⟨by decide +kernel, by decide +kernel⟩, List.mem_of_getElem? (i := 240) (by decide +kernel), List.mem_of_getElem? (i := 863) (by decide +kernel), List.mem_of_getElem? (i := 864) (by decide +kernel)⟩
theorem lw_p15 : lw_okq (⟨"GroundProver$Reader", "isLetter", "(I)Z"⟩, 19) := ⟨⟨by decide +kernel, by decide +kernel⟩, List.mem_of_getElem? (i := 351) (by decide +kernel), List.mem_of_getElem? (i := 959) (by decide +kernel), List.mem_of_getElem? (i := 960) (by decide +kernel)⟩
def lw_privs_1 : List (MethodName × Nat) := [(⟨"GroundProver", "isTerm", "(I)Z"⟩, 11), (⟨"java/lang/Throwable", "fillInStackTrace", "(I)Ljava/lang/Throwable;"⟩, 6), (⟨"GroundProver$Walk", "firstUnlisted", "(I)I"⟩, 7), (⟨"GroundProver$Grammar", "linkUsers", "()V"⟩, 20), (⟨"GroundProver$Grammar", "enter", "(I)V"⟩, 20), (⟨"GroundProver$Grammar", "isBefore", "(II)Z"⟩, 20), (⟨"GroundProver$Grammar", "takeLeast", "()I"⟩, 20), (⟨"GroundProver$Grammar", "isReadyAfter", "(I)Z"⟩, 20), (⟨"GroundProver", "tidy", "()V"⟩, 11), (⟨"GroundProver$TermStore", "markOne", "(I)V"⟩, 13), (⟨"GroundProver$TermStore", "relink", "(I)V"⟩, 13), (⟨"GroundProver$TermStore", "bucketOf", "(IIII)I"⟩, 13), (⟨"GroundProver$TermStore", "keep", "(IIIII)I"⟩, 13), (⟨"GroundProver$TermStore", "extentOver", "(IIII)I"⟩, 13), (⟨"GroundProver$Theory", "ruleFor", "(I)I"⟩, 18), (⟨"GroundProver$Reader", "isLetter", "(I)Z"⟩, 19)]
theorem lw_r1 : ∀ q ∈ lw_privs_1, lw_okq q := List.forall_mem_cons.mpr ⟨lw_p0, List.forall_mem_cons.mpr ⟨lw_p1, List.forall_mem_cons.mpr ⟨lw_p2, List.forall_mem_cons.mpr ⟨lw_p3, List.forall_mem_cons.mpr ⟨lw_p4, List.forall_mem_cons.mpr ⟨lw_p5, List.forall_mem_cons.mpr ⟨lw_p6, List.forall_mem_cons.mpr ⟨lw_p7, List.forall_mem_cons.mpr ⟨lw_p8, List.forall_mem_cons.mpr ⟨lw_p9, List.forall_mem_cons.mpr ⟨lw_p10, List.forall_mem_cons.mpr ⟨lw_p11, List.forall_mem_cons.mpr ⟨lw_p12, List.forall_mem_cons.mpr ⟨lw_p13, List.forall_mem_cons.mpr ⟨lw_p14, List.forall_mem_cons.mpr ⟨lw_p15, fun _ h => absurd h List.not_mem_nil⟩⟩⟩⟩⟩⟩⟩⟩⟩⟩⟩⟩⟩⟩⟩⟩
theorem lw_p16 : lw_okq (⟨"GroundProver$Reader", "isNamePart", "(I)Z"⟩, 19) := ⟨⟨by decide +kernel, by decide +kernel⟩, List.mem_of_getElem? (i := 351) (by decide +kernel), List.mem_of_getElem? (i := 963) (by decide +kernel), List.mem_of_getElem? (i := 964) (by decide +kernel)⟩
theorem lw_p17 : lw_okq (⟨"GroundProver$Symbols", "isNameAt", "(I[BI)Z"⟩, 11) := ⟨⟨by decide +kernel, by decide +kernel⟩, List.mem_of_getElem? (i := 31) (by decide +kernel), List.mem_of_getElem? (i := 975) (by decide +kernel), List.mem_of_getElem? (i := 976) (by decide +kernel)⟩
theorem lw_p18 : lw_okq (⟨"GroundProver", "giveNumber", "(I)I"⟩, 11) := ⟨⟨by decide +kernel, by decide +kernel⟩, List.mem_of_getElem? (i := 23) (by decide +kernel), List.mem_of_getElem? (i := 1094) (by decide +kernel), List.mem_of_getElem? (i := 1095) (by decide +kernel)⟩
theorem lw_p19 : lw_okq (⟨"GroundProver$Theory", "gather", "(III)V"⟩, 18) := ⟨⟨by decide +kernel, by decide +kernel⟩, List.mem_of_getElem? (i := 240) (by decide +kernel), List.mem_of_getElem? (i := 1139) (by decide +kernel), List.mem_of_getElem? (i := 1140) (by decide +kernel)⟩
theorem lw_p20 : lw_okq (⟨"GroundProver$Closure", "joinTwins", "()Z"⟩, 11) := ⟨⟨by decide +kernel, by decide +kernel⟩, List.mem_of_getElem? (i := 249) (by decide +kernel), List.mem_of_getElem? (i := 1162) (by decide +kernel), List.mem_of_getElem? (i := 1163) (by decide +kernel)⟩
theorem lw_p21 : lw_okq (⟨"GroundProver$Closure", "bucketOf", "(I)I"⟩, 11) := ⟨⟨by decide +kernel, by decide +kernel⟩, List.mem_of_getElem? (i := 249) (by decide +kernel), List.mem_of_getElem? (i := 1166) (by decide +kernel), List.mem_of_getElem? (i := 1167) (by decide +kernel)⟩
theorem lw_p22 : lw_okq (⟨"GroundProver$Closure", "areTwins", "(II)Z"⟩, 11) := ⟨⟨by decide +kernel, by decide +kernel⟩, List.mem_of_getElem? (i := 249) (by decide +kernel), List.mem_of_getElem? (i := 1171) (by decide +kernel), List.mem_of_getElem? (i := 1172) (by decide +kernel)⟩
theorem lw_p23 : lw_okq (⟨"GroundProver$Theory", "isTooLargeSide", "(I)Z"⟩, 18) := ⟨⟨by decide +kernel, by decide +kernel⟩, List.mem_of_getElem? (i := 240) (by decide +kernel), List.mem_of_getElem? (i := 1202) (by decide +kernel), List.mem_of_getElem? (i := 1203) (by decide +kernel)⟩
theorem lw_p24 : lw_okq (⟨"GroundProver$Theory", "takeRules", "()V"⟩, 18) := ⟨⟨by decide +kernel, by decide +kernel⟩, List.mem_of_getElem? (i := 240) (by decide +kernel), List.mem_of_getElem? (i := 1214) (by decide +kernel), List.mem_of_getElem? (i := 1215) (by decide +kernel)⟩
theorem lw_p25 : lw_okq (⟨"GroundProver$Theory", "addRule", "(II)V"⟩, 18) := ⟨⟨by decide +kernel, by decide +kernel⟩, List.mem_of_getElem? (i := 240) (by decide +kernel), List.mem_of_getElem? (i := 1253) (by decide +kernel), List.mem_of_getElem? (i := 1254) (by decide +kernel)⟩
def lw_privs_2 : List (MethodName × Nat) := [(⟨"GroundProver$Reader", "isNamePart", "(I)Z"⟩, 19), (⟨"GroundProver$Symbols", "isNameAt", "(I[BI)Z"⟩, 11), (⟨"GroundProver", "giveNumber", "(I)I"⟩, 11), (⟨"GroundProver$Theory", "gather", "(III)V"⟩, 18), (⟨"GroundProver$Closure", "joinTwins", "()Z"⟩, 11), (⟨"GroundProver$Closure", "bucketOf", "(I)I"⟩, 11), (⟨"GroundProver$Closure", "areTwins", "(II)Z"⟩, 11), (⟨"GroundProver$Theory", "isTooLargeSide", "(I)Z"⟩, 18), (⟨"GroundProver$Theory", "takeRules", "()V"⟩, 18), (⟨"GroundProver$Theory", "addRule", "(II)V"⟩, 18)]
theorem lw_r2 : ∀ q ∈ lw_privs_2, lw_okq q := List.forall_mem_cons.mpr ⟨lw_p16, List.forall_mem_cons.mpr ⟨lw_p17, List.forall_mem_cons.mpr ⟨lw_p18, List.forall_mem_cons.mpr ⟨lw_p19, List.forall_mem_cons.mpr ⟨lw_p20, List.forall_mem_cons.mpr ⟨lw_p21, List.forall_mem_cons.mpr ⟨lw_p22, List.forall_mem_cons.mpr ⟨lw_p23, List.forall_mem_cons.mpr ⟨lw_p24, List.forall_mem_cons.mpr ⟨lw_p25, fun _ h => absurd h List.not_mem_nil⟩⟩⟩⟩⟩⟩⟩⟩⟩⟩
def lw_privs : List (MethodName × Nat) := lw_privs_1 ++ (lw_privs_2)
def lw_tbl : List Cond := k2_sels lw_privs ++ tables_1
theorem lw_privs_ok : ∀ q ∈ lw_privs, lw_okq q := by
  show ∀ q ∈ lw_privs_1 ++ (lw_privs_2), lw_okq q
  exact List.forall_mem_append.mpr ⟨lw_r1, lw_r2⟩
end
section
/-! ===== BEGIN words of one list among another's, by their places ===== -/
theorem goodIn_r {big : List Cond} (ws : List Cond) (ps : List Nat) (hp : ws = ps.filterMap (fun i => big[i]?)) (h : ws.all goodWord = true) : GoodIn big ws := by
  intro w hw
  have h1 := List.all_eq_true.mp h w hw
  rw [hp] at hw
  obtain ⟨i, -, hi⟩ := List.mem_filterMap.mp hw
  have hm : w ∈ big := by first | exact List.mem_of_getElem? hi | exact List.getElem?_mem hi
  exact ⟨hm, good_of_word h1⟩
theorem goodIn_app {big a b : List Cond} (ha : GoodIn big a) (hb : GoodIn big b) : GoodIn big (a ++ b) := fun w h => (List.mem_append.mp h).elim (ha w) (hb w)
theorem goodIn_ca {big a b : List Cond} {c : Cond} (ha : GoodIn big (c :: a)) (hb : GoodIn big b) : GoodIn big (c :: (a ++ b)) := fun w h => (List.mem_cons.mp h).elim (fun e => ha w (List.mem_cons.mpr (Or.inl e))) (fun h => (List.mem_append.mp h).elim (fun h => ha w (List.mem_cons.mpr (Or.inr h))) (hb w))
theorem goodIn_sub {big ws : List Cond} (hm : ∀ w ∈ ws, w ∈ big) (h : ws.all goodWord = true) : GoodIn big ws := fun w hw => ⟨hm w hw, good_of_word (List.all_eq_true.mp h w hw)⟩
/-! ===== END ===== -/

/-! ===== BEGIN exceptions that leave a method, and their catching by the caller (launches without stack traces) ===== -/
section VXA
/-! The laws vx_back, vx_callV, vx_callS, vx_callSW, vx_throw0, vx_throwS follow proofs of the library, with one case more: JvmDerived/Free/Laws.lean (Back.of_free), Shelf42/LK1.lean (callV, callS), Shelf/KitTraced.lean (throwNew0V, throwNewS). -/
/-- where a method has thrown q: the class by its name, the cell, what was written, the world -/
def vx_T (XC : String → State → State → Prop) (st : State) (q : Addr) (t : State) (mc ms : Nat) (free : Addr → Prop) : Prop :=
  ∃ (E : String) (ce : Cell) (L : List Loc), XC E st t ∧ t.heap[q]? = some ce ∧ ce.vm = .none ∧ st.vm.findClass E = some ce.cls ∧ st.WarmedH t.vm ∧ st.sameButNew ({ t with vm := st.vm } : State) L mc ms ∧ ∀ z ∈ L, free z.base
def vx_Q (Qc : Array Value → State → Outcome → State → Prop) (XC : String → State → State → Prop) (mc ms : Nat) (free : Addr → Prop) : Array Value → State → Outcome → State → Prop := fun a st o t =>
  (Qc a st o t ∧ ∃ L, FrameEnd st o t L mc ms ∧ ∀ q ∈ L, free q.base) ∨ ∃ q, o = .threw q ∧ vx_T XC st q t mc ms free
/-- a callee that returns or throws -/
def vx_Met (l : Launch) (y : MethodName) (ws : List Cond) (rm : Room) (Pc : Array Value → State → Prop) (Qc : Array Value → State → Outcome → State → Prop) (XC : String → State → State → Prop) (mc ms : Nat) (free : Addr → Prop) : Prop :=
  MetFree l y (headSpec ws rm) Pc (fun _ _ _ _ _ => True) (vx_Q Qc XC mc ms free)
def vx_Post (XC : String → State → State → Prop) (mc ms : Nat) (free : Addr → Prop) : Pt → Array Value → Addr → Pt → Prop := fun A a q B =>
  ∃ (g : JFrame) (mk : MethodId) (t : State) (L : List Loc) (E : String) (ce : Cell), B.U.heap = t.heap ∧ B.U.vm = t.vm ∧ XC E (A.U.calling g mk a) t ∧ t.heap[q]? = some ce ∧ ce.vm = .none ∧ A.U.vm.findClass E = some ce.cls ∧ B.locs = A.locs ++ L ∧ (∀ z ∈ L, free z.base) ∧ B.cells = A.cells + mc ∧ B.slots = A.slots + ms
def vx_Back (l : Launch) (R : Room) (p : Program) (e : Env) (below : List Frame) (s : State) (sargs : Array Value) (y : MethodName) (len W9 : Nat)
    (Pre : Pt → Array Value → Prop) (Post : Pt → Array Value → Option Value → Pt → Prop) (PostX : Pt → Array Value → Addr → Pt → Prop) : Prop :=
  ∀ (m : MethodId) (meth : Method) (c : Code) (A : Pt) (g : JFrame) (ig : Instr) (mk : MethodId) (a : Array Value),
    Stand p l e R s m sargs below meth c A.U A.locs A.cells A.slots → g.method = m → g.locals.size = c.maxLocals → decode c.code g.pc = .ok (ig, len) →
    2 * g.monitorRoom + (g.stack.map fun v => v.category).sum ≤ W9 → A.U.methodNamed? y = some mk → Pre A a →
    (∃ (v : Option Value) (B : Pt), Stand p l e R s m sargs below meth c B.U B.locs B.cells B.slots ∧ Post A a v B ∧
      Steps p.tables e below (doInvoke e (A.U.setTop g) [] mk a).1 (B.U.setTop { g with pc := g.pc + len, stack := v.toList ++ g.stack })) ∨
    (∃ (q : Addr) (B : Pt), Stand p l e R s m sargs below meth c B.U B.locs B.cells B.slots ∧ PostX A a q B ∧
      Steps p.tables e below (doInvoke e (A.U.setTop g) [] mk a).1 ((B.U.setTop g).pushFrame (.throwing q)))
section Payer
variable {l : Launch} {R : Room} {p : Program} {e : Env} {below : List Frame} {s : State} {sargs : Array Value} {y : MethodName} {len W9 : Nat}
theorem vx_back {ws : List Cond} {rm : Room} {Pc : Array Value → State → Prop} {Qc : Array Value → State → Outcome → State → Prop} {XC : String → State → State → Prop} {mc ms : Nat} {free : Addr → Prop} {bytes : ByteArray} {maxL : Nat} {ret : Option FieldType}
    (hM : vx_Met l y ws rm Pc Qc XC mc ms free) (hblind : FrameBlind Pc) (hrc : rm.cells = mc) (hrs : rm.slots = ms)
    (hframes : rm.frames + 1 ≤ R.frames) (hlocals : W9 + (maxL + 11) + rm.locals ≤ R.locals)
    (hws : ∀ w ∈ ws, ∀ a' U, s.WarmedH U.vm → w.before a' U = true) (hcode : Cond.code y bytes maxL ret ∈ ws) (hinit : ∀ a' U, s.WarmedH U.vm → (Cond.initialized y.cls).before a' U = true) :
    vx_Back l R p e below s sargs y len W9 (PreOf R mc ms Pc) (PostOf Qc mc ms free) (vx_Post XC mc ms free) := by
  intro m meth c A g ig mk a X hg hsize hdg hW hn hp
  have h1 : (headSpec ws rm).pre.before a A.U = true := atoms_intro fun w hw => hws w hw _ _ X.warmed
  have h2 : (Cond.code y bytes maxL ret).before a A.U = true := hws _ hcode _ _ X.warmed
  have h3 : (Cond.initialized y.cls).before a A.U = true := hinit _ _ X.warmed
  have h4 : A.cells + (headSpec ws rm).room.cells ≤ R.cells := by rw [show (headSpec ws rm).room.cells = mc from hrc]; exact hp.1
  have h5 : A.slots + (headSpec ws rm).room.slots ≤ R.slots := by rw [show (headSpec ws rm).room.slots = ms from hrs]; exact hp.2.1
  have hPc : Pc a (A.U.calling g mk a) := hblind _ _ _ _ hp.2.2
  obtain ⟨U, Ls, c0, s0⟩ := A
  dsimp only [Pt.U, Pt.locs, Pt.cells, Pt.slots] at h1 h2 h3 h4 h5 X hn hPc ⊢
  obtain ⟨methY, cY, hmY, hcY, -, hlY, -, -, -, -⟩ := Cond.code_spec hn h2
  obtain ⟨kY, hkY, -⟩ := className_of_methodNamed hn
  have hinitY : kY.init = .initialized := Cond.initialized_spec (findClass_of_methodNamed hn) hkY h3
  have h : At U g.method c below := by rw [hg]; exact X.here
  have hlocals9 : W9 + (maxL + 11) + (headSpec ws rm).room.locals ≤ R.locals := hlocals
  have happ : (headSpec ws rm).appliesLoose y e.platform (U.calling g mk a) = true :=
    Spec.appliesLoose_calling (g := g) h hdg hn hkY hinitY
      (X.room_calling (g := g) (R' := (headSpec ws rm).room) hsize hmY hcY hframes (by rw [hlY]; omega) h4 h5) h1
  obtain ⟨mid, hmid⟩ := h.above
  have hfr : (U.setTop g).frames = (.java g :: mid) ++ below := by rw [State.frames_setTop' g h.top, hmid]; rfl
  obtain ⟨o, s₂, hsteps, -, hend, hq⟩ := Steps.callFree hM p X.admits X.cas X.clock (acts := []) hfr happ hPc trivial
  have hq' : vx_Q Qc XC mc ms free a (U.calling g mk a) o s₂ := hq
  rw [State.frames_setTop' g h.top] at hend
  obtain ⟨g₀, hg0⟩ := Option.isSome_iff_exists.mp h.top
  obtain ⟨r, hr⟩ := State.topJava?_eq_some.mp hg0
  have hr' : (({ U with heap := s₂.heap, slotsUsed := s₂.slotsUsed } : State).setVm s₂.vm).frames = .java g₀ :: r := hr
  rcases hq' with ⟨hqc, L, hfe, hL⟩ | ⟨q, rfl, E, ce, L, hx, hce, hcv, hcl, hW₂, hsm, hL⟩
  · obtain ⟨⟨v, rfl⟩, hW₂, e2, q2, q3, q4, q5, q6⟩ := id hfe
    have e3 : s₂ = ({ (U.calling g mk a).setFrames s₂.frames with heap := s₂.heap, slotsUsed := s₂.slotsUsed } : State).setVm s₂.vm := by
      have : s₂ = ({ s₂ with vm := (U.calling g mk a).vm } : State).setVm s₂.vm := rfl
      rw [e2] at this
      exact this
    obtain ⟨c₂, i₂, len₂, hc₂, hd₂, hf₂⟩ := hend
    have hW' : U.WarmedH s₂.vm := hW₂
    have hcc : c₂ = c := by
      have h1 : s₂.code? g.method = U.code? g.method := by
        rw [State.code?_eq, State.code?_eq, hW'.alike.method?]
      exact Option.some.inj (hc₂.symm.trans (h1.trans h.code))
    subst hcc
    have hlen : len₂ = len := by rw [hdg] at hd₂; cases hd₂; rfl
    subst hlen
    have hs₂ : s₂ = (({ U with heap := s₂.heap, slotsUsed := s₂.slotsUsed } : State).setVm s₂.vm).setTop { g with pc := g.pc + len₂, stack := v.toList ++ g.stack } := by
      refine e3.trans ?_
      rw [hf₂, State.calling_eq h.top, State.setFrames_setFrames, State.setTop_of_frames _ hr', hr]
      rfl
    have hsame : U.sameButNew ({ U with heap := s₂.heap, slotsUsed := s₂.slotsUsed } : State) L mc ms := by
      refine ⟨?_, q2, q3, q4, q5, q6⟩
      obtain ⟨t, ht, -⟩ := State.frames_cons hr
      show ({ U with heap := s₂.heap, slotsUsed := s₂.slotsUsed } : State) = { U.setFrames U.frames with heap := s₂.heap, slotsUsed := s₂.slotsUsed }
      rw [State.setFrames_self ht]
    subst hg
    refine Or.inl ⟨v, ⟨(({ U with heap := s₂.heap, slotsUsed := s₂.slotsUsed } : State).setVm s₂.vm), Ls ++ L, c0 + mc, s0 + ms⟩,
      ⟨X.admits, X.cas, X.clock, X.frames, X.room, X.hears, X.method, X.code, (X.here.setHeapUsed s₂.heap s₂.slotsUsed).setVm hW'.alike, X.tail, State.WarmedH.trans X.warmed hW', X.limits, X.bytes, X.same.trans (hsame.setVm s.vm)⟩,
      ⟨g, mk, s₂, L, rfl, rfl, hqc, rfl, hL, rfl, rfl⟩, ?_⟩
    show Steps p.tables e below _ ((({ U with heap := s₂.heap, slotsUsed := s₂.slotsUsed } : State).setVm s₂.vm).setTop { g with pc := g.pc + len₂, stack := v.toList ++ g.stack })
    rw [← hs₂]
    exact hsteps
  · obtain ⟨e2, q2, q3, q4, q5, q6⟩ := id hsm
    have e3 : s₂ = ({ (U.calling g mk a).setFrames s₂.frames with heap := s₂.heap, slotsUsed := s₂.slotsUsed } : State).setVm s₂.vm := by
      have : s₂ = ({ s₂ with vm := (U.calling g mk a).vm } : State).setVm s₂.vm := rfl
      rw [e2] at this
      exact this
    have hf₂ : s₂.frames = .throwing q :: .java g :: U.frames.tail := hend
    have hW' : U.WarmedH s₂.vm := hW₂
    have hs₂ : s₂ = ((({ U with heap := s₂.heap, slotsUsed := s₂.slotsUsed } : State).setVm s₂.vm).setTop g).pushFrame (.throwing q) := by
      refine e3.trans ?_
      rw [hf₂, State.calling_eq h.top, State.setFrames_setFrames, State.pushFrame, State.frames_setTop _ hr', State.setTop_of_frames _ hr', State.setFrames_setFrames, hr]
      rfl
    have hsame : U.sameButNew ({ U with heap := s₂.heap, slotsUsed := s₂.slotsUsed } : State) L mc ms := by
      refine ⟨?_, q2, q3, q4, q5, q6⟩
      obtain ⟨t, ht, -⟩ := State.frames_cons hr
      show ({ U with heap := s₂.heap, slotsUsed := s₂.slotsUsed } : State) = { U.setFrames U.frames with heap := s₂.heap, slotsUsed := s₂.slotsUsed }
      rw [State.setFrames_self ht]
    subst hg
    refine Or.inr ⟨q, ⟨(({ U with heap := s₂.heap, slotsUsed := s₂.slotsUsed } : State).setVm s₂.vm), Ls ++ L, c0 + mc, s0 + ms⟩,
      ⟨X.admits, X.cas, X.clock, X.frames, X.room, X.hears, X.method, X.code, (X.here.setHeapUsed s₂.heap s₂.slotsUsed).setVm hW'.alike, X.tail, State.WarmedH.trans X.warmed hW', X.limits, X.bytes, X.same.trans (hsame.setVm s.vm)⟩,
      ⟨g, mk, s₂, L, E, ce, rfl, rfl, hx, hce, hcv, hcl, rfl, hL, rfl, rfl⟩, ?_⟩
    show Steps p.tables e below _ (((({ U with heap := s₂.heap, slotsUsed := s₂.slotsUsed } : State).setVm s₂.vm).setTop g).pushFrame (.throwing q))
    rw [← hs₂]
    exact hsteps
end Payer
section Calls
variable {p : Program} {l : Launch} {e : Env} {R : Room} {s : State} {m : MethodId} {args : Array Value} {below : List Frame} {meth : Method} {c : Code} {T : State} {locs : List Loc} {cells slots : Nat}
theorem vx_callV (X : Stand p l e R s m args below meth c T locs cells slots) (hexec : p.tables.exec = Jvm.exec) {own C : String} {index : Nat} {y : MethodName} {bytes : ByteArray} {maxL : Nat} {ret : Option FieldType}
    (hown : s.vm.findClass own = some m.cls) (hlink : (Cond.methodLink own index y).before args s = true) (hinst : (Cond.instanceMethod y).before args s = true) (hsel : (Cond.selects C y y).before args s = true)
    (hcode : (Cond.code y bytes maxL ret).before args s = true) (hy : y.cls ≠ "java/lang/invoke/MethodHandle" ∧ y.cls ≠ "java/lang/invoke/VarHandle")
    {W9 : Nat} {Pre : Pt → Array Value → Prop} {Post : Pt → Array Value → Option Value → Pt → Prop} {PostX : Pt → Array Value → Addr → Pt → Prop} (hK : vx_Back l R p e below s args y 3 W9 Pre Post PostX)
    {b : Addr} {cellB : Cell} (hcell : T.heap[b]? = some cellB) (hobj : cellB.vm.isStatics = false) (hcls : s.vm.findClass C = some cellB.cls)
    {g : JFrame} (hg : g.method = m) (hsize : g.locals.size = c.maxLocals) {argsL rest : List Value} (hlen : ∀ sig, parseMethodDescriptor y.desc = some sig → argsL.length = sig.parameters.length)
    (hstack : g.stack = argsL.reverse ++ .ref b :: rest) (hW : 2 * g.monitorRoom + (rest.map fun v => v.category).sum ≤ W9) (hdg : decode c.code g.pc = .ok (.invokevirtual index, 3))
    (hpre : ∀ vm₁, s.WarmedH vm₁ → Pre ⟨T.setVm vm₁, locs, cells, slots⟩ (Value.ref b :: argsL).toArray) :
    (∃ (v : Option Value) (vm₁ : Vm) (B : Pt), s.WarmedH vm₁ ∧ Stand p l e R s m args below meth c B.U B.locs B.cells B.slots ∧ Post ⟨T.setVm vm₁, locs, cells, slots⟩ (Value.ref b :: argsL).toArray v B ∧
      ∀ target, Steps p.tables e below (B.U.setTop { g with pc := g.pc + 3, stack := v.toList ++ rest }) target → Steps p.tables e below (T.setTop g) target) ∨
    (∃ (q : Addr) (vm₁ : Vm) (B : Pt), s.WarmedH vm₁ ∧ Stand p l e R s m args below meth c B.U B.locs B.cells B.slots ∧ PostX ⟨T.setVm vm₁, locs, cells, slots⟩ (Value.ref b :: argsL).toArray q B ∧
      Steps p.tables e below (T.setTop g) ((B.U.setTop { g with stack := rest }).pushFrame (.throwing q))) := by
  obtain ⟨mk, methM, hnamed, hmethM, hstM, habM⟩ := Cond.instanceMethod_spec hinst
  obtain ⟨methM', cM, hmethM', -, -, -, -, -, -, hsigM⟩ := Cond.code_spec hnamed hcode
  cases hmethM.symm.trans hmethM'
  obtain ⟨c2, r2, m2, q1, q2, q3, q4, kP, hkP, hkPi⟩ := Cond.selects_spec hsel
  cases hcls.symm.trans q1
  cases (State.methodFound?_of_named hnamed hy).symm.trans q2
  cases hnamed.symm.trans q3
  have hselP : selectMethod e.platform s.vm cellB.cls mk = .method mk := by rw [Launch.admits_selectMethod X.admits]; exact q4
  obtain ⟨vm₁, X₁, hstep₁⟩ := X.invokevirtual hexec hown hlink hnamed hmethM hstM hkP hkPi hy (a := b) (cell := cellB) hcell
    (fun z h => by rw [h] at hobj; cases hobj) hselP hmethM habM hkP hkPi (g := g) hg (argsL := argsL) (rest := rest) (hlen _ hsigM) hstack hdg
  rcases hK m meth c ⟨T.setVm vm₁, locs, cells, slots⟩ { g with stack := rest } (.invokevirtual index) mk (Value.ref b :: argsL).toArray X₁ hg hsize hdg hW (X₁.named hnamed) (hpre vm₁ X₁.warmed) with ⟨v, B, X', hpost, hsteps⟩ | ⟨q, B, X', hpost, hsteps⟩
  · exact Or.inl ⟨v, vm₁, B, X₁.warmed, X', hpost, fun target h => hstep₁ _ fun acts => by rw [doInvoke_state]; exact hsteps.trans h⟩
  · exact Or.inr ⟨q, vm₁, B, X₁.warmed, X', hpost, hstep₁ _ fun acts => by rw [doInvoke_state]; exact hsteps⟩
theorem vx_callS (X : Stand p l e R s m args below meth c T locs cells slots) (hexec : p.tables.exec = Jvm.exec) {own : String} {index : Nat} {y : MethodName} {bytes : ByteArray} {maxL : Nat} {ret : Option FieldType}
    (hown : s.vm.findClass own = some m.cls) (hlink : (Cond.methodLink own index y).before args s = true) (hstat : (Cond.static y).before args s = true) (hinit : (Cond.initialized y.cls).before args s = true)
    (hcode : (Cond.code y bytes maxL ret).before args s = true) (hy : y.cls ≠ "java/lang/invoke/MethodHandle" ∧ y.cls ≠ "java/lang/invoke/VarHandle")
    {W9 : Nat} {Pre : Pt → Array Value → Prop} {Post : Pt → Array Value → Option Value → Pt → Prop} {PostX : Pt → Array Value → Addr → Pt → Prop} (hK : vx_Back l R p e below s args y 3 W9 Pre Post PostX)
    {g : JFrame} (hg : g.method = m) (hsize : g.locals.size = c.maxLocals) {argsL rest : List Value} (hlen : ∀ sig, parseMethodDescriptor y.desc = some sig → argsL.length = sig.parameters.length)
    (hstack : g.stack = argsL.reverse ++ rest) (hW : 2 * g.monitorRoom + (rest.map fun v => v.category).sum ≤ W9) (hdg : decode c.code g.pc = .ok (.invokestatic index, 3))
    (hpre : ∀ vm₁, s.WarmedH vm₁ → Pre ⟨T.setVm vm₁, locs, cells, slots⟩ argsL.toArray) :
    (∃ (v : Option Value) (vm₁ : Vm) (B : Pt), s.WarmedH vm₁ ∧ Stand p l e R s m args below meth c B.U B.locs B.cells B.slots ∧ Post ⟨T.setVm vm₁, locs, cells, slots⟩ argsL.toArray v B ∧
      ∀ target, Steps p.tables e below (B.U.setTop { g with pc := g.pc + 3, stack := v.toList ++ rest }) target → Steps p.tables e below (T.setTop g) target) ∨
    (∃ (q : Addr) (vm₁ : Vm) (B : Pt), s.WarmedH vm₁ ∧ Stand p l e R s m args below meth c B.U B.locs B.cells B.slots ∧ PostX ⟨T.setVm vm₁, locs, cells, slots⟩ argsL.toArray q B ∧
      Steps p.tables e below (T.setTop g) ((B.U.setTop { g with stack := rest }).pushFrame (.throwing q))) := by
  obtain ⟨mk, hnamed⟩ := Cond.code_named hcode
  obtain ⟨methM, cM, hmethM, -, -, -, -, -, -, hsigM⟩ := Cond.code_spec hnamed hcode
  have hstatic : methM.isStatic = true := Cond.static_spec hnamed hmethM hstat
  obtain ⟨kP, hkP, -⟩ := className_of_methodNamed hnamed
  have hinitP : kP.init = .initialized := Cond.initialized_spec (findClass_of_methodNamed hnamed) hkP hinit
  obtain ⟨vm₁, X₁, hstep₁⟩ := X.invokestatic hexec hown hlink hnamed hmethM hstatic hkP hinitP hy (g := g) hg (argsL := argsL) (rest := rest) (hlen _ hsigM) hstack hdg
  rcases hK m meth c ⟨T.setVm vm₁, locs, cells, slots⟩ { g with stack := rest } (.invokestatic index) mk argsL.toArray X₁ hg hsize hdg hW (X₁.named hnamed) (hpre vm₁ X₁.warmed) with ⟨v, B, X', hpost, hsteps⟩ | ⟨q, B, X', hpost, hsteps⟩
  · exact Or.inl ⟨v, vm₁, B, X₁.warmed, X', hpost, fun target h => hstep₁ _ fun acts => by rw [doInvoke_state]; exact hsteps.trans h⟩
  · exact Or.inr ⟨q, vm₁, B, X₁.warmed, X', hpost, hstep₁ _ fun acts => by rw [doInvoke_state]; exact hsteps⟩
end Calls
theorem vx_cls {s : State} {T : State} {vm₁ : Vm} {E : String} {k : ClassId} (hW : s.WarmedH vm₁) (h : (T.setVm vm₁).vm.findClass E = some k) : s.vm.findClass E = some k := by
  have h1 : vm₁.findClass E = some k := h
  rw [hW.alike.findClass] at h1
  exact h1
/-- the method's frame g, with q thrown over it -/
def vx_W (p : Program) (l : Launch) (e : Env) (R : Room) (s : State) (m : MethodId) (args : Array Value) (below : List Frame) (meth : Method) (c : Code) (H : Heap) (locs : List Loc) (cells slots : Nat) (Q : State → Prop) (g : JFrame) (q : Addr) : Prop :=
  ∀ T : State, T.heap = H → Stand p l e R s m args below meth c T locs cells slots → ∃ t, Steps p.tables e below ((T.setTop g).pushFrame (.throwing q)) t ∧ Q t
def vx_Run (p : Program) (l : Launch) (e : Env) (R : Room) (s : State) (m : MethodId) (args : Array Value) (below : List Frame) (meth : Method) (c : Code) (H : Heap) (locs : List Loc) (cells slots mc ms : Nat) (g : JFrame) (rest : List Value) (Qa : State → Outcome → State → Prop) (XC : String → State → State → Prop) (free : Addr → Prop) : Prop :=
  ∀ T : State, T.heap = H → Stand p l e R s m args below meth c T locs cells slots →
    (∃ (v : Option Value) (st₀ t T' : State) (L : List Loc), st₀.heap = H ∧ Stand p l e R s m args below meth c T' (locs ++ L) (cells + mc) (slots + ms) ∧ (∀ q ∈ L, free q.base) ∧ T'.heap = t.heap ∧ T'.vm = t.vm ∧ Qa st₀ (.returned v) t ∧
      Goes p e below T g T' { g with pc := g.pc + 3, stack := v.toList ++ rest }) ∨
    (∃ (q : Addr) (st₀ t T' : State) (L : List Loc) (E : String) (ce : Cell), st₀.heap = H ∧ Stand p l e R s m args below meth c T' (locs ++ L) (cells + mc) (slots + ms) ∧ (∀ z ∈ L, free z.base) ∧ T'.heap = t.heap ∧ T'.vm = t.vm ∧ XC E st₀ t ∧ t.heap[q]? = some ce ∧ ce.vm = .none ∧ s.vm.findClass E = some ce.cls ∧
      Steps p.tables e below (T.setTop g) ((T'.setTop { g with stack := rest }).pushFrame (.throwing q)))
def vx_X {S : Type} (px : S → Prop) (B : String → S → State → Prop) (A : Nat → Prop) : String → State → State → Prop := fun E st t => ∃ u : S, px u ∧ B E u t ∧ va_F A st t
section Runs
variable {p : Program} {l : Launch} {e : Env} {R : Room} {s : State} {m : MethodId} {args : Array Value} {below : List Frame} {meth : Method} {c : Code} {H : Heap} {locs : List Loc} {cells slots : Nat}
variable {y : MethodName} {bytes cc : ByteArray} {maxL nL mc ms n index : Nat} {ret : Option FieldType} {ws : List Cond} {rm : Room} {Pc : Array Value → State → Prop} {Qc : Array Value → State → Outcome → State → Prop} {XC : String → State → State → Prop} {free : Addr → Prop} {Ts : List Cond} {own C : String} {b : Addr} {As rest : List Value} {g : JFrame}
theorem vx_callBack (cb : CallB R s args own index y bytes maxL ret ws rm mc ms n) (hM : vx_Met l y ws rm Pc Qc XC mc ms free) (hbl : FrameBlind Pc) : vx_Back l R p e below s args y 3 8 (PreOf R mc ms Pc) (PostOf Qc mc ms free) (vx_Post XC mc ms free) := by
  obtain ⟨hrc, hrs, hfr, hlo, hws, hcw, -, hini, -⟩ := cb
  exact vx_back (bytes := bytes) (maxL := maxL) (ret := ret) hM hbl hrc hrs hfr hlo hws hcw (fun a' U hW => word_at hW (Or.inl (by first | rfl | simp [Cond.onTables, Cond.keeps, Cond.steady])) hini)
theorem vx_runV (S : CallFix p m c cc nL s args Ts own) (hM : vx_Met l y ws rm Pc Qc XC mc ms free) (cw : CallW R s args own C index y bytes maxL ret ws rm mc ms n) (hp : PreV s H C b Pc As)
    (hg : g.method = m) (hn : As.length = n) (hsize : g.locals.size = nL) (hstack : g.stack = As.reverse ++ .ref b :: rest) (hW : 2 * g.monitorRoom + (rest.map fun v => v.category).sum ≤ 8) (hdg : decode cc g.pc = .ok (.invokevirtual index, 3)) (hf : cells + mc ≤ R.cells ∧ slots + ms ≤ R.slots) :
    vx_Run p l e R s m args below meth c H locs cells slots mc ms g rest (Qc (Value.ref b :: As).toArray) XC free := by
  have hK : vx_Back l R p e below s args y 3 8 (PreOf R mc ms Pc) (PostOf Qc mc ms free) (vx_Post XC mc ms free) := vx_callBack cw.1 hM hp.1
  obtain ⟨⟨-, -, -, -, -, -, hcode, -, hy, hlen, hl⟩, hin, hse⟩ := cw
  obtain ⟨hx, hb, hml, ho, -⟩ := S
  obtain ⟨-, ⟨cellB, hcB, hoB, hclB⟩, hPc⟩ := hp
  intro T hT X
  rcases vx_callV X hx (C := C) (bytes := bytes) (maxL := maxL) (ret := ret) ho hl hin hse hcode hy hK (by rw [hT]; exact hcB) hoB hclB hg (hsize.trans hml.symm) (argsL := As) (rest := rest) (fun sig h => hn.trans (hlen sig h)) hstack hW (by rw [hb]; exact hdg)
    (fun vm₁ hW₁ => ⟨hf.1, hf.2, hPc (T.setVm vm₁) hT hW₁⟩) with ⟨v, vm₁, ⟨U', l2, c2, s2⟩, hW₁, X', ⟨g', mk, t, L, e1, e2, hq, h1, hL, h2, h3⟩, st⟩ | ⟨q, vm₁, ⟨U', l2, c2, s2⟩, hW₁, X', ⟨g', mk, t, L, E, ce, e1, e2, hq, hce, hcv, hcl, h1, hL, h2, h3⟩, st⟩
  · dsimp only [Pt.U, Pt.locs, Pt.cells, Pt.slots] at X' e1 e2 h1 h2 h3 st
    subst h1; subst h2; subst h3
    exact Or.inl ⟨v, (T.setVm vm₁).calling g' mk (Value.ref b :: As).toArray, t, U', L, hT, X', hL, e1, e2, hq, st⟩
  · dsimp only [Pt.U, Pt.locs, Pt.cells, Pt.slots] at X' e1 e2 h1 h2 h3 st hcl
    subst h1; subst h2; subst h3
    exact Or.inr ⟨q, (T.setVm vm₁).calling g' mk (Value.ref b :: As).toArray, t, U', L, E, ce, hT, X', hL, e1, e2, hq, hce, hcv, vx_cls hW₁ hcl, st⟩
theorem vx_runS (S : CallFix p m c cc nL s args Ts own) (hM : vx_Met l y ws rm Pc Qc XC mc ms free) (cw : CallB R s args own index y bytes maxL ret ws rm mc ms n ∧ (Cond.static y).before args s = true) (hp : PreS s H Pc As)
    (hg : g.method = m) (hn : As.length = n) (hsize : g.locals.size = nL) (hstack : g.stack = As.reverse ++ rest) (hW : 2 * g.monitorRoom + (rest.map fun v => v.category).sum ≤ 8) (hdg : decode cc g.pc = .ok (.invokestatic index, 3)) (hf : cells + mc ≤ R.cells ∧ slots + ms ≤ R.slots) :
    vx_Run p l e R s m args below meth c H locs cells slots mc ms g rest (Qc As.toArray) XC free := by
  have hK : vx_Back l R p e below s args y 3 8 (PreOf R mc ms Pc) (PostOf Qc mc ms free) (vx_Post XC mc ms free) := vx_callBack cw.1 hM hp.1
  obtain ⟨⟨-, -, -, -, -, -, hcode, hini, hy, hlen, hl⟩, hstt⟩ := cw
  obtain ⟨hx, hb, hml, ho, -⟩ := S
  intro T hT X
  rcases vx_callS X hx (bytes := bytes) (maxL := maxL) (ret := ret) ho hl hstt hini hcode hy hK hg (hsize.trans hml.symm) (argsL := As) (rest := rest) (fun sig h => hn.trans (hlen sig h)) hstack hW (by rw [hb]; exact hdg)
    (fun vm₁ hW₁ => ⟨hf.1, hf.2, hp.2 (T.setVm vm₁) hT hW₁⟩) with ⟨v, vm₁, ⟨U', l2, c2, s2⟩, hW₁, X', ⟨g', mk, t, L, e1, e2, hq, h1, hL, h2, h3⟩, st⟩ | ⟨q, vm₁, ⟨U', l2, c2, s2⟩, hW₁, X', ⟨g', mk, t, L, E, ce, e1, e2, hq, hce, hcv, hcl, h1, hL, h2, h3⟩, st⟩
  · dsimp only [Pt.U, Pt.locs, Pt.cells, Pt.slots] at X' e1 e2 h1 h2 h3 st
    subst h1; subst h2; subst h3
    exact Or.inl ⟨v, (T.setVm vm₁).calling g' mk As.toArray, t, U', L, hT, X', hL, e1, e2, hq, st⟩
  · dsimp only [Pt.U, Pt.locs, Pt.cells, Pt.slots] at X' e1 e2 h1 h2 h3 st hcl
    subst h1; subst h2; subst h3
    exact Or.inr ⟨q, (T.setVm vm₁).calling g' mk As.toArray, t, U', L, E, ce, hT, X', hL, e1, e2, hq, hce, hcv, vx_cls hW₁ hcl, st⟩
end Runs
section Rows
variable {p : Program} {l : Launch} {e : Env} {R : Room} {s : State} {m : MethodId} {args : Array Value} {below : List Frame} {meth : Method} {c : Code} {H : Heap} {locs : List Loc} {cells slots : Nat} {Q : State → Prop}
variable {mc ms : Nat} {free : Addr → Prop} {A0 A1 : Nat → Prop} {H0 : Heap} {a : Array Value} {pc : Nat} {ls : Array Slot} {st0 rest : List Value}
theorem vx_keep {st₀ t T' : State} {L : List Loc} (h0 : st₀.heap = H) (e1 : T'.heap = t.heap) (hS : va_S A0 H0 H locs) (hA : ∀ q, q < H.size → A1 q → A0 q) (hf : ∀ q, free q → A0 q) (hL : ∀ q ∈ L, free q.base) (hF : va_F A1 st₀ t) :
    H.size ≤ T'.heap.size ∧ (∀ q : Nat, q < H.size → ¬ A1 q → T'.heap[q]? = H[q]?) ∧ va_S A0 H0 T'.heap (locs ++ L) := by
  obtain ⟨hz, hk⟩ := hF
  rw [h0] at hz hk
  exact ⟨by rw [e1]; exact hz, fun q h1 h2 => by rw [e1]; exact hk q h1 h2,
    ⟨Nat.le_trans hS.1 (by rw [e1]; exact hz), fun q h1 h2 => by rw [e1, hk q (Nat.lt_of_lt_of_le h1 hS.1) (fun z => h2 (hA q (Nat.lt_of_lt_of_le h1 hS.1) z))]; exact hS.2.1 q h1 h2, fun q hq => by
      rcases List.mem_append.mp hq with h | h
      · exact hS.2.2 q h
      · exact hf _ (hL q h)⟩⟩
theorem vx_calli {S SX : Type} {post : Int32 → S → Prop} {px : SX → Prop} {B : S → State → Prop} {BX : String → SX → State → Prop} {AX : Nat → Prop} (hr : vx_Run p l e R s m args below meth c H locs cells slots mc ms (F0 m pc ls st0) rest (va_Qi post B A1 a) (vx_X px BX AX) free) (hS : va_S A0 H0 H locs) (hA : ∀ q, q < H.size → A1 q → A0 q) (hf : ∀ q, free q → A0 q) (hAX : ∀ q, q < H.size → AX q → A0 q)
    (kx : ∀ (E : String) (ce : Cell) (q9 : Addr) (u : SX) (t : State) (H1 : Heap) (locs1 : List Loc), t.heap = H1 → s.vm.Alike t.vm → px u → BX E u t → H.size ≤ H1.size → (∀ q : Nat, q < H.size → ¬ AX q → H1[q]? = H[q]?) → va_S A0 H0 H1 locs1 → H1[q9]? = some ce → ce.vm = .none → s.vm.findClass E = some ce.cls → vx_W p l e R s m args below meth c H1 locs1 (cells + mc) (slots + ms) Q (F0 m pc ls rest) q9)
    (kk : ∀ (r : Int32) (u : S) (t : State) (H1 : Heap) (locs1 : List Loc), t.heap = H1 → s.vm.Alike t.vm → post r u → B u t → H.size ≤ H1.size → (∀ q : Nat, q < H.size → ¬ A1 q → H1[q]? = H[q]?) → va_S A0 H0 H1 locs1 → W p l e R s m args below meth c H1 locs1 (cells + mc) (slots + ms) Q (F0 m (pc + 3) ls (.int r :: rest))) : W p l e R s m args below meth c H locs cells slots Q (F0 m pc ls st0) := by
  intro T hT X
  rcases hr T hT X with ⟨v, st₀, t, T', L, h0, X', hL, e1, e2, ⟨⟨r, u, hv, hp, hb⟩, hF⟩, st⟩ | ⟨q, st₀, t, T', L, E, ce, h0, X', hL, e1, e2, ⟨u, hp, hb, hF⟩, hce, hcv, hcl, st⟩
  · cases hv
    obtain ⟨k1, k2, k3⟩ := vx_keep h0 e1 hS hA hf hL hF
    obtain ⟨t2, a1, b1⟩ := kk r u t T'.heap (locs ++ L) e1.symm (by rw [← e2]; exact X'.warmed.alike) hp hb k1 k2 k3 T' rfl X'
    exact ⟨t2, st t2 a1, b1⟩
  · obtain ⟨k1, k2, k3⟩ := vx_keep h0 e1 hS hAX hf hL hF
    obtain ⟨t2, a1, b1⟩ := kx E ce q u t T'.heap (locs ++ L) e1.symm (by rw [← e2]; exact X'.warmed.alike) hp hb k1 k2 k3 (by rw [e1]; exact hce) hcv hcl T' rfl X'
    exact ⟨t2, st.trans a1, b1⟩
theorem vx_calll {S SX : Type} {post : Int64 → S → Prop} {px : SX → Prop} {B : S → State → Prop} {BX : String → SX → State → Prop} {AX : Nat → Prop} (hr : vx_Run p l e R s m args below meth c H locs cells slots mc ms (F0 m pc ls st0) rest (va_Ql post B A1 a) (vx_X px BX AX) free) (hS : va_S A0 H0 H locs) (hA : ∀ q, q < H.size → A1 q → A0 q) (hf : ∀ q, free q → A0 q) (hAX : ∀ q, q < H.size → AX q → A0 q)
    (kx : ∀ (E : String) (ce : Cell) (q9 : Addr) (u : SX) (t : State) (H1 : Heap) (locs1 : List Loc), t.heap = H1 → s.vm.Alike t.vm → px u → BX E u t → H.size ≤ H1.size → (∀ q : Nat, q < H.size → ¬ AX q → H1[q]? = H[q]?) → va_S A0 H0 H1 locs1 → H1[q9]? = some ce → ce.vm = .none → s.vm.findClass E = some ce.cls → vx_W p l e R s m args below meth c H1 locs1 (cells + mc) (slots + ms) Q (F0 m pc ls rest) q9)
    (kk : ∀ (r : Int64) (u : S) (t : State) (H1 : Heap) (locs1 : List Loc), t.heap = H1 → s.vm.Alike t.vm → post r u → B u t → H.size ≤ H1.size → (∀ q : Nat, q < H.size → ¬ A1 q → H1[q]? = H[q]?) → va_S A0 H0 H1 locs1 → W p l e R s m args below meth c H1 locs1 (cells + mc) (slots + ms) Q (F0 m (pc + 3) ls (.long r :: rest))) : W p l e R s m args below meth c H locs cells slots Q (F0 m pc ls st0) := by
  intro T hT X
  rcases hr T hT X with ⟨v, st₀, t, T', L, h0, X', hL, e1, e2, ⟨⟨r, u, hv, hp, hb⟩, hF⟩, st⟩ | ⟨q, st₀, t, T', L, E, ce, h0, X', hL, e1, e2, ⟨u, hp, hb, hF⟩, hce, hcv, hcl, st⟩
  · cases hv
    obtain ⟨k1, k2, k3⟩ := vx_keep h0 e1 hS hA hf hL hF
    obtain ⟨t2, a1, b1⟩ := kk r u t T'.heap (locs ++ L) e1.symm (by rw [← e2]; exact X'.warmed.alike) hp hb k1 k2 k3 T' rfl X'
    exact ⟨t2, st t2 a1, b1⟩
  · obtain ⟨k1, k2, k3⟩ := vx_keep h0 e1 hS hAX hf hL hF
    obtain ⟨t2, a1, b1⟩ := kx E ce q u t T'.heap (locs ++ L) e1.symm (by rw [← e2]; exact X'.warmed.alike) hp hb k1 k2 k3 (by rw [e1]; exact hce) hcv hcl T' rfl X'
    exact ⟨t2, st.trans a1, b1⟩
theorem vx_callf {S SX : Type} {post : UInt32 → S → Prop} {px : SX → Prop} {B : S → State → Prop} {BX : String → SX → State → Prop} {AX : Nat → Prop} (hr : vx_Run p l e R s m args below meth c H locs cells slots mc ms (F0 m pc ls st0) rest (va_Qf post B A1 a) (vx_X px BX AX) free) (hS : va_S A0 H0 H locs) (hA : ∀ q, q < H.size → A1 q → A0 q) (hf : ∀ q, free q → A0 q) (hAX : ∀ q, q < H.size → AX q → A0 q)
    (kx : ∀ (E : String) (ce : Cell) (q9 : Addr) (u : SX) (t : State) (H1 : Heap) (locs1 : List Loc), t.heap = H1 → s.vm.Alike t.vm → px u → BX E u t → H.size ≤ H1.size → (∀ q : Nat, q < H.size → ¬ AX q → H1[q]? = H[q]?) → va_S A0 H0 H1 locs1 → H1[q9]? = some ce → ce.vm = .none → s.vm.findClass E = some ce.cls → vx_W p l e R s m args below meth c H1 locs1 (cells + mc) (slots + ms) Q (F0 m pc ls rest) q9)
    (kk : ∀ (r : UInt32) (u : S) (t : State) (H1 : Heap) (locs1 : List Loc), t.heap = H1 → s.vm.Alike t.vm → post r u → B u t → H.size ≤ H1.size → (∀ q : Nat, q < H.size → ¬ A1 q → H1[q]? = H[q]?) → va_S A0 H0 H1 locs1 → W p l e R s m args below meth c H1 locs1 (cells + mc) (slots + ms) Q (F0 m (pc + 3) ls (.float r :: rest))) : W p l e R s m args below meth c H locs cells slots Q (F0 m pc ls st0) := by
  intro T hT X
  rcases hr T hT X with ⟨v, st₀, t, T', L, h0, X', hL, e1, e2, ⟨⟨r, u, hv, hp, hb⟩, hF⟩, st⟩ | ⟨q, st₀, t, T', L, E, ce, h0, X', hL, e1, e2, ⟨u, hp, hb, hF⟩, hce, hcv, hcl, st⟩
  · cases hv
    obtain ⟨k1, k2, k3⟩ := vx_keep h0 e1 hS hA hf hL hF
    obtain ⟨t2, a1, b1⟩ := kk r u t T'.heap (locs ++ L) e1.symm (by rw [← e2]; exact X'.warmed.alike) hp hb k1 k2 k3 T' rfl X'
    exact ⟨t2, st t2 a1, b1⟩
  · obtain ⟨k1, k2, k3⟩ := vx_keep h0 e1 hS hAX hf hL hF
    obtain ⟨t2, a1, b1⟩ := kx E ce q u t T'.heap (locs ++ L) e1.symm (by rw [← e2]; exact X'.warmed.alike) hp hb k1 k2 k3 (by rw [e1]; exact hce) hcv hcl T' rfl X'
    exact ⟨t2, st.trans a1, b1⟩
theorem vx_calld {S SX : Type} {post : UInt64 → S → Prop} {px : SX → Prop} {B : S → State → Prop} {BX : String → SX → State → Prop} {AX : Nat → Prop} (hr : vx_Run p l e R s m args below meth c H locs cells slots mc ms (F0 m pc ls st0) rest (va_Qd post B A1 a) (vx_X px BX AX) free) (hS : va_S A0 H0 H locs) (hA : ∀ q, q < H.size → A1 q → A0 q) (hf : ∀ q, free q → A0 q) (hAX : ∀ q, q < H.size → AX q → A0 q)
    (kx : ∀ (E : String) (ce : Cell) (q9 : Addr) (u : SX) (t : State) (H1 : Heap) (locs1 : List Loc), t.heap = H1 → s.vm.Alike t.vm → px u → BX E u t → H.size ≤ H1.size → (∀ q : Nat, q < H.size → ¬ AX q → H1[q]? = H[q]?) → va_S A0 H0 H1 locs1 → H1[q9]? = some ce → ce.vm = .none → s.vm.findClass E = some ce.cls → vx_W p l e R s m args below meth c H1 locs1 (cells + mc) (slots + ms) Q (F0 m pc ls rest) q9)
    (kk : ∀ (r : UInt64) (u : S) (t : State) (H1 : Heap) (locs1 : List Loc), t.heap = H1 → s.vm.Alike t.vm → post r u → B u t → H.size ≤ H1.size → (∀ q : Nat, q < H.size → ¬ A1 q → H1[q]? = H[q]?) → va_S A0 H0 H1 locs1 → W p l e R s m args below meth c H1 locs1 (cells + mc) (slots + ms) Q (F0 m (pc + 3) ls (.double r :: rest))) : W p l e R s m args below meth c H locs cells slots Q (F0 m pc ls st0) := by
  intro T hT X
  rcases hr T hT X with ⟨v, st₀, t, T', L, h0, X', hL, e1, e2, ⟨⟨r, u, hv, hp, hb⟩, hF⟩, st⟩ | ⟨q, st₀, t, T', L, E, ce, h0, X', hL, e1, e2, ⟨u, hp, hb, hF⟩, hce, hcv, hcl, st⟩
  · cases hv
    obtain ⟨k1, k2, k3⟩ := vx_keep h0 e1 hS hA hf hL hF
    obtain ⟨t2, a1, b1⟩ := kk r u t T'.heap (locs ++ L) e1.symm (by rw [← e2]; exact X'.warmed.alike) hp hb k1 k2 k3 T' rfl X'
    exact ⟨t2, st t2 a1, b1⟩
  · obtain ⟨k1, k2, k3⟩ := vx_keep h0 e1 hS hAX hf hL hF
    obtain ⟨t2, a1, b1⟩ := kx E ce q u t T'.heap (locs ++ L) e1.symm (by rw [← e2]; exact X'.warmed.alike) hp hb k1 k2 k3 (by rw [e1]; exact hce) hcv hcl T' rfl X'
    exact ⟨t2, st.trans a1, b1⟩
theorem vx_callv {S SX : Type} {post : S → Prop} {px : SX → Prop} {B : S → State → Prop} {BX : String → SX → State → Prop} {AX : Nat → Prop} (hr : vx_Run p l e R s m args below meth c H locs cells slots mc ms (F0 m pc ls st0) rest (va_Qv post B A1 a) (vx_X px BX AX) free) (hS : va_S A0 H0 H locs) (hA : ∀ q, q < H.size → A1 q → A0 q) (hf : ∀ q, free q → A0 q) (hAX : ∀ q, q < H.size → AX q → A0 q)
    (kx : ∀ (E : String) (ce : Cell) (q9 : Addr) (u : SX) (t : State) (H1 : Heap) (locs1 : List Loc), t.heap = H1 → s.vm.Alike t.vm → px u → BX E u t → H.size ≤ H1.size → (∀ q : Nat, q < H.size → ¬ AX q → H1[q]? = H[q]?) → va_S A0 H0 H1 locs1 → H1[q9]? = some ce → ce.vm = .none → s.vm.findClass E = some ce.cls → vx_W p l e R s m args below meth c H1 locs1 (cells + mc) (slots + ms) Q (F0 m pc ls rest) q9)
    (kk : ∀ (u : S) (t : State) (H1 : Heap) (locs1 : List Loc), t.heap = H1 → s.vm.Alike t.vm → post u → B u t → H.size ≤ H1.size → (∀ q : Nat, q < H.size → ¬ A1 q → H1[q]? = H[q]?) → va_S A0 H0 H1 locs1 → W p l e R s m args below meth c H1 locs1 (cells + mc) (slots + ms) Q (F0 m (pc + 3) ls (rest))) : W p l e R s m args below meth c H locs cells slots Q (F0 m pc ls st0) := by
  intro T hT X
  rcases hr T hT X with ⟨v, st₀, t, T', L, h0, X', hL, e1, e2, ⟨⟨u, hv, hp, hb⟩, hF⟩, st⟩ | ⟨q, st₀, t, T', L, E, ce, h0, X', hL, e1, e2, ⟨u, hp, hb, hF⟩, hce, hcv, hcl, st⟩
  · cases hv
    obtain ⟨k1, k2, k3⟩ := vx_keep h0 e1 hS hA hf hL hF
    obtain ⟨t2, a1, b1⟩ := kk u t T'.heap (locs ++ L) e1.symm (by rw [← e2]; exact X'.warmed.alike) hp hb k1 k2 k3 T' rfl X'
    exact ⟨t2, st t2 a1, b1⟩
  · obtain ⟨k1, k2, k3⟩ := vx_keep h0 e1 hS hAX hf hL hF
    obtain ⟨t2, a1, b1⟩ := kx E ce q u t T'.heap (locs ++ L) e1.symm (by rw [← e2]; exact X'.warmed.alike) hp hb k1 k2 k3 (by rw [e1]; exact hce) hcv hcl T' rfl X'
    exact ⟨t2, st.trans a1, b1⟩
/-- caught by the row x of this method's table; the rows ahead don't take it -/
theorem vx_catch {own name : String} {E : String} {ce : Cell} {q : Addr} (hown : s.vm.findClass own = some m.cls) (pre : List ExceptionTableEntry) (x : ExceptionTableEntry) (suf : List ExceptionTableEntry) (hsplit : c.exceptionTable.toList = pre ++ x :: suf)
    (hpass : ∀ z ∈ pre, covers z pc = false ∨ (z.catchType ≠ 0 ∧ ∃ nm : String, (Cond.classLink own z.catchType nm).before args s = true ∧ va_Nc E nm s)) (hx : covers x pc = true) (h0 : x.catchType ≠ 0)
    (hlink : (Cond.classLink own x.catchType name).before args s = true) (hcast : (Cond.castable E name).before args s = true) (hcell : H[q]? = some ce) (hv : ce.vm = .none) (hcl : s.vm.findClass E = some ce.cls)
    (kk : W p l e R s m args below meth c H locs cells slots Q (F0 m x.handlerPc ls [.ref q])) : vx_W p l e R s m args below meth c H locs cells slots Q (F0 m pc ls rest) q := by
  intro T hT X
  have hpl : e.platform.magicAccessors = ({} : Platform).magicAccessors := by rw [X.admits.platform]
  obtain ⟨c3, c4, hc3, hc4, hasg⟩ := Cond.castable_spec hcast
  cases Option.some.inj (hc3.symm.trans hcl)
  obtain ⟨c5, hc5, hcl5⟩ := Cond.classLink_spec hown hlink e.platform hpl
  cases Option.some.inj (hc4.symm.trans hc5)
  obtain ⟨vm', X', st⟩ := X.thenCaughtThrough q (g := F0 m pc ls rest) rfl (Steps.refl _) (by rw [hT]; exact hcell) (by rw [hv]; rfl) (by obtain ⟨k9, h9, -⟩ := Vm.findClass_spec hcl; exact ⟨k9, h9⟩) pre x suf hsplit
    (fun z hz => by
      rcases hpass z hz with h | ⟨hz0, nm, hl1, hn1⟩
      · exact Or.inl h
      · obtain ⟨c6, hc6, hcl6⟩ := Cond.classLink_spec hown hl1 e.platform hpl
        obtain ⟨a8, b8, h1, h2, h3⟩ := hn1
        cases Option.some.inj (h1.symm.trans hcl)
        cases Option.some.inj (h2.symm.trans hc6)
        exact Or.inr ⟨hz0, _, hcl6, h3⟩) hx (Or.inr ⟨h0, c4, hcl5, hasg⟩)
  obtain ⟨t, a1, b1⟩ := kk (T.setVm vm') hT X'
  exact ⟨t, st.trans a1, b1⟩
end Rows
section Ends
variable {p : Program} {l : Launch} {e : Env} {R : Room} {s : State} {m : MethodId} {args : Array Value} {below : List Frame} {meth : Method} {c : Code} {H : Heap} {locs : List Loc} {cells slots : Nat} {Q : State → Prop}
variable {mc ms : Nat} {free : Addr → Prop} {A0 A1 : Nat → Prop} {H0 : Heap} {a : Array Value} {ls : Array Slot} {st0 rest : List Value}
variable {Qc : Array Value → State → Outcome → State → Prop} {XC : String → State → State → Prop}
/-- what a body that may throw owes at its end -/
def vx_MQ (below : List Frame) (Qc : Array Value → State → Outcome → State → Prop) (XC : String → State → State → Prop) (a : Array Value) (s : State) (mc ms : Nat) (free : Addr → Prop) : State → Prop := fun t =>
  ∃ o, t.status = .running ∧ Ended t below o ∧ vx_Q Qc XC mc ms free a s o t
theorem vx_ret {g : JFrame} {mc ms : Nat} (k : W p l e R s m args below meth c H locs cells slots (MQ below Qc args s mc ms free) g) : W p l e R s m args below meth c H locs cells slots (vx_MQ below Qc XC args s mc ms free) g := by
  intro T hT X
  obtain ⟨t, a1, o, b1, b2, b3, b4⟩ := k T hT X
  exact ⟨t, a1, o, b1, b2, Or.inl ⟨b3, b4⟩⟩
/-- not caught here: it goes on to the caller -/
theorem vx_widen {g : JFrame} {q : Addr} {k n : Nat} (h1 : cells ≤ k) (h2 : slots ≤ n) (kk : vx_W p l e R s m args below meth c H locs k n Q g q) : vx_W p l e R s m args below meth c H locs cells slots Q g q := fun T hT X => kk T hT (stand_widen X h1 h2)
theorem vx_out {pc : Nat} {E : String} {ce : Cell} {q : Addr} {mc ms : Nat} (hout : ∀ x ∈ c.exceptionTable.toList, covers x pc = false) (hlocks : meth.locks = false) (hcell : H[q]? = some ce) (hv : ce.vm = .none) (hcl : s.vm.findClass E = some ce.cls)
    (hx : ∀ t : State, t.heap = H → s.vm.Alike t.vm → XC E s t) (hf : ∀ z ∈ locs, free z.base) (hc : cells ≤ mc) (hs : slots ≤ ms) :
    vx_W p l e R s m args below meth c H locs cells slots (vx_MQ below Qc XC args s mc ms free) (F0 m pc ls rest) q := by
  intro T hT X
  obtain ⟨st1, hrun, hend, hW, hsm⟩ := X.leaveThrown q (g := F0 m pc ls rest) rfl rfl rfl hout hlocks
  have hcell9 : (T.setFrames (.throwing q :: below)).heap[q]? = some ce := by
    show T.heap[q]? = some ce
    rw [hT]; exact hcell
  exact ⟨_, st1, .threw q, hrun, hend, Or.inr ⟨q, rfl, E, ce, locs, hx _ hT hW.alike, hcell9, hv, hcl, hW, hsm.mono hc hs, hf⟩⟩
theorem vx_frame {U : State} {k n : Nat} (h : s.sameButNew ({ U with vm := s.vm } : State) locs k n) : s.heap.size ≤ U.heap.size ∧ ∀ q : Nat, q < s.heap.size → (∀ z ∈ locs, z.base ≠ q) → U.heap[q]? = s.heap[q]? := by
  obtain ⟨-, h2, -, -, -, h6⟩ := h
  refine ⟨h2, fun q hq hz => ?_⟩
  obtain ⟨c9, e1, e2, e3, e4⟩ := h6 q _ (Array.getElem?_eq_getElem hq)
  have hs : c9.slots = (s.heap[q]).slots := Array.ext_getElem? fun i => e4 i fun hm => hz _ hm rfl
  have h9 : c9 = s.heap[q] := by
    rw [hs] at e2
    exact e2
  have e5 : U.heap[q]? = some c9 := e1
  rw [e5, h9, Array.getElem?_eq_getElem hq]
/-- the words of a throw but the four that speak of the heap -/
def vx_no (w : Cond) : Bool := decide (w ≠ .isRef (.static Bundle.tN "UNASSIGNED_STACK" Bundle.steD)) && decide (w ≠ .isRef (.static Bundle.tN "SUPPRESSED_SENTINEL" Bundle.listD)) && decide (w ≠ .laysStatic Bundle.tN "UNASSIGNED_STACK" Bundle.steD) && decide (w ≠ .laysStatic Bundle.tN "SUPPRESSED_SENTINEL" Bundle.listD)
def vx_at0 (own : String) (ic : Nat) (X : String) (names : List String) : List Cond := (Bundle.ownAtoms0 own ic X names).filter vx_no
def vx_atS (own : String) (ic : Nat) (X : String) (names : List String) : List Cond := (Bundle.ownAtoms own ic X names).filter vx_no
/-- a word that the tables alone decide, or a good one -/
def vx_ot (w : Cond) : Bool := w.onTables || goodWord w
theorem vx_ot_at {args a' : Array Value} {s U : State} {w : Cond} (hW : s.WarmedH U.vm) (hvm : s.vm = U.vm) (hg : vx_ot w = true) (h : w.before args s = true) : w.before a' U = true := by
  simp only [vx_ot, Bool.or_eq_true] at hg
  rcases hg with hg | hg
  · exact va_tabs hg hvm h
  · exact word_at hW (good_of_word hg) h
/-- a list's words: the good ones out of the method's own list, the others by premises of their own -/
theorem vx_hat {args : Array Value} {s : State} {L B : List Cond} (h1 : ∀ w ∈ L.filter goodWord, w.before args s = true) (h2 : ∀ w ∈ L.filter (fun w => !goodWord w), w ∈ B) (h3 : ∀ w ∈ B, w.before args s = true) : ∀ w ∈ L, w.before args s = true := by
  intro w hw
  by_cases g : goodWord w = true
  · exact h1 w (List.mem_filter.mpr ⟨hw, g⟩)
  · refine h3 w (h2 w (List.mem_filter.mpr ⟨hw, ?_⟩))
    show (!goodWord w) = true
    cases hgw : goodWord w
    · rfl
    · exact absurd hgw g
theorem vx_c {args : Array Value} {s : State} {w : Cond} {B : List Cond} (h : w.before args s = true) (t : ∀ w ∈ B, w.before args s = true) : ∀ w' ∈ w :: B, w'.before args s = true := fun w' h' => (List.mem_cons.mp h').elim (fun e => by rw [e]; exact h) (t w')
theorem vx_n {args : Array Value} {s : State} : ∀ w ∈ ([] : List Cond), w.before args s = true := fun _ h => nomatch h
theorem vx_own {args : Array Value} {s : State} {L : List Cond} (h1 : ∀ w ∈ L.filter vx_no, w.before args s = true)
    (hU : (Cond.isRef (.static Bundle.tN "UNASSIGNED_STACK" Bundle.steD)).before args s = true) (hN : (Cond.isRef (.static Bundle.tN "SUPPRESSED_SENTINEL" Bundle.listD)).before args s = true)
    (lU : (Cond.laysStatic Bundle.tN "UNASSIGNED_STACK" Bundle.steD).before args s = true) (lN : (Cond.laysStatic Bundle.tN "SUPPRESSED_SENTINEL" Bundle.listD).before args s = true) : ∀ w ∈ L, w.before args s = true := by
  intro w hw
  by_cases e1 : w = .isRef (.static Bundle.tN "UNASSIGNED_STACK" Bundle.steD)
  · rw [e1]; exact hU
  · by_cases e2 : w = .isRef (.static Bundle.tN "SUPPRESSED_SENTINEL" Bundle.listD)
    · rw [e2]; exact hN
    · by_cases e3 : w = .laysStatic Bundle.tN "UNASSIGNED_STACK" Bundle.steD
      · rw [e3]; exact lU
      · by_cases e4 : w = .laysStatic Bundle.tN "SUPPRESSED_SENTINEL" Bundle.listD
        · rw [e4]; exact lN
        · exact h1 w (List.mem_filter.mpr ⟨hw, by unfold vx_no; rw [decide_eq_true e1, decide_eq_true e2, decide_eq_true e3, decide_eq_true e4]; rfl⟩)
/-- where a static field lies, its class's statics cell in H -/
def vx_L (C n d : String) (A : Nat → Prop) (U : State) (H : Heap) : Prop := ∃ (c : ClassId) (k : Class) (i : Nat) (f : Field) (a : Nat) (cell : Cell), U.vm.findClass C = some c ∧ U.fieldFound? C n d = some (c, k, i, f) ∧ f.isStatic = true ∧ k.statics = some a ∧ H[a]? = some cell ∧ cell.vm.isStatics = true ∧ cell.cls = c ∧ f.slot < cell.slots.size ∧ k.staticTypes[f.slot]? = some f.type ∧ ¬ A a
theorem vx_L.moved {C n d : String} {A : Nat → Prop} {u U : State} {H : Heap} (hvm : u.vm.Alike U.vm) (h : vx_L C n d A u H) : vx_L C n d A U H := by
  obtain ⟨c, k, i, f, a, cell, h1, h2, h3, h4, h5, h6, h7, h8, h9, h10⟩ := h
  obtain ⟨k', hi', he⟩ := State.fieldFound?_setVm hvm h2
  exact ⟨c, k', i, f, a, cell, by rw [hvm.findClass]; exact h1, hi', h3, by rw [he]; exact h4, h5, h6, h7, h8, by rw [he]; exact h9, h10⟩
theorem vx_L.kept {C n d : String} {A : Nat → Prop} {U : State} {H H1 : Heap} (h : vx_L C n d A U H) (hq : ∀ a : Nat, a < H.size → ¬ A a → H1[a]? = H[a]?) : vx_L C n d A U H1 := by
  obtain ⟨c, k, i, f, a, cell, h1, h2, h3, h4, h5, h6, h7, h8, h9, h10⟩ := h
  exact ⟨c, k, i, f, a, cell, h1, h2, h3, h4, by rw [hq a (Array.getElem?_eq_some_iff.mp h5).1 h10]; exact h5, h6, h7, h8, h9, h10⟩
theorem vx_L.narrow {C n d : String} {A B : Nat → Prop} {U : State} {H : Heap} (h : vx_L C n d A U H) (hAB : ∀ q, B q → A q) : vx_L C n d B U H := by
  obtain ⟨c, k, i, f, a, cell, h1, h2, h3, h4, h5, h6, h7, h8, h9, h10⟩ := h
  exact ⟨c, k, i, f, a, cell, h1, h2, h3, h4, h5, h6, h7, h8, h9, fun z => h10 (hAB _ z)⟩
theorem vx_L.word {C n d : String} {A : Nat → Prop} {s : State} {args : Array Value} (h : vx_L C n d A s s.heap) : (Cond.laysStatic C n d).before args s = true := by
  obtain ⟨c, k, i, f, a, cell, h1, h2, h3, h4, h5, h6, h7, h8, h9, -⟩ := h
  show (Cond.laysStatic C n d).holds args s none s [] = true
  exact Cond.laysStatic_of h1 h2 h3 h4 h5 h6 h7 h8 h9
/-- .. and what it holds: null or some reference -/
def vx_Zq (C n d : String) (A : Nat → Prop) (U : State) (H : Heap) : Prop := va_Zq C n d A U H ∧ vx_L C n d A U H
theorem vx_Zq.moved {C n d : String} {A : Nat → Prop} {u U : State} {H : Heap} (hvm : u.vm.Alike U.vm) (h : vx_Zq C n d A u H) : vx_Zq C n d A U H := ⟨va_Zq.moved hvm h.1, vx_L.moved hvm h.2⟩
theorem vx_Zq.kept {C n d : String} {A : Nat → Prop} {U : State} {H H1 : Heap} (h : vx_Zq C n d A U H) (hq : ∀ a : Nat, a < H.size → ¬ A a → H1[a]? = H[a]?) : vx_Zq C n d A U H1 := ⟨va_Zq.kept h.1 hq, vx_L.kept h.2 hq⟩
theorem vx_Zq.narrow {C n d : String} {A B : Nat → Prop} {U : State} {H : Heap} (h : vx_Zq C n d A U H) (hAB : ∀ q, B q → A q) : vx_Zq C n d B U H := ⟨va_Zq.narrow h.1 hAB, vx_L.narrow h.2 hAB⟩
theorem vx_Zqof {args : Array Value} {s : State} {C n d : String} {A : Nat → Prop} (hl : (Cond.laysStatic C n d).before args s = true) (hini : (Cond.initialized C).before args s = true) (h : (Cond.isRef (.static C n d)).before args s = true) (hA : ∀ a : Nat, a < s.heap.size → ¬ A a) : vx_Zq C n d A s s.heap := by
  refine ⟨va_Zqof hl hini h hA, ?_⟩
  obtain ⟨c, k, i, f, a, cell, h1, h2, h3, h4, h5, h6, h7, h8, h9⟩ := Cond.laysStatic_spec hl
  exact ⟨c, k, i, f, a, cell, h1, h2, h3, h4, h5, h6, h7, h8, h9, hA a (Array.getElem?_eq_some_iff.mp h5).1⟩
theorem vx_isRef {C n d : String} {v : Value} {A : Nat → Prop} {s : State} {args : Array Value} (h : va_Z C n d v A s s.heap) (hv : v.isRef = true) : (Cond.isRef (.static C n d)).before args s = true := by
  obtain ⟨cf, kf, fi, f, a, cell, h1, h2, h3, h4, h5, h6, h7, -⟩ := h
  have he : (Term.static C n d).eval args s none [] s = some v := by
    simp [Term.eval, State.fieldNamed?, h1, h2, h4, h5, h6, h7]
  simp only [Cond.before, Cond.holds, Cond.value, he]
  cases v <;> simp_all [Value.isRef]
theorem vx_isRefq {C n d : String} {A : Nat → Prop} {s : State} {args : Array Value} (h : va_Zq C n d A s s.heap) : (Cond.isRef (.static C n d)).before args s = true := by
  rcases h with h | ⟨t, h⟩
  · exact vx_isRef h rfl
  · exact vx_isRef h rfl
/-- the same frame, seen from here: as if the method were called anew in this heap -/
theorem vx_rebase {T : State} (X : Stand p l e R s m args below meth c T locs cells slots) {R' : Room} (hf : R'.frames ≤ R.frames) (hl : R'.locals ≤ R.locals) (hc : cells + R'.cells ≤ R.cells) (hs : slots + R'.slots ≤ R.slots) :
    Stand p l e R' ((T.setVm s.vm).setFrames (.invoking m args :: below)) m args below meth c T [] 0 0 := by
  have htop : (T.setVm s.vm).topJava?.isSome := X.here.top
  have hF : ((T.setVm s.vm).setFrames (.invoking m args :: below)).frames = .invoking m args :: below := State.frames_setFrames _ (State.cur_lt_of_top htop)
  obtain ⟨g₀, hg0⟩ := Option.isSome_iff_exists.mp htop
  obtain ⟨r, hr⟩ := State.topJava?_eq_some.mp hg0
  have hl9 : e.platform.stackLimits (T.setVm s.vm).me = e.platform.stackLimits s.me := X.limits
  have hb9 : (T.setVm s.vm).me.stackBytes = s.me.stackBytes := X.bytes
  refine ⟨X.admits, X.cas, X.clock, hF, ?_, X.hears, X.method, X.code, X.here, X.tail, X.warmed, ?_, ?_, ?_⟩
  · have h := X.room
    have hU : ((T.setVm s.vm).setFrames (.invoking m args :: below)).localsInUse = s.localsInUse := by
      rw [State.localsInUse_invoking hF (meth := meth) (c := c) X.method X.code, State.localsInUse_invoking X.frames X.method X.code]
    simp only [State.hasRoom, Bool.and_eq_true, decide_eq_true_eq] at h ⊢
    obtain ⟨⟨⟨⟨h1, h2, h3, h4, h5, h6⟩, h7⟩, h8⟩, h9⟩ := h
    rw [X.frames, List.length_cons] at h2 h3
    have q1 := X.heapSize
    have q2 := X.used
    simp only [hF, hU, List.length_cons, State.stackLimits_setFrames, State.stackBytes_setFrames, hl9, hb9]
    refine ⟨⟨⟨⟨by omega, by omega, by omega, by omega, by omega, h6⟩, ?_⟩, ?_⟩, X.book⟩
    · show T.heap.size + R'.cells ≤ e.platform.maxCells
      omega
    · show T.slotsUsed + R'.slots ≤ e.platform.maxSlots
      omega
  · rw [State.stackLimits_setFrames]; rfl
  · rw [State.stackBytes_setFrames]; rfl
  · refine ⟨?_, Nat.le_refl _, Nat.le_refl _, ?_, ?_, fun a c9 h9 => ⟨c9, h9, rfl, rfl, fun _ _ => rfl⟩⟩
    · obtain ⟨t, ht, -⟩ := State.frames_cons hr
      show T.setVm s.vm = { ((T.setVm s.vm).setFrames (.invoking m args :: below)).setFrames (T.setVm s.vm).frames with heap := T.heap, slotsUsed := T.slotsUsed }
      rw [State.setFrames_setFrames, State.setFrames_self ht]
      rfl
    · show T.slotsUsed = T.slotsUsed + ((T.heap.toList.drop T.heap.size).map (·.slots.size)).sum
      rw [List.drop_eq_nil_of_le (Nat.le_of_eq Array.length_toList)]
      rfl
    · show ((T.heap.toList.drop T.heap.size).map (·.slots.size)).sum ≤ 0
      rw [List.drop_eq_nil_of_le (Nat.le_of_eq Array.length_toList)]
      exact Nat.le_refl _
/-- 'throw new E()': new; dup; invokespecial; athrow -/
theorem vx_throw0 {cc : ByteArray} {pc : Nat} (hexec : p.tables.exec = Jvm.exec) (hb : c.code = cc) (hl : l.stackTraces = false) {own cls : String} {names : List String} {ik ic mc ms : Nat} {A : Nat → Prop}
    (hown : s.vm.findClass own = some m.cls) (hcls : Bundle.fit cls = true) (hnames : ∀ n ∈ names, Bundle.fit n = true)
    (hk : (Cond.classLink own ik cls).before args s = true) (hini : (Cond.initialized cls).before args s = true) (hat : ∀ w ∈ vx_at0 own ic cls names, w.before args s = true)
    (hgood : ∀ w ∈ Cond.classLink own ik cls :: Cond.initialized cls :: vx_at0 own ic cls names, vx_ot w = true)
    (hU : vx_Zq Bundle.tN "UNASSIGNED_STACK" Bundle.steD A s s.heap) (hN : vx_Zq Bundle.tN "SUPPRESSED_SENTINEL" Bundle.listD A s s.heap) (hS : va_S A s.heap H locs) (hsize : ls.size = c.maxLocals)
    (d0 : decode cc pc = .ok (.new ik, 3)) (d3 : decode cc (pc + 3) = .ok (.dup, 1)) (d4 : decode cc (pc + 4) = .ok (.invokespecial ic, 3)) (d7 : decode cc (pc + 7) = .ok (.athrow, 1))
    (hout : ∀ x ∈ c.exceptionTable.toList, covers x (pc + 7) = false)
    (hRframes : names.length + 3 < R.frames) (hRlocals : (rest.map fun v => v.category).sum + (13 * (names.length + 1) + 42) ≤ R.locals) (hRcells : cells + 1 ≤ R.cells) (hRslots : slots + 6 ≤ R.slots) (hlocks : meth.locks = false)
    (hx : ∀ t : State, s.vm.Alike t.vm → H.size ≤ t.heap.size → (∀ q : Nat, q < H.size → t.heap[q]? = H[q]?) → XC cls s t)
    (hf : ∀ z ∈ locs, free z.base) (hc : cells + 1 ≤ mc) (hs : slots + 6 ≤ ms) :
    W p l e R s m args below meth c H locs cells slots (vx_MQ below Qc XC args s mc ms free) (F0 m pc ls rest) := by
  intro T hT X
  have htr : e.platform.stackTraces = false := (show e.platform.stackTraces = l.stackTraces by rw [X.admits.platform]).trans hl
  have Y := vx_rebase X (R' := { frames := R.frames, locals := R.locals, cells := 1, slots := 6 }) (Nat.le_refl _) (Nat.le_refl _) hRcells hRslots
  obtain ⟨s', hA⟩ : ∃ z, z = (T.setVm s.vm).setFrames (.invoking m args :: below) := ⟨_, rfl⟩
  rw [← hA] at Y
  have hvm : s'.vm = s.vm := by rw [hA]; rfl
  have hhp : s'.heap = H := by rw [hA]; exact hT
  have hW0 : s.WarmedH s'.vm := by rw [hvm]; exact State.WarmedH.refl s
  have hat' : ∀ w ∈ vx_at0 own ic cls names, w.before args s' = true := fun w hw => vx_ot_at hW0 hvm.symm (hgood w (List.mem_cons_of_mem _ (List.mem_cons_of_mem _ hw))) (hat w hw)
  have hk' : (Cond.classLink own ik cls).before args s' = true := vx_ot_at hW0 hvm.symm (hgood _ List.mem_cons_self) hk
  have hini' : (Cond.initialized cls).before args s' = true := vx_ot_at hW0 hvm.symm (hgood _ (List.mem_cons_of_mem _ List.mem_cons_self)) hini
  have hU' : vx_Zq Bundle.tN "UNASSIGNED_STACK" Bundle.steD A s' s'.heap := by rw [hhp]; exact vx_Zq.moved hW0.alike (hU.kept hS.2.1)
  have hN' : vx_Zq Bundle.tN "SUPPRESSED_SENTINEL" Bundle.listD A s' s'.heap := by rw [hhp]; exact vx_Zq.moved hW0.alike (hN.kept hS.2.1)
  have h : ∀ w ∈ Bundle.ownAtoms0 own ic cls names, w.before args s' = true := vx_own hat' (vx_isRefq hU'.1) (vx_isRefq hN'.1) hU'.2.word hN'.2.word
  have hown' : s'.vm.findClass own = some m.cls := by rw [hvm]; exact hown
  have hins : (Cond.instantiable cls 6).before args s' = true := h _ (by simp [Bundle.ownAtoms0])
  obtain ⟨vm₁, cX, kX, hfX, hkX, -, -, X₁, st1⟩ := Y.newCold hexec (own := own) (C := cls) (index := ik) (n := 6) hown' hk' hins hini'
    (g := F0 m pc ls rest) rfl (by rw [hb]; exact d0) (Nat.le_refl _) (Nat.le_refl _)
  generalize hT1 : (T.setVm vm₁).pushCell { cls := cX, slots := kX.instanceTypes.map defaultValue, vm := .none } = T1 at X₁ st1
  have hcat : (Value.ref T.heap.size).category = 1 := rfl
  have hcellA : T1.heap[T.heap.size]? = some (freshCell cX kX) := by rw [← hT1]; exact State.heap_pushCell_size _ _
  have d3' : decode c.code (pc + 3) = .ok (.dup, 1) := by rw [hb]; exact d3
  obtain ⟨U, hsteps, hrun, hend, hW, hsame, ce, hce, hO⟩ := X₁.ctorThrow0 hexec htr (own := own) (cls := cls) (names := names) (ic := ic) hown' hcls hnames h (fun x hx => nomatch hx) hfX hkX hcellA (by rw [hhp, hT]; exact Nat.le_refl _)
    (g := { method := m, pc := pc + 4, locals := ls, stack := .ref T.heap.size :: .ref T.heap.size :: rest, locked := none }) rfl hsize rfl rfl (rest := rest) rfl
    (by rw [hb]; exact d4) (by rw [hb]; exact d7) hout hRframes (by simp only [List.map_cons, List.sum_cons, hcat]; omega) hlocks
  obtain ⟨f1, f2⟩ := vx_frame hsame
  rw [hhp] at f1 f2
  have hWs : s.WarmedH U.vm := State.WarmedH.trans hW0 hW
  have hcl : s.vm.findClass cls = some ce.cls := by
    have h9 := hO.cls
    rw [hvm] at h9
    exact h9
  have hall : s.sameButNew ({ U with vm := s.vm } : State) locs mc ms := by
    subst hA
    obtain ⟨e1, e2⟩ := hsame
    rw [State.setFrames_setFrames] at e1
    have h2 : (T.setVm s.vm).sameButNew ({ U with vm := s.vm } : State) [] (0 + 1) (0 + 6) := ⟨e1, e2⟩
    have h3 := X.same.trans h2
    rw [List.append_nil] at h3
    exact h3.mono hc hs
  refine ⟨U, ?_, .threw T.heap.size, hrun, hend, Or.inr ⟨T.heap.size, rfl, cls, ce, locs, hx U hWs.alike f1 (fun q hq => f2 q hq (fun z hz => nomatch hz)), hce, hO.vm, hcl, hWs, hall, hf⟩⟩
  refine st1 _ ?_
  show Steps p.tables e below (T1.setTop { method := m, pc := pc + 3, locals := ls, stack := .ref T.heap.size :: rest, locked := none }) _
  jvm_step X₁.here [X₁.here.top, hexec, d3', Value.category]
  exact hsteps
/-- 'throw new E("text")': new; dup; ldc; invokespecial; athrow -/
theorem vx_throwS {cc : ByteArray} {pc : Nat} (hexec : p.tables.exec = Jvm.exec) (hb : c.code = cc) (hl : l.stackTraces = false) {own cls text : String} {names : List String} {ik is ic mc ms sa : Nat} {A : Nat → Prop}
    (hown : s.vm.findClass own = some m.cls) (hcls : Bundle.fit cls = true) (hnames : ∀ n ∈ names, Bundle.fit n = true)
    (hk : (Cond.classLink own ik cls).before args s = true) (hini : (Cond.initialized cls).before args s = true) (hstr : vk_R own is text sa s) (hat : ∀ w ∈ vx_atS own ic cls names, w.before args s = true)
    (hgood : ∀ w ∈ Cond.classLink own ik cls :: Cond.initialized cls :: vx_atS own ic cls names, vx_ot w = true)
    (hU : vx_Zq Bundle.tN "UNASSIGNED_STACK" Bundle.steD A s s.heap) (hN : vx_Zq Bundle.tN "SUPPRESSED_SENTINEL" Bundle.listD A s s.heap) (hS : va_S A s.heap H locs) (hsize : ls.size = c.maxLocals)
    (d0 : decode cc pc = .ok (.new ik, 3)) (d3 : decode cc (pc + 3) = .ok (.dup, 1)) (d4 : decode cc (pc + 4) = .ok (.ldc is, 2)) (d6 : decode cc (pc + 6) = .ok (.invokespecial ic, 3)) (d9 : decode cc (pc + 9) = .ok (.athrow, 1))
    (hout : ∀ x ∈ c.exceptionTable.toList, covers x (pc + 9) = false)
    (hRframes : names.length + 3 < R.frames) (hRlocals : (rest.map fun v => v.category).sum + (13 * (names.length + 1) + 43) ≤ R.locals) (hRcells : cells + 1 ≤ R.cells) (hRslots : slots + 6 ≤ R.slots) (hlocks : meth.locks = false)
    (hx : ∀ t : State, s.vm.Alike t.vm → H.size ≤ t.heap.size → (∀ q : Nat, q < H.size → t.heap[q]? = H[q]?) → t.heap.size ≤ H.size + 1 → TOT t.heap ≤ TOT H + 6 → XC cls s t)
    (hf : ∀ z ∈ locs, free z.base) (hc : cells + 1 ≤ mc) (hs : slots + 6 ≤ ms) :
    W p l e R s m args below meth c H locs cells slots (vx_MQ below Qc XC args s mc ms free) (F0 m pc ls rest) := by
  intro T hT X
  have htr : e.platform.stackTraces = false := (show e.platform.stackTraces = l.stackTraces by rw [X.admits.platform]).trans hl
  have Y := vx_rebase X (R' := { frames := R.frames, locals := R.locals, cells := 1, slots := 6 }) (Nat.le_refl _) (Nat.le_refl _) hRcells hRslots
  obtain ⟨s', hA⟩ : ∃ z, z = (T.setVm s.vm).setFrames (.invoking m args :: below) := ⟨_, rfl⟩
  rw [← hA] at Y
  have hvm : s'.vm = s.vm := by rw [hA]; rfl
  have hhp : s'.heap = H := by rw [hA]; exact hT
  have hW0 : s.WarmedH s'.vm := by rw [hvm]; exact State.WarmedH.refl s
  have hat' : ∀ w ∈ vx_atS own ic cls names, w.before args s' = true := fun w hw => vx_ot_at hW0 hvm.symm (hgood w (List.mem_cons_of_mem _ (List.mem_cons_of_mem _ hw))) (hat w hw)
  have hk' : (Cond.classLink own ik cls).before args s' = true := vx_ot_at hW0 hvm.symm (hgood _ List.mem_cons_self) hk
  have hini' : (Cond.initialized cls).before args s' = true := vx_ot_at hW0 hvm.symm (hgood _ (List.mem_cons_of_mem _ List.mem_cons_self)) hini
  have hU' : vx_Zq Bundle.tN "UNASSIGNED_STACK" Bundle.steD A s' s'.heap := by rw [hhp]; exact vx_Zq.moved hW0.alike (hU.kept hS.2.1)
  have hN' : vx_Zq Bundle.tN "SUPPRESSED_SENTINEL" Bundle.listD A s' s'.heap := by rw [hhp]; exact vx_Zq.moved hW0.alike (hN.kept hS.2.1)
  have h : ∀ w ∈ Bundle.ownAtoms own ic cls names, w.before args s' = true := vx_own hat' (vx_isRefq hU'.1) (vx_isRefq hN'.1) hU'.2.word hN'.2.word
  have hown' : s'.vm.findClass own = some m.cls := by rw [hvm]; exact hown
  have hins : (Cond.instantiable cls 6).before args s' = true := h _ (by simp [Bundle.ownAtoms])
  obtain ⟨vm₁, cX, kX, hfX, hkX, -, -, X₁, st1⟩ := Y.newCold hexec (own := own) (C := cls) (index := ik) (n := 6) hown' hk' hins hini'
    (g := F0 m pc ls rest) rfl (by rw [hb]; exact d0) (Nat.le_refl _) (Nat.le_refl _)
  generalize hT1 : (T.setVm vm₁).pushCell { cls := cX, slots := kX.instanceTypes.map defaultValue, vm := .none } = T1 at X₁ st1
  have hcat : (Value.ref T.heap.size).category = 1 := rfl
  have hcellA : T1.heap[T.heap.size]? = some (freshCell cX kX) := by rw [← hT1]; exact State.heap_pushCell_size _ _
  have d3' : decode c.code (pc + 3) = .ok (.dup, 1) := by rw [hb]; exact d3
  have d4' : decode c.code (pc + 4) = .ok (.ldc is, 2) := by rw [hb]; exact d4
  have hstr' : vk_R own is text sa s' := vk_R.warm hW0 hstr
  obtain ⟨U, hsteps, hrun, hend, hW, hsame, ce, hce, hO⟩ := X₁.ctorThrowS hexec htr (own := own) (cls := cls) (names := names) (ic := ic) hown' hcls hnames h (fun x hx => nomatch hx) hfX hkX hcellA (by rw [hhp, hT]; exact Nat.le_refl _) (msg := .ref sa) rfl
    (g := { method := m, pc := pc + 6, locals := ls, stack := .ref sa :: .ref T.heap.size :: .ref T.heap.size :: rest, locked := none }) rfl hsize rfl rfl (rest := rest) rfl
    (by rw [hb]; exact d6) (by rw [hb]; exact d9) hout hRframes (by simp only [List.map_cons, List.sum_cons, hcat]; omega) hlocks
  obtain ⟨f1, f2⟩ := vx_frame hsame
  rw [hhp] at f1 f2
  have hWs : s.WarmedH U.vm := State.WarmedH.trans hW0 hW
  have hcl : s.vm.findClass cls = some ce.cls := by
    have h9 := hO.cls
    rw [hvm] at h9
    exact h9
  have h29 : (T.setVm s.vm).sameButNew ({ U with vm := s.vm } : State) [] (0 + 1) (0 + 6) := by
    subst hA
    obtain ⟨e1, e2⟩ := hsame
    rw [State.setFrames_setFrames] at e1
    exact ⟨e1, e2⟩
  have hzz : U.heap.size ≤ H.size + 1 := by rw [← hT]; exact h29.2.2.1
  have htt : TOT U.heap ≤ TOT H + 6 := by
    have h8 := tot_le h29
    rw [← hT]
    exact h8
  have hall : s.sameButNew ({ U with vm := s.vm } : State) locs mc ms := by
    subst hA
    obtain ⟨e1, e2⟩ := hsame
    rw [State.setFrames_setFrames] at e1
    have h2 : (T.setVm s.vm).sameButNew ({ U with vm := s.vm } : State) [] (0 + 1) (0 + 6) := ⟨e1, e2⟩
    have h3 := X.same.trans h2
    rw [List.append_nil] at h3
    exact h3.mono hc hs
  refine ⟨U, ?_, .threw T.heap.size, hrun, hend, Or.inr ⟨T.heap.size, rfl, cls, ce, locs, hx U hWs.alike f1 (fun q hq => f2 q hq (fun z hz => nomatch hz)) hzz htt, hce, hO.vm, hcl, hWs, hall, hf⟩⟩
  refine st1 _ ?_
  show Steps p.tables e below (T1.setTop { method := m, pc := pc + 3, locals := ls, stack := .ref T.heap.size :: rest, locked := none }) _
  jvm_step X₁.here [X₁.here.top, hexec, d3', Value.category]
  exact X₁.ldcString hexec (own := own) (text := text) (index := is) (a := sa) hown' hstr'.1 hstr'.2
    (g := { method := m, pc := pc + 4, locals := ls, stack := .ref T.heap.size :: .ref T.heap.size :: rest, locked := none }) rfl d4' _ hsteps
/-- 'throw new E("text")', the text by a wide index -/
theorem vx_throwSW {cc : ByteArray} {pc : Nat} (hexec : p.tables.exec = Jvm.exec) (hb : c.code = cc) (hl : l.stackTraces = false) {own cls text : String} {names : List String} {ik is ic mc ms sa : Nat} {A : Nat → Prop}
    (hown : s.vm.findClass own = some m.cls) (hcls : Bundle.fit cls = true) (hnames : ∀ n ∈ names, Bundle.fit n = true)
    (hk : (Cond.classLink own ik cls).before args s = true) (hini : (Cond.initialized cls).before args s = true) (hstr : vk_R own is text sa s) (hat : ∀ w ∈ vx_atS own ic cls names, w.before args s = true)
    (hgood : ∀ w ∈ Cond.classLink own ik cls :: Cond.initialized cls :: vx_atS own ic cls names, vx_ot w = true)
    (hU : vx_Zq Bundle.tN "UNASSIGNED_STACK" Bundle.steD A s s.heap) (hN : vx_Zq Bundle.tN "SUPPRESSED_SENTINEL" Bundle.listD A s s.heap) (hS : va_S A s.heap H locs) (hsize : ls.size = c.maxLocals)
    (d0 : decode cc pc = .ok (.new ik, 3)) (d3 : decode cc (pc + 3) = .ok (.dup, 1)) (d4 : decode cc (pc + 4) = .ok (.ldc_w is, 3)) (d7 : decode cc (pc + 7) = .ok (.invokespecial ic, 3)) (d10 : decode cc (pc + 10) = .ok (.athrow, 1))
    (hout : ∀ x ∈ c.exceptionTable.toList, covers x (pc + 10) = false)
    (hRframes : names.length + 3 < R.frames) (hRlocals : (rest.map fun v => v.category).sum + (13 * (names.length + 1) + 43) ≤ R.locals) (hRcells : cells + 1 ≤ R.cells) (hRslots : slots + 6 ≤ R.slots) (hlocks : meth.locks = false)
    (hx : ∀ t : State, s.vm.Alike t.vm → H.size ≤ t.heap.size → (∀ q : Nat, q < H.size → t.heap[q]? = H[q]?) → t.heap.size ≤ H.size + 1 → TOT t.heap ≤ TOT H + 6 → XC cls s t)
    (hf : ∀ z ∈ locs, free z.base) (hc : cells + 1 ≤ mc) (hs : slots + 6 ≤ ms) :
    W p l e R s m args below meth c H locs cells slots (vx_MQ below Qc XC args s mc ms free) (F0 m pc ls rest) := by
  intro T hT X
  have htr : e.platform.stackTraces = false := (show e.platform.stackTraces = l.stackTraces by rw [X.admits.platform]).trans hl
  have Y := vx_rebase X (R' := { frames := R.frames, locals := R.locals, cells := 1, slots := 6 }) (Nat.le_refl _) (Nat.le_refl _) hRcells hRslots
  obtain ⟨s', hA⟩ : ∃ z, z = (T.setVm s.vm).setFrames (.invoking m args :: below) := ⟨_, rfl⟩
  rw [← hA] at Y
  have hvm : s'.vm = s.vm := by rw [hA]; rfl
  have hhp : s'.heap = H := by rw [hA]; exact hT
  have hW0 : s.WarmedH s'.vm := by rw [hvm]; exact State.WarmedH.refl s
  have hat' : ∀ w ∈ vx_atS own ic cls names, w.before args s' = true := fun w hw => vx_ot_at hW0 hvm.symm (hgood w (List.mem_cons_of_mem _ (List.mem_cons_of_mem _ hw))) (hat w hw)
  have hk' : (Cond.classLink own ik cls).before args s' = true := vx_ot_at hW0 hvm.symm (hgood _ List.mem_cons_self) hk
  have hini' : (Cond.initialized cls).before args s' = true := vx_ot_at hW0 hvm.symm (hgood _ (List.mem_cons_of_mem _ List.mem_cons_self)) hini
  have hU' : vx_Zq Bundle.tN "UNASSIGNED_STACK" Bundle.steD A s' s'.heap := by rw [hhp]; exact vx_Zq.moved hW0.alike (hU.kept hS.2.1)
  have hN' : vx_Zq Bundle.tN "SUPPRESSED_SENTINEL" Bundle.listD A s' s'.heap := by rw [hhp]; exact vx_Zq.moved hW0.alike (hN.kept hS.2.1)
  have h : ∀ w ∈ Bundle.ownAtoms own ic cls names, w.before args s' = true := vx_own hat' (vx_isRefq hU'.1) (vx_isRefq hN'.1) hU'.2.word hN'.2.word
  have hown' : s'.vm.findClass own = some m.cls := by rw [hvm]; exact hown
  have hins : (Cond.instantiable cls 6).before args s' = true := h _ (by simp [Bundle.ownAtoms])
  obtain ⟨vm₁, cX, kX, hfX, hkX, -, -, X₁, st1⟩ := Y.newCold hexec (own := own) (C := cls) (index := ik) (n := 6) hown' hk' hins hini'
    (g := F0 m pc ls rest) rfl (by rw [hb]; exact d0) (Nat.le_refl _) (Nat.le_refl _)
  generalize hT1 : (T.setVm vm₁).pushCell { cls := cX, slots := kX.instanceTypes.map defaultValue, vm := .none } = T1 at X₁ st1
  have hcat : (Value.ref T.heap.size).category = 1 := rfl
  have hcellA : T1.heap[T.heap.size]? = some (freshCell cX kX) := by rw [← hT1]; exact State.heap_pushCell_size _ _
  have d3' : decode c.code (pc + 3) = .ok (.dup, 1) := by rw [hb]; exact d3
  have d4' : decode c.code (pc + 4) = .ok (.ldc_w is, 3) := by rw [hb]; exact d4
  have hstr' : vk_R own is text sa s' := vk_R.warm hW0 hstr
  obtain ⟨U, hsteps, hrun, hend, hW, hsame, ce, hce, hO⟩ := X₁.ctorThrowS hexec htr (own := own) (cls := cls) (names := names) (ic := ic) hown' hcls hnames h (fun x hx => nomatch hx) hfX hkX hcellA (by rw [hhp, hT]; exact Nat.le_refl _) (msg := .ref sa) rfl
    (g := { method := m, pc := pc + 7, locals := ls, stack := .ref sa :: .ref T.heap.size :: .ref T.heap.size :: rest, locked := none }) rfl hsize rfl rfl (rest := rest) rfl
    (by rw [hb]; exact d7) (by rw [hb]; exact d10) hout hRframes (by simp only [List.map_cons, List.sum_cons, hcat]; omega) hlocks
  obtain ⟨f1, f2⟩ := vx_frame hsame
  rw [hhp] at f1 f2
  have hWs : s.WarmedH U.vm := State.WarmedH.trans hW0 hW
  have hcl : s.vm.findClass cls = some ce.cls := by
    have h9 := hO.cls
    rw [hvm] at h9
    exact h9
  have h29 : (T.setVm s.vm).sameButNew ({ U with vm := s.vm } : State) [] (0 + 1) (0 + 6) := by
    subst hA
    obtain ⟨e1, e2⟩ := hsame
    rw [State.setFrames_setFrames] at e1
    exact ⟨e1, e2⟩
  have hzz : U.heap.size ≤ H.size + 1 := by rw [← hT]; exact h29.2.2.1
  have htt : TOT U.heap ≤ TOT H + 6 := by
    have h8 := tot_le h29
    rw [← hT]
    exact h8
  have hall : s.sameButNew ({ U with vm := s.vm } : State) locs mc ms := by
    subst hA
    obtain ⟨e1, e2⟩ := hsame
    rw [State.setFrames_setFrames] at e1
    have h2 : (T.setVm s.vm).sameButNew ({ U with vm := s.vm } : State) [] (0 + 1) (0 + 6) := ⟨e1, e2⟩
    have h3 := X.same.trans h2
    rw [List.append_nil] at h3
    exact h3.mono hc hs
  refine ⟨U, ?_, .threw T.heap.size, hrun, hend, Or.inr ⟨T.heap.size, rfl, cls, ce, locs, hx U hWs.alike f1 (fun q hq => f2 q hq (fun z hz => nomatch hz)) hzz htt, hce, hO.vm, hcl, hWs, hall, hf⟩⟩
  refine st1 _ ?_
  show Steps p.tables e below (T1.setTop { method := m, pc := pc + 3, locals := ls, stack := .ref T.heap.size :: rest, locked := none }) _
  jvm_step X₁.here [X₁.here.top, hexec, d3', Value.category]
  exact X₁.ldcStringW hexec (own := own) (text := text) (index := is) (a := sa) hown' hstr'.1 hstr'.2
    (g := { method := m, pc := pc + 4, locals := ls, stack := .ref T.heap.size :: .ref T.heap.size :: rest, locked := none }) rfl d4' _ hsteps
end Ends
section Bodies
variable {l : Launch}
theorem vx_ofW {y : MethodName} {ws ws' : List Cond} {rm : Room} {Pc : Array Value → State → Prop} {Qc : Array Value → State → Outcome → State → Prop} {XC : String → State → State → Prop} {mc ms : Nat} {free : Addr → Prop} {cc : ByteArray} {maxL : Nat} {ret : Option FieldType}
    (hy : plainName y.cls = true) (hw : ws = Cond.code y cc maxL ret :: ws')
    (body : ∀ p e s m args below meth c s₁, BodyLoose p l y (headSpec ws rm) cc maxL ret e s m args below meth c s₁ → c.maxLocals = maxL → (∀ x ∈ c.exceptionTable.toList, False) → Pc args s →
      W p l e (headSpec ws rm).room s m args below meth c s.heap [] 0 0 (vx_MQ below Qc XC args s mc ms free) (entryFrame m args maxL)) : vx_Met l y ws rm Pc Qc XC mc ms free := by
  refine MetFree.of_bodyS (code := cc) (maxLocals := maxL) (ret := ret) hy ?_ ?_
  · intro args s m h hn
    obtain ⟨meth, c, h1, h2, h3, h4, h5, h6, -, -⟩ := Cond.code_spec hn (atoms_spec (ws := ws) h _ (by rw [hw]; exact List.mem_cons_self))
    exact ⟨meth, c, h1, h2, h3, h4, h5, h6⟩
  · intro p e s m args below meth c s₁ B hml hP _
    have hh0 : s₁.heap = s.heap := by rw [B.state]; rfl
    have ht : ∀ x ∈ c.exceptionTable.toList, False := by
      obtain ⟨meth9, c9, h1, h2, -, -, -, -, h7, -⟩ := Cond.code_spec B.named (atoms_spec (ws := ws) B.pre _ (by rw [hw]; exact List.mem_cons_self))
      cases Option.some.inj (h1.symm.trans B.method)
      cases Option.some.inj (h2.symm.trans (Stand.of_body B).code)
      intro x hx
      rw [Array.isEmpty_iff.mp h7] at hx
      cases hx
    obtain ⟨t, a1, o, b1, b2, b3⟩ := body p e s m args below meth c s₁ B hml ht hP s₁ hh0 (Stand.of_body B)
    exact ⟨t, o, a1, b1, b2, b3⟩
/-- the table of a body with handlers -/
theorem vx_table {p : Program} {x y : MethodName} {S : Spec} {cc bytes : ByteArray} {maxL maxL' : Nat} {ret ret' : Option FieldType} {e : Env} {s s₁ : State} {m : MethodId} {args : Array Value} {below : List Frame} {meth : Method} {c : Code} {hh : List (Nat × Nat × Nat × Nat)}
    (B : BodyLoose p l y S cc maxL ret e s m args below meth c s₁) (h : (Cond.codeWith y bytes maxL' ret' hh).before args s = true) : c.exceptionTable.toList = tableOf hh := by
  obtain ⟨m9, meth9, c9, hn9, h1, h2, -, -, h6, -⟩ := Cond.codeWith_spec h
  cases Option.some.inj (hn9.symm.trans B.named)
  cases Option.some.inj (h1.symm.trans B.method)
  cases Option.some.inj (h2.symm.trans (Stand.of_body B).code)
  rw [← h6, table_eq]
end Bodies
end VXA
/-! ===== END ===== -/
/-! ===== BEGIN a static call of a method with an exception table ===== -/
section VXS
variable {p : Program} {l : Launch} {e : Env} {R : Room} {s : State} {m : MethodId} {args : Array Value} {below : List Frame} {meth : Method} {c : Code} {T : State} {H : Heap} {locs : List Loc} {cells slots : Nat}
abbrev vx_CSW (R : Room) (s : State) (args : Array Value) (own : String) (index : Nat) (y : MethodName) (bytes : ByteArray) (maxL : Nat) (ret : Option FieldType) (hh : List (Nat × Nat × Nat × Nat)) (ws : List Cond) (rm : Room) (mc ms n : Nat) : Prop :=
  (rm.cells = mc ∧ rm.slots = ms ∧ rm.frames + 1 ≤ R.frames ∧ 8 + (maxL + 11) + rm.locals ≤ R.locals ∧ (∀ w ∈ ws, ∀ (a' : Array Value) (U : State), s.WarmedH U.vm → w.before a' U = true) ∧ Cond.codeWith y bytes maxL ret hh ∈ ws) ∧
  (Cond.codeWith y bytes maxL ret hh).before args s = true ∧ (Cond.initialized y.cls).before args s = true ∧ (y.cls ≠ "java/lang/invoke/MethodHandle" ∧ y.cls ≠ "java/lang/invoke/VarHandle") ∧
  (∀ sig, parseMethodDescriptor y.desc = some sig → n = sig.parameters.length) ∧ (Cond.methodLink own index y).before args s = true ∧ (Cond.static y).before args s = true
theorem vx_cwSW {own : String} {index maxL mc ms : Nat} {y : MethodName} {bytes : ByteArray} {ret : Option FieldType} {hh : List (Nat × Nat × Nat × Nat)} {Ts ws ws' : List Cond} {rm : Room} (n : Nat) (ht : ∀ w ∈ Ts, w.before args s = true) (hT : GoodIn Ts (va_wsS own index y ws)) (hw : ws = Cond.codeWith y bytes maxL ret hh :: ws') (hrc : rm.cells = mc) (hrs : rm.slots = ms)
    (hd : y.cls ≠ "java/lang/invoke/MethodHandle" ∧ y.cls ≠ "java/lang/invoke/VarHandle" ∧ (parseMethodDescriptor y.desc).map (fun d => d.parameters.length) = some n) (hR : rm.frames + 1 ≤ R.frames ∧ 8 + (maxL + 11) + rm.locals ≤ R.locals) :
    vx_CSW R s args own index y bytes maxL ret hh ws rm mc ms n := by
  have ok : ∀ w ∈ va_wsS own index y ws, w.before args s = true := fun w h => ht w (hT w h).1
  have hG : GoodIn Ts ws := fun w h => hT w (by unfold va_wsS; exact List.mem_append_right _ h)
  have hc : Cond.codeWith y bytes maxL ret hh ∈ ws := by rw [hw]; exact List.mem_cons_self
  refine ⟨⟨hrc, hrs, hR.1, hR.2, pay_in ht hG, hc⟩, ht _ (hG _ hc).1, ok _ (by simp [va_wsS]), ⟨hd.1, hd.2.1⟩, fun sig h => ?_, ok _ (by simp [va_wsS]), ok _ (by simp [va_wsS])⟩
  have h2 := hd.2.2
  rw [h] at h2
  exact (Option.some.inj h2).symm
theorem vx_callSW (X : Stand p l e R s m args below meth c T locs cells slots) (hexec : p.tables.exec = Jvm.exec) {own : String} {index : Nat} {y : MethodName} {bytes : ByteArray} {maxL : Nat} {ret : Option FieldType} {hh : List (Nat × Nat × Nat × Nat)}
    (hown : s.vm.findClass own = some m.cls) (hlink : (Cond.methodLink own index y).before args s = true) (hstat : (Cond.static y).before args s = true) (hinit : (Cond.initialized y.cls).before args s = true)
    (hcode : (Cond.codeWith y bytes maxL ret hh).before args s = true) (hy : y.cls ≠ "java/lang/invoke/MethodHandle" ∧ y.cls ≠ "java/lang/invoke/VarHandle")
    {W9 : Nat} {Pre : Pt → Array Value → Prop} {Post : Pt → Array Value → Option Value → Pt → Prop} (hK : Back l R p e below s args y 3 W9 Pre Post)
    {g : JFrame} (hg : g.method = m) (hsize : g.locals.size = c.maxLocals) {argsL rest : List Value} (hlen : ∀ sig, parseMethodDescriptor y.desc = some sig → argsL.length = sig.parameters.length)
    (hstack : g.stack = argsL.reverse ++ rest) (hW : 2 * g.monitorRoom + (rest.map fun v => v.category).sum ≤ W9) (hdg : decode c.code g.pc = .ok (.invokestatic index, 3))
    (hpre : ∀ vm₁, s.WarmedH vm₁ → Pre ⟨T.setVm vm₁, locs, cells, slots⟩ argsL.toArray) :
    ∃ (v : Option Value) (vm₁ : Vm) (B : Pt), s.WarmedH vm₁ ∧ Stand p l e R s m args below meth c B.U B.locs B.cells B.slots ∧ Post ⟨T.setVm vm₁, locs, cells, slots⟩ argsL.toArray v B ∧
      ∀ target, Steps p.tables e below (B.U.setTop { g with pc := g.pc + 3, stack := v.toList ++ rest }) target → Steps p.tables e below (T.setTop g) target := by
  obtain ⟨mk, methM, cM, hnamed, hmethM, -, -, -, -, -, -, hsigM⟩ := Cond.codeWith_spec hcode
  have hstatic : methM.isStatic = true := Cond.static_spec hnamed hmethM hstat
  obtain ⟨kP, hkP, -⟩ := className_of_methodNamed hnamed
  have hinitP : kP.init = .initialized := Cond.initialized_spec (findClass_of_methodNamed hnamed) hkP hinit
  obtain ⟨vm₁, X₁, hstep₁⟩ := X.invokestatic hexec hown hlink hnamed hmethM hstatic hkP hinitP hy (g := g) hg (argsL := argsL) (rest := rest) (hlen _ hsigM) hstack hdg
  obtain ⟨v, B, X', hpost, hsteps⟩ := hK m meth c ⟨T.setVm vm₁, locs, cells, slots⟩ { g with stack := rest } (.invokestatic index) mk argsL.toArray X₁ hg hsize hdg hW (X₁.named hnamed) (hpre vm₁ X₁.warmed)
  exact ⟨v, vm₁, B, X₁.warmed, X', hpost, fun target h => hstep₁ _ fun acts => by rw [doInvoke_state]; exact hsteps.trans h⟩
theorem vx_runSW {y : MethodName} {bytes cc : ByteArray} {maxL nL mc ms n index : Nat} {ret : Option FieldType} {hh : List (Nat × Nat × Nat × Nat)} {ws : List Cond} {rm : Room} {Pc : Array Value → State → Prop} {Qc : Array Value → State → Outcome → State → Prop} {free : Addr → Prop} {Ts : List Cond} {own : String} {As rest : List Value} {g : JFrame}
    (S : CallFix p m c cc nL s args Ts own) (hM : Met l y ws rm Pc Qc mc ms free) (cw : vx_CSW R s args own index y bytes maxL ret hh ws rm mc ms n) (hp : PreS s H Pc As)
    (hg : g.method = m) (hn : As.length = n) (hsize : g.locals.size = nL) (hstack : g.stack = As.reverse ++ rest) (hW : 2 * g.monitorRoom + (rest.map fun v => v.category).sum ≤ 8) (hdg : decode cc g.pc = .ok (.invokestatic index, 3)) (hf : cells + mc ≤ R.cells ∧ slots + ms ≤ R.slots) :
    va_Run p l e R s m args below meth c H locs cells slots mc ms g rest (Qc As.toArray) (free) := by
  obtain ⟨⟨hrc, hrs, hfr, hlo, hws, hcw⟩, hcode, hini, hy, hlen, hl, hstt⟩ := cw
  have hK : Back l R p e below s args y 3 8 (PreOf R mc ms Pc) (PostOf Qc mc ms free) := va_backW (hh := hh) (bytes := bytes) (maxL := maxL) (ret := ret) hM hp.1 hrc hrs hfr hlo hws hcw (fun a' U hW => word_at hW (Or.inl (by first | rfl | simp [Cond.onTables, Cond.keeps, Cond.steady])) hini)
  obtain ⟨hx, hb, hml, ho, -⟩ := S
  intro T hT X
  obtain ⟨v, vm₁, ⟨U', l2, c2, s2⟩, hW₁, X', ⟨g', mk, t, L, e1, e2, hq, h1, hL, h2, h3⟩, st⟩ := vx_callSW X hx (hh := hh) (bytes := bytes) (maxL := maxL) (ret := ret) ho hl hstt hini hcode hy hK hg (hsize.trans hml.symm) (argsL := As) (rest := rest) (fun sig h => hn.trans (hlen sig h)) hstack hW (by rw [hb]; exact hdg)
    (fun vm₁ hW₁ => ⟨hf.1, hf.2, hp.2 (T.setVm vm₁) hT hW₁⟩)
  dsimp only [Pt.U, Pt.locs, Pt.cells, Pt.slots] at X' e1 e2 h1 h2 h3 st
  subst h1; subst h2; subst h3
  exact ⟨v, (T.setVm vm₁).calling g' mk As.toArray, t, U', L, hT, X', hL, e1, e2, hq, st⟩
/-- not caught here, past rows that name other classes: it goes on to the caller -/
theorem vx_outP {p : Program} {l : Launch} {e : Env} {R : Room} {s : State} {m : MethodId} {args : Array Value} {below : List Frame} {meth : Method} {c : Code} {H : Heap} {locs : List Loc} {cells slots : Nat} {free : Addr → Prop} {ls : Array Slot} {rest : List Value} {Qc : Array Value → State → Outcome → State → Prop} {XC : String → State → State → Prop}
    {pc : Nat} {own E : String} {ce : Cell} {q : Addr} {mc ms : Nat} (hown : s.vm.findClass own = some m.cls) (hlocks : meth.locks = false)
    (hpass : ∀ z ∈ c.exceptionTable.toList, covers z pc = false ∨ (z.catchType ≠ 0 ∧ ∃ nm : String, (Cond.classLink own z.catchType nm).before args s = true ∧ va_Nc E nm s)) (hcell : H[q]? = some ce) (hv : ce.vm = .none) (hcl : s.vm.findClass E = some ce.cls)
    (hx : ∀ t : State, t.heap = H → s.vm.Alike t.vm → XC E s t) (hf : ∀ z ∈ locs, free z.base) (hc : cells ≤ mc) (hs : slots ≤ ms) :
    vx_W p l e R s m args below meth c H locs cells slots (vx_MQ below Qc XC args s mc ms free) (F0 m pc ls rest) q := by
  intro T hT X
  have hpl : e.platform.magicAccessors = ({} : Platform).magicAccessors := by rw [X.admits.platform]
  obtain ⟨vm', hW', X', st⟩ := X.outThrough hlocks q (g := F0 m pc ls rest) rfl rfl rfl (cell := ce) (by rw [hT]; exact hcell) (by rw [hv]; rfl)
    (by obtain ⟨k9, h9, -⟩ := Vm.findClass_spec hcl; exact ⟨k9, h9⟩) (fun z hz => by
      rcases hpass z hz with h | ⟨hz0, nm, hl1, hn1⟩
      · exact Or.inl h
      · obtain ⟨c6, hc6, hcl6⟩ := Cond.classLink_spec hown hl1 e.platform hpl
        obtain ⟨a8, b8, h1, h2, h3⟩ := hn1
        cases Option.some.inj (h1.symm.trans hcl)
        cases Option.some.inj (h2.symm.trans hc6)
        exact Or.inr ⟨hz0, _, hcl6, h3⟩)
  obtain ⟨g₀, hfr⟩ := X'.frames_eq
  have hcell9 : ((T.setVm vm').setFrames (.throwing q :: below)).heap[q]? = some ce := by
    show T.heap[q]? = some ce
    rw [hT]; exact hcell
  have hend : Ended ((T.setVm vm').setFrames (.throwing q :: below)) below (.threw q) := State.frames_setFrames _ (State.cur_lt_of_frames hfr)
  refine ⟨(T.setVm vm').setFrames (.throwing q :: below), ?_, .threw q, X'.here.running, hend, Or.inr ⟨q, rfl, E, ce, locs, hx _ hT (X'.ends _).1.alike, hcell9, hv, hcl, (X'.ends _).1, (X'.ends _).2.mono hc hs, hf⟩⟩
  rw [X.pushThrowing_eq]
  exact st
/-- a thing of a world lies in the heap -/
theorem vx_lt {D : va_G} {cl : List vw_C} {ws : va_W} {H1 : Heap} (h : va_P D cl ws H1) {k : Nat} {q : Nat × va_E} (hk : ws[k]? = some q) : q.1 < H1.size := (h k q hk).lt
end VXS
/-! ===== END ===== -/
end
section
def RX0 : String := "GroundProver$ClassSearch"
def TX0 : u_T := fun k => match k with
  | 0 => ("GroundProver$ClassSearch", "theory", "LGroundProver$Theory;", true)
  | 1 => ("GroundProver$ClassSearch", "store", "LGroundProver$TermStore;", true)
  | 2 => ("GroundProver$ClassSearch", "walk", "LGroundProver$Walk;", true)
  | 3 => ("GroundProver$ClassSearch", "grammar", "LGroundProver$Grammar;", true)
  | _ => ("GroundProver$ClassSearch", "counts", "[J", false)
def tyX0 : Nat → FieldType := fun k => match k with
  | 0 => .object "GroundProver$Theory"
  | 1 => .object "GroundProver$TermStore"
  | 2 => .object "GroundProver$Walk"
  | 3 => .object "GroundProver$Grammar"
  | _ => .array .long
abbrev wsX00 : List Cond := u_ws RX0 TX0 5
theorem nmX0 : ∀ a, a < 5 → ∀ b, b < 5 → a ≠ b → (TX0 a).2.1 ≠ (TX0 b).2.1 := by decide +kernel
theorem tyX0_ok : ∀ k, k < 5 → parseFieldDescriptor (TX0 k).2.2.1 = some (tyX0 k) := by decide +kernel
abbrev cX0_init : ByteArray := prog_2_method_1_code
def yX0_init : MethodName := ⟨RX0, "<init>", "(LGroundProver$Theory;LGroundProver$TermStore;LGroundProver$Walk;LGroundProver$Grammar;)V"⟩
def RX1 : String := "GroundProver$Closure"
def TX1 : u_T := fun k => match k with
  | 0 => ("GroundProver$Closure", "store", "LGroundProver$TermStore;", true)
  | 1 => ("GroundProver$Closure", "walk", "LGroundProver$Walk;", true)
  | 2 => ("GroundProver$Closure", "leaders", "LGroundProver$Row;", true)
  | 3 => ("GroundProver$Closure", "nextMembers", "LGroundProver$Row;", true)
  | 4 => ("GroundProver$Closure", "memberCounts", "LGroundProver$Row;", true)
  | 5 => ("GroundProver$Closure", "twins", "LGroundProver$Row;", true)
  | 6 => ("GroundProver$Closure", "signs", "LGroundProver$Row;", true)
  | 7 => ("GroundProver$Closure", "parts", "LGroundProver$Row;", true)
  | 8 => ("GroundProver$Closure", "buckets", "LGroundProver$Row;", true)
  | 9 => ("GroundProver$Closure", "links", "LGroundProver$Row;", true)
  | _ => ("GroundProver$Closure", "bucketCount", "I", false)
def tyX1 : Nat → FieldType := fun k => match k with
  | 0 => .object "GroundProver$TermStore"
  | 1 => .object "GroundProver$Walk"
  | 2 => .object "GroundProver$Row"
  | 3 => .object "GroundProver$Row"
  | 4 => .object "GroundProver$Row"
  | 5 => .object "GroundProver$Row"
  | 6 => .object "GroundProver$Row"
  | 7 => .object "GroundProver$Row"
  | 8 => .object "GroundProver$Row"
  | 9 => .object "GroundProver$Row"
  | _ => .int
abbrev wsX10 : List Cond := u_ws RX1 TX1 11
theorem nmX1 : ∀ a, a < 11 → ∀ b, b < 11 → a ≠ b → (TX1 a).2.1 ≠ (TX1 b).2.1 := by decide +kernel
theorem tyX1_ok : ∀ k, k < 11 → parseFieldDescriptor (TX1 k).2.2.1 = some (tyX1 k) := by decide +kernel
abbrev cX1_init : ByteArray := prog_3_method_1_code
def yX1_init : MethodName := ⟨RX1, "<init>", "(LGroundProver$TermStore;LGroundProver$Walk;)V"⟩
abbrev cX1_start : ByteArray := prog_3_method_2_code
def yX1_start : MethodName := ⟨RX1, "start", "()V"⟩
abbrev cX1_join : ByteArray := prog_3_method_4_code
def yX1_join : MethodName := ⟨RX1, "join", "(II)V"⟩
abbrev cX1_close : ByteArray := prog_3_method_5_code
def yX1_close : MethodName := ⟨RX1, "close", "()V"⟩
abbrev cX1_joinTwins : ByteArray := prog_3_method_6_code
def yX1_joinTwins : MethodName := ⟨RX1, "joinTwins", "()Z"⟩
abbrev cX1_bucketOf : ByteArray := prog_3_method_7_code
def yX1_bucketOf : MethodName := ⟨RX1, "bucketOf", "(I)I"⟩
abbrev cX1_areTwins : ByteArray := prog_3_method_8_code
def yX1_areTwins : MethodName := ⟨RX1, "areTwins", "(II)Z"⟩
abbrev cX1_pourInto : ByteArray := prog_3_method_9_code
def yX1_pourInto : MethodName := ⟨RX1, "pourInto", "(LGroundProver$Grammar;)V"⟩
def RX2 : String := "GroundProver$Grammar"
def TX2 : u_T := fun k => match k with
  | 0 => ("GroundProver$Grammar", "symbols", "LGroundProver$Symbols;", true)
  | 1 => ("GroundProver$Grammar", "owners", "LGroundProver$Row;", true)
  | 2 => ("GroundProver$Grammar", "signs", "LGroundProver$Row;", true)
  | 3 => ("GroundProver$Grammar", "parts", "LGroundProver$Row;", true)
  | 4 => ("GroundProver$Grammar", "waits", "LGroundProver$Row;", true)
  | 5 => ("GroundProver$Grammar", "users", "LGroundProver$Row;", true)
  | 6 => ("GroundProver$Grammar", "nextUsers", "LGroundProver$Row;", true)
  | 7 => ("GroundProver$Grammar", "weights", "LGroundProver$Row;", true)
  | 8 => ("GroundProver$Grammar", "sizes", "LGroundProver$Row;", true)
  | 9 => ("GroundProver$Grammar", "depths", "LGroundProver$Row;", true)
  | 10 => ("GroundProver$Grammar", "heap", "LGroundProver$Row;", true)
  | 11 => ("GroundProver$Grammar", "chosen", "LGroundProver$Row;", true)
  | 12 => ("GroundProver$Grammar", "positions", "LGroundProver$Row;", true)
  | 13 => ("GroundProver$Grammar", "sequence", "LGroundProver$Row;", true)
  | 14 => ("GroundProver$Grammar", "nodes", "LGroundProver$Row;", true)
  | 15 => ("GroundProver$Grammar", "classCount", "I", false)
  | 16 => ("GroundProver$Grammar", "count", "I", false)
  | 17 => ("GroundProver$Grammar", "heapCount", "I", false)
  | 18 => ("GroundProver$Grammar", "sequenceCount", "I", false)
  | _ => ("GroundProver$Grammar", "mode", "I", false)
def tyX2 : Nat → FieldType := fun k => match k with
  | 0 => .object "GroundProver$Symbols"
  | 1 => .object "GroundProver$Row"
  | 2 => .object "GroundProver$Row"
  | 3 => .object "GroundProver$Row"
  | 4 => .object "GroundProver$Row"
  | 5 => .object "GroundProver$Row"
  | 6 => .object "GroundProver$Row"
  | 7 => .object "GroundProver$Row"
  | 8 => .object "GroundProver$Row"
  | 9 => .object "GroundProver$Row"
  | 10 => .object "GroundProver$Row"
  | 11 => .object "GroundProver$Row"
  | 12 => .object "GroundProver$Row"
  | 13 => .object "GroundProver$Row"
  | 14 => .object "GroundProver$Row"
  | 15 => .int
  | 16 => .int
  | 17 => .int
  | 18 => .int
  | _ => .int
abbrev wsX20 : List Cond := u_ws RX2 TX2 20
theorem nmX2 : ∀ a, a < 20 → ∀ b, b < 20 → a ≠ b → (TX2 a).2.1 ≠ (TX2 b).2.1 := by decide +kernel
theorem tyX2_ok : ∀ k, k < 20 → parseFieldDescriptor (TX2 k).2.2.1 = some (tyX2 k) := by decide +kernel
abbrev cX2_init : ByteArray := prog_4_method_1_code
def yX2_init : MethodName := ⟨RX2, "<init>", "(LGroundProver$Symbols;)V"⟩
abbrev cX2_clear : ByteArray := prog_4_method_2_code
def yX2_clear : MethodName := ⟨RX2, "clear", "(I)V"⟩
abbrev cX2_addProduction : ByteArray := prog_4_method_4_code
def yX2_addProduction : MethodName := ⟨RX2, "addProduction", "(II)I"⟩
abbrev cX2_setPart : ByteArray := prog_4_method_5_code
def yX2_setPart : MethodName := ⟨RX2, "setPart", "(III)V"⟩
abbrev cX2_owner : ByteArray := prog_4_method_6_code
def yX2_owner : MethodName := ⟨RX2, "owner", "(I)I"⟩
abbrev cX2_arity : ByteArray := prog_4_method_8_code
def yX2_arity : MethodName := ⟨RX2, "arity", "(I)I"⟩
abbrev cX2_takeTerms : ByteArray := prog_4_method_9_code
def yX2_takeTerms : MethodName := ⟨RX2, "takeTerms", "(LGroundProver$Walk;LGroundProver$TermStore;)V"⟩
abbrev cX2_sequenceCount : ByteArray := prog_4_method_10_code
def yX2_sequenceCount : MethodName := ⟨RX2, "sequenceCount", "()I"⟩
abbrev cX2_ranked : ByteArray := prog_4_method_11_code
def yX2_ranked : MethodName := ⟨RX2, "ranked", "(I)I"⟩
abbrev cX2_position : ByteArray := prog_4_method_12_code
def yX2_position : MethodName := ⟨RX2, "position", "(I)I"⟩
abbrev cX2_choice : ByteArray := prog_4_method_13_code
def yX2_choice : MethodName := ⟨RX2, "choice", "(I)I"⟩
abbrev cX2_termSize : ByteArray := prog_4_method_14_code
def yX2_termSize : MethodName := ⟨RX2, "termSize", "(I)I"⟩
abbrev cX2_termDepth : ByteArray := prog_4_method_15_code
def yX2_termDepth : MethodName := ⟨RX2, "termDepth", "(I)I"⟩
abbrev cX2_rank : ByteArray := prog_4_method_16_code
def yX2_rank : MethodName := ⟨RX2, "rank", "(I)V"⟩
abbrev cX2_isReadyAfter : ByteArray := prog_4_method_17_code
def yX2_isReadyAfter : MethodName := ⟨RX2, "isReadyAfter", "(I)Z"⟩
abbrev cX2_linkUsers : ByteArray := prog_4_method_18_code
def yX2_linkUsers : MethodName := ⟨RX2, "linkUsers", "()V"⟩
abbrev cX2_enter : ByteArray := prog_4_method_19_code
def yX2_enter : MethodName := ⟨RX2, "enter", "(I)V"⟩
abbrev cX2_takeLeast : ByteArray := prog_4_method_20_code
def yX2_takeLeast : MethodName := ⟨RX2, "takeLeast", "()I"⟩
abbrev cX2_isBefore : ByteArray := prog_4_method_21_code
def yX2_isBefore : MethodName := ⟨RX2, "isBefore", "(II)Z"⟩
abbrev cX2_makeTerm : ByteArray := prog_4_method_23_code
def yX2_makeTerm : MethodName := ⟨RX2, "makeTerm", "(ILGroundProver$TermStore;)I"⟩
abbrev cX2_leastTerm : ByteArray := prog_4_method_24_code
def yX2_leastTerm : MethodName := ⟨RX2, "leastTerm", "(I)I"⟩
abbrev cX2_setLeastTerm : ByteArray := prog_4_method_25_code
def yX2_setLeastTerm : MethodName := ⟨RX2, "setLeastTerm", "(II)V"⟩
abbrev cX2_dropNeeds : ByteArray := prog_4_method_26_code
def yX2_dropNeeds : MethodName := ⟨RX2, "dropNeeds", "()V"⟩
abbrev cX2_need : ByteArray := prog_4_method_27_code
def yX2_need : MethodName := ⟨RX2, "need", "(I)V"⟩
abbrev cX2_needParts : ByteArray := prog_4_method_28_code
def yX2_needParts : MethodName := ⟨RX2, "needParts", "(I)V"⟩
abbrev cX2_spreadNeeds : ByteArray := prog_4_method_29_code
def yX2_spreadNeeds : MethodName := ⟨RX2, "spreadNeeds", "()V"⟩
abbrev cX2_isNeeded : ByteArray := prog_4_method_30_code
def yX2_isNeeded : MethodName := ⟨RX2, "isNeeded", "(I)Z"⟩
def RX3 : String := "GroundProver$Matcher"
def TX3 : u_T := fun k => match k with
  | 0 => ("GroundProver$Matcher", "theory", "LGroundProver$Theory;", true)
  | 1 => ("GroundProver$Matcher", "store", "LGroundProver$TermStore;", true)
  | 2 => ("GroundProver$Matcher", "walk", "LGroundProver$Walk;", true)
  | 3 => ("GroundProver$Matcher", "grammar", "LGroundProver$Grammar;", true)
  | 4 => ("GroundProver$Matcher", "found", "LGroundProver$Row;", true)
  | 5 => ("GroundProver$Matcher", "foundCount", "I", false)
  | 6 => ("GroundProver$Matcher", "foundVariables", "I", false)
  | 7 => ("GroundProver$Matcher", "kept", "LGroundProver$Row;", true)
  | 8 => ("GroundProver$Matcher", "keptCount", "I", false)
  | 9 => ("GroundProver$Matcher", "keptVariables", "I", false)
  | 10 => ("GroundProver$Matcher", "bindings", "[I", true)
  | 11 => ("GroundProver$Matcher", "goalPatterns", "[I", true)
  | 12 => ("GroundProver$Matcher", "goalNodes", "[I", true)
  | 13 => ("GroundProver$Matcher", "goalCount", "I", false)
  | _ => ("GroundProver$Matcher", "keys", "[J", true)
def tyX3 : Nat → FieldType := fun k => match k with
  | 0 => .object "GroundProver$Theory"
  | 1 => .object "GroundProver$TermStore"
  | 2 => .object "GroundProver$Walk"
  | 3 => .object "GroundProver$Grammar"
  | 4 => .object "GroundProver$Row"
  | 5 => .int
  | 6 => .int
  | 7 => .object "GroundProver$Row"
  | 8 => .int
  | 9 => .int
  | 10 => .array .int
  | 11 => .array .int
  | 12 => .array .int
  | 13 => .int
  | _ => .array .long
abbrev wsX30 : List Cond := u_ws RX3 TX3 15
theorem nmX3 : ∀ a, a < 15 → ∀ b, b < 15 → a ≠ b → (TX3 a).2.1 ≠ (TX3 b).2.1 := by decide +kernel
theorem tyX3_ok : ∀ k, k < 15 → parseFieldDescriptor (TX3 k).2.2.1 = some (tyX3 k) := by decide +kernel
abbrev cX3_init : ByteArray := prog_5_method_1_code
def yX3_init : MethodName := ⟨RX3, "<init>", "(LGroundProver$Theory;LGroundProver$TermStore;LGroundProver$Walk;LGroundProver$Grammar;)V"⟩
abbrev cX3_assigns : ByteArray := prog_5_method_2_code
def yX3_assigns : MethodName := ⟨RX3, "assigns", "(I)Z"⟩
abbrev cX3_markTerms : ByteArray := prog_5_method_12_code
def yX3_markTerms : MethodName := ⟨RX3, "markTerms", "()V"⟩
def RX4 : String := "GroundProver$Printer"
def TX4 : u_T := fun k => match k with
  | 0 => ("GroundProver$Printer", "symbols", "LGroundProver$Symbols;", true)
  | 1 => ("GroundProver$Printer", "store", "LGroundProver$TermStore;", true)
  | 2 => ("GroundProver$Printer", "walk", "LGroundProver$Walk;", true)
  | 3 => ("GroundProver$Printer", "output", "[B", true)
  | _ => ("GroundProver$Printer", "length", "I", false)
def tyX4 : Nat → FieldType := fun k => match k with
  | 0 => .object "GroundProver$Symbols"
  | 1 => .object "GroundProver$TermStore"
  | 2 => .object "GroundProver$Walk"
  | 3 => .array .byte
  | _ => .int
abbrev wsX40 : List Cond := u_ws RX4 TX4 5
theorem nmX4 : ∀ a, a < 5 → ∀ b, b < 5 → a ≠ b → (TX4 a).2.1 ≠ (TX4 b).2.1 := by decide +kernel
theorem tyX4_ok : ∀ k, k < 5 → parseFieldDescriptor (TX4 k).2.2.1 = some (tyX4 k) := by decide +kernel
abbrev cX4_init : ByteArray := prog_6_method_1_code
def yX4_init : MethodName := ⟨RX4, "<init>", "(LGroundProver$Symbols;LGroundProver$TermStore;LGroundProver$Walk;)V"⟩
def RX5 : String := "GroundProver$Reader"
def TX5 : u_T := fun k => match k with
  | 0 => ("GroundProver$Reader", "symbols", "LGroundProver$Symbols;", true)
  | 1 => ("GroundProver$Reader", "store", "LGroundProver$TermStore;", true)
  | 2 => ("GroundProver$Reader", "input", "[B", true)
  | 3 => ("GroundProver$Reader", "length", "I", false)
  | 4 => ("GroundProver$Reader", "end", "I", false)
  | 5 => ("GroundProver$Reader", "at", "I", false)
  | 6 => ("GroundProver$Reader", "nameStart", "I", false)
  | 7 => ("GroundProver$Reader", "isTheory", "Z", false)
  | 8 => ("GroundProver$Reader", "kind", "I", false)
  | 9 => ("GroundProver$Reader", "position", "I", false)
  | 10 => ("GroundProver$Reader", "openSymbols", "[I", true)
  | 11 => ("GroundProver$Reader", "openStarts", "[I", true)
  | 12 => ("GroundProver$Reader", "openCounts", "[I", true)
  | 13 => ("GroundProver$Reader", "openParts", "[I", true)
  | 14 => ("GroundProver$Reader", "openCount", "I", false)
  | 15 => ("GroundProver$Reader", "lefts", "[I", true)
  | 16 => ("GroundProver$Reader", "rights", "[I", true)
  | 17 => ("GroundProver$Reader", "areEquations", "[Z", true)
  | _ => ("GroundProver$Reader", "statementCount", "I", false)
def tyX5 : Nat → FieldType := fun k => match k with
  | 0 => .object "GroundProver$Symbols"
  | 1 => .object "GroundProver$TermStore"
  | 2 => .array .byte
  | 3 => .int
  | 4 => .int
  | 5 => .int
  | 6 => .int
  | 7 => .boolean
  | 8 => .int
  | 9 => .int
  | 10 => .array .int
  | 11 => .array .int
  | 12 => .array .int
  | 13 => .array .int
  | 14 => .int
  | 15 => .array .int
  | 16 => .array .int
  | 17 => .array .boolean
  | _ => .int
abbrev wsX50 : List Cond := u_ws RX5 TX5 19
theorem nmX5 : ∀ a, a < 19 → ∀ b, b < 19 → a ≠ b → (TX5 a).2.1 ≠ (TX5 b).2.1 := by decide +kernel
theorem tyX5_ok : ∀ k, k < 19 → parseFieldDescriptor (TX5 k).2.2.1 = some (tyX5 k) := by decide +kernel
abbrev cX5_init : ByteArray := prog_7_method_1_code
def yX5_init : MethodName := ⟨RX5, "<init>", "(LGroundProver$Symbols;LGroundProver$TermStore;)V"⟩
abbrev cX5_length : ByteArray := prog_7_method_2_code
def yX5_length : MethodName := ⟨RX5, "length", "()I"⟩
abbrev cX5_bytes : ByteArray := prog_7_method_3_code
def yX5_bytes : MethodName := ⟨RX5, "bytes", "()[B"⟩
abbrev cX5_append : ByteArray := prog_7_method_10_code
def yX5_append : MethodName := ⟨RX5, "append", "(I)V"⟩
abbrev cX5_shorten : ByteArray := prog_7_method_11_code
def yX5_shorten : MethodName := ⟨RX5, "shorten", "(I)V"⟩
abbrev cX5_drain : ByteArray := prog_7_method_12_code
def yX5_drain : MethodName := ⟨RX5, "drain", "()I"⟩
abbrev cX5_holdsName : ByteArray := prog_7_method_13_code
def yX5_holdsName : MethodName := ⟨RX5, "holdsName", "()Z"⟩
abbrev cX5_heldSymbol : ByteArray := prog_7_method_14_code
def yX5_heldSymbol : MethodName := ⟨RX5, "heldSymbol", "()I"⟩
abbrev cX5_isLetter : ByteArray := prog_7_method_29_code
def yX5_isLetter : MethodName := ⟨RX5, "isLetter", "(I)Z"⟩
abbrev cX5_isNamePart : ByteArray := prog_7_method_30_code
def yX5_isNamePart : MethodName := ⟨RX5, "isNamePart", "(I)Z"⟩
def RX6 : String := "GroundProver$Row"
def TX6 : u_T := fun k => match k with
  | _ => ("GroundProver$Row", "blocks", "[[I", true)
def tyX6 : Nat → FieldType := fun k => match k with
  | _ => .array (.array .int)
abbrev wsX60 : List Cond := u_ws RX6 TX6 1
theorem nmX6 : ∀ a, a < 1 → ∀ b, b < 1 → a ≠ b → (TX6 a).2.1 ≠ (TX6 b).2.1 := by decide +kernel
theorem tyX6_ok : ∀ k, k < 1 → parseFieldDescriptor (TX6 k).2.2.1 = some (tyX6 k) := by decide +kernel
abbrev cX6_init : ByteArray := prog_8_method_1_code
def yX6_init : MethodName := ⟨RX6, "<init>", "(I)V"⟩
abbrev cX6_get : ByteArray := prog_8_method_2_code
def yX6_get : MethodName := ⟨RX6, "get", "(I)I"⟩
abbrev cX6_set : ByteArray := prog_8_method_3_code
def yX6_set : MethodName := ⟨RX6, "set", "(II)V"⟩
def RX7 : String := "GroundProver$Symbols"
def TX7 : u_T := fun k => match k with
  | 0 => ("GroundProver$Symbols", "names", "[B", true)
  | 1 => ("GroundProver$Symbols", "lengths", "[I", true)
  | 2 => ("GroundProver$Symbols", "arities", "[I", true)
  | 3 => ("GroundProver$Symbols", "weights", "[I", true)
  | 4 => ("GroundProver$Symbols", "ranks", "[I", true)
  | 5 => ("GroundProver$Symbols", "ordinals", "[I", true)
  | 6 => ("GroundProver$Symbols", "directions", "[Z", true)
  | 7 => ("GroundProver$Symbols", "count", "I", false)
  | 8 => ("GroundProver$Symbols", "variableCount", "I", false)
  | 9 => ("GroundProver$Symbols", "isByWeight", "Z", false)
  | _ => ("GroundProver$Symbols", "isOrderFixed", "Z", false)
def tyX7 : Nat → FieldType := fun k => match k with
  | 0 => .array .byte
  | 1 => .array .int
  | 2 => .array .int
  | 3 => .array .int
  | 4 => .array .int
  | 5 => .array .int
  | 6 => .array .boolean
  | 7 => .int
  | 8 => .int
  | 9 => .boolean
  | _ => .boolean
abbrev wsX70 : List Cond := u_ws RX7 TX7 11
theorem nmX7 : ∀ a, a < 11 → ∀ b, b < 11 → a ≠ b → (TX7 a).2.1 ≠ (TX7 b).2.1 := by decide +kernel
theorem tyX7_ok : ∀ k, k < 11 → parseFieldDescriptor (TX7 k).2.2.1 = some (tyX7 k) := by decide +kernel
abbrev cX7_init : ByteArray := prog_9_method_1_code
def yX7_init : MethodName := ⟨RX7, "<init>", "()V"⟩
abbrev cX7_has : ByteArray := prog_9_method_3_code
def yX7_has : MethodName := ⟨RX7, "has", "(I)Z"⟩
abbrev cX7_isFull : ByteArray := prog_9_method_4_code
def yX7_isFull : MethodName := ⟨RX7, "isFull", "()Z"⟩
abbrev cX7_arity : ByteArray := prog_9_method_6_code
def yX7_arity : MethodName := ⟨RX7, "arity", "(I)I"⟩
abbrev cX7_weight : ByteArray := prog_9_method_7_code
def yX7_weight : MethodName := ⟨RX7, "weight", "(I)I"⟩
abbrev cX7_rank : ByteArray := prog_9_method_8_code
def yX7_rank : MethodName := ⟨RX7, "rank", "(I)I"⟩
abbrev cX7_isFromRight : ByteArray := prog_9_method_9_code
def yX7_isFromRight : MethodName := ⟨RX7, "isFromRight", "(I)Z"⟩
abbrev cX7_variableOrdinal : ByteArray := prog_9_method_10_code
def yX7_variableOrdinal : MethodName := ⟨RX7, "variableOrdinal", "(I)I"⟩
abbrev cX7_nameLength : ByteArray := prog_9_method_11_code
def yX7_nameLength : MethodName := ⟨RX7, "nameLength", "(I)I"⟩
abbrev cX7_nameByte : ByteArray := prog_9_method_12_code
def yX7_nameByte : MethodName := ⟨RX7, "nameByte", "(II)B"⟩
abbrev cX7_add : ByteArray := prog_9_method_13_code
def yX7_add : MethodName := ⟨RX7, "add", "([BIII)I"⟩
abbrev cX7_find : ByteArray := prog_9_method_15_code
def yX7_find : MethodName := ⟨RX7, "find", "([BII)I"⟩
abbrev cX7_isNameAt : ByteArray := prog_9_method_16_code
def yX7_isNameAt : MethodName := ⟨RX7, "isNameAt", "(I[BI)Z"⟩
abbrev cX7_isByWeight : ByteArray := prog_9_method_17_code
def yX7_isByWeight : MethodName := ⟨RX7, "isByWeight", "()Z"⟩
abbrev cX7_orderMode : ByteArray := prog_9_method_18_code
def yX7_orderMode : MethodName := ⟨RX7, "orderMode", "()I"⟩
abbrev cX7_chooseOrder : ByteArray := prog_9_method_19_code
def yX7_chooseOrder : MethodName := ⟨RX7, "chooseOrder", "(Z)V"⟩
abbrev cX7_isOrderFixed : ByteArray := prog_9_method_20_code
def yX7_isOrderFixed : MethodName := ⟨RX7, "isOrderFixed", "()Z"⟩
abbrev cX7_fixOrder : ByteArray := prog_9_method_21_code
def yX7_fixOrder : MethodName := ⟨RX7, "fixOrder", "()V"⟩
abbrev cX7_direct : ByteArray := prog_9_method_22_code
def yX7_direct : MethodName := ⟨RX7, "direct", "(IZ)V"⟩
abbrev cX7_moveTo : ByteArray := prog_9_method_23_code
def yX7_moveTo : MethodName := ⟨RX7, "moveTo", "(II)V"⟩
def RX8 : String := "GroundProver$TermStore"
def TX8 : u_T := fun k => match k with
  | 0 => ("GroundProver$TermStore", "symbols", "LGroundProver$Symbols;", true)
  | 1 => ("GroundProver$TermStore", "signs", "LGroundProver$Row;", true)
  | 2 => ("GroundProver$TermStore", "parts", "LGroundProver$Row;", true)
  | 3 => ("GroundProver$TermStore", "extents", "LGroundProver$Row;", true)
  | 4 => ("GroundProver$TermStore", "numbers", "LGroundProver$Row;", true)
  | 5 => ("GroundProver$TermStore", "links", "LGroundProver$Row;", true)
  | 6 => ("GroundProver$TermStore", "buckets", "LGroundProver$Row;", true)
  | 7 => ("GroundProver$TermStore", "pending", "[I", true)
  | 8 => ("GroundProver$TermStore", "pendingCount", "I", false)
  | 9 => ("GroundProver$TermStore", "top", "I", false)
  | 10 => ("GroundProver$TermStore", "used", "I", false)
  | 11 => ("GroundProver$TermStore", "freeLink", "I", false)
  | _ => ("GroundProver$TermStore", "crowd", "I", false)
def tyX8 : Nat → FieldType := fun k => match k with
  | 0 => .object "GroundProver$Symbols"
  | 1 => .object "GroundProver$Row"
  | 2 => .object "GroundProver$Row"
  | 3 => .object "GroundProver$Row"
  | 4 => .object "GroundProver$Row"
  | 5 => .object "GroundProver$Row"
  | 6 => .object "GroundProver$Row"
  | 7 => .array .int
  | 8 => .int
  | 9 => .int
  | 10 => .int
  | 11 => .int
  | _ => .int
abbrev wsX80 : List Cond := u_ws RX8 TX8 13
theorem nmX8 : ∀ a, a < 13 → ∀ b, b < 13 → a ≠ b → (TX8 a).2.1 ≠ (TX8 b).2.1 := by decide +kernel
theorem tyX8_ok : ∀ k, k < 13 → parseFieldDescriptor (TX8 k).2.2.1 = some (tyX8 k) := by decide +kernel
abbrev cX8_init : ByteArray := prog_10_method_1_code
def yX8_init : MethodName := ⟨RX8, "<init>", "(LGroundProver$Symbols;)V"⟩
abbrev cX8_symbol : ByteArray := prog_10_method_2_code
def yX8_symbol : MethodName := ⟨RX8, "symbol", "(I)I"⟩
abbrev cX8_arity : ByteArray := prog_10_method_3_code
def yX8_arity : MethodName := ⟨RX8, "arity", "(I)I"⟩
abbrev cX8_part : ByteArray := prog_10_method_4_code
def yX8_part : MethodName := ⟨RX8, "part", "(II)I"⟩
abbrev cX8_width : ByteArray := prog_10_method_5_code
def yX8_width : MethodName := ⟨RX8, "width", "(I)I"⟩
abbrev cX8_height : ByteArray := prog_10_method_6_code
def yX8_height : MethodName := ⟨RX8, "height", "(I)I"⟩
abbrev cX8_isGround : ByteArray := prog_10_method_7_code
def yX8_isGround : MethodName := ⟨RX8, "isGround", "(I)Z"⟩
abbrev cX8_isTooLarge : ByteArray := prog_10_method_9_code
def yX8_isTooLarge : MethodName := ⟨RX8, "isTooLarge", "(I)Z"⟩
abbrev cX8_number : ByteArray := prog_10_method_10_code
def yX8_number : MethodName := ⟨RX8, "number", "(I)I"⟩
abbrev cX8_setNumber : ByteArray := prog_10_method_11_code
def yX8_setNumber : MethodName := ⟨RX8, "setNumber", "(II)V"⟩
abbrev cX8_make : ByteArray := prog_10_method_12_code
def yX8_make : MethodName := ⟨RX8, "make", "(IIII)I"⟩
abbrev cX8_bucketOf : ByteArray := prog_10_method_13_code
def yX8_bucketOf : MethodName := ⟨RX8, "bucketOf", "(IIII)I"⟩
abbrev cX8_keep : ByteArray := prog_10_method_14_code
def yX8_keep : MethodName := ⟨RX8, "keep", "(IIIII)I"⟩
abbrev cX8_extentOver : ByteArray := prog_10_method_15_code
def yX8_extentOver : MethodName := ⟨RX8, "extentOver", "(IIII)I"⟩
abbrev cX8_isCrowded : ByteArray := prog_10_method_16_code
def yX8_isCrowded : MethodName := ⟨RX8, "isCrowded", "()Z"⟩
abbrev cX8_mark : ByteArray := prog_10_method_17_code
def yX8_mark : MethodName := ⟨RX8, "mark", "(I)V"⟩
abbrev cX8_markOne : ByteArray := prog_10_method_18_code
def yX8_markOne : MethodName := ⟨RX8, "markOne", "(I)V"⟩
abbrev cX8_dropUnmarked : ByteArray := prog_10_method_19_code
def yX8_dropUnmarked : MethodName := ⟨RX8, "dropUnmarked", "()V"⟩
abbrev cX8_relink : ByteArray := prog_10_method_20_code
def yX8_relink : MethodName := ⟨RX8, "relink", "(I)V"⟩
def RX9 : String := "GroundProver$Theory"
def TX9 : u_T := fun k => match k with
  | 0 => ("GroundProver$Theory", "symbols", "LGroundProver$Symbols;", true)
  | 1 => ("GroundProver$Theory", "store", "LGroundProver$TermStore;", true)
  | 2 => ("GroundProver$Theory", "walk", "LGroundProver$Walk;", true)
  | 3 => ("GroundProver$Theory", "grammar", "LGroundProver$Grammar;", true)
  | 4 => ("GroundProver$Theory", "closure", "LGroundProver$Closure;", true)
  | 5 => ("GroundProver$Theory", "equationLefts", "[I", true)
  | 6 => ("GroundProver$Theory", "equationRights", "[I", true)
  | 7 => ("GroundProver$Theory", "equationCount", "I", false)
  | 8 => ("GroundProver$Theory", "separationLefts", "[I", true)
  | 9 => ("GroundProver$Theory", "separationRights", "[I", true)
  | 10 => ("GroundProver$Theory", "separationCount", "I", false)
  | 11 => ("GroundProver$Theory", "levelEquations", "[I", true)
  | 12 => ("GroundProver$Theory", "levelSeparations", "[I", true)
  | 13 => ("GroundProver$Theory", "levelCount", "I", false)
  | 14 => ("GroundProver$Theory", "ruleLefts", "[I", true)
  | 15 => ("GroundProver$Theory", "ruleRights", "[I", true)
  | 16 => ("GroundProver$Theory", "ruleHints", "LGroundProver$Row;", true)
  | _ => ("GroundProver$Theory", "ruleCount", "I", false)
def tyX9 : Nat → FieldType := fun k => match k with
  | 0 => .object "GroundProver$Symbols"
  | 1 => .object "GroundProver$TermStore"
  | 2 => .object "GroundProver$Walk"
  | 3 => .object "GroundProver$Grammar"
  | 4 => .object "GroundProver$Closure"
  | 5 => .array .int
  | 6 => .array .int
  | 7 => .int
  | 8 => .array .int
  | 9 => .array .int
  | 10 => .int
  | 11 => .array .int
  | 12 => .array .int
  | 13 => .int
  | 14 => .array .int
  | 15 => .array .int
  | 16 => .object "GroundProver$Row"
  | _ => .int
abbrev wsX90 : List Cond := u_ws RX9 TX9 18
theorem nmX9 : ∀ a, a < 18 → ∀ b, b < 18 → a ≠ b → (TX9 a).2.1 ≠ (TX9 b).2.1 := by decide +kernel
theorem tyX9_ok : ∀ k, k < 18 → parseFieldDescriptor (TX9 k).2.2.1 = some (tyX9 k) := by decide +kernel
abbrev cX9_init : ByteArray := prog_11_method_1_code
def yX9_init : MethodName := ⟨RX9, "<init>", "(LGroundProver$Symbols;LGroundProver$TermStore;LGroundProver$Walk;LGroundProver$Grammar;)V"⟩
abbrev cX9_rightSide : ByteArray := prog_11_method_3_code
def yX9_rightSide : MethodName := ⟨RX9, "rightSide", "(I)I"⟩
abbrev cX9_addEquation : ByteArray := prog_11_method_6_code
def yX9_addEquation : MethodName := ⟨RX9, "addEquation", "(II)V"⟩
abbrev cX9_goBack : ByteArray := prog_11_method_7_code
def yX9_goBack : MethodName := ⟨RX9, "goBack", "(II)V"⟩
abbrev cX9_openLevel : ByteArray := prog_11_method_8_code
def yX9_openLevel : MethodName := ⟨RX9, "openLevel", "()V"⟩
abbrev cX9_closeLevel : ByteArray := prog_11_method_9_code
def yX9_closeLevel : MethodName := ⟨RX9, "closeLevel", "()V"⟩
abbrev cX9_complete : ByteArray := prog_11_method_10_code
def yX9_complete : MethodName := ⟨RX9, "complete", "()Z"⟩
abbrev cX9_gather : ByteArray := prog_11_method_11_code
def yX9_gather : MethodName := ⟨RX9, "gather", "(III)V"⟩
abbrev cX9_isTooLargeSide : ByteArray := prog_11_method_12_code
def yX9_isTooLargeSide : MethodName := ⟨RX9, "isTooLargeSide", "(I)Z"⟩
abbrev cX9_takeRules : ByteArray := prog_11_method_13_code
def yX9_takeRules : MethodName := ⟨RX9, "takeRules", "()V"⟩
abbrev cX9_addRule : ByteArray := prog_11_method_14_code
def yX9_addRule : MethodName := ⟨RX9, "addRule", "(II)V"⟩
abbrev cX9_ruleFor : ByteArray := prog_11_method_15_code
def yX9_ruleFor : MethodName := ⟨RX9, "ruleFor", "(I)I"⟩
abbrev cX9_normalize : ByteArray := prog_11_method_16_code
def yX9_normalize : MethodName := ⟨RX9, "normalize", "(I)I"⟩
abbrev cX9_makesEqual : ByteArray := prog_11_method_17_code
def yX9_makesEqual : MethodName := ⟨RX9, "makesEqual", "(II)Z"⟩
abbrev cX9_countSteps : ByteArray := prog_11_method_20_code
def yX9_countSteps : MethodName := ⟨RX9, "countSteps", "(I)I"⟩
abbrev cX9_markTerms : ByteArray := prog_11_method_23_code
def yX9_markTerms : MethodName := ⟨RX9, "markTerms", "()V"⟩
def RX10 : String := "GroundProver$Walk"
def TX10 : u_T := fun k => match k with
  | 0 => ("GroundProver$Walk", "store", "LGroundProver$TermStore;", true)
  | 1 => ("GroundProver$Walk", "slots", "LGroundProver$Row;", true)
  | 2 => ("GroundProver$Walk", "nodes", "LGroundProver$Row;", true)
  | 3 => ("GroundProver$Walk", "values", "LGroundProver$Row;", true)
  | 4 => ("GroundProver$Walk", "tallies", "LGroundProver$Row;", true)
  | 5 => ("GroundProver$Walk", "open", "[I", true)
  | _ => ("GroundProver$Walk", "count", "I", false)
def tyX10 : Nat → FieldType := fun k => match k with
  | 0 => .object "GroundProver$TermStore"
  | 1 => .object "GroundProver$Row"
  | 2 => .object "GroundProver$Row"
  | 3 => .object "GroundProver$Row"
  | 4 => .object "GroundProver$Row"
  | 5 => .array .int
  | _ => .int
abbrev wsX100 : List Cond := u_ws RX10 TX10 7
theorem nmX10 : ∀ a, a < 7 → ∀ b, b < 7 → a ≠ b → (TX10 a).2.1 ≠ (TX10 b).2.1 := by decide +kernel
theorem tyX10_ok : ∀ k, k < 7 → parseFieldDescriptor (TX10 k).2.2.1 = some (tyX10 k) := by decide +kernel
abbrev cX10_init : ByteArray := prog_12_method_1_code
def yX10_init : MethodName := ⟨RX10, "<init>", "(LGroundProver$TermStore;)V"⟩
abbrev cX10_count : ByteArray := prog_12_method_2_code
def yX10_count : MethodName := ⟨RX10, "count", "()I"⟩
abbrev cX10_node : ByteArray := prog_12_method_3_code
def yX10_node : MethodName := ⟨RX10, "node", "(I)I"⟩
abbrev cX10_value : ByteArray := prog_12_method_4_code
def yX10_value : MethodName := ⟨RX10, "value", "(I)I"⟩
abbrev cX10_setValue : ByteArray := prog_12_method_5_code
def yX10_setValue : MethodName := ⟨RX10, "setValue", "(II)V"⟩
abbrev cX10_tally : ByteArray := prog_12_method_6_code
def yX10_tally : MethodName := ⟨RX10, "tally", "(I)I"⟩
abbrev cX10_setTally : ByteArray := prog_12_method_7_code
def yX10_setTally : MethodName := ⟨RX10, "setTally", "(II)V"⟩
abbrev cX10_clear : ByteArray := prog_12_method_8_code
def yX10_clear : MethodName := ⟨RX10, "clear", "()V"⟩
abbrev cX10_indexOf : ByteArray := prog_12_method_9_code
def yX10_indexOf : MethodName := ⟨RX10, "indexOf", "(I)I"⟩
abbrev cX10_partOf : ByteArray := prog_12_method_10_code
def yX10_partOf : MethodName := ⟨RX10, "partOf", "(II)I"⟩
abbrev cX10_add : ByteArray := prog_12_method_11_code
def yX10_add : MethodName := ⟨RX10, "add", "(I)V"⟩
abbrev cX10_firstUnlisted : ByteArray := prog_12_method_12_code
def yX10_firstUnlisted : MethodName := ⟨RX10, "firstUnlisted", "(I)I"⟩
abbrev cX10_append : ByteArray := prog_12_method_13_code
def yX10_append : MethodName := ⟨RX10, "append", "(I)V"⟩
abbrev cX10_sumOfParts : ByteArray := prog_12_method_15_code
def yX10_sumOfParts : MethodName := ⟨RX10, "sumOfParts", "(I)I"⟩
abbrev cX10_rebuild : ByteArray := prog_12_method_17_code
def yX10_rebuild : MethodName := ⟨RX10, "rebuild", "(I)I"⟩
def RX11 : String := "GroundProver"
def TX11 : u_T := fun k => match k with
  | 0 => ("GroundProver", "symbols", "LGroundProver$Symbols;", true)
  | 1 => ("GroundProver", "store", "LGroundProver$TermStore;", true)
  | 2 => ("GroundProver", "walk", "LGroundProver$Walk;", true)
  | 3 => ("GroundProver", "grammar", "LGroundProver$Grammar;", true)
  | 4 => ("GroundProver", "theory", "LGroundProver$Theory;", true)
  | 5 => ("GroundProver", "reader", "LGroundProver$Reader;", true)
  | 6 => ("GroundProver", "printer", "LGroundProver$Printer;", true)
  | 7 => ("GroundProver", "search", "LGroundProver$ClassSearch;", true)
  | 8 => ("GroundProver", "matcher", "LGroundProver$Matcher;", true)
  | 9 => ("GroundProver", "numbered", "LGroundProver$Row;", true)
  | _ => ("GroundProver", "numberedCount", "I", false)
def tyX11 : Nat → FieldType := fun k => match k with
  | 0 => .object "GroundProver$Symbols"
  | 1 => .object "GroundProver$TermStore"
  | 2 => .object "GroundProver$Walk"
  | 3 => .object "GroundProver$Grammar"
  | 4 => .object "GroundProver$Theory"
  | 5 => .object "GroundProver$Reader"
  | 6 => .object "GroundProver$Printer"
  | 7 => .object "GroundProver$ClassSearch"
  | 8 => .object "GroundProver$Matcher"
  | 9 => .object "GroundProver$Row"
  | _ => .int
abbrev wsX110 : List Cond := u_ws RX11 TX11 11
theorem nmX11 : ∀ a, a < 11 → ∀ b, b < 11 → a ≠ b → (TX11 a).2.1 ≠ (TX11 b).2.1 := by decide +kernel
theorem tyX11_ok : ∀ k, k < 11 → parseFieldDescriptor (TX11 k).2.2.1 = some (tyX11 k) := by decide +kernel
abbrev cX11_init : ByteArray := prog_1_method_1_code
def yX11_init : MethodName := ⟨RX11, "<init>", "()V"⟩
abbrev cX11_feed : ByteArray := prog_1_method_2_code
def yX11_feed : MethodName := ⟨RX11, "feed", "(IIIII)I"⟩
abbrev cX11_trim : ByteArray := prog_1_method_3_code
def yX11_trim : MethodName := ⟨RX11, "trim", "(I)I"⟩
abbrev cX11_declare : ByteArray := prog_1_method_4_code
def yX11_declare : MethodName := ⟨RX11, "declare", "(II)I"⟩
abbrev cX11_orderByWeight : ByteArray := prog_1_method_7_code
def yX11_orderByWeight : MethodName := ⟨RX11, "orderByWeight", "(Z)Z"⟩
abbrev cX11_promote : ByteArray := prog_1_method_8_code
def yX11_promote : MethodName := ⟨RX11, "promote", "(II)I"⟩
abbrev cX11_rankOf : ByteArray := prog_1_method_9_code
def yX11_rankOf : MethodName := ⟨RX11, "rankOf", "(I)I"⟩
abbrev cX11_setDirection : ByteArray := prog_1_method_10_code
def yX11_setDirection : MethodName := ⟨RX11, "setDirection", "(IZ)Z"⟩
abbrev cX11_term : ByteArray := prog_1_method_11_code
def yX11_term : MethodName := ⟨RX11, "term", "(IIII)I"⟩
abbrev cX11_size : ByteArray := prog_1_method_18_code
def yX11_size : MethodName := ⟨RX11, "size", "(I)I"⟩
abbrev cX11_compare : ByteArray := prog_1_method_20_code
def yX11_compare : MethodName := ⟨RX11, "compare", "(II)I"⟩
abbrev cX11_equate : ByteArray := prog_1_method_25_code
def yX11_equate : MethodName := ⟨RX11, "equate", "(II)I"⟩
abbrev cX11_equationCount : ByteArray := prog_1_method_28_code
def yX11_equationCount : MethodName := ⟨RX11, "equationCount", "()I"⟩
abbrev cX11_push : ByteArray := prog_1_method_32_code
def yX11_push : MethodName := ⟨RX11, "push", "()I"⟩
abbrev cX11_pop : ByteArray := prog_1_method_33_code
def yX11_pop : MethodName := ⟨RX11, "pop", "()I"⟩
abbrev cX11_normalForm : ByteArray := prog_1_method_37_code
def yX11_normalForm : MethodName := ⟨RX11, "normalForm", "(I)I"⟩
abbrev cX11_areEqual : ByteArray := prog_1_method_38_code
def yX11_areEqual : MethodName := ⟨RX11, "areEqual", "(II)Z"⟩
abbrev cX11_stepCount : ByteArray := prog_1_method_40_code
def yX11_stepCount : MethodName := ⟨RX11, "stepCount", "(I)I"⟩
abbrev cX11_isTerm : ByteArray := prog_1_method_48_code
def yX11_isTerm : MethodName := ⟨RX11, "isTerm", "(I)Z"⟩
abbrev cX11_giveNumber : ByteArray := prog_1_method_49_code
def yX11_giveNumber : MethodName := ⟨RX11, "giveNumber", "(I)I"⟩
abbrev cX11_tidy : ByteArray := prog_1_method_50_code
def yX11_tidy : MethodName := ⟨RX11, "tidy", "()V"⟩
def RX12 : String := "GroundProverModel"
def TX12 : u_T := fun k => match k with
  | _ => ("", "", "", false)
def tyX12 : Nat → FieldType := fun k => match k with
  | _ => .int
abbrev wsX120 : List Cond := u_ws RX12 TX12 0
theorem nmX12 : ∀ a, a < 0 → ∀ b, b < 0 → a ≠ b → (TX12 a).2.1 ≠ (TX12 b).2.1 := by decide +kernel
theorem tyX12_ok : ∀ k, k < 0 → parseFieldDescriptor (TX12 k).2.2.1 = some (tyX12 k) := by decide +kernel
def RJx145de : String := "java/io/Serializable"
def TJx145de : u_T := fun k => match k with
  | _ => ("", "", "", false)
def tyJx145de : Nat → FieldType := fun k => match k with
  | _ => .int
abbrev wsJx145de0 : List Cond := u_ws RJx145de TJx145de 0
theorem nmJx145de : ∀ a, a < 0 → ∀ b, b < 0 → a ≠ b → (TJx145de a).2.1 ≠ (TJx145de b).2.1 := by decide +kernel
theorem tyJx145de_ok : ∀ k, k < 0 → parseFieldDescriptor (TJx145de k).2.2.1 = some (tyJx145de k) := by decide +kernel
def RJ9 : String := "java/lang/Math"
def TJ9 : u_T := fun k => match k with
  | _ => ("", "", "", false)
def tyJ9 : Nat → FieldType := fun k => match k with
  | _ => .int
abbrev wsJ90 : List Cond := u_ws RJ9 TJ9 0
theorem nmJ9 : ∀ a, a < 0 → ∀ b, b < 0 → a ≠ b → (TJ9 a).2.1 ≠ (TJ9 b).2.1 := by decide +kernel
theorem tyJ9_ok : ∀ k, k < 0 → parseFieldDescriptor (TJ9 k).2.2.1 = some (tyJ9 k) := by decide +kernel
abbrev cJ9_max_7cf53 : ByteArray := prog_20_method_65_code
def yJ9_max_7cf53 : MethodName := ⟨RJ9, "max", "(II)I"⟩
abbrev cJ9_min_7cf53 : ByteArray := prog_20_method_69_code
def yJ9_min_7cf53 : MethodName := ⟨RJ9, "min", "(II)I"⟩
def RJ0 : String := "java/lang/String"
def TJ0 : u_T := fun k => match k with
  | 0 => ("java/lang/String", "value", "[B", true)
  | _ => ("java/lang/String", "coder", "B", true)
def tyJ0 : Nat → FieldType := fun k => match k with
  | 0 => .array .byte
  | _ => .byte
abbrev wsJ00 : List Cond := u_ws RJ0 TJ0 2
theorem nmJ0 : ∀ a, a < 2 → ∀ b, b < 2 → a ≠ b → (TJ0 a).2.1 ≠ (TJ0 b).2.1 := by decide +kernel
theorem tyJ0_ok : ∀ k, k < 2 → parseFieldDescriptor (TJ0 k).2.2.1 = some (tyJ0 k) := by decide +kernel
def RL : String := "GroundProverLaw"
abbrev cL_below : ByteArray := method_2_code
def yL_below : MethodName := ⟨RL, "below", "(II)I"⟩
abbrev cL_cell : ByteArray := method_3_code
def yL_cell : MethodName := ⟨RL, "cell", "([II)I"⟩
abbrev cL_declare : ByteArray := method_4_code
def yL_declare : MethodName := ⟨RL, "declare", "(LGroundProver;CII)I"⟩
abbrev cL_setUp : ByteArray := method_5_code
def yL_setUp : MethodName := ⟨RL, "setUp", "(LGroundProver;I)Z"⟩
abbrev cL_build : ByteArray := method_6_code
def yL_build : MethodName := ⟨RL, "build", "(LGroundProver;[II[I[I[I)V"⟩
abbrev cL_equate : ByteArray := method_7_code
def yL_equate : MethodName := ⟨RL, "equate", "(LGroundProver;II)I"⟩
abbrev cL_normal : ByteArray := method_8_code
def yL_normal : MethodName := ⟨RL, "normal", "(LGroundProver;I)I"⟩
abbrev cL_close : ByteArray := method_9_code
def yL_close : MethodName := ⟨RL, "close", "([I[I[I[I[III[I)V"⟩
abbrev cL_unite : ByteArray := method_10_code
def yL_unite : MethodName := ⟨RL, "unite", "([III)V"⟩
abbrev cL_pop : ByteArray := method_11_code
def yL_pop : MethodName := ⟨RL, "pop", "(LGroundProver;)I"⟩
abbrev cL_law : ByteArray := code
def yL_law : MethodName := ⟨RL, "law", "([I)Z"⟩
end
section
theorem dL_below_0 : decode cL_below 0 = .ok (.iload_n 0, 1) := by decide +kernel
theorem dL_below_1 : decode cL_below 1 = .ok (.ldc 7, 2) := by decide +kernel
theorem dL_below_3 : decode cL_below 3 = .ok (.iand, 1) := by decide +kernel
theorem dL_below_4 : decode cL_below 4 = .ok (.iload_n 1, 1) := by decide +kernel
theorem dL_below_5 : decode cL_below 5 = .ok (.irem, 1) := by decide +kernel
theorem dL_below_6 : decode cL_below 6 = .ok (.ireturn, 1) := by decide +kernel
theorem dL_build_0 : decode cL_build 0 = .ok (.iconst 0, 1) := by decide +kernel
theorem dL_build_1 : decode cL_build 1 = .ok (.istore 6, 2) := by decide +kernel
theorem dL_build_3 : decode cL_build 3 = .ok (.iload 6, 2) := by decide +kernel
theorem dL_build_5 : decode cL_build 5 = .ok (.aload_n 3, 1) := by decide +kernel
theorem dL_build_6 : decode cL_build 6 = .ok (.arraylength, 1) := by decide +kernel
theorem dL_build_7 : decode cL_build 7 = .ok (.if_icmp .ge 183, 3) := by decide +kernel
theorem dL_build_10 : decode cL_build 10 = .ok (.aload_n 1, 1) := by decide +kernel
theorem dL_build_11 : decode cL_build 11 = .ok (.iload_n 2, 1) := by decide +kernel
theorem dL_build_12 : decode cL_build 12 = .ok (.iload 6, 2) := by decide +kernel
theorem dL_build_14 : decode cL_build 14 = .ok (.iadd, 1) := by decide +kernel
theorem dL_build_15 : decode cL_build 15 = .ok (.invokestatic 45, 3) := by decide +kernel
theorem dL_build_18 : decode cL_build 18 = .ok (.istore 7, 2) := by decide +kernel
theorem dL_build_20 : decode cL_build 20 = .ok (.iload 7, 2) := by decide +kernel
theorem dL_build_22 : decode cL_build 22 = .ok (.iconst 2, 1) := by decide +kernel
theorem dL_build_23 : decode cL_build 23 = .ok (.ishr, 1) := by decide +kernel
theorem dL_build_24 : decode cL_build 24 = .ok (.iload 6, 2) := by decide +kernel
theorem dL_build_26 : decode cL_build 26 = .ok (.iconst 1, 1) := by decide +kernel
theorem dL_build_27 : decode cL_build 27 = .ok (.invokestatic 49, 3) := by decide +kernel
theorem dL_build_30 : decode cL_build 30 = .ok (.invokestatic 23, 3) := by decide +kernel
theorem dL_build_33 : decode cL_build 33 = .ok (.istore 8, 2) := by decide +kernel
theorem dL_build_35 : decode cL_build 35 = .ok (.iload 7, 2) := by decide +kernel
theorem dL_build_37 : decode cL_build 37 = .ok (.bipush 10, 2) := by decide +kernel
theorem dL_build_39 : decode cL_build 39 = .ok (.ishr, 1) := by decide +kernel
theorem dL_build_40 : decode cL_build 40 = .ok (.iload 6, 2) := by decide +kernel
theorem dL_build_42 : decode cL_build 42 = .ok (.iconst 1, 1) := by decide +kernel
theorem dL_build_43 : decode cL_build 43 = .ok (.invokestatic 49, 3) := by decide +kernel
theorem dL_build_46 : decode cL_build 46 = .ok (.invokestatic 23, 3) := by decide +kernel
theorem dL_build_49 : decode cL_build 49 = .ok (.istore 9, 2) := by decide +kernel
theorem dL_build_51 : decode cL_build 51 = .ok (.iload 6, 2) := by decide +kernel
theorem dL_build_53 : decode cL_build 53 = .ok (.iconst 3, 1) := by decide +kernel
theorem dL_build_54 : decode cL_build 54 = .ok (.if_icmp .lt 19, 3) := by decide +kernel
theorem dL_build_57 : decode cL_build 57 = .ok (.aload_n 0, 1) := by decide +kernel
theorem dL_build_58 : decode cL_build 58 = .ok (.aload_n 3, 1) := by decide +kernel
theorem dL_build_59 : decode cL_build 59 = .ok (.iload 8, 2) := by decide +kernel
theorem dL_build_61 : decode cL_build 61 = .ok (.iaload, 1) := by decide +kernel
theorem dL_build_62 : decode cL_build 62 = .ok (.invokevirtual 54, 3) := by decide +kernel
theorem dL_build_65 : decode cL_build 65 = .ok (.bipush 6, 2) := by decide +kernel
theorem dL_build_67 : decode cL_build 67 = .ok (.if_icmp .le 6, 3) := by decide +kernel
theorem dL_build_70 : decode cL_build 70 = .ok (.iconst 0, 1) := by decide +kernel
theorem dL_build_71 : decode cL_build 71 = .ok (.istore 8, 2) := by decide +kernel
theorem dL_build_73 : decode cL_build 73 = .ok (.iload 6, 2) := by decide +kernel
theorem dL_build_75 : decode cL_build 75 = .ok (.iconst 3, 1) := by decide +kernel
theorem dL_build_76 : decode cL_build 76 = .ok (.if_icmp .lt 19, 3) := by decide +kernel
theorem dL_build_79 : decode cL_build 79 = .ok (.aload_n 0, 1) := by decide +kernel
theorem dL_build_80 : decode cL_build 80 = .ok (.aload_n 3, 1) := by decide +kernel
theorem dL_build_81 : decode cL_build 81 = .ok (.iload 9, 2) := by decide +kernel
theorem dL_build_83 : decode cL_build 83 = .ok (.iaload, 1) := by decide +kernel
theorem dL_build_84 : decode cL_build 84 = .ok (.invokevirtual 54, 3) := by decide +kernel
theorem dL_build_87 : decode cL_build 87 = .ok (.bipush 6, 2) := by decide +kernel
theorem dL_build_89 : decode cL_build 89 = .ok (.if_icmp .le 6, 3) := by decide +kernel
theorem dL_build_92 : decode cL_build 92 = .ok (.iconst 1, 1) := by decide +kernel
theorem dL_build_93 : decode cL_build 93 = .ok (.istore 9, 2) := by decide +kernel
theorem dL_build_95 : decode cL_build 95 = .ok (.aload 4, 2) := by decide +kernel
theorem dL_build_97 : decode cL_build 97 = .ok (.iload 6, 2) := by decide +kernel
theorem dL_build_99 : decode cL_build 99 = .ok (.iload 6, 2) := by decide +kernel
theorem dL_build_101 : decode cL_build 101 = .ok (.iconst 3, 1) := by decide +kernel
theorem dL_build_102 : decode cL_build 102 = .ok (.if_icmp .ge 7, 3) := by decide +kernel
theorem dL_build_105 : decode cL_build 105 = .ok (.iconst (-1), 1) := by decide +kernel
theorem dL_build_106 : decode cL_build 106 = .ok (.goto 5, 3) := by decide +kernel
theorem dL_build_109 : decode cL_build 109 = .ok (.iload 8, 2) := by decide +kernel
theorem dL_build_111 : decode cL_build 111 = .ok (.iastore, 1) := by decide +kernel
theorem dL_build_112 : decode cL_build 112 = .ok (.aload 5, 2) := by decide +kernel
theorem dL_build_114 : decode cL_build 114 = .ok (.iload 6, 2) := by decide +kernel
theorem dL_build_116 : decode cL_build 116 = .ok (.iload 6, 2) := by decide +kernel
theorem dL_build_118 : decode cL_build 118 = .ok (.iconst 3, 1) := by decide +kernel
theorem dL_build_119 : decode cL_build 119 = .ok (.if_icmp .lt 10, 3) := by decide +kernel
theorem dL_build_122 : decode cL_build 122 = .ok (.iload 7, 2) := by decide +kernel
theorem dL_build_124 : decode cL_build 124 = .ok (.iconst 3, 1) := by decide +kernel
theorem dL_build_125 : decode cL_build 125 = .ok (.iand, 1) := by decide +kernel
theorem dL_build_126 : decode cL_build 126 = .ok (.ifCond .ne 7, 3) := by decide +kernel
theorem dL_build_129 : decode cL_build 129 = .ok (.iconst (-1), 1) := by decide +kernel
theorem dL_build_130 : decode cL_build 130 = .ok (.goto 5, 3) := by decide +kernel
theorem dL_build_133 : decode cL_build 133 = .ok (.iload 9, 2) := by decide +kernel
theorem dL_build_135 : decode cL_build 135 = .ok (.iastore, 1) := by decide +kernel
theorem dL_build_136 : decode cL_build 136 = .ok (.aload_n 3, 1) := by decide +kernel
theorem dL_build_137 : decode cL_build 137 = .ok (.iload 6, 2) := by decide +kernel
theorem dL_build_139 : decode cL_build 139 = .ok (.iload 6, 2) := by decide +kernel
theorem dL_build_141 : decode cL_build 141 = .ok (.iconst 3, 1) := by decide +kernel
theorem dL_build_142 : decode cL_build 142 = .ok (.if_icmp .ge 15, 3) := by decide +kernel
theorem dL_build_145 : decode cL_build 145 = .ok (.aload_n 0, 1) := by decide +kernel
theorem dL_build_146 : decode cL_build 146 = .ok (.iload 6, 2) := by decide +kernel
theorem dL_build_148 : decode cL_build 148 = .ok (.iconst 0, 1) := by decide +kernel
theorem dL_build_149 : decode cL_build 149 = .ok (.iconst 0, 1) := by decide +kernel
theorem dL_build_150 : decode cL_build 150 = .ok (.iconst 0, 1) := by decide +kernel
theorem dL_build_151 : decode cL_build 151 = .ok (.invokevirtual 57, 3) := by decide +kernel
theorem dL_build_154 : decode cL_build 154 = .ok (.goto 29, 3) := by decide +kernel
theorem dL_build_157 : decode cL_build 157 = .ok (.aload_n 0, 1) := by decide +kernel
theorem dL_build_158 : decode cL_build 158 = .ok (.aload 5, 2) := by decide +kernel
theorem dL_build_160 : decode cL_build 160 = .ok (.iload 6, 2) := by decide +kernel
theorem dL_build_162 : decode cL_build 162 = .ok (.iaload, 1) := by decide +kernel
theorem dL_build_163 : decode cL_build 163 = .ok (.ifCond .ge 7, 3) := by decide +kernel
theorem dL_build_166 : decode cL_build 166 = .ok (.iconst 3, 1) := by decide +kernel
theorem dL_build_167 : decode cL_build 167 = .ok (.goto 4, 3) := by decide +kernel
theorem dL_build_170 : decode cL_build 170 = .ok (.iconst 4, 1) := by decide +kernel
theorem dL_build_171 : decode cL_build 171 = .ok (.aload_n 3, 1) := by decide +kernel
theorem dL_build_172 : decode cL_build 172 = .ok (.iload 8, 2) := by decide +kernel
theorem dL_build_174 : decode cL_build 174 = .ok (.iaload, 1) := by decide +kernel
theorem dL_build_175 : decode cL_build 175 = .ok (.aload_n 3, 1) := by decide +kernel
theorem dL_build_176 : decode cL_build 176 = .ok (.iload 9, 2) := by decide +kernel
theorem dL_build_178 : decode cL_build 178 = .ok (.iaload, 1) := by decide +kernel
theorem dL_build_179 : decode cL_build 179 = .ok (.iconst 0, 1) := by decide +kernel
theorem dL_build_180 : decode cL_build 180 = .ok (.invokevirtual 57, 3) := by decide +kernel
theorem dL_build_183 : decode cL_build 183 = .ok (.iastore, 1) := by decide +kernel
theorem dL_build_184 : decode cL_build 184 = .ok (.iinc 6 1, 3) := by decide +kernel
theorem dL_build_187 : decode cL_build 187 = .ok (.goto (-184), 3) := by decide +kernel
theorem dL_build_190 : decode cL_build 190 = .ok (.return_, 1) := by decide +kernel
theorem dL_cell_0 : decode cL_cell 0 = .ok (.iload_n 1, 1) := by decide +kernel
theorem dL_cell_1 : decode cL_cell 1 = .ok (.aload_n 0, 1) := by decide +kernel
theorem dL_cell_2 : decode cL_cell 2 = .ok (.arraylength, 1) := by decide +kernel
theorem dL_cell_3 : decode cL_cell 3 = .ok (.if_icmp .ge 9, 3) := by decide +kernel
theorem dL_cell_6 : decode cL_cell 6 = .ok (.aload_n 0, 1) := by decide +kernel
theorem dL_cell_7 : decode cL_cell 7 = .ok (.iload_n 1, 1) := by decide +kernel
theorem dL_cell_8 : decode cL_cell 8 = .ok (.iaload, 1) := by decide +kernel
theorem dL_cell_9 : decode cL_cell 9 = .ok (.goto 9, 3) := by decide +kernel
theorem dL_cell_12 : decode cL_cell 12 = .ok (.ldc 8, 2) := by decide +kernel
theorem dL_cell_14 : decode cL_cell 14 = .ok (.iload_n 1, 1) := by decide +kernel
theorem dL_cell_15 : decode cL_cell 15 = .ok (.iconst 3, 1) := by decide +kernel
theorem dL_cell_16 : decode cL_cell 16 = .ok (.iadd, 1) := by decide +kernel
theorem dL_cell_17 : decode cL_cell 17 = .ok (.imul, 1) := by decide +kernel
theorem dL_cell_18 : decode cL_cell 18 = .ok (.ireturn, 1) := by decide +kernel
theorem dL_close_0 : decode cL_close 0 = .ok (.aload_n 0, 1) := by decide +kernel
theorem dL_close_1 : decode cL_close 1 = .ok (.arraylength, 1) := by decide +kernel
theorem dL_close_2 : decode cL_close 2 = .ok (.istore 8, 2) := by decide +kernel
theorem dL_close_4 : decode cL_close 4 = .ok (.iconst 0, 1) := by decide +kernel
theorem dL_close_5 : decode cL_close 5 = .ok (.istore 9, 2) := by decide +kernel
theorem dL_close_7 : decode cL_close 7 = .ok (.iload 9, 2) := by decide +kernel
theorem dL_close_9 : decode cL_close 9 = .ok (.iload 8, 2) := by decide +kernel
theorem dL_close_11 : decode cL_close 11 = .ok (.if_icmp .ge 53, 3) := by decide +kernel
theorem dL_close_14 : decode cL_close 14 = .ok (.aload 7, 2) := by decide +kernel
theorem dL_close_16 : decode cL_close 16 = .ok (.iload 9, 2) := by decide +kernel
theorem dL_close_18 : decode cL_close 18 = .ok (.iload 9, 2) := by decide +kernel
theorem dL_close_20 : decode cL_close 20 = .ok (.iastore, 1) := by decide +kernel
theorem dL_close_21 : decode cL_close 21 = .ok (.iconst 0, 1) := by decide +kernel
theorem dL_close_22 : decode cL_close 22 = .ok (.istore 10, 2) := by decide +kernel
theorem dL_close_24 : decode cL_close 24 = .ok (.iload 10, 2) := by decide +kernel
theorem dL_close_26 : decode cL_close 26 = .ok (.iload 9, 2) := by decide +kernel
theorem dL_close_28 : decode cL_close 28 = .ok (.if_icmp .ge 30, 3) := by decide +kernel
theorem dL_close_31 : decode cL_close 31 = .ok (.aload_n 0, 1) := by decide +kernel
theorem dL_close_32 : decode cL_close 32 = .ok (.iload 10, 2) := by decide +kernel
theorem dL_close_34 : decode cL_close 34 = .ok (.iaload, 1) := by decide +kernel
theorem dL_close_35 : decode cL_close 35 = .ok (.aload_n 0, 1) := by decide +kernel
theorem dL_close_36 : decode cL_close 36 = .ok (.iload 9, 2) := by decide +kernel
theorem dL_close_38 : decode cL_close 38 = .ok (.iaload, 1) := by decide +kernel
theorem dL_close_39 : decode cL_close 39 = .ok (.if_icmp .ne 13, 3) := by decide +kernel
theorem dL_close_42 : decode cL_close 42 = .ok (.aload 7, 2) := by decide +kernel
theorem dL_close_44 : decode cL_close 44 = .ok (.iload 9, 2) := by decide +kernel
theorem dL_close_46 : decode cL_close 46 = .ok (.aload 7, 2) := by decide +kernel
theorem dL_close_48 : decode cL_close 48 = .ok (.iload 10, 2) := by decide +kernel
theorem dL_close_50 : decode cL_close 50 = .ok (.iaload, 1) := by decide +kernel
theorem dL_close_51 : decode cL_close 51 = .ok (.iastore, 1) := by decide +kernel
theorem dL_close_52 : decode cL_close 52 = .ok (.iinc 10 1, 3) := by decide +kernel
theorem dL_close_55 : decode cL_close 55 = .ok (.goto (-31), 3) := by decide +kernel
theorem dL_close_58 : decode cL_close 58 = .ok (.iinc 9 1, 3) := by decide +kernel
theorem dL_close_61 : decode cL_close 61 = .ok (.goto (-54), 3) := by decide +kernel
theorem dL_close_64 : decode cL_close 64 = .ok (.iconst 0, 1) := by decide +kernel
theorem dL_close_65 : decode cL_close 65 = .ok (.istore 9, 2) := by decide +kernel
theorem dL_close_67 : decode cL_close 67 = .ok (.iload 9, 2) := by decide +kernel
theorem dL_close_69 : decode cL_close 69 = .ok (.iload 5, 2) := by decide +kernel
theorem dL_close_71 : decode cL_close 71 = .ok (.if_icmp .ge 36, 3) := by decide +kernel
theorem dL_close_74 : decode cL_close 74 = .ok (.iload 9, 2) := by decide +kernel
theorem dL_close_76 : decode cL_close 76 = .ok (.iload 6, 2) := by decide +kernel
theorem dL_close_78 : decode cL_close 78 = .ok (.if_icmp .eq 23, 3) := by decide +kernel
theorem dL_close_81 : decode cL_close 81 = .ok (.aload 7, 2) := by decide +kernel
theorem dL_close_83 : decode cL_close 83 = .ok (.aload 7, 2) := by decide +kernel
theorem dL_close_85 : decode cL_close 85 = .ok (.aload_n 3, 1) := by decide +kernel
theorem dL_close_86 : decode cL_close 86 = .ok (.iload 9, 2) := by decide +kernel
theorem dL_close_88 : decode cL_close 88 = .ok (.iaload, 1) := by decide +kernel
theorem dL_close_89 : decode cL_close 89 = .ok (.iaload, 1) := by decide +kernel
theorem dL_close_90 : decode cL_close 90 = .ok (.aload 7, 2) := by decide +kernel
theorem dL_close_92 : decode cL_close 92 = .ok (.aload 4, 2) := by decide +kernel
theorem dL_close_94 : decode cL_close 94 = .ok (.iload 9, 2) := by decide +kernel
theorem dL_close_96 : decode cL_close 96 = .ok (.iaload, 1) := by decide +kernel
theorem dL_close_97 : decode cL_close 97 = .ok (.iaload, 1) := by decide +kernel
theorem dL_close_98 : decode cL_close 98 = .ok (.invokestatic 71, 3) := by decide +kernel
theorem dL_close_101 : decode cL_close 101 = .ok (.iinc 9 1, 3) := by decide +kernel
theorem dL_close_104 : decode cL_close 104 = .ok (.goto (-37), 3) := by decide +kernel
theorem dL_close_107 : decode cL_close 107 = .ok (.iconst 1, 1) := by decide +kernel
theorem dL_close_108 : decode cL_close 108 = .ok (.istore 9, 2) := by decide +kernel
theorem dL_close_110 : decode cL_close 110 = .ok (.iload 9, 2) := by decide +kernel
theorem dL_close_112 : decode cL_close 112 = .ok (.ifCond .eq 155, 3) := by decide +kernel
theorem dL_close_115 : decode cL_close 115 = .ok (.iconst 0, 1) := by decide +kernel
theorem dL_close_116 : decode cL_close 116 = .ok (.istore 9, 2) := by decide +kernel
theorem dL_close_118 : decode cL_close 118 = .ok (.iconst 3, 1) := by decide +kernel
theorem dL_close_119 : decode cL_close 119 = .ok (.istore 10, 2) := by decide +kernel
theorem dL_close_121 : decode cL_close 121 = .ok (.iload 10, 2) := by decide +kernel
theorem dL_close_123 : decode cL_close 123 = .ok (.iload 8, 2) := by decide +kernel
theorem dL_close_125 : decode cL_close 125 = .ok (.if_icmp .ge 139, 3) := by decide +kernel
theorem dL_close_128 : decode cL_close 128 = .ok (.iconst 3, 1) := by decide +kernel
theorem dL_close_129 : decode cL_close 129 = .ok (.istore 11, 2) := by decide +kernel
theorem dL_close_131 : decode cL_close 131 = .ok (.iload 11, 2) := by decide +kernel
theorem dL_close_133 : decode cL_close 133 = .ok (.iload 10, 2) := by decide +kernel
theorem dL_close_135 : decode cL_close 135 = .ok (.if_icmp .ge 123, 3) := by decide +kernel
theorem dL_close_138 : decode cL_close 138 = .ok (.aload_n 2, 1) := by decide +kernel
theorem dL_close_139 : decode cL_close 139 = .ok (.iload 10, 2) := by decide +kernel
theorem dL_close_141 : decode cL_close 141 = .ok (.iaload, 1) := by decide +kernel
theorem dL_close_142 : decode cL_close 142 = .ok (.ifCond .ge 7, 3) := by decide +kernel
theorem dL_close_145 : decode cL_close 145 = .ok (.iconst 1, 1) := by decide +kernel
theorem dL_close_146 : decode cL_close 146 = .ok (.goto 4, 3) := by decide +kernel
theorem dL_close_149 : decode cL_close 149 = .ok (.iconst 0, 1) := by decide +kernel
theorem dL_close_150 : decode cL_close 150 = .ok (.aload_n 2, 1) := by decide +kernel
theorem dL_close_151 : decode cL_close 151 = .ok (.iload 11, 2) := by decide +kernel
theorem dL_close_153 : decode cL_close 153 = .ok (.iaload, 1) := by decide +kernel
theorem dL_close_154 : decode cL_close 154 = .ok (.ifCond .ge 7, 3) := by decide +kernel
theorem dL_close_157 : decode cL_close 157 = .ok (.iconst 1, 1) := by decide +kernel
theorem dL_close_158 : decode cL_close 158 = .ok (.goto 4, 3) := by decide +kernel
theorem dL_close_161 : decode cL_close 161 = .ok (.iconst 0, 1) := by decide +kernel
theorem dL_close_162 : decode cL_close 162 = .ok (.if_icmp .ne 48, 3) := by decide +kernel
theorem dL_close_165 : decode cL_close 165 = .ok (.aload 7, 2) := by decide +kernel
theorem dL_close_167 : decode cL_close 167 = .ok (.aload_n 1, 1) := by decide +kernel
theorem dL_close_168 : decode cL_close 168 = .ok (.iload 10, 2) := by decide +kernel
theorem dL_close_170 : decode cL_close 170 = .ok (.iaload, 1) := by decide +kernel
theorem dL_close_171 : decode cL_close 171 = .ok (.iaload, 1) := by decide +kernel
theorem dL_close_172 : decode cL_close 172 = .ok (.aload 7, 2) := by decide +kernel
theorem dL_close_174 : decode cL_close 174 = .ok (.aload_n 1, 1) := by decide +kernel
theorem dL_close_175 : decode cL_close 175 = .ok (.iload 11, 2) := by decide +kernel
theorem dL_close_177 : decode cL_close 177 = .ok (.iaload, 1) := by decide +kernel
theorem dL_close_178 : decode cL_close 178 = .ok (.iaload, 1) := by decide +kernel
theorem dL_close_179 : decode cL_close 179 = .ok (.if_icmp .ne 31, 3) := by decide +kernel
theorem dL_close_182 : decode cL_close 182 = .ok (.aload_n 2, 1) := by decide +kernel
theorem dL_close_183 : decode cL_close 183 = .ok (.iload 10, 2) := by decide +kernel
theorem dL_close_185 : decode cL_close 185 = .ok (.iaload, 1) := by decide +kernel
theorem dL_close_186 : decode cL_close 186 = .ok (.ifCond .lt 20, 3) := by decide +kernel
theorem dL_close_189 : decode cL_close 189 = .ok (.aload 7, 2) := by decide +kernel
theorem dL_close_191 : decode cL_close 191 = .ok (.aload_n 2, 1) := by decide +kernel
theorem dL_close_192 : decode cL_close 192 = .ok (.iload 10, 2) := by decide +kernel
theorem dL_close_194 : decode cL_close 194 = .ok (.iaload, 1) := by decide +kernel
theorem dL_close_195 : decode cL_close 195 = .ok (.iaload, 1) := by decide +kernel
theorem dL_close_196 : decode cL_close 196 = .ok (.aload 7, 2) := by decide +kernel
theorem dL_close_198 : decode cL_close 198 = .ok (.aload_n 2, 1) := by decide +kernel
theorem dL_close_199 : decode cL_close 199 = .ok (.iload 11, 2) := by decide +kernel
theorem dL_close_201 : decode cL_close 201 = .ok (.iaload, 1) := by decide +kernel
theorem dL_close_202 : decode cL_close 202 = .ok (.iaload, 1) := by decide +kernel
theorem dL_close_203 : decode cL_close 203 = .ok (.if_icmp .ne 7, 3) := by decide +kernel
theorem dL_close_206 : decode cL_close 206 = .ok (.iconst 1, 1) := by decide +kernel
theorem dL_close_207 : decode cL_close 207 = .ok (.goto 4, 3) := by decide +kernel
theorem dL_close_210 : decode cL_close 210 = .ok (.iconst 0, 1) := by decide +kernel
theorem dL_close_211 : decode cL_close 211 = .ok (.istore 12, 2) := by decide +kernel
theorem dL_close_213 : decode cL_close 213 = .ok (.iload 12, 2) := by decide +kernel
theorem dL_close_215 : decode cL_close 215 = .ok (.ifCond .eq 37, 3) := by decide +kernel
theorem dL_close_218 : decode cL_close 218 = .ok (.aload 7, 2) := by decide +kernel
theorem dL_close_220 : decode cL_close 220 = .ok (.iload 10, 2) := by decide +kernel
theorem dL_close_222 : decode cL_close 222 = .ok (.iaload, 1) := by decide +kernel
theorem dL_close_223 : decode cL_close 223 = .ok (.aload 7, 2) := by decide +kernel
theorem dL_close_225 : decode cL_close 225 = .ok (.iload 11, 2) := by decide +kernel
theorem dL_close_227 : decode cL_close 227 = .ok (.iaload, 1) := by decide +kernel
theorem dL_close_228 : decode cL_close 228 = .ok (.if_icmp .ne 6, 3) := by decide +kernel
theorem dL_close_231 : decode cL_close 231 = .ok (.goto 21, 3) := by decide +kernel
theorem dL_close_234 : decode cL_close 234 = .ok (.aload 7, 2) := by decide +kernel
theorem dL_close_236 : decode cL_close 236 = .ok (.aload 7, 2) := by decide +kernel
theorem dL_close_238 : decode cL_close 238 = .ok (.iload 11, 2) := by decide +kernel
theorem dL_close_240 : decode cL_close 240 = .ok (.iaload, 1) := by decide +kernel
theorem dL_close_241 : decode cL_close 241 = .ok (.aload 7, 2) := by decide +kernel
theorem dL_close_243 : decode cL_close 243 = .ok (.iload 10, 2) := by decide +kernel
theorem dL_close_245 : decode cL_close 245 = .ok (.iaload, 1) := by decide +kernel
theorem dL_close_246 : decode cL_close 246 = .ok (.invokestatic 71, 3) := by decide +kernel
theorem dL_close_249 : decode cL_close 249 = .ok (.iconst 1, 1) := by decide +kernel
theorem dL_close_250 : decode cL_close 250 = .ok (.istore 9, 2) := by decide +kernel
theorem dL_close_252 : decode cL_close 252 = .ok (.iinc 11 1, 3) := by decide +kernel
theorem dL_close_255 : decode cL_close 255 = .ok (.goto (-124), 3) := by decide +kernel
theorem dL_close_258 : decode cL_close 258 = .ok (.iinc 10 1, 3) := by decide +kernel
theorem dL_close_261 : decode cL_close 261 = .ok (.goto (-140), 3) := by decide +kernel
theorem dL_close_264 : decode cL_close 264 = .ok (.goto (-154), 3) := by decide +kernel
theorem dL_close_267 : decode cL_close 267 = .ok (.return_, 1) := by decide +kernel
theorem dL_declare_0 : decode cL_declare 0 = .ok (.aload_n 0, 1) := by decide +kernel
theorem dL_declare_1 : decode cL_declare 1 = .ok (.iload_n 1, 1) := by decide +kernel
theorem dL_declare_2 : decode cL_declare 2 = .ok (.bipush 24, 2) := by decide +kernel
theorem dL_declare_4 : decode cL_declare 4 = .ok (.ishl, 1) := by decide +kernel
theorem dL_declare_5 : decode cL_declare 5 = .ok (.iconst 0, 1) := by decide +kernel
theorem dL_declare_6 : decode cL_declare 6 = .ok (.iconst 0, 1) := by decide +kernel
theorem dL_declare_7 : decode cL_declare 7 = .ok (.iconst 0, 1) := by decide +kernel
theorem dL_declare_8 : decode cL_declare 8 = .ok (.iconst 0, 1) := by decide +kernel
theorem dL_declare_9 : decode cL_declare 9 = .ok (.invokevirtual 9, 3) := by decide +kernel
theorem dL_declare_12 : decode cL_declare 12 = .ok (.istore 4, 2) := by decide +kernel
theorem dL_declare_14 : decode cL_declare 14 = .ok (.iload 4, 2) := by decide +kernel
theorem dL_declare_16 : decode cL_declare 16 = .ok (.bipush 20, 2) := by decide +kernel
theorem dL_declare_18 : decode cL_declare 18 = .ok (.if_icmp .ne 21, 3) := by decide +kernel
theorem dL_declare_21 : decode cL_declare 21 = .ok (.aload_n 0, 1) := by decide +kernel
theorem dL_declare_22 : decode cL_declare 22 = .ok (.iconst 1, 1) := by decide +kernel
theorem dL_declare_23 : decode cL_declare 23 = .ok (.invokevirtual 15, 3) := by decide +kernel
theorem dL_declare_26 : decode cL_declare 26 = .ok (.iconst 1, 1) := by decide +kernel
theorem dL_declare_27 : decode cL_declare 27 = .ok (.if_icmp .ne 12, 3) := by decide +kernel
theorem dL_declare_30 : decode cL_declare 30 = .ok (.aload_n 0, 1) := by decide +kernel
theorem dL_declare_31 : decode cL_declare 31 = .ok (.iload_n 2, 1) := by decide +kernel
theorem dL_declare_32 : decode cL_declare 32 = .ok (.iload_n 3, 1) := by decide +kernel
theorem dL_declare_33 : decode cL_declare 33 = .ok (.invokevirtual 19, 3) := by decide +kernel
theorem dL_declare_36 : decode cL_declare 36 = .ok (.goto 4, 3) := by decide +kernel
theorem dL_declare_39 : decode cL_declare 39 = .ok (.iconst (-1), 1) := by decide +kernel
theorem dL_declare_40 : decode cL_declare 40 = .ok (.ireturn, 1) := by decide +kernel
theorem dL_equate_0 : decode cL_equate 0 = .ok (.aload_n 0, 1) := by decide +kernel
theorem dL_equate_1 : decode cL_equate 1 = .ok (.iload_n 1, 1) := by decide +kernel
theorem dL_equate_2 : decode cL_equate 2 = .ok (.iload_n 2, 1) := by decide +kernel
theorem dL_equate_3 : decode cL_equate 3 = .ok (.invokevirtual 61, 3) := by decide +kernel
theorem dL_equate_6 : decode cL_equate 6 = .ok (.ireturn, 1) := by decide +kernel
theorem dL_equate_7 : decode cL_equate 7 = .ok (.astore_n 3, 1) := by decide +kernel
theorem dL_equate_8 : decode cL_equate 8 = .ok (.iconst (-1), 1) := by decide +kernel
theorem dL_equate_9 : decode cL_equate 9 = .ok (.ireturn, 1) := by decide +kernel
theorem dL_normal_0 : decode cL_normal 0 = .ok (.aload_n 0, 1) := by decide +kernel
theorem dL_normal_1 : decode cL_normal 1 = .ok (.iload_n 1, 1) := by decide +kernel
theorem dL_normal_2 : decode cL_normal 2 = .ok (.invokevirtual 68, 3) := by decide +kernel
theorem dL_normal_5 : decode cL_normal 5 = .ok (.ireturn, 1) := by decide +kernel
theorem dL_normal_6 : decode cL_normal 6 = .ok (.astore_n 2, 1) := by decide +kernel
theorem dL_normal_7 : decode cL_normal 7 = .ok (.iconst (-1), 1) := by decide +kernel
theorem dL_normal_8 : decode cL_normal 8 = .ok (.ireturn, 1) := by decide +kernel
theorem dL_pop_0 : decode cL_pop 0 = .ok (.aload_n 0, 1) := by decide +kernel
theorem dL_pop_1 : decode cL_pop 1 = .ok (.invokevirtual 75, 3) := by decide +kernel
theorem dL_pop_4 : decode cL_pop 4 = .ok (.ireturn, 1) := by decide +kernel
theorem dL_pop_5 : decode cL_pop 5 = .ok (.astore_n 1, 1) := by decide +kernel
theorem dL_pop_6 : decode cL_pop 6 = .ok (.iconst (-1), 1) := by decide +kernel
theorem dL_pop_7 : decode cL_pop 7 = .ok (.ireturn, 1) := by decide +kernel
theorem dL_setUp_0 : decode cL_setUp 0 = .ok (.aload_n 0, 1) := by decide +kernel
theorem dL_setUp_1 : decode cL_setUp 1 = .ok (.bipush 97, 2) := by decide +kernel
theorem dL_setUp_3 : decode cL_setUp 3 = .ok (.iconst 0, 1) := by decide +kernel
theorem dL_setUp_4 : decode cL_setUp 4 = .ok (.iconst 1, 1) := by decide +kernel
theorem dL_setUp_5 : decode cL_setUp 5 = .ok (.iload_n 1, 1) := by decide +kernel
theorem dL_setUp_6 : decode cL_setUp 6 = .ok (.bipush 20, 2) := by decide +kernel
theorem dL_setUp_8 : decode cL_setUp 8 = .ok (.ishr, 1) := by decide +kernel
theorem dL_setUp_9 : decode cL_setUp 9 = .ok (.iconst 3, 1) := by decide +kernel
theorem dL_setUp_10 : decode cL_setUp 10 = .ok (.invokestatic 23, 3) := by decide +kernel
theorem dL_setUp_13 : decode cL_setUp 13 = .ok (.iadd, 1) := by decide +kernel
theorem dL_setUp_14 : decode cL_setUp 14 = .ok (.invokestatic 28, 3) := by decide +kernel
theorem dL_setUp_17 : decode cL_setUp 17 = .ok (.ifCond .ne 31, 3) := by decide +kernel
theorem dL_setUp_20 : decode cL_setUp 20 = .ok (.aload_n 0, 1) := by decide +kernel
theorem dL_setUp_21 : decode cL_setUp 21 = .ok (.bipush 98, 2) := by decide +kernel
theorem dL_setUp_23 : decode cL_setUp 23 = .ok (.iconst 0, 1) := by decide +kernel
theorem dL_setUp_24 : decode cL_setUp 24 = .ok (.iconst 1, 1) := by decide +kernel
theorem dL_setUp_25 : decode cL_setUp 25 = .ok (.invokestatic 28, 3) := by decide +kernel
theorem dL_setUp_28 : decode cL_setUp 28 = .ok (.iconst 1, 1) := by decide +kernel
theorem dL_setUp_29 : decode cL_setUp 29 = .ok (.if_icmp .ne 19, 3) := by decide +kernel
theorem dL_setUp_32 : decode cL_setUp 32 = .ok (.aload_n 0, 1) := by decide +kernel
theorem dL_setUp_33 : decode cL_setUp 33 = .ok (.bipush 99, 2) := by decide +kernel
theorem dL_setUp_35 : decode cL_setUp 35 = .ok (.iconst 0, 1) := by decide +kernel
theorem dL_setUp_36 : decode cL_setUp 36 = .ok (.iconst 2, 1) := by decide +kernel
theorem dL_setUp_37 : decode cL_setUp 37 = .ok (.invokestatic 28, 3) := by decide +kernel
theorem dL_setUp_40 : decode cL_setUp 40 = .ok (.iconst 2, 1) := by decide +kernel
theorem dL_setUp_41 : decode cL_setUp 41 = .ok (.if_icmp .ne 7, 3) := by decide +kernel
theorem dL_setUp_44 : decode cL_setUp 44 = .ok (.iconst 1, 1) := by decide +kernel
theorem dL_setUp_45 : decode cL_setUp 45 = .ok (.goto 4, 3) := by decide +kernel
theorem dL_setUp_48 : decode cL_setUp 48 = .ok (.iconst 0, 1) := by decide +kernel
theorem dL_setUp_49 : decode cL_setUp 49 = .ok (.istore_n 2, 1) := by decide +kernel
theorem dL_setUp_50 : decode cL_setUp 50 = .ok (.iload_n 2, 1) := by decide +kernel
theorem dL_setUp_51 : decode cL_setUp 51 = .ok (.ifCond .eq 40, 3) := by decide +kernel
theorem dL_setUp_54 : decode cL_setUp 54 = .ok (.aload_n 0, 1) := by decide +kernel
theorem dL_setUp_55 : decode cL_setUp 55 = .ok (.bipush 102, 2) := by decide +kernel
theorem dL_setUp_57 : decode cL_setUp 57 = .ok (.iconst 1, 1) := by decide +kernel
theorem dL_setUp_58 : decode cL_setUp 58 = .ok (.iconst 1, 1) := by decide +kernel
theorem dL_setUp_59 : decode cL_setUp 59 = .ok (.iload_n 1, 1) := by decide +kernel
theorem dL_setUp_60 : decode cL_setUp 60 = .ok (.bipush 24, 2) := by decide +kernel
theorem dL_setUp_62 : decode cL_setUp 62 = .ok (.ishr, 1) := by decide +kernel
theorem dL_setUp_63 : decode cL_setUp 63 = .ok (.iconst 3, 1) := by decide +kernel
theorem dL_setUp_64 : decode cL_setUp 64 = .ok (.invokestatic 23, 3) := by decide +kernel
theorem dL_setUp_67 : decode cL_setUp 67 = .ok (.iadd, 1) := by decide +kernel
theorem dL_setUp_68 : decode cL_setUp 68 = .ok (.invokestatic 28, 3) := by decide +kernel
theorem dL_setUp_71 : decode cL_setUp 71 = .ok (.iconst 3, 1) := by decide +kernel
theorem dL_setUp_72 : decode cL_setUp 72 = .ok (.if_icmp .ne 19, 3) := by decide +kernel
theorem dL_setUp_75 : decode cL_setUp 75 = .ok (.aload_n 0, 1) := by decide +kernel
theorem dL_setUp_76 : decode cL_setUp 76 = .ok (.bipush 103, 2) := by decide +kernel
theorem dL_setUp_78 : decode cL_setUp 78 = .ok (.iconst 2, 1) := by decide +kernel
theorem dL_setUp_79 : decode cL_setUp 79 = .ok (.iconst 1, 1) := by decide +kernel
theorem dL_setUp_80 : decode cL_setUp 80 = .ok (.invokestatic 28, 3) := by decide +kernel
theorem dL_setUp_83 : decode cL_setUp 83 = .ok (.iconst 4, 1) := by decide +kernel
theorem dL_setUp_84 : decode cL_setUp 84 = .ok (.if_icmp .ne 7, 3) := by decide +kernel
theorem dL_setUp_87 : decode cL_setUp 87 = .ok (.iconst 1, 1) := by decide +kernel
theorem dL_setUp_88 : decode cL_setUp 88 = .ok (.goto 4, 3) := by decide +kernel
theorem dL_setUp_91 : decode cL_setUp 91 = .ok (.iconst 0, 1) := by decide +kernel
theorem dL_setUp_92 : decode cL_setUp 92 = .ok (.istore_n 2, 1) := by decide +kernel
theorem dL_setUp_93 : decode cL_setUp 93 = .ok (.iload_n 1, 1) := by decide +kernel
theorem dL_setUp_94 : decode cL_setUp 94 = .ok (.bipush 8, 2) := by decide +kernel
theorem dL_setUp_96 : decode cL_setUp 96 = .ok (.ishr, 1) := by decide +kernel
theorem dL_setUp_97 : decode cL_setUp 97 = .ok (.iconst 5, 1) := by decide +kernel
theorem dL_setUp_98 : decode cL_setUp 98 = .ok (.invokestatic 23, 3) := by decide +kernel
theorem dL_setUp_101 : decode cL_setUp 101 = .ok (.istore_n 3, 1) := by decide +kernel
theorem dL_setUp_102 : decode cL_setUp 102 = .ok (.iload_n 1, 1) := by decide +kernel
theorem dL_setUp_103 : decode cL_setUp 103 = .ok (.bipush 12, 2) := by decide +kernel
theorem dL_setUp_105 : decode cL_setUp 105 = .ok (.ishr, 1) := by decide +kernel
theorem dL_setUp_106 : decode cL_setUp 106 = .ok (.iconst 5, 1) := by decide +kernel
theorem dL_setUp_107 : decode cL_setUp 107 = .ok (.invokestatic 23, 3) := by decide +kernel
theorem dL_setUp_110 : decode cL_setUp 110 = .ok (.istore 4, 2) := by decide +kernel
theorem dL_setUp_112 : decode cL_setUp 112 = .ok (.iload_n 2, 1) := by decide +kernel
theorem dL_setUp_113 : decode cL_setUp 113 = .ok (.ifCond .eq 53, 3) := by decide +kernel
theorem dL_setUp_116 : decode cL_setUp 116 = .ok (.aload_n 0, 1) := by decide +kernel
theorem dL_setUp_117 : decode cL_setUp 117 = .ok (.iload_n 1, 1) := by decide +kernel
theorem dL_setUp_118 : decode cL_setUp 118 = .ok (.iconst 1, 1) := by decide +kernel
theorem dL_setUp_119 : decode cL_setUp 119 = .ok (.iand, 1) := by decide +kernel
theorem dL_setUp_120 : decode cL_setUp 120 = .ok (.iconst 1, 1) := by decide +kernel
theorem dL_setUp_121 : decode cL_setUp 121 = .ok (.if_icmp .ne 7, 3) := by decide +kernel
theorem dL_setUp_124 : decode cL_setUp 124 = .ok (.iconst 1, 1) := by decide +kernel
theorem dL_setUp_125 : decode cL_setUp 125 = .ok (.goto 4, 3) := by decide +kernel
theorem dL_setUp_128 : decode cL_setUp 128 = .ok (.iconst 0, 1) := by decide +kernel
theorem dL_setUp_129 : decode cL_setUp 129 = .ok (.invokevirtual 31, 3) := by decide +kernel
theorem dL_setUp_132 : decode cL_setUp 132 = .ok (.ifCond .ne 34, 3) := by decide +kernel
theorem dL_setUp_135 : decode cL_setUp 135 = .ok (.aload_n 0, 1) := by decide +kernel
theorem dL_setUp_136 : decode cL_setUp 136 = .ok (.iconst 4, 1) := by decide +kernel
theorem dL_setUp_137 : decode cL_setUp 137 = .ok (.iload_n 1, 1) := by decide +kernel
theorem dL_setUp_138 : decode cL_setUp 138 = .ok (.iconst 2, 1) := by decide +kernel
theorem dL_setUp_139 : decode cL_setUp 139 = .ok (.iand, 1) := by decide +kernel
theorem dL_setUp_140 : decode cL_setUp 140 = .ok (.iconst 2, 1) := by decide +kernel
theorem dL_setUp_141 : decode cL_setUp 141 = .ok (.if_icmp .ne 7, 3) := by decide +kernel
theorem dL_setUp_144 : decode cL_setUp 144 = .ok (.iconst 1, 1) := by decide +kernel
theorem dL_setUp_145 : decode cL_setUp 145 = .ok (.goto 4, 3) := by decide +kernel
theorem dL_setUp_148 : decode cL_setUp 148 = .ok (.iconst 0, 1) := by decide +kernel
theorem dL_setUp_149 : decode cL_setUp 149 = .ok (.invokevirtual 35, 3) := by decide +kernel
theorem dL_setUp_152 : decode cL_setUp 152 = .ok (.ifCond .ne 14, 3) := by decide +kernel
theorem dL_setUp_155 : decode cL_setUp 155 = .ok (.aload_n 0, 1) := by decide +kernel
theorem dL_setUp_156 : decode cL_setUp 156 = .ok (.iload_n 3, 1) := by decide +kernel
theorem dL_setUp_157 : decode cL_setUp 157 = .ok (.iload 4, 2) := by decide +kernel
theorem dL_setUp_159 : decode cL_setUp 159 = .ok (.invokevirtual 39, 3) := by decide +kernel
theorem dL_setUp_162 : decode cL_setUp 162 = .ok (.iload_n 3, 1) := by decide +kernel
theorem dL_setUp_163 : decode cL_setUp 163 = .ok (.if_icmp .eq 5, 3) := by decide +kernel
theorem dL_setUp_166 : decode cL_setUp 166 = .ok (.iconst 0, 1) := by decide +kernel
theorem dL_setUp_167 : decode cL_setUp 167 = .ok (.ireturn, 1) := by decide +kernel
theorem dL_setUp_168 : decode cL_setUp 168 = .ok (.aload_n 0, 1) := by decide +kernel
theorem dL_setUp_169 : decode cL_setUp 169 = .ok (.iload_n 3, 1) := by decide +kernel
theorem dL_setUp_170 : decode cL_setUp 170 = .ok (.invokevirtual 42, 3) := by decide +kernel
theorem dL_setUp_173 : decode cL_setUp 173 = .ok (.iload 4, 2) := by decide +kernel
theorem dL_setUp_175 : decode cL_setUp 175 = .ok (.if_icmp .ne 7, 3) := by decide +kernel
theorem dL_setUp_178 : decode cL_setUp 178 = .ok (.iconst 1, 1) := by decide +kernel
theorem dL_setUp_179 : decode cL_setUp 179 = .ok (.goto 4, 3) := by decide +kernel
theorem dL_setUp_182 : decode cL_setUp 182 = .ok (.iconst 0, 1) := by decide +kernel
theorem dL_setUp_183 : decode cL_setUp 183 = .ok (.ireturn, 1) := by decide +kernel
theorem dL_unite_0 : decode cL_unite 0 = .ok (.iconst 0, 1) := by decide +kernel
theorem dL_unite_1 : decode cL_unite 1 = .ok (.istore_n 3, 1) := by decide +kernel
theorem dL_unite_2 : decode cL_unite 2 = .ok (.iload_n 3, 1) := by decide +kernel
theorem dL_unite_3 : decode cL_unite 3 = .ok (.aload_n 0, 1) := by decide +kernel
theorem dL_unite_4 : decode cL_unite 4 = .ok (.arraylength, 1) := by decide +kernel
theorem dL_unite_5 : decode cL_unite 5 = .ok (.if_icmp .ge 20, 3) := by decide +kernel
theorem dL_unite_8 : decode cL_unite 8 = .ok (.aload_n 0, 1) := by decide +kernel
theorem dL_unite_9 : decode cL_unite 9 = .ok (.iload_n 3, 1) := by decide +kernel
theorem dL_unite_10 : decode cL_unite 10 = .ok (.iaload, 1) := by decide +kernel
theorem dL_unite_11 : decode cL_unite 11 = .ok (.iload_n 2, 1) := by decide +kernel
theorem dL_unite_12 : decode cL_unite 12 = .ok (.if_icmp .ne 7, 3) := by decide +kernel
theorem dL_unite_15 : decode cL_unite 15 = .ok (.aload_n 0, 1) := by decide +kernel
theorem dL_unite_16 : decode cL_unite 16 = .ok (.iload_n 3, 1) := by decide +kernel
theorem dL_unite_17 : decode cL_unite 17 = .ok (.iload_n 1, 1) := by decide +kernel
theorem dL_unite_18 : decode cL_unite 18 = .ok (.iastore, 1) := by decide +kernel
theorem dL_unite_19 : decode cL_unite 19 = .ok (.iinc 3 1, 3) := by decide +kernel
theorem dL_unite_22 : decode cL_unite 22 = .ok (.goto (-20), 3) := by decide +kernel
theorem dL_unite_25 : decode cL_unite 25 = .ok (.return_, 1) := by decide +kernel
theorem dX10_add_0 : decode cX10_add 0 = .ok (.iconst (-1), 1) := by decide +kernel
theorem dX10_add_1 : decode cX10_add 1 = .ok (.istore_n 2, 1) := by decide +kernel
theorem dX10_add_2 : decode cX10_add 2 = .ok (.iload_n 1, 1) := by decide +kernel
theorem dX10_add_3 : decode cX10_add 3 = .ok (.ifCond .lt 21, 3) := by decide +kernel
theorem dX10_add_6 : decode cX10_add 6 = .ok (.aload_n 0, 1) := by decide +kernel
theorem dX10_add_7 : decode cX10_add 7 = .ok (.iload_n 1, 1) := by decide +kernel
theorem dX10_add_8 : decode cX10_add 8 = .ok (.invokevirtual 57, 3) := by decide +kernel
theorem dX10_add_11 : decode cX10_add 11 = .ok (.iconst (-1), 1) := by decide +kernel
theorem dX10_add_12 : decode cX10_add 12 = .ok (.if_icmp .ne 12, 3) := by decide +kernel
theorem dX10_add_15 : decode cX10_add 15 = .ok (.iconst 0, 1) := by decide +kernel
theorem dX10_add_16 : decode cX10_add 16 = .ok (.istore_n 2, 1) := by decide +kernel
theorem dX10_add_17 : decode cX10_add 17 = .ok (.aload_n 0, 1) := by decide +kernel
theorem dX10_add_18 : decode cX10_add 18 = .ok (.getfield 31, 3) := by decide +kernel
theorem dX10_add_21 : decode cX10_add 21 = .ok (.iconst 0, 1) := by decide +kernel
theorem dX10_add_22 : decode cX10_add 22 = .ok (.iload_n 1, 1) := by decide +kernel
theorem dX10_add_23 : decode cX10_add 23 = .ok (.iastore, 1) := by decide +kernel
theorem dX10_add_24 : decode cX10_add 24 = .ok (.iconst 0, 1) := by decide +kernel
theorem dX10_add_25 : decode cX10_add 25 = .ok (.istore_n 3, 1) := by decide +kernel
theorem dX10_add_26 : decode cX10_add 26 = .ok (.iload_n 3, 1) := by decide +kernel
theorem dX10_add_27 : decode cX10_add 27 = .ok (.ldc 60, 2) := by decide +kernel
theorem dX10_add_29 : decode cX10_add 29 = .ok (.if_icmp .ge 67, 3) := by decide +kernel
theorem dX10_add_32 : decode cX10_add 32 = .ok (.iload_n 2, 1) := by decide +kernel
theorem dX10_add_33 : decode cX10_add 33 = .ok (.ifCond .lt 63, 3) := by decide +kernel
theorem dX10_add_36 : decode cX10_add 36 = .ok (.iload_n 2, 1) := by decide +kernel
theorem dX10_add_37 : decode cX10_add 37 = .ok (.iconst 1, 1) := by decide +kernel
theorem dX10_add_38 : decode cX10_add 38 = .ok (.iadd, 1) := by decide +kernel
theorem dX10_add_39 : decode cX10_add 39 = .ok (.sipush 256, 3) := by decide +kernel
theorem dX10_add_42 : decode cX10_add 42 = .ok (.if_icmp .ge 54, 3) := by decide +kernel
theorem dX10_add_45 : decode cX10_add 45 = .ok (.aload_n 0, 1) := by decide +kernel
theorem dX10_add_46 : decode cX10_add 46 = .ok (.aload_n 0, 1) := by decide +kernel
theorem dX10_add_47 : decode cX10_add 47 = .ok (.getfield 31, 3) := by decide +kernel
theorem dX10_add_50 : decode cX10_add 50 = .ok (.iload_n 2, 1) := by decide +kernel
theorem dX10_add_51 : decode cX10_add 51 = .ok (.iaload, 1) := by decide +kernel
theorem dX10_add_52 : decode cX10_add 52 = .ok (.invokevirtual 61, 3) := by decide +kernel
theorem dX10_add_55 : decode cX10_add 55 = .ok (.istore 4, 2) := by decide +kernel
theorem dX10_add_57 : decode cX10_add 57 = .ok (.iload 4, 2) := by decide +kernel
theorem dX10_add_59 : decode cX10_add 59 = .ok (.iconst (-1), 1) := by decide +kernel
theorem dX10_add_60 : decode cX10_add 60 = .ok (.if_icmp .ne 19, 3) := by decide +kernel
theorem dX10_add_63 : decode cX10_add 63 = .ok (.aload_n 0, 1) := by decide +kernel
theorem dX10_add_64 : decode cX10_add 64 = .ok (.aload_n 0, 1) := by decide +kernel
theorem dX10_add_65 : decode cX10_add 65 = .ok (.getfield 31, 3) := by decide +kernel
theorem dX10_add_68 : decode cX10_add 68 = .ok (.iload_n 2, 1) := by decide +kernel
theorem dX10_add_69 : decode cX10_add 69 = .ok (.iaload, 1) := by decide +kernel
theorem dX10_add_70 : decode cX10_add 70 = .ok (.invokevirtual 64, 3) := by decide +kernel
theorem dX10_add_73 : decode cX10_add 73 = .ok (.iinc 2 (-1), 3) := by decide +kernel
theorem dX10_add_76 : decode cX10_add 76 = .ok (.goto 14, 3) := by decide +kernel
theorem dX10_add_79 : decode cX10_add 79 = .ok (.iinc 2 1, 3) := by decide +kernel
theorem dX10_add_82 : decode cX10_add 82 = .ok (.aload_n 0, 1) := by decide +kernel
theorem dX10_add_83 : decode cX10_add 83 = .ok (.getfield 31, 3) := by decide +kernel
theorem dX10_add_86 : decode cX10_add 86 = .ok (.iload_n 2, 1) := by decide +kernel
theorem dX10_add_87 : decode cX10_add 87 = .ok (.iload 4, 2) := by decide +kernel
theorem dX10_add_89 : decode cX10_add 89 = .ok (.iastore, 1) := by decide +kernel
theorem dX10_add_90 : decode cX10_add 90 = .ok (.iinc 3 1, 3) := by decide +kernel
theorem dX10_add_93 : decode cX10_add 93 = .ok (.goto (-67), 3) := by decide +kernel
theorem dX10_add_96 : decode cX10_add 96 = .ok (.return_, 1) := by decide +kernel
theorem dX10_append_0 : decode cX10_append 0 = .ok (.iload_n 1, 1) := by decide +kernel
theorem dX10_append_1 : decode cX10_append 1 = .ok (.ifCond .lt 46, 3) := by decide +kernel
theorem dX10_append_4 : decode cX10_append 4 = .ok (.aload_n 0, 1) := by decide +kernel
theorem dX10_append_5 : decode cX10_append 5 = .ok (.iload_n 1, 1) := by decide +kernel
theorem dX10_append_6 : decode cX10_append 6 = .ok (.invokevirtual 57, 3) := by decide +kernel
theorem dX10_append_9 : decode cX10_append 9 = .ok (.iconst (-1), 1) := by decide +kernel
theorem dX10_append_10 : decode cX10_append 10 = .ok (.if_icmp .ne 37, 3) := by decide +kernel
theorem dX10_append_13 : decode cX10_append 13 = .ok (.aload_n 0, 1) := by decide +kernel
theorem dX10_append_14 : decode cX10_append 14 = .ok (.getfield 15, 3) := by decide +kernel
theorem dX10_append_17 : decode cX10_append 17 = .ok (.iload_n 1, 1) := by decide +kernel
theorem dX10_append_18 : decode cX10_append 18 = .ok (.aload_n 0, 1) := by decide +kernel
theorem dX10_append_19 : decode cX10_append 19 = .ok (.getfield 39, 3) := by decide +kernel
theorem dX10_append_22 : decode cX10_append 22 = .ok (.invokevirtual 47, 3) := by decide +kernel
theorem dX10_append_25 : decode cX10_append 25 = .ok (.aload_n 0, 1) := by decide +kernel
theorem dX10_append_26 : decode cX10_append 26 = .ok (.getfield 22, 3) := by decide +kernel
theorem dX10_append_29 : decode cX10_append 29 = .ok (.aload_n 0, 1) := by decide +kernel
theorem dX10_append_30 : decode cX10_append 30 = .ok (.getfield 39, 3) := by decide +kernel
theorem dX10_append_33 : decode cX10_append 33 = .ok (.iload_n 1, 1) := by decide +kernel
theorem dX10_append_34 : decode cX10_append 34 = .ok (.invokevirtual 47, 3) := by decide +kernel
theorem dX10_append_37 : decode cX10_append 37 = .ok (.aload_n 0, 1) := by decide +kernel
theorem dX10_append_38 : decode cX10_append 38 = .ok (.dup, 1) := by decide +kernel
theorem dX10_append_39 : decode cX10_append 39 = .ok (.getfield 39, 3) := by decide +kernel
theorem dX10_append_42 : decode cX10_append 42 = .ok (.iconst 1, 1) := by decide +kernel
theorem dX10_append_43 : decode cX10_append 43 = .ok (.iadd, 1) := by decide +kernel
theorem dX10_append_44 : decode cX10_append 44 = .ok (.putfield 39, 3) := by decide +kernel
theorem dX10_append_47 : decode cX10_append 47 = .ok (.return_, 1) := by decide +kernel
theorem dX10_clear_0 : decode cX10_clear 0 = .ok (.aload_n 0, 1) := by decide +kernel
theorem dX10_clear_1 : decode cX10_clear 1 = .ok (.iconst 0, 1) := by decide +kernel
theorem dX10_clear_2 : decode cX10_clear 2 = .ok (.putfield 39, 3) := by decide +kernel
theorem dX10_clear_5 : decode cX10_clear 5 = .ok (.return_, 1) := by decide +kernel
theorem dX10_count_0 : decode cX10_count 0 = .ok (.aload_n 0, 1) := by decide +kernel
theorem dX10_count_1 : decode cX10_count 1 = .ok (.getfield 39, 3) := by decide +kernel
theorem dX10_count_4 : decode cX10_count 4 = .ok (.ireturn, 1) := by decide +kernel
theorem dX10_firstUnlisted_0 : decode cX10_firstUnlisted 0 = .ok (.iconst 0, 1) := by decide +kernel
theorem dX10_firstUnlisted_1 : decode cX10_firstUnlisted 1 = .ok (.istore_n 2, 1) := by decide +kernel
theorem dX10_firstUnlisted_2 : decode cX10_firstUnlisted 2 = .ok (.iload_n 2, 1) := by decide +kernel
theorem dX10_firstUnlisted_3 : decode cX10_firstUnlisted 3 = .ok (.aload_n 0, 1) := by decide +kernel
theorem dX10_firstUnlisted_4 : decode cX10_firstUnlisted 4 = .ok (.getfield 35, 3) := by decide +kernel
theorem dX10_firstUnlisted_7 : decode cX10_firstUnlisted 7 = .ok (.iload_n 1, 1) := by decide +kernel
theorem dX10_firstUnlisted_8 : decode cX10_firstUnlisted 8 = .ok (.invokevirtual 67, 3) := by decide +kernel
theorem dX10_firstUnlisted_11 : decode cX10_firstUnlisted 11 = .ok (.if_icmp .ge 30, 3) := by decide +kernel
theorem dX10_firstUnlisted_14 : decode cX10_firstUnlisted 14 = .ok (.aload_n 0, 1) := by decide +kernel
theorem dX10_firstUnlisted_15 : decode cX10_firstUnlisted 15 = .ok (.getfield 35, 3) := by decide +kernel
theorem dX10_firstUnlisted_18 : decode cX10_firstUnlisted 18 = .ok (.iload_n 1, 1) := by decide +kernel
theorem dX10_firstUnlisted_19 : decode cX10_firstUnlisted 19 = .ok (.iload_n 2, 1) := by decide +kernel
theorem dX10_firstUnlisted_20 : decode cX10_firstUnlisted 20 = .ok (.invokevirtual 51, 3) := by decide +kernel
theorem dX10_firstUnlisted_23 : decode cX10_firstUnlisted 23 = .ok (.istore_n 3, 1) := by decide +kernel
theorem dX10_firstUnlisted_24 : decode cX10_firstUnlisted 24 = .ok (.aload_n 0, 1) := by decide +kernel
theorem dX10_firstUnlisted_25 : decode cX10_firstUnlisted 25 = .ok (.iload_n 3, 1) := by decide +kernel
theorem dX10_firstUnlisted_26 : decode cX10_firstUnlisted 26 = .ok (.invokevirtual 57, 3) := by decide +kernel
theorem dX10_firstUnlisted_29 : decode cX10_firstUnlisted 29 = .ok (.iconst (-1), 1) := by decide +kernel
theorem dX10_firstUnlisted_30 : decode cX10_firstUnlisted 30 = .ok (.if_icmp .ne 5, 3) := by decide +kernel
theorem dX10_firstUnlisted_33 : decode cX10_firstUnlisted 33 = .ok (.iload_n 3, 1) := by decide +kernel
theorem dX10_firstUnlisted_34 : decode cX10_firstUnlisted 34 = .ok (.ireturn, 1) := by decide +kernel
theorem dX10_firstUnlisted_35 : decode cX10_firstUnlisted 35 = .ok (.iinc 2 1, 3) := by decide +kernel
theorem dX10_firstUnlisted_38 : decode cX10_firstUnlisted 38 = .ok (.goto (-36), 3) := by decide +kernel
theorem dX10_firstUnlisted_41 : decode cX10_firstUnlisted 41 = .ok (.iconst (-1), 1) := by decide +kernel
theorem dX10_firstUnlisted_42 : decode cX10_firstUnlisted 42 = .ok (.ireturn, 1) := by decide +kernel
theorem dX10_indexOf_0 : decode cX10_indexOf 0 = .ok (.iload_n 1, 1) := by decide +kernel
theorem dX10_indexOf_1 : decode cX10_indexOf 1 = .ok (.ifCond .ge 7, 3) := by decide +kernel
theorem dX10_indexOf_4 : decode cX10_indexOf 4 = .ok (.iconst (-1), 1) := by decide +kernel
theorem dX10_indexOf_5 : decode cX10_indexOf 5 = .ok (.goto 11, 3) := by decide +kernel
theorem dX10_indexOf_8 : decode cX10_indexOf 8 = .ok (.aload_n 0, 1) := by decide +kernel
theorem dX10_indexOf_9 : decode cX10_indexOf 9 = .ok (.getfield 15, 3) := by decide +kernel
theorem dX10_indexOf_12 : decode cX10_indexOf 12 = .ok (.iload_n 1, 1) := by decide +kernel
theorem dX10_indexOf_13 : decode cX10_indexOf 13 = .ok (.invokevirtual 43, 3) := by decide +kernel
theorem dX10_indexOf_16 : decode cX10_indexOf 16 = .ok (.istore_n 2, 1) := by decide +kernel
theorem dX10_indexOf_17 : decode cX10_indexOf 17 = .ok (.iload_n 2, 1) := by decide +kernel
theorem dX10_indexOf_18 : decode cX10_indexOf 18 = .ok (.ifCond .lt 27, 3) := by decide +kernel
theorem dX10_indexOf_21 : decode cX10_indexOf 21 = .ok (.iload_n 2, 1) := by decide +kernel
theorem dX10_indexOf_22 : decode cX10_indexOf 22 = .ok (.aload_n 0, 1) := by decide +kernel
theorem dX10_indexOf_23 : decode cX10_indexOf 23 = .ok (.getfield 39, 3) := by decide +kernel
theorem dX10_indexOf_26 : decode cX10_indexOf 26 = .ok (.if_icmp .ge 19, 3) := by decide +kernel
theorem dX10_indexOf_29 : decode cX10_indexOf 29 = .ok (.aload_n 0, 1) := by decide +kernel
theorem dX10_indexOf_30 : decode cX10_indexOf 30 = .ok (.getfield 22, 3) := by decide +kernel
theorem dX10_indexOf_33 : decode cX10_indexOf 33 = .ok (.iload_n 2, 1) := by decide +kernel
theorem dX10_indexOf_34 : decode cX10_indexOf 34 = .ok (.invokevirtual 43, 3) := by decide +kernel
theorem dX10_indexOf_37 : decode cX10_indexOf 37 = .ok (.iload_n 1, 1) := by decide +kernel
theorem dX10_indexOf_38 : decode cX10_indexOf 38 = .ok (.if_icmp .ne 7, 3) := by decide +kernel
theorem dX10_indexOf_41 : decode cX10_indexOf 41 = .ok (.iload_n 2, 1) := by decide +kernel
theorem dX10_indexOf_42 : decode cX10_indexOf 42 = .ok (.goto 4, 3) := by decide +kernel
theorem dX10_indexOf_45 : decode cX10_indexOf 45 = .ok (.iconst (-1), 1) := by decide +kernel
theorem dX10_indexOf_46 : decode cX10_indexOf 46 = .ok (.ireturn, 1) := by decide +kernel
theorem dX10_node_0 : decode cX10_node 0 = .ok (.aload_n 0, 1) := by decide +kernel
theorem dX10_node_1 : decode cX10_node 1 = .ok (.getfield 22, 3) := by decide +kernel
theorem dX10_node_4 : decode cX10_node 4 = .ok (.iload_n 1, 1) := by decide +kernel
theorem dX10_node_5 : decode cX10_node 5 = .ok (.invokevirtual 43, 3) := by decide +kernel
theorem dX10_node_8 : decode cX10_node 8 = .ok (.ireturn, 1) := by decide +kernel
theorem dX10_partOf_0 : decode cX10_partOf 0 = .ok (.aload_n 0, 1) := by decide +kernel
theorem dX10_partOf_1 : decode cX10_partOf 1 = .ok (.aload_n 0, 1) := by decide +kernel
theorem dX10_partOf_2 : decode cX10_partOf 2 = .ok (.getfield 35, 3) := by decide +kernel
theorem dX10_partOf_5 : decode cX10_partOf 5 = .ok (.aload_n 0, 1) := by decide +kernel
theorem dX10_partOf_6 : decode cX10_partOf 6 = .ok (.getfield 22, 3) := by decide +kernel
theorem dX10_partOf_9 : decode cX10_partOf 9 = .ok (.iload_n 1, 1) := by decide +kernel
theorem dX10_partOf_10 : decode cX10_partOf 10 = .ok (.invokevirtual 43, 3) := by decide +kernel
theorem dX10_partOf_13 : decode cX10_partOf 13 = .ok (.iload_n 2, 1) := by decide +kernel
theorem dX10_partOf_14 : decode cX10_partOf 14 = .ok (.invokevirtual 51, 3) := by decide +kernel
theorem dX10_partOf_17 : decode cX10_partOf 17 = .ok (.invokevirtual 57, 3) := by decide +kernel
theorem dX10_partOf_20 : decode cX10_partOf 20 = .ok (.ireturn, 1) := by decide +kernel
theorem dX10_rebuild_0 : decode cX10_rebuild 0 = .ok (.aload_n 0, 1) := by decide +kernel
theorem dX10_rebuild_1 : decode cX10_rebuild 1 = .ok (.getfield 22, 3) := by decide +kernel
theorem dX10_rebuild_4 : decode cX10_rebuild 4 = .ok (.iload_n 1, 1) := by decide +kernel
theorem dX10_rebuild_5 : decode cX10_rebuild 5 = .ok (.invokevirtual 43, 3) := by decide +kernel
theorem dX10_rebuild_8 : decode cX10_rebuild 8 = .ok (.istore_n 2, 1) := by decide +kernel
theorem dX10_rebuild_9 : decode cX10_rebuild 9 = .ok (.aload_n 0, 1) := by decide +kernel
theorem dX10_rebuild_10 : decode cX10_rebuild 10 = .ok (.getfield 35, 3) := by decide +kernel
theorem dX10_rebuild_13 : decode cX10_rebuild 13 = .ok (.iload_n 2, 1) := by decide +kernel
theorem dX10_rebuild_14 : decode cX10_rebuild 14 = .ok (.invokevirtual 67, 3) := by decide +kernel
theorem dX10_rebuild_17 : decode cX10_rebuild 17 = .ok (.istore_n 3, 1) := by decide +kernel
theorem dX10_rebuild_18 : decode cX10_rebuild 18 = .ok (.iload_n 3, 1) := by decide +kernel
theorem dX10_rebuild_19 : decode cX10_rebuild 19 = .ok (.ifCond .le 19, 3) := by decide +kernel
theorem dX10_rebuild_22 : decode cX10_rebuild 22 = .ok (.aload_n 0, 1) := by decide +kernel
theorem dX10_rebuild_23 : decode cX10_rebuild 23 = .ok (.getfield 25, 3) := by decide +kernel
theorem dX10_rebuild_26 : decode cX10_rebuild 26 = .ok (.aload_n 0, 1) := by decide +kernel
theorem dX10_rebuild_27 : decode cX10_rebuild 27 = .ok (.iload_n 1, 1) := by decide +kernel
theorem dX10_rebuild_28 : decode cX10_rebuild 28 = .ok (.iconst 0, 1) := by decide +kernel
theorem dX10_rebuild_29 : decode cX10_rebuild 29 = .ok (.invokevirtual 79, 3) := by decide +kernel
theorem dX10_rebuild_32 : decode cX10_rebuild 32 = .ok (.invokevirtual 43, 3) := by decide +kernel
theorem dX10_rebuild_35 : decode cX10_rebuild 35 = .ok (.goto 4, 3) := by decide +kernel
theorem dX10_rebuild_38 : decode cX10_rebuild 38 = .ok (.iconst (-1), 1) := by decide +kernel
theorem dX10_rebuild_39 : decode cX10_rebuild 39 = .ok (.istore 4, 2) := by decide +kernel
theorem dX10_rebuild_41 : decode cX10_rebuild 41 = .ok (.iload_n 3, 1) := by decide +kernel
theorem dX10_rebuild_42 : decode cX10_rebuild 42 = .ok (.iconst 1, 1) := by decide +kernel
theorem dX10_rebuild_43 : decode cX10_rebuild 43 = .ok (.if_icmp .le 19, 3) := by decide +kernel
theorem dX10_rebuild_46 : decode cX10_rebuild 46 = .ok (.aload_n 0, 1) := by decide +kernel
theorem dX10_rebuild_47 : decode cX10_rebuild 47 = .ok (.getfield 25, 3) := by decide +kernel
theorem dX10_rebuild_50 : decode cX10_rebuild 50 = .ok (.aload_n 0, 1) := by decide +kernel
theorem dX10_rebuild_51 : decode cX10_rebuild 51 = .ok (.iload_n 1, 1) := by decide +kernel
theorem dX10_rebuild_52 : decode cX10_rebuild 52 = .ok (.iconst 1, 1) := by decide +kernel
theorem dX10_rebuild_53 : decode cX10_rebuild 53 = .ok (.invokevirtual 79, 3) := by decide +kernel
theorem dX10_rebuild_56 : decode cX10_rebuild 56 = .ok (.invokevirtual 43, 3) := by decide +kernel
theorem dX10_rebuild_59 : decode cX10_rebuild 59 = .ok (.goto 4, 3) := by decide +kernel
theorem dX10_rebuild_62 : decode cX10_rebuild 62 = .ok (.iconst (-1), 1) := by decide +kernel
theorem dX10_rebuild_63 : decode cX10_rebuild 63 = .ok (.istore 5, 2) := by decide +kernel
theorem dX10_rebuild_65 : decode cX10_rebuild 65 = .ok (.iload_n 3, 1) := by decide +kernel
theorem dX10_rebuild_66 : decode cX10_rebuild 66 = .ok (.iconst 2, 1) := by decide +kernel
theorem dX10_rebuild_67 : decode cX10_rebuild 67 = .ok (.if_icmp .le 19, 3) := by decide +kernel
theorem dX10_rebuild_70 : decode cX10_rebuild 70 = .ok (.aload_n 0, 1) := by decide +kernel
theorem dX10_rebuild_71 : decode cX10_rebuild 71 = .ok (.getfield 25, 3) := by decide +kernel
theorem dX10_rebuild_74 : decode cX10_rebuild 74 = .ok (.aload_n 0, 1) := by decide +kernel
theorem dX10_rebuild_75 : decode cX10_rebuild 75 = .ok (.iload_n 1, 1) := by decide +kernel
theorem dX10_rebuild_76 : decode cX10_rebuild 76 = .ok (.iconst 2, 1) := by decide +kernel
theorem dX10_rebuild_77 : decode cX10_rebuild 77 = .ok (.invokevirtual 79, 3) := by decide +kernel
theorem dX10_rebuild_80 : decode cX10_rebuild 80 = .ok (.invokevirtual 43, 3) := by decide +kernel
theorem dX10_rebuild_83 : decode cX10_rebuild 83 = .ok (.goto 4, 3) := by decide +kernel
theorem dX10_rebuild_86 : decode cX10_rebuild 86 = .ok (.iconst (-1), 1) := by decide +kernel
theorem dX10_rebuild_87 : decode cX10_rebuild 87 = .ok (.istore 6, 2) := by decide +kernel
theorem dX10_rebuild_89 : decode cX10_rebuild 89 = .ok (.aload_n 0, 1) := by decide +kernel
theorem dX10_rebuild_90 : decode cX10_rebuild 90 = .ok (.getfield 35, 3) := by decide +kernel
theorem dX10_rebuild_93 : decode cX10_rebuild 93 = .ok (.aload_n 0, 1) := by decide +kernel
theorem dX10_rebuild_94 : decode cX10_rebuild 94 = .ok (.getfield 35, 3) := by decide +kernel
theorem dX10_rebuild_97 : decode cX10_rebuild 97 = .ok (.iload_n 2, 1) := by decide +kernel
theorem dX10_rebuild_98 : decode cX10_rebuild 98 = .ok (.invokevirtual 85, 3) := by decide +kernel
theorem dX10_rebuild_101 : decode cX10_rebuild 101 = .ok (.iload 4, 2) := by decide +kernel
theorem dX10_rebuild_103 : decode cX10_rebuild 103 = .ok (.iload 5, 2) := by decide +kernel
theorem dX10_rebuild_105 : decode cX10_rebuild 105 = .ok (.iload 6, 2) := by decide +kernel
theorem dX10_rebuild_107 : decode cX10_rebuild 107 = .ok (.invokevirtual 88, 3) := by decide +kernel
theorem dX10_rebuild_110 : decode cX10_rebuild 110 = .ok (.ireturn, 1) := by decide +kernel
theorem dX10_setTally_0 : decode cX10_setTally 0 = .ok (.aload_n 0, 1) := by decide +kernel
theorem dX10_setTally_1 : decode cX10_setTally 1 = .ok (.getfield 28, 3) := by decide +kernel
theorem dX10_setTally_4 : decode cX10_setTally 4 = .ok (.iload_n 1, 1) := by decide +kernel
theorem dX10_setTally_5 : decode cX10_setTally 5 = .ok (.iload_n 2, 1) := by decide +kernel
theorem dX10_setTally_6 : decode cX10_setTally 6 = .ok (.invokevirtual 47, 3) := by decide +kernel
theorem dX10_setTally_9 : decode cX10_setTally 9 = .ok (.return_, 1) := by decide +kernel
theorem dX10_setValue_0 : decode cX10_setValue 0 = .ok (.aload_n 0, 1) := by decide +kernel
theorem dX10_setValue_1 : decode cX10_setValue 1 = .ok (.getfield 25, 3) := by decide +kernel
theorem dX10_setValue_4 : decode cX10_setValue 4 = .ok (.iload_n 1, 1) := by decide +kernel
theorem dX10_setValue_5 : decode cX10_setValue 5 = .ok (.iload_n 2, 1) := by decide +kernel
theorem dX10_setValue_6 : decode cX10_setValue 6 = .ok (.invokevirtual 47, 3) := by decide +kernel
theorem dX10_setValue_9 : decode cX10_setValue 9 = .ok (.return_, 1) := by decide +kernel
theorem dX10_sumOfParts_0 : decode cX10_sumOfParts 0 = .ok (.iconst 0, 1) := by decide +kernel
theorem dX10_sumOfParts_1 : decode cX10_sumOfParts 1 = .ok (.istore_n 2, 1) := by decide +kernel
theorem dX10_sumOfParts_2 : decode cX10_sumOfParts 2 = .ok (.iconst 0, 1) := by decide +kernel
theorem dX10_sumOfParts_3 : decode cX10_sumOfParts 3 = .ok (.istore_n 3, 1) := by decide +kernel
theorem dX10_sumOfParts_4 : decode cX10_sumOfParts 4 = .ok (.iload_n 3, 1) := by decide +kernel
theorem dX10_sumOfParts_5 : decode cX10_sumOfParts 5 = .ok (.aload_n 0, 1) := by decide +kernel
theorem dX10_sumOfParts_6 : decode cX10_sumOfParts 6 = .ok (.getfield 35, 3) := by decide +kernel
theorem dX10_sumOfParts_9 : decode cX10_sumOfParts 9 = .ok (.aload_n 0, 1) := by decide +kernel
theorem dX10_sumOfParts_10 : decode cX10_sumOfParts 10 = .ok (.getfield 22, 3) := by decide +kernel
theorem dX10_sumOfParts_13 : decode cX10_sumOfParts 13 = .ok (.iload_n 1, 1) := by decide +kernel
theorem dX10_sumOfParts_14 : decode cX10_sumOfParts 14 = .ok (.invokevirtual 43, 3) := by decide +kernel
theorem dX10_sumOfParts_17 : decode cX10_sumOfParts 17 = .ok (.invokevirtual 67, 3) := by decide +kernel
theorem dX10_sumOfParts_20 : decode cX10_sumOfParts 20 = .ok (.if_icmp .ge 25, 3) := by decide +kernel
theorem dX10_sumOfParts_23 : decode cX10_sumOfParts 23 = .ok (.iload_n 2, 1) := by decide +kernel
theorem dX10_sumOfParts_24 : decode cX10_sumOfParts 24 = .ok (.aload_n 0, 1) := by decide +kernel
theorem dX10_sumOfParts_25 : decode cX10_sumOfParts 25 = .ok (.getfield 28, 3) := by decide +kernel
theorem dX10_sumOfParts_28 : decode cX10_sumOfParts 28 = .ok (.aload_n 0, 1) := by decide +kernel
theorem dX10_sumOfParts_29 : decode cX10_sumOfParts 29 = .ok (.iload_n 1, 1) := by decide +kernel
theorem dX10_sumOfParts_30 : decode cX10_sumOfParts 30 = .ok (.iload_n 3, 1) := by decide +kernel
theorem dX10_sumOfParts_31 : decode cX10_sumOfParts 31 = .ok (.invokevirtual 79, 3) := by decide +kernel
theorem dX10_sumOfParts_34 : decode cX10_sumOfParts 34 = .ok (.invokevirtual 43, 3) := by decide +kernel
theorem dX10_sumOfParts_37 : decode cX10_sumOfParts 37 = .ok (.iadd, 1) := by decide +kernel
theorem dX10_sumOfParts_38 : decode cX10_sumOfParts 38 = .ok (.istore_n 2, 1) := by decide +kernel
theorem dX10_sumOfParts_39 : decode cX10_sumOfParts 39 = .ok (.iinc 3 1, 3) := by decide +kernel
theorem dX10_sumOfParts_42 : decode cX10_sumOfParts 42 = .ok (.goto (-38), 3) := by decide +kernel
theorem dX10_sumOfParts_45 : decode cX10_sumOfParts 45 = .ok (.iload_n 2, 1) := by decide +kernel
theorem dX10_sumOfParts_46 : decode cX10_sumOfParts 46 = .ok (.ireturn, 1) := by decide +kernel
theorem dX10_tally_0 : decode cX10_tally 0 = .ok (.aload_n 0, 1) := by decide +kernel
theorem dX10_tally_1 : decode cX10_tally 1 = .ok (.getfield 28, 3) := by decide +kernel
theorem dX10_tally_4 : decode cX10_tally 4 = .ok (.iload_n 1, 1) := by decide +kernel
theorem dX10_tally_5 : decode cX10_tally 5 = .ok (.invokevirtual 43, 3) := by decide +kernel
theorem dX10_tally_8 : decode cX10_tally 8 = .ok (.ireturn, 1) := by decide +kernel
theorem dX10_value_0 : decode cX10_value 0 = .ok (.aload_n 0, 1) := by decide +kernel
theorem dX10_value_1 : decode cX10_value 1 = .ok (.getfield 25, 3) := by decide +kernel
theorem dX10_value_4 : decode cX10_value 4 = .ok (.iload_n 1, 1) := by decide +kernel
theorem dX10_value_5 : decode cX10_value 5 = .ok (.invokevirtual 43, 3) := by decide +kernel
theorem dX10_value_8 : decode cX10_value 8 = .ok (.ireturn, 1) := by decide +kernel
theorem dX11_areEqual_0 : decode cX11_areEqual 0 = .ok (.aload_n 0, 1) := by decide +kernel
theorem dX11_areEqual_1 : decode cX11_areEqual 1 = .ok (.iload_n 1, 1) := by decide +kernel
theorem dX11_areEqual_2 : decode cX11_areEqual 2 = .ok (.invokevirtual 194, 3) := by decide +kernel
theorem dX11_areEqual_5 : decode cX11_areEqual 5 = .ok (.ifCond .eq 11, 3) := by decide +kernel
theorem dX11_areEqual_8 : decode cX11_areEqual 8 = .ok (.aload_n 0, 1) := by decide +kernel
theorem dX11_areEqual_9 : decode cX11_areEqual 9 = .ok (.iload_n 2, 1) := by decide +kernel
theorem dX11_areEqual_10 : decode cX11_areEqual 10 = .ok (.invokevirtual 194, 3) := by decide +kernel
theorem dX11_areEqual_13 : decode cX11_areEqual 13 = .ok (.ifCond .ne 13, 3) := by decide +kernel
theorem dX11_areEqual_26 : decode cX11_areEqual 26 = .ok (.aload_n 0, 1) := by decide +kernel
theorem dX11_areEqual_27 : decode cX11_areEqual 27 = .ok (.invokevirtual 199, 3) := by decide +kernel
theorem dX11_areEqual_30 : decode cX11_areEqual 30 = .ok (.aload_n 0, 1) := by decide +kernel
theorem dX11_areEqual_31 : decode cX11_areEqual 31 = .ok (.getfield 46, 3) := by decide +kernel
theorem dX11_areEqual_34 : decode cX11_areEqual 34 = .ok (.aload_n 0, 1) := by decide +kernel
theorem dX11_areEqual_35 : decode cX11_areEqual 35 = .ok (.getfield 90, 3) := by decide +kernel
theorem dX11_areEqual_38 : decode cX11_areEqual 38 = .ok (.iload_n 1, 1) := by decide +kernel
theorem dX11_areEqual_39 : decode cX11_areEqual 39 = .ok (.invokevirtual 202, 3) := by decide +kernel
theorem dX11_areEqual_42 : decode cX11_areEqual 42 = .ok (.aload_n 0, 1) := by decide +kernel
theorem dX11_areEqual_43 : decode cX11_areEqual 43 = .ok (.getfield 90, 3) := by decide +kernel
theorem dX11_areEqual_46 : decode cX11_areEqual 46 = .ok (.iload_n 2, 1) := by decide +kernel
theorem dX11_areEqual_47 : decode cX11_areEqual 47 = .ok (.invokevirtual 202, 3) := by decide +kernel
theorem dX11_areEqual_50 : decode cX11_areEqual 50 = .ok (.invokevirtual 383, 3) := by decide +kernel
theorem dX11_areEqual_53 : decode cX11_areEqual 53 = .ok (.ireturn, 1) := by decide +kernel
theorem dX11_compare_0 : decode cX11_compare 0 = .ok (.aload_n 0, 1) := by decide +kernel
theorem dX11_compare_1 : decode cX11_compare 1 = .ok (.iload_n 1, 1) := by decide +kernel
theorem dX11_compare_2 : decode cX11_compare 2 = .ok (.invokevirtual 194, 3) := by decide +kernel
theorem dX11_compare_5 : decode cX11_compare 5 = .ok (.ifCond .eq 11, 3) := by decide +kernel
theorem dX11_compare_8 : decode cX11_compare 8 = .ok (.aload_n 0, 1) := by decide +kernel
theorem dX11_compare_9 : decode cX11_compare 9 = .ok (.iload_n 2, 1) := by decide +kernel
theorem dX11_compare_10 : decode cX11_compare 10 = .ok (.invokevirtual 194, 3) := by decide +kernel
theorem dX11_compare_13 : decode cX11_compare 13 = .ok (.ifCond .ne 13, 3) := by decide +kernel
theorem dX11_compare_26 : decode cX11_compare 26 = .ok (.iload_n 1, 1) := by decide +kernel
theorem dX11_compare_27 : decode cX11_compare 27 = .ok (.iload_n 2, 1) := by decide +kernel
theorem dX11_compare_28 : decode cX11_compare 28 = .ok (.if_icmp .ne 5, 3) := by decide +kernel
theorem dX11_compare_31 : decode cX11_compare 31 = .ok (.iconst 0, 1) := by decide +kernel
theorem dX11_compare_32 : decode cX11_compare 32 = .ok (.ireturn, 1) := by decide +kernel
theorem dX11_compare_33 : decode cX11_compare 33 = .ok (.aload_n 0, 1) := by decide +kernel
theorem dX11_compare_34 : decode cX11_compare 34 = .ok (.getfield 30, 3) := by decide +kernel
theorem dX11_compare_37 : decode cX11_compare 37 = .ok (.invokevirtual 253, 3) := by decide +kernel
theorem dX11_compare_40 : decode cX11_compare 40 = .ok (.aload_n 0, 1) := by decide +kernel
theorem dX11_compare_41 : decode cX11_compare 41 = .ok (.getfield 30, 3) := by decide +kernel
theorem dX11_compare_44 : decode cX11_compare 44 = .ok (.aload_n 0, 1) := by decide +kernel
theorem dX11_compare_45 : decode cX11_compare 45 = .ok (.getfield 90, 3) := by decide +kernel
theorem dX11_compare_48 : decode cX11_compare 48 = .ok (.iload_n 1, 1) := by decide +kernel
theorem dX11_compare_49 : decode cX11_compare 49 = .ok (.invokevirtual 202, 3) := by decide +kernel
theorem dX11_compare_52 : decode cX11_compare 52 = .ok (.invokevirtual 256, 3) := by decide +kernel
theorem dX11_compare_55 : decode cX11_compare 55 = .ok (.aload_n 0, 1) := by decide +kernel
theorem dX11_compare_56 : decode cX11_compare 56 = .ok (.getfield 30, 3) := by decide +kernel
theorem dX11_compare_59 : decode cX11_compare 59 = .ok (.aload_n 0, 1) := by decide +kernel
theorem dX11_compare_60 : decode cX11_compare 60 = .ok (.getfield 90, 3) := by decide +kernel
theorem dX11_compare_63 : decode cX11_compare 63 = .ok (.iload_n 2, 1) := by decide +kernel
theorem dX11_compare_64 : decode cX11_compare 64 = .ok (.invokevirtual 202, 3) := by decide +kernel
theorem dX11_compare_67 : decode cX11_compare 67 = .ok (.invokevirtual 256, 3) := by decide +kernel
theorem dX11_compare_70 : decode cX11_compare 70 = .ok (.aload_n 0, 1) := by decide +kernel
theorem dX11_compare_71 : decode cX11_compare 71 = .ok (.getfield 37, 3) := by decide +kernel
theorem dX11_compare_74 : decode cX11_compare 74 = .ok (.aload_n 0, 1) := by decide +kernel
theorem dX11_compare_75 : decode cX11_compare 75 = .ok (.getfield 30, 3) := by decide +kernel
theorem dX11_compare_78 : decode cX11_compare 78 = .ok (.aload_n 0, 1) := by decide +kernel
theorem dX11_compare_79 : decode cX11_compare 79 = .ok (.getfield 21, 3) := by decide +kernel
theorem dX11_compare_82 : decode cX11_compare 82 = .ok (.invokevirtual 258, 3) := by decide +kernel
theorem dX11_compare_85 : decode cX11_compare 85 = .ok (.aload_n 0, 1) := by decide +kernel
theorem dX11_compare_86 : decode cX11_compare 86 = .ok (.getfield 37, 3) := by decide +kernel
theorem dX11_compare_89 : decode cX11_compare 89 = .ok (.aload_n 0, 1) := by decide +kernel
theorem dX11_compare_90 : decode cX11_compare 90 = .ok (.getfield 10, 3) := by decide +kernel
theorem dX11_compare_93 : decode cX11_compare 93 = .ok (.invokevirtual 262, 3) := by decide +kernel
theorem dX11_compare_96 : decode cX11_compare 96 = .ok (.invokevirtual 265, 3) := by decide +kernel
theorem dX11_compare_99 : decode cX11_compare 99 = .ok (.aload_n 0, 1) := by decide +kernel
theorem dX11_compare_100 : decode cX11_compare 100 = .ok (.getfield 37, 3) := by decide +kernel
theorem dX11_compare_103 : decode cX11_compare 103 = .ok (.aload_n 0, 1) := by decide +kernel
theorem dX11_compare_104 : decode cX11_compare 104 = .ok (.getfield 30, 3) := by decide +kernel
theorem dX11_compare_107 : decode cX11_compare 107 = .ok (.aload_n 0, 1) := by decide +kernel
theorem dX11_compare_108 : decode cX11_compare 108 = .ok (.getfield 90, 3) := by decide +kernel
theorem dX11_compare_111 : decode cX11_compare 111 = .ok (.iload_n 1, 1) := by decide +kernel
theorem dX11_compare_112 : decode cX11_compare 112 = .ok (.invokevirtual 202, 3) := by decide +kernel
theorem dX11_compare_115 : decode cX11_compare 115 = .ok (.invokevirtual 267, 3) := by decide +kernel
theorem dX11_compare_118 : decode cX11_compare 118 = .ok (.invokevirtual 270, 3) := by decide +kernel
theorem dX11_compare_121 : decode cX11_compare 121 = .ok (.istore_n 3, 1) := by decide +kernel
theorem dX11_compare_122 : decode cX11_compare 122 = .ok (.aload_n 0, 1) := by decide +kernel
theorem dX11_compare_123 : decode cX11_compare 123 = .ok (.getfield 37, 3) := by decide +kernel
theorem dX11_compare_126 : decode cX11_compare 126 = .ok (.aload_n 0, 1) := by decide +kernel
theorem dX11_compare_127 : decode cX11_compare 127 = .ok (.getfield 30, 3) := by decide +kernel
theorem dX11_compare_130 : decode cX11_compare 130 = .ok (.aload_n 0, 1) := by decide +kernel
theorem dX11_compare_131 : decode cX11_compare 131 = .ok (.getfield 90, 3) := by decide +kernel
theorem dX11_compare_134 : decode cX11_compare 134 = .ok (.iload_n 2, 1) := by decide +kernel
theorem dX11_compare_135 : decode cX11_compare 135 = .ok (.invokevirtual 202, 3) := by decide +kernel
theorem dX11_compare_138 : decode cX11_compare 138 = .ok (.invokevirtual 267, 3) := by decide +kernel
theorem dX11_compare_141 : decode cX11_compare 141 = .ok (.invokevirtual 270, 3) := by decide +kernel
theorem dX11_compare_144 : decode cX11_compare 144 = .ok (.istore 4, 2) := by decide +kernel
theorem dX11_compare_146 : decode cX11_compare 146 = .ok (.iload_n 3, 1) := by decide +kernel
theorem dX11_compare_147 : decode cX11_compare 147 = .ok (.iload 4, 2) := by decide +kernel
theorem dX11_compare_149 : decode cX11_compare 149 = .ok (.if_icmp .le 7, 3) := by decide +kernel
theorem dX11_compare_152 : decode cX11_compare 152 = .ok (.iconst 1, 1) := by decide +kernel
theorem dX11_compare_153 : decode cX11_compare 153 = .ok (.goto 4, 3) := by decide +kernel
theorem dX11_compare_156 : decode cX11_compare 156 = .ok (.iconst (-1), 1) := by decide +kernel
theorem dX11_compare_157 : decode cX11_compare 157 = .ok (.ireturn, 1) := by decide +kernel
theorem dX11_declare_0 : decode cX11_declare 0 = .ok (.aload_n 0, 1) := by decide +kernel
theorem dX11_declare_1 : decode cX11_declare 1 = .ok (.getfield 55, 3) := by decide +kernel
theorem dX11_declare_4 : decode cX11_declare 4 = .ok (.invokevirtual 116, 3) := by decide +kernel
theorem dX11_declare_7 : decode cX11_declare 7 = .ok (.istore_n 3, 1) := by decide +kernel
theorem dX11_declare_8 : decode cX11_declare 8 = .ok (.aload_n 0, 1) := by decide +kernel
theorem dX11_declare_9 : decode cX11_declare 9 = .ok (.getfield 55, 3) := by decide +kernel
theorem dX11_declare_12 : decode cX11_declare 12 = .ok (.invokevirtual 120, 3) := by decide +kernel
theorem dX11_declare_15 : decode cX11_declare 15 = .ok (.istore 4, 2) := by decide +kernel
theorem dX11_declare_17 : decode cX11_declare 17 = .ok (.aload_n 0, 1) := by decide +kernel
theorem dX11_declare_18 : decode cX11_declare 18 = .ok (.getfield 55, 3) := by decide +kernel
theorem dX11_declare_21 : decode cX11_declare 21 = .ok (.invokevirtual 123, 3) := by decide +kernel
theorem dX11_declare_24 : decode cX11_declare 24 = .ok (.istore 5, 2) := by decide +kernel
theorem dX11_declare_26 : decode cX11_declare 26 = .ok (.iload_n 1, 1) := by decide +kernel
theorem dX11_declare_27 : decode cX11_declare 27 = .ok (.ifCond .lt 23, 3) := by decide +kernel
theorem dX11_declare_30 : decode cX11_declare 30 = .ok (.iload_n 1, 1) := by decide +kernel
theorem dX11_declare_31 : decode cX11_declare 31 = .ok (.iconst 3, 1) := by decide +kernel
theorem dX11_declare_32 : decode cX11_declare 32 = .ok (.if_icmp .gt 18, 3) := by decide +kernel
theorem dX11_declare_35 : decode cX11_declare 35 = .ok (.iload_n 2, 1) := by decide +kernel
theorem dX11_declare_36 : decode cX11_declare 36 = .ok (.iconst 1, 1) := by decide +kernel
theorem dX11_declare_37 : decode cX11_declare 37 = .ok (.if_icmp .lt 13, 3) := by decide +kernel
theorem dX11_declare_40 : decode cX11_declare 40 = .ok (.iload_n 2, 1) := by decide +kernel
theorem dX11_declare_41 : decode cX11_declare 41 = .ok (.bipush 9, 2) := by decide +kernel
theorem dX11_declare_43 : decode cX11_declare 43 = .ok (.if_icmp .gt 7, 3) := by decide +kernel
theorem dX11_declare_46 : decode cX11_declare 46 = .ok (.iload_n 3, 1) := by decide +kernel
theorem dX11_declare_47 : decode cX11_declare 47 = .ok (.ifCond .ne 13, 3) := by decide +kernel
theorem dX11_declare_60 : decode cX11_declare 60 = .ok (.iload 4, 2) := by decide +kernel
theorem dX11_declare_62 : decode cX11_declare 62 = .ok (.iconst (-1), 1) := by decide +kernel
theorem dX11_declare_63 : decode cX11_declare 63 = .ok (.if_icmp .ne 13, 3) := by decide +kernel
theorem dX11_declare_66 : decode cX11_declare 66 = .ok (.aload_n 0, 1) := by decide +kernel
theorem dX11_declare_67 : decode cX11_declare 67 = .ok (.getfield 10, 3) := by decide +kernel
theorem dX11_declare_70 : decode cX11_declare 70 = .ok (.invokevirtual 128, 3) := by decide +kernel
theorem dX11_declare_73 : decode cX11_declare 73 = .ok (.ifCond .eq 13, 3) := by decide +kernel
theorem dX11_declare_86 : decode cX11_declare 86 = .ok (.aload_n 0, 1) := by decide +kernel
theorem dX11_declare_87 : decode cX11_declare 87 = .ok (.getfield 10, 3) := by decide +kernel
theorem dX11_declare_90 : decode cX11_declare 90 = .ok (.aload_n 0, 1) := by decide +kernel
theorem dX11_declare_91 : decode cX11_declare 91 = .ok (.getfield 55, 3) := by decide +kernel
theorem dX11_declare_94 : decode cX11_declare 94 = .ok (.invokevirtual 133, 3) := by decide +kernel
theorem dX11_declare_97 : decode cX11_declare 97 = .ok (.iload 5, 2) := by decide +kernel
theorem dX11_declare_99 : decode cX11_declare 99 = .ok (.iload_n 1, 1) := by decide +kernel
theorem dX11_declare_100 : decode cX11_declare 100 = .ok (.iload_n 2, 1) := by decide +kernel
theorem dX11_declare_101 : decode cX11_declare 101 = .ok (.invokevirtual 137, 3) := by decide +kernel
theorem dX11_declare_104 : decode cX11_declare 104 = .ok (.ireturn, 1) := by decide +kernel
theorem dX11_equate_0 : decode cX11_equate 0 = .ok (.aload_n 0, 1) := by decide +kernel
theorem dX11_equate_1 : decode cX11_equate 1 = .ok (.iload_n 1, 1) := by decide +kernel
theorem dX11_equate_2 : decode cX11_equate 2 = .ok (.invokevirtual 194, 3) := by decide +kernel
theorem dX11_equate_5 : decode cX11_equate 5 = .ok (.ifCond .eq 11, 3) := by decide +kernel
theorem dX11_equate_8 : decode cX11_equate 8 = .ok (.aload_n 0, 1) := by decide +kernel
theorem dX11_equate_9 : decode cX11_equate 9 = .ok (.iload_n 2, 1) := by decide +kernel
theorem dX11_equate_10 : decode cX11_equate 10 = .ok (.invokevirtual 194, 3) := by decide +kernel
theorem dX11_equate_13 : decode cX11_equate 13 = .ok (.ifCond .ne 13, 3) := by decide +kernel
theorem dX11_equate_26 : decode cX11_equate 26 = .ok (.aload_n 0, 1) := by decide +kernel
theorem dX11_equate_27 : decode cX11_equate 27 = .ok (.getfield 21, 3) := by decide +kernel
theorem dX11_equate_30 : decode cX11_equate 30 = .ok (.aload_n 0, 1) := by decide +kernel
theorem dX11_equate_31 : decode cX11_equate 31 = .ok (.getfield 90, 3) := by decide +kernel
theorem dX11_equate_34 : decode cX11_equate 34 = .ok (.iload_n 1, 1) := by decide +kernel
theorem dX11_equate_35 : decode cX11_equate 35 = .ok (.invokevirtual 202, 3) := by decide +kernel
theorem dX11_equate_38 : decode cX11_equate 38 = .ok (.invokevirtual 293, 3) := by decide +kernel
theorem dX11_equate_41 : decode cX11_equate 41 = .ok (.ifCond .eq 21, 3) := by decide +kernel
theorem dX11_equate_44 : decode cX11_equate 44 = .ok (.aload_n 0, 1) := by decide +kernel
theorem dX11_equate_45 : decode cX11_equate 45 = .ok (.getfield 21, 3) := by decide +kernel
theorem dX11_equate_48 : decode cX11_equate 48 = .ok (.aload_n 0, 1) := by decide +kernel
theorem dX11_equate_49 : decode cX11_equate 49 = .ok (.getfield 90, 3) := by decide +kernel
theorem dX11_equate_52 : decode cX11_equate 52 = .ok (.iload_n 2, 1) := by decide +kernel
theorem dX11_equate_53 : decode cX11_equate 53 = .ok (.invokevirtual 202, 3) := by decide +kernel
theorem dX11_equate_56 : decode cX11_equate 56 = .ok (.invokevirtual 293, 3) := by decide +kernel
theorem dX11_equate_59 : decode cX11_equate 59 = .ok (.ifCond .ne 14, 3) := by decide +kernel
theorem dX11_equate_73 : decode cX11_equate 73 = .ok (.aload_n 0, 1) := by decide +kernel
theorem dX11_equate_74 : decode cX11_equate 74 = .ok (.getfield 46, 3) := by decide +kernel
theorem dX11_equate_77 : decode cX11_equate 77 = .ok (.getfield 298, 3) := by decide +kernel
theorem dX11_equate_80 : decode cX11_equate 80 = .ok (.bipush 30, 2) := by decide +kernel
theorem dX11_equate_82 : decode cX11_equate 82 = .ok (.if_icmp .lt 14, 3) := by decide +kernel
theorem dX11_equate_96 : decode cX11_equate 96 = .ok (.aload_n 0, 1) := by decide +kernel
theorem dX11_equate_97 : decode cX11_equate 97 = .ok (.invokevirtual 199, 3) := by decide +kernel
theorem dX11_equate_100 : decode cX11_equate 100 = .ok (.aload_n 0, 1) := by decide +kernel
theorem dX11_equate_101 : decode cX11_equate 101 = .ok (.getfield 46, 3) := by decide +kernel
theorem dX11_equate_104 : decode cX11_equate 104 = .ok (.aload_n 0, 1) := by decide +kernel
theorem dX11_equate_105 : decode cX11_equate 105 = .ok (.getfield 90, 3) := by decide +kernel
theorem dX11_equate_108 : decode cX11_equate 108 = .ok (.iload_n 1, 1) := by decide +kernel
theorem dX11_equate_109 : decode cX11_equate 109 = .ok (.invokevirtual 202, 3) := by decide +kernel
theorem dX11_equate_112 : decode cX11_equate 112 = .ok (.aload_n 0, 1) := by decide +kernel
theorem dX11_equate_113 : decode cX11_equate 113 = .ok (.getfield 90, 3) := by decide +kernel
theorem dX11_equate_116 : decode cX11_equate 116 = .ok (.iload_n 2, 1) := by decide +kernel
theorem dX11_equate_117 : decode cX11_equate 117 = .ok (.invokevirtual 202, 3) := by decide +kernel
theorem dX11_equate_120 : decode cX11_equate 120 = .ok (.invokevirtual 303, 3) := by decide +kernel
theorem dX11_equate_123 : decode cX11_equate 123 = .ok (.aload_n 0, 1) := by decide +kernel
theorem dX11_equate_124 : decode cX11_equate 124 = .ok (.getfield 46, 3) := by decide +kernel
theorem dX11_equate_127 : decode cX11_equate 127 = .ok (.invokevirtual 306, 3) := by decide +kernel
theorem dX11_equate_130 : decode cX11_equate 130 = .ok (.ifCond .ne 37, 3) := by decide +kernel
theorem dX11_equate_133 : decode cX11_equate 133 = .ok (.aload_n 0, 1) := by decide +kernel
theorem dX11_equate_134 : decode cX11_equate 134 = .ok (.getfield 46, 3) := by decide +kernel
theorem dX11_equate_137 : decode cX11_equate 137 = .ok (.aload_n 0, 1) := by decide +kernel
theorem dX11_equate_138 : decode cX11_equate 138 = .ok (.getfield 46, 3) := by decide +kernel
theorem dX11_equate_141 : decode cX11_equate 141 = .ok (.getfield 298, 3) := by decide +kernel
theorem dX11_equate_144 : decode cX11_equate 144 = .ok (.iconst 1, 1) := by decide +kernel
theorem dX11_equate_145 : decode cX11_equate 145 = .ok (.isub, 1) := by decide +kernel
theorem dX11_equate_146 : decode cX11_equate 146 = .ok (.aload_n 0, 1) := by decide +kernel
theorem dX11_equate_147 : decode cX11_equate 147 = .ok (.getfield 46, 3) := by decide +kernel
theorem dX11_equate_150 : decode cX11_equate 150 = .ok (.getfield 309, 3) := by decide +kernel
theorem dX11_equate_153 : decode cX11_equate 153 = .ok (.invokevirtual 312, 3) := by decide +kernel
theorem dX11_equate_156 : decode cX11_equate 156 = .ok (.new 212, 3) := by decide +kernel
theorem dX11_equate_159 : decode cX11_equate 159 = .ok (.dup, 1) := by decide +kernel
end
section
theorem dX11_equate_160 : decode cX11_equate 160 = .ok (.ldc_w 315, 3) := by decide +kernel
theorem dX11_equate_163 : decode cX11_equate 163 = .ok (.invokespecial 216, 3) := by decide +kernel
theorem dX11_equate_166 : decode cX11_equate 166 = .ok (.athrow, 1) := by decide +kernel
theorem dX11_equate_167 : decode cX11_equate 167 = .ok (.aload_n 0, 1) := by decide +kernel
theorem dX11_equate_168 : decode cX11_equate 168 = .ok (.getfield 46, 3) := by decide +kernel
theorem dX11_equate_171 : decode cX11_equate 171 = .ok (.getfield 298, 3) := by decide +kernel
theorem dX11_equate_174 : decode cX11_equate 174 = .ok (.iconst 1, 1) := by decide +kernel
theorem dX11_equate_175 : decode cX11_equate 175 = .ok (.isub, 1) := by decide +kernel
theorem dX11_equate_176 : decode cX11_equate 176 = .ok (.ireturn, 1) := by decide +kernel
theorem dX11_equationCount_0 : decode cX11_equationCount 0 = .ok (.aload_n 0, 1) := by decide +kernel
theorem dX11_equationCount_1 : decode cX11_equationCount 1 = .ok (.getfield 46, 3) := by decide +kernel
theorem dX11_equationCount_4 : decode cX11_equationCount 4 = .ok (.getfield 298, 3) := by decide +kernel
theorem dX11_equationCount_7 : decode cX11_equationCount 7 = .ok (.ireturn, 1) := by decide +kernel
theorem dX11_feed_0 : decode cX11_feed 0 = .ok (.aload_n 0, 1) := by decide +kernel
theorem dX11_feed_1 : decode cX11_feed 1 = .ok (.getfield 55, 3) := by decide +kernel
theorem dX11_feed_4 : decode cX11_feed 4 = .ok (.invokevirtual 94, 3) := by decide +kernel
theorem dX11_feed_7 : decode cX11_feed 7 = .ok (.bipush 20, 2) := by decide +kernel
theorem dX11_feed_9 : decode cX11_feed 9 = .ok (.iadd, 1) := by decide +kernel
theorem dX11_feed_10 : decode cX11_feed 10 = .ok (.sipush 400, 3) := by decide +kernel
theorem dX11_feed_13 : decode cX11_feed 13 = .ok (.if_icmp .le 13, 3) := by decide +kernel
theorem dX11_feed_26 : decode cX11_feed 26 = .ok (.aload_n 0, 1) := by decide +kernel
theorem dX11_feed_27 : decode cX11_feed 27 = .ok (.getfield 55, 3) := by decide +kernel
theorem dX11_feed_30 : decode cX11_feed 30 = .ok (.iload_n 1, 1) := by decide +kernel
theorem dX11_feed_31 : decode cX11_feed 31 = .ok (.invokevirtual 105, 3) := by decide +kernel
theorem dX11_feed_34 : decode cX11_feed 34 = .ok (.aload_n 0, 1) := by decide +kernel
theorem dX11_feed_35 : decode cX11_feed 35 = .ok (.getfield 55, 3) := by decide +kernel
theorem dX11_feed_38 : decode cX11_feed 38 = .ok (.iload_n 2, 1) := by decide +kernel
theorem dX11_feed_39 : decode cX11_feed 39 = .ok (.invokevirtual 105, 3) := by decide +kernel
theorem dX11_feed_42 : decode cX11_feed 42 = .ok (.aload_n 0, 1) := by decide +kernel
theorem dX11_feed_43 : decode cX11_feed 43 = .ok (.getfield 55, 3) := by decide +kernel
theorem dX11_feed_46 : decode cX11_feed 46 = .ok (.iload_n 3, 1) := by decide +kernel
theorem dX11_feed_47 : decode cX11_feed 47 = .ok (.invokevirtual 105, 3) := by decide +kernel
theorem dX11_feed_50 : decode cX11_feed 50 = .ok (.aload_n 0, 1) := by decide +kernel
theorem dX11_feed_51 : decode cX11_feed 51 = .ok (.getfield 55, 3) := by decide +kernel
theorem dX11_feed_54 : decode cX11_feed 54 = .ok (.iload 4, 2) := by decide +kernel
theorem dX11_feed_56 : decode cX11_feed 56 = .ok (.invokevirtual 105, 3) := by decide +kernel
theorem dX11_feed_59 : decode cX11_feed 59 = .ok (.aload_n 0, 1) := by decide +kernel
theorem dX11_feed_60 : decode cX11_feed 60 = .ok (.getfield 55, 3) := by decide +kernel
theorem dX11_feed_63 : decode cX11_feed 63 = .ok (.iload 5, 2) := by decide +kernel
theorem dX11_feed_65 : decode cX11_feed 65 = .ok (.invokevirtual 105, 3) := by decide +kernel
theorem dX11_feed_68 : decode cX11_feed 68 = .ok (.aload_n 0, 1) := by decide +kernel
theorem dX11_feed_69 : decode cX11_feed 69 = .ok (.getfield 55, 3) := by decide +kernel
theorem dX11_feed_72 : decode cX11_feed 72 = .ok (.invokevirtual 94, 3) := by decide +kernel
theorem dX11_feed_75 : decode cX11_feed 75 = .ok (.ireturn, 1) := by decide +kernel
theorem dX11_giveNumber_0 : decode cX11_giveNumber 0 = .ok (.aload_n 0, 1) := by decide +kernel
theorem dX11_giveNumber_1 : decode cX11_giveNumber 1 = .ok (.getfield 21, 3) := by decide +kernel
theorem dX11_giveNumber_4 : decode cX11_giveNumber 4 = .ok (.iload_n 1, 1) := by decide +kernel
theorem dX11_giveNumber_5 : decode cX11_giveNumber 5 = .ok (.invokevirtual 445, 3) := by decide +kernel
theorem dX11_giveNumber_8 : decode cX11_giveNumber 8 = .ok (.istore_n 2, 1) := by decide +kernel
theorem dX11_giveNumber_9 : decode cX11_giveNumber 9 = .ok (.iload_n 2, 1) := by decide +kernel
theorem dX11_giveNumber_10 : decode cX11_giveNumber 10 = .ok (.iconst (-1), 1) := by decide +kernel
theorem dX11_giveNumber_11 : decode cX11_giveNumber 11 = .ok (.if_icmp .ne 43, 3) := by decide +kernel
theorem dX11_giveNumber_14 : decode cX11_giveNumber 14 = .ok (.aload_n 0, 1) := by decide +kernel
theorem dX11_giveNumber_15 : decode cX11_giveNumber 15 = .ok (.getfield 231, 3) := by decide +kernel
theorem dX11_giveNumber_18 : decode cX11_giveNumber 18 = .ok (.istore_n 2, 1) := by decide +kernel
theorem dX11_giveNumber_19 : decode cX11_giveNumber 19 = .ok (.aload_n 0, 1) := by decide +kernel
theorem dX11_giveNumber_20 : decode cX11_giveNumber 20 = .ok (.getfield 21, 3) := by decide +kernel
theorem dX11_giveNumber_23 : decode cX11_giveNumber 23 = .ok (.iload_n 1, 1) := by decide +kernel
theorem dX11_giveNumber_24 : decode cX11_giveNumber 24 = .ok (.iload_n 2, 1) := by decide +kernel
theorem dX11_giveNumber_25 : decode cX11_giveNumber 25 = .ok (.invokevirtual 448, 3) := by decide +kernel
theorem dX11_giveNumber_28 : decode cX11_giveNumber 28 = .ok (.aload_n 0, 1) := by decide +kernel
theorem dX11_giveNumber_29 : decode cX11_giveNumber 29 = .ok (.getfield 90, 3) := by decide +kernel
theorem dX11_giveNumber_32 : decode cX11_giveNumber 32 = .ok (.iload_n 2, 1) := by decide +kernel
theorem dX11_giveNumber_33 : decode cX11_giveNumber 33 = .ok (.iload_n 1, 1) := by decide +kernel
theorem dX11_giveNumber_34 : decode cX11_giveNumber 34 = .ok (.invokevirtual 451, 3) := by decide +kernel
theorem dX11_giveNumber_37 : decode cX11_giveNumber 37 = .ok (.aload_n 0, 1) := by decide +kernel
theorem dX11_giveNumber_38 : decode cX11_giveNumber 38 = .ok (.dup, 1) := by decide +kernel
theorem dX11_giveNumber_39 : decode cX11_giveNumber 39 = .ok (.getfield 231, 3) := by decide +kernel
theorem dX11_giveNumber_42 : decode cX11_giveNumber 42 = .ok (.iconst 1, 1) := by decide +kernel
theorem dX11_giveNumber_43 : decode cX11_giveNumber 43 = .ok (.iadd, 1) := by decide +kernel
theorem dX11_giveNumber_44 : decode cX11_giveNumber 44 = .ok (.putfield 231, 3) := by decide +kernel
theorem dX11_giveNumber_47 : decode cX11_giveNumber 47 = .ok (.aload_n 0, 1) := by decide +kernel
theorem dX11_giveNumber_48 : decode cX11_giveNumber 48 = .ok (.getfield 10, 3) := by decide +kernel
theorem dX11_giveNumber_51 : decode cX11_giveNumber 51 = .ok (.invokevirtual 343, 3) := by decide +kernel
theorem dX11_giveNumber_54 : decode cX11_giveNumber 54 = .ok (.iload_n 2, 1) := by decide +kernel
theorem dX11_giveNumber_55 : decode cX11_giveNumber 55 = .ok (.ireturn, 1) := by decide +kernel
theorem dX11_isTerm_0 : decode cX11_isTerm 0 = .ok (.iload_n 1, 1) := by decide +kernel
theorem dX11_isTerm_1 : decode cX11_isTerm 1 = .ok (.ifCond .lt 15, 3) := by decide +kernel
theorem dX11_isTerm_4 : decode cX11_isTerm 4 = .ok (.iload_n 1, 1) := by decide +kernel
theorem dX11_isTerm_5 : decode cX11_isTerm 5 = .ok (.aload_n 0, 1) := by decide +kernel
theorem dX11_isTerm_6 : decode cX11_isTerm 6 = .ok (.getfield 231, 3) := by decide +kernel
theorem dX11_isTerm_9 : decode cX11_isTerm 9 = .ok (.if_icmp .ge 7, 3) := by decide +kernel
theorem dX11_isTerm_12 : decode cX11_isTerm 12 = .ok (.iconst 1, 1) := by decide +kernel
theorem dX11_isTerm_13 : decode cX11_isTerm 13 = .ok (.goto 4, 3) := by decide +kernel
theorem dX11_isTerm_16 : decode cX11_isTerm 16 = .ok (.iconst 0, 1) := by decide +kernel
theorem dX11_isTerm_17 : decode cX11_isTerm 17 = .ok (.ireturn, 1) := by decide +kernel
theorem dX11_normalForm_0 : decode cX11_normalForm 0 = .ok (.aload_n 0, 1) := by decide +kernel
theorem dX11_normalForm_1 : decode cX11_normalForm 1 = .ok (.iload_n 1, 1) := by decide +kernel
theorem dX11_normalForm_2 : decode cX11_normalForm 2 = .ok (.invokevirtual 194, 3) := by decide +kernel
theorem dX11_normalForm_5 : decode cX11_normalForm 5 = .ok (.ifCond .ne 13, 3) := by decide +kernel
theorem dX11_normalForm_18 : decode cX11_normalForm 18 = .ok (.aload_n 0, 1) := by decide +kernel
theorem dX11_normalForm_19 : decode cX11_normalForm 19 = .ok (.invokevirtual 199, 3) := by decide +kernel
theorem dX11_normalForm_22 : decode cX11_normalForm 22 = .ok (.aload_n 0, 1) := by decide +kernel
theorem dX11_normalForm_23 : decode cX11_normalForm 23 = .ok (.getfield 46, 3) := by decide +kernel
theorem dX11_normalForm_26 : decode cX11_normalForm 26 = .ok (.aload_n 0, 1) := by decide +kernel
theorem dX11_normalForm_27 : decode cX11_normalForm 27 = .ok (.getfield 90, 3) := by decide +kernel
theorem dX11_normalForm_30 : decode cX11_normalForm 30 = .ok (.iload_n 1, 1) := by decide +kernel
theorem dX11_normalForm_31 : decode cX11_normalForm 31 = .ok (.invokevirtual 202, 3) := by decide +kernel
theorem dX11_normalForm_34 : decode cX11_normalForm 34 = .ok (.invokevirtual 378, 3) := by decide +kernel
theorem dX11_normalForm_37 : decode cX11_normalForm 37 = .ok (.istore_n 2, 1) := by decide +kernel
theorem dX11_normalForm_38 : decode cX11_normalForm 38 = .ok (.aload_n 0, 1) := by decide +kernel
theorem dX11_normalForm_39 : decode cX11_normalForm 39 = .ok (.getfield 21, 3) := by decide +kernel
theorem dX11_normalForm_42 : decode cX11_normalForm 42 = .ok (.iload_n 2, 1) := by decide +kernel
theorem dX11_normalForm_43 : decode cX11_normalForm 43 = .ok (.invokevirtual 209, 3) := by decide +kernel
theorem dX11_normalForm_46 : decode cX11_normalForm 46 = .ok (.ifCond .eq 14, 3) := by decide +kernel
theorem dX11_normalForm_49 : decode cX11_normalForm 49 = .ok (.new 212, 3) := by decide +kernel
theorem dX11_normalForm_52 : decode cX11_normalForm 52 = .ok (.dup, 1) := by decide +kernel
theorem dX11_normalForm_53 : decode cX11_normalForm 53 = .ok (.ldc_w 381, 3) := by decide +kernel
theorem dX11_normalForm_56 : decode cX11_normalForm 56 = .ok (.invokespecial 216, 3) := by decide +kernel
theorem dX11_normalForm_59 : decode cX11_normalForm 59 = .ok (.athrow, 1) := by decide +kernel
theorem dX11_normalForm_60 : decode cX11_normalForm 60 = .ok (.aload_n 0, 1) := by decide +kernel
theorem dX11_normalForm_61 : decode cX11_normalForm 61 = .ok (.iload_n 2, 1) := by decide +kernel
theorem dX11_normalForm_62 : decode cX11_normalForm 62 = .ok (.invokevirtual 217, 3) := by decide +kernel
theorem dX11_normalForm_65 : decode cX11_normalForm 65 = .ok (.ireturn, 1) := by decide +kernel
theorem dX11_orderByWeight_0 : decode cX11_orderByWeight 0 = .ok (.aload_n 0, 1) := by decide +kernel
theorem dX11_orderByWeight_1 : decode cX11_orderByWeight 1 = .ok (.getfield 10, 3) := by decide +kernel
theorem dX11_orderByWeight_4 : decode cX11_orderByWeight 4 = .ok (.invokevirtual 153, 3) := by decide +kernel
theorem dX11_orderByWeight_7 : decode cX11_orderByWeight 7 = .ok (.ifCond .eq 13, 3) := by decide +kernel
theorem dX11_orderByWeight_20 : decode cX11_orderByWeight 20 = .ok (.aload_n 0, 1) := by decide +kernel
theorem dX11_orderByWeight_21 : decode cX11_orderByWeight 21 = .ok (.getfield 10, 3) := by decide +kernel
theorem dX11_orderByWeight_24 : decode cX11_orderByWeight 24 = .ok (.invokevirtual 158, 3) := by decide +kernel
theorem dX11_orderByWeight_27 : decode cX11_orderByWeight 27 = .ok (.istore_n 2, 1) := by decide +kernel
theorem dX11_orderByWeight_28 : decode cX11_orderByWeight 28 = .ok (.aload_n 0, 1) := by decide +kernel
theorem dX11_orderByWeight_29 : decode cX11_orderByWeight 29 = .ok (.getfield 10, 3) := by decide +kernel
theorem dX11_orderByWeight_32 : decode cX11_orderByWeight 32 = .ok (.iload_n 1, 1) := by decide +kernel
theorem dX11_orderByWeight_33 : decode cX11_orderByWeight 33 = .ok (.invokevirtual 161, 3) := by decide +kernel
theorem dX11_orderByWeight_36 : decode cX11_orderByWeight 36 = .ok (.iload_n 2, 1) := by decide +kernel
theorem dX11_orderByWeight_37 : decode cX11_orderByWeight 37 = .ok (.ireturn, 1) := by decide +kernel
theorem dX11_pop_0 : decode cX11_pop 0 = .ok (.aload_n 0, 1) := by decide +kernel
theorem dX11_pop_1 : decode cX11_pop 1 = .ok (.getfield 46, 3) := by decide +kernel
theorem dX11_pop_4 : decode cX11_pop 4 = .ok (.getfield 354, 3) := by decide +kernel
theorem dX11_pop_7 : decode cX11_pop 7 = .ok (.ifCond .gt 14, 3) := by decide +kernel
theorem dX11_pop_10 : decode cX11_pop 10 = .ok (.new 98, 3) := by decide +kernel
theorem dX11_pop_13 : decode cX11_pop 13 = .ok (.dup, 1) := by decide +kernel
theorem dX11_pop_14 : decode cX11_pop 14 = .ok (.ldc_w 362, 3) := by decide +kernel
theorem dX11_pop_17 : decode cX11_pop 17 = .ok (.invokespecial 102, 3) := by decide +kernel
theorem dX11_pop_20 : decode cX11_pop 20 = .ok (.athrow, 1) := by decide +kernel
theorem dX11_pop_21 : decode cX11_pop 21 = .ok (.aload_n 0, 1) := by decide +kernel
theorem dX11_pop_22 : decode cX11_pop 22 = .ok (.invokevirtual 199, 3) := by decide +kernel
theorem dX11_pop_25 : decode cX11_pop 25 = .ok (.aload_n 0, 1) := by decide +kernel
theorem dX11_pop_26 : decode cX11_pop 26 = .ok (.getfield 46, 3) := by decide +kernel
theorem dX11_pop_29 : decode cX11_pop 29 = .ok (.invokevirtual 364, 3) := by decide +kernel
theorem dX11_pop_32 : decode cX11_pop 32 = .ok (.aload_n 0, 1) := by decide +kernel
theorem dX11_pop_33 : decode cX11_pop 33 = .ok (.getfield 46, 3) := by decide +kernel
theorem dX11_pop_36 : decode cX11_pop 36 = .ok (.invokevirtual 306, 3) := by decide +kernel
theorem dX11_pop_39 : decode cX11_pop 39 = .ok (.pop, 1) := by decide +kernel
theorem dX11_pop_40 : decode cX11_pop 40 = .ok (.aload_n 0, 1) := by decide +kernel
theorem dX11_pop_41 : decode cX11_pop 41 = .ok (.getfield 46, 3) := by decide +kernel
theorem dX11_pop_44 : decode cX11_pop 44 = .ok (.getfield 354, 3) := by decide +kernel
theorem dX11_pop_47 : decode cX11_pop 47 = .ok (.ireturn, 1) := by decide +kernel
theorem dX11_promote_0 : decode cX11_promote 0 = .ok (.aload_n 0, 1) := by decide +kernel
theorem dX11_promote_1 : decode cX11_promote 1 = .ok (.getfield 10, 3) := by decide +kernel
theorem dX11_promote_4 : decode cX11_promote 4 = .ok (.iload_n 1, 1) := by decide +kernel
theorem dX11_promote_5 : decode cX11_promote 5 = .ok (.invokevirtual 165, 3) := by decide +kernel
theorem dX11_promote_8 : decode cX11_promote 8 = .ok (.ifCond .eq 14, 3) := by decide +kernel
theorem dX11_promote_11 : decode cX11_promote 11 = .ok (.aload_n 0, 1) := by decide +kernel
theorem dX11_promote_12 : decode cX11_promote 12 = .ok (.getfield 10, 3) := by decide +kernel
theorem dX11_promote_15 : decode cX11_promote 15 = .ok (.iload_n 2, 1) := by decide +kernel
theorem dX11_promote_16 : decode cX11_promote 16 = .ok (.invokevirtual 165, 3) := by decide +kernel
theorem dX11_promote_19 : decode cX11_promote 19 = .ok (.ifCond .ne 13, 3) := by decide +kernel
theorem dX11_promote_32 : decode cX11_promote 32 = .ok (.aload_n 0, 1) := by decide +kernel
theorem dX11_promote_33 : decode cX11_promote 33 = .ok (.getfield 10, 3) := by decide +kernel
theorem dX11_promote_36 : decode cX11_promote 36 = .ok (.invokevirtual 153, 3) := by decide +kernel
theorem dX11_promote_39 : decode cX11_promote 39 = .ok (.ifCond .eq 13, 3) := by decide +kernel
theorem dX11_promote_52 : decode cX11_promote 52 = .ok (.aload_n 0, 1) := by decide +kernel
theorem dX11_promote_53 : decode cX11_promote 53 = .ok (.getfield 10, 3) := by decide +kernel
theorem dX11_promote_56 : decode cX11_promote 56 = .ok (.iload_n 1, 1) := by decide +kernel
theorem dX11_promote_57 : decode cX11_promote 57 = .ok (.invokevirtual 174, 3) := by decide +kernel
theorem dX11_promote_60 : decode cX11_promote 60 = .ok (.istore_n 3, 1) := by decide +kernel
theorem dX11_promote_61 : decode cX11_promote 61 = .ok (.aload_n 0, 1) := by decide +kernel
theorem dX11_promote_62 : decode cX11_promote 62 = .ok (.getfield 10, 3) := by decide +kernel
theorem dX11_promote_65 : decode cX11_promote 65 = .ok (.iload_n 1, 1) := by decide +kernel
theorem dX11_promote_66 : decode cX11_promote 66 = .ok (.iload_n 2, 1) := by decide +kernel
theorem dX11_promote_67 : decode cX11_promote 67 = .ok (.invokevirtual 178, 3) := by decide +kernel
theorem dX11_promote_70 : decode cX11_promote 70 = .ok (.iload_n 3, 1) := by decide +kernel
theorem dX11_promote_71 : decode cX11_promote 71 = .ok (.ireturn, 1) := by decide +kernel
theorem dX11_push_0 : decode cX11_push 0 = .ok (.aload_n 0, 1) := by decide +kernel
theorem dX11_push_1 : decode cX11_push 1 = .ok (.getfield 46, 3) := by decide +kernel
theorem dX11_push_4 : decode cX11_push 4 = .ok (.getfield 354, 3) := by decide +kernel
theorem dX11_push_7 : decode cX11_push 7 = .ok (.bipush 8, 2) := by decide +kernel
theorem dX11_push_9 : decode cX11_push 9 = .ok (.if_icmp .lt 14, 3) := by decide +kernel
theorem dX11_push_23 : decode cX11_push 23 = .ok (.aload_n 0, 1) := by decide +kernel
theorem dX11_push_24 : decode cX11_push 24 = .ok (.getfield 46, 3) := by decide +kernel
theorem dX11_push_27 : decode cX11_push 27 = .ok (.invokevirtual 359, 3) := by decide +kernel
theorem dX11_push_30 : decode cX11_push 30 = .ok (.aload_n 0, 1) := by decide +kernel
theorem dX11_push_31 : decode cX11_push 31 = .ok (.getfield 46, 3) := by decide +kernel
theorem dX11_push_34 : decode cX11_push 34 = .ok (.getfield 354, 3) := by decide +kernel
theorem dX11_push_37 : decode cX11_push 37 = .ok (.ireturn, 1) := by decide +kernel
theorem dX11_rankOf_0 : decode cX11_rankOf 0 = .ok (.aload_n 0, 1) := by decide +kernel
theorem dX11_rankOf_1 : decode cX11_rankOf 1 = .ok (.getfield 10, 3) := by decide +kernel
theorem dX11_rankOf_4 : decode cX11_rankOf 4 = .ok (.iload_n 1, 1) := by decide +kernel
theorem dX11_rankOf_5 : decode cX11_rankOf 5 = .ok (.invokevirtual 165, 3) := by decide +kernel
theorem dX11_rankOf_8 : decode cX11_rankOf 8 = .ok (.ifCond .ne 13, 3) := by decide +kernel
theorem dX11_rankOf_21 : decode cX11_rankOf 21 = .ok (.aload_n 0, 1) := by decide +kernel
theorem dX11_rankOf_22 : decode cX11_rankOf 22 = .ok (.getfield 10, 3) := by decide +kernel
theorem dX11_rankOf_25 : decode cX11_rankOf 25 = .ok (.iload_n 1, 1) := by decide +kernel
theorem dX11_rankOf_26 : decode cX11_rankOf 26 = .ok (.invokevirtual 174, 3) := by decide +kernel
theorem dX11_rankOf_29 : decode cX11_rankOf 29 = .ok (.ireturn, 1) := by decide +kernel
theorem dX11_setDirection_0 : decode cX11_setDirection 0 = .ok (.aload_n 0, 1) := by decide +kernel
theorem dX11_setDirection_1 : decode cX11_setDirection 1 = .ok (.getfield 10, 3) := by decide +kernel
theorem dX11_setDirection_4 : decode cX11_setDirection 4 = .ok (.iload_n 1, 1) := by decide +kernel
theorem dX11_setDirection_5 : decode cX11_setDirection 5 = .ok (.invokevirtual 165, 3) := by decide +kernel
theorem dX11_setDirection_8 : decode cX11_setDirection 8 = .ok (.ifCond .ne 13, 3) := by decide +kernel
theorem dX11_setDirection_21 : decode cX11_setDirection 21 = .ok (.aload_n 0, 1) := by decide +kernel
theorem dX11_setDirection_22 : decode cX11_setDirection 22 = .ok (.getfield 10, 3) := by decide +kernel
theorem dX11_setDirection_25 : decode cX11_setDirection 25 = .ok (.invokevirtual 153, 3) := by decide +kernel
theorem dX11_setDirection_28 : decode cX11_setDirection 28 = .ok (.ifCond .eq 13, 3) := by decide +kernel
theorem dX11_setDirection_41 : decode cX11_setDirection 41 = .ok (.aload_n 0, 1) := by decide +kernel
theorem dX11_setDirection_42 : decode cX11_setDirection 42 = .ok (.getfield 10, 3) := by decide +kernel
theorem dX11_setDirection_45 : decode cX11_setDirection 45 = .ok (.iload_n 1, 1) := by decide +kernel
theorem dX11_setDirection_46 : decode cX11_setDirection 46 = .ok (.invokevirtual 184, 3) := by decide +kernel
theorem dX11_setDirection_49 : decode cX11_setDirection 49 = .ok (.istore_n 3, 1) := by decide +kernel
theorem dX11_setDirection_50 : decode cX11_setDirection 50 = .ok (.aload_n 0, 1) := by decide +kernel
theorem dX11_setDirection_51 : decode cX11_setDirection 51 = .ok (.getfield 10, 3) := by decide +kernel
theorem dX11_setDirection_54 : decode cX11_setDirection 54 = .ok (.iload_n 1, 1) := by decide +kernel
theorem dX11_setDirection_55 : decode cX11_setDirection 55 = .ok (.iload_n 2, 1) := by decide +kernel
theorem dX11_setDirection_56 : decode cX11_setDirection 56 = .ok (.invokevirtual 187, 3) := by decide +kernel
theorem dX11_setDirection_59 : decode cX11_setDirection 59 = .ok (.iload_n 3, 1) := by decide +kernel
theorem dX11_setDirection_60 : decode cX11_setDirection 60 = .ok (.ireturn, 1) := by decide +kernel
theorem dX11_size_0 : decode cX11_size 0 = .ok (.aload_n 0, 1) := by decide +kernel
theorem dX11_size_1 : decode cX11_size 1 = .ok (.iload_n 1, 1) := by decide +kernel
theorem dX11_size_2 : decode cX11_size 2 = .ok (.invokevirtual 194, 3) := by decide +kernel
theorem dX11_size_5 : decode cX11_size 5 = .ok (.ifCond .ne 13, 3) := by decide +kernel
theorem dX11_size_18 : decode cX11_size 18 = .ok (.aload_n 0, 1) := by decide +kernel
theorem dX11_size_19 : decode cX11_size 19 = .ok (.getfield 21, 3) := by decide +kernel
theorem dX11_size_22 : decode cX11_size 22 = .ok (.aload_n 0, 1) := by decide +kernel
theorem dX11_size_23 : decode cX11_size 23 = .ok (.getfield 90, 3) := by decide +kernel
theorem dX11_size_26 : decode cX11_size 26 = .ok (.iload_n 1, 1) := by decide +kernel
theorem dX11_size_27 : decode cX11_size 27 = .ok (.invokevirtual 202, 3) := by decide +kernel
theorem dX11_size_30 : decode cX11_size 30 = .ok (.invokevirtual 247, 3) := by decide +kernel
theorem dX11_size_33 : decode cX11_size 33 = .ok (.ireturn, 1) := by decide +kernel
theorem dX11_stepCount_0 : decode cX11_stepCount 0 = .ok (.aload_n 0, 1) := by decide +kernel
theorem dX11_stepCount_1 : decode cX11_stepCount 1 = .ok (.iload_n 1, 1) := by decide +kernel
theorem dX11_stepCount_2 : decode cX11_stepCount 2 = .ok (.invokevirtual 194, 3) := by decide +kernel
theorem dX11_stepCount_5 : decode cX11_stepCount 5 = .ok (.ifCond .ne 13, 3) := by decide +kernel
theorem dX11_stepCount_18 : decode cX11_stepCount 18 = .ok (.aload_n 0, 1) := by decide +kernel
theorem dX11_stepCount_19 : decode cX11_stepCount 19 = .ok (.invokevirtual 199, 3) := by decide +kernel
theorem dX11_stepCount_22 : decode cX11_stepCount 22 = .ok (.aload_n 0, 1) := by decide +kernel
theorem dX11_stepCount_23 : decode cX11_stepCount 23 = .ok (.getfield 46, 3) := by decide +kernel
theorem dX11_stepCount_26 : decode cX11_stepCount 26 = .ok (.aload_n 0, 1) := by decide +kernel
theorem dX11_stepCount_27 : decode cX11_stepCount 27 = .ok (.getfield 90, 3) := by decide +kernel
theorem dX11_stepCount_30 : decode cX11_stepCount 30 = .ok (.iload_n 1, 1) := by decide +kernel
theorem dX11_stepCount_31 : decode cX11_stepCount 31 = .ok (.invokevirtual 202, 3) := by decide +kernel
theorem dX11_stepCount_34 : decode cX11_stepCount 34 = .ok (.invokevirtual 393, 3) := by decide +kernel
theorem dX11_stepCount_37 : decode cX11_stepCount 37 = .ok (.ireturn, 1) := by decide +kernel
theorem dX11_term_0 : decode cX11_term 0 = .ok (.aload_n 0, 1) := by decide +kernel
theorem dX11_term_1 : decode cX11_term 1 = .ok (.getfield 10, 3) := by decide +kernel
theorem dX11_term_4 : decode cX11_term 4 = .ok (.iload_n 1, 1) := by decide +kernel
theorem dX11_term_5 : decode cX11_term 5 = .ok (.invokevirtual 191, 3) := by decide +kernel
theorem dX11_term_8 : decode cX11_term 8 = .ok (.istore 5, 2) := by decide +kernel
theorem dX11_term_10 : decode cX11_term 10 = .ok (.aload_n 0, 1) := by decide +kernel
theorem dX11_term_11 : decode cX11_term 11 = .ok (.getfield 10, 3) := by decide +kernel
theorem dX11_term_14 : decode cX11_term 14 = .ok (.iload_n 1, 1) := by decide +kernel
theorem dX11_term_15 : decode cX11_term 15 = .ok (.invokevirtual 165, 3) := by decide +kernel
theorem dX11_term_18 : decode cX11_term 18 = .ok (.ifCond .eq 45, 3) := by decide +kernel
theorem dX11_term_21 : decode cX11_term 21 = .ok (.iload 5, 2) := by decide +kernel
theorem dX11_term_23 : decode cX11_term 23 = .ok (.ifCond .le 11, 3) := by decide +kernel
theorem dX11_term_26 : decode cX11_term 26 = .ok (.aload_n 0, 1) := by decide +kernel
theorem dX11_term_27 : decode cX11_term 27 = .ok (.iload_n 2, 1) := by decide +kernel
theorem dX11_term_28 : decode cX11_term 28 = .ok (.invokevirtual 194, 3) := by decide +kernel
theorem dX11_term_31 : decode cX11_term 31 = .ok (.ifCond .eq 32, 3) := by decide +kernel
theorem dX11_term_34 : decode cX11_term 34 = .ok (.iload 5, 2) := by decide +kernel
theorem dX11_term_36 : decode cX11_term 36 = .ok (.iconst 1, 1) := by decide +kernel
theorem dX11_term_37 : decode cX11_term 37 = .ok (.if_icmp .le 11, 3) := by decide +kernel
theorem dX11_term_40 : decode cX11_term 40 = .ok (.aload_n 0, 1) := by decide +kernel
theorem dX11_term_41 : decode cX11_term 41 = .ok (.iload_n 3, 1) := by decide +kernel
theorem dX11_term_42 : decode cX11_term 42 = .ok (.invokevirtual 194, 3) := by decide +kernel
theorem dX11_term_45 : decode cX11_term 45 = .ok (.ifCond .eq 18, 3) := by decide +kernel
theorem dX11_term_48 : decode cX11_term 48 = .ok (.iload 5, 2) := by decide +kernel
theorem dX11_term_50 : decode cX11_term 50 = .ok (.iconst 2, 1) := by decide +kernel
theorem dX11_term_51 : decode cX11_term 51 = .ok (.if_icmp .le 22, 3) := by decide +kernel
theorem dX11_term_54 : decode cX11_term 54 = .ok (.aload_n 0, 1) := by decide +kernel
theorem dX11_term_55 : decode cX11_term 55 = .ok (.iload 4, 2) := by decide +kernel
theorem dX11_term_57 : decode cX11_term 57 = .ok (.invokevirtual 194, 3) := by decide +kernel
theorem dX11_term_60 : decode cX11_term 60 = .ok (.ifCond .ne 13, 3) := by decide +kernel
theorem dX11_term_73 : decode cX11_term 73 = .ok (.aload_n 0, 1) := by decide +kernel
theorem dX11_term_74 : decode cX11_term 74 = .ok (.invokevirtual 199, 3) := by decide +kernel
theorem dX11_term_77 : decode cX11_term 77 = .ok (.aload_n 0, 1) := by decide +kernel
theorem dX11_term_78 : decode cX11_term 78 = .ok (.getfield 21, 3) := by decide +kernel
theorem dX11_term_81 : decode cX11_term 81 = .ok (.iload_n 1, 1) := by decide +kernel
theorem dX11_term_82 : decode cX11_term 82 = .ok (.iload 5, 2) := by decide +kernel
theorem dX11_term_84 : decode cX11_term 84 = .ok (.ifCond .le 14, 3) := by decide +kernel
theorem dX11_term_87 : decode cX11_term 87 = .ok (.aload_n 0, 1) := by decide +kernel
theorem dX11_term_88 : decode cX11_term 88 = .ok (.getfield 90, 3) := by decide +kernel
theorem dX11_term_91 : decode cX11_term 91 = .ok (.iload_n 2, 1) := by decide +kernel
theorem dX11_term_92 : decode cX11_term 92 = .ok (.invokevirtual 202, 3) := by decide +kernel
theorem dX11_term_95 : decode cX11_term 95 = .ok (.goto 4, 3) := by decide +kernel
theorem dX11_term_98 : decode cX11_term 98 = .ok (.iconst (-1), 1) := by decide +kernel
theorem dX11_term_99 : decode cX11_term 99 = .ok (.iload 5, 2) := by decide +kernel
theorem dX11_term_101 : decode cX11_term 101 = .ok (.iconst 1, 1) := by decide +kernel
theorem dX11_term_102 : decode cX11_term 102 = .ok (.if_icmp .le 14, 3) := by decide +kernel
theorem dX11_term_105 : decode cX11_term 105 = .ok (.aload_n 0, 1) := by decide +kernel
theorem dX11_term_106 : decode cX11_term 106 = .ok (.getfield 90, 3) := by decide +kernel
theorem dX11_term_109 : decode cX11_term 109 = .ok (.iload_n 3, 1) := by decide +kernel
theorem dX11_term_110 : decode cX11_term 110 = .ok (.invokevirtual 202, 3) := by decide +kernel
theorem dX11_term_113 : decode cX11_term 113 = .ok (.goto 4, 3) := by decide +kernel
theorem dX11_term_116 : decode cX11_term 116 = .ok (.iconst (-1), 1) := by decide +kernel
theorem dX11_term_117 : decode cX11_term 117 = .ok (.iload 5, 2) := by decide +kernel
theorem dX11_term_119 : decode cX11_term 119 = .ok (.iconst 2, 1) := by decide +kernel
theorem dX11_term_120 : decode cX11_term 120 = .ok (.if_icmp .le 15, 3) := by decide +kernel
theorem dX11_term_123 : decode cX11_term 123 = .ok (.aload_n 0, 1) := by decide +kernel
theorem dX11_term_124 : decode cX11_term 124 = .ok (.getfield 90, 3) := by decide +kernel
theorem dX11_term_127 : decode cX11_term 127 = .ok (.iload 4, 2) := by decide +kernel
theorem dX11_term_129 : decode cX11_term 129 = .ok (.invokevirtual 202, 3) := by decide +kernel
theorem dX11_term_132 : decode cX11_term 132 = .ok (.goto 4, 3) := by decide +kernel
theorem dX11_term_135 : decode cX11_term 135 = .ok (.iconst (-1), 1) := by decide +kernel
theorem dX11_term_136 : decode cX11_term 136 = .ok (.invokevirtual 205, 3) := by decide +kernel
theorem dX11_term_139 : decode cX11_term 139 = .ok (.istore 6, 2) := by decide +kernel
theorem dX11_term_141 : decode cX11_term 141 = .ok (.aload_n 0, 1) := by decide +kernel
theorem dX11_term_142 : decode cX11_term 142 = .ok (.getfield 21, 3) := by decide +kernel
theorem dX11_term_145 : decode cX11_term 145 = .ok (.iload 6, 2) := by decide +kernel
theorem dX11_term_147 : decode cX11_term 147 = .ok (.invokevirtual 209, 3) := by decide +kernel
theorem dX11_term_150 : decode cX11_term 150 = .ok (.ifCond .eq 13, 3) := by decide +kernel
theorem dX11_term_163 : decode cX11_term 163 = .ok (.aload_n 0, 1) := by decide +kernel
theorem dX11_term_164 : decode cX11_term 164 = .ok (.iload 6, 2) := by decide +kernel
theorem dX11_term_166 : decode cX11_term 166 = .ok (.invokevirtual 217, 3) := by decide +kernel
theorem dX11_term_169 : decode cX11_term 169 = .ok (.ireturn, 1) := by decide +kernel
theorem dX11_tidy_0 : decode cX11_tidy 0 = .ok (.aload_n 0, 1) := by decide +kernel
theorem dX11_tidy_1 : decode cX11_tidy 1 = .ok (.getfield 21, 3) := by decide +kernel
theorem dX11_tidy_4 : decode cX11_tidy 4 = .ok (.invokevirtual 454, 3) := by decide +kernel
theorem dX11_tidy_7 : decode cX11_tidy 7 = .ok (.ifCond .ne 4, 3) := by decide +kernel
theorem dX11_tidy_10 : decode cX11_tidy 10 = .ok (.return_, 1) := by decide +kernel
theorem dX11_trim_0 : decode cX11_trim 0 = .ok (.iload_n 1, 1) := by decide +kernel
theorem dX11_trim_1 : decode cX11_trim 1 = .ok (.ifCond .lt 14, 3) := by decide +kernel
theorem dX11_trim_4 : decode cX11_trim 4 = .ok (.iload_n 1, 1) := by decide +kernel
theorem dX11_trim_5 : decode cX11_trim 5 = .ok (.aload_n 0, 1) := by decide +kernel
theorem dX11_trim_6 : decode cX11_trim 6 = .ok (.getfield 55, 3) := by decide +kernel
theorem dX11_trim_9 : decode cX11_trim 9 = .ok (.invokevirtual 94, 3) := by decide +kernel
theorem dX11_trim_12 : decode cX11_trim 12 = .ok (.if_icmp .le 13, 3) := by decide +kernel
theorem dX11_trim_25 : decode cX11_trim 25 = .ok (.aload_n 0, 1) := by decide +kernel
theorem dX11_trim_26 : decode cX11_trim 26 = .ok (.getfield 55, 3) := by decide +kernel
theorem dX11_trim_29 : decode cX11_trim 29 = .ok (.iload_n 1, 1) := by decide +kernel
theorem dX11_trim_30 : decode cX11_trim 30 = .ok (.invokevirtual 113, 3) := by decide +kernel
theorem dX11_trim_33 : decode cX11_trim 33 = .ok (.iload_n 1, 1) := by decide +kernel
theorem dX11_trim_34 : decode cX11_trim 34 = .ok (.ireturn, 1) := by decide +kernel
theorem dX1_areTwins_0 : decode cX1_areTwins 0 = .ok (.aload_n 0, 1) := by decide +kernel
theorem dX1_areTwins_1 : decode cX1_areTwins 1 = .ok (.getfield 30, 3) := by decide +kernel
theorem dX1_areTwins_4 : decode cX1_areTwins 4 = .ok (.iload_n 1, 1) := by decide +kernel
theorem dX1_areTwins_5 : decode cX1_areTwins 5 = .ok (.invokevirtual 78, 3) := by decide +kernel
theorem dX1_areTwins_8 : decode cX1_areTwins 8 = .ok (.aload_n 0, 1) := by decide +kernel
theorem dX1_areTwins_9 : decode cX1_areTwins 9 = .ok (.getfield 30, 3) := by decide +kernel
theorem dX1_areTwins_12 : decode cX1_areTwins 12 = .ok (.iload_n 2, 1) := by decide +kernel
theorem dX1_areTwins_13 : decode cX1_areTwins 13 = .ok (.invokevirtual 78, 3) := by decide +kernel
theorem dX1_areTwins_16 : decode cX1_areTwins 16 = .ok (.if_icmp .ne 7, 3) := by decide +kernel
theorem dX1_areTwins_19 : decode cX1_areTwins 19 = .ok (.iconst 1, 1) := by decide +kernel
theorem dX1_areTwins_20 : decode cX1_areTwins 20 = .ok (.goto 4, 3) := by decide +kernel
theorem dX1_areTwins_23 : decode cX1_areTwins 23 = .ok (.iconst 0, 1) := by decide +kernel
theorem dX1_areTwins_24 : decode cX1_areTwins 24 = .ok (.istore_n 3, 1) := by decide +kernel
theorem dX1_areTwins_25 : decode cX1_areTwins 25 = .ok (.iconst 0, 1) := by decide +kernel
theorem dX1_areTwins_26 : decode cX1_areTwins 26 = .ok (.istore 4, 2) := by decide +kernel
theorem dX1_areTwins_28 : decode cX1_areTwins 28 = .ok (.iload 4, 2) := by decide +kernel
theorem dX1_areTwins_30 : decode cX1_areTwins 30 = .ok (.iconst 3, 1) := by decide +kernel
theorem dX1_areTwins_31 : decode cX1_areTwins 31 = .ok (.if_icmp .ge 62, 3) := by decide +kernel
theorem dX1_areTwins_34 : decode cX1_areTwins 34 = .ok (.iload_n 3, 1) := by decide +kernel
theorem dX1_areTwins_35 : decode cX1_areTwins 35 = .ok (.ifCond .eq 58, 3) := by decide +kernel
theorem dX1_areTwins_38 : decode cX1_areTwins 38 = .ok (.aload_n 0, 1) := by decide +kernel
theorem dX1_areTwins_39 : decode cX1_areTwins 39 = .ok (.getfield 15, 3) := by decide +kernel
theorem dX1_areTwins_42 : decode cX1_areTwins 42 = .ok (.aload_n 0, 1) := by decide +kernel
theorem dX1_areTwins_43 : decode cX1_areTwins 43 = .ok (.getfield 34, 3) := by decide +kernel
theorem dX1_areTwins_46 : decode cX1_areTwins 46 = .ok (.iconst 3, 1) := by decide +kernel
theorem dX1_areTwins_47 : decode cX1_areTwins 47 = .ok (.iload_n 1, 1) := by decide +kernel
theorem dX1_areTwins_48 : decode cX1_areTwins 48 = .ok (.imul, 1) := by decide +kernel
theorem dX1_areTwins_49 : decode cX1_areTwins 49 = .ok (.iload 4, 2) := by decide +kernel
theorem dX1_areTwins_51 : decode cX1_areTwins 51 = .ok (.iadd, 1) := by decide +kernel
theorem dX1_areTwins_52 : decode cX1_areTwins 52 = .ok (.invokevirtual 78, 3) := by decide +kernel
theorem dX1_areTwins_55 : decode cX1_areTwins 55 = .ok (.invokevirtual 78, 3) := by decide +kernel
theorem dX1_areTwins_58 : decode cX1_areTwins 58 = .ok (.aload_n 0, 1) := by decide +kernel
theorem dX1_areTwins_59 : decode cX1_areTwins 59 = .ok (.getfield 15, 3) := by decide +kernel
theorem dX1_areTwins_62 : decode cX1_areTwins 62 = .ok (.aload_n 0, 1) := by decide +kernel
theorem dX1_areTwins_63 : decode cX1_areTwins 63 = .ok (.getfield 34, 3) := by decide +kernel
theorem dX1_areTwins_66 : decode cX1_areTwins 66 = .ok (.iconst 3, 1) := by decide +kernel
theorem dX1_areTwins_67 : decode cX1_areTwins 67 = .ok (.iload_n 2, 1) := by decide +kernel
theorem dX1_areTwins_68 : decode cX1_areTwins 68 = .ok (.imul, 1) := by decide +kernel
theorem dX1_areTwins_69 : decode cX1_areTwins 69 = .ok (.iload 4, 2) := by decide +kernel
theorem dX1_areTwins_71 : decode cX1_areTwins 71 = .ok (.iadd, 1) := by decide +kernel
theorem dX1_areTwins_72 : decode cX1_areTwins 72 = .ok (.invokevirtual 78, 3) := by decide +kernel
theorem dX1_areTwins_75 : decode cX1_areTwins 75 = .ok (.invokevirtual 78, 3) := by decide +kernel
theorem dX1_areTwins_78 : decode cX1_areTwins 78 = .ok (.if_icmp .ne 7, 3) := by decide +kernel
theorem dX1_areTwins_81 : decode cX1_areTwins 81 = .ok (.iconst 1, 1) := by decide +kernel
theorem dX1_areTwins_82 : decode cX1_areTwins 82 = .ok (.goto 4, 3) := by decide +kernel
theorem dX1_areTwins_85 : decode cX1_areTwins 85 = .ok (.iconst 0, 1) := by decide +kernel
theorem dX1_areTwins_86 : decode cX1_areTwins 86 = .ok (.istore_n 3, 1) := by decide +kernel
theorem dX1_areTwins_87 : decode cX1_areTwins 87 = .ok (.iinc 4 1, 3) := by decide +kernel
theorem dX1_areTwins_90 : decode cX1_areTwins 90 = .ok (.goto (-62), 3) := by decide +kernel
theorem dX1_areTwins_93 : decode cX1_areTwins 93 = .ok (.iload_n 3, 1) := by decide +kernel
theorem dX1_areTwins_94 : decode cX1_areTwins 94 = .ok (.ireturn, 1) := by decide +kernel
theorem dX1_bucketOf_0 : decode cX1_bucketOf 0 = .ok (.aload_n 0, 1) := by decide +kernel
theorem dX1_bucketOf_1 : decode cX1_bucketOf 1 = .ok (.getfield 30, 3) := by decide +kernel
theorem dX1_bucketOf_4 : decode cX1_bucketOf 4 = .ok (.iload_n 1, 1) := by decide +kernel
theorem dX1_bucketOf_5 : decode cX1_bucketOf 5 = .ok (.invokevirtual 78, 3) := by decide +kernel
theorem dX1_bucketOf_8 : decode cX1_bucketOf 8 = .ok (.istore_n 2, 1) := by decide +kernel
theorem dX1_bucketOf_9 : decode cX1_bucketOf 9 = .ok (.iconst 0, 1) := by decide +kernel
theorem dX1_bucketOf_10 : decode cX1_bucketOf 10 = .ok (.istore_n 3, 1) := by decide +kernel
theorem dX1_bucketOf_11 : decode cX1_bucketOf 11 = .ok (.iload_n 3, 1) := by decide +kernel
theorem dX1_bucketOf_12 : decode cX1_bucketOf 12 = .ok (.iconst 3, 1) := by decide +kernel
theorem dX1_bucketOf_13 : decode cX1_bucketOf 13 = .ok (.if_icmp .ge 35, 3) := by decide +kernel
theorem dX1_bucketOf_16 : decode cX1_bucketOf 16 = .ok (.iload_n 2, 1) := by decide +kernel
theorem dX1_bucketOf_17 : decode cX1_bucketOf 17 = .ok (.sipush 8191, 3) := by decide +kernel
theorem dX1_bucketOf_20 : decode cX1_bucketOf 20 = .ok (.imul, 1) := by decide +kernel
theorem dX1_bucketOf_21 : decode cX1_bucketOf 21 = .ok (.aload_n 0, 1) := by decide +kernel
theorem dX1_bucketOf_22 : decode cX1_bucketOf 22 = .ok (.getfield 15, 3) := by decide +kernel
theorem dX1_bucketOf_25 : decode cX1_bucketOf 25 = .ok (.aload_n 0, 1) := by decide +kernel
theorem dX1_bucketOf_26 : decode cX1_bucketOf 26 = .ok (.getfield 34, 3) := by decide +kernel
theorem dX1_bucketOf_29 : decode cX1_bucketOf 29 = .ok (.iconst 3, 1) := by decide +kernel
theorem dX1_bucketOf_30 : decode cX1_bucketOf 30 = .ok (.iload_n 1, 1) := by decide +kernel
theorem dX1_bucketOf_31 : decode cX1_bucketOf 31 = .ok (.imul, 1) := by decide +kernel
theorem dX1_bucketOf_32 : decode cX1_bucketOf 32 = .ok (.iload_n 3, 1) := by decide +kernel
theorem dX1_bucketOf_33 : decode cX1_bucketOf 33 = .ok (.iadd, 1) := by decide +kernel
theorem dX1_bucketOf_34 : decode cX1_bucketOf 34 = .ok (.invokevirtual 78, 3) := by decide +kernel
theorem dX1_bucketOf_37 : decode cX1_bucketOf 37 = .ok (.invokevirtual 78, 3) := by decide +kernel
theorem dX1_bucketOf_40 : decode cX1_bucketOf 40 = .ok (.iadd, 1) := by decide +kernel
theorem dX1_bucketOf_41 : decode cX1_bucketOf 41 = .ok (.istore_n 2, 1) := by decide +kernel
theorem dX1_bucketOf_42 : decode cX1_bucketOf 42 = .ok (.iinc 3 1, 3) := by decide +kernel
theorem dX1_bucketOf_45 : decode cX1_bucketOf 45 = .ok (.goto (-34), 3) := by decide +kernel
theorem dX1_bucketOf_48 : decode cX1_bucketOf 48 = .ok (.iload_n 2, 1) := by decide +kernel
theorem dX1_bucketOf_49 : decode cX1_bucketOf 49 = .ok (.ldc 95, 2) := by decide +kernel
theorem dX1_bucketOf_51 : decode cX1_bucketOf 51 = .ok (.imul, 1) := by decide +kernel
theorem dX1_bucketOf_52 : decode cX1_bucketOf 52 = .ok (.istore_n 2, 1) := by decide +kernel
theorem dX1_bucketOf_53 : decode cX1_bucketOf 53 = .ok (.iload_n 2, 1) := by decide +kernel
theorem dX1_bucketOf_54 : decode cX1_bucketOf 54 = .ok (.iload_n 2, 1) := by decide +kernel
theorem dX1_bucketOf_55 : decode cX1_bucketOf 55 = .ok (.bipush 15, 2) := by decide +kernel
theorem dX1_bucketOf_57 : decode cX1_bucketOf 57 = .ok (.iushr, 1) := by decide +kernel
theorem dX1_bucketOf_58 : decode cX1_bucketOf 58 = .ok (.ixor, 1) := by decide +kernel
theorem dX1_bucketOf_59 : decode cX1_bucketOf 59 = .ok (.istore_n 2, 1) := by decide +kernel
theorem dX1_bucketOf_60 : decode cX1_bucketOf 60 = .ok (.iload_n 2, 1) := by decide +kernel
theorem dX1_bucketOf_61 : decode cX1_bucketOf 61 = .ok (.aload_n 0, 1) := by decide +kernel
theorem dX1_bucketOf_62 : decode cX1_bucketOf 62 = .ok (.getfield 51, 3) := by decide +kernel
theorem dX1_bucketOf_65 : decode cX1_bucketOf 65 = .ok (.iconst 1, 1) := by decide +kernel
theorem dX1_bucketOf_66 : decode cX1_bucketOf 66 = .ok (.isub, 1) := by decide +kernel
theorem dX1_bucketOf_67 : decode cX1_bucketOf 67 = .ok (.iand, 1) := by decide +kernel
theorem dX1_bucketOf_68 : decode cX1_bucketOf 68 = .ok (.ireturn, 1) := by decide +kernel
theorem dX1_close_0 : decode cX1_close 0 = .ok (.iconst 0, 1) := by decide +kernel
theorem dX1_close_1 : decode cX1_close 1 = .ok (.istore_n 1, 1) := by decide +kernel
theorem dX1_close_2 : decode cX1_close 2 = .ok (.iload_n 1, 1) := by decide +kernel
theorem dX1_close_3 : decode cX1_close 3 = .ok (.aload_n 0, 1) := by decide +kernel
theorem dX1_close_4 : decode cX1_close 4 = .ok (.getfield 47, 3) := by decide +kernel
theorem dX1_close_7 : decode cX1_close 7 = .ok (.invokevirtual 55, 3) := by decide +kernel
theorem dX1_close_10 : decode cX1_close 10 = .ok (.if_icmp .gt 17, 3) := by decide +kernel
theorem dX1_close_13 : decode cX1_close 13 = .ok (.aload_n 0, 1) := by decide +kernel
theorem dX1_close_14 : decode cX1_close 14 = .ok (.invokevirtual 81, 3) := by decide +kernel
theorem dX1_close_17 : decode cX1_close 17 = .ok (.ifCond .ne 4, 3) := by decide +kernel
theorem dX1_close_20 : decode cX1_close 20 = .ok (.return_, 1) := by decide +kernel
theorem dX1_close_21 : decode cX1_close 21 = .ok (.iinc 1 1, 3) := by decide +kernel
theorem dX1_close_24 : decode cX1_close 24 = .ok (.goto (-22), 3) := by decide +kernel
theorem dX1_close_27 : decode cX1_close 27 = .ok (.return_, 1) := by decide +kernel
theorem dX1_join_0 : decode cX1_join 0 = .ok (.aload_n 0, 1) := by decide +kernel
theorem dX1_join_1 : decode cX1_join 1 = .ok (.getfield 15, 3) := by decide +kernel
theorem dX1_join_4 : decode cX1_join 4 = .ok (.iload_n 1, 1) := by decide +kernel
theorem dX1_join_5 : decode cX1_join 5 = .ok (.invokevirtual 78, 3) := by decide +kernel
theorem dX1_join_8 : decode cX1_join 8 = .ok (.istore_n 3, 1) := by decide +kernel
theorem dX1_join_9 : decode cX1_join 9 = .ok (.aload_n 0, 1) := by decide +kernel
theorem dX1_join_10 : decode cX1_join 10 = .ok (.getfield 15, 3) := by decide +kernel
theorem dX1_join_13 : decode cX1_join 13 = .ok (.iload_n 2, 1) := by decide +kernel
theorem dX1_join_14 : decode cX1_join 14 = .ok (.invokevirtual 78, 3) := by decide +kernel
theorem dX1_join_17 : decode cX1_join 17 = .ok (.istore 4, 2) := by decide +kernel
theorem dX1_join_19 : decode cX1_join 19 = .ok (.iload_n 3, 1) := by decide +kernel
theorem dX1_join_20 : decode cX1_join 20 = .ok (.iload 4, 2) := by decide +kernel
theorem dX1_join_22 : decode cX1_join 22 = .ok (.if_icmp .ne 4, 3) := by decide +kernel
theorem dX1_join_25 : decode cX1_join 25 = .ok (.return_, 1) := by decide +kernel
theorem dX1_join_26 : decode cX1_join 26 = .ok (.aload_n 0, 1) := by decide +kernel
theorem dX1_join_27 : decode cX1_join 27 = .ok (.getfield 24, 3) := by decide +kernel
theorem dX1_join_30 : decode cX1_join 30 = .ok (.iload_n 3, 1) := by decide +kernel
theorem dX1_join_31 : decode cX1_join 31 = .ok (.invokevirtual 78, 3) := by decide +kernel
theorem dX1_join_34 : decode cX1_join 34 = .ok (.aload_n 0, 1) := by decide +kernel
theorem dX1_join_35 : decode cX1_join 35 = .ok (.getfield 24, 3) := by decide +kernel
theorem dX1_join_38 : decode cX1_join 38 = .ok (.iload 4, 2) := by decide +kernel
theorem dX1_join_40 : decode cX1_join 40 = .ok (.invokevirtual 78, 3) := by decide +kernel
theorem dX1_join_43 : decode cX1_join 43 = .ok (.if_icmp .ge 16, 3) := by decide +kernel
theorem dX1_join_46 : decode cX1_join 46 = .ok (.iload 4, 2) := by decide +kernel
theorem dX1_join_48 : decode cX1_join 48 = .ok (.istore_n 3, 1) := by decide +kernel
theorem dX1_join_49 : decode cX1_join 49 = .ok (.aload_n 0, 1) := by decide +kernel
theorem dX1_join_50 : decode cX1_join 50 = .ok (.getfield 15, 3) := by decide +kernel
theorem dX1_join_53 : decode cX1_join 53 = .ok (.iload_n 1, 1) := by decide +kernel
theorem dX1_join_54 : decode cX1_join 54 = .ok (.invokevirtual 78, 3) := by decide +kernel
theorem dX1_join_57 : decode cX1_join 57 = .ok (.istore 4, 2) := by decide +kernel
theorem dX1_join_59 : decode cX1_join 59 = .ok (.iload 4, 2) := by decide +kernel
theorem dX1_join_61 : decode cX1_join 61 = .ok (.istore 5, 2) := by decide +kernel
theorem dX1_join_63 : decode cX1_join 63 = .ok (.iconst 0, 1) := by decide +kernel
theorem dX1_join_64 : decode cX1_join 64 = .ok (.istore 6, 2) := by decide +kernel
theorem dX1_join_66 : decode cX1_join 66 = .ok (.iload 6, 2) := by decide +kernel
theorem dX1_join_68 : decode cX1_join 68 = .ok (.aload_n 0, 1) := by decide +kernel
theorem dX1_join_69 : decode cX1_join 69 = .ok (.getfield 24, 3) := by decide +kernel
theorem dX1_join_72 : decode cX1_join 72 = .ok (.iload 4, 2) := by decide +kernel
theorem dX1_join_74 : decode cX1_join 74 = .ok (.invokevirtual 78, 3) := by decide +kernel
theorem dX1_join_77 : decode cX1_join 77 = .ok (.if_icmp .ge 30, 3) := by decide +kernel
theorem dX1_join_80 : decode cX1_join 80 = .ok (.aload_n 0, 1) := by decide +kernel
theorem dX1_join_81 : decode cX1_join 81 = .ok (.getfield 15, 3) := by decide +kernel
theorem dX1_join_84 : decode cX1_join 84 = .ok (.iload 5, 2) := by decide +kernel
theorem dX1_join_86 : decode cX1_join 86 = .ok (.iload_n 3, 1) := by decide +kernel
theorem dX1_join_87 : decode cX1_join 87 = .ok (.invokevirtual 61, 3) := by decide +kernel
theorem dX1_join_90 : decode cX1_join 90 = .ok (.aload_n 0, 1) := by decide +kernel
theorem dX1_join_91 : decode cX1_join 91 = .ok (.getfield 21, 3) := by decide +kernel
theorem dX1_join_94 : decode cX1_join 94 = .ok (.iload 5, 2) := by decide +kernel
theorem dX1_join_96 : decode cX1_join 96 = .ok (.invokevirtual 78, 3) := by decide +kernel
theorem dX1_join_99 : decode cX1_join 99 = .ok (.istore 5, 2) := by decide +kernel
theorem dX1_join_101 : decode cX1_join 101 = .ok (.iinc 6 1, 3) := by decide +kernel
theorem dX1_join_104 : decode cX1_join 104 = .ok (.goto (-38), 3) := by decide +kernel
theorem dX1_join_107 : decode cX1_join 107 = .ok (.aload_n 0, 1) := by decide +kernel
theorem dX1_join_108 : decode cX1_join 108 = .ok (.getfield 24, 3) := by decide +kernel
theorem dX1_join_111 : decode cX1_join 111 = .ok (.iload_n 3, 1) := by decide +kernel
theorem dX1_join_112 : decode cX1_join 112 = .ok (.aload_n 0, 1) := by decide +kernel
theorem dX1_join_113 : decode cX1_join 113 = .ok (.getfield 24, 3) := by decide +kernel
theorem dX1_join_116 : decode cX1_join 116 = .ok (.iload_n 3, 1) := by decide +kernel
theorem dX1_join_117 : decode cX1_join 117 = .ok (.invokevirtual 78, 3) := by decide +kernel
theorem dX1_join_120 : decode cX1_join 120 = .ok (.aload_n 0, 1) := by decide +kernel
theorem dX1_join_121 : decode cX1_join 121 = .ok (.getfield 24, 3) := by decide +kernel
theorem dX1_join_124 : decode cX1_join 124 = .ok (.iload 4, 2) := by decide +kernel
theorem dX1_join_126 : decode cX1_join 126 = .ok (.invokevirtual 78, 3) := by decide +kernel
theorem dX1_join_129 : decode cX1_join 129 = .ok (.iadd, 1) := by decide +kernel
theorem dX1_join_130 : decode cX1_join 130 = .ok (.invokevirtual 61, 3) := by decide +kernel
theorem dX1_join_133 : decode cX1_join 133 = .ok (.aload_n 0, 1) := by decide +kernel
theorem dX1_join_134 : decode cX1_join 134 = .ok (.getfield 21, 3) := by decide +kernel
theorem dX1_join_137 : decode cX1_join 137 = .ok (.iload_n 3, 1) := by decide +kernel
theorem dX1_join_138 : decode cX1_join 138 = .ok (.invokevirtual 78, 3) := by decide +kernel
theorem dX1_join_141 : decode cX1_join 141 = .ok (.istore 6, 2) := by decide +kernel
theorem dX1_join_143 : decode cX1_join 143 = .ok (.aload_n 0, 1) := by decide +kernel
theorem dX1_join_144 : decode cX1_join 144 = .ok (.getfield 21, 3) := by decide +kernel
theorem dX1_join_147 : decode cX1_join 147 = .ok (.iload_n 3, 1) := by decide +kernel
theorem dX1_join_148 : decode cX1_join 148 = .ok (.aload_n 0, 1) := by decide +kernel
theorem dX1_join_149 : decode cX1_join 149 = .ok (.getfield 21, 3) := by decide +kernel
theorem dX1_join_152 : decode cX1_join 152 = .ok (.iload 4, 2) := by decide +kernel
theorem dX1_join_154 : decode cX1_join 154 = .ok (.invokevirtual 78, 3) := by decide +kernel
theorem dX1_join_157 : decode cX1_join 157 = .ok (.invokevirtual 61, 3) := by decide +kernel
theorem dX1_join_160 : decode cX1_join 160 = .ok (.aload_n 0, 1) := by decide +kernel
theorem dX1_join_161 : decode cX1_join 161 = .ok (.getfield 21, 3) := by decide +kernel
theorem dX1_join_164 : decode cX1_join 164 = .ok (.iload 4, 2) := by decide +kernel
theorem dX1_join_166 : decode cX1_join 166 = .ok (.iload 6, 2) := by decide +kernel
theorem dX1_join_168 : decode cX1_join 168 = .ok (.invokevirtual 61, 3) := by decide +kernel
theorem dX1_join_171 : decode cX1_join 171 = .ok (.return_, 1) := by decide +kernel
theorem dX1_joinTwins_0 : decode cX1_joinTwins 0 = .ok (.iconst 0, 1) := by decide +kernel
theorem dX1_joinTwins_1 : decode cX1_joinTwins 1 = .ok (.istore_n 1, 1) := by decide +kernel
theorem dX1_joinTwins_2 : decode cX1_joinTwins 2 = .ok (.iconst 0, 1) := by decide +kernel
theorem dX1_joinTwins_3 : decode cX1_joinTwins 3 = .ok (.istore_n 2, 1) := by decide +kernel
theorem dX1_joinTwins_4 : decode cX1_joinTwins 4 = .ok (.iload_n 2, 1) := by decide +kernel
theorem dX1_joinTwins_5 : decode cX1_joinTwins 5 = .ok (.aload_n 0, 1) := by decide +kernel
theorem dX1_joinTwins_6 : decode cX1_joinTwins 6 = .ok (.getfield 51, 3) := by decide +kernel
theorem dX1_joinTwins_9 : decode cX1_joinTwins 9 = .ok (.if_icmp .ge 18, 3) := by decide +kernel
theorem dX1_joinTwins_12 : decode cX1_joinTwins 12 = .ok (.aload_n 0, 1) := by decide +kernel
theorem dX1_joinTwins_13 : decode cX1_joinTwins 13 = .ok (.getfield 37, 3) := by decide +kernel
theorem dX1_joinTwins_16 : decode cX1_joinTwins 16 = .ok (.iload_n 2, 1) := by decide +kernel
theorem dX1_joinTwins_17 : decode cX1_joinTwins 17 = .ok (.iconst 0, 1) := by decide +kernel
theorem dX1_joinTwins_18 : decode cX1_joinTwins 18 = .ok (.invokevirtual 61, 3) := by decide +kernel
theorem dX1_joinTwins_21 : decode cX1_joinTwins 21 = .ok (.iinc 2 1, 3) := by decide +kernel
theorem dX1_joinTwins_24 : decode cX1_joinTwins 24 = .ok (.goto (-20), 3) := by decide +kernel
theorem dX1_joinTwins_27 : decode cX1_joinTwins 27 = .ok (.iconst 0, 1) := by decide +kernel
theorem dX1_joinTwins_28 : decode cX1_joinTwins 28 = .ok (.istore_n 2, 1) := by decide +kernel
theorem dX1_joinTwins_29 : decode cX1_joinTwins 29 = .ok (.iload_n 2, 1) := by decide +kernel
theorem dX1_joinTwins_30 : decode cX1_joinTwins 30 = .ok (.aload_n 0, 1) := by decide +kernel
theorem dX1_joinTwins_31 : decode cX1_joinTwins 31 = .ok (.getfield 47, 3) := by decide +kernel
theorem dX1_joinTwins_34 : decode cX1_joinTwins 34 = .ok (.invokevirtual 55, 3) := by decide +kernel
theorem dX1_joinTwins_37 : decode cX1_joinTwins 37 = .ok (.if_icmp .ge 158, 3) := by decide +kernel
theorem dX1_joinTwins_40 : decode cX1_joinTwins 40 = .ok (.aload_n 0, 1) := by decide +kernel
theorem dX1_joinTwins_41 : decode cX1_joinTwins 41 = .ok (.iload_n 2, 1) := by decide +kernel
theorem dX1_joinTwins_42 : decode cX1_joinTwins 42 = .ok (.invokevirtual 85, 3) := by decide +kernel
theorem dX1_joinTwins_45 : decode cX1_joinTwins 45 = .ok (.istore_n 3, 1) := by decide +kernel
theorem dX1_joinTwins_46 : decode cX1_joinTwins 46 = .ok (.aload_n 0, 1) := by decide +kernel
theorem dX1_joinTwins_47 : decode cX1_joinTwins 47 = .ok (.getfield 37, 3) := by decide +kernel
theorem dX1_joinTwins_50 : decode cX1_joinTwins 50 = .ok (.iload_n 3, 1) := by decide +kernel
theorem dX1_joinTwins_51 : decode cX1_joinTwins 51 = .ok (.invokevirtual 78, 3) := by decide +kernel
theorem dX1_joinTwins_54 : decode cX1_joinTwins 54 = .ok (.iconst 1, 1) := by decide +kernel
theorem dX1_joinTwins_55 : decode cX1_joinTwins 55 = .ok (.isub, 1) := by decide +kernel
theorem dX1_joinTwins_56 : decode cX1_joinTwins 56 = .ok (.istore 4, 2) := by decide +kernel
theorem dX1_joinTwins_58 : decode cX1_joinTwins 58 = .ok (.iconst 0, 1) := by decide +kernel
theorem dX1_joinTwins_59 : decode cX1_joinTwins 59 = .ok (.istore 5, 2) := by decide +kernel
theorem dX1_joinTwins_61 : decode cX1_joinTwins 61 = .ok (.iload 5, 2) := by decide +kernel
theorem dX1_joinTwins_63 : decode cX1_joinTwins 63 = .ok (.aload_n 0, 1) := by decide +kernel
theorem dX1_joinTwins_64 : decode cX1_joinTwins 64 = .ok (.getfield 47, 3) := by decide +kernel
theorem dX1_joinTwins_67 : decode cX1_joinTwins 67 = .ok (.invokevirtual 55, 3) := by decide +kernel
theorem dX1_joinTwins_70 : decode cX1_joinTwins 70 = .ok (.if_icmp .ge 37, 3) := by decide +kernel
theorem dX1_joinTwins_73 : decode cX1_joinTwins 73 = .ok (.iload 4, 2) := by decide +kernel
theorem dX1_joinTwins_75 : decode cX1_joinTwins 75 = .ok (.ifCond .lt 32, 3) := by decide +kernel
theorem dX1_joinTwins_78 : decode cX1_joinTwins 78 = .ok (.aload_n 0, 1) := by decide +kernel
theorem dX1_joinTwins_79 : decode cX1_joinTwins 79 = .ok (.iload_n 2, 1) := by decide +kernel
theorem dX1_joinTwins_80 : decode cX1_joinTwins 80 = .ok (.iload 4, 2) := by decide +kernel
theorem dX1_joinTwins_82 : decode cX1_joinTwins 82 = .ok (.invokevirtual 88, 3) := by decide +kernel
theorem dX1_joinTwins_85 : decode cX1_joinTwins 85 = .ok (.ifCond .ne 22, 3) := by decide +kernel
theorem dX1_joinTwins_88 : decode cX1_joinTwins 88 = .ok (.aload_n 0, 1) := by decide +kernel
theorem dX1_joinTwins_89 : decode cX1_joinTwins 89 = .ok (.getfield 40, 3) := by decide +kernel
theorem dX1_joinTwins_92 : decode cX1_joinTwins 92 = .ok (.iload 4, 2) := by decide +kernel
theorem dX1_joinTwins_94 : decode cX1_joinTwins 94 = .ok (.invokevirtual 78, 3) := by decide +kernel
theorem dX1_joinTwins_97 : decode cX1_joinTwins 97 = .ok (.iconst 1, 1) := by decide +kernel
theorem dX1_joinTwins_98 : decode cX1_joinTwins 98 = .ok (.isub, 1) := by decide +kernel
theorem dX1_joinTwins_99 : decode cX1_joinTwins 99 = .ok (.istore 4, 2) := by decide +kernel
theorem dX1_joinTwins_101 : decode cX1_joinTwins 101 = .ok (.iinc 5 1, 3) := by decide +kernel
theorem dX1_joinTwins_104 : decode cX1_joinTwins 104 = .ok (.goto (-43), 3) := by decide +kernel
theorem dX1_joinTwins_107 : decode cX1_joinTwins 107 = .ok (.aload_n 0, 1) := by decide +kernel
theorem dX1_joinTwins_108 : decode cX1_joinTwins 108 = .ok (.getfield 27, 3) := by decide +kernel
theorem dX1_joinTwins_111 : decode cX1_joinTwins 111 = .ok (.iload_n 2, 1) := by decide +kernel
theorem dX1_joinTwins_112 : decode cX1_joinTwins 112 = .ok (.iload 4, 2) := by decide +kernel
theorem dX1_joinTwins_114 : decode cX1_joinTwins 114 = .ok (.ifCond .ge 7, 3) := by decide +kernel
theorem dX1_joinTwins_117 : decode cX1_joinTwins 117 = .ok (.iconst 0, 1) := by decide +kernel
theorem dX1_joinTwins_118 : decode cX1_joinTwins 118 = .ok (.goto 4, 3) := by decide +kernel
theorem dX1_joinTwins_121 : decode cX1_joinTwins 121 = .ok (.iconst 1, 1) := by decide +kernel
theorem dX1_joinTwins_122 : decode cX1_joinTwins 122 = .ok (.invokevirtual 61, 3) := by decide +kernel
theorem dX1_joinTwins_125 : decode cX1_joinTwins 125 = .ok (.iload 4, 2) := by decide +kernel
theorem dX1_joinTwins_127 : decode cX1_joinTwins 127 = .ok (.ifCond .ge 33, 3) := by decide +kernel
theorem dX1_joinTwins_130 : decode cX1_joinTwins 130 = .ok (.aload_n 0, 1) := by decide +kernel
theorem dX1_joinTwins_131 : decode cX1_joinTwins 131 = .ok (.getfield 40, 3) := by decide +kernel
theorem dX1_joinTwins_134 : decode cX1_joinTwins 134 = .ok (.iload_n 2, 1) := by decide +kernel
theorem dX1_joinTwins_135 : decode cX1_joinTwins 135 = .ok (.aload_n 0, 1) := by decide +kernel
theorem dX1_joinTwins_136 : decode cX1_joinTwins 136 = .ok (.getfield 37, 3) := by decide +kernel
theorem dX1_joinTwins_139 : decode cX1_joinTwins 139 = .ok (.iload_n 3, 1) := by decide +kernel
theorem dX1_joinTwins_140 : decode cX1_joinTwins 140 = .ok (.invokevirtual 78, 3) := by decide +kernel
theorem dX1_joinTwins_143 : decode cX1_joinTwins 143 = .ok (.invokevirtual 61, 3) := by decide +kernel
theorem dX1_joinTwins_146 : decode cX1_joinTwins 146 = .ok (.aload_n 0, 1) := by decide +kernel
theorem dX1_joinTwins_147 : decode cX1_joinTwins 147 = .ok (.getfield 37, 3) := by decide +kernel
theorem dX1_joinTwins_150 : decode cX1_joinTwins 150 = .ok (.iload_n 3, 1) := by decide +kernel
theorem dX1_joinTwins_151 : decode cX1_joinTwins 151 = .ok (.iload_n 2, 1) := by decide +kernel
theorem dX1_joinTwins_152 : decode cX1_joinTwins 152 = .ok (.iconst 1, 1) := by decide +kernel
theorem dX1_joinTwins_153 : decode cX1_joinTwins 153 = .ok (.iadd, 1) := by decide +kernel
theorem dX1_joinTwins_154 : decode cX1_joinTwins 154 = .ok (.invokevirtual 61, 3) := by decide +kernel
theorem dX1_joinTwins_157 : decode cX1_joinTwins 157 = .ok (.goto 32, 3) := by decide +kernel
theorem dX1_joinTwins_160 : decode cX1_joinTwins 160 = .ok (.aload_n 0, 1) := by decide +kernel
theorem dX1_joinTwins_161 : decode cX1_joinTwins 161 = .ok (.getfield 15, 3) := by decide +kernel
theorem dX1_joinTwins_164 : decode cX1_joinTwins 164 = .ok (.iload 4, 2) := by decide +kernel
theorem dX1_joinTwins_166 : decode cX1_joinTwins 166 = .ok (.invokevirtual 78, 3) := by decide +kernel
theorem dX1_joinTwins_169 : decode cX1_joinTwins 169 = .ok (.aload_n 0, 1) := by decide +kernel
theorem dX1_joinTwins_170 : decode cX1_joinTwins 170 = .ok (.getfield 15, 3) := by decide +kernel
theorem dX1_joinTwins_173 : decode cX1_joinTwins 173 = .ok (.iload_n 2, 1) := by decide +kernel
theorem dX1_joinTwins_174 : decode cX1_joinTwins 174 = .ok (.invokevirtual 78, 3) := by decide +kernel
theorem dX1_joinTwins_177 : decode cX1_joinTwins 177 = .ok (.if_icmp .eq 12, 3) := by decide +kernel
theorem dX1_joinTwins_180 : decode cX1_joinTwins 180 = .ok (.aload_n 0, 1) := by decide +kernel
theorem dX1_joinTwins_181 : decode cX1_joinTwins 181 = .ok (.iload 4, 2) := by decide +kernel
theorem dX1_joinTwins_183 : decode cX1_joinTwins 183 = .ok (.iload_n 2, 1) := by decide +kernel
theorem dX1_joinTwins_184 : decode cX1_joinTwins 184 = .ok (.invokevirtual 92, 3) := by decide +kernel
theorem dX1_joinTwins_187 : decode cX1_joinTwins 187 = .ok (.iconst 1, 1) := by decide +kernel
theorem dX1_joinTwins_188 : decode cX1_joinTwins 188 = .ok (.istore_n 1, 1) := by decide +kernel
theorem dX1_joinTwins_189 : decode cX1_joinTwins 189 = .ok (.iinc 2 1, 3) := by decide +kernel
theorem dX1_joinTwins_192 : decode cX1_joinTwins 192 = .ok (.goto (-163), 3) := by decide +kernel
theorem dX1_joinTwins_195 : decode cX1_joinTwins 195 = .ok (.iload_n 1, 1) := by decide +kernel
theorem dX1_joinTwins_196 : decode cX1_joinTwins 196 = .ok (.ireturn, 1) := by decide +kernel
theorem dX1_pourInto_0 : decode cX1_pourInto 0 = .ok (.aload_n 1, 1) := by decide +kernel
theorem dX1_pourInto_1 : decode cX1_pourInto 1 = .ok (.aload_n 0, 1) := by decide +kernel
theorem dX1_pourInto_2 : decode cX1_pourInto 2 = .ok (.getfield 47, 3) := by decide +kernel
theorem dX1_pourInto_5 : decode cX1_pourInto 5 = .ok (.invokevirtual 55, 3) := by decide +kernel
theorem dX1_pourInto_8 : decode cX1_pourInto 8 = .ok (.invokevirtual 96, 3) := by decide +kernel
theorem dX1_pourInto_11 : decode cX1_pourInto 11 = .ok (.iconst 0, 1) := by decide +kernel
theorem dX1_pourInto_12 : decode cX1_pourInto 12 = .ok (.istore_n 2, 1) := by decide +kernel
theorem dX1_pourInto_13 : decode cX1_pourInto 13 = .ok (.iload_n 2, 1) := by decide +kernel
theorem dX1_pourInto_14 : decode cX1_pourInto 14 = .ok (.aload_n 0, 1) := by decide +kernel
theorem dX1_pourInto_15 : decode cX1_pourInto 15 = .ok (.getfield 47, 3) := by decide +kernel
theorem dX1_pourInto_18 : decode cX1_pourInto 18 = .ok (.invokevirtual 55, 3) := by decide +kernel
theorem dX1_pourInto_21 : decode cX1_pourInto 21 = .ok (.if_icmp .ge 94, 3) := by decide +kernel
theorem dX1_pourInto_24 : decode cX1_pourInto 24 = .ok (.aload_n 0, 1) := by decide +kernel
theorem dX1_pourInto_25 : decode cX1_pourInto 25 = .ok (.getfield 27, 3) := by decide +kernel
theorem dX1_pourInto_28 : decode cX1_pourInto 28 = .ok (.iload_n 2, 1) := by decide +kernel
theorem dX1_pourInto_29 : decode cX1_pourInto 29 = .ok (.invokevirtual 78, 3) := by decide +kernel
theorem dX1_pourInto_32 : decode cX1_pourInto 32 = .ok (.ifCond .ne 77, 3) := by decide +kernel
theorem dX1_pourInto_35 : decode cX1_pourInto 35 = .ok (.aload_n 1, 1) := by decide +kernel
theorem dX1_pourInto_36 : decode cX1_pourInto 36 = .ok (.aload_n 0, 1) := by decide +kernel
theorem dX1_pourInto_37 : decode cX1_pourInto 37 = .ok (.getfield 15, 3) := by decide +kernel
theorem dX1_pourInto_40 : decode cX1_pourInto 40 = .ok (.iload_n 2, 1) := by decide +kernel
theorem dX1_pourInto_41 : decode cX1_pourInto 41 = .ok (.invokevirtual 78, 3) := by decide +kernel
theorem dX1_pourInto_44 : decode cX1_pourInto 44 = .ok (.aload_n 0, 1) := by decide +kernel
theorem dX1_pourInto_45 : decode cX1_pourInto 45 = .ok (.getfield 43, 3) := by decide +kernel
theorem dX1_pourInto_48 : decode cX1_pourInto 48 = .ok (.aload_n 0, 1) := by decide +kernel
theorem dX1_pourInto_49 : decode cX1_pourInto 49 = .ok (.getfield 47, 3) := by decide +kernel
theorem dX1_pourInto_52 : decode cX1_pourInto 52 = .ok (.iload_n 2, 1) := by decide +kernel
theorem dX1_pourInto_53 : decode cX1_pourInto 53 = .ok (.invokevirtual 65, 3) := by decide +kernel
theorem dX1_pourInto_56 : decode cX1_pourInto 56 = .ok (.invokevirtual 69, 3) := by decide +kernel
theorem dX1_pourInto_59 : decode cX1_pourInto 59 = .ok (.invokevirtual 101, 3) := by decide +kernel
theorem dX1_pourInto_62 : decode cX1_pourInto 62 = .ok (.istore_n 3, 1) := by decide +kernel
theorem dX1_pourInto_63 : decode cX1_pourInto 63 = .ok (.iconst 0, 1) := by decide +kernel
theorem dX1_pourInto_64 : decode cX1_pourInto 64 = .ok (.istore 4, 2) := by decide +kernel
theorem dX1_pourInto_66 : decode cX1_pourInto 66 = .ok (.iload 4, 2) := by decide +kernel
theorem dX1_pourInto_68 : decode cX1_pourInto 68 = .ok (.aload_n 1, 1) := by decide +kernel
theorem dX1_pourInto_69 : decode cX1_pourInto 69 = .ok (.iload_n 3, 1) := by decide +kernel
theorem dX1_pourInto_70 : decode cX1_pourInto 70 = .ok (.invokevirtual 104, 3) := by decide +kernel
theorem dX1_pourInto_73 : decode cX1_pourInto 73 = .ok (.if_icmp .ge 36, 3) := by decide +kernel
theorem dX1_pourInto_76 : decode cX1_pourInto 76 = .ok (.aload_n 1, 1) := by decide +kernel
theorem dX1_pourInto_77 : decode cX1_pourInto 77 = .ok (.iload_n 3, 1) := by decide +kernel
theorem dX1_pourInto_78 : decode cX1_pourInto 78 = .ok (.iload 4, 2) := by decide +kernel
theorem dX1_pourInto_80 : decode cX1_pourInto 80 = .ok (.aload_n 0, 1) := by decide +kernel
theorem dX1_pourInto_81 : decode cX1_pourInto 81 = .ok (.getfield 15, 3) := by decide +kernel
theorem dX1_pourInto_84 : decode cX1_pourInto 84 = .ok (.aload_n 0, 1) := by decide +kernel
theorem dX1_pourInto_85 : decode cX1_pourInto 85 = .ok (.getfield 34, 3) := by decide +kernel
theorem dX1_pourInto_88 : decode cX1_pourInto 88 = .ok (.iconst 3, 1) := by decide +kernel
theorem dX1_pourInto_89 : decode cX1_pourInto 89 = .ok (.iload_n 2, 1) := by decide +kernel
theorem dX1_pourInto_90 : decode cX1_pourInto 90 = .ok (.imul, 1) := by decide +kernel
theorem dX1_pourInto_91 : decode cX1_pourInto 91 = .ok (.iload 4, 2) := by decide +kernel
theorem dX1_pourInto_93 : decode cX1_pourInto 93 = .ok (.iadd, 1) := by decide +kernel
theorem dX1_pourInto_94 : decode cX1_pourInto 94 = .ok (.invokevirtual 78, 3) := by decide +kernel
theorem dX1_pourInto_97 : decode cX1_pourInto 97 = .ok (.invokevirtual 78, 3) := by decide +kernel
theorem dX1_pourInto_100 : decode cX1_pourInto 100 = .ok (.invokevirtual 107, 3) := by decide +kernel
theorem dX1_pourInto_103 : decode cX1_pourInto 103 = .ok (.iinc 4 1, 3) := by decide +kernel
theorem dX1_pourInto_106 : decode cX1_pourInto 106 = .ok (.goto (-40), 3) := by decide +kernel
theorem dX1_pourInto_109 : decode cX1_pourInto 109 = .ok (.iinc 2 1, 3) := by decide +kernel
theorem dX1_pourInto_112 : decode cX1_pourInto 112 = .ok (.goto (-99), 3) := by decide +kernel
theorem dX1_pourInto_115 : decode cX1_pourInto 115 = .ok (.return_, 1) := by decide +kernel
theorem dX1_start_0 : decode cX1_start 0 = .ok (.aload_n 0, 1) := by decide +kernel
theorem dX1_start_1 : decode cX1_start 1 = .ok (.bipush 64, 2) := by decide +kernel
theorem dX1_start_3 : decode cX1_start 3 = .ok (.putfield 51, 3) := by decide +kernel
theorem dX1_start_6 : decode cX1_start 6 = .ok (.iconst 0, 1) := by decide +kernel
theorem dX1_start_7 : decode cX1_start 7 = .ok (.istore_n 1, 1) := by decide +kernel
theorem dX1_start_8 : decode cX1_start 8 = .ok (.iload_n 1, 1) := by decide +kernel
theorem dX1_start_9 : decode cX1_start 9 = .ok (.aload_n 0, 1) := by decide +kernel
theorem dX1_start_10 : decode cX1_start 10 = .ok (.getfield 47, 3) := by decide +kernel
theorem dX1_start_13 : decode cX1_start 13 = .ok (.invokevirtual 55, 3) := by decide +kernel
theorem dX1_start_16 : decode cX1_start 16 = .ok (.if_icmp .ge 121, 3) := by decide +kernel
theorem dX1_start_19 : decode cX1_start 19 = .ok (.aload_n 0, 1) := by decide +kernel
theorem dX1_start_20 : decode cX1_start 20 = .ok (.getfield 15, 3) := by decide +kernel
theorem dX1_start_23 : decode cX1_start 23 = .ok (.iload_n 1, 1) := by decide +kernel
theorem dX1_start_24 : decode cX1_start 24 = .ok (.iload_n 1, 1) := by decide +kernel
theorem dX1_start_25 : decode cX1_start 25 = .ok (.invokevirtual 61, 3) := by decide +kernel
theorem dX1_start_28 : decode cX1_start 28 = .ok (.aload_n 0, 1) := by decide +kernel
theorem dX1_start_29 : decode cX1_start 29 = .ok (.getfield 21, 3) := by decide +kernel
theorem dX1_start_32 : decode cX1_start 32 = .ok (.iload_n 1, 1) := by decide +kernel
theorem dX1_start_33 : decode cX1_start 33 = .ok (.iload_n 1, 1) := by decide +kernel
theorem dX1_start_34 : decode cX1_start 34 = .ok (.invokevirtual 61, 3) := by decide +kernel
theorem dX1_start_37 : decode cX1_start 37 = .ok (.aload_n 0, 1) := by decide +kernel
theorem dX1_start_38 : decode cX1_start 38 = .ok (.getfield 24, 3) := by decide +kernel
theorem dX1_start_41 : decode cX1_start 41 = .ok (.iload_n 1, 1) := by decide +kernel
theorem dX1_start_42 : decode cX1_start 42 = .ok (.iconst 1, 1) := by decide +kernel
theorem dX1_start_43 : decode cX1_start 43 = .ok (.invokevirtual 61, 3) := by decide +kernel
theorem dX1_start_46 : decode cX1_start 46 = .ok (.aload_n 0, 1) := by decide +kernel
theorem dX1_start_47 : decode cX1_start 47 = .ok (.getfield 30, 3) := by decide +kernel
theorem dX1_start_50 : decode cX1_start 50 = .ok (.iload_n 1, 1) := by decide +kernel
theorem dX1_start_51 : decode cX1_start 51 = .ok (.aload_n 0, 1) := by decide +kernel
theorem dX1_start_52 : decode cX1_start 52 = .ok (.getfield 43, 3) := by decide +kernel
theorem dX1_start_55 : decode cX1_start 55 = .ok (.aload_n 0, 1) := by decide +kernel
theorem dX1_start_56 : decode cX1_start 56 = .ok (.getfield 47, 3) := by decide +kernel
theorem dX1_start_59 : decode cX1_start 59 = .ok (.iload_n 1, 1) := by decide +kernel
theorem dX1_start_60 : decode cX1_start 60 = .ok (.invokevirtual 65, 3) := by decide +kernel
theorem dX1_start_63 : decode cX1_start 63 = .ok (.invokevirtual 69, 3) := by decide +kernel
theorem dX1_start_66 : decode cX1_start 66 = .ok (.invokevirtual 61, 3) := by decide +kernel
theorem dX1_start_69 : decode cX1_start 69 = .ok (.iconst 0, 1) := by decide +kernel
theorem dX1_start_70 : decode cX1_start 70 = .ok (.istore_n 2, 1) := by decide +kernel
theorem dX1_start_71 : decode cX1_start 71 = .ok (.iload_n 2, 1) := by decide +kernel
theorem dX1_start_72 : decode cX1_start 72 = .ok (.iconst 3, 1) := by decide +kernel
theorem dX1_start_73 : decode cX1_start 73 = .ok (.if_icmp .ge 30, 3) := by decide +kernel
theorem dX1_start_76 : decode cX1_start 76 = .ok (.aload_n 0, 1) := by decide +kernel
theorem dX1_start_77 : decode cX1_start 77 = .ok (.getfield 34, 3) := by decide +kernel
theorem dX1_start_80 : decode cX1_start 80 = .ok (.iconst 3, 1) := by decide +kernel
theorem dX1_start_81 : decode cX1_start 81 = .ok (.iload_n 1, 1) := by decide +kernel
theorem dX1_start_82 : decode cX1_start 82 = .ok (.imul, 1) := by decide +kernel
theorem dX1_start_83 : decode cX1_start 83 = .ok (.iload_n 2, 1) := by decide +kernel
theorem dX1_start_84 : decode cX1_start 84 = .ok (.iadd, 1) := by decide +kernel
theorem dX1_start_85 : decode cX1_start 85 = .ok (.aload_n 0, 1) := by decide +kernel
theorem dX1_start_86 : decode cX1_start 86 = .ok (.getfield 47, 3) := by decide +kernel
theorem dX1_start_89 : decode cX1_start 89 = .ok (.iload_n 1, 1) := by decide +kernel
theorem dX1_start_90 : decode cX1_start 90 = .ok (.iload_n 2, 1) := by decide +kernel
theorem dX1_start_91 : decode cX1_start 91 = .ok (.invokevirtual 74, 3) := by decide +kernel
theorem dX1_start_94 : decode cX1_start 94 = .ok (.invokevirtual 61, 3) := by decide +kernel
theorem dX1_start_97 : decode cX1_start 97 = .ok (.iinc 2 1, 3) := by decide +kernel
theorem dX1_start_100 : decode cX1_start 100 = .ok (.goto (-29), 3) := by decide +kernel
theorem dX1_start_103 : decode cX1_start 103 = .ok (.iload_n 1, 1) := by decide +kernel
theorem dX1_start_104 : decode cX1_start 104 = .ok (.aload_n 0, 1) := by decide +kernel
theorem dX1_start_105 : decode cX1_start 105 = .ok (.getfield 51, 3) := by decide +kernel
theorem dX1_start_108 : decode cX1_start 108 = .ok (.if_icmp .le 23, 3) := by decide +kernel
theorem dX1_start_111 : decode cX1_start 111 = .ok (.aload_n 0, 1) := by decide +kernel
theorem dX1_start_112 : decode cX1_start 112 = .ok (.getfield 51, 3) := by decide +kernel
theorem dX1_start_115 : decode cX1_start 115 = .ok (.sipush 16384, 3) := by decide +kernel
theorem dX1_start_118 : decode cX1_start 118 = .ok (.if_icmp .ge 13, 3) := by decide +kernel
theorem dX1_start_121 : decode cX1_start 121 = .ok (.aload_n 0, 1) := by decide +kernel
theorem dX1_start_122 : decode cX1_start 122 = .ok (.dup, 1) := by decide +kernel
theorem dX1_start_123 : decode cX1_start 123 = .ok (.getfield 51, 3) := by decide +kernel
theorem dX1_start_126 : decode cX1_start 126 = .ok (.iconst 2, 1) := by decide +kernel
theorem dX1_start_127 : decode cX1_start 127 = .ok (.imul, 1) := by decide +kernel
theorem dX1_start_128 : decode cX1_start 128 = .ok (.putfield 51, 3) := by decide +kernel
theorem dX1_start_131 : decode cX1_start 131 = .ok (.iinc 1 1, 3) := by decide +kernel
theorem dX1_start_134 : decode cX1_start 134 = .ok (.goto (-126), 3) := by decide +kernel
theorem dX1_start_137 : decode cX1_start 137 = .ok (.return_, 1) := by decide +kernel
theorem dX2_addProduction_0 : decode cX2_addProduction 0 = .ok (.aload_n 0, 1) := by decide +kernel
theorem dX2_addProduction_1 : decode cX2_addProduction 1 = .ok (.getfield 69, 3) := by decide +kernel
theorem dX2_addProduction_4 : decode cX2_addProduction 4 = .ok (.istore_n 3, 1) := by decide +kernel
theorem dX2_addProduction_5 : decode cX2_addProduction 5 = .ok (.aload_n 0, 1) := by decide +kernel
theorem dX2_addProduction_6 : decode cX2_addProduction 6 = .ok (.getfield 15, 3) := by decide +kernel
theorem dX2_addProduction_9 : decode cX2_addProduction 9 = .ok (.iload_n 3, 1) := by decide +kernel
theorem dX2_addProduction_10 : decode cX2_addProduction 10 = .ok (.iload_n 1, 1) := by decide +kernel
theorem dX2_addProduction_11 : decode cX2_addProduction 11 = .ok (.invokevirtual 72, 3) := by decide +kernel
theorem dX2_addProduction_14 : decode cX2_addProduction 14 = .ok (.aload_n 0, 1) := by decide +kernel
theorem dX2_addProduction_15 : decode cX2_addProduction 15 = .ok (.getfield 21, 3) := by decide +kernel
theorem dX2_addProduction_18 : decode cX2_addProduction 18 = .ok (.iload_n 3, 1) := by decide +kernel
theorem dX2_addProduction_19 : decode cX2_addProduction 19 = .ok (.iload_n 2, 1) := by decide +kernel
theorem dX2_addProduction_20 : decode cX2_addProduction 20 = .ok (.invokevirtual 72, 3) := by decide +kernel
theorem dX2_addProduction_23 : decode cX2_addProduction 23 = .ok (.aload_n 0, 1) := by decide +kernel
theorem dX2_addProduction_24 : decode cX2_addProduction 24 = .ok (.dup, 1) := by decide +kernel
theorem dX2_addProduction_25 : decode cX2_addProduction 25 = .ok (.getfield 69, 3) := by decide +kernel
theorem dX2_addProduction_28 : decode cX2_addProduction 28 = .ok (.iconst 1, 1) := by decide +kernel
theorem dX2_addProduction_29 : decode cX2_addProduction 29 = .ok (.iadd, 1) := by decide +kernel
theorem dX2_addProduction_30 : decode cX2_addProduction 30 = .ok (.putfield 69, 3) := by decide +kernel
theorem dX2_addProduction_33 : decode cX2_addProduction 33 = .ok (.iload_n 3, 1) := by decide +kernel
theorem dX2_addProduction_34 : decode cX2_addProduction 34 = .ok (.ireturn, 1) := by decide +kernel
theorem dX2_arity_0 : decode cX2_arity 0 = .ok (.aload_n 0, 1) := by decide +kernel
theorem dX2_arity_1 : decode cX2_arity 1 = .ok (.getfield 61, 3) := by decide +kernel
theorem dX2_arity_4 : decode cX2_arity 4 = .ok (.aload_n 0, 1) := by decide +kernel
theorem dX2_arity_5 : decode cX2_arity 5 = .ok (.getfield 21, 3) := by decide +kernel
theorem dX2_arity_8 : decode cX2_arity 8 = .ok (.iload_n 1, 1) := by decide +kernel
theorem dX2_arity_9 : decode cX2_arity 9 = .ok (.invokevirtual 76, 3) := by decide +kernel
theorem dX2_arity_12 : decode cX2_arity 12 = .ok (.invokevirtual 80, 3) := by decide +kernel
theorem dX2_arity_15 : decode cX2_arity 15 = .ok (.ireturn, 1) := by decide +kernel
theorem dX2_choice_0 : decode cX2_choice 0 = .ok (.aload_n 0, 1) := by decide +kernel
theorem dX2_choice_1 : decode cX2_choice 1 = .ok (.getfield 49, 3) := by decide +kernel
theorem dX2_choice_4 : decode cX2_choice 4 = .ok (.iload_n 1, 1) := by decide +kernel
theorem dX2_choice_5 : decode cX2_choice 5 = .ok (.invokevirtual 76, 3) := by decide +kernel
theorem dX2_choice_8 : decode cX2_choice 8 = .ok (.ireturn, 1) := by decide +kernel
theorem dX2_clear_0 : decode cX2_clear 0 = .ok (.aload_n 0, 1) := by decide +kernel
theorem dX2_clear_1 : decode cX2_clear 1 = .ok (.iload_n 1, 1) := by decide +kernel
theorem dX2_clear_2 : decode cX2_clear 2 = .ok (.putfield 65, 3) := by decide +kernel
theorem dX2_clear_5 : decode cX2_clear 5 = .ok (.aload_n 0, 1) := by decide +kernel
theorem dX2_clear_6 : decode cX2_clear 6 = .ok (.iconst 0, 1) := by decide +kernel
theorem dX2_clear_7 : decode cX2_clear 7 = .ok (.putfield 69, 3) := by decide +kernel
theorem dX2_clear_10 : decode cX2_clear 10 = .ok (.return_, 1) := by decide +kernel
theorem dX2_dropNeeds_0 : decode cX2_dropNeeds 0 = .ok (.iconst 0, 1) := by decide +kernel
theorem dX2_dropNeeds_1 : decode cX2_dropNeeds 1 = .ok (.istore_n 1, 1) := by decide +kernel
theorem dX2_dropNeeds_2 : decode cX2_dropNeeds 2 = .ok (.iload_n 1, 1) := by decide +kernel
theorem dX2_dropNeeds_3 : decode cX2_dropNeeds 3 = .ok (.aload_n 0, 1) := by decide +kernel
theorem dX2_dropNeeds_4 : decode cX2_dropNeeds 4 = .ok (.getfield 65, 3) := by decide +kernel
theorem dX2_dropNeeds_7 : decode cX2_dropNeeds 7 = .ok (.if_icmp .ge 18, 3) := by decide +kernel
theorem dX2_dropNeeds_10 : decode cX2_dropNeeds 10 = .ok (.aload_n 0, 1) := by decide +kernel
theorem dX2_dropNeeds_11 : decode cX2_dropNeeds 11 = .ok (.getfield 28, 3) := by decide +kernel
theorem dX2_dropNeeds_14 : decode cX2_dropNeeds 14 = .ok (.iload_n 1, 1) := by decide +kernel
theorem dX2_dropNeeds_15 : decode cX2_dropNeeds 15 = .ok (.iconst 0, 1) := by decide +kernel
theorem dX2_dropNeeds_16 : decode cX2_dropNeeds 16 = .ok (.invokevirtual 72, 3) := by decide +kernel
theorem dX2_dropNeeds_19 : decode cX2_dropNeeds 19 = .ok (.iinc 1 1, 3) := by decide +kernel
theorem dX2_dropNeeds_22 : decode cX2_dropNeeds 22 = .ok (.goto (-20), 3) := by decide +kernel
theorem dX2_dropNeeds_25 : decode cX2_dropNeeds 25 = .ok (.return_, 1) := by decide +kernel
theorem dX2_enter_0 : decode cX2_enter 0 = .ok (.iconst 1, 1) := by decide +kernel
theorem dX2_enter_1 : decode cX2_enter 1 = .ok (.istore_n 2, 1) := by decide +kernel
theorem dX2_enter_2 : decode cX2_enter 2 = .ok (.iconst 0, 1) := by decide +kernel
theorem dX2_enter_3 : decode cX2_enter 3 = .ok (.istore_n 3, 1) := by decide +kernel
theorem dX2_enter_4 : decode cX2_enter 4 = .ok (.aload_n 0, 1) := by decide +kernel
theorem dX2_enter_5 : decode cX2_enter 5 = .ok (.getfield 61, 3) := by decide +kernel
theorem dX2_enter_8 : decode cX2_enter 8 = .ok (.aload_n 0, 1) := by decide +kernel
theorem dX2_enter_9 : decode cX2_enter 9 = .ok (.getfield 21, 3) := by decide +kernel
theorem dX2_enter_12 : decode cX2_enter 12 = .ok (.iload_n 1, 1) := by decide +kernel
theorem dX2_enter_13 : decode cX2_enter 13 = .ok (.invokevirtual 76, 3) := by decide +kernel
theorem dX2_enter_16 : decode cX2_enter 16 = .ok (.invokevirtual 135, 3) := by decide +kernel
theorem dX2_enter_19 : decode cX2_enter 19 = .ok (.istore 4, 2) := by decide +kernel
theorem dX2_enter_21 : decode cX2_enter 21 = .ok (.iconst 0, 1) := by decide +kernel
theorem dX2_enter_22 : decode cX2_enter 22 = .ok (.istore 5, 2) := by decide +kernel
theorem dX2_enter_24 : decode cX2_enter 24 = .ok (.iload 5, 2) := by decide +kernel
theorem dX2_enter_26 : decode cX2_enter 26 = .ok (.aload_n 0, 1) := by decide +kernel
theorem dX2_enter_27 : decode cX2_enter 27 = .ok (.iload_n 1, 1) := by decide +kernel
theorem dX2_enter_28 : decode cX2_enter 28 = .ok (.invokevirtual 105, 3) := by decide +kernel
theorem dX2_enter_31 : decode cX2_enter 31 = .ok (.if_icmp .ge 71, 3) := by decide +kernel
theorem dX2_enter_34 : decode cX2_enter 34 = .ok (.aload_n 0, 1) := by decide +kernel
theorem dX2_enter_35 : decode cX2_enter 35 = .ok (.getfield 49, 3) := by decide +kernel
theorem dX2_enter_38 : decode cX2_enter 38 = .ok (.aload_n 0, 1) := by decide +kernel
theorem dX2_enter_39 : decode cX2_enter 39 = .ok (.getfield 25, 3) := by decide +kernel
theorem dX2_enter_42 : decode cX2_enter 42 = .ok (.iconst 3, 1) := by decide +kernel
theorem dX2_enter_43 : decode cX2_enter 43 = .ok (.iload_n 1, 1) := by decide +kernel
theorem dX2_enter_44 : decode cX2_enter 44 = .ok (.imul, 1) := by decide +kernel
theorem dX2_enter_45 : decode cX2_enter 45 = .ok (.iload 5, 2) := by decide +kernel
theorem dX2_enter_47 : decode cX2_enter 47 = .ok (.iadd, 1) := by decide +kernel
theorem dX2_enter_48 : decode cX2_enter 48 = .ok (.invokevirtual 76, 3) := by decide +kernel
theorem dX2_enter_51 : decode cX2_enter 51 = .ok (.invokevirtual 76, 3) := by decide +kernel
theorem dX2_enter_54 : decode cX2_enter 54 = .ok (.istore 6, 2) := by decide +kernel
theorem dX2_enter_56 : decode cX2_enter 56 = .ok (.iload_n 2, 1) := by decide +kernel
theorem dX2_enter_57 : decode cX2_enter 57 = .ok (.aload_n 0, 1) := by decide +kernel
theorem dX2_enter_58 : decode cX2_enter 58 = .ok (.getfield 40, 3) := by decide +kernel
theorem dX2_enter_61 : decode cX2_enter 61 = .ok (.iload 6, 2) := by decide +kernel
theorem dX2_enter_63 : decode cX2_enter 63 = .ok (.invokevirtual 76, 3) := by decide +kernel
theorem dX2_enter_66 : decode cX2_enter 66 = .ok (.iadd, 1) := by decide +kernel
theorem dX2_enter_67 : decode cX2_enter 67 = .ok (.istore_n 2, 1) := by decide +kernel
theorem dX2_enter_68 : decode cX2_enter 68 = .ok (.iload_n 3, 1) := by decide +kernel
theorem dX2_enter_69 : decode cX2_enter 69 = .ok (.aload_n 0, 1) := by decide +kernel
theorem dX2_enter_70 : decode cX2_enter 70 = .ok (.getfield 43, 3) := by decide +kernel
theorem dX2_enter_73 : decode cX2_enter 73 = .ok (.iload 6, 2) := by decide +kernel
theorem dX2_enter_75 : decode cX2_enter 75 = .ok (.invokevirtual 76, 3) := by decide +kernel
theorem dX2_enter_78 : decode cX2_enter 78 = .ok (.invokestatic 138, 3) := by decide +kernel
theorem dX2_enter_81 : decode cX2_enter 81 = .ok (.istore_n 3, 1) := by decide +kernel
theorem dX2_enter_82 : decode cX2_enter 82 = .ok (.iload 4, 2) := by decide +kernel
theorem dX2_enter_84 : decode cX2_enter 84 = .ok (.aload_n 0, 1) := by decide +kernel
theorem dX2_enter_85 : decode cX2_enter 85 = .ok (.getfield 37, 3) := by decide +kernel
theorem dX2_enter_88 : decode cX2_enter 88 = .ok (.iload 6, 2) := by decide +kernel
theorem dX2_enter_90 : decode cX2_enter 90 = .ok (.invokevirtual 76, 3) := by decide +kernel
theorem dX2_enter_93 : decode cX2_enter 93 = .ok (.iadd, 1) := by decide +kernel
theorem dX2_enter_94 : decode cX2_enter 94 = .ok (.istore 4, 2) := by decide +kernel
theorem dX2_enter_96 : decode cX2_enter 96 = .ok (.iinc 5 1, 3) := by decide +kernel
theorem dX2_enter_99 : decode cX2_enter 99 = .ok (.goto (-75), 3) := by decide +kernel
theorem dX2_enter_102 : decode cX2_enter 102 = .ok (.aload_n 0, 1) := by decide +kernel
theorem dX2_enter_103 : decode cX2_enter 103 = .ok (.getfield 40, 3) := by decide +kernel
theorem dX2_enter_106 : decode cX2_enter 106 = .ok (.iload_n 1, 1) := by decide +kernel
theorem dX2_enter_107 : decode cX2_enter 107 = .ok (.iload_n 2, 1) := by decide +kernel
theorem dX2_enter_108 : decode cX2_enter 108 = .ok (.ldc 143, 2) := by decide +kernel
theorem dX2_enter_110 : decode cX2_enter 110 = .ok (.invokestatic 144, 3) := by decide +kernel
theorem dX2_enter_113 : decode cX2_enter 113 = .ok (.invokevirtual 72, 3) := by decide +kernel
theorem dX2_enter_116 : decode cX2_enter 116 = .ok (.aload_n 0, 1) := by decide +kernel
theorem dX2_enter_117 : decode cX2_enter 117 = .ok (.getfield 43, 3) := by decide +kernel
theorem dX2_enter_120 : decode cX2_enter 120 = .ok (.iload_n 1, 1) := by decide +kernel
theorem dX2_enter_121 : decode cX2_enter 121 = .ok (.iload_n 3, 1) := by decide +kernel
theorem dX2_enter_122 : decode cX2_enter 122 = .ok (.iconst 1, 1) := by decide +kernel
theorem dX2_enter_123 : decode cX2_enter 123 = .ok (.iadd, 1) := by decide +kernel
theorem dX2_enter_124 : decode cX2_enter 124 = .ok (.ldc 143, 2) := by decide +kernel
theorem dX2_enter_126 : decode cX2_enter 126 = .ok (.invokestatic 144, 3) := by decide +kernel
theorem dX2_enter_129 : decode cX2_enter 129 = .ok (.invokevirtual 72, 3) := by decide +kernel
theorem dX2_enter_132 : decode cX2_enter 132 = .ok (.aload_n 0, 1) := by decide +kernel
theorem dX2_enter_133 : decode cX2_enter 133 = .ok (.getfield 37, 3) := by decide +kernel
theorem dX2_enter_136 : decode cX2_enter 136 = .ok (.iload_n 1, 1) := by decide +kernel
theorem dX2_enter_137 : decode cX2_enter 137 = .ok (.aload_n 0, 1) := by decide +kernel
theorem dX2_enter_138 : decode cX2_enter 138 = .ok (.getfield 116, 3) := by decide +kernel
theorem dX2_enter_141 : decode cX2_enter 141 = .ok (.iconst 1, 1) := by decide +kernel
theorem dX2_enter_142 : decode cX2_enter 142 = .ok (.if_icmp .ne 13, 3) := by decide +kernel
theorem dX2_enter_145 : decode cX2_enter 145 = .ok (.iload 4, 2) := by decide +kernel
theorem dX2_enter_147 : decode cX2_enter 147 = .ok (.ldc 143, 2) := by decide +kernel
theorem dX2_enter_149 : decode cX2_enter 149 = .ok (.invokestatic 144, 3) := by decide +kernel
theorem dX2_enter_152 : decode cX2_enter 152 = .ok (.goto 16, 3) := by decide +kernel
theorem dX2_enter_155 : decode cX2_enter 155 = .ok (.aload_n 0, 1) := by decide +kernel
theorem dX2_enter_156 : decode cX2_enter 156 = .ok (.getfield 116, 3) := by decide +kernel
end
section
theorem dX2_enter_159 : decode cX2_enter 159 = .ok (.iconst 2, 1) := by decide +kernel
theorem dX2_enter_160 : decode cX2_enter 160 = .ok (.if_icmp .ne 7, 3) := by decide +kernel
theorem dX2_enter_163 : decode cX2_enter 163 = .ok (.iload_n 2, 1) := by decide +kernel
theorem dX2_enter_164 : decode cX2_enter 164 = .ok (.goto 4, 3) := by decide +kernel
theorem dX2_enter_167 : decode cX2_enter 167 = .ok (.iconst 0, 1) := by decide +kernel
theorem dX2_enter_168 : decode cX2_enter 168 = .ok (.invokevirtual 72, 3) := by decide +kernel
theorem dX2_enter_171 : decode cX2_enter 171 = .ok (.aload_n 0, 1) := by decide +kernel
theorem dX2_enter_172 : decode cX2_enter 172 = .ok (.getfield 119, 3) := by decide +kernel
theorem dX2_enter_175 : decode cX2_enter 175 = .ok (.istore 5, 2) := by decide +kernel
theorem dX2_enter_177 : decode cX2_enter 177 = .ok (.aload_n 0, 1) := by decide +kernel
theorem dX2_enter_178 : decode cX2_enter 178 = .ok (.dup, 1) := by decide +kernel
theorem dX2_enter_179 : decode cX2_enter 179 = .ok (.getfield 119, 3) := by decide +kernel
theorem dX2_enter_182 : decode cX2_enter 182 = .ok (.iconst 1, 1) := by decide +kernel
theorem dX2_enter_183 : decode cX2_enter 183 = .ok (.iadd, 1) := by decide +kernel
theorem dX2_enter_184 : decode cX2_enter 184 = .ok (.putfield 119, 3) := by decide +kernel
theorem dX2_enter_187 : decode cX2_enter 187 = .ok (.iconst 0, 1) := by decide +kernel
theorem dX2_enter_188 : decode cX2_enter 188 = .ok (.istore 6, 2) := by decide +kernel
theorem dX2_enter_190 : decode cX2_enter 190 = .ok (.iload 6, 2) := by decide +kernel
theorem dX2_enter_192 : decode cX2_enter 192 = .ok (.aload_n 0, 1) := by decide +kernel
theorem dX2_enter_193 : decode cX2_enter 193 = .ok (.getfield 119, 3) := by decide +kernel
theorem dX2_enter_196 : decode cX2_enter 196 = .ok (.if_icmp .ge 64, 3) := by decide +kernel
theorem dX2_enter_199 : decode cX2_enter 199 = .ok (.iload 5, 2) := by decide +kernel
theorem dX2_enter_201 : decode cX2_enter 201 = .ok (.ifCond .le 59, 3) := by decide +kernel
theorem dX2_enter_204 : decode cX2_enter 204 = .ok (.iload 5, 2) := by decide +kernel
theorem dX2_enter_206 : decode cX2_enter 206 = .ok (.iconst 1, 1) := by decide +kernel
theorem dX2_enter_207 : decode cX2_enter 207 = .ok (.isub, 1) := by decide +kernel
theorem dX2_enter_208 : decode cX2_enter 208 = .ok (.iconst 2, 1) := by decide +kernel
theorem dX2_enter_209 : decode cX2_enter 209 = .ok (.idiv, 1) := by decide +kernel
theorem dX2_enter_210 : decode cX2_enter 210 = .ok (.istore 7, 2) := by decide +kernel
theorem dX2_enter_212 : decode cX2_enter 212 = .ok (.aload_n 0, 1) := by decide +kernel
theorem dX2_enter_213 : decode cX2_enter 213 = .ok (.iload_n 1, 1) := by decide +kernel
theorem dX2_enter_214 : decode cX2_enter 214 = .ok (.aload_n 0, 1) := by decide +kernel
theorem dX2_enter_215 : decode cX2_enter 215 = .ok (.getfield 46, 3) := by decide +kernel
theorem dX2_enter_218 : decode cX2_enter 218 = .ok (.iload 7, 2) := by decide +kernel
theorem dX2_enter_220 : decode cX2_enter 220 = .ok (.invokevirtual 76, 3) := by decide +kernel
theorem dX2_enter_223 : decode cX2_enter 223 = .ok (.invokevirtual 147, 3) := by decide +kernel
theorem dX2_enter_226 : decode cX2_enter 226 = .ok (.ifCond .ne 6, 3) := by decide +kernel
theorem dX2_enter_229 : decode cX2_enter 229 = .ok (.goto 31, 3) := by decide +kernel
theorem dX2_enter_232 : decode cX2_enter 232 = .ok (.aload_n 0, 1) := by decide +kernel
theorem dX2_enter_233 : decode cX2_enter 233 = .ok (.getfield 46, 3) := by decide +kernel
theorem dX2_enter_236 : decode cX2_enter 236 = .ok (.iload 5, 2) := by decide +kernel
theorem dX2_enter_238 : decode cX2_enter 238 = .ok (.aload_n 0, 1) := by decide +kernel
theorem dX2_enter_239 : decode cX2_enter 239 = .ok (.getfield 46, 3) := by decide +kernel
theorem dX2_enter_242 : decode cX2_enter 242 = .ok (.iload 7, 2) := by decide +kernel
theorem dX2_enter_244 : decode cX2_enter 244 = .ok (.invokevirtual 76, 3) := by decide +kernel
theorem dX2_enter_247 : decode cX2_enter 247 = .ok (.invokevirtual 72, 3) := by decide +kernel
theorem dX2_enter_250 : decode cX2_enter 250 = .ok (.iload 7, 2) := by decide +kernel
theorem dX2_enter_252 : decode cX2_enter 252 = .ok (.istore 5, 2) := by decide +kernel
theorem dX2_enter_254 : decode cX2_enter 254 = .ok (.iinc 6 1, 3) := by decide +kernel
theorem dX2_enter_257 : decode cX2_enter 257 = .ok (.goto (-67), 3) := by decide +kernel
theorem dX2_enter_260 : decode cX2_enter 260 = .ok (.aload_n 0, 1) := by decide +kernel
theorem dX2_enter_261 : decode cX2_enter 261 = .ok (.getfield 46, 3) := by decide +kernel
theorem dX2_enter_264 : decode cX2_enter 264 = .ok (.iload 5, 2) := by decide +kernel
theorem dX2_enter_266 : decode cX2_enter 266 = .ok (.iload_n 1, 1) := by decide +kernel
theorem dX2_enter_267 : decode cX2_enter 267 = .ok (.invokevirtual 72, 3) := by decide +kernel
theorem dX2_enter_270 : decode cX2_enter 270 = .ok (.return_, 1) := by decide +kernel
theorem dX2_isBefore_0 : decode cX2_isBefore 0 = .ok (.aload_n 0, 1) := by decide +kernel
theorem dX2_isBefore_1 : decode cX2_isBefore 1 = .ok (.getfield 37, 3) := by decide +kernel
theorem dX2_isBefore_4 : decode cX2_isBefore 4 = .ok (.iload_n 1, 1) := by decide +kernel
theorem dX2_isBefore_5 : decode cX2_isBefore 5 = .ok (.invokevirtual 76, 3) := by decide +kernel
theorem dX2_isBefore_8 : decode cX2_isBefore 8 = .ok (.aload_n 0, 1) := by decide +kernel
theorem dX2_isBefore_9 : decode cX2_isBefore 9 = .ok (.getfield 37, 3) := by decide +kernel
theorem dX2_isBefore_12 : decode cX2_isBefore 12 = .ok (.iload_n 2, 1) := by decide +kernel
theorem dX2_isBefore_13 : decode cX2_isBefore 13 = .ok (.invokevirtual 76, 3) := by decide +kernel
theorem dX2_isBefore_16 : decode cX2_isBefore 16 = .ok (.if_icmp .eq 28, 3) := by decide +kernel
theorem dX2_isBefore_19 : decode cX2_isBefore 19 = .ok (.aload_n 0, 1) := by decide +kernel
theorem dX2_isBefore_20 : decode cX2_isBefore 20 = .ok (.getfield 37, 3) := by decide +kernel
theorem dX2_isBefore_23 : decode cX2_isBefore 23 = .ok (.iload_n 1, 1) := by decide +kernel
theorem dX2_isBefore_24 : decode cX2_isBefore 24 = .ok (.invokevirtual 76, 3) := by decide +kernel
theorem dX2_isBefore_27 : decode cX2_isBefore 27 = .ok (.aload_n 0, 1) := by decide +kernel
theorem dX2_isBefore_28 : decode cX2_isBefore 28 = .ok (.getfield 37, 3) := by decide +kernel
theorem dX2_isBefore_31 : decode cX2_isBefore 31 = .ok (.iload_n 2, 1) := by decide +kernel
theorem dX2_isBefore_32 : decode cX2_isBefore 32 = .ok (.invokevirtual 76, 3) := by decide +kernel
theorem dX2_isBefore_35 : decode cX2_isBefore 35 = .ok (.if_icmp .ge 7, 3) := by decide +kernel
theorem dX2_isBefore_38 : decode cX2_isBefore 38 = .ok (.iconst 1, 1) := by decide +kernel
theorem dX2_isBefore_39 : decode cX2_isBefore 39 = .ok (.goto 4, 3) := by decide +kernel
theorem dX2_isBefore_42 : decode cX2_isBefore 42 = .ok (.iconst 0, 1) := by decide +kernel
theorem dX2_isBefore_43 : decode cX2_isBefore 43 = .ok (.ireturn, 1) := by decide +kernel
theorem dX2_isBefore_44 : decode cX2_isBefore 44 = .ok (.aload_n 0, 1) := by decide +kernel
theorem dX2_isBefore_45 : decode cX2_isBefore 45 = .ok (.getfield 21, 3) := by decide +kernel
theorem dX2_isBefore_48 : decode cX2_isBefore 48 = .ok (.iload_n 1, 1) := by decide +kernel
theorem dX2_isBefore_49 : decode cX2_isBefore 49 = .ok (.invokevirtual 76, 3) := by decide +kernel
theorem dX2_isBefore_52 : decode cX2_isBefore 52 = .ok (.istore_n 3, 1) := by decide +kernel
theorem dX2_isBefore_53 : decode cX2_isBefore 53 = .ok (.iload_n 3, 1) := by decide +kernel
theorem dX2_isBefore_54 : decode cX2_isBefore 54 = .ok (.aload_n 0, 1) := by decide +kernel
theorem dX2_isBefore_55 : decode cX2_isBefore 55 = .ok (.getfield 21, 3) := by decide +kernel
theorem dX2_isBefore_58 : decode cX2_isBefore 58 = .ok (.iload_n 2, 1) := by decide +kernel
theorem dX2_isBefore_59 : decode cX2_isBefore 59 = .ok (.invokevirtual 76, 3) := by decide +kernel
theorem dX2_isBefore_62 : decode cX2_isBefore 62 = .ok (.if_icmp .eq 35, 3) := by decide +kernel
theorem dX2_isBefore_65 : decode cX2_isBefore 65 = .ok (.aload_n 0, 1) := by decide +kernel
theorem dX2_isBefore_66 : decode cX2_isBefore 66 = .ok (.getfield 61, 3) := by decide +kernel
theorem dX2_isBefore_69 : decode cX2_isBefore 69 = .ok (.iload_n 3, 1) := by decide +kernel
theorem dX2_isBefore_70 : decode cX2_isBefore 70 = .ok (.invokevirtual 151, 3) := by decide +kernel
theorem dX2_isBefore_73 : decode cX2_isBefore 73 = .ok (.aload_n 0, 1) := by decide +kernel
theorem dX2_isBefore_74 : decode cX2_isBefore 74 = .ok (.getfield 61, 3) := by decide +kernel
theorem dX2_isBefore_77 : decode cX2_isBefore 77 = .ok (.aload_n 0, 1) := by decide +kernel
theorem dX2_isBefore_78 : decode cX2_isBefore 78 = .ok (.getfield 21, 3) := by decide +kernel
theorem dX2_isBefore_81 : decode cX2_isBefore 81 = .ok (.iload_n 2, 1) := by decide +kernel
theorem dX2_isBefore_82 : decode cX2_isBefore 82 = .ok (.invokevirtual 76, 3) := by decide +kernel
theorem dX2_isBefore_85 : decode cX2_isBefore 85 = .ok (.invokevirtual 151, 3) := by decide +kernel
theorem dX2_isBefore_88 : decode cX2_isBefore 88 = .ok (.if_icmp .ge 7, 3) := by decide +kernel
theorem dX2_isBefore_91 : decode cX2_isBefore 91 = .ok (.iconst 1, 1) := by decide +kernel
theorem dX2_isBefore_92 : decode cX2_isBefore 92 = .ok (.goto 4, 3) := by decide +kernel
theorem dX2_isBefore_95 : decode cX2_isBefore 95 = .ok (.iconst 0, 1) := by decide +kernel
theorem dX2_isBefore_96 : decode cX2_isBefore 96 = .ok (.ireturn, 1) := by decide +kernel
theorem dX2_isBefore_97 : decode cX2_isBefore 97 = .ok (.aload_n 0, 1) := by decide +kernel
theorem dX2_isBefore_98 : decode cX2_isBefore 98 = .ok (.getfield 61, 3) := by decide +kernel
theorem dX2_isBefore_101 : decode cX2_isBefore 101 = .ok (.iload_n 3, 1) := by decide +kernel
theorem dX2_isBefore_102 : decode cX2_isBefore 102 = .ok (.invokevirtual 80, 3) := by decide +kernel
theorem dX2_isBefore_105 : decode cX2_isBefore 105 = .ok (.istore 4, 2) := by decide +kernel
theorem dX2_isBefore_107 : decode cX2_isBefore 107 = .ok (.aload_n 0, 1) := by decide +kernel
theorem dX2_isBefore_108 : decode cX2_isBefore 108 = .ok (.getfield 61, 3) := by decide +kernel
theorem dX2_isBefore_111 : decode cX2_isBefore 111 = .ok (.iload_n 3, 1) := by decide +kernel
theorem dX2_isBefore_112 : decode cX2_isBefore 112 = .ok (.invokevirtual 154, 3) := by decide +kernel
theorem dX2_isBefore_115 : decode cX2_isBefore 115 = .ok (.istore 5, 2) := by decide +kernel
theorem dX2_isBefore_117 : decode cX2_isBefore 117 = .ok (.iconst 0, 1) := by decide +kernel
theorem dX2_isBefore_118 : decode cX2_isBefore 118 = .ok (.istore 6, 2) := by decide +kernel
theorem dX2_isBefore_120 : decode cX2_isBefore 120 = .ok (.iload 6, 2) := by decide +kernel
theorem dX2_isBefore_122 : decode cX2_isBefore 122 = .ok (.iload 4, 2) := by decide +kernel
theorem dX2_isBefore_124 : decode cX2_isBefore 124 = .ok (.if_icmp .ge 92, 3) := by decide +kernel
theorem dX2_isBefore_127 : decode cX2_isBefore 127 = .ok (.iload 5, 2) := by decide +kernel
theorem dX2_isBefore_129 : decode cX2_isBefore 129 = .ok (.ifCond .eq 13, 3) := by decide +kernel
theorem dX2_isBefore_132 : decode cX2_isBefore 132 = .ok (.iload 4, 2) := by decide +kernel
theorem dX2_isBefore_134 : decode cX2_isBefore 134 = .ok (.iconst 1, 1) := by decide +kernel
theorem dX2_isBefore_135 : decode cX2_isBefore 135 = .ok (.isub, 1) := by decide +kernel
theorem dX2_isBefore_136 : decode cX2_isBefore 136 = .ok (.iload 6, 2) := by decide +kernel
theorem dX2_isBefore_138 : decode cX2_isBefore 138 = .ok (.isub, 1) := by decide +kernel
theorem dX2_isBefore_139 : decode cX2_isBefore 139 = .ok (.goto 5, 3) := by decide +kernel
theorem dX2_isBefore_142 : decode cX2_isBefore 142 = .ok (.iload 6, 2) := by decide +kernel
theorem dX2_isBefore_144 : decode cX2_isBefore 144 = .ok (.istore 7, 2) := by decide +kernel
theorem dX2_isBefore_146 : decode cX2_isBefore 146 = .ok (.aload_n 0, 1) := by decide +kernel
theorem dX2_isBefore_147 : decode cX2_isBefore 147 = .ok (.getfield 25, 3) := by decide +kernel
theorem dX2_isBefore_150 : decode cX2_isBefore 150 = .ok (.iconst 3, 1) := by decide +kernel
theorem dX2_isBefore_151 : decode cX2_isBefore 151 = .ok (.iload_n 1, 1) := by decide +kernel
theorem dX2_isBefore_152 : decode cX2_isBefore 152 = .ok (.imul, 1) := by decide +kernel
theorem dX2_isBefore_153 : decode cX2_isBefore 153 = .ok (.iload 7, 2) := by decide +kernel
theorem dX2_isBefore_155 : decode cX2_isBefore 155 = .ok (.iadd, 1) := by decide +kernel
theorem dX2_isBefore_156 : decode cX2_isBefore 156 = .ok (.invokevirtual 76, 3) := by decide +kernel
theorem dX2_isBefore_159 : decode cX2_isBefore 159 = .ok (.istore 8, 2) := by decide +kernel
theorem dX2_isBefore_161 : decode cX2_isBefore 161 = .ok (.aload_n 0, 1) := by decide +kernel
theorem dX2_isBefore_162 : decode cX2_isBefore 162 = .ok (.getfield 25, 3) := by decide +kernel
theorem dX2_isBefore_165 : decode cX2_isBefore 165 = .ok (.iconst 3, 1) := by decide +kernel
theorem dX2_isBefore_166 : decode cX2_isBefore 166 = .ok (.iload_n 2, 1) := by decide +kernel
theorem dX2_isBefore_167 : decode cX2_isBefore 167 = .ok (.imul, 1) := by decide +kernel
theorem dX2_isBefore_168 : decode cX2_isBefore 168 = .ok (.iload 7, 2) := by decide +kernel
theorem dX2_isBefore_170 : decode cX2_isBefore 170 = .ok (.iadd, 1) := by decide +kernel
theorem dX2_isBefore_171 : decode cX2_isBefore 171 = .ok (.invokevirtual 76, 3) := by decide +kernel
theorem dX2_isBefore_174 : decode cX2_isBefore 174 = .ok (.istore 9, 2) := by decide +kernel
theorem dX2_isBefore_176 : decode cX2_isBefore 176 = .ok (.iload 8, 2) := by decide +kernel
theorem dX2_isBefore_178 : decode cX2_isBefore 178 = .ok (.iload 9, 2) := by decide +kernel
theorem dX2_isBefore_180 : decode cX2_isBefore 180 = .ok (.if_icmp .eq 30, 3) := by decide +kernel
theorem dX2_isBefore_183 : decode cX2_isBefore 183 = .ok (.aload_n 0, 1) := by decide +kernel
theorem dX2_isBefore_184 : decode cX2_isBefore 184 = .ok (.getfield 52, 3) := by decide +kernel
theorem dX2_isBefore_187 : decode cX2_isBefore 187 = .ok (.iload 8, 2) := by decide +kernel
theorem dX2_isBefore_189 : decode cX2_isBefore 189 = .ok (.invokevirtual 76, 3) := by decide +kernel
theorem dX2_isBefore_192 : decode cX2_isBefore 192 = .ok (.aload_n 0, 1) := by decide +kernel
theorem dX2_isBefore_193 : decode cX2_isBefore 193 = .ok (.getfield 52, 3) := by decide +kernel
theorem dX2_isBefore_196 : decode cX2_isBefore 196 = .ok (.iload 9, 2) := by decide +kernel
theorem dX2_isBefore_198 : decode cX2_isBefore 198 = .ok (.invokevirtual 76, 3) := by decide +kernel
theorem dX2_isBefore_201 : decode cX2_isBefore 201 = .ok (.if_icmp .ge 7, 3) := by decide +kernel
theorem dX2_isBefore_204 : decode cX2_isBefore 204 = .ok (.iconst 1, 1) := by decide +kernel
theorem dX2_isBefore_205 : decode cX2_isBefore 205 = .ok (.goto 4, 3) := by decide +kernel
theorem dX2_isBefore_208 : decode cX2_isBefore 208 = .ok (.iconst 0, 1) := by decide +kernel
theorem dX2_isBefore_209 : decode cX2_isBefore 209 = .ok (.ireturn, 1) := by decide +kernel
theorem dX2_isBefore_210 : decode cX2_isBefore 210 = .ok (.iinc 6 1, 3) := by decide +kernel
theorem dX2_isBefore_213 : decode cX2_isBefore 213 = .ok (.goto (-93), 3) := by decide +kernel
theorem dX2_isBefore_216 : decode cX2_isBefore 216 = .ok (.iconst 0, 1) := by decide +kernel
theorem dX2_isBefore_217 : decode cX2_isBefore 217 = .ok (.ireturn, 1) := by decide +kernel
theorem dX2_isNeeded_0 : decode cX2_isNeeded 0 = .ok (.aload_n 0, 1) := by decide +kernel
theorem dX2_isNeeded_1 : decode cX2_isNeeded 1 = .ok (.getfield 15, 3) := by decide +kernel
theorem dX2_isNeeded_4 : decode cX2_isNeeded 4 = .ok (.iload_n 1, 1) := by decide +kernel
theorem dX2_isNeeded_5 : decode cX2_isNeeded 5 = .ok (.invokevirtual 76, 3) := by decide +kernel
theorem dX2_isNeeded_8 : decode cX2_isNeeded 8 = .ok (.istore_n 2, 1) := by decide +kernel
theorem dX2_isNeeded_9 : decode cX2_isNeeded 9 = .ok (.aload_n 0, 1) := by decide +kernel
theorem dX2_isNeeded_10 : decode cX2_isNeeded 10 = .ok (.getfield 49, 3) := by decide +kernel
theorem dX2_isNeeded_13 : decode cX2_isNeeded 13 = .ok (.iload_n 2, 1) := by decide +kernel
theorem dX2_isNeeded_14 : decode cX2_isNeeded 14 = .ok (.invokevirtual 76, 3) := by decide +kernel
theorem dX2_isNeeded_17 : decode cX2_isNeeded 17 = .ok (.iload_n 1, 1) := by decide +kernel
theorem dX2_isNeeded_18 : decode cX2_isNeeded 18 = .ok (.if_icmp .ne 19, 3) := by decide +kernel
theorem dX2_isNeeded_21 : decode cX2_isNeeded 21 = .ok (.aload_n 0, 1) := by decide +kernel
theorem dX2_isNeeded_22 : decode cX2_isNeeded 22 = .ok (.getfield 28, 3) := by decide +kernel
theorem dX2_isNeeded_25 : decode cX2_isNeeded 25 = .ok (.iload_n 2, 1) := by decide +kernel
theorem dX2_isNeeded_26 : decode cX2_isNeeded 26 = .ok (.invokevirtual 76, 3) := by decide +kernel
theorem dX2_isNeeded_29 : decode cX2_isNeeded 29 = .ok (.iconst 1, 1) := by decide +kernel
theorem dX2_isNeeded_30 : decode cX2_isNeeded 30 = .ok (.if_icmp .ne 7, 3) := by decide +kernel
theorem dX2_isNeeded_33 : decode cX2_isNeeded 33 = .ok (.iconst 1, 1) := by decide +kernel
theorem dX2_isNeeded_34 : decode cX2_isNeeded 34 = .ok (.goto 4, 3) := by decide +kernel
theorem dX2_isNeeded_37 : decode cX2_isNeeded 37 = .ok (.iconst 0, 1) := by decide +kernel
theorem dX2_isNeeded_38 : decode cX2_isNeeded 38 = .ok (.ireturn, 1) := by decide +kernel
theorem dX2_isReadyAfter_0 : decode cX2_isReadyAfter 0 = .ok (.iload_n 1, 1) := by decide +kernel
theorem dX2_isReadyAfter_1 : decode cX2_isReadyAfter 1 = .ok (.iconst 3, 1) := by decide +kernel
theorem dX2_isReadyAfter_2 : decode cX2_isReadyAfter 2 = .ok (.idiv, 1) := by decide +kernel
theorem dX2_isReadyAfter_3 : decode cX2_isReadyAfter 3 = .ok (.istore_n 2, 1) := by decide +kernel
theorem dX2_isReadyAfter_4 : decode cX2_isReadyAfter 4 = .ok (.aload_n 0, 1) := by decide +kernel
theorem dX2_isReadyAfter_5 : decode cX2_isReadyAfter 5 = .ok (.getfield 28, 3) := by decide +kernel
theorem dX2_isReadyAfter_8 : decode cX2_isReadyAfter 8 = .ok (.iload_n 2, 1) := by decide +kernel
theorem dX2_isReadyAfter_9 : decode cX2_isReadyAfter 9 = .ok (.aload_n 0, 1) := by decide +kernel
theorem dX2_isReadyAfter_10 : decode cX2_isReadyAfter 10 = .ok (.getfield 28, 3) := by decide +kernel
theorem dX2_isReadyAfter_13 : decode cX2_isReadyAfter 13 = .ok (.iload_n 2, 1) := by decide +kernel
theorem dX2_isReadyAfter_14 : decode cX2_isReadyAfter 14 = .ok (.invokevirtual 76, 3) := by decide +kernel
theorem dX2_isReadyAfter_17 : decode cX2_isReadyAfter 17 = .ok (.iconst 1, 1) := by decide +kernel
theorem dX2_isReadyAfter_18 : decode cX2_isReadyAfter 18 = .ok (.isub, 1) := by decide +kernel
theorem dX2_isReadyAfter_19 : decode cX2_isReadyAfter 19 = .ok (.invokevirtual 72, 3) := by decide +kernel
theorem dX2_isReadyAfter_22 : decode cX2_isReadyAfter 22 = .ok (.aload_n 0, 1) := by decide +kernel
theorem dX2_isReadyAfter_23 : decode cX2_isReadyAfter 23 = .ok (.getfield 28, 3) := by decide +kernel
theorem dX2_isReadyAfter_26 : decode cX2_isReadyAfter 26 = .ok (.iload_n 2, 1) := by decide +kernel
theorem dX2_isReadyAfter_27 : decode cX2_isReadyAfter 27 = .ok (.invokevirtual 76, 3) := by decide +kernel
theorem dX2_isReadyAfter_30 : decode cX2_isReadyAfter 30 = .ok (.ifCond .ne 7, 3) := by decide +kernel
theorem dX2_isReadyAfter_33 : decode cX2_isReadyAfter 33 = .ok (.iconst 1, 1) := by decide +kernel
theorem dX2_isReadyAfter_34 : decode cX2_isReadyAfter 34 = .ok (.goto 4, 3) := by decide +kernel
theorem dX2_isReadyAfter_37 : decode cX2_isReadyAfter 37 = .ok (.iconst 0, 1) := by decide +kernel
theorem dX2_isReadyAfter_38 : decode cX2_isReadyAfter 38 = .ok (.ireturn, 1) := by decide +kernel
theorem dX2_leastTerm_0 : decode cX2_leastTerm 0 = .ok (.aload_n 0, 1) := by decide +kernel
theorem dX2_leastTerm_1 : decode cX2_leastTerm 1 = .ok (.getfield 58, 3) := by decide +kernel
theorem dX2_leastTerm_4 : decode cX2_leastTerm 4 = .ok (.iload_n 1, 1) := by decide +kernel
theorem dX2_leastTerm_5 : decode cX2_leastTerm 5 = .ok (.invokevirtual 76, 3) := by decide +kernel
theorem dX2_leastTerm_8 : decode cX2_leastTerm 8 = .ok (.ireturn, 1) := by decide +kernel
theorem dX2_linkUsers_0 : decode cX2_linkUsers 0 = .ok (.iconst 0, 1) := by decide +kernel
theorem dX2_linkUsers_1 : decode cX2_linkUsers 1 = .ok (.istore_n 1, 1) := by decide +kernel
theorem dX2_linkUsers_2 : decode cX2_linkUsers 2 = .ok (.iload_n 1, 1) := by decide +kernel
theorem dX2_linkUsers_3 : decode cX2_linkUsers 3 = .ok (.aload_n 0, 1) := by decide +kernel
theorem dX2_linkUsers_4 : decode cX2_linkUsers 4 = .ok (.getfield 65, 3) := by decide +kernel
theorem dX2_linkUsers_7 : decode cX2_linkUsers 7 = .ok (.if_icmp .ge 27, 3) := by decide +kernel
theorem dX2_linkUsers_10 : decode cX2_linkUsers 10 = .ok (.aload_n 0, 1) := by decide +kernel
theorem dX2_linkUsers_11 : decode cX2_linkUsers 11 = .ok (.getfield 31, 3) := by decide +kernel
theorem dX2_linkUsers_14 : decode cX2_linkUsers 14 = .ok (.iload_n 1, 1) := by decide +kernel
theorem dX2_linkUsers_15 : decode cX2_linkUsers 15 = .ok (.iconst 0, 1) := by decide +kernel
theorem dX2_linkUsers_16 : decode cX2_linkUsers 16 = .ok (.invokevirtual 72, 3) := by decide +kernel
theorem dX2_linkUsers_19 : decode cX2_linkUsers 19 = .ok (.aload_n 0, 1) := by decide +kernel
theorem dX2_linkUsers_20 : decode cX2_linkUsers 20 = .ok (.getfield 49, 3) := by decide +kernel
theorem dX2_linkUsers_23 : decode cX2_linkUsers 23 = .ok (.iload_n 1, 1) := by decide +kernel
theorem dX2_linkUsers_24 : decode cX2_linkUsers 24 = .ok (.iconst (-1), 1) := by decide +kernel
theorem dX2_linkUsers_25 : decode cX2_linkUsers 25 = .ok (.invokevirtual 72, 3) := by decide +kernel
theorem dX2_linkUsers_28 : decode cX2_linkUsers 28 = .ok (.iinc 1 1, 3) := by decide +kernel
theorem dX2_linkUsers_31 : decode cX2_linkUsers 31 = .ok (.goto (-29), 3) := by decide +kernel
theorem dX2_linkUsers_34 : decode cX2_linkUsers 34 = .ok (.iconst 0, 1) := by decide +kernel
theorem dX2_linkUsers_35 : decode cX2_linkUsers 35 = .ok (.istore_n 1, 1) := by decide +kernel
theorem dX2_linkUsers_36 : decode cX2_linkUsers 36 = .ok (.iload_n 1, 1) := by decide +kernel
theorem dX2_linkUsers_37 : decode cX2_linkUsers 37 = .ok (.aload_n 0, 1) := by decide +kernel
theorem dX2_linkUsers_38 : decode cX2_linkUsers 38 = .ok (.getfield 69, 3) := by decide +kernel
theorem dX2_linkUsers_41 : decode cX2_linkUsers 41 = .ok (.if_icmp .ge 71, 3) := by decide +kernel
theorem dX2_linkUsers_44 : decode cX2_linkUsers 44 = .ok (.iconst 0, 1) := by decide +kernel
theorem dX2_linkUsers_45 : decode cX2_linkUsers 45 = .ok (.istore_n 2, 1) := by decide +kernel
theorem dX2_linkUsers_46 : decode cX2_linkUsers 46 = .ok (.iload_n 2, 1) := by decide +kernel
theorem dX2_linkUsers_47 : decode cX2_linkUsers 47 = .ok (.aload_n 0, 1) := by decide +kernel
theorem dX2_linkUsers_48 : decode cX2_linkUsers 48 = .ok (.iload_n 1, 1) := by decide +kernel
theorem dX2_linkUsers_49 : decode cX2_linkUsers 49 = .ok (.invokevirtual 105, 3) := by decide +kernel
theorem dX2_linkUsers_52 : decode cX2_linkUsers 52 = .ok (.if_icmp .ge 54, 3) := by decide +kernel
theorem dX2_linkUsers_55 : decode cX2_linkUsers 55 = .ok (.iconst 3, 1) := by decide +kernel
theorem dX2_linkUsers_56 : decode cX2_linkUsers 56 = .ok (.iload_n 1, 1) := by decide +kernel
theorem dX2_linkUsers_57 : decode cX2_linkUsers 57 = .ok (.imul, 1) := by decide +kernel
theorem dX2_linkUsers_58 : decode cX2_linkUsers 58 = .ok (.iload_n 2, 1) := by decide +kernel
theorem dX2_linkUsers_59 : decode cX2_linkUsers 59 = .ok (.iadd, 1) := by decide +kernel
theorem dX2_linkUsers_60 : decode cX2_linkUsers 60 = .ok (.istore_n 3, 1) := by decide +kernel
theorem dX2_linkUsers_61 : decode cX2_linkUsers 61 = .ok (.aload_n 0, 1) := by decide +kernel
theorem dX2_linkUsers_62 : decode cX2_linkUsers 62 = .ok (.getfield 25, 3) := by decide +kernel
theorem dX2_linkUsers_65 : decode cX2_linkUsers 65 = .ok (.iload_n 3, 1) := by decide +kernel
theorem dX2_linkUsers_66 : decode cX2_linkUsers 66 = .ok (.invokevirtual 76, 3) := by decide +kernel
theorem dX2_linkUsers_69 : decode cX2_linkUsers 69 = .ok (.istore 4, 2) := by decide +kernel
theorem dX2_linkUsers_71 : decode cX2_linkUsers 71 = .ok (.aload_n 0, 1) := by decide +kernel
theorem dX2_linkUsers_72 : decode cX2_linkUsers 72 = .ok (.getfield 34, 3) := by decide +kernel
theorem dX2_linkUsers_75 : decode cX2_linkUsers 75 = .ok (.iload_n 3, 1) := by decide +kernel
theorem dX2_linkUsers_76 : decode cX2_linkUsers 76 = .ok (.aload_n 0, 1) := by decide +kernel
theorem dX2_linkUsers_77 : decode cX2_linkUsers 77 = .ok (.getfield 31, 3) := by decide +kernel
theorem dX2_linkUsers_80 : decode cX2_linkUsers 80 = .ok (.iload 4, 2) := by decide +kernel
theorem dX2_linkUsers_82 : decode cX2_linkUsers 82 = .ok (.invokevirtual 76, 3) := by decide +kernel
theorem dX2_linkUsers_85 : decode cX2_linkUsers 85 = .ok (.invokevirtual 72, 3) := by decide +kernel
theorem dX2_linkUsers_88 : decode cX2_linkUsers 88 = .ok (.aload_n 0, 1) := by decide +kernel
theorem dX2_linkUsers_89 : decode cX2_linkUsers 89 = .ok (.getfield 31, 3) := by decide +kernel
theorem dX2_linkUsers_92 : decode cX2_linkUsers 92 = .ok (.iload 4, 2) := by decide +kernel
theorem dX2_linkUsers_94 : decode cX2_linkUsers 94 = .ok (.iload_n 3, 1) := by decide +kernel
theorem dX2_linkUsers_95 : decode cX2_linkUsers 95 = .ok (.iconst 1, 1) := by decide +kernel
theorem dX2_linkUsers_96 : decode cX2_linkUsers 96 = .ok (.iadd, 1) := by decide +kernel
theorem dX2_linkUsers_97 : decode cX2_linkUsers 97 = .ok (.invokevirtual 72, 3) := by decide +kernel
theorem dX2_linkUsers_100 : decode cX2_linkUsers 100 = .ok (.iinc 2 1, 3) := by decide +kernel
theorem dX2_linkUsers_103 : decode cX2_linkUsers 103 = .ok (.goto (-57), 3) := by decide +kernel
theorem dX2_linkUsers_106 : decode cX2_linkUsers 106 = .ok (.iinc 1 1, 3) := by decide +kernel
theorem dX2_linkUsers_109 : decode cX2_linkUsers 109 = .ok (.goto (-73), 3) := by decide +kernel
theorem dX2_linkUsers_112 : decode cX2_linkUsers 112 = .ok (.return_, 1) := by decide +kernel
theorem dX2_makeTerm_0 : decode cX2_makeTerm 0 = .ok (.iconst 3, 1) := by decide +kernel
theorem dX2_makeTerm_1 : decode cX2_makeTerm 1 = .ok (.iload_n 1, 1) := by decide +kernel
theorem dX2_makeTerm_2 : decode cX2_makeTerm 2 = .ok (.imul, 1) := by decide +kernel
theorem dX2_makeTerm_3 : decode cX2_makeTerm 3 = .ok (.istore_n 3, 1) := by decide +kernel
theorem dX2_makeTerm_4 : decode cX2_makeTerm 4 = .ok (.aload_n 0, 1) := by decide +kernel
theorem dX2_makeTerm_5 : decode cX2_makeTerm 5 = .ok (.iload_n 1, 1) := by decide +kernel
theorem dX2_makeTerm_6 : decode cX2_makeTerm 6 = .ok (.invokevirtual 105, 3) := by decide +kernel
theorem dX2_makeTerm_9 : decode cX2_makeTerm 9 = .ok (.istore 4, 2) := by decide +kernel
theorem dX2_makeTerm_11 : decode cX2_makeTerm 11 = .ok (.iload 4, 2) := by decide +kernel
theorem dX2_makeTerm_13 : decode cX2_makeTerm 13 = .ok (.ifCond .le 21, 3) := by decide +kernel
theorem dX2_makeTerm_16 : decode cX2_makeTerm 16 = .ok (.aload_n 0, 1) := by decide +kernel
theorem dX2_makeTerm_17 : decode cX2_makeTerm 17 = .ok (.getfield 58, 3) := by decide +kernel
theorem dX2_makeTerm_20 : decode cX2_makeTerm 20 = .ok (.aload_n 0, 1) := by decide +kernel
theorem dX2_makeTerm_21 : decode cX2_makeTerm 21 = .ok (.getfield 25, 3) := by decide +kernel
theorem dX2_makeTerm_24 : decode cX2_makeTerm 24 = .ok (.iload_n 3, 1) := by decide +kernel
theorem dX2_makeTerm_25 : decode cX2_makeTerm 25 = .ok (.invokevirtual 76, 3) := by decide +kernel
theorem dX2_makeTerm_28 : decode cX2_makeTerm 28 = .ok (.invokevirtual 76, 3) := by decide +kernel
theorem dX2_makeTerm_31 : decode cX2_makeTerm 31 = .ok (.goto 4, 3) := by decide +kernel
theorem dX2_makeTerm_34 : decode cX2_makeTerm 34 = .ok (.iconst (-1), 1) := by decide +kernel
theorem dX2_makeTerm_35 : decode cX2_makeTerm 35 = .ok (.istore 5, 2) := by decide +kernel
theorem dX2_makeTerm_37 : decode cX2_makeTerm 37 = .ok (.iload 4, 2) := by decide +kernel
theorem dX2_makeTerm_39 : decode cX2_makeTerm 39 = .ok (.iconst 1, 1) := by decide +kernel
theorem dX2_makeTerm_40 : decode cX2_makeTerm 40 = .ok (.if_icmp .le 23, 3) := by decide +kernel
theorem dX2_makeTerm_43 : decode cX2_makeTerm 43 = .ok (.aload_n 0, 1) := by decide +kernel
theorem dX2_makeTerm_44 : decode cX2_makeTerm 44 = .ok (.getfield 58, 3) := by decide +kernel
theorem dX2_makeTerm_47 : decode cX2_makeTerm 47 = .ok (.aload_n 0, 1) := by decide +kernel
theorem dX2_makeTerm_48 : decode cX2_makeTerm 48 = .ok (.getfield 25, 3) := by decide +kernel
theorem dX2_makeTerm_51 : decode cX2_makeTerm 51 = .ok (.iload_n 3, 1) := by decide +kernel
theorem dX2_makeTerm_52 : decode cX2_makeTerm 52 = .ok (.iconst 1, 1) := by decide +kernel
theorem dX2_makeTerm_53 : decode cX2_makeTerm 53 = .ok (.iadd, 1) := by decide +kernel
theorem dX2_makeTerm_54 : decode cX2_makeTerm 54 = .ok (.invokevirtual 76, 3) := by decide +kernel
theorem dX2_makeTerm_57 : decode cX2_makeTerm 57 = .ok (.invokevirtual 76, 3) := by decide +kernel
theorem dX2_makeTerm_60 : decode cX2_makeTerm 60 = .ok (.goto 4, 3) := by decide +kernel
theorem dX2_makeTerm_63 : decode cX2_makeTerm 63 = .ok (.iconst (-1), 1) := by decide +kernel
theorem dX2_makeTerm_64 : decode cX2_makeTerm 64 = .ok (.istore 6, 2) := by decide +kernel
theorem dX2_makeTerm_66 : decode cX2_makeTerm 66 = .ok (.iload 4, 2) := by decide +kernel
theorem dX2_makeTerm_68 : decode cX2_makeTerm 68 = .ok (.iconst 2, 1) := by decide +kernel
theorem dX2_makeTerm_69 : decode cX2_makeTerm 69 = .ok (.if_icmp .le 23, 3) := by decide +kernel
theorem dX2_makeTerm_72 : decode cX2_makeTerm 72 = .ok (.aload_n 0, 1) := by decide +kernel
theorem dX2_makeTerm_73 : decode cX2_makeTerm 73 = .ok (.getfield 58, 3) := by decide +kernel
theorem dX2_makeTerm_76 : decode cX2_makeTerm 76 = .ok (.aload_n 0, 1) := by decide +kernel
theorem dX2_makeTerm_77 : decode cX2_makeTerm 77 = .ok (.getfield 25, 3) := by decide +kernel
theorem dX2_makeTerm_80 : decode cX2_makeTerm 80 = .ok (.iload_n 3, 1) := by decide +kernel
theorem dX2_makeTerm_81 : decode cX2_makeTerm 81 = .ok (.iconst 2, 1) := by decide +kernel
theorem dX2_makeTerm_82 : decode cX2_makeTerm 82 = .ok (.iadd, 1) := by decide +kernel
theorem dX2_makeTerm_83 : decode cX2_makeTerm 83 = .ok (.invokevirtual 76, 3) := by decide +kernel
theorem dX2_makeTerm_86 : decode cX2_makeTerm 86 = .ok (.invokevirtual 76, 3) := by decide +kernel
theorem dX2_makeTerm_89 : decode cX2_makeTerm 89 = .ok (.goto 4, 3) := by decide +kernel
theorem dX2_makeTerm_92 : decode cX2_makeTerm 92 = .ok (.iconst (-1), 1) := by decide +kernel
theorem dX2_makeTerm_93 : decode cX2_makeTerm 93 = .ok (.istore 7, 2) := by decide +kernel
theorem dX2_makeTerm_95 : decode cX2_makeTerm 95 = .ok (.aload_n 2, 1) := by decide +kernel
theorem dX2_makeTerm_96 : decode cX2_makeTerm 96 = .ok (.aload_n 0, 1) := by decide +kernel
theorem dX2_makeTerm_97 : decode cX2_makeTerm 97 = .ok (.getfield 21, 3) := by decide +kernel
theorem dX2_makeTerm_100 : decode cX2_makeTerm 100 = .ok (.iload_n 1, 1) := by decide +kernel
theorem dX2_makeTerm_101 : decode cX2_makeTerm 101 = .ok (.invokevirtual 76, 3) := by decide +kernel
theorem dX2_makeTerm_104 : decode cX2_makeTerm 104 = .ok (.iload 5, 2) := by decide +kernel
theorem dX2_makeTerm_106 : decode cX2_makeTerm 106 = .ok (.iload 6, 2) := by decide +kernel
theorem dX2_makeTerm_108 : decode cX2_makeTerm 108 = .ok (.iload 7, 2) := by decide +kernel
theorem dX2_makeTerm_110 : decode cX2_makeTerm 110 = .ok (.invokevirtual 157, 3) := by decide +kernel
theorem dX2_makeTerm_113 : decode cX2_makeTerm 113 = .ok (.ireturn, 1) := by decide +kernel
theorem dX2_need_0 : decode cX2_need 0 = .ok (.aload_n 0, 1) := by decide +kernel
theorem dX2_need_1 : decode cX2_need 1 = .ok (.getfield 28, 3) := by decide +kernel
theorem dX2_need_4 : decode cX2_need 4 = .ok (.iload_n 1, 1) := by decide +kernel
theorem dX2_need_5 : decode cX2_need 5 = .ok (.iconst 1, 1) := by decide +kernel
theorem dX2_need_6 : decode cX2_need 6 = .ok (.invokevirtual 72, 3) := by decide +kernel
theorem dX2_need_9 : decode cX2_need 9 = .ok (.return_, 1) := by decide +kernel
theorem dX2_needParts_0 : decode cX2_needParts 0 = .ok (.iconst 0, 1) := by decide +kernel
theorem dX2_needParts_1 : decode cX2_needParts 1 = .ok (.istore_n 2, 1) := by decide +kernel
theorem dX2_needParts_2 : decode cX2_needParts 2 = .ok (.iload_n 2, 1) := by decide +kernel
theorem dX2_needParts_3 : decode cX2_needParts 3 = .ok (.aload_n 0, 1) := by decide +kernel
theorem dX2_needParts_4 : decode cX2_needParts 4 = .ok (.iload_n 1, 1) := by decide +kernel
theorem dX2_needParts_5 : decode cX2_needParts 5 = .ok (.invokevirtual 105, 3) := by decide +kernel
theorem dX2_needParts_8 : decode cX2_needParts 8 = .ok (.if_icmp .ge 29, 3) := by decide +kernel
theorem dX2_needParts_11 : decode cX2_needParts 11 = .ok (.aload_n 0, 1) := by decide +kernel
theorem dX2_needParts_12 : decode cX2_needParts 12 = .ok (.getfield 28, 3) := by decide +kernel
theorem dX2_needParts_15 : decode cX2_needParts 15 = .ok (.aload_n 0, 1) := by decide +kernel
theorem dX2_needParts_16 : decode cX2_needParts 16 = .ok (.getfield 25, 3) := by decide +kernel
theorem dX2_needParts_19 : decode cX2_needParts 19 = .ok (.iconst 3, 1) := by decide +kernel
theorem dX2_needParts_20 : decode cX2_needParts 20 = .ok (.iload_n 1, 1) := by decide +kernel
theorem dX2_needParts_21 : decode cX2_needParts 21 = .ok (.imul, 1) := by decide +kernel
theorem dX2_needParts_22 : decode cX2_needParts 22 = .ok (.iload_n 2, 1) := by decide +kernel
theorem dX2_needParts_23 : decode cX2_needParts 23 = .ok (.iadd, 1) := by decide +kernel
theorem dX2_needParts_24 : decode cX2_needParts 24 = .ok (.invokevirtual 76, 3) := by decide +kernel
theorem dX2_needParts_27 : decode cX2_needParts 27 = .ok (.iconst 1, 1) := by decide +kernel
theorem dX2_needParts_28 : decode cX2_needParts 28 = .ok (.invokevirtual 72, 3) := by decide +kernel
theorem dX2_needParts_31 : decode cX2_needParts 31 = .ok (.iinc 2 1, 3) := by decide +kernel
theorem dX2_needParts_34 : decode cX2_needParts 34 = .ok (.goto (-32), 3) := by decide +kernel
theorem dX2_needParts_37 : decode cX2_needParts 37 = .ok (.return_, 1) := by decide +kernel
theorem dX2_owner_0 : decode cX2_owner 0 = .ok (.aload_n 0, 1) := by decide +kernel
theorem dX2_owner_1 : decode cX2_owner 1 = .ok (.getfield 15, 3) := by decide +kernel
theorem dX2_owner_4 : decode cX2_owner 4 = .ok (.iload_n 1, 1) := by decide +kernel
theorem dX2_owner_5 : decode cX2_owner 5 = .ok (.invokevirtual 76, 3) := by decide +kernel
theorem dX2_owner_8 : decode cX2_owner 8 = .ok (.ireturn, 1) := by decide +kernel
theorem dX2_position_0 : decode cX2_position 0 = .ok (.aload_n 0, 1) := by decide +kernel
theorem dX2_position_1 : decode cX2_position 1 = .ok (.getfield 52, 3) := by decide +kernel
theorem dX2_position_4 : decode cX2_position 4 = .ok (.iload_n 1, 1) := by decide +kernel
theorem dX2_position_5 : decode cX2_position 5 = .ok (.invokevirtual 76, 3) := by decide +kernel
theorem dX2_position_8 : decode cX2_position 8 = .ok (.ireturn, 1) := by decide +kernel
theorem dX2_rank_0 : decode cX2_rank 0 = .ok (.aload_n 0, 1) := by decide +kernel
theorem dX2_rank_1 : decode cX2_rank 1 = .ok (.iload_n 1, 1) := by decide +kernel
theorem dX2_rank_2 : decode cX2_rank 2 = .ok (.putfield 116, 3) := by decide +kernel
theorem dX2_rank_5 : decode cX2_rank 5 = .ok (.aload_n 0, 1) := by decide +kernel
theorem dX2_rank_6 : decode cX2_rank 6 = .ok (.iconst 0, 1) := by decide +kernel
theorem dX2_rank_7 : decode cX2_rank 7 = .ok (.putfield 119, 3) := by decide +kernel
theorem dX2_rank_10 : decode cX2_rank 10 = .ok (.aload_n 0, 1) := by decide +kernel
theorem dX2_rank_11 : decode cX2_rank 11 = .ok (.iconst 0, 1) := by decide +kernel
theorem dX2_rank_12 : decode cX2_rank 12 = .ok (.putfield 113, 3) := by decide +kernel
theorem dX2_rank_15 : decode cX2_rank 15 = .ok (.aload_n 0, 1) := by decide +kernel
theorem dX2_rank_16 : decode cX2_rank 16 = .ok (.invokevirtual 122, 3) := by decide +kernel
theorem dX2_rank_19 : decode cX2_rank 19 = .ok (.iconst 0, 1) := by decide +kernel
theorem dX2_rank_20 : decode cX2_rank 20 = .ok (.istore_n 2, 1) := by decide +kernel
theorem dX2_rank_21 : decode cX2_rank 21 = .ok (.iload_n 2, 1) := by decide +kernel
theorem dX2_rank_22 : decode cX2_rank 22 = .ok (.aload_n 0, 1) := by decide +kernel
theorem dX2_rank_23 : decode cX2_rank 23 = .ok (.getfield 69, 3) := by decide +kernel
theorem dX2_rank_26 : decode cX2_rank 26 = .ok (.if_icmp .ge 35, 3) := by decide +kernel
theorem dX2_rank_29 : decode cX2_rank 29 = .ok (.aload_n 0, 1) := by decide +kernel
theorem dX2_rank_30 : decode cX2_rank 30 = .ok (.getfield 28, 3) := by decide +kernel
theorem dX2_rank_33 : decode cX2_rank 33 = .ok (.iload_n 2, 1) := by decide +kernel
theorem dX2_rank_34 : decode cX2_rank 34 = .ok (.aload_n 0, 1) := by decide +kernel
theorem dX2_rank_35 : decode cX2_rank 35 = .ok (.iload_n 2, 1) := by decide +kernel
theorem dX2_rank_36 : decode cX2_rank 36 = .ok (.invokevirtual 105, 3) := by decide +kernel
theorem dX2_rank_39 : decode cX2_rank 39 = .ok (.invokevirtual 72, 3) := by decide +kernel
theorem dX2_rank_42 : decode cX2_rank 42 = .ok (.aload_n 0, 1) := by decide +kernel
theorem dX2_rank_43 : decode cX2_rank 43 = .ok (.iload_n 2, 1) := by decide +kernel
theorem dX2_rank_44 : decode cX2_rank 44 = .ok (.invokevirtual 105, 3) := by decide +kernel
theorem dX2_rank_47 : decode cX2_rank 47 = .ok (.ifCond .ne 8, 3) := by decide +kernel
theorem dX2_rank_50 : decode cX2_rank 50 = .ok (.aload_n 0, 1) := by decide +kernel
theorem dX2_rank_51 : decode cX2_rank 51 = .ok (.iload_n 2, 1) := by decide +kernel
theorem dX2_rank_52 : decode cX2_rank 52 = .ok (.invokevirtual 125, 3) := by decide +kernel
theorem dX2_rank_55 : decode cX2_rank 55 = .ok (.iinc 2 1, 3) := by decide +kernel
theorem dX2_rank_58 : decode cX2_rank 58 = .ok (.goto (-37), 3) := by decide +kernel
theorem dX2_rank_61 : decode cX2_rank 61 = .ok (.iconst 0, 1) := by decide +kernel
theorem dX2_rank_62 : decode cX2_rank 62 = .ok (.istore_n 2, 1) := by decide +kernel
theorem dX2_rank_63 : decode cX2_rank 63 = .ok (.iload_n 2, 1) := by decide +kernel
theorem dX2_rank_64 : decode cX2_rank 64 = .ok (.aload_n 0, 1) := by decide +kernel
theorem dX2_rank_65 : decode cX2_rank 65 = .ok (.getfield 69, 3) := by decide +kernel
theorem dX2_rank_68 : decode cX2_rank 68 = .ok (.if_icmp .ge 148, 3) := by decide +kernel
theorem dX2_rank_71 : decode cX2_rank 71 = .ok (.aload_n 0, 1) := by decide +kernel
theorem dX2_rank_72 : decode cX2_rank 72 = .ok (.getfield 119, 3) := by decide +kernel
theorem dX2_rank_75 : decode cX2_rank 75 = .ok (.ifCond .le 141, 3) := by decide +kernel
theorem dX2_rank_78 : decode cX2_rank 78 = .ok (.aload_n 0, 1) := by decide +kernel
theorem dX2_rank_79 : decode cX2_rank 79 = .ok (.invokevirtual 128, 3) := by decide +kernel
theorem dX2_rank_82 : decode cX2_rank 82 = .ok (.istore_n 3, 1) := by decide +kernel
theorem dX2_rank_83 : decode cX2_rank 83 = .ok (.aload_n 0, 1) := by decide +kernel
theorem dX2_rank_84 : decode cX2_rank 84 = .ok (.getfield 15, 3) := by decide +kernel
theorem dX2_rank_87 : decode cX2_rank 87 = .ok (.iload_n 3, 1) := by decide +kernel
theorem dX2_rank_88 : decode cX2_rank 88 = .ok (.invokevirtual 76, 3) := by decide +kernel
theorem dX2_rank_91 : decode cX2_rank 91 = .ok (.istore 4, 2) := by decide +kernel
theorem dX2_rank_93 : decode cX2_rank 93 = .ok (.aload_n 0, 1) := by decide +kernel
theorem dX2_rank_94 : decode cX2_rank 94 = .ok (.getfield 55, 3) := by decide +kernel
theorem dX2_rank_97 : decode cX2_rank 97 = .ok (.iload_n 2, 1) := by decide +kernel
theorem dX2_rank_98 : decode cX2_rank 98 = .ok (.iload_n 3, 1) := by decide +kernel
theorem dX2_rank_99 : decode cX2_rank 99 = .ok (.invokevirtual 72, 3) := by decide +kernel
theorem dX2_rank_102 : decode cX2_rank 102 = .ok (.aload_n 0, 1) := by decide +kernel
theorem dX2_rank_103 : decode cX2_rank 103 = .ok (.iload_n 2, 1) := by decide +kernel
theorem dX2_rank_104 : decode cX2_rank 104 = .ok (.iconst 1, 1) := by decide +kernel
theorem dX2_rank_105 : decode cX2_rank 105 = .ok (.iadd, 1) := by decide +kernel
theorem dX2_rank_106 : decode cX2_rank 106 = .ok (.putfield 113, 3) := by decide +kernel
theorem dX2_rank_109 : decode cX2_rank 109 = .ok (.aload_n 0, 1) := by decide +kernel
theorem dX2_rank_110 : decode cX2_rank 110 = .ok (.getfield 49, 3) := by decide +kernel
theorem dX2_rank_113 : decode cX2_rank 113 = .ok (.iload 4, 2) := by decide +kernel
theorem dX2_rank_115 : decode cX2_rank 115 = .ok (.invokevirtual 76, 3) := by decide +kernel
theorem dX2_rank_118 : decode cX2_rank 118 = .ok (.iconst (-1), 1) := by decide +kernel
theorem dX2_rank_119 : decode cX2_rank 119 = .ok (.if_icmp .ne 91, 3) := by decide +kernel
theorem dX2_rank_122 : decode cX2_rank 122 = .ok (.aload_n 0, 1) := by decide +kernel
theorem dX2_rank_123 : decode cX2_rank 123 = .ok (.getfield 49, 3) := by decide +kernel
theorem dX2_rank_126 : decode cX2_rank 126 = .ok (.iload 4, 2) := by decide +kernel
theorem dX2_rank_128 : decode cX2_rank 128 = .ok (.iload_n 3, 1) := by decide +kernel
theorem dX2_rank_129 : decode cX2_rank 129 = .ok (.invokevirtual 72, 3) := by decide +kernel
theorem dX2_rank_132 : decode cX2_rank 132 = .ok (.aload_n 0, 1) := by decide +kernel
theorem dX2_rank_133 : decode cX2_rank 133 = .ok (.getfield 52, 3) := by decide +kernel
theorem dX2_rank_136 : decode cX2_rank 136 = .ok (.iload 4, 2) := by decide +kernel
theorem dX2_rank_138 : decode cX2_rank 138 = .ok (.iload_n 2, 1) := by decide +kernel
theorem dX2_rank_139 : decode cX2_rank 139 = .ok (.invokevirtual 72, 3) := by decide +kernel
theorem dX2_rank_142 : decode cX2_rank 142 = .ok (.aload_n 0, 1) := by decide +kernel
theorem dX2_rank_143 : decode cX2_rank 143 = .ok (.getfield 31, 3) := by decide +kernel
theorem dX2_rank_146 : decode cX2_rank 146 = .ok (.iload 4, 2) := by decide +kernel
theorem dX2_rank_148 : decode cX2_rank 148 = .ok (.invokevirtual 76, 3) := by decide +kernel
theorem dX2_rank_151 : decode cX2_rank 151 = .ok (.iconst 1, 1) := by decide +kernel
theorem dX2_rank_152 : decode cX2_rank 152 = .ok (.isub, 1) := by decide +kernel
theorem dX2_rank_153 : decode cX2_rank 153 = .ok (.istore 5, 2) := by decide +kernel
theorem dX2_rank_155 : decode cX2_rank 155 = .ok (.iconst 0, 1) := by decide +kernel
theorem dX2_rank_156 : decode cX2_rank 156 = .ok (.istore 6, 2) := by decide +kernel
theorem dX2_rank_158 : decode cX2_rank 158 = .ok (.iload 5, 2) := by decide +kernel
theorem dX2_rank_160 : decode cX2_rank 160 = .ok (.ifCond .lt 50, 3) := by decide +kernel
theorem dX2_rank_163 : decode cX2_rank 163 = .ok (.iload 6, 2) := by decide +kernel
theorem dX2_rank_165 : decode cX2_rank 165 = .ok (.iconst 3, 1) := by decide +kernel
theorem dX2_rank_166 : decode cX2_rank 166 = .ok (.aload_n 0, 1) := by decide +kernel
theorem dX2_rank_167 : decode cX2_rank 167 = .ok (.getfield 69, 3) := by decide +kernel
theorem dX2_rank_170 : decode cX2_rank 170 = .ok (.imul, 1) := by decide +kernel
theorem dX2_rank_171 : decode cX2_rank 171 = .ok (.if_icmp .ge 39, 3) := by decide +kernel
theorem dX2_rank_174 : decode cX2_rank 174 = .ok (.aload_n 0, 1) := by decide +kernel
theorem dX2_rank_175 : decode cX2_rank 175 = .ok (.iload 5, 2) := by decide +kernel
theorem dX2_rank_177 : decode cX2_rank 177 = .ok (.invokevirtual 131, 3) := by decide +kernel
theorem dX2_rank_180 : decode cX2_rank 180 = .ok (.ifCond .eq 11, 3) := by decide +kernel
theorem dX2_rank_183 : decode cX2_rank 183 = .ok (.aload_n 0, 1) := by decide +kernel
theorem dX2_rank_184 : decode cX2_rank 184 = .ok (.iload 5, 2) := by decide +kernel
theorem dX2_rank_186 : decode cX2_rank 186 = .ok (.iconst 3, 1) := by decide +kernel
theorem dX2_rank_187 : decode cX2_rank 187 = .ok (.idiv, 1) := by decide +kernel
theorem dX2_rank_188 : decode cX2_rank 188 = .ok (.invokevirtual 125, 3) := by decide +kernel
theorem dX2_rank_191 : decode cX2_rank 191 = .ok (.aload_n 0, 1) := by decide +kernel
theorem dX2_rank_192 : decode cX2_rank 192 = .ok (.getfield 34, 3) := by decide +kernel
theorem dX2_rank_195 : decode cX2_rank 195 = .ok (.iload 5, 2) := by decide +kernel
theorem dX2_rank_197 : decode cX2_rank 197 = .ok (.invokevirtual 76, 3) := by decide +kernel
theorem dX2_rank_200 : decode cX2_rank 200 = .ok (.iconst 1, 1) := by decide +kernel
theorem dX2_rank_201 : decode cX2_rank 201 = .ok (.isub, 1) := by decide +kernel
theorem dX2_rank_202 : decode cX2_rank 202 = .ok (.istore 5, 2) := by decide +kernel
theorem dX2_rank_204 : decode cX2_rank 204 = .ok (.iinc 6 1, 3) := by decide +kernel
theorem dX2_rank_207 : decode cX2_rank 207 = .ok (.goto (-49), 3) := by decide +kernel
theorem dX2_rank_210 : decode cX2_rank 210 = .ok (.iinc 2 1, 3) := by decide +kernel
theorem dX2_rank_213 : decode cX2_rank 213 = .ok (.goto (-150), 3) := by decide +kernel
theorem dX2_rank_216 : decode cX2_rank 216 = .ok (.return_, 1) := by decide +kernel
theorem dX2_ranked_0 : decode cX2_ranked 0 = .ok (.aload_n 0, 1) := by decide +kernel
theorem dX2_ranked_1 : decode cX2_ranked 1 = .ok (.getfield 55, 3) := by decide +kernel
theorem dX2_ranked_4 : decode cX2_ranked 4 = .ok (.iload_n 1, 1) := by decide +kernel
theorem dX2_ranked_5 : decode cX2_ranked 5 = .ok (.invokevirtual 76, 3) := by decide +kernel
theorem dX2_ranked_8 : decode cX2_ranked 8 = .ok (.ireturn, 1) := by decide +kernel
theorem dX2_sequenceCount_0 : decode cX2_sequenceCount 0 = .ok (.aload_n 0, 1) := by decide +kernel
theorem dX2_sequenceCount_1 : decode cX2_sequenceCount 1 = .ok (.getfield 113, 3) := by decide +kernel
theorem dX2_sequenceCount_4 : decode cX2_sequenceCount 4 = .ok (.ireturn, 1) := by decide +kernel
theorem dX2_setLeastTerm_0 : decode cX2_setLeastTerm 0 = .ok (.aload_n 0, 1) := by decide +kernel
theorem dX2_setLeastTerm_1 : decode cX2_setLeastTerm 1 = .ok (.getfield 58, 3) := by decide +kernel
theorem dX2_setLeastTerm_4 : decode cX2_setLeastTerm 4 = .ok (.iload_n 1, 1) := by decide +kernel
theorem dX2_setLeastTerm_5 : decode cX2_setLeastTerm 5 = .ok (.iload_n 2, 1) := by decide +kernel
theorem dX2_setLeastTerm_6 : decode cX2_setLeastTerm 6 = .ok (.invokevirtual 72, 3) := by decide +kernel
theorem dX2_setLeastTerm_9 : decode cX2_setLeastTerm 9 = .ok (.return_, 1) := by decide +kernel
theorem dX2_setPart_0 : decode cX2_setPart 0 = .ok (.aload_n 0, 1) := by decide +kernel
theorem dX2_setPart_1 : decode cX2_setPart 1 = .ok (.getfield 25, 3) := by decide +kernel
theorem dX2_setPart_4 : decode cX2_setPart 4 = .ok (.iconst 3, 1) := by decide +kernel
theorem dX2_setPart_5 : decode cX2_setPart 5 = .ok (.iload_n 1, 1) := by decide +kernel
theorem dX2_setPart_6 : decode cX2_setPart 6 = .ok (.imul, 1) := by decide +kernel
theorem dX2_setPart_7 : decode cX2_setPart 7 = .ok (.iload_n 2, 1) := by decide +kernel
theorem dX2_setPart_8 : decode cX2_setPart 8 = .ok (.iadd, 1) := by decide +kernel
theorem dX2_setPart_9 : decode cX2_setPart 9 = .ok (.iload_n 3, 1) := by decide +kernel
theorem dX2_setPart_10 : decode cX2_setPart 10 = .ok (.invokevirtual 72, 3) := by decide +kernel
theorem dX2_setPart_13 : decode cX2_setPart 13 = .ok (.return_, 1) := by decide +kernel
theorem dX2_spreadNeeds_0 : decode cX2_spreadNeeds 0 = .ok (.aload_n 0, 1) := by decide +kernel
theorem dX2_spreadNeeds_1 : decode cX2_spreadNeeds 1 = .ok (.getfield 113, 3) := by decide +kernel
theorem dX2_spreadNeeds_4 : decode cX2_spreadNeeds 4 = .ok (.iconst 1, 1) := by decide +kernel
theorem dX2_spreadNeeds_5 : decode cX2_spreadNeeds 5 = .ok (.isub, 1) := by decide +kernel
theorem dX2_spreadNeeds_6 : decode cX2_spreadNeeds 6 = .ok (.istore_n 1, 1) := by decide +kernel
theorem dX2_spreadNeeds_7 : decode cX2_spreadNeeds 7 = .ok (.iload_n 1, 1) := by decide +kernel
theorem dX2_spreadNeeds_8 : decode cX2_spreadNeeds 8 = .ok (.ifCond .lt 31, 3) := by decide +kernel
theorem dX2_spreadNeeds_11 : decode cX2_spreadNeeds 11 = .ok (.aload_n 0, 1) := by decide +kernel
theorem dX2_spreadNeeds_12 : decode cX2_spreadNeeds 12 = .ok (.getfield 55, 3) := by decide +kernel
theorem dX2_spreadNeeds_15 : decode cX2_spreadNeeds 15 = .ok (.iload_n 1, 1) := by decide +kernel
theorem dX2_spreadNeeds_16 : decode cX2_spreadNeeds 16 = .ok (.invokevirtual 76, 3) := by decide +kernel
theorem dX2_spreadNeeds_19 : decode cX2_spreadNeeds 19 = .ok (.istore_n 2, 1) := by decide +kernel
theorem dX2_spreadNeeds_20 : decode cX2_spreadNeeds 20 = .ok (.aload_n 0, 1) := by decide +kernel
theorem dX2_spreadNeeds_21 : decode cX2_spreadNeeds 21 = .ok (.iload_n 2, 1) := by decide +kernel
theorem dX2_spreadNeeds_22 : decode cX2_spreadNeeds 22 = .ok (.invokevirtual 161, 3) := by decide +kernel
theorem dX2_spreadNeeds_25 : decode cX2_spreadNeeds 25 = .ok (.ifCond .eq 8, 3) := by decide +kernel
theorem dX2_spreadNeeds_28 : decode cX2_spreadNeeds 28 = .ok (.aload_n 0, 1) := by decide +kernel
theorem dX2_spreadNeeds_29 : decode cX2_spreadNeeds 29 = .ok (.iload_n 2, 1) := by decide +kernel
theorem dX2_spreadNeeds_30 : decode cX2_spreadNeeds 30 = .ok (.invokevirtual 164, 3) := by decide +kernel
theorem dX2_spreadNeeds_33 : decode cX2_spreadNeeds 33 = .ok (.iinc 1 (-1), 3) := by decide +kernel
theorem dX2_spreadNeeds_36 : decode cX2_spreadNeeds 36 = .ok (.goto (-29), 3) := by decide +kernel
theorem dX2_spreadNeeds_39 : decode cX2_spreadNeeds 39 = .ok (.return_, 1) := by decide +kernel
theorem dX2_takeLeast_0 : decode cX2_takeLeast 0 = .ok (.aload_n 0, 1) := by decide +kernel
theorem dX2_takeLeast_1 : decode cX2_takeLeast 1 = .ok (.getfield 46, 3) := by decide +kernel
theorem dX2_takeLeast_4 : decode cX2_takeLeast 4 = .ok (.iconst 0, 1) := by decide +kernel
theorem dX2_takeLeast_5 : decode cX2_takeLeast 5 = .ok (.invokevirtual 76, 3) := by decide +kernel
theorem dX2_takeLeast_8 : decode cX2_takeLeast 8 = .ok (.istore_n 1, 1) := by decide +kernel
theorem dX2_takeLeast_9 : decode cX2_takeLeast 9 = .ok (.aload_n 0, 1) := by decide +kernel
theorem dX2_takeLeast_10 : decode cX2_takeLeast 10 = .ok (.dup, 1) := by decide +kernel
theorem dX2_takeLeast_11 : decode cX2_takeLeast 11 = .ok (.getfield 119, 3) := by decide +kernel
theorem dX2_takeLeast_14 : decode cX2_takeLeast 14 = .ok (.iconst 1, 1) := by decide +kernel
theorem dX2_takeLeast_15 : decode cX2_takeLeast 15 = .ok (.isub, 1) := by decide +kernel
theorem dX2_takeLeast_16 : decode cX2_takeLeast 16 = .ok (.putfield 119, 3) := by decide +kernel
theorem dX2_takeLeast_19 : decode cX2_takeLeast 19 = .ok (.aload_n 0, 1) := by decide +kernel
theorem dX2_takeLeast_20 : decode cX2_takeLeast 20 = .ok (.getfield 46, 3) := by decide +kernel
theorem dX2_takeLeast_23 : decode cX2_takeLeast 23 = .ok (.aload_n 0, 1) := by decide +kernel
theorem dX2_takeLeast_24 : decode cX2_takeLeast 24 = .ok (.getfield 119, 3) := by decide +kernel
theorem dX2_takeLeast_27 : decode cX2_takeLeast 27 = .ok (.invokevirtual 76, 3) := by decide +kernel
theorem dX2_takeLeast_30 : decode cX2_takeLeast 30 = .ok (.istore_n 2, 1) := by decide +kernel
theorem dX2_takeLeast_31 : decode cX2_takeLeast 31 = .ok (.iconst 0, 1) := by decide +kernel
theorem dX2_takeLeast_32 : decode cX2_takeLeast 32 = .ok (.istore_n 3, 1) := by decide +kernel
theorem dX2_takeLeast_33 : decode cX2_takeLeast 33 = .ok (.iconst 0, 1) := by decide +kernel
theorem dX2_takeLeast_34 : decode cX2_takeLeast 34 = .ok (.istore 4, 2) := by decide +kernel
theorem dX2_takeLeast_36 : decode cX2_takeLeast 36 = .ok (.iload 4, 2) := by decide +kernel
theorem dX2_takeLeast_38 : decode cX2_takeLeast 38 = .ok (.aload_n 0, 1) := by decide +kernel
theorem dX2_takeLeast_39 : decode cX2_takeLeast 39 = .ok (.getfield 119, 3) := by decide +kernel
theorem dX2_takeLeast_42 : decode cX2_takeLeast 42 = .ok (.if_icmp .ge 109, 3) := by decide +kernel
theorem dX2_takeLeast_45 : decode cX2_takeLeast 45 = .ok (.iconst 2, 1) := by decide +kernel
theorem dX2_takeLeast_46 : decode cX2_takeLeast 46 = .ok (.iload_n 3, 1) := by decide +kernel
theorem dX2_takeLeast_47 : decode cX2_takeLeast 47 = .ok (.imul, 1) := by decide +kernel
theorem dX2_takeLeast_48 : decode cX2_takeLeast 48 = .ok (.iconst 1, 1) := by decide +kernel
theorem dX2_takeLeast_49 : decode cX2_takeLeast 49 = .ok (.iadd, 1) := by decide +kernel
theorem dX2_takeLeast_50 : decode cX2_takeLeast 50 = .ok (.istore 5, 2) := by decide +kernel
theorem dX2_takeLeast_52 : decode cX2_takeLeast 52 = .ok (.iload 5, 2) := by decide +kernel
theorem dX2_takeLeast_54 : decode cX2_takeLeast 54 = .ok (.aload_n 0, 1) := by decide +kernel
theorem dX2_takeLeast_55 : decode cX2_takeLeast 55 = .ok (.getfield 119, 3) := by decide +kernel
theorem dX2_takeLeast_58 : decode cX2_takeLeast 58 = .ok (.if_icmp .lt 6, 3) := by decide +kernel
theorem dX2_takeLeast_61 : decode cX2_takeLeast 61 = .ok (.goto 90, 3) := by decide +kernel
theorem dX2_takeLeast_64 : decode cX2_takeLeast 64 = .ok (.iload 5, 2) := by decide +kernel
theorem dX2_takeLeast_66 : decode cX2_takeLeast 66 = .ok (.iconst 1, 1) := by decide +kernel
theorem dX2_takeLeast_67 : decode cX2_takeLeast 67 = .ok (.iadd, 1) := by decide +kernel
theorem dX2_takeLeast_68 : decode cX2_takeLeast 68 = .ok (.aload_n 0, 1) := by decide +kernel
theorem dX2_takeLeast_69 : decode cX2_takeLeast 69 = .ok (.getfield 119, 3) := by decide +kernel
theorem dX2_takeLeast_72 : decode cX2_takeLeast 72 = .ok (.if_icmp .ge 33, 3) := by decide +kernel
theorem dX2_takeLeast_75 : decode cX2_takeLeast 75 = .ok (.aload_n 0, 1) := by decide +kernel
theorem dX2_takeLeast_76 : decode cX2_takeLeast 76 = .ok (.aload_n 0, 1) := by decide +kernel
theorem dX2_takeLeast_77 : decode cX2_takeLeast 77 = .ok (.getfield 46, 3) := by decide +kernel
theorem dX2_takeLeast_80 : decode cX2_takeLeast 80 = .ok (.iload 5, 2) := by decide +kernel
theorem dX2_takeLeast_82 : decode cX2_takeLeast 82 = .ok (.iconst 1, 1) := by decide +kernel
theorem dX2_takeLeast_83 : decode cX2_takeLeast 83 = .ok (.iadd, 1) := by decide +kernel
theorem dX2_takeLeast_84 : decode cX2_takeLeast 84 = .ok (.invokevirtual 76, 3) := by decide +kernel
theorem dX2_takeLeast_87 : decode cX2_takeLeast 87 = .ok (.aload_n 0, 1) := by decide +kernel
theorem dX2_takeLeast_88 : decode cX2_takeLeast 88 = .ok (.getfield 46, 3) := by decide +kernel
theorem dX2_takeLeast_91 : decode cX2_takeLeast 91 = .ok (.iload 5, 2) := by decide +kernel
theorem dX2_takeLeast_93 : decode cX2_takeLeast 93 = .ok (.invokevirtual 76, 3) := by decide +kernel
theorem dX2_takeLeast_96 : decode cX2_takeLeast 96 = .ok (.invokevirtual 147, 3) := by decide +kernel
theorem dX2_takeLeast_99 : decode cX2_takeLeast 99 = .ok (.ifCond .eq 6, 3) := by decide +kernel
theorem dX2_takeLeast_102 : decode cX2_takeLeast 102 = .ok (.iinc 5 1, 3) := by decide +kernel
theorem dX2_takeLeast_105 : decode cX2_takeLeast 105 = .ok (.aload_n 0, 1) := by decide +kernel
theorem dX2_takeLeast_106 : decode cX2_takeLeast 106 = .ok (.aload_n 0, 1) := by decide +kernel
theorem dX2_takeLeast_107 : decode cX2_takeLeast 107 = .ok (.getfield 46, 3) := by decide +kernel
theorem dX2_takeLeast_110 : decode cX2_takeLeast 110 = .ok (.iload 5, 2) := by decide +kernel
theorem dX2_takeLeast_112 : decode cX2_takeLeast 112 = .ok (.invokevirtual 76, 3) := by decide +kernel
theorem dX2_takeLeast_115 : decode cX2_takeLeast 115 = .ok (.iload_n 2, 1) := by decide +kernel
theorem dX2_takeLeast_116 : decode cX2_takeLeast 116 = .ok (.invokevirtual 147, 3) := by decide +kernel
theorem dX2_takeLeast_119 : decode cX2_takeLeast 119 = .ok (.ifCond .ne 6, 3) := by decide +kernel
theorem dX2_takeLeast_122 : decode cX2_takeLeast 122 = .ok (.goto 29, 3) := by decide +kernel
theorem dX2_takeLeast_125 : decode cX2_takeLeast 125 = .ok (.aload_n 0, 1) := by decide +kernel
theorem dX2_takeLeast_126 : decode cX2_takeLeast 126 = .ok (.getfield 46, 3) := by decide +kernel
theorem dX2_takeLeast_129 : decode cX2_takeLeast 129 = .ok (.iload_n 3, 1) := by decide +kernel
theorem dX2_takeLeast_130 : decode cX2_takeLeast 130 = .ok (.aload_n 0, 1) := by decide +kernel
theorem dX2_takeLeast_131 : decode cX2_takeLeast 131 = .ok (.getfield 46, 3) := by decide +kernel
theorem dX2_takeLeast_134 : decode cX2_takeLeast 134 = .ok (.iload 5, 2) := by decide +kernel
theorem dX2_takeLeast_136 : decode cX2_takeLeast 136 = .ok (.invokevirtual 76, 3) := by decide +kernel
theorem dX2_takeLeast_139 : decode cX2_takeLeast 139 = .ok (.invokevirtual 72, 3) := by decide +kernel
theorem dX2_takeLeast_142 : decode cX2_takeLeast 142 = .ok (.iload 5, 2) := by decide +kernel
theorem dX2_takeLeast_144 : decode cX2_takeLeast 144 = .ok (.istore_n 3, 1) := by decide +kernel
theorem dX2_takeLeast_145 : decode cX2_takeLeast 145 = .ok (.iinc 4 1, 3) := by decide +kernel
theorem dX2_takeLeast_148 : decode cX2_takeLeast 148 = .ok (.goto (-112), 3) := by decide +kernel
theorem dX2_takeLeast_151 : decode cX2_takeLeast 151 = .ok (.aload_n 0, 1) := by decide +kernel
theorem dX2_takeLeast_152 : decode cX2_takeLeast 152 = .ok (.getfield 46, 3) := by decide +kernel
theorem dX2_takeLeast_155 : decode cX2_takeLeast 155 = .ok (.iload_n 3, 1) := by decide +kernel
theorem dX2_takeLeast_156 : decode cX2_takeLeast 156 = .ok (.iload_n 2, 1) := by decide +kernel
theorem dX2_takeLeast_157 : decode cX2_takeLeast 157 = .ok (.invokevirtual 72, 3) := by decide +kernel
theorem dX2_takeLeast_160 : decode cX2_takeLeast 160 = .ok (.iload_n 1, 1) := by decide +kernel
theorem dX2_takeLeast_161 : decode cX2_takeLeast 161 = .ok (.ireturn, 1) := by decide +kernel
theorem dX2_takeTerms_0 : decode cX2_takeTerms 0 = .ok (.aload_n 0, 1) := by decide +kernel
theorem dX2_takeTerms_1 : decode cX2_takeTerms 1 = .ok (.aload_n 1, 1) := by decide +kernel
theorem dX2_takeTerms_2 : decode cX2_takeTerms 2 = .ok (.invokevirtual 85, 3) := by decide +kernel
theorem dX2_takeTerms_5 : decode cX2_takeTerms 5 = .ok (.invokevirtual 90, 3) := by decide +kernel
theorem dX2_takeTerms_8 : decode cX2_takeTerms 8 = .ok (.iconst 0, 1) := by decide +kernel
theorem dX2_takeTerms_9 : decode cX2_takeTerms 9 = .ok (.istore_n 3, 1) := by decide +kernel
theorem dX2_takeTerms_10 : decode cX2_takeTerms 10 = .ok (.iload_n 3, 1) := by decide +kernel
theorem dX2_takeTerms_11 : decode cX2_takeTerms 11 = .ok (.aload_n 1, 1) := by decide +kernel
theorem dX2_takeTerms_12 : decode cX2_takeTerms 12 = .ok (.invokevirtual 85, 3) := by decide +kernel
theorem dX2_takeTerms_15 : decode cX2_takeTerms 15 = .ok (.if_icmp .ge 60, 3) := by decide +kernel
theorem dX2_takeTerms_18 : decode cX2_takeTerms 18 = .ok (.aload_n 0, 1) := by decide +kernel
theorem dX2_takeTerms_19 : decode cX2_takeTerms 19 = .ok (.iload_n 3, 1) := by decide +kernel
theorem dX2_takeTerms_20 : decode cX2_takeTerms 20 = .ok (.aload_n 2, 1) := by decide +kernel
theorem dX2_takeTerms_21 : decode cX2_takeTerms 21 = .ok (.aload_n 1, 1) := by decide +kernel
theorem dX2_takeTerms_22 : decode cX2_takeTerms 22 = .ok (.iload_n 3, 1) := by decide +kernel
theorem dX2_takeTerms_23 : decode cX2_takeTerms 23 = .ok (.invokevirtual 93, 3) := by decide +kernel
theorem dX2_takeTerms_26 : decode cX2_takeTerms 26 = .ok (.invokevirtual 96, 3) := by decide +kernel
theorem dX2_takeTerms_29 : decode cX2_takeTerms 29 = .ok (.invokevirtual 101, 3) := by decide +kernel
theorem dX2_takeTerms_32 : decode cX2_takeTerms 32 = .ok (.istore 4, 2) := by decide +kernel
theorem dX2_takeTerms_34 : decode cX2_takeTerms 34 = .ok (.iconst 0, 1) := by decide +kernel
theorem dX2_takeTerms_35 : decode cX2_takeTerms 35 = .ok (.istore 5, 2) := by decide +kernel
theorem dX2_takeTerms_37 : decode cX2_takeTerms 37 = .ok (.iload 5, 2) := by decide +kernel
theorem dX2_takeTerms_39 : decode cX2_takeTerms 39 = .ok (.aload_n 0, 1) := by decide +kernel
theorem dX2_takeTerms_40 : decode cX2_takeTerms 40 = .ok (.iload 4, 2) := by decide +kernel
theorem dX2_takeTerms_42 : decode cX2_takeTerms 42 = .ok (.invokevirtual 105, 3) := by decide +kernel
theorem dX2_takeTerms_45 : decode cX2_takeTerms 45 = .ok (.if_icmp .ge 24, 3) := by decide +kernel
theorem dX2_takeTerms_48 : decode cX2_takeTerms 48 = .ok (.aload_n 0, 1) := by decide +kernel
theorem dX2_takeTerms_49 : decode cX2_takeTerms 49 = .ok (.iload 4, 2) := by decide +kernel
theorem dX2_takeTerms_51 : decode cX2_takeTerms 51 = .ok (.iload 5, 2) := by decide +kernel
theorem dX2_takeTerms_53 : decode cX2_takeTerms 53 = .ok (.aload_n 1, 1) := by decide +kernel
theorem dX2_takeTerms_54 : decode cX2_takeTerms 54 = .ok (.iload_n 3, 1) := by decide +kernel
theorem dX2_takeTerms_55 : decode cX2_takeTerms 55 = .ok (.iload 5, 2) := by decide +kernel
theorem dX2_takeTerms_57 : decode cX2_takeTerms 57 = .ok (.invokevirtual 106, 3) := by decide +kernel
theorem dX2_takeTerms_60 : decode cX2_takeTerms 60 = .ok (.invokevirtual 109, 3) := by decide +kernel
theorem dX2_takeTerms_63 : decode cX2_takeTerms 63 = .ok (.iinc 5 1, 3) := by decide +kernel
theorem dX2_takeTerms_66 : decode cX2_takeTerms 66 = .ok (.goto (-29), 3) := by decide +kernel
theorem dX2_takeTerms_69 : decode cX2_takeTerms 69 = .ok (.iinc 3 1, 3) := by decide +kernel
theorem dX2_takeTerms_72 : decode cX2_takeTerms 72 = .ok (.goto (-62), 3) := by decide +kernel
theorem dX2_takeTerms_75 : decode cX2_takeTerms 75 = .ok (.return_, 1) := by decide +kernel
theorem dX2_termDepth_0 : decode cX2_termDepth 0 = .ok (.aload_n 0, 1) := by decide +kernel
theorem dX2_termDepth_1 : decode cX2_termDepth 1 = .ok (.getfield 43, 3) := by decide +kernel
theorem dX2_termDepth_4 : decode cX2_termDepth 4 = .ok (.iload_n 1, 1) := by decide +kernel
theorem dX2_termDepth_5 : decode cX2_termDepth 5 = .ok (.invokevirtual 76, 3) := by decide +kernel
theorem dX2_termDepth_8 : decode cX2_termDepth 8 = .ok (.ireturn, 1) := by decide +kernel
theorem dX2_termSize_0 : decode cX2_termSize 0 = .ok (.aload_n 0, 1) := by decide +kernel
theorem dX2_termSize_1 : decode cX2_termSize 1 = .ok (.getfield 40, 3) := by decide +kernel
theorem dX2_termSize_4 : decode cX2_termSize 4 = .ok (.iload_n 1, 1) := by decide +kernel
theorem dX2_termSize_5 : decode cX2_termSize 5 = .ok (.invokevirtual 76, 3) := by decide +kernel
theorem dX2_termSize_8 : decode cX2_termSize 8 = .ok (.ireturn, 1) := by decide +kernel
theorem dX5_append_0 : decode cX5_append 0 = .ok (.bipush 24, 2) := by decide +kernel
theorem dX5_append_2 : decode cX5_append 2 = .ok (.istore_n 2, 1) := by decide +kernel
theorem dX5_append_3 : decode cX5_append 3 = .ok (.iload_n 2, 1) := by decide +kernel
theorem dX5_append_4 : decode cX5_append 4 = .ok (.ifCond .lt 49, 3) := by decide +kernel
theorem dX5_append_7 : decode cX5_append 7 = .ok (.aload_n 0, 1) := by decide +kernel
theorem dX5_append_8 : decode cX5_append 8 = .ok (.getfield 50, 3) := by decide +kernel
theorem dX5_append_11 : decode cX5_append 11 = .ok (.ifCond .lt 36, 3) := by decide +kernel
theorem dX5_append_14 : decode cX5_append 14 = .ok (.aload_n 0, 1) := by decide +kernel
theorem dX5_append_15 : decode cX5_append 15 = .ok (.getfield 50, 3) := by decide +kernel
theorem dX5_append_18 : decode cX5_append 18 = .ok (.sipush 400, 3) := by decide +kernel
theorem dX5_append_21 : decode cX5_append 21 = .ok (.if_icmp .ge 26, 3) := by decide +kernel
theorem dX5_append_24 : decode cX5_append 24 = .ok (.aload_n 0, 1) := by decide +kernel
theorem dX5_append_25 : decode cX5_append 25 = .ok (.getfield 9, 3) := by decide +kernel
theorem dX5_append_28 : decode cX5_append 28 = .ok (.aload_n 0, 1) := by decide +kernel
theorem dX5_append_29 : decode cX5_append 29 = .ok (.getfield 50, 3) := by decide +kernel
theorem dX5_append_32 : decode cX5_append 32 = .ok (.iload_n 1, 1) := by decide +kernel
theorem dX5_append_33 : decode cX5_append 33 = .ok (.iload_n 2, 1) := by decide +kernel
theorem dX5_append_34 : decode cX5_append 34 = .ok (.ishr, 1) := by decide +kernel
theorem dX5_append_35 : decode cX5_append 35 = .ok (.i2b, 1) := by decide +kernel
theorem dX5_append_36 : decode cX5_append 36 = .ok (.bastore, 1) := by decide +kernel
theorem dX5_append_37 : decode cX5_append 37 = .ok (.aload_n 0, 1) := by decide +kernel
theorem dX5_append_38 : decode cX5_append 38 = .ok (.dup, 1) := by decide +kernel
theorem dX5_append_39 : decode cX5_append 39 = .ok (.getfield 50, 3) := by decide +kernel
theorem dX5_append_42 : decode cX5_append 42 = .ok (.iconst 1, 1) := by decide +kernel
theorem dX5_append_43 : decode cX5_append 43 = .ok (.iadd, 1) := by decide +kernel
theorem dX5_append_44 : decode cX5_append 44 = .ok (.putfield 50, 3) := by decide +kernel
theorem dX5_append_47 : decode cX5_append 47 = .ok (.iinc 2 (-8), 3) := by decide +kernel
theorem dX5_append_50 : decode cX5_append 50 = .ok (.goto (-47), 3) := by decide +kernel
theorem dX5_append_53 : decode cX5_append 53 = .ok (.return_, 1) := by decide +kernel
theorem dX5_bytes_0 : decode cX5_bytes 0 = .ok (.aload_n 0, 1) := by decide +kernel
theorem dX5_bytes_1 : decode cX5_bytes 1 = .ok (.getfield 9, 3) := by decide +kernel
theorem dX5_bytes_4 : decode cX5_bytes 4 = .ok (.areturn, 1) := by decide +kernel
theorem dX5_drain_0 : decode cX5_drain 0 = .ok (.aload_n 0, 1) := by decide +kernel
theorem dX5_drain_1 : decode cX5_drain 1 = .ok (.getfield 50, 3) := by decide +kernel
theorem dX5_drain_4 : decode cX5_drain 4 = .ok (.istore_n 1, 1) := by decide +kernel
theorem dX5_drain_5 : decode cX5_drain 5 = .ok (.aload_n 0, 1) := by decide +kernel
theorem dX5_drain_6 : decode cX5_drain 6 = .ok (.iconst 0, 1) := by decide +kernel
theorem dX5_drain_7 : decode cX5_drain 7 = .ok (.putfield 50, 3) := by decide +kernel
theorem dX5_drain_10 : decode cX5_drain 10 = .ok (.iload_n 1, 1) := by decide +kernel
theorem dX5_drain_11 : decode cX5_drain 11 = .ok (.ireturn, 1) := by decide +kernel
theorem dX5_heldSymbol_0 : decode cX5_heldSymbol 0 = .ok (.aload_n 0, 1) := by decide +kernel
theorem dX5_heldSymbol_1 : decode cX5_heldSymbol 1 = .ok (.getfield 42, 3) := by decide +kernel
theorem dX5_heldSymbol_4 : decode cX5_heldSymbol 4 = .ok (.aload_n 0, 1) := by decide +kernel
theorem dX5_heldSymbol_5 : decode cX5_heldSymbol 5 = .ok (.getfield 9, 3) := by decide +kernel
theorem dX5_heldSymbol_8 : decode cX5_heldSymbol 8 = .ok (.iconst 0, 1) := by decide +kernel
theorem dX5_heldSymbol_9 : decode cX5_heldSymbol 9 = .ok (.aload_n 0, 1) := by decide +kernel
theorem dX5_heldSymbol_10 : decode cX5_heldSymbol 10 = .ok (.getfield 50, 3) := by decide +kernel
theorem dX5_heldSymbol_13 : decode cX5_heldSymbol 13 = .ok (.invokevirtual 66, 3) := by decide +kernel
theorem dX5_heldSymbol_16 : decode cX5_heldSymbol 16 = .ok (.ireturn, 1) := by decide +kernel
theorem dX5_holdsName_0 : decode cX5_holdsName 0 = .ok (.aload_n 0, 1) := by decide +kernel
theorem dX5_holdsName_1 : decode cX5_holdsName 1 = .ok (.getfield 50, 3) := by decide +kernel
theorem dX5_holdsName_4 : decode cX5_holdsName 4 = .ok (.iconst 1, 1) := by decide +kernel
theorem dX5_holdsName_5 : decode cX5_holdsName 5 = .ok (.if_icmp .lt 25, 3) := by decide +kernel
theorem dX5_holdsName_8 : decode cX5_holdsName 8 = .ok (.aload_n 0, 1) := by decide +kernel
theorem dX5_holdsName_9 : decode cX5_holdsName 9 = .ok (.getfield 50, 3) := by decide +kernel
theorem dX5_holdsName_12 : decode cX5_holdsName 12 = .ok (.bipush 8, 2) := by decide +kernel
theorem dX5_holdsName_14 : decode cX5_holdsName 14 = .ok (.if_icmp .gt 16, 3) := by decide +kernel
theorem dX5_holdsName_17 : decode cX5_holdsName 17 = .ok (.aload_n 0, 1) := by decide +kernel
theorem dX5_holdsName_18 : decode cX5_holdsName 18 = .ok (.aload_n 0, 1) := by decide +kernel
theorem dX5_holdsName_19 : decode cX5_holdsName 19 = .ok (.getfield 9, 3) := by decide +kernel
theorem dX5_holdsName_22 : decode cX5_holdsName 22 = .ok (.iconst 0, 1) := by decide +kernel
theorem dX5_holdsName_23 : decode cX5_holdsName 23 = .ok (.baload, 1) := by decide +kernel
theorem dX5_holdsName_24 : decode cX5_holdsName 24 = .ok (.invokevirtual 59, 3) := by decide +kernel
theorem dX5_holdsName_27 : decode cX5_holdsName 27 = .ok (.ifCond .ne 5, 3) := by decide +kernel
theorem dX5_holdsName_30 : decode cX5_holdsName 30 = .ok (.iconst 0, 1) := by decide +kernel
theorem dX5_holdsName_31 : decode cX5_holdsName 31 = .ok (.ireturn, 1) := by decide +kernel
theorem dX5_holdsName_32 : decode cX5_holdsName 32 = .ok (.iconst 1, 1) := by decide +kernel
theorem dX5_holdsName_33 : decode cX5_holdsName 33 = .ok (.istore_n 1, 1) := by decide +kernel
theorem dX5_holdsName_34 : decode cX5_holdsName 34 = .ok (.iload_n 1, 1) := by decide +kernel
theorem dX5_holdsName_35 : decode cX5_holdsName 35 = .ok (.aload_n 0, 1) := by decide +kernel
theorem dX5_holdsName_36 : decode cX5_holdsName 36 = .ok (.getfield 50, 3) := by decide +kernel
theorem dX5_holdsName_39 : decode cX5_holdsName 39 = .ok (.if_icmp .ge 24, 3) := by decide +kernel
theorem dX5_holdsName_42 : decode cX5_holdsName 42 = .ok (.aload_n 0, 1) := by decide +kernel
theorem dX5_holdsName_43 : decode cX5_holdsName 43 = .ok (.aload_n 0, 1) := by decide +kernel
theorem dX5_holdsName_44 : decode cX5_holdsName 44 = .ok (.getfield 9, 3) := by decide +kernel
theorem dX5_holdsName_47 : decode cX5_holdsName 47 = .ok (.iload_n 1, 1) := by decide +kernel
theorem dX5_holdsName_48 : decode cX5_holdsName 48 = .ok (.baload, 1) := by decide +kernel
theorem dX5_holdsName_49 : decode cX5_holdsName 49 = .ok (.invokevirtual 63, 3) := by decide +kernel
theorem dX5_holdsName_52 : decode cX5_holdsName 52 = .ok (.ifCond .ne 5, 3) := by decide +kernel
theorem dX5_holdsName_55 : decode cX5_holdsName 55 = .ok (.iconst 0, 1) := by decide +kernel
theorem dX5_holdsName_56 : decode cX5_holdsName 56 = .ok (.ireturn, 1) := by decide +kernel
theorem dX5_holdsName_57 : decode cX5_holdsName 57 = .ok (.iinc 1 1, 3) := by decide +kernel
theorem dX5_holdsName_60 : decode cX5_holdsName 60 = .ok (.goto (-26), 3) := by decide +kernel
theorem dX5_holdsName_63 : decode cX5_holdsName 63 = .ok (.iconst 1, 1) := by decide +kernel
theorem dX5_holdsName_64 : decode cX5_holdsName 64 = .ok (.ireturn, 1) := by decide +kernel
theorem dX5_isLetter_0 : decode cX5_isLetter 0 = .ok (.iload_n 1, 1) := by decide +kernel
theorem dX5_isLetter_1 : decode cX5_isLetter 1 = .ok (.bipush 97, 2) := by decide +kernel
theorem dX5_isLetter_3 : decode cX5_isLetter 3 = .ok (.if_icmp .lt 13, 3) := by decide +kernel
theorem dX5_isLetter_6 : decode cX5_isLetter 6 = .ok (.iload_n 1, 1) := by decide +kernel
theorem dX5_isLetter_7 : decode cX5_isLetter 7 = .ok (.bipush 122, 2) := by decide +kernel
theorem dX5_isLetter_9 : decode cX5_isLetter 9 = .ok (.if_icmp .gt 7, 3) := by decide +kernel
theorem dX5_isLetter_12 : decode cX5_isLetter 12 = .ok (.iconst 1, 1) := by decide +kernel
theorem dX5_isLetter_13 : decode cX5_isLetter 13 = .ok (.goto 4, 3) := by decide +kernel
theorem dX5_isLetter_16 : decode cX5_isLetter 16 = .ok (.iconst 0, 1) := by decide +kernel
theorem dX5_isLetter_17 : decode cX5_isLetter 17 = .ok (.ireturn, 1) := by decide +kernel
theorem dX5_isNamePart_0 : decode cX5_isNamePart 0 = .ok (.aload_n 0, 1) := by decide +kernel
theorem dX5_isNamePart_1 : decode cX5_isNamePart 1 = .ok (.iload_n 1, 1) := by decide +kernel
theorem dX5_isNamePart_2 : decode cX5_isNamePart 2 = .ok (.invokevirtual 59, 3) := by decide +kernel
theorem dX5_isNamePart_5 : decode cX5_isNamePart 5 = .ok (.ifCond .ne 15, 3) := by decide +kernel
theorem dX5_isNamePart_8 : decode cX5_isNamePart 8 = .ok (.iload_n 1, 1) := by decide +kernel
theorem dX5_isNamePart_9 : decode cX5_isNamePart 9 = .ok (.bipush 48, 2) := by decide +kernel
theorem dX5_isNamePart_11 : decode cX5_isNamePart 11 = .ok (.if_icmp .lt 13, 3) := by decide +kernel
theorem dX5_isNamePart_14 : decode cX5_isNamePart 14 = .ok (.iload_n 1, 1) := by decide +kernel
theorem dX5_isNamePart_15 : decode cX5_isNamePart 15 = .ok (.bipush 57, 2) := by decide +kernel
theorem dX5_isNamePart_17 : decode cX5_isNamePart 17 = .ok (.if_icmp .gt 7, 3) := by decide +kernel
theorem dX5_isNamePart_20 : decode cX5_isNamePart 20 = .ok (.iconst 1, 1) := by decide +kernel
theorem dX5_isNamePart_21 : decode cX5_isNamePart 21 = .ok (.goto 4, 3) := by decide +kernel
theorem dX5_isNamePart_24 : decode cX5_isNamePart 24 = .ok (.iconst 0, 1) := by decide +kernel
theorem dX5_isNamePart_25 : decode cX5_isNamePart 25 = .ok (.ireturn, 1) := by decide +kernel
theorem dX5_length_0 : decode cX5_length 0 = .ok (.aload_n 0, 1) := by decide +kernel
theorem dX5_length_1 : decode cX5_length 1 = .ok (.getfield 50, 3) := by decide +kernel
theorem dX5_length_4 : decode cX5_length 4 = .ok (.ireturn, 1) := by decide +kernel
theorem dX5_shorten_0 : decode cX5_shorten 0 = .ok (.aload_n 0, 1) := by decide +kernel
theorem dX5_shorten_1 : decode cX5_shorten 1 = .ok (.iload_n 1, 1) := by decide +kernel
theorem dX5_shorten_2 : decode cX5_shorten 2 = .ok (.putfield 50, 3) := by decide +kernel
theorem dX5_shorten_5 : decode cX5_shorten 5 = .ok (.return_, 1) := by decide +kernel
theorem dX6_get_0 : decode cX6_get 0 = .ok (.iload_n 1, 1) := by decide +kernel
theorem dX6_get_1 : decode cX6_get 1 = .ok (.bipush 10, 2) := by decide +kernel
theorem dX6_get_3 : decode cX6_get 3 = .ok (.ishr, 1) := by decide +kernel
theorem dX6_get_4 : decode cX6_get 4 = .ok (.istore_n 2, 1) := by decide +kernel
theorem dX6_get_5 : decode cX6_get 5 = .ok (.iload_n 2, 1) := by decide +kernel
theorem dX6_get_6 : decode cX6_get 6 = .ok (.ifCond .lt 21, 3) := by decide +kernel
theorem dX6_get_9 : decode cX6_get 9 = .ok (.iload_n 2, 1) := by decide +kernel
theorem dX6_get_10 : decode cX6_get 10 = .ok (.aload_n 0, 1) := by decide +kernel
theorem dX6_get_11 : decode cX6_get 11 = .ok (.getfield 17, 3) := by decide +kernel
theorem dX6_get_14 : decode cX6_get 14 = .ok (.arraylength, 1) := by decide +kernel
theorem dX6_get_15 : decode cX6_get 15 = .ok (.if_icmp .ge 12, 3) := by decide +kernel
theorem dX6_get_18 : decode cX6_get 18 = .ok (.aload_n 0, 1) := by decide +kernel
theorem dX6_get_19 : decode cX6_get 19 = .ok (.getfield 17, 3) := by decide +kernel
theorem dX6_get_22 : decode cX6_get 22 = .ok (.iload_n 2, 1) := by decide +kernel
theorem dX6_get_23 : decode cX6_get 23 = .ok (.aaload, 1) := by decide +kernel
theorem dX6_get_24 : decode cX6_get 24 = .ok (.ifnonnull 5, 3) := by decide +kernel
theorem dX6_get_27 : decode cX6_get 27 = .ok (.iconst 0, 1) := by decide +kernel
theorem dX6_get_28 : decode cX6_get 28 = .ok (.ireturn, 1) := by decide +kernel
theorem dX6_get_29 : decode cX6_get 29 = .ok (.aload_n 0, 1) := by decide +kernel
theorem dX6_get_30 : decode cX6_get 30 = .ok (.getfield 17, 3) := by decide +kernel
theorem dX6_get_33 : decode cX6_get 33 = .ok (.iload_n 2, 1) := by decide +kernel
theorem dX6_get_34 : decode cX6_get 34 = .ok (.aaload, 1) := by decide +kernel
theorem dX6_get_35 : decode cX6_get 35 = .ok (.iload_n 1, 1) := by decide +kernel
theorem dX6_get_36 : decode cX6_get 36 = .ok (.sipush 1023, 3) := by decide +kernel
theorem dX6_get_39 : decode cX6_get 39 = .ok (.iand, 1) := by decide +kernel
theorem dX6_get_40 : decode cX6_get 40 = .ok (.iaload, 1) := by decide +kernel
theorem dX6_get_41 : decode cX6_get 41 = .ok (.ireturn, 1) := by decide +kernel
theorem dX6_set_0 : decode cX6_set 0 = .ok (.iload_n 1, 1) := by decide +kernel
theorem dX6_set_1 : decode cX6_set 1 = .ok (.bipush 10, 2) := by decide +kernel
theorem dX6_set_3 : decode cX6_set 3 = .ok (.ishr, 1) := by decide +kernel
theorem dX6_set_4 : decode cX6_set 4 = .ok (.istore_n 3, 1) := by decide +kernel
theorem dX6_set_5 : decode cX6_set 5 = .ok (.iload_n 3, 1) := by decide +kernel
theorem dX6_set_6 : decode cX6_set 6 = .ok (.ifCond .lt 12, 3) := by decide +kernel
theorem dX6_set_9 : decode cX6_set 9 = .ok (.iload_n 3, 1) := by decide +kernel
theorem dX6_set_10 : decode cX6_set 10 = .ok (.aload_n 0, 1) := by decide +kernel
theorem dX6_set_11 : decode cX6_set 11 = .ok (.getfield 17, 3) := by decide +kernel
theorem dX6_set_14 : decode cX6_set 14 = .ok (.arraylength, 1) := by decide +kernel
theorem dX6_set_15 : decode cX6_set 15 = .ok (.if_icmp .lt 4, 3) := by decide +kernel
theorem dX6_set_18 : decode cX6_set 18 = .ok (.return_, 1) := by decide +kernel
theorem dX6_set_19 : decode cX6_set 19 = .ok (.aload_n 0, 1) := by decide +kernel
theorem dX6_set_20 : decode cX6_set 20 = .ok (.getfield 17, 3) := by decide +kernel
theorem dX6_set_23 : decode cX6_set 23 = .ok (.iload_n 3, 1) := by decide +kernel
theorem dX6_set_24 : decode cX6_set 24 = .ok (.aaload, 1) := by decide +kernel
theorem dX6_set_25 : decode cX6_set 25 = .ok (.ifnonnull 14, 3) := by decide +kernel
theorem dX6_set_28 : decode cX6_set 28 = .ok (.aload_n 0, 1) := by decide +kernel
theorem dX6_set_29 : decode cX6_set 29 = .ok (.getfield 17, 3) := by decide +kernel
theorem dX6_set_32 : decode cX6_set 32 = .ok (.iload_n 3, 1) := by decide +kernel
theorem dX6_set_33 : decode cX6_set 33 = .ok (.sipush 1024, 3) := by decide +kernel
theorem dX6_set_36 : decode cX6_set 36 = .ok (.newarray .int, 2) := by decide +kernel
theorem dX6_set_38 : decode cX6_set 38 = .ok (.aastore, 1) := by decide +kernel
theorem dX6_set_39 : decode cX6_set 39 = .ok (.aload_n 0, 1) := by decide +kernel
theorem dX6_set_40 : decode cX6_set 40 = .ok (.getfield 17, 3) := by decide +kernel
theorem dX6_set_43 : decode cX6_set 43 = .ok (.iload_n 3, 1) := by decide +kernel
theorem dX6_set_44 : decode cX6_set 44 = .ok (.aaload, 1) := by decide +kernel
theorem dX6_set_45 : decode cX6_set 45 = .ok (.iload_n 1, 1) := by decide +kernel
theorem dX6_set_46 : decode cX6_set 46 = .ok (.sipush 1023, 3) := by decide +kernel
theorem dX6_set_49 : decode cX6_set 49 = .ok (.iand, 1) := by decide +kernel
theorem dX6_set_50 : decode cX6_set 50 = .ok (.iload_n 2, 1) := by decide +kernel
theorem dX6_set_51 : decode cX6_set 51 = .ok (.iastore, 1) := by decide +kernel
theorem dX6_set_52 : decode cX6_set 52 = .ok (.return_, 1) := by decide +kernel
theorem dX7_add_0 : decode cX7_add 0 = .ok (.aload_n 0, 1) := by decide +kernel
theorem dX7_add_1 : decode cX7_add 1 = .ok (.getfield 35, 3) := by decide +kernel
theorem dX7_add_4 : decode cX7_add 4 = .ok (.bipush 24, 2) := by decide +kernel
theorem dX7_add_6 : decode cX7_add 6 = .ok (.if_icmp .ge 15, 3) := by decide +kernel
theorem dX7_add_9 : decode cX7_add 9 = .ok (.iload_n 2, 1) := by decide +kernel
theorem dX7_add_10 : decode cX7_add 10 = .ok (.bipush 8, 2) := by decide +kernel
theorem dX7_add_12 : decode cX7_add 12 = .ok (.if_icmp .gt 9, 3) := by decide +kernel
theorem dX7_add_15 : decode cX7_add 15 = .ok (.iload_n 2, 1) := by decide +kernel
theorem dX7_add_16 : decode cX7_add 16 = .ok (.aload_n 1, 1) := by decide +kernel
theorem dX7_add_17 : decode cX7_add 17 = .ok (.arraylength, 1) := by decide +kernel
theorem dX7_add_18 : decode cX7_add 18 = .ok (.if_icmp .le 5, 3) := by decide +kernel
theorem dX7_add_21 : decode cX7_add 21 = .ok (.iconst (-1), 1) := by decide +kernel
theorem dX7_add_22 : decode cX7_add 22 = .ok (.ireturn, 1) := by decide +kernel
theorem dX7_add_23 : decode cX7_add 23 = .ok (.aload_n 0, 1) := by decide +kernel
theorem dX7_add_24 : decode cX7_add 24 = .ok (.getfield 35, 3) := by decide +kernel
theorem dX7_add_27 : decode cX7_add 27 = .ok (.istore 5, 2) := by decide +kernel
theorem dX7_add_29 : decode cX7_add 29 = .ok (.iconst 0, 1) := by decide +kernel
theorem dX7_add_30 : decode cX7_add 30 = .ok (.istore 6, 2) := by decide +kernel
theorem dX7_add_32 : decode cX7_add 32 = .ok (.iload 6, 2) := by decide +kernel
theorem dX7_add_34 : decode cX7_add 34 = .ok (.iload_n 2, 1) := by decide +kernel
theorem dX7_add_35 : decode cX7_add 35 = .ok (.if_icmp .ge 26, 3) := by decide +kernel
theorem dX7_add_38 : decode cX7_add 38 = .ok (.aload_n 0, 1) := by decide +kernel
theorem dX7_add_39 : decode cX7_add 39 = .ok (.getfield 9, 3) := by decide +kernel
theorem dX7_add_42 : decode cX7_add 42 = .ok (.iload 5, 2) := by decide +kernel
theorem dX7_add_44 : decode cX7_add 44 = .ok (.bipush 8, 2) := by decide +kernel
theorem dX7_add_46 : decode cX7_add 46 = .ok (.imul, 1) := by decide +kernel
theorem dX7_add_47 : decode cX7_add 47 = .ok (.iload 6, 2) := by decide +kernel
theorem dX7_add_49 : decode cX7_add 49 = .ok (.iadd, 1) := by decide +kernel
theorem dX7_add_50 : decode cX7_add 50 = .ok (.aload_n 1, 1) := by decide +kernel
theorem dX7_add_51 : decode cX7_add 51 = .ok (.iload 6, 2) := by decide +kernel
theorem dX7_add_53 : decode cX7_add 53 = .ok (.baload, 1) := by decide +kernel
theorem dX7_add_54 : decode cX7_add 54 = .ok (.bastore, 1) := by decide +kernel
theorem dX7_add_55 : decode cX7_add 55 = .ok (.iinc 6 1, 3) := by decide +kernel
theorem dX7_add_58 : decode cX7_add 58 = .ok (.goto (-26), 3) := by decide +kernel
theorem dX7_add_61 : decode cX7_add 61 = .ok (.aload_n 0, 1) := by decide +kernel
theorem dX7_add_62 : decode cX7_add 62 = .ok (.getfield 15, 3) := by decide +kernel
theorem dX7_add_65 : decode cX7_add 65 = .ok (.iload 5, 2) := by decide +kernel
theorem dX7_add_67 : decode cX7_add 67 = .ok (.iload_n 2, 1) := by decide +kernel
theorem dX7_add_68 : decode cX7_add 68 = .ok (.iastore, 1) := by decide +kernel
theorem dX7_add_69 : decode cX7_add 69 = .ok (.aload_n 0, 1) := by decide +kernel
theorem dX7_add_70 : decode cX7_add 70 = .ok (.getfield 19, 3) := by decide +kernel
theorem dX7_add_73 : decode cX7_add 73 = .ok (.iload 5, 2) := by decide +kernel
theorem dX7_add_75 : decode cX7_add 75 = .ok (.iload_n 3, 1) := by decide +kernel
theorem dX7_add_76 : decode cX7_add 76 = .ok (.iastore, 1) := by decide +kernel
theorem dX7_add_77 : decode cX7_add 77 = .ok (.aload_n 0, 1) := by decide +kernel
theorem dX7_add_78 : decode cX7_add 78 = .ok (.getfield 22, 3) := by decide +kernel
theorem dX7_add_81 : decode cX7_add 81 = .ok (.iload 5, 2) := by decide +kernel
theorem dX7_add_83 : decode cX7_add 83 = .ok (.iload 4, 2) := by decide +kernel
theorem dX7_add_85 : decode cX7_add 85 = .ok (.iastore, 1) := by decide +kernel
theorem dX7_add_86 : decode cX7_add 86 = .ok (.aload_n 0, 1) := by decide +kernel
theorem dX7_add_87 : decode cX7_add 87 = .ok (.getfield 25, 3) := by decide +kernel
theorem dX7_add_90 : decode cX7_add 90 = .ok (.iload 5, 2) := by decide +kernel
theorem dX7_add_92 : decode cX7_add 92 = .ok (.iload 5, 2) := by decide +kernel
theorem dX7_add_94 : decode cX7_add 94 = .ok (.iastore, 1) := by decide +kernel
end
section
theorem dX7_add_95 : decode cX7_add 95 = .ok (.aload_n 0, 1) := by decide +kernel
theorem dX7_add_96 : decode cX7_add 96 = .ok (.getfield 28, 3) := by decide +kernel
theorem dX7_add_99 : decode cX7_add 99 = .ok (.iload 5, 2) := by decide +kernel
theorem dX7_add_101 : decode cX7_add 101 = .ok (.iconst (-1), 1) := by decide +kernel
theorem dX7_add_102 : decode cX7_add 102 = .ok (.iastore, 1) := by decide +kernel
theorem dX7_add_103 : decode cX7_add 103 = .ok (.aload_n 0, 1) := by decide +kernel
theorem dX7_add_104 : decode cX7_add 104 = .ok (.dup, 1) := by decide +kernel
theorem dX7_add_105 : decode cX7_add 105 = .ok (.getfield 35, 3) := by decide +kernel
theorem dX7_add_108 : decode cX7_add 108 = .ok (.iconst 1, 1) := by decide +kernel
theorem dX7_add_109 : decode cX7_add 109 = .ok (.iadd, 1) := by decide +kernel
theorem dX7_add_110 : decode cX7_add 110 = .ok (.putfield 35, 3) := by decide +kernel
theorem dX7_add_113 : decode cX7_add 113 = .ok (.iload 5, 2) := by decide +kernel
theorem dX7_add_115 : decode cX7_add 115 = .ok (.ireturn, 1) := by decide +kernel
theorem dX7_arity_0 : decode cX7_arity 0 = .ok (.iload_n 1, 1) := by decide +kernel
theorem dX7_arity_1 : decode cX7_arity 1 = .ok (.ifCond .lt 20, 3) := by decide +kernel
theorem dX7_arity_4 : decode cX7_arity 4 = .ok (.iload_n 1, 1) := by decide +kernel
theorem dX7_arity_5 : decode cX7_arity 5 = .ok (.aload_n 0, 1) := by decide +kernel
theorem dX7_arity_6 : decode cX7_arity 6 = .ok (.getfield 35, 3) := by decide +kernel
theorem dX7_arity_9 : decode cX7_arity 9 = .ok (.if_icmp .ge 12, 3) := by decide +kernel
theorem dX7_arity_12 : decode cX7_arity 12 = .ok (.aload_n 0, 1) := by decide +kernel
theorem dX7_arity_13 : decode cX7_arity 13 = .ok (.getfield 19, 3) := by decide +kernel
theorem dX7_arity_16 : decode cX7_arity 16 = .ok (.iload_n 1, 1) := by decide +kernel
theorem dX7_arity_17 : decode cX7_arity 17 = .ok (.iaload, 1) := by decide +kernel
theorem dX7_arity_18 : decode cX7_arity 18 = .ok (.goto 4, 3) := by decide +kernel
theorem dX7_arity_21 : decode cX7_arity 21 = .ok (.iconst 0, 1) := by decide +kernel
theorem dX7_arity_22 : decode cX7_arity 22 = .ok (.ireturn, 1) := by decide +kernel
theorem dX7_chooseOrder_0 : decode cX7_chooseOrder 0 = .ok (.aload_n 0, 1) := by decide +kernel
theorem dX7_chooseOrder_1 : decode cX7_chooseOrder 1 = .ok (.iload_n 1, 1) := by decide +kernel
theorem dX7_chooseOrder_2 : decode cX7_chooseOrder 2 = .ok (.putfield 58, 3) := by decide +kernel
theorem dX7_chooseOrder_5 : decode cX7_chooseOrder 5 = .ok (.return_, 1) := by decide +kernel
theorem dX7_direct_0 : decode cX7_direct 0 = .ok (.iload_n 1, 1) := by decide +kernel
theorem dX7_direct_1 : decode cX7_direct 1 = .ok (.ifCond .lt 18, 3) := by decide +kernel
theorem dX7_direct_4 : decode cX7_direct 4 = .ok (.iload_n 1, 1) := by decide +kernel
theorem dX7_direct_5 : decode cX7_direct 5 = .ok (.aload_n 0, 1) := by decide +kernel
theorem dX7_direct_6 : decode cX7_direct 6 = .ok (.getfield 35, 3) := by decide +kernel
theorem dX7_direct_9 : decode cX7_direct 9 = .ok (.if_icmp .ge 10, 3) := by decide +kernel
theorem dX7_direct_12 : decode cX7_direct 12 = .ok (.aload_n 0, 1) := by decide +kernel
theorem dX7_direct_13 : decode cX7_direct 13 = .ok (.getfield 31, 3) := by decide +kernel
theorem dX7_direct_16 : decode cX7_direct 16 = .ok (.iload_n 1, 1) := by decide +kernel
theorem dX7_direct_17 : decode cX7_direct 17 = .ok (.iload_n 2, 1) := by decide +kernel
theorem dX7_direct_18 : decode cX7_direct 18 = .ok (.bastore, 1) := by decide +kernel
theorem dX7_direct_19 : decode cX7_direct 19 = .ok (.return_, 1) := by decide +kernel
theorem dX7_find_0 : decode cX7_find 0 = .ok (.iload_n 2, 1) := by decide +kernel
theorem dX7_find_1 : decode cX7_find 1 = .ok (.ifCond .lt 22, 3) := by decide +kernel
theorem dX7_find_4 : decode cX7_find 4 = .ok (.iload_n 3, 1) := by decide +kernel
theorem dX7_find_5 : decode cX7_find 5 = .ok (.iconst 1, 1) := by decide +kernel
theorem dX7_find_6 : decode cX7_find 6 = .ok (.if_icmp .lt 17, 3) := by decide +kernel
theorem dX7_find_9 : decode cX7_find 9 = .ok (.iload_n 3, 1) := by decide +kernel
theorem dX7_find_10 : decode cX7_find 10 = .ok (.bipush 8, 2) := by decide +kernel
theorem dX7_find_12 : decode cX7_find 12 = .ok (.if_icmp .gt 11, 3) := by decide +kernel
theorem dX7_find_15 : decode cX7_find 15 = .ok (.iload_n 2, 1) := by decide +kernel
theorem dX7_find_16 : decode cX7_find 16 = .ok (.iload_n 3, 1) := by decide +kernel
theorem dX7_find_17 : decode cX7_find 17 = .ok (.iadd, 1) := by decide +kernel
theorem dX7_find_18 : decode cX7_find 18 = .ok (.aload_n 1, 1) := by decide +kernel
theorem dX7_find_19 : decode cX7_find 19 = .ok (.arraylength, 1) := by decide +kernel
theorem dX7_find_20 : decode cX7_find 20 = .ok (.if_icmp .le 5, 3) := by decide +kernel
theorem dX7_find_23 : decode cX7_find 23 = .ok (.iconst (-1), 1) := by decide +kernel
theorem dX7_find_24 : decode cX7_find 24 = .ok (.ireturn, 1) := by decide +kernel
theorem dX7_find_25 : decode cX7_find 25 = .ok (.iconst 0, 1) := by decide +kernel
theorem dX7_find_26 : decode cX7_find 26 = .ok (.istore 4, 2) := by decide +kernel
theorem dX7_find_28 : decode cX7_find 28 = .ok (.iload 4, 2) := by decide +kernel
theorem dX7_find_30 : decode cX7_find 30 = .ok (.aload_n 0, 1) := by decide +kernel
theorem dX7_find_31 : decode cX7_find 31 = .ok (.getfield 35, 3) := by decide +kernel
theorem dX7_find_34 : decode cX7_find 34 = .ok (.if_icmp .ge 34, 3) := by decide +kernel
theorem dX7_find_37 : decode cX7_find 37 = .ok (.aload_n 0, 1) := by decide +kernel
theorem dX7_find_38 : decode cX7_find 38 = .ok (.getfield 15, 3) := by decide +kernel
theorem dX7_find_41 : decode cX7_find 41 = .ok (.iload 4, 2) := by decide +kernel
theorem dX7_find_43 : decode cX7_find 43 = .ok (.iaload, 1) := by decide +kernel
theorem dX7_find_44 : decode cX7_find 44 = .ok (.iload_n 3, 1) := by decide +kernel
theorem dX7_find_45 : decode cX7_find 45 = .ok (.if_icmp .ne 17, 3) := by decide +kernel
theorem dX7_find_48 : decode cX7_find 48 = .ok (.aload_n 0, 1) := by decide +kernel
theorem dX7_find_49 : decode cX7_find 49 = .ok (.iload 4, 2) := by decide +kernel
theorem dX7_find_51 : decode cX7_find 51 = .ok (.aload_n 1, 1) := by decide +kernel
theorem dX7_find_52 : decode cX7_find 52 = .ok (.iload_n 2, 1) := by decide +kernel
theorem dX7_find_53 : decode cX7_find 53 = .ok (.invokevirtual 46, 3) := by decide +kernel
theorem dX7_find_56 : decode cX7_find 56 = .ok (.ifCond .eq 6, 3) := by decide +kernel
theorem dX7_find_59 : decode cX7_find 59 = .ok (.iload 4, 2) := by decide +kernel
theorem dX7_find_61 : decode cX7_find 61 = .ok (.ireturn, 1) := by decide +kernel
theorem dX7_find_62 : decode cX7_find 62 = .ok (.iinc 4 1, 3) := by decide +kernel
theorem dX7_find_65 : decode cX7_find 65 = .ok (.goto (-37), 3) := by decide +kernel
theorem dX7_find_68 : decode cX7_find 68 = .ok (.iconst (-1), 1) := by decide +kernel
theorem dX7_find_69 : decode cX7_find 69 = .ok (.ireturn, 1) := by decide +kernel
theorem dX7_fixOrder_0 : decode cX7_fixOrder 0 = .ok (.aload_n 0, 1) := by decide +kernel
theorem dX7_fixOrder_1 : decode cX7_fixOrder 1 = .ok (.iconst 1, 1) := by decide +kernel
theorem dX7_fixOrder_2 : decode cX7_fixOrder 2 = .ok (.putfield 62, 3) := by decide +kernel
theorem dX7_fixOrder_5 : decode cX7_fixOrder 5 = .ok (.return_, 1) := by decide +kernel
theorem dX7_has_0 : decode cX7_has 0 = .ok (.iload_n 1, 1) := by decide +kernel
theorem dX7_has_1 : decode cX7_has 1 = .ok (.ifCond .lt 15, 3) := by decide +kernel
theorem dX7_has_4 : decode cX7_has 4 = .ok (.iload_n 1, 1) := by decide +kernel
theorem dX7_has_5 : decode cX7_has 5 = .ok (.aload_n 0, 1) := by decide +kernel
theorem dX7_has_6 : decode cX7_has 6 = .ok (.getfield 35, 3) := by decide +kernel
theorem dX7_has_9 : decode cX7_has 9 = .ok (.if_icmp .ge 7, 3) := by decide +kernel
theorem dX7_has_12 : decode cX7_has 12 = .ok (.iconst 1, 1) := by decide +kernel
theorem dX7_has_13 : decode cX7_has 13 = .ok (.goto 4, 3) := by decide +kernel
theorem dX7_has_16 : decode cX7_has 16 = .ok (.iconst 0, 1) := by decide +kernel
theorem dX7_has_17 : decode cX7_has 17 = .ok (.ireturn, 1) := by decide +kernel
theorem dX7_isByWeight_0 : decode cX7_isByWeight 0 = .ok (.aload_n 0, 1) := by decide +kernel
theorem dX7_isByWeight_1 : decode cX7_isByWeight 1 = .ok (.getfield 58, 3) := by decide +kernel
theorem dX7_isByWeight_4 : decode cX7_isByWeight 4 = .ok (.ireturn, 1) := by decide +kernel
theorem dX7_isFromRight_0 : decode cX7_isFromRight 0 = .ok (.iload_n 1, 1) := by decide +kernel
theorem dX7_isFromRight_1 : decode cX7_isFromRight 1 = .ok (.ifCond .lt 24, 3) := by decide +kernel
theorem dX7_isFromRight_4 : decode cX7_isFromRight 4 = .ok (.iload_n 1, 1) := by decide +kernel
theorem dX7_isFromRight_5 : decode cX7_isFromRight 5 = .ok (.aload_n 0, 1) := by decide +kernel
theorem dX7_isFromRight_6 : decode cX7_isFromRight 6 = .ok (.getfield 35, 3) := by decide +kernel
theorem dX7_isFromRight_9 : decode cX7_isFromRight 9 = .ok (.if_icmp .ge 16, 3) := by decide +kernel
theorem dX7_isFromRight_12 : decode cX7_isFromRight 12 = .ok (.aload_n 0, 1) := by decide +kernel
theorem dX7_isFromRight_13 : decode cX7_isFromRight 13 = .ok (.getfield 31, 3) := by decide +kernel
theorem dX7_isFromRight_16 : decode cX7_isFromRight 16 = .ok (.iload_n 1, 1) := by decide +kernel
theorem dX7_isFromRight_17 : decode cX7_isFromRight 17 = .ok (.baload, 1) := by decide +kernel
theorem dX7_isFromRight_18 : decode cX7_isFromRight 18 = .ok (.ifCond .eq 7, 3) := by decide +kernel
theorem dX7_isFromRight_21 : decode cX7_isFromRight 21 = .ok (.iconst 1, 1) := by decide +kernel
theorem dX7_isFromRight_22 : decode cX7_isFromRight 22 = .ok (.goto 4, 3) := by decide +kernel
theorem dX7_isFromRight_25 : decode cX7_isFromRight 25 = .ok (.iconst 0, 1) := by decide +kernel
theorem dX7_isFromRight_26 : decode cX7_isFromRight 26 = .ok (.ireturn, 1) := by decide +kernel
theorem dX7_isFull_0 : decode cX7_isFull 0 = .ok (.aload_n 0, 1) := by decide +kernel
theorem dX7_isFull_1 : decode cX7_isFull 1 = .ok (.getfield 35, 3) := by decide +kernel
theorem dX7_isFull_4 : decode cX7_isFull 4 = .ok (.bipush 24, 2) := by decide +kernel
theorem dX7_isFull_6 : decode cX7_isFull 6 = .ok (.if_icmp .lt 7, 3) := by decide +kernel
theorem dX7_isFull_9 : decode cX7_isFull 9 = .ok (.iconst 1, 1) := by decide +kernel
theorem dX7_isFull_10 : decode cX7_isFull 10 = .ok (.goto 4, 3) := by decide +kernel
theorem dX7_isFull_13 : decode cX7_isFull 13 = .ok (.iconst 0, 1) := by decide +kernel
theorem dX7_isFull_14 : decode cX7_isFull 14 = .ok (.ireturn, 1) := by decide +kernel
theorem dX7_isNameAt_0 : decode cX7_isNameAt 0 = .ok (.iconst 0, 1) := by decide +kernel
theorem dX7_isNameAt_1 : decode cX7_isNameAt 1 = .ok (.istore 4, 2) := by decide +kernel
theorem dX7_isNameAt_3 : decode cX7_isNameAt 3 = .ok (.iload 4, 2) := by decide +kernel
theorem dX7_isNameAt_5 : decode cX7_isNameAt 5 = .ok (.aload_n 0, 1) := by decide +kernel
theorem dX7_isNameAt_6 : decode cX7_isNameAt 6 = .ok (.iload_n 1, 1) := by decide +kernel
theorem dX7_isNameAt_7 : decode cX7_isNameAt 7 = .ok (.invokevirtual 50, 3) := by decide +kernel
theorem dX7_isNameAt_10 : decode cX7_isNameAt 10 = .ok (.if_icmp .ge 43, 3) := by decide +kernel
theorem dX7_isNameAt_13 : decode cX7_isNameAt 13 = .ok (.iload_n 3, 1) := by decide +kernel
theorem dX7_isNameAt_14 : decode cX7_isNameAt 14 = .ok (.iload 4, 2) := by decide +kernel
theorem dX7_isNameAt_16 : decode cX7_isNameAt 16 = .ok (.iadd, 1) := by decide +kernel
theorem dX7_isNameAt_17 : decode cX7_isNameAt 17 = .ok (.istore 5, 2) := by decide +kernel
theorem dX7_isNameAt_19 : decode cX7_isNameAt 19 = .ok (.iload 5, 2) := by decide +kernel
theorem dX7_isNameAt_21 : decode cX7_isNameAt 21 = .ok (.ifCond .lt 24, 3) := by decide +kernel
theorem dX7_isNameAt_24 : decode cX7_isNameAt 24 = .ok (.iload 5, 2) := by decide +kernel
theorem dX7_isNameAt_26 : decode cX7_isNameAt 26 = .ok (.aload_n 2, 1) := by decide +kernel
theorem dX7_isNameAt_27 : decode cX7_isNameAt 27 = .ok (.arraylength, 1) := by decide +kernel
theorem dX7_isNameAt_28 : decode cX7_isNameAt 28 = .ok (.if_icmp .ge 17, 3) := by decide +kernel
theorem dX7_isNameAt_31 : decode cX7_isNameAt 31 = .ok (.aload_n 2, 1) := by decide +kernel
theorem dX7_isNameAt_32 : decode cX7_isNameAt 32 = .ok (.iload 5, 2) := by decide +kernel
theorem dX7_isNameAt_34 : decode cX7_isNameAt 34 = .ok (.baload, 1) := by decide +kernel
theorem dX7_isNameAt_35 : decode cX7_isNameAt 35 = .ok (.aload_n 0, 1) := by decide +kernel
theorem dX7_isNameAt_36 : decode cX7_isNameAt 36 = .ok (.iload_n 1, 1) := by decide +kernel
theorem dX7_isNameAt_37 : decode cX7_isNameAt 37 = .ok (.iload 4, 2) := by decide +kernel
theorem dX7_isNameAt_39 : decode cX7_isNameAt 39 = .ok (.invokevirtual 54, 3) := by decide +kernel
theorem dX7_isNameAt_42 : decode cX7_isNameAt 42 = .ok (.if_icmp .eq 5, 3) := by decide +kernel
theorem dX7_isNameAt_45 : decode cX7_isNameAt 45 = .ok (.iconst 0, 1) := by decide +kernel
theorem dX7_isNameAt_46 : decode cX7_isNameAt 46 = .ok (.ireturn, 1) := by decide +kernel
theorem dX7_isNameAt_47 : decode cX7_isNameAt 47 = .ok (.iinc 4 1, 3) := by decide +kernel
theorem dX7_isNameAt_50 : decode cX7_isNameAt 50 = .ok (.goto (-47), 3) := by decide +kernel
theorem dX7_isNameAt_53 : decode cX7_isNameAt 53 = .ok (.iconst 1, 1) := by decide +kernel
theorem dX7_isNameAt_54 : decode cX7_isNameAt 54 = .ok (.ireturn, 1) := by decide +kernel
theorem dX7_isOrderFixed_0 : decode cX7_isOrderFixed 0 = .ok (.aload_n 0, 1) := by decide +kernel
theorem dX7_isOrderFixed_1 : decode cX7_isOrderFixed 1 = .ok (.getfield 62, 3) := by decide +kernel
theorem dX7_isOrderFixed_4 : decode cX7_isOrderFixed 4 = .ok (.ireturn, 1) := by decide +kernel
theorem dX7_moveTo_0 : decode cX7_moveTo 0 = .ok (.iload_n 1, 1) := by decide +kernel
theorem dX7_moveTo_1 : decode cX7_moveTo 1 = .ok (.ifCond .lt 11, 3) := by decide +kernel
theorem dX7_moveTo_4 : decode cX7_moveTo 4 = .ok (.iload_n 1, 1) := by decide +kernel
theorem dX7_moveTo_5 : decode cX7_moveTo 5 = .ok (.aload_n 0, 1) := by decide +kernel
theorem dX7_moveTo_6 : decode cX7_moveTo 6 = .ok (.getfield 35, 3) := by decide +kernel
theorem dX7_moveTo_9 : decode cX7_moveTo 9 = .ok (.if_icmp .lt 4, 3) := by decide +kernel
theorem dX7_moveTo_12 : decode cX7_moveTo 12 = .ok (.return_, 1) := by decide +kernel
theorem dX7_moveTo_13 : decode cX7_moveTo 13 = .ok (.aload_n 0, 1) := by decide +kernel
theorem dX7_moveTo_14 : decode cX7_moveTo 14 = .ok (.getfield 25, 3) := by decide +kernel
theorem dX7_moveTo_17 : decode cX7_moveTo 17 = .ok (.iload_n 1, 1) := by decide +kernel
theorem dX7_moveTo_18 : decode cX7_moveTo 18 = .ok (.iaload, 1) := by decide +kernel
theorem dX7_moveTo_19 : decode cX7_moveTo 19 = .ok (.istore_n 3, 1) := by decide +kernel
theorem dX7_moveTo_20 : decode cX7_moveTo 20 = .ok (.iconst 0, 1) := by decide +kernel
theorem dX7_moveTo_21 : decode cX7_moveTo 21 = .ok (.istore 4, 2) := by decide +kernel
theorem dX7_moveTo_23 : decode cX7_moveTo 23 = .ok (.iload 4, 2) := by decide +kernel
theorem dX7_moveTo_25 : decode cX7_moveTo 25 = .ok (.aload_n 0, 1) := by decide +kernel
theorem dX7_moveTo_26 : decode cX7_moveTo 26 = .ok (.getfield 35, 3) := by decide +kernel
theorem dX7_moveTo_29 : decode cX7_moveTo 29 = .ok (.if_icmp .ge 78, 3) := by decide +kernel
theorem dX7_moveTo_32 : decode cX7_moveTo 32 = .ok (.aload_n 0, 1) := by decide +kernel
theorem dX7_moveTo_33 : decode cX7_moveTo 33 = .ok (.getfield 25, 3) := by decide +kernel
theorem dX7_moveTo_36 : decode cX7_moveTo 36 = .ok (.iload 4, 2) := by decide +kernel
theorem dX7_moveTo_38 : decode cX7_moveTo 38 = .ok (.iaload, 1) := by decide +kernel
theorem dX7_moveTo_39 : decode cX7_moveTo 39 = .ok (.iload_n 3, 1) := by decide +kernel
theorem dX7_moveTo_40 : decode cX7_moveTo 40 = .ok (.if_icmp .le 28, 3) := by decide +kernel
theorem dX7_moveTo_43 : decode cX7_moveTo 43 = .ok (.aload_n 0, 1) := by decide +kernel
theorem dX7_moveTo_44 : decode cX7_moveTo 44 = .ok (.getfield 25, 3) := by decide +kernel
theorem dX7_moveTo_47 : decode cX7_moveTo 47 = .ok (.iload 4, 2) := by decide +kernel
theorem dX7_moveTo_49 : decode cX7_moveTo 49 = .ok (.iaload, 1) := by decide +kernel
theorem dX7_moveTo_50 : decode cX7_moveTo 50 = .ok (.iload_n 2, 1) := by decide +kernel
theorem dX7_moveTo_51 : decode cX7_moveTo 51 = .ok (.if_icmp .gt 17, 3) := by decide +kernel
theorem dX7_moveTo_54 : decode cX7_moveTo 54 = .ok (.aload_n 0, 1) := by decide +kernel
theorem dX7_moveTo_55 : decode cX7_moveTo 55 = .ok (.getfield 25, 3) := by decide +kernel
theorem dX7_moveTo_58 : decode cX7_moveTo 58 = .ok (.iload 4, 2) := by decide +kernel
theorem dX7_moveTo_60 : decode cX7_moveTo 60 = .ok (.dup2, 1) := by decide +kernel
theorem dX7_moveTo_61 : decode cX7_moveTo 61 = .ok (.iaload, 1) := by decide +kernel
theorem dX7_moveTo_62 : decode cX7_moveTo 62 = .ok (.iconst 1, 1) := by decide +kernel
theorem dX7_moveTo_63 : decode cX7_moveTo 63 = .ok (.isub, 1) := by decide +kernel
theorem dX7_moveTo_64 : decode cX7_moveTo 64 = .ok (.iastore, 1) := by decide +kernel
theorem dX7_moveTo_65 : decode cX7_moveTo 65 = .ok (.goto 36, 3) := by decide +kernel
theorem dX7_moveTo_68 : decode cX7_moveTo 68 = .ok (.aload_n 0, 1) := by decide +kernel
theorem dX7_moveTo_69 : decode cX7_moveTo 69 = .ok (.getfield 25, 3) := by decide +kernel
theorem dX7_moveTo_72 : decode cX7_moveTo 72 = .ok (.iload 4, 2) := by decide +kernel
theorem dX7_moveTo_74 : decode cX7_moveTo 74 = .ok (.iaload, 1) := by decide +kernel
theorem dX7_moveTo_75 : decode cX7_moveTo 75 = .ok (.iload_n 3, 1) := by decide +kernel
theorem dX7_moveTo_76 : decode cX7_moveTo 76 = .ok (.if_icmp .ge 25, 3) := by decide +kernel
theorem dX7_moveTo_79 : decode cX7_moveTo 79 = .ok (.aload_n 0, 1) := by decide +kernel
theorem dX7_moveTo_80 : decode cX7_moveTo 80 = .ok (.getfield 25, 3) := by decide +kernel
theorem dX7_moveTo_83 : decode cX7_moveTo 83 = .ok (.iload 4, 2) := by decide +kernel
theorem dX7_moveTo_85 : decode cX7_moveTo 85 = .ok (.iaload, 1) := by decide +kernel
theorem dX7_moveTo_86 : decode cX7_moveTo 86 = .ok (.iload_n 2, 1) := by decide +kernel
theorem dX7_moveTo_87 : decode cX7_moveTo 87 = .ok (.if_icmp .lt 14, 3) := by decide +kernel
theorem dX7_moveTo_90 : decode cX7_moveTo 90 = .ok (.aload_n 0, 1) := by decide +kernel
theorem dX7_moveTo_91 : decode cX7_moveTo 91 = .ok (.getfield 25, 3) := by decide +kernel
theorem dX7_moveTo_94 : decode cX7_moveTo 94 = .ok (.iload 4, 2) := by decide +kernel
theorem dX7_moveTo_96 : decode cX7_moveTo 96 = .ok (.dup2, 1) := by decide +kernel
theorem dX7_moveTo_97 : decode cX7_moveTo 97 = .ok (.iaload, 1) := by decide +kernel
theorem dX7_moveTo_98 : decode cX7_moveTo 98 = .ok (.iconst 1, 1) := by decide +kernel
theorem dX7_moveTo_99 : decode cX7_moveTo 99 = .ok (.iadd, 1) := by decide +kernel
theorem dX7_moveTo_100 : decode cX7_moveTo 100 = .ok (.iastore, 1) := by decide +kernel
theorem dX7_moveTo_101 : decode cX7_moveTo 101 = .ok (.iinc 4 1, 3) := by decide +kernel
theorem dX7_moveTo_104 : decode cX7_moveTo 104 = .ok (.goto (-81), 3) := by decide +kernel
theorem dX7_moveTo_107 : decode cX7_moveTo 107 = .ok (.aload_n 0, 1) := by decide +kernel
theorem dX7_moveTo_108 : decode cX7_moveTo 108 = .ok (.getfield 25, 3) := by decide +kernel
theorem dX7_moveTo_111 : decode cX7_moveTo 111 = .ok (.iload_n 1, 1) := by decide +kernel
theorem dX7_moveTo_112 : decode cX7_moveTo 112 = .ok (.iload_n 2, 1) := by decide +kernel
theorem dX7_moveTo_113 : decode cX7_moveTo 113 = .ok (.iastore, 1) := by decide +kernel
theorem dX7_moveTo_114 : decode cX7_moveTo 114 = .ok (.return_, 1) := by decide +kernel
theorem dX7_nameByte_0 : decode cX7_nameByte 0 = .ok (.iload_n 1, 1) := by decide +kernel
theorem dX7_nameByte_1 : decode cX7_nameByte 1 = .ok (.ifCond .lt 29, 3) := by decide +kernel
theorem dX7_nameByte_4 : decode cX7_nameByte 4 = .ok (.iload_n 1, 1) := by decide +kernel
theorem dX7_nameByte_5 : decode cX7_nameByte 5 = .ok (.aload_n 0, 1) := by decide +kernel
theorem dX7_nameByte_6 : decode cX7_nameByte 6 = .ok (.getfield 35, 3) := by decide +kernel
theorem dX7_nameByte_9 : decode cX7_nameByte 9 = .ok (.if_icmp .ge 21, 3) := by decide +kernel
theorem dX7_nameByte_12 : decode cX7_nameByte 12 = .ok (.iload_n 2, 1) := by decide +kernel
theorem dX7_nameByte_13 : decode cX7_nameByte 13 = .ok (.ifCond .lt 17, 3) := by decide +kernel
theorem dX7_nameByte_16 : decode cX7_nameByte 16 = .ok (.iload_n 2, 1) := by decide +kernel
theorem dX7_nameByte_17 : decode cX7_nameByte 17 = .ok (.aload_n 0, 1) := by decide +kernel
theorem dX7_nameByte_18 : decode cX7_nameByte 18 = .ok (.getfield 15, 3) := by decide +kernel
theorem dX7_nameByte_21 : decode cX7_nameByte 21 = .ok (.iload_n 1, 1) := by decide +kernel
theorem dX7_nameByte_22 : decode cX7_nameByte 22 = .ok (.iaload, 1) := by decide +kernel
theorem dX7_nameByte_23 : decode cX7_nameByte 23 = .ok (.if_icmp .ge 7, 3) := by decide +kernel
theorem dX7_nameByte_26 : decode cX7_nameByte 26 = .ok (.iconst 1, 1) := by decide +kernel
theorem dX7_nameByte_27 : decode cX7_nameByte 27 = .ok (.goto 4, 3) := by decide +kernel
theorem dX7_nameByte_30 : decode cX7_nameByte 30 = .ok (.iconst 0, 1) := by decide +kernel
theorem dX7_nameByte_31 : decode cX7_nameByte 31 = .ok (.istore_n 3, 1) := by decide +kernel
theorem dX7_nameByte_32 : decode cX7_nameByte 32 = .ok (.iload_n 3, 1) := by decide +kernel
theorem dX7_nameByte_33 : decode cX7_nameByte 33 = .ok (.ifCond .eq 17, 3) := by decide +kernel
theorem dX7_nameByte_36 : decode cX7_nameByte 36 = .ok (.aload_n 0, 1) := by decide +kernel
theorem dX7_nameByte_37 : decode cX7_nameByte 37 = .ok (.getfield 9, 3) := by decide +kernel
theorem dX7_nameByte_40 : decode cX7_nameByte 40 = .ok (.iload_n 1, 1) := by decide +kernel
theorem dX7_nameByte_41 : decode cX7_nameByte 41 = .ok (.bipush 8, 2) := by decide +kernel
theorem dX7_nameByte_43 : decode cX7_nameByte 43 = .ok (.imul, 1) := by decide +kernel
theorem dX7_nameByte_44 : decode cX7_nameByte 44 = .ok (.iload_n 2, 1) := by decide +kernel
theorem dX7_nameByte_45 : decode cX7_nameByte 45 = .ok (.iadd, 1) := by decide +kernel
theorem dX7_nameByte_46 : decode cX7_nameByte 46 = .ok (.baload, 1) := by decide +kernel
theorem dX7_nameByte_47 : decode cX7_nameByte 47 = .ok (.goto 4, 3) := by decide +kernel
theorem dX7_nameByte_50 : decode cX7_nameByte 50 = .ok (.iconst 0, 1) := by decide +kernel
theorem dX7_nameByte_51 : decode cX7_nameByte 51 = .ok (.ireturn, 1) := by decide +kernel
theorem dX7_nameLength_0 : decode cX7_nameLength 0 = .ok (.iload_n 1, 1) := by decide +kernel
theorem dX7_nameLength_1 : decode cX7_nameLength 1 = .ok (.ifCond .lt 20, 3) := by decide +kernel
theorem dX7_nameLength_4 : decode cX7_nameLength 4 = .ok (.iload_n 1, 1) := by decide +kernel
theorem dX7_nameLength_5 : decode cX7_nameLength 5 = .ok (.aload_n 0, 1) := by decide +kernel
theorem dX7_nameLength_6 : decode cX7_nameLength 6 = .ok (.getfield 35, 3) := by decide +kernel
theorem dX7_nameLength_9 : decode cX7_nameLength 9 = .ok (.if_icmp .ge 12, 3) := by decide +kernel
theorem dX7_nameLength_12 : decode cX7_nameLength 12 = .ok (.aload_n 0, 1) := by decide +kernel
theorem dX7_nameLength_13 : decode cX7_nameLength 13 = .ok (.getfield 15, 3) := by decide +kernel
theorem dX7_nameLength_16 : decode cX7_nameLength 16 = .ok (.iload_n 1, 1) := by decide +kernel
theorem dX7_nameLength_17 : decode cX7_nameLength 17 = .ok (.iaload, 1) := by decide +kernel
theorem dX7_nameLength_18 : decode cX7_nameLength 18 = .ok (.goto 4, 3) := by decide +kernel
theorem dX7_nameLength_21 : decode cX7_nameLength 21 = .ok (.iconst 0, 1) := by decide +kernel
theorem dX7_nameLength_22 : decode cX7_nameLength 22 = .ok (.ireturn, 1) := by decide +kernel
theorem dX7_orderMode_0 : decode cX7_orderMode 0 = .ok (.aload_n 0, 1) := by decide +kernel
theorem dX7_orderMode_1 : decode cX7_orderMode 1 = .ok (.getfield 58, 3) := by decide +kernel
theorem dX7_orderMode_4 : decode cX7_orderMode 4 = .ok (.ifCond .eq 7, 3) := by decide +kernel
theorem dX7_orderMode_7 : decode cX7_orderMode 7 = .ok (.iconst 1, 1) := by decide +kernel
theorem dX7_orderMode_8 : decode cX7_orderMode 8 = .ok (.goto 4, 3) := by decide +kernel
theorem dX7_orderMode_11 : decode cX7_orderMode 11 = .ok (.iconst 0, 1) := by decide +kernel
theorem dX7_orderMode_12 : decode cX7_orderMode 12 = .ok (.ireturn, 1) := by decide +kernel
theorem dX7_rank_0 : decode cX7_rank 0 = .ok (.iload_n 1, 1) := by decide +kernel
theorem dX7_rank_1 : decode cX7_rank 1 = .ok (.ifCond .lt 20, 3) := by decide +kernel
theorem dX7_rank_4 : decode cX7_rank 4 = .ok (.iload_n 1, 1) := by decide +kernel
theorem dX7_rank_5 : decode cX7_rank 5 = .ok (.aload_n 0, 1) := by decide +kernel
theorem dX7_rank_6 : decode cX7_rank 6 = .ok (.getfield 35, 3) := by decide +kernel
theorem dX7_rank_9 : decode cX7_rank 9 = .ok (.if_icmp .ge 12, 3) := by decide +kernel
theorem dX7_rank_12 : decode cX7_rank 12 = .ok (.aload_n 0, 1) := by decide +kernel
theorem dX7_rank_13 : decode cX7_rank 13 = .ok (.getfield 25, 3) := by decide +kernel
theorem dX7_rank_16 : decode cX7_rank 16 = .ok (.iload_n 1, 1) := by decide +kernel
theorem dX7_rank_17 : decode cX7_rank 17 = .ok (.iaload, 1) := by decide +kernel
theorem dX7_rank_18 : decode cX7_rank 18 = .ok (.goto 4, 3) := by decide +kernel
theorem dX7_rank_21 : decode cX7_rank 21 = .ok (.iconst 0, 1) := by decide +kernel
theorem dX7_rank_22 : decode cX7_rank 22 = .ok (.ireturn, 1) := by decide +kernel
theorem dX7_variableOrdinal_0 : decode cX7_variableOrdinal 0 = .ok (.iload_n 1, 1) := by decide +kernel
theorem dX7_variableOrdinal_1 : decode cX7_variableOrdinal 1 = .ok (.ifCond .lt 20, 3) := by decide +kernel
theorem dX7_variableOrdinal_4 : decode cX7_variableOrdinal 4 = .ok (.iload_n 1, 1) := by decide +kernel
theorem dX7_variableOrdinal_5 : decode cX7_variableOrdinal 5 = .ok (.aload_n 0, 1) := by decide +kernel
theorem dX7_variableOrdinal_6 : decode cX7_variableOrdinal 6 = .ok (.getfield 35, 3) := by decide +kernel
theorem dX7_variableOrdinal_9 : decode cX7_variableOrdinal 9 = .ok (.if_icmp .ge 12, 3) := by decide +kernel
theorem dX7_variableOrdinal_12 : decode cX7_variableOrdinal 12 = .ok (.aload_n 0, 1) := by decide +kernel
theorem dX7_variableOrdinal_13 : decode cX7_variableOrdinal 13 = .ok (.getfield 28, 3) := by decide +kernel
theorem dX7_variableOrdinal_16 : decode cX7_variableOrdinal 16 = .ok (.iload_n 1, 1) := by decide +kernel
theorem dX7_variableOrdinal_17 : decode cX7_variableOrdinal 17 = .ok (.iaload, 1) := by decide +kernel
theorem dX7_variableOrdinal_18 : decode cX7_variableOrdinal 18 = .ok (.goto 4, 3) := by decide +kernel
theorem dX7_variableOrdinal_21 : decode cX7_variableOrdinal 21 = .ok (.iconst (-1), 1) := by decide +kernel
theorem dX7_variableOrdinal_22 : decode cX7_variableOrdinal 22 = .ok (.ireturn, 1) := by decide +kernel
theorem dX7_weight_0 : decode cX7_weight 0 = .ok (.iload_n 1, 1) := by decide +kernel
theorem dX7_weight_1 : decode cX7_weight 1 = .ok (.ifCond .lt 20, 3) := by decide +kernel
theorem dX7_weight_4 : decode cX7_weight 4 = .ok (.iload_n 1, 1) := by decide +kernel
theorem dX7_weight_5 : decode cX7_weight 5 = .ok (.aload_n 0, 1) := by decide +kernel
theorem dX7_weight_6 : decode cX7_weight 6 = .ok (.getfield 35, 3) := by decide +kernel
theorem dX7_weight_9 : decode cX7_weight 9 = .ok (.if_icmp .ge 12, 3) := by decide +kernel
theorem dX7_weight_12 : decode cX7_weight 12 = .ok (.aload_n 0, 1) := by decide +kernel
theorem dX7_weight_13 : decode cX7_weight 13 = .ok (.getfield 22, 3) := by decide +kernel
theorem dX7_weight_16 : decode cX7_weight 16 = .ok (.iload_n 1, 1) := by decide +kernel
theorem dX7_weight_17 : decode cX7_weight 17 = .ok (.iaload, 1) := by decide +kernel
theorem dX7_weight_18 : decode cX7_weight 18 = .ok (.goto 4, 3) := by decide +kernel
theorem dX7_weight_21 : decode cX7_weight 21 = .ok (.iconst 0, 1) := by decide +kernel
theorem dX7_weight_22 : decode cX7_weight 22 = .ok (.ireturn, 1) := by decide +kernel
theorem dX8_arity_0 : decode cX8_arity 0 = .ok (.aload_n 0, 1) := by decide +kernel
theorem dX8_arity_1 : decode cX8_arity 1 = .ok (.getfield 46, 3) := by decide +kernel
theorem dX8_arity_4 : decode cX8_arity 4 = .ok (.aload_n 0, 1) := by decide +kernel
theorem dX8_arity_5 : decode cX8_arity 5 = .ok (.getfield 15, 3) := by decide +kernel
theorem dX8_arity_8 : decode cX8_arity 8 = .ok (.iload_n 1, 1) := by decide +kernel
theorem dX8_arity_9 : decode cX8_arity 9 = .ok (.invokevirtual 50, 3) := by decide +kernel
theorem dX8_arity_12 : decode cX8_arity 12 = .ok (.invokevirtual 54, 3) := by decide +kernel
theorem dX8_arity_15 : decode cX8_arity 15 = .ok (.ireturn, 1) := by decide +kernel
theorem dX8_bucketOf_0 : decode cX8_bucketOf 0 = .ok (.iload_n 1, 1) := by decide +kernel
theorem dX8_bucketOf_1 : decode cX8_bucketOf 1 = .ok (.bipush 31, 2) := by decide +kernel
theorem dX8_bucketOf_3 : decode cX8_bucketOf 3 = .ok (.imul, 1) := by decide +kernel
theorem dX8_bucketOf_4 : decode cX8_bucketOf 4 = .ok (.iload_n 2, 1) := by decide +kernel
theorem dX8_bucketOf_5 : decode cX8_bucketOf 5 = .ok (.iadd, 1) := by decide +kernel
theorem dX8_bucketOf_6 : decode cX8_bucketOf 6 = .ok (.sipush 8191, 3) := by decide +kernel
theorem dX8_bucketOf_9 : decode cX8_bucketOf 9 = .ok (.imul, 1) := by decide +kernel
theorem dX8_bucketOf_10 : decode cX8_bucketOf 10 = .ok (.iload_n 3, 1) := by decide +kernel
theorem dX8_bucketOf_11 : decode cX8_bucketOf 11 = .ok (.iadd, 1) := by decide +kernel
theorem dX8_bucketOf_12 : decode cX8_bucketOf 12 = .ok (.ldc 83, 2) := by decide +kernel
theorem dX8_bucketOf_14 : decode cX8_bucketOf 14 = .ok (.imul, 1) := by decide +kernel
theorem dX8_bucketOf_15 : decode cX8_bucketOf 15 = .ok (.iload 4, 2) := by decide +kernel
theorem dX8_bucketOf_17 : decode cX8_bucketOf 17 = .ok (.iadd, 1) := by decide +kernel
theorem dX8_bucketOf_18 : decode cX8_bucketOf 18 = .ok (.istore 5, 2) := by decide +kernel
theorem dX8_bucketOf_20 : decode cX8_bucketOf 20 = .ok (.iload 5, 2) := by decide +kernel
theorem dX8_bucketOf_22 : decode cX8_bucketOf 22 = .ok (.iload 5, 2) := by decide +kernel
theorem dX8_bucketOf_24 : decode cX8_bucketOf 24 = .ok (.bipush 15, 2) := by decide +kernel
theorem dX8_bucketOf_26 : decode cX8_bucketOf 26 = .ok (.iushr, 1) := by decide +kernel
theorem dX8_bucketOf_27 : decode cX8_bucketOf 27 = .ok (.ixor, 1) := by decide +kernel
theorem dX8_bucketOf_28 : decode cX8_bucketOf 28 = .ok (.istore 5, 2) := by decide +kernel
theorem dX8_bucketOf_30 : decode cX8_bucketOf 30 = .ok (.iload 5, 2) := by decide +kernel
theorem dX8_bucketOf_32 : decode cX8_bucketOf 32 = .ok (.ldc 84, 2) := by decide +kernel
theorem dX8_bucketOf_34 : decode cX8_bucketOf 34 = .ok (.imul, 1) := by decide +kernel
theorem dX8_bucketOf_35 : decode cX8_bucketOf 35 = .ok (.istore 5, 2) := by decide +kernel
theorem dX8_bucketOf_37 : decode cX8_bucketOf 37 = .ok (.iload 5, 2) := by decide +kernel
theorem dX8_bucketOf_39 : decode cX8_bucketOf 39 = .ok (.iload 5, 2) := by decide +kernel
theorem dX8_bucketOf_41 : decode cX8_bucketOf 41 = .ok (.bipush 13, 2) := by decide +kernel
theorem dX8_bucketOf_43 : decode cX8_bucketOf 43 = .ok (.iushr, 1) := by decide +kernel
theorem dX8_bucketOf_44 : decode cX8_bucketOf 44 = .ok (.ixor, 1) := by decide +kernel
theorem dX8_bucketOf_45 : decode cX8_bucketOf 45 = .ok (.istore 5, 2) := by decide +kernel
theorem dX8_bucketOf_47 : decode cX8_bucketOf 47 = .ok (.iload 5, 2) := by decide +kernel
theorem dX8_bucketOf_49 : decode cX8_bucketOf 49 = .ok (.sipush 32767, 3) := by decide +kernel
theorem dX8_bucketOf_52 : decode cX8_bucketOf 52 = .ok (.iand, 1) := by decide +kernel
theorem dX8_bucketOf_53 : decode cX8_bucketOf 53 = .ok (.ireturn, 1) := by decide +kernel
theorem dX8_extentOver_0 : decode cX8_extentOver 0 = .ok (.iconst 1, 1) := by decide +kernel
theorem dX8_extentOver_1 : decode cX8_extentOver 1 = .ok (.iload_n 2, 1) := by decide +kernel
theorem dX8_extentOver_2 : decode cX8_extentOver 2 = .ok (.bipush 9, 2) := by decide +kernel
theorem dX8_extentOver_4 : decode cX8_extentOver 4 = .ok (.iushr, 1) := by decide +kernel
theorem dX8_extentOver_5 : decode cX8_extentOver 5 = .ok (.iadd, 1) := by decide +kernel
theorem dX8_extentOver_6 : decode cX8_extentOver 6 = .ok (.iload_n 3, 1) := by decide +kernel
theorem dX8_extentOver_7 : decode cX8_extentOver 7 = .ok (.bipush 9, 2) := by decide +kernel
theorem dX8_extentOver_9 : decode cX8_extentOver 9 = .ok (.iushr, 1) := by decide +kernel
theorem dX8_extentOver_10 : decode cX8_extentOver 10 = .ok (.iadd, 1) := by decide +kernel
theorem dX8_extentOver_11 : decode cX8_extentOver 11 = .ok (.iload 4, 2) := by decide +kernel
theorem dX8_extentOver_13 : decode cX8_extentOver 13 = .ok (.bipush 9, 2) := by decide +kernel
theorem dX8_extentOver_15 : decode cX8_extentOver 15 = .ok (.iushr, 1) := by decide +kernel
theorem dX8_extentOver_16 : decode cX8_extentOver 16 = .ok (.iadd, 1) := by decide +kernel
theorem dX8_extentOver_17 : decode cX8_extentOver 17 = .ok (.ldc 94, 2) := by decide +kernel
theorem dX8_extentOver_19 : decode cX8_extentOver 19 = .ok (.invokestatic 95, 3) := by decide +kernel
theorem dX8_extentOver_22 : decode cX8_extentOver 22 = .ok (.istore 5, 2) := by decide +kernel
theorem dX8_extentOver_24 : decode cX8_extentOver 24 = .ok (.iload_n 2, 1) := by decide +kernel
theorem dX8_extentOver_25 : decode cX8_extentOver 25 = .ok (.iconst 1, 1) := by decide +kernel
theorem dX8_extentOver_26 : decode cX8_extentOver 26 = .ok (.iushr, 1) := by decide +kernel
theorem dX8_extentOver_27 : decode cX8_extentOver 27 = .ok (.sipush 255, 3) := by decide +kernel
theorem dX8_extentOver_30 : decode cX8_extentOver 30 = .ok (.iand, 1) := by decide +kernel
theorem dX8_extentOver_31 : decode cX8_extentOver 31 = .ok (.iload_n 3, 1) := by decide +kernel
theorem dX8_extentOver_32 : decode cX8_extentOver 32 = .ok (.iconst 1, 1) := by decide +kernel
theorem dX8_extentOver_33 : decode cX8_extentOver 33 = .ok (.iushr, 1) := by decide +kernel
theorem dX8_extentOver_34 : decode cX8_extentOver 34 = .ok (.sipush 255, 3) := by decide +kernel
theorem dX8_extentOver_37 : decode cX8_extentOver 37 = .ok (.iand, 1) := by decide +kernel
theorem dX8_extentOver_38 : decode cX8_extentOver 38 = .ok (.invokestatic 101, 3) := by decide +kernel
theorem dX8_extentOver_41 : decode cX8_extentOver 41 = .ok (.istore 6, 2) := by decide +kernel
theorem dX8_extentOver_43 : decode cX8_extentOver 43 = .ok (.iconst 1, 1) := by decide +kernel
theorem dX8_extentOver_44 : decode cX8_extentOver 44 = .ok (.iload 6, 2) := by decide +kernel
theorem dX8_extentOver_46 : decode cX8_extentOver 46 = .ok (.iload 4, 2) := by decide +kernel
theorem dX8_extentOver_48 : decode cX8_extentOver 48 = .ok (.iconst 1, 1) := by decide +kernel
theorem dX8_extentOver_49 : decode cX8_extentOver 49 = .ok (.iushr, 1) := by decide +kernel
theorem dX8_extentOver_50 : decode cX8_extentOver 50 = .ok (.sipush 255, 3) := by decide +kernel
theorem dX8_extentOver_53 : decode cX8_extentOver 53 = .ok (.iand, 1) := by decide +kernel
theorem dX8_extentOver_54 : decode cX8_extentOver 54 = .ok (.invokestatic 101, 3) := by decide +kernel
theorem dX8_extentOver_57 : decode cX8_extentOver 57 = .ok (.iadd, 1) := by decide +kernel
theorem dX8_extentOver_58 : decode cX8_extentOver 58 = .ok (.sipush 255, 3) := by decide +kernel
theorem dX8_extentOver_61 : decode cX8_extentOver 61 = .ok (.invokestatic 95, 3) := by decide +kernel
theorem dX8_extentOver_64 : decode cX8_extentOver 64 = .ok (.istore 7, 2) := by decide +kernel
theorem dX8_extentOver_66 : decode cX8_extentOver 66 = .ok (.iload 5, 2) := by decide +kernel
theorem dX8_extentOver_68 : decode cX8_extentOver 68 = .ok (.bipush 9, 2) := by decide +kernel
theorem dX8_extentOver_70 : decode cX8_extentOver 70 = .ok (.ishl, 1) := by decide +kernel
theorem dX8_extentOver_71 : decode cX8_extentOver 71 = .ok (.iload 7, 2) := by decide +kernel
theorem dX8_extentOver_73 : decode cX8_extentOver 73 = .ok (.iconst 1, 1) := by decide +kernel
theorem dX8_extentOver_74 : decode cX8_extentOver 74 = .ok (.ishl, 1) := by decide +kernel
theorem dX8_extentOver_75 : decode cX8_extentOver 75 = .ok (.ior, 1) := by decide +kernel
theorem dX8_extentOver_76 : decode cX8_extentOver 76 = .ok (.iload_n 1, 1) := by decide +kernel
theorem dX8_extentOver_77 : decode cX8_extentOver 77 = .ok (.ior, 1) := by decide +kernel
theorem dX8_extentOver_78 : decode cX8_extentOver 78 = .ok (.iload_n 2, 1) := by decide +kernel
theorem dX8_extentOver_79 : decode cX8_extentOver 79 = .ok (.iload_n 3, 1) := by decide +kernel
theorem dX8_extentOver_80 : decode cX8_extentOver 80 = .ok (.ior, 1) := by decide +kernel
theorem dX8_extentOver_81 : decode cX8_extentOver 81 = .ok (.iload 4, 2) := by decide +kernel
theorem dX8_extentOver_83 : decode cX8_extentOver 83 = .ok (.ior, 1) := by decide +kernel
theorem dX8_extentOver_84 : decode cX8_extentOver 84 = .ok (.iconst 1, 1) := by decide +kernel
theorem dX8_extentOver_85 : decode cX8_extentOver 85 = .ok (.iand, 1) := by decide +kernel
theorem dX8_extentOver_86 : decode cX8_extentOver 86 = .ok (.ior, 1) := by decide +kernel
theorem dX8_extentOver_87 : decode cX8_extentOver 87 = .ok (.ireturn, 1) := by decide +kernel
theorem dX8_height_0 : decode cX8_height 0 = .ok (.aload_n 0, 1) := by decide +kernel
theorem dX8_height_1 : decode cX8_height 1 = .ok (.getfield 25, 3) := by decide +kernel
theorem dX8_height_4 : decode cX8_height 4 = .ok (.iload_n 1, 1) := by decide +kernel
theorem dX8_height_5 : decode cX8_height 5 = .ok (.invokevirtual 50, 3) := by decide +kernel
theorem dX8_height_8 : decode cX8_height 8 = .ok (.iconst 1, 1) := by decide +kernel
theorem dX8_height_9 : decode cX8_height 9 = .ok (.iushr, 1) := by decide +kernel
theorem dX8_height_10 : decode cX8_height 10 = .ok (.sipush 255, 3) := by decide +kernel
theorem dX8_height_13 : decode cX8_height 13 = .ok (.iand, 1) := by decide +kernel
theorem dX8_height_14 : decode cX8_height 14 = .ok (.ireturn, 1) := by decide +kernel
theorem dX8_isCrowded_0 : decode cX8_isCrowded 0 = .ok (.aload_n 0, 1) := by decide +kernel
theorem dX8_isCrowded_1 : decode cX8_isCrowded 1 = .ok (.getfield 88, 3) := by decide +kernel
theorem dX8_isCrowded_4 : decode cX8_isCrowded 4 = .ok (.aload_n 0, 1) := by decide +kernel
theorem dX8_isCrowded_5 : decode cX8_isCrowded 5 = .ok (.getfield 42, 3) := by decide +kernel
theorem dX8_isCrowded_8 : decode cX8_isCrowded 8 = .ok (.if_icmp .le 7, 3) := by decide +kernel
theorem dX8_isCrowded_11 : decode cX8_isCrowded 11 = .ok (.iconst 1, 1) := by decide +kernel
theorem dX8_isCrowded_12 : decode cX8_isCrowded 12 = .ok (.goto 4, 3) := by decide +kernel
theorem dX8_isCrowded_15 : decode cX8_isCrowded 15 = .ok (.iconst 0, 1) := by decide +kernel
theorem dX8_isCrowded_16 : decode cX8_isCrowded 16 = .ok (.ireturn, 1) := by decide +kernel
theorem dX8_isGround_0 : decode cX8_isGround 0 = .ok (.aload_n 0, 1) := by decide +kernel
theorem dX8_isGround_1 : decode cX8_isGround 1 = .ok (.getfield 25, 3) := by decide +kernel
theorem dX8_isGround_4 : decode cX8_isGround 4 = .ok (.iload_n 1, 1) := by decide +kernel
theorem dX8_isGround_5 : decode cX8_isGround 5 = .ok (.invokevirtual 50, 3) := by decide +kernel
theorem dX8_isGround_8 : decode cX8_isGround 8 = .ok (.iconst 1, 1) := by decide +kernel
theorem dX8_isGround_9 : decode cX8_isGround 9 = .ok (.iand, 1) := by decide +kernel
theorem dX8_isGround_10 : decode cX8_isGround 10 = .ok (.ifCond .ne 7, 3) := by decide +kernel
theorem dX8_isGround_13 : decode cX8_isGround 13 = .ok (.iconst 1, 1) := by decide +kernel
theorem dX8_isGround_14 : decode cX8_isGround 14 = .ok (.goto 4, 3) := by decide +kernel
theorem dX8_isGround_17 : decode cX8_isGround 17 = .ok (.iconst 0, 1) := by decide +kernel
theorem dX8_isGround_18 : decode cX8_isGround 18 = .ok (.ireturn, 1) := by decide +kernel
theorem dX8_isTooLarge_0 : decode cX8_isTooLarge 0 = .ok (.aload_n 0, 1) := by decide +kernel
theorem dX8_isTooLarge_1 : decode cX8_isTooLarge 1 = .ok (.iload_n 1, 1) := by decide +kernel
theorem dX8_isTooLarge_2 : decode cX8_isTooLarge 2 = .ok (.invokevirtual 62, 3) := by decide +kernel
theorem dX8_isTooLarge_5 : decode cX8_isTooLarge 5 = .ok (.sipush 1000, 3) := by decide +kernel
theorem dX8_isTooLarge_8 : decode cX8_isTooLarge 8 = .ok (.if_icmp .gt 13, 3) := by decide +kernel
theorem dX8_isTooLarge_11 : decode cX8_isTooLarge 11 = .ok (.aload_n 0, 1) := by decide +kernel
theorem dX8_isTooLarge_12 : decode cX8_isTooLarge 12 = .ok (.iload_n 1, 1) := by decide +kernel
theorem dX8_isTooLarge_13 : decode cX8_isTooLarge 13 = .ok (.invokevirtual 65, 3) := by decide +kernel
theorem dX8_isTooLarge_16 : decode cX8_isTooLarge 16 = .ok (.bipush 60, 2) := by decide +kernel
theorem dX8_isTooLarge_18 : decode cX8_isTooLarge 18 = .ok (.if_icmp .le 7, 3) := by decide +kernel
theorem dX8_isTooLarge_21 : decode cX8_isTooLarge 21 = .ok (.iconst 1, 1) := by decide +kernel
theorem dX8_isTooLarge_22 : decode cX8_isTooLarge 22 = .ok (.goto 4, 3) := by decide +kernel
theorem dX8_isTooLarge_25 : decode cX8_isTooLarge 25 = .ok (.iconst 0, 1) := by decide +kernel
theorem dX8_isTooLarge_26 : decode cX8_isTooLarge 26 = .ok (.ireturn, 1) := by decide +kernel
theorem dX8_keep_0 : decode cX8_keep 0 = .ok (.aload_n 0, 1) := by decide +kernel
theorem dX8_keep_1 : decode cX8_keep 1 = .ok (.getfield 85, 3) := by decide +kernel
theorem dX8_keep_4 : decode cX8_keep 4 = .ok (.iconst 1, 1) := by decide +kernel
theorem dX8_keep_5 : decode cX8_keep 5 = .ok (.isub, 1) := by decide +kernel
theorem dX8_keep_6 : decode cX8_keep 6 = .ok (.istore 6, 2) := by decide +kernel
theorem dX8_keep_8 : decode cX8_keep 8 = .ok (.iload 6, 2) := by decide +kernel
theorem dX8_keep_10 : decode cX8_keep 10 = .ok (.ifCond .lt 19, 3) := by decide +kernel
theorem dX8_keep_13 : decode cX8_keep 13 = .ok (.aload_n 0, 1) := by decide +kernel
theorem dX8_keep_14 : decode cX8_keep 14 = .ok (.aload_n 0, 1) := by decide +kernel
theorem dX8_keep_15 : decode cX8_keep 15 = .ok (.getfield 31, 3) := by decide +kernel
theorem dX8_keep_18 : decode cX8_keep 18 = .ok (.iload 6, 2) := by decide +kernel
theorem dX8_keep_20 : decode cX8_keep 20 = .ok (.invokevirtual 50, 3) := by decide +kernel
theorem dX8_keep_23 : decode cX8_keep 23 = .ok (.putfield 85, 3) := by decide +kernel
theorem dX8_keep_26 : decode cX8_keep 26 = .ok (.goto 33, 3) := by decide +kernel
theorem dX8_keep_29 : decode cX8_keep 29 = .ok (.aload_n 0, 1) := by decide +kernel
theorem dX8_keep_30 : decode cX8_keep 30 = .ok (.getfield 76, 3) := by decide +kernel
theorem dX8_keep_33 : decode cX8_keep 33 = .ok (.ldc 11, 2) := by decide +kernel
theorem dX8_keep_35 : decode cX8_keep 35 = .ok (.if_icmp .ge 22, 3) := by decide +kernel
theorem dX8_keep_38 : decode cX8_keep 38 = .ok (.aload_n 0, 1) := by decide +kernel
theorem dX8_keep_39 : decode cX8_keep 39 = .ok (.getfield 76, 3) := by decide +kernel
theorem dX8_keep_42 : decode cX8_keep 42 = .ok (.istore 6, 2) := by decide +kernel
theorem dX8_keep_44 : decode cX8_keep 44 = .ok (.aload_n 0, 1) := by decide +kernel
theorem dX8_keep_45 : decode cX8_keep 45 = .ok (.dup, 1) := by decide +kernel
theorem dX8_keep_46 : decode cX8_keep 46 = .ok (.getfield 76, 3) := by decide +kernel
theorem dX8_keep_49 : decode cX8_keep 49 = .ok (.iconst 1, 1) := by decide +kernel
theorem dX8_keep_50 : decode cX8_keep 50 = .ok (.iadd, 1) := by decide +kernel
theorem dX8_keep_51 : decode cX8_keep 51 = .ok (.putfield 76, 3) := by decide +kernel
theorem dX8_keep_54 : decode cX8_keep 54 = .ok (.goto 5, 3) := by decide +kernel
theorem dX8_keep_57 : decode cX8_keep 57 = .ok (.iconst 0, 1) := by decide +kernel
theorem dX8_keep_58 : decode cX8_keep 58 = .ok (.ireturn, 1) := by decide +kernel
theorem dX8_keep_59 : decode cX8_keep 59 = .ok (.aload_n 0, 1) := by decide +kernel
theorem dX8_keep_60 : decode cX8_keep 60 = .ok (.dup, 1) := by decide +kernel
theorem dX8_keep_61 : decode cX8_keep 61 = .ok (.getfield 88, 3) := by decide +kernel
theorem dX8_keep_64 : decode cX8_keep 64 = .ok (.iconst 1, 1) := by decide +kernel
theorem dX8_keep_65 : decode cX8_keep 65 = .ok (.iadd, 1) := by decide +kernel
theorem dX8_keep_66 : decode cX8_keep 66 = .ok (.putfield 88, 3) := by decide +kernel
theorem dX8_keep_69 : decode cX8_keep 69 = .ok (.aload_n 0, 1) := by decide +kernel
theorem dX8_keep_70 : decode cX8_keep 70 = .ok (.getfield 15, 3) := by decide +kernel
theorem dX8_keep_73 : decode cX8_keep 73 = .ok (.iload 6, 2) := by decide +kernel
theorem dX8_keep_75 : decode cX8_keep 75 = .ok (.iload_n 1, 1) := by decide +kernel
theorem dX8_keep_76 : decode cX8_keep 76 = .ok (.invokevirtual 68, 3) := by decide +kernel
theorem dX8_keep_79 : decode cX8_keep 79 = .ok (.aload_n 0, 1) := by decide +kernel
theorem dX8_keep_80 : decode cX8_keep 80 = .ok (.getfield 22, 3) := by decide +kernel
theorem dX8_keep_83 : decode cX8_keep 83 = .ok (.iconst 3, 1) := by decide +kernel
theorem dX8_keep_84 : decode cX8_keep 84 = .ok (.iload 6, 2) := by decide +kernel
theorem dX8_keep_86 : decode cX8_keep 86 = .ok (.imul, 1) := by decide +kernel
theorem dX8_keep_87 : decode cX8_keep 87 = .ok (.iload_n 2, 1) := by decide +kernel
theorem dX8_keep_88 : decode cX8_keep 88 = .ok (.invokevirtual 68, 3) := by decide +kernel
theorem dX8_keep_91 : decode cX8_keep 91 = .ok (.aload_n 0, 1) := by decide +kernel
theorem dX8_keep_92 : decode cX8_keep 92 = .ok (.getfield 22, 3) := by decide +kernel
theorem dX8_keep_95 : decode cX8_keep 95 = .ok (.iconst 3, 1) := by decide +kernel
theorem dX8_keep_96 : decode cX8_keep 96 = .ok (.iload 6, 2) := by decide +kernel
theorem dX8_keep_98 : decode cX8_keep 98 = .ok (.imul, 1) := by decide +kernel
theorem dX8_keep_99 : decode cX8_keep 99 = .ok (.iconst 1, 1) := by decide +kernel
theorem dX8_keep_100 : decode cX8_keep 100 = .ok (.iadd, 1) := by decide +kernel
theorem dX8_keep_101 : decode cX8_keep 101 = .ok (.iload_n 3, 1) := by decide +kernel
theorem dX8_keep_102 : decode cX8_keep 102 = .ok (.invokevirtual 68, 3) := by decide +kernel
theorem dX8_keep_105 : decode cX8_keep 105 = .ok (.aload_n 0, 1) := by decide +kernel
theorem dX8_keep_106 : decode cX8_keep 106 = .ok (.getfield 22, 3) := by decide +kernel
theorem dX8_keep_109 : decode cX8_keep 109 = .ok (.iconst 3, 1) := by decide +kernel
theorem dX8_keep_110 : decode cX8_keep 110 = .ok (.iload 6, 2) := by decide +kernel
theorem dX8_keep_112 : decode cX8_keep 112 = .ok (.imul, 1) := by decide +kernel
theorem dX8_keep_113 : decode cX8_keep 113 = .ok (.iconst 2, 1) := by decide +kernel
theorem dX8_keep_114 : decode cX8_keep 114 = .ok (.iadd, 1) := by decide +kernel
theorem dX8_keep_115 : decode cX8_keep 115 = .ok (.iload 4, 2) := by decide +kernel
theorem dX8_keep_117 : decode cX8_keep 117 = .ok (.invokevirtual 68, 3) := by decide +kernel
theorem dX8_keep_120 : decode cX8_keep 120 = .ok (.aload_n 0, 1) := by decide +kernel
theorem dX8_keep_121 : decode cX8_keep 121 = .ok (.getfield 46, 3) := by decide +kernel
theorem dX8_keep_124 : decode cX8_keep 124 = .ok (.iload_n 1, 1) := by decide +kernel
theorem dX8_keep_125 : decode cX8_keep 125 = .ok (.invokevirtual 59, 3) := by decide +kernel
theorem dX8_keep_128 : decode cX8_keep 128 = .ok (.iconst (-1), 1) := by decide +kernel
theorem dX8_keep_129 : decode cX8_keep 129 = .ok (.if_icmp .ne 7, 3) := by decide +kernel
theorem dX8_keep_132 : decode cX8_keep 132 = .ok (.iconst 0, 1) := by decide +kernel
theorem dX8_keep_133 : decode cX8_keep 133 = .ok (.goto 4, 3) := by decide +kernel
theorem dX8_keep_136 : decode cX8_keep 136 = .ok (.iconst 1, 1) := by decide +kernel
theorem dX8_keep_137 : decode cX8_keep 137 = .ok (.istore 7, 2) := by decide +kernel
theorem dX8_keep_139 : decode cX8_keep 139 = .ok (.aload_n 0, 1) := by decide +kernel
theorem dX8_keep_140 : decode cX8_keep 140 = .ok (.getfield 25, 3) := by decide +kernel
theorem dX8_keep_143 : decode cX8_keep 143 = .ok (.iload 6, 2) := by decide +kernel
theorem dX8_keep_145 : decode cX8_keep 145 = .ok (.aload_n 0, 1) := by decide +kernel
theorem dX8_keep_146 : decode cX8_keep 146 = .ok (.iload 7, 2) := by decide +kernel
theorem dX8_keep_148 : decode cX8_keep 148 = .ok (.aload_n 0, 1) := by decide +kernel
theorem dX8_keep_149 : decode cX8_keep 149 = .ok (.getfield 25, 3) := by decide +kernel
theorem dX8_keep_152 : decode cX8_keep 152 = .ok (.iload_n 2, 1) := by decide +kernel
theorem dX8_keep_153 : decode cX8_keep 153 = .ok (.invokevirtual 50, 3) := by decide +kernel
theorem dX8_keep_156 : decode cX8_keep 156 = .ok (.aload_n 0, 1) := by decide +kernel
theorem dX8_keep_157 : decode cX8_keep 157 = .ok (.getfield 25, 3) := by decide +kernel
theorem dX8_keep_160 : decode cX8_keep 160 = .ok (.iload_n 3, 1) := by decide +kernel
theorem dX8_keep_161 : decode cX8_keep 161 = .ok (.invokevirtual 50, 3) := by decide +kernel
theorem dX8_keep_164 : decode cX8_keep 164 = .ok (.aload_n 0, 1) := by decide +kernel
theorem dX8_keep_165 : decode cX8_keep 165 = .ok (.getfield 25, 3) := by decide +kernel
theorem dX8_keep_168 : decode cX8_keep 168 = .ok (.iload 4, 2) := by decide +kernel
theorem dX8_keep_170 : decode cX8_keep 170 = .ok (.invokevirtual 50, 3) := by decide +kernel
theorem dX8_keep_173 : decode cX8_keep 173 = .ok (.invokevirtual 91, 3) := by decide +kernel
theorem dX8_keep_176 : decode cX8_keep 176 = .ok (.invokevirtual 68, 3) := by decide +kernel
theorem dX8_keep_179 : decode cX8_keep 179 = .ok (.aload_n 0, 1) := by decide +kernel
theorem dX8_keep_180 : decode cX8_keep 180 = .ok (.getfield 31, 3) := by decide +kernel
theorem dX8_keep_183 : decode cX8_keep 183 = .ok (.iload 6, 2) := by decide +kernel
theorem dX8_keep_185 : decode cX8_keep 185 = .ok (.aload_n 0, 1) := by decide +kernel
theorem dX8_keep_186 : decode cX8_keep 186 = .ok (.getfield 35, 3) := by decide +kernel
theorem dX8_keep_189 : decode cX8_keep 189 = .ok (.iload 5, 2) := by decide +kernel
theorem dX8_keep_191 : decode cX8_keep 191 = .ok (.invokevirtual 50, 3) := by decide +kernel
theorem dX8_keep_194 : decode cX8_keep 194 = .ok (.invokevirtual 68, 3) := by decide +kernel
theorem dX8_keep_197 : decode cX8_keep 197 = .ok (.aload_n 0, 1) := by decide +kernel
theorem dX8_keep_198 : decode cX8_keep 198 = .ok (.getfield 35, 3) := by decide +kernel
theorem dX8_keep_201 : decode cX8_keep 201 = .ok (.iload 5, 2) := by decide +kernel
theorem dX8_keep_203 : decode cX8_keep 203 = .ok (.iload 6, 2) := by decide +kernel
theorem dX8_keep_205 : decode cX8_keep 205 = .ok (.iconst 1, 1) := by decide +kernel
theorem dX8_keep_206 : decode cX8_keep 206 = .ok (.iadd, 1) := by decide +kernel
theorem dX8_keep_207 : decode cX8_keep 207 = .ok (.invokevirtual 68, 3) := by decide +kernel
theorem dX8_keep_210 : decode cX8_keep 210 = .ok (.iload 6, 2) := by decide +kernel
theorem dX8_keep_212 : decode cX8_keep 212 = .ok (.ireturn, 1) := by decide +kernel
theorem dX8_make_0 : decode cX8_make 0 = .ok (.aload_n 0, 1) := by decide +kernel
theorem dX8_make_1 : decode cX8_make 1 = .ok (.iload_n 1, 1) := by decide +kernel
theorem dX8_make_2 : decode cX8_make 2 = .ok (.iload_n 2, 1) := by decide +kernel
theorem dX8_make_3 : decode cX8_make 3 = .ok (.iload_n 3, 1) := by decide +kernel
theorem dX8_make_4 : decode cX8_make 4 = .ok (.iload 4, 2) := by decide +kernel
theorem dX8_make_6 : decode cX8_make 6 = .ok (.invokevirtual 72, 3) := by decide +kernel
theorem dX8_make_9 : decode cX8_make 9 = .ok (.istore 5, 2) := by decide +kernel
theorem dX8_make_11 : decode cX8_make 11 = .ok (.aload_n 0, 1) := by decide +kernel
theorem dX8_make_12 : decode cX8_make 12 = .ok (.getfield 35, 3) := by decide +kernel
theorem dX8_make_15 : decode cX8_make 15 = .ok (.iload 5, 2) := by decide +kernel
theorem dX8_make_17 : decode cX8_make 17 = .ok (.invokevirtual 50, 3) := by decide +kernel
theorem dX8_make_20 : decode cX8_make 20 = .ok (.iconst 1, 1) := by decide +kernel
theorem dX8_make_21 : decode cX8_make 21 = .ok (.isub, 1) := by decide +kernel
theorem dX8_make_22 : decode cX8_make 22 = .ok (.istore 6, 2) := by decide +kernel
theorem dX8_make_24 : decode cX8_make 24 = .ok (.iconst 0, 1) := by decide +kernel
theorem dX8_make_25 : decode cX8_make 25 = .ok (.istore 7, 2) := by decide +kernel
theorem dX8_make_27 : decode cX8_make 27 = .ok (.iload 7, 2) := by decide +kernel
theorem dX8_make_29 : decode cX8_make 29 = .ok (.aload_n 0, 1) := by decide +kernel
theorem dX8_make_30 : decode cX8_make 30 = .ok (.getfield 76, 3) := by decide +kernel
theorem dX8_make_33 : decode cX8_make 33 = .ok (.if_icmp .ge 93, 3) := by decide +kernel
theorem dX8_make_36 : decode cX8_make 36 = .ok (.iload 6, 2) := by decide +kernel
theorem dX8_make_38 : decode cX8_make 38 = .ok (.ifCond .lt 88, 3) := by decide +kernel
theorem dX8_make_41 : decode cX8_make 41 = .ok (.iconst 3, 1) := by decide +kernel
theorem dX8_make_42 : decode cX8_make 42 = .ok (.iload 6, 2) := by decide +kernel
theorem dX8_make_44 : decode cX8_make 44 = .ok (.imul, 1) := by decide +kernel
theorem dX8_make_45 : decode cX8_make 45 = .ok (.istore 8, 2) := by decide +kernel
theorem dX8_make_47 : decode cX8_make 47 = .ok (.aload_n 0, 1) := by decide +kernel
theorem dX8_make_48 : decode cX8_make 48 = .ok (.getfield 15, 3) := by decide +kernel
theorem dX8_make_51 : decode cX8_make 51 = .ok (.iload 6, 2) := by decide +kernel
theorem dX8_make_53 : decode cX8_make 53 = .ok (.invokevirtual 50, 3) := by decide +kernel
theorem dX8_make_56 : decode cX8_make 56 = .ok (.iload_n 1, 1) := by decide +kernel
theorem dX8_make_57 : decode cX8_make 57 = .ok (.if_icmp .ne 50, 3) := by decide +kernel
theorem dX8_make_60 : decode cX8_make 60 = .ok (.aload_n 0, 1) := by decide +kernel
theorem dX8_make_61 : decode cX8_make 61 = .ok (.getfield 22, 3) := by decide +kernel
theorem dX8_make_64 : decode cX8_make 64 = .ok (.iload 8, 2) := by decide +kernel
theorem dX8_make_66 : decode cX8_make 66 = .ok (.invokevirtual 50, 3) := by decide +kernel
theorem dX8_make_69 : decode cX8_make 69 = .ok (.iload_n 2, 1) := by decide +kernel
theorem dX8_make_70 : decode cX8_make 70 = .ok (.if_icmp .ne 37, 3) := by decide +kernel
theorem dX8_make_73 : decode cX8_make 73 = .ok (.aload_n 0, 1) := by decide +kernel
theorem dX8_make_74 : decode cX8_make 74 = .ok (.getfield 22, 3) := by decide +kernel
theorem dX8_make_77 : decode cX8_make 77 = .ok (.iload 8, 2) := by decide +kernel
theorem dX8_make_79 : decode cX8_make 79 = .ok (.iconst 1, 1) := by decide +kernel
theorem dX8_make_80 : decode cX8_make 80 = .ok (.iadd, 1) := by decide +kernel
theorem dX8_make_81 : decode cX8_make 81 = .ok (.invokevirtual 50, 3) := by decide +kernel
theorem dX8_make_84 : decode cX8_make 84 = .ok (.iload_n 3, 1) := by decide +kernel
theorem dX8_make_85 : decode cX8_make 85 = .ok (.if_icmp .ne 22, 3) := by decide +kernel
theorem dX8_make_88 : decode cX8_make 88 = .ok (.aload_n 0, 1) := by decide +kernel
theorem dX8_make_89 : decode cX8_make 89 = .ok (.getfield 22, 3) := by decide +kernel
theorem dX8_make_92 : decode cX8_make 92 = .ok (.iload 8, 2) := by decide +kernel
theorem dX8_make_94 : decode cX8_make 94 = .ok (.iconst 2, 1) := by decide +kernel
theorem dX8_make_95 : decode cX8_make 95 = .ok (.iadd, 1) := by decide +kernel
theorem dX8_make_96 : decode cX8_make 96 = .ok (.invokevirtual 50, 3) := by decide +kernel
theorem dX8_make_99 : decode cX8_make 99 = .ok (.iload 4, 2) := by decide +kernel
theorem dX8_make_101 : decode cX8_make 101 = .ok (.if_icmp .ne 6, 3) := by decide +kernel
theorem dX8_make_104 : decode cX8_make 104 = .ok (.iload 6, 2) := by decide +kernel
theorem dX8_make_106 : decode cX8_make 106 = .ok (.ireturn, 1) := by decide +kernel
theorem dX8_make_107 : decode cX8_make 107 = .ok (.aload_n 0, 1) := by decide +kernel
theorem dX8_make_108 : decode cX8_make 108 = .ok (.getfield 31, 3) := by decide +kernel
theorem dX8_make_111 : decode cX8_make 111 = .ok (.iload 6, 2) := by decide +kernel
theorem dX8_make_113 : decode cX8_make 113 = .ok (.invokevirtual 50, 3) := by decide +kernel
theorem dX8_make_116 : decode cX8_make 116 = .ok (.iconst 1, 1) := by decide +kernel
theorem dX8_make_117 : decode cX8_make 117 = .ok (.isub, 1) := by decide +kernel
theorem dX8_make_118 : decode cX8_make 118 = .ok (.istore 6, 2) := by decide +kernel
theorem dX8_make_120 : decode cX8_make 120 = .ok (.iinc 7 1, 3) := by decide +kernel
theorem dX8_make_123 : decode cX8_make 123 = .ok (.goto (-96), 3) := by decide +kernel
theorem dX8_make_126 : decode cX8_make 126 = .ok (.aload_n 0, 1) := by decide +kernel
theorem dX8_make_127 : decode cX8_make 127 = .ok (.iload_n 1, 1) := by decide +kernel
theorem dX8_make_128 : decode cX8_make 128 = .ok (.iload_n 2, 1) := by decide +kernel
theorem dX8_make_129 : decode cX8_make 129 = .ok (.iload_n 3, 1) := by decide +kernel
theorem dX8_make_130 : decode cX8_make 130 = .ok (.iload 4, 2) := by decide +kernel
theorem dX8_make_132 : decode cX8_make 132 = .ok (.iload 5, 2) := by decide +kernel
theorem dX8_make_134 : decode cX8_make 134 = .ok (.invokevirtual 79, 3) := by decide +kernel
theorem dX8_make_137 : decode cX8_make 137 = .ok (.ireturn, 1) := by decide +kernel
theorem dX8_number_0 : decode cX8_number 0 = .ok (.aload_n 0, 1) := by decide +kernel
theorem dX8_number_1 : decode cX8_number 1 = .ok (.getfield 28, 3) := by decide +kernel
theorem dX8_number_4 : decode cX8_number 4 = .ok (.iload_n 1, 1) := by decide +kernel
theorem dX8_number_5 : decode cX8_number 5 = .ok (.invokevirtual 50, 3) := by decide +kernel
theorem dX8_number_8 : decode cX8_number 8 = .ok (.iconst 1, 1) := by decide +kernel
theorem dX8_number_9 : decode cX8_number 9 = .ok (.isub, 1) := by decide +kernel
theorem dX8_number_10 : decode cX8_number 10 = .ok (.ireturn, 1) := by decide +kernel
theorem dX8_part_0 : decode cX8_part 0 = .ok (.iload_n 1, 1) := by decide +kernel
theorem dX8_part_1 : decode cX8_part 1 = .ok (.ifCond .ge 7, 3) := by decide +kernel
theorem dX8_part_4 : decode cX8_part 4 = .ok (.iconst (-1), 1) := by decide +kernel
theorem dX8_part_5 : decode cX8_part 5 = .ok (.goto 15, 3) := by decide +kernel
theorem dX8_part_8 : decode cX8_part 8 = .ok (.aload_n 0, 1) := by decide +kernel
theorem dX8_part_9 : decode cX8_part 9 = .ok (.getfield 22, 3) := by decide +kernel
theorem dX8_part_12 : decode cX8_part 12 = .ok (.iconst 3, 1) := by decide +kernel
theorem dX8_part_13 : decode cX8_part 13 = .ok (.iload_n 1, 1) := by decide +kernel
theorem dX8_part_14 : decode cX8_part 14 = .ok (.imul, 1) := by decide +kernel
theorem dX8_part_15 : decode cX8_part 15 = .ok (.iload_n 2, 1) := by decide +kernel
theorem dX8_part_16 : decode cX8_part 16 = .ok (.iadd, 1) := by decide +kernel
theorem dX8_part_17 : decode cX8_part 17 = .ok (.invokevirtual 50, 3) := by decide +kernel
theorem dX8_part_20 : decode cX8_part 20 = .ok (.ireturn, 1) := by decide +kernel
theorem dX8_setNumber_0 : decode cX8_setNumber 0 = .ok (.aload_n 0, 1) := by decide +kernel
theorem dX8_setNumber_1 : decode cX8_setNumber 1 = .ok (.getfield 28, 3) := by decide +kernel
theorem dX8_setNumber_4 : decode cX8_setNumber 4 = .ok (.iload_n 1, 1) := by decide +kernel
theorem dX8_setNumber_5 : decode cX8_setNumber 5 = .ok (.iload_n 2, 1) := by decide +kernel
theorem dX8_setNumber_6 : decode cX8_setNumber 6 = .ok (.iconst 1, 1) := by decide +kernel
theorem dX8_setNumber_7 : decode cX8_setNumber 7 = .ok (.iadd, 1) := by decide +kernel
theorem dX8_setNumber_8 : decode cX8_setNumber 8 = .ok (.invokevirtual 68, 3) := by decide +kernel
theorem dX8_setNumber_11 : decode cX8_setNumber 11 = .ok (.return_, 1) := by decide +kernel
theorem dX8_symbol_0 : decode cX8_symbol 0 = .ok (.aload_n 0, 1) := by decide +kernel
theorem dX8_symbol_1 : decode cX8_symbol 1 = .ok (.getfield 15, 3) := by decide +kernel
theorem dX8_symbol_4 : decode cX8_symbol 4 = .ok (.iload_n 1, 1) := by decide +kernel
theorem dX8_symbol_5 : decode cX8_symbol 5 = .ok (.invokevirtual 50, 3) := by decide +kernel
theorem dX8_symbol_8 : decode cX8_symbol 8 = .ok (.ireturn, 1) := by decide +kernel
theorem dX8_width_0 : decode cX8_width 0 = .ok (.aload_n 0, 1) := by decide +kernel
theorem dX8_width_1 : decode cX8_width 1 = .ok (.getfield 25, 3) := by decide +kernel
theorem dX8_width_4 : decode cX8_width 4 = .ok (.iload_n 1, 1) := by decide +kernel
theorem dX8_width_5 : decode cX8_width 5 = .ok (.invokevirtual 50, 3) := by decide +kernel
theorem dX8_width_8 : decode cX8_width 8 = .ok (.bipush 9, 2) := by decide +kernel
theorem dX8_width_10 : decode cX8_width 10 = .ok (.iushr, 1) := by decide +kernel
theorem dX8_width_11 : decode cX8_width 11 = .ok (.ireturn, 1) := by decide +kernel
theorem dX9_addEquation_0 : decode cX9_addEquation 0 = .ok (.aload_n 0, 1) := by decide +kernel
theorem dX9_addEquation_1 : decode cX9_addEquation 1 = .ok (.getfield 71, 3) := by decide +kernel
theorem dX9_addEquation_4 : decode cX9_addEquation 4 = .ok (.ifCond .lt 42, 3) := by decide +kernel
theorem dX9_addEquation_7 : decode cX9_addEquation 7 = .ok (.aload_n 0, 1) := by decide +kernel
theorem dX9_addEquation_8 : decode cX9_addEquation 8 = .ok (.getfield 71, 3) := by decide +kernel
theorem dX9_addEquation_11 : decode cX9_addEquation 11 = .ok (.bipush 30, 2) := by decide +kernel
theorem dX9_addEquation_13 : decode cX9_addEquation 13 = .ok (.if_icmp .ge 33, 3) := by decide +kernel
theorem dX9_addEquation_16 : decode cX9_addEquation 16 = .ok (.aload_n 0, 1) := by decide +kernel
theorem dX9_addEquation_17 : decode cX9_addEquation 17 = .ok (.getfield 9, 3) := by decide +kernel
theorem dX9_addEquation_20 : decode cX9_addEquation 20 = .ok (.aload_n 0, 1) := by decide +kernel
theorem dX9_addEquation_21 : decode cX9_addEquation 21 = .ok (.getfield 71, 3) := by decide +kernel
theorem dX9_addEquation_24 : decode cX9_addEquation 24 = .ok (.iload_n 1, 1) := by decide +kernel
theorem dX9_addEquation_25 : decode cX9_addEquation 25 = .ok (.iastore, 1) := by decide +kernel
theorem dX9_addEquation_26 : decode cX9_addEquation 26 = .ok (.aload_n 0, 1) := by decide +kernel
theorem dX9_addEquation_27 : decode cX9_addEquation 27 = .ok (.getfield 15, 3) := by decide +kernel
theorem dX9_addEquation_30 : decode cX9_addEquation 30 = .ok (.aload_n 0, 1) := by decide +kernel
theorem dX9_addEquation_31 : decode cX9_addEquation 31 = .ok (.getfield 71, 3) := by decide +kernel
theorem dX9_addEquation_34 : decode cX9_addEquation 34 = .ok (.iload_n 2, 1) := by decide +kernel
theorem dX9_addEquation_35 : decode cX9_addEquation 35 = .ok (.iastore, 1) := by decide +kernel
theorem dX9_addEquation_36 : decode cX9_addEquation 36 = .ok (.aload_n 0, 1) := by decide +kernel
theorem dX9_addEquation_37 : decode cX9_addEquation 37 = .ok (.dup, 1) := by decide +kernel
theorem dX9_addEquation_38 : decode cX9_addEquation 38 = .ok (.getfield 71, 3) := by decide +kernel
theorem dX9_addEquation_41 : decode cX9_addEquation 41 = .ok (.iconst 1, 1) := by decide +kernel
theorem dX9_addEquation_42 : decode cX9_addEquation 42 = .ok (.iadd, 1) := by decide +kernel
theorem dX9_addEquation_43 : decode cX9_addEquation 43 = .ok (.putfield 71, 3) := by decide +kernel
theorem dX9_addEquation_46 : decode cX9_addEquation 46 = .ok (.return_, 1) := by decide +kernel
theorem dX9_addRule_0 : decode cX9_addRule 0 = .ok (.aload_n 0, 1) := by decide +kernel
theorem dX9_addRule_1 : decode cX9_addRule 1 = .ok (.getfield 168, 3) := by decide +kernel
theorem dX9_addRule_4 : decode cX9_addRule 4 = .ok (.ifCond .lt 54, 3) := by decide +kernel
theorem dX9_addRule_7 : decode cX9_addRule 7 = .ok (.aload_n 0, 1) := by decide +kernel
theorem dX9_addRule_8 : decode cX9_addRule 8 = .ok (.getfield 168, 3) := by decide +kernel
theorem dX9_addRule_11 : decode cX9_addRule 11 = .ok (.bipush 30, 2) := by decide +kernel
theorem dX9_addRule_13 : decode cX9_addRule 13 = .ok (.if_icmp .ge 45, 3) := by decide +kernel
theorem dX9_addRule_16 : decode cX9_addRule 16 = .ok (.aload_n 0, 1) := by decide +kernel
theorem dX9_addRule_17 : decode cX9_addRule 17 = .ok (.getfield 30, 3) := by decide +kernel
theorem dX9_addRule_20 : decode cX9_addRule 20 = .ok (.aload_n 0, 1) := by decide +kernel
theorem dX9_addRule_21 : decode cX9_addRule 21 = .ok (.getfield 168, 3) := by decide +kernel
theorem dX9_addRule_24 : decode cX9_addRule 24 = .ok (.iload_n 1, 1) := by decide +kernel
theorem dX9_addRule_25 : decode cX9_addRule 25 = .ok (.iastore, 1) := by decide +kernel
theorem dX9_addRule_26 : decode cX9_addRule 26 = .ok (.aload_n 0, 1) := by decide +kernel
theorem dX9_addRule_27 : decode cX9_addRule 27 = .ok (.getfield 33, 3) := by decide +kernel
theorem dX9_addRule_30 : decode cX9_addRule 30 = .ok (.aload_n 0, 1) := by decide +kernel
theorem dX9_addRule_31 : decode cX9_addRule 31 = .ok (.getfield 168, 3) := by decide +kernel
theorem dX9_addRule_34 : decode cX9_addRule 34 = .ok (.iload_n 2, 1) := by decide +kernel
theorem dX9_addRule_35 : decode cX9_addRule 35 = .ok (.iastore, 1) := by decide +kernel
theorem dX9_addRule_36 : decode cX9_addRule 36 = .ok (.aload_n 0, 1) := by decide +kernel
theorem dX9_addRule_37 : decode cX9_addRule 37 = .ok (.getfield 42, 3) := by decide +kernel
theorem dX9_addRule_40 : decode cX9_addRule 40 = .ok (.iload_n 1, 1) := by decide +kernel
theorem dX9_addRule_41 : decode cX9_addRule 41 = .ok (.aload_n 0, 1) := by decide +kernel
theorem dX9_addRule_42 : decode cX9_addRule 42 = .ok (.getfield 168, 3) := by decide +kernel
theorem dX9_addRule_45 : decode cX9_addRule 45 = .ok (.invokevirtual 187, 3) := by decide +kernel
theorem dX9_addRule_48 : decode cX9_addRule 48 = .ok (.aload_n 0, 1) := by decide +kernel
theorem dX9_addRule_49 : decode cX9_addRule 49 = .ok (.dup, 1) := by decide +kernel
theorem dX9_addRule_50 : decode cX9_addRule 50 = .ok (.getfield 168, 3) := by decide +kernel
theorem dX9_addRule_53 : decode cX9_addRule 53 = .ok (.iconst 1, 1) := by decide +kernel
theorem dX9_addRule_54 : decode cX9_addRule 54 = .ok (.iadd, 1) := by decide +kernel
theorem dX9_addRule_55 : decode cX9_addRule 55 = .ok (.putfield 168, 3) := by decide +kernel
theorem dX9_addRule_58 : decode cX9_addRule 58 = .ok (.return_, 1) := by decide +kernel
theorem dX9_closeLevel_0 : decode cX9_closeLevel 0 = .ok (.aload_n 0, 1) := by decide +kernel
theorem dX9_closeLevel_1 : decode cX9_closeLevel 1 = .ok (.getfield 85, 3) := by decide +kernel
theorem dX9_closeLevel_4 : decode cX9_closeLevel 4 = .ok (.ifCond .le 44, 3) := by decide +kernel
theorem dX9_closeLevel_7 : decode cX9_closeLevel 7 = .ok (.aload_n 0, 1) := by decide +kernel
theorem dX9_closeLevel_8 : decode cX9_closeLevel 8 = .ok (.getfield 85, 3) := by decide +kernel
theorem dX9_closeLevel_11 : decode cX9_closeLevel 11 = .ok (.bipush 8, 2) := by decide +kernel
theorem dX9_closeLevel_13 : decode cX9_closeLevel 13 = .ok (.if_icmp .gt 35, 3) := by decide +kernel
theorem dX9_closeLevel_16 : decode cX9_closeLevel 16 = .ok (.aload_n 0, 1) := by decide +kernel
theorem dX9_closeLevel_17 : decode cX9_closeLevel 17 = .ok (.dup, 1) := by decide +kernel
theorem dX9_closeLevel_18 : decode cX9_closeLevel 18 = .ok (.getfield 85, 3) := by decide +kernel
theorem dX9_closeLevel_21 : decode cX9_closeLevel 21 = .ok (.iconst 1, 1) := by decide +kernel
theorem dX9_closeLevel_22 : decode cX9_closeLevel 22 = .ok (.isub, 1) := by decide +kernel
theorem dX9_closeLevel_23 : decode cX9_closeLevel 23 = .ok (.putfield 85, 3) := by decide +kernel
theorem dX9_closeLevel_26 : decode cX9_closeLevel 26 = .ok (.aload_n 0, 1) := by decide +kernel
theorem dX9_closeLevel_27 : decode cX9_closeLevel 27 = .ok (.aload_n 0, 1) := by decide +kernel
theorem dX9_closeLevel_28 : decode cX9_closeLevel 28 = .ok (.getfield 24, 3) := by decide +kernel
theorem dX9_closeLevel_31 : decode cX9_closeLevel 31 = .ok (.aload_n 0, 1) := by decide +kernel
theorem dX9_closeLevel_32 : decode cX9_closeLevel 32 = .ok (.getfield 85, 3) := by decide +kernel
theorem dX9_closeLevel_35 : decode cX9_closeLevel 35 = .ok (.iaload, 1) := by decide +kernel
theorem dX9_closeLevel_36 : decode cX9_closeLevel 36 = .ok (.aload_n 0, 1) := by decide +kernel
theorem dX9_closeLevel_37 : decode cX9_closeLevel 37 = .ok (.getfield 27, 3) := by decide +kernel
theorem dX9_closeLevel_40 : decode cX9_closeLevel 40 = .ok (.aload_n 0, 1) := by decide +kernel
theorem dX9_closeLevel_41 : decode cX9_closeLevel 41 = .ok (.getfield 85, 3) := by decide +kernel
theorem dX9_closeLevel_44 : decode cX9_closeLevel 44 = .ok (.iaload, 1) := by decide +kernel
theorem dX9_closeLevel_45 : decode cX9_closeLevel 45 = .ok (.invokevirtual 88, 3) := by decide +kernel
theorem dX9_closeLevel_48 : decode cX9_closeLevel 48 = .ok (.return_, 1) := by decide +kernel
theorem dX9_complete_0 : decode cX9_complete 0 = .ok (.aload_n 0, 1) := by decide +kernel
theorem dX9_complete_1 : decode cX9_complete 1 = .ok (.iconst (-1), 1) := by decide +kernel
theorem dX9_complete_2 : decode cX9_complete 2 = .ok (.iconst (-1), 1) := by decide +kernel
theorem dX9_complete_3 : decode cX9_complete 3 = .ok (.iconst (-1), 1) := by decide +kernel
theorem dX9_complete_4 : decode cX9_complete 4 = .ok (.invokevirtual 91, 3) := by decide +kernel
theorem dX9_complete_7 : decode cX9_complete 7 = .ok (.aload_n 0, 1) := by decide +kernel
theorem dX9_complete_8 : decode cX9_complete 8 = .ok (.getfield 67, 3) := by decide +kernel
theorem dX9_complete_11 : decode cX9_complete 11 = .ok (.invokevirtual 95, 3) := by decide +kernel
theorem dX9_complete_14 : decode cX9_complete 14 = .ok (.aload_n 0, 1) := by decide +kernel
theorem dX9_complete_15 : decode cX9_complete 15 = .ok (.getfield 67, 3) := by decide +kernel
theorem dX9_complete_18 : decode cX9_complete 18 = .ok (.aload_n 0, 1) := by decide +kernel
theorem dX9_complete_19 : decode cX9_complete 19 = .ok (.getfield 58, 3) := by decide +kernel
theorem dX9_complete_22 : decode cX9_complete 22 = .ok (.invokevirtual 98, 3) := by decide +kernel
theorem dX9_complete_25 : decode cX9_complete 25 = .ok (.aload_n 0, 1) := by decide +kernel
theorem dX9_complete_26 : decode cX9_complete 26 = .ok (.getfield 58, 3) := by decide +kernel
theorem dX9_complete_29 : decode cX9_complete 29 = .ok (.aload_n 0, 1) := by decide +kernel
theorem dX9_complete_30 : decode cX9_complete 30 = .ok (.getfield 46, 3) := by decide +kernel
theorem dX9_complete_33 : decode cX9_complete 33 = .ok (.invokevirtual 102, 3) := by decide +kernel
theorem dX9_complete_36 : decode cX9_complete 36 = .ok (.invokevirtual 108, 3) := by decide +kernel
theorem dX9_complete_39 : decode cX9_complete 39 = .ok (.iconst 0, 1) := by decide +kernel
theorem dX9_complete_40 : decode cX9_complete 40 = .ok (.istore_n 1, 1) := by decide +kernel
theorem dX9_complete_41 : decode cX9_complete 41 = .ok (.iload_n 1, 1) := by decide +kernel
theorem dX9_complete_42 : decode cX9_complete 42 = .ok (.aload_n 0, 1) := by decide +kernel
theorem dX9_complete_43 : decode cX9_complete 43 = .ok (.getfield 58, 3) := by decide +kernel
theorem dX9_complete_46 : decode cX9_complete 46 = .ok (.invokevirtual 113, 3) := by decide +kernel
theorem dX9_complete_49 : decode cX9_complete 49 = .ok (.if_icmp .ge 57, 3) := by decide +kernel
theorem dX9_complete_52 : decode cX9_complete 52 = .ok (.aload_n 0, 1) := by decide +kernel
theorem dX9_complete_53 : decode cX9_complete 53 = .ok (.getfield 58, 3) := by decide +kernel
theorem dX9_complete_56 : decode cX9_complete 56 = .ok (.iload_n 1, 1) := by decide +kernel
theorem dX9_complete_57 : decode cX9_complete 57 = .ok (.invokevirtual 116, 3) := by decide +kernel
theorem dX9_complete_60 : decode cX9_complete 60 = .ok (.istore_n 2, 1) := by decide +kernel
theorem dX9_complete_61 : decode cX9_complete 61 = .ok (.aload_n 0, 1) := by decide +kernel
theorem dX9_complete_62 : decode cX9_complete 62 = .ok (.getfield 58, 3) := by decide +kernel
theorem dX9_complete_65 : decode cX9_complete 65 = .ok (.aload_n 0, 1) := by decide +kernel
theorem dX9_complete_66 : decode cX9_complete 66 = .ok (.getfield 58, 3) := by decide +kernel
theorem dX9_complete_69 : decode cX9_complete 69 = .ok (.iload_n 2, 1) := by decide +kernel
theorem dX9_complete_70 : decode cX9_complete 70 = .ok (.invokevirtual 120, 3) := by decide +kernel
theorem dX9_complete_73 : decode cX9_complete 73 = .ok (.invokevirtual 123, 3) := by decide +kernel
theorem dX9_complete_76 : decode cX9_complete 76 = .ok (.istore_n 3, 1) := by decide +kernel
theorem dX9_complete_77 : decode cX9_complete 77 = .ok (.iload_n 2, 1) := by decide +kernel
theorem dX9_complete_78 : decode cX9_complete 78 = .ok (.iload_n 3, 1) := by decide +kernel
theorem dX9_complete_79 : decode cX9_complete 79 = .ok (.if_icmp .eq 21, 3) := by decide +kernel
theorem dX9_complete_82 : decode cX9_complete 82 = .ok (.aload_n 0, 1) := by decide +kernel
theorem dX9_complete_83 : decode cX9_complete 83 = .ok (.iload_n 2, 1) := by decide +kernel
theorem dX9_complete_84 : decode cX9_complete 84 = .ok (.invokevirtual 126, 3) := by decide +kernel
theorem dX9_complete_87 : decode cX9_complete 87 = .ok (.ifCond .ne 11, 3) := by decide +kernel
theorem dX9_complete_90 : decode cX9_complete 90 = .ok (.aload_n 0, 1) := by decide +kernel
theorem dX9_complete_91 : decode cX9_complete 91 = .ok (.iload_n 3, 1) := by decide +kernel
theorem dX9_complete_92 : decode cX9_complete 92 = .ok (.invokevirtual 126, 3) := by decide +kernel
theorem dX9_complete_95 : decode cX9_complete 95 = .ok (.ifCond .eq 5, 3) := by decide +kernel
theorem dX9_complete_98 : decode cX9_complete 98 = .ok (.iconst 0, 1) := by decide +kernel
theorem dX9_complete_99 : decode cX9_complete 99 = .ok (.ireturn, 1) := by decide +kernel
theorem dX9_complete_100 : decode cX9_complete 100 = .ok (.iinc 1 1, 3) := by decide +kernel
theorem dX9_complete_103 : decode cX9_complete 103 = .ok (.goto (-62), 3) := by decide +kernel
theorem dX9_complete_106 : decode cX9_complete 106 = .ok (.aload_n 0, 1) := by decide +kernel
theorem dX9_complete_107 : decode cX9_complete 107 = .ok (.invokevirtual 130, 3) := by decide +kernel
theorem dX9_complete_110 : decode cX9_complete 110 = .ok (.iconst 1, 1) := by decide +kernel
theorem dX9_complete_111 : decode cX9_complete 111 = .ok (.ireturn, 1) := by decide +kernel
theorem dX9_countSteps_0 : decode cX9_countSteps 0 = .ok (.aload_n 0, 1) := by decide +kernel
theorem dX9_countSteps_1 : decode cX9_countSteps 1 = .ok (.iload_n 1, 1) := by decide +kernel
theorem dX9_countSteps_2 : decode cX9_countSteps 2 = .ok (.invokevirtual 217, 3) := by decide +kernel
theorem dX9_countSteps_5 : decode cX9_countSteps 5 = .ok (.pop, 1) := by decide +kernel
theorem dX9_countSteps_6 : decode cX9_countSteps 6 = .ok (.aload_n 0, 1) := by decide +kernel
theorem dX9_countSteps_7 : decode cX9_countSteps 7 = .ok (.getfield 54, 3) := by decide +kernel
theorem dX9_countSteps_10 : decode cX9_countSteps 10 = .ok (.aload_n 0, 1) := by decide +kernel
theorem dX9_countSteps_11 : decode cX9_countSteps 11 = .ok (.getfield 54, 3) := by decide +kernel
theorem dX9_countSteps_14 : decode cX9_countSteps 14 = .ok (.invokevirtual 193, 3) := by decide +kernel
theorem dX9_countSteps_17 : decode cX9_countSteps 17 = .ok (.iconst 1, 1) := by decide +kernel
theorem dX9_countSteps_18 : decode cX9_countSteps 18 = .ok (.isub, 1) := by decide +kernel
theorem dX9_countSteps_19 : decode cX9_countSteps 19 = .ok (.invokevirtual 223, 3) := by decide +kernel
theorem dX9_countSteps_22 : decode cX9_countSteps 22 = .ok (.ireturn, 1) := by decide +kernel
theorem dX9_gather_0 : decode cX9_gather 0 = .ok (.aload_n 0, 1) := by decide +kernel
theorem dX9_gather_1 : decode cX9_gather 1 = .ok (.getfield 54, 3) := by decide +kernel
theorem dX9_gather_4 : decode cX9_gather 4 = .ok (.invokevirtual 133, 3) := by decide +kernel
theorem dX9_gather_7 : decode cX9_gather 7 = .ok (.iconst 0, 1) := by decide +kernel
theorem dX9_gather_8 : decode cX9_gather 8 = .ok (.istore 4, 2) := by decide +kernel
theorem dX9_gather_10 : decode cX9_gather 10 = .ok (.iload 4, 2) := by decide +kernel
theorem dX9_gather_12 : decode cX9_gather 12 = .ok (.aload_n 0, 1) := by decide +kernel
theorem dX9_gather_13 : decode cX9_gather 13 = .ok (.getfield 71, 3) := by decide +kernel
theorem dX9_gather_16 : decode cX9_gather 16 = .ok (.if_icmp .ge 50, 3) := by decide +kernel
theorem dX9_gather_19 : decode cX9_gather 19 = .ok (.iload 4, 2) := by decide +kernel
theorem dX9_gather_21 : decode cX9_gather 21 = .ok (.bipush 30, 2) := by decide +kernel
theorem dX9_gather_23 : decode cX9_gather 23 = .ok (.if_icmp .ge 43, 3) := by decide +kernel
theorem dX9_gather_26 : decode cX9_gather 26 = .ok (.iload 4, 2) := by decide +kernel
theorem dX9_gather_28 : decode cX9_gather 28 = .ok (.iload_n 1, 1) := by decide +kernel
theorem dX9_gather_29 : decode cX9_gather 29 = .ok (.if_icmp .eq 31, 3) := by decide +kernel
theorem dX9_gather_32 : decode cX9_gather 32 = .ok (.aload_n 0, 1) := by decide +kernel
theorem dX9_gather_33 : decode cX9_gather 33 = .ok (.getfield 54, 3) := by decide +kernel
theorem dX9_gather_36 : decode cX9_gather 36 = .ok (.aload_n 0, 1) := by decide +kernel
theorem dX9_gather_37 : decode cX9_gather 37 = .ok (.getfield 9, 3) := by decide +kernel
theorem dX9_gather_40 : decode cX9_gather 40 = .ok (.iload 4, 2) := by decide +kernel
theorem dX9_gather_42 : decode cX9_gather 42 = .ok (.iaload, 1) := by decide +kernel
theorem dX9_gather_43 : decode cX9_gather 43 = .ok (.invokevirtual 138, 3) := by decide +kernel
theorem dX9_gather_46 : decode cX9_gather 46 = .ok (.aload_n 0, 1) := by decide +kernel
theorem dX9_gather_47 : decode cX9_gather 47 = .ok (.getfield 54, 3) := by decide +kernel
theorem dX9_gather_50 : decode cX9_gather 50 = .ok (.aload_n 0, 1) := by decide +kernel
theorem dX9_gather_51 : decode cX9_gather 51 = .ok (.getfield 15, 3) := by decide +kernel
theorem dX9_gather_54 : decode cX9_gather 54 = .ok (.iload 4, 2) := by decide +kernel
theorem dX9_gather_56 : decode cX9_gather 56 = .ok (.iaload, 1) := by decide +kernel
theorem dX9_gather_57 : decode cX9_gather 57 = .ok (.invokevirtual 138, 3) := by decide +kernel
theorem dX9_gather_60 : decode cX9_gather 60 = .ok (.iinc 4 1, 3) := by decide +kernel
theorem dX9_gather_63 : decode cX9_gather 63 = .ok (.goto (-53), 3) := by decide +kernel
theorem dX9_gather_66 : decode cX9_gather 66 = .ok (.aload_n 0, 1) := by decide +kernel
theorem dX9_gather_67 : decode cX9_gather 67 = .ok (.getfield 54, 3) := by decide +kernel
theorem dX9_gather_70 : decode cX9_gather 70 = .ok (.iload_n 2, 1) := by decide +kernel
theorem dX9_gather_71 : decode cX9_gather 71 = .ok (.invokevirtual 138, 3) := by decide +kernel
theorem dX9_gather_74 : decode cX9_gather 74 = .ok (.aload_n 0, 1) := by decide +kernel
theorem dX9_gather_75 : decode cX9_gather 75 = .ok (.getfield 54, 3) := by decide +kernel
theorem dX9_gather_78 : decode cX9_gather 78 = .ok (.iload_n 3, 1) := by decide +kernel
theorem dX9_gather_79 : decode cX9_gather 79 = .ok (.invokevirtual 138, 3) := by decide +kernel
theorem dX9_gather_82 : decode cX9_gather 82 = .ok (.aload_n 0, 1) := by decide +kernel
theorem dX9_gather_83 : decode cX9_gather 83 = .ok (.getfield 67, 3) := by decide +kernel
theorem dX9_gather_86 : decode cX9_gather 86 = .ok (.invokevirtual 141, 3) := by decide +kernel
theorem dX9_gather_89 : decode cX9_gather 89 = .ok (.iconst 0, 1) := by decide +kernel
theorem dX9_gather_90 : decode cX9_gather 90 = .ok (.istore 4, 2) := by decide +kernel
theorem dX9_gather_92 : decode cX9_gather 92 = .ok (.iload 4, 2) := by decide +kernel
theorem dX9_gather_94 : decode cX9_gather 94 = .ok (.aload_n 0, 1) := by decide +kernel
theorem dX9_gather_95 : decode cX9_gather 95 = .ok (.getfield 71, 3) := by decide +kernel
theorem dX9_gather_98 : decode cX9_gather 98 = .ok (.if_icmp .ge 57, 3) := by decide +kernel
theorem dX9_gather_101 : decode cX9_gather 101 = .ok (.iload 4, 2) := by decide +kernel
theorem dX9_gather_103 : decode cX9_gather 103 = .ok (.bipush 30, 2) := by decide +kernel
theorem dX9_gather_105 : decode cX9_gather 105 = .ok (.if_icmp .ge 50, 3) := by decide +kernel
theorem dX9_gather_108 : decode cX9_gather 108 = .ok (.iload 4, 2) := by decide +kernel
theorem dX9_gather_110 : decode cX9_gather 110 = .ok (.iload_n 1, 1) := by decide +kernel
theorem dX9_gather_111 : decode cX9_gather 111 = .ok (.if_icmp .eq 38, 3) := by decide +kernel
theorem dX9_gather_114 : decode cX9_gather 114 = .ok (.aload_n 0, 1) := by decide +kernel
theorem dX9_gather_115 : decode cX9_gather 115 = .ok (.getfield 67, 3) := by decide +kernel
theorem dX9_gather_118 : decode cX9_gather 118 = .ok (.aload_n 0, 1) := by decide +kernel
theorem dX9_gather_119 : decode cX9_gather 119 = .ok (.getfield 54, 3) := by decide +kernel
theorem dX9_gather_122 : decode cX9_gather 122 = .ok (.aload_n 0, 1) := by decide +kernel
theorem dX9_gather_123 : decode cX9_gather 123 = .ok (.getfield 9, 3) := by decide +kernel
theorem dX9_gather_126 : decode cX9_gather 126 = .ok (.iload 4, 2) := by decide +kernel
theorem dX9_gather_128 : decode cX9_gather 128 = .ok (.iaload, 1) := by decide +kernel
theorem dX9_gather_129 : decode cX9_gather 129 = .ok (.invokevirtual 144, 3) := by decide +kernel
theorem dX9_gather_132 : decode cX9_gather 132 = .ok (.aload_n 0, 1) := by decide +kernel
end
section
theorem dX9_gather_133 : decode cX9_gather 133 = .ok (.getfield 54, 3) := by decide +kernel
theorem dX9_gather_136 : decode cX9_gather 136 = .ok (.aload_n 0, 1) := by decide +kernel
theorem dX9_gather_137 : decode cX9_gather 137 = .ok (.getfield 15, 3) := by decide +kernel
theorem dX9_gather_140 : decode cX9_gather 140 = .ok (.iload 4, 2) := by decide +kernel
theorem dX9_gather_142 : decode cX9_gather 142 = .ok (.iaload, 1) := by decide +kernel
theorem dX9_gather_143 : decode cX9_gather 143 = .ok (.invokevirtual 144, 3) := by decide +kernel
theorem dX9_gather_146 : decode cX9_gather 146 = .ok (.invokevirtual 147, 3) := by decide +kernel
theorem dX9_gather_149 : decode cX9_gather 149 = .ok (.iinc 4 1, 3) := by decide +kernel
theorem dX9_gather_152 : decode cX9_gather 152 = .ok (.goto (-60), 3) := by decide +kernel
theorem dX9_gather_155 : decode cX9_gather 155 = .ok (.return_, 1) := by decide +kernel
theorem dX9_goBack_0 : decode cX9_goBack 0 = .ok (.aload_n 0, 1) := by decide +kernel
theorem dX9_goBack_1 : decode cX9_goBack 1 = .ok (.iload_n 1, 1) := by decide +kernel
theorem dX9_goBack_2 : decode cX9_goBack 2 = .ok (.putfield 71, 3) := by decide +kernel
theorem dX9_goBack_5 : decode cX9_goBack 5 = .ok (.aload_n 0, 1) := by decide +kernel
theorem dX9_goBack_6 : decode cX9_goBack 6 = .ok (.iload_n 2, 1) := by decide +kernel
theorem dX9_goBack_7 : decode cX9_goBack 7 = .ok (.putfield 75, 3) := by decide +kernel
theorem dX9_goBack_10 : decode cX9_goBack 10 = .ok (.return_, 1) := by decide +kernel
theorem dX9_isTooLargeSide_0 : decode cX9_isTooLargeSide 0 = .ok (.aload_n 0, 1) := by decide +kernel
theorem dX9_isTooLargeSide_1 : decode cX9_isTooLargeSide 1 = .ok (.getfield 58, 3) := by decide +kernel
theorem dX9_isTooLargeSide_4 : decode cX9_isTooLargeSide 4 = .ok (.iload_n 1, 1) := by decide +kernel
theorem dX9_isTooLargeSide_5 : decode cX9_isTooLargeSide 5 = .ok (.invokevirtual 150, 3) := by decide +kernel
theorem dX9_isTooLargeSide_8 : decode cX9_isTooLargeSide 8 = .ok (.sipush 300, 3) := by decide +kernel
theorem dX9_isTooLargeSide_11 : decode cX9_isTooLargeSide 11 = .ok (.if_icmp .gt 16, 3) := by decide +kernel
theorem dX9_isTooLargeSide_14 : decode cX9_isTooLargeSide 14 = .ok (.aload_n 0, 1) := by decide +kernel
theorem dX9_isTooLargeSide_15 : decode cX9_isTooLargeSide 15 = .ok (.getfield 58, 3) := by decide +kernel
theorem dX9_isTooLargeSide_18 : decode cX9_isTooLargeSide 18 = .ok (.iload_n 1, 1) := by decide +kernel
theorem dX9_isTooLargeSide_19 : decode cX9_isTooLargeSide 19 = .ok (.invokevirtual 153, 3) := by decide +kernel
theorem dX9_isTooLargeSide_22 : decode cX9_isTooLargeSide 22 = .ok (.bipush 40, 2) := by decide +kernel
theorem dX9_isTooLargeSide_24 : decode cX9_isTooLargeSide 24 = .ok (.if_icmp .le 7, 3) := by decide +kernel
theorem dX9_isTooLargeSide_27 : decode cX9_isTooLargeSide 27 = .ok (.iconst 1, 1) := by decide +kernel
theorem dX9_isTooLargeSide_28 : decode cX9_isTooLargeSide 28 = .ok (.goto 4, 3) := by decide +kernel
theorem dX9_isTooLargeSide_31 : decode cX9_isTooLargeSide 31 = .ok (.iconst 0, 1) := by decide +kernel
theorem dX9_isTooLargeSide_32 : decode cX9_isTooLargeSide 32 = .ok (.ireturn, 1) := by decide +kernel
theorem dX9_makesEqual_0 : decode cX9_makesEqual 0 = .ok (.iload_n 1, 1) := by decide +kernel
theorem dX9_makesEqual_1 : decode cX9_makesEqual 1 = .ok (.iload_n 2, 1) := by decide +kernel
theorem dX9_makesEqual_2 : decode cX9_makesEqual 2 = .ok (.if_icmp .eq 16, 3) := by decide +kernel
theorem dX9_makesEqual_5 : decode cX9_makesEqual 5 = .ok (.aload_n 0, 1) := by decide +kernel
theorem dX9_makesEqual_6 : decode cX9_makesEqual 6 = .ok (.iload_n 1, 1) := by decide +kernel
theorem dX9_makesEqual_7 : decode cX9_makesEqual 7 = .ok (.invokevirtual 217, 3) := by decide +kernel
theorem dX9_makesEqual_10 : decode cX9_makesEqual 10 = .ok (.aload_n 0, 1) := by decide +kernel
theorem dX9_makesEqual_11 : decode cX9_makesEqual 11 = .ok (.iload_n 2, 1) := by decide +kernel
theorem dX9_makesEqual_12 : decode cX9_makesEqual 12 = .ok (.invokevirtual 217, 3) := by decide +kernel
theorem dX9_makesEqual_15 : decode cX9_makesEqual 15 = .ok (.if_icmp .ne 7, 3) := by decide +kernel
theorem dX9_makesEqual_18 : decode cX9_makesEqual 18 = .ok (.iconst 1, 1) := by decide +kernel
theorem dX9_makesEqual_19 : decode cX9_makesEqual 19 = .ok (.goto 4, 3) := by decide +kernel
theorem dX9_makesEqual_22 : decode cX9_makesEqual 22 = .ok (.iconst 0, 1) := by decide +kernel
theorem dX9_makesEqual_23 : decode cX9_makesEqual 23 = .ok (.ireturn, 1) := by decide +kernel
theorem dX9_normalize_0 : decode cX9_normalize 0 = .ok (.aload_n 0, 1) := by decide +kernel
theorem dX9_normalize_1 : decode cX9_normalize 1 = .ok (.getfield 54, 3) := by decide +kernel
theorem dX9_normalize_4 : decode cX9_normalize 4 = .ok (.invokevirtual 133, 3) := by decide +kernel
theorem dX9_normalize_7 : decode cX9_normalize 7 = .ok (.aload_n 0, 1) := by decide +kernel
theorem dX9_normalize_8 : decode cX9_normalize 8 = .ok (.getfield 54, 3) := by decide +kernel
theorem dX9_normalize_11 : decode cX9_normalize 11 = .ok (.iload_n 1, 1) := by decide +kernel
theorem dX9_normalize_12 : decode cX9_normalize 12 = .ok (.invokevirtual 138, 3) := by decide +kernel
theorem dX9_normalize_15 : decode cX9_normalize 15 = .ok (.iconst 0, 1) := by decide +kernel
theorem dX9_normalize_16 : decode cX9_normalize 16 = .ok (.istore_n 2, 1) := by decide +kernel
theorem dX9_normalize_17 : decode cX9_normalize 17 = .ok (.iload_n 2, 1) := by decide +kernel
theorem dX9_normalize_18 : decode cX9_normalize 18 = .ok (.aload_n 0, 1) := by decide +kernel
theorem dX9_normalize_19 : decode cX9_normalize 19 = .ok (.getfield 54, 3) := by decide +kernel
theorem dX9_normalize_22 : decode cX9_normalize 22 = .ok (.invokevirtual 193, 3) := by decide +kernel
theorem dX9_normalize_25 : decode cX9_normalize 25 = .ok (.if_icmp .ge 77, 3) := by decide +kernel
theorem dX9_normalize_28 : decode cX9_normalize 28 = .ok (.aload_n 0, 1) := by decide +kernel
theorem dX9_normalize_29 : decode cX9_normalize 29 = .ok (.getfield 54, 3) := by decide +kernel
theorem dX9_normalize_32 : decode cX9_normalize 32 = .ok (.iload_n 2, 1) := by decide +kernel
theorem dX9_normalize_33 : decode cX9_normalize 33 = .ok (.invokevirtual 196, 3) := by decide +kernel
theorem dX9_normalize_36 : decode cX9_normalize 36 = .ok (.istore_n 3, 1) := by decide +kernel
theorem dX9_normalize_37 : decode cX9_normalize 37 = .ok (.aload_n 0, 1) := by decide +kernel
theorem dX9_normalize_38 : decode cX9_normalize 38 = .ok (.iload_n 3, 1) := by decide +kernel
theorem dX9_normalize_39 : decode cX9_normalize 39 = .ok (.invokevirtual 199, 3) := by decide +kernel
theorem dX9_normalize_42 : decode cX9_normalize 42 = .ok (.istore 4, 2) := by decide +kernel
theorem dX9_normalize_44 : decode cX9_normalize 44 = .ok (.aload_n 0, 1) := by decide +kernel
theorem dX9_normalize_45 : decode cX9_normalize 45 = .ok (.getfield 54, 3) := by decide +kernel
theorem dX9_normalize_48 : decode cX9_normalize 48 = .ok (.iload_n 2, 1) := by decide +kernel
theorem dX9_normalize_49 : decode cX9_normalize 49 = .ok (.iload 4, 2) := by decide +kernel
theorem dX9_normalize_51 : decode cX9_normalize 51 = .ok (.iconst (-1), 1) := by decide +kernel
theorem dX9_normalize_52 : decode cX9_normalize 52 = .ok (.if_icmp .ne 7, 3) := by decide +kernel
theorem dX9_normalize_55 : decode cX9_normalize 55 = .ok (.iload_n 3, 1) := by decide +kernel
theorem dX9_normalize_56 : decode cX9_normalize 56 = .ok (.goto 9, 3) := by decide +kernel
theorem dX9_normalize_59 : decode cX9_normalize 59 = .ok (.aload_n 0, 1) := by decide +kernel
theorem dX9_normalize_60 : decode cX9_normalize 60 = .ok (.iload 4, 2) := by decide +kernel
theorem dX9_normalize_62 : decode cX9_normalize 62 = .ok (.invokevirtual 202, 3) := by decide +kernel
theorem dX9_normalize_65 : decode cX9_normalize 65 = .ok (.invokevirtual 205, 3) := by decide +kernel
theorem dX9_normalize_68 : decode cX9_normalize 68 = .ok (.aload_n 0, 1) := by decide +kernel
theorem dX9_normalize_69 : decode cX9_normalize 69 = .ok (.getfield 54, 3) := by decide +kernel
theorem dX9_normalize_72 : decode cX9_normalize 72 = .ok (.iload_n 2, 1) := by decide +kernel
theorem dX9_normalize_73 : decode cX9_normalize 73 = .ok (.aload_n 0, 1) := by decide +kernel
theorem dX9_normalize_74 : decode cX9_normalize 74 = .ok (.getfield 54, 3) := by decide +kernel
theorem dX9_normalize_77 : decode cX9_normalize 77 = .ok (.iload_n 2, 1) := by decide +kernel
theorem dX9_normalize_78 : decode cX9_normalize 78 = .ok (.invokevirtual 208, 3) := by decide +kernel
theorem dX9_normalize_81 : decode cX9_normalize 81 = .ok (.iload 4, 2) := by decide +kernel
theorem dX9_normalize_83 : decode cX9_normalize 83 = .ok (.iconst (-1), 1) := by decide +kernel
theorem dX9_normalize_84 : decode cX9_normalize 84 = .ok (.if_icmp .ne 7, 3) := by decide +kernel
theorem dX9_normalize_87 : decode cX9_normalize 87 = .ok (.iconst 0, 1) := by decide +kernel
theorem dX9_normalize_88 : decode cX9_normalize 88 = .ok (.goto 4, 3) := by decide +kernel
theorem dX9_normalize_91 : decode cX9_normalize 91 = .ok (.iconst 1, 1) := by decide +kernel
theorem dX9_normalize_92 : decode cX9_normalize 92 = .ok (.iadd, 1) := by decide +kernel
theorem dX9_normalize_93 : decode cX9_normalize 93 = .ok (.invokevirtual 211, 3) := by decide +kernel
theorem dX9_normalize_96 : decode cX9_normalize 96 = .ok (.iinc 2 1, 3) := by decide +kernel
theorem dX9_normalize_99 : decode cX9_normalize 99 = .ok (.goto (-82), 3) := by decide +kernel
theorem dX9_normalize_102 : decode cX9_normalize 102 = .ok (.aload_n 0, 1) := by decide +kernel
theorem dX9_normalize_103 : decode cX9_normalize 103 = .ok (.getfield 54, 3) := by decide +kernel
theorem dX9_normalize_106 : decode cX9_normalize 106 = .ok (.aload_n 0, 1) := by decide +kernel
theorem dX9_normalize_107 : decode cX9_normalize 107 = .ok (.getfield 54, 3) := by decide +kernel
theorem dX9_normalize_110 : decode cX9_normalize 110 = .ok (.invokevirtual 193, 3) := by decide +kernel
theorem dX9_normalize_113 : decode cX9_normalize 113 = .ok (.iconst 1, 1) := by decide +kernel
theorem dX9_normalize_114 : decode cX9_normalize 114 = .ok (.isub, 1) := by decide +kernel
theorem dX9_normalize_115 : decode cX9_normalize 115 = .ok (.invokevirtual 214, 3) := by decide +kernel
theorem dX9_normalize_118 : decode cX9_normalize 118 = .ok (.ireturn, 1) := by decide +kernel
theorem dX9_openLevel_0 : decode cX9_openLevel 0 = .ok (.aload_n 0, 1) := by decide +kernel
theorem dX9_openLevel_1 : decode cX9_openLevel 1 = .ok (.getfield 85, 3) := by decide +kernel
theorem dX9_openLevel_4 : decode cX9_openLevel 4 = .ok (.ifCond .lt 48, 3) := by decide +kernel
theorem dX9_openLevel_7 : decode cX9_openLevel 7 = .ok (.aload_n 0, 1) := by decide +kernel
theorem dX9_openLevel_8 : decode cX9_openLevel 8 = .ok (.getfield 85, 3) := by decide +kernel
theorem dX9_openLevel_11 : decode cX9_openLevel 11 = .ok (.bipush 8, 2) := by decide +kernel
theorem dX9_openLevel_13 : decode cX9_openLevel 13 = .ok (.if_icmp .ge 39, 3) := by decide +kernel
theorem dX9_openLevel_16 : decode cX9_openLevel 16 = .ok (.aload_n 0, 1) := by decide +kernel
theorem dX9_openLevel_17 : decode cX9_openLevel 17 = .ok (.getfield 24, 3) := by decide +kernel
theorem dX9_openLevel_20 : decode cX9_openLevel 20 = .ok (.aload_n 0, 1) := by decide +kernel
theorem dX9_openLevel_21 : decode cX9_openLevel 21 = .ok (.getfield 85, 3) := by decide +kernel
theorem dX9_openLevel_24 : decode cX9_openLevel 24 = .ok (.aload_n 0, 1) := by decide +kernel
theorem dX9_openLevel_25 : decode cX9_openLevel 25 = .ok (.getfield 71, 3) := by decide +kernel
theorem dX9_openLevel_28 : decode cX9_openLevel 28 = .ok (.iastore, 1) := by decide +kernel
theorem dX9_openLevel_29 : decode cX9_openLevel 29 = .ok (.aload_n 0, 1) := by decide +kernel
theorem dX9_openLevel_30 : decode cX9_openLevel 30 = .ok (.getfield 27, 3) := by decide +kernel
theorem dX9_openLevel_33 : decode cX9_openLevel 33 = .ok (.aload_n 0, 1) := by decide +kernel
theorem dX9_openLevel_34 : decode cX9_openLevel 34 = .ok (.getfield 85, 3) := by decide +kernel
theorem dX9_openLevel_37 : decode cX9_openLevel 37 = .ok (.aload_n 0, 1) := by decide +kernel
theorem dX9_openLevel_38 : decode cX9_openLevel 38 = .ok (.getfield 75, 3) := by decide +kernel
theorem dX9_openLevel_41 : decode cX9_openLevel 41 = .ok (.iastore, 1) := by decide +kernel
theorem dX9_openLevel_42 : decode cX9_openLevel 42 = .ok (.aload_n 0, 1) := by decide +kernel
theorem dX9_openLevel_43 : decode cX9_openLevel 43 = .ok (.dup, 1) := by decide +kernel
theorem dX9_openLevel_44 : decode cX9_openLevel 44 = .ok (.getfield 85, 3) := by decide +kernel
theorem dX9_openLevel_47 : decode cX9_openLevel 47 = .ok (.iconst 1, 1) := by decide +kernel
theorem dX9_openLevel_48 : decode cX9_openLevel 48 = .ok (.iadd, 1) := by decide +kernel
theorem dX9_openLevel_49 : decode cX9_openLevel 49 = .ok (.putfield 85, 3) := by decide +kernel
theorem dX9_openLevel_52 : decode cX9_openLevel 52 = .ok (.return_, 1) := by decide +kernel
theorem dX9_rightSide_0 : decode cX9_rightSide 0 = .ok (.iload_n 1, 1) := by decide +kernel
theorem dX9_rightSide_1 : decode cX9_rightSide 1 = .ok (.ifCond .lt 18, 3) := by decide +kernel
theorem dX9_rightSide_4 : decode cX9_rightSide 4 = .ok (.iload_n 1, 1) := by decide +kernel
theorem dX9_rightSide_5 : decode cX9_rightSide 5 = .ok (.bipush 30, 2) := by decide +kernel
theorem dX9_rightSide_7 : decode cX9_rightSide 7 = .ok (.if_icmp .ge 12, 3) := by decide +kernel
theorem dX9_rightSide_10 : decode cX9_rightSide 10 = .ok (.aload_n 0, 1) := by decide +kernel
theorem dX9_rightSide_11 : decode cX9_rightSide 11 = .ok (.getfield 33, 3) := by decide +kernel
theorem dX9_rightSide_14 : decode cX9_rightSide 14 = .ok (.iload_n 1, 1) := by decide +kernel
theorem dX9_rightSide_15 : decode cX9_rightSide 15 = .ok (.iaload, 1) := by decide +kernel
theorem dX9_rightSide_16 : decode cX9_rightSide 16 = .ok (.goto 4, 3) := by decide +kernel
theorem dX9_rightSide_19 : decode cX9_rightSide 19 = .ok (.iconst (-1), 1) := by decide +kernel
theorem dX9_rightSide_20 : decode cX9_rightSide 20 = .ok (.ireturn, 1) := by decide +kernel
theorem dX9_ruleFor_0 : decode cX9_ruleFor 0 = .ok (.aload_n 0, 1) := by decide +kernel
theorem dX9_ruleFor_1 : decode cX9_ruleFor 1 = .ok (.getfield 42, 3) := by decide +kernel
theorem dX9_ruleFor_4 : decode cX9_ruleFor 4 = .ok (.iload_n 1, 1) := by decide +kernel
theorem dX9_ruleFor_5 : decode cX9_ruleFor 5 = .ok (.invokevirtual 190, 3) := by decide +kernel
theorem dX9_ruleFor_8 : decode cX9_ruleFor 8 = .ok (.istore_n 2, 1) := by decide +kernel
theorem dX9_ruleFor_9 : decode cX9_ruleFor 9 = .ok (.iload_n 2, 1) := by decide +kernel
theorem dX9_ruleFor_10 : decode cX9_ruleFor 10 = .ok (.ifCond .lt 31, 3) := by decide +kernel
theorem dX9_ruleFor_13 : decode cX9_ruleFor 13 = .ok (.iload_n 2, 1) := by decide +kernel
theorem dX9_ruleFor_14 : decode cX9_ruleFor 14 = .ok (.aload_n 0, 1) := by decide +kernel
theorem dX9_ruleFor_15 : decode cX9_ruleFor 15 = .ok (.getfield 168, 3) := by decide +kernel
theorem dX9_ruleFor_18 : decode cX9_ruleFor 18 = .ok (.if_icmp .ge 23, 3) := by decide +kernel
theorem dX9_ruleFor_21 : decode cX9_ruleFor 21 = .ok (.iload_n 2, 1) := by decide +kernel
theorem dX9_ruleFor_22 : decode cX9_ruleFor 22 = .ok (.bipush 30, 2) := by decide +kernel
theorem dX9_ruleFor_24 : decode cX9_ruleFor 24 = .ok (.if_icmp .ge 17, 3) := by decide +kernel
theorem dX9_ruleFor_27 : decode cX9_ruleFor 27 = .ok (.aload_n 0, 1) := by decide +kernel
theorem dX9_ruleFor_28 : decode cX9_ruleFor 28 = .ok (.getfield 30, 3) := by decide +kernel
theorem dX9_ruleFor_31 : decode cX9_ruleFor 31 = .ok (.iload_n 2, 1) := by decide +kernel
theorem dX9_ruleFor_32 : decode cX9_ruleFor 32 = .ok (.iaload, 1) := by decide +kernel
theorem dX9_ruleFor_33 : decode cX9_ruleFor 33 = .ok (.iload_n 1, 1) := by decide +kernel
theorem dX9_ruleFor_34 : decode cX9_ruleFor 34 = .ok (.if_icmp .ne 7, 3) := by decide +kernel
theorem dX9_ruleFor_37 : decode cX9_ruleFor 37 = .ok (.iload_n 2, 1) := by decide +kernel
theorem dX9_ruleFor_38 : decode cX9_ruleFor 38 = .ok (.goto 4, 3) := by decide +kernel
theorem dX9_ruleFor_41 : decode cX9_ruleFor 41 = .ok (.iconst (-1), 1) := by decide +kernel
theorem dX9_ruleFor_42 : decode cX9_ruleFor 42 = .ok (.ireturn, 1) := by decide +kernel
theorem dX9_takeRules_0 : decode cX9_takeRules 0 = .ok (.aload_n 0, 1) := by decide +kernel
theorem dX9_takeRules_1 : decode cX9_takeRules 1 = .ok (.getfield 58, 3) := by decide +kernel
theorem dX9_takeRules_4 : decode cX9_takeRules 4 = .ok (.invokevirtual 156, 3) := by decide +kernel
theorem dX9_takeRules_7 : decode cX9_takeRules 7 = .ok (.iconst 0, 1) := by decide +kernel
theorem dX9_takeRules_8 : decode cX9_takeRules 8 = .ok (.istore_n 1, 1) := by decide +kernel
theorem dX9_takeRules_9 : decode cX9_takeRules 9 = .ok (.iload_n 1, 1) := by decide +kernel
theorem dX9_takeRules_10 : decode cX9_takeRules 10 = .ok (.aload_n 0, 1) := by decide +kernel
theorem dX9_takeRules_11 : decode cX9_takeRules 11 = .ok (.getfield 58, 3) := by decide +kernel
theorem dX9_takeRules_14 : decode cX9_takeRules 14 = .ok (.invokevirtual 113, 3) := by decide +kernel
theorem dX9_takeRules_17 : decode cX9_takeRules 17 = .ok (.if_icmp .ge 60, 3) := by decide +kernel
theorem dX9_takeRules_20 : decode cX9_takeRules 20 = .ok (.aload_n 0, 1) := by decide +kernel
theorem dX9_takeRules_21 : decode cX9_takeRules 21 = .ok (.getfield 58, 3) := by decide +kernel
theorem dX9_takeRules_24 : decode cX9_takeRules 24 = .ok (.iload_n 1, 1) := by decide +kernel
theorem dX9_takeRules_25 : decode cX9_takeRules 25 = .ok (.invokevirtual 116, 3) := by decide +kernel
theorem dX9_takeRules_28 : decode cX9_takeRules 28 = .ok (.istore_n 2, 1) := by decide +kernel
theorem dX9_takeRules_29 : decode cX9_takeRules 29 = .ok (.aload_n 0, 1) := by decide +kernel
theorem dX9_takeRules_30 : decode cX9_takeRules 30 = .ok (.getfield 58, 3) := by decide +kernel
theorem dX9_takeRules_33 : decode cX9_takeRules 33 = .ok (.aload_n 0, 1) := by decide +kernel
theorem dX9_takeRules_34 : decode cX9_takeRules 34 = .ok (.getfield 58, 3) := by decide +kernel
theorem dX9_takeRules_37 : decode cX9_takeRules 37 = .ok (.iload_n 2, 1) := by decide +kernel
theorem dX9_takeRules_38 : decode cX9_takeRules 38 = .ok (.invokevirtual 120, 3) := by decide +kernel
theorem dX9_takeRules_41 : decode cX9_takeRules 41 = .ok (.invokevirtual 123, 3) := by decide +kernel
theorem dX9_takeRules_44 : decode cX9_takeRules 44 = .ok (.iload_n 2, 1) := by decide +kernel
theorem dX9_takeRules_45 : decode cX9_takeRules 45 = .ok (.if_icmp .eq 26, 3) := by decide +kernel
theorem dX9_takeRules_48 : decode cX9_takeRules 48 = .ok (.aload_n 0, 1) := by decide +kernel
theorem dX9_takeRules_49 : decode cX9_takeRules 49 = .ok (.getfield 58, 3) := by decide +kernel
theorem dX9_takeRules_52 : decode cX9_takeRules 52 = .ok (.aload_n 0, 1) := by decide +kernel
theorem dX9_takeRules_53 : decode cX9_takeRules 53 = .ok (.getfield 58, 3) := by decide +kernel
theorem dX9_takeRules_56 : decode cX9_takeRules 56 = .ok (.iload_n 2, 1) := by decide +kernel
theorem dX9_takeRules_57 : decode cX9_takeRules 57 = .ok (.invokevirtual 120, 3) := by decide +kernel
theorem dX9_takeRules_60 : decode cX9_takeRules 60 = .ok (.invokevirtual 159, 3) := by decide +kernel
theorem dX9_takeRules_63 : decode cX9_takeRules 63 = .ok (.aload_n 0, 1) := by decide +kernel
theorem dX9_takeRules_64 : decode cX9_takeRules 64 = .ok (.getfield 58, 3) := by decide +kernel
theorem dX9_takeRules_67 : decode cX9_takeRules 67 = .ok (.iload_n 2, 1) := by decide +kernel
theorem dX9_takeRules_68 : decode cX9_takeRules 68 = .ok (.invokevirtual 162, 3) := by decide +kernel
theorem dX9_takeRules_71 : decode cX9_takeRules 71 = .ok (.iinc 1 1, 3) := by decide +kernel
theorem dX9_takeRules_74 : decode cX9_takeRules 74 = .ok (.goto (-65), 3) := by decide +kernel
theorem dX9_takeRules_77 : decode cX9_takeRules 77 = .ok (.aload_n 0, 1) := by decide +kernel
theorem dX9_takeRules_78 : decode cX9_takeRules 78 = .ok (.getfield 58, 3) := by decide +kernel
theorem dX9_takeRules_81 : decode cX9_takeRules 81 = .ok (.invokevirtual 165, 3) := by decide +kernel
theorem dX9_takeRules_84 : decode cX9_takeRules 84 = .ok (.aload_n 0, 1) := by decide +kernel
theorem dX9_takeRules_85 : decode cX9_takeRules 85 = .ok (.iconst 0, 1) := by decide +kernel
theorem dX9_takeRules_86 : decode cX9_takeRules 86 = .ok (.putfield 168, 3) := by decide +kernel
theorem dX9_takeRules_89 : decode cX9_takeRules 89 = .ok (.iconst 0, 1) := by decide +kernel
theorem dX9_takeRules_90 : decode cX9_takeRules 90 = .ok (.istore_n 1, 1) := by decide +kernel
theorem dX9_takeRules_91 : decode cX9_takeRules 91 = .ok (.iload_n 1, 1) := by decide +kernel
theorem dX9_takeRules_92 : decode cX9_takeRules 92 = .ok (.aload_n 0, 1) := by decide +kernel
theorem dX9_takeRules_93 : decode cX9_takeRules 93 = .ok (.getfield 58, 3) := by decide +kernel
theorem dX9_takeRules_96 : decode cX9_takeRules 96 = .ok (.invokevirtual 113, 3) := by decide +kernel
theorem dX9_takeRules_99 : decode cX9_takeRules 99 = .ok (.if_icmp .ge 97, 3) := by decide +kernel
theorem dX9_takeRules_102 : decode cX9_takeRules 102 = .ok (.aload_n 0, 1) := by decide +kernel
theorem dX9_takeRules_103 : decode cX9_takeRules 103 = .ok (.getfield 58, 3) := by decide +kernel
theorem dX9_takeRules_106 : decode cX9_takeRules 106 = .ok (.iload_n 1, 1) := by decide +kernel
theorem dX9_takeRules_107 : decode cX9_takeRules 107 = .ok (.invokevirtual 116, 3) := by decide +kernel
theorem dX9_takeRules_110 : decode cX9_takeRules 110 = .ok (.istore_n 2, 1) := by decide +kernel
theorem dX9_takeRules_111 : decode cX9_takeRules 111 = .ok (.aload_n 0, 1) := by decide +kernel
theorem dX9_takeRules_112 : decode cX9_takeRules 112 = .ok (.getfield 58, 3) := by decide +kernel
theorem dX9_takeRules_115 : decode cX9_takeRules 115 = .ok (.iload_n 2, 1) := by decide +kernel
theorem dX9_takeRules_116 : decode cX9_takeRules 116 = .ok (.invokevirtual 120, 3) := by decide +kernel
theorem dX9_takeRules_119 : decode cX9_takeRules 119 = .ok (.istore_n 3, 1) := by decide +kernel
theorem dX9_takeRules_120 : decode cX9_takeRules 120 = .ok (.aload_n 0, 1) := by decide +kernel
theorem dX9_takeRules_121 : decode cX9_takeRules 121 = .ok (.getfield 58, 3) := by decide +kernel
theorem dX9_takeRules_124 : decode cX9_takeRules 124 = .ok (.iload_n 2, 1) := by decide +kernel
theorem dX9_takeRules_125 : decode cX9_takeRules 125 = .ok (.invokevirtual 171, 3) := by decide +kernel
theorem dX9_takeRules_128 : decode cX9_takeRules 128 = .ok (.ifCond .eq 26, 3) := by decide +kernel
theorem dX9_takeRules_131 : decode cX9_takeRules 131 = .ok (.aload_n 0, 1) := by decide +kernel
theorem dX9_takeRules_132 : decode cX9_takeRules 132 = .ok (.getfield 58, 3) := by decide +kernel
theorem dX9_takeRules_135 : decode cX9_takeRules 135 = .ok (.iload_n 3, 1) := by decide +kernel
theorem dX9_takeRules_136 : decode cX9_takeRules 136 = .ok (.aload_n 0, 1) := by decide +kernel
theorem dX9_takeRules_137 : decode cX9_takeRules 137 = .ok (.getfield 58, 3) := by decide +kernel
theorem dX9_takeRules_140 : decode cX9_takeRules 140 = .ok (.iload_n 2, 1) := by decide +kernel
theorem dX9_takeRules_141 : decode cX9_takeRules 141 = .ok (.aload_n 0, 1) := by decide +kernel
theorem dX9_takeRules_142 : decode cX9_takeRules 142 = .ok (.getfield 50, 3) := by decide +kernel
theorem dX9_takeRules_145 : decode cX9_takeRules 145 = .ok (.invokevirtual 174, 3) := by decide +kernel
theorem dX9_takeRules_148 : decode cX9_takeRules 148 = .ok (.invokevirtual 178, 3) := by decide +kernel
theorem dX9_takeRules_151 : decode cX9_takeRules 151 = .ok (.goto 39, 3) := by decide +kernel
theorem dX9_takeRules_154 : decode cX9_takeRules 154 = .ok (.aload_n 0, 1) := by decide +kernel
theorem dX9_takeRules_155 : decode cX9_takeRules 155 = .ok (.getfield 58, 3) := by decide +kernel
theorem dX9_takeRules_158 : decode cX9_takeRules 158 = .ok (.iload_n 3, 1) := by decide +kernel
theorem dX9_takeRules_159 : decode cX9_takeRules 159 = .ok (.invokevirtual 123, 3) := by decide +kernel
theorem dX9_takeRules_162 : decode cX9_takeRules 162 = .ok (.iload_n 2, 1) := by decide +kernel
theorem dX9_takeRules_163 : decode cX9_takeRules 163 = .ok (.if_icmp .eq 27, 3) := by decide +kernel
theorem dX9_takeRules_166 : decode cX9_takeRules 166 = .ok (.aload_n 0, 1) := by decide +kernel
theorem dX9_takeRules_167 : decode cX9_takeRules 167 = .ok (.aload_n 0, 1) := by decide +kernel
theorem dX9_takeRules_168 : decode cX9_takeRules 168 = .ok (.getfield 58, 3) := by decide +kernel
theorem dX9_takeRules_171 : decode cX9_takeRules 171 = .ok (.iload_n 2, 1) := by decide +kernel
theorem dX9_takeRules_172 : decode cX9_takeRules 172 = .ok (.aload_n 0, 1) := by decide +kernel
theorem dX9_takeRules_173 : decode cX9_takeRules 173 = .ok (.getfield 50, 3) := by decide +kernel
theorem dX9_takeRules_176 : decode cX9_takeRules 176 = .ok (.invokevirtual 174, 3) := by decide +kernel
theorem dX9_takeRules_179 : decode cX9_takeRules 179 = .ok (.aload_n 0, 1) := by decide +kernel
theorem dX9_takeRules_180 : decode cX9_takeRules 180 = .ok (.getfield 58, 3) := by decide +kernel
theorem dX9_takeRules_183 : decode cX9_takeRules 183 = .ok (.iload_n 3, 1) := by decide +kernel
theorem dX9_takeRules_184 : decode cX9_takeRules 184 = .ok (.invokevirtual 181, 3) := by decide +kernel
theorem dX9_takeRules_187 : decode cX9_takeRules 187 = .ok (.invokevirtual 184, 3) := by decide +kernel
theorem dX9_takeRules_190 : decode cX9_takeRules 190 = .ok (.iinc 1 1, 3) := by decide +kernel
theorem dX9_takeRules_193 : decode cX9_takeRules 193 = .ok (.goto (-102), 3) := by decide +kernel
theorem dX9_takeRules_196 : decode cX9_takeRules 196 = .ok (.return_, 1) := by decide +kernel
end
section
section VWd
abbrev g_nm : List String := ["java/lang/RuntimeException", "java/lang/Exception"]
abbrev g_ISE : String := "java/lang/IllegalStateException"
abbrev g_ARE : String := "java/lang/ArithmeticException"
def gW_0 : List Cond := [Cond.selects RX11 yX11_isTerm yX11_isTerm, Cond.selects RX10 yX10_firstUnlisted yX10_firstUnlisted, Cond.selects RX2 yX2_linkUsers yX2_linkUsers, Cond.selects RX2 yX2_enter yX2_enter, Cond.selects RX2 yX2_isBefore yX2_isBefore, Cond.selects RX2 yX2_takeLeast yX2_takeLeast, Cond.selects RX2 yX2_isReadyAfter yX2_isReadyAfter, Cond.selects RX11 yX11_tidy yX11_tidy, Cond.selects RX8 yX8_bucketOf yX8_bucketOf, Cond.selects RX8 yX8_keep yX8_keep, Cond.selects RX8 yX8_extentOver yX8_extentOver, Cond.selects RX9 yX9_ruleFor yX9_ruleFor, Cond.selects RX5 yX5_isLetter yX5_isLetter, Cond.selects RX5 yX5_isNamePart yX5_isNamePart, Cond.selects RX7 yX7_isNameAt yX7_isNameAt, Cond.selects RX11 yX11_giveNumber yX11_giveNumber, Cond.selects RX9 yX9_gather yX9_gather, Cond.selects RX1 yX1_joinTwins yX1_joinTwins, Cond.selects RX1 yX1_bucketOf yX1_bucketOf, Cond.selects RX1 yX1_areTwins yX1_areTwins, Cond.selects RX9 yX9_isTooLargeSide yX9_isTooLargeSide, Cond.selects RX9 yX9_takeRules yX9_takeRules, Cond.selects RX9 yX9_addRule yX9_addRule, Cond.initialized RL, Cond.initialized RX11]
def gW_1 : List Cond := [Cond.initialized RX7, Cond.initialized RX8, Cond.initialized RX6, Cond.initialized "java/lang/Math", Cond.initialized RX10, Cond.initialized RX2, Cond.initialized RX9, Cond.initialized RX1, Cond.initialized RX5, Cond.initialized g_ISE, Cond.initialized g_ARE, Cond.fieldLink RX7 9 "GroundProver$Symbols" "names" "[B", Cond.fieldLink RX7 15 "GroundProver$Symbols" "lengths" "[I", Cond.fieldLink RX7 19 "GroundProver$Symbols" "arities" "[I", Cond.fieldLink RX7 22 "GroundProver$Symbols" "weights" "[I", Cond.fieldLink RX7 25 "GroundProver$Symbols" "ranks" "[I", Cond.fieldLink RX7 28 "GroundProver$Symbols" "ordinals" "[I", Cond.fieldLink RX7 31 "GroundProver$Symbols" "directions" "[Z", Cond.fieldLink RX7 35 "GroundProver$Symbols" "count" "I", Cond.fieldLink RX7 58 "GroundProver$Symbols" "isByWeight" "Z", Cond.fieldLink RX7 62 "GroundProver$Symbols" "isOrderFixed" "Z", Cond.arrayClass .byte, Cond.arrayClass .int, Cond.arrayClass .boolean, Cond.constant RX8 11 524288]
def gW_2 : List Cond := [Cond.static Lib.Math.max.name, Cond.code Lib.Math.max.name Lib.Math.max.code 2 (some .int), Cond.fieldLink RX6 17 "GroundProver$Row" "blocks" "[[I", Cond.fieldLink RX8 46 "GroundProver$TermStore" "symbols" "LGroundProver$Symbols;", Cond.fieldLink RX8 15 "GroundProver$TermStore" "signs" "LGroundProver$Row;", Cond.fieldLink RX8 22 "GroundProver$TermStore" "parts" "LGroundProver$Row;", Cond.fieldLink RX8 25 "GroundProver$TermStore" "extents" "LGroundProver$Row;", Cond.fieldLink RX8 28 "GroundProver$TermStore" "numbers" "LGroundProver$Row;", Cond.fieldLink RX8 31 "GroundProver$TermStore" "links" "LGroundProver$Row;", Cond.fieldLink RX8 35 "GroundProver$TermStore" "buckets" "LGroundProver$Row;", Cond.fieldLink RX8 76 "GroundProver$TermStore" "top" "I", Cond.fieldLink RX8 88 "GroundProver$TermStore" "used" "I", Cond.fieldLink RX8 85 "GroundProver$TermStore" "freeLink" "I", Cond.fieldLink RX8 42 "GroundProver$TermStore" "crowd" "I", Cond.fieldLink RX10 35 "GroundProver$Walk" "store" "LGroundProver$TermStore;", Cond.fieldLink RX10 15 "GroundProver$Walk" "slots" "LGroundProver$Row;", Cond.fieldLink RX10 22 "GroundProver$Walk" "nodes" "LGroundProver$Row;", Cond.fieldLink RX10 25 "GroundProver$Walk" "values" "LGroundProver$Row;", Cond.fieldLink RX10 28 "GroundProver$Walk" "tallies" "LGroundProver$Row;", Cond.fieldLink RX10 31 "GroundProver$Walk" "open" "[I", Cond.fieldLink RX10 39 "GroundProver$Walk" "count" "I", Cond.fieldLink RX2 61 "GroundProver$Grammar" "symbols" "LGroundProver$Symbols;", Cond.fieldLink RX2 15 "GroundProver$Grammar" "owners" "LGroundProver$Row;", Cond.fieldLink RX2 21 "GroundProver$Grammar" "signs" "LGroundProver$Row;", Cond.fieldLink RX2 25 "GroundProver$Grammar" "parts" "LGroundProver$Row;"]
def gW_3 : List Cond := [Cond.fieldLink RX2 28 "GroundProver$Grammar" "waits" "LGroundProver$Row;", Cond.fieldLink RX2 31 "GroundProver$Grammar" "users" "LGroundProver$Row;", Cond.fieldLink RX2 34 "GroundProver$Grammar" "nextUsers" "LGroundProver$Row;", Cond.fieldLink RX2 37 "GroundProver$Grammar" "weights" "LGroundProver$Row;", Cond.fieldLink RX2 40 "GroundProver$Grammar" "sizes" "LGroundProver$Row;", Cond.fieldLink RX2 43 "GroundProver$Grammar" "depths" "LGroundProver$Row;", Cond.fieldLink RX2 46 "GroundProver$Grammar" "heap" "LGroundProver$Row;", Cond.fieldLink RX2 49 "GroundProver$Grammar" "chosen" "LGroundProver$Row;", Cond.fieldLink RX2 52 "GroundProver$Grammar" "positions" "LGroundProver$Row;", Cond.fieldLink RX2 55 "GroundProver$Grammar" "sequence" "LGroundProver$Row;", Cond.fieldLink RX2 58 "GroundProver$Grammar" "nodes" "LGroundProver$Row;", Cond.fieldLink RX2 65 "GroundProver$Grammar" "classCount" "I", Cond.fieldLink RX2 69 "GroundProver$Grammar" "count" "I", Cond.fieldLink RX2 119 "GroundProver$Grammar" "heapCount" "I", Cond.fieldLink RX2 113 "GroundProver$Grammar" "sequenceCount" "I", Cond.fieldLink RX2 116 "GroundProver$Grammar" "mode" "I", Cond.fieldLink RX1 43 "GroundProver$Closure" "store" "LGroundProver$TermStore;", Cond.fieldLink RX1 47 "GroundProver$Closure" "walk" "LGroundProver$Walk;", Cond.fieldLink RX1 15 "GroundProver$Closure" "leaders" "LGroundProver$Row;", Cond.fieldLink RX1 21 "GroundProver$Closure" "nextMembers" "LGroundProver$Row;", Cond.fieldLink RX1 24 "GroundProver$Closure" "memberCounts" "LGroundProver$Row;", Cond.fieldLink RX1 27 "GroundProver$Closure" "twins" "LGroundProver$Row;", Cond.fieldLink RX1 30 "GroundProver$Closure" "signs" "LGroundProver$Row;", Cond.fieldLink RX1 34 "GroundProver$Closure" "parts" "LGroundProver$Row;", Cond.fieldLink RX1 37 "GroundProver$Closure" "buckets" "LGroundProver$Row;"]
def gW_4 : List Cond := [Cond.fieldLink RX1 40 "GroundProver$Closure" "links" "LGroundProver$Row;", Cond.fieldLink RX1 51 "GroundProver$Closure" "bucketCount" "I", Cond.fieldLink RX9 46 "GroundProver$Theory" "symbols" "LGroundProver$Symbols;", Cond.fieldLink RX9 50 "GroundProver$Theory" "store" "LGroundProver$TermStore;", Cond.fieldLink RX9 54 "GroundProver$Theory" "walk" "LGroundProver$Walk;", Cond.fieldLink RX9 58 "GroundProver$Theory" "grammar" "LGroundProver$Grammar;", Cond.fieldLink RX9 67 "GroundProver$Theory" "closure" "LGroundProver$Closure;", Cond.fieldLink RX9 9 "GroundProver$Theory" "equationLefts" "[I", Cond.fieldLink RX9 15 "GroundProver$Theory" "equationRights" "[I", Cond.fieldLink RX9 71 "GroundProver$Theory" "equationCount" "I", Cond.fieldLink RX11 298 "GroundProver$Theory" "equationCount" "I", Cond.fieldLink RX9 75 "GroundProver$Theory" "separationCount" "I", Cond.fieldLink RX11 309 "GroundProver$Theory" "separationCount" "I", Cond.fieldLink RX9 24 "GroundProver$Theory" "levelEquations" "[I", Cond.fieldLink RX9 27 "GroundProver$Theory" "levelSeparations" "[I", Cond.fieldLink RX9 85 "GroundProver$Theory" "levelCount" "I", Cond.fieldLink RX11 354 "GroundProver$Theory" "levelCount" "I", Cond.fieldLink RX9 30 "GroundProver$Theory" "ruleLefts" "[I", Cond.fieldLink RX9 33 "GroundProver$Theory" "ruleRights" "[I", Cond.fieldLink RX9 42 "GroundProver$Theory" "ruleHints" "LGroundProver$Row;", Cond.fieldLink RX9 168 "GroundProver$Theory" "ruleCount" "I", Cond.fieldLink RX5 42 "GroundProver$Reader" "symbols" "LGroundProver$Symbols;", Cond.fieldLink RX5 9 "GroundProver$Reader" "input" "[B", Cond.fieldLink RX5 50 "GroundProver$Reader" "length" "I", Cond.arrayClass .long]
def gW_5 : List Cond := [Cond.fieldLink RX11 10 "GroundProver" "symbols" "LGroundProver$Symbols;", Cond.fieldLink RX11 21 "GroundProver" "store" "LGroundProver$TermStore;", Cond.fieldLink RX11 30 "GroundProver" "walk" "LGroundProver$Walk;", Cond.fieldLink RX11 37 "GroundProver" "grammar" "LGroundProver$Grammar;", Cond.fieldLink RX11 46 "GroundProver" "theory" "LGroundProver$Theory;", Cond.fieldLink RX11 55 "GroundProver" "reader" "LGroundProver$Reader;", Cond.fieldLink RX11 90 "GroundProver" "numbered" "LGroundProver$Row;", Cond.fieldLink RX11 231 "GroundProver" "numberedCount" "I", Cond.methodLink RX11 194 yX11_isTerm, Cond.instanceMethod yX11_isTerm, Cond.code yX11_isTerm cX11_isTerm 2 (some .boolean), Cond.methodLink RX11 253 yX10_clear, Cond.instanceMethod yX10_clear, Cond.selects RX10 yX10_clear yX10_clear, Cond.code yX10_clear cX10_clear 1 none, Cond.methodLink RX11 202 yX6_get, Cond.instanceMethod yX6_get, Cond.selects RX6 yX6_get yX6_get, Cond.code yX6_get cX6_get 3 (some .int), Cond.methodLink RX11 256 yX10_add, Cond.instanceMethod yX10_add, Cond.selects RX10 yX10_add yX10_add, Cond.code yX10_add cX10_add 5 none, Cond.methodLink RX10 57 yX10_indexOf, Cond.instanceMethod yX10_indexOf]
def gW_6 : List Cond := [Cond.selects RX10 yX10_indexOf yX10_indexOf, Cond.code yX10_indexOf cX10_indexOf 3 (some .int), Cond.methodLink RX10 43 yX6_get, Cond.constant RX10 60 1048576, Cond.methodLink RX10 61 yX10_firstUnlisted, Cond.instanceMethod yX10_firstUnlisted, Cond.code yX10_firstUnlisted cX10_firstUnlisted 4 (some .int), Cond.methodLink RX10 67 yX8_arity, Cond.instanceMethod yX8_arity, Cond.selects RX8 yX8_arity yX8_arity, Cond.code yX8_arity cX8_arity 2 (some .int), Cond.methodLink RX8 50 yX6_get, Cond.methodLink RX8 54 yX7_arity, Cond.instanceMethod yX7_arity, Cond.selects RX7 yX7_arity yX7_arity, Cond.code yX7_arity cX7_arity 2 (some .int), Cond.methodLink RX10 51 yX8_part, Cond.instanceMethod yX8_part, Cond.selects RX8 yX8_part yX8_part, Cond.code yX8_part cX8_part 3 (some .int), Cond.methodLink RX10 64 yX10_append, Cond.instanceMethod yX10_append, Cond.selects RX10 yX10_append yX10_append, Cond.code yX10_append cX10_append 2 none, Cond.methodLink RX10 47 yX6_set]
def gW_7 : List Cond := [Cond.instanceMethod yX6_set, Cond.selects RX6 yX6_set yX6_set, Cond.code yX6_set cX6_set 4 none, Cond.methodLink RX11 258 yX2_takeTerms, Cond.instanceMethod yX2_takeTerms, Cond.selects RX2 yX2_takeTerms yX2_takeTerms, Cond.code yX2_takeTerms cX2_takeTerms 6 none, Cond.methodLink RX2 85 yX10_count, Cond.instanceMethod yX10_count, Cond.selects RX10 yX10_count yX10_count, Cond.code yX10_count cX10_count 1 (some .int), Cond.methodLink RX2 90 yX2_clear, Cond.instanceMethod yX2_clear, Cond.selects RX2 yX2_clear yX2_clear, Cond.code yX2_clear cX2_clear 2 none, Cond.methodLink RX2 93 yX10_node, Cond.instanceMethod yX10_node, Cond.selects RX10 yX10_node yX10_node, Cond.code yX10_node cX10_node 2 (some .int), Cond.methodLink RX2 96 yX8_symbol, Cond.instanceMethod yX8_symbol, Cond.selects RX8 yX8_symbol yX8_symbol, Cond.code yX8_symbol cX8_symbol 2 (some .int), Cond.methodLink RX2 101 yX2_addProduction, Cond.instanceMethod yX2_addProduction]
def gW_8 : List Cond := [Cond.selects RX2 yX2_addProduction yX2_addProduction, Cond.code yX2_addProduction cX2_addProduction 4 (some .int), Cond.methodLink RX2 72 yX6_set, Cond.methodLink RX2 105 yX2_arity, Cond.instanceMethod yX2_arity, Cond.selects RX2 yX2_arity yX2_arity, Cond.code yX2_arity cX2_arity 2 (some .int), Cond.methodLink RX2 76 yX6_get, Cond.methodLink RX2 80 yX7_arity, Cond.methodLink RX2 106 yX10_partOf, Cond.instanceMethod yX10_partOf, Cond.selects RX10 yX10_partOf yX10_partOf, Cond.code yX10_partOf cX10_partOf 3 (some .int), Cond.methodLink RX2 109 yX2_setPart, Cond.instanceMethod yX2_setPart, Cond.selects RX2 yX2_setPart yX2_setPart, Cond.code yX2_setPart cX2_setPart 4 none, Cond.methodLink RX11 262 yX7_orderMode, Cond.instanceMethod yX7_orderMode, Cond.selects RX7 yX7_orderMode yX7_orderMode, Cond.code yX7_orderMode cX7_orderMode 1 (some .int), Cond.methodLink RX11 265 yX2_rank, Cond.instanceMethod yX2_rank, Cond.selects RX2 yX2_rank yX2_rank, Cond.code yX2_rank cX2_rank 7 none]
def gW_9 : List Cond := [Cond.methodLink RX2 122 yX2_linkUsers, Cond.instanceMethod yX2_linkUsers, Cond.code yX2_linkUsers cX2_linkUsers 5 none, Cond.methodLink RX2 125 yX2_enter, Cond.instanceMethod yX2_enter, Cond.code yX2_enter cX2_enter 8 none, Cond.methodLink RX2 135 yX7_weight, Cond.instanceMethod yX7_weight, Cond.selects RX7 yX7_weight yX7_weight, Cond.code yX7_weight cX7_weight 2 (some .int), Cond.methodLink RX2 138 Lib.Math.max.name, Cond.constant RX2 143 1048575, Cond.methodLink RX2 144 Lib.Math.min.name, Cond.static Lib.Math.min.name, Cond.code Lib.Math.min.name Lib.Math.min.code 2 (some .int), Cond.methodLink RX2 147 yX2_isBefore, Cond.instanceMethod yX2_isBefore, Cond.code yX2_isBefore cX2_isBefore 10 (some .boolean), Cond.methodLink RX2 151 yX7_rank, Cond.instanceMethod yX7_rank, Cond.selects RX7 yX7_rank yX7_rank, Cond.code yX7_rank cX7_rank 2 (some .int), Cond.methodLink RX2 154 yX7_isFromRight, Cond.instanceMethod yX7_isFromRight, Cond.selects RX7 yX7_isFromRight yX7_isFromRight]
def gW_10 : List Cond := [Cond.code yX7_isFromRight cX7_isFromRight 2 (some .boolean), Cond.methodLink RX2 128 yX2_takeLeast, Cond.instanceMethod yX2_takeLeast, Cond.code yX2_takeLeast cX2_takeLeast 6 (some .int), Cond.methodLink RX2 131 yX2_isReadyAfter, Cond.instanceMethod yX2_isReadyAfter, Cond.code yX2_isReadyAfter cX2_isReadyAfter 3 (some .boolean), Cond.methodLink RX11 267 yX10_indexOf, Cond.methodLink RX11 270 yX2_position, Cond.instanceMethod yX2_position, Cond.selects RX2 yX2_position yX2_position, Cond.code yX2_position cX2_position 2 (some .int), Cond.classLink RX11 98 g_ISE, Cond.methodLink RX11 359 yX9_openLevel, Cond.instanceMethod yX9_openLevel, Cond.selects RX9 yX9_openLevel yX9_openLevel, Cond.code yX9_openLevel cX9_openLevel 1 none, Cond.methodLink RX11 199 yX11_tidy, Cond.instanceMethod yX11_tidy, Cond.code yX11_tidy cX11_tidy 2 none, Cond.methodLink RX11 454 yX8_isCrowded, Cond.instanceMethod yX8_isCrowded, Cond.selects RX8 yX8_isCrowded yX8_isCrowded, Cond.code yX8_isCrowded cX8_isCrowded 1 (some .boolean), Cond.methodLink RX8 68 yX6_set]
def gW_11 : List Cond := [Cond.methodLink RX8 72 yX8_bucketOf, Cond.instanceMethod yX8_bucketOf, Cond.code yX8_bucketOf cX8_bucketOf 6 (some .int), Cond.constant RX8 83 131071, Cond.constant RX8 84 739982445, Cond.methodLink RX11 383 yX9_makesEqual, Cond.instanceMethod yX9_makesEqual, Cond.selects RX9 yX9_makesEqual yX9_makesEqual, Cond.code yX9_makesEqual cX9_makesEqual 3 (some .boolean), Cond.methodLink RX9 217 yX9_normalize, Cond.instanceMethod yX9_normalize, Cond.selects RX9 yX9_normalize yX9_normalize, Cond.code yX9_normalize cX9_normalize 5 (some .int), Cond.methodLink RX9 133 yX10_clear, Cond.methodLink RX9 138 yX10_add, Cond.methodLink RX9 193 yX10_count, Cond.methodLink RX9 196 yX10_rebuild, Cond.instanceMethod yX10_rebuild, Cond.selects RX10 yX10_rebuild yX10_rebuild, Cond.code yX10_rebuild cX10_rebuild 7 (some .int), Cond.methodLink RX10 79 yX10_partOf, Cond.methodLink RX10 85 yX8_symbol, Cond.methodLink RX10 88 yX8_make, Cond.instanceMethod yX8_make, Cond.selects RX8 yX8_make yX8_make]
def gW_12 : List Cond := [Cond.code yX8_make cX8_make 9 (some .int), Cond.methodLink RX8 79 yX8_keep, Cond.instanceMethod yX8_keep, Cond.code yX8_keep cX8_keep 8 (some .int), Cond.methodLink RX8 59 yX7_variableOrdinal, Cond.instanceMethod yX7_variableOrdinal, Cond.selects RX7 yX7_variableOrdinal yX7_variableOrdinal, Cond.code yX7_variableOrdinal cX7_variableOrdinal 2 (some .int), Cond.methodLink RX8 91 yX8_extentOver, Cond.instanceMethod yX8_extentOver, Cond.code yX8_extentOver cX8_extentOver 8 (some .int), Cond.constant RX8 94 4194303, Cond.methodLink RX8 95 Lib.Math.min.name, Cond.methodLink RX8 101 Lib.Math.max.name, Cond.methodLink RX9 199 yX9_ruleFor, Cond.instanceMethod yX9_ruleFor, Cond.code yX9_ruleFor cX9_ruleFor 3 (some .int), Cond.methodLink RX9 190 yX6_get, Cond.methodLink RX9 202 yX9_rightSide, Cond.instanceMethod yX9_rightSide, Cond.selects RX9 yX9_rightSide yX9_rightSide, Cond.code yX9_rightSide cX9_rightSide 2 (some .int), Cond.methodLink RX9 205 yX10_setValue, Cond.instanceMethod yX10_setValue, Cond.selects RX10 yX10_setValue yX10_setValue]
def gW_13 : List Cond := [Cond.code yX10_setValue cX10_setValue 3 none, Cond.methodLink RX9 208 yX10_sumOfParts, Cond.instanceMethod yX10_sumOfParts, Cond.selects RX10 yX10_sumOfParts yX10_sumOfParts, Cond.code yX10_sumOfParts cX10_sumOfParts 4 (some .int), Cond.methodLink RX9 211 yX10_setTally, Cond.instanceMethod yX10_setTally, Cond.selects RX10 yX10_setTally yX10_setTally, Cond.code yX10_setTally cX10_setTally 3 none, Cond.methodLink RX9 214 yX10_value, Cond.instanceMethod yX10_value, Cond.selects RX10 yX10_value yX10_value, Cond.code yX10_value cX10_value 2 (some .int), Cond.methodLink RX11 393 yX9_countSteps, Cond.instanceMethod yX9_countSteps, Cond.selects RX9 yX9_countSteps yX9_countSteps, Cond.code yX9_countSteps cX9_countSteps 2 (some .int), Cond.methodLink RX9 223 yX10_tally, Cond.instanceMethod yX10_tally, Cond.selects RX10 yX10_tally yX10_tally, Cond.code yX10_tally cX10_tally 2 (some .int), Cond.methodLink RL 23 yL_below, Cond.static yL_below, Cond.code yL_below cL_below 2 (some .int), Cond.constant RL 7 2147483647]
def gW_14 : List Cond := [Cond.methodLink RL 45 yL_cell, Cond.static yL_cell, Cond.code yL_cell cL_cell 2 (some .int), Cond.constant RL 8 790386105, Cond.methodLink RL 28 yL_declare, Cond.static yL_declare, Cond.code yL_declare cL_declare 5 (some .int), Cond.methodLink RL 9 yX11_feed, Cond.instanceMethod yX11_feed, Cond.selects RX11 yX11_feed yX11_feed, Cond.code yX11_feed cX11_feed 6 (some .int), Cond.methodLink RX11 94 yX5_length, Cond.instanceMethod yX5_length, Cond.selects RX5 yX5_length yX5_length, Cond.code yX5_length cX5_length 1 (some .int), Cond.methodLink RX11 105 yX5_append, Cond.instanceMethod yX5_append, Cond.selects RX5 yX5_append yX5_append, Cond.code yX5_append cX5_append 3 none, Cond.methodLink RL 15 yX11_trim, Cond.instanceMethod yX11_trim, Cond.selects RX11 yX11_trim yX11_trim, Cond.code yX11_trim cX11_trim 2 (some .int), Cond.methodLink RX11 113 yX5_shorten, Cond.instanceMethod yX5_shorten]
def gW_15 : List Cond := [Cond.selects RX5 yX5_shorten yX5_shorten, Cond.code yX5_shorten cX5_shorten 2 none, Cond.methodLink RL 19 yX11_declare, Cond.instanceMethod yX11_declare, Cond.selects RX11 yX11_declare yX11_declare, Cond.code yX11_declare cX11_declare 6 (some .int), Cond.methodLink RX11 116 yX5_holdsName, Cond.instanceMethod yX5_holdsName, Cond.selects RX5 yX5_holdsName yX5_holdsName, Cond.code yX5_holdsName cX5_holdsName 2 (some .boolean), Cond.methodLink RX5 59 yX5_isLetter, Cond.instanceMethod yX5_isLetter, Cond.code yX5_isLetter cX5_isLetter 2 (some .boolean), Cond.methodLink RX5 63 yX5_isNamePart, Cond.instanceMethod yX5_isNamePart, Cond.code yX5_isNamePart cX5_isNamePart 2 (some .boolean), Cond.methodLink RX11 120 yX5_heldSymbol, Cond.instanceMethod yX5_heldSymbol, Cond.selects RX5 yX5_heldSymbol yX5_heldSymbol, Cond.code yX5_heldSymbol cX5_heldSymbol 1 (some .int), Cond.methodLink RX5 66 yX7_find, Cond.instanceMethod yX7_find, Cond.selects RX7 yX7_find yX7_find, Cond.code yX7_find cX7_find 5 (some .int), Cond.methodLink RX7 46 yX7_isNameAt]
def gW_16 : List Cond := [Cond.instanceMethod yX7_isNameAt, Cond.code yX7_isNameAt cX7_isNameAt 6 (some .boolean), Cond.methodLink RX7 50 yX7_nameLength, Cond.instanceMethod yX7_nameLength, Cond.selects RX7 yX7_nameLength yX7_nameLength, Cond.code yX7_nameLength cX7_nameLength 2 (some .int), Cond.methodLink RX7 54 yX7_nameByte, Cond.instanceMethod yX7_nameByte, Cond.selects RX7 yX7_nameByte yX7_nameByte, Cond.code yX7_nameByte cX7_nameByte 4 (some .byte), Cond.methodLink RX11 123 yX5_drain, Cond.instanceMethod yX5_drain, Cond.selects RX5 yX5_drain yX5_drain, Cond.code yX5_drain cX5_drain 2 (some .int), Cond.methodLink RX11 128 yX7_isFull, Cond.instanceMethod yX7_isFull, Cond.selects RX7 yX7_isFull yX7_isFull, Cond.code yX7_isFull cX7_isFull 1 (some .boolean), Cond.methodLink RX11 133 yX5_bytes, Cond.instanceMethod yX5_bytes, Cond.selects RX5 yX5_bytes yX5_bytes, Cond.code yX5_bytes cX5_bytes 1 (some (.array .byte)), Cond.methodLink RX11 137 yX7_add, Cond.instanceMethod yX7_add, Cond.selects RX7 yX7_add yX7_add]
def gW_17 : List Cond := [Cond.code yX7_add cX7_add 7 (some .int), Cond.methodLink RL 31 yX11_orderByWeight, Cond.instanceMethod yX11_orderByWeight, Cond.selects RX11 yX11_orderByWeight yX11_orderByWeight, Cond.code yX11_orderByWeight cX11_orderByWeight 3 (some .boolean), Cond.methodLink RX11 153 yX7_isOrderFixed, Cond.instanceMethod yX7_isOrderFixed, Cond.selects RX7 yX7_isOrderFixed yX7_isOrderFixed, Cond.code yX7_isOrderFixed cX7_isOrderFixed 1 (some .boolean), Cond.methodLink RX11 158 yX7_isByWeight, Cond.instanceMethod yX7_isByWeight, Cond.selects RX7 yX7_isByWeight yX7_isByWeight, Cond.code yX7_isByWeight cX7_isByWeight 1 (some .boolean), Cond.methodLink RX11 161 yX7_chooseOrder, Cond.instanceMethod yX7_chooseOrder, Cond.selects RX7 yX7_chooseOrder yX7_chooseOrder, Cond.code yX7_chooseOrder cX7_chooseOrder 2 none, Cond.methodLink RL 35 yX11_setDirection, Cond.instanceMethod yX11_setDirection, Cond.selects RX11 yX11_setDirection yX11_setDirection, Cond.code yX11_setDirection cX11_setDirection 4 (some .boolean), Cond.methodLink RX11 165 yX7_has, Cond.instanceMethod yX7_has, Cond.selects RX7 yX7_has yX7_has, Cond.code yX7_has cX7_has 2 (some .boolean)]
def gW_18 : List Cond := [Cond.methodLink RX11 184 yX7_isFromRight, Cond.methodLink RX11 187 yX7_direct, Cond.instanceMethod yX7_direct, Cond.selects RX7 yX7_direct yX7_direct, Cond.code yX7_direct cX7_direct 3 none, Cond.methodLink RL 39 yX11_promote, Cond.instanceMethod yX11_promote, Cond.selects RX11 yX11_promote yX11_promote, Cond.code yX11_promote cX11_promote 4 (some .int), Cond.methodLink RX11 174 yX7_rank, Cond.methodLink RX11 178 yX7_moveTo, Cond.instanceMethod yX7_moveTo, Cond.selects RX7 yX7_moveTo yX7_moveTo, Cond.code yX7_moveTo cX7_moveTo 5 none, Cond.methodLink RL 42 yX11_rankOf, Cond.instanceMethod yX11_rankOf, Cond.selects RX11 yX11_rankOf yX11_rankOf, Cond.code yX11_rankOf cX11_rankOf 2 (some .int), Cond.methodLink RL 49 Lib.Math.max.name, Cond.methodLink RL 54 yX11_size, Cond.instanceMethod yX11_size, Cond.selects RX11 yX11_size yX11_size, Cond.code yX11_size cX11_size 2 (some .int), Cond.methodLink RX11 247 yX8_width, Cond.instanceMethod yX8_width]
def gW_19 : List Cond := [Cond.selects RX8 yX8_width yX8_width, Cond.code yX8_width cX8_width 2 (some .int), Cond.methodLink RL 57 yX11_term, Cond.instanceMethod yX11_term, Cond.selects RX11 yX11_term yX11_term, Cond.code yX11_term cX11_term 7 (some .int), Cond.methodLink RX11 191 yX7_arity, Cond.methodLink RX11 205 yX8_make, Cond.methodLink RX11 209 yX8_isTooLarge, Cond.instanceMethod yX8_isTooLarge, Cond.selects RX8 yX8_isTooLarge yX8_isTooLarge, Cond.code yX8_isTooLarge cX8_isTooLarge 2 (some .boolean), Cond.methodLink RX8 62 yX8_width, Cond.methodLink RX8 65 yX8_height, Cond.instanceMethod yX8_height, Cond.selects RX8 yX8_height yX8_height, Cond.code yX8_height cX8_height 2 (some .int), Cond.classLink RX11 212 g_ARE, Cond.methodLink RX11 217 yX11_giveNumber, Cond.instanceMethod yX11_giveNumber, Cond.code yX11_giveNumber cX11_giveNumber 3 (some .int), Cond.methodLink RX11 445 yX8_number, Cond.instanceMethod yX8_number, Cond.selects RX8 yX8_number yX8_number, Cond.code yX8_number cX8_number 2 (some .int)]
def gW_20 : List Cond := [Cond.methodLink RX11 448 yX8_setNumber, Cond.instanceMethod yX8_setNumber, Cond.selects RX8 yX8_setNumber yX8_setNumber, Cond.code yX8_setNumber cX8_setNumber 3 none, Cond.methodLink RX11 451 yX6_set, Cond.methodLink RX11 343 yX7_fixOrder, Cond.instanceMethod yX7_fixOrder, Cond.selects RX7 yX7_fixOrder yX7_fixOrder, Cond.code yX7_fixOrder cX7_fixOrder 1 none, Cond.classLink RL 64 g_ARE, Cond.classLink RL 66 g_ISE, Cond.methodLink RL 61 yX11_equate, Cond.instanceMethod yX11_equate, Cond.selects RX11 yX11_equate yX11_equate, Cond.code yX11_equate cX11_equate 3 (some .int), Cond.methodLink RX11 293 yX8_isGround, Cond.instanceMethod yX8_isGround, Cond.selects RX8 yX8_isGround yX8_isGround, Cond.code yX8_isGround cX8_isGround 2 (some .boolean), Cond.methodLink RX11 303 yX9_addEquation, Cond.instanceMethod yX9_addEquation, Cond.selects RX9 yX9_addEquation yX9_addEquation, Cond.code yX9_addEquation cX9_addEquation 3 none, Cond.methodLink RX11 306 yX9_complete, Cond.instanceMethod yX9_complete]
def gW_21 : List Cond := [Cond.selects RX9 yX9_complete yX9_complete, Cond.code yX9_complete cX9_complete 4 (some .boolean), Cond.methodLink RX9 91 yX9_gather, Cond.instanceMethod yX9_gather, Cond.code yX9_gather cX9_gather 5 none, Cond.methodLink RX9 141 yX1_start, Cond.instanceMethod yX1_start, Cond.selects RX1 yX1_start yX1_start, Cond.code yX1_start cX1_start 3 none, Cond.methodLink RX1 55 yX10_count, Cond.methodLink RX1 61 yX6_set, Cond.methodLink RX1 65 yX10_node, Cond.methodLink RX1 69 yX8_symbol, Cond.methodLink RX1 74 yX10_partOf, Cond.methodLink RX9 144 yX10_indexOf, Cond.methodLink RX9 147 yX1_join, Cond.instanceMethod yX1_join, Cond.selects RX1 yX1_join yX1_join, Cond.code yX1_join cX1_join 7 none, Cond.methodLink RX1 78 yX6_get, Cond.methodLink RX9 95 yX1_close, Cond.instanceMethod yX1_close, Cond.selects RX1 yX1_close yX1_close, Cond.code yX1_close cX1_close 2 none, Cond.methodLink RX1 81 yX1_joinTwins]
def gW_22 : List Cond := [Cond.instanceMethod yX1_joinTwins, Cond.code yX1_joinTwins cX1_joinTwins 6 (some .boolean), Cond.methodLink RX1 85 yX1_bucketOf, Cond.instanceMethod yX1_bucketOf, Cond.code yX1_bucketOf cX1_bucketOf 4 (some .int), Cond.constant RX1 95 739982445, Cond.methodLink RX1 88 yX1_areTwins, Cond.instanceMethod yX1_areTwins, Cond.code yX1_areTwins cX1_areTwins 5 (some .boolean), Cond.methodLink RX1 92 yX1_join, Cond.methodLink RX9 98 yX1_pourInto, Cond.instanceMethod yX1_pourInto, Cond.selects RX1 yX1_pourInto yX1_pourInto, Cond.code yX1_pourInto cX1_pourInto 5 none, Cond.methodLink RX1 96 yX2_clear, Cond.methodLink RX1 101 yX2_addProduction, Cond.methodLink RX1 104 yX2_arity, Cond.methodLink RX1 107 yX2_setPart, Cond.methodLink RX9 102 yX7_orderMode, Cond.methodLink RX9 108 yX2_rank, Cond.methodLink RX9 113 yX2_sequenceCount, Cond.instanceMethod yX2_sequenceCount, Cond.selects RX2 yX2_sequenceCount yX2_sequenceCount, Cond.code yX2_sequenceCount cX2_sequenceCount 1 (some .int), Cond.methodLink RX9 116 yX2_ranked]
def gW_23 : List Cond := [Cond.instanceMethod yX2_ranked, Cond.selects RX2 yX2_ranked yX2_ranked, Cond.code yX2_ranked cX2_ranked 2 (some .int), Cond.methodLink RX9 120 yX2_owner, Cond.instanceMethod yX2_owner, Cond.selects RX2 yX2_owner yX2_owner, Cond.code yX2_owner cX2_owner 2 (some .int), Cond.methodLink RX9 123 yX2_choice, Cond.instanceMethod yX2_choice, Cond.selects RX2 yX2_choice yX2_choice, Cond.code yX2_choice cX2_choice 2 (some .int), Cond.methodLink RX9 126 yX9_isTooLargeSide, Cond.instanceMethod yX9_isTooLargeSide, Cond.code yX9_isTooLargeSide cX9_isTooLargeSide 2 (some .boolean), Cond.methodLink RX9 150 yX2_termSize, Cond.instanceMethod yX2_termSize, Cond.selects RX2 yX2_termSize yX2_termSize, Cond.code yX2_termSize cX2_termSize 2 (some .int), Cond.methodLink RX9 153 yX2_termDepth, Cond.instanceMethod yX2_termDepth, Cond.selects RX2 yX2_termDepth yX2_termDepth, Cond.code yX2_termDepth cX2_termDepth 2 (some .int), Cond.methodLink RX9 130 yX9_takeRules, Cond.instanceMethod yX9_takeRules, Cond.code yX9_takeRules cX9_takeRules 4 none]
def gW_24 : List Cond := [Cond.methodLink RX9 156 yX2_dropNeeds, Cond.instanceMethod yX2_dropNeeds, Cond.selects RX2 yX2_dropNeeds yX2_dropNeeds, Cond.code yX2_dropNeeds cX2_dropNeeds 2 none, Cond.methodLink RX9 159 yX2_need, Cond.instanceMethod yX2_need, Cond.selects RX2 yX2_need yX2_need, Cond.code yX2_need cX2_need 2 none, Cond.methodLink RX9 162 yX2_needParts, Cond.instanceMethod yX2_needParts, Cond.selects RX2 yX2_needParts yX2_needParts, Cond.code yX2_needParts cX2_needParts 3 none, Cond.methodLink RX9 165 yX2_spreadNeeds, Cond.instanceMethod yX2_spreadNeeds, Cond.selects RX2 yX2_spreadNeeds yX2_spreadNeeds, Cond.code yX2_spreadNeeds cX2_spreadNeeds 3 none, Cond.methodLink RX2 161 yX2_isNeeded, Cond.instanceMethod yX2_isNeeded, Cond.selects RX2 yX2_isNeeded yX2_isNeeded, Cond.code yX2_isNeeded cX2_isNeeded 3 (some .boolean), Cond.methodLink RX2 164 yX2_needParts, Cond.methodLink RX9 171 yX2_isNeeded, Cond.methodLink RX9 174 yX2_makeTerm, Cond.instanceMethod yX2_makeTerm, Cond.selects RX2 yX2_makeTerm yX2_makeTerm]
def gW_25 : List Cond := [Cond.code yX2_makeTerm cX2_makeTerm 8 (some .int), Cond.methodLink RX2 157 yX8_make, Cond.methodLink RX9 178 yX2_setLeastTerm, Cond.instanceMethod yX2_setLeastTerm, Cond.selects RX2 yX2_setLeastTerm yX2_setLeastTerm, Cond.code yX2_setLeastTerm cX2_setLeastTerm 3 none, Cond.methodLink RX9 181 yX2_leastTerm, Cond.instanceMethod yX2_leastTerm, Cond.selects RX2 yX2_leastTerm yX2_leastTerm, Cond.code yX2_leastTerm cX2_leastTerm 2 (some .int), Cond.methodLink RX9 184 yX9_addRule, Cond.instanceMethod yX9_addRule, Cond.code yX9_addRule cX9_addRule 3 none, Cond.methodLink RX9 187 yX6_set, Cond.methodLink RX11 312 yX9_goBack, Cond.instanceMethod yX9_goBack, Cond.selects RX9 yX9_goBack yX9_goBack, Cond.code yX9_goBack cX9_goBack 3 none, Cond.methodLink RL 68 yX11_normalForm, Cond.instanceMethod yX11_normalForm, Cond.selects RX11 yX11_normalForm yX11_normalForm, Cond.code yX11_normalForm cX11_normalForm 3 (some .int), Cond.methodLink RX11 378 yX9_normalize, Cond.methodLink RL 71 yL_unite, Cond.static yL_unite]
def gW_26 : List Cond := [Cond.code yL_unite cL_unite 4 none, Cond.methodLink RL 75 yX11_pop, Cond.instanceMethod yX11_pop, Cond.selects RX11 yX11_pop yX11_pop, Cond.code yX11_pop cX11_pop 1 (some .int), Cond.methodLink RX11 364 yX9_closeLevel, Cond.instanceMethod yX9_closeLevel, Cond.selects RX9 yX9_closeLevel yX9_closeLevel, Cond.code yX9_closeLevel cX9_closeLevel 1 none, Cond.methodLink RX9 88 yX9_goBack]
def gW : List Cond := gW_0 ++ (gW_1 ++ (gW_2 ++ (gW_3 ++ (gW_4 ++ (gW_5 ++ (gW_6 ++ (gW_7 ++ (gW_8 ++ (gW_9 ++ (gW_10 ++ (gW_11 ++ (gW_12 ++ (gW_13 ++ (gW_14 ++ (gW_15 ++ (gW_16 ++ (gW_17 ++ (gW_18 ++ (gW_19 ++ (gW_20 ++ (gW_21 ++ (gW_22 ++ (gW_23 ++ (gW_24 ++ (gW_25 ++ (gW_26 ++ (wsX00 ++ (wsX10 ++ (wsX20 ++ (wsX30 ++ (wsX40 ++ (wsX50 ++ (wsX60 ++ (wsX70 ++ (wsX80 ++ (wsX90 ++ (wsX100 ++ (wsX110 ++ ((vx_atS RX11 102 g_ISE g_nm).filter goodWord ++ ((vx_atS RX11 216 g_ARE g_nm).filter goodWord))))))))))))))))))))))))))))))))))))))))
theorem mc_0 : ∀ w ∈ gW_0, w ∈ gW := fun _ h => List.mem_append_left _ h
theorem mc_1 : ∀ w ∈ gW_1, w ∈ gW := fun _ h => List.mem_append_right _ (List.mem_append_left _ h)
theorem mc_2 : ∀ w ∈ gW_2, w ∈ gW := fun _ h => List.mem_append_right _ (List.mem_append_right _ (List.mem_append_left _ h))
theorem mc_3 : ∀ w ∈ gW_3, w ∈ gW := fun _ h => List.mem_append_right _ (List.mem_append_right _ (List.mem_append_right _ (List.mem_append_left _ h)))
theorem mc_4 : ∀ w ∈ gW_4, w ∈ gW := fun _ h => List.mem_append_right _ (List.mem_append_right _ (List.mem_append_right _ (List.mem_append_right _ (List.mem_append_left _ h))))
theorem mc_5 : ∀ w ∈ gW_5, w ∈ gW := fun _ h => List.mem_append_right _ (List.mem_append_right _ (List.mem_append_right _ (List.mem_append_right _ (List.mem_append_right _ (List.mem_append_left _ h)))))
theorem mc_6 : ∀ w ∈ gW_6, w ∈ gW := fun _ h => List.mem_append_right _ (List.mem_append_right _ (List.mem_append_right _ (List.mem_append_right _ (List.mem_append_right _ (List.mem_append_right _ (List.mem_append_left _ h))))))
theorem mc_7 : ∀ w ∈ gW_7, w ∈ gW := fun _ h => List.mem_append_right _ (List.mem_append_right _ (List.mem_append_right _ (List.mem_append_right _ (List.mem_append_right _ (List.mem_append_right _ (List.mem_append_right _ (List.mem_append_left _ h)))))))
theorem mc_8 : ∀ w ∈ gW_8, w ∈ gW := fun _ h => List.mem_append_right _ (List.mem_append_right _ (List.mem_append_right _ (List.mem_append_right _ (List.mem_append_right _ (List.mem_append_right _ (List.mem_append_right _ (List.mem_append_right _ (List.mem_append_left _ h))))))))
theorem mc_9 : ∀ w ∈ gW_9, w ∈ gW := fun _ h => List.mem_append_right _ (List.mem_append_right _ (List.mem_append_right _ (List.mem_append_right _ (List.mem_append_right _ (List.mem_append_right _ (List.mem_append_right _ (List.mem_append_right _ (List.mem_append_right _ (List.mem_append_left _ h)))))))))
theorem mc_10 : ∀ w ∈ gW_10, w ∈ gW := fun _ h => List.mem_append_right _ (List.mem_append_right _ (List.mem_append_right _ (List.mem_append_right _ (List.mem_append_right _ (List.mem_append_right _ (List.mem_append_right _ (List.mem_append_right _ (List.mem_append_right _ (List.mem_append_right _ (List.mem_append_left _ h))))))))))
theorem mc_11 : ∀ w ∈ gW_11, w ∈ gW := fun _ h => List.mem_append_right _ (List.mem_append_right _ (List.mem_append_right _ (List.mem_append_right _ (List.mem_append_right _ (List.mem_append_right _ (List.mem_append_right _ (List.mem_append_right _ (List.mem_append_right _ (List.mem_append_right _ (List.mem_append_right _ (List.mem_append_left _ h)))))))))))
theorem mc_12 : ∀ w ∈ gW_12, w ∈ gW := fun _ h => List.mem_append_right _ (List.mem_append_right _ (List.mem_append_right _ (List.mem_append_right _ (List.mem_append_right _ (List.mem_append_right _ (List.mem_append_right _ (List.mem_append_right _ (List.mem_append_right _ (List.mem_append_right _ (List.mem_append_right _ (List.mem_append_right _ (List.mem_append_left _ h))))))))))))
theorem mc_13 : ∀ w ∈ gW_13, w ∈ gW := fun _ h => List.mem_append_right _ (List.mem_append_right _ (List.mem_append_right _ (List.mem_append_right _ (List.mem_append_right _ (List.mem_append_right _ (List.mem_append_right _ (List.mem_append_right _ (List.mem_append_right _ (List.mem_append_right _ (List.mem_append_right _ (List.mem_append_right _ (List.mem_append_right _ (List.mem_append_left _ h)))))))))))))
theorem mc_14 : ∀ w ∈ gW_14, w ∈ gW := fun _ h => List.mem_append_right _ (List.mem_append_right _ (List.mem_append_right _ (List.mem_append_right _ (List.mem_append_right _ (List.mem_append_right _ (List.mem_append_right _ (List.mem_append_right _ (List.mem_append_right _ (List.mem_append_right _ (List.mem_append_right _ (List.mem_append_right _ (List.mem_append_right _ (List.mem_append_right _ (List.mem_append_left _ h))))))))))))))
theorem mc_15 : ∀ w ∈ gW_15, w ∈ gW := fun _ h => List.mem_append_right _ (List.mem_append_right _ (List.mem_append_right _ (List.mem_append_right _ (List.mem_append_right _ (List.mem_append_right _ (List.mem_append_right _ (List.mem_append_right _ (List.mem_append_right _ (List.mem_append_right _ (List.mem_append_right _ (List.mem_append_right _ (List.mem_append_right _ (List.mem_append_right _ (List.mem_append_right _ (List.mem_append_left _ h)))))))))))))))
theorem mc_16 : ∀ w ∈ gW_16, w ∈ gW := fun _ h => List.mem_append_right _ (List.mem_append_right _ (List.mem_append_right _ (List.mem_append_right _ (List.mem_append_right _ (List.mem_append_right _ (List.mem_append_right _ (List.mem_append_right _ (List.mem_append_right _ (List.mem_append_right _ (List.mem_append_right _ (List.mem_append_right _ (List.mem_append_right _ (List.mem_append_right _ (List.mem_append_right _ (List.mem_append_right _ (List.mem_append_left _ h))))))))))))))))
theorem mc_17 : ∀ w ∈ gW_17, w ∈ gW := fun _ h => List.mem_append_right _ (List.mem_append_right _ (List.mem_append_right _ (List.mem_append_right _ (List.mem_append_right _ (List.mem_append_right _ (List.mem_append_right _ (List.mem_append_right _ (List.mem_append_right _ (List.mem_append_right _ (List.mem_append_right _ (List.mem_append_right _ (List.mem_append_right _ (List.mem_append_right _ (List.mem_append_right _ (List.mem_append_right _ (List.mem_append_right _ (List.mem_append_left _ h)))))))))))))))))
theorem mc_18 : ∀ w ∈ gW_18, w ∈ gW := fun _ h => List.mem_append_right _ (List.mem_append_right _ (List.mem_append_right _ (List.mem_append_right _ (List.mem_append_right _ (List.mem_append_right _ (List.mem_append_right _ (List.mem_append_right _ (List.mem_append_right _ (List.mem_append_right _ (List.mem_append_right _ (List.mem_append_right _ (List.mem_append_right _ (List.mem_append_right _ (List.mem_append_right _ (List.mem_append_right _ (List.mem_append_right _ (List.mem_append_right _ (List.mem_append_left _ h))))))))))))))))))
theorem mc_19 : ∀ w ∈ gW_19, w ∈ gW := fun _ h => List.mem_append_right _ (List.mem_append_right _ (List.mem_append_right _ (List.mem_append_right _ (List.mem_append_right _ (List.mem_append_right _ (List.mem_append_right _ (List.mem_append_right _ (List.mem_append_right _ (List.mem_append_right _ (List.mem_append_right _ (List.mem_append_right _ (List.mem_append_right _ (List.mem_append_right _ (List.mem_append_right _ (List.mem_append_right _ (List.mem_append_right _ (List.mem_append_right _ (List.mem_append_right _ (List.mem_append_left _ h)))))))))))))))))))
theorem mc_20 : ∀ w ∈ gW_20, w ∈ gW := fun _ h => List.mem_append_right _ (List.mem_append_right _ (List.mem_append_right _ (List.mem_append_right _ (List.mem_append_right _ (List.mem_append_right _ (List.mem_append_right _ (List.mem_append_right _ (List.mem_append_right _ (List.mem_append_right _ (List.mem_append_right _ (List.mem_append_right _ (List.mem_append_right _ (List.mem_append_right _ (List.mem_append_right _ (List.mem_append_right _ (List.mem_append_right _ (List.mem_append_right _ (List.mem_append_right _ (List.mem_append_right _ (List.mem_append_left _ h))))))))))))))))))))
theorem mc_21 : ∀ w ∈ gW_21, w ∈ gW := fun _ h => List.mem_append_right _ (List.mem_append_right _ (List.mem_append_right _ (List.mem_append_right _ (List.mem_append_right _ (List.mem_append_right _ (List.mem_append_right _ (List.mem_append_right _ (List.mem_append_right _ (List.mem_append_right _ (List.mem_append_right _ (List.mem_append_right _ (List.mem_append_right _ (List.mem_append_right _ (List.mem_append_right _ (List.mem_append_right _ (List.mem_append_right _ (List.mem_append_right _ (List.mem_append_right _ (List.mem_append_right _ (List.mem_append_right _ (List.mem_append_left _ h)))))))))))))))))))))
theorem mc_22 : ∀ w ∈ gW_22, w ∈ gW := fun _ h => List.mem_append_right _ (List.mem_append_right _ (List.mem_append_right _ (List.mem_append_right _ (List.mem_append_right _ (List.mem_append_right _ (List.mem_append_right _ (List.mem_append_right _ (List.mem_append_right _ (List.mem_append_right _ (List.mem_append_right _ (List.mem_append_right _ (List.mem_append_right _ (List.mem_append_right _ (List.mem_append_right _ (List.mem_append_right _ (List.mem_append_right _ (List.mem_append_right _ (List.mem_append_right _ (List.mem_append_right _ (List.mem_append_right _ (List.mem_append_right _ (List.mem_append_left _ h))))))))))))))))))))))
theorem mc_23 : ∀ w ∈ gW_23, w ∈ gW := fun _ h => List.mem_append_right _ (List.mem_append_right _ (List.mem_append_right _ (List.mem_append_right _ (List.mem_append_right _ (List.mem_append_right _ (List.mem_append_right _ (List.mem_append_right _ (List.mem_append_right _ (List.mem_append_right _ (List.mem_append_right _ (List.mem_append_right _ (List.mem_append_right _ (List.mem_append_right _ (List.mem_append_right _ (List.mem_append_right _ (List.mem_append_right _ (List.mem_append_right _ (List.mem_append_right _ (List.mem_append_right _ (List.mem_append_right _ (List.mem_append_right _ (List.mem_append_right _ (List.mem_append_left _ h)))))))))))))))))))))))
theorem mc_24 : ∀ w ∈ gW_24, w ∈ gW := fun _ h => List.mem_append_right _ (List.mem_append_right _ (List.mem_append_right _ (List.mem_append_right _ (List.mem_append_right _ (List.mem_append_right _ (List.mem_append_right _ (List.mem_append_right _ (List.mem_append_right _ (List.mem_append_right _ (List.mem_append_right _ (List.mem_append_right _ (List.mem_append_right _ (List.mem_append_right _ (List.mem_append_right _ (List.mem_append_right _ (List.mem_append_right _ (List.mem_append_right _ (List.mem_append_right _ (List.mem_append_right _ (List.mem_append_right _ (List.mem_append_right _ (List.mem_append_right _ (List.mem_append_right _ (List.mem_append_left _ h))))))))))))))))))))))))
theorem mc_25 : ∀ w ∈ gW_25, w ∈ gW := fun _ h => List.mem_append_right _ (List.mem_append_right _ (List.mem_append_right _ (List.mem_append_right _ (List.mem_append_right _ (List.mem_append_right _ (List.mem_append_right _ (List.mem_append_right _ (List.mem_append_right _ (List.mem_append_right _ (List.mem_append_right _ (List.mem_append_right _ (List.mem_append_right _ (List.mem_append_right _ (List.mem_append_right _ (List.mem_append_right _ (List.mem_append_right _ (List.mem_append_right _ (List.mem_append_right _ (List.mem_append_right _ (List.mem_append_right _ (List.mem_append_right _ (List.mem_append_right _ (List.mem_append_right _ (List.mem_append_right _ (List.mem_append_left _ h)))))))))))))))))))))))))
theorem mc_26 : ∀ w ∈ gW_26, w ∈ gW := fun _ h => List.mem_append_right _ (List.mem_append_right _ (List.mem_append_right _ (List.mem_append_right _ (List.mem_append_right _ (List.mem_append_right _ (List.mem_append_right _ (List.mem_append_right _ (List.mem_append_right _ (List.mem_append_right _ (List.mem_append_right _ (List.mem_append_right _ (List.mem_append_right _ (List.mem_append_right _ (List.mem_append_right _ (List.mem_append_right _ (List.mem_append_right _ (List.mem_append_right _ (List.mem_append_right _ (List.mem_append_right _ (List.mem_append_right _ (List.mem_append_right _ (List.mem_append_right _ (List.mem_append_right _ (List.mem_append_right _ (List.mem_append_right _ (List.mem_append_left _ h))))))))))))))))))))))))))
theorem inW0 : ∀ w ∈ wsX00, w ∈ gW := fun _ h => List.mem_append_right _ (List.mem_append_right _ (List.mem_append_right _ (List.mem_append_right _ (List.mem_append_right _ (List.mem_append_right _ (List.mem_append_right _ (List.mem_append_right _ (List.mem_append_right _ (List.mem_append_right _ (List.mem_append_right _ (List.mem_append_right _ (List.mem_append_right _ (List.mem_append_right _ (List.mem_append_right _ (List.mem_append_right _ (List.mem_append_right _ (List.mem_append_right _ (List.mem_append_right _ (List.mem_append_right _ (List.mem_append_right _ (List.mem_append_right _ (List.mem_append_right _ (List.mem_append_right _ (List.mem_append_right _ (List.mem_append_right _ (List.mem_append_right _ (List.mem_append_left _ h)))))))))))))))))))))))))))
theorem inW1 : ∀ w ∈ wsX10, w ∈ gW := fun _ h => List.mem_append_right _ (List.mem_append_right _ (List.mem_append_right _ (List.mem_append_right _ (List.mem_append_right _ (List.mem_append_right _ (List.mem_append_right _ (List.mem_append_right _ (List.mem_append_right _ (List.mem_append_right _ (List.mem_append_right _ (List.mem_append_right _ (List.mem_append_right _ (List.mem_append_right _ (List.mem_append_right _ (List.mem_append_right _ (List.mem_append_right _ (List.mem_append_right _ (List.mem_append_right _ (List.mem_append_right _ (List.mem_append_right _ (List.mem_append_right _ (List.mem_append_right _ (List.mem_append_right _ (List.mem_append_right _ (List.mem_append_right _ (List.mem_append_right _ (List.mem_append_right _ (List.mem_append_left _ h))))))))))))))))))))))))))))
theorem inW2 : ∀ w ∈ wsX20, w ∈ gW := fun _ h => List.mem_append_right _ (List.mem_append_right _ (List.mem_append_right _ (List.mem_append_right _ (List.mem_append_right _ (List.mem_append_right _ (List.mem_append_right _ (List.mem_append_right _ (List.mem_append_right _ (List.mem_append_right _ (List.mem_append_right _ (List.mem_append_right _ (List.mem_append_right _ (List.mem_append_right _ (List.mem_append_right _ (List.mem_append_right _ (List.mem_append_right _ (List.mem_append_right _ (List.mem_append_right _ (List.mem_append_right _ (List.mem_append_right _ (List.mem_append_right _ (List.mem_append_right _ (List.mem_append_right _ (List.mem_append_right _ (List.mem_append_right _ (List.mem_append_right _ (List.mem_append_right _ (List.mem_append_right _ (List.mem_append_left _ h)))))))))))))))))))))))))))))
theorem inW3 : ∀ w ∈ wsX30, w ∈ gW := fun _ h => List.mem_append_right _ (List.mem_append_right _ (List.mem_append_right _ (List.mem_append_right _ (List.mem_append_right _ (List.mem_append_right _ (List.mem_append_right _ (List.mem_append_right _ (List.mem_append_right _ (List.mem_append_right _ (List.mem_append_right _ (List.mem_append_right _ (List.mem_append_right _ (List.mem_append_right _ (List.mem_append_right _ (List.mem_append_right _ (List.mem_append_right _ (List.mem_append_right _ (List.mem_append_right _ (List.mem_append_right _ (List.mem_append_right _ (List.mem_append_right _ (List.mem_append_right _ (List.mem_append_right _ (List.mem_append_right _ (List.mem_append_right _ (List.mem_append_right _ (List.mem_append_right _ (List.mem_append_right _ (List.mem_append_right _ (List.mem_append_left _ h))))))))))))))))))))))))))))))
theorem inW4 : ∀ w ∈ wsX40, w ∈ gW := fun _ h => List.mem_append_right _ (List.mem_append_right _ (List.mem_append_right _ (List.mem_append_right _ (List.mem_append_right _ (List.mem_append_right _ (List.mem_append_right _ (List.mem_append_right _ (List.mem_append_right _ (List.mem_append_right _ (List.mem_append_right _ (List.mem_append_right _ (List.mem_append_right _ (List.mem_append_right _ (List.mem_append_right _ (List.mem_append_right _ (List.mem_append_right _ (List.mem_append_right _ (List.mem_append_right _ (List.mem_append_right _ (List.mem_append_right _ (List.mem_append_right _ (List.mem_append_right _ (List.mem_append_right _ (List.mem_append_right _ (List.mem_append_right _ (List.mem_append_right _ (List.mem_append_right _ (List.mem_append_right _ (List.mem_append_right _ (List.mem_append_right _ (List.mem_append_left _ h)))))))))))))))))))))))))))))))
theorem inW5 : ∀ w ∈ wsX50, w ∈ gW := fun _ h => List.mem_append_right _ (List.mem_append_right _ (List.mem_append_right _ (List.mem_append_right _ (List.mem_append_right _ (List.mem_append_right _ (List.mem_append_right _ (List.mem_append_right _ (List.mem_append_right _ (List.mem_append_right _ (List.mem_append_right _ (List.mem_append_right _ (List.mem_append_right _ (List.mem_append_right _ (List.mem_append_right _ (List.mem_append_right _ (List.mem_append_right _ (List.mem_append_right _ (List.mem_append_right _ (List.mem_append_right _ (List.mem_append_right _ (List.mem_append_right _ (List.mem_append_right _ (List.mem_append_right _ (List.mem_append_right _ (List.mem_append_right _ (List.mem_append_right _ (List.mem_append_right _ (List.mem_append_right _ (List.mem_append_right _ (List.mem_append_right _ (List.mem_append_right _ (List.mem_append_left _ h))))))))))))))))))))))))))))))))
theorem inW6 : ∀ w ∈ wsX60, w ∈ gW := fun _ h => List.mem_append_right _ (List.mem_append_right _ (List.mem_append_right _ (List.mem_append_right _ (List.mem_append_right _ (List.mem_append_right _ (List.mem_append_right _ (List.mem_append_right _ (List.mem_append_right _ (List.mem_append_right _ (List.mem_append_right _ (List.mem_append_right _ (List.mem_append_right _ (List.mem_append_right _ (List.mem_append_right _ (List.mem_append_right _ (List.mem_append_right _ (List.mem_append_right _ (List.mem_append_right _ (List.mem_append_right _ (List.mem_append_right _ (List.mem_append_right _ (List.mem_append_right _ (List.mem_append_right _ (List.mem_append_right _ (List.mem_append_right _ (List.mem_append_right _ (List.mem_append_right _ (List.mem_append_right _ (List.mem_append_right _ (List.mem_append_right _ (List.mem_append_right _ (List.mem_append_right _ (List.mem_append_left _ h)))))))))))))))))))))))))))))))))
theorem inW7 : ∀ w ∈ wsX70, w ∈ gW := fun _ h => List.mem_append_right _ (List.mem_append_right _ (List.mem_append_right _ (List.mem_append_right _ (List.mem_append_right _ (List.mem_append_right _ (List.mem_append_right _ (List.mem_append_right _ (List.mem_append_right _ (List.mem_append_right _ (List.mem_append_right _ (List.mem_append_right _ (List.mem_append_right _ (List.mem_append_right _ (List.mem_append_right _ (List.mem_append_right _ (List.mem_append_right _ (List.mem_append_right _ (List.mem_append_right _ (List.mem_append_right _ (List.mem_append_right _ (List.mem_append_right _ (List.mem_append_right _ (List.mem_append_right _ (List.mem_append_right _ (List.mem_append_right _ (List.mem_append_right _ (List.mem_append_right _ (List.mem_append_right _ (List.mem_append_right _ (List.mem_append_right _ (List.mem_append_right _ (List.mem_append_right _ (List.mem_append_right _ (List.mem_append_left _ h))))))))))))))))))))))))))))))))))
theorem inW8 : ∀ w ∈ wsX80, w ∈ gW := fun _ h => List.mem_append_right _ (List.mem_append_right _ (List.mem_append_right _ (List.mem_append_right _ (List.mem_append_right _ (List.mem_append_right _ (List.mem_append_right _ (List.mem_append_right _ (List.mem_append_right _ (List.mem_append_right _ (List.mem_append_right _ (List.mem_append_right _ (List.mem_append_right _ (List.mem_append_right _ (List.mem_append_right _ (List.mem_append_right _ (List.mem_append_right _ (List.mem_append_right _ (List.mem_append_right _ (List.mem_append_right _ (List.mem_append_right _ (List.mem_append_right _ (List.mem_append_right _ (List.mem_append_right _ (List.mem_append_right _ (List.mem_append_right _ (List.mem_append_right _ (List.mem_append_right _ (List.mem_append_right _ (List.mem_append_right _ (List.mem_append_right _ (List.mem_append_right _ (List.mem_append_right _ (List.mem_append_right _ (List.mem_append_right _ (List.mem_append_left _ h)))))))))))))))))))))))))))))))))))
theorem inW9 : ∀ w ∈ wsX90, w ∈ gW := fun _ h => List.mem_append_right _ (List.mem_append_right _ (List.mem_append_right _ (List.mem_append_right _ (List.mem_append_right _ (List.mem_append_right _ (List.mem_append_right _ (List.mem_append_right _ (List.mem_append_right _ (List.mem_append_right _ (List.mem_append_right _ (List.mem_append_right _ (List.mem_append_right _ (List.mem_append_right _ (List.mem_append_right _ (List.mem_append_right _ (List.mem_append_right _ (List.mem_append_right _ (List.mem_append_right _ (List.mem_append_right _ (List.mem_append_right _ (List.mem_append_right _ (List.mem_append_right _ (List.mem_append_right _ (List.mem_append_right _ (List.mem_append_right _ (List.mem_append_right _ (List.mem_append_right _ (List.mem_append_right _ (List.mem_append_right _ (List.mem_append_right _ (List.mem_append_right _ (List.mem_append_right _ (List.mem_append_right _ (List.mem_append_right _ (List.mem_append_right _ (List.mem_append_left _ h))))))))))))))))))))))))))))))))))))
theorem inW10 : ∀ w ∈ wsX100, w ∈ gW := fun _ h => List.mem_append_right _ (List.mem_append_right _ (List.mem_append_right _ (List.mem_append_right _ (List.mem_append_right _ (List.mem_append_right _ (List.mem_append_right _ (List.mem_append_right _ (List.mem_append_right _ (List.mem_append_right _ (List.mem_append_right _ (List.mem_append_right _ (List.mem_append_right _ (List.mem_append_right _ (List.mem_append_right _ (List.mem_append_right _ (List.mem_append_right _ (List.mem_append_right _ (List.mem_append_right _ (List.mem_append_right _ (List.mem_append_right _ (List.mem_append_right _ (List.mem_append_right _ (List.mem_append_right _ (List.mem_append_right _ (List.mem_append_right _ (List.mem_append_right _ (List.mem_append_right _ (List.mem_append_right _ (List.mem_append_right _ (List.mem_append_right _ (List.mem_append_right _ (List.mem_append_right _ (List.mem_append_right _ (List.mem_append_right _ (List.mem_append_right _ (List.mem_append_right _ (List.mem_append_left _ h)))))))))))))))))))))))))))))))))))))
theorem inW11 : ∀ w ∈ wsX110, w ∈ gW := fun _ h => List.mem_append_right _ (List.mem_append_right _ (List.mem_append_right _ (List.mem_append_right _ (List.mem_append_right _ (List.mem_append_right _ (List.mem_append_right _ (List.mem_append_right _ (List.mem_append_right _ (List.mem_append_right _ (List.mem_append_right _ (List.mem_append_right _ (List.mem_append_right _ (List.mem_append_right _ (List.mem_append_right _ (List.mem_append_right _ (List.mem_append_right _ (List.mem_append_right _ (List.mem_append_right _ (List.mem_append_right _ (List.mem_append_right _ (List.mem_append_right _ (List.mem_append_right _ (List.mem_append_right _ (List.mem_append_right _ (List.mem_append_right _ (List.mem_append_right _ (List.mem_append_right _ (List.mem_append_right _ (List.mem_append_right _ (List.mem_append_right _ (List.mem_append_right _ (List.mem_append_right _ (List.mem_append_right _ (List.mem_append_right _ (List.mem_append_right _ (List.mem_append_right _ (List.mem_append_right _ (List.mem_append_left _ h))))))))))))))))))))))))))))))))))))))
theorem inE0 : ∀ w ∈ (vx_atS RX11 102 g_ISE g_nm).filter goodWord, w ∈ gW := fun _ h => List.mem_append_right _ (List.mem_append_right _ (List.mem_append_right _ (List.mem_append_right _ (List.mem_append_right _ (List.mem_append_right _ (List.mem_append_right _ (List.mem_append_right _ (List.mem_append_right _ (List.mem_append_right _ (List.mem_append_right _ (List.mem_append_right _ (List.mem_append_right _ (List.mem_append_right _ (List.mem_append_right _ (List.mem_append_right _ (List.mem_append_right _ (List.mem_append_right _ (List.mem_append_right _ (List.mem_append_right _ (List.mem_append_right _ (List.mem_append_right _ (List.mem_append_right _ (List.mem_append_right _ (List.mem_append_right _ (List.mem_append_right _ (List.mem_append_right _ (List.mem_append_right _ (List.mem_append_right _ (List.mem_append_right _ (List.mem_append_right _ (List.mem_append_right _ (List.mem_append_right _ (List.mem_append_right _ (List.mem_append_right _ (List.mem_append_right _ (List.mem_append_right _ (List.mem_append_right _ (List.mem_append_right _ (List.mem_append_left _ h)))))))))))))))))))))))))))))))))))))))
theorem inE1 : ∀ w ∈ (vx_atS RX11 216 g_ARE g_nm).filter goodWord, w ∈ gW := fun _ h => List.mem_append_right _ (List.mem_append_right _ (List.mem_append_right _ (List.mem_append_right _ (List.mem_append_right _ (List.mem_append_right _ (List.mem_append_right _ (List.mem_append_right _ (List.mem_append_right _ (List.mem_append_right _ (List.mem_append_right _ (List.mem_append_right _ (List.mem_append_right _ (List.mem_append_right _ (List.mem_append_right _ (List.mem_append_right _ (List.mem_append_right _ (List.mem_append_right _ (List.mem_append_right _ (List.mem_append_right _ (List.mem_append_right _ (List.mem_append_right _ (List.mem_append_right _ (List.mem_append_right _ (List.mem_append_right _ (List.mem_append_right _ (List.mem_append_right _ (List.mem_append_right _ (List.mem_append_right _ (List.mem_append_right _ (List.mem_append_right _ (List.mem_append_right _ (List.mem_append_right _ (List.mem_append_right _ (List.mem_append_right _ (List.mem_append_right _ (List.mem_append_right _ (List.mem_append_right _ (List.mem_append_right _ (List.mem_append_right _ (h))))))))))))))))))))))))))))))))))))))))
theorem k118 : Cond.selects RX11 yX11_isTerm yX11_isTerm ∈ gW := mc_0 _ (List.mem_of_getElem? (i := 0) rfl)
theorem k241 : Cond.selects RX10 yX10_firstUnlisted yX10_firstUnlisted ∈ gW := mc_0 _ (List.mem_of_getElem? (i := 1) rfl)
theorem k311 : Cond.selects RX2 yX2_linkUsers yX2_linkUsers ∈ gW := mc_0 _ (List.mem_of_getElem? (i := 2) rfl)
theorem k334 : Cond.selects RX2 yX2_enter yX2_enter ∈ gW := mc_0 _ (List.mem_of_getElem? (i := 3) rfl)
theorem k330 : Cond.selects RX2 yX2_isBefore yX2_isBefore ∈ gW := mc_0 _ (List.mem_of_getElem? (i := 4) rfl)
theorem k338 : Cond.selects RX2 yX2_takeLeast yX2_takeLeast ∈ gW := mc_0 _ (List.mem_of_getElem? (i := 5) rfl)
theorem k343 : Cond.selects RX2 yX2_isReadyAfter yX2_isReadyAfter ∈ gW := mc_0 _ (List.mem_of_getElem? (i := 6) rfl)
theorem k130 : Cond.selects RX11 yX11_tidy yX11_tidy ∈ gW := mc_0 _ (List.mem_of_getElem? (i := 7) rfl)
theorem k142 : Cond.selects RX8 yX8_bucketOf yX8_bucketOf ∈ gW := mc_0 _ (List.mem_of_getElem? (i := 8) rfl)
theorem k176 : Cond.selects RX8 yX8_keep yX8_keep ∈ gW := mc_0 _ (List.mem_of_getElem? (i := 9) rfl)
theorem k172 : Cond.selects RX8 yX8_extentOver yX8_extentOver ∈ gW := mc_0 _ (List.mem_of_getElem? (i := 10) rfl)
theorem k550 : Cond.selects RX9 yX9_ruleFor yX9_ruleFor ∈ gW := mc_0 _ (List.mem_of_getElem? (i := 11) rfl)
theorem k19 : Cond.selects RX5 yX5_isLetter yX5_isLetter ∈ gW := mc_0 _ (List.mem_of_getElem? (i := 12) rfl)
theorem k23 : Cond.selects RX5 yX5_isNamePart yX5_isNamePart ∈ gW := mc_0 _ (List.mem_of_getElem? (i := 13) rfl)
theorem k44 : Cond.selects RX7 yX7_isNameAt yX7_isNameAt ∈ gW := mc_0 _ (List.mem_of_getElem? (i := 14) rfl)
theorem k210 : Cond.selects RX11 yX11_giveNumber yX11_giveNumber ∈ gW := mc_0 _ (List.mem_of_getElem? (i := 15) rfl)
theorem k398 : Cond.selects RX9 yX9_gather yX9_gather ∈ gW := mc_0 _ (List.mem_of_getElem? (i := 16) rfl)
theorem k415 : Cond.selects RX1 yX1_joinTwins yX1_joinTwins ∈ gW := mc_0 _ (List.mem_of_getElem? (i := 17) rfl)
theorem k404 : Cond.selects RX1 yX1_bucketOf yX1_bucketOf ∈ gW := mc_0 _ (List.mem_of_getElem? (i := 18) rfl)
theorem k408 : Cond.selects RX1 yX1_areTwins yX1_areTwins ∈ gW := mc_0 _ (List.mem_of_getElem? (i := 19) rfl)
theorem k459 : Cond.selects RX9 yX9_isTooLargeSide yX9_isTooLargeSide ∈ gW := mc_0 _ (List.mem_of_getElem? (i := 20) rfl)
theorem k509 : Cond.selects RX9 yX9_takeRules yX9_takeRules ∈ gW := mc_0 _ (List.mem_of_getElem? (i := 21) rfl)
theorem k501 : Cond.selects RX9 yX9_addRule yX9_addRule ∈ gW := mc_0 _ (List.mem_of_getElem? (i := 22) rfl)
theorem k605 : Cond.initialized RL ∈ gW := mc_0 _ (List.mem_of_getElem? (i := 23) rfl)
theorem k116 : Cond.initialized RX11 ∈ gW := mc_0 _ (List.mem_of_getElem? (i := 24) rfl)
theorem k33 : Cond.initialized RX7 ∈ gW := mc_1 _ (List.mem_of_getElem? (i := 0) rfl)
theorem k124 : Cond.initialized RX8 ∈ gW := mc_1 _ (List.mem_of_getElem? (i := 1) rfl)
theorem k134 : Cond.initialized RX6 ∈ gW := mc_1 _ (List.mem_of_getElem? (i := 2) rfl)
theorem k164 : Cond.initialized "java/lang/Math" ∈ gW := mc_1 _ (List.mem_of_getElem? (i := 3) rfl)
theorem k216 : Cond.initialized RX10 ∈ gW := mc_1 _ (List.mem_of_getElem? (i := 4) rfl)
theorem k260 : Cond.initialized RX2 ∈ gW := mc_1 _ (List.mem_of_getElem? (i := 5) rfl)
theorem k364 : Cond.initialized RX9 ∈ gW := mc_1 _ (List.mem_of_getElem? (i := 6) rfl)
theorem k386 : Cond.initialized RX1 ∈ gW := mc_1 _ (List.mem_of_getElem? (i := 7) rfl)
theorem k4 : Cond.initialized RX5 ∈ gW := mc_1 _ (List.mem_of_getElem? (i := 8) rfl)
theorem k536 : Cond.initialized g_ISE ∈ gW := mc_1 _ (List.mem_of_getElem? (i := 9) rfl)
theorem k521 : Cond.initialized g_ARE ∈ gW := mc_1 _ (List.mem_of_getElem? (i := 10) rfl)
theorem k36 : Cond.fieldLink RX7 9 "GroundProver$Symbols" "names" "[B" ∈ gW := mc_1 _ (List.mem_of_getElem? (i := 11) rfl)
theorem k30 : Cond.fieldLink RX7 15 "GroundProver$Symbols" "lengths" "[I" ∈ gW := mc_1 _ (List.mem_of_getElem? (i := 12) rfl)
theorem k66 : Cond.fieldLink RX7 19 "GroundProver$Symbols" "arities" "[I" ∈ gW := mc_1 _ (List.mem_of_getElem? (i := 13) rfl)
theorem k67 : Cond.fieldLink RX7 22 "GroundProver$Symbols" "weights" "[I" ∈ gW := mc_1 _ (List.mem_of_getElem? (i := 14) rfl)
theorem k68 : Cond.fieldLink RX7 25 "GroundProver$Symbols" "ranks" "[I" ∈ gW := mc_1 _ (List.mem_of_getElem? (i := 15) rfl)
theorem k69 : Cond.fieldLink RX7 28 "GroundProver$Symbols" "ordinals" "[I" ∈ gW := mc_1 _ (List.mem_of_getElem? (i := 16) rfl)
theorem k100 : Cond.fieldLink RX7 31 "GroundProver$Symbols" "directions" "[Z" ∈ gW := mc_1 _ (List.mem_of_getElem? (i := 17) rfl)
theorem k29 : Cond.fieldLink RX7 35 "GroundProver$Symbols" "count" "I" ∈ gW := mc_1 _ (List.mem_of_getElem? (i := 18) rfl)
theorem k79 : Cond.fieldLink RX7 58 "GroundProver$Symbols" "isByWeight" "Z" ∈ gW := mc_1 _ (List.mem_of_getElem? (i := 19) rfl)
theorem k74 : Cond.fieldLink RX7 62 "GroundProver$Symbols" "isOrderFixed" "Z" ∈ gW := mc_1 _ (List.mem_of_getElem? (i := 20) rfl)
theorem k657 : Cond.arrayClass .byte ∈ gW := mc_1 _ (List.mem_of_getElem? (i := 21) rfl)
theorem k656 : Cond.arrayClass .int ∈ gW := mc_1 _ (List.mem_of_getElem? (i := 22) rfl)
theorem k658 : Cond.arrayClass .boolean ∈ gW := mc_1 _ (List.mem_of_getElem? (i := 23) rfl)
theorem k149 : Cond.constant RX8 11 524288 ∈ gW := mc_1 _ (List.mem_of_getElem? (i := 24) rfl)
theorem k167 : Cond.static Lib.Math.max.name ∈ gW := mc_2 _ (List.mem_of_getElem? (i := 0) rfl)
theorem k168 : Cond.code Lib.Math.max.name Lib.Math.max.code 2 (some .int) ∈ gW := mc_2 _ (List.mem_of_getElem? (i := 1) rfl)
theorem k655 : Cond.fieldLink RX6 17 "GroundProver$Row" "blocks" "[[I" ∈ gW := mc_2 _ (List.mem_of_getElem? (i := 2) rfl)
theorem k155 : Cond.fieldLink RX8 46 "GroundProver$TermStore" "symbols" "LGroundProver$Symbols;" ∈ gW := mc_2 _ (List.mem_of_getElem? (i := 3) rfl)
theorem k146 : Cond.fieldLink RX8 15 "GroundProver$TermStore" "signs" "LGroundProver$Row;" ∈ gW := mc_2 _ (List.mem_of_getElem? (i := 4) rfl)
theorem k147 : Cond.fieldLink RX8 22 "GroundProver$TermStore" "parts" "LGroundProver$Row;" ∈ gW := mc_2 _ (List.mem_of_getElem? (i := 5) rfl)
theorem k160 : Cond.fieldLink RX8 25 "GroundProver$TermStore" "extents" "LGroundProver$Row;" ∈ gW := mc_2 _ (List.mem_of_getElem? (i := 6) rfl)
theorem k193 : Cond.fieldLink RX8 28 "GroundProver$TermStore" "numbers" "LGroundProver$Row;" ∈ gW := mc_2 _ (List.mem_of_getElem? (i := 7) rfl)
theorem k150 : Cond.fieldLink RX8 31 "GroundProver$TermStore" "links" "LGroundProver$Row;" ∈ gW := mc_2 _ (List.mem_of_getElem? (i := 8) rfl)
theorem k143 : Cond.fieldLink RX8 35 "GroundProver$TermStore" "buckets" "LGroundProver$Row;" ∈ gW := mc_2 _ (List.mem_of_getElem? (i := 9) rfl)
theorem k145 : Cond.fieldLink RX8 76 "GroundProver$TermStore" "top" "I" ∈ gW := mc_2 _ (List.mem_of_getElem? (i := 10) rfl)
theorem k120 : Cond.fieldLink RX8 88 "GroundProver$TermStore" "used" "I" ∈ gW := mc_2 _ (List.mem_of_getElem? (i := 11) rfl)
theorem k148 : Cond.fieldLink RX8 85 "GroundProver$TermStore" "freeLink" "I" ∈ gW := mc_2 _ (List.mem_of_getElem? (i := 12) rfl)
theorem k121 : Cond.fieldLink RX8 42 "GroundProver$TermStore" "crowd" "I" ∈ gW := mc_2 _ (List.mem_of_getElem? (i := 13) rfl)
theorem k228 : Cond.fieldLink RX10 35 "GroundProver$Walk" "store" "LGroundProver$TermStore;" ∈ gW := mc_2 _ (List.mem_of_getElem? (i := 14) rfl)
theorem k219 : Cond.fieldLink RX10 15 "GroundProver$Walk" "slots" "LGroundProver$Row;" ∈ gW := mc_2 _ (List.mem_of_getElem? (i := 15) rfl)
theorem k221 : Cond.fieldLink RX10 22 "GroundProver$Walk" "nodes" "LGroundProver$Row;" ∈ gW := mc_2 _ (List.mem_of_getElem? (i := 16) rfl)
theorem k538 : Cond.fieldLink RX10 25 "GroundProver$Walk" "values" "LGroundProver$Row;" ∈ gW := mc_2 _ (List.mem_of_getElem? (i := 17) rfl)
theorem k563 : Cond.fieldLink RX10 28 "GroundProver$Walk" "tallies" "LGroundProver$Row;" ∈ gW := mc_2 _ (List.mem_of_getElem? (i := 18) rfl)
theorem k226 : Cond.fieldLink RX10 31 "GroundProver$Walk" "open" "[I" ∈ gW := mc_2 _ (List.mem_of_getElem? (i := 19) rfl)
theorem k213 : Cond.fieldLink RX10 39 "GroundProver$Walk" "count" "I" ∈ gW := mc_2 _ (List.mem_of_getElem? (i := 20) rfl)
theorem k278 : Cond.fieldLink RX2 61 "GroundProver$Grammar" "symbols" "LGroundProver$Symbols;" ∈ gW := mc_2 _ (List.mem_of_getElem? (i := 21) rfl)
theorem k271 : Cond.fieldLink RX2 15 "GroundProver$Grammar" "owners" "LGroundProver$Row;" ∈ gW := mc_2 _ (List.mem_of_getElem? (i := 22) rfl)
theorem k273 : Cond.fieldLink RX2 21 "GroundProver$Grammar" "signs" "LGroundProver$Row;" ∈ gW := mc_2 _ (List.mem_of_getElem? (i := 23) rfl)
theorem k289 : Cond.fieldLink RX2 25 "GroundProver$Grammar" "parts" "LGroundProver$Row;" ∈ gW := mc_2 _ (List.mem_of_getElem? (i := 24) rfl)
theorem k312 : Cond.fieldLink RX2 28 "GroundProver$Grammar" "waits" "LGroundProver$Row;" ∈ gW := mc_3 _ (List.mem_of_getElem? (i := 0) rfl)
theorem k305 : Cond.fieldLink RX2 31 "GroundProver$Grammar" "users" "LGroundProver$Row;" ∈ gW := mc_3 _ (List.mem_of_getElem? (i := 1) rfl)
theorem k307 : Cond.fieldLink RX2 34 "GroundProver$Grammar" "nextUsers" "LGroundProver$Row;" ∈ gW := mc_3 _ (List.mem_of_getElem? (i := 2) rfl)
theorem k320 : Cond.fieldLink RX2 37 "GroundProver$Grammar" "weights" "LGroundProver$Row;" ∈ gW := mc_3 _ (List.mem_of_getElem? (i := 3) rfl)
theorem k317 : Cond.fieldLink RX2 40 "GroundProver$Grammar" "sizes" "LGroundProver$Row;" ∈ gW := mc_3 _ (List.mem_of_getElem? (i := 4) rfl)
theorem k318 : Cond.fieldLink RX2 43 "GroundProver$Grammar" "depths" "LGroundProver$Row;" ∈ gW := mc_3 _ (List.mem_of_getElem? (i := 5) rfl)
theorem k323 : Cond.fieldLink RX2 46 "GroundProver$Grammar" "heap" "LGroundProver$Row;" ∈ gW := mc_3 _ (List.mem_of_getElem? (i := 6) rfl)
theorem k306 : Cond.fieldLink RX2 49 "GroundProver$Grammar" "chosen" "LGroundProver$Row;" ∈ gW := mc_3 _ (List.mem_of_getElem? (i := 7) rfl)
theorem k326 : Cond.fieldLink RX2 52 "GroundProver$Grammar" "positions" "LGroundProver$Row;" ∈ gW := mc_3 _ (List.mem_of_getElem? (i := 8) rfl)
theorem k339 : Cond.fieldLink RX2 55 "GroundProver$Grammar" "sequence" "LGroundProver$Row;" ∈ gW := mc_3 _ (List.mem_of_getElem? (i := 9) rfl)
theorem k484 : Cond.fieldLink RX2 58 "GroundProver$Grammar" "nodes" "LGroundProver$Row;" ∈ gW := mc_3 _ (List.mem_of_getElem? (i := 10) rfl)
theorem k256 : Cond.fieldLink RX2 65 "GroundProver$Grammar" "classCount" "I" ∈ gW := mc_3 _ (List.mem_of_getElem? (i := 11) rfl)
theorem k257 : Cond.fieldLink RX2 69 "GroundProver$Grammar" "count" "I" ∈ gW := mc_3 _ (List.mem_of_getElem? (i := 12) rfl)
theorem k303 : Cond.fieldLink RX2 119 "GroundProver$Grammar" "heapCount" "I" ∈ gW := mc_3 _ (List.mem_of_getElem? (i := 13) rfl)
theorem k304 : Cond.fieldLink RX2 113 "GroundProver$Grammar" "sequenceCount" "I" ∈ gW := mc_3 _ (List.mem_of_getElem? (i := 14) rfl)
theorem k302 : Cond.fieldLink RX2 116 "GroundProver$Grammar" "mode" "I" ∈ gW := mc_3 _ (List.mem_of_getElem? (i := 15) rfl)
theorem k379 : Cond.fieldLink RX1 43 "GroundProver$Closure" "store" "LGroundProver$TermStore;" ∈ gW := mc_3 _ (List.mem_of_getElem? (i := 16) rfl)
theorem k372 : Cond.fieldLink RX1 47 "GroundProver$Closure" "walk" "LGroundProver$Walk;" ∈ gW := mc_3 _ (List.mem_of_getElem? (i := 17) rfl)
theorem k374 : Cond.fieldLink RX1 15 "GroundProver$Closure" "leaders" "LGroundProver$Row;" ∈ gW := mc_3 _ (List.mem_of_getElem? (i := 18) rfl)
theorem k376 : Cond.fieldLink RX1 21 "GroundProver$Closure" "nextMembers" "LGroundProver$Row;" ∈ gW := mc_3 _ (List.mem_of_getElem? (i := 19) rfl)
theorem k377 : Cond.fieldLink RX1 24 "GroundProver$Closure" "memberCounts" "LGroundProver$Row;" ∈ gW := mc_3 _ (List.mem_of_getElem? (i := 20) rfl)
theorem k410 : Cond.fieldLink RX1 27 "GroundProver$Closure" "twins" "LGroundProver$Row;" ∈ gW := mc_3 _ (List.mem_of_getElem? (i := 21) rfl)
theorem k378 : Cond.fieldLink RX1 30 "GroundProver$Closure" "signs" "LGroundProver$Row;" ∈ gW := mc_3 _ (List.mem_of_getElem? (i := 22) rfl)
theorem k382 : Cond.fieldLink RX1 34 "GroundProver$Closure" "parts" "LGroundProver$Row;" ∈ gW := mc_3 _ (List.mem_of_getElem? (i := 23) rfl)
theorem k399 : Cond.fieldLink RX1 37 "GroundProver$Closure" "buckets" "LGroundProver$Row;" ∈ gW := mc_3 _ (List.mem_of_getElem? (i := 24) rfl)
theorem k409 : Cond.fieldLink RX1 40 "GroundProver$Closure" "links" "LGroundProver$Row;" ∈ gW := mc_4 _ (List.mem_of_getElem? (i := 0) rfl)
theorem k371 : Cond.fieldLink RX1 51 "GroundProver$Closure" "bucketCount" "I" ∈ gW := mc_4 _ (List.mem_of_getElem? (i := 1) rfl)
theorem k429 : Cond.fieldLink RX9 46 "GroundProver$Theory" "symbols" "LGroundProver$Symbols;" ∈ gW := mc_4 _ (List.mem_of_getElem? (i := 2) rfl)
theorem k483 : Cond.fieldLink RX9 50 "GroundProver$Theory" "store" "LGroundProver$TermStore;" ∈ gW := mc_4 _ (List.mem_of_getElem? (i := 3) rfl)
theorem k367 : Cond.fieldLink RX9 54 "GroundProver$Theory" "walk" "LGroundProver$Walk;" ∈ gW := mc_4 _ (List.mem_of_getElem? (i := 4) rfl)
theorem k420 : Cond.fieldLink RX9 58 "GroundProver$Theory" "grammar" "LGroundProver$Grammar;" ∈ gW := mc_4 _ (List.mem_of_getElem? (i := 5) rfl)
theorem k370 : Cond.fieldLink RX9 67 "GroundProver$Theory" "closure" "LGroundProver$Closure;" ∈ gW := mc_4 _ (List.mem_of_getElem? (i := 6) rfl)
theorem k360 : Cond.fieldLink RX9 9 "GroundProver$Theory" "equationLefts" "[I" ∈ gW := mc_4 _ (List.mem_of_getElem? (i := 7) rfl)
theorem k361 : Cond.fieldLink RX9 15 "GroundProver$Theory" "equationRights" "[I" ∈ gW := mc_4 _ (List.mem_of_getElem? (i := 8) rfl)
theorem k359 : Cond.fieldLink RX9 71 "GroundProver$Theory" "equationCount" "I" ∈ gW := mc_4 _ (List.mem_of_getElem? (i := 9) rfl)
theorem k358 : Cond.fieldLink RX11 298 "GroundProver$Theory" "equationCount" "I" ∈ gW := mc_4 _ (List.mem_of_getElem? (i := 10) rfl)
theorem k515 : Cond.fieldLink RX9 75 "GroundProver$Theory" "separationCount" "I" ∈ gW := mc_4 _ (List.mem_of_getElem? (i := 11) rfl)
theorem k514 : Cond.fieldLink RX11 309 "GroundProver$Theory" "separationCount" "I" ∈ gW := mc_4 _ (List.mem_of_getElem? (i := 12) rfl)
theorem k524 : Cond.fieldLink RX9 24 "GroundProver$Theory" "levelEquations" "[I" ∈ gW := mc_4 _ (List.mem_of_getElem? (i := 13) rfl)
theorem k525 : Cond.fieldLink RX9 27 "GroundProver$Theory" "levelSeparations" "[I" ∈ gW := mc_4 _ (List.mem_of_getElem? (i := 14) rfl)
theorem k523 : Cond.fieldLink RX9 85 "GroundProver$Theory" "levelCount" "I" ∈ gW := mc_4 _ (List.mem_of_getElem? (i := 15) rfl)
theorem k522 : Cond.fieldLink RX11 354 "GroundProver$Theory" "levelCount" "I" ∈ gW := mc_4 _ (List.mem_of_getElem? (i := 16) rfl)
theorem k494 : Cond.fieldLink RX9 30 "GroundProver$Theory" "ruleLefts" "[I" ∈ gW := mc_4 _ (List.mem_of_getElem? (i := 17) rfl)
theorem k495 : Cond.fieldLink RX9 33 "GroundProver$Theory" "ruleRights" "[I" ∈ gW := mc_4 _ (List.mem_of_getElem? (i := 18) rfl)
theorem k496 : Cond.fieldLink RX9 42 "GroundProver$Theory" "ruleHints" "LGroundProver$Row;" ∈ gW := mc_4 _ (List.mem_of_getElem? (i := 19) rfl)
theorem k481 : Cond.fieldLink RX9 168 "GroundProver$Theory" "ruleCount" "I" ∈ gW := mc_4 _ (List.mem_of_getElem? (i := 20) rfl)
theorem k28 : Cond.fieldLink RX5 42 "GroundProver$Reader" "symbols" "LGroundProver$Symbols;" ∈ gW := mc_4 _ (List.mem_of_getElem? (i := 21) rfl)
theorem k7 : Cond.fieldLink RX5 9 "GroundProver$Reader" "input" "[B" ∈ gW := mc_4 _ (List.mem_of_getElem? (i := 22) rfl)
theorem k1 : Cond.fieldLink RX5 50 "GroundProver$Reader" "length" "I" ∈ gW := mc_4 _ (List.mem_of_getElem? (i := 23) rfl)
theorem k659 : Cond.arrayClass .long ∈ gW := mc_4 _ (List.mem_of_getElem? (i := 24) rfl)
theorem k57 : Cond.fieldLink RX11 10 "GroundProver" "symbols" "LGroundProver$Symbols;" ∈ gW := mc_5 _ (List.mem_of_getElem? (i := 0) rfl)
theorem k119 : Cond.fieldLink RX11 21 "GroundProver" "store" "LGroundProver$TermStore;" ∈ gW := mc_5 _ (List.mem_of_getElem? (i := 1) rfl)
theorem k212 : Cond.fieldLink RX11 30 "GroundProver" "walk" "LGroundProver$Walk;" ∈ gW := mc_5 _ (List.mem_of_getElem? (i := 2) rfl)
theorem k251 : Cond.fieldLink RX11 37 "GroundProver" "grammar" "LGroundProver$Grammar;" ∈ gW := mc_5 _ (List.mem_of_getElem? (i := 3) rfl)
theorem k357 : Cond.fieldLink RX11 46 "GroundProver" "theory" "LGroundProver$Theory;" ∈ gW := mc_5 _ (List.mem_of_getElem? (i := 4) rfl)
theorem k0 : Cond.fieldLink RX11 55 "GroundProver" "reader" "LGroundProver$Reader;" ∈ gW := mc_5 _ (List.mem_of_getElem? (i := 5) rfl)
theorem k131 : Cond.fieldLink RX11 90 "GroundProver" "numbered" "LGroundProver$Row;" ∈ gW := mc_5 _ (List.mem_of_getElem? (i := 6) rfl)
theorem k113 : Cond.fieldLink RX11 231 "GroundProver" "numberedCount" "I" ∈ gW := mc_5 _ (List.mem_of_getElem? (i := 7) rfl)
theorem k114 : Cond.methodLink RX11 194 yX11_isTerm ∈ gW := mc_5 _ (List.mem_of_getElem? (i := 8) rfl)
theorem k117 : Cond.instanceMethod yX11_isTerm ∈ gW := mc_5 _ (List.mem_of_getElem? (i := 9) rfl)
theorem k115 : Cond.code yX11_isTerm cX11_isTerm 2 (some .boolean) ∈ gW := mc_5 _ (List.mem_of_getElem? (i := 10) rfl)
theorem k214 : Cond.methodLink RX11 253 yX10_clear ∈ gW := mc_5 _ (List.mem_of_getElem? (i := 11) rfl)
theorem k217 : Cond.instanceMethod yX10_clear ∈ gW := mc_5 _ (List.mem_of_getElem? (i := 12) rfl)
theorem k218 : Cond.selects RX10 yX10_clear yX10_clear ∈ gW := mc_5 _ (List.mem_of_getElem? (i := 13) rfl)
theorem k215 : Cond.code yX10_clear cX10_clear 1 none ∈ gW := mc_5 _ (List.mem_of_getElem? (i := 14) rfl)
theorem k132 : Cond.methodLink RX11 202 yX6_get ∈ gW := mc_5 _ (List.mem_of_getElem? (i := 15) rfl)
theorem k135 : Cond.instanceMethod yX6_get ∈ gW := mc_5 _ (List.mem_of_getElem? (i := 16) rfl)
theorem k136 : Cond.selects RX6 yX6_get yX6_get ∈ gW := mc_5 _ (List.mem_of_getElem? (i := 17) rfl)
theorem k133 : Cond.code yX6_get cX6_get 3 (some .int) ∈ gW := mc_5 _ (List.mem_of_getElem? (i := 18) rfl)
theorem k247 : Cond.methodLink RX11 256 yX10_add ∈ gW := mc_5 _ (List.mem_of_getElem? (i := 19) rfl)
theorem k249 : Cond.instanceMethod yX10_add ∈ gW := mc_5 _ (List.mem_of_getElem? (i := 20) rfl)
theorem k250 : Cond.selects RX10 yX10_add yX10_add ∈ gW := mc_5 _ (List.mem_of_getElem? (i := 21) rfl)
theorem k248 : Cond.code yX10_add cX10_add 5 none ∈ gW := mc_5 _ (List.mem_of_getElem? (i := 22) rfl)
theorem k222 : Cond.methodLink RX10 57 yX10_indexOf ∈ gW := mc_5 _ (List.mem_of_getElem? (i := 23) rfl)
theorem k224 : Cond.instanceMethod yX10_indexOf ∈ gW := mc_5 _ (List.mem_of_getElem? (i := 24) rfl)
theorem k225 : Cond.selects RX10 yX10_indexOf yX10_indexOf ∈ gW := mc_6 _ (List.mem_of_getElem? (i := 0) rfl)
theorem k223 : Cond.code yX10_indexOf cX10_indexOf 3 (some .int) ∈ gW := mc_6 _ (List.mem_of_getElem? (i := 1) rfl)
theorem k220 : Cond.methodLink RX10 43 yX6_get ∈ gW := mc_6 _ (List.mem_of_getElem? (i := 2) rfl)
theorem k227 : Cond.constant RX10 60 1048576 ∈ gW := mc_6 _ (List.mem_of_getElem? (i := 3) rfl)
theorem k238 : Cond.methodLink RX10 61 yX10_firstUnlisted ∈ gW := mc_6 _ (List.mem_of_getElem? (i := 4) rfl)
theorem k240 : Cond.instanceMethod yX10_firstUnlisted ∈ gW := mc_6 _ (List.mem_of_getElem? (i := 5) rfl)
theorem k239 : Cond.code yX10_firstUnlisted cX10_firstUnlisted 4 (some .int) ∈ gW := mc_6 _ (List.mem_of_getElem? (i := 6) rfl)
theorem k230 : Cond.methodLink RX10 67 yX8_arity ∈ gW := mc_6 _ (List.mem_of_getElem? (i := 7) rfl)
theorem k232 : Cond.instanceMethod yX8_arity ∈ gW := mc_6 _ (List.mem_of_getElem? (i := 8) rfl)
theorem k233 : Cond.selects RX8 yX8_arity yX8_arity ∈ gW := mc_6 _ (List.mem_of_getElem? (i := 9) rfl)
theorem k231 : Cond.code yX8_arity cX8_arity 2 (some .int) ∈ gW := mc_6 _ (List.mem_of_getElem? (i := 10) rfl)
theorem k144 : Cond.methodLink RX8 50 yX6_get ∈ gW := mc_6 _ (List.mem_of_getElem? (i := 11) rfl)
theorem k229 : Cond.methodLink RX8 54 yX7_arity ∈ gW := mc_6 _ (List.mem_of_getElem? (i := 12) rfl)
theorem k111 : Cond.instanceMethod yX7_arity ∈ gW := mc_6 _ (List.mem_of_getElem? (i := 13) rfl)
theorem k112 : Cond.selects RX7 yX7_arity yX7_arity ∈ gW := mc_6 _ (List.mem_of_getElem? (i := 14) rfl)
theorem k110 : Cond.code yX7_arity cX7_arity 2 (some .int) ∈ gW := mc_6 _ (List.mem_of_getElem? (i := 15) rfl)
theorem k234 : Cond.methodLink RX10 51 yX8_part ∈ gW := mc_6 _ (List.mem_of_getElem? (i := 16) rfl)
theorem k236 : Cond.instanceMethod yX8_part ∈ gW := mc_6 _ (List.mem_of_getElem? (i := 17) rfl)
theorem k237 : Cond.selects RX8 yX8_part yX8_part ∈ gW := mc_6 _ (List.mem_of_getElem? (i := 18) rfl)
theorem k235 : Cond.code yX8_part cX8_part 3 (some .int) ∈ gW := mc_6 _ (List.mem_of_getElem? (i := 19) rfl)
theorem k243 : Cond.methodLink RX10 64 yX10_append ∈ gW := mc_6 _ (List.mem_of_getElem? (i := 20) rfl)
theorem k245 : Cond.instanceMethod yX10_append ∈ gW := mc_6 _ (List.mem_of_getElem? (i := 21) rfl)
theorem k246 : Cond.selects RX10 yX10_append yX10_append ∈ gW := mc_6 _ (List.mem_of_getElem? (i := 22) rfl)
theorem k244 : Cond.code yX10_append cX10_append 2 none ∈ gW := mc_6 _ (List.mem_of_getElem? (i := 23) rfl)
theorem k242 : Cond.methodLink RX10 47 yX6_set ∈ gW := mc_6 _ (List.mem_of_getElem? (i := 24) rfl)
theorem k153 : Cond.instanceMethod yX6_set ∈ gW := mc_7 _ (List.mem_of_getElem? (i := 0) rfl)
theorem k154 : Cond.selects RX6 yX6_set yX6_set ∈ gW := mc_7 _ (List.mem_of_getElem? (i := 1) rfl)
theorem k152 : Cond.code yX6_set cX6_set 4 none ∈ gW := mc_7 _ (List.mem_of_getElem? (i := 2) rfl)
theorem k294 : Cond.methodLink RX11 258 yX2_takeTerms ∈ gW := mc_7 _ (List.mem_of_getElem? (i := 3) rfl)
theorem k296 : Cond.instanceMethod yX2_takeTerms ∈ gW := mc_7 _ (List.mem_of_getElem? (i := 4) rfl)
theorem k297 : Cond.selects RX2 yX2_takeTerms yX2_takeTerms ∈ gW := mc_7 _ (List.mem_of_getElem? (i := 5) rfl)
theorem k295 : Cond.code yX2_takeTerms cX2_takeTerms 6 none ∈ gW := mc_7 _ (List.mem_of_getElem? (i := 6) rfl)
theorem k252 : Cond.methodLink RX2 85 yX10_count ∈ gW := mc_7 _ (List.mem_of_getElem? (i := 7) rfl)
theorem k254 : Cond.instanceMethod yX10_count ∈ gW := mc_7 _ (List.mem_of_getElem? (i := 8) rfl)
theorem k255 : Cond.selects RX10 yX10_count yX10_count ∈ gW := mc_7 _ (List.mem_of_getElem? (i := 9) rfl)
theorem k253 : Cond.code yX10_count cX10_count 1 (some .int) ∈ gW := mc_7 _ (List.mem_of_getElem? (i := 10) rfl)
theorem k258 : Cond.methodLink RX2 90 yX2_clear ∈ gW := mc_7 _ (List.mem_of_getElem? (i := 11) rfl)
theorem k261 : Cond.instanceMethod yX2_clear ∈ gW := mc_7 _ (List.mem_of_getElem? (i := 12) rfl)
theorem k262 : Cond.selects RX2 yX2_clear yX2_clear ∈ gW := mc_7 _ (List.mem_of_getElem? (i := 13) rfl)
theorem k259 : Cond.code yX2_clear cX2_clear 2 none ∈ gW := mc_7 _ (List.mem_of_getElem? (i := 14) rfl)
theorem k263 : Cond.methodLink RX2 93 yX10_node ∈ gW := mc_7 _ (List.mem_of_getElem? (i := 15) rfl)
theorem k265 : Cond.instanceMethod yX10_node ∈ gW := mc_7 _ (List.mem_of_getElem? (i := 16) rfl)
theorem k266 : Cond.selects RX10 yX10_node yX10_node ∈ gW := mc_7 _ (List.mem_of_getElem? (i := 17) rfl)
theorem k264 : Cond.code yX10_node cX10_node 2 (some .int) ∈ gW := mc_7 _ (List.mem_of_getElem? (i := 18) rfl)
theorem k267 : Cond.methodLink RX2 96 yX8_symbol ∈ gW := mc_7 _ (List.mem_of_getElem? (i := 19) rfl)
theorem k269 : Cond.instanceMethod yX8_symbol ∈ gW := mc_7 _ (List.mem_of_getElem? (i := 20) rfl)
theorem k270 : Cond.selects RX8 yX8_symbol yX8_symbol ∈ gW := mc_7 _ (List.mem_of_getElem? (i := 21) rfl)
theorem k268 : Cond.code yX8_symbol cX8_symbol 2 (some .int) ∈ gW := mc_7 _ (List.mem_of_getElem? (i := 22) rfl)
theorem k274 : Cond.methodLink RX2 101 yX2_addProduction ∈ gW := mc_7 _ (List.mem_of_getElem? (i := 23) rfl)
theorem k276 : Cond.instanceMethod yX2_addProduction ∈ gW := mc_7 _ (List.mem_of_getElem? (i := 24) rfl)
theorem k277 : Cond.selects RX2 yX2_addProduction yX2_addProduction ∈ gW := mc_8 _ (List.mem_of_getElem? (i := 0) rfl)
theorem k275 : Cond.code yX2_addProduction cX2_addProduction 4 (some .int) ∈ gW := mc_8 _ (List.mem_of_getElem? (i := 1) rfl)
theorem k272 : Cond.methodLink RX2 72 yX6_set ∈ gW := mc_8 _ (List.mem_of_getElem? (i := 2) rfl)
theorem k281 : Cond.methodLink RX2 105 yX2_arity ∈ gW := mc_8 _ (List.mem_of_getElem? (i := 3) rfl)
theorem k283 : Cond.instanceMethod yX2_arity ∈ gW := mc_8 _ (List.mem_of_getElem? (i := 4) rfl)
theorem k284 : Cond.selects RX2 yX2_arity yX2_arity ∈ gW := mc_8 _ (List.mem_of_getElem? (i := 5) rfl)
theorem k282 : Cond.code yX2_arity cX2_arity 2 (some .int) ∈ gW := mc_8 _ (List.mem_of_getElem? (i := 6) rfl)
theorem k279 : Cond.methodLink RX2 76 yX6_get ∈ gW := mc_8 _ (List.mem_of_getElem? (i := 7) rfl)
theorem k280 : Cond.methodLink RX2 80 yX7_arity ∈ gW := mc_8 _ (List.mem_of_getElem? (i := 8) rfl)
theorem k285 : Cond.methodLink RX2 106 yX10_partOf ∈ gW := mc_8 _ (List.mem_of_getElem? (i := 9) rfl)
theorem k287 : Cond.instanceMethod yX10_partOf ∈ gW := mc_8 _ (List.mem_of_getElem? (i := 10) rfl)
theorem k288 : Cond.selects RX10 yX10_partOf yX10_partOf ∈ gW := mc_8 _ (List.mem_of_getElem? (i := 11) rfl)
theorem k286 : Cond.code yX10_partOf cX10_partOf 3 (some .int) ∈ gW := mc_8 _ (List.mem_of_getElem? (i := 12) rfl)
theorem k290 : Cond.methodLink RX2 109 yX2_setPart ∈ gW := mc_8 _ (List.mem_of_getElem? (i := 13) rfl)
theorem k292 : Cond.instanceMethod yX2_setPart ∈ gW := mc_8 _ (List.mem_of_getElem? (i := 14) rfl)
theorem k293 : Cond.selects RX2 yX2_setPart yX2_setPart ∈ gW := mc_8 _ (List.mem_of_getElem? (i := 15) rfl)
theorem k291 : Cond.code yX2_setPart cX2_setPart 4 none ∈ gW := mc_8 _ (List.mem_of_getElem? (i := 16) rfl)
theorem k298 : Cond.methodLink RX11 262 yX7_orderMode ∈ gW := mc_8 _ (List.mem_of_getElem? (i := 17) rfl)
theorem k300 : Cond.instanceMethod yX7_orderMode ∈ gW := mc_8 _ (List.mem_of_getElem? (i := 18) rfl)
theorem k301 : Cond.selects RX7 yX7_orderMode yX7_orderMode ∈ gW := mc_8 _ (List.mem_of_getElem? (i := 19) rfl)
theorem k299 : Cond.code yX7_orderMode cX7_orderMode 1 (some .int) ∈ gW := mc_8 _ (List.mem_of_getElem? (i := 20) rfl)
theorem k344 : Cond.methodLink RX11 265 yX2_rank ∈ gW := mc_8 _ (List.mem_of_getElem? (i := 21) rfl)
theorem k346 : Cond.instanceMethod yX2_rank ∈ gW := mc_8 _ (List.mem_of_getElem? (i := 22) rfl)
theorem k347 : Cond.selects RX2 yX2_rank yX2_rank ∈ gW := mc_8 _ (List.mem_of_getElem? (i := 23) rfl)
theorem k345 : Cond.code yX2_rank cX2_rank 7 none ∈ gW := mc_8 _ (List.mem_of_getElem? (i := 24) rfl)
theorem k308 : Cond.methodLink RX2 122 yX2_linkUsers ∈ gW := mc_9 _ (List.mem_of_getElem? (i := 0) rfl)
theorem k310 : Cond.instanceMethod yX2_linkUsers ∈ gW := mc_9 _ (List.mem_of_getElem? (i := 1) rfl)
theorem k309 : Cond.code yX2_linkUsers cX2_linkUsers 5 none ∈ gW := mc_9 _ (List.mem_of_getElem? (i := 2) rfl)
theorem k331 : Cond.methodLink RX2 125 yX2_enter ∈ gW := mc_9 _ (List.mem_of_getElem? (i := 3) rfl)
theorem k333 : Cond.instanceMethod yX2_enter ∈ gW := mc_9 _ (List.mem_of_getElem? (i := 4) rfl)
theorem k332 : Cond.code yX2_enter cX2_enter 8 none ∈ gW := mc_9 _ (List.mem_of_getElem? (i := 5) rfl)
theorem k313 : Cond.methodLink RX2 135 yX7_weight ∈ gW := mc_9 _ (List.mem_of_getElem? (i := 6) rfl)
theorem k315 : Cond.instanceMethod yX7_weight ∈ gW := mc_9 _ (List.mem_of_getElem? (i := 7) rfl)
theorem k316 : Cond.selects RX7 yX7_weight yX7_weight ∈ gW := mc_9 _ (List.mem_of_getElem? (i := 8) rfl)
theorem k314 : Cond.code yX7_weight cX7_weight 2 (some .int) ∈ gW := mc_9 _ (List.mem_of_getElem? (i := 9) rfl)
theorem k319 : Cond.methodLink RX2 138 Lib.Math.max.name ∈ gW := mc_9 _ (List.mem_of_getElem? (i := 10) rfl)
theorem k321 : Cond.constant RX2 143 1048575 ∈ gW := mc_9 _ (List.mem_of_getElem? (i := 11) rfl)
theorem k322 : Cond.methodLink RX2 144 Lib.Math.min.name ∈ gW := mc_9 _ (List.mem_of_getElem? (i := 12) rfl)
theorem k163 : Cond.static Lib.Math.min.name ∈ gW := mc_9 _ (List.mem_of_getElem? (i := 13) rfl)
theorem k165 : Cond.code Lib.Math.min.name Lib.Math.min.code 2 (some .int) ∈ gW := mc_9 _ (List.mem_of_getElem? (i := 14) rfl)
theorem k327 : Cond.methodLink RX2 147 yX2_isBefore ∈ gW := mc_9 _ (List.mem_of_getElem? (i := 15) rfl)
theorem k329 : Cond.instanceMethod yX2_isBefore ∈ gW := mc_9 _ (List.mem_of_getElem? (i := 16) rfl)
theorem k328 : Cond.code yX2_isBefore cX2_isBefore 10 (some .boolean) ∈ gW := mc_9 _ (List.mem_of_getElem? (i := 17) rfl)
theorem k325 : Cond.methodLink RX2 151 yX7_rank ∈ gW := mc_9 _ (List.mem_of_getElem? (i := 18) rfl)
theorem k94 : Cond.instanceMethod yX7_rank ∈ gW := mc_9 _ (List.mem_of_getElem? (i := 19) rfl)
theorem k95 : Cond.selects RX7 yX7_rank yX7_rank ∈ gW := mc_9 _ (List.mem_of_getElem? (i := 20) rfl)
theorem k93 : Cond.code yX7_rank cX7_rank 2 (some .int) ∈ gW := mc_9 _ (List.mem_of_getElem? (i := 21) rfl)
theorem k324 : Cond.methodLink RX2 154 yX7_isFromRight ∈ gW := mc_9 _ (List.mem_of_getElem? (i := 22) rfl)
theorem k103 : Cond.instanceMethod yX7_isFromRight ∈ gW := mc_9 _ (List.mem_of_getElem? (i := 23) rfl)
theorem k104 : Cond.selects RX7 yX7_isFromRight yX7_isFromRight ∈ gW := mc_9 _ (List.mem_of_getElem? (i := 24) rfl)
theorem k102 : Cond.code yX7_isFromRight cX7_isFromRight 2 (some .boolean) ∈ gW := mc_10 _ (List.mem_of_getElem? (i := 0) rfl)
theorem k335 : Cond.methodLink RX2 128 yX2_takeLeast ∈ gW := mc_10 _ (List.mem_of_getElem? (i := 1) rfl)
theorem k337 : Cond.instanceMethod yX2_takeLeast ∈ gW := mc_10 _ (List.mem_of_getElem? (i := 2) rfl)
theorem k336 : Cond.code yX2_takeLeast cX2_takeLeast 6 (some .int) ∈ gW := mc_10 _ (List.mem_of_getElem? (i := 3) rfl)
theorem k340 : Cond.methodLink RX2 131 yX2_isReadyAfter ∈ gW := mc_10 _ (List.mem_of_getElem? (i := 4) rfl)
theorem k342 : Cond.instanceMethod yX2_isReadyAfter ∈ gW := mc_10 _ (List.mem_of_getElem? (i := 5) rfl)
theorem k341 : Cond.code yX2_isReadyAfter cX2_isReadyAfter 3 (some .boolean) ∈ gW := mc_10 _ (List.mem_of_getElem? (i := 6) rfl)
theorem k348 : Cond.methodLink RX11 267 yX10_indexOf ∈ gW := mc_10 _ (List.mem_of_getElem? (i := 7) rfl)
theorem k349 : Cond.methodLink RX11 270 yX2_position ∈ gW := mc_10 _ (List.mem_of_getElem? (i := 8) rfl)
theorem k351 : Cond.instanceMethod yX2_position ∈ gW := mc_10 _ (List.mem_of_getElem? (i := 9) rfl)
theorem k352 : Cond.selects RX2 yX2_position yX2_position ∈ gW := mc_10 _ (List.mem_of_getElem? (i := 10) rfl)
theorem k350 : Cond.code yX2_position cX2_position 2 (some .int) ∈ gW := mc_10 _ (List.mem_of_getElem? (i := 11) rfl)
theorem k535 : Cond.classLink RX11 98 g_ISE ∈ gW := mc_10 _ (List.mem_of_getElem? (i := 12) rfl)
theorem k526 : Cond.methodLink RX11 359 yX9_openLevel ∈ gW := mc_10 _ (List.mem_of_getElem? (i := 13) rfl)
theorem k528 : Cond.instanceMethod yX9_openLevel ∈ gW := mc_10 _ (List.mem_of_getElem? (i := 14) rfl)
theorem k529 : Cond.selects RX9 yX9_openLevel yX9_openLevel ∈ gW := mc_10 _ (List.mem_of_getElem? (i := 15) rfl)
theorem k527 : Cond.code yX9_openLevel cX9_openLevel 1 none ∈ gW := mc_10 _ (List.mem_of_getElem? (i := 16) rfl)
theorem k127 : Cond.methodLink RX11 199 yX11_tidy ∈ gW := mc_10 _ (List.mem_of_getElem? (i := 17) rfl)
theorem k129 : Cond.instanceMethod yX11_tidy ∈ gW := mc_10 _ (List.mem_of_getElem? (i := 18) rfl)
theorem k128 : Cond.code yX11_tidy cX11_tidy 2 none ∈ gW := mc_10 _ (List.mem_of_getElem? (i := 19) rfl)
theorem k122 : Cond.methodLink RX11 454 yX8_isCrowded ∈ gW := mc_10 _ (List.mem_of_getElem? (i := 20) rfl)
theorem k125 : Cond.instanceMethod yX8_isCrowded ∈ gW := mc_10 _ (List.mem_of_getElem? (i := 21) rfl)
theorem k126 : Cond.selects RX8 yX8_isCrowded yX8_isCrowded ∈ gW := mc_10 _ (List.mem_of_getElem? (i := 22) rfl)
theorem k123 : Cond.code yX8_isCrowded cX8_isCrowded 1 (some .boolean) ∈ gW := mc_10 _ (List.mem_of_getElem? (i := 23) rfl)
theorem k151 : Cond.methodLink RX8 68 yX6_set ∈ gW := mc_10 _ (List.mem_of_getElem? (i := 24) rfl)
theorem k139 : Cond.methodLink RX8 72 yX8_bucketOf ∈ gW := mc_11 _ (List.mem_of_getElem? (i := 0) rfl)
theorem k141 : Cond.instanceMethod yX8_bucketOf ∈ gW := mc_11 _ (List.mem_of_getElem? (i := 1) rfl)
theorem k140 : Cond.code yX8_bucketOf cX8_bucketOf 6 (some .int) ∈ gW := mc_11 _ (List.mem_of_getElem? (i := 2) rfl)
theorem k137 : Cond.constant RX8 83 131071 ∈ gW := mc_11 _ (List.mem_of_getElem? (i := 3) rfl)
theorem k138 : Cond.constant RX8 84 739982445 ∈ gW := mc_11 _ (List.mem_of_getElem? (i := 4) rfl)
theorem k577 : Cond.methodLink RX11 383 yX9_makesEqual ∈ gW := mc_11 _ (List.mem_of_getElem? (i := 5) rfl)
theorem k579 : Cond.instanceMethod yX9_makesEqual ∈ gW := mc_11 _ (List.mem_of_getElem? (i := 6) rfl)
theorem k580 : Cond.selects RX9 yX9_makesEqual yX9_makesEqual ∈ gW := mc_11 _ (List.mem_of_getElem? (i := 7) rfl)
theorem k578 : Cond.code yX9_makesEqual cX9_makesEqual 3 (some .boolean) ∈ gW := mc_11 _ (List.mem_of_getElem? (i := 8) rfl)
theorem k576 : Cond.methodLink RX9 217 yX9_normalize ∈ gW := mc_11 _ (List.mem_of_getElem? (i := 9) rfl)
theorem k574 : Cond.instanceMethod yX9_normalize ∈ gW := mc_11 _ (List.mem_of_getElem? (i := 10) rfl)
theorem k575 : Cond.selects RX9 yX9_normalize yX9_normalize ∈ gW := mc_11 _ (List.mem_of_getElem? (i := 11) rfl)
theorem k573 : Cond.code yX9_normalize cX9_normalize 5 (some .int) ∈ gW := mc_11 _ (List.mem_of_getElem? (i := 12) rfl)
theorem k368 : Cond.methodLink RX9 133 yX10_clear ∈ gW := mc_11 _ (List.mem_of_getElem? (i := 13) rfl)
theorem k369 : Cond.methodLink RX9 138 yX10_add ∈ gW := mc_11 _ (List.mem_of_getElem? (i := 14) rfl)
theorem k537 : Cond.methodLink RX9 193 yX10_count ∈ gW := mc_11 _ (List.mem_of_getElem? (i := 15) rfl)
theorem k542 : Cond.methodLink RX9 196 yX10_rebuild ∈ gW := mc_11 _ (List.mem_of_getElem? (i := 16) rfl)
theorem k544 : Cond.instanceMethod yX10_rebuild ∈ gW := mc_11 _ (List.mem_of_getElem? (i := 17) rfl)
theorem k545 : Cond.selects RX10 yX10_rebuild yX10_rebuild ∈ gW := mc_11 _ (List.mem_of_getElem? (i := 18) rfl)
theorem k543 : Cond.code yX10_rebuild cX10_rebuild 7 (some .int) ∈ gW := mc_11 _ (List.mem_of_getElem? (i := 19) rfl)
theorem k539 : Cond.methodLink RX10 79 yX10_partOf ∈ gW := mc_11 _ (List.mem_of_getElem? (i := 20) rfl)
theorem k540 : Cond.methodLink RX10 85 yX8_symbol ∈ gW := mc_11 _ (List.mem_of_getElem? (i := 21) rfl)
theorem k541 : Cond.methodLink RX10 88 yX8_make ∈ gW := mc_11 _ (List.mem_of_getElem? (i := 22) rfl)
theorem k179 : Cond.instanceMethod yX8_make ∈ gW := mc_11 _ (List.mem_of_getElem? (i := 23) rfl)
theorem k180 : Cond.selects RX8 yX8_make yX8_make ∈ gW := mc_11 _ (List.mem_of_getElem? (i := 24) rfl)
theorem k178 : Cond.code yX8_make cX8_make 9 (some .int) ∈ gW := mc_12 _ (List.mem_of_getElem? (i := 0) rfl)
theorem k173 : Cond.methodLink RX8 79 yX8_keep ∈ gW := mc_12 _ (List.mem_of_getElem? (i := 1) rfl)
theorem k175 : Cond.instanceMethod yX8_keep ∈ gW := mc_12 _ (List.mem_of_getElem? (i := 2) rfl)
theorem k174 : Cond.code yX8_keep cX8_keep 8 (some .int) ∈ gW := mc_12 _ (List.mem_of_getElem? (i := 3) rfl)
theorem k156 : Cond.methodLink RX8 59 yX7_variableOrdinal ∈ gW := mc_12 _ (List.mem_of_getElem? (i := 4) rfl)
theorem k158 : Cond.instanceMethod yX7_variableOrdinal ∈ gW := mc_12 _ (List.mem_of_getElem? (i := 5) rfl)
theorem k159 : Cond.selects RX7 yX7_variableOrdinal yX7_variableOrdinal ∈ gW := mc_12 _ (List.mem_of_getElem? (i := 6) rfl)
theorem k157 : Cond.code yX7_variableOrdinal cX7_variableOrdinal 2 (some .int) ∈ gW := mc_12 _ (List.mem_of_getElem? (i := 7) rfl)
theorem k169 : Cond.methodLink RX8 91 yX8_extentOver ∈ gW := mc_12 _ (List.mem_of_getElem? (i := 8) rfl)
theorem k171 : Cond.instanceMethod yX8_extentOver ∈ gW := mc_12 _ (List.mem_of_getElem? (i := 9) rfl)
theorem k170 : Cond.code yX8_extentOver cX8_extentOver 8 (some .int) ∈ gW := mc_12 _ (List.mem_of_getElem? (i := 10) rfl)
theorem k161 : Cond.constant RX8 94 4194303 ∈ gW := mc_12 _ (List.mem_of_getElem? (i := 11) rfl)
theorem k162 : Cond.methodLink RX8 95 Lib.Math.min.name ∈ gW := mc_12 _ (List.mem_of_getElem? (i := 12) rfl)
theorem k166 : Cond.methodLink RX8 101 Lib.Math.max.name ∈ gW := mc_12 _ (List.mem_of_getElem? (i := 13) rfl)
theorem k547 : Cond.methodLink RX9 199 yX9_ruleFor ∈ gW := mc_12 _ (List.mem_of_getElem? (i := 14) rfl)
theorem k549 : Cond.instanceMethod yX9_ruleFor ∈ gW := mc_12 _ (List.mem_of_getElem? (i := 15) rfl)
theorem k548 : Cond.code yX9_ruleFor cX9_ruleFor 3 (some .int) ∈ gW := mc_12 _ (List.mem_of_getElem? (i := 16) rfl)
theorem k546 : Cond.methodLink RX9 190 yX6_get ∈ gW := mc_12 _ (List.mem_of_getElem? (i := 17) rfl)
theorem k551 : Cond.methodLink RX9 202 yX9_rightSide ∈ gW := mc_12 _ (List.mem_of_getElem? (i := 18) rfl)
theorem k553 : Cond.instanceMethod yX9_rightSide ∈ gW := mc_12 _ (List.mem_of_getElem? (i := 19) rfl)
theorem k554 : Cond.selects RX9 yX9_rightSide yX9_rightSide ∈ gW := mc_12 _ (List.mem_of_getElem? (i := 20) rfl)
theorem k552 : Cond.code yX9_rightSide cX9_rightSide 2 (some .int) ∈ gW := mc_12 _ (List.mem_of_getElem? (i := 21) rfl)
theorem k559 : Cond.methodLink RX9 205 yX10_setValue ∈ gW := mc_12 _ (List.mem_of_getElem? (i := 22) rfl)
theorem k561 : Cond.instanceMethod yX10_setValue ∈ gW := mc_12 _ (List.mem_of_getElem? (i := 23) rfl)
theorem k562 : Cond.selects RX10 yX10_setValue yX10_setValue ∈ gW := mc_12 _ (List.mem_of_getElem? (i := 24) rfl)
theorem k560 : Cond.code yX10_setValue cX10_setValue 3 none ∈ gW := mc_13 _ (List.mem_of_getElem? (i := 0) rfl)
theorem k564 : Cond.methodLink RX9 208 yX10_sumOfParts ∈ gW := mc_13 _ (List.mem_of_getElem? (i := 1) rfl)
theorem k566 : Cond.instanceMethod yX10_sumOfParts ∈ gW := mc_13 _ (List.mem_of_getElem? (i := 2) rfl)
theorem k567 : Cond.selects RX10 yX10_sumOfParts yX10_sumOfParts ∈ gW := mc_13 _ (List.mem_of_getElem? (i := 3) rfl)
theorem k565 : Cond.code yX10_sumOfParts cX10_sumOfParts 4 (some .int) ∈ gW := mc_13 _ (List.mem_of_getElem? (i := 4) rfl)
theorem k568 : Cond.methodLink RX9 211 yX10_setTally ∈ gW := mc_13 _ (List.mem_of_getElem? (i := 5) rfl)
theorem k570 : Cond.instanceMethod yX10_setTally ∈ gW := mc_13 _ (List.mem_of_getElem? (i := 6) rfl)
theorem k571 : Cond.selects RX10 yX10_setTally yX10_setTally ∈ gW := mc_13 _ (List.mem_of_getElem? (i := 7) rfl)
theorem k569 : Cond.code yX10_setTally cX10_setTally 3 none ∈ gW := mc_13 _ (List.mem_of_getElem? (i := 8) rfl)
theorem k555 : Cond.methodLink RX9 214 yX10_value ∈ gW := mc_13 _ (List.mem_of_getElem? (i := 9) rfl)
theorem k557 : Cond.instanceMethod yX10_value ∈ gW := mc_13 _ (List.mem_of_getElem? (i := 10) rfl)
theorem k558 : Cond.selects RX10 yX10_value yX10_value ∈ gW := mc_13 _ (List.mem_of_getElem? (i := 11) rfl)
theorem k556 : Cond.code yX10_value cX10_value 2 (some .int) ∈ gW := mc_13 _ (List.mem_of_getElem? (i := 12) rfl)
theorem k585 : Cond.methodLink RX11 393 yX9_countSteps ∈ gW := mc_13 _ (List.mem_of_getElem? (i := 13) rfl)
theorem k587 : Cond.instanceMethod yX9_countSteps ∈ gW := mc_13 _ (List.mem_of_getElem? (i := 14) rfl)
theorem k588 : Cond.selects RX9 yX9_countSteps yX9_countSteps ∈ gW := mc_13 _ (List.mem_of_getElem? (i := 15) rfl)
theorem k586 : Cond.code yX9_countSteps cX9_countSteps 2 (some .int) ∈ gW := mc_13 _ (List.mem_of_getElem? (i := 16) rfl)
theorem k581 : Cond.methodLink RX9 223 yX10_tally ∈ gW := mc_13 _ (List.mem_of_getElem? (i := 17) rfl)
theorem k583 : Cond.instanceMethod yX10_tally ∈ gW := mc_13 _ (List.mem_of_getElem? (i := 18) rfl)
theorem k584 : Cond.selects RX10 yX10_tally yX10_tally ∈ gW := mc_13 _ (List.mem_of_getElem? (i := 19) rfl)
theorem k582 : Cond.code yX10_tally cX10_tally 2 (some .int) ∈ gW := mc_13 _ (List.mem_of_getElem? (i := 20) rfl)
theorem k603 : Cond.methodLink RL 23 yL_below ∈ gW := mc_13 _ (List.mem_of_getElem? (i := 21) rfl)
theorem k606 : Cond.static yL_below ∈ gW := mc_13 _ (List.mem_of_getElem? (i := 22) rfl)
theorem k604 : Cond.code yL_below cL_below 2 (some .int) ∈ gW := mc_13 _ (List.mem_of_getElem? (i := 23) rfl)
theorem k589 : Cond.constant RL 7 2147483647 ∈ gW := mc_13 _ (List.mem_of_getElem? (i := 24) rfl)
theorem k626 : Cond.methodLink RL 45 yL_cell ∈ gW := mc_14 _ (List.mem_of_getElem? (i := 0) rfl)
theorem k628 : Cond.static yL_cell ∈ gW := mc_14 _ (List.mem_of_getElem? (i := 1) rfl)
theorem k627 : Cond.code yL_cell cL_cell 2 (some .int) ∈ gW := mc_14 _ (List.mem_of_getElem? (i := 2) rfl)
theorem k590 : Cond.constant RL 8 790386105 ∈ gW := mc_14 _ (List.mem_of_getElem? (i := 3) rfl)
theorem k607 : Cond.methodLink RL 28 yL_declare ∈ gW := mc_14 _ (List.mem_of_getElem? (i := 4) rfl)
theorem k609 : Cond.static yL_declare ∈ gW := mc_14 _ (List.mem_of_getElem? (i := 5) rfl)
theorem k608 : Cond.code yL_declare cL_declare 5 (some .int) ∈ gW := mc_14 _ (List.mem_of_getElem? (i := 6) rfl)
theorem k591 : Cond.methodLink RL 9 yX11_feed ∈ gW := mc_14 _ (List.mem_of_getElem? (i := 7) rfl)
theorem k593 : Cond.instanceMethod yX11_feed ∈ gW := mc_14 _ (List.mem_of_getElem? (i := 8) rfl)
theorem k594 : Cond.selects RX11 yX11_feed yX11_feed ∈ gW := mc_14 _ (List.mem_of_getElem? (i := 9) rfl)
theorem k592 : Cond.code yX11_feed cX11_feed 6 (some .int) ∈ gW := mc_14 _ (List.mem_of_getElem? (i := 10) rfl)
theorem k2 : Cond.methodLink RX11 94 yX5_length ∈ gW := mc_14 _ (List.mem_of_getElem? (i := 11) rfl)
theorem k5 : Cond.instanceMethod yX5_length ∈ gW := mc_14 _ (List.mem_of_getElem? (i := 12) rfl)
theorem k6 : Cond.selects RX5 yX5_length yX5_length ∈ gW := mc_14 _ (List.mem_of_getElem? (i := 13) rfl)
theorem k3 : Cond.code yX5_length cX5_length 1 (some .int) ∈ gW := mc_14 _ (List.mem_of_getElem? (i := 14) rfl)
theorem k8 : Cond.methodLink RX11 105 yX5_append ∈ gW := mc_14 _ (List.mem_of_getElem? (i := 15) rfl)
theorem k10 : Cond.instanceMethod yX5_append ∈ gW := mc_14 _ (List.mem_of_getElem? (i := 16) rfl)
theorem k11 : Cond.selects RX5 yX5_append yX5_append ∈ gW := mc_14 _ (List.mem_of_getElem? (i := 17) rfl)
theorem k9 : Cond.code yX5_append cX5_append 3 none ∈ gW := mc_14 _ (List.mem_of_getElem? (i := 18) rfl)
theorem k595 : Cond.methodLink RL 15 yX11_trim ∈ gW := mc_14 _ (List.mem_of_getElem? (i := 19) rfl)
theorem k597 : Cond.instanceMethod yX11_trim ∈ gW := mc_14 _ (List.mem_of_getElem? (i := 20) rfl)
theorem k598 : Cond.selects RX11 yX11_trim yX11_trim ∈ gW := mc_14 _ (List.mem_of_getElem? (i := 21) rfl)
theorem k596 : Cond.code yX11_trim cX11_trim 2 (some .int) ∈ gW := mc_14 _ (List.mem_of_getElem? (i := 22) rfl)
theorem k12 : Cond.methodLink RX11 113 yX5_shorten ∈ gW := mc_14 _ (List.mem_of_getElem? (i := 23) rfl)
theorem k14 : Cond.instanceMethod yX5_shorten ∈ gW := mc_14 _ (List.mem_of_getElem? (i := 24) rfl)
theorem k15 : Cond.selects RX5 yX5_shorten yX5_shorten ∈ gW := mc_15 _ (List.mem_of_getElem? (i := 0) rfl)
theorem k13 : Cond.code yX5_shorten cX5_shorten 2 none ∈ gW := mc_15 _ (List.mem_of_getElem? (i := 1) rfl)
theorem k599 : Cond.methodLink RL 19 yX11_declare ∈ gW := mc_15 _ (List.mem_of_getElem? (i := 2) rfl)
theorem k601 : Cond.instanceMethod yX11_declare ∈ gW := mc_15 _ (List.mem_of_getElem? (i := 3) rfl)
theorem k602 : Cond.selects RX11 yX11_declare yX11_declare ∈ gW := mc_15 _ (List.mem_of_getElem? (i := 4) rfl)
theorem k600 : Cond.code yX11_declare cX11_declare 6 (some .int) ∈ gW := mc_15 _ (List.mem_of_getElem? (i := 5) rfl)
theorem k24 : Cond.methodLink RX11 116 yX5_holdsName ∈ gW := mc_15 _ (List.mem_of_getElem? (i := 6) rfl)
theorem k26 : Cond.instanceMethod yX5_holdsName ∈ gW := mc_15 _ (List.mem_of_getElem? (i := 7) rfl)
theorem k27 : Cond.selects RX5 yX5_holdsName yX5_holdsName ∈ gW := mc_15 _ (List.mem_of_getElem? (i := 8) rfl)
theorem k25 : Cond.code yX5_holdsName cX5_holdsName 2 (some .boolean) ∈ gW := mc_15 _ (List.mem_of_getElem? (i := 9) rfl)
theorem k16 : Cond.methodLink RX5 59 yX5_isLetter ∈ gW := mc_15 _ (List.mem_of_getElem? (i := 10) rfl)
theorem k18 : Cond.instanceMethod yX5_isLetter ∈ gW := mc_15 _ (List.mem_of_getElem? (i := 11) rfl)
theorem k17 : Cond.code yX5_isLetter cX5_isLetter 2 (some .boolean) ∈ gW := mc_15 _ (List.mem_of_getElem? (i := 12) rfl)
theorem k20 : Cond.methodLink RX5 63 yX5_isNamePart ∈ gW := mc_15 _ (List.mem_of_getElem? (i := 13) rfl)
theorem k22 : Cond.instanceMethod yX5_isNamePart ∈ gW := mc_15 _ (List.mem_of_getElem? (i := 14) rfl)
theorem k21 : Cond.code yX5_isNamePart cX5_isNamePart 2 (some .boolean) ∈ gW := mc_15 _ (List.mem_of_getElem? (i := 15) rfl)
theorem k49 : Cond.methodLink RX11 120 yX5_heldSymbol ∈ gW := mc_15 _ (List.mem_of_getElem? (i := 16) rfl)
theorem k51 : Cond.instanceMethod yX5_heldSymbol ∈ gW := mc_15 _ (List.mem_of_getElem? (i := 17) rfl)
theorem k52 : Cond.selects RX5 yX5_heldSymbol yX5_heldSymbol ∈ gW := mc_15 _ (List.mem_of_getElem? (i := 18) rfl)
theorem k50 : Cond.code yX5_heldSymbol cX5_heldSymbol 1 (some .int) ∈ gW := mc_15 _ (List.mem_of_getElem? (i := 19) rfl)
theorem k45 : Cond.methodLink RX5 66 yX7_find ∈ gW := mc_15 _ (List.mem_of_getElem? (i := 20) rfl)
theorem k47 : Cond.instanceMethod yX7_find ∈ gW := mc_15 _ (List.mem_of_getElem? (i := 21) rfl)
theorem k48 : Cond.selects RX7 yX7_find yX7_find ∈ gW := mc_15 _ (List.mem_of_getElem? (i := 22) rfl)
theorem k46 : Cond.code yX7_find cX7_find 5 (some .int) ∈ gW := mc_15 _ (List.mem_of_getElem? (i := 23) rfl)
theorem k41 : Cond.methodLink RX7 46 yX7_isNameAt ∈ gW := mc_15 _ (List.mem_of_getElem? (i := 24) rfl)
theorem k43 : Cond.instanceMethod yX7_isNameAt ∈ gW := mc_16 _ (List.mem_of_getElem? (i := 0) rfl)
theorem k42 : Cond.code yX7_isNameAt cX7_isNameAt 6 (some .boolean) ∈ gW := mc_16 _ (List.mem_of_getElem? (i := 1) rfl)
theorem k31 : Cond.methodLink RX7 50 yX7_nameLength ∈ gW := mc_16 _ (List.mem_of_getElem? (i := 2) rfl)
theorem k34 : Cond.instanceMethod yX7_nameLength ∈ gW := mc_16 _ (List.mem_of_getElem? (i := 3) rfl)
theorem k35 : Cond.selects RX7 yX7_nameLength yX7_nameLength ∈ gW := mc_16 _ (List.mem_of_getElem? (i := 4) rfl)
theorem k32 : Cond.code yX7_nameLength cX7_nameLength 2 (some .int) ∈ gW := mc_16 _ (List.mem_of_getElem? (i := 5) rfl)
theorem k37 : Cond.methodLink RX7 54 yX7_nameByte ∈ gW := mc_16 _ (List.mem_of_getElem? (i := 6) rfl)
theorem k39 : Cond.instanceMethod yX7_nameByte ∈ gW := mc_16 _ (List.mem_of_getElem? (i := 7) rfl)
theorem k40 : Cond.selects RX7 yX7_nameByte yX7_nameByte ∈ gW := mc_16 _ (List.mem_of_getElem? (i := 8) rfl)
theorem k38 : Cond.code yX7_nameByte cX7_nameByte 4 (some .byte) ∈ gW := mc_16 _ (List.mem_of_getElem? (i := 9) rfl)
theorem k53 : Cond.methodLink RX11 123 yX5_drain ∈ gW := mc_16 _ (List.mem_of_getElem? (i := 10) rfl)
theorem k55 : Cond.instanceMethod yX5_drain ∈ gW := mc_16 _ (List.mem_of_getElem? (i := 11) rfl)
theorem k56 : Cond.selects RX5 yX5_drain yX5_drain ∈ gW := mc_16 _ (List.mem_of_getElem? (i := 12) rfl)
theorem k54 : Cond.code yX5_drain cX5_drain 2 (some .int) ∈ gW := mc_16 _ (List.mem_of_getElem? (i := 13) rfl)
theorem k58 : Cond.methodLink RX11 128 yX7_isFull ∈ gW := mc_16 _ (List.mem_of_getElem? (i := 14) rfl)
theorem k60 : Cond.instanceMethod yX7_isFull ∈ gW := mc_16 _ (List.mem_of_getElem? (i := 15) rfl)
theorem k61 : Cond.selects RX7 yX7_isFull yX7_isFull ∈ gW := mc_16 _ (List.mem_of_getElem? (i := 16) rfl)
theorem k59 : Cond.code yX7_isFull cX7_isFull 1 (some .boolean) ∈ gW := mc_16 _ (List.mem_of_getElem? (i := 17) rfl)
theorem k65 : Cond.methodLink RX11 133 yX5_bytes ∈ gW := mc_16 _ (List.mem_of_getElem? (i := 18) rfl)
theorem k63 : Cond.instanceMethod yX5_bytes ∈ gW := mc_16 _ (List.mem_of_getElem? (i := 19) rfl)
theorem k64 : Cond.selects RX5 yX5_bytes yX5_bytes ∈ gW := mc_16 _ (List.mem_of_getElem? (i := 20) rfl)
theorem k62 : Cond.code yX5_bytes cX5_bytes 1 (some (.array .byte)) ∈ gW := mc_16 _ (List.mem_of_getElem? (i := 21) rfl)
theorem k70 : Cond.methodLink RX11 137 yX7_add ∈ gW := mc_16 _ (List.mem_of_getElem? (i := 22) rfl)
theorem k72 : Cond.instanceMethod yX7_add ∈ gW := mc_16 _ (List.mem_of_getElem? (i := 23) rfl)
theorem k73 : Cond.selects RX7 yX7_add yX7_add ∈ gW := mc_16 _ (List.mem_of_getElem? (i := 24) rfl)
theorem k71 : Cond.code yX7_add cX7_add 7 (some .int) ∈ gW := mc_17 _ (List.mem_of_getElem? (i := 0) rfl)
theorem k610 : Cond.methodLink RL 31 yX11_orderByWeight ∈ gW := mc_17 _ (List.mem_of_getElem? (i := 1) rfl)
theorem k612 : Cond.instanceMethod yX11_orderByWeight ∈ gW := mc_17 _ (List.mem_of_getElem? (i := 2) rfl)
theorem k613 : Cond.selects RX11 yX11_orderByWeight yX11_orderByWeight ∈ gW := mc_17 _ (List.mem_of_getElem? (i := 3) rfl)
theorem k611 : Cond.code yX11_orderByWeight cX11_orderByWeight 3 (some .boolean) ∈ gW := mc_17 _ (List.mem_of_getElem? (i := 4) rfl)
theorem k75 : Cond.methodLink RX11 153 yX7_isOrderFixed ∈ gW := mc_17 _ (List.mem_of_getElem? (i := 5) rfl)
theorem k77 : Cond.instanceMethod yX7_isOrderFixed ∈ gW := mc_17 _ (List.mem_of_getElem? (i := 6) rfl)
theorem k78 : Cond.selects RX7 yX7_isOrderFixed yX7_isOrderFixed ∈ gW := mc_17 _ (List.mem_of_getElem? (i := 7) rfl)
theorem k76 : Cond.code yX7_isOrderFixed cX7_isOrderFixed 1 (some .boolean) ∈ gW := mc_17 _ (List.mem_of_getElem? (i := 8) rfl)
theorem k80 : Cond.methodLink RX11 158 yX7_isByWeight ∈ gW := mc_17 _ (List.mem_of_getElem? (i := 9) rfl)
theorem k82 : Cond.instanceMethod yX7_isByWeight ∈ gW := mc_17 _ (List.mem_of_getElem? (i := 10) rfl)
theorem k83 : Cond.selects RX7 yX7_isByWeight yX7_isByWeight ∈ gW := mc_17 _ (List.mem_of_getElem? (i := 11) rfl)
theorem k81 : Cond.code yX7_isByWeight cX7_isByWeight 1 (some .boolean) ∈ gW := mc_17 _ (List.mem_of_getElem? (i := 12) rfl)
theorem k84 : Cond.methodLink RX11 161 yX7_chooseOrder ∈ gW := mc_17 _ (List.mem_of_getElem? (i := 13) rfl)
theorem k86 : Cond.instanceMethod yX7_chooseOrder ∈ gW := mc_17 _ (List.mem_of_getElem? (i := 14) rfl)
theorem k87 : Cond.selects RX7 yX7_chooseOrder yX7_chooseOrder ∈ gW := mc_17 _ (List.mem_of_getElem? (i := 15) rfl)
theorem k85 : Cond.code yX7_chooseOrder cX7_chooseOrder 2 none ∈ gW := mc_17 _ (List.mem_of_getElem? (i := 16) rfl)
theorem k614 : Cond.methodLink RL 35 yX11_setDirection ∈ gW := mc_17 _ (List.mem_of_getElem? (i := 17) rfl)
theorem k616 : Cond.instanceMethod yX11_setDirection ∈ gW := mc_17 _ (List.mem_of_getElem? (i := 18) rfl)
theorem k617 : Cond.selects RX11 yX11_setDirection yX11_setDirection ∈ gW := mc_17 _ (List.mem_of_getElem? (i := 19) rfl)
theorem k615 : Cond.code yX11_setDirection cX11_setDirection 4 (some .boolean) ∈ gW := mc_17 _ (List.mem_of_getElem? (i := 20) rfl)
theorem k88 : Cond.methodLink RX11 165 yX7_has ∈ gW := mc_17 _ (List.mem_of_getElem? (i := 21) rfl)
theorem k90 : Cond.instanceMethod yX7_has ∈ gW := mc_17 _ (List.mem_of_getElem? (i := 22) rfl)
theorem k91 : Cond.selects RX7 yX7_has yX7_has ∈ gW := mc_17 _ (List.mem_of_getElem? (i := 23) rfl)
theorem k89 : Cond.code yX7_has cX7_has 2 (some .boolean) ∈ gW := mc_17 _ (List.mem_of_getElem? (i := 24) rfl)
theorem k101 : Cond.methodLink RX11 184 yX7_isFromRight ∈ gW := mc_18 _ (List.mem_of_getElem? (i := 0) rfl)
theorem k105 : Cond.methodLink RX11 187 yX7_direct ∈ gW := mc_18 _ (List.mem_of_getElem? (i := 1) rfl)
theorem k107 : Cond.instanceMethod yX7_direct ∈ gW := mc_18 _ (List.mem_of_getElem? (i := 2) rfl)
theorem k108 : Cond.selects RX7 yX7_direct yX7_direct ∈ gW := mc_18 _ (List.mem_of_getElem? (i := 3) rfl)
theorem k106 : Cond.code yX7_direct cX7_direct 3 none ∈ gW := mc_18 _ (List.mem_of_getElem? (i := 4) rfl)
theorem k618 : Cond.methodLink RL 39 yX11_promote ∈ gW := mc_18 _ (List.mem_of_getElem? (i := 5) rfl)
theorem k620 : Cond.instanceMethod yX11_promote ∈ gW := mc_18 _ (List.mem_of_getElem? (i := 6) rfl)
theorem k621 : Cond.selects RX11 yX11_promote yX11_promote ∈ gW := mc_18 _ (List.mem_of_getElem? (i := 7) rfl)
theorem k619 : Cond.code yX11_promote cX11_promote 4 (some .int) ∈ gW := mc_18 _ (List.mem_of_getElem? (i := 8) rfl)
theorem k92 : Cond.methodLink RX11 174 yX7_rank ∈ gW := mc_18 _ (List.mem_of_getElem? (i := 9) rfl)
theorem k96 : Cond.methodLink RX11 178 yX7_moveTo ∈ gW := mc_18 _ (List.mem_of_getElem? (i := 10) rfl)
theorem k98 : Cond.instanceMethod yX7_moveTo ∈ gW := mc_18 _ (List.mem_of_getElem? (i := 11) rfl)
theorem k99 : Cond.selects RX7 yX7_moveTo yX7_moveTo ∈ gW := mc_18 _ (List.mem_of_getElem? (i := 12) rfl)
theorem k97 : Cond.code yX7_moveTo cX7_moveTo 5 none ∈ gW := mc_18 _ (List.mem_of_getElem? (i := 13) rfl)
theorem k622 : Cond.methodLink RL 42 yX11_rankOf ∈ gW := mc_18 _ (List.mem_of_getElem? (i := 14) rfl)
theorem k624 : Cond.instanceMethod yX11_rankOf ∈ gW := mc_18 _ (List.mem_of_getElem? (i := 15) rfl)
theorem k625 : Cond.selects RX11 yX11_rankOf yX11_rankOf ∈ gW := mc_18 _ (List.mem_of_getElem? (i := 16) rfl)
theorem k623 : Cond.code yX11_rankOf cX11_rankOf 2 (some .int) ∈ gW := mc_18 _ (List.mem_of_getElem? (i := 17) rfl)
theorem k629 : Cond.methodLink RL 49 Lib.Math.max.name ∈ gW := mc_18 _ (List.mem_of_getElem? (i := 18) rfl)
theorem k630 : Cond.methodLink RL 54 yX11_size ∈ gW := mc_18 _ (List.mem_of_getElem? (i := 19) rfl)
theorem k632 : Cond.instanceMethod yX11_size ∈ gW := mc_18 _ (List.mem_of_getElem? (i := 20) rfl)
theorem k633 : Cond.selects RX11 yX11_size yX11_size ∈ gW := mc_18 _ (List.mem_of_getElem? (i := 21) rfl)
theorem k631 : Cond.code yX11_size cX11_size 2 (some .int) ∈ gW := mc_18 _ (List.mem_of_getElem? (i := 22) rfl)
theorem k211 : Cond.methodLink RX11 247 yX8_width ∈ gW := mc_18 _ (List.mem_of_getElem? (i := 23) rfl)
theorem k183 : Cond.instanceMethod yX8_width ∈ gW := mc_18 _ (List.mem_of_getElem? (i := 24) rfl)
theorem k184 : Cond.selects RX8 yX8_width yX8_width ∈ gW := mc_19 _ (List.mem_of_getElem? (i := 0) rfl)
theorem k182 : Cond.code yX8_width cX8_width 2 (some .int) ∈ gW := mc_19 _ (List.mem_of_getElem? (i := 1) rfl)
theorem k634 : Cond.methodLink RL 57 yX11_term ∈ gW := mc_19 _ (List.mem_of_getElem? (i := 2) rfl)
theorem k636 : Cond.instanceMethod yX11_term ∈ gW := mc_19 _ (List.mem_of_getElem? (i := 3) rfl)
theorem k637 : Cond.selects RX11 yX11_term yX11_term ∈ gW := mc_19 _ (List.mem_of_getElem? (i := 4) rfl)
theorem k635 : Cond.code yX11_term cX11_term 7 (some .int) ∈ gW := mc_19 _ (List.mem_of_getElem? (i := 5) rfl)
theorem k109 : Cond.methodLink RX11 191 yX7_arity ∈ gW := mc_19 _ (List.mem_of_getElem? (i := 6) rfl)
theorem k177 : Cond.methodLink RX11 205 yX8_make ∈ gW := mc_19 _ (List.mem_of_getElem? (i := 7) rfl)
theorem k189 : Cond.methodLink RX11 209 yX8_isTooLarge ∈ gW := mc_19 _ (List.mem_of_getElem? (i := 8) rfl)
theorem k191 : Cond.instanceMethod yX8_isTooLarge ∈ gW := mc_19 _ (List.mem_of_getElem? (i := 9) rfl)
theorem k192 : Cond.selects RX8 yX8_isTooLarge yX8_isTooLarge ∈ gW := mc_19 _ (List.mem_of_getElem? (i := 10) rfl)
theorem k190 : Cond.code yX8_isTooLarge cX8_isTooLarge 2 (some .boolean) ∈ gW := mc_19 _ (List.mem_of_getElem? (i := 11) rfl)
theorem k181 : Cond.methodLink RX8 62 yX8_width ∈ gW := mc_19 _ (List.mem_of_getElem? (i := 12) rfl)
theorem k185 : Cond.methodLink RX8 65 yX8_height ∈ gW := mc_19 _ (List.mem_of_getElem? (i := 13) rfl)
theorem k187 : Cond.instanceMethod yX8_height ∈ gW := mc_19 _ (List.mem_of_getElem? (i := 14) rfl)
theorem k188 : Cond.selects RX8 yX8_height yX8_height ∈ gW := mc_19 _ (List.mem_of_getElem? (i := 15) rfl)
theorem k186 : Cond.code yX8_height cX8_height 2 (some .int) ∈ gW := mc_19 _ (List.mem_of_getElem? (i := 16) rfl)
theorem k520 : Cond.classLink RX11 212 g_ARE ∈ gW := mc_19 _ (List.mem_of_getElem? (i := 17) rfl)
theorem k207 : Cond.methodLink RX11 217 yX11_giveNumber ∈ gW := mc_19 _ (List.mem_of_getElem? (i := 18) rfl)
theorem k209 : Cond.instanceMethod yX11_giveNumber ∈ gW := mc_19 _ (List.mem_of_getElem? (i := 19) rfl)
theorem k208 : Cond.code yX11_giveNumber cX11_giveNumber 3 (some .int) ∈ gW := mc_19 _ (List.mem_of_getElem? (i := 20) rfl)
theorem k194 : Cond.methodLink RX11 445 yX8_number ∈ gW := mc_19 _ (List.mem_of_getElem? (i := 21) rfl)
theorem k196 : Cond.instanceMethod yX8_number ∈ gW := mc_19 _ (List.mem_of_getElem? (i := 22) rfl)
theorem k197 : Cond.selects RX8 yX8_number yX8_number ∈ gW := mc_19 _ (List.mem_of_getElem? (i := 23) rfl)
theorem k195 : Cond.code yX8_number cX8_number 2 (some .int) ∈ gW := mc_19 _ (List.mem_of_getElem? (i := 24) rfl)
theorem k198 : Cond.methodLink RX11 448 yX8_setNumber ∈ gW := mc_20 _ (List.mem_of_getElem? (i := 0) rfl)
theorem k200 : Cond.instanceMethod yX8_setNumber ∈ gW := mc_20 _ (List.mem_of_getElem? (i := 1) rfl)
theorem k201 : Cond.selects RX8 yX8_setNumber yX8_setNumber ∈ gW := mc_20 _ (List.mem_of_getElem? (i := 2) rfl)
theorem k199 : Cond.code yX8_setNumber cX8_setNumber 3 none ∈ gW := mc_20 _ (List.mem_of_getElem? (i := 3) rfl)
theorem k202 : Cond.methodLink RX11 451 yX6_set ∈ gW := mc_20 _ (List.mem_of_getElem? (i := 4) rfl)
theorem k203 : Cond.methodLink RX11 343 yX7_fixOrder ∈ gW := mc_20 _ (List.mem_of_getElem? (i := 5) rfl)
theorem k205 : Cond.instanceMethod yX7_fixOrder ∈ gW := mc_20 _ (List.mem_of_getElem? (i := 6) rfl)
theorem k206 : Cond.selects RX7 yX7_fixOrder yX7_fixOrder ∈ gW := mc_20 _ (List.mem_of_getElem? (i := 7) rfl)
theorem k204 : Cond.code yX7_fixOrder cX7_fixOrder 1 none ∈ gW := mc_20 _ (List.mem_of_getElem? (i := 8) rfl)
theorem k642 : Cond.classLink RL 64 g_ARE ∈ gW := mc_20 _ (List.mem_of_getElem? (i := 9) rfl)
theorem k654 : Cond.classLink RL 66 g_ISE ∈ gW := mc_20 _ (List.mem_of_getElem? (i := 10) rfl)
theorem k638 : Cond.methodLink RL 61 yX11_equate ∈ gW := mc_20 _ (List.mem_of_getElem? (i := 11) rfl)
theorem k640 : Cond.instanceMethod yX11_equate ∈ gW := mc_20 _ (List.mem_of_getElem? (i := 12) rfl)
theorem k641 : Cond.selects RX11 yX11_equate yX11_equate ∈ gW := mc_20 _ (List.mem_of_getElem? (i := 13) rfl)
theorem k639 : Cond.code yX11_equate cX11_equate 3 (some .int) ∈ gW := mc_20 _ (List.mem_of_getElem? (i := 14) rfl)
theorem k353 : Cond.methodLink RX11 293 yX8_isGround ∈ gW := mc_20 _ (List.mem_of_getElem? (i := 15) rfl)
theorem k355 : Cond.instanceMethod yX8_isGround ∈ gW := mc_20 _ (List.mem_of_getElem? (i := 16) rfl)
theorem k356 : Cond.selects RX8 yX8_isGround yX8_isGround ∈ gW := mc_20 _ (List.mem_of_getElem? (i := 17) rfl)
theorem k354 : Cond.code yX8_isGround cX8_isGround 2 (some .boolean) ∈ gW := mc_20 _ (List.mem_of_getElem? (i := 18) rfl)
theorem k362 : Cond.methodLink RX11 303 yX9_addEquation ∈ gW := mc_20 _ (List.mem_of_getElem? (i := 19) rfl)
theorem k365 : Cond.instanceMethod yX9_addEquation ∈ gW := mc_20 _ (List.mem_of_getElem? (i := 20) rfl)
theorem k366 : Cond.selects RX9 yX9_addEquation yX9_addEquation ∈ gW := mc_20 _ (List.mem_of_getElem? (i := 21) rfl)
theorem k363 : Cond.code yX9_addEquation cX9_addEquation 3 none ∈ gW := mc_20 _ (List.mem_of_getElem? (i := 22) rfl)
theorem k510 : Cond.methodLink RX11 306 yX9_complete ∈ gW := mc_20 _ (List.mem_of_getElem? (i := 23) rfl)
theorem k512 : Cond.instanceMethod yX9_complete ∈ gW := mc_20 _ (List.mem_of_getElem? (i := 24) rfl)
theorem k513 : Cond.selects RX9 yX9_complete yX9_complete ∈ gW := mc_21 _ (List.mem_of_getElem? (i := 0) rfl)
theorem k511 : Cond.code yX9_complete cX9_complete 4 (some .boolean) ∈ gW := mc_21 _ (List.mem_of_getElem? (i := 1) rfl)
theorem k395 : Cond.methodLink RX9 91 yX9_gather ∈ gW := mc_21 _ (List.mem_of_getElem? (i := 2) rfl)
theorem k397 : Cond.instanceMethod yX9_gather ∈ gW := mc_21 _ (List.mem_of_getElem? (i := 3) rfl)
theorem k396 : Cond.code yX9_gather cX9_gather 5 none ∈ gW := mc_21 _ (List.mem_of_getElem? (i := 4) rfl)
theorem k384 : Cond.methodLink RX9 141 yX1_start ∈ gW := mc_21 _ (List.mem_of_getElem? (i := 5) rfl)
theorem k387 : Cond.instanceMethod yX1_start ∈ gW := mc_21 _ (List.mem_of_getElem? (i := 6) rfl)
theorem k388 : Cond.selects RX1 yX1_start yX1_start ∈ gW := mc_21 _ (List.mem_of_getElem? (i := 7) rfl)
theorem k385 : Cond.code yX1_start cX1_start 3 none ∈ gW := mc_21 _ (List.mem_of_getElem? (i := 8) rfl)
theorem k373 : Cond.methodLink RX1 55 yX10_count ∈ gW := mc_21 _ (List.mem_of_getElem? (i := 9) rfl)
theorem k375 : Cond.methodLink RX1 61 yX6_set ∈ gW := mc_21 _ (List.mem_of_getElem? (i := 10) rfl)
theorem k380 : Cond.methodLink RX1 65 yX10_node ∈ gW := mc_21 _ (List.mem_of_getElem? (i := 11) rfl)
theorem k381 : Cond.methodLink RX1 69 yX8_symbol ∈ gW := mc_21 _ (List.mem_of_getElem? (i := 12) rfl)
theorem k383 : Cond.methodLink RX1 74 yX10_partOf ∈ gW := mc_21 _ (List.mem_of_getElem? (i := 13) rfl)
theorem k389 : Cond.methodLink RX9 144 yX10_indexOf ∈ gW := mc_21 _ (List.mem_of_getElem? (i := 14) rfl)
theorem k391 : Cond.methodLink RX9 147 yX1_join ∈ gW := mc_21 _ (List.mem_of_getElem? (i := 15) rfl)
theorem k393 : Cond.instanceMethod yX1_join ∈ gW := mc_21 _ (List.mem_of_getElem? (i := 16) rfl)
theorem k394 : Cond.selects RX1 yX1_join yX1_join ∈ gW := mc_21 _ (List.mem_of_getElem? (i := 17) rfl)
theorem k392 : Cond.code yX1_join cX1_join 7 none ∈ gW := mc_21 _ (List.mem_of_getElem? (i := 18) rfl)
theorem k390 : Cond.methodLink RX1 78 yX6_get ∈ gW := mc_21 _ (List.mem_of_getElem? (i := 19) rfl)
theorem k416 : Cond.methodLink RX9 95 yX1_close ∈ gW := mc_21 _ (List.mem_of_getElem? (i := 20) rfl)
theorem k418 : Cond.instanceMethod yX1_close ∈ gW := mc_21 _ (List.mem_of_getElem? (i := 21) rfl)
theorem k419 : Cond.selects RX1 yX1_close yX1_close ∈ gW := mc_21 _ (List.mem_of_getElem? (i := 22) rfl)
theorem k417 : Cond.code yX1_close cX1_close 2 none ∈ gW := mc_21 _ (List.mem_of_getElem? (i := 23) rfl)
theorem k412 : Cond.methodLink RX1 81 yX1_joinTwins ∈ gW := mc_21 _ (List.mem_of_getElem? (i := 24) rfl)
theorem k414 : Cond.instanceMethod yX1_joinTwins ∈ gW := mc_22 _ (List.mem_of_getElem? (i := 0) rfl)
theorem k413 : Cond.code yX1_joinTwins cX1_joinTwins 6 (some .boolean) ∈ gW := mc_22 _ (List.mem_of_getElem? (i := 1) rfl)
theorem k401 : Cond.methodLink RX1 85 yX1_bucketOf ∈ gW := mc_22 _ (List.mem_of_getElem? (i := 2) rfl)
theorem k403 : Cond.instanceMethod yX1_bucketOf ∈ gW := mc_22 _ (List.mem_of_getElem? (i := 3) rfl)
theorem k402 : Cond.code yX1_bucketOf cX1_bucketOf 4 (some .int) ∈ gW := mc_22 _ (List.mem_of_getElem? (i := 4) rfl)
theorem k400 : Cond.constant RX1 95 739982445 ∈ gW := mc_22 _ (List.mem_of_getElem? (i := 5) rfl)
theorem k405 : Cond.methodLink RX1 88 yX1_areTwins ∈ gW := mc_22 _ (List.mem_of_getElem? (i := 6) rfl)
theorem k407 : Cond.instanceMethod yX1_areTwins ∈ gW := mc_22 _ (List.mem_of_getElem? (i := 7) rfl)
theorem k406 : Cond.code yX1_areTwins cX1_areTwins 5 (some .boolean) ∈ gW := mc_22 _ (List.mem_of_getElem? (i := 8) rfl)
theorem k411 : Cond.methodLink RX1 92 yX1_join ∈ gW := mc_22 _ (List.mem_of_getElem? (i := 9) rfl)
theorem k425 : Cond.methodLink RX9 98 yX1_pourInto ∈ gW := mc_22 _ (List.mem_of_getElem? (i := 10) rfl)
theorem k427 : Cond.instanceMethod yX1_pourInto ∈ gW := mc_22 _ (List.mem_of_getElem? (i := 11) rfl)
theorem k428 : Cond.selects RX1 yX1_pourInto yX1_pourInto ∈ gW := mc_22 _ (List.mem_of_getElem? (i := 12) rfl)
theorem k426 : Cond.code yX1_pourInto cX1_pourInto 5 none ∈ gW := mc_22 _ (List.mem_of_getElem? (i := 13) rfl)
theorem k421 : Cond.methodLink RX1 96 yX2_clear ∈ gW := mc_22 _ (List.mem_of_getElem? (i := 14) rfl)
theorem k422 : Cond.methodLink RX1 101 yX2_addProduction ∈ gW := mc_22 _ (List.mem_of_getElem? (i := 15) rfl)
theorem k423 : Cond.methodLink RX1 104 yX2_arity ∈ gW := mc_22 _ (List.mem_of_getElem? (i := 16) rfl)
theorem k424 : Cond.methodLink RX1 107 yX2_setPart ∈ gW := mc_22 _ (List.mem_of_getElem? (i := 17) rfl)
theorem k430 : Cond.methodLink RX9 102 yX7_orderMode ∈ gW := mc_22 _ (List.mem_of_getElem? (i := 18) rfl)
theorem k431 : Cond.methodLink RX9 108 yX2_rank ∈ gW := mc_22 _ (List.mem_of_getElem? (i := 19) rfl)
theorem k432 : Cond.methodLink RX9 113 yX2_sequenceCount ∈ gW := mc_22 _ (List.mem_of_getElem? (i := 20) rfl)
theorem k434 : Cond.instanceMethod yX2_sequenceCount ∈ gW := mc_22 _ (List.mem_of_getElem? (i := 21) rfl)
theorem k435 : Cond.selects RX2 yX2_sequenceCount yX2_sequenceCount ∈ gW := mc_22 _ (List.mem_of_getElem? (i := 22) rfl)
theorem k433 : Cond.code yX2_sequenceCount cX2_sequenceCount 1 (some .int) ∈ gW := mc_22 _ (List.mem_of_getElem? (i := 23) rfl)
theorem k436 : Cond.methodLink RX9 116 yX2_ranked ∈ gW := mc_22 _ (List.mem_of_getElem? (i := 24) rfl)
theorem k438 : Cond.instanceMethod yX2_ranked ∈ gW := mc_23 _ (List.mem_of_getElem? (i := 0) rfl)
theorem k439 : Cond.selects RX2 yX2_ranked yX2_ranked ∈ gW := mc_23 _ (List.mem_of_getElem? (i := 1) rfl)
theorem k437 : Cond.code yX2_ranked cX2_ranked 2 (some .int) ∈ gW := mc_23 _ (List.mem_of_getElem? (i := 2) rfl)
theorem k440 : Cond.methodLink RX9 120 yX2_owner ∈ gW := mc_23 _ (List.mem_of_getElem? (i := 3) rfl)
theorem k442 : Cond.instanceMethod yX2_owner ∈ gW := mc_23 _ (List.mem_of_getElem? (i := 4) rfl)
theorem k443 : Cond.selects RX2 yX2_owner yX2_owner ∈ gW := mc_23 _ (List.mem_of_getElem? (i := 5) rfl)
theorem k441 : Cond.code yX2_owner cX2_owner 2 (some .int) ∈ gW := mc_23 _ (List.mem_of_getElem? (i := 6) rfl)
theorem k444 : Cond.methodLink RX9 123 yX2_choice ∈ gW := mc_23 _ (List.mem_of_getElem? (i := 7) rfl)
theorem k446 : Cond.instanceMethod yX2_choice ∈ gW := mc_23 _ (List.mem_of_getElem? (i := 8) rfl)
theorem k447 : Cond.selects RX2 yX2_choice yX2_choice ∈ gW := mc_23 _ (List.mem_of_getElem? (i := 9) rfl)
theorem k445 : Cond.code yX2_choice cX2_choice 2 (some .int) ∈ gW := mc_23 _ (List.mem_of_getElem? (i := 10) rfl)
theorem k456 : Cond.methodLink RX9 126 yX9_isTooLargeSide ∈ gW := mc_23 _ (List.mem_of_getElem? (i := 11) rfl)
theorem k458 : Cond.instanceMethod yX9_isTooLargeSide ∈ gW := mc_23 _ (List.mem_of_getElem? (i := 12) rfl)
theorem k457 : Cond.code yX9_isTooLargeSide cX9_isTooLargeSide 2 (some .boolean) ∈ gW := mc_23 _ (List.mem_of_getElem? (i := 13) rfl)
theorem k448 : Cond.methodLink RX9 150 yX2_termSize ∈ gW := mc_23 _ (List.mem_of_getElem? (i := 14) rfl)
theorem k450 : Cond.instanceMethod yX2_termSize ∈ gW := mc_23 _ (List.mem_of_getElem? (i := 15) rfl)
theorem k451 : Cond.selects RX2 yX2_termSize yX2_termSize ∈ gW := mc_23 _ (List.mem_of_getElem? (i := 16) rfl)
theorem k449 : Cond.code yX2_termSize cX2_termSize 2 (some .int) ∈ gW := mc_23 _ (List.mem_of_getElem? (i := 17) rfl)
theorem k452 : Cond.methodLink RX9 153 yX2_termDepth ∈ gW := mc_23 _ (List.mem_of_getElem? (i := 18) rfl)
theorem k454 : Cond.instanceMethod yX2_termDepth ∈ gW := mc_23 _ (List.mem_of_getElem? (i := 19) rfl)
theorem k455 : Cond.selects RX2 yX2_termDepth yX2_termDepth ∈ gW := mc_23 _ (List.mem_of_getElem? (i := 20) rfl)
theorem k453 : Cond.code yX2_termDepth cX2_termDepth 2 (some .int) ∈ gW := mc_23 _ (List.mem_of_getElem? (i := 21) rfl)
theorem k506 : Cond.methodLink RX9 130 yX9_takeRules ∈ gW := mc_23 _ (List.mem_of_getElem? (i := 22) rfl)
theorem k508 : Cond.instanceMethod yX9_takeRules ∈ gW := mc_23 _ (List.mem_of_getElem? (i := 23) rfl)
theorem k507 : Cond.code yX9_takeRules cX9_takeRules 4 none ∈ gW := mc_23 _ (List.mem_of_getElem? (i := 24) rfl)
theorem k460 : Cond.methodLink RX9 156 yX2_dropNeeds ∈ gW := mc_24 _ (List.mem_of_getElem? (i := 0) rfl)
theorem k462 : Cond.instanceMethod yX2_dropNeeds ∈ gW := mc_24 _ (List.mem_of_getElem? (i := 1) rfl)
theorem k463 : Cond.selects RX2 yX2_dropNeeds yX2_dropNeeds ∈ gW := mc_24 _ (List.mem_of_getElem? (i := 2) rfl)
theorem k461 : Cond.code yX2_dropNeeds cX2_dropNeeds 2 none ∈ gW := mc_24 _ (List.mem_of_getElem? (i := 3) rfl)
theorem k464 : Cond.methodLink RX9 159 yX2_need ∈ gW := mc_24 _ (List.mem_of_getElem? (i := 4) rfl)
theorem k466 : Cond.instanceMethod yX2_need ∈ gW := mc_24 _ (List.mem_of_getElem? (i := 5) rfl)
theorem k467 : Cond.selects RX2 yX2_need yX2_need ∈ gW := mc_24 _ (List.mem_of_getElem? (i := 6) rfl)
theorem k465 : Cond.code yX2_need cX2_need 2 none ∈ gW := mc_24 _ (List.mem_of_getElem? (i := 7) rfl)
theorem k468 : Cond.methodLink RX9 162 yX2_needParts ∈ gW := mc_24 _ (List.mem_of_getElem? (i := 8) rfl)
theorem k470 : Cond.instanceMethod yX2_needParts ∈ gW := mc_24 _ (List.mem_of_getElem? (i := 9) rfl)
theorem k471 : Cond.selects RX2 yX2_needParts yX2_needParts ∈ gW := mc_24 _ (List.mem_of_getElem? (i := 10) rfl)
theorem k469 : Cond.code yX2_needParts cX2_needParts 3 none ∈ gW := mc_24 _ (List.mem_of_getElem? (i := 11) rfl)
theorem k477 : Cond.methodLink RX9 165 yX2_spreadNeeds ∈ gW := mc_24 _ (List.mem_of_getElem? (i := 12) rfl)
theorem k479 : Cond.instanceMethod yX2_spreadNeeds ∈ gW := mc_24 _ (List.mem_of_getElem? (i := 13) rfl)
theorem k480 : Cond.selects RX2 yX2_spreadNeeds yX2_spreadNeeds ∈ gW := mc_24 _ (List.mem_of_getElem? (i := 14) rfl)
theorem k478 : Cond.code yX2_spreadNeeds cX2_spreadNeeds 3 none ∈ gW := mc_24 _ (List.mem_of_getElem? (i := 15) rfl)
theorem k472 : Cond.methodLink RX2 161 yX2_isNeeded ∈ gW := mc_24 _ (List.mem_of_getElem? (i := 16) rfl)
theorem k474 : Cond.instanceMethod yX2_isNeeded ∈ gW := mc_24 _ (List.mem_of_getElem? (i := 17) rfl)
theorem k475 : Cond.selects RX2 yX2_isNeeded yX2_isNeeded ∈ gW := mc_24 _ (List.mem_of_getElem? (i := 18) rfl)
theorem k473 : Cond.code yX2_isNeeded cX2_isNeeded 3 (some .boolean) ∈ gW := mc_24 _ (List.mem_of_getElem? (i := 19) rfl)
theorem k476 : Cond.methodLink RX2 164 yX2_needParts ∈ gW := mc_24 _ (List.mem_of_getElem? (i := 20) rfl)
theorem k482 : Cond.methodLink RX9 171 yX2_isNeeded ∈ gW := mc_24 _ (List.mem_of_getElem? (i := 21) rfl)
theorem k486 : Cond.methodLink RX9 174 yX2_makeTerm ∈ gW := mc_24 _ (List.mem_of_getElem? (i := 22) rfl)
theorem k488 : Cond.instanceMethod yX2_makeTerm ∈ gW := mc_24 _ (List.mem_of_getElem? (i := 23) rfl)
theorem k489 : Cond.selects RX2 yX2_makeTerm yX2_makeTerm ∈ gW := mc_24 _ (List.mem_of_getElem? (i := 24) rfl)
theorem k487 : Cond.code yX2_makeTerm cX2_makeTerm 8 (some .int) ∈ gW := mc_25 _ (List.mem_of_getElem? (i := 0) rfl)
theorem k485 : Cond.methodLink RX2 157 yX8_make ∈ gW := mc_25 _ (List.mem_of_getElem? (i := 1) rfl)
theorem k502 : Cond.methodLink RX9 178 yX2_setLeastTerm ∈ gW := mc_25 _ (List.mem_of_getElem? (i := 2) rfl)
theorem k504 : Cond.instanceMethod yX2_setLeastTerm ∈ gW := mc_25 _ (List.mem_of_getElem? (i := 3) rfl)
theorem k505 : Cond.selects RX2 yX2_setLeastTerm yX2_setLeastTerm ∈ gW := mc_25 _ (List.mem_of_getElem? (i := 4) rfl)
theorem k503 : Cond.code yX2_setLeastTerm cX2_setLeastTerm 3 none ∈ gW := mc_25 _ (List.mem_of_getElem? (i := 5) rfl)
theorem k490 : Cond.methodLink RX9 181 yX2_leastTerm ∈ gW := mc_25 _ (List.mem_of_getElem? (i := 6) rfl)
theorem k492 : Cond.instanceMethod yX2_leastTerm ∈ gW := mc_25 _ (List.mem_of_getElem? (i := 7) rfl)
theorem k493 : Cond.selects RX2 yX2_leastTerm yX2_leastTerm ∈ gW := mc_25 _ (List.mem_of_getElem? (i := 8) rfl)
theorem k491 : Cond.code yX2_leastTerm cX2_leastTerm 2 (some .int) ∈ gW := mc_25 _ (List.mem_of_getElem? (i := 9) rfl)
theorem k498 : Cond.methodLink RX9 184 yX9_addRule ∈ gW := mc_25 _ (List.mem_of_getElem? (i := 10) rfl)
theorem k500 : Cond.instanceMethod yX9_addRule ∈ gW := mc_25 _ (List.mem_of_getElem? (i := 11) rfl)
theorem k499 : Cond.code yX9_addRule cX9_addRule 3 none ∈ gW := mc_25 _ (List.mem_of_getElem? (i := 12) rfl)
theorem k497 : Cond.methodLink RX9 187 yX6_set ∈ gW := mc_25 _ (List.mem_of_getElem? (i := 13) rfl)
theorem k516 : Cond.methodLink RX11 312 yX9_goBack ∈ gW := mc_25 _ (List.mem_of_getElem? (i := 14) rfl)
theorem k518 : Cond.instanceMethod yX9_goBack ∈ gW := mc_25 _ (List.mem_of_getElem? (i := 15) rfl)
theorem k519 : Cond.selects RX9 yX9_goBack yX9_goBack ∈ gW := mc_25 _ (List.mem_of_getElem? (i := 16) rfl)
theorem k517 : Cond.code yX9_goBack cX9_goBack 3 none ∈ gW := mc_25 _ (List.mem_of_getElem? (i := 17) rfl)
theorem k643 : Cond.methodLink RL 68 yX11_normalForm ∈ gW := mc_25 _ (List.mem_of_getElem? (i := 18) rfl)
theorem k645 : Cond.instanceMethod yX11_normalForm ∈ gW := mc_25 _ (List.mem_of_getElem? (i := 19) rfl)
theorem k646 : Cond.selects RX11 yX11_normalForm yX11_normalForm ∈ gW := mc_25 _ (List.mem_of_getElem? (i := 20) rfl)
theorem k644 : Cond.code yX11_normalForm cX11_normalForm 3 (some .int) ∈ gW := mc_25 _ (List.mem_of_getElem? (i := 21) rfl)
theorem k572 : Cond.methodLink RX11 378 yX9_normalize ∈ gW := mc_25 _ (List.mem_of_getElem? (i := 22) rfl)
theorem k647 : Cond.methodLink RL 71 yL_unite ∈ gW := mc_25 _ (List.mem_of_getElem? (i := 23) rfl)
theorem k649 : Cond.static yL_unite ∈ gW := mc_25 _ (List.mem_of_getElem? (i := 24) rfl)
theorem k648 : Cond.code yL_unite cL_unite 4 none ∈ gW := mc_26 _ (List.mem_of_getElem? (i := 0) rfl)
theorem k650 : Cond.methodLink RL 75 yX11_pop ∈ gW := mc_26 _ (List.mem_of_getElem? (i := 1) rfl)
theorem k652 : Cond.instanceMethod yX11_pop ∈ gW := mc_26 _ (List.mem_of_getElem? (i := 2) rfl)
theorem k653 : Cond.selects RX11 yX11_pop yX11_pop ∈ gW := mc_26 _ (List.mem_of_getElem? (i := 3) rfl)
theorem k651 : Cond.code yX11_pop cX11_pop 1 (some .int) ∈ gW := mc_26 _ (List.mem_of_getElem? (i := 4) rfl)
theorem k531 : Cond.methodLink RX11 364 yX9_closeLevel ∈ gW := mc_26 _ (List.mem_of_getElem? (i := 5) rfl)
theorem k533 : Cond.instanceMethod yX9_closeLevel ∈ gW := mc_26 _ (List.mem_of_getElem? (i := 6) rfl)
theorem k534 : Cond.selects RX9 yX9_closeLevel yX9_closeLevel ∈ gW := mc_26 _ (List.mem_of_getElem? (i := 7) rfl)
theorem k532 : Cond.code yX9_closeLevel cX9_closeLevel 1 none ∈ gW := mc_26 _ (List.mem_of_getElem? (i := 8) rfl)
theorem k530 : Cond.methodLink RX9 88 yX9_goBack ∈ gW := mc_26 _ (List.mem_of_getElem? (i := 9) rfl)
theorem ka_int : Cond.arrayClass .int ∈ gW := k656
theorem ka_byte : Cond.arrayClass .byte ∈ gW := k657
theorem ka_boolean : Cond.arrayClass .boolean ∈ gW := k658
theorem ka_long : Cond.arrayClass .long ∈ gW := k659
theorem tk0 : ∀ w ∈ k2_sels lw_privs, w ∈ lw_tbl := fun _ h => List.mem_append_left _ h
theorem tk1 : ∀ w ∈ tables_1_1, w ∈ lw_tbl := fun _ h => List.mem_append_right _ (List.mem_append_left _ h)
theorem tk2 : ∀ w ∈ tables_1_2, w ∈ lw_tbl := fun _ h => List.mem_append_right _ (List.mem_append_right _ (List.mem_append_left _ h))
theorem tk3 : ∀ w ∈ tables_1_3, w ∈ lw_tbl := fun _ h => List.mem_append_right _ (List.mem_append_right _ (List.mem_append_right _ (List.mem_append_left _ h)))
theorem tk4 : ∀ w ∈ tables_1_4, w ∈ lw_tbl := fun _ h => List.mem_append_right _ (List.mem_append_right _ (List.mem_append_right _ (List.mem_append_right _ (List.mem_append_left _ h))))
theorem tk5 : ∀ w ∈ tables_1_5, w ∈ lw_tbl := fun _ h => List.mem_append_right _ (List.mem_append_right _ (List.mem_append_right _ (List.mem_append_right _ (List.mem_append_right _ (List.mem_append_left _ h)))))
theorem tk6 : ∀ w ∈ tables_1_6, w ∈ lw_tbl := fun _ h => List.mem_append_right _ (List.mem_append_right _ (List.mem_append_right _ (List.mem_append_right _ (List.mem_append_right _ (List.mem_append_right _ (h))))))
set_option maxRecDepth 100000 in
theorem tb_0 : ∀ w ∈ gW_0, w ∈ lw_tbl := List.forall_mem_cons.mpr ⟨tk0 _ (List.mem_of_getElem? (i := 0) rfl), List.forall_mem_cons.mpr ⟨tk0 _ (List.mem_of_getElem? (i := 2) rfl), List.forall_mem_cons.mpr ⟨tk0 _ (List.mem_of_getElem? (i := 3) rfl), List.forall_mem_cons.mpr ⟨tk0 _ (List.mem_of_getElem? (i := 4) rfl), List.forall_mem_cons.mpr ⟨tk0 _ (List.mem_of_getElem? (i := 5) rfl), List.forall_mem_cons.mpr ⟨tk0 _ (List.mem_of_getElem? (i := 6) rfl), List.forall_mem_cons.mpr ⟨tk0 _ (List.mem_of_getElem? (i := 7) rfl), List.forall_mem_cons.mpr ⟨tk0 _ (List.mem_of_getElem? (i := 8) rfl), List.forall_mem_cons.mpr ⟨tk0 _ (List.mem_of_getElem? (i := 11) rfl), List.forall_mem_cons.mpr ⟨tk0 _ (List.mem_of_getElem? (i := 12) rfl), List.forall_mem_cons.mpr ⟨tk0 _ (List.mem_of_getElem? (i := 13) rfl), List.forall_mem_cons.mpr ⟨tk0 _ (List.mem_of_getElem? (i := 14) rfl), List.forall_mem_cons.mpr ⟨tk0 _ (List.mem_of_getElem? (i := 15) rfl), List.forall_mem_cons.mpr ⟨tk0 _ (List.mem_of_getElem? (i := 16) rfl), List.forall_mem_cons.mpr ⟨tk0 _ (List.mem_of_getElem? (i := 17) rfl), List.forall_mem_cons.mpr ⟨tk0 _ (List.mem_of_getElem? (i := 18) rfl), List.forall_mem_cons.mpr ⟨tk0 _ (List.mem_of_getElem? (i := 19) rfl), List.forall_mem_cons.mpr ⟨tk0 _ (List.mem_of_getElem? (i := 20) rfl), List.forall_mem_cons.mpr ⟨tk0 _ (List.mem_of_getElem? (i := 21) rfl), List.forall_mem_cons.mpr ⟨tk0 _ (List.mem_of_getElem? (i := 22) rfl), List.forall_mem_cons.mpr ⟨tk0 _ (List.mem_of_getElem? (i := 23) rfl), List.forall_mem_cons.mpr ⟨tk0 _ (List.mem_of_getElem? (i := 24) rfl), List.forall_mem_cons.mpr ⟨tk0 _ (List.mem_of_getElem? (i := 25) rfl), List.forall_mem_cons.mpr ⟨tk1 _ (List.mem_of_getElem? (i := 0) rfl), List.forall_mem_cons.mpr ⟨tk1 _ (List.mem_of_getElem? (i := 1) rfl), fun _ h => absurd h List.not_mem_nil⟩⟩⟩⟩⟩⟩⟩⟩⟩⟩⟩⟩⟩⟩⟩⟩⟩⟩⟩⟩⟩⟩⟩⟩⟩
set_option maxRecDepth 100000 in
theorem tb_1 : ∀ w ∈ gW_1, w ∈ lw_tbl := List.forall_mem_cons.mpr ⟨tk1 _ (List.mem_of_getElem? (i := 2) rfl), List.forall_mem_cons.mpr ⟨tk1 _ (List.mem_of_getElem? (i := 3) rfl), List.forall_mem_cons.mpr ⟨tk1 _ (List.mem_of_getElem? (i := 4) rfl), List.forall_mem_cons.mpr ⟨tk1 _ (List.mem_of_getElem? (i := 5) rfl), List.forall_mem_cons.mpr ⟨tk1 _ (List.mem_of_getElem? (i := 6) rfl), List.forall_mem_cons.mpr ⟨tk1 _ (List.mem_of_getElem? (i := 7) rfl), List.forall_mem_cons.mpr ⟨tk1 _ (List.mem_of_getElem? (i := 8) rfl), List.forall_mem_cons.mpr ⟨tk1 _ (List.mem_of_getElem? (i := 9) rfl), List.forall_mem_cons.mpr ⟨tk1 _ (List.mem_of_getElem? (i := 10) rfl), List.forall_mem_cons.mpr ⟨tk1 _ (List.mem_of_getElem? (i := 17) rfl), List.forall_mem_cons.mpr ⟨tk1 _ (List.mem_of_getElem? (i := 20) rfl), List.forall_mem_cons.mpr ⟨tk1 _ (List.mem_of_getElem? (i := 36) rfl), List.forall_mem_cons.mpr ⟨tk1 _ (List.mem_of_getElem? (i := 37) rfl), List.forall_mem_cons.mpr ⟨tk1 _ (List.mem_of_getElem? (i := 38) rfl), List.forall_mem_cons.mpr ⟨tk1 _ (List.mem_of_getElem? (i := 39) rfl), List.forall_mem_cons.mpr ⟨tk1 _ (List.mem_of_getElem? (i := 40) rfl), List.forall_mem_cons.mpr ⟨tk1 _ (List.mem_of_getElem? (i := 41) rfl), List.forall_mem_cons.mpr ⟨tk1 _ (List.mem_of_getElem? (i := 42) rfl), List.forall_mem_cons.mpr ⟨tk1 _ (List.mem_of_getElem? (i := 43) rfl), List.forall_mem_cons.mpr ⟨tk1 _ (List.mem_of_getElem? (i := 44) rfl), List.forall_mem_cons.mpr ⟨tk1 _ (List.mem_of_getElem? (i := 45) rfl), List.forall_mem_cons.mpr ⟨tk1 _ (List.mem_of_getElem? (i := 69) rfl), List.forall_mem_cons.mpr ⟨tk1 _ (List.mem_of_getElem? (i := 70) rfl), List.forall_mem_cons.mpr ⟨tk1 _ (List.mem_of_getElem? (i := 71) rfl), List.forall_mem_cons.mpr ⟨tk1 _ (List.mem_of_getElem? (i := 80) rfl), fun _ h => absurd h List.not_mem_nil⟩⟩⟩⟩⟩⟩⟩⟩⟩⟩⟩⟩⟩⟩⟩⟩⟩⟩⟩⟩⟩⟩⟩⟩⟩
set_option maxRecDepth 100000 in
theorem tb_2 : ∀ w ∈ gW_2, w ∈ lw_tbl := List.forall_mem_cons.mpr ⟨tk1 _ (List.mem_of_getElem? (i := 86) rfl), List.forall_mem_cons.mpr ⟨tk1 _ (List.mem_of_getElem? (i := 87) rfl), List.forall_mem_cons.mpr ⟨tk1 _ (List.mem_of_getElem? (i := 90) rfl), List.forall_mem_cons.mpr ⟨tk1 _ (List.mem_of_getElem? (i := 96) rfl), List.forall_mem_cons.mpr ⟨tk1 _ (List.mem_of_getElem? (i := 97) rfl), List.forall_mem_cons.mpr ⟨tk1 _ (List.mem_of_getElem? (i := 98) rfl), List.forall_mem_cons.mpr ⟨tk1 _ (List.mem_of_getElem? (i := 99) rfl), List.forall_mem_cons.mpr ⟨tk1 _ (List.mem_of_getElem? (i := 100) rfl), List.forall_mem_cons.mpr ⟨tk1 _ (List.mem_of_getElem? (i := 101) rfl), List.forall_mem_cons.mpr ⟨tk1 _ (List.mem_of_getElem? (i := 102) rfl), List.forall_mem_cons.mpr ⟨tk1 _ (List.mem_of_getElem? (i := 105) rfl), List.forall_mem_cons.mpr ⟨tk1 _ (List.mem_of_getElem? (i := 106) rfl), List.forall_mem_cons.mpr ⟨tk1 _ (List.mem_of_getElem? (i := 107) rfl), List.forall_mem_cons.mpr ⟨tk1 _ (List.mem_of_getElem? (i := 108) rfl), List.forall_mem_cons.mpr ⟨tk1 _ (List.mem_of_getElem? (i := 146) rfl), List.forall_mem_cons.mpr ⟨tk1 _ (List.mem_of_getElem? (i := 147) rfl), List.forall_mem_cons.mpr ⟨tk1 _ (List.mem_of_getElem? (i := 148) rfl), List.forall_mem_cons.mpr ⟨tk1 _ (List.mem_of_getElem? (i := 149) rfl), List.forall_mem_cons.mpr ⟨tk1 _ (List.mem_of_getElem? (i := 150) rfl), List.forall_mem_cons.mpr ⟨tk1 _ (List.mem_of_getElem? (i := 151) rfl), List.forall_mem_cons.mpr ⟨tk1 _ (List.mem_of_getElem? (i := 152) rfl), List.forall_mem_cons.mpr ⟨tk1 _ (List.mem_of_getElem? (i := 178) rfl), List.forall_mem_cons.mpr ⟨tk1 _ (List.mem_of_getElem? (i := 179) rfl), List.forall_mem_cons.mpr ⟨tk1 _ (List.mem_of_getElem? (i := 180) rfl), List.forall_mem_cons.mpr ⟨tk1 _ (List.mem_of_getElem? (i := 181) rfl), fun _ h => absurd h List.not_mem_nil⟩⟩⟩⟩⟩⟩⟩⟩⟩⟩⟩⟩⟩⟩⟩⟩⟩⟩⟩⟩⟩⟩⟩⟩⟩
set_option maxRecDepth 100000 in
theorem tb_3 : ∀ w ∈ gW_3, w ∈ lw_tbl := List.forall_mem_cons.mpr ⟨tk1 _ (List.mem_of_getElem? (i := 182) rfl), List.forall_mem_cons.mpr ⟨tk1 _ (List.mem_of_getElem? (i := 183) rfl), List.forall_mem_cons.mpr ⟨tk1 _ (List.mem_of_getElem? (i := 184) rfl), List.forall_mem_cons.mpr ⟨tk1 _ (List.mem_of_getElem? (i := 185) rfl), List.forall_mem_cons.mpr ⟨tk1 _ (List.mem_of_getElem? (i := 186) rfl), List.forall_mem_cons.mpr ⟨tk1 _ (List.mem_of_getElem? (i := 187) rfl), List.forall_mem_cons.mpr ⟨tk1 _ (List.mem_of_getElem? (i := 188) rfl), List.forall_mem_cons.mpr ⟨tk1 _ (List.mem_of_getElem? (i := 189) rfl), List.forall_mem_cons.mpr ⟨tk1 _ (List.mem_of_getElem? (i := 190) rfl), List.forall_mem_cons.mpr ⟨tk1 _ (List.mem_of_getElem? (i := 191) rfl), List.forall_mem_cons.mpr ⟨tk1 _ (List.mem_of_getElem? (i := 192) rfl), List.forall_mem_cons.mpr ⟨tk1 _ (List.mem_of_getElem? (i := 193) rfl), List.forall_mem_cons.mpr ⟨tk1 _ (List.mem_of_getElem? (i := 194) rfl), List.forall_mem_cons.mpr ⟨tk1 _ (List.mem_of_getElem? (i := 195) rfl), List.forall_mem_cons.mpr ⟨tk1 _ (List.mem_of_getElem? (i := 196) rfl), List.forall_mem_cons.mpr ⟨tk1 _ (List.mem_of_getElem? (i := 197) rfl), List.forall_mem_cons.mpr ⟨tk2 _ (List.mem_of_getElem? (i := 18) rfl), List.forall_mem_cons.mpr ⟨tk2 _ (List.mem_of_getElem? (i := 19) rfl), List.forall_mem_cons.mpr ⟨tk2 _ (List.mem_of_getElem? (i := 20) rfl), List.forall_mem_cons.mpr ⟨tk2 _ (List.mem_of_getElem? (i := 21) rfl), List.forall_mem_cons.mpr ⟨tk2 _ (List.mem_of_getElem? (i := 22) rfl), List.forall_mem_cons.mpr ⟨tk2 _ (List.mem_of_getElem? (i := 23) rfl), List.forall_mem_cons.mpr ⟨tk2 _ (List.mem_of_getElem? (i := 24) rfl), List.forall_mem_cons.mpr ⟨tk2 _ (List.mem_of_getElem? (i := 25) rfl), List.forall_mem_cons.mpr ⟨tk2 _ (List.mem_of_getElem? (i := 26) rfl), fun _ h => absurd h List.not_mem_nil⟩⟩⟩⟩⟩⟩⟩⟩⟩⟩⟩⟩⟩⟩⟩⟩⟩⟩⟩⟩⟩⟩⟩⟩⟩
set_option maxRecDepth 100000 in
theorem tb_4 : ∀ w ∈ gW_4, w ∈ lw_tbl := List.forall_mem_cons.mpr ⟨tk2 _ (List.mem_of_getElem? (i := 27) rfl), List.forall_mem_cons.mpr ⟨tk2 _ (List.mem_of_getElem? (i := 28) rfl), List.forall_mem_cons.mpr ⟨tk2 _ (List.mem_of_getElem? (i := 52) rfl), List.forall_mem_cons.mpr ⟨tk2 _ (List.mem_of_getElem? (i := 53) rfl), List.forall_mem_cons.mpr ⟨tk2 _ (List.mem_of_getElem? (i := 54) rfl), List.forall_mem_cons.mpr ⟨tk2 _ (List.mem_of_getElem? (i := 55) rfl), List.forall_mem_cons.mpr ⟨tk2 _ (List.mem_of_getElem? (i := 56) rfl), List.forall_mem_cons.mpr ⟨tk2 _ (List.mem_of_getElem? (i := 57) rfl), List.forall_mem_cons.mpr ⟨tk2 _ (List.mem_of_getElem? (i := 58) rfl), List.forall_mem_cons.mpr ⟨tk2 _ (List.mem_of_getElem? (i := 59) rfl), List.forall_mem_cons.mpr ⟨tk2 _ (List.mem_of_getElem? (i := 60) rfl), List.forall_mem_cons.mpr ⟨tk2 _ (List.mem_of_getElem? (i := 63) rfl), List.forall_mem_cons.mpr ⟨tk2 _ (List.mem_of_getElem? (i := 64) rfl), List.forall_mem_cons.mpr ⟨tk2 _ (List.mem_of_getElem? (i := 65) rfl), List.forall_mem_cons.mpr ⟨tk2 _ (List.mem_of_getElem? (i := 66) rfl), List.forall_mem_cons.mpr ⟨tk2 _ (List.mem_of_getElem? (i := 67) rfl), List.forall_mem_cons.mpr ⟨tk2 _ (List.mem_of_getElem? (i := 68) rfl), List.forall_mem_cons.mpr ⟨tk2 _ (List.mem_of_getElem? (i := 69) rfl), List.forall_mem_cons.mpr ⟨tk2 _ (List.mem_of_getElem? (i := 70) rfl), List.forall_mem_cons.mpr ⟨tk2 _ (List.mem_of_getElem? (i := 71) rfl), List.forall_mem_cons.mpr ⟨tk2 _ (List.mem_of_getElem? (i := 72) rfl), List.forall_mem_cons.mpr ⟨tk2 _ (List.mem_of_getElem? (i := 116) rfl), List.forall_mem_cons.mpr ⟨tk2 _ (List.mem_of_getElem? (i := 118) rfl), List.forall_mem_cons.mpr ⟨tk2 _ (List.mem_of_getElem? (i := 119) rfl), List.forall_mem_cons.mpr ⟨tk2 _ (List.mem_of_getElem? (i := 210) rfl), fun _ h => absurd h List.not_mem_nil⟩⟩⟩⟩⟩⟩⟩⟩⟩⟩⟩⟩⟩⟩⟩⟩⟩⟩⟩⟩⟩⟩⟩⟩⟩
set_option maxRecDepth 100000 in
theorem tb_5 : ∀ w ∈ gW_5, w ∈ lw_tbl := List.forall_mem_cons.mpr ⟨tk3 _ (List.mem_of_getElem? (i := 25) rfl), List.forall_mem_cons.mpr ⟨tk3 _ (List.mem_of_getElem? (i := 26) rfl), List.forall_mem_cons.mpr ⟨tk3 _ (List.mem_of_getElem? (i := 27) rfl), List.forall_mem_cons.mpr ⟨tk3 _ (List.mem_of_getElem? (i := 28) rfl), List.forall_mem_cons.mpr ⟨tk3 _ (List.mem_of_getElem? (i := 29) rfl), List.forall_mem_cons.mpr ⟨tk3 _ (List.mem_of_getElem? (i := 30) rfl), List.forall_mem_cons.mpr ⟨tk3 _ (List.mem_of_getElem? (i := 34) rfl), List.forall_mem_cons.mpr ⟨tk3 _ (List.mem_of_getElem? (i := 35) rfl), List.forall_mem_cons.mpr ⟨tk3 _ (List.mem_of_getElem? (i := 63) rfl), List.forall_mem_cons.mpr ⟨tk3 _ (List.mem_of_getElem? (i := 65) rfl), List.forall_mem_cons.mpr ⟨tk3 _ (List.mem_of_getElem? (i := 66) rfl), List.forall_mem_cons.mpr ⟨tk3 _ (List.mem_of_getElem? (i := 135) rfl), List.forall_mem_cons.mpr ⟨tk3 _ (List.mem_of_getElem? (i := 136) rfl), List.forall_mem_cons.mpr ⟨tk3 _ (List.mem_of_getElem? (i := 137) rfl), List.forall_mem_cons.mpr ⟨tk3 _ (List.mem_of_getElem? (i := 138) rfl), List.forall_mem_cons.mpr ⟨tk3 _ (List.mem_of_getElem? (i := 139) rfl), List.forall_mem_cons.mpr ⟨tk3 _ (List.mem_of_getElem? (i := 140) rfl), List.forall_mem_cons.mpr ⟨tk3 _ (List.mem_of_getElem? (i := 141) rfl), List.forall_mem_cons.mpr ⟨tk3 _ (List.mem_of_getElem? (i := 142) rfl), List.forall_mem_cons.mpr ⟨tk3 _ (List.mem_of_getElem? (i := 143) rfl), List.forall_mem_cons.mpr ⟨tk3 _ (List.mem_of_getElem? (i := 144) rfl), List.forall_mem_cons.mpr ⟨tk3 _ (List.mem_of_getElem? (i := 145) rfl), List.forall_mem_cons.mpr ⟨tk3 _ (List.mem_of_getElem? (i := 146) rfl), List.forall_mem_cons.mpr ⟨tk3 _ (List.mem_of_getElem? (i := 147) rfl), List.forall_mem_cons.mpr ⟨tk3 _ (List.mem_of_getElem? (i := 148) rfl), fun _ h => absurd h List.not_mem_nil⟩⟩⟩⟩⟩⟩⟩⟩⟩⟩⟩⟩⟩⟩⟩⟩⟩⟩⟩⟩⟩⟩⟩⟩⟩
set_option maxRecDepth 100000 in
theorem tb_6 : ∀ w ∈ gW_6, w ∈ lw_tbl := List.forall_mem_cons.mpr ⟨tk3 _ (List.mem_of_getElem? (i := 149) rfl), List.forall_mem_cons.mpr ⟨tk3 _ (List.mem_of_getElem? (i := 150) rfl), List.forall_mem_cons.mpr ⟨tk3 _ (List.mem_of_getElem? (i := 151) rfl), List.forall_mem_cons.mpr ⟨tk3 _ (List.mem_of_getElem? (i := 152) rfl), List.forall_mem_cons.mpr ⟨tk3 _ (List.mem_of_getElem? (i := 153) rfl), List.forall_mem_cons.mpr ⟨tk3 _ (List.mem_of_getElem? (i := 155) rfl), List.forall_mem_cons.mpr ⟨tk3 _ (List.mem_of_getElem? (i := 156) rfl), List.forall_mem_cons.mpr ⟨tk3 _ (List.mem_of_getElem? (i := 157) rfl), List.forall_mem_cons.mpr ⟨tk3 _ (List.mem_of_getElem? (i := 158) rfl), List.forall_mem_cons.mpr ⟨tk3 _ (List.mem_of_getElem? (i := 159) rfl), List.forall_mem_cons.mpr ⟨tk3 _ (List.mem_of_getElem? (i := 160) rfl), List.forall_mem_cons.mpr ⟨tk3 _ (List.mem_of_getElem? (i := 161) rfl), List.forall_mem_cons.mpr ⟨tk3 _ (List.mem_of_getElem? (i := 162) rfl), List.forall_mem_cons.mpr ⟨tk3 _ (List.mem_of_getElem? (i := 163) rfl), List.forall_mem_cons.mpr ⟨tk3 _ (List.mem_of_getElem? (i := 164) rfl), List.forall_mem_cons.mpr ⟨tk3 _ (List.mem_of_getElem? (i := 165) rfl), List.forall_mem_cons.mpr ⟨tk3 _ (List.mem_of_getElem? (i := 166) rfl), List.forall_mem_cons.mpr ⟨tk3 _ (List.mem_of_getElem? (i := 167) rfl), List.forall_mem_cons.mpr ⟨tk3 _ (List.mem_of_getElem? (i := 168) rfl), List.forall_mem_cons.mpr ⟨tk3 _ (List.mem_of_getElem? (i := 169) rfl), List.forall_mem_cons.mpr ⟨tk3 _ (List.mem_of_getElem? (i := 170) rfl), List.forall_mem_cons.mpr ⟨tk3 _ (List.mem_of_getElem? (i := 171) rfl), List.forall_mem_cons.mpr ⟨tk3 _ (List.mem_of_getElem? (i := 172) rfl), List.forall_mem_cons.mpr ⟨tk3 _ (List.mem_of_getElem? (i := 173) rfl), List.forall_mem_cons.mpr ⟨tk3 _ (List.mem_of_getElem? (i := 174) rfl), fun _ h => absurd h List.not_mem_nil⟩⟩⟩⟩⟩⟩⟩⟩⟩⟩⟩⟩⟩⟩⟩⟩⟩⟩⟩⟩⟩⟩⟩⟩⟩
set_option maxRecDepth 100000 in
theorem tb_7 : ∀ w ∈ gW_7, w ∈ lw_tbl := List.forall_mem_cons.mpr ⟨tk3 _ (List.mem_of_getElem? (i := 175) rfl), List.forall_mem_cons.mpr ⟨tk3 _ (List.mem_of_getElem? (i := 176) rfl), List.forall_mem_cons.mpr ⟨tk3 _ (List.mem_of_getElem? (i := 177) rfl), List.forall_mem_cons.mpr ⟨tk3 _ (List.mem_of_getElem? (i := 178) rfl), List.forall_mem_cons.mpr ⟨tk3 _ (List.mem_of_getElem? (i := 179) rfl), List.forall_mem_cons.mpr ⟨tk3 _ (List.mem_of_getElem? (i := 180) rfl), List.forall_mem_cons.mpr ⟨tk3 _ (List.mem_of_getElem? (i := 181) rfl), List.forall_mem_cons.mpr ⟨tk3 _ (List.mem_of_getElem? (i := 182) rfl), List.forall_mem_cons.mpr ⟨tk3 _ (List.mem_of_getElem? (i := 183) rfl), List.forall_mem_cons.mpr ⟨tk3 _ (List.mem_of_getElem? (i := 184) rfl), List.forall_mem_cons.mpr ⟨tk3 _ (List.mem_of_getElem? (i := 185) rfl), List.forall_mem_cons.mpr ⟨tk3 _ (List.mem_of_getElem? (i := 186) rfl), List.forall_mem_cons.mpr ⟨tk3 _ (List.mem_of_getElem? (i := 187) rfl), List.forall_mem_cons.mpr ⟨tk3 _ (List.mem_of_getElem? (i := 188) rfl), List.forall_mem_cons.mpr ⟨tk3 _ (List.mem_of_getElem? (i := 189) rfl), List.forall_mem_cons.mpr ⟨tk3 _ (List.mem_of_getElem? (i := 190) rfl), List.forall_mem_cons.mpr ⟨tk3 _ (List.mem_of_getElem? (i := 191) rfl), List.forall_mem_cons.mpr ⟨tk3 _ (List.mem_of_getElem? (i := 192) rfl), List.forall_mem_cons.mpr ⟨tk3 _ (List.mem_of_getElem? (i := 193) rfl), List.forall_mem_cons.mpr ⟨tk3 _ (List.mem_of_getElem? (i := 194) rfl), List.forall_mem_cons.mpr ⟨tk3 _ (List.mem_of_getElem? (i := 195) rfl), List.forall_mem_cons.mpr ⟨tk3 _ (List.mem_of_getElem? (i := 196) rfl), List.forall_mem_cons.mpr ⟨tk3 _ (List.mem_of_getElem? (i := 197) rfl), List.forall_mem_cons.mpr ⟨tk3 _ (List.mem_of_getElem? (i := 198) rfl), List.forall_mem_cons.mpr ⟨tk3 _ (List.mem_of_getElem? (i := 199) rfl), fun _ h => absurd h List.not_mem_nil⟩⟩⟩⟩⟩⟩⟩⟩⟩⟩⟩⟩⟩⟩⟩⟩⟩⟩⟩⟩⟩⟩⟩⟩⟩
set_option maxRecDepth 100000 in
theorem tb_8 : ∀ w ∈ gW_8, w ∈ lw_tbl := List.forall_mem_cons.mpr ⟨tk3 _ (List.mem_of_getElem? (i := 200) rfl), List.forall_mem_cons.mpr ⟨tk3 _ (List.mem_of_getElem? (i := 201) rfl), List.forall_mem_cons.mpr ⟨tk3 _ (List.mem_of_getElem? (i := 202) rfl), List.forall_mem_cons.mpr ⟨tk3 _ (List.mem_of_getElem? (i := 203) rfl), List.forall_mem_cons.mpr ⟨tk3 _ (List.mem_of_getElem? (i := 204) rfl), List.forall_mem_cons.mpr ⟨tk3 _ (List.mem_of_getElem? (i := 205) rfl), List.forall_mem_cons.mpr ⟨tk3 _ (List.mem_of_getElem? (i := 206) rfl), List.forall_mem_cons.mpr ⟨tk3 _ (List.mem_of_getElem? (i := 207) rfl), List.forall_mem_cons.mpr ⟨tk3 _ (List.mem_of_getElem? (i := 208) rfl), List.forall_mem_cons.mpr ⟨tk3 _ (List.mem_of_getElem? (i := 209) rfl), List.forall_mem_cons.mpr ⟨tk3 _ (List.mem_of_getElem? (i := 210) rfl), List.forall_mem_cons.mpr ⟨tk3 _ (List.mem_of_getElem? (i := 211) rfl), List.forall_mem_cons.mpr ⟨tk3 _ (List.mem_of_getElem? (i := 212) rfl), List.forall_mem_cons.mpr ⟨tk3 _ (List.mem_of_getElem? (i := 213) rfl), List.forall_mem_cons.mpr ⟨tk3 _ (List.mem_of_getElem? (i := 214) rfl), List.forall_mem_cons.mpr ⟨tk3 _ (List.mem_of_getElem? (i := 215) rfl), List.forall_mem_cons.mpr ⟨tk3 _ (List.mem_of_getElem? (i := 216) rfl), List.forall_mem_cons.mpr ⟨tk3 _ (List.mem_of_getElem? (i := 217) rfl), List.forall_mem_cons.mpr ⟨tk3 _ (List.mem_of_getElem? (i := 218) rfl), List.forall_mem_cons.mpr ⟨tk3 _ (List.mem_of_getElem? (i := 219) rfl), List.forall_mem_cons.mpr ⟨tk3 _ (List.mem_of_getElem? (i := 220) rfl), List.forall_mem_cons.mpr ⟨tk3 _ (List.mem_of_getElem? (i := 221) rfl), List.forall_mem_cons.mpr ⟨tk3 _ (List.mem_of_getElem? (i := 222) rfl), List.forall_mem_cons.mpr ⟨tk3 _ (List.mem_of_getElem? (i := 223) rfl), List.forall_mem_cons.mpr ⟨tk3 _ (List.mem_of_getElem? (i := 224) rfl), fun _ h => absurd h List.not_mem_nil⟩⟩⟩⟩⟩⟩⟩⟩⟩⟩⟩⟩⟩⟩⟩⟩⟩⟩⟩⟩⟩⟩⟩⟩⟩
set_option maxRecDepth 100000 in
theorem tb_9 : ∀ w ∈ gW_9, w ∈ lw_tbl := List.forall_mem_cons.mpr ⟨tk3 _ (List.mem_of_getElem? (i := 225) rfl), List.forall_mem_cons.mpr ⟨tk3 _ (List.mem_of_getElem? (i := 227) rfl), List.forall_mem_cons.mpr ⟨tk3 _ (List.mem_of_getElem? (i := 228) rfl), List.forall_mem_cons.mpr ⟨tk3 _ (List.mem_of_getElem? (i := 229) rfl), List.forall_mem_cons.mpr ⟨tk3 _ (List.mem_of_getElem? (i := 231) rfl), List.forall_mem_cons.mpr ⟨tk3 _ (List.mem_of_getElem? (i := 232) rfl), List.forall_mem_cons.mpr ⟨tk3 _ (List.mem_of_getElem? (i := 233) rfl), List.forall_mem_cons.mpr ⟨tk3 _ (List.mem_of_getElem? (i := 234) rfl), List.forall_mem_cons.mpr ⟨tk3 _ (List.mem_of_getElem? (i := 235) rfl), List.forall_mem_cons.mpr ⟨tk3 _ (List.mem_of_getElem? (i := 236) rfl), List.forall_mem_cons.mpr ⟨tk3 _ (List.mem_of_getElem? (i := 237) rfl), List.forall_mem_cons.mpr ⟨tk3 _ (List.mem_of_getElem? (i := 238) rfl), List.forall_mem_cons.mpr ⟨tk3 _ (List.mem_of_getElem? (i := 239) rfl), List.forall_mem_cons.mpr ⟨tk4 _ (List.mem_of_getElem? (i := 0) rfl), List.forall_mem_cons.mpr ⟨tk4 _ (List.mem_of_getElem? (i := 1) rfl), List.forall_mem_cons.mpr ⟨tk4 _ (List.mem_of_getElem? (i := 2) rfl), List.forall_mem_cons.mpr ⟨tk4 _ (List.mem_of_getElem? (i := 4) rfl), List.forall_mem_cons.mpr ⟨tk4 _ (List.mem_of_getElem? (i := 5) rfl), List.forall_mem_cons.mpr ⟨tk4 _ (List.mem_of_getElem? (i := 6) rfl), List.forall_mem_cons.mpr ⟨tk4 _ (List.mem_of_getElem? (i := 7) rfl), List.forall_mem_cons.mpr ⟨tk4 _ (List.mem_of_getElem? (i := 8) rfl), List.forall_mem_cons.mpr ⟨tk4 _ (List.mem_of_getElem? (i := 9) rfl), List.forall_mem_cons.mpr ⟨tk4 _ (List.mem_of_getElem? (i := 10) rfl), List.forall_mem_cons.mpr ⟨tk4 _ (List.mem_of_getElem? (i := 11) rfl), List.forall_mem_cons.mpr ⟨tk4 _ (List.mem_of_getElem? (i := 12) rfl), fun _ h => absurd h List.not_mem_nil⟩⟩⟩⟩⟩⟩⟩⟩⟩⟩⟩⟩⟩⟩⟩⟩⟩⟩⟩⟩⟩⟩⟩⟩⟩
set_option maxRecDepth 100000 in
theorem tb_10 : ∀ w ∈ gW_10, w ∈ lw_tbl := List.forall_mem_cons.mpr ⟨tk4 _ (List.mem_of_getElem? (i := 13) rfl), List.forall_mem_cons.mpr ⟨tk4 _ (List.mem_of_getElem? (i := 14) rfl), List.forall_mem_cons.mpr ⟨tk4 _ (List.mem_of_getElem? (i := 16) rfl), List.forall_mem_cons.mpr ⟨tk4 _ (List.mem_of_getElem? (i := 17) rfl), List.forall_mem_cons.mpr ⟨tk4 _ (List.mem_of_getElem? (i := 18) rfl), List.forall_mem_cons.mpr ⟨tk4 _ (List.mem_of_getElem? (i := 20) rfl), List.forall_mem_cons.mpr ⟨tk4 _ (List.mem_of_getElem? (i := 21) rfl), List.forall_mem_cons.mpr ⟨tk4 _ (List.mem_of_getElem? (i := 22) rfl), List.forall_mem_cons.mpr ⟨tk4 _ (List.mem_of_getElem? (i := 23) rfl), List.forall_mem_cons.mpr ⟨tk4 _ (List.mem_of_getElem? (i := 24) rfl), List.forall_mem_cons.mpr ⟨tk4 _ (List.mem_of_getElem? (i := 25) rfl), List.forall_mem_cons.mpr ⟨tk4 _ (List.mem_of_getElem? (i := 26) rfl), List.forall_mem_cons.mpr ⟨tk4 _ (List.mem_of_getElem? (i := 35) rfl), List.forall_mem_cons.mpr ⟨tk4 _ (List.mem_of_getElem? (i := 51) rfl), List.forall_mem_cons.mpr ⟨tk4 _ (List.mem_of_getElem? (i := 52) rfl), List.forall_mem_cons.mpr ⟨tk4 _ (List.mem_of_getElem? (i := 53) rfl), List.forall_mem_cons.mpr ⟨tk4 _ (List.mem_of_getElem? (i := 54) rfl), List.forall_mem_cons.mpr ⟨tk4 _ (List.mem_of_getElem? (i := 59) rfl), List.forall_mem_cons.mpr ⟨tk4 _ (List.mem_of_getElem? (i := 61) rfl), List.forall_mem_cons.mpr ⟨tk4 _ (List.mem_of_getElem? (i := 62) rfl), List.forall_mem_cons.mpr ⟨tk4 _ (List.mem_of_getElem? (i := 63) rfl), List.forall_mem_cons.mpr ⟨tk4 _ (List.mem_of_getElem? (i := 64) rfl), List.forall_mem_cons.mpr ⟨tk4 _ (List.mem_of_getElem? (i := 65) rfl), List.forall_mem_cons.mpr ⟨tk4 _ (List.mem_of_getElem? (i := 66) rfl), List.forall_mem_cons.mpr ⟨tk4 _ (List.mem_of_getElem? (i := 75) rfl), fun _ h => absurd h List.not_mem_nil⟩⟩⟩⟩⟩⟩⟩⟩⟩⟩⟩⟩⟩⟩⟩⟩⟩⟩⟩⟩⟩⟩⟩⟩⟩
set_option maxRecDepth 100000 in
theorem tb_11 : ∀ w ∈ gW_11, w ∈ lw_tbl := List.forall_mem_cons.mpr ⟨tk4 _ (List.mem_of_getElem? (i := 100) rfl), List.forall_mem_cons.mpr ⟨tk4 _ (List.mem_of_getElem? (i := 102) rfl), List.forall_mem_cons.mpr ⟨tk4 _ (List.mem_of_getElem? (i := 103) rfl), List.forall_mem_cons.mpr ⟨tk4 _ (List.mem_of_getElem? (i := 104) rfl), List.forall_mem_cons.mpr ⟨tk4 _ (List.mem_of_getElem? (i := 105) rfl), List.forall_mem_cons.mpr ⟨tk4 _ (List.mem_of_getElem? (i := 106) rfl), List.forall_mem_cons.mpr ⟨tk4 _ (List.mem_of_getElem? (i := 107) rfl), List.forall_mem_cons.mpr ⟨tk4 _ (List.mem_of_getElem? (i := 108) rfl), List.forall_mem_cons.mpr ⟨tk4 _ (List.mem_of_getElem? (i := 109) rfl), List.forall_mem_cons.mpr ⟨tk4 _ (List.mem_of_getElem? (i := 110) rfl), List.forall_mem_cons.mpr ⟨tk4 _ (List.mem_of_getElem? (i := 111) rfl), List.forall_mem_cons.mpr ⟨tk4 _ (List.mem_of_getElem? (i := 112) rfl), List.forall_mem_cons.mpr ⟨tk4 _ (List.mem_of_getElem? (i := 113) rfl), List.forall_mem_cons.mpr ⟨tk4 _ (List.mem_of_getElem? (i := 114) rfl), List.forall_mem_cons.mpr ⟨tk4 _ (List.mem_of_getElem? (i := 115) rfl), List.forall_mem_cons.mpr ⟨tk4 _ (List.mem_of_getElem? (i := 116) rfl), List.forall_mem_cons.mpr ⟨tk4 _ (List.mem_of_getElem? (i := 117) rfl), List.forall_mem_cons.mpr ⟨tk4 _ (List.mem_of_getElem? (i := 118) rfl), List.forall_mem_cons.mpr ⟨tk4 _ (List.mem_of_getElem? (i := 119) rfl), List.forall_mem_cons.mpr ⟨tk4 _ (List.mem_of_getElem? (i := 120) rfl), List.forall_mem_cons.mpr ⟨tk4 _ (List.mem_of_getElem? (i := 121) rfl), List.forall_mem_cons.mpr ⟨tk4 _ (List.mem_of_getElem? (i := 122) rfl), List.forall_mem_cons.mpr ⟨tk4 _ (List.mem_of_getElem? (i := 123) rfl), List.forall_mem_cons.mpr ⟨tk4 _ (List.mem_of_getElem? (i := 124) rfl), List.forall_mem_cons.mpr ⟨tk4 _ (List.mem_of_getElem? (i := 125) rfl), fun _ h => absurd h List.not_mem_nil⟩⟩⟩⟩⟩⟩⟩⟩⟩⟩⟩⟩⟩⟩⟩⟩⟩⟩⟩⟩⟩⟩⟩⟩⟩
set_option maxRecDepth 100000 in
theorem tb_12 : ∀ w ∈ gW_12, w ∈ lw_tbl := List.forall_mem_cons.mpr ⟨tk4 _ (List.mem_of_getElem? (i := 126) rfl), List.forall_mem_cons.mpr ⟨tk4 _ (List.mem_of_getElem? (i := 127) rfl), List.forall_mem_cons.mpr ⟨tk4 _ (List.mem_of_getElem? (i := 129) rfl), List.forall_mem_cons.mpr ⟨tk4 _ (List.mem_of_getElem? (i := 130) rfl), List.forall_mem_cons.mpr ⟨tk4 _ (List.mem_of_getElem? (i := 131) rfl), List.forall_mem_cons.mpr ⟨tk4 _ (List.mem_of_getElem? (i := 132) rfl), List.forall_mem_cons.mpr ⟨tk4 _ (List.mem_of_getElem? (i := 133) rfl), List.forall_mem_cons.mpr ⟨tk4 _ (List.mem_of_getElem? (i := 134) rfl), List.forall_mem_cons.mpr ⟨tk4 _ (List.mem_of_getElem? (i := 135) rfl), List.forall_mem_cons.mpr ⟨tk4 _ (List.mem_of_getElem? (i := 137) rfl), List.forall_mem_cons.mpr ⟨tk4 _ (List.mem_of_getElem? (i := 138) rfl), List.forall_mem_cons.mpr ⟨tk4 _ (List.mem_of_getElem? (i := 139) rfl), List.forall_mem_cons.mpr ⟨tk4 _ (List.mem_of_getElem? (i := 140) rfl), List.forall_mem_cons.mpr ⟨tk4 _ (List.mem_of_getElem? (i := 141) rfl), List.forall_mem_cons.mpr ⟨tk4 _ (List.mem_of_getElem? (i := 142) rfl), List.forall_mem_cons.mpr ⟨tk4 _ (List.mem_of_getElem? (i := 144) rfl), List.forall_mem_cons.mpr ⟨tk4 _ (List.mem_of_getElem? (i := 145) rfl), List.forall_mem_cons.mpr ⟨tk4 _ (List.mem_of_getElem? (i := 146) rfl), List.forall_mem_cons.mpr ⟨tk4 _ (List.mem_of_getElem? (i := 147) rfl), List.forall_mem_cons.mpr ⟨tk4 _ (List.mem_of_getElem? (i := 148) rfl), List.forall_mem_cons.mpr ⟨tk4 _ (List.mem_of_getElem? (i := 149) rfl), List.forall_mem_cons.mpr ⟨tk4 _ (List.mem_of_getElem? (i := 150) rfl), List.forall_mem_cons.mpr ⟨tk4 _ (List.mem_of_getElem? (i := 151) rfl), List.forall_mem_cons.mpr ⟨tk4 _ (List.mem_of_getElem? (i := 152) rfl), List.forall_mem_cons.mpr ⟨tk4 _ (List.mem_of_getElem? (i := 153) rfl), fun _ h => absurd h List.not_mem_nil⟩⟩⟩⟩⟩⟩⟩⟩⟩⟩⟩⟩⟩⟩⟩⟩⟩⟩⟩⟩⟩⟩⟩⟩⟩
set_option maxRecDepth 100000 in
theorem tb_13 : ∀ w ∈ gW_13, w ∈ lw_tbl := List.forall_mem_cons.mpr ⟨tk4 _ (List.mem_of_getElem? (i := 154) rfl), List.forall_mem_cons.mpr ⟨tk4 _ (List.mem_of_getElem? (i := 155) rfl), List.forall_mem_cons.mpr ⟨tk4 _ (List.mem_of_getElem? (i := 156) rfl), List.forall_mem_cons.mpr ⟨tk4 _ (List.mem_of_getElem? (i := 157) rfl), List.forall_mem_cons.mpr ⟨tk4 _ (List.mem_of_getElem? (i := 158) rfl), List.forall_mem_cons.mpr ⟨tk4 _ (List.mem_of_getElem? (i := 159) rfl), List.forall_mem_cons.mpr ⟨tk4 _ (List.mem_of_getElem? (i := 160) rfl), List.forall_mem_cons.mpr ⟨tk4 _ (List.mem_of_getElem? (i := 161) rfl), List.forall_mem_cons.mpr ⟨tk4 _ (List.mem_of_getElem? (i := 162) rfl), List.forall_mem_cons.mpr ⟨tk4 _ (List.mem_of_getElem? (i := 163) rfl), List.forall_mem_cons.mpr ⟨tk4 _ (List.mem_of_getElem? (i := 164) rfl), List.forall_mem_cons.mpr ⟨tk4 _ (List.mem_of_getElem? (i := 165) rfl), List.forall_mem_cons.mpr ⟨tk4 _ (List.mem_of_getElem? (i := 166) rfl), List.forall_mem_cons.mpr ⟨tk4 _ (List.mem_of_getElem? (i := 171) rfl), List.forall_mem_cons.mpr ⟨tk4 _ (List.mem_of_getElem? (i := 172) rfl), List.forall_mem_cons.mpr ⟨tk4 _ (List.mem_of_getElem? (i := 173) rfl), List.forall_mem_cons.mpr ⟨tk4 _ (List.mem_of_getElem? (i := 174) rfl), List.forall_mem_cons.mpr ⟨tk4 _ (List.mem_of_getElem? (i := 175) rfl), List.forall_mem_cons.mpr ⟨tk4 _ (List.mem_of_getElem? (i := 176) rfl), List.forall_mem_cons.mpr ⟨tk4 _ (List.mem_of_getElem? (i := 177) rfl), List.forall_mem_cons.mpr ⟨tk4 _ (List.mem_of_getElem? (i := 178) rfl), List.forall_mem_cons.mpr ⟨tk4 _ (List.mem_of_getElem? (i := 179) rfl), List.forall_mem_cons.mpr ⟨tk4 _ (List.mem_of_getElem? (i := 180) rfl), List.forall_mem_cons.mpr ⟨tk4 _ (List.mem_of_getElem? (i := 181) rfl), List.forall_mem_cons.mpr ⟨tk4 _ (List.mem_of_getElem? (i := 182) rfl), fun _ h => absurd h List.not_mem_nil⟩⟩⟩⟩⟩⟩⟩⟩⟩⟩⟩⟩⟩⟩⟩⟩⟩⟩⟩⟩⟩⟩⟩⟩⟩
set_option maxRecDepth 100000 in
theorem tb_14 : ∀ w ∈ gW_14, w ∈ lw_tbl := List.forall_mem_cons.mpr ⟨tk4 _ (List.mem_of_getElem? (i := 183) rfl), List.forall_mem_cons.mpr ⟨tk4 _ (List.mem_of_getElem? (i := 184) rfl), List.forall_mem_cons.mpr ⟨tk4 _ (List.mem_of_getElem? (i := 185) rfl), List.forall_mem_cons.mpr ⟨tk4 _ (List.mem_of_getElem? (i := 186) rfl), List.forall_mem_cons.mpr ⟨tk4 _ (List.mem_of_getElem? (i := 190) rfl), List.forall_mem_cons.mpr ⟨tk4 _ (List.mem_of_getElem? (i := 191) rfl), List.forall_mem_cons.mpr ⟨tk4 _ (List.mem_of_getElem? (i := 192) rfl), List.forall_mem_cons.mpr ⟨tk4 _ (List.mem_of_getElem? (i := 193) rfl), List.forall_mem_cons.mpr ⟨tk4 _ (List.mem_of_getElem? (i := 194) rfl), List.forall_mem_cons.mpr ⟨tk4 _ (List.mem_of_getElem? (i := 195) rfl), List.forall_mem_cons.mpr ⟨tk4 _ (List.mem_of_getElem? (i := 196) rfl), List.forall_mem_cons.mpr ⟨tk4 _ (List.mem_of_getElem? (i := 197) rfl), List.forall_mem_cons.mpr ⟨tk4 _ (List.mem_of_getElem? (i := 198) rfl), List.forall_mem_cons.mpr ⟨tk4 _ (List.mem_of_getElem? (i := 199) rfl), List.forall_mem_cons.mpr ⟨tk4 _ (List.mem_of_getElem? (i := 200) rfl), List.forall_mem_cons.mpr ⟨tk4 _ (List.mem_of_getElem? (i := 202) rfl), List.forall_mem_cons.mpr ⟨tk4 _ (List.mem_of_getElem? (i := 203) rfl), List.forall_mem_cons.mpr ⟨tk4 _ (List.mem_of_getElem? (i := 204) rfl), List.forall_mem_cons.mpr ⟨tk4 _ (List.mem_of_getElem? (i := 205) rfl), List.forall_mem_cons.mpr ⟨tk4 _ (List.mem_of_getElem? (i := 206) rfl), List.forall_mem_cons.mpr ⟨tk4 _ (List.mem_of_getElem? (i := 207) rfl), List.forall_mem_cons.mpr ⟨tk4 _ (List.mem_of_getElem? (i := 208) rfl), List.forall_mem_cons.mpr ⟨tk4 _ (List.mem_of_getElem? (i := 209) rfl), List.forall_mem_cons.mpr ⟨tk4 _ (List.mem_of_getElem? (i := 226) rfl), List.forall_mem_cons.mpr ⟨tk4 _ (List.mem_of_getElem? (i := 227) rfl), fun _ h => absurd h List.not_mem_nil⟩⟩⟩⟩⟩⟩⟩⟩⟩⟩⟩⟩⟩⟩⟩⟩⟩⟩⟩⟩⟩⟩⟩⟩⟩
set_option maxRecDepth 100000 in
theorem tb_15 : ∀ w ∈ gW_15, w ∈ lw_tbl := List.forall_mem_cons.mpr ⟨tk4 _ (List.mem_of_getElem? (i := 228) rfl), List.forall_mem_cons.mpr ⟨tk4 _ (List.mem_of_getElem? (i := 229) rfl), List.forall_mem_cons.mpr ⟨tk4 _ (List.mem_of_getElem? (i := 230) rfl), List.forall_mem_cons.mpr ⟨tk4 _ (List.mem_of_getElem? (i := 231) rfl), List.forall_mem_cons.mpr ⟨tk4 _ (List.mem_of_getElem? (i := 232) rfl), List.forall_mem_cons.mpr ⟨tk4 _ (List.mem_of_getElem? (i := 233) rfl), List.forall_mem_cons.mpr ⟨tk4 _ (List.mem_of_getElem? (i := 234) rfl), List.forall_mem_cons.mpr ⟨tk4 _ (List.mem_of_getElem? (i := 235) rfl), List.forall_mem_cons.mpr ⟨tk4 _ (List.mem_of_getElem? (i := 236) rfl), List.forall_mem_cons.mpr ⟨tk4 _ (List.mem_of_getElem? (i := 237) rfl), List.forall_mem_cons.mpr ⟨tk4 _ (List.mem_of_getElem? (i := 238) rfl), List.forall_mem_cons.mpr ⟨tk5 _ (List.mem_of_getElem? (i := 0) rfl), List.forall_mem_cons.mpr ⟨tk5 _ (List.mem_of_getElem? (i := 1) rfl), List.forall_mem_cons.mpr ⟨tk5 _ (List.mem_of_getElem? (i := 2) rfl), List.forall_mem_cons.mpr ⟨tk5 _ (List.mem_of_getElem? (i := 4) rfl), List.forall_mem_cons.mpr ⟨tk5 _ (List.mem_of_getElem? (i := 5) rfl), List.forall_mem_cons.mpr ⟨tk5 _ (List.mem_of_getElem? (i := 6) rfl), List.forall_mem_cons.mpr ⟨tk5 _ (List.mem_of_getElem? (i := 7) rfl), List.forall_mem_cons.mpr ⟨tk5 _ (List.mem_of_getElem? (i := 8) rfl), List.forall_mem_cons.mpr ⟨tk5 _ (List.mem_of_getElem? (i := 9) rfl), List.forall_mem_cons.mpr ⟨tk5 _ (List.mem_of_getElem? (i := 10) rfl), List.forall_mem_cons.mpr ⟨tk5 _ (List.mem_of_getElem? (i := 11) rfl), List.forall_mem_cons.mpr ⟨tk5 _ (List.mem_of_getElem? (i := 12) rfl), List.forall_mem_cons.mpr ⟨tk5 _ (List.mem_of_getElem? (i := 13) rfl), List.forall_mem_cons.mpr ⟨tk5 _ (List.mem_of_getElem? (i := 14) rfl), fun _ h => absurd h List.not_mem_nil⟩⟩⟩⟩⟩⟩⟩⟩⟩⟩⟩⟩⟩⟩⟩⟩⟩⟩⟩⟩⟩⟩⟩⟩⟩
set_option maxRecDepth 100000 in
theorem tb_16 : ∀ w ∈ gW_16, w ∈ lw_tbl := List.forall_mem_cons.mpr ⟨tk5 _ (List.mem_of_getElem? (i := 16) rfl), List.forall_mem_cons.mpr ⟨tk5 _ (List.mem_of_getElem? (i := 17) rfl), List.forall_mem_cons.mpr ⟨tk5 _ (List.mem_of_getElem? (i := 18) rfl), List.forall_mem_cons.mpr ⟨tk5 _ (List.mem_of_getElem? (i := 19) rfl), List.forall_mem_cons.mpr ⟨tk5 _ (List.mem_of_getElem? (i := 20) rfl), List.forall_mem_cons.mpr ⟨tk5 _ (List.mem_of_getElem? (i := 21) rfl), List.forall_mem_cons.mpr ⟨tk5 _ (List.mem_of_getElem? (i := 22) rfl), List.forall_mem_cons.mpr ⟨tk5 _ (List.mem_of_getElem? (i := 23) rfl), List.forall_mem_cons.mpr ⟨tk5 _ (List.mem_of_getElem? (i := 24) rfl), List.forall_mem_cons.mpr ⟨tk5 _ (List.mem_of_getElem? (i := 25) rfl), List.forall_mem_cons.mpr ⟨tk5 _ (List.mem_of_getElem? (i := 26) rfl), List.forall_mem_cons.mpr ⟨tk5 _ (List.mem_of_getElem? (i := 27) rfl), List.forall_mem_cons.mpr ⟨tk5 _ (List.mem_of_getElem? (i := 28) rfl), List.forall_mem_cons.mpr ⟨tk5 _ (List.mem_of_getElem? (i := 29) rfl), List.forall_mem_cons.mpr ⟨tk5 _ (List.mem_of_getElem? (i := 31) rfl), List.forall_mem_cons.mpr ⟨tk5 _ (List.mem_of_getElem? (i := 32) rfl), List.forall_mem_cons.mpr ⟨tk5 _ (List.mem_of_getElem? (i := 33) rfl), List.forall_mem_cons.mpr ⟨tk5 _ (List.mem_of_getElem? (i := 34) rfl), List.forall_mem_cons.mpr ⟨tk5 _ (List.mem_of_getElem? (i := 36) rfl), List.forall_mem_cons.mpr ⟨tk5 _ (List.mem_of_getElem? (i := 37) rfl), List.forall_mem_cons.mpr ⟨tk5 _ (List.mem_of_getElem? (i := 38) rfl), List.forall_mem_cons.mpr ⟨tk5 _ (List.mem_of_getElem? (i := 39) rfl), List.forall_mem_cons.mpr ⟨tk5 _ (List.mem_of_getElem? (i := 40) rfl), List.forall_mem_cons.mpr ⟨tk5 _ (List.mem_of_getElem? (i := 41) rfl), List.forall_mem_cons.mpr ⟨tk5 _ (List.mem_of_getElem? (i := 42) rfl), fun _ h => absurd h List.not_mem_nil⟩⟩⟩⟩⟩⟩⟩⟩⟩⟩⟩⟩⟩⟩⟩⟩⟩⟩⟩⟩⟩⟩⟩⟩⟩
set_option maxRecDepth 100000 in
theorem tb_17 : ∀ w ∈ gW_17, w ∈ lw_tbl := List.forall_mem_cons.mpr ⟨tk5 _ (List.mem_of_getElem? (i := 43) rfl), List.forall_mem_cons.mpr ⟨tk5 _ (List.mem_of_getElem? (i := 44) rfl), List.forall_mem_cons.mpr ⟨tk5 _ (List.mem_of_getElem? (i := 45) rfl), List.forall_mem_cons.mpr ⟨tk5 _ (List.mem_of_getElem? (i := 46) rfl), List.forall_mem_cons.mpr ⟨tk5 _ (List.mem_of_getElem? (i := 47) rfl), List.forall_mem_cons.mpr ⟨tk5 _ (List.mem_of_getElem? (i := 48) rfl), List.forall_mem_cons.mpr ⟨tk5 _ (List.mem_of_getElem? (i := 49) rfl), List.forall_mem_cons.mpr ⟨tk5 _ (List.mem_of_getElem? (i := 50) rfl), List.forall_mem_cons.mpr ⟨tk5 _ (List.mem_of_getElem? (i := 51) rfl), List.forall_mem_cons.mpr ⟨tk5 _ (List.mem_of_getElem? (i := 53) rfl), List.forall_mem_cons.mpr ⟨tk5 _ (List.mem_of_getElem? (i := 54) rfl), List.forall_mem_cons.mpr ⟨tk5 _ (List.mem_of_getElem? (i := 55) rfl), List.forall_mem_cons.mpr ⟨tk5 _ (List.mem_of_getElem? (i := 56) rfl), List.forall_mem_cons.mpr ⟨tk5 _ (List.mem_of_getElem? (i := 57) rfl), List.forall_mem_cons.mpr ⟨tk5 _ (List.mem_of_getElem? (i := 58) rfl), List.forall_mem_cons.mpr ⟨tk5 _ (List.mem_of_getElem? (i := 59) rfl), List.forall_mem_cons.mpr ⟨tk5 _ (List.mem_of_getElem? (i := 60) rfl), List.forall_mem_cons.mpr ⟨tk5 _ (List.mem_of_getElem? (i := 61) rfl), List.forall_mem_cons.mpr ⟨tk5 _ (List.mem_of_getElem? (i := 62) rfl), List.forall_mem_cons.mpr ⟨tk5 _ (List.mem_of_getElem? (i := 63) rfl), List.forall_mem_cons.mpr ⟨tk5 _ (List.mem_of_getElem? (i := 64) rfl), List.forall_mem_cons.mpr ⟨tk5 _ (List.mem_of_getElem? (i := 65) rfl), List.forall_mem_cons.mpr ⟨tk5 _ (List.mem_of_getElem? (i := 66) rfl), List.forall_mem_cons.mpr ⟨tk5 _ (List.mem_of_getElem? (i := 67) rfl), List.forall_mem_cons.mpr ⟨tk5 _ (List.mem_of_getElem? (i := 68) rfl), fun _ h => absurd h List.not_mem_nil⟩⟩⟩⟩⟩⟩⟩⟩⟩⟩⟩⟩⟩⟩⟩⟩⟩⟩⟩⟩⟩⟩⟩⟩⟩
set_option maxRecDepth 100000 in
theorem tb_18 : ∀ w ∈ gW_18, w ∈ lw_tbl := List.forall_mem_cons.mpr ⟨tk5 _ (List.mem_of_getElem? (i := 70) rfl), List.forall_mem_cons.mpr ⟨tk5 _ (List.mem_of_getElem? (i := 71) rfl), List.forall_mem_cons.mpr ⟨tk5 _ (List.mem_of_getElem? (i := 72) rfl), List.forall_mem_cons.mpr ⟨tk5 _ (List.mem_of_getElem? (i := 73) rfl), List.forall_mem_cons.mpr ⟨tk5 _ (List.mem_of_getElem? (i := 74) rfl), List.forall_mem_cons.mpr ⟨tk5 _ (List.mem_of_getElem? (i := 75) rfl), List.forall_mem_cons.mpr ⟨tk5 _ (List.mem_of_getElem? (i := 76) rfl), List.forall_mem_cons.mpr ⟨tk5 _ (List.mem_of_getElem? (i := 77) rfl), List.forall_mem_cons.mpr ⟨tk5 _ (List.mem_of_getElem? (i := 78) rfl), List.forall_mem_cons.mpr ⟨tk5 _ (List.mem_of_getElem? (i := 80) rfl), List.forall_mem_cons.mpr ⟨tk5 _ (List.mem_of_getElem? (i := 81) rfl), List.forall_mem_cons.mpr ⟨tk5 _ (List.mem_of_getElem? (i := 82) rfl), List.forall_mem_cons.mpr ⟨tk5 _ (List.mem_of_getElem? (i := 83) rfl), List.forall_mem_cons.mpr ⟨tk5 _ (List.mem_of_getElem? (i := 84) rfl), List.forall_mem_cons.mpr ⟨tk5 _ (List.mem_of_getElem? (i := 85) rfl), List.forall_mem_cons.mpr ⟨tk5 _ (List.mem_of_getElem? (i := 86) rfl), List.forall_mem_cons.mpr ⟨tk5 _ (List.mem_of_getElem? (i := 87) rfl), List.forall_mem_cons.mpr ⟨tk5 _ (List.mem_of_getElem? (i := 88) rfl), List.forall_mem_cons.mpr ⟨tk5 _ (List.mem_of_getElem? (i := 92) rfl), List.forall_mem_cons.mpr ⟨tk5 _ (List.mem_of_getElem? (i := 93) rfl), List.forall_mem_cons.mpr ⟨tk5 _ (List.mem_of_getElem? (i := 94) rfl), List.forall_mem_cons.mpr ⟨tk5 _ (List.mem_of_getElem? (i := 95) rfl), List.forall_mem_cons.mpr ⟨tk5 _ (List.mem_of_getElem? (i := 96) rfl), List.forall_mem_cons.mpr ⟨tk5 _ (List.mem_of_getElem? (i := 97) rfl), List.forall_mem_cons.mpr ⟨tk5 _ (List.mem_of_getElem? (i := 98) rfl), fun _ h => absurd h List.not_mem_nil⟩⟩⟩⟩⟩⟩⟩⟩⟩⟩⟩⟩⟩⟩⟩⟩⟩⟩⟩⟩⟩⟩⟩⟩⟩
set_option maxRecDepth 100000 in
theorem tb_19 : ∀ w ∈ gW_19, w ∈ lw_tbl := List.forall_mem_cons.mpr ⟨tk5 _ (List.mem_of_getElem? (i := 99) rfl), List.forall_mem_cons.mpr ⟨tk5 _ (List.mem_of_getElem? (i := 100) rfl), List.forall_mem_cons.mpr ⟨tk5 _ (List.mem_of_getElem? (i := 101) rfl), List.forall_mem_cons.mpr ⟨tk5 _ (List.mem_of_getElem? (i := 102) rfl), List.forall_mem_cons.mpr ⟨tk5 _ (List.mem_of_getElem? (i := 103) rfl), List.forall_mem_cons.mpr ⟨tk5 _ (List.mem_of_getElem? (i := 104) rfl), List.forall_mem_cons.mpr ⟨tk5 _ (List.mem_of_getElem? (i := 105) rfl), List.forall_mem_cons.mpr ⟨tk5 _ (List.mem_of_getElem? (i := 107) rfl), List.forall_mem_cons.mpr ⟨tk5 _ (List.mem_of_getElem? (i := 108) rfl), List.forall_mem_cons.mpr ⟨tk5 _ (List.mem_of_getElem? (i := 109) rfl), List.forall_mem_cons.mpr ⟨tk5 _ (List.mem_of_getElem? (i := 110) rfl), List.forall_mem_cons.mpr ⟨tk5 _ (List.mem_of_getElem? (i := 111) rfl), List.forall_mem_cons.mpr ⟨tk5 _ (List.mem_of_getElem? (i := 112) rfl), List.forall_mem_cons.mpr ⟨tk5 _ (List.mem_of_getElem? (i := 113) rfl), List.forall_mem_cons.mpr ⟨tk5 _ (List.mem_of_getElem? (i := 114) rfl), List.forall_mem_cons.mpr ⟨tk5 _ (List.mem_of_getElem? (i := 115) rfl), List.forall_mem_cons.mpr ⟨tk5 _ (List.mem_of_getElem? (i := 116) rfl), List.forall_mem_cons.mpr ⟨tk5 _ (List.mem_of_getElem? (i := 117) rfl), List.forall_mem_cons.mpr ⟨tk5 _ (List.mem_of_getElem? (i := 133) rfl), List.forall_mem_cons.mpr ⟨tk5 _ (List.mem_of_getElem? (i := 135) rfl), List.forall_mem_cons.mpr ⟨tk5 _ (List.mem_of_getElem? (i := 136) rfl), List.forall_mem_cons.mpr ⟨tk5 _ (List.mem_of_getElem? (i := 137) rfl), List.forall_mem_cons.mpr ⟨tk5 _ (List.mem_of_getElem? (i := 138) rfl), List.forall_mem_cons.mpr ⟨tk5 _ (List.mem_of_getElem? (i := 139) rfl), List.forall_mem_cons.mpr ⟨tk5 _ (List.mem_of_getElem? (i := 140) rfl), fun _ h => absurd h List.not_mem_nil⟩⟩⟩⟩⟩⟩⟩⟩⟩⟩⟩⟩⟩⟩⟩⟩⟩⟩⟩⟩⟩⟩⟩⟩⟩
set_option maxRecDepth 100000 in
theorem tb_20 : ∀ w ∈ gW_20, w ∈ lw_tbl := List.forall_mem_cons.mpr ⟨tk5 _ (List.mem_of_getElem? (i := 141) rfl), List.forall_mem_cons.mpr ⟨tk5 _ (List.mem_of_getElem? (i := 142) rfl), List.forall_mem_cons.mpr ⟨tk5 _ (List.mem_of_getElem? (i := 143) rfl), List.forall_mem_cons.mpr ⟨tk5 _ (List.mem_of_getElem? (i := 144) rfl), List.forall_mem_cons.mpr ⟨tk5 _ (List.mem_of_getElem? (i := 145) rfl), List.forall_mem_cons.mpr ⟨tk5 _ (List.mem_of_getElem? (i := 146) rfl), List.forall_mem_cons.mpr ⟨tk5 _ (List.mem_of_getElem? (i := 147) rfl), List.forall_mem_cons.mpr ⟨tk5 _ (List.mem_of_getElem? (i := 148) rfl), List.forall_mem_cons.mpr ⟨tk5 _ (List.mem_of_getElem? (i := 149) rfl), List.forall_mem_cons.mpr ⟨tk5 _ (List.mem_of_getElem? (i := 153) rfl), List.forall_mem_cons.mpr ⟨tk5 _ (List.mem_of_getElem? (i := 159) rfl), List.forall_mem_cons.mpr ⟨tk5 _ (List.mem_of_getElem? (i := 160) rfl), List.forall_mem_cons.mpr ⟨tk5 _ (List.mem_of_getElem? (i := 161) rfl), List.forall_mem_cons.mpr ⟨tk5 _ (List.mem_of_getElem? (i := 162) rfl), List.forall_mem_cons.mpr ⟨tk5 _ (List.mem_of_getElem? (i := 163) rfl), List.forall_mem_cons.mpr ⟨tk5 _ (List.mem_of_getElem? (i := 164) rfl), List.forall_mem_cons.mpr ⟨tk5 _ (List.mem_of_getElem? (i := 165) rfl), List.forall_mem_cons.mpr ⟨tk5 _ (List.mem_of_getElem? (i := 166) rfl), List.forall_mem_cons.mpr ⟨tk5 _ (List.mem_of_getElem? (i := 167) rfl), List.forall_mem_cons.mpr ⟨tk5 _ (List.mem_of_getElem? (i := 170) rfl), List.forall_mem_cons.mpr ⟨tk5 _ (List.mem_of_getElem? (i := 171) rfl), List.forall_mem_cons.mpr ⟨tk5 _ (List.mem_of_getElem? (i := 172) rfl), List.forall_mem_cons.mpr ⟨tk5 _ (List.mem_of_getElem? (i := 173) rfl), List.forall_mem_cons.mpr ⟨tk5 _ (List.mem_of_getElem? (i := 174) rfl), List.forall_mem_cons.mpr ⟨tk5 _ (List.mem_of_getElem? (i := 175) rfl), fun _ h => absurd h List.not_mem_nil⟩⟩⟩⟩⟩⟩⟩⟩⟩⟩⟩⟩⟩⟩⟩⟩⟩⟩⟩⟩⟩⟩⟩⟩⟩
set_option maxRecDepth 100000 in
theorem tb_21 : ∀ w ∈ gW_21, w ∈ lw_tbl := List.forall_mem_cons.mpr ⟨tk5 _ (List.mem_of_getElem? (i := 176) rfl), List.forall_mem_cons.mpr ⟨tk5 _ (List.mem_of_getElem? (i := 177) rfl), List.forall_mem_cons.mpr ⟨tk5 _ (List.mem_of_getElem? (i := 178) rfl), List.forall_mem_cons.mpr ⟨tk5 _ (List.mem_of_getElem? (i := 180) rfl), List.forall_mem_cons.mpr ⟨tk5 _ (List.mem_of_getElem? (i := 181) rfl), List.forall_mem_cons.mpr ⟨tk5 _ (List.mem_of_getElem? (i := 182) rfl), List.forall_mem_cons.mpr ⟨tk5 _ (List.mem_of_getElem? (i := 183) rfl), List.forall_mem_cons.mpr ⟨tk5 _ (List.mem_of_getElem? (i := 184) rfl), List.forall_mem_cons.mpr ⟨tk5 _ (List.mem_of_getElem? (i := 185) rfl), List.forall_mem_cons.mpr ⟨tk5 _ (List.mem_of_getElem? (i := 186) rfl), List.forall_mem_cons.mpr ⟨tk5 _ (List.mem_of_getElem? (i := 187) rfl), List.forall_mem_cons.mpr ⟨tk5 _ (List.mem_of_getElem? (i := 188) rfl), List.forall_mem_cons.mpr ⟨tk5 _ (List.mem_of_getElem? (i := 189) rfl), List.forall_mem_cons.mpr ⟨tk5 _ (List.mem_of_getElem? (i := 190) rfl), List.forall_mem_cons.mpr ⟨tk5 _ (List.mem_of_getElem? (i := 191) rfl), List.forall_mem_cons.mpr ⟨tk5 _ (List.mem_of_getElem? (i := 192) rfl), List.forall_mem_cons.mpr ⟨tk5 _ (List.mem_of_getElem? (i := 193) rfl), List.forall_mem_cons.mpr ⟨tk5 _ (List.mem_of_getElem? (i := 194) rfl), List.forall_mem_cons.mpr ⟨tk5 _ (List.mem_of_getElem? (i := 195) rfl), List.forall_mem_cons.mpr ⟨tk5 _ (List.mem_of_getElem? (i := 196) rfl), List.forall_mem_cons.mpr ⟨tk5 _ (List.mem_of_getElem? (i := 197) rfl), List.forall_mem_cons.mpr ⟨tk5 _ (List.mem_of_getElem? (i := 198) rfl), List.forall_mem_cons.mpr ⟨tk5 _ (List.mem_of_getElem? (i := 199) rfl), List.forall_mem_cons.mpr ⟨tk5 _ (List.mem_of_getElem? (i := 200) rfl), List.forall_mem_cons.mpr ⟨tk5 _ (List.mem_of_getElem? (i := 201) rfl), fun _ h => absurd h List.not_mem_nil⟩⟩⟩⟩⟩⟩⟩⟩⟩⟩⟩⟩⟩⟩⟩⟩⟩⟩⟩⟩⟩⟩⟩⟩⟩
set_option maxRecDepth 100000 in
theorem tb_22 : ∀ w ∈ gW_22, w ∈ lw_tbl := List.forall_mem_cons.mpr ⟨tk5 _ (List.mem_of_getElem? (i := 203) rfl), List.forall_mem_cons.mpr ⟨tk5 _ (List.mem_of_getElem? (i := 204) rfl), List.forall_mem_cons.mpr ⟨tk5 _ (List.mem_of_getElem? (i := 205) rfl), List.forall_mem_cons.mpr ⟨tk5 _ (List.mem_of_getElem? (i := 207) rfl), List.forall_mem_cons.mpr ⟨tk5 _ (List.mem_of_getElem? (i := 208) rfl), List.forall_mem_cons.mpr ⟨tk5 _ (List.mem_of_getElem? (i := 209) rfl), List.forall_mem_cons.mpr ⟨tk5 _ (List.mem_of_getElem? (i := 210) rfl), List.forall_mem_cons.mpr ⟨tk5 _ (List.mem_of_getElem? (i := 212) rfl), List.forall_mem_cons.mpr ⟨tk5 _ (List.mem_of_getElem? (i := 213) rfl), List.forall_mem_cons.mpr ⟨tk5 _ (List.mem_of_getElem? (i := 214) rfl), List.forall_mem_cons.mpr ⟨tk5 _ (List.mem_of_getElem? (i := 215) rfl), List.forall_mem_cons.mpr ⟨tk5 _ (List.mem_of_getElem? (i := 216) rfl), List.forall_mem_cons.mpr ⟨tk5 _ (List.mem_of_getElem? (i := 217) rfl), List.forall_mem_cons.mpr ⟨tk5 _ (List.mem_of_getElem? (i := 218) rfl), List.forall_mem_cons.mpr ⟨tk5 _ (List.mem_of_getElem? (i := 219) rfl), List.forall_mem_cons.mpr ⟨tk5 _ (List.mem_of_getElem? (i := 220) rfl), List.forall_mem_cons.mpr ⟨tk5 _ (List.mem_of_getElem? (i := 221) rfl), List.forall_mem_cons.mpr ⟨tk5 _ (List.mem_of_getElem? (i := 222) rfl), List.forall_mem_cons.mpr ⟨tk5 _ (List.mem_of_getElem? (i := 223) rfl), List.forall_mem_cons.mpr ⟨tk5 _ (List.mem_of_getElem? (i := 224) rfl), List.forall_mem_cons.mpr ⟨tk5 _ (List.mem_of_getElem? (i := 225) rfl), List.forall_mem_cons.mpr ⟨tk5 _ (List.mem_of_getElem? (i := 226) rfl), List.forall_mem_cons.mpr ⟨tk5 _ (List.mem_of_getElem? (i := 227) rfl), List.forall_mem_cons.mpr ⟨tk5 _ (List.mem_of_getElem? (i := 228) rfl), List.forall_mem_cons.mpr ⟨tk5 _ (List.mem_of_getElem? (i := 229) rfl), fun _ h => absurd h List.not_mem_nil⟩⟩⟩⟩⟩⟩⟩⟩⟩⟩⟩⟩⟩⟩⟩⟩⟩⟩⟩⟩⟩⟩⟩⟩⟩
set_option maxRecDepth 100000 in
theorem tb_23 : ∀ w ∈ gW_23, w ∈ lw_tbl := List.forall_mem_cons.mpr ⟨tk5 _ (List.mem_of_getElem? (i := 230) rfl), List.forall_mem_cons.mpr ⟨tk5 _ (List.mem_of_getElem? (i := 231) rfl), List.forall_mem_cons.mpr ⟨tk5 _ (List.mem_of_getElem? (i := 232) rfl), List.forall_mem_cons.mpr ⟨tk5 _ (List.mem_of_getElem? (i := 233) rfl), List.forall_mem_cons.mpr ⟨tk5 _ (List.mem_of_getElem? (i := 234) rfl), List.forall_mem_cons.mpr ⟨tk5 _ (List.mem_of_getElem? (i := 235) rfl), List.forall_mem_cons.mpr ⟨tk5 _ (List.mem_of_getElem? (i := 236) rfl), List.forall_mem_cons.mpr ⟨tk5 _ (List.mem_of_getElem? (i := 237) rfl), List.forall_mem_cons.mpr ⟨tk5 _ (List.mem_of_getElem? (i := 238) rfl), List.forall_mem_cons.mpr ⟨tk5 _ (List.mem_of_getElem? (i := 239) rfl), List.forall_mem_cons.mpr ⟨tk6 _ (List.mem_of_getElem? (i := 0) rfl), List.forall_mem_cons.mpr ⟨tk6 _ (List.mem_of_getElem? (i := 1) rfl), List.forall_mem_cons.mpr ⟨tk6 _ (List.mem_of_getElem? (i := 3) rfl), List.forall_mem_cons.mpr ⟨tk6 _ (List.mem_of_getElem? (i := 4) rfl), List.forall_mem_cons.mpr ⟨tk6 _ (List.mem_of_getElem? (i := 5) rfl), List.forall_mem_cons.mpr ⟨tk6 _ (List.mem_of_getElem? (i := 6) rfl), List.forall_mem_cons.mpr ⟨tk6 _ (List.mem_of_getElem? (i := 7) rfl), List.forall_mem_cons.mpr ⟨tk6 _ (List.mem_of_getElem? (i := 8) rfl), List.forall_mem_cons.mpr ⟨tk6 _ (List.mem_of_getElem? (i := 9) rfl), List.forall_mem_cons.mpr ⟨tk6 _ (List.mem_of_getElem? (i := 10) rfl), List.forall_mem_cons.mpr ⟨tk6 _ (List.mem_of_getElem? (i := 11) rfl), List.forall_mem_cons.mpr ⟨tk6 _ (List.mem_of_getElem? (i := 12) rfl), List.forall_mem_cons.mpr ⟨tk6 _ (List.mem_of_getElem? (i := 13) rfl), List.forall_mem_cons.mpr ⟨tk6 _ (List.mem_of_getElem? (i := 15) rfl), List.forall_mem_cons.mpr ⟨tk6 _ (List.mem_of_getElem? (i := 16) rfl), fun _ h => absurd h List.not_mem_nil⟩⟩⟩⟩⟩⟩⟩⟩⟩⟩⟩⟩⟩⟩⟩⟩⟩⟩⟩⟩⟩⟩⟩⟩⟩
set_option maxRecDepth 100000 in
theorem tb_24 : ∀ w ∈ gW_24, w ∈ lw_tbl := List.forall_mem_cons.mpr ⟨tk6 _ (List.mem_of_getElem? (i := 17) rfl), List.forall_mem_cons.mpr ⟨tk6 _ (List.mem_of_getElem? (i := 18) rfl), List.forall_mem_cons.mpr ⟨tk6 _ (List.mem_of_getElem? (i := 19) rfl), List.forall_mem_cons.mpr ⟨tk6 _ (List.mem_of_getElem? (i := 20) rfl), List.forall_mem_cons.mpr ⟨tk6 _ (List.mem_of_getElem? (i := 21) rfl), List.forall_mem_cons.mpr ⟨tk6 _ (List.mem_of_getElem? (i := 22) rfl), List.forall_mem_cons.mpr ⟨tk6 _ (List.mem_of_getElem? (i := 23) rfl), List.forall_mem_cons.mpr ⟨tk6 _ (List.mem_of_getElem? (i := 24) rfl), List.forall_mem_cons.mpr ⟨tk6 _ (List.mem_of_getElem? (i := 25) rfl), List.forall_mem_cons.mpr ⟨tk6 _ (List.mem_of_getElem? (i := 26) rfl), List.forall_mem_cons.mpr ⟨tk6 _ (List.mem_of_getElem? (i := 27) rfl), List.forall_mem_cons.mpr ⟨tk6 _ (List.mem_of_getElem? (i := 28) rfl), List.forall_mem_cons.mpr ⟨tk6 _ (List.mem_of_getElem? (i := 29) rfl), List.forall_mem_cons.mpr ⟨tk6 _ (List.mem_of_getElem? (i := 30) rfl), List.forall_mem_cons.mpr ⟨tk6 _ (List.mem_of_getElem? (i := 31) rfl), List.forall_mem_cons.mpr ⟨tk6 _ (List.mem_of_getElem? (i := 32) rfl), List.forall_mem_cons.mpr ⟨tk6 _ (List.mem_of_getElem? (i := 33) rfl), List.forall_mem_cons.mpr ⟨tk6 _ (List.mem_of_getElem? (i := 34) rfl), List.forall_mem_cons.mpr ⟨tk6 _ (List.mem_of_getElem? (i := 35) rfl), List.forall_mem_cons.mpr ⟨tk6 _ (List.mem_of_getElem? (i := 36) rfl), List.forall_mem_cons.mpr ⟨tk6 _ (List.mem_of_getElem? (i := 37) rfl), List.forall_mem_cons.mpr ⟨tk6 _ (List.mem_of_getElem? (i := 38) rfl), List.forall_mem_cons.mpr ⟨tk6 _ (List.mem_of_getElem? (i := 39) rfl), List.forall_mem_cons.mpr ⟨tk6 _ (List.mem_of_getElem? (i := 40) rfl), List.forall_mem_cons.mpr ⟨tk6 _ (List.mem_of_getElem? (i := 41) rfl), fun _ h => absurd h List.not_mem_nil⟩⟩⟩⟩⟩⟩⟩⟩⟩⟩⟩⟩⟩⟩⟩⟩⟩⟩⟩⟩⟩⟩⟩⟩⟩
set_option maxRecDepth 100000 in
theorem tb_25 : ∀ w ∈ gW_25, w ∈ lw_tbl := List.forall_mem_cons.mpr ⟨tk6 _ (List.mem_of_getElem? (i := 42) rfl), List.forall_mem_cons.mpr ⟨tk6 _ (List.mem_of_getElem? (i := 43) rfl), List.forall_mem_cons.mpr ⟨tk6 _ (List.mem_of_getElem? (i := 44) rfl), List.forall_mem_cons.mpr ⟨tk6 _ (List.mem_of_getElem? (i := 45) rfl), List.forall_mem_cons.mpr ⟨tk6 _ (List.mem_of_getElem? (i := 46) rfl), List.forall_mem_cons.mpr ⟨tk6 _ (List.mem_of_getElem? (i := 47) rfl), List.forall_mem_cons.mpr ⟨tk6 _ (List.mem_of_getElem? (i := 48) rfl), List.forall_mem_cons.mpr ⟨tk6 _ (List.mem_of_getElem? (i := 49) rfl), List.forall_mem_cons.mpr ⟨tk6 _ (List.mem_of_getElem? (i := 50) rfl), List.forall_mem_cons.mpr ⟨tk6 _ (List.mem_of_getElem? (i := 51) rfl), List.forall_mem_cons.mpr ⟨tk6 _ (List.mem_of_getElem? (i := 52) rfl), List.forall_mem_cons.mpr ⟨tk6 _ (List.mem_of_getElem? (i := 54) rfl), List.forall_mem_cons.mpr ⟨tk6 _ (List.mem_of_getElem? (i := 55) rfl), List.forall_mem_cons.mpr ⟨tk6 _ (List.mem_of_getElem? (i := 56) rfl), List.forall_mem_cons.mpr ⟨tk6 _ (List.mem_of_getElem? (i := 57) rfl), List.forall_mem_cons.mpr ⟨tk6 _ (List.mem_of_getElem? (i := 58) rfl), List.forall_mem_cons.mpr ⟨tk6 _ (List.mem_of_getElem? (i := 59) rfl), List.forall_mem_cons.mpr ⟨tk6 _ (List.mem_of_getElem? (i := 60) rfl), List.forall_mem_cons.mpr ⟨tk6 _ (List.mem_of_getElem? (i := 65) rfl), List.forall_mem_cons.mpr ⟨tk6 _ (List.mem_of_getElem? (i := 66) rfl), List.forall_mem_cons.mpr ⟨tk6 _ (List.mem_of_getElem? (i := 67) rfl), List.forall_mem_cons.mpr ⟨tk6 _ (List.mem_of_getElem? (i := 68) rfl), List.forall_mem_cons.mpr ⟨tk6 _ (List.mem_of_getElem? (i := 69) rfl), List.forall_mem_cons.mpr ⟨tk6 _ (List.mem_of_getElem? (i := 74) rfl), List.forall_mem_cons.mpr ⟨tk6 _ (List.mem_of_getElem? (i := 75) rfl), fun _ h => absurd h List.not_mem_nil⟩⟩⟩⟩⟩⟩⟩⟩⟩⟩⟩⟩⟩⟩⟩⟩⟩⟩⟩⟩⟩⟩⟩⟩⟩
set_option maxRecDepth 100000 in
theorem tb_26 : ∀ w ∈ gW_26, w ∈ lw_tbl := List.forall_mem_cons.mpr ⟨tk6 _ (List.mem_of_getElem? (i := 76) rfl), List.forall_mem_cons.mpr ⟨tk6 _ (List.mem_of_getElem? (i := 80) rfl), List.forall_mem_cons.mpr ⟨tk6 _ (List.mem_of_getElem? (i := 81) rfl), List.forall_mem_cons.mpr ⟨tk6 _ (List.mem_of_getElem? (i := 82) rfl), List.forall_mem_cons.mpr ⟨tk6 _ (List.mem_of_getElem? (i := 83) rfl), List.forall_mem_cons.mpr ⟨tk6 _ (List.mem_of_getElem? (i := 85) rfl), List.forall_mem_cons.mpr ⟨tk6 _ (List.mem_of_getElem? (i := 86) rfl), List.forall_mem_cons.mpr ⟨tk6 _ (List.mem_of_getElem? (i := 87) rfl), List.forall_mem_cons.mpr ⟨tk6 _ (List.mem_of_getElem? (i := 88) rfl), List.forall_mem_cons.mpr ⟨tk6 _ (List.mem_of_getElem? (i := 89) rfl), fun _ h => absurd h List.not_mem_nil⟩⟩⟩⟩⟩⟩⟩⟩⟩⟩
set_option maxRecDepth 100000 in
theorem tbL0 : ∀ j, j < 5 → u_lay RX0 TX0 j ∈ lw_tbl := (lt_s (lt_s (lt_s (lt_s (lt_s lt_0 (tk2 _ (List.mem_of_getElem? (i := 199) rfl))) (tk2 _ (List.mem_of_getElem? (i := 201) rfl))) (tk2 _ (List.mem_of_getElem? (i := 203) rfl))) (tk2 _ (List.mem_of_getElem? (i := 205) rfl))) (tk2 _ (List.mem_of_getElem? (i := 207) rfl)))
theorem tbX0 : ∀ w ∈ wsX00, w ∈ lw_tbl := fun w h => by
  obtain ⟨j, hj, rfl⟩ := List.mem_map.mp h
  exact tbL0 j (List.mem_range.mp hj)
set_option maxRecDepth 100000 in
theorem tbL1 : ∀ j, j < 11 → u_lay RX1 TX1 j ∈ lw_tbl := (lt_s (lt_s (lt_s (lt_s (lt_s (lt_s (lt_s (lt_s (lt_s (lt_s (lt_s lt_0 (tk2 _ (List.mem_of_getElem? (i := 29) rfl))) (tk2 _ (List.mem_of_getElem? (i := 31) rfl))) (tk2 _ (List.mem_of_getElem? (i := 33) rfl))) (tk2 _ (List.mem_of_getElem? (i := 35) rfl))) (tk2 _ (List.mem_of_getElem? (i := 37) rfl))) (tk2 _ (List.mem_of_getElem? (i := 39) rfl))) (tk2 _ (List.mem_of_getElem? (i := 41) rfl))) (tk2 _ (List.mem_of_getElem? (i := 43) rfl))) (tk2 _ (List.mem_of_getElem? (i := 45) rfl))) (tk2 _ (List.mem_of_getElem? (i := 47) rfl))) (tk2 _ (List.mem_of_getElem? (i := 49) rfl)))
theorem tbX1 : ∀ w ∈ wsX10, w ∈ lw_tbl := fun w h => by
  obtain ⟨j, hj, rfl⟩ := List.mem_map.mp h
  exact tbL1 j (List.mem_range.mp hj)
set_option maxRecDepth 100000 in
theorem tbL2 : ∀ j, j < 20 → u_lay RX2 TX2 j ∈ lw_tbl := (lt_s (lt_s (lt_s (lt_s (lt_s (lt_s (lt_s (lt_s (lt_s (lt_s (lt_s (lt_s (lt_s (lt_s (lt_s (lt_s (lt_s (lt_s (lt_s (lt_s lt_0 (tk1 _ (List.mem_of_getElem? (i := 198) rfl))) (tk1 _ (List.mem_of_getElem? (i := 200) rfl))) (tk1 _ (List.mem_of_getElem? (i := 202) rfl))) (tk1 _ (List.mem_of_getElem? (i := 204) rfl))) (tk1 _ (List.mem_of_getElem? (i := 206) rfl))) (tk1 _ (List.mem_of_getElem? (i := 208) rfl))) (tk1 _ (List.mem_of_getElem? (i := 210) rfl))) (tk1 _ (List.mem_of_getElem? (i := 212) rfl))) (tk1 _ (List.mem_of_getElem? (i := 214) rfl))) (tk1 _ (List.mem_of_getElem? (i := 216) rfl))) (tk1 _ (List.mem_of_getElem? (i := 218) rfl))) (tk1 _ (List.mem_of_getElem? (i := 220) rfl))) (tk1 _ (List.mem_of_getElem? (i := 222) rfl))) (tk1 _ (List.mem_of_getElem? (i := 224) rfl))) (tk1 _ (List.mem_of_getElem? (i := 226) rfl))) (tk1 _ (List.mem_of_getElem? (i := 228) rfl))) (tk1 _ (List.mem_of_getElem? (i := 230) rfl))) (tk1 _ (List.mem_of_getElem? (i := 232) rfl))) (tk1 _ (List.mem_of_getElem? (i := 234) rfl))) (tk1 _ (List.mem_of_getElem? (i := 236) rfl)))
theorem tbX2 : ∀ w ∈ wsX20, w ∈ lw_tbl := fun w h => by
  obtain ⟨j, hj, rfl⟩ := List.mem_map.mp h
  exact tbL2 j (List.mem_range.mp hj)
set_option maxRecDepth 100000 in
theorem tbL3 : ∀ j, j < 15 → u_lay RX3 TX3 j ∈ lw_tbl := (lt_s (lt_s (lt_s (lt_s (lt_s (lt_s (lt_s (lt_s (lt_s (lt_s (lt_s (lt_s (lt_s (lt_s (lt_s lt_0 (tk2 _ (List.mem_of_getElem? (i := 231) rfl))) (tk2 _ (List.mem_of_getElem? (i := 233) rfl))) (tk2 _ (List.mem_of_getElem? (i := 235) rfl))) (tk2 _ (List.mem_of_getElem? (i := 237) rfl))) (tk2 _ (List.mem_of_getElem? (i := 239) rfl))) (tk3 _ (List.mem_of_getElem? (i := 1) rfl))) (tk3 _ (List.mem_of_getElem? (i := 3) rfl))) (tk3 _ (List.mem_of_getElem? (i := 5) rfl))) (tk3 _ (List.mem_of_getElem? (i := 7) rfl))) (tk3 _ (List.mem_of_getElem? (i := 9) rfl))) (tk3 _ (List.mem_of_getElem? (i := 11) rfl))) (tk3 _ (List.mem_of_getElem? (i := 13) rfl))) (tk3 _ (List.mem_of_getElem? (i := 15) rfl))) (tk3 _ (List.mem_of_getElem? (i := 17) rfl))) (tk3 _ (List.mem_of_getElem? (i := 19) rfl)))
theorem tbX3 : ∀ w ∈ wsX30, w ∈ lw_tbl := fun w h => by
  obtain ⟨j, hj, rfl⟩ := List.mem_map.mp h
  exact tbL3 j (List.mem_range.mp hj)
set_option maxRecDepth 100000 in
theorem tbL4 : ∀ j, j < 5 → u_lay RX4 TX4 j ∈ lw_tbl := (lt_s (lt_s (lt_s (lt_s (lt_s lt_0 (tk2 _ (List.mem_of_getElem? (i := 177) rfl))) (tk2 _ (List.mem_of_getElem? (i := 179) rfl))) (tk2 _ (List.mem_of_getElem? (i := 181) rfl))) (tk2 _ (List.mem_of_getElem? (i := 183) rfl))) (tk2 _ (List.mem_of_getElem? (i := 185) rfl)))
theorem tbX4 : ∀ w ∈ wsX40, w ∈ lw_tbl := fun w h => by
  obtain ⟨j, hj, rfl⟩ := List.mem_map.mp h
  exact tbL4 j (List.mem_range.mp hj)
set_option maxRecDepth 100000 in
theorem tbL5 : ∀ j, j < 19 → u_lay RX5 TX5 j ∈ lw_tbl := (lt_s (lt_s (lt_s (lt_s (lt_s (lt_s (lt_s (lt_s (lt_s (lt_s (lt_s (lt_s (lt_s (lt_s (lt_s (lt_s (lt_s (lt_s (lt_s lt_0 (tk2 _ (List.mem_of_getElem? (i := 128) rfl))) (tk2 _ (List.mem_of_getElem? (i := 130) rfl))) (tk2 _ (List.mem_of_getElem? (i := 132) rfl))) (tk2 _ (List.mem_of_getElem? (i := 134) rfl))) (tk2 _ (List.mem_of_getElem? (i := 136) rfl))) (tk2 _ (List.mem_of_getElem? (i := 138) rfl))) (tk2 _ (List.mem_of_getElem? (i := 140) rfl))) (tk2 _ (List.mem_of_getElem? (i := 142) rfl))) (tk2 _ (List.mem_of_getElem? (i := 144) rfl))) (tk2 _ (List.mem_of_getElem? (i := 146) rfl))) (tk2 _ (List.mem_of_getElem? (i := 148) rfl))) (tk2 _ (List.mem_of_getElem? (i := 150) rfl))) (tk2 _ (List.mem_of_getElem? (i := 152) rfl))) (tk2 _ (List.mem_of_getElem? (i := 154) rfl))) (tk2 _ (List.mem_of_getElem? (i := 156) rfl))) (tk2 _ (List.mem_of_getElem? (i := 158) rfl))) (tk2 _ (List.mem_of_getElem? (i := 160) rfl))) (tk2 _ (List.mem_of_getElem? (i := 162) rfl))) (tk2 _ (List.mem_of_getElem? (i := 164) rfl)))
theorem tbX5 : ∀ w ∈ wsX50, w ∈ lw_tbl := fun w h => by
  obtain ⟨j, hj, rfl⟩ := List.mem_map.mp h
  exact tbL5 j (List.mem_range.mp hj)
set_option maxRecDepth 100000 in
theorem tbL6 : ∀ j, j < 1 → u_lay RX6 TX6 j ∈ lw_tbl := (lt_s lt_0 (tk1 _ (List.mem_of_getElem? (i := 91) rfl)))
theorem tbX6 : ∀ w ∈ wsX60, w ∈ lw_tbl := fun w h => by
  obtain ⟨j, hj, rfl⟩ := List.mem_map.mp h
  exact tbL6 j (List.mem_range.mp hj)
set_option maxRecDepth 100000 in
theorem tbL7 : ∀ j, j < 11 → u_lay RX7 TX7 j ∈ lw_tbl := (lt_s (lt_s (lt_s (lt_s (lt_s (lt_s (lt_s (lt_s (lt_s (lt_s (lt_s lt_0 (tk1 _ (List.mem_of_getElem? (i := 46) rfl))) (tk1 _ (List.mem_of_getElem? (i := 48) rfl))) (tk1 _ (List.mem_of_getElem? (i := 50) rfl))) (tk1 _ (List.mem_of_getElem? (i := 52) rfl))) (tk1 _ (List.mem_of_getElem? (i := 54) rfl))) (tk1 _ (List.mem_of_getElem? (i := 56) rfl))) (tk1 _ (List.mem_of_getElem? (i := 58) rfl))) (tk1 _ (List.mem_of_getElem? (i := 60) rfl))) (tk1 _ (List.mem_of_getElem? (i := 62) rfl))) (tk1 _ (List.mem_of_getElem? (i := 64) rfl))) (tk1 _ (List.mem_of_getElem? (i := 66) rfl)))
theorem tbX7 : ∀ w ∈ wsX70, w ∈ lw_tbl := fun w h => by
  obtain ⟨j, hj, rfl⟩ := List.mem_map.mp h
  exact tbL7 j (List.mem_range.mp hj)
set_option maxRecDepth 100000 in
theorem tbL8 : ∀ j, j < 13 → u_lay RX8 TX8 j ∈ lw_tbl := (lt_s (lt_s (lt_s (lt_s (lt_s (lt_s (lt_s (lt_s (lt_s (lt_s (lt_s (lt_s (lt_s lt_0 (tk1 _ (List.mem_of_getElem? (i := 109) rfl))) (tk1 _ (List.mem_of_getElem? (i := 111) rfl))) (tk1 _ (List.mem_of_getElem? (i := 113) rfl))) (tk1 _ (List.mem_of_getElem? (i := 115) rfl))) (tk1 _ (List.mem_of_getElem? (i := 117) rfl))) (tk1 _ (List.mem_of_getElem? (i := 119) rfl))) (tk1 _ (List.mem_of_getElem? (i := 121) rfl))) (tk1 _ (List.mem_of_getElem? (i := 123) rfl))) (tk1 _ (List.mem_of_getElem? (i := 125) rfl))) (tk1 _ (List.mem_of_getElem? (i := 127) rfl))) (tk1 _ (List.mem_of_getElem? (i := 129) rfl))) (tk1 _ (List.mem_of_getElem? (i := 131) rfl))) (tk1 _ (List.mem_of_getElem? (i := 133) rfl)))
theorem tbX8 : ∀ w ∈ wsX80, w ∈ lw_tbl := fun w h => by
  obtain ⟨j, hj, rfl⟩ := List.mem_map.mp h
  exact tbL8 j (List.mem_range.mp hj)
set_option maxRecDepth 100000 in
theorem tbL9 : ∀ j, j < 18 → u_lay RX9 TX9 j ∈ lw_tbl := (lt_s (lt_s (lt_s (lt_s (lt_s (lt_s (lt_s (lt_s (lt_s (lt_s (lt_s (lt_s (lt_s (lt_s (lt_s (lt_s (lt_s (lt_s lt_0 (tk2 _ (List.mem_of_getElem? (i := 73) rfl))) (tk2 _ (List.mem_of_getElem? (i := 75) rfl))) (tk2 _ (List.mem_of_getElem? (i := 77) rfl))) (tk2 _ (List.mem_of_getElem? (i := 79) rfl))) (tk2 _ (List.mem_of_getElem? (i := 81) rfl))) (tk2 _ (List.mem_of_getElem? (i := 83) rfl))) (tk2 _ (List.mem_of_getElem? (i := 85) rfl))) (tk2 _ (List.mem_of_getElem? (i := 87) rfl))) (tk2 _ (List.mem_of_getElem? (i := 89) rfl))) (tk2 _ (List.mem_of_getElem? (i := 91) rfl))) (tk2 _ (List.mem_of_getElem? (i := 93) rfl))) (tk2 _ (List.mem_of_getElem? (i := 95) rfl))) (tk2 _ (List.mem_of_getElem? (i := 97) rfl))) (tk2 _ (List.mem_of_getElem? (i := 99) rfl))) (tk2 _ (List.mem_of_getElem? (i := 101) rfl))) (tk2 _ (List.mem_of_getElem? (i := 103) rfl))) (tk2 _ (List.mem_of_getElem? (i := 105) rfl))) (tk2 _ (List.mem_of_getElem? (i := 107) rfl)))
theorem tbX9 : ∀ w ∈ wsX90, w ∈ lw_tbl := fun w h => by
  obtain ⟨j, hj, rfl⟩ := List.mem_map.mp h
  exact tbL9 j (List.mem_range.mp hj)
set_option maxRecDepth 100000 in
theorem tbL10 : ∀ j, j < 7 → u_lay RX10 TX10 j ∈ lw_tbl := (lt_s (lt_s (lt_s (lt_s (lt_s (lt_s (lt_s lt_0 (tk1 _ (List.mem_of_getElem? (i := 153) rfl))) (tk1 _ (List.mem_of_getElem? (i := 155) rfl))) (tk1 _ (List.mem_of_getElem? (i := 157) rfl))) (tk1 _ (List.mem_of_getElem? (i := 159) rfl))) (tk1 _ (List.mem_of_getElem? (i := 161) rfl))) (tk1 _ (List.mem_of_getElem? (i := 163) rfl))) (tk1 _ (List.mem_of_getElem? (i := 165) rfl)))
theorem tbX10 : ∀ w ∈ wsX100, w ∈ lw_tbl := fun w h => by
  obtain ⟨j, hj, rfl⟩ := List.mem_map.mp h
  exact tbL10 j (List.mem_range.mp hj)
set_option maxRecDepth 100000 in
theorem tbL11 : ∀ j, j < 11 → u_lay RX11 TX11 j ∈ lw_tbl := (lt_s (lt_s (lt_s (lt_s (lt_s (lt_s (lt_s (lt_s (lt_s (lt_s (lt_s lt_0 (tk3 _ (List.mem_of_getElem? (i := 36) rfl))) (tk3 _ (List.mem_of_getElem? (i := 38) rfl))) (tk3 _ (List.mem_of_getElem? (i := 40) rfl))) (tk3 _ (List.mem_of_getElem? (i := 42) rfl))) (tk3 _ (List.mem_of_getElem? (i := 44) rfl))) (tk3 _ (List.mem_of_getElem? (i := 46) rfl))) (tk3 _ (List.mem_of_getElem? (i := 48) rfl))) (tk3 _ (List.mem_of_getElem? (i := 50) rfl))) (tk3 _ (List.mem_of_getElem? (i := 52) rfl))) (tk3 _ (List.mem_of_getElem? (i := 54) rfl))) (tk3 _ (List.mem_of_getElem? (i := 56) rfl)))
theorem tbX11 : ∀ w ∈ wsX110, w ∈ lw_tbl := fun w h => by
  obtain ⟨j, hj, rfl⟩ := List.mem_map.mp h
  exact tbL11 j (List.mem_range.mp hj)
theorem tbE0 : ∀ w ∈ (vx_atS RX11 102 g_ISE g_nm).filter goodWord, w ∈ lw_tbl := fun w h => (goodIn_r ((vx_atS RX11 102 g_ISE g_nm).filter goodWord) [40, 595, 604, 609, 612, 614, 596, 597, 54, 55, 598, 603, 610, 630, 585, 631, 587, 632, 589, 599, 601, 591, 626, 627, 629, 591, 792, 793, 794, 620, 620, 621, 622, 623, 623, 624, 625, 626, 791, 782, 784, 608, 785, 786, 787, 788, 594, 593, 789] (by decide +kernel) (by decide +kernel) w h).1
theorem tbE1 : ∀ w ∈ (vx_atS RX11 216 g_ARE g_nm).filter goodWord, w ∈ lw_tbl := fun w h => (goodIn_r ((vx_atS RX11 216 g_ARE g_nm).filter goodWord) [40, 595, 604, 609, 612, 614, 596, 597, 54, 55, 598, 603, 610, 630, 585, 631, 587, 632, 589, 599, 601, 591, 626, 627, 629, 591, 1114, 1115, 1116, 620, 620, 621, 622, 623, 623, 624, 625, 626, 1113, 1104, 1106, 606, 1107, 1108, 1109, 1110, 594, 593, 1111] (by decide +kernel) (by decide +kernel) w h).1
theorem gW_in : ∀ w ∈ gW, w ∈ lw_tbl := List.forall_mem_append.mpr ⟨tb_0, List.forall_mem_append.mpr ⟨tb_1, List.forall_mem_append.mpr ⟨tb_2, List.forall_mem_append.mpr ⟨tb_3, List.forall_mem_append.mpr ⟨tb_4, List.forall_mem_append.mpr ⟨tb_5, List.forall_mem_append.mpr ⟨tb_6, List.forall_mem_append.mpr ⟨tb_7, List.forall_mem_append.mpr ⟨tb_8, List.forall_mem_append.mpr ⟨tb_9, List.forall_mem_append.mpr ⟨tb_10, List.forall_mem_append.mpr ⟨tb_11, List.forall_mem_append.mpr ⟨tb_12, List.forall_mem_append.mpr ⟨tb_13, List.forall_mem_append.mpr ⟨tb_14, List.forall_mem_append.mpr ⟨tb_15, List.forall_mem_append.mpr ⟨tb_16, List.forall_mem_append.mpr ⟨tb_17, List.forall_mem_append.mpr ⟨tb_18, List.forall_mem_append.mpr ⟨tb_19, List.forall_mem_append.mpr ⟨tb_20, List.forall_mem_append.mpr ⟨tb_21, List.forall_mem_append.mpr ⟨tb_22, List.forall_mem_append.mpr ⟨tb_23, List.forall_mem_append.mpr ⟨tb_24, List.forall_mem_append.mpr ⟨tb_25, List.forall_mem_append.mpr ⟨tb_26, List.forall_mem_append.mpr ⟨tbX0, List.forall_mem_append.mpr ⟨tbX1, List.forall_mem_append.mpr ⟨tbX2, List.forall_mem_append.mpr ⟨tbX3, List.forall_mem_append.mpr ⟨tbX4, List.forall_mem_append.mpr ⟨tbX5, List.forall_mem_append.mpr ⟨tbX6, List.forall_mem_append.mpr ⟨tbX7, List.forall_mem_append.mpr ⟨tbX8, List.forall_mem_append.mpr ⟨tbX9, List.forall_mem_append.mpr ⟨tbX10, List.forall_mem_append.mpr ⟨tbX11, List.forall_mem_append.mpr ⟨tbE0, tbE1⟩⟩⟩⟩⟩⟩⟩⟩⟩⟩⟩⟩⟩⟩⟩⟩⟩⟩⟩⟩⟩⟩⟩⟩⟩⟩⟩⟩⟩⟩⟩⟩⟩⟩⟩⟩⟩⟩⟩⟩
end VWd
end
section
/-! The forms of this claim's contracts, and a row for each instruction over one judgement V: 'from here, in any heap that holds the world ws, with the locals lv, the goal is reached'. -/
section VB
abbrev g_T : Type := List (ClassId × FieldType)
abbrev gCl : List vw_C := [(RX0, TX0, 5), (RX1, TX1, 11), (RX2, TX2, 20), (RX3, TX3, 15), (RX4, TX4, 5), (RX5, TX5, 19), (RX6, TX6, 1), (RX7, TX7, 11), (RX8, TX8, 13), (RX9, TX9, 18), (RX10, TX10, 7), (RX11, TX11, 11)]
abbrev g_ty (d : Nat → ClassId) : g_T := [(d 0, .int), (d 1, .byte), (d 2, .boolean), (d 3, .long), (d 4, .array .int)]
abbrev g_S : Type := (Nat → Nat) × (Nat → Nat → Int32) × (Nat → Nat → Value)
def g_wd (y : MethodName) (b : ByteArray) (n : Nat) (r : Option FieldType) : List Cond := Cond.code y b n r :: gW
def g_wh (y : MethodName) (b : ByteArray) (n : Nat) (r : Option FieldType) (hh : List (Nat × Nat × Nat × Nat)) : List Cond := Cond.codeWith y b n r hh :: gW
theorem g_all : gW.all goodWord = true := by decide +kernel
theorem g_good : GoodIn gW gW := fun w h => ⟨h, good_of_word (List.all_eq_true.mp g_all w h)⟩
theorem g_goodC {w0 : Cond} (h0 : w0 ∈ gW) : GoodIn gW (w0 :: gW) := fun w h => (List.mem_cons.mp h).elim (fun e => by rw [e]; exact g_good _ h0) (fun h => g_good w h)
theorem g_goodA {a b : List Cond} (ha : ∀ w ∈ a, w ∈ gW) (hb : GoodIn gW b) : GoodIn gW (a ++ b) := fun w h => (List.mem_append.mp h).elim (fun h => g_good w (ha w h)) (fun h => hb w h)
-- exceptions: what is not among the good words, the texts of the class's own throws
def gB : List Cond := [.declares (Bundle.initS "java/lang/RuntimeException"), .declares (Bundle.initS "java/lang/Exception"), .declares (Bundle.initS "java/lang/Throwable"), .castable g_ISE g_ISE, .castable g_ARE g_ARE, .methodLinkNest RX11 9 yX7_init "GroundProver"]
def gTx : List (Nat × String) := [(100, "the input buffer would be too long"), (110, "the input buffer has not so many bytes"), (126, "arity, weight or name"), (131, "the name is taken, or there are too many symbols"), (156, "the order is fixed"), (171, "no such symbol or rank"), (182, "no such symbol"), (197, "no such symbol or term"), (214, "the term is too large"), (235, "no such term"), (296, "a term is not ground"), (301, "there are too many equations"), (315, "a rule would be too large"), (357, "there are too many levels"), (362, "there is no level"), (381, "the normal form is too large")]
def g_AO (U : State) : Prop := (Cond.arrayOver (.array .int)).before #[] U = true
theorem g_AO.moved {u U : State} (hvm : u.vm.Alike U.vm) (h : g_AO u) : g_AO U := by
  obtain ⟨comp, c, k, h1, h2, h3, h4, h5⟩ := arrayOverA_spec h
  obtain ⟨k', hk', he⟩ := hvm.2.2 _ _ h3
  have e1 := va_idx_bare U.vm comp
  have e2 := va_idx_bare u.vm comp
  have e3 : U.vm.bare = u.vm.bare := by first | exact hvm.bare_eq | exact hvm.bare_eq.symm
  rw [e3] at e1
  have hi := (e1.symm.trans e2).trans h2
  have hkind : k'.kind = .array comp (.array .int) := by rw [he]; exact h4
  have f1 : U.vm.findClass (FieldType.array .int).toString = some comp := by rw [hvm.findClass]; exact h1
  have f2 : U.vm.findClass ("[" ++ (FieldType.array .int).toString) = some c := by rw [hvm.findClass]; exact h5
  unfold g_AO Cond.before Cond.holds
  simp only [Cond.value]
  rw [f1, Option.bind_some]
  refine (congrArg (fun o : Option Nat => (o.bind (fun c => (U.vm.classes[c]?).map fun (k : Class) => match k.kind with | .array _ ty => decide (ty = FieldType.array .int) && decide (U.vm.findClass ("[" ++ (FieldType.array .int).toString) = some c) | _ => false) == some true)) hi).trans ?_
  simp [hk', hkind, f2]
def g_ex (A : Nat → Prop) (U : State) : Prop := vx_Zq Bundle.tN "UNASSIGNED_STACK" Bundle.steD A U U.heap ∧ vx_Zq Bundle.tN "SUPPRESSED_SENTINEL" Bundle.listD A U U.heap ∧ ∀ q ∈ gTx, ∃ sa : Nat, vk_R RX11 q.1 q.2 sa U
theorem gB_warm {s U : State} (hW : s.WarmedH U.vm) (h : ∀ w ∈ gB, va_Nw w s) : ∀ w ∈ gB, va_Nw w U := by
  have h' : ∀ w ∈ gB, (∃ x, w = .declares x) ∨ (∃ a b, w = .castable a b) ∨ ∃ a i x h, w = .methodLinkNest a i x h := by
    intro w hw
    simp only [gB, List.mem_cons, List.not_mem_nil, or_false] at hw
    rcases hw with rfl | rfl | rfl | rfl | rfl | rfl <;> first | exact Or.inl ⟨_, rfl⟩ | exact Or.inr (Or.inl ⟨_, _, rfl⟩) | exact Or.inr (Or.inr ⟨_, _, _, _, rfl⟩)
  intro w hw
  rcases h' w hw with ⟨x, rfl⟩ | ⟨a, b, rfl⟩ | ⟨a, i, x, h0, rfl⟩
  · exact (h _ hw).warmD hW
  · exact (h _ hw).warmC hW
  · exact (h _ hw).warmM hW
theorem gB_same {s U : State} (hv : s.vm = U.vm) (h : ∀ w ∈ gB, va_Nw w s) : ∀ w ∈ gB, va_Nw w U := by
  have h' : ∀ w ∈ gB, w.onTables = true := by decide +kernel
  exact fun w hw => (h w hw).same (h' w hw) hv
theorem g_ex.to {A B : Nat → Prop} {s U : State} {H : Heap} {locs : List Loc} (hS : va_S A s.heap H locs) (hU : U.heap = H) (hW : s.WarmedH U.vm) (hAB : ∀ q, B q → A q) (h : g_ex A s) : g_ex B U := by
  subst hU
  obtain ⟨h1, h2, h4⟩ := h
  exact ⟨((h1.kept hS.2.1).moved hW.alike).narrow hAB, ((h2.kept hS.2.1).moved hW.alike).narrow hAB, fun q hq => (h4 q hq).imp fun sa h => h.warm hW⟩
theorem g_ex.same {A : Nat → Prop} {s U : State} (hU : U.heap = s.heap) (hv : s.vm = U.vm) (h : g_ex A s) : g_ex A U := by
  obtain ⟨h1, h2, h4⟩ := h
  have ha : s.vm.Alike U.vm := by rw [hv]; exact Vm.Alike.refl _
  refine ⟨?_, ?_, fun q hq => (h4 q hq).imp fun sa h => vk_R.same hv.symm h⟩
  · rw [hU]; exact h1.moved ha
  · rw [hU]; exact h2.moved ha
def g_pr (E : Bool) (D : va_G) (d : Nat → ClassId) (W : va_W) (sz : Nat) (U : State) : Prop := U.heap.size = sz ∧ va_P D gCl W U.heap ∧ va_K D gCl (g_ty d) U ∧ va_D (fun _ => True) W ∧ g_AO U ∧ (∀ w ∈ gB, va_Nw w U) ∧ (E = true → g_ex (va_A W sz) U)
def g_po (D : va_G) (A : Nat → Prop) {S : Type} (w1 : S → va_W) : S → State → Prop := fun u t => va_P D gCl (w1 u) t.heap ∧ va_D A (w1 u)
abbrev q_v (D : va_G) {S : Type} (w1 : S → va_W) (A : Nat → Prop) := va_Qv (fun _ : S => True) (g_po D A w1) A
abbrev q_i (D : va_G) (K : Int32) {S : Type} (w1 : S → va_W) (A : Nat → Prop) := va_Qi (fun (r : Int32) (_ : S) => r = K) (g_po D A w1) A
abbrev q_l (D : va_G) (K : Int64) {S : Type} (w1 : S → va_W) (A : Nat → Prop) := va_Ql (fun (r : Int64) (_ : S) => r = K) (g_po D A w1) A
abbrev q_ni (A : Nat → Prop) := va_Qi (fun (_ : Int32) (_ : Unit) => False) (fun _ _ => True) A
abbrev q_nl (A : Nat → Prop) := va_Ql (fun (_ : Int64) (_ : Unit) => False) (fun _ _ => True) A
abbrev g_XC (E : String) (A : Nat → Prop) : String → State → State → Prop := vx_X (fun _ : Unit => True) (fun E' _ _ => E' = E) A
theorem pr_blind {E : Bool} {D : va_G} {d : Nat → ClassId} {W : va_W} {sz : Nat} {av : List Value} : FrameBlind (va_Pc av (g_pr E D d W sz)) := fun a U g mk q => by
  obtain ⟨q0, q1, q2, q3, q4, q5, q7, q6⟩ := q
  exact ⟨q0, q1, q2, va_K.moved (u := U) (U := U.calling g mk a) (Vm.Alike.refl U.vm) q3, q4, q5.moved (u := U) (U := U.calling g mk a) (Vm.Alike.refl U.vm), gB_same (s := U) (U := U.calling g mk a) rfl q7, fun h => (q6 h).same rfl rfl⟩
def V (p : Program) (l : Launch) (e : Env) (R : Room) (s : State) (m : MethodId) (args : Array Value) (below : List Frame) (meth : Method) (c : Code) (Q : State → Prop) (D : va_G) (A : Nat → Prop) (nL : Nat) (ws : va_W) (lv : List (Nat × Value)) (ck sl pc : Nat) (st : List Value) : Prop :=
  ∀ (H : Heap) (locs : List Loc) (ls : Array Slot), va_P D gCl ws H → va_D A ws → va_S A s.heap H locs → lv_has ls nL lv → W p l e R s m args below meth c H locs ck sl Q (F0 m pc ls st)
def VC (p : Program) (s : State) (m : MethodId) (args : Array Value) (c : Code) (D : va_G) (d : Nat → ClassId) (A : Nat → Prop) (cc : ByteArray) (nL : Nat) (own : String) : Prop :=
  p.tables.exec = Jvm.exec ∧ c.code = cc ∧ c.maxLocals = nL ∧ s.vm.findClass own = some m.cls ∧ (∀ w ∈ gW, w.before args s = true) ∧ va_K D gCl (g_ty d) s ∧ (∀ q : Nat, s.heap.size ≤ q → A q) ∧ g_AO s ∧ ∀ w ∈ gB, va_Nw w s
def g_cf (C : String) (T : u_T) (N : Nat) (ty : Nat → FieldType) : Prop := (∀ w ∈ u_ws C T N, w ∈ gW) ∧ (∀ k, k < N → parseFieldDescriptor (T k).2.2.1 = some (ty k)) ∧ ∀ a, a < N → ∀ b, b < N → a ≠ b → (T a).2.1 ≠ (T b).2.1
def g_mf (y : MethodName) (b : ByteArray) (n : Nat) (r : Option FieldType) (k : Nat) : Prop := Cond.code y b n r ∈ gW ∧ Cond.initialized y.cls ∈ gW ∧ (y.cls ≠ "java/lang/invoke/MethodHandle" ∧ y.cls ≠ "java/lang/invoke/VarHandle" ∧ (parseMethodDescriptor y.desc).map (fun d => d.parameters.length) = some k)
def g_mv (y : MethodName) : Prop := Cond.instanceMethod y ∈ gW ∧ Cond.selects y.cls y y ∈ gW
def g_rm (n mc ms : Nat) : Room := { frames := 10 + n, cells := mc, slots := ms, locals := 150 + 50 * n }

theorem fm_of {α β : Type} {f : α → Option β} : ∀ {is : List α} {l : List β}, is.map f = l.map some → is.filterMap f = l
  | [], [], _ => rfl
  | [], _ :: _, h => by simp at h
  | _ :: _, [], h => by simp at h
  | i :: is, x :: l, h => by
    simp only [List.map_cons, List.cons.injEq] at h
    rw [List.filterMap_cons_some h.1, fm_of h.2]
theorem g_AO.use {U : State} {A' : Array Value} (h : g_AO U) : (Cond.arrayOver (.array .int)).before A' U = true := h
variable {p : Program} {l : Launch} {e : Env} {R : Room} {s : State} {m : MethodId} {args : Array Value} {below : List Frame} {meth : Method} {c : Code} {Q : State → Prop} {D : va_G} {d : Nat → ClassId} {A : Nat → Prop} {cc : ByteArray} {nL : Nat} {own : String} {ws : va_W} {lv : List (Nat × Value)} {ck sl pc : Nat} {st : List Value}

theorem v_eq {ws' : va_W} (h : ws = ws') (k : V p l e R s m args below meth c Q D A nL ws' lv ck sl pc st) : V p l e R s m args below meth c Q D A nL ws lv ck sl pc st := h ▸ k
theorem v_sub {ws' : va_W} (is : List Nat) (hn : va_nd is = true) (hs : is.map (fun i => ws[i]?) = ws'.map some) (k : V p l e R s m args below meth c Q D A nL ws' lv ck sl pc st) : V p l e R s m args below meth c Q D A nL ws lv ck sl pc st := fun H locs ls hP hD hS hl => k H locs ls (hP.sub is (fm_of hs)) (hD.sub is hn hs) hS hl
theorem v_wide {k n : Nat} (h1 : ck ≤ k) (h2 : sl ≤ n) (kk : V p l e R s m args below meth c Q D A nL ws lv k n pc st) : V p l e R s m args below meth c Q D A nL ws lv ck sl pc st := fun H locs ls hP hD hS hl => W.widen h1 h2 (kk H locs ls hP hD hS hl)
theorem v_iconst (C : VC p s m args c D d A cc nL own) {n : Int} {v : Int32} (dg : decode cc pc = .ok (.iconst n, 1)) (hv : Int32.ofInt n = v) (k : V p l e R s m args below meth c Q D A nL ws lv ck sl (pc + 1) (.int v :: st)) : V p l e R s m args below meth c Q D A nL ws lv ck sl pc st := fun H locs ls hP hD hS hl => lv_iconst C.1 C.2.1 dg hv (k H locs ls hP hD hS hl)
theorem v_bipush (C : VC p s m args c D d A cc nL own) {n : Int} {v : Int32} (dg : decode cc pc = .ok (.bipush n, 2)) (hv : (Int8.ofInt n).toInt32 = v) (k : V p l e R s m args below meth c Q D A nL ws lv ck sl (pc + 2) (.int v :: st)) : V p l e R s m args below meth c Q D A nL ws lv ck sl pc st := fun H locs ls hP hD hS hl => lv_bipush C.1 C.2.1 dg hv (k H locs ls hP hD hS hl)
theorem v_sipush (C : VC p s m args c D d A cc nL own) {n : Int} {v : Int32} (dg : decode cc pc = .ok (.sipush n, 3)) (hv : (Int16.ofInt n).toInt32 = v) (k : V p l e R s m args below meth c Q D A nL ws lv ck sl (pc + 3) (.int v :: st)) : V p l e R s m args below meth c Q D A nL ws lv ck sl pc st := fun H locs ls hP hD hS hl => lv_sipush C.1 C.2.1 dg hv (k H locs ls hP hD hS hl)
theorem v_lconst (C : VC p s m args c D d A cc nL own) {n : Fin 2} {v : Int64} (dg : decode cc pc = .ok (.lconst n, 1)) (hv : Int64.ofNat (n : Nat) = v) (k : V p l e R s m args below meth c Q D A nL ws lv ck sl (pc + 1) (.long v :: st)) : V p l e R s m args below meth c Q D A nL ws lv ck sl pc st := fun H locs ls hP hD hS hl => lv_lconst C.1 C.2.1 dg hv (k H locs ls hP hD hS hl)
theorem v_ldc (C : VC p s m args c D d A cc nL own) {i : Nat} {v : Int32} (dg : decode cc pc = .ok (.ldc i, 2)) (hc : Cond.constant own i v ∈ gW) (k : V p l e R s m args below meth c Q D A nL ws lv ck sl (pc + 2) (.int v :: st)) : V p l e R s m args below meth c Q D A nL ws lv ck sl pc st := fun H locs ls hP hD hS hl => lv_ldc C.1 C.2.1 C.2.2.2.1 (C.2.2.2.2.1 _ hc) dg (k H locs ls hP hD hS hl)
theorem v_ldc2 (C : VC p s m args c D d A cc nL own) {i : Nat} {v : Int64} (dg : decode cc pc = .ok (.ldc2_w i, 3)) (hc : Cond.constantLong own i v ∈ gW) (k : V p l e R s m args below meth c Q D A nL ws lv ck sl (pc + 3) (.long v :: st)) : V p l e R s m args below meth c Q D A nL ws lv ck sl pc st := fun H locs ls hP hD hS hl => lv_ldc2 C.1 C.2.1 C.2.2.2.1 (C.2.2.2.2.1 _ hc) dg (k H locs ls hP hD hS hl)
theorem v_iload_n (C : VC p s m args c D d A cc nL own) {j : Fin 4} {i : Nat} {x : Int32} (dg : decode cc pc = .ok (.iload_n j, 1)) (hi : (j : Nat) = i) (q : Nat) (hq : lv[q]? = some (i, .int x)) (k : V p l e R s m args below meth c Q D A nL ws lv ck sl (pc + 1) (.int x :: st)) : V p l e R s m args below meth c Q D A nL ws lv ck sl pc st := fun H locs ls hP hD hS hl => lv_iload_n C.1 C.2.1 dg hi (lv_at hl q hq) (k H locs ls hP hD hS hl)
theorem v_iload (C : VC p s m args c D d A cc nL own) {i : Nat} {x : Int32} (dg : decode cc pc = .ok (.iload i, 2)) (q : Nat) (hq : lv[q]? = some (i, .int x)) (k : V p l e R s m args below meth c Q D A nL ws lv ck sl (pc + 2) (.int x :: st)) : V p l e R s m args below meth c Q D A nL ws lv ck sl pc st := fun H locs ls hP hD hS hl => lv_iload C.1 C.2.1 dg (lv_at hl q hq) (k H locs ls hP hD hS hl)
theorem v_aload_n (C : VC p s m args c D d A cc nL own) {j : Fin 4} {i : Nat} {x : Nat} (dg : decode cc pc = .ok (.aload_n j, 1)) (hi : (j : Nat) = i) (q : Nat) (hq : lv[q]? = some (i, .ref x)) (k : V p l e R s m args below meth c Q D A nL ws lv ck sl (pc + 1) (.ref x :: st)) : V p l e R s m args below meth c Q D A nL ws lv ck sl pc st := fun H locs ls hP hD hS hl => lv_aload_n C.1 C.2.1 dg hi (lv_at hl q hq) (k H locs ls hP hD hS hl)
theorem v_aload (C : VC p s m args c D d A cc nL own) {i : Nat} {x : Nat} (dg : decode cc pc = .ok (.aload i, 2)) (q : Nat) (hq : lv[q]? = some (i, .ref x)) (k : V p l e R s m args below meth c Q D A nL ws lv ck sl (pc + 2) (.ref x :: st)) : V p l e R s m args below meth c Q D A nL ws lv ck sl pc st := fun H locs ls hP hD hS hl => lv_aload C.1 C.2.1 dg (lv_at hl q hq) (k H locs ls hP hD hS hl)
theorem v_lload_n (C : VC p s m args c D d A cc nL own) {j : Fin 4} {i : Nat} {x : Int64} (dg : decode cc pc = .ok (.lload_n j, 1)) (hi : (j : Nat) = i) (q : Nat) (hq : lv[q]? = some (i, .long x)) (k : V p l e R s m args below meth c Q D A nL ws lv ck sl (pc + 1) (.long x :: st)) : V p l e R s m args below meth c Q D A nL ws lv ck sl pc st := fun H locs ls hP hD hS hl => lv_lload_n C.1 C.2.1 dg hi (lv_at hl q hq) (k H locs ls hP hD hS hl)
theorem v_lload (C : VC p s m args c D d A cc nL own) {i : Nat} {x : Int64} (dg : decode cc pc = .ok (.lload i, 2)) (q : Nat) (hq : lv[q]? = some (i, .long x)) (k : V p l e R s m args below meth c Q D A nL ws lv ck sl (pc + 2) (.long x :: st)) : V p l e R s m args below meth c Q D A nL ws lv ck sl pc st := fun H locs ls hP hD hS hl => lv_lload C.1 C.2.1 dg (lv_at hl q hq) (k H locs ls hP hD hS hl)
theorem v_istore_n (C : VC p s m args c D d A cc nL own) {j : Fin 4} {i : Nat} {x : Int32} (dg : decode cc pc = .ok (.istore_n j, 1)) (hi : (j : Nat) = i) (hn : i < nL) (lv' : List (Nat × Value)) (he : (i, Value.int x) :: lv.filter (fun q => !(q.1 == i) && !(q.1 + 1 == i && q.2.category == 2)) = lv') (k : V p l e R s m args below meth c Q D A nL ws lv' ck sl (pc + 1) st) : V p l e R s m args below meth c Q D A nL ws lv ck sl pc (.int x :: st) := fun H locs ls hP hD hS hl => lv_istore_n C.1 C.2.1 dg hi hl hn he (fun ls' hl' => k H locs ls' hP hD hS hl')
theorem v_istore (C : VC p s m args c D d A cc nL own) {i : Nat} {x : Int32} (dg : decode cc pc = .ok (.istore i, 2)) (hn : i < nL) (lv' : List (Nat × Value)) (he : (i, Value.int x) :: lv.filter (fun q => !(q.1 == i) && !(q.1 + 1 == i && q.2.category == 2)) = lv') (k : V p l e R s m args below meth c Q D A nL ws lv' ck sl (pc + 2) st) : V p l e R s m args below meth c Q D A nL ws lv ck sl pc (.int x :: st) := fun H locs ls hP hD hS hl => lv_istore C.1 C.2.1 dg hl hn he (fun ls' hl' => k H locs ls' hP hD hS hl')
theorem v_astore_n (C : VC p s m args c D d A cc nL own) {j : Fin 4} {i : Nat} {x : Nat} (dg : decode cc pc = .ok (.astore_n j, 1)) (hi : (j : Nat) = i) (hn : i < nL) (lv' : List (Nat × Value)) (he : (i, Value.ref x) :: lv.filter (fun q => !(q.1 == i) && !(q.1 + 1 == i && q.2.category == 2)) = lv') (k : V p l e R s m args below meth c Q D A nL ws lv' ck sl (pc + 1) st) : V p l e R s m args below meth c Q D A nL ws lv ck sl pc (.ref x :: st) := fun H locs ls hP hD hS hl => lv_astore_n C.1 C.2.1 dg hi hl hn he (fun ls' hl' => k H locs ls' hP hD hS hl')
theorem v_astore (C : VC p s m args c D d A cc nL own) {i : Nat} {x : Nat} (dg : decode cc pc = .ok (.astore i, 2)) (hn : i < nL) (lv' : List (Nat × Value)) (he : (i, Value.ref x) :: lv.filter (fun q => !(q.1 == i) && !(q.1 + 1 == i && q.2.category == 2)) = lv') (k : V p l e R s m args below meth c Q D A nL ws lv' ck sl (pc + 2) st) : V p l e R s m args below meth c Q D A nL ws lv ck sl pc (.ref x :: st) := fun H locs ls hP hD hS hl => lv_astore C.1 C.2.1 dg hl hn he (fun ls' hl' => k H locs ls' hP hD hS hl')
theorem v_lstore_n (C : VC p s m args c D d A cc nL own) {j : Fin 4} {i : Nat} {x : Int64} (dg : decode cc pc = .ok (.lstore_n j, 1)) (hi : (j : Nat) = i) (hn : i + 1 < nL) (lv' : List (Nat × Value)) (he : (i, Value.long x) :: lv.filter (fun q => !(q.1 == i) && (!(q.1 == i + 1) && !(q.1 + 1 == i && q.2.category == 2))) = lv') (k : V p l e R s m args below meth c Q D A nL ws lv' ck sl (pc + 1) st) : V p l e R s m args below meth c Q D A nL ws lv ck sl pc (.long x :: st) := fun H locs ls hP hD hS hl => lv_lstore_n C.1 C.2.1 dg hi hl hn he (fun ls' hl' => k H locs ls' hP hD hS hl')
theorem v_lstore (C : VC p s m args c D d A cc nL own) {i : Nat} {x : Int64} (dg : decode cc pc = .ok (.lstore i, 2)) (hn : i + 1 < nL) (lv' : List (Nat × Value)) (he : (i, Value.long x) :: lv.filter (fun q => !(q.1 == i) && (!(q.1 == i + 1) && !(q.1 + 1 == i && q.2.category == 2))) = lv') (k : V p l e R s m args below meth c Q D A nL ws lv' ck sl (pc + 2) st) : V p l e R s m args below meth c Q D A nL ws lv ck sl pc (.long x :: st) := fun H locs ls hP hD hS hl => lv_lstore C.1 C.2.1 dg hl hn he (fun ls' hl' => k H locs ls' hP hD hS hl')
theorem v_iinc (C : VC p s m args c D d A cc nL own) {i : Nat} {n : Int} {x : Int32} (v : Int32) (dg : decode cc pc = .ok (.iinc i n, 3)) (q : Nat) (hq : lv[q]? = some (i, .int x)) (hv : x + Int32.ofInt n = v) (hn : i < nL) (lv' : List (Nat × Value)) (he : (i, Value.int v) :: lv.filter (fun q => !(q.1 == i) && !(q.1 + 1 == i && q.2.category == 2)) = lv') (k : V p l e R s m args below meth c Q D A nL ws lv' ck sl (pc + 3) st) : V p l e R s m args below meth c Q D A nL ws lv ck sl pc st := fun H locs ls hP hD hS hl => lv_iinc C.1 C.2.1 dg hl (k := q) hq hv hn he (fun ls' hl' => k H locs ls' hP hD hS hl')
theorem v_iadd (C : VC p s m args c D d A cc nL own) {x y : Int32} (v : Int32) (dg : decode cc pc = .ok (.iadd, 1)) (hv : x + y = v) (k : V p l e R s m args below meth c Q D A nL ws lv ck sl (pc + 1) (.int v :: st)) : V p l e R s m args below meth c Q D A nL ws lv ck sl pc (.int y :: .int x :: st) := fun H locs ls hP hD hS hl => by subst hv; exact lv_iadd C.1 C.2.1 dg (k H locs ls hP hD hS hl)
theorem v_iadd_s (C : VC p s m args c D d A cc nL own) {x y : Int32} (dg : decode cc pc = .ok (.iadd, 1)) (k : ∀ v : Int32, V p l e R s m args below meth c Q D A nL ws lv ck sl (pc + 1) (.int v :: st)) : V p l e R s m args below meth c Q D A nL ws lv ck sl pc (.int y :: .int x :: st) := v_iadd C _ dg rfl (k _)
theorem v_isub (C : VC p s m args c D d A cc nL own) {x y : Int32} (v : Int32) (dg : decode cc pc = .ok (.isub, 1)) (hv : x - y = v) (k : V p l e R s m args below meth c Q D A nL ws lv ck sl (pc + 1) (.int v :: st)) : V p l e R s m args below meth c Q D A nL ws lv ck sl pc (.int y :: .int x :: st) := fun H locs ls hP hD hS hl => by subst hv; exact lv_isub C.1 C.2.1 dg (k H locs ls hP hD hS hl)
theorem v_isub_s (C : VC p s m args c D d A cc nL own) {x y : Int32} (dg : decode cc pc = .ok (.isub, 1)) (k : ∀ v : Int32, V p l e R s m args below meth c Q D A nL ws lv ck sl (pc + 1) (.int v :: st)) : V p l e R s m args below meth c Q D A nL ws lv ck sl pc (.int y :: .int x :: st) := v_isub C _ dg rfl (k _)
theorem v_imul (C : VC p s m args c D d A cc nL own) {x y : Int32} (v : Int32) (dg : decode cc pc = .ok (.imul, 1)) (hv : x * y = v) (k : V p l e R s m args below meth c Q D A nL ws lv ck sl (pc + 1) (.int v :: st)) : V p l e R s m args below meth c Q D A nL ws lv ck sl pc (.int y :: .int x :: st) := fun H locs ls hP hD hS hl => by subst hv; exact lv_imul C.1 C.2.1 dg (k H locs ls hP hD hS hl)
theorem v_imul_s (C : VC p s m args c D d A cc nL own) {x y : Int32} (dg : decode cc pc = .ok (.imul, 1)) (k : ∀ v : Int32, V p l e R s m args below meth c Q D A nL ws lv ck sl (pc + 1) (.int v :: st)) : V p l e R s m args below meth c Q D A nL ws lv ck sl pc (.int y :: .int x :: st) := v_imul C _ dg rfl (k _)
theorem v_iand (C : VC p s m args c D d A cc nL own) {x y : Int32} (v : Int32) (dg : decode cc pc = .ok (.iand, 1)) (hv : x &&& y = v) (k : V p l e R s m args below meth c Q D A nL ws lv ck sl (pc + 1) (.int v :: st)) : V p l e R s m args below meth c Q D A nL ws lv ck sl pc (.int y :: .int x :: st) := fun H locs ls hP hD hS hl => by subst hv; exact lv_iand C.1 C.2.1 dg (k H locs ls hP hD hS hl)
theorem v_iand_s (C : VC p s m args c D d A cc nL own) {x y : Int32} (dg : decode cc pc = .ok (.iand, 1)) (k : ∀ v : Int32, V p l e R s m args below meth c Q D A nL ws lv ck sl (pc + 1) (.int v :: st)) : V p l e R s m args below meth c Q D A nL ws lv ck sl pc (.int y :: .int x :: st) := v_iand C _ dg rfl (k _)
theorem v_ior (C : VC p s m args c D d A cc nL own) {x y : Int32} (v : Int32) (dg : decode cc pc = .ok (.ior, 1)) (hv : x ||| y = v) (k : V p l e R s m args below meth c Q D A nL ws lv ck sl (pc + 1) (.int v :: st)) : V p l e R s m args below meth c Q D A nL ws lv ck sl pc (.int y :: .int x :: st) := fun H locs ls hP hD hS hl => by subst hv; exact lv_ior C.1 C.2.1 dg (k H locs ls hP hD hS hl)
theorem v_ior_s (C : VC p s m args c D d A cc nL own) {x y : Int32} (dg : decode cc pc = .ok (.ior, 1)) (k : ∀ v : Int32, V p l e R s m args below meth c Q D A nL ws lv ck sl (pc + 1) (.int v :: st)) : V p l e R s m args below meth c Q D A nL ws lv ck sl pc (.int y :: .int x :: st) := v_ior C _ dg rfl (k _)
theorem v_ishr (C : VC p s m args c D d A cc nL own) {x y : Int32} (v : Int32) (dg : decode cc pc = .ok (.ishr, 1)) (hv : x >>> (y &&& 31) = v) (k : V p l e R s m args below meth c Q D A nL ws lv ck sl (pc + 1) (.int v :: st)) : V p l e R s m args below meth c Q D A nL ws lv ck sl pc (.int y :: .int x :: st) := fun H locs ls hP hD hS hl => by subst hv; exact lv_ishr C.1 C.2.1 dg (k H locs ls hP hD hS hl)
theorem v_ishr_s (C : VC p s m args c D d A cc nL own) {x y : Int32} (dg : decode cc pc = .ok (.ishr, 1)) (k : ∀ v : Int32, V p l e R s m args below meth c Q D A nL ws lv ck sl (pc + 1) (.int v :: st)) : V p l e R s m args below meth c Q D A nL ws lv ck sl pc (.int y :: .int x :: st) := v_ishr C _ dg rfl (k _)
theorem v_ladd (C : VC p s m args c D d A cc nL own) {x y : Int64} (v : Int64) (dg : decode cc pc = .ok (.ladd, 1)) (hv : x + y = v) (k : V p l e R s m args below meth c Q D A nL ws lv ck sl (pc + 1) (.long v :: st)) : V p l e R s m args below meth c Q D A nL ws lv ck sl pc (.long y :: .long x :: st) := fun H locs ls hP hD hS hl => by subst hv; exact lv_ladd C.1 C.2.1 dg (k H locs ls hP hD hS hl)
theorem v_lmul (C : VC p s m args c D d A cc nL own) {x y : Int64} (v : Int64) (dg : decode cc pc = .ok (.lmul, 1)) (hv : x * y = v) (k : V p l e R s m args below meth c Q D A nL ws lv ck sl (pc + 1) (.long v :: st)) : V p l e R s m args below meth c Q D A nL ws lv ck sl pc (.long y :: .long x :: st) := fun H locs ls hP hD hS hl => by subst hv; exact lv_lmul C.1 C.2.1 dg (k H locs ls hP hD hS hl)
theorem v_i2l (C : VC p s m args c D d A cc nL own) {x : Int32} (v : Int64) (dg : decode cc pc = .ok (.i2l, 1)) (hv : x.toInt64 = v) (k : V p l e R s m args below meth c Q D A nL ws lv ck sl (pc + 1) (.long v :: st)) : V p l e R s m args below meth c Q D A nL ws lv ck sl pc (.int x :: st) := fun H locs ls hP hD hS hl => lv_i2l C.1 C.2.1 dg hv (k H locs ls hP hD hS hl)
theorem v_i2b_s (C : VC p s m args c D d A cc nL own) {x : Int32} (dg : decode cc pc = .ok (.i2b, 1)) (k : ∀ v : Int32, V p l e R s m args below meth c Q D A nL ws lv ck sl (pc + 1) (.int v :: st)) : V p l e R s m args below meth c Q D A nL ws lv ck sl pc (.int x :: st) := fun H locs ls hP hD hS hl => lv_i2b C.1 C.2.1 dg rfl (k _ H locs ls hP hD hS hl)
theorem v_lcmp (C : VC p s m args c D d A cc nL own) {x y : Int64} (v : Int32) (dg : decode cc pc = .ok (.lcmp, 1)) (hv : lg_cmp x y = v) (k : V p l e R s m args below meth c Q D A nL ws lv ck sl (pc + 1) (.int v :: st)) : V p l e R s m args below meth c Q D A nL ws lv ck sl pc (.long y :: .long x :: st) := fun H locs ls hP hD hS hl => by subst hv; exact W.lcmp C.1 C.2.1 dg (k H locs ls hP hD hS hl)
theorem v_dup (C : VC p s m args c D d A cc nL own) {va : Value} (dg : decode cc pc = .ok (.dup, 1)) (hva : va.category = 1) (k : V p l e R s m args below meth c Q D A nL ws lv ck sl (pc + 1) (va :: va :: st)) : V p l e R s m args below meth c Q D A nL ws lv ck sl pc (va :: st) := fun H locs ls hP hD hS hl => lv_dup C.1 C.2.1 dg hva (k H locs ls hP hD hS hl)
theorem v_pop (C : VC p s m args c D d A cc nL own) {va : Value} (dg : decode cc pc = .ok (.pop, 1)) (hva : va.category = 1) (k : V p l e R s m args below meth c Q D A nL ws lv ck sl (pc + 1) st) : V p l e R s m args below meth c Q D A nL ws lv ck sl pc (va :: st) := fun H locs ls hP hD hS hl => lv_pop C.1 C.2.1 dg hva (k H locs ls hP hD hS hl)
theorem v_goto (C : VC p s m args c D d A cc nL own) {off : Int} (tgt : Nat) (dg : decode cc pc = .ok (.goto off, 3)) (ht : (pc : Int) + off = (tgt : Int)) (k : V p l e R s m args below meth c Q D A nL ws lv ck sl tgt st) : V p l e R s m args below meth c Q D A nL ws lv ck sl pc st := fun H locs ls hP hD hS hl => lv_goto C.1 C.2.1 dg ht (k H locs ls hP hD hS hl)
theorem v_icmp_eq_c (C : VC p s m args c D d A cc nL own) {x y : Int32} {off : Int} (tgt : Nat) (dg : decode cc pc = .ok (.if_icmp .eq off, 3)) (ht : (pc : Int) + off = (tgt : Int)) (kt : x = y → V p l e R s m args below meth c Q D A nL ws lv ck sl tgt st) (kf : ¬ (x = y) → V p l e R s m args below meth c Q D A nL ws lv ck sl (pc + 3) st) : V p l e R s m args below meth c Q D A nL ws lv ck sl pc (.int y :: .int x :: st) := fun H locs ls hP hD hS hl => lv_icmp_eq C.1 C.2.1 dg ht (fun h => kt h H locs ls hP hD hS hl) (fun h => kf h H locs ls hP hD hS hl)
theorem v_icmp_eq_t (C : VC p s m args c D d A cc nL own) {x y : Int32} {off : Int} (tgt : Nat) (dg : decode cc pc = .ok (.if_icmp .eq off, 3)) (ht : (pc : Int) + off = (tgt : Int)) (h : x = y) (kt : V p l e R s m args below meth c Q D A nL ws lv ck sl tgt st) : V p l e R s m args below meth c Q D A nL ws lv ck sl pc (.int y :: .int x :: st) := v_icmp_eq_c C tgt dg ht (fun _ => kt) (fun h9 => absurd h h9)
theorem v_icmp_eq_f (C : VC p s m args c D d A cc nL own) {x y : Int32} {off : Int} (tgt : Nat) (dg : decode cc pc = .ok (.if_icmp .eq off, 3)) (ht : (pc : Int) + off = (tgt : Int)) (h : ¬ (x = y)) (kf : V p l e R s m args below meth c Q D A nL ws lv ck sl (pc + 3) st) : V p l e R s m args below meth c Q D A nL ws lv ck sl pc (.int y :: .int x :: st) := v_icmp_eq_c C tgt dg ht (fun h9 => absurd h9 h) (fun _ => kf)
theorem v_if_eq_c (C : VC p s m args c D d A cc nL own) {x : Int32} {off : Int} (tgt : Nat) (dg : decode cc pc = .ok (.ifCond .eq off, 3)) (ht : (pc : Int) + off = (tgt : Int)) (kt : x = 0 → V p l e R s m args below meth c Q D A nL ws lv ck sl tgt st) (kf : ¬ (x = 0) → V p l e R s m args below meth c Q D A nL ws lv ck sl (pc + 3) st) : V p l e R s m args below meth c Q D A nL ws lv ck sl pc (.int x :: st) := fun H locs ls hP hD hS hl => lv_if_eq C.1 C.2.1 dg ht (fun h => kt h H locs ls hP hD hS hl) (fun h => kf h H locs ls hP hD hS hl)
theorem v_if_eq_t (C : VC p s m args c D d A cc nL own) {x : Int32} {off : Int} (tgt : Nat) (dg : decode cc pc = .ok (.ifCond .eq off, 3)) (ht : (pc : Int) + off = (tgt : Int)) (h : x = 0) (kt : V p l e R s m args below meth c Q D A nL ws lv ck sl tgt st) : V p l e R s m args below meth c Q D A nL ws lv ck sl pc (.int x :: st) := v_if_eq_c C tgt dg ht (fun _ => kt) (fun h9 => absurd h h9)
theorem v_if_eq_f (C : VC p s m args c D d A cc nL own) {x : Int32} {off : Int} (tgt : Nat) (dg : decode cc pc = .ok (.ifCond .eq off, 3)) (ht : (pc : Int) + off = (tgt : Int)) (h : ¬ (x = 0)) (kf : V p l e R s m args below meth c Q D A nL ws lv ck sl (pc + 3) st) : V p l e R s m args below meth c Q D A nL ws lv ck sl pc (.int x :: st) := v_if_eq_c C tgt dg ht (fun h9 => absurd h9 h) (fun _ => kf)
theorem v_icmp_ne_c (C : VC p s m args c D d A cc nL own) {x y : Int32} {off : Int} (tgt : Nat) (dg : decode cc pc = .ok (.if_icmp .ne off, 3)) (ht : (pc : Int) + off = (tgt : Int)) (kt : ¬ x = y → V p l e R s m args below meth c Q D A nL ws lv ck sl tgt st) (kf : ¬ (¬ x = y) → V p l e R s m args below meth c Q D A nL ws lv ck sl (pc + 3) st) : V p l e R s m args below meth c Q D A nL ws lv ck sl pc (.int y :: .int x :: st) := fun H locs ls hP hD hS hl => lv_icmp_ne C.1 C.2.1 dg ht (fun h => kt h H locs ls hP hD hS hl) (fun h => kf (fun n => n h) H locs ls hP hD hS hl)
theorem v_icmp_ne_t (C : VC p s m args c D d A cc nL own) {x y : Int32} {off : Int} (tgt : Nat) (dg : decode cc pc = .ok (.if_icmp .ne off, 3)) (ht : (pc : Int) + off = (tgt : Int)) (h : ¬ x = y) (kt : V p l e R s m args below meth c Q D A nL ws lv ck sl tgt st) : V p l e R s m args below meth c Q D A nL ws lv ck sl pc (.int y :: .int x :: st) := v_icmp_ne_c C tgt dg ht (fun _ => kt) (fun h9 => absurd h h9)
theorem v_icmp_ne_f (C : VC p s m args c D d A cc nL own) {x y : Int32} {off : Int} (tgt : Nat) (dg : decode cc pc = .ok (.if_icmp .ne off, 3)) (ht : (pc : Int) + off = (tgt : Int)) (h : ¬ (¬ x = y)) (kf : V p l e R s m args below meth c Q D A nL ws lv ck sl (pc + 3) st) : V p l e R s m args below meth c Q D A nL ws lv ck sl pc (.int y :: .int x :: st) := v_icmp_ne_c C tgt dg ht (fun h9 => absurd h9 h) (fun _ => kf)
theorem v_if_ne_c (C : VC p s m args c D d A cc nL own) {x : Int32} {off : Int} (tgt : Nat) (dg : decode cc pc = .ok (.ifCond .ne off, 3)) (ht : (pc : Int) + off = (tgt : Int)) (kt : ¬ x = 0 → V p l e R s m args below meth c Q D A nL ws lv ck sl tgt st) (kf : ¬ (¬ x = 0) → V p l e R s m args below meth c Q D A nL ws lv ck sl (pc + 3) st) : V p l e R s m args below meth c Q D A nL ws lv ck sl pc (.int x :: st) := fun H locs ls hP hD hS hl => lv_if_ne C.1 C.2.1 dg ht (fun h => kt h H locs ls hP hD hS hl) (fun h => kf (fun n => n h) H locs ls hP hD hS hl)
theorem v_if_ne_t (C : VC p s m args c D d A cc nL own) {x : Int32} {off : Int} (tgt : Nat) (dg : decode cc pc = .ok (.ifCond .ne off, 3)) (ht : (pc : Int) + off = (tgt : Int)) (h : ¬ x = 0) (kt : V p l e R s m args below meth c Q D A nL ws lv ck sl tgt st) : V p l e R s m args below meth c Q D A nL ws lv ck sl pc (.int x :: st) := v_if_ne_c C tgt dg ht (fun _ => kt) (fun h9 => absurd h h9)
theorem v_if_ne_f (C : VC p s m args c D d A cc nL own) {x : Int32} {off : Int} (tgt : Nat) (dg : decode cc pc = .ok (.ifCond .ne off, 3)) (ht : (pc : Int) + off = (tgt : Int)) (h : ¬ (¬ x = 0)) (kf : V p l e R s m args below meth c Q D A nL ws lv ck sl (pc + 3) st) : V p l e R s m args below meth c Q D A nL ws lv ck sl pc (.int x :: st) := v_if_ne_c C tgt dg ht (fun h9 => absurd h9 h) (fun _ => kf)
theorem v_icmp_lt_c (C : VC p s m args c D d A cc nL own) {x y : Int32} {off : Int} (tgt : Nat) (dg : decode cc pc = .ok (.if_icmp .lt off, 3)) (ht : (pc : Int) + off = (tgt : Int)) (kt : x < y → V p l e R s m args below meth c Q D A nL ws lv ck sl tgt st) (kf : ¬ (x < y) → V p l e R s m args below meth c Q D A nL ws lv ck sl (pc + 3) st) : V p l e R s m args below meth c Q D A nL ws lv ck sl pc (.int y :: .int x :: st) := fun H locs ls hP hD hS hl => lv_icmp_lt C.1 C.2.1 dg ht (fun h => kt h H locs ls hP hD hS hl) (fun h => kf h H locs ls hP hD hS hl)
theorem v_icmp_lt_t (C : VC p s m args c D d A cc nL own) {x y : Int32} {off : Int} (tgt : Nat) (dg : decode cc pc = .ok (.if_icmp .lt off, 3)) (ht : (pc : Int) + off = (tgt : Int)) (h : x < y) (kt : V p l e R s m args below meth c Q D A nL ws lv ck sl tgt st) : V p l e R s m args below meth c Q D A nL ws lv ck sl pc (.int y :: .int x :: st) := v_icmp_lt_c C tgt dg ht (fun _ => kt) (fun h9 => absurd h h9)
theorem v_icmp_lt_f (C : VC p s m args c D d A cc nL own) {x y : Int32} {off : Int} (tgt : Nat) (dg : decode cc pc = .ok (.if_icmp .lt off, 3)) (ht : (pc : Int) + off = (tgt : Int)) (h : ¬ (x < y)) (kf : V p l e R s m args below meth c Q D A nL ws lv ck sl (pc + 3) st) : V p l e R s m args below meth c Q D A nL ws lv ck sl pc (.int y :: .int x :: st) := v_icmp_lt_c C tgt dg ht (fun h9 => absurd h9 h) (fun _ => kf)
theorem v_if_lt_c (C : VC p s m args c D d A cc nL own) {x : Int32} {off : Int} (tgt : Nat) (dg : decode cc pc = .ok (.ifCond .lt off, 3)) (ht : (pc : Int) + off = (tgt : Int)) (kt : x < 0 → V p l e R s m args below meth c Q D A nL ws lv ck sl tgt st) (kf : ¬ (x < 0) → V p l e R s m args below meth c Q D A nL ws lv ck sl (pc + 3) st) : V p l e R s m args below meth c Q D A nL ws lv ck sl pc (.int x :: st) := fun H locs ls hP hD hS hl => lv_if_lt C.1 C.2.1 dg ht (fun h => kt h H locs ls hP hD hS hl) (fun h => kf h H locs ls hP hD hS hl)
theorem v_if_lt_t (C : VC p s m args c D d A cc nL own) {x : Int32} {off : Int} (tgt : Nat) (dg : decode cc pc = .ok (.ifCond .lt off, 3)) (ht : (pc : Int) + off = (tgt : Int)) (h : x < 0) (kt : V p l e R s m args below meth c Q D A nL ws lv ck sl tgt st) : V p l e R s m args below meth c Q D A nL ws lv ck sl pc (.int x :: st) := v_if_lt_c C tgt dg ht (fun _ => kt) (fun h9 => absurd h h9)
theorem v_if_lt_f (C : VC p s m args c D d A cc nL own) {x : Int32} {off : Int} (tgt : Nat) (dg : decode cc pc = .ok (.ifCond .lt off, 3)) (ht : (pc : Int) + off = (tgt : Int)) (h : ¬ (x < 0)) (kf : V p l e R s m args below meth c Q D A nL ws lv ck sl (pc + 3) st) : V p l e R s m args below meth c Q D A nL ws lv ck sl pc (.int x :: st) := v_if_lt_c C tgt dg ht (fun h9 => absurd h9 h) (fun _ => kf)
theorem v_icmp_ge_c (C : VC p s m args c D d A cc nL own) {x y : Int32} {off : Int} (tgt : Nat) (dg : decode cc pc = .ok (.if_icmp .ge off, 3)) (ht : (pc : Int) + off = (tgt : Int)) (kt : y ≤ x → V p l e R s m args below meth c Q D A nL ws lv ck sl tgt st) (kf : ¬ (y ≤ x) → V p l e R s m args below meth c Q D A nL ws lv ck sl (pc + 3) st) : V p l e R s m args below meth c Q D A nL ws lv ck sl pc (.int y :: .int x :: st) := fun H locs ls hP hD hS hl => lv_icmp_ge C.1 C.2.1 dg ht (fun h => kt h H locs ls hP hD hS hl) (fun h => kf h H locs ls hP hD hS hl)
theorem v_icmp_ge_t (C : VC p s m args c D d A cc nL own) {x y : Int32} {off : Int} (tgt : Nat) (dg : decode cc pc = .ok (.if_icmp .ge off, 3)) (ht : (pc : Int) + off = (tgt : Int)) (h : y ≤ x) (kt : V p l e R s m args below meth c Q D A nL ws lv ck sl tgt st) : V p l e R s m args below meth c Q D A nL ws lv ck sl pc (.int y :: .int x :: st) := v_icmp_ge_c C tgt dg ht (fun _ => kt) (fun h9 => absurd h h9)
theorem v_icmp_ge_f (C : VC p s m args c D d A cc nL own) {x y : Int32} {off : Int} (tgt : Nat) (dg : decode cc pc = .ok (.if_icmp .ge off, 3)) (ht : (pc : Int) + off = (tgt : Int)) (h : ¬ (y ≤ x)) (kf : V p l e R s m args below meth c Q D A nL ws lv ck sl (pc + 3) st) : V p l e R s m args below meth c Q D A nL ws lv ck sl pc (.int y :: .int x :: st) := v_icmp_ge_c C tgt dg ht (fun h9 => absurd h9 h) (fun _ => kf)
theorem v_if_ge_c (C : VC p s m args c D d A cc nL own) {x : Int32} {off : Int} (tgt : Nat) (dg : decode cc pc = .ok (.ifCond .ge off, 3)) (ht : (pc : Int) + off = (tgt : Int)) (kt : 0 ≤ x → V p l e R s m args below meth c Q D A nL ws lv ck sl tgt st) (kf : ¬ (0 ≤ x) → V p l e R s m args below meth c Q D A nL ws lv ck sl (pc + 3) st) : V p l e R s m args below meth c Q D A nL ws lv ck sl pc (.int x :: st) := fun H locs ls hP hD hS hl => lv_if_ge C.1 C.2.1 dg ht (fun h => kt h H locs ls hP hD hS hl) (fun h => kf h H locs ls hP hD hS hl)
theorem v_if_ge_t (C : VC p s m args c D d A cc nL own) {x : Int32} {off : Int} (tgt : Nat) (dg : decode cc pc = .ok (.ifCond .ge off, 3)) (ht : (pc : Int) + off = (tgt : Int)) (h : 0 ≤ x) (kt : V p l e R s m args below meth c Q D A nL ws lv ck sl tgt st) : V p l e R s m args below meth c Q D A nL ws lv ck sl pc (.int x :: st) := v_if_ge_c C tgt dg ht (fun _ => kt) (fun h9 => absurd h h9)
theorem v_if_ge_f (C : VC p s m args c D d A cc nL own) {x : Int32} {off : Int} (tgt : Nat) (dg : decode cc pc = .ok (.ifCond .ge off, 3)) (ht : (pc : Int) + off = (tgt : Int)) (h : ¬ (0 ≤ x)) (kf : V p l e R s m args below meth c Q D A nL ws lv ck sl (pc + 3) st) : V p l e R s m args below meth c Q D A nL ws lv ck sl pc (.int x :: st) := v_if_ge_c C tgt dg ht (fun h9 => absurd h9 h) (fun _ => kf)
theorem v_icmp_gt_c (C : VC p s m args c D d A cc nL own) {x y : Int32} {off : Int} (tgt : Nat) (dg : decode cc pc = .ok (.if_icmp .gt off, 3)) (ht : (pc : Int) + off = (tgt : Int)) (kt : y < x → V p l e R s m args below meth c Q D A nL ws lv ck sl tgt st) (kf : ¬ (y < x) → V p l e R s m args below meth c Q D A nL ws lv ck sl (pc + 3) st) : V p l e R s m args below meth c Q D A nL ws lv ck sl pc (.int y :: .int x :: st) := fun H locs ls hP hD hS hl => lv_icmp_gt C.1 C.2.1 dg ht (fun h => kt h H locs ls hP hD hS hl) (fun h => kf h H locs ls hP hD hS hl)
theorem v_icmp_gt_t (C : VC p s m args c D d A cc nL own) {x y : Int32} {off : Int} (tgt : Nat) (dg : decode cc pc = .ok (.if_icmp .gt off, 3)) (ht : (pc : Int) + off = (tgt : Int)) (h : y < x) (kt : V p l e R s m args below meth c Q D A nL ws lv ck sl tgt st) : V p l e R s m args below meth c Q D A nL ws lv ck sl pc (.int y :: .int x :: st) := v_icmp_gt_c C tgt dg ht (fun _ => kt) (fun h9 => absurd h h9)
theorem v_icmp_gt_f (C : VC p s m args c D d A cc nL own) {x y : Int32} {off : Int} (tgt : Nat) (dg : decode cc pc = .ok (.if_icmp .gt off, 3)) (ht : (pc : Int) + off = (tgt : Int)) (h : ¬ (y < x)) (kf : V p l e R s m args below meth c Q D A nL ws lv ck sl (pc + 3) st) : V p l e R s m args below meth c Q D A nL ws lv ck sl pc (.int y :: .int x :: st) := v_icmp_gt_c C tgt dg ht (fun h9 => absurd h9 h) (fun _ => kf)
theorem v_if_gt_c (C : VC p s m args c D d A cc nL own) {x : Int32} {off : Int} (tgt : Nat) (dg : decode cc pc = .ok (.ifCond .gt off, 3)) (ht : (pc : Int) + off = (tgt : Int)) (kt : 0 < x → V p l e R s m args below meth c Q D A nL ws lv ck sl tgt st) (kf : ¬ (0 < x) → V p l e R s m args below meth c Q D A nL ws lv ck sl (pc + 3) st) : V p l e R s m args below meth c Q D A nL ws lv ck sl pc (.int x :: st) := fun H locs ls hP hD hS hl => lv_if_gt C.1 C.2.1 dg ht (fun h => kt h H locs ls hP hD hS hl) (fun h => kf h H locs ls hP hD hS hl)
theorem v_if_gt_t (C : VC p s m args c D d A cc nL own) {x : Int32} {off : Int} (tgt : Nat) (dg : decode cc pc = .ok (.ifCond .gt off, 3)) (ht : (pc : Int) + off = (tgt : Int)) (h : 0 < x) (kt : V p l e R s m args below meth c Q D A nL ws lv ck sl tgt st) : V p l e R s m args below meth c Q D A nL ws lv ck sl pc (.int x :: st) := v_if_gt_c C tgt dg ht (fun _ => kt) (fun h9 => absurd h h9)
theorem v_if_gt_f (C : VC p s m args c D d A cc nL own) {x : Int32} {off : Int} (tgt : Nat) (dg : decode cc pc = .ok (.ifCond .gt off, 3)) (ht : (pc : Int) + off = (tgt : Int)) (h : ¬ (0 < x)) (kf : V p l e R s m args below meth c Q D A nL ws lv ck sl (pc + 3) st) : V p l e R s m args below meth c Q D A nL ws lv ck sl pc (.int x :: st) := v_if_gt_c C tgt dg ht (fun h9 => absurd h9 h) (fun _ => kf)
theorem v_icmp_le_c (C : VC p s m args c D d A cc nL own) {x y : Int32} {off : Int} (tgt : Nat) (dg : decode cc pc = .ok (.if_icmp .le off, 3)) (ht : (pc : Int) + off = (tgt : Int)) (kt : x ≤ y → V p l e R s m args below meth c Q D A nL ws lv ck sl tgt st) (kf : ¬ (x ≤ y) → V p l e R s m args below meth c Q D A nL ws lv ck sl (pc + 3) st) : V p l e R s m args below meth c Q D A nL ws lv ck sl pc (.int y :: .int x :: st) := fun H locs ls hP hD hS hl => lv_icmp_le C.1 C.2.1 dg ht (fun h => kt h H locs ls hP hD hS hl) (fun h => kf h H locs ls hP hD hS hl)
theorem v_icmp_le_t (C : VC p s m args c D d A cc nL own) {x y : Int32} {off : Int} (tgt : Nat) (dg : decode cc pc = .ok (.if_icmp .le off, 3)) (ht : (pc : Int) + off = (tgt : Int)) (h : x ≤ y) (kt : V p l e R s m args below meth c Q D A nL ws lv ck sl tgt st) : V p l e R s m args below meth c Q D A nL ws lv ck sl pc (.int y :: .int x :: st) := v_icmp_le_c C tgt dg ht (fun _ => kt) (fun h9 => absurd h h9)
theorem v_icmp_le_f (C : VC p s m args c D d A cc nL own) {x y : Int32} {off : Int} (tgt : Nat) (dg : decode cc pc = .ok (.if_icmp .le off, 3)) (ht : (pc : Int) + off = (tgt : Int)) (h : ¬ (x ≤ y)) (kf : V p l e R s m args below meth c Q D A nL ws lv ck sl (pc + 3) st) : V p l e R s m args below meth c Q D A nL ws lv ck sl pc (.int y :: .int x :: st) := v_icmp_le_c C tgt dg ht (fun h9 => absurd h9 h) (fun _ => kf)
theorem v_if_le_c (C : VC p s m args c D d A cc nL own) {x : Int32} {off : Int} (tgt : Nat) (dg : decode cc pc = .ok (.ifCond .le off, 3)) (ht : (pc : Int) + off = (tgt : Int)) (kt : x ≤ 0 → V p l e R s m args below meth c Q D A nL ws lv ck sl tgt st) (kf : ¬ (x ≤ 0) → V p l e R s m args below meth c Q D A nL ws lv ck sl (pc + 3) st) : V p l e R s m args below meth c Q D A nL ws lv ck sl pc (.int x :: st) := fun H locs ls hP hD hS hl => lv_if_le C.1 C.2.1 dg ht (fun h => kt h H locs ls hP hD hS hl) (fun h => kf h H locs ls hP hD hS hl)
theorem v_if_le_t (C : VC p s m args c D d A cc nL own) {x : Int32} {off : Int} (tgt : Nat) (dg : decode cc pc = .ok (.ifCond .le off, 3)) (ht : (pc : Int) + off = (tgt : Int)) (h : x ≤ 0) (kt : V p l e R s m args below meth c Q D A nL ws lv ck sl tgt st) : V p l e R s m args below meth c Q D A nL ws lv ck sl pc (.int x :: st) := v_if_le_c C tgt dg ht (fun _ => kt) (fun h9 => absurd h h9)
theorem v_if_le_f (C : VC p s m args c D d A cc nL own) {x : Int32} {off : Int} (tgt : Nat) (dg : decode cc pc = .ok (.ifCond .le off, 3)) (ht : (pc : Int) + off = (tgt : Int)) (h : ¬ (x ≤ 0)) (kf : V p l e R s m args below meth c Q D A nL ws lv ck sl (pc + 3) st) : V p l e R s m args below meth c Q D A nL ws lv ck sl pc (.int x :: st) := v_if_le_c C tgt dg ht (fun h9 => absurd h9 h) (fun _ => kf)
theorem v_tableIn (C : VC p s m args c D d A cc nL own) {dflt lo hi : Int} {offs : Array Int} {len : Nat} {x : Int32} {off : Int} (tgt : Nat) (dg : decode cc pc = .ok (.tableswitch dflt lo hi offs, len)) (h1 : ¬ x.toInt < lo) (h2 : ¬ hi < x.toInt) (ho : offs[(x.toInt - lo).toNat]? = some off) (ht : (pc : Int) + off = (tgt : Int)) (k : V p l e R s m args below meth c Q D A nL ws lv ck sl tgt st) : V p l e R s m args below meth c Q D A nL ws lv ck sl pc (.int x :: st) := fun H locs ls hP hD hS hl => lv_tableIn C.1 C.2.1 dg h1 h2 ho ht (k H locs ls hP hD hS hl)
theorem v_tableOut (C : VC p s m args c D d A cc nL own) {dflt lo hi : Int} {offs : Array Int} {len : Nat} {x : Int32} (tgt : Nat) (dg : decode cc pc = .ok (.tableswitch dflt lo hi offs, len)) (h : x.toInt < lo ∨ hi < x.toInt) (ht : (pc : Int) + dflt = (tgt : Int)) (k : V p l e R s m args below meth c Q D A nL ws lv ck sl tgt st) : V p l e R s m args below meth c Q D A nL ws lv ck sl pc (.int x :: st) := fun H locs ls hP hD hS hl => lv_tableOut C.1 C.2.1 dg h ht (k H locs ls hP hD hS hl)
theorem v_get (C : VC p s m args c D d A cc nL own) {Cn : String} {T : u_T} {N ci index a : Nat} {ty : Nat → FieldType} (F : g_cf Cn T N ty) (q0 : Nat) {fs : List Value} (he : ws[q0]? = some (a, .inr (ci, fs))) (hc : gCl[ci]? = some (Cn, T, N)) (j : Nat) (hj : j < N) (hlink : Cond.fieldLink own index (T j).1 (T j).2.1 (T j).2.2.1 ∈ gW) {v : Value} (hv : fs[j]? = some v) (dg : decode cc pc = .ok (.getfield index, 3)) (k : V p l e R s m args below meth c Q D A nL ws lv ck sl (pc + 3) (v :: st)) : V p l e R s m args below meth c Q D A nL ws lv ck sl pc (.ref a :: st) := fun H locs ls hP hD hS hl => va_get (cl := gCl) C.1 C.2.1 C.2.2.2.2.1 F.1 C.2.2.2.1 C.2.2.2.2.2.1 hP q0 he hc j hj (C.2.2.2.2.1 _ hlink) (fun _ h => h) hv dg (k H locs ls hP hD hS hl)
theorem v_put (C : VC p s m args c D d A cc nL own) {Cn : String} {T : u_T} {N ci index a : Nat} {ty : Nat → FieldType} (F : g_cf Cn T N ty) (q0 : Nat) {fs : List Value} (he : ws[q0]? = some (a, .inr (ci, fs))) (hc : gCl[ci]? = some (Cn, T, N)) (j : Nat) (hj : j < N) (hlink : Cond.fieldLink own index (T j).1 (T j).2.1 (T j).2.2.1 ∈ gW) (hfin : (T j).2.2.2 = false) {v : Value} (hn : narrow (ty j) v = v) (hfit : fits (ty j) v = true) (hl0 : j < fs.length) (ws' : va_W) (hw : ws.set q0 (a, .inr (ci, fs.set j v)) = ws') (dg : decode cc pc = .ok (.putfield index, 3)) (k : V p l e R s m args below meth c Q D A nL ws' lv ck sl (pc + 3) st) : V p l e R s m args below meth c Q D A nL ws lv ck sl pc (v :: .ref a :: st) := fun H locs ls hP hD hS hl => va_put (cl := gCl) C.1 C.2.1 C.2.2.2.2.1 F.1 ty F.2.1 F.2.2 C.2.2.2.1 C.2.2.2.2.2.1 hP hD hS q0 he hc j hj (C.2.2.2.2.1 _ hlink) (fun _ h => h) hfin (F.2.1 j hj) hn hfit hl0 dg (fun H1 locs1 hP1 hD1 hS1 => k H1 locs1 ls (hw ▸ hP1) (hw ▸ hD1) hS1 hl)
theorem v_putF (C : VC p s m args c D d A cc nL own) (hin : meth.name = "<init>") {Cn : String} {T : u_T} {N ci index a : Nat} {ty : Nat → FieldType} (F : g_cf Cn T N ty) (q0 : Nat) {fs : List Value} (he : ws[q0]? = some (a, .inr (ci, fs))) (hc : gCl[ci]? = some (Cn, T, N)) (j : Nat) (hj : j < N) (hlink : Cond.fieldLink own index (T j).1 (T j).2.1 (T j).2.2.1 ∈ gW) (hfin : (T j).2.2.2 = true) {v : Value} (hn : narrow (ty j) v = v) (hfit : fits (ty j) v = true) (hdecl : (T j).1 = own) (hl0 : j < fs.length) (ws' : va_W) (hw : ws.set q0 (a, .inr (ci, fs.set j v)) = ws') (dg : decode cc pc = .ok (.putfield index, 3)) (k : V p l e R s m args below meth c Q D A nL ws' lv ck sl (pc + 3) st) : V p l e R s m args below meth c Q D A nL ws lv ck sl pc (v :: .ref a :: st) := fun H locs ls hP hD hS hl => va_putF (cl := gCl) C.1 C.2.1 C.2.2.2.2.1 F.1 ty F.2.1 F.2.2 C.2.2.2.1 C.2.2.2.2.2.1 hP hD hS q0 he hc j hj (C.2.2.2.2.1 _ hlink) (fun _ h => h) hfin hin hdecl (F.2.1 j hj) hn hfit hl0 dg (fun H1 locs1 hP1 hD1 hS1 => k H1 locs1 ls (hw ▸ hP1) (hw ▸ hD1) hS1 hl)
theorem v_new (C : VC p s m args c D d A cc nL own) {Cn : String} {T : u_T} {N ci index : Nat} {ty : Nat → FieldType} (F : g_cf Cn T N ty) (hc : gCl[ci]? = some (Cn, T, N)) (fs : List Value) (hfs : ∀ j, j < N → defaultValue (ty j) = vp_V fs j) (hcl : Cond.classLink own index Cn ∈ gW) (hinst : Cond.instantiable Cn N ∈ gW) (hini : Cond.initialized Cn ∈ gW) (hcells : ck + 1 ≤ R.cells) (hslots : sl + N ≤ R.slots) (ws' : Nat → va_W) (hw : ∀ q, ws ++ [(q, .inr (ci, fs))] = ws' q) (dg : decode cc pc = .ok (.new index, 3)) (k : ∀ q : Nat, V p l e R s m args below meth c Q D A nL (ws' q) lv (ck + 1) (sl + N) (pc + 3) (.ref q :: st)) : V p l e R s m args below meth c Q D A nL ws lv ck sl pc st := fun H locs ls hP hD hS hl => va_new (cl := gCl) C.1 C.2.1 C.2.2.2.2.1 F.1 ty F.2.1 C.2.2.2.1 (C.2.2.2.2.1 _ hcl) (C.2.2.2.2.1 _ hinst) (C.2.2.2.2.1 _ hini) C.2.2.2.2.2.1 hP hD hS C.2.2.2.2.2.2.1 hc hfs hcells hslots dg (fun q H1 hP1 hD1 hS1 => k q H1 locs ls (hw q ▸ hP1) (hw q ▸ hD1) hS1 hl)
theorem v_newa (C : VC p s m args c D d A cc nL own) {atype : ArrayType} (t0 : Nat) {ty : FieldType} (hty : newarray.typeOf atype = ty) (ht : (g_ty d)[t0]? = some (d t0, ty)) (harr : Cond.arrayClass ty ∈ gW) {x : Int32} (N' : Nat) (a0 : vp_A) (ha : ∀ cA : ClassId, vp_cell cA a0 = arrV cA N' (fun _ => defaultValue ty)) (hn : ¬ x < 0) (hN : x.toNatClampNeg = N') (hbytes : N' * componentBytes ty ≤ 536870912) (hcells : ck + 1 ≤ R.cells) (hslots : sl + N' ≤ R.slots) (ws' : Nat → va_W) (hw : ∀ q, ws ++ [(q, .inl (d t0, a0))] = ws' q) (dg : decode cc pc = .ok (.newarray atype, 2)) (k : ∀ q : Nat, V p l e R s m args below meth c Q D A nL (ws' q) lv (ck + 1) (sl + N') (pc + 2) (.ref q :: st)) : V p l e R s m args below meth c Q D A nL ws lv ck sl pc (.int x :: st) := fun H locs ls hP hD hS hl => by
  refine va_newa (cl := gCl) C.1 C.2.1 (by rw [hty]; exact C.2.2.2.2.1 _ harr) hty C.2.2.2.2.2.1 hP hD hS C.2.2.2.2.2.2.1 ha hn hN hbytes hcells hslots dg (fun q cA H1 hK1 hP1 hD1 hS1 => ?_)
  have h1 := (hK1.2 (g_ty d).length (cA, ty) (by simp)).2
  have h2 := (C.2.2.2.2.2.1.2 t0 _ ht).2
  have hA : cA = d t0 := by
    subst hty
    cases atype <;> exact Option.some.inj (h1.symm.trans h2)
  subst hA
  exact k q H1 locs ls (hw q ▸ hP1) (hw q ▸ hD1) hS1 hl
theorem va_P_left {D : va_G} {cl : List vw_C} {a b : va_W} {H : Heap} (h : va_P D cl (a ++ b) H) : va_P D cl a H := fun i x hx => h i x (by rw [List.getElem?_append_left (List.getElem?_eq_some_iff.mp hx).1]; exact hx)
theorem va_D_left {A : Nat → Prop} {a b : va_W} (h : va_D A (a ++ b)) : va_D A a := ⟨fun i j p q hp hq => h.1 i j p q (by rw [List.getElem?_append_left (List.getElem?_eq_some_iff.mp hp).1]; exact hp) (by rw [List.getElem?_append_left (List.getElem?_eq_some_iff.mp hq).1]; exact hq), fun i x hx => h.2 i x (by rw [List.getElem?_append_left (List.getElem?_eq_some_iff.mp hx).1]; exact hx)⟩
theorem v_newaD (C : VC p s m args c D d A cc nL own) {atype : ArrayType} (t0 : Nat) {ty : FieldType} (hty : newarray.typeOf atype = ty) (ht : (g_ty d)[t0]? = some (d t0, ty)) (harr : Cond.arrayClass ty ∈ gW) {x : Int32} (N' : Nat) (a0 : vp_A) (ha : ∀ cA : ClassId, vp_cell cA a0 = arrV cA N' (fun _ => defaultValue ty)) (hn : ¬ x < 0) (hN : x.toNatClampNeg = N') (hbytes : N' * componentBytes ty ≤ 536870912) (hcells : ck + 1 ≤ R.cells) (hslots : sl + N' ≤ R.slots) (dg : decode cc pc = .ok (.newarray atype, 2)) (k : ∀ q : Nat, V p l e R s m args below meth c Q D A nL ws lv (ck + 1) (sl + N') (pc + 2) (.ref q :: st)) : V p l e R s m args below meth c Q D A nL ws lv ck sl pc (.int x :: st) := v_newa C t0 hty ht harr N' a0 ha hn hN hbytes hcells hslots (fun q => ws ++ [(q, .inl (d t0, a0))]) (fun _ => rfl) dg (fun q H locs ls hP hD hS hl => k q H locs ls (va_P_left hP) (va_D_left hD) hS hl)
theorem v_anewI (C : VC p s m args c D d A cc nL own) {x : Int32} {index : Nat} (N' : Nat) (hlink : Cond.classLink own index "[I" ∈ gW) (hn : ¬ x < 0) (hN : x.toNatClampNeg = N') (hbytes : N' * 4 ≤ 536870912) (hcells : ck + 1 ≤ R.cells) (hslots : sl + N' ≤ R.slots) (dg : decode cc pc = .ok (.anewarray index, 3)) (k : ∀ q : Nat, V p l e R s m args below meth c Q D A nL ws lv (ck + 1) (sl + N') (pc + 3) (.ref q :: st)) : V p l e R s m args below meth c Q D A nL ws lv ck sl pc (.int x :: st) := fun H locs ls hP hD hS hl => by
  subst hN
  refine W.anewA (t := .int) C.1 C.2.1 C.2.2.2.1 (C.2.2.2.2.1 _ hlink) (g_AO.use C.2.2.2.2.2.2.2.1) rfl dg rfl hn hbytes hcells hslots (fun cA kA comp _ _ _ _ => ?_)
  generalize hH1 : H.push ({ cls := cA, slots := Array.replicate x.toNatClampNeg .null, vm := .none } : Cell) = H1
  have z1 : H1.size = H.size + 1 := by rw [← hH1, Array.size_push]
  have o1 : ∀ q : Nat, q < H.size → H1[q]? = H[q]? := fun q hq => by rw [← hH1, Array.getElem?_push, if_neg (Nat.ne_of_lt hq)]
  have hk : ∀ (k : Nat) (x : Nat × va_E), ws[k]? = some x → H1[x.1]? = H[x.1]? := fun k x hx => o1 x.1 ((hP k x hx).lt)
  exact k H.size H1 locs ls (hP.kept hk) hD ⟨Nat.le_trans hS.1 (by omega), fun x h1 h2 => (o1 x (Nat.lt_of_lt_of_le h1 hS.1)).trans (hS.2.1 x h1 h2), hS.2.2⟩ hl
theorem v_objInit (C : VC p s m args c D d A cc nL own) {a idx : Nat} (hlink : Cond.methodLink own idx Lib.objectInit ∈ gW) (hinst : Cond.instanceMethod Lib.objectInit ∈ gW) (hcode : Cond.code Lib.objectInit ⟨#[0xb1]⟩ 1 none ∈ gW) (dg : decode cc pc = .ok (.invokespecial idx, 3)) (hfr : 1 ≤ R.frames) (hlo : 2 * 0 + (st.map fun v => v.category).sum + 12 ≤ R.locals) (k : V p l e R s m args below meth c Q D A nL ws lv ck sl (pc + 3) st) : V p l e R s m args below meth c Q D A nL ws lv ck sl pc (.ref a :: st) := fun H locs ls hP hD hS hl => W.objInit C.1 C.2.1 C.2.2.2.1 (C.2.2.2.2.1 _ hlink) (C.2.2.2.2.1 _ hinst) (C.2.2.2.2.1 _ hcode) rfl (hl.1.trans C.2.2.1.symm) rfl dg hfr hlo (k H locs ls hP hD hS hl)
theorem v_mmax (C : VC p s m args c D d A cc nL own) {index : Nat} {x y : Int32} (v : Int32) (hlink : Cond.methodLink own index Lib.Math.max.name ∈ gW) (hstat : Cond.static Lib.Math.max.name ∈ gW) (hini : Cond.initialized "java/lang/Math" ∈ gW) (hcode : Cond.code Lib.Math.max.name Lib.Math.max.code 2 (some .int) ∈ gW) (hfr : 1 ≤ R.frames) (hlo : (st.map fun v => v.category).sum + 13 ≤ R.locals) (h1 : ck ≤ R.cells) (h2 : sl ≤ R.slots) (dg : decode cc pc = .ok (.invokestatic index, 3)) (hv : (if x < y then y else x) = v) (k : V p l e R s m args below meth c Q D A nL ws lv ck sl (pc + 3) (.int v :: st)) : V p l e R s m args below meth c Q D A nL ws lv ck sl pc (.int y :: .int x :: st) := fun H locs ls hP hD hS hl => by
  subst hv
  exact va_mmax C.1 C.2.1 (C.2.2.1.trans hl.1.symm) C.2.2.2.1 (C.2.2.2.2.1 _ hlink) (C.2.2.2.2.1 _ hstat) (C.2.2.2.2.1 _ hini) (C.2.2.2.2.1 _ hcode) hfr hlo h1 h2 dg (k H locs ls hP hD hS hl)
theorem v_alen (C : VC p s m args c D d A cc nL own) {a : Nat} (q0 t0 : Nat) {cA : ClassId} {x : vp_A} (ha : ws[q0]? = some (a, .inl (cA, x))) {ty : FieldType} (ht : (g_ty d)[t0]? = some (cA, ty)) (v : Int32) (hv : Int32.ofNat x.1 = v) (dg : decode cc pc = .ok (.arraylength, 1)) (k : V p l e R s m args below meth c Q D A nL ws lv ck sl (pc + 1) (.int v :: st)) : V p l e R s m args below meth c Q D A nL ws lv ck sl pc (.ref a :: st) := fun H locs ls hP hD hS hl => va_alen (cl := gCl) C.1 C.2.1 C.2.2.2.2.2.1 hP q0 t0 ha ht hv dg (k H locs ls hP hD hS hl)
theorem v_iast (C : VC p s m args c D d A cc nL own) {a : Nat} (q0 t0 : Nat) {cA : ClassId} {n : Nat} {f : Nat → Int32} (ha : ws[q0]? = some (a, .inl (cA, n, .inl f))) (ht : (g_ty d)[t0]? = some (cA, .int)) {i x : Int32} (hin : vp_in i n) (ws' : (Nat → Int32) → va_W) (hw : ∀ g, ws.set q0 (a, .inl (cA, n, .inl g)) = ws' g) (dg : decode cc pc = .ok (.iastore, 1)) (k : ∀ g : Nat → Int32, V p l e R s m args below meth c Q D A nL (ws' g) lv ck sl (pc + 1) st) : V p l e R s m args below meth c Q D A nL ws lv ck sl pc (.int x :: .int i :: .ref a :: st) := fun H locs ls hP hD hS hl => va_iast (cl := gCl) C.1 C.2.1 C.2.2.2.2.2.1 hP hD hS q0 t0 ha ht hin dg (fun H1 locs1 hP1 hD1 hS1 => k _ H1 locs1 ls (hw _ ▸ hP1) (hw _ ▸ hD1) hS1 hl)
theorem v_bast (C : VC p s m args c D d A cc nL own) {a : Nat} (q0 t0 : Nat) {cA : ClassId} {n : Nat} {f : Nat → Int32} (ha : ws[q0]? = some (a, .inl (cA, n, .inl f))) (ht : (g_ty d)[t0]? = some (cA, .byte)) {i x : Int32} (hin : vp_in i n) (ws' : (Nat → Int32) → va_W) (hw : ∀ g, ws.set q0 (a, .inl (cA, n, .inl g)) = ws' g) (dg : decode cc pc = .ok (.bastore, 1)) (k : ∀ g : Nat → Int32, V p l e R s m args below meth c Q D A nL (ws' g) lv ck sl (pc + 1) st) : V p l e R s m args below meth c Q D A nL ws lv ck sl pc (.int x :: .int i :: .ref a :: st) := fun H locs ls hP hD hS hl => va_bast (cl := gCl) C.1 C.2.1 C.2.2.2.2.2.1 hP hD hS q0 t0 ha ht hin dg (fun H1 locs1 hP1 hD1 hS1 => k _ H1 locs1 ls (hw _ ▸ hP1) (hw _ ▸ hD1) hS1 hl)
theorem v_last (C : VC p s m args c D d A cc nL own) {a : Nat} (q0 t0 : Nat) {cA : ClassId} {n : Nat} {f : Nat → Int64} (ha : ws[q0]? = some (a, .inl (cA, n, .inr (.inl f)))) (ht : (g_ty d)[t0]? = some (cA, .long)) {i : Int32} {x : Int64} (hin : vp_in i n) (ws' : va_W) (hw : ws.set q0 (a, .inl (cA, n, .inr (.inl (vp_updL f i.toNatClampNeg x)))) = ws') (dg : decode cc pc = .ok (.lastore, 1)) (k : V p l e R s m args below meth c Q D A nL ws' lv ck sl (pc + 1) st) : V p l e R s m args below meth c Q D A nL ws lv ck sl pc (.long x :: .int i :: .ref a :: st) := fun H locs ls hP hD hS hl => va_last (cl := gCl) C.1 C.2.1 C.2.2.2.2.2.1 hP hD hS q0 t0 ha ht hin dg (fun H1 locs1 hP1 hD1 hS1 => k H1 locs1 ls (hw ▸ hP1) (hw ▸ hD1) hS1 hl)
theorem v_lald (C : VC p s m args c D d A cc nL own) {a : Nat} (q0 t0 : Nat) {cA : ClassId} {n : Nat} {f : Nat → Int64} (ha : ws[q0]? = some (a, .inl (cA, n, .inr (.inl f)))) (ht : (g_ty d)[t0]? = some (cA, .long)) {i : Int32} (v : Int64) (hin : vp_in i n) (hv : f i.toNatClampNeg = v) (dg : decode cc pc = .ok (.laload, 1)) (k : V p l e R s m args below meth c Q D A nL ws lv ck sl (pc + 1) (.long v :: st)) : V p l e R s m args below meth c Q D A nL ws lv ck sl pc (.int i :: .ref a :: st) := fun H locs ls hP hD hS hl => by
  subst hv
  exact va_lald (cl := gCl) C.1 C.2.1 C.2.2.2.2.2.1 hP q0 t0 ha ht hin dg (k H locs ls hP hD hS hl)
theorem v_sld (C : VC p s m args c D d A cc nL own) {b L : Nat} {xs : Nat → Int32} (hX : va_X b L xs s s.heap) (hbl : b < s.heap.size) (hbA : ¬ A b) {i : Int32} (v : Int32) (hin : vp_in i L) (hv : xs i.toNatClampNeg = v) (dg : decode cc pc = .ok (.iaload, 1)) (k : V p l e R s m args below meth c Q D A nL ws lv ck sl (pc + 1) (.int v :: st)) : V p l e R s m args below meth c Q D A nL ws lv ck sl pc (.int i :: .ref b :: st) := fun H locs ls hP hD hS hl => by
  subst hv
  exact va_sld C.1 C.2.1 hX hbl hbA hS hin dg (k H locs ls hP hD hS hl)
theorem v_slen (C : VC p s m args c D d A cc nL own) {b L : Nat} {xs : Nat → Int32} (hX : va_X b L xs s s.heap) (hbl : b < s.heap.size) (hbA : ¬ A b) (dg : decode cc pc = .ok (.arraylength, 1)) (k : V p l e R s m args below meth c Q D A nL ws lv ck sl (pc + 1) (.int (Int32.ofNat L) :: st)) : V p l e R s m args below meth c Q D A nL ws lv ck sl pc (.ref b :: st) := fun H locs ls hP hD hS hl => va_slen C.1 C.2.1 hX hbl hbA hS dg (k H locs ls hP hD hS hl)
theorem v_callVv (C : VC p s m args c D d A cc nL own) {y : MethodName} {bb : ByteArray} {nY nA index : Nat} {ret : Option FieldType} {rm : Room} {mc ms : Nat} (F : g_mf y bb nY ret nA) (G : g_mv y) (hlink : Cond.methodLink own index y ∈ gW) {b : Nat} {S : Type} {w1 : S → va_W} {E : Bool} {wc wr : va_W} {As rest : List Value} (hM : ∀ sz, Met l y (g_wd y bb nY ret) rm (va_Pc (.ref b :: As) (g_pr E D d wc sz)) (q_v D w1 (va_A wc sz)) mc ms (va_A wc sz)) (hE : E = true → g_ex A s) (q0 : Nat) {ci : Nat} {T : u_T} {N : Nat} {fs : List Value} (he : ws[q0]? = some (b, .inr (ci, fs))) (hci : gCl[ci]? = some (y.cls, T, N)) (isC isR : List Nat) (hC : isC.map (fun i => ws[i]?) = wc.map some) (hR : isR.map (fun i => ws[i]?) = wr.map some) (hnC : va_nd isC = true) (hnR : va_nd isR = true) (hdis : ∀ i ∈ isR, i ∉ isC) (hrm : rm.cells = mc ∧ rm.slots = ms) (hfl : rm.frames + 1 ≤ R.frames ∧ 8 + (nY + 11) + rm.locals ≤ R.locals) (hcap : ck + mc ≤ R.cells ∧ sl + ms ≤ R.slots) (hrest : (rest.map fun v => v.category).sum ≤ 8) {st0 : List Value} (hst : st0 = As.reverse ++ .ref b :: rest) (hlen : As.length = nA) (ws' : S → va_W) (hw : ∀ u, wr ++ w1 u = ws' u) (dg : decode cc pc = .ok (.invokevirtual index, 3)) (k : ∀ u : S, V p l e R s m args below meth c Q D A nL (ws' u) lv (ck + mc) (sl + ms) (pc + 3) rest) : V p l e R s m args below meth c Q D A nL ws lv ck sl pc st0 := fun H locs ls hP hD hS hl => by
  have cw : CallW R s args own y.cls index y bb nY ret (g_wd y bb nY ret) rm mc ms nA := ⟨callB_of nA C.2.2.2.2.1 (g_goodC F.1) rfl hrm.1 hrm.2 (C.2.2.2.2.1 _ F.2.1) (C.2.2.2.2.1 _ hlink) F.2.2 hfl, C.2.2.2.2.1 _ G.1, C.2.2.2.2.1 _ G.2⟩
  refine va_callv (va_runV (Ts := gW) ⟨C.1, C.2.1, C.2.2.1, C.2.2.2.1, C.2.2.2.2.1⟩ (hM H.size) cw ⟨pr_blind, va_recv C.2.2.2.2.2.1 hP hci he, fun U hU hW => ⟨rfl, by rw [hU], by rw [hU]; exact hP.sub isC (fm_of hC), va_K.moved hW.alike C.2.2.2.2.2.1, (hD.sub isC hnC hC).weaken (fun _ _ _ _ => trivial), C.2.2.2.2.2.2.2.1.moved hW.alike, gB_warm hW C.2.2.2.2.2.2.2.2, fun h => (hE h).to hS hU hW (va_free hD hS C.2.2.2.2.2.2.1 isC hC)⟩⟩ rfl hlen hl.1 hst (lv_room hrest) dg hcap) hS (fun q _ h => va_free hD hS C.2.2.2.2.2.2.1 isC hC q h) (va_free hD hS C.2.2.2.2.2.2.1 isC hC) (fun u t H1 locs1 ht hvm hw9 hB hz1 hk1 hS1 => ?_)
  obtain ⟨hP1, hD1⟩ := hB
  rw [ht] at hP1
  obtain ⟨hP2, hD2⟩ := va_join hP hD isC isR hC hR hnR hdis hk1 (va_free hD hS C.2.2.2.2.2.2.1 isC hC) hP1 hD1
  exact k u H1 locs1 ls (hw u ▸ hP2) (hw u ▸ hD2) hS1 hl
theorem v_callSv (C : VC p s m args c D d A cc nL own) {y : MethodName} {bb : ByteArray} {nY nA index : Nat} {ret : Option FieldType} {rm : Room} {mc ms : Nat} (F : g_mf y bb nY ret nA) (hstat : Cond.static y ∈ gW) (hlink : Cond.methodLink own index y ∈ gW) {S : Type} {w1 : S → va_W} {E : Bool} {wc wr : va_W} {As rest : List Value} (hM : ∀ sz, Met l y (g_wd y bb nY ret) rm (va_Pc As (g_pr E D d wc sz)) (q_v D w1 (va_A wc sz)) mc ms (va_A wc sz)) (hE : E = true → g_ex A s) (isC isR : List Nat) (hC : isC.map (fun i => ws[i]?) = wc.map some) (hR : isR.map (fun i => ws[i]?) = wr.map some) (hnC : va_nd isC = true) (hnR : va_nd isR = true) (hdis : ∀ i ∈ isR, i ∉ isC) (hrm : rm.cells = mc ∧ rm.slots = ms) (hfl : rm.frames + 1 ≤ R.frames ∧ 8 + (nY + 11) + rm.locals ≤ R.locals) (hcap : ck + mc ≤ R.cells ∧ sl + ms ≤ R.slots) (hrest : (rest.map fun v => v.category).sum ≤ 8) {st0 : List Value} (hst : st0 = As.reverse ++ rest) (hlen : As.length = nA) (ws' : S → va_W) (hw : ∀ u, wr ++ w1 u = ws' u) (dg : decode cc pc = .ok (.invokestatic index, 3)) (k : ∀ u : S, V p l e R s m args below meth c Q D A nL (ws' u) lv (ck + mc) (sl + ms) (pc + 3) rest) : V p l e R s m args below meth c Q D A nL ws lv ck sl pc st0 := fun H locs ls hP hD hS hl => by
  have cw : CallB R s args own index y bb nY ret (g_wd y bb nY ret) rm mc ms nA ∧ (Cond.static y).before args s = true := ⟨callB_of nA C.2.2.2.2.1 (g_goodC F.1) rfl hrm.1 hrm.2 (C.2.2.2.2.1 _ F.2.1) (C.2.2.2.2.1 _ hlink) F.2.2 hfl, C.2.2.2.2.1 _ hstat⟩
  refine va_callv (va_runS (Ts := gW) ⟨C.1, C.2.1, C.2.2.1, C.2.2.2.1, C.2.2.2.2.1⟩ (hM H.size) cw ⟨pr_blind, fun U hU hW => ⟨rfl, by rw [hU], by rw [hU]; exact hP.sub isC (fm_of hC), va_K.moved hW.alike C.2.2.2.2.2.1, (hD.sub isC hnC hC).weaken (fun _ _ _ _ => trivial), C.2.2.2.2.2.2.2.1.moved hW.alike, gB_warm hW C.2.2.2.2.2.2.2.2, fun h => (hE h).to hS hU hW (va_free hD hS C.2.2.2.2.2.2.1 isC hC)⟩⟩ rfl hlen hl.1 hst (lv_room hrest) dg hcap) hS (fun q _ h => va_free hD hS C.2.2.2.2.2.2.1 isC hC q h) (va_free hD hS C.2.2.2.2.2.2.1 isC hC) (fun u t H1 locs1 ht hvm hw9 hB hz1 hk1 hS1 => ?_)
  obtain ⟨hP1, hD1⟩ := hB
  rw [ht] at hP1
  obtain ⟨hP2, hD2⟩ := va_join hP hD isC isR hC hR hnR hdis hk1 (va_free hD hS C.2.2.2.2.2.2.1 isC hC) hP1 hD1
  exact k u H1 locs1 ls (hw u ▸ hP2) (hw u ▸ hD2) hS1 hl
theorem v_callI (C : VC p s m args c D d A cc nL own) {y : MethodName} {bb : ByteArray} {nY nA index : Nat} {rm : Room} {mc ms : Nat} (F : g_mf y bb nY none nA) (hinst : Cond.instanceMethod y ∈ gW) (hy : y.name = "<init>") (hlink : Cond.methodLink own index y ∈ gW) {b : Nat} {S : Type} {w1 : S → va_W} {E : Bool} {wc wr : va_W} {As rest : List Value} (hM : ∀ sz, Met l y (g_wd y bb nY none) rm (va_Pc (.ref b :: As) (g_pr E D d wc sz)) (q_v D w1 (va_A wc sz)) mc ms (va_A wc sz)) (hE : E = true → g_ex A s) (isC isR : List Nat) (hC : isC.map (fun i => ws[i]?) = wc.map some) (hR : isR.map (fun i => ws[i]?) = wr.map some) (hnC : va_nd isC = true) (hnR : va_nd isR = true) (hdis : ∀ i ∈ isR, i ∉ isC) (hrm : rm.cells = mc ∧ rm.slots = ms) (hfl : rm.frames + 1 ≤ R.frames ∧ 8 + (nY + 11) + rm.locals ≤ R.locals) (hcap : ck + mc ≤ R.cells ∧ sl + ms ≤ R.slots) (hrest : (rest.map fun v => v.category).sum ≤ 8) {st0 : List Value} (hst : st0 = As.reverse ++ .ref b :: rest) (hlen : As.length = nA) (ws' : S → va_W) (hw : ∀ u, wr ++ w1 u = ws' u) (dg : decode cc pc = .ok (.invokespecial index, 3)) (k : ∀ u : S, V p l e R s m args below meth c Q D A nL (ws' u) lv (ck + mc) (sl + ms) (pc + 3) rest) : V p l e R s m args below meth c Q D A nL ws lv ck sl pc st0 := fun H locs ls hP hD hS hl => by
  have cw : CallB R s args own index y bb nY none (g_wd y bb nY none) rm mc ms nA ∧ y.name = "<init>" ∧ (Cond.instanceMethod y).before args s = true := ⟨callB_of nA C.2.2.2.2.1 (g_goodC F.1) rfl hrm.1 hrm.2 (C.2.2.2.2.1 _ F.2.1) (C.2.2.2.2.1 _ hlink) F.2.2 hfl, hy, C.2.2.2.2.1 _ hinst⟩
  refine va_callv (va_runI (Ts := gW) ⟨C.1, C.2.1, C.2.2.1, C.2.2.2.1, C.2.2.2.2.1⟩ (hM H.size) cw ⟨pr_blind, fun U hU hW => ⟨rfl, by rw [hU], by rw [hU]; exact hP.sub isC (fm_of hC), va_K.moved hW.alike C.2.2.2.2.2.1, (hD.sub isC hnC hC).weaken (fun _ _ _ _ => trivial), C.2.2.2.2.2.2.2.1.moved hW.alike, gB_warm hW C.2.2.2.2.2.2.2.2, fun h => (hE h).to hS hU hW (va_free hD hS C.2.2.2.2.2.2.1 isC hC)⟩⟩ rfl hlen hl.1 hst (lv_room hrest) dg hcap) hS (fun q _ h => va_free hD hS C.2.2.2.2.2.2.1 isC hC q h) (va_free hD hS C.2.2.2.2.2.2.1 isC hC) (fun u t H1 locs1 ht hvm hw9 hB hz1 hk1 hS1 => ?_)
  obtain ⟨hP1, hD1⟩ := hB
  rw [ht] at hP1
  obtain ⟨hP2, hD2⟩ := va_join hP hD isC isR hC hR hnR hdis hk1 (va_free hD hS C.2.2.2.2.2.2.1 isC hC) hP1 hD1
  exact k u H1 locs1 ls (hw u ▸ hP2) (hw u ▸ hD2) hS1 hl
theorem v_callIN (C : VC p s m args c D d A cc nL own) {y : MethodName} {bb : ByteArray} {nY nA index : Nat} {rm : Room} {mc ms : Nat} (F : g_mf y bb nY none nA) (hinst : Cond.instanceMethod y ∈ gW) (hy : y.name = "<init>") {host : String} (hlink : Cond.methodLinkNest own index y host ∈ gB) {b : Nat} {S : Type} {w1 : S → va_W} {E : Bool} {wc wr : va_W} {As rest : List Value} (hM : ∀ sz, Met l y (g_wd y bb nY none) rm (va_Pc (.ref b :: As) (g_pr E D d wc sz)) (q_v D w1 (va_A wc sz)) mc ms (va_A wc sz)) (hE : E = true → g_ex A s) (isC isR : List Nat) (hC : isC.map (fun i => ws[i]?) = wc.map some) (hR : isR.map (fun i => ws[i]?) = wr.map some) (hnC : va_nd isC = true) (hnR : va_nd isR = true) (hdis : ∀ i ∈ isR, i ∉ isC) (hrm : rm.cells = mc ∧ rm.slots = ms) (hfl : rm.frames + 1 ≤ R.frames ∧ 8 + (nY + 11) + rm.locals ≤ R.locals) (hcap : ck + mc ≤ R.cells ∧ sl + ms ≤ R.slots) (hrest : (rest.map fun v => v.category).sum ≤ 8) {st0 : List Value} (hst : st0 = As.reverse ++ .ref b :: rest) (hlen : As.length = nA) (ws' : S → va_W) (hw : ∀ u, wr ++ w1 u = ws' u) (dg : decode cc pc = .ok (.invokespecial index, 3)) (k : ∀ u : S, V p l e R s m args below meth c Q D A nL (ws' u) lv (ck + mc) (sl + ms) (pc + 3) rest) : V p l e R s m args below meth c Q D A nL ws lv ck sl pc st0 := fun H locs ls hP hD hS hl => by
  have cw : va_CN R s args own index y host bb nY none (g_wd y bb nY none) rm mc ms nA ∧ y.name = "<init>" ∧ (Cond.instanceMethod y).before args s = true := ⟨va_cnB nA C.2.2.2.2.1 (g_goodC F.1) rfl hrm.1 hrm.2 (C.2.2.2.2.2.2.2.2 _ hlink) (C.2.2.2.2.1 _ F.2.1) F.2.2 hfl, hy, C.2.2.2.2.1 _ hinst⟩
  refine va_callv (va_runIN (Ts := gW) ⟨C.1, C.2.1, C.2.2.1, C.2.2.2.1, C.2.2.2.2.1⟩ (hM H.size) cw ⟨pr_blind, fun U hU hW => ⟨rfl, by rw [hU], by rw [hU]; exact hP.sub isC (fm_of hC), va_K.moved hW.alike C.2.2.2.2.2.1, (hD.sub isC hnC hC).weaken (fun _ _ _ _ => trivial), C.2.2.2.2.2.2.2.1.moved hW.alike, gB_warm hW C.2.2.2.2.2.2.2.2, fun h => (hE h).to hS hU hW (va_free hD hS C.2.2.2.2.2.2.1 isC hC)⟩⟩ rfl hlen hl.1 hst (lv_room hrest) dg hcap) hS (fun q _ h => va_free hD hS C.2.2.2.2.2.2.1 isC hC q h) (va_free hD hS C.2.2.2.2.2.2.1 isC hC) (fun u t H1 locs1 ht hvm hw9 hB hz1 hk1 hS1 => ?_)
  obtain ⟨hP1, hD1⟩ := hB
  rw [ht] at hP1
  obtain ⟨hP2, hD2⟩ := va_join hP hD isC isR hC hR hnR hdis hk1 (va_free hD hS C.2.2.2.2.2.2.1 isC hC) hP1 hD1
  exact k u H1 locs1 ls (hw u ▸ hP2) (hw u ▸ hD2) hS1 hl
theorem v_callVi (C : VC p s m args c D d A cc nL own) {y : MethodName} {bb : ByteArray} {nY nA index : Nat} {ret : Option FieldType} {rm : Room} {mc ms : Nat} (F : g_mf y bb nY ret nA) (G : g_mv y) (hlink : Cond.methodLink own index y ∈ gW) {b : Nat} {S : Type} {w1 : S → va_W} {K : Int32} {E : Bool} {wc wr : va_W} {As rest : List Value} (hM : ∀ sz, Met l y (g_wd y bb nY ret) rm (va_Pc (.ref b :: As) (g_pr E D d wc sz)) (q_i D K w1 (va_A wc sz)) mc ms (va_A wc sz)) (hE : E = true → g_ex A s) (q0 : Nat) {ci : Nat} {T : u_T} {N : Nat} {fs : List Value} (he : ws[q0]? = some (b, .inr (ci, fs))) (hci : gCl[ci]? = some (y.cls, T, N)) (isC isR : List Nat) (hC : isC.map (fun i => ws[i]?) = wc.map some) (hR : isR.map (fun i => ws[i]?) = wr.map some) (hnC : va_nd isC = true) (hnR : va_nd isR = true) (hdis : ∀ i ∈ isR, i ∉ isC) (hrm : rm.cells = mc ∧ rm.slots = ms) (hfl : rm.frames + 1 ≤ R.frames ∧ 8 + (nY + 11) + rm.locals ≤ R.locals) (hcap : ck + mc ≤ R.cells ∧ sl + ms ≤ R.slots) (hrest : (rest.map fun v => v.category).sum ≤ 8) {st0 : List Value} (hst : st0 = As.reverse ++ .ref b :: rest) (hlen : As.length = nA) (ws' : S → va_W) (hw : ∀ u, wr ++ w1 u = ws' u) (dg : decode cc pc = .ok (.invokevirtual index, 3)) (k : ∀ u : S, V p l e R s m args below meth c Q D A nL (ws' u) lv (ck + mc) (sl + ms) (pc + 3) (.int K :: rest)) : V p l e R s m args below meth c Q D A nL ws lv ck sl pc st0 := fun H locs ls hP hD hS hl => by
  have cw : CallW R s args own y.cls index y bb nY ret (g_wd y bb nY ret) rm mc ms nA := ⟨callB_of nA C.2.2.2.2.1 (g_goodC F.1) rfl hrm.1 hrm.2 (C.2.2.2.2.1 _ F.2.1) (C.2.2.2.2.1 _ hlink) F.2.2 hfl, C.2.2.2.2.1 _ G.1, C.2.2.2.2.1 _ G.2⟩
  refine va_calli (va_runV (Ts := gW) ⟨C.1, C.2.1, C.2.2.1, C.2.2.2.1, C.2.2.2.2.1⟩ (hM H.size) cw ⟨pr_blind, va_recv C.2.2.2.2.2.1 hP hci he, fun U hU hW => ⟨rfl, by rw [hU], by rw [hU]; exact hP.sub isC (fm_of hC), va_K.moved hW.alike C.2.2.2.2.2.1, (hD.sub isC hnC hC).weaken (fun _ _ _ _ => trivial), C.2.2.2.2.2.2.2.1.moved hW.alike, gB_warm hW C.2.2.2.2.2.2.2.2, fun h => (hE h).to hS hU hW (va_free hD hS C.2.2.2.2.2.2.1 isC hC)⟩⟩ rfl hlen hl.1 hst (lv_room hrest) dg hcap) hS (fun q _ h => va_free hD hS C.2.2.2.2.2.2.1 isC hC q h) (va_free hD hS C.2.2.2.2.2.2.1 isC hC) (fun r u t H1 locs1 ht hvm hw9 hB hz1 hk1 hS1 => ?_)
  obtain ⟨hP1, hD1⟩ := hB
  rw [ht] at hP1
  subst hw9
  obtain ⟨hP2, hD2⟩ := va_join hP hD isC isR hC hR hnR hdis hk1 (va_free hD hS C.2.2.2.2.2.2.1 isC hC) hP1 hD1
  exact k u H1 locs1 ls (hw u ▸ hP2) (hw u ▸ hD2) hS1 hl
theorem v_callSi (C : VC p s m args c D d A cc nL own) {y : MethodName} {bb : ByteArray} {nY nA index : Nat} {ret : Option FieldType} {rm : Room} {mc ms : Nat} (F : g_mf y bb nY ret nA) (hstat : Cond.static y ∈ gW) (hlink : Cond.methodLink own index y ∈ gW) {S : Type} {w1 : S → va_W} {K : Int32} {E : Bool} {wc wr : va_W} {As rest : List Value} (hM : ∀ sz, Met l y (g_wd y bb nY ret) rm (va_Pc As (g_pr E D d wc sz)) (q_i D K w1 (va_A wc sz)) mc ms (va_A wc sz)) (hE : E = true → g_ex A s) (isC isR : List Nat) (hC : isC.map (fun i => ws[i]?) = wc.map some) (hR : isR.map (fun i => ws[i]?) = wr.map some) (hnC : va_nd isC = true) (hnR : va_nd isR = true) (hdis : ∀ i ∈ isR, i ∉ isC) (hrm : rm.cells = mc ∧ rm.slots = ms) (hfl : rm.frames + 1 ≤ R.frames ∧ 8 + (nY + 11) + rm.locals ≤ R.locals) (hcap : ck + mc ≤ R.cells ∧ sl + ms ≤ R.slots) (hrest : (rest.map fun v => v.category).sum ≤ 8) {st0 : List Value} (hst : st0 = As.reverse ++ rest) (hlen : As.length = nA) (ws' : S → va_W) (hw : ∀ u, wr ++ w1 u = ws' u) (dg : decode cc pc = .ok (.invokestatic index, 3)) (k : ∀ u : S, V p l e R s m args below meth c Q D A nL (ws' u) lv (ck + mc) (sl + ms) (pc + 3) (.int K :: rest)) : V p l e R s m args below meth c Q D A nL ws lv ck sl pc st0 := fun H locs ls hP hD hS hl => by
  have cw : CallB R s args own index y bb nY ret (g_wd y bb nY ret) rm mc ms nA ∧ (Cond.static y).before args s = true := ⟨callB_of nA C.2.2.2.2.1 (g_goodC F.1) rfl hrm.1 hrm.2 (C.2.2.2.2.1 _ F.2.1) (C.2.2.2.2.1 _ hlink) F.2.2 hfl, C.2.2.2.2.1 _ hstat⟩
  refine va_calli (va_runS (Ts := gW) ⟨C.1, C.2.1, C.2.2.1, C.2.2.2.1, C.2.2.2.2.1⟩ (hM H.size) cw ⟨pr_blind, fun U hU hW => ⟨rfl, by rw [hU], by rw [hU]; exact hP.sub isC (fm_of hC), va_K.moved hW.alike C.2.2.2.2.2.1, (hD.sub isC hnC hC).weaken (fun _ _ _ _ => trivial), C.2.2.2.2.2.2.2.1.moved hW.alike, gB_warm hW C.2.2.2.2.2.2.2.2, fun h => (hE h).to hS hU hW (va_free hD hS C.2.2.2.2.2.2.1 isC hC)⟩⟩ rfl hlen hl.1 hst (lv_room hrest) dg hcap) hS (fun q _ h => va_free hD hS C.2.2.2.2.2.2.1 isC hC q h) (va_free hD hS C.2.2.2.2.2.2.1 isC hC) (fun r u t H1 locs1 ht hvm hw9 hB hz1 hk1 hS1 => ?_)
  obtain ⟨hP1, hD1⟩ := hB
  rw [ht] at hP1
  subst hw9
  obtain ⟨hP2, hD2⟩ := va_join hP hD isC isR hC hR hnR hdis hk1 (va_free hD hS C.2.2.2.2.2.2.1 isC hC) hP1 hD1
  exact k u H1 locs1 ls (hw u ▸ hP2) (hw u ▸ hD2) hS1 hl
theorem v_callSWi (C : VC p s m args c D d A cc nL own) {y : MethodName} {bb : ByteArray} {nY nA index : Nat} {ret : Option FieldType} {hh : List (Nat × Nat × Nat × Nat)} {rm : Room} {mc ms : Nat} (F : Cond.codeWith y bb nY ret hh ∈ gW ∧ Cond.initialized y.cls ∈ gW ∧ (y.cls ≠ "java/lang/invoke/MethodHandle" ∧ y.cls ≠ "java/lang/invoke/VarHandle" ∧ (parseMethodDescriptor y.desc).map (fun d => d.parameters.length) = some nA)) (hstat : Cond.static y ∈ gW) (hlink : Cond.methodLink own index y ∈ gW) {S : Type} {w1 : S → va_W} {K : Int32} {E : Bool} {wc wr : va_W} {As rest : List Value} (hM : ∀ sz, Met l y (g_wh y bb nY ret hh) rm (va_Pc As (g_pr E D d wc sz)) (q_i D K w1 (va_A wc sz)) mc ms (va_A wc sz)) (hE : E = true → g_ex A s) (isC isR : List Nat) (hC : isC.map (fun i => ws[i]?) = wc.map some) (hR : isR.map (fun i => ws[i]?) = wr.map some) (hnC : va_nd isC = true) (hnR : va_nd isR = true) (hdis : ∀ i ∈ isR, i ∉ isC) (hrm : rm.cells = mc ∧ rm.slots = ms) (hfl : rm.frames + 1 ≤ R.frames ∧ 8 + (nY + 11) + rm.locals ≤ R.locals) (hcap : ck + mc ≤ R.cells ∧ sl + ms ≤ R.slots) (hrest : (rest.map fun v => v.category).sum ≤ 8) {st0 : List Value} (hst : st0 = As.reverse ++ rest) (hlen : As.length = nA) (ws' : S → va_W) (hw : ∀ u, wr ++ w1 u = ws' u) (dg : decode cc pc = .ok (.invokestatic index, 3)) (k : ∀ u : S, V p l e R s m args below meth c Q D A nL (ws' u) lv (ck + mc) (sl + ms) (pc + 3) (.int K :: rest)) : V p l e R s m args below meth c Q D A nL ws lv ck sl pc st0 := fun H locs ls hP hD hS hl => by
  have hG9 : GoodIn gW (va_wsS own index y (g_wh y bb nY ret hh)) := g_goodA (a := [.methodLink own index y, .static y, .initialized y.cls]) (fun w hw => (List.mem_cons.mp hw).elim (fun e => by rw [e]; exact hlink) (fun hw => (List.mem_cons.mp hw).elim (fun e => by rw [e]; exact hstat) (fun hw => (List.mem_cons.mp hw).elim (fun e => by rw [e]; exact F.2.1) (fun hw => nomatch hw)))) (g_goodC F.1)
  have cw : vx_CSW R s args own index y bb nY ret hh (g_wh y bb nY ret hh) rm mc ms nA := vx_cwSW nA C.2.2.2.2.1 hG9 rfl hrm.1 hrm.2 F.2.2 hfl
  refine va_calli (vx_runSW (Ts := gW) ⟨C.1, C.2.1, C.2.2.1, C.2.2.2.1, C.2.2.2.2.1⟩ (hM H.size) cw ⟨pr_blind, fun U hU hW => ⟨rfl, by rw [hU], by rw [hU]; exact hP.sub isC (fm_of hC), va_K.moved hW.alike C.2.2.2.2.2.1, (hD.sub isC hnC hC).weaken (fun _ _ _ _ => trivial), C.2.2.2.2.2.2.2.1.moved hW.alike, gB_warm hW C.2.2.2.2.2.2.2.2, fun h => (hE h).to hS hU hW (va_free hD hS C.2.2.2.2.2.2.1 isC hC)⟩⟩ rfl hlen hl.1 hst (lv_room hrest) dg hcap) hS (fun q _ h => va_free hD hS C.2.2.2.2.2.2.1 isC hC q h) (va_free hD hS C.2.2.2.2.2.2.1 isC hC) (fun r u t H1 locs1 ht hvm hw9 hB hz1 hk1 hS1 => ?_)
  obtain ⟨hP1, hD1⟩ := hB
  rw [ht] at hP1
  subst hw9
  obtain ⟨hP2, hD2⟩ := va_join hP hD isC isR hC hR hnR hdis hk1 (va_free hD hS C.2.2.2.2.2.2.1 isC hC) hP1 hD1
  exact k u H1 locs1 ls (hw u ▸ hP2) (hw u ▸ hD2) hS1 hl
theorem v_callVl (C : VC p s m args c D d A cc nL own) {y : MethodName} {bb : ByteArray} {nY nA index : Nat} {ret : Option FieldType} {rm : Room} {mc ms : Nat} (F : g_mf y bb nY ret nA) (G : g_mv y) (hlink : Cond.methodLink own index y ∈ gW) {b : Nat} {S : Type} {w1 : S → va_W} {K : Int64} {E : Bool} {wc wr : va_W} {As rest : List Value} (hM : ∀ sz, Met l y (g_wd y bb nY ret) rm (va_Pc (.ref b :: As) (g_pr E D d wc sz)) (q_l D K w1 (va_A wc sz)) mc ms (va_A wc sz)) (hE : E = true → g_ex A s) (q0 : Nat) {ci : Nat} {T : u_T} {N : Nat} {fs : List Value} (he : ws[q0]? = some (b, .inr (ci, fs))) (hci : gCl[ci]? = some (y.cls, T, N)) (isC isR : List Nat) (hC : isC.map (fun i => ws[i]?) = wc.map some) (hR : isR.map (fun i => ws[i]?) = wr.map some) (hnC : va_nd isC = true) (hnR : va_nd isR = true) (hdis : ∀ i ∈ isR, i ∉ isC) (hrm : rm.cells = mc ∧ rm.slots = ms) (hfl : rm.frames + 1 ≤ R.frames ∧ 8 + (nY + 11) + rm.locals ≤ R.locals) (hcap : ck + mc ≤ R.cells ∧ sl + ms ≤ R.slots) (hrest : (rest.map fun v => v.category).sum ≤ 8) {st0 : List Value} (hst : st0 = As.reverse ++ .ref b :: rest) (hlen : As.length = nA) (ws' : S → va_W) (hw : ∀ u, wr ++ w1 u = ws' u) (dg : decode cc pc = .ok (.invokevirtual index, 3)) (k : ∀ u : S, V p l e R s m args below meth c Q D A nL (ws' u) lv (ck + mc) (sl + ms) (pc + 3) (.long K :: rest)) : V p l e R s m args below meth c Q D A nL ws lv ck sl pc st0 := fun H locs ls hP hD hS hl => by
  have cw : CallW R s args own y.cls index y bb nY ret (g_wd y bb nY ret) rm mc ms nA := ⟨callB_of nA C.2.2.2.2.1 (g_goodC F.1) rfl hrm.1 hrm.2 (C.2.2.2.2.1 _ F.2.1) (C.2.2.2.2.1 _ hlink) F.2.2 hfl, C.2.2.2.2.1 _ G.1, C.2.2.2.2.1 _ G.2⟩
  refine va_calll (va_runV (Ts := gW) ⟨C.1, C.2.1, C.2.2.1, C.2.2.2.1, C.2.2.2.2.1⟩ (hM H.size) cw ⟨pr_blind, va_recv C.2.2.2.2.2.1 hP hci he, fun U hU hW => ⟨rfl, by rw [hU], by rw [hU]; exact hP.sub isC (fm_of hC), va_K.moved hW.alike C.2.2.2.2.2.1, (hD.sub isC hnC hC).weaken (fun _ _ _ _ => trivial), C.2.2.2.2.2.2.2.1.moved hW.alike, gB_warm hW C.2.2.2.2.2.2.2.2, fun h => (hE h).to hS hU hW (va_free hD hS C.2.2.2.2.2.2.1 isC hC)⟩⟩ rfl hlen hl.1 hst (lv_room hrest) dg hcap) hS (fun q _ h => va_free hD hS C.2.2.2.2.2.2.1 isC hC q h) (va_free hD hS C.2.2.2.2.2.2.1 isC hC) (fun r u t H1 locs1 ht hvm hw9 hB hz1 hk1 hS1 => ?_)
  obtain ⟨hP1, hD1⟩ := hB
  rw [ht] at hP1
  subst hw9
  obtain ⟨hP2, hD2⟩ := va_join hP hD isC isR hC hR hnR hdis hk1 (va_free hD hS C.2.2.2.2.2.2.1 isC hC) hP1 hD1
  exact k u H1 locs1 ls (hw u ▸ hP2) (hw u ▸ hD2) hS1 hl
theorem v_callSl (C : VC p s m args c D d A cc nL own) {y : MethodName} {bb : ByteArray} {nY nA index : Nat} {ret : Option FieldType} {rm : Room} {mc ms : Nat} (F : g_mf y bb nY ret nA) (hstat : Cond.static y ∈ gW) (hlink : Cond.methodLink own index y ∈ gW) {S : Type} {w1 : S → va_W} {K : Int64} {E : Bool} {wc wr : va_W} {As rest : List Value} (hM : ∀ sz, Met l y (g_wd y bb nY ret) rm (va_Pc As (g_pr E D d wc sz)) (q_l D K w1 (va_A wc sz)) mc ms (va_A wc sz)) (hE : E = true → g_ex A s) (isC isR : List Nat) (hC : isC.map (fun i => ws[i]?) = wc.map some) (hR : isR.map (fun i => ws[i]?) = wr.map some) (hnC : va_nd isC = true) (hnR : va_nd isR = true) (hdis : ∀ i ∈ isR, i ∉ isC) (hrm : rm.cells = mc ∧ rm.slots = ms) (hfl : rm.frames + 1 ≤ R.frames ∧ 8 + (nY + 11) + rm.locals ≤ R.locals) (hcap : ck + mc ≤ R.cells ∧ sl + ms ≤ R.slots) (hrest : (rest.map fun v => v.category).sum ≤ 8) {st0 : List Value} (hst : st0 = As.reverse ++ rest) (hlen : As.length = nA) (ws' : S → va_W) (hw : ∀ u, wr ++ w1 u = ws' u) (dg : decode cc pc = .ok (.invokestatic index, 3)) (k : ∀ u : S, V p l e R s m args below meth c Q D A nL (ws' u) lv (ck + mc) (sl + ms) (pc + 3) (.long K :: rest)) : V p l e R s m args below meth c Q D A nL ws lv ck sl pc st0 := fun H locs ls hP hD hS hl => by
  have cw : CallB R s args own index y bb nY ret (g_wd y bb nY ret) rm mc ms nA ∧ (Cond.static y).before args s = true := ⟨callB_of nA C.2.2.2.2.1 (g_goodC F.1) rfl hrm.1 hrm.2 (C.2.2.2.2.1 _ F.2.1) (C.2.2.2.2.1 _ hlink) F.2.2 hfl, C.2.2.2.2.1 _ hstat⟩
  refine va_calll (va_runS (Ts := gW) ⟨C.1, C.2.1, C.2.2.1, C.2.2.2.1, C.2.2.2.2.1⟩ (hM H.size) cw ⟨pr_blind, fun U hU hW => ⟨rfl, by rw [hU], by rw [hU]; exact hP.sub isC (fm_of hC), va_K.moved hW.alike C.2.2.2.2.2.1, (hD.sub isC hnC hC).weaken (fun _ _ _ _ => trivial), C.2.2.2.2.2.2.2.1.moved hW.alike, gB_warm hW C.2.2.2.2.2.2.2.2, fun h => (hE h).to hS hU hW (va_free hD hS C.2.2.2.2.2.2.1 isC hC)⟩⟩ rfl hlen hl.1 hst (lv_room hrest) dg hcap) hS (fun q _ h => va_free hD hS C.2.2.2.2.2.2.1 isC hC q h) (va_free hD hS C.2.2.2.2.2.2.1 isC hC) (fun r u t H1 locs1 ht hvm hw9 hB hz1 hk1 hS1 => ?_)
  obtain ⟨hP1, hD1⟩ := hB
  rw [ht] at hP1
  subst hw9
  obtain ⟨hP2, hD2⟩ := va_join hP hD isC isR hC hR hnR hdis hk1 (va_free hD hS C.2.2.2.2.2.2.1 isC hC) hP1 hD1
  exact k u H1 locs1 ls (hw u ▸ hP2) (hw u ▸ hD2) hS1 hl
theorem v_callXi (C : VC p s m args c D d A cc nL own) {y : MethodName} {bb : ByteArray} {nY nA index : Nat} {ret : Option FieldType} {rm : Room} {mc ms : Nat} (F : g_mf y bb nY ret nA) (G : g_mv y) (hlink : Cond.methodLink own index y ∈ gW) {b : Nat} {E : Bool} {EX : String} {wc wr : va_W} {As rest : List Value} (hM : ∀ sz, vx_Met l y (g_wd y bb nY ret) rm (va_Pc (.ref b :: As) (g_pr E D d wc sz)) (q_ni (va_A wc sz)) (g_XC EX (va_A wc sz)) mc ms (va_A wc sz)) (hE : E = true → g_ex A s) (q0 : Nat) {ci : Nat} {T : u_T} {N : Nat} {fs : List Value} (he : ws[q0]? = some (b, .inr (ci, fs))) (hci : gCl[ci]? = some (y.cls, T, N)) (isC isR : List Nat) (hC : isC.map (fun i => ws[i]?) = wc.map some) (hR : isR.map (fun i => ws[i]?) = wr.map some) (hnC : va_nd isC = true) (hnR : va_nd isR = true) (hdis : ∀ i ∈ isR, i ∉ isC) (hrm : rm.cells = mc ∧ rm.slots = ms) (hfl : rm.frames + 1 ≤ R.frames ∧ 8 + (nY + 11) + rm.locals ≤ R.locals) (hcap : ck + mc ≤ R.cells ∧ sl + ms ≤ R.slots) (hrest : (rest.map fun v => v.category).sum ≤ 8) {st0 : List Value} (hst : st0 = As.reverse ++ .ref b :: rest) (hlen : As.length = nA) (x : ExceptionTableEntry) (suf : List ExceptionTableEntry) (hsplit : c.exceptionTable.toList = x :: suf) (hx : covers x pc = true) (h0 : x.catchType ≠ 0) (hcl : Cond.classLink own x.catchType EX ∈ gW) (hcast : Cond.castable EX EX ∈ gB) (dg : decode cc pc = .ok (.invokevirtual index, 3)) (k : ∀ q : Nat, V p l e R s m args below meth c Q D A nL wr lv (ck + mc) (sl + ms) x.handlerPc [.ref q]) : V p l e R s m args below meth c Q D A nL ws lv ck sl pc st0 := fun H locs ls hP hD hS hl => by
  have cw : CallW R s args own y.cls index y bb nY ret (g_wd y bb nY ret) rm mc ms nA := ⟨callB_of nA C.2.2.2.2.1 (g_goodC F.1) rfl hrm.1 hrm.2 (C.2.2.2.2.1 _ F.2.1) (C.2.2.2.2.1 _ hlink) F.2.2 hfl, C.2.2.2.2.1 _ G.1, C.2.2.2.2.1 _ G.2⟩
  have hFc := va_free hD hS C.2.2.2.2.2.2.1 isC hC
  refine vx_calli (vx_runV (Ts := gW) ⟨C.1, C.2.1, C.2.2.1, C.2.2.2.1, C.2.2.2.2.1⟩ (hM H.size) cw ⟨pr_blind, va_recv C.2.2.2.2.2.1 hP hci he, fun U hU hW => ⟨rfl, by rw [hU], by rw [hU]; exact hP.sub isC (fm_of hC), va_K.moved hW.alike C.2.2.2.2.2.1, (hD.sub isC hnC hC).weaken (fun _ _ _ _ => trivial), C.2.2.2.2.2.2.2.1.moved hW.alike, gB_warm hW C.2.2.2.2.2.2.2.2, fun h => (hE h).to hS hU hW (va_free hD hS C.2.2.2.2.2.2.1 isC hC)⟩⟩ rfl hlen hl.1 hst (lv_room hrest) dg hcap) hS (fun q _ h => hFc q h) hFc (fun q _ h => hFc q h) (fun E' ce q9 u t H1 locs1 ht hvm hpx hBX hz1 hk1 hS1 hce hcv hcls => ?_) (fun r u t H1 locs1 ht hvm hw hB hz1 hk1 hS1 => hw.elim)
  subst hBX
  have hP0 : va_P D gCl [] H1 := fun k q h => by simp at h
  have hD0 : va_D (va_A wc H.size) [] := ⟨fun i j p q h => by simp at h, fun k q h => by simp at h⟩
  obtain ⟨hP2, hD2⟩ := va_join hP hD isC isR hC hR hnR hdis hk1 hFc hP0 hD0
  rw [List.append_nil] at hP2 hD2
  exact vx_catch C.2.2.2.1 [] x suf hsplit (fun z hz => by cases hz) hx h0 (C.2.2.2.2.1 _ hcl) ((C.2.2.2.2.2.2.2.2 _ hcast).use rfl) hce hcv hcls (k q9 H1 locs1 ls hP2 hD2 hS1 hl)
theorem v_callXl (C : VC p s m args c D d A cc nL own) {y : MethodName} {bb : ByteArray} {nY nA index : Nat} {ret : Option FieldType} {rm : Room} {mc ms : Nat} (F : g_mf y bb nY ret nA) (G : g_mv y) (hlink : Cond.methodLink own index y ∈ gW) {b : Nat} {E : Bool} {EX : String} {wc wr : va_W} {As rest : List Value} (hM : ∀ sz, vx_Met l y (g_wd y bb nY ret) rm (va_Pc (.ref b :: As) (g_pr E D d wc sz)) (q_nl (va_A wc sz)) (g_XC EX (va_A wc sz)) mc ms (va_A wc sz)) (hE : E = true → g_ex A s) (q0 : Nat) {ci : Nat} {T : u_T} {N : Nat} {fs : List Value} (he : ws[q0]? = some (b, .inr (ci, fs))) (hci : gCl[ci]? = some (y.cls, T, N)) (isC isR : List Nat) (hC : isC.map (fun i => ws[i]?) = wc.map some) (hR : isR.map (fun i => ws[i]?) = wr.map some) (hnC : va_nd isC = true) (hnR : va_nd isR = true) (hdis : ∀ i ∈ isR, i ∉ isC) (hrm : rm.cells = mc ∧ rm.slots = ms) (hfl : rm.frames + 1 ≤ R.frames ∧ 8 + (nY + 11) + rm.locals ≤ R.locals) (hcap : ck + mc ≤ R.cells ∧ sl + ms ≤ R.slots) (hrest : (rest.map fun v => v.category).sum ≤ 8) {st0 : List Value} (hst : st0 = As.reverse ++ .ref b :: rest) (hlen : As.length = nA) (x : ExceptionTableEntry) (suf : List ExceptionTableEntry) (hsplit : c.exceptionTable.toList = x :: suf) (hx : covers x pc = true) (h0 : x.catchType ≠ 0) (hcl : Cond.classLink own x.catchType EX ∈ gW) (hcast : Cond.castable EX EX ∈ gB) (dg : decode cc pc = .ok (.invokevirtual index, 3)) (k : ∀ q : Nat, V p l e R s m args below meth c Q D A nL wr lv (ck + mc) (sl + ms) x.handlerPc [.ref q]) : V p l e R s m args below meth c Q D A nL ws lv ck sl pc st0 := fun H locs ls hP hD hS hl => by
  have cw : CallW R s args own y.cls index y bb nY ret (g_wd y bb nY ret) rm mc ms nA := ⟨callB_of nA C.2.2.2.2.1 (g_goodC F.1) rfl hrm.1 hrm.2 (C.2.2.2.2.1 _ F.2.1) (C.2.2.2.2.1 _ hlink) F.2.2 hfl, C.2.2.2.2.1 _ G.1, C.2.2.2.2.1 _ G.2⟩
  have hFc := va_free hD hS C.2.2.2.2.2.2.1 isC hC
  refine vx_calll (vx_runV (Ts := gW) ⟨C.1, C.2.1, C.2.2.1, C.2.2.2.1, C.2.2.2.2.1⟩ (hM H.size) cw ⟨pr_blind, va_recv C.2.2.2.2.2.1 hP hci he, fun U hU hW => ⟨rfl, by rw [hU], by rw [hU]; exact hP.sub isC (fm_of hC), va_K.moved hW.alike C.2.2.2.2.2.1, (hD.sub isC hnC hC).weaken (fun _ _ _ _ => trivial), C.2.2.2.2.2.2.2.1.moved hW.alike, gB_warm hW C.2.2.2.2.2.2.2.2, fun h => (hE h).to hS hU hW (va_free hD hS C.2.2.2.2.2.2.1 isC hC)⟩⟩ rfl hlen hl.1 hst (lv_room hrest) dg hcap) hS (fun q _ h => hFc q h) hFc (fun q _ h => hFc q h) (fun E' ce q9 u t H1 locs1 ht hvm hpx hBX hz1 hk1 hS1 hce hcv hcls => ?_) (fun r u t H1 locs1 ht hvm hw hB hz1 hk1 hS1 => hw.elim)
  subst hBX
  have hP0 : va_P D gCl [] H1 := fun k q h => by simp at h
  have hD0 : va_D (va_A wc H.size) [] := ⟨fun i j p q h => by simp at h, fun k q h => by simp at h⟩
  obtain ⟨hP2, hD2⟩ := va_join hP hD isC isR hC hR hnR hdis hk1 hFc hP0 hD0
  rw [List.append_nil] at hP2 hD2
  exact vx_catch C.2.2.2.1 [] x suf hsplit (fun z hz => by cases hz) hx h0 (C.2.2.2.2.1 _ hcl) ((C.2.2.2.2.2.2.2.2 _ hcast).use rfl) hce hcv hcls (k q9 H1 locs1 ls hP2 hD2 hS1 hl)
theorem v_return (C : VC p s m args c D d A cc nL own) {S : Type} {w1 : S → va_W} {mc ms : Nat} (u : S) (hr : meth.sig.returnType = none) (hlocks : meth.locks = false) (is : List Nat) (hn : va_nd is = true) (hsub : is.map (fun i => ws[i]?) = (w1 u).map some) (hc : ck ≤ mc) (hs : sl ≤ ms) (dg : decode cc pc = .ok (.return_, 1)) : V p l e R s m args below meth c (MQ below (q_v D w1 A) args s mc ms A) D A nL ws lv ck sl pc [] := fun H locs ls hP hD hS hl => W.widen hc hs (W.vret C.1 C.2.1 hr (fun t ht hW => ⟨⟨u, rfl, trivial, by rw [ht]; exact hP.sub is (fm_of hsub), hD.sub is hn hsub⟩, hS.F ht⟩) hS.2.2 dg hlocks)
theorem v_ireturn (C : VC p s m args c D d A cc nL own) {S : Type} {w1 : S → va_W} {mc ms : Nat} (u : S) {K : Int32} (hr : meth.sig.returnType = some .int) (hlocks : meth.locks = false) (is : List Nat) (hn : va_nd is = true) (hsub : is.map (fun i => ws[i]?) = (w1 u).map some) (hc : ck ≤ mc) (hs : sl ≤ ms) (dg : decode cc pc = .ok (.ireturn, 1)) : V p l e R s m args below meth c (MQ below (q_i D K w1 A) args s mc ms A) D A nL ws lv ck sl pc [.int K] := fun H locs ls hP hD hS hl => W.widen hc hs (W.iret C.1 C.2.1 hr (fun t ht hW => ⟨⟨K, u, rfl, rfl, by rw [ht]; exact hP.sub is (fm_of hsub), hD.sub is hn hsub⟩, hS.F ht⟩) hS.2.2 dg hlocks)
theorem v_zreturn (C : VC p s m args c D d A cc nL own) {S : Type} {w1 : S → va_W} {mc ms : Nat} (u : S) {K : Int32} {ty : FieldType} (hr : meth.sig.returnType = some ty) (hnar : narrow ty (.int K) = .int K) (hlocks : meth.locks = false) (is : List Nat) (hn : va_nd is = true) (hsub : is.map (fun i => ws[i]?) = (w1 u).map some) (hc : ck ≤ mc) (hs : sl ≤ ms) (dg : decode cc pc = .ok (.ireturn, 1)) : V p l e R s m args below meth c (MQ below (q_i D K w1 A) args s mc ms A) D A nL ws lv ck sl pc [.int K] := fun H locs ls hP hD hS hl => W.widen hc hs (W.zret C.1 C.2.1 hr hnar (fun t ht hW => ⟨⟨K, u, rfl, rfl, by rw [ht]; exact hP.sub is (fm_of hsub), hD.sub is hn hsub⟩, hS.F ht⟩) hS.2.2 dg hlocks)
theorem v_lreturn (C : VC p s m args c D d A cc nL own) {S : Type} {w1 : S → va_W} {mc ms : Nat} (u : S) {K : Int64} (hr : meth.sig.returnType = some .long) (hlocks : meth.locks = false) (is : List Nat) (hn : va_nd is = true) (hsub : is.map (fun i => ws[i]?) = (w1 u).map some) (hc : ck ≤ mc) (hs : sl ≤ ms) (dg : decode cc pc = .ok (.lreturn, 1)) : V p l e R s m args below meth c (MQ below (q_l D K w1 A) args s mc ms A) D A nL ws lv ck sl pc [.long K] := fun H locs ls hP hD hS hl => W.widen hc hs (W.lret C.1 C.2.1 hr (fun t ht hW => ⟨⟨K, u, rfl, rfl, by rw [ht]; exact hP.sub is (fm_of hsub), hD.sub is hn hsub⟩, hS.F ht⟩) hS.2.2 dg hlocks)
theorem gB_tab : ∀ w ∈ gB, w.onTables = true := by decide +kernel
def g_xf (ic : Nat) (EX : String) : Prop := Bundle.fit EX = true ∧ (∀ n ∈ g_nm, Bundle.fit n = true) ∧ (∀ w ∈ (vx_atS RX11 ic EX g_nm).filter goodWord, w ∈ gW) ∧ (∀ w ∈ (vx_atS RX11 ic EX g_nm).filter (fun w => !goodWord w), w ∈ gB) ∧ ∀ w ∈ vx_atS RX11 ic EX g_nm, vx_ot w = true
theorem v_throwS (C : VC p s m args c D d A cc nL RX11) {Qc : Array Value → State → Outcome → State → Prop} {mc ms ik is ic : Nat} {EX text : String} (hlf : l.stackTraces = false) (hex : g_ex A s) (X : g_xf ic EX) (hk : Cond.classLink RX11 ik EX ∈ gW) (hini : Cond.initialized EX ∈ gW) (htx : (is, text) ∈ gTx) (hlocks : meth.locks = false) (hout : ∀ x ∈ c.exceptionTable.toList, False) (d0 : decode cc pc = .ok (.new ik, 3)) (d3 : decode cc (pc + 3) = .ok (.dup, 1)) (d4 : decode cc (pc + 4) = .ok (.ldc is, 2)) (d6 : decode cc (pc + 6) = .ok (.invokespecial ic, 3)) (d9 : decode cc (pc + 9) = .ok (.athrow, 1)) (hfr : 5 < R.frames) (hlo : (st.map fun v => v.category).sum + 82 ≤ R.locals) (hcap : ck + 1 ≤ R.cells ∧ sl + 6 ≤ R.slots) (hc : ck + 1 ≤ mc) (hs : sl + 6 ≤ ms) : V p l e R s m args below meth c (vx_MQ below Qc (g_XC EX A) args s mc ms A) D A nL ws lv ck sl pc st := fun H locs ls hP hD hS hl => by
  obtain ⟨h1, h2, h4⟩ := hex
  obtain ⟨sa, hsa⟩ := h4 _ htx
  have hat : ∀ w ∈ vx_atS RX11 ic EX g_nm, w.before args s = true := vx_hat (B := gB) (fun w hw => C.2.2.2.2.1 w (X.2.2.1 w hw)) X.2.2.2.1 (fun w hw => (C.2.2.2.2.2.2.2.2 w hw).use (gB_tab w hw))
  exact vx_throwS (names := g_nm) C.1 C.2.1 hlf C.2.2.2.1 X.1 X.2.1 (C.2.2.2.2.1 _ hk) (C.2.2.2.2.1 _ hini) hsa hat (fun w hw => (List.mem_cons.mp hw).elim (fun e => by rw [e]; rfl) (fun hw => (List.mem_cons.mp hw).elim (fun e => by rw [e]; rfl) (X.2.2.2.2 w))) h1 h2 hS (hl.1.trans C.2.2.1.symm) d0 d3 d4 d6 d9 (fun x hx => (hout x hx).elim) (by show 2 + 3 < R.frames; exact hfr) (by show _ + (13 * (2 + 1) + 43) ≤ _; exact hlo) hcap.1 hcap.2 hlocks (fun t hvm hz ho _ _ => ⟨(), trivial, rfl, ⟨Nat.le_trans hS.1 hz, fun q h1 h2 => (ho q (Nat.lt_of_lt_of_le h1 hS.1)).trans (hS.2.1 q h1 h2)⟩⟩) hS.2.2 hc hs
theorem v_throwSW (C : VC p s m args c D d A cc nL RX11) {Qc : Array Value → State → Outcome → State → Prop} {mc ms ik is ic : Nat} {EX text : String} (hlf : l.stackTraces = false) (hex : g_ex A s) (X : g_xf ic EX) (hk : Cond.classLink RX11 ik EX ∈ gW) (hini : Cond.initialized EX ∈ gW) (htx : (is, text) ∈ gTx) (hlocks : meth.locks = false) (hout : ∀ x ∈ c.exceptionTable.toList, False) (d0 : decode cc pc = .ok (.new ik, 3)) (d3 : decode cc (pc + 3) = .ok (.dup, 1)) (d4 : decode cc (pc + 4) = .ok (.ldc_w is, 3)) (d6 : decode cc (pc + 7) = .ok (.invokespecial ic, 3)) (d9 : decode cc (pc + 10) = .ok (.athrow, 1)) (hfr : 5 < R.frames) (hlo : (st.map fun v => v.category).sum + 82 ≤ R.locals) (hcap : ck + 1 ≤ R.cells ∧ sl + 6 ≤ R.slots) (hc : ck + 1 ≤ mc) (hs : sl + 6 ≤ ms) : V p l e R s m args below meth c (vx_MQ below Qc (g_XC EX A) args s mc ms A) D A nL ws lv ck sl pc st := fun H locs ls hP hD hS hl => by
  obtain ⟨h1, h2, h4⟩ := hex
  obtain ⟨sa, hsa⟩ := h4 _ htx
  have hat : ∀ w ∈ vx_atS RX11 ic EX g_nm, w.before args s = true := vx_hat (B := gB) (fun w hw => C.2.2.2.2.1 w (X.2.2.1 w hw)) X.2.2.2.1 (fun w hw => (C.2.2.2.2.2.2.2.2 w hw).use (gB_tab w hw))
  exact vx_throwSW (names := g_nm) C.1 C.2.1 hlf C.2.2.2.1 X.1 X.2.1 (C.2.2.2.2.1 _ hk) (C.2.2.2.2.1 _ hini) hsa hat (fun w hw => (List.mem_cons.mp hw).elim (fun e => by rw [e]; rfl) (fun hw => (List.mem_cons.mp hw).elim (fun e => by rw [e]; rfl) (X.2.2.2.2 w))) h1 h2 hS (hl.1.trans C.2.2.1.symm) d0 d3 d4 d6 d9 (fun x hx => (hout x hx).elim) (by show 2 + 3 < R.frames; exact hfr) (by show _ + (13 * (2 + 1) + 43) ≤ _; exact hlo) hcap.1 hcap.2 hlocks (fun t hvm hz ho _ _ => ⟨(), trivial, rfl, ⟨Nat.le_trans hS.1 hz, fun q h1 h2 => (ho q (Nat.lt_of_lt_of_le h1 hS.1)).trans (hS.2.1 q h1 h2)⟩⟩) hS.2.2 hc hs
end VB
section VM
variable {l : Launch} {D : va_G} {d : Nat → ClassId} {y : MethodName} {rm : Room} {av : List Value} {W0 : va_W} {mc ms : Nat} {cc : ByteArray} {maxL : Nat} {ret : Option FieldType} {E : Bool}
theorem s_met {Qf : (Nat → Prop) → Array Value → State → Outcome → State → Prop} (hy : plainName y.cls = true) (hlen : (lg_sl av).length ≤ maxL) (lv0 : List (Nat × Value)) (hlv : lv_args 0 av = lv0)
    (body : ∀ (p : Program) (e : Env) (s : State) (m : MethodId) (below : List Frame) (meth : Method) (c : Code) (A : Nat → Prop), VC p s m av.toArray c D d A cc maxL y.cls → meth.sig.returnType = ret → meth.locks = false → meth.name = y.name → (E = true → g_ex A s) → V p l e rm s m av.toArray below meth c (MQ below (Qf A) av.toArray s mc ms A) D A maxL W0 lv0 0 0 0 []) :
    ∀ sz, Met l y (g_wd y cc maxL ret) rm (va_Pc av (g_pr E D d W0 sz)) (Qf (va_A W0 sz)) mc ms (va_A W0 sz) := by
  intro sz
  refine Met.ofW (cc := cc) (maxL := maxL) (ret := ret) hy rfl ?_
  intro p e s m args below meth c s₁ B hml hv
  obtain ⟨rfl, hsz, hP, hK, hD0, hO, hB, hE⟩ := hv
  subst hsz
  rw [lg_entry_eq]
  have hts := atoms_spec (ws := g_wd y cc maxL ret) B.pre
  exact body p e s m below meth c (va_A W0 s.heap.size) ⟨B.exec, B.bytes, hml, findClass_of_methodNamed B.named, fun w hw => hts w (List.mem_cons_of_mem _ hw), hK, fun q h => Or.inr h, hO, hB⟩ B.returns B.notSynchronized (name_of_methodNamed B.named B.method).1 hE s.heap [] _ hP hD0.self va_S.rf (hlv ▸ lv_entry av hlen)
/-- a body that throws -/
theorem s_metX {Qf : (Nat → Prop) → Array Value → State → Outcome → State → Prop} {XF : (Nat → Prop) → String → State → State → Prop} (hy : plainName y.cls = true) (hlen : (lg_sl av).length ≤ maxL) (lv0 : List (Nat × Value)) (hlv : lv_args 0 av = lv0)
    (body : ∀ (p : Program) (e : Env) (s : State) (m : MethodId) (below : List Frame) (meth : Method) (c : Code) (A : Nat → Prop), VC p s m av.toArray c D d A cc maxL y.cls → meth.sig.returnType = ret → meth.locks = false → (∀ x ∈ c.exceptionTable.toList, False) → (E = true → g_ex A s) → V p l e rm s m av.toArray below meth c (vx_MQ below (Qf A) (XF A) av.toArray s mc ms A) D A maxL W0 lv0 0 0 0 []) :
    ∀ sz, vx_Met l y (g_wd y cc maxL ret) rm (va_Pc av (g_pr E D d W0 sz)) (Qf (va_A W0 sz)) (XF (va_A W0 sz)) mc ms (va_A W0 sz) := by
  intro sz
  refine vx_ofW (cc := cc) (maxL := maxL) (ret := ret) hy rfl ?_
  intro p e s m args below meth c s₁ B hml hno hv
  obtain ⟨rfl, hsz, hP, hK, hD0, hO, hB, hE⟩ := hv
  subst hsz
  rw [lg_entry_eq]
  have hts := atoms_spec (ws := g_wd y cc maxL ret) B.pre
  exact body p e s m below meth c (va_A W0 s.heap.size) ⟨B.exec, B.bytes, hml, findClass_of_methodNamed B.named, fun w hw => hts w (List.mem_cons_of_mem _ hw), hK, fun q h => Or.inr h, hO, hB⟩ B.returns B.notSynchronized hno hE s.heap [] _ hP hD0.self va_S.rf (hlv ▸ lv_entry av hlen)
/-- a body with a table that returns -/
theorem s_metH {hh : List (Nat × Nat × Nat × Nat)} {Qf : (Nat → Prop) → Array Value → State → Outcome → State → Prop} (hy : plainName y.cls = true) (hlen : (lg_sl av).length ≤ maxL) (lv0 : List (Nat × Value)) (hlv : lv_args 0 av = lv0)
    (body : ∀ (p : Program) (e : Env) (s : State) (m : MethodId) (below : List Frame) (meth : Method) (c : Code) (A : Nat → Prop), VC p s m av.toArray c D d A cc maxL y.cls → meth.sig.returnType = ret → meth.locks = false → c.exceptionTable.toList = tableOf hh → (E = true → g_ex A s) → V p l e rm s m av.toArray below meth c (MQ below (Qf A) av.toArray s mc ms A) D A maxL W0 lv0 0 0 0 []) :
    ∀ sz, Met l y (g_wh y cc maxL ret hh) rm (va_Pc av (g_pr E D d W0 sz)) (Qf (va_A W0 sz)) mc ms (va_A W0 sz) := by
  intro sz
  refine MetFree.of_bodyS (code := cc) (maxLocals := maxL) (ret := ret) hy ?_ ?_
  · intro args s m h hn
    obtain ⟨m9, meth, c, hn9, h1, h2, h3, h4, -, h5, h6, -⟩ := Cond.codeWith_spec (atoms_spec (ws := g_wh y cc maxL ret hh) h _ List.mem_cons_self)
    cases hn.symm.trans hn9
    exact ⟨meth, c, h1, h2, h3, h4, h5, h6⟩
  · intro p e s m args below meth c s₁ B hml hP _
    obtain ⟨rfl, hsz, hP, hK, hD0, hO, hB, hE⟩ := hP
    subst hsz
    have hh0 : s₁.heap = s.heap := by rw [B.state]; rfl
    have hts := atoms_spec (ws := g_wh y cc maxL ret hh) B.pre
    have htab := vx_table (x := y) B (hts _ List.mem_cons_self)
    have K := body p e s m below meth c (va_A W0 s.heap.size) ⟨B.exec, B.bytes, hml, findClass_of_methodNamed B.named, fun w hw => hts w (List.mem_cons_of_mem _ hw), hK, fun q h => Or.inr h, hO, hB⟩ B.returns B.notSynchronized htab hE s.heap [] _ hP hD0.self va_S.rf (hlv ▸ lv_entry av hlen)
    rw [← lg_entry_eq] at K
    obtain ⟨t, a1, o, b1, b2, b3, b4⟩ := K s₁ hh0 (Stand.of_body B)
    exact ⟨t, o, a1, b1, b2, b3, b4⟩
end VM
end
section
section XA
abbrev iv (x : Int) : Value := .int (Int32.ofInt x)
def fo0 (K : Nat → Nat) (m : Nat → Int) : List Value := [.ref (K 1), .ref (K 2), .ref (K 3), .ref (K 4), .ref (K 5), .ref (K 6), .ref (K 100), .ref (K 101), .ref (K 102), .ref (K 89), iv (m 10)]
def fo1 (K : Nat → Nat) (m : Nat → Int) : List Value := [.ref (K 8), .ref (K 9), .ref (K 10), .ref (K 11), .ref (K 12), .ref (K 13), .ref (K 14), iv (m 7), iv (m 8), iv (m 9), iv (m 10)]
def fo2 (K : Nat → Nat) (m : Nat → Int) : List Value := [.ref (K 1), .ref (K 23), .ref (K 25), .ref (K 27), .ref (K 29), .ref (K 31), .ref (K 33), .ref (K 103), iv (m 8), iv (m 9), iv (m 10), iv (m 11), iv (m 12)]
def fo3 (K : Nat → Nat) (m : Nat → Int) : List Value := [.ref (K 2), .ref (K 35), .ref (K 37), .ref (K 39), .ref (K 41), .ref (K 21), iv (m 6)]
def fo4 (K : Nat → Nat) (m : Nat → Int) : List Value := [.ref (K 1), .ref (K 43), .ref (K 45), .ref (K 47), .ref (K 49), .ref (K 51), .ref (K 53), .ref (K 55), .ref (K 57), .ref (K 59), .ref (K 61), .ref (K 63), .ref (K 65), .ref (K 67), .ref (K 69), iv (m 15), iv (m 16), iv (m 17), iv (m 18), iv (m 19)]
def fo5 (K : Nat → Nat) (m : Nat → Int) : List Value := [.ref (K 1), .ref (K 2), .ref (K 3), .ref (K 4), .ref (K 7), .ref (K 15), .ref (K 16), iv (m 7), .ref (K 104), .ref (K 105), iv (m 10), .ref (K 17), .ref (K 18), iv (m 13), .ref (K 19), .ref (K 20), .ref (K 87), iv (m 17)]
def fo6 (K : Nat → Nat) (m : Nat → Int) : List Value := [.ref (K 1), .ref (K 2), .ref (K 22), iv (m 3), iv (m 4), iv (m 5), iv (m 6), iv (m 7), iv (m 8), iv (m 9), .ref (K 106), .ref (K 107), .ref (K 108), .ref (K 109), iv (m 14), .ref (K 110), .ref (K 111), .ref (K 112), iv (m 18)]
def fo7 (K : Nat → Nat) (m : Nat → Int) : List Value := [.ref (K 2), .ref (K 3), .ref (K 71), .ref (K 73), .ref (K 75), .ref (K 77), .ref (K 79), .ref (K 81), .ref (K 83), .ref (K 85), iv (m 10)]
def nbR (r : Nat) : Nat := [513, 1537, 513, 513, 513, 33, 513, 129, 129, 129, 129, 129, 385, 129, 129, 385, 129, 129, 129, 129, 129, 129, 129, 129, 129, 129, 129, 129, 129, 385, 17, 129, 513, 129].getD r 0
def we (K : Nat → Nat) (d : Nat → ClassId) (B : Nat → Nat → Option Nat) (m : Nat → Int) : Nat → va_E
  | 0 => .inr (11, fo0 K m)
  | 1 => .inr (7, fo1 K m)
  | 2 => .inr (8, fo2 K m)
  | 3 => .inr (10, fo3 K m)
  | 4 => .inr (2, fo4 K m)
  | 5 => .inr (9, fo5 K m)
  | 6 => .inr (5, fo6 K m)
  | 7 => .inr (1, fo7 K m)
  | 8 => .inl (d 1, 192, .inl (fun i => Int32.ofInt (m i)))
  | 9 => .inl (d 0, 24, .inl (fun i => Int32.ofInt (m i)))
  | 10 => .inl (d 0, 24, .inl (fun i => Int32.ofInt (m i)))
  | 11 => .inl (d 0, 24, .inl (fun i => Int32.ofInt (m i)))
  | 12 => .inl (d 0, 24, .inl (fun i => Int32.ofInt (m i)))
  | 13 => .inl (d 0, 24, .inl (fun i => Int32.ofInt (m i)))
  | 14 => .inl (d 2, 24, .inl (fun i => Int32.ofInt (m i)))
  | 15 => .inl (d 0, 30, .inl (fun i => Int32.ofInt (m i)))
  | 16 => .inl (d 0, 30, .inl (fun i => Int32.ofInt (m i)))
  | 17 => .inl (d 0, 8, .inl (fun i => Int32.ofInt (m i)))
  | 18 => .inl (d 0, 8, .inl (fun i => Int32.ofInt (m i)))
  | 19 => .inl (d 0, 30, .inl (fun i => Int32.ofInt (m i)))
  | 20 => .inl (d 0, 30, .inl (fun i => Int32.ofInt (m i)))
  | 21 => .inl (d 0, 256, .inl (fun i => Int32.ofInt (m i)))
  | 22 => .inl (d 1, 400, .inl (fun i => Int32.ofInt (m i)))
  | j + 23 => if j % 2 = 0 then .inr (6, [.ref (K (j + 24))]) else .inl (d 4, nbR (j / 2), .inr (.inr (.inr (.inr (B (j / 2))))))
def BA (LB : g_B) (r b : Nat) : Option Nat := (LB.find? (fun q => q.1 == r && q.2.1 == b)).map (fun q => q.2.2)
def bl (d : Nat → ClassId) (M : g_M) (LB : g_B) : va_W := LB.map (fun q => (q.2.2, .inl (d 0, 1024, .inl (fun i => Int32.ofInt (if i < 1024 then M q.1 (1024 * q.2.1 + i) else 0)))))
def fx (K : Nat → Nat) (d : Nat → ClassId) (M : g_M) (LB : g_B) : va_W := (List.range 91).map (fun j => (K j, we K d (BA LB) (M (40 + j)) j))
def wd (K : Nat → Nat) (d : Nat → ClassId) (L : va_W) (M : g_M) (LB : g_B) : va_W := fx K d M LB ++ (L ++ bl d M LB)
def g_wf (M : g_M) (LB : g_B) : Prop := (∀ q ∈ LB, q.1 < 34 ∧ q.2.1 < capB q.1) ∧ (LB.map (fun q => 64 * q.1 + q.2.1)).Nodup ∧ (∀ r i, r < 34 → BA LB r (i / 1024) = none → M r i = 0) ∧ 0 ≤ M 99 0 ∧ M 99 0 ≤ 1000
def nC (M : g_M) (LB : g_B) : Int := LB.length + M 99 0
def nS (M : g_M) (LB : g_B) : Int := 1024 * LB.length + 6 * M 99 0
def cC (M : g_M) (LB : g_B) : Nat := (3176 - nC M LB).toNat
def cS (M : g_M) (LB : g_B) : Nat := (2234224 - nS M LB).toNat
theorem nodup_len : ∀ (n : Nat) (l : List Nat), l.Nodup → (∀ x ∈ l, x < n) → l.length ≤ n
  | 0, [], _, _ => Nat.le_refl _
  | 0, x :: l, _, h => absurd (h x List.mem_cons_self) (Nat.not_lt_zero _)
  | n + 1, l, hn, h => by
    have h1 := nodup_len n (l.erase n) (hn.erase n) (fun x hx => by
      have h2 := (List.Nodup.mem_erase_iff hn).mp hx
      have h3 := h x h2.2
      have h4 := h2.1
      omega)
    rw [List.length_erase] at h1
    split at h1 <;> omega
theorem capB_le (r : Nat) : capB r ≤ 64 := by
  unfold capB
  split
  · decide
  · split <;> decide
theorem g_wf.len {M : g_M} {LB : g_B} (h : g_wf M LB) : LB.length ≤ 2176 := by
  have h1 := nodup_len 2176 _ h.2.1 (fun x hx => by
    obtain ⟨q, hq, rfl⟩ := List.mem_map.mp hx
    have h2 := h.1 q hq
    have h3 := capB_le q.1
    omega)
  simpa using h1
theorem g_wf.cap {M : g_M} {LB : g_B} (h : g_wf M LB) : 0 ≤ nC M LB ∧ nC M LB ≤ 3176 ∧ 0 ≤ nS M LB ∧ nS M LB ≤ 2234224 := by
  have h1 := h.len
  have h2 := h.2.2.2
  unfold nC nS
  omega
theorem fx_at (K : Nat → Nat) (d : Nat → ClassId) (L : va_W) (M : g_M) (LB : g_B) {j : Nat} (hj : j < 91) : (wd K d L M LB)[j]? = some (K j, we K d (BA LB) (M (40 + j)) j) := by
  unfold wd fx
  rw [List.getElem?_append_left (by simpa using hj), List.getElem?_map, List.getElem?_range hj]
  rfl
theorem fx_len (K : Nat → Nat) (d : Nat → ClassId) (M : g_M) (LB : g_B) : (fx K d M LB).length = 91 := by simp [fx]
theorem L_at (K : Nat → Nat) (d : Nat → ClassId) (L : va_W) (M : g_M) (LB : g_B) {j : Nat} (hj : j < L.length) : (wd K d L M LB)[91 + j]? = L[j]? := by
  unfold wd
  rw [List.getElem?_append_right (by rw [fx_len]; omega), fx_len, Nat.add_sub_cancel_left, List.getElem?_append_left hj]
theorem bl_at (K : Nat → Nat) (d : Nat → ClassId) (L : va_W) (M : g_M) (LB : g_B) (i : Nat) : (wd K d L M LB)[91 + (L.length + i)]? = (bl d M LB)[i]? := by
  unfold wd
  rw [List.getElem?_append_right (by rw [fx_len]; omega), fx_len, Nat.add_sub_cancel_left, List.getElem?_append_right (by omega), Nat.add_sub_cancel_left]
theorem we_row {K : Nat → Nat} {d : Nat → ClassId} {B : Nat → Nat → Option Nat} {m : Nat → Int} {r : Nat} : we K d B m (23 + 2 * r) = .inr (6, [.ref (K (24 + 2 * r))]) := by
  rw [show 23 + 2 * r = 2 * r + 23 by omega]
  show (if (2 * r) % 2 = 0 then _ else _) = _
  rw [if_pos (by omega), show 2 * r + 24 = 24 + 2 * r by omega]
theorem we_out {K : Nat → Nat} {d : Nat → ClassId} {B : Nat → Nat → Option Nat} {m : Nat → Int} {r : Nat} : we K d B m (24 + 2 * r) = .inl (d 4, nbR r, .inr (.inr (.inr (.inr (B r))))) := by
  rw [show 24 + 2 * r = (2 * r + 1) + 23 by omega]
  show (if (2 * r + 1) % 2 = 0 then _ else _) = _
  rw [if_neg (by omega), show (2 * r + 1) / 2 = r by omega]
/-- a cell of the fixed part is set anew -/
theorem wd_set {K : Nat → Nat} {d : Nat → ClassId} {L : va_W} {M M' : g_M} {LB : g_B} {j : Nat} {x : va_E} (hj : j < 91) (hx : we K d (BA LB) (M' (40 + j)) j = x) (ho : ∀ a, a ≠ 40 + j → M' a = M a) (hb : ∀ q ∈ LB, q.1 < 34) : (wd K d L M LB).set j (K j, x) = wd K d L M' LB := by
  unfold wd
  rw [List.set_append_left _ _ (by rw [fx_len]; exact hj)]
  have h1 : (fx K d M LB).set j (K j, x) = fx K d M' LB := by
    refine List.ext_getElem? (fun i => ?_)
    by_cases hi : i < 91
    · have e0 : ∀ N : g_M, (fx K d N LB)[i]? = some (K i, we K d (BA LB) (N (40 + i)) i) := fun N => by
        unfold fx
        rw [List.getElem?_map, List.getElem?_range hi]
        rfl
      by_cases hij : i = j
      · subst hij
        rw [List.getElem?_set_self (by rw [fx_len]; exact hi), e0, hx]
      · rw [List.getElem?_set_ne (Ne.symm hij), e0, e0, ho (40 + i) (by omega)]
    · rw [List.getElem?_eq_none (by rw [List.length_set, fx_len]; omega), List.getElem?_eq_none (by rw [fx_len]; omega)]
  have h2 : bl d M LB = bl d M' LB := by
    unfold bl
    refine List.map_congr_left (fun q hq => ?_)
    have h3 := hb q hq
    rw [ho q.1 (by omega)]
  rw [h1, h2]
theorem up_self (M : g_M) (a i : Nat) (v : Int) : up M a i v a i = v := by simp [up]
theorem up_ne {M : g_M} {a i b : Nat} {v : Int} (h : b ≠ a) : up M a i v b = M b := by
  funext j
  simp [up, h]
theorem up_row (M : g_M) (a i : Nat) (v : Int) : up M a i v a = fun j => if j = i then v else M a j := by
  funext j
  simp [up]
theorem ofInt_toInt (x : Int32) : Int32.ofInt x.toInt = x := Int32.ofInt_toInt x
theorem toInt_ofInt (x : Int) : (Int32.ofInt x).toInt = bm x := Int32.toInt_ofInt
theorem i_eq (x y : Int) : Int32.ofInt x = Int32.ofInt y ↔ bm x = bm y := by rw [← Int32.toInt_inj, toInt_ofInt, toInt_ofInt]
theorem i_lt (x y : Int) : Int32.ofInt x < Int32.ofInt y ↔ bm x < bm y := by rw [Int32.lt_iff_toInt_lt, toInt_ofInt, toInt_ofInt]
theorem i_ge (x y : Int) : Int32.ofInt y ≤ Int32.ofInt x ↔ ¬ bm x < bm y := by rw [Int32.le_iff_toInt_le, toInt_ofInt, toInt_ofInt]; omega
theorem i_zero : (0 : Int32) = Int32.ofInt 0 := by decide
theorem bm_zero : bm 0 = 0 := by decide
theorem bm_lt (x : Int) : -2147483648 ≤ bm x ∧ bm x < 2147483648 := by
  unfold bm
  have h1 := Int.le_bmod (x := x) (m := 4294967296) (by decide)
  have h2 := Int.bmod_lt (x := x) (m := 4294967296) (by decide)
  omega
theorem i_in {i : Int} {n : Nat} (h : inI i n) : vp_in (Int32.ofInt i) n := by
  unfold vp_in
  have h1 := h.1
  have h2 := h.2
  intro hh
  rcases hh with hh | hh
  · rw [i_zero, i_lt, bm_zero] at hh
    omega
  · rw [show (Int32.ofInt i).toNatClampNeg = (bm i).toNat by rw [← toInt_ofInt]; rfl] at hh
    omega
theorem i_nat (i : Int) : (Int32.ofInt i).toNatClampNeg = (bm i).toNat := by rw [← toInt_ofInt]; rfl
theorem i_bool {v : Int} (h : isB v) : narrow .boolean (iv v) = iv v ∧ fits .boolean (iv v) = true := by
  rcases h with rfl | rfl <;> exact ⟨by decide +kernel, by decide +kernel⟩
theorem i_byte {v : Int} (h : isY v) : narrow .byte (iv v) = iv v := by
  show Value.int (Int32.ofInt v).toInt8.toInt32 = Value.int (Int32.ofInt v)
  congr 1
  rw [← Int32.toInt_inj, Int8.toInt_toInt32, Int32.toInt_toInt8, toInt_ofInt]
  have h1 : bm v = v := by unfold bm; exact Int.bmod_eq_of_le (by have := h.1; omega) (by have := h.2; omega)
  rw [h1]
  exact Int.bmod_eq_of_le (by have := h.1; omega) (by have := h.2; omega)
end XA
section XB
def XH (D : va_G) (d : Nat → ClassId) (K : Nat → Nat) (A : Nat → Prop) (s : State) (zc zs : Int) (L : va_W) (M : g_M) (LB : g_B) (H : Heap) (locs : List Loc) : Prop :=
  g_wf M LB ∧ va_P D gCl (wd K d L M LB) H ∧ va_D A (wd K d L M LB) ∧ va_S A s.heap H locs ∧ (H.size : Int) ≤ zc + nC M LB ∧ (TOT H : Int) ≤ zs + nS M LB
def X (p : Program) (l : Launch) (e : Env) (R : Room) (s : State) (m : MethodId) (args : Array Value) (below : List Frame) (meth : Method) (c : Code) (Q : State → Prop) (D : va_G) (d : Nat → ClassId) (K : Nat → Nat) (A : Nat → Prop) (nL : Nat) (zc zs : Int) (L : va_W) (M : g_M) (lv : List (Nat × Value)) (pc : Nat) (st : List Value) : Prop :=
  ∀ (H : Heap) (locs : List Loc) (ls : Array Slot) (LB : g_B), XH D d K A s zc zs L M LB H locs → lv_has ls nL lv → W p l e R s m args below meth c H locs R.cells R.slots Q (F0 m pc ls st)
def XC (p : Program) (R : Room) (s : State) (m : MethodId) (args : Array Value) (c : Code) (D : va_G) (d : Nat → ClassId) (A : Nat → Prop) (cc : ByteArray) (nL : Nat) (own : String) (lvl : Nat) (zc zs : Int) : Prop :=
  VC p s m args c D d A cc nL own ∧ g_ex A s ∧ lvl + 6 ≤ R.frames ∧ 150 + 50 * lvl ≤ R.locals ∧ zc + 3176 - s.heap.size ≤ R.cells ∧ zs + 2234224 - TOT s.heap ≤ R.slots
variable {p : Program} {l : Launch} {e : Env} {R : Room} {s : State} {m : MethodId} {args : Array Value} {below : List Frame} {meth : Method} {c : Code} {Q : State → Prop} {D : va_G} {d : Nat → ClassId} {K : Nat → Nat} {A : Nat → Prop} {cc : ByteArray} {nL lvl : Nat} {own : String} {zc zs : Int} {L : va_W} {M : g_M} {lv : List (Nat × Value)} {pc : Nat} {st : List Value}

theorem x_lv {lv' : List (Nat × Value)} (ks : List Nat) (h : lv_pick lv ks = lv') (k : X p l e R s m args below meth c Q D d K A nL zc zs L M lv' pc st) : X p l e R s m args below meth c Q D d K A nL zc zs L M lv pc st := fun H locs ls LB hh hl => k H locs ls LB hh (lv_sub hl ks h)
theorem x_iconst (C : XC p R s m args c D d A cc nL own lvl zc zs) {n : Int} (dg : decode cc pc = .ok (.iconst n, 1)) (k : X p l e R s m args below meth c Q D d K A nL zc zs L M lv (pc + 1) (iv n :: st)) : X p l e R s m args below meth c Q D d K A nL zc zs L M lv pc st := fun H locs ls LB hh hl => lv_iconst C.1.1 C.1.2.1 dg rfl (k H locs ls LB hh hl)
theorem x_bipush (C : XC p R s m args c D d A cc nL own lvl zc zs) {n : Int} (h1 : -128 ≤ n) (h2 : n ≤ 127) (dg : decode cc pc = .ok (.bipush n, 2)) (k : X p l e R s m args below meth c Q D d K A nL zc zs L M lv (pc + 2) (iv n :: st)) : X p l e R s m args below meth c Q D d K A nL zc zs L M lv pc st := fun H locs ls LB hh hl => lv_bipush C.1.1 C.1.2.1 dg (by
  rw [← Int32.toInt_inj, Int8.toInt_toInt32, Int8.toInt_ofInt, toInt_ofInt]
  unfold bm
  rw [Int.bmod_eq_of_le (by simp only [Int8.size, Int16.size]; omega) (by simp only [Int8.size, Int16.size]; omega)]
  exact (Int.bmod_eq_of_le (by omega) (by omega)).symm) (k H locs ls LB hh hl)
theorem x_sipush (C : XC p R s m args c D d A cc nL own lvl zc zs) {n : Int} (h1 : -32768 ≤ n) (h2 : n ≤ 32767) (dg : decode cc pc = .ok (.sipush n, 3)) (k : X p l e R s m args below meth c Q D d K A nL zc zs L M lv (pc + 3) (iv n :: st)) : X p l e R s m args below meth c Q D d K A nL zc zs L M lv pc st := fun H locs ls LB hh hl => lv_sipush C.1.1 C.1.2.1 dg (by
  rw [← Int32.toInt_inj, Int16.toInt_toInt32, Int16.toInt_ofInt, toInt_ofInt]
  unfold bm
  rw [Int.bmod_eq_of_le (by simp only [Int8.size, Int16.size]; omega) (by simp only [Int8.size, Int16.size]; omega)]
  exact (Int.bmod_eq_of_le (by omega) (by omega)).symm) (k H locs ls LB hh hl)
theorem x_ldc (C : XC p R s m args c D d A cc nL own lvl zc zs) {n : Int} {i : Nat} (hc : Cond.constant own i (Int32.ofInt n) ∈ gW) (dg : decode cc pc = .ok (.ldc i, 2)) (k : X p l e R s m args below meth c Q D d K A nL zc zs L M lv (pc + 2) (iv n :: st)) : X p l e R s m args below meth c Q D d K A nL zc zs L M lv pc st := fun H locs ls LB hh hl => lv_ldc C.1.1 C.1.2.1 C.1.2.2.2.1 (C.1.2.2.2.2.1 _ hc) dg (k H locs ls LB hh hl)
theorem x_iload_n (C : XC p R s m args c D d A cc nL own lvl zc zs) {j : Fin 4} {i : Nat} {x : Int32} (dg : decode cc pc = .ok (.iload_n j, 1)) (hi : (j : Nat) = i) (q : Nat) (hq : lv[q]? = some (i, .int x)) (k : X p l e R s m args below meth c Q D d K A nL zc zs L M lv (pc + 1) (.int x :: st)) : X p l e R s m args below meth c Q D d K A nL zc zs L M lv pc st := fun H locs ls LB hh hl => lv_iload_n C.1.1 C.1.2.1 dg hi (lv_at hl q hq) (k H locs ls LB hh hl)
theorem x_iload (C : XC p R s m args c D d A cc nL own lvl zc zs) {i : Nat} {x : Int32} (dg : decode cc pc = .ok (.iload i, 2)) (q : Nat) (hq : lv[q]? = some (i, .int x)) (k : X p l e R s m args below meth c Q D d K A nL zc zs L M lv (pc + 2) (.int x :: st)) : X p l e R s m args below meth c Q D d K A nL zc zs L M lv pc st := fun H locs ls LB hh hl => lv_iload C.1.1 C.1.2.1 dg (lv_at hl q hq) (k H locs ls LB hh hl)
theorem x_aload_n (C : XC p R s m args c D d A cc nL own lvl zc zs) {j : Fin 4} {i : Nat} {x : Nat} (dg : decode cc pc = .ok (.aload_n j, 1)) (hi : (j : Nat) = i) (q : Nat) (hq : lv[q]? = some (i, .ref x)) (k : X p l e R s m args below meth c Q D d K A nL zc zs L M lv (pc + 1) (.ref x :: st)) : X p l e R s m args below meth c Q D d K A nL zc zs L M lv pc st := fun H locs ls LB hh hl => lv_aload_n C.1.1 C.1.2.1 dg hi (lv_at hl q hq) (k H locs ls LB hh hl)
theorem x_aload (C : XC p R s m args c D d A cc nL own lvl zc zs) {i : Nat} {x : Nat} (dg : decode cc pc = .ok (.aload i, 2)) (q : Nat) (hq : lv[q]? = some (i, .ref x)) (k : X p l e R s m args below meth c Q D d K A nL zc zs L M lv (pc + 2) (.ref x :: st)) : X p l e R s m args below meth c Q D d K A nL zc zs L M lv pc st := fun H locs ls LB hh hl => lv_aload C.1.1 C.1.2.1 dg (lv_at hl q hq) (k H locs ls LB hh hl)
theorem x_istore_n (C : XC p R s m args c D d A cc nL own lvl zc zs) {j : Fin 4} {i : Nat} {x : Int32} (dg : decode cc pc = .ok (.istore_n j, 1)) (hi : (j : Nat) = i) (hn : i < nL) (lv' : List (Nat × Value)) (he : (i, Value.int x) :: lv.filter (fun q => !(q.1 == i) && !(q.1 + 1 == i && q.2.category == 2)) = lv') (k : X p l e R s m args below meth c Q D d K A nL zc zs L M lv' (pc + 1) st) : X p l e R s m args below meth c Q D d K A nL zc zs L M lv pc (.int x :: st) := fun H locs ls LB hh hl => lv_istore_n C.1.1 C.1.2.1 dg hi hl hn he (fun ls' hl' => k H locs ls' LB hh hl')
theorem x_istore (C : XC p R s m args c D d A cc nL own lvl zc zs) {i : Nat} {x : Int32} (dg : decode cc pc = .ok (.istore i, 2)) (hn : i < nL) (lv' : List (Nat × Value)) (he : (i, Value.int x) :: lv.filter (fun q => !(q.1 == i) && !(q.1 + 1 == i && q.2.category == 2)) = lv') (k : X p l e R s m args below meth c Q D d K A nL zc zs L M lv' (pc + 2) st) : X p l e R s m args below meth c Q D d K A nL zc zs L M lv pc (.int x :: st) := fun H locs ls LB hh hl => lv_istore C.1.1 C.1.2.1 dg hl hn he (fun ls' hl' => k H locs ls' LB hh hl')
theorem x_astore_n (C : XC p R s m args c D d A cc nL own lvl zc zs) {j : Fin 4} {i : Nat} {x : Nat} (dg : decode cc pc = .ok (.astore_n j, 1)) (hi : (j : Nat) = i) (hn : i < nL) (lv' : List (Nat × Value)) (he : (i, Value.ref x) :: lv.filter (fun q => !(q.1 == i) && !(q.1 + 1 == i && q.2.category == 2)) = lv') (k : X p l e R s m args below meth c Q D d K A nL zc zs L M lv' (pc + 1) st) : X p l e R s m args below meth c Q D d K A nL zc zs L M lv pc (.ref x :: st) := fun H locs ls LB hh hl => lv_astore_n C.1.1 C.1.2.1 dg hi hl hn he (fun ls' hl' => k H locs ls' LB hh hl')
theorem x_astore (C : XC p R s m args c D d A cc nL own lvl zc zs) {i : Nat} {x : Nat} (dg : decode cc pc = .ok (.astore i, 2)) (hn : i < nL) (lv' : List (Nat × Value)) (he : (i, Value.ref x) :: lv.filter (fun q => !(q.1 == i) && !(q.1 + 1 == i && q.2.category == 2)) = lv') (k : X p l e R s m args below meth c Q D d K A nL zc zs L M lv' (pc + 2) st) : X p l e R s m args below meth c Q D d K A nL zc zs L M lv pc (.ref x :: st) := fun H locs ls LB hh hl => lv_astore C.1.1 C.1.2.1 dg hl hn he (fun ls' hl' => k H locs ls' LB hh hl')
theorem x_iinc (C : XC p R s m args c D d A cc nL own lvl zc zs) {i : Nat} {n x : Int} (dg : decode cc pc = .ok (.iinc i n, 3)) (q : Nat) (hq : lv[q]? = some (i, iv x)) (hn : i < nL) (lv' : List (Nat × Value)) (he : (i, iv (x + n)) :: lv.filter (fun q => !(q.1 == i) && !(q.1 + 1 == i && q.2.category == 2)) = lv') (k : X p l e R s m args below meth c Q D d K A nL zc zs L M lv' (pc + 3) st) : X p l e R s m args below meth c Q D d K A nL zc zs L M lv pc st := fun H locs ls LB hh hl => lv_iinc C.1.1 C.1.2.1 dg hl (k := q) hq (Int32.ofInt_add x n).symm hn he (fun ls' hl' => k H locs ls' LB hh hl')
theorem x_iadd (C : XC p R s m args c D d A cc nL own lvl zc zs) {x y : Int} (dg : decode cc pc = .ok (.iadd, 1)) (k : X p l e R s m args below meth c Q D d K A nL zc zs L M lv (pc + 1) (iv (x + y) :: st)) : X p l e R s m args below meth c Q D d K A nL zc zs L M lv pc (iv y :: iv x :: st) := fun H locs ls LB hh hl => lv_iadd C.1.1 C.1.2.1 dg (by have h := k H locs ls LB hh hl; unfold iv at h; rw [Int32.ofInt_add x y] at h; exact h)
theorem x_isub (C : XC p R s m args c D d A cc nL own lvl zc zs) {x y : Int} (dg : decode cc pc = .ok (.isub, 1)) (k : X p l e R s m args below meth c Q D d K A nL zc zs L M lv (pc + 1) (iv (x - y) :: st)) : X p l e R s m args below meth c Q D d K A nL zc zs L M lv pc (iv y :: iv x :: st) := fun H locs ls LB hh hl => lv_isub C.1.1 C.1.2.1 dg (by have h := k H locs ls LB hh hl; unfold iv at h; rw [Int32.ofInt_sub x y] at h; exact h)
theorem x_imul (C : XC p R s m args c D d A cc nL own lvl zc zs) {x y : Int} (dg : decode cc pc = .ok (.imul, 1)) (k : X p l e R s m args below meth c Q D d K A nL zc zs L M lv (pc + 1) (iv (x * y) :: st)) : X p l e R s m args below meth c Q D d K A nL zc zs L M lv pc (iv y :: iv x :: st) := fun H locs ls LB hh hl => lv_imul C.1.1 C.1.2.1 dg (by have h := k H locs ls LB hh hl; unfold iv at h; rw [Int32.ofInt_mul x y] at h; exact h)
theorem x_iand (C : XC p R s m args c D d A cc nL own lvl zc zs) {x y : Int} (dg : decode cc pc = .ok (.iand, 1)) (k : X p l e R s m args below meth c Q D d K A nL zc zs L M lv (pc + 1) (iv (iand x y) :: st)) : X p l e R s m args below meth c Q D d K A nL zc zs L M lv pc (iv y :: iv x :: st) := fun H locs ls LB hh hl => lv_iand C.1.1 C.1.2.1 dg (by have h := k H locs ls LB hh hl; unfold iv iand at h; rw [ofInt_toInt] at h; exact h)
theorem x_ior (C : XC p R s m args c D d A cc nL own lvl zc zs) {x y : Int} (dg : decode cc pc = .ok (.ior, 1)) (k : X p l e R s m args below meth c Q D d K A nL zc zs L M lv (pc + 1) (iv (ior x y) :: st)) : X p l e R s m args below meth c Q D d K A nL zc zs L M lv pc (iv y :: iv x :: st) := fun H locs ls LB hh hl => lv_ior C.1.1 C.1.2.1 dg (by have h := k H locs ls LB hh hl; unfold iv ior at h; rw [ofInt_toInt] at h; exact h)
theorem x_ixor (C : XC p R s m args c D d A cc nL own lvl zc zs) {x y : Int} (dg : decode cc pc = .ok (.ixor, 1)) (k : X p l e R s m args below meth c Q D d K A nL zc zs L M lv (pc + 1) (iv (ixor x y) :: st)) : X p l e R s m args below meth c Q D d K A nL zc zs L M lv pc (iv y :: iv x :: st) := fun H locs ls LB hh hl => lv_ixor C.1.1 C.1.2.1 dg (by have h := k H locs ls LB hh hl; unfold iv ixor at h; rw [ofInt_toInt] at h; exact h)
theorem x_ishl (C : XC p R s m args c D d A cc nL own lvl zc zs) {x y : Int} (dg : decode cc pc = .ok (.ishl, 1)) (k : X p l e R s m args below meth c Q D d K A nL zc zs L M lv (pc + 1) (iv (ishl x y) :: st)) : X p l e R s m args below meth c Q D d K A nL zc zs L M lv pc (iv y :: iv x :: st) := fun H locs ls LB hh hl => lv_ishl C.1.1 C.1.2.1 dg (by have h := k H locs ls LB hh hl; unfold iv ishl at h; rw [ofInt_toInt] at h; exact h)
theorem x_ishr (C : XC p R s m args c D d A cc nL own lvl zc zs) {x y : Int} (dg : decode cc pc = .ok (.ishr, 1)) (k : X p l e R s m args below meth c Q D d K A nL zc zs L M lv (pc + 1) (iv (ishr x y) :: st)) : X p l e R s m args below meth c Q D d K A nL zc zs L M lv pc (iv y :: iv x :: st) := fun H locs ls LB hh hl => lv_ishr C.1.1 C.1.2.1 dg (by have h := k H locs ls LB hh hl; unfold iv ishr at h; rw [ofInt_toInt] at h; exact h)
theorem x_iushr (C : XC p R s m args c D d A cc nL own lvl zc zs) {x y : Int} (dg : decode cc pc = .ok (.iushr, 1)) (k : X p l e R s m args below meth c Q D d K A nL zc zs L M lv (pc + 1) (iv (iushr x y) :: st)) : X p l e R s m args below meth c Q D d K A nL zc zs L M lv pc (iv y :: iv x :: st) := fun H locs ls LB hh hl => lv_iushr C.1.1 C.1.2.1 dg rfl (by have h := k H locs ls LB hh hl; unfold iv iushr at h; rw [ofInt_toInt] at h; exact h)
theorem x_idiv (C : XC p R s m args c D d A cc nL own lvl zc zs) {x y : Int} (dg : decode cc pc = .ok (.idiv, 1)) (hn : bm y ≠ 0) (k : X p l e R s m args below meth c Q D d K A nL zc zs L M lv (pc + 1) (iv (idiv x y) :: st)) : X p l e R s m args below meth c Q D d K A nL zc zs L M lv pc (iv y :: iv x :: st) := fun H locs ls LB hh hl => lv_idiv C.1.1 C.1.2.1 dg (fun h => hn (by rw [← bm_zero, ← i_eq]; exact h)) (by have h := k H locs ls LB hh hl; unfold iv idiv at h; rw [ofInt_toInt] at h; exact h)
theorem x_irem (C : XC p R s m args c D d A cc nL own lvl zc zs) {x y : Int} (dg : decode cc pc = .ok (.irem, 1)) (hn : bm y ≠ 0) (k : X p l e R s m args below meth c Q D d K A nL zc zs L M lv (pc + 1) (iv (irem x y) :: st)) : X p l e R s m args below meth c Q D d K A nL zc zs L M lv pc (iv y :: iv x :: st) := fun H locs ls LB hh hl => lv_irem C.1.1 C.1.2.1 dg (fun h => hn (by rw [← bm_zero, ← i_eq]; exact h)) (by have h := k H locs ls LB hh hl; unfold iv irem at h; rw [ofInt_toInt] at h; exact h)
theorem x_i2b (C : XC p R s m args c D d A cc nL own lvl zc zs) {x : Int} (dg : decode cc pc = .ok (.i2b, 1)) (k : X p l e R s m args below meth c Q D d K A nL zc zs L M lv (pc + 1) (iv (i2b x) :: st)) : X p l e R s m args below meth c Q D d K A nL zc zs L M lv pc (iv x :: st) := fun H locs ls LB hh hl => lv_i2b C.1.1 C.1.2.1 dg rfl (by have h := k H locs ls LB hh hl; unfold iv i2b at h; rw [ofInt_toInt] at h; exact h)
theorem x_dup (C : XC p R s m args c D d A cc nL own lvl zc zs) {va : Value} (dg : decode cc pc = .ok (.dup, 1)) (hva : va.category = 1) (k : X p l e R s m args below meth c Q D d K A nL zc zs L M lv (pc + 1) (va :: va :: st)) : X p l e R s m args below meth c Q D d K A nL zc zs L M lv pc (va :: st) := fun H locs ls LB hh hl => lv_dup C.1.1 C.1.2.1 dg hva (k H locs ls LB hh hl)
theorem x_dup2 (C : XC p R s m args c D d A cc nL own lvl zc zs) {va vb : Value} (dg : decode cc pc = .ok (.dup2, 1)) (hva : va.category = 1) (hvb : vb.category = 1) (k : X p l e R s m args below meth c Q D d K A nL zc zs L M lv (pc + 1) (va :: vb :: va :: vb :: st)) : X p l e R s m args below meth c Q D d K A nL zc zs L M lv pc (va :: vb :: st) := fun H locs ls LB hh hl => lv_dup2_11 C.1.1 C.1.2.1 dg hva hvb (k H locs ls LB hh hl)
theorem x_pop (C : XC p R s m args c D d A cc nL own lvl zc zs) {va : Value} (dg : decode cc pc = .ok (.pop, 1)) (hva : va.category = 1) (k : X p l e R s m args below meth c Q D d K A nL zc zs L M lv (pc + 1) st) : X p l e R s m args below meth c Q D d K A nL zc zs L M lv pc (va :: st) := fun H locs ls LB hh hl => lv_pop C.1.1 C.1.2.1 dg hva (k H locs ls LB hh hl)
theorem x_goto (C : XC p R s m args c D d A cc nL own lvl zc zs) {off : Int} (tgt : Nat) (dg : decode cc pc = .ok (.goto off, 3)) (ht : (pc : Int) + off = (tgt : Int)) (k : X p l e R s m args below meth c Q D d K A nL zc zs L M lv tgt st) : X p l e R s m args below meth c Q D d K A nL zc zs L M lv pc st := fun H locs ls LB hh hl => lv_goto C.1.1 C.1.2.1 dg ht (k H locs ls LB hh hl)
theorem x_if_eq (C : XC p R s m args c D d A cc nL own lvl zc zs) {x : Int} {off : Int} (tgt : Nat) (dg : decode cc pc = .ok (.ifCond .eq off, 3)) (ht : (pc : Int) + off = (tgt : Int)) (k1 : bm x = 0 → X p l e R s m args below meth c Q D d K A nL zc zs L M lv tgt st) (k2 : ¬ bm x = 0 → X p l e R s m args below meth c Q D d K A nL zc zs L M lv (pc + 3) st) : X p l e R s m args below meth c Q D d K A nL zc zs L M lv pc (iv x :: st) := by
  intro H locs ls LB hh hl
  refine lv_if_eq C.1.1 C.1.2.1 dg ht (fun h => ?_) (fun h => ?_)
  · exact k1 (by
    have h9 := (i_eq x 0)
    rw [bm_zero] at h9
    rw [i_zero] at h
    exact h9.mp h) H locs ls LB hh hl
  · exact k2 (by
    have h9 := (i_eq x 0)
    rw [bm_zero] at h9
    rw [i_zero] at h
    exact fun q => h (h9.mpr q)) H locs ls LB hh hl
theorem x_icmp_eq (C : XC p R s m args c D d A cc nL own lvl zc zs) {x y : Int} {off : Int} (tgt : Nat) (dg : decode cc pc = .ok (.if_icmp .eq off, 3)) (ht : (pc : Int) + off = (tgt : Int)) (k1 : bm x = bm y → X p l e R s m args below meth c Q D d K A nL zc zs L M lv tgt st) (k2 : ¬ bm x = bm y → X p l e R s m args below meth c Q D d K A nL zc zs L M lv (pc + 3) st) : X p l e R s m args below meth c Q D d K A nL zc zs L M lv pc (iv y :: iv x :: st) := by
  intro H locs ls LB hh hl
  refine lv_icmp_eq C.1.1 C.1.2.1 dg ht (fun h => ?_) (fun h => ?_)
  · exact k1 (by
    have h9 := (i_eq x y)
    exact h9.mp h) H locs ls LB hh hl
  · exact k2 (by
    have h9 := (i_eq x y)
    exact fun q => h (h9.mpr q)) H locs ls LB hh hl
theorem x_if_ne (C : XC p R s m args c D d A cc nL own lvl zc zs) {x : Int} {off : Int} (tgt : Nat) (dg : decode cc pc = .ok (.ifCond .ne off, 3)) (ht : (pc : Int) + off = (tgt : Int)) (k1 : bm x = 0 → X p l e R s m args below meth c Q D d K A nL zc zs L M lv (pc + 3) st) (k2 : ¬ bm x = 0 → X p l e R s m args below meth c Q D d K A nL zc zs L M lv tgt st) : X p l e R s m args below meth c Q D d K A nL zc zs L M lv pc (iv x :: st) := by
  intro H locs ls LB hh hl
  refine lv_if_ne C.1.1 C.1.2.1 dg ht (fun h => ?_) (fun h => ?_)
  · exact k2 (by
    have h9 := (i_eq x 0)
    rw [bm_zero] at h9
    rw [i_zero] at h
    exact fun q => h (h9.mpr q)) H locs ls LB hh hl
  · exact k1 (by
    have h9 := (i_eq x 0)
    rw [bm_zero] at h9
    rw [i_zero] at h
    exact Classical.byContradiction (fun q => by first | exact h (fun q2 => q (h9.mp q2)) | exact q (h9.mp h) | exact absurd h (fun q2 => q (h9.mp q2)))) H locs ls LB hh hl
theorem x_icmp_ne (C : XC p R s m args c D d A cc nL own lvl zc zs) {x y : Int} {off : Int} (tgt : Nat) (dg : decode cc pc = .ok (.if_icmp .ne off, 3)) (ht : (pc : Int) + off = (tgt : Int)) (k1 : bm x = bm y → X p l e R s m args below meth c Q D d K A nL zc zs L M lv (pc + 3) st) (k2 : ¬ bm x = bm y → X p l e R s m args below meth c Q D d K A nL zc zs L M lv tgt st) : X p l e R s m args below meth c Q D d K A nL zc zs L M lv pc (iv y :: iv x :: st) := by
  intro H locs ls LB hh hl
  refine lv_icmp_ne C.1.1 C.1.2.1 dg ht (fun h => ?_) (fun h => ?_)
  · exact k2 (by
    have h9 := (i_eq x y)
    exact fun q => h (h9.mpr q)) H locs ls LB hh hl
  · exact k1 (by
    have h9 := (i_eq x y)
    exact Classical.byContradiction (fun q => by first | exact h (fun q2 => q (h9.mp q2)) | exact q (h9.mp h) | exact absurd h (fun q2 => q (h9.mp q2)))) H locs ls LB hh hl
theorem x_if_lt (C : XC p R s m args c D d A cc nL own lvl zc zs) {x : Int} {off : Int} (tgt : Nat) (dg : decode cc pc = .ok (.ifCond .lt off, 3)) (ht : (pc : Int) + off = (tgt : Int)) (k1 : bm x < 0 → X p l e R s m args below meth c Q D d K A nL zc zs L M lv tgt st) (k2 : ¬ bm x < 0 → X p l e R s m args below meth c Q D d K A nL zc zs L M lv (pc + 3) st) : X p l e R s m args below meth c Q D d K A nL zc zs L M lv pc (iv x :: st) := by
  intro H locs ls LB hh hl
  refine lv_if_lt C.1.1 C.1.2.1 dg ht (fun h => ?_) (fun h => ?_)
  · exact k1 (by
    have h9 := (i_lt x 0)
    rw [bm_zero] at h9
    rw [i_zero] at h
    exact h9.mp h) H locs ls LB hh hl
  · exact k2 (by
    have h9 := (i_lt x 0)
    rw [bm_zero] at h9
    rw [i_zero] at h
    exact fun q => h (h9.mpr q)) H locs ls LB hh hl
theorem x_icmp_lt (C : XC p R s m args c D d A cc nL own lvl zc zs) {x y : Int} {off : Int} (tgt : Nat) (dg : decode cc pc = .ok (.if_icmp .lt off, 3)) (ht : (pc : Int) + off = (tgt : Int)) (k1 : bm x < bm y → X p l e R s m args below meth c Q D d K A nL zc zs L M lv tgt st) (k2 : ¬ bm x < bm y → X p l e R s m args below meth c Q D d K A nL zc zs L M lv (pc + 3) st) : X p l e R s m args below meth c Q D d K A nL zc zs L M lv pc (iv y :: iv x :: st) := by
  intro H locs ls LB hh hl
  refine lv_icmp_lt C.1.1 C.1.2.1 dg ht (fun h => ?_) (fun h => ?_)
  · exact k1 (by
    have h9 := (i_lt x y)
    exact h9.mp h) H locs ls LB hh hl
  · exact k2 (by
    have h9 := (i_lt x y)
    exact fun q => h (h9.mpr q)) H locs ls LB hh hl
theorem x_if_ge (C : XC p R s m args c D d A cc nL own lvl zc zs) {x : Int} {off : Int} (tgt : Nat) (dg : decode cc pc = .ok (.ifCond .ge off, 3)) (ht : (pc : Int) + off = (tgt : Int)) (k1 : bm x < 0 → X p l e R s m args below meth c Q D d K A nL zc zs L M lv (pc + 3) st) (k2 : ¬ bm x < 0 → X p l e R s m args below meth c Q D d K A nL zc zs L M lv tgt st) : X p l e R s m args below meth c Q D d K A nL zc zs L M lv pc (iv x :: st) := by
  intro H locs ls LB hh hl
  refine lv_if_ge C.1.1 C.1.2.1 dg ht (fun h => ?_) (fun h => ?_)
  · exact k2 (by
    have h9 := (i_ge x 0)
    rw [bm_zero] at h9
    rw [i_zero] at h
    exact h9.mp h) H locs ls LB hh hl
  · exact k1 (by
    have h9 := (i_ge x 0)
    rw [bm_zero] at h9
    rw [i_zero] at h
    exact Classical.byContradiction (fun q => h (h9.mpr q))) H locs ls LB hh hl
theorem x_icmp_ge (C : XC p R s m args c D d A cc nL own lvl zc zs) {x y : Int} {off : Int} (tgt : Nat) (dg : decode cc pc = .ok (.if_icmp .ge off, 3)) (ht : (pc : Int) + off = (tgt : Int)) (k1 : bm x < bm y → X p l e R s m args below meth c Q D d K A nL zc zs L M lv (pc + 3) st) (k2 : ¬ bm x < bm y → X p l e R s m args below meth c Q D d K A nL zc zs L M lv tgt st) : X p l e R s m args below meth c Q D d K A nL zc zs L M lv pc (iv y :: iv x :: st) := by
  intro H locs ls LB hh hl
  refine lv_icmp_ge C.1.1 C.1.2.1 dg ht (fun h => ?_) (fun h => ?_)
  · exact k2 (by
    have h9 := (i_ge x y)
    exact h9.mp h) H locs ls LB hh hl
  · exact k1 (by
    have h9 := (i_ge x y)
    exact Classical.byContradiction (fun q => h (h9.mpr q))) H locs ls LB hh hl
theorem x_if_gt (C : XC p R s m args c D d A cc nL own lvl zc zs) {x : Int} {off : Int} (tgt : Nat) (dg : decode cc pc = .ok (.ifCond .gt off, 3)) (ht : (pc : Int) + off = (tgt : Int)) (k1 : 0 < bm x → X p l e R s m args below meth c Q D d K A nL zc zs L M lv tgt st) (k2 : ¬ 0 < bm x → X p l e R s m args below meth c Q D d K A nL zc zs L M lv (pc + 3) st) : X p l e R s m args below meth c Q D d K A nL zc zs L M lv pc (iv x :: st) := by
  intro H locs ls LB hh hl
  refine lv_if_gt C.1.1 C.1.2.1 dg ht (fun h => ?_) (fun h => ?_)
  · exact k1 (by
    have h9 := (i_lt 0 x)
    rw [bm_zero] at h9
    rw [i_zero] at h
    exact h9.mp h) H locs ls LB hh hl
  · exact k2 (by
    have h9 := (i_lt 0 x)
    rw [bm_zero] at h9
    rw [i_zero] at h
    exact fun q => h (h9.mpr q)) H locs ls LB hh hl
theorem x_icmp_gt (C : XC p R s m args c D d A cc nL own lvl zc zs) {x y : Int} {off : Int} (tgt : Nat) (dg : decode cc pc = .ok (.if_icmp .gt off, 3)) (ht : (pc : Int) + off = (tgt : Int)) (k1 : bm y < bm x → X p l e R s m args below meth c Q D d K A nL zc zs L M lv tgt st) (k2 : ¬ bm y < bm x → X p l e R s m args below meth c Q D d K A nL zc zs L M lv (pc + 3) st) : X p l e R s m args below meth c Q D d K A nL zc zs L M lv pc (iv y :: iv x :: st) := by
  intro H locs ls LB hh hl
  refine lv_icmp_gt C.1.1 C.1.2.1 dg ht (fun h => ?_) (fun h => ?_)
  · exact k1 (by
    have h9 := (i_lt y x)
    exact h9.mp h) H locs ls LB hh hl
  · exact k2 (by
    have h9 := (i_lt y x)
    exact fun q => h (h9.mpr q)) H locs ls LB hh hl
theorem x_if_le (C : XC p R s m args c D d A cc nL own lvl zc zs) {x : Int} {off : Int} (tgt : Nat) (dg : decode cc pc = .ok (.ifCond .le off, 3)) (ht : (pc : Int) + off = (tgt : Int)) (k1 : 0 < bm x → X p l e R s m args below meth c Q D d K A nL zc zs L M lv (pc + 3) st) (k2 : ¬ 0 < bm x → X p l e R s m args below meth c Q D d K A nL zc zs L M lv tgt st) : X p l e R s m args below meth c Q D d K A nL zc zs L M lv pc (iv x :: st) := by
  intro H locs ls LB hh hl
  refine lv_if_le C.1.1 C.1.2.1 dg ht (fun h => ?_) (fun h => ?_)
  · exact k2 (by
    have h9 := (i_ge 0 x)
    rw [bm_zero] at h9
    rw [i_zero] at h
    exact h9.mp h) H locs ls LB hh hl
  · exact k1 (by
    have h9 := (i_ge 0 x)
    rw [bm_zero] at h9
    rw [i_zero] at h
    exact Classical.byContradiction (fun q => h (h9.mpr q))) H locs ls LB hh hl
theorem x_icmp_le (C : XC p R s m args c D d A cc nL own lvl zc zs) {x y : Int} {off : Int} (tgt : Nat) (dg : decode cc pc = .ok (.if_icmp .le off, 3)) (ht : (pc : Int) + off = (tgt : Int)) (k1 : bm y < bm x → X p l e R s m args below meth c Q D d K A nL zc zs L M lv (pc + 3) st) (k2 : ¬ bm y < bm x → X p l e R s m args below meth c Q D d K A nL zc zs L M lv tgt st) : X p l e R s m args below meth c Q D d K A nL zc zs L M lv pc (iv y :: iv x :: st) := by
  intro H locs ls LB hh hl
  refine lv_icmp_le C.1.1 C.1.2.1 dg ht (fun h => ?_) (fun h => ?_)
  · exact k2 (by
    have h9 := (i_ge y x)
    exact h9.mp h) H locs ls LB hh hl
  · exact k1 (by
    have h9 := (i_ge y x)
    exact Classical.byContradiction (fun q => h (h9.mpr q))) H locs ls LB hh hl
end XB
end
section
section XD
variable {p : Program} {l : Launch} {e : Env} {R : Room} {s : State} {m : MethodId} {args : Array Value} {below : List Frame} {meth : Method} {c : Code} {Q : State → Prop} {D : va_G} {d : Nat → ClassId} {K : Nat → Nat} {A : Nat → Prop} {cc : ByteArray} {nL lvl : Nat} {own : String} {zc zs : Int} {L : va_W} {M : g_M} {lv : List (Nat × Value)} {pc : Nat} {st : List Value}

theorem x_get (C : XC p R s m args c D d A cc nL own lvl zc zs) {Cn : String} {T : u_T} {N ci index : Nat} {ty : Nat → FieldType} (F : g_cf Cn T N ty) (j0 : Nat) (hj0 : j0 < 91) {fs : List Value} (he : ∀ B, we K d B (M (40 + j0)) j0 = .inr (ci, fs)) (hc : gCl[ci]? = some (Cn, T, N)) (j : Nat) (hj : j < N) (hlink : Cond.fieldLink own index (T j).1 (T j).2.1 (T j).2.2.1 ∈ gW) {v : Value} (hv : fs[j]? = some v) (dg : decode cc pc = .ok (.getfield index, 3)) (k : X p l e R s m args below meth c Q D d K A nL zc zs L M lv (pc + 3) (v :: st)) : X p l e R s m args below meth c Q D d K A nL zc zs L M lv pc (.ref (K j0) :: st) := fun H locs ls LB hh hl => va_get (cl := gCl) C.1.1 C.1.2.1 C.1.2.2.2.2.1 F.1 C.1.2.2.2.1 C.1.2.2.2.2.2.1 hh.2.1 j0 ((fx_at K d L M LB hj0).trans (by rw [he])) hc j hj (C.1.2.2.2.2.1 _ hlink) (fun _ h => h) hv dg (k H locs ls LB hh hl)
theorem setSlot_size (c : Cell) (i : Nat) (v : Value) : (c.setSlot i v).slots.size = c.slots.size := by simp [Cell.setSlot]
/-- a field is set: the heap's size and its slots stay -/
theorem k_put {cl : List vw_C} {tys : List (ClassId × FieldType)} {H : Heap} {locs : List Loc} {cells slots a : Nat} {ls : Array Slot} {rest : List Value} {ws : va_W} {H0 : Heap} (hexec : p.tables.exec = Jvm.exec) (hb : c.code = cc) {own ref C : String} {T : u_T} {N ci index : Nat} {Ts : List Cond} (hts : ∀ w ∈ Ts, w.before args s = true) (hin : ∀ w ∈ u_ws C T N, w ∈ Ts) (ty0 : Nat → FieldType) (hty : ∀ k, k < N → parseFieldDescriptor (T k).2.2.1 = some (ty0 k)) (hnm : ∀ a, a < N → ∀ b, b < N → a ≠ b → (T a).2.1 ≠ (T b).2.1) (hown : s.vm.findClass own = some m.cls) (hK : va_K D cl tys s) (hP : va_P D cl ws H) (hD : va_D A ws) (hS0 : va_S A H0 H locs) (q0 : Nat) {fs : List Value} (he : ws[q0]? = some (a, .inr (ci, fs))) (hc : cl[ci]? = some (C, T, N)) (k : Nat) (hk : k < N) (hlink : (Cond.fieldLink own index ref (T k).2.1 (T k).2.2.1).before args s = true) (hsame : ∀ x, s.fieldFound? (T k).1 (T k).2.1 (T k).2.2.1 = some x → s.fieldFound? ref (T k).2.1 (T k).2.2.1 = some x) (hfin : (T k).2.2.2 = false) {ty : FieldType} {v : Value} (hd : parseFieldDescriptor (T k).2.2.1 = some ty) (hn : narrow ty v = v) (hfit : fits ty v = true) (hl : k < fs.length)
    (hdg : decode cc pc = .ok (.putfield index, 3)) (kk : ∀ (H1 : Heap) (locs1 : List Loc), va_P D cl (ws.set q0 (a, .inr (ci, fs.set k v))) H1 → va_D A (ws.set q0 (a, .inr (ci, fs.set k v))) → va_S A H0 H1 locs1 → H1.size = H.size → TOT H1 = TOT H → W p l e R s m args below meth c H1 locs1 cells slots Q (F0 m (pc + 3) ls rest)) : W p l e R s m args below meth c H locs cells slots Q (F0 m pc ls (v :: .ref a :: rest)) := by
  have hap := va_apart (own := own) hts hin ty0 hty hnm hK hc
  obtain ⟨r, h1, cell, q1, q2, q3, q4⟩ := hP q0 _ he
  have hr : r = (C, T, N) := Option.some.inj (h1.symm.trans hc)
  subst hr
  obtain ⟨hS, hfc, kC, hkC, hkind⟩ := hK.1 ci _ hc
  obtain ⟨cf, kf, fi, f, hi, hsl⟩ := hS k hk
  have hlay := hts _ (hin _ (u_in_lay hk))
  unfold u_lay at hlay
  rw [if_neg (by rw [hfin]; decide)] at hlay
  have hst := (u_facts hfc hkC (u_lays hts hin hk) hi).1
  have h6 := u_store hfc hkC hkind hlay hi hd hn hfit
  refine W.putK hexec hb (f := f) ⟨hown, hlink, ⟨_, _, _, hsame _ hi⟩, hst⟩ (by rw [q2]; exact h6) q1 q3 (by rw [hsl]; exact k2_hasslot (q4 k hk)) rfl rfl hdg fun H' e1 e2 e3 => ?_
  have ht := tot_put e2 e3 q1 e1 (setSlot_size _ _ _)
  rw [hsl] at e1 ⊢
  exact kk H' _ (hP.set hD he ⟨_, hc, t_OB.to (V := updV (vp_V fs) k v) ⟨_, e1, q2, q3, t_set q4 hap hk v⟩ (fun j _ => vp_updV_set hl v j)⟩ e3) (hD.set he) (hS0.put e2 e3 (hD.2 q0 _ he)) e2 ht
theorem wf_up {M : g_M} {LB : g_B} {a i : Nat} {v : Int} (h : g_wf M LB) (ha : 34 ≤ a) (hb : a ≠ 99) : g_wf (up M a i v) LB := by
  refine ⟨h.1, h.2.1, fun r j hr hn => ?_, ?_⟩
  · rw [up_ne (by omega)]
    exact h.2.2.1 r j hr hn
  · rw [up_ne (Ne.symm hb)]
    exact h.2.2.2
theorem nC_up {M : g_M} {LB : g_B} {a i : Nat} {v : Int} (hb : a ≠ 99) : nC (up M a i v) LB = nC M LB ∧ nS (up M a i v) LB = nS M LB := by
  unfold nC nS
  rw [up_ne (Ne.symm hb)]
  exact ⟨rfl, rfl⟩
theorem x_put (C : XC p R s m args c D d A cc nL own lvl zc zs) {Cn : String} {T : u_T} {N ci index : Nat} {ty : Nat → FieldType} (F : g_cf Cn T N ty) (j0 : Nat) (hj0 : j0 < 23) {fs : List Value} (he : ∀ B, we K d B (M (40 + j0)) j0 = .inr (ci, fs)) (hc : gCl[ci]? = some (Cn, T, N)) (j : Nat) (hj : j < N) (hlink : Cond.fieldLink own index (T j).1 (T j).2.1 (T j).2.2.1 ∈ gW) (hfin : (T j).2.2.2 = false) {x : Int} (hn : narrow (ty j) (iv x) = iv x) (hfit : fits (ty j) (iv x) = true) (hl0 : j < fs.length) (hx : ∀ B, we K d B (up M (40 + j0) j x (40 + j0)) j0 = .inr (ci, fs.set j (iv x))) (dg : decode cc pc = .ok (.putfield index, 3)) (k : X p l e R s m args below meth c Q D d K A nL zc zs L (up M (40 + j0) j x) lv (pc + 3) st) : X p l e R s m args below meth c Q D d K A nL zc zs L M lv pc (iv x :: .ref (K j0) :: st) := by
  intro H locs ls LB hh hl
  refine k_put (cl := gCl) C.1.1 C.1.2.1 C.1.2.2.2.2.1 F.1 ty F.2.1 F.2.2 C.1.2.2.2.1 C.1.2.2.2.2.2.1 hh.2.1 hh.2.2.1 hh.2.2.2.1 j0 ((fx_at K d L M LB (by omega)).trans (by rw [he])) hc j hj (C.1.2.2.2.2.1 _ hlink) (fun _ h => h) hfin (F.2.1 j hj) hn hfit hl0 dg (fun H1 locs1 hP1 hD1 hS1 hz ht => ?_)
  rw [wd_set (M' := up M (40 + j0) j x) (by omega) (hx _) (fun a ha => up_ne ha) (fun q hq => (hh.1.1 q hq).1)] at hP1 hD1
  refine k H1 locs1 ls LB ⟨wf_up hh.1 (by omega) (by omega), hP1, hD1, hS1, ?_, ?_⟩ hl
  · rw [(nC_up (by omega)).1, hz]
    exact hh.2.2.2.2.1
  · rw [(nC_up (by omega)).2, ht]
    exact hh.2.2.2.2.2
theorem x_iald (C : XC p R s m args c D d A cc nL own lvl zc zs) (j0 n : Nat) (hj0 : j0 < 23) (he : ∀ B, we K d B (M (40 + j0)) j0 = .inl (d 0, n, .inl (fun i => Int32.ofInt (M (40 + j0) i)))) {x : Int} (hin : inI x n) (dg : decode cc pc = .ok (.iaload, 1)) (k : X p l e R s m args below meth c Q D d K A nL zc zs L M lv (pc + 1) (iv (M (40 + j0) (bm x).toNat) :: st)) : X p l e R s m args below meth c Q D d K A nL zc zs L M lv pc (iv x :: .ref (K j0) :: st) := by
  intro H locs ls LB hh hl
  refine va_iald (cl := gCl) C.1.1 C.1.2.1 C.1.2.2.2.2.2.1 hh.2.1 j0 0 ((fx_at K d L M LB (by omega)).trans (by rw [he])) rfl (i_in hin) dg ?_
  rw [i_nat]
  exact k H locs ls LB hh hl
theorem k_iast {cl : List vw_C} {tys : List (ClassId × FieldType)} {H : Heap} {locs : List Loc} {cells slots a : Nat} {ls : Array Slot} {rest : List Value} {ws : va_W} {H0 : Heap} (hexec : p.tables.exec = Jvm.exec) (hb : c.code = cc) (hK : va_K D cl tys s) (hP : va_P D cl ws H) (hD : va_D A ws) (hS : va_S A H0 H locs) (q0 t0 : Nat) {cA : ClassId} {n : Nat} {f : Nat → Int32} (ha : ws[q0]? = some (a, .inl (cA, n, .inl f))) (ht : tys[t0]? = some (cA, .int)) {i : Int32} {x : Int32} (hin : vp_in i n) (y : Int32) (hy : (.int x) = Value.int y) (hdg : decode cc pc = .ok (.iastore, 1))
    (kk : ∀ (H1 : Heap) (locs1 : List Loc), va_P D cl (ws.set q0 (a, .inl (cA, n, .inl (upd f i.toNatClampNeg y)))) H1 → va_D A (ws.set q0 (a, .inl (cA, n, .inl (upd f i.toNatClampNeg y)))) → va_S A H0 H1 locs1 → H1.size = H.size → TOT H1 = TOT H → W p l e R s m args below meth c H1 locs1 cells slots Q (F0 m (pc + 1) ls rest)) : W p l e R s m args below meth c H locs cells slots Q (F0 m pc ls (.int x :: .int i :: .ref a :: rest)) := by
  refine W.iast hexec hb (hP q0 _ ha) ((hK.2 t0 _ ht).1 n (fun j => .int (f j))) (fun q => by cases q) (by show ¬ (i < 0 ∨ (arrV _ _ _).slots.size ≤ _); rw [arrV_size]; exact hin) rfl rfl hdg fun H1 e z oq => ?_
  refine kk H1 _ (hP.set hD ha ?_ oq) (hD.set ha) (hS.put z oq (hD.2 q0 _ ha)) z (tot_put z oq (hP q0 _ ha) e (setSlot_size _ _ _))
  show H1[a]? = some (vp_cell _ _)
  rw [e]
  cases hy
  rw [vp_cell_i, vp_cell_i, arrV_store]
  congr 2
  funext q
  by_cases hq : q = i.toNatClampNeg
  · subst hq
    simp [updV, upd]
  · simp [updV, upd, hq]
theorem x_bald (C : XC p R s m args c D d A cc nL own lvl zc zs) (j0 n : Nat) (hj0 : j0 < 23) (he : ∀ B, we K d B (M (40 + j0)) j0 = .inl (d 1, n, .inl (fun i => Int32.ofInt (M (40 + j0) i)))) {x : Int} (hin : inI x n) (dg : decode cc pc = .ok (.baload, 1)) (k : X p l e R s m args below meth c Q D d K A nL zc zs L M lv (pc + 1) (iv (M (40 + j0) (bm x).toNat) :: st)) : X p l e R s m args below meth c Q D d K A nL zc zs L M lv pc (iv x :: .ref (K j0) :: st) := by
  intro H locs ls LB hh hl
  refine va_bald (cl := gCl) C.1.1 C.1.2.1 C.1.2.2.2.2.2.1 hh.2.1 j0 1 ((fx_at K d L M LB (by omega)).trans (by rw [he])) rfl (i_in hin) dg ?_
  rw [i_nat]
  exact k H locs ls LB hh hl
theorem k_bast {cl : List vw_C} {tys : List (ClassId × FieldType)} {H : Heap} {locs : List Loc} {cells slots a : Nat} {ls : Array Slot} {rest : List Value} {ws : va_W} {H0 : Heap} (hexec : p.tables.exec = Jvm.exec) (hb : c.code = cc) (hK : va_K D cl tys s) (hP : va_P D cl ws H) (hD : va_D A ws) (hS : va_S A H0 H locs) (q0 t0 : Nat) {cA : ClassId} {n : Nat} {f : Nat → Int32} (ha : ws[q0]? = some (a, .inl (cA, n, .inl f))) (ht : tys[t0]? = some (cA, .byte)) {i : Int32} {x : Int32} (hin : vp_in i n) (y : Int32) (hy : (narrow .byte (.int x)) = Value.int y) (hdg : decode cc pc = .ok (.bastore, 1))
    (kk : ∀ (H1 : Heap) (locs1 : List Loc), va_P D cl (ws.set q0 (a, .inl (cA, n, .inl (upd f i.toNatClampNeg y)))) H1 → va_D A (ws.set q0 (a, .inl (cA, n, .inl (upd f i.toNatClampNeg y)))) → va_S A H0 H1 locs1 → H1.size = H.size → TOT H1 = TOT H → W p l e R s m args below meth c H1 locs1 cells slots Q (F0 m (pc + 1) ls rest)) : W p l e R s m args below meth c H locs cells slots Q (F0 m pc ls (.int x :: .int i :: .ref a :: rest)) := by
  refine W.bast hexec hb (hP q0 _ ha) ((hK.2 t0 _ ht).1 n (fun j => .int (f j))) (fun q => by cases q) (by show ¬ (i < 0 ∨ (arrV _ _ _).slots.size ≤ _); rw [arrV_size]; exact hin) rfl rfl hdg fun H1 e z oq => ?_
  refine kk H1 _ (hP.set hD ha ?_ oq) (hD.set ha) (hS.put z oq (hD.2 q0 _ ha)) z (tot_put z oq (hP q0 _ ha) e (setSlot_size _ _ _))
  show H1[a]? = some (vp_cell _ _)
  rw [e]
  rw [hy]
  rw [vp_cell_i, vp_cell_i, arrV_store]
  congr 2
  funext q
  by_cases hq : q = i.toNatClampNeg
  · subst hq
    simp [updV, upd]
  · simp [updV, upd, hq]
theorem x_zald (C : XC p R s m args c D d A cc nL own lvl zc zs) (j0 n : Nat) (hj0 : j0 < 23) (he : ∀ B, we K d B (M (40 + j0)) j0 = .inl (d 2, n, .inl (fun i => Int32.ofInt (M (40 + j0) i)))) {x : Int} (hin : inI x n) (dg : decode cc pc = .ok (.baload, 1)) (k : X p l e R s m args below meth c Q D d K A nL zc zs L M lv (pc + 1) (iv (M (40 + j0) (bm x).toNat) :: st)) : X p l e R s m args below meth c Q D d K A nL zc zs L M lv pc (iv x :: .ref (K j0) :: st) := by
  intro H locs ls LB hh hl
  refine va_zald (cl := gCl) C.1.1 C.1.2.1 C.1.2.2.2.2.2.1 hh.2.1 j0 2 ((fx_at K d L M LB (by omega)).trans (by rw [he])) rfl (i_in hin) dg ?_
  rw [i_nat]
  exact k H locs ls LB hh hl
theorem k_zast {cl : List vw_C} {tys : List (ClassId × FieldType)} {H : Heap} {locs : List Loc} {cells slots a : Nat} {ls : Array Slot} {rest : List Value} {ws : va_W} {H0 : Heap} (hexec : p.tables.exec = Jvm.exec) (hb : c.code = cc) (hK : va_K D cl tys s) (hP : va_P D cl ws H) (hD : va_D A ws) (hS : va_S A H0 H locs) (q0 t0 : Nat) {cA : ClassId} {n : Nat} {f : Nat → Int32} (ha : ws[q0]? = some (a, .inl (cA, n, .inl f))) (ht : tys[t0]? = some (cA, .boolean)) {i : Int32} {x : Int32} (hin : vp_in i n) (y : Int32) (hy : (narrow .boolean (.int x)) = Value.int y) (hdg : decode cc pc = .ok (.bastore, 1))
    (kk : ∀ (H1 : Heap) (locs1 : List Loc), va_P D cl (ws.set q0 (a, .inl (cA, n, .inl (upd f i.toNatClampNeg y)))) H1 → va_D A (ws.set q0 (a, .inl (cA, n, .inl (upd f i.toNatClampNeg y)))) → va_S A H0 H1 locs1 → H1.size = H.size → TOT H1 = TOT H → W p l e R s m args below meth c H1 locs1 cells slots Q (F0 m (pc + 1) ls rest)) : W p l e R s m args below meth c H locs cells slots Q (F0 m pc ls (.int x :: .int i :: .ref a :: rest)) := by
  refine W.zast hexec hb (hP q0 _ ha) ((hK.2 t0 _ ht).1 n (fun j => .int (f j))) (fun q => by cases q) (by show ¬ (i < 0 ∨ (arrV _ _ _).slots.size ≤ _); rw [arrV_size]; exact hin) rfl rfl hdg fun H1 e z oq => ?_
  refine kk H1 _ (hP.set hD ha ?_ oq) (hD.set ha) (hS.put z oq (hD.2 q0 _ ha)) z (tot_put z oq (hP q0 _ ha) e (setSlot_size _ _ _))
  show H1[a]? = some (vp_cell _ _)
  rw [e]
  rw [hy]
  rw [vp_cell_i, vp_cell_i, arrV_store]
  congr 2
  funext q
  by_cases hq : q = i.toNatClampNeg
  · subst hq
    simp [updV, upd]
  · simp [updV, upd, hq]
theorem upd_up (M : g_M) (a i : Nat) (v : Int) : upd (fun j => Int32.ofInt (M a j)) i (Int32.ofInt v) = fun j => Int32.ofInt (up M a i v a j) := by
  funext j
  rw [up_row]
  by_cases h : j = i
  · simp [upd, h]
  · simp [upd, h]
theorem x_iast (C : XC p R s m args c D d A cc nL own lvl zc zs) (j0 n : Nat) (hj0 : j0 < 23) (he : ∀ (B : Nat → Nat → Option Nat) (mm : Nat → Int), we K d B mm j0 = .inl (d 0, n, .inl (fun i => Int32.ofInt (mm i)))) {x v : Int} (hin : inI x n) (dg : decode cc pc = .ok (.iastore, 1)) (k : X p l e R s m args below meth c Q D d K A nL zc zs L (up M (40 + j0) (bm x).toNat v) lv (pc + 1) st) : X p l e R s m args below meth c Q D d K A nL zc zs L M lv pc (iv v :: iv x :: .ref (K j0) :: st) := by
  intro H locs ls LB hh hl
  refine k_iast (cl := gCl) C.1.1 C.1.2.1 C.1.2.2.2.2.2.1 hh.2.1 hh.2.2.1 hh.2.2.2.1 j0 0 ((fx_at K d L M LB (by omega)).trans (by rw [he])) rfl (i_in hin) (Int32.ofInt v) rfl dg (fun H1 locs1 hP1 hD1 hS1 hz ht => ?_)
  rw [i_nat, upd_up] at hP1 hD1
  rw [wd_set (M' := up M (40 + j0) (bm x).toNat v) (by omega) (he _ _) (fun a ha => up_ne ha) (fun q hq => (hh.1.1 q hq).1)] at hP1 hD1
  refine k H1 locs1 ls LB ⟨wf_up hh.1 (by omega) (by omega), hP1, hD1, hS1, ?_, ?_⟩ hl
  · rw [(nC_up (by omega)).1, hz]
    exact hh.2.2.2.2.1
  · rw [(nC_up (by omega)).2, ht]
    exact hh.2.2.2.2.2
theorem x_bast (C : XC p R s m args c D d A cc nL own lvl zc zs) (j0 n : Nat) (hj0 : j0 < 23) (he : ∀ (B : Nat → Nat → Option Nat) (mm : Nat → Int), we K d B mm j0 = .inl (d 1, n, .inl (fun i => Int32.ofInt (mm i)))) {x v : Int} (hin : inI x n) (dg : decode cc pc = .ok (.bastore, 1)) (k : X p l e R s m args below meth c Q D d K A nL zc zs L (up M (40 + j0) (bm x).toNat (i2b v)) lv (pc + 1) st) : X p l e R s m args below meth c Q D d K A nL zc zs L M lv pc (iv v :: iv x :: .ref (K j0) :: st) := by
  intro H locs ls LB hh hl
  refine k_bast (cl := gCl) C.1.1 C.1.2.1 C.1.2.2.2.2.2.1 hh.2.1 hh.2.2.1 hh.2.2.2.1 j0 1 ((fx_at K d L M LB (by omega)).trans (by rw [he])) rfl (i_in hin) (Int32.ofInt (i2b v)) (by show Value.int _ = _; unfold i2b; rw [ofInt_toInt]) dg (fun H1 locs1 hP1 hD1 hS1 hz ht => ?_)
  rw [i_nat, upd_up] at hP1 hD1
  rw [wd_set (M' := up M (40 + j0) (bm x).toNat (i2b v)) (by omega) (he _ _) (fun a ha => up_ne ha) (fun q hq => (hh.1.1 q hq).1)] at hP1 hD1
  refine k H1 locs1 ls LB ⟨wf_up hh.1 (by omega) (by omega), hP1, hD1, hS1, ?_, ?_⟩ hl
  · rw [(nC_up (by omega)).1, hz]
    exact hh.2.2.2.2.1
  · rw [(nC_up (by omega)).2, ht]
    exact hh.2.2.2.2.2
theorem x_zast (C : XC p R s m args c D d A cc nL own lvl zc zs) (j0 n : Nat) (hj0 : j0 < 23) (he : ∀ (B : Nat → Nat → Option Nat) (mm : Nat → Int), we K d B mm j0 = .inl (d 2, n, .inl (fun i => Int32.ofInt (mm i)))) {x v : Int} (hin : inI x n) (hb : isB v) (dg : decode cc pc = .ok (.bastore, 1)) (k : X p l e R s m args below meth c Q D d K A nL zc zs L (up M (40 + j0) (bm x).toNat v) lv (pc + 1) st) : X p l e R s m args below meth c Q D d K A nL zc zs L M lv pc (iv v :: iv x :: .ref (K j0) :: st) := by
  intro H locs ls LB hh hl
  refine k_zast (cl := gCl) C.1.1 C.1.2.1 C.1.2.2.2.2.2.1 hh.2.1 hh.2.2.1 hh.2.2.2.1 j0 2 ((fx_at K d L M LB (by omega)).trans (by rw [he])) rfl (i_in hin) (Int32.ofInt v) ((i_bool hb).1) dg (fun H1 locs1 hP1 hD1 hS1 hz ht => ?_)
  rw [i_nat, upd_up] at hP1 hD1
  rw [wd_set (M' := up M (40 + j0) (bm x).toNat v) (by omega) (he _ _) (fun a ha => up_ne ha) (fun q hq => (hh.1.1 q hq).1)] at hP1 hD1
  refine k H1 locs1 ls LB ⟨wf_up hh.1 (by omega) (by omega), hP1, hD1, hS1, ?_, ?_⟩ hl
  · rw [(nC_up (by omega)).1, hz]
    exact hh.2.2.2.2.1
  · rw [(nC_up (by omega)).2, ht]
    exact hh.2.2.2.2.2
theorem x_alen (C : XC p R s m args c D d A cc nL own lvl zc zs) (j0 n ti : Nat) (hj0 : j0 < 23) {x : vp_A} (he : ∀ B, we K d B (M (40 + j0)) j0 = .inl (d ti, x)) {ty : FieldType} (ht : (g_ty d)[ti]? = some (d ti, ty)) (hv : Int32.ofNat x.1 = Int32.ofInt n) (dg : decode cc pc = .ok (.arraylength, 1)) (k : X p l e R s m args below meth c Q D d K A nL zc zs L M lv (pc + 1) (iv n :: st)) : X p l e R s m args below meth c Q D d K A nL zc zs L M lv pc (.ref (K j0) :: st) := fun H locs ls LB hh hl => va_alen (cl := gCl) C.1.1 C.1.2.1 C.1.2.2.2.2.2.1 hh.2.1 j0 ti ((fx_at K d L M LB (by omega)).trans (by rw [he])) ht hv dg (k H locs ls LB hh hl)
theorem x_mmax (C : XC p R s m args c D d A cc nL own lvl zc zs) {index : Nat} {x y : Int} (hlink : Cond.methodLink own index Lib.Math.max.name ∈ gW) (hstat : Cond.static Lib.Math.max.name ∈ gW) (hini : Cond.initialized "java/lang/Math" ∈ gW) (hcode : Cond.code Lib.Math.max.name Lib.Math.max.code 2 (some .int) ∈ gW) (hlo : (st.map fun v => v.category).sum + 13 ≤ 150) (dg : decode cc pc = .ok (.invokestatic index, 3)) (k : X p l e R s m args below meth c Q D d K A nL zc zs L M lv (pc + 3) (iv (imax x y) :: st)) : X p l e R s m args below meth c Q D d K A nL zc zs L M lv pc (iv y :: iv x :: st) := by
  intro H locs ls LB hh hl
  refine va_mmax C.1.1 C.1.2.1 (C.1.2.2.1.trans hl.1.symm) C.1.2.2.2.1 (C.1.2.2.2.2.1 _ hlink) (C.1.2.2.2.2.1 _ hstat) (C.1.2.2.2.2.1 _ hini) (C.1.2.2.2.2.1 _ hcode) (by have := C.2.2.1; omega) (by have := C.2.2.2.1; omega) (Nat.le_refl _) (Nat.le_refl _) dg ?_
  have h9 := k H locs ls LB hh hl
  have e : Int32.ofInt (imax x y) = if Int32.ofInt x < Int32.ofInt y then Int32.ofInt y else Int32.ofInt x := by
    unfold imax
    by_cases h : bm x < bm y
    · rw [if_pos h, if_pos ((i_lt _ _).mpr h)]
    · rw [if_neg h, if_neg (fun q => h ((i_lt _ _).mp q))]
  unfold iv at h9
  rw [e] at h9
  exact h9
theorem x_mmin (C : XC p R s m args c D d A cc nL own lvl zc zs) {index : Nat} {x y : Int} (hlink : Cond.methodLink own index Lib.Math.min.name ∈ gW) (hstat : Cond.static Lib.Math.min.name ∈ gW) (hini : Cond.initialized "java/lang/Math" ∈ gW) (hcode : Cond.code Lib.Math.min.name Lib.Math.min.code 2 (some .int) ∈ gW) (hlo : (st.map fun v => v.category).sum + 13 ≤ 150) (dg : decode cc pc = .ok (.invokestatic index, 3)) (k : X p l e R s m args below meth c Q D d K A nL zc zs L M lv (pc + 3) (iv (imin x y) :: st)) : X p l e R s m args below meth c Q D d K A nL zc zs L M lv pc (iv y :: iv x :: st) := by
  intro H locs ls LB hh hl
  refine va_mmin C.1.1 C.1.2.1 (C.1.2.2.1.trans hl.1.symm) C.1.2.2.2.1 (C.1.2.2.2.2.1 _ hlink) (C.1.2.2.2.2.1 _ hstat) (C.1.2.2.2.2.1 _ hini) (C.1.2.2.2.2.1 _ hcode) (by have := C.2.2.1; omega) (by have := C.2.2.2.1; omega) (Nat.le_refl _) (Nat.le_refl _) dg ?_
  have h9 := k H locs ls LB hh hl
  have e : Int32.ofInt (imin x y) = if Int32.ofInt y < Int32.ofInt x then Int32.ofInt y else Int32.ofInt x := by
    unfold imin
    by_cases h : bm y < bm x
    · rw [if_pos h, if_pos ((i_lt _ _).mpr h)]
    · rw [if_neg h, if_neg (fun q => h ((i_lt _ _).mp q))]
  unfold iv at h9
  rw [e] at h9
  exact h9
theorem W.tight {H : Heap} {locs : List Loc} {ck sl k n : Nat} {g : JFrame} (h1 : H.size ≤ s.heap.size + k) (h2 : TOT H ≤ TOT s.heap + n) (kk : W p l e R s m args below meth c H locs k n Q g) : W p l e R s m args below meth c H locs ck sl Q g := by
  intro T hT Y
  refine kk T hT { Y with same := ?_ }
  obtain ⟨a1, a2, a3, a4, a5, a6⟩ := Y.same
  have h0 := tot_same Y.same
  refine ⟨a1, a2, ?_, a4, ?_, a6⟩
  · show T.heap.size ≤ _
    rw [hT]
    exact h1
  · have h3 : TOT (T.setVm s.vm).heap = TOT H := by show TOT T.heap = _; rw [hT]
    omega
theorem va_free0 {A0 : Nat → Prop} {ws : va_W} {H0 H : Heap} {locs : List Loc} (hD : va_D A0 ws) (hS : va_S A0 H0 H locs) (hA : ∀ q, H0.size ≤ q → A0 q) : ∀ q, va_A ws H.size q → A0 q := fun q h => h.elim (fun ⟨k, e, h⟩ => hD.2 k (q, e) h) (fun h => hA q (Nat.le_trans hS.1 h))
def kP (D : va_G) (d : Nat → ClassId) (K : Nat → Nat) (L : va_W) (M : g_M) (LB : g_B) (sz tz : Nat) (U : State) : Prop := U.heap.size = sz ∧ TOT U.heap = tz ∧ g_wf M LB ∧ va_P D gCl (wd K d L M LB) U.heap ∧ va_K D gCl (g_ty d) U ∧ va_D (fun _ => True) (wd K d L M LB) ∧ g_AO U ∧ (∀ w ∈ gB, va_Nw w U) ∧ g_ex (va_A (wd K d L M LB) sz) U
def kB (D : va_G) (d : Nat → ClassId) (K : Nat → Nat) (L : va_W) (nc ns : Int) (sz tz : Nat) (A : Nat → Prop) : g_M × g_B → State → Prop := fun u t => g_wf u.1 u.2 ∧ va_P D gCl (wd K d L u.1 u.2) t.heap ∧ va_D A (wd K d L u.1 u.2) ∧ (t.heap.size : Int) + nc ≤ sz + nC u.1 u.2 ∧ (TOT t.heap : Int) + ns ≤ tz + nS u.1 u.2
abbrev qI (D : va_G) (d : Nat → ClassId) (K : Nat → Nat) (L : va_W) (nc ns : Int) (sz tz : Nat) (Q : Int → g_M → Prop) (A : Nat → Prop) := va_Qi (fun (r : Int32) (u : Int × g_M × g_B) => r = Int32.ofInt u.1 ∧ Q u.1 u.2.1) (fun u t => kB D d K L nc ns sz tz A u.2 t) A
abbrev qV (D : va_G) (d : Nat → ClassId) (K : Nat → Nat) (L : va_W) (nc ns : Int) (sz tz : Nat) (Q : g_M → Prop) (A : Nat → Prop) := va_Qv (fun (u : g_M × g_B) => Q u.1) (fun u t => kB D d K L nc ns sz tz A u t) A
abbrev qX (D : va_G) (d : Nat → ClassId) (K : Nat → Nat) (L : va_W) (nc ns : Int) (sz tz : Nat) (EX : String) (QE : g_M → Prop) (A : Nat → Prop) := vx_X (fun (u : g_M × g_B) => QE u.1) (fun E' u t => E' = EX ∧ kB D d K L nc ns sz tz A u t) A
def g_rmx (n : Nat) (M : g_M) (LB : g_B) : Room := { frames := n + 6, cells := cC M LB, slots := cS M LB, locals := 150 + 50 * n }
def MI (l : Launch) (D : va_G) (d : Nat → ClassId) (K : Nat → Nat) (y : MethodName) (bb : ByteArray) (nY : Nat) (ret : Option FieldType) (n : Nat) (av : List Value) (F : (Int → g_M → Prop) → g_M → Prop) : Prop := ∀ (L : va_W) (M : g_M) (LB : g_B) (sz tz : Nat) (Q : Int → g_M → Prop), F Q M → Met l y (g_wd y bb nY ret) (g_rmx n M LB) (va_Pc av (kP D d K L M LB sz tz)) (qI D d K L (nC M LB) (nS M LB) sz tz Q (va_A (wd K d L M LB) sz)) (cC M LB) (cS M LB) (va_A (wd K d L M LB) sz)
def MV (l : Launch) (D : va_G) (d : Nat → ClassId) (K : Nat → Nat) (y : MethodName) (bb : ByteArray) (nY : Nat) (ret : Option FieldType) (n : Nat) (av : List Value) (F : (g_M → Prop) → g_M → Prop) : Prop := ∀ (L : va_W) (M : g_M) (LB : g_B) (sz tz : Nat) (Q : g_M → Prop), F Q M → Met l y (g_wd y bb nY ret) (g_rmx n M LB) (va_Pc av (kP D d K L M LB sz tz)) (qV D d K L (nC M LB) (nS M LB) sz tz Q (va_A (wd K d L M LB) sz)) (cC M LB) (cS M LB) (va_A (wd K d L M LB) sz)
def MX (l : Launch) (D : va_G) (d : Nat → ClassId) (K : Nat → Nat) (y : MethodName) (bb : ByteArray) (nY : Nat) (ret : Option FieldType) (n : Nat) (av : List Value) (EX : String) (F : (Int → g_M → Prop) → (g_M → Prop) → g_M → Prop) : Prop := ∀ (L : va_W) (M : g_M) (LB : g_B) (sz tz : Nat) (Q : Int → g_M → Prop) (QE : g_M → Prop), F Q QE M → vx_Met l y (g_wd y bb nY ret) (g_rmx n M LB) (va_Pc av (kP D d K L M LB sz tz)) (qI D d K L (nC M LB) (nS M LB) sz tz Q (va_A (wd K d L M LB) sz)) (qX D d K L (nC M LB) (nS M LB) sz tz EX QE (va_A (wd K d L M LB) sz)) (cC M LB) (cS M LB) (va_A (wd K d L M LB) sz)
def MH (l : Launch) (D : va_G) (d : Nat → ClassId) (K : Nat → Nat) (y : MethodName) (bb : ByteArray) (nY : Nat) (ret : Option FieldType) (hh : List (Nat × Nat × Nat × Nat)) (n : Nat) (av : List Value) (F : (Int → g_M → Prop) → g_M → Prop) : Prop := ∀ (L : va_W) (M : g_M) (LB : g_B) (sz tz : Nat) (Q : Int → g_M → Prop), F Q M → Met l y (g_wh y bb nY ret hh) (g_rmx n M LB) (va_Pc av (kP D d K L M LB sz tz)) (qI D d K L (nC M LB) (nS M LB) sz tz Q (va_A (wd K d L M LB) sz)) (cC M LB) (cS M LB) (va_A (wd K d L M LB) sz)
theorem kp_blind {LB : g_B} {sz tz : Nat} {av : List Value} : FrameBlind (va_Pc av (kP D d K L M LB sz tz)) := fun a U g mk q => by
  obtain ⟨q0, q1, q2, q3, q4, q5, q6, q7, q8, q9⟩ := q
  exact ⟨q0, q1, q2, q3, q4, va_K.moved (u := U) (U := U.calling g mk a) (Vm.Alike.refl U.vm) q5, q6, q7.moved (u := U) (U := U.calling g mk a) (Vm.Alike.refl U.vm), gB_same (s := U) (U := U.calling g mk a) rfl q8, q9.same rfl rfl⟩
theorem kp_pre (C : XC p R s m args c D d A cc nL own lvl zc zs) {H : Heap} {locs : List Loc} {LB : g_B} (hh : XH D d K A s zc zs L M LB H locs) {U : State} (hU : U.heap = H) (hW : s.WarmedH U.vm) : kP D d K L M LB H.size (TOT H) U :=
  ⟨by rw [hU], by rw [hU], hh.1, by rw [hU]; exact hh.2.1, va_K.moved hW.alike C.1.2.2.2.2.2.1, hh.2.2.1.weaken (fun _ _ _ _ => trivial), C.1.2.2.2.2.2.2.2.1.moved hW.alike, gB_warm hW C.1.2.2.2.2.2.2.2.2, C.2.1.to hh.2.2.2.1 hU hW (va_free0 hh.2.2.1 hh.2.2.2.1 C.1.2.2.2.2.2.2.1)⟩
theorem kb_post (C : XC p R s m args c D d A cc nL own lvl zc zs) {H H1 : Heap} {locs locs1 : List Loc} {LB : g_B} {L' : va_W} (hh : XH D d K A s zc zs L M LB H locs) {t : State} (ht : t.heap = H1) {u : g_M × g_B} (hB : kB D d K L' (nC M LB) (nS M LB) H.size (TOT H) (va_A (wd K d L M LB) H.size) u t) (hS1 : va_S A s.heap H1 locs1) : XH D d K A s zc zs L' u.1 u.2 H1 locs1 := by
  obtain ⟨b1, b2, b3, b4, b5⟩ := hB
  rw [ht] at b2 b4 b5
  obtain ⟨h1, h2, h3, h4, h5, h6⟩ := hh
  exact ⟨b1, b2, b3.weaken (fun k q _ h => va_free0 h3 h4 C.1.2.2.2.2.2.2.1 _ h), hS1, by omega, by omega⟩
theorem W.grow {H : Heap} {locs : List Loc} {ck sl : Nat} {g : JFrame} (kk : TOT s.heap ≤ TOT H → W p l e R s m args below meth c H locs ck sl Q g) : W p l e R s m args below meth c H locs ck sl Q g := by
  intro T hT Y
  have h0 := tot_same Y.same
  have h3 : TOT (T.setVm s.vm).heap = TOT H := by show TOT T.heap = _; rw [hT]
  exact kk (by omega) T hT Y
theorem xroom (C : XC p R s m args c D d A cc nL own lvl zc zs) {H : Heap} {locs : List Loc} {LB : g_B} (hh : XH D d K A s zc zs L M LB H locs) (hwt : TOT s.heap ≤ TOT H) : H.size - s.heap.size + cC M LB ≤ R.cells ∧ TOT H - TOT s.heap + cS M LB ≤ R.slots := by
  obtain ⟨h1, h2, h3, h4, h5, h6⟩ := hh
  have hc := h1.cap
  have hz := h4.1
  obtain ⟨-, -, -, -, c1, c2⟩ := C
  unfold cC cS
  omega
theorem x_callVi (C : XC p R s m args c D d A cc nL own lvl zc zs) {y : MethodName} {bb : ByteArray} {nY nA index : Nat} {ret : Option FieldType} {n : Nat} (F : g_mf y bb nY ret nA) (G : g_mv y) (hlink : Cond.methodLink own index y ∈ gW) {j0 : Nat} {As rest : List Value} {FF : (Int → g_M → Prop) → g_M → Prop} {Q1 : Int → g_M → Prop} (hM : MI l D d K y bb nY ret n (.ref (K j0) :: As) FF) (h : FF Q1 M) (hj0 : j0 < 91) {ci : Nat} {T : u_T} {N : Nat} {fs : List Value} (he : ∀ B, we K d B (M (40 + j0)) j0 = .inr (ci, fs)) (hci : gCl[ci]? = some (y.cls, T, N)) (hn : n + 1 ≤ lvl) (hnY : nY ≤ 31) (hrest : (rest.map fun v => v.category).sum ≤ 8) {st0 : List Value} (hst : st0 = As.reverse ++ .ref (K j0) :: rest) (hlen : As.length = nA) (dg : decode cc pc = .ok (.invokevirtual index, 3)) (k : ∀ (v : Int) (M1 : g_M), Q1 v M1 → X p l e R s m args below meth c Q D d K A nL zc zs L M1 lv (pc + 3) (iv v :: rest)) : X p l e R s m args below meth c Q D d K A nL zc zs L M lv pc st0 := by
  intro H locs ls LB hh hl
  refine W.grow (fun hwt => ?_)
  have hr := xroom C hh hwt
  have hwz := hh.2.2.2.1.1
  refine W.tight (k := H.size - s.heap.size) (n := TOT H - TOT s.heap) (by omega) (by omega) ?_
  have cw : CallW R s args own y.cls index y bb nY ret (g_wd y bb nY ret) (g_rmx n M LB) (cC M LB) (cS M LB) nA := ⟨callB_of nA C.1.2.2.2.2.1 (g_goodC F.1) rfl rfl rfl (C.1.2.2.2.2.1 _ F.2.1) (C.1.2.2.2.2.1 _ hlink) F.2.2 ⟨by show n + 6 + 1 ≤ _; have := C.2.2.1; omega, by show 8 + (nY + 11) + (150 + 50 * n) ≤ _; have := C.2.2.2.1; omega⟩, C.1.2.2.2.2.1 _ G.1, C.1.2.2.2.2.1 _ G.2⟩
  refine va_calli (va_runV (Ts := gW) ⟨C.1.1, C.1.2.1, C.1.2.2.1, C.1.2.2.2.1, C.1.2.2.2.2.1⟩ (hM L M LB H.size (TOT H) Q1 h) cw ⟨kp_blind, va_recv C.1.2.2.2.2.2.1 hh.2.1 hci ((fx_at K d L M LB hj0).trans (by rw [he])), fun U hU hW => ⟨rfl, kp_pre C hh hU hW⟩⟩ rfl hlen hl.1 hst (lv_room hrest) dg hr) hh.2.2.2.1 (fun q _ h => va_free0 hh.2.2.1 hh.2.2.2.1 C.1.2.2.2.2.2.2.1 q h) (va_free0 hh.2.2.1 hh.2.2.2.1 C.1.2.2.2.2.2.2.1) (fun r u t H1 locs1 ht hvm hw9 hB hz1 hk1 hS1 => ?_)
  obtain ⟨rfl, hq⟩ := hw9
  exact W.widen hr.1 hr.2 (k u.1 u.2.1 hq H1 locs1 ls u.2.2 (kb_post C hh ht hB hS1) hl)
theorem x_callVv (C : XC p R s m args c D d A cc nL own lvl zc zs) {y : MethodName} {bb : ByteArray} {nY nA index : Nat} {ret : Option FieldType} {n : Nat} (F : g_mf y bb nY ret nA) (G : g_mv y) (hlink : Cond.methodLink own index y ∈ gW) {j0 : Nat} {As rest : List Value} {FF : (g_M → Prop) → g_M → Prop} {Q1 : g_M → Prop} (hM : MV l D d K y bb nY ret n (.ref (K j0) :: As) FF) (h : FF Q1 M) (hj0 : j0 < 91) {ci : Nat} {T : u_T} {N : Nat} {fs : List Value} (he : ∀ B, we K d B (M (40 + j0)) j0 = .inr (ci, fs)) (hci : gCl[ci]? = some (y.cls, T, N)) (hn : n + 1 ≤ lvl) (hnY : nY ≤ 31) (hrest : (rest.map fun v => v.category).sum ≤ 8) {st0 : List Value} (hst : st0 = As.reverse ++ .ref (K j0) :: rest) (hlen : As.length = nA) (dg : decode cc pc = .ok (.invokevirtual index, 3)) (k : ∀ M1 : g_M, Q1 M1 → X p l e R s m args below meth c Q D d K A nL zc zs L M1 lv (pc + 3) rest) : X p l e R s m args below meth c Q D d K A nL zc zs L M lv pc st0 := by
  intro H locs ls LB hh hl
  refine W.grow (fun hwt => ?_)
  have hr := xroom C hh hwt
  have hwz := hh.2.2.2.1.1
  refine W.tight (k := H.size - s.heap.size) (n := TOT H - TOT s.heap) (by omega) (by omega) ?_
  have cw : CallW R s args own y.cls index y bb nY ret (g_wd y bb nY ret) (g_rmx n M LB) (cC M LB) (cS M LB) nA := ⟨callB_of nA C.1.2.2.2.2.1 (g_goodC F.1) rfl rfl rfl (C.1.2.2.2.2.1 _ F.2.1) (C.1.2.2.2.2.1 _ hlink) F.2.2 ⟨by show n + 6 + 1 ≤ _; have := C.2.2.1; omega, by show 8 + (nY + 11) + (150 + 50 * n) ≤ _; have := C.2.2.2.1; omega⟩, C.1.2.2.2.2.1 _ G.1, C.1.2.2.2.2.1 _ G.2⟩
  refine va_callv (va_runV (Ts := gW) ⟨C.1.1, C.1.2.1, C.1.2.2.1, C.1.2.2.2.1, C.1.2.2.2.2.1⟩ (hM L M LB H.size (TOT H) Q1 h) cw ⟨kp_blind, va_recv C.1.2.2.2.2.2.1 hh.2.1 hci ((fx_at K d L M LB hj0).trans (by rw [he])), fun U hU hW => ⟨rfl, kp_pre C hh hU hW⟩⟩ rfl hlen hl.1 hst (lv_room hrest) dg hr) hh.2.2.2.1 (fun q _ h => va_free0 hh.2.2.1 hh.2.2.2.1 C.1.2.2.2.2.2.2.1 q h) (va_free0 hh.2.2.1 hh.2.2.2.1 C.1.2.2.2.2.2.2.1) (fun u t H1 locs1 ht hvm hw9 hB hz1 hk1 hS1 => ?_)
  exact W.widen hr.1 hr.2 (k u.1 hw9 H1 locs1 ls u.2 (kb_post C hh ht hB hS1) hl)
theorem x_callSi (C : XC p R s m args c D d A cc nL own lvl zc zs) {y : MethodName} {bb : ByteArray} {nY nA index : Nat} {ret : Option FieldType} {n : Nat} (F : g_mf y bb nY ret nA) (hstat : Cond.static y ∈ gW) (hlink : Cond.methodLink own index y ∈ gW) {As rest : List Value} {FF : (Int → g_M → Prop) → g_M → Prop} {Q1 : Int → g_M → Prop} (hM : MI l D d K y bb nY ret n As FF) (h : FF Q1 M) (hn : n + 1 ≤ lvl) (hnY : nY ≤ 31) (hrest : (rest.map fun v => v.category).sum ≤ 8) {st0 : List Value} (hst : st0 = As.reverse ++ rest) (hlen : As.length = nA) (dg : decode cc pc = .ok (.invokestatic index, 3)) (k : ∀ (v : Int) (M1 : g_M), Q1 v M1 → X p l e R s m args below meth c Q D d K A nL zc zs L M1 lv (pc + 3) (iv v :: rest)) : X p l e R s m args below meth c Q D d K A nL zc zs L M lv pc st0 := by
  intro H locs ls LB hh hl
  refine W.grow (fun hwt => ?_)
  have hr := xroom C hh hwt
  have hwz := hh.2.2.2.1.1
  refine W.tight (k := H.size - s.heap.size) (n := TOT H - TOT s.heap) (by omega) (by omega) ?_
  have cw : CallB R s args own index y bb nY ret (g_wd y bb nY ret) (g_rmx n M LB) (cC M LB) (cS M LB) nA ∧ (Cond.static y).before args s = true := ⟨callB_of nA C.1.2.2.2.2.1 (g_goodC F.1) rfl rfl rfl (C.1.2.2.2.2.1 _ F.2.1) (C.1.2.2.2.2.1 _ hlink) F.2.2 ⟨by show n + 6 + 1 ≤ _; have := C.2.2.1; omega, by show 8 + (nY + 11) + (150 + 50 * n) ≤ _; have := C.2.2.2.1; omega⟩, C.1.2.2.2.2.1 _ hstat⟩
  refine va_calli (va_runS (Ts := gW) ⟨C.1.1, C.1.2.1, C.1.2.2.1, C.1.2.2.2.1, C.1.2.2.2.2.1⟩ (hM L M LB H.size (TOT H) Q1 h) cw ⟨kp_blind, fun U hU hW => ⟨rfl, kp_pre C hh hU hW⟩⟩ rfl hlen hl.1 hst (lv_room hrest) dg hr) hh.2.2.2.1 (fun q _ h => va_free0 hh.2.2.1 hh.2.2.2.1 C.1.2.2.2.2.2.2.1 q h) (va_free0 hh.2.2.1 hh.2.2.2.1 C.1.2.2.2.2.2.2.1) (fun r u t H1 locs1 ht hvm hw9 hB hz1 hk1 hS1 => ?_)
  obtain ⟨rfl, hq⟩ := hw9
  exact W.widen hr.1 hr.2 (k u.1 u.2.1 hq H1 locs1 ls u.2.2 (kb_post C hh ht hB hS1) hl)
theorem x_callSv (C : XC p R s m args c D d A cc nL own lvl zc zs) {y : MethodName} {bb : ByteArray} {nY nA index : Nat} {ret : Option FieldType} {n : Nat} (F : g_mf y bb nY ret nA) (hstat : Cond.static y ∈ gW) (hlink : Cond.methodLink own index y ∈ gW) {As rest : List Value} {FF : (g_M → Prop) → g_M → Prop} {Q1 : g_M → Prop} (hM : MV l D d K y bb nY ret n As FF) (h : FF Q1 M) (hn : n + 1 ≤ lvl) (hnY : nY ≤ 31) (hrest : (rest.map fun v => v.category).sum ≤ 8) {st0 : List Value} (hst : st0 = As.reverse ++ rest) (hlen : As.length = nA) (dg : decode cc pc = .ok (.invokestatic index, 3)) (k : ∀ M1 : g_M, Q1 M1 → X p l e R s m args below meth c Q D d K A nL zc zs L M1 lv (pc + 3) rest) : X p l e R s m args below meth c Q D d K A nL zc zs L M lv pc st0 := by
  intro H locs ls LB hh hl
  refine W.grow (fun hwt => ?_)
  have hr := xroom C hh hwt
  have hwz := hh.2.2.2.1.1
  refine W.tight (k := H.size - s.heap.size) (n := TOT H - TOT s.heap) (by omega) (by omega) ?_
  have cw : CallB R s args own index y bb nY ret (g_wd y bb nY ret) (g_rmx n M LB) (cC M LB) (cS M LB) nA ∧ (Cond.static y).before args s = true := ⟨callB_of nA C.1.2.2.2.2.1 (g_goodC F.1) rfl rfl rfl (C.1.2.2.2.2.1 _ F.2.1) (C.1.2.2.2.2.1 _ hlink) F.2.2 ⟨by show n + 6 + 1 ≤ _; have := C.2.2.1; omega, by show 8 + (nY + 11) + (150 + 50 * n) ≤ _; have := C.2.2.2.1; omega⟩, C.1.2.2.2.2.1 _ hstat⟩
  refine va_callv (va_runS (Ts := gW) ⟨C.1.1, C.1.2.1, C.1.2.2.1, C.1.2.2.2.1, C.1.2.2.2.2.1⟩ (hM L M LB H.size (TOT H) Q1 h) cw ⟨kp_blind, fun U hU hW => ⟨rfl, kp_pre C hh hU hW⟩⟩ rfl hlen hl.1 hst (lv_room hrest) dg hr) hh.2.2.2.1 (fun q _ h => va_free0 hh.2.2.1 hh.2.2.2.1 C.1.2.2.2.2.2.2.1 q h) (va_free0 hh.2.2.1 hh.2.2.2.1 C.1.2.2.2.2.2.2.1) (fun u t H1 locs1 ht hvm hw9 hB hz1 hk1 hS1 => ?_)
  exact W.widen hr.1 hr.2 (k u.1 hw9 H1 locs1 ls u.2 (kb_post C hh ht hB hS1) hl)
theorem x_callWi (C : XC p R s m args c D d A cc nL own lvl zc zs) {y : MethodName} {bb : ByteArray} {nY nA index : Nat} {ret : Option FieldType} {n : Nat} {th : List (Nat × Nat × Nat × Nat)} (F : Cond.codeWith y bb nY ret th ∈ gW ∧ Cond.initialized y.cls ∈ gW ∧ (y.cls ≠ "java/lang/invoke/MethodHandle" ∧ y.cls ≠ "java/lang/invoke/VarHandle" ∧ (parseMethodDescriptor y.desc).map (fun d => d.parameters.length) = some nA)) (hstat : Cond.static y ∈ gW) (hlink : Cond.methodLink own index y ∈ gW) {As rest : List Value} {FF : (Int → g_M → Prop) → g_M → Prop} {Q1 : Int → g_M → Prop} (hM : MH l D d K y bb nY ret th n As FF) (h : FF Q1 M) (hn : n + 1 ≤ lvl) (hnY : nY ≤ 31) (hrest : (rest.map fun v => v.category).sum ≤ 8) {st0 : List Value} (hst : st0 = As.reverse ++ rest) (hlen : As.length = nA) (dg : decode cc pc = .ok (.invokestatic index, 3)) (k : ∀ (v : Int) (M1 : g_M), Q1 v M1 → X p l e R s m args below meth c Q D d K A nL zc zs L M1 lv (pc + 3) (iv v :: rest)) : X p l e R s m args below meth c Q D d K A nL zc zs L M lv pc st0 := by
  intro H locs ls LB hh hl
  refine W.grow (fun hwt => ?_)
  have hr := xroom C hh hwt
  have hwz := hh.2.2.2.1.1
  refine W.tight (k := H.size - s.heap.size) (n := TOT H - TOT s.heap) (by omega) (by omega) ?_
  have hG9 : GoodIn gW (va_wsS own index y (g_wh y bb nY ret th)) := g_goodA (a := [.methodLink own index y, .static y, .initialized y.cls]) (fun w hw => (List.mem_cons.mp hw).elim (fun e => by rw [e]; exact hlink) (fun hw => (List.mem_cons.mp hw).elim (fun e => by rw [e]; exact hstat) (fun hw => (List.mem_cons.mp hw).elim (fun e => by rw [e]; exact F.2.1) (fun hw => nomatch hw)))) (g_goodC F.1)
  have cw : vx_CSW R s args own index y bb nY ret th (g_wh y bb nY ret th) (g_rmx n M LB) (cC M LB) (cS M LB) nA := vx_cwSW nA C.1.2.2.2.2.1 hG9 rfl rfl rfl F.2.2 ⟨by show n + 6 + 1 ≤ _; have := C.2.2.1; omega, by show 8 + (nY + 11) + (150 + 50 * n) ≤ _; have := C.2.2.2.1; omega⟩
  refine va_calli (vx_runSW (Ts := gW) ⟨C.1.1, C.1.2.1, C.1.2.2.1, C.1.2.2.2.1, C.1.2.2.2.2.1⟩ (hM L M LB H.size (TOT H) Q1 h) cw ⟨kp_blind, fun U hU hW => ⟨rfl, kp_pre C hh hU hW⟩⟩ rfl hlen hl.1 hst (lv_room hrest) dg hr) hh.2.2.2.1 (fun q _ h => va_free0 hh.2.2.1 hh.2.2.2.1 C.1.2.2.2.2.2.2.1 q h) (va_free0 hh.2.2.1 hh.2.2.2.1 C.1.2.2.2.2.2.2.1) (fun r u t H1 locs1 ht hvm hw9 hB hz1 hk1 hS1 => ?_)
  obtain ⟨rfl, hq⟩ := hw9
  exact W.widen hr.1 hr.2 (k u.1 u.2.1 hq H1 locs1 ls u.2.2 (kb_post C hh ht hB hS1) hl)
theorem x_callXi (C : XC p R s m args c D d A cc nL own lvl zc zs) {y : MethodName} {bb : ByteArray} {nY nA index : Nat} {ret : Option FieldType} {n : Nat} (F : g_mf y bb nY ret nA) (G : g_mv y) {j0 : Nat} (hlink : Cond.methodLink own index y ∈ gW) {As rest : List Value} {EX : String} {FF : (Int → g_M → Prop) → (g_M → Prop) → g_M → Prop} {Q1 : Int → g_M → Prop} {QE1 : g_M → Prop} (hM : MX l D d K y bb nY ret n (.ref (K j0) :: As) EX FF) (h : FF Q1 QE1 M) (hj0 : j0 < 91) {ci : Nat} {T : u_T} {N : Nat} {fs : List Value} (he : ∀ B, we K d B (M (40 + j0)) j0 = .inr (ci, fs)) (hci : gCl[ci]? = some (y.cls, T, N)) (hn : n + 1 ≤ lvl) (hnY : nY ≤ 31) (hrest : (rest.map fun v => v.category).sum ≤ 8) {st0 : List Value} (hst : st0 = As.reverse ++ .ref (K j0) :: rest) (hlen : As.length = nA) (x : ExceptionTableEntry) (suf : List ExceptionTableEntry) (hsplit : c.exceptionTable.toList = x :: suf) (hx : covers x pc = true) (h0 : x.catchType ≠ 0) (hcl : Cond.classLink own x.catchType EX ∈ gW) (hcast : Cond.castable EX EX ∈ gB) (dg : decode cc pc = .ok (.invokevirtual index, 3)) (k : ∀ (v : Int) (M1 : g_M), Q1 v M1 → X p l e R s m args below meth c Q D d K A nL zc zs L M1 lv (pc + 3) (iv v :: rest)) (kx : ∀ (q9 : Nat) (M1 : g_M), QE1 M1 → X p l e R s m args below meth c Q D d K A nL zc zs L M1 lv x.handlerPc [.ref q9]) : X p l e R s m args below meth c Q D d K A nL zc zs L M lv pc st0 := by
  intro H locs ls LB hh hl
  refine W.grow (fun hwt => ?_)
  have hr := xroom C hh hwt
  have hwz := hh.2.2.2.1.1
  refine W.tight (k := H.size - s.heap.size) (n := TOT H - TOT s.heap) (by omega) (by omega) ?_
  have cw : CallW R s args own y.cls index y bb nY ret (g_wd y bb nY ret) (g_rmx n M LB) (cC M LB) (cS M LB) nA := ⟨callB_of nA C.1.2.2.2.2.1 (g_goodC F.1) rfl rfl rfl (C.1.2.2.2.2.1 _ F.2.1) (C.1.2.2.2.2.1 _ hlink) F.2.2 ⟨by show n + 6 + 1 ≤ _; have := C.2.2.1; omega, by show 8 + (nY + 11) + (150 + 50 * n) ≤ _; have := C.2.2.2.1; omega⟩, C.1.2.2.2.2.1 _ G.1, C.1.2.2.2.2.1 _ G.2⟩
  have hFc := va_free0 hh.2.2.1 hh.2.2.2.1 C.1.2.2.2.2.2.2.1
  refine vx_calli (vx_runV (Ts := gW) ⟨C.1.1, C.1.2.1, C.1.2.2.1, C.1.2.2.2.1, C.1.2.2.2.2.1⟩ (hM L M LB H.size (TOT H) Q1 QE1 h) cw ⟨kp_blind, va_recv C.1.2.2.2.2.2.1 hh.2.1 hci ((fx_at K d L M LB hj0).trans (by rw [he])), fun U hU hW => ⟨rfl, kp_pre C hh hU hW⟩⟩ rfl hlen hl.1 hst (lv_room hrest) dg hr) hh.2.2.2.1 (fun q _ h => hFc q h) hFc (fun q _ h => hFc q h) (fun E' ce q9 u t H1 locs1 ht hvm hpx hBX hz1 hk1 hS1 hce hcv hcls => ?_) (fun r u t H1 locs1 ht hvm hw9 hB hz1 hk1 hS1 => ?_)
  · obtain ⟨rfl, hB⟩ := hBX
    refine vx_widen hr.1 hr.2 ?_
    exact vx_catch C.1.2.2.2.1 [] x suf hsplit (fun z hz => by cases hz) hx h0 (C.1.2.2.2.2.1 _ hcl) ((C.1.2.2.2.2.2.2.2.2 _ hcast).use rfl) hce hcv hcls (kx q9 u.1 hpx H1 locs1 ls u.2 (kb_post C hh ht hB hS1) hl)
  · obtain ⟨rfl, hq⟩ := hw9
    exact W.widen hr.1 hr.2 (k u.1 u.2.1 hq H1 locs1 ls u.2.2 (kb_post C hh ht hB hS1) hl)
def RTI (p : Program) (l : Launch) (e : Env) (R : Room) (s : State) (m : MethodId) (args : Array Value) (below : List Frame) (meth : Method) (c : Code) (Q : State → Prop) (D : va_G) (d : Nat → ClassId) (K : Nat → Nat) (A : Nat → Prop) (nL : Nat) (zc zs : Int) (L : va_W) (cc : ByteArray) (Q1 : Int → g_M → Prop) : Prop := ∀ (r : Int) (M : g_M) (lv : List (Nat × Value)) (pc : Nat), decode cc pc = .ok (.ireturn, 1) → Q1 r M → X p l e R s m args below meth c Q D d K A nL zc zs L M lv pc [iv r]
def RTZ (p : Program) (l : Launch) (e : Env) (R : Room) (s : State) (m : MethodId) (args : Array Value) (below : List Frame) (meth : Method) (c : Code) (Q : State → Prop) (D : va_G) (d : Nat → ClassId) (K : Nat → Nat) (A : Nat → Prop) (nL : Nat) (zc zs : Int) (L : va_W) (cc : ByteArray) (Q1 : Int → g_M → Prop) : Prop := ∀ (r : Int) (M : g_M) (lv : List (Nat × Value)) (pc : Nat), decode cc pc = .ok (.ireturn, 1) → isB r → Q1 r M → X p l e R s m args below meth c Q D d K A nL zc zs L M lv pc [iv r]
def RTY (p : Program) (l : Launch) (e : Env) (R : Room) (s : State) (m : MethodId) (args : Array Value) (below : List Frame) (meth : Method) (c : Code) (Q : State → Prop) (D : va_G) (d : Nat → ClassId) (K : Nat → Nat) (A : Nat → Prop) (nL : Nat) (zc zs : Int) (L : va_W) (cc : ByteArray) (Q1 : Int → g_M → Prop) : Prop := ∀ (r : Int) (M : g_M) (lv : List (Nat × Value)) (pc : Nat), decode cc pc = .ok (.ireturn, 1) → isY r → Q1 r M → X p l e R s m args below meth c Q D d K A nL zc zs L M lv pc [iv r]
def RTV (p : Program) (l : Launch) (e : Env) (R : Room) (s : State) (m : MethodId) (args : Array Value) (below : List Frame) (meth : Method) (c : Code) (Q : State → Prop) (D : va_G) (d : Nat → ClassId) (K : Nat → Nat) (A : Nat → Prop) (nL : Nat) (zc zs : Int) (L : va_W) (cc : ByteArray) (Q1 : g_M → Prop) : Prop := ∀ (M : g_M) (lv : List (Nat × Value)) (pc : Nat), decode cc pc = .ok (.return_, 1) → Q1 M → X p l e R s m args below meth c Q D d K A nL zc zs L M lv pc []
def HTW (p : Program) (l : Launch) (e : Env) (R : Room) (s : State) (m : MethodId) (args : Array Value) (below : List Frame) (meth : Method) (c : Code) (Q : State → Prop) (D : va_G) (d : Nat → ClassId) (K : Nat → Nat) (A : Nat → Prop) (nL : Nat) (zc zs : Int) (L : va_W) (cc : ByteArray) (ln ic : Nat) (ld : Nat → Instr) (EX : String) (QE : g_M → Prop) : Prop := ∀ (M : g_M) {lv : List (Nat × Value)} {pc ik is : Nat} {text : String}, M 99 0 < 1000 → QE (up M 99 0 (M 99 0 + 1)) → Cond.classLink RX11 ik EX ∈ gW → Cond.initialized EX ∈ gW → (is, text) ∈ gTx → decode cc pc = .ok (.new ik, 3) → decode cc (pc + 3) = .ok (.dup, 1) → decode cc (pc + 4) = .ok (ld is, ln) → decode cc (pc + (4 + ln)) = .ok (.invokespecial ic, 3) → decode cc (pc + (7 + ln)) = .ok (.athrow, 1) → X p l e R s m args below meth c Q D d K A nL zc zs L M lv pc []
end XD
section XM
variable {l : Launch} {D : va_G} {d : Nat → ClassId} {K : Nat → Nat} {y : MethodName} {av : List Value} {cc : ByteArray} {maxL n : Nat} {ret : Option FieldType}
theorem xc_start {p : Program} {s : State} {m : MethodId} {args : Array Value} {c : Code} {L : va_W} {M : g_M} {LB : g_B} {sz tz : Nat} (hx : p.tables.exec = Jvm.exec) (hb : c.code = cc) (hml : c.maxLocals = maxL) (hown : s.vm.findClass y.cls = some m.cls) (hts : ∀ w ∈ gW, w.before args s = true) (hv : kP D d K L M LB sz tz s) : XC p (g_rmx n M LB) s m args c D d (va_A (wd K d L M LB) sz) cc maxL y.cls n (s.heap.size - nC M LB) (TOT s.heap - nS M LB) ∧ XH D d K (va_A (wd K d L M LB) sz) s (s.heap.size - nC M LB) (TOT s.heap - nS M LB) L M LB s.heap [] := by
  obtain ⟨hsz, htz, hwf, hP, hK, hD0, hO, hB, hE⟩ := hv
  subst hsz
  have hc := hwf.cap
  refine ⟨⟨⟨hx, hb, hml, hown, hts, hK, fun q h => Or.inr h, hO, hB⟩, hE, Nat.le_refl _, Nat.le_refl _, ?_, ?_⟩, hwf, hP, hD0.self, va_S.rf, ?_, ?_⟩
  · show _ ≤ ((cC M LB : Nat) : Int)
    unfold cC
    omega
  · show _ ≤ ((cS M LB : Nat) : Int)
    unfold cS
    omega
  · omega
  · omega
theorem s_mi (hy : plainName y.cls = true) (hlen : (lg_sl av).length ≤ maxL) (lv0 : List (Nat × Value)) (hlv : lv_args 0 av = lv0) (hrt : ret = some .int) {F : (Int → g_M → Prop) → g_M → Prop}
    (body : ∀ (p : Program) (e : Env) (R : Room) (s : State) (m : MethodId) (args : Array Value) (below : List Frame) (meth : Method) (c : Code) (A : Nat → Prop) (L : va_W) (M : g_M) (zc zs : Int) (Q : Int → g_M → Prop) (Qg : State → Prop), XC p R s m args c D d A cc maxL y.cls n zc zs → RTI p l e R s m args below meth c Qg D d K A maxL zc zs L cc Q → F Q M → X p l e R s m args below meth c Qg D d K A maxL zc zs L M lv0 0 []) : MI l D d K y cc maxL ret n av F := by
  intro L M LB sz tz Q hF
  refine Met.ofW (cc := cc) (maxL := maxL) (ret := ret) hy rfl ?_
  intro p e s m args below meth c s₁ B hml hv
  obtain ⟨rfl, hv⟩ := hv
  rw [lg_entry_eq]
  have hts := atoms_spec (ws := g_wd y cc maxL ret) B.pre
  have hR := B.returns
  have hlk := B.notSynchronized
  obtain ⟨C, h0⟩ := xc_start (n := n) B.exec B.bytes hml (findClass_of_methodNamed B.named) (fun w hw => hts w (List.mem_cons_of_mem _ hw)) hv
  have K9 : X p l e (g_rmx n M LB) s m av.toArray below meth c (MQ below (qI D d K L (nC M LB) (nS M LB) sz tz Q (va_A (wd K d L M LB) sz)) av.toArray s (cC M LB) (cS M LB) (va_A (wd K d L M LB) sz)) D d K (va_A (wd K d L M LB) sz) maxL (s.heap.size - nC M LB) (TOT s.heap - nS M LB) L M lv0 0 [] := by
    have hret : RTI p l e (g_rmx n M LB) s m av.toArray below meth c (MQ below (qI D d K L (nC M LB) (nS M LB) sz tz Q (va_A (wd K d L M LB) sz)) av.toArray s (cC M LB) (cS M LB) (va_A (wd K d L M LB) sz)) D d K (va_A (wd K d L M LB) sz) maxL (s.heap.size - nC M LB) (TOT s.heap - nS M LB) L cc Q := by
      intro r M1 lv1 pc1 dg hq H locs ls LB1 h1 hl
      refine W.iret C.1.1 C.1.2.1 (hR.trans hrt) (fun t ht hW => ⟨⟨Int32.ofInt r, (r, M1, LB1), rfl, ⟨rfl, hq⟩, ?_⟩, h1.2.2.2.1.F ht⟩) h1.2.2.2.1.2.2 dg hlk
      refine ⟨h1.1, by rw [ht]; exact h1.2.1, h1.2.2.1, ?_, ?_⟩
      · rw [ht]
        have := h1.2.2.2.2.1
        have := hv.1
        dsimp only
        omega
      · rw [ht]
        have := h1.2.2.2.2.2
        have := hv.2.1
        dsimp only
        omega
    exact body _ _ _ _ _ _ _ _ _ _ _ _ _ _ _ _ C hret hF
  exact W.widen (Nat.zero_le _) (Nat.zero_le _) (K9 s.heap [] _ LB h0 (hlv ▸ lv_entry av hlen))
theorem s_mz (hy : plainName y.cls = true) (hlen : (lg_sl av).length ≤ maxL) (lv0 : List (Nat × Value)) (hlv : lv_args 0 av = lv0) (hrt : ret = some .boolean) {F : (Int → g_M → Prop) → g_M → Prop}
    (body : ∀ (p : Program) (e : Env) (R : Room) (s : State) (m : MethodId) (args : Array Value) (below : List Frame) (meth : Method) (c : Code) (A : Nat → Prop) (L : va_W) (M : g_M) (zc zs : Int) (Q : Int → g_M → Prop) (Qg : State → Prop), XC p R s m args c D d A cc maxL y.cls n zc zs → RTZ p l e R s m args below meth c Qg D d K A maxL zc zs L cc Q → F Q M → X p l e R s m args below meth c Qg D d K A maxL zc zs L M lv0 0 []) : MI l D d K y cc maxL ret n av F := by
  intro L M LB sz tz Q hF
  refine Met.ofW (cc := cc) (maxL := maxL) (ret := ret) hy rfl ?_
  intro p e s m args below meth c s₁ B hml hv
  obtain ⟨rfl, hv⟩ := hv
  rw [lg_entry_eq]
  have hts := atoms_spec (ws := g_wd y cc maxL ret) B.pre
  have hR := B.returns
  have hlk := B.notSynchronized
  obtain ⟨C, h0⟩ := xc_start (n := n) B.exec B.bytes hml (findClass_of_methodNamed B.named) (fun w hw => hts w (List.mem_cons_of_mem _ hw)) hv
  have K9 : X p l e (g_rmx n M LB) s m av.toArray below meth c (MQ below (qI D d K L (nC M LB) (nS M LB) sz tz Q (va_A (wd K d L M LB) sz)) av.toArray s (cC M LB) (cS M LB) (va_A (wd K d L M LB) sz)) D d K (va_A (wd K d L M LB) sz) maxL (s.heap.size - nC M LB) (TOT s.heap - nS M LB) L M lv0 0 [] := by
    have hret : RTZ p l e (g_rmx n M LB) s m av.toArray below meth c (MQ below (qI D d K L (nC M LB) (nS M LB) sz tz Q (va_A (wd K d L M LB) sz)) av.toArray s (cC M LB) (cS M LB) (va_A (wd K d L M LB) sz)) D d K (va_A (wd K d L M LB) sz) maxL (s.heap.size - nC M LB) (TOT s.heap - nS M LB) L cc Q := by
      intro r M1 lv1 pc1 dg hb9 hq H locs ls LB1 h1 hl
      refine W.zret C.1.1 C.1.2.1 (hR.trans hrt) (i_bool hb9).1 (fun t ht hW => ⟨⟨Int32.ofInt r, (r, M1, LB1), rfl, ⟨rfl, hq⟩, ?_⟩, h1.2.2.2.1.F ht⟩) h1.2.2.2.1.2.2 dg hlk
      refine ⟨h1.1, by rw [ht]; exact h1.2.1, h1.2.2.1, ?_, ?_⟩
      · rw [ht]
        have := h1.2.2.2.2.1
        have := hv.1
        dsimp only
        omega
      · rw [ht]
        have := h1.2.2.2.2.2
        have := hv.2.1
        dsimp only
        omega
    exact body _ _ _ _ _ _ _ _ _ _ _ _ _ _ _ _ C hret hF
  exact W.widen (Nat.zero_le _) (Nat.zero_le _) (K9 s.heap [] _ LB h0 (hlv ▸ lv_entry av hlen))
theorem s_my (hy : plainName y.cls = true) (hlen : (lg_sl av).length ≤ maxL) (lv0 : List (Nat × Value)) (hlv : lv_args 0 av = lv0) (hrt : ret = some .byte) {F : (Int → g_M → Prop) → g_M → Prop}
    (body : ∀ (p : Program) (e : Env) (R : Room) (s : State) (m : MethodId) (args : Array Value) (below : List Frame) (meth : Method) (c : Code) (A : Nat → Prop) (L : va_W) (M : g_M) (zc zs : Int) (Q : Int → g_M → Prop) (Qg : State → Prop), XC p R s m args c D d A cc maxL y.cls n zc zs → RTY p l e R s m args below meth c Qg D d K A maxL zc zs L cc Q → F Q M → X p l e R s m args below meth c Qg D d K A maxL zc zs L M lv0 0 []) : MI l D d K y cc maxL ret n av F := by
  intro L M LB sz tz Q hF
  refine Met.ofW (cc := cc) (maxL := maxL) (ret := ret) hy rfl ?_
  intro p e s m args below meth c s₁ B hml hv
  obtain ⟨rfl, hv⟩ := hv
  rw [lg_entry_eq]
  have hts := atoms_spec (ws := g_wd y cc maxL ret) B.pre
  have hR := B.returns
  have hlk := B.notSynchronized
  obtain ⟨C, h0⟩ := xc_start (n := n) B.exec B.bytes hml (findClass_of_methodNamed B.named) (fun w hw => hts w (List.mem_cons_of_mem _ hw)) hv
  have K9 : X p l e (g_rmx n M LB) s m av.toArray below meth c (MQ below (qI D d K L (nC M LB) (nS M LB) sz tz Q (va_A (wd K d L M LB) sz)) av.toArray s (cC M LB) (cS M LB) (va_A (wd K d L M LB) sz)) D d K (va_A (wd K d L M LB) sz) maxL (s.heap.size - nC M LB) (TOT s.heap - nS M LB) L M lv0 0 [] := by
    have hret : RTY p l e (g_rmx n M LB) s m av.toArray below meth c (MQ below (qI D d K L (nC M LB) (nS M LB) sz tz Q (va_A (wd K d L M LB) sz)) av.toArray s (cC M LB) (cS M LB) (va_A (wd K d L M LB) sz)) D d K (va_A (wd K d L M LB) sz) maxL (s.heap.size - nC M LB) (TOT s.heap - nS M LB) L cc Q := by
      intro r M1 lv1 pc1 dg hb9 hq H locs ls LB1 h1 hl
      refine W.zret C.1.1 C.1.2.1 (hR.trans hrt) (i_byte hb9) (fun t ht hW => ⟨⟨Int32.ofInt r, (r, M1, LB1), rfl, ⟨rfl, hq⟩, ?_⟩, h1.2.2.2.1.F ht⟩) h1.2.2.2.1.2.2 dg hlk
      refine ⟨h1.1, by rw [ht]; exact h1.2.1, h1.2.2.1, ?_, ?_⟩
      · rw [ht]
        have := h1.2.2.2.2.1
        have := hv.1
        dsimp only
        omega
      · rw [ht]
        have := h1.2.2.2.2.2
        have := hv.2.1
        dsimp only
        omega
    exact body _ _ _ _ _ _ _ _ _ _ _ _ _ _ _ _ C hret hF
  exact W.widen (Nat.zero_le _) (Nat.zero_le _) (K9 s.heap [] _ LB h0 (hlv ▸ lv_entry av hlen))
theorem s_mv (hy : plainName y.cls = true) (hlen : (lg_sl av).length ≤ maxL) (lv0 : List (Nat × Value)) (hlv : lv_args 0 av = lv0) (hrt : ret = none) {F : (g_M → Prop) → g_M → Prop}
    (body : ∀ (p : Program) (e : Env) (R : Room) (s : State) (m : MethodId) (args : Array Value) (below : List Frame) (meth : Method) (c : Code) (A : Nat → Prop) (L : va_W) (M : g_M) (zc zs : Int) (Q : g_M → Prop) (Qg : State → Prop), XC p R s m args c D d A cc maxL y.cls n zc zs → RTV p l e R s m args below meth c Qg D d K A maxL zc zs L cc Q → F Q M → X p l e R s m args below meth c Qg D d K A maxL zc zs L M lv0 0 []) : MV l D d K y cc maxL ret n av F := by
  intro L M LB sz tz Q hF
  refine Met.ofW (cc := cc) (maxL := maxL) (ret := ret) hy rfl ?_
  intro p e s m args below meth c s₁ B hml hv
  obtain ⟨rfl, hv⟩ := hv
  rw [lg_entry_eq]
  have hts := atoms_spec (ws := g_wd y cc maxL ret) B.pre
  have hR := B.returns
  have hlk := B.notSynchronized
  obtain ⟨C, h0⟩ := xc_start (n := n) B.exec B.bytes hml (findClass_of_methodNamed B.named) (fun w hw => hts w (List.mem_cons_of_mem _ hw)) hv
  have K9 : X p l e (g_rmx n M LB) s m av.toArray below meth c (MQ below (qV D d K L (nC M LB) (nS M LB) sz tz Q (va_A (wd K d L M LB) sz)) av.toArray s (cC M LB) (cS M LB) (va_A (wd K d L M LB) sz)) D d K (va_A (wd K d L M LB) sz) maxL (s.heap.size - nC M LB) (TOT s.heap - nS M LB) L M lv0 0 [] := by
    have hret : RTV p l e (g_rmx n M LB) s m av.toArray below meth c (MQ below (qV D d K L (nC M LB) (nS M LB) sz tz Q (va_A (wd K d L M LB) sz)) av.toArray s (cC M LB) (cS M LB) (va_A (wd K d L M LB) sz)) D d K (va_A (wd K d L M LB) sz) maxL (s.heap.size - nC M LB) (TOT s.heap - nS M LB) L cc Q := by
      intro M1 lv1 pc1 dg hq H locs ls LB1 h1 hl
      refine W.vret C.1.1 C.1.2.1 (hR.trans hrt) (fun t ht hW => ⟨⟨(M1, LB1), rfl, hq, ?_⟩, h1.2.2.2.1.F ht⟩) h1.2.2.2.1.2.2 dg hlk
      refine ⟨h1.1, by rw [ht]; exact h1.2.1, h1.2.2.1, ?_, ?_⟩
      · rw [ht]
        have := h1.2.2.2.2.1
        have := hv.1
        dsimp only
        omega
      · rw [ht]
        have := h1.2.2.2.2.2
        have := hv.2.1
        dsimp only
        omega
    exact body _ _ _ _ _ _ _ _ _ _ _ _ _ _ _ _ C hret hF
  exact W.widen (Nat.zero_le _) (Nat.zero_le _) (K9 s.heap [] _ LB h0 (hlv ▸ lv_entry av hlen))
theorem s_mh {hh : List (Nat × Nat × Nat × Nat)} (hy : plainName y.cls = true) (hlen : (lg_sl av).length ≤ maxL) (lv0 : List (Nat × Value)) (hlv : lv_args 0 av = lv0) (hrt : ret = some .int) {F : (Int → g_M → Prop) → g_M → Prop}
    (body : ∀ (p : Program) (e : Env) (R : Room) (s : State) (m : MethodId) (args : Array Value) (below : List Frame) (meth : Method) (c : Code) (A : Nat → Prop) (L : va_W) (M : g_M) (zc zs : Int) (Q : Int → g_M → Prop) (Qg : State → Prop), XC p R s m args c D d A cc maxL y.cls n zc zs → c.exceptionTable.toList = tableOf hh → RTI p l e R s m args below meth c Qg D d K A maxL zc zs L cc Q → F Q M → X p l e R s m args below meth c Qg D d K A maxL zc zs L M lv0 0 []) : MH l D d K y cc maxL ret hh n av F := by
  intro L M LB sz tz Q hF
  refine MetFree.of_bodyS (code := cc) (maxLocals := maxL) (ret := ret) hy ?_ ?_
  · intro args s m h hn
    obtain ⟨m9, meth, c, hn9, h1, h2, h3, h4, -, h5, h6, -⟩ := Cond.codeWith_spec (atoms_spec (ws := g_wh y cc maxL ret hh) h _ List.mem_cons_self)
    cases hn.symm.trans hn9
    exact ⟨meth, c, h1, h2, h3, h4, h5, h6⟩
  · intro p e s m args below meth c s₁ B hml hv _
    obtain ⟨rfl, hv⟩ := hv
    have hh0 : s₁.heap = s.heap := by rw [B.state]; rfl
    have hts := atoms_spec (ws := g_wh y cc maxL ret hh) B.pre
    have htab := vx_table (x := y) B (hts _ List.mem_cons_self)
    have hR := B.returns
    have hlk := B.notSynchronized
    obtain ⟨C, h0⟩ := xc_start (n := n) B.exec B.bytes hml (findClass_of_methodNamed B.named) (fun w hw => hts w (List.mem_cons_of_mem _ hw)) hv
    have hret : RTI p l e (g_rmx n M LB) s m av.toArray below meth c (MQ below (qI D d K L (nC M LB) (nS M LB) sz tz Q (va_A (wd K d L M LB) sz)) av.toArray s (cC M LB) (cS M LB) (va_A (wd K d L M LB) sz)) D d K (va_A (wd K d L M LB) sz) maxL (s.heap.size - nC M LB) (TOT s.heap - nS M LB) L cc Q := by
      intro r M1 lv1 pc1 dg hq H locs ls LB1 h1 hl
      refine W.iret C.1.1 C.1.2.1 (hR.trans hrt) (fun t ht hW => ⟨⟨Int32.ofInt r, (r, M1, LB1), rfl, ⟨rfl, hq⟩, ?_⟩, h1.2.2.2.1.F ht⟩) h1.2.2.2.1.2.2 dg hlk
      refine ⟨h1.1, by rw [ht]; exact h1.2.1, h1.2.2.1, ?_, ?_⟩
      · rw [ht]
        have := h1.2.2.2.2.1
        have := hv.1
        dsimp only
        omega
      · rw [ht]
        have := h1.2.2.2.2.2
        have := hv.2.1
        dsimp only
        omega
    have K9 := W.widen (Nat.zero_le _) (Nat.zero_le _) (body _ _ _ _ _ _ _ _ _ _ _ _ _ _ _ _ C htab hret hF s.heap [] _ LB h0 (hlv ▸ lv_entry av hlen))
    rw [← lg_entry_eq] at K9
    obtain ⟨t, a1, o, b1, b2, b3, b4⟩ := K9 s₁ hh0 (Stand.of_body B)
    exact ⟨t, o, a1, b1, b2, b3, b4⟩
end XM
end
section
theorem EX0 : g_cf RX0 TX0 5 tyX0 := ⟨inW0, tyX0_ok, nmX0⟩
theorem pn_X0 : plainName RX0 = true := by decide +kernel
theorem EX1 : g_cf RX1 TX1 11 tyX1 := ⟨inW1, tyX1_ok, nmX1⟩
theorem pn_X1 : plainName RX1 = true := by decide +kernel
theorem EX2 : g_cf RX2 TX2 20 tyX2 := ⟨inW2, tyX2_ok, nmX2⟩
theorem pn_X2 : plainName RX2 = true := by decide +kernel
theorem EX3 : g_cf RX3 TX3 15 tyX3 := ⟨inW3, tyX3_ok, nmX3⟩
theorem pn_X3 : plainName RX3 = true := by decide +kernel
theorem EX4 : g_cf RX4 TX4 5 tyX4 := ⟨inW4, tyX4_ok, nmX4⟩
theorem pn_X4 : plainName RX4 = true := by decide +kernel
theorem EX5 : g_cf RX5 TX5 19 tyX5 := ⟨inW5, tyX5_ok, nmX5⟩
theorem pn_X5 : plainName RX5 = true := by decide +kernel
theorem EX6 : g_cf RX6 TX6 1 tyX6 := ⟨inW6, tyX6_ok, nmX6⟩
theorem pn_X6 : plainName RX6 = true := by decide +kernel
theorem EX7 : g_cf RX7 TX7 11 tyX7 := ⟨inW7, tyX7_ok, nmX7⟩
theorem pn_X7 : plainName RX7 = true := by decide +kernel
theorem EX8 : g_cf RX8 TX8 13 tyX8 := ⟨inW8, tyX8_ok, nmX8⟩
theorem pn_X8 : plainName RX8 = true := by decide +kernel
theorem EX9 : g_cf RX9 TX9 18 tyX9 := ⟨inW9, tyX9_ok, nmX9⟩
theorem pn_X9 : plainName RX9 = true := by decide +kernel
theorem EX10 : g_cf RX10 TX10 7 tyX10 := ⟨inW10, tyX10_ok, nmX10⟩
theorem pn_X10 : plainName RX10 = true := by decide +kernel
theorem EX11 : g_cf RX11 TX11 11 tyX11 := ⟨inW11, tyX11_ok, nmX11⟩
theorem pn_X11 : plainName RX11 = true := by decide +kernel
theorem pn_L : plainName RL = true := by decide +kernel
theorem xf_g_ISE : g_xf 102 g_ISE := ⟨by decide +kernel, by decide +kernel, inE0, by decide +kernel, by decide +kernel⟩
theorem xf_g_ARE : g_xf 216 g_ARE := ⟨by decide +kernel, by decide +kernel, inE1, by decide +kernel, by decide +kernel⟩
theorem FX5_length : g_mf yX5_length cX5_length 1 (some .int) 0 := ⟨k3, k4, by decide, by decide, by decide +kernel⟩
theorem FX5_append : g_mf yX5_append cX5_append 3 none 1 := ⟨k9, k4, by decide, by decide, by decide +kernel⟩
theorem FX5_shorten : g_mf yX5_shorten cX5_shorten 2 none 1 := ⟨k13, k4, by decide, by decide, by decide +kernel⟩
theorem FX5_isLetter : g_mf yX5_isLetter cX5_isLetter 2 (some .boolean) 1 := ⟨k17, k4, by decide, by decide, by decide +kernel⟩
theorem FX5_isNamePart : g_mf yX5_isNamePart cX5_isNamePart 2 (some .boolean) 1 := ⟨k21, k4, by decide, by decide, by decide +kernel⟩
theorem FX5_holdsName : g_mf yX5_holdsName cX5_holdsName 2 (some .boolean) 0 := ⟨k25, k4, by decide, by decide, by decide +kernel⟩
theorem FX7_nameLength : g_mf yX7_nameLength cX7_nameLength 2 (some .int) 1 := ⟨k32, k33, by decide, by decide, by decide +kernel⟩
theorem FX7_nameByte : g_mf yX7_nameByte cX7_nameByte 4 (some .byte) 2 := ⟨k38, k33, by decide, by decide, by decide +kernel⟩
theorem FX7_isNameAt : g_mf yX7_isNameAt cX7_isNameAt 6 (some .boolean) 3 := ⟨k42, k33, by decide, by decide, by decide +kernel⟩
theorem FX7_find : g_mf yX7_find cX7_find 5 (some .int) 3 := ⟨k46, k33, by decide, by decide, by decide +kernel⟩
theorem FX5_heldSymbol : g_mf yX5_heldSymbol cX5_heldSymbol 1 (some .int) 0 := ⟨k50, k4, by decide, by decide, by decide +kernel⟩
theorem FX5_drain : g_mf yX5_drain cX5_drain 2 (some .int) 0 := ⟨k54, k4, by decide, by decide, by decide +kernel⟩
theorem FX7_isFull : g_mf yX7_isFull cX7_isFull 1 (some .boolean) 0 := ⟨k59, k33, by decide, by decide, by decide +kernel⟩
theorem FX5_bytes : g_mf yX5_bytes cX5_bytes 1 (some (.array .byte)) 0 := ⟨k62, k4, by decide, by decide, by decide +kernel⟩
theorem FX7_add : g_mf yX7_add cX7_add 7 (some .int) 4 := ⟨k71, k33, by decide, by decide, by decide +kernel⟩
theorem FX7_isOrderFixed : g_mf yX7_isOrderFixed cX7_isOrderFixed 1 (some .boolean) 0 := ⟨k76, k33, by decide, by decide, by decide +kernel⟩
theorem FX7_isByWeight : g_mf yX7_isByWeight cX7_isByWeight 1 (some .boolean) 0 := ⟨k81, k33, by decide, by decide, by decide +kernel⟩
theorem FX7_chooseOrder : g_mf yX7_chooseOrder cX7_chooseOrder 2 none 1 := ⟨k85, k33, by decide, by decide, by decide +kernel⟩
theorem FX7_has : g_mf yX7_has cX7_has 2 (some .boolean) 1 := ⟨k89, k33, by decide, by decide, by decide +kernel⟩
theorem FX7_rank : g_mf yX7_rank cX7_rank 2 (some .int) 1 := ⟨k93, k33, by decide, by decide, by decide +kernel⟩
theorem FX7_moveTo : g_mf yX7_moveTo cX7_moveTo 5 none 2 := ⟨k97, k33, by decide, by decide, by decide +kernel⟩
theorem FX7_isFromRight : g_mf yX7_isFromRight cX7_isFromRight 2 (some .boolean) 1 := ⟨k102, k33, by decide, by decide, by decide +kernel⟩
theorem FX7_direct : g_mf yX7_direct cX7_direct 3 none 2 := ⟨k106, k33, by decide, by decide, by decide +kernel⟩
theorem FX7_arity : g_mf yX7_arity cX7_arity 2 (some .int) 1 := ⟨k110, k33, by decide, by decide, by decide +kernel⟩
theorem FX11_isTerm : g_mf yX11_isTerm cX11_isTerm 2 (some .boolean) 1 := ⟨k115, k116, by decide, by decide, by decide +kernel⟩
theorem FX8_isCrowded : g_mf yX8_isCrowded cX8_isCrowded 1 (some .boolean) 0 := ⟨k123, k124, by decide, by decide, by decide +kernel⟩
theorem FX11_tidy : g_mf yX11_tidy cX11_tidy 2 none 0 := ⟨k128, k116, by decide, by decide, by decide +kernel⟩
theorem FX6_get : g_mf yX6_get cX6_get 3 (some .int) 1 := ⟨k133, k134, by decide, by decide, by decide +kernel⟩
theorem FX8_bucketOf : g_mf yX8_bucketOf cX8_bucketOf 6 (some .int) 4 := ⟨k140, k124, by decide, by decide, by decide +kernel⟩
theorem FX6_set : g_mf yX6_set cX6_set 4 none 2 := ⟨k152, k134, by decide, by decide, by decide +kernel⟩
theorem FX7_variableOrdinal : g_mf yX7_variableOrdinal cX7_variableOrdinal 2 (some .int) 1 := ⟨k157, k33, by decide, by decide, by decide +kernel⟩
theorem FX8_extentOver : g_mf yX8_extentOver cX8_extentOver 8 (some .int) 4 := ⟨k170, k124, by decide, by decide, by decide +kernel⟩
theorem FX8_keep : g_mf yX8_keep cX8_keep 8 (some .int) 5 := ⟨k174, k124, by decide, by decide, by decide +kernel⟩
theorem FX8_make : g_mf yX8_make cX8_make 9 (some .int) 4 := ⟨k178, k124, by decide, by decide, by decide +kernel⟩
theorem FX8_width : g_mf yX8_width cX8_width 2 (some .int) 1 := ⟨k182, k124, by decide, by decide, by decide +kernel⟩
theorem FX8_height : g_mf yX8_height cX8_height 2 (some .int) 1 := ⟨k186, k124, by decide, by decide, by decide +kernel⟩
theorem FX8_isTooLarge : g_mf yX8_isTooLarge cX8_isTooLarge 2 (some .boolean) 1 := ⟨k190, k124, by decide, by decide, by decide +kernel⟩
theorem FX8_number : g_mf yX8_number cX8_number 2 (some .int) 1 := ⟨k195, k124, by decide, by decide, by decide +kernel⟩
theorem FX8_setNumber : g_mf yX8_setNumber cX8_setNumber 3 none 2 := ⟨k199, k124, by decide, by decide, by decide +kernel⟩
theorem FX7_fixOrder : g_mf yX7_fixOrder cX7_fixOrder 1 none 0 := ⟨k204, k33, by decide, by decide, by decide +kernel⟩
theorem FX11_giveNumber : g_mf yX11_giveNumber cX11_giveNumber 3 (some .int) 1 := ⟨k208, k116, by decide, by decide, by decide +kernel⟩
theorem FX10_clear : g_mf yX10_clear cX10_clear 1 none 0 := ⟨k215, k216, by decide, by decide, by decide +kernel⟩
theorem FX10_indexOf : g_mf yX10_indexOf cX10_indexOf 3 (some .int) 1 := ⟨k223, k216, by decide, by decide, by decide +kernel⟩
theorem FX8_arity : g_mf yX8_arity cX8_arity 2 (some .int) 1 := ⟨k231, k124, by decide, by decide, by decide +kernel⟩
theorem FX8_part : g_mf yX8_part cX8_part 3 (some .int) 2 := ⟨k235, k124, by decide, by decide, by decide +kernel⟩
theorem FX10_firstUnlisted : g_mf yX10_firstUnlisted cX10_firstUnlisted 4 (some .int) 1 := ⟨k239, k216, by decide, by decide, by decide +kernel⟩
theorem FX10_append : g_mf yX10_append cX10_append 2 none 1 := ⟨k244, k216, by decide, by decide, by decide +kernel⟩
theorem FX10_add : g_mf yX10_add cX10_add 5 none 1 := ⟨k248, k216, by decide, by decide, by decide +kernel⟩
theorem FX10_count : g_mf yX10_count cX10_count 1 (some .int) 0 := ⟨k253, k216, by decide, by decide, by decide +kernel⟩
theorem FX2_clear : g_mf yX2_clear cX2_clear 2 none 1 := ⟨k259, k260, by decide, by decide, by decide +kernel⟩
theorem FX10_node : g_mf yX10_node cX10_node 2 (some .int) 1 := ⟨k264, k216, by decide, by decide, by decide +kernel⟩
theorem FX8_symbol : g_mf yX8_symbol cX8_symbol 2 (some .int) 1 := ⟨k268, k124, by decide, by decide, by decide +kernel⟩
theorem FX2_addProduction : g_mf yX2_addProduction cX2_addProduction 4 (some .int) 2 := ⟨k275, k260, by decide, by decide, by decide +kernel⟩
theorem FX2_arity : g_mf yX2_arity cX2_arity 2 (some .int) 1 := ⟨k282, k260, by decide, by decide, by decide +kernel⟩
theorem FX10_partOf : g_mf yX10_partOf cX10_partOf 3 (some .int) 2 := ⟨k286, k216, by decide, by decide, by decide +kernel⟩
theorem FX2_setPart : g_mf yX2_setPart cX2_setPart 4 none 3 := ⟨k291, k260, by decide, by decide, by decide +kernel⟩
theorem FX2_takeTerms : g_mf yX2_takeTerms cX2_takeTerms 6 none 2 := ⟨k295, k260, by decide, by decide, by decide +kernel⟩
theorem FX7_orderMode : g_mf yX7_orderMode cX7_orderMode 1 (some .int) 0 := ⟨k299, k33, by decide, by decide, by decide +kernel⟩
theorem FX2_linkUsers : g_mf yX2_linkUsers cX2_linkUsers 5 none 0 := ⟨k309, k260, by decide, by decide, by decide +kernel⟩
theorem FX7_weight : g_mf yX7_weight cX7_weight 2 (some .int) 1 := ⟨k314, k33, by decide, by decide, by decide +kernel⟩
theorem FX2_isBefore : g_mf yX2_isBefore cX2_isBefore 10 (some .boolean) 2 := ⟨k328, k260, by decide, by decide, by decide +kernel⟩
theorem FX2_enter : g_mf yX2_enter cX2_enter 8 none 1 := ⟨k332, k260, by decide, by decide, by decide +kernel⟩
theorem FX2_takeLeast : g_mf yX2_takeLeast cX2_takeLeast 6 (some .int) 0 := ⟨k336, k260, by decide, by decide, by decide +kernel⟩
theorem FX2_isReadyAfter : g_mf yX2_isReadyAfter cX2_isReadyAfter 3 (some .boolean) 1 := ⟨k341, k260, by decide, by decide, by decide +kernel⟩
theorem FX2_rank : g_mf yX2_rank cX2_rank 7 none 1 := ⟨k345, k260, by decide, by decide, by decide +kernel⟩
theorem FX2_position : g_mf yX2_position cX2_position 2 (some .int) 1 := ⟨k350, k260, by decide, by decide, by decide +kernel⟩
theorem FX8_isGround : g_mf yX8_isGround cX8_isGround 2 (some .boolean) 1 := ⟨k354, k124, by decide, by decide, by decide +kernel⟩
theorem FX9_addEquation : g_mf yX9_addEquation cX9_addEquation 3 none 2 := ⟨k363, k364, by decide, by decide, by decide +kernel⟩
theorem FX1_start : g_mf yX1_start cX1_start 3 none 0 := ⟨k385, k386, by decide, by decide, by decide +kernel⟩
theorem FX1_join : g_mf yX1_join cX1_join 7 none 2 := ⟨k392, k386, by decide, by decide, by decide +kernel⟩
theorem FX9_gather : g_mf yX9_gather cX9_gather 5 none 3 := ⟨k396, k364, by decide, by decide, by decide +kernel⟩
theorem FX1_bucketOf : g_mf yX1_bucketOf cX1_bucketOf 4 (some .int) 1 := ⟨k402, k386, by decide, by decide, by decide +kernel⟩
theorem FX1_areTwins : g_mf yX1_areTwins cX1_areTwins 5 (some .boolean) 2 := ⟨k406, k386, by decide, by decide, by decide +kernel⟩
theorem FX1_joinTwins : g_mf yX1_joinTwins cX1_joinTwins 6 (some .boolean) 0 := ⟨k413, k386, by decide, by decide, by decide +kernel⟩
theorem FX1_close : g_mf yX1_close cX1_close 2 none 0 := ⟨k417, k386, by decide, by decide, by decide +kernel⟩
theorem FX1_pourInto : g_mf yX1_pourInto cX1_pourInto 5 none 1 := ⟨k426, k386, by decide, by decide, by decide +kernel⟩
theorem FX2_sequenceCount : g_mf yX2_sequenceCount cX2_sequenceCount 1 (some .int) 0 := ⟨k433, k260, by decide, by decide, by decide +kernel⟩
theorem FX2_ranked : g_mf yX2_ranked cX2_ranked 2 (some .int) 1 := ⟨k437, k260, by decide, by decide, by decide +kernel⟩
theorem FX2_owner : g_mf yX2_owner cX2_owner 2 (some .int) 1 := ⟨k441, k260, by decide, by decide, by decide +kernel⟩
theorem FX2_choice : g_mf yX2_choice cX2_choice 2 (some .int) 1 := ⟨k445, k260, by decide, by decide, by decide +kernel⟩
theorem FX2_termSize : g_mf yX2_termSize cX2_termSize 2 (some .int) 1 := ⟨k449, k260, by decide, by decide, by decide +kernel⟩
theorem FX2_termDepth : g_mf yX2_termDepth cX2_termDepth 2 (some .int) 1 := ⟨k453, k260, by decide, by decide, by decide +kernel⟩
theorem FX9_isTooLargeSide : g_mf yX9_isTooLargeSide cX9_isTooLargeSide 2 (some .boolean) 1 := ⟨k457, k364, by decide, by decide, by decide +kernel⟩
theorem FX2_dropNeeds : g_mf yX2_dropNeeds cX2_dropNeeds 2 none 0 := ⟨k461, k260, by decide, by decide, by decide +kernel⟩
theorem FX2_need : g_mf yX2_need cX2_need 2 none 1 := ⟨k465, k260, by decide, by decide, by decide +kernel⟩
theorem FX2_needParts : g_mf yX2_needParts cX2_needParts 3 none 1 := ⟨k469, k260, by decide, by decide, by decide +kernel⟩
theorem FX2_isNeeded : g_mf yX2_isNeeded cX2_isNeeded 3 (some .boolean) 1 := ⟨k473, k260, by decide, by decide, by decide +kernel⟩
theorem FX2_spreadNeeds : g_mf yX2_spreadNeeds cX2_spreadNeeds 3 none 0 := ⟨k478, k260, by decide, by decide, by decide +kernel⟩
theorem FX2_makeTerm : g_mf yX2_makeTerm cX2_makeTerm 8 (some .int) 2 := ⟨k487, k260, by decide, by decide, by decide +kernel⟩
theorem FX2_leastTerm : g_mf yX2_leastTerm cX2_leastTerm 2 (some .int) 1 := ⟨k491, k260, by decide, by decide, by decide +kernel⟩
theorem FX9_addRule : g_mf yX9_addRule cX9_addRule 3 none 2 := ⟨k499, k364, by decide, by decide, by decide +kernel⟩
theorem FX2_setLeastTerm : g_mf yX2_setLeastTerm cX2_setLeastTerm 3 none 2 := ⟨k503, k260, by decide, by decide, by decide +kernel⟩
theorem FX9_takeRules : g_mf yX9_takeRules cX9_takeRules 4 none 0 := ⟨k507, k364, by decide, by decide, by decide +kernel⟩
theorem FX9_complete : g_mf yX9_complete cX9_complete 4 (some .boolean) 0 := ⟨k511, k364, by decide, by decide, by decide +kernel⟩
theorem FX9_goBack : g_mf yX9_goBack cX9_goBack 3 none 2 := ⟨k517, k364, by decide, by decide, by decide +kernel⟩
theorem FX9_openLevel : g_mf yX9_openLevel cX9_openLevel 1 none 0 := ⟨k527, k364, by decide, by decide, by decide +kernel⟩
theorem FX9_closeLevel : g_mf yX9_closeLevel cX9_closeLevel 1 none 0 := ⟨k532, k364, by decide, by decide, by decide +kernel⟩
theorem FX10_rebuild : g_mf yX10_rebuild cX10_rebuild 7 (some .int) 1 := ⟨k543, k216, by decide, by decide, by decide +kernel⟩
theorem FX9_ruleFor : g_mf yX9_ruleFor cX9_ruleFor 3 (some .int) 1 := ⟨k548, k364, by decide, by decide, by decide +kernel⟩
theorem FX9_rightSide : g_mf yX9_rightSide cX9_rightSide 2 (some .int) 1 := ⟨k552, k364, by decide, by decide, by decide +kernel⟩
theorem FX10_value : g_mf yX10_value cX10_value 2 (some .int) 1 := ⟨k556, k216, by decide, by decide, by decide +kernel⟩
theorem FX10_setValue : g_mf yX10_setValue cX10_setValue 3 none 2 := ⟨k560, k216, by decide, by decide, by decide +kernel⟩
theorem FX10_sumOfParts : g_mf yX10_sumOfParts cX10_sumOfParts 4 (some .int) 1 := ⟨k565, k216, by decide, by decide, by decide +kernel⟩
theorem FX10_setTally : g_mf yX10_setTally cX10_setTally 3 none 2 := ⟨k569, k216, by decide, by decide, by decide +kernel⟩
theorem FX9_normalize : g_mf yX9_normalize cX9_normalize 5 (some .int) 1 := ⟨k573, k364, by decide, by decide, by decide +kernel⟩
theorem FX9_makesEqual : g_mf yX9_makesEqual cX9_makesEqual 3 (some .boolean) 2 := ⟨k578, k364, by decide, by decide, by decide +kernel⟩
theorem FX10_tally : g_mf yX10_tally cX10_tally 2 (some .int) 1 := ⟨k582, k216, by decide, by decide, by decide +kernel⟩
theorem FX9_countSteps : g_mf yX9_countSteps cX9_countSteps 2 (some .int) 1 := ⟨k586, k364, by decide, by decide, by decide +kernel⟩
theorem FX11_feed : g_mf yX11_feed cX11_feed 6 (some .int) 5 := ⟨k592, k116, by decide, by decide, by decide +kernel⟩
theorem FX11_trim : g_mf yX11_trim cX11_trim 2 (some .int) 1 := ⟨k596, k116, by decide, by decide, by decide +kernel⟩
theorem FX11_declare : g_mf yX11_declare cX11_declare 6 (some .int) 2 := ⟨k600, k116, by decide, by decide, by decide +kernel⟩
theorem FL_below : g_mf yL_below cL_below 2 (some .int) 2 := ⟨k604, k605, by decide, by decide, by decide +kernel⟩
theorem FL_declare : g_mf yL_declare cL_declare 5 (some .int) 4 := ⟨k608, k605, by decide, by decide, by decide +kernel⟩
theorem FX11_orderByWeight : g_mf yX11_orderByWeight cX11_orderByWeight 3 (some .boolean) 1 := ⟨k611, k116, by decide, by decide, by decide +kernel⟩
theorem FX11_setDirection : g_mf yX11_setDirection cX11_setDirection 4 (some .boolean) 2 := ⟨k615, k116, by decide, by decide, by decide +kernel⟩
theorem FX11_promote : g_mf yX11_promote cX11_promote 4 (some .int) 2 := ⟨k619, k116, by decide, by decide, by decide +kernel⟩
theorem FX11_rankOf : g_mf yX11_rankOf cX11_rankOf 2 (some .int) 1 := ⟨k623, k116, by decide, by decide, by decide +kernel⟩
theorem FL_cell : g_mf yL_cell cL_cell 2 (some .int) 2 := ⟨k627, k605, by decide, by decide, by decide +kernel⟩
theorem FX11_size : g_mf yX11_size cX11_size 2 (some .int) 1 := ⟨k631, k116, by decide, by decide, by decide +kernel⟩
theorem FX11_term : g_mf yX11_term cX11_term 7 (some .int) 4 := ⟨k635, k116, by decide, by decide, by decide +kernel⟩
theorem FX11_equate : g_mf yX11_equate cX11_equate 3 (some .int) 2 := ⟨k639, k116, by decide, by decide, by decide +kernel⟩
theorem FX11_normalForm : g_mf yX11_normalForm cX11_normalForm 3 (some .int) 1 := ⟨k644, k116, by decide, by decide, by decide +kernel⟩
theorem FL_unite : g_mf yL_unite cL_unite 4 none 3 := ⟨k648, k605, by decide, by decide, by decide +kernel⟩
theorem FX11_pop : g_mf yX11_pop cX11_pop 1 (some .int) 0 := ⟨k651, k116, by decide, by decide, by decide +kernel⟩
theorem GX5_length : g_mv yX5_length := ⟨k5, k6⟩
theorem GX5_append : g_mv yX5_append := ⟨k10, k11⟩
theorem GX5_shorten : g_mv yX5_shorten := ⟨k14, k15⟩
theorem GX5_isLetter : g_mv yX5_isLetter := ⟨k18, k19⟩
theorem GX5_isNamePart : g_mv yX5_isNamePart := ⟨k22, k23⟩
theorem GX5_holdsName : g_mv yX5_holdsName := ⟨k26, k27⟩
theorem GX7_nameLength : g_mv yX7_nameLength := ⟨k34, k35⟩
theorem GX7_nameByte : g_mv yX7_nameByte := ⟨k39, k40⟩
theorem GX7_isNameAt : g_mv yX7_isNameAt := ⟨k43, k44⟩
theorem GX7_find : g_mv yX7_find := ⟨k47, k48⟩
theorem GX5_heldSymbol : g_mv yX5_heldSymbol := ⟨k51, k52⟩
theorem GX5_drain : g_mv yX5_drain := ⟨k55, k56⟩
theorem GX7_isFull : g_mv yX7_isFull := ⟨k60, k61⟩
theorem GX5_bytes : g_mv yX5_bytes := ⟨k63, k64⟩
theorem GX7_add : g_mv yX7_add := ⟨k72, k73⟩
theorem GX7_isOrderFixed : g_mv yX7_isOrderFixed := ⟨k77, k78⟩
theorem GX7_isByWeight : g_mv yX7_isByWeight := ⟨k82, k83⟩
theorem GX7_chooseOrder : g_mv yX7_chooseOrder := ⟨k86, k87⟩
theorem GX7_has : g_mv yX7_has := ⟨k90, k91⟩
theorem GX7_rank : g_mv yX7_rank := ⟨k94, k95⟩
theorem GX7_moveTo : g_mv yX7_moveTo := ⟨k98, k99⟩
theorem GX7_isFromRight : g_mv yX7_isFromRight := ⟨k103, k104⟩
theorem GX7_direct : g_mv yX7_direct := ⟨k107, k108⟩
theorem GX7_arity : g_mv yX7_arity := ⟨k111, k112⟩
theorem GX11_isTerm : g_mv yX11_isTerm := ⟨k117, k118⟩
theorem GX8_isCrowded : g_mv yX8_isCrowded := ⟨k125, k126⟩
theorem GX11_tidy : g_mv yX11_tidy := ⟨k129, k130⟩
theorem GX6_get : g_mv yX6_get := ⟨k135, k136⟩
theorem GX8_bucketOf : g_mv yX8_bucketOf := ⟨k141, k142⟩
theorem GX6_set : g_mv yX6_set := ⟨k153, k154⟩
theorem GX7_variableOrdinal : g_mv yX7_variableOrdinal := ⟨k158, k159⟩
theorem GX8_extentOver : g_mv yX8_extentOver := ⟨k171, k172⟩
theorem GX8_keep : g_mv yX8_keep := ⟨k175, k176⟩
theorem GX8_make : g_mv yX8_make := ⟨k179, k180⟩
theorem GX8_width : g_mv yX8_width := ⟨k183, k184⟩
theorem GX8_height : g_mv yX8_height := ⟨k187, k188⟩
theorem GX8_isTooLarge : g_mv yX8_isTooLarge := ⟨k191, k192⟩
theorem GX8_number : g_mv yX8_number := ⟨k196, k197⟩
theorem GX8_setNumber : g_mv yX8_setNumber := ⟨k200, k201⟩
theorem GX7_fixOrder : g_mv yX7_fixOrder := ⟨k205, k206⟩
theorem GX11_giveNumber : g_mv yX11_giveNumber := ⟨k209, k210⟩
theorem GX10_clear : g_mv yX10_clear := ⟨k217, k218⟩
theorem GX10_indexOf : g_mv yX10_indexOf := ⟨k224, k225⟩
theorem GX8_arity : g_mv yX8_arity := ⟨k232, k233⟩
theorem GX8_part : g_mv yX8_part := ⟨k236, k237⟩
theorem GX10_firstUnlisted : g_mv yX10_firstUnlisted := ⟨k240, k241⟩
theorem GX10_append : g_mv yX10_append := ⟨k245, k246⟩
theorem GX10_add : g_mv yX10_add := ⟨k249, k250⟩
theorem GX10_count : g_mv yX10_count := ⟨k254, k255⟩
theorem GX2_clear : g_mv yX2_clear := ⟨k261, k262⟩
theorem GX10_node : g_mv yX10_node := ⟨k265, k266⟩
theorem GX8_symbol : g_mv yX8_symbol := ⟨k269, k270⟩
theorem GX2_addProduction : g_mv yX2_addProduction := ⟨k276, k277⟩
theorem GX2_arity : g_mv yX2_arity := ⟨k283, k284⟩
theorem GX10_partOf : g_mv yX10_partOf := ⟨k287, k288⟩
theorem GX2_setPart : g_mv yX2_setPart := ⟨k292, k293⟩
theorem GX2_takeTerms : g_mv yX2_takeTerms := ⟨k296, k297⟩
theorem GX7_orderMode : g_mv yX7_orderMode := ⟨k300, k301⟩
theorem GX2_linkUsers : g_mv yX2_linkUsers := ⟨k310, k311⟩
theorem GX7_weight : g_mv yX7_weight := ⟨k315, k316⟩
theorem GX2_isBefore : g_mv yX2_isBefore := ⟨k329, k330⟩
theorem GX2_enter : g_mv yX2_enter := ⟨k333, k334⟩
theorem GX2_takeLeast : g_mv yX2_takeLeast := ⟨k337, k338⟩
theorem GX2_isReadyAfter : g_mv yX2_isReadyAfter := ⟨k342, k343⟩
theorem GX2_rank : g_mv yX2_rank := ⟨k346, k347⟩
theorem GX2_position : g_mv yX2_position := ⟨k351, k352⟩
theorem GX8_isGround : g_mv yX8_isGround := ⟨k355, k356⟩
theorem GX9_addEquation : g_mv yX9_addEquation := ⟨k365, k366⟩
theorem GX1_start : g_mv yX1_start := ⟨k387, k388⟩
theorem GX1_join : g_mv yX1_join := ⟨k393, k394⟩
theorem GX9_gather : g_mv yX9_gather := ⟨k397, k398⟩
theorem GX1_bucketOf : g_mv yX1_bucketOf := ⟨k403, k404⟩
theorem GX1_areTwins : g_mv yX1_areTwins := ⟨k407, k408⟩
theorem GX1_joinTwins : g_mv yX1_joinTwins := ⟨k414, k415⟩
theorem GX1_close : g_mv yX1_close := ⟨k418, k419⟩
theorem GX1_pourInto : g_mv yX1_pourInto := ⟨k427, k428⟩
theorem GX2_sequenceCount : g_mv yX2_sequenceCount := ⟨k434, k435⟩
theorem GX2_ranked : g_mv yX2_ranked := ⟨k438, k439⟩
theorem GX2_owner : g_mv yX2_owner := ⟨k442, k443⟩
theorem GX2_choice : g_mv yX2_choice := ⟨k446, k447⟩
theorem GX2_termSize : g_mv yX2_termSize := ⟨k450, k451⟩
theorem GX2_termDepth : g_mv yX2_termDepth := ⟨k454, k455⟩
theorem GX9_isTooLargeSide : g_mv yX9_isTooLargeSide := ⟨k458, k459⟩
theorem GX2_dropNeeds : g_mv yX2_dropNeeds := ⟨k462, k463⟩
theorem GX2_need : g_mv yX2_need := ⟨k466, k467⟩
theorem GX2_needParts : g_mv yX2_needParts := ⟨k470, k471⟩
theorem GX2_isNeeded : g_mv yX2_isNeeded := ⟨k474, k475⟩
theorem GX2_spreadNeeds : g_mv yX2_spreadNeeds := ⟨k479, k480⟩
theorem GX2_makeTerm : g_mv yX2_makeTerm := ⟨k488, k489⟩
theorem GX2_leastTerm : g_mv yX2_leastTerm := ⟨k492, k493⟩
theorem GX9_addRule : g_mv yX9_addRule := ⟨k500, k501⟩
theorem GX2_setLeastTerm : g_mv yX2_setLeastTerm := ⟨k504, k505⟩
theorem GX9_takeRules : g_mv yX9_takeRules := ⟨k508, k509⟩
theorem GX9_complete : g_mv yX9_complete := ⟨k512, k513⟩
theorem GX9_goBack : g_mv yX9_goBack := ⟨k518, k519⟩
theorem GX9_openLevel : g_mv yX9_openLevel := ⟨k528, k529⟩
theorem GX9_closeLevel : g_mv yX9_closeLevel := ⟨k533, k534⟩
theorem GX10_rebuild : g_mv yX10_rebuild := ⟨k544, k545⟩
theorem GX9_ruleFor : g_mv yX9_ruleFor := ⟨k549, k550⟩
theorem GX9_rightSide : g_mv yX9_rightSide := ⟨k553, k554⟩
theorem GX10_value : g_mv yX10_value := ⟨k557, k558⟩
theorem GX10_setValue : g_mv yX10_setValue := ⟨k561, k562⟩
theorem GX10_sumOfParts : g_mv yX10_sumOfParts := ⟨k566, k567⟩
theorem GX10_setTally : g_mv yX10_setTally := ⟨k570, k571⟩
theorem GX9_normalize : g_mv yX9_normalize := ⟨k574, k575⟩
theorem GX9_makesEqual : g_mv yX9_makesEqual := ⟨k579, k580⟩
theorem GX10_tally : g_mv yX10_tally := ⟨k583, k584⟩
theorem GX9_countSteps : g_mv yX9_countSteps := ⟨k587, k588⟩
theorem GX11_feed : g_mv yX11_feed := ⟨k593, k594⟩
theorem GX11_trim : g_mv yX11_trim := ⟨k597, k598⟩
theorem GX11_declare : g_mv yX11_declare := ⟨k601, k602⟩
theorem GX11_orderByWeight : g_mv yX11_orderByWeight := ⟨k612, k613⟩
theorem GX11_setDirection : g_mv yX11_setDirection := ⟨k616, k617⟩
theorem GX11_promote : g_mv yX11_promote := ⟨k620, k621⟩
theorem GX11_rankOf : g_mv yX11_rankOf := ⟨k624, k625⟩
theorem GX11_size : g_mv yX11_size := ⟨k632, k633⟩
theorem GX11_term : g_mv yX11_term := ⟨k636, k637⟩
theorem GX11_equate : g_mv yX11_equate := ⟨k640, k641⟩
theorem GX11_normalForm : g_mv yX11_normalForm := ⟨k645, k646⟩
theorem GX11_pop : g_mv yX11_pop := ⟨k652, k653⟩
end
section
section XR
theorem sh10 (i : Int) : bm (ishr i 10) = bm i / 1024 := by
  unfold ishr
  rw [show (Int32.ofInt 10 &&& 31) = (10 : Int32) by decide, pk_shr _ _ 10 (by decide), toInt_ofInt, Int.shiftRight_eq_div_pow]
  have h := bm_lt i
  show bm (bm i / 1024) = bm i / 1024
  unfold bm at *
  exact Int.bmod_eq_of_le (by omega) (by omega)
theorem an1023 (i : Int) : bm (iand i 1023) = bm i % 1024 := by
  unfold iand
  rw [pk_and (Int32.ofInt i) (m := Int32.ofInt 1023) 10 (by decide), nI_toInt (by omega)]
  have h1 : (Int32.ofInt i).toInt = bm i := toInt_ofInt i
  have h2 : (Int32.ofInt i).toInt = if 2 * (Int32.ofInt i).toBitVec.toNat < 2 ^ 32 then ((Int32.ofInt i).toBitVec.toNat : Int) else ((Int32.ofInt i).toBitVec.toNat : Int) - ((2 ^ 32 : Nat) : Int) := BitVec.toInt_eq_toNat_cond _
  generalize (Int32.ofInt i).toBitVec.toNat = n at *
  rw [h1] at h2
  have h3 : bm ((n % 2 ^ 10 : Nat) : Int) = ((n % 2 ^ 10 : Nat) : Int) := by
    unfold bm
    exact Int.bmod_eq_of_le (by omega) (by omega)
  rw [h3, h2]
  split <;> omega
theorem an_in (i : Int) : inI (iand i 1023) 1024 := by
  unfold inI
  rw [an1023]
  omega
theorem BA_mem {LB : g_B} {r b a : Nat} (h : BA LB r b = some a) : (r, b, a) ∈ LB := by
  unfold BA at h
  obtain ⟨q, hq, rfl⟩ := Option.map_eq_some_iff.mp h
  have h1 := List.find?_some hq
  have h2 := List.mem_of_find?_eq_some hq
  simp only [Bool.and_eq_true, beq_iff_eq] at h1
  rw [← h1.1, ← h1.2]
  exact h2
theorem BA_none {LB : g_B} {r b : Nat} (h : BA LB r b = none) : ∀ q ∈ LB, ¬ (q.1 = r ∧ q.2.1 = b) := by
  unfold BA at h
  rw [Option.map_eq_none_iff, List.find?_eq_none] at h
  intro q hq hh
  exact h q hq (by simp [hh.1, hh.2])
theorem BA_push {LB : g_B} {r b a r' b' : Nat} : BA (LB ++ [(r, b, a)]) r' b' = (BA LB r' b').or (if r = r' ∧ b = b' then some a else none) := by
  unfold BA
  rw [List.find?_append]
  cases h : LB.find? (fun q => q.1 == r' && q.2.1 == b') with
  | some x => simp
  | none =>
    by_cases hh : r = r' ∧ b = b'
    · simp [hh.1, hh.2]
    · rw [if_neg hh]
      have : ¬ ((r == r' && b == b') = true) := by simpa using hh
      simp [this]
theorem capB_nb {r : Nat} (hr : r < 34) : capB r ≤ nbR r := by
  have h : ∀ r, r < 34 → capB r ≤ nbR r := by decide +kernel
  exact h r hr
theorem as_self (vm : Vm) (c : ClassId) : vm.assignable c c = true := by
  show vm.assignableAux (255 + 1) c c = true
  rw [Vm.assignableAux]
  simp only [beq_self_eq_true, Bool.true_or]
variable {p : Program} {l : Launch} {e : Env} {R : Room} {s : State} {m : MethodId} {args : Array Value} {below : List Frame} {meth : Method} {c : Code} {Q : State → Prop} {D : va_G} {d : Nat → ClassId} {K : Nat → Nat} {A : Nat → Prop} {cc : ByteArray} {nL lvl : Nat} {own : String} {zc zs : Int} {L : va_W} {M : g_M} {lv : List (Nat × Value)} {pc : Nat} {st : List Value}

theorem k_aast {cl : List vw_C} {H : Heap} {locs : List Loc} {cells slots a v : Nat} {ls : Array Slot} {rest : List Value} {ws : va_W} {H0 : Heap} (hexec : p.tables.exec = Jvm.exec) (hb : c.code = cc) (hK : va_K D cl (g_ty d) s) (hAO : g_AO s) (hP : va_P D cl ws H) (hD : va_D A ws) (hS : va_S A H0 H locs) (q0 q1 : Nat) {n n1 : Nat} {f : Nat → Option Nat} {g : Nat → Int32} (ha : ws[q0]? = some (a, .inl (d 4, n, .inr (.inr (.inr (.inr f)))))) (hv : ws[q1]? = some (v, .inl (d 0, n1, .inl g))) {i : Int32} (hin : vp_in i n) (hdg : decode cc pc = .ok (.aastore, 1))
    (kk : ∀ (H1 : Heap) (locs1 : List Loc), va_P D cl (ws.set q0 (a, .inl (d 4, n, .inr (.inr (.inr (.inr (va_up f i.toNatClampNeg (some v)))))))) H1 → va_D A (ws.set q0 (a, .inl (d 4, n, .inr (.inr (.inr (.inr (va_up f i.toNatClampNeg (some v)))))))) → va_S A H0 H1 locs1 → H1.size = H.size → TOT H1 = TOT H → W p l e R s m args below meth c H1 locs1 cells slots Q (F0 m (pc + 1) ls rest)) : W p l e R s m args below meth c H locs cells slots Q (F0 m pc ls (.ref v :: .int i :: .ref a :: rest)) := by
  have hlt : i.toNatClampNeg < n := Nat.not_le.mp fun q => hin (Or.inr q)
  have h0 : ¬ i < 0 := fun q => hin (Or.inl q)
  obtain ⟨comp, c4, k4, e1, e2, e3, e4, e5⟩ := arrayOverA_spec hAO
  have g4 : s.vm.findClass ("[" ++ (FieldType.array .int).toString) = some (d 4) := (hK.2 4 _ rfl).2
  have g0 : s.vm.findClass ("[" ++ FieldType.int.toString) = some (d 0) := (hK.2 0 _ rfl).2
  have h4 : c4 = d 4 := Option.some.inj (e5.symm.trans g4)
  have hc0 : comp = d 0 := Option.some.inj (e1.symm.trans g0)
  subst hc0
  subst h4
  obtain ⟨k0, hk0, -⟩ := Vm.findClass_spec e1
  refine W.aast hexec hb (hP q0 _ ha) (fun q h => by cases h) (fun h => by cases h) e3 e4 rfl hk0 ⟨h0, by show _ < (arrV _ _ _).slots.size; rw [arrV_size]; exact hlt⟩ (hP q1 _ hv) (fun q h => by cases h) hk0 (as_self _ _) rfl rfl hdg fun H1 e z oq => ?_
  refine kk H1 _ (hP.set hD ha ?_ oq) (hD.set ha) (hS.put z oq (hD.2 q0 _ ha)) z (tot_put z oq (hP q0 _ ha) e (setSlot_size _ _ _))
  show H1[a]? = some (vp_cell _ _)
  rw [e]
  rw [vp_cell_q, vp_cell_q, arrV_store]
  congr 2
  funext q
  by_cases hq : q = i.toNatClampNeg
  · subst hq
    simp [updV, va_up, va_rf]
  · simp [updV, va_up, hq]
theorem k_aald {cl : List vw_C} {H : Heap} {locs : List Loc} {cells slots a : Nat} {ls : Array Slot} {rest : List Value} {ws : va_W} (hexec : p.tables.exec = Jvm.exec) (hb : c.code = cc) (hK : va_K D cl (g_ty d) s) (hP : va_P D cl ws H) (q0 : Nat) {n : Nat} {f : Nat → Option Nat} (ha : ws[q0]? = some (a, .inl (d 4, n, .inr (.inr (.inr (.inr f)))))) {i : Int32} (hin : vp_in i n) (hdg : decode cc pc = .ok (.aaload, 1))
    (kk : W p l e R s m args below meth c H locs cells slots Q (F0 m (pc + 1) ls (va_rf (f i.toNatClampNeg) :: rest))) : W p l e R s m args below meth c H locs cells slots Q (F0 m pc ls (.int i :: .ref a :: rest)) := by
  have hlt : i.toNatClampNeg < n := Nat.not_le.mp fun q => hin (Or.inr q)
  exact W.aald (v := va_rf (f i.toNatClampNeg)) (ty := .array .int) hexec hb (hP q0 _ ha) ((hK.2 4 _ rfl).1 n (fun j => va_rf (f j))) rfl (fun q => by cases q) (by show ¬ (i < 0 ∨ (arrV _ _ _).slots.size ≤ _); rw [arrV_size]; exact hin) (by show (arrV _ _ _).slots[_]? = _; rw [arrV_read _ _ hlt]) rfl rfl hdg kk
theorem x_olen (C : XC p R s m args c D d A cc nL own lvl zc zs) {r : Nat} (hr : r < 34) (dg : decode cc pc = .ok (.arraylength, 1)) (k : X p l e R s m args below meth c Q D d K A nL zc zs L M lv (pc + 1) (iv (nbR r) :: st)) : X p l e R s m args below meth c Q D d K A nL zc zs L M lv pc (.ref (K (24 + 2 * r)) :: st) := fun H locs ls LB hh hl => va_alen (cl := gCl) C.1.1 C.1.2.1 C.1.2.2.2.2.2.1 hh.2.1 (24 + 2 * r) 4 ((fx_at K d L M LB (by omega)).trans (by rw [we_out])) rfl (Int32.ofInt_eq_ofNat (n := nbR r)).symm dg (k H locs ls LB hh hl)
theorem x_blk (C : XC p R s m args c D d A cc nL own lvl zc zs) {r : Nat} (hr : r < 34) {index : Nat} (hlink : Cond.fieldLink own index (TX6 0).1 (TX6 0).2.1 (TX6 0).2.2.1 ∈ gW) (dg : decode cc pc = .ok (.getfield index, 3)) (k : X p l e R s m args below meth c Q D d K A nL zc zs L M lv (pc + 3) (.ref (K (24 + 2 * r)) :: st)) : X p l e R s m args below meth c Q D d K A nL zc zs L M lv pc (.ref (K (23 + 2 * r)) :: st) := x_get C EX6 (23 + 2 * r) (by omega) (fs := [.ref (K (24 + 2 * r))]) (fun B => we_row) rfl 0 (by decide) hlink rfl dg k
end XR
section XS
variable {l : Launch} {D : va_G} {d : Nat → ClassId} {K : Nat → Nat}
set_option maxHeartbeats 1000000 in
theorem m_X6_get (r : Nat) (hr : r < 34) (i : Int) : MI l D d K yX6_get cX6_get 3 (some .int) 0 [.ref (K (23 + 2 * r)), iv i] (fun Q M => Q (rg M r i) M) := by
  refine s_mi pn_X6 (Nat.le_of_ble_eq_true rfl) [(0, .ref (K (23 + 2 * r))), (1, iv i)] rfl rfl (fun p e R s m args below meth c A L M zc zs Q Qg C hret h => ?_)
  refine x_iload_n C dX6_get_0 rfl 1 rfl ?_
  refine x_bipush C (n := 10) (by decide) (by decide) dX6_get_1 ?_
  refine x_ishr C dX6_get_3 ?_
  refine x_istore_n C dX6_get_4 rfl (by decide) [(2, iv (ishr i 10)), (0, .ref (K (23 + 2 * r))), (1, iv i)] rfl ?_
  refine x_iload_n C dX6_get_5 rfl 0 rfl ?_
  have h27 : bm i < 0 ∨ rg M r i = 0 → X p l e R s m args below meth c Qg D d K A 3 zc zs L M [(2, iv (ishr i 10)), (0, .ref (K (23 + 2 * r))), (1, iv i)] 27 [] := by
    intro hc
    refine x_iconst C (n := 0) dX6_get_27 ?_
    refine hret 0 M _ _ dX6_get_28 ?_
    rcases hc with hc | hc
    · unfold rg at h
      rw [if_pos hc] at h
      exact h
    · rw [hc] at h
      exact h
  refine x_if_lt C 27 dX6_get_6 (by decide) (fun hc => ?_) (fun hc => ?_)
  · rw [sh10] at hc
    exact h27 (Or.inl (by omega))
  refine x_iload_n C dX6_get_9 rfl 0 rfl ?_
  refine x_aload_n C dX6_get_10 rfl 1 rfl ?_
  refine x_blk C hr k655 dX6_get_11 ?_
  refine x_olen C hr dX6_get_14 ?_
  rw [sh10] at hc
  have hb := bm_lt i
  have hrg : ∀ LB, g_wf M LB → BA LB r ((bm i).toNat / 1024) = none → rg M r i = 0 := by
    intro LB hw hn
    unfold rg
    rw [if_neg (by omega)]
    exact hw.2.2.1 r _ hr hn
  refine x_icmp_ge C 27 dX6_get_15 (by decide) (fun hc2 => ?_) (fun hc2 => ?_)
  rotate_left
  · intro H locs ls LB hh hl
    refine h27 (Or.inr (hrg LB hh.1 ?_)) H locs ls LB hh hl
    cases hn : BA LB r ((bm i).toNat / 1024) with
    | none => rfl
    | some a =>
      exfalso
      have h1 := hh.1.1 _ (BA_mem hn)
      have h2 := capB_nb hr
      have h3 : bm (nbR r : Int) = nbR r := by
        have h4 : ∀ r, r < 34 → nbR r < 2000 := by decide +kernel
        have h5 := h4 r hr
        unfold bm
        exact Int.bmod_eq_of_le (by omega) (by omega)
      rw [sh10, h3] at hc2
      simp only at h1
      omega
  refine x_aload_n C dX6_get_18 rfl 1 rfl ?_
  refine x_blk C hr k655 dX6_get_19 ?_
  refine x_iload_n C dX6_get_22 rfl 0 rfl ?_
  intro H locs ls LB hh hl
  have h3 : bm (nbR r : Int) = nbR r := by
    have h4 : ∀ r, r < 34 → nbR r < 2000 := by decide +kernel
    have h5 := h4 r hr
    unfold bm
    exact Int.bmod_eq_of_le (by omega) (by omega)
  have hin : vp_in (Int32.ofInt (ishr i 10)) (nbR r) := i_in ⟨by rw [sh10]; omega, by rw [← h3]; exact hc2⟩
  have hat : (wd K d L M LB)[24 + 2 * r]? = some (K (24 + 2 * r), .inl (d 4, nbR r, .inr (.inr (.inr (.inr (BA LB r)))))) := (fx_at K d L M LB (by omega)).trans (by rw [we_out])
  have hix : (Int32.ofInt (ishr i 10)).toNatClampNeg = (bm i).toNat / 1024 := by
    rw [i_nat, sh10]
    omega
  refine k_aald C.1.1 C.1.2.1 C.1.2.2.2.2.2.1 hh.2.1 _ hat hin dX6_get_23 ?_
  rw [hix]
  cases hn : BA LB r ((bm i).toNat / 1024) with
  | none => exact lv_ifnonnullN C.1.1 C.1.2.1 dX6_get_24 (h27 (Or.inr (hrg LB hh.1 hn)) H locs ls LB hh hl)
  | some a =>
    refine lv_ifnonnull C.1.1 C.1.2.1 dX6_get_24 (tgt := 29) (by decide) ?_
    refine lv_aload_n C.1.1 C.1.2.1 dX6_get_29 rfl (lv_at hl 1 rfl) ?_
    refine va_get (cl := gCl) C.1.1 C.1.2.1 C.1.2.2.2.2.1 EX6.1 C.1.2.2.2.1 C.1.2.2.2.2.2.1 hh.2.1 (23 + 2 * r) ((fx_at K d L M LB (by omega)).trans (by rw [we_row])) rfl 0 (by decide) (C.1.2.2.2.2.1 _ k655) (fun _ h => h) rfl dX6_get_30 ?_
    refine lv_iload_n C.1.1 C.1.2.1 dX6_get_33 rfl (lv_at hl 0 rfl) ?_
    refine k_aald C.1.1 C.1.2.1 C.1.2.2.2.2.2.1 hh.2.1 _ hat hin dX6_get_34 ?_
    rw [hix, hn]
    refine lv_iload_n C.1.1 C.1.2.1 dX6_get_35 rfl (lv_at hl 2 rfl) ?_
    refine lv_sipush C.1.1 C.1.2.1 dX6_get_36 (v := Int32.ofInt 1023) (by decide) ?_
    refine lv_iand C.1.1 C.1.2.1 dX6_get_39 ?_
    obtain ⟨k9, hk9⟩ := List.getElem?_of_mem (BA_mem hn)
    have hbl : (wd K d L M LB)[91 + (L.length + k9)]? = some (a, .inl (d 0, 1024, .inl (fun j => Int32.ofInt (if j < 1024 then M r (1024 * ((bm i).toNat / 1024) + j) else 0)))) := by
      rw [bl_at]
      unfold bl
      rw [List.getElem?_map, hk9]
      rfl
    have e9 : Int32.ofInt i &&& Int32.ofInt 1023 = Int32.ofInt (iand i 1023) := by
      unfold iand
      rw [ofInt_toInt]
    rw [e9]
    refine va_iald (cl := gCl) C.1.1 C.1.2.1 C.1.2.2.2.2.2.1 hh.2.1 _ 0 hbl rfl (i_in (an_in i)) dX6_get_40 ?_
    rw [i_nat, an1023]
    rw [if_pos (by omega)]
    have e8 : 1024 * ((bm i).toNat / 1024) + (bm i % 1024).toNat = (bm i).toNat := by omega
    rw [e8]
    have e7 : rg M r i = M r (bm i).toNat := by
      unfold rg
      rw [if_neg (by omega)]
    rw [e7] at h
    exact hret _ M _ _ dX6_get_41 h H locs ls LB hh hl
theorem bm_id {x : Int} (h1 : -2147483648 ≤ x) (h2 : x ≤ 2147483647) : bm x = x := by
  unfold bm
  exact Int.bmod_eq_of_le (by omega) (by omega)
theorem bl_up (M : g_M) (LB : g_B) (r b a : Nat) (i v : Int) (hw : g_wf M LB) (k9 : Nat) (hk9 : LB[k9]? = some (r, b, a)) (hi : (bm i).toNat / 1024 = b) : (bl d M LB).set k9 (a, .inl (d 0, 1024, .inl (upd (fun j => Int32.ofInt (if j < 1024 then M r (1024 * b + j) else 0)) ((bm i).toNat % 1024) (Int32.ofInt v)))) = bl d (rs M r i v) LB := by
  unfold bl
  refine List.ext_getElem? (fun j => ?_)
  rw [List.getElem?_map]
  by_cases hj : j = k9
  · subst hj
    rw [List.getElem?_set_self (by rw [List.length_map]; exact (List.getElem?_eq_some_iff.mp hk9).1), hk9]
    simp only [Option.map_some, Option.some.injEq, Prod.mk.injEq, true_and]
    congr 4
    funext q
    unfold rs up upd
    by_cases hq : q = (bm i).toNat % 1024
    · rw [if_pos hq, if_pos (by omega), if_pos ⟨rfl, by omega⟩]
    · rw [if_neg hq]
      show Int32.ofInt (if q < 1024 then M r (1024 * b + q) else 0) = _
      by_cases h1 : q < 1024
      · rw [if_pos h1, if_pos h1, if_neg (fun h => by omega)]
      · rw [if_neg h1, if_neg h1]
  · rw [List.getElem?_set_ne (Ne.symm hj), List.getElem?_map]
    cases h : LB[j]? with
    | none => rfl
    | some x =>
      obtain ⟨r2, b2, a2⟩ := x
      simp only [Option.map_some, Option.some.injEq, Prod.mk.injEq, true_and]
      congr 4
      funext q
      by_cases h1 : q < 1024
      · rw [if_pos h1, if_pos h1]
        unfold rs up
        rw [if_neg]
        rintro ⟨e1, e2⟩
        subst e1
        have e3 : b2 = b := by omega
        subst e3
        have n1 : (LB.map (fun q => 64 * q.1 + q.2.1))[j]? = some (64 * r2 + b2) := by rw [List.getElem?_map, h]; rfl
        have n2 : (LB.map (fun q => 64 * q.1 + q.2.1))[k9]? = some (64 * r2 + b2) := by rw [List.getElem?_map, hk9]; rfl
        exact hj ((List.getElem?_inj (List.getElem?_eq_some_iff.mp n1).1 hw.2.1).mp (n1.trans n2.symm))
      · rw [if_neg h1, if_neg h1]
theorem fx_rs (M : g_M) (LB : g_B) (r : Nat) (i v : Int) (hr : r < 34) : fx K d (rs M r i v) LB = fx K d M LB := by
  unfold fx rs
  refine List.map_congr_left (fun j hj => ?_)
  rw [up_ne (by omega)]
theorem wf_rs {M : g_M} {LB : g_B} {r a : Nat} {i v : Int} (h : g_wf M LB) (hr : r < 34) (ha : BA LB r ((bm i).toNat / 1024) = some a) : g_wf (rs M r i v) LB := by
  refine ⟨h.1, h.2.1, fun r2 j hr2 hn => ?_, ?_⟩
  · unfold rs up
    rw [if_neg]
    · exact h.2.2.1 r2 j hr2 hn
    · rintro ⟨e1, e2⟩
      subst e1
      subst e2
      rw [hn] at ha
      cases ha
  · unfold rs
    rw [up_ne (by omega)]
    exact h.2.2.2
theorem nC_rs {M : g_M} {LB : g_B} {r : Nat} {i v : Int} (hr : r < 34) : nC (rs M r i v) LB = nC M LB ∧ nS (rs M r i v) LB = nS M LB := nC_up (by omega)
/-- a new block -/
theorem wf_push {M : g_M} {LB : g_B} {r b q : Nat} (h : g_wf M LB) (hr : r < 34) (hb : b < capB r) (hn : BA LB r b = none) : g_wf M (LB ++ [(r, b, q)]) := by
  refine ⟨fun x hx => ?_, ?_, fun r2 j hr2 hj => ?_, h.2.2.2⟩
  · rcases List.mem_append.mp hx with hx | hx
    · exact h.1 x hx
    · rw [List.mem_singleton.mp hx]
      exact ⟨hr, hb⟩
  · rw [List.map_append, List.nodup_append]
    refine ⟨h.2.1, by simp, ?_⟩
    intro x hx y hy hxy
    subst hxy
    obtain ⟨z, hz, rfl⟩ := List.mem_map.mp hx
    have h1 := BA_none hn z hz
    have h2 := (h.1 z hz).2
    have h3 := capB_le z.1
    have h4 := capB_le r
    have h5 : 64 * z.1 + z.2.1 = 64 * r + b := by simpa using hy
    exact h1 ⟨by omega, by omega⟩
  · rw [BA_push] at hj
    cases h1 : BA LB r2 (j / 1024) with
    | none => exact h.2.2.1 r2 j hr2 h1
    | some x => rw [h1] at hj; cases hj
theorem we_lo {K : Nat → Nat} {d : Nat → ClassId} {B B' : Nat → Nat → Option Nat} {m : Nat → Int} {j : Nat} (h : j < 23) : we K d B m j = we K d B' m j := by
  have h2 : j = 0 ∨ j = 1 ∨ j = 2 ∨ j = 3 ∨ j = 4 ∨ j = 5 ∨ j = 6 ∨ j = 7 ∨ j = 8 ∨ j = 9 ∨ j = 10 ∨ j = 11 ∨ j = 12 ∨ j = 13 ∨ j = 14 ∨ j = 15 ∨ j = 16 ∨ j = 17 ∨ j = 18 ∨ j = 19 ∨ j = 20 ∨ j = 21 ∨ j = 22 := by omega
  rcases h2 with rfl | rfl | rfl | rfl | rfl | rfl | rfl | rfl | rfl | rfl | rfl | rfl | rfl | rfl | rfl | rfl | rfl | rfl | rfl | rfl | rfl | rfl | rfl <;> rfl
set_option maxHeartbeats 2000000 in
theorem m_X6_set (r : Nat) (hr : r < 34) (i v : Int) : MV l D d K yX6_set cX6_set 4 none 0 [.ref (K (23 + 2 * r)), iv i, iv v] (fun Q M => okI r i ∧ Q (rs M r i v)) := by
  refine s_mv pn_X6 (Nat.le_of_ble_eq_true rfl) [(0, .ref (K (23 + 2 * r))), (1, iv i), (2, iv v)] rfl rfl (fun p e R s m args below meth c A L M zc zs Q Qg C hret h => ?_)
  obtain ⟨hok, h⟩ := h
  have hb := bm_lt i
  have hcap := capB_nb hr
  have hc64 := capB_le r
  have h3 : bm (nbR r : Int) = nbR r := by
    have h4 : ∀ r, r < 34 → nbR r < 2000 := by decide +kernel
    have h5 := h4 r hr
    unfold bm
    exact Int.bmod_eq_of_le (by omega) (by omega)
  unfold okI at hok
  refine x_iload_n C dX6_set_0 rfl 1 rfl ?_
  refine x_bipush C (n := 10) (by decide) (by decide) dX6_set_1 ?_
  refine x_ishr C dX6_set_3 ?_
  refine x_istore_n C dX6_set_4 rfl (by decide) [(3, iv (ishr i 10)), (0, .ref (K (23 + 2 * r))), (1, iv i), (2, iv v)] rfl ?_
  refine x_iload_n C dX6_set_5 rfl 0 rfl ?_
  refine x_if_lt C 18 dX6_set_6 (by decide) (fun hc => ?_) (fun hc => ?_)
  · rw [sh10] at hc
    omega
  refine x_iload_n C dX6_set_9 rfl 0 rfl ?_
  refine x_aload_n C dX6_set_10 rfl 1 rfl ?_
  refine x_blk C hr k655 dX6_set_11 ?_
  refine x_olen C hr dX6_set_14 ?_
  refine x_icmp_lt C 19 dX6_set_15 (by decide) (fun hc2 => ?_) (fun hc2 => ?_)
  rotate_left
  · rw [sh10, h3] at hc2
    omega
  rw [sh10] at hc
  have hin : vp_in (Int32.ofInt (ishr i 10)) (nbR r) := i_in ⟨by rw [sh10]; omega, by rw [← h3]; exact hc2⟩
  have hix : (Int32.ofInt (ishr i 10)).toNatClampNeg = (bm i).toNat / 1024 := by
    rw [i_nat, sh10]
    omega
  -- from 39 on: the block is there
  have h39 : ∀ (H : Heap) (locs : List Loc) (ls : Array Slot) (LB : g_B) (a : Nat), XH D d K A s zc zs L M LB H locs → lv_has ls 4 [(3, iv (ishr i 10)), (0, .ref (K (23 + 2 * r))), (1, iv i), (2, iv v)] → BA LB r ((bm i).toNat / 1024) = some a → W p l e R s m args below meth c H locs R.cells R.slots Qg (F0 m 39 ls []) := by
    intro H locs ls LB a hh hl hn
    have hat : (wd K d L M LB)[24 + 2 * r]? = some (K (24 + 2 * r), .inl (d 4, nbR r, .inr (.inr (.inr (.inr (BA LB r)))))) := (fx_at K d L M LB (by omega)).trans (by rw [we_out])
    refine lv_aload_n C.1.1 C.1.2.1 dX6_set_39 rfl (lv_at hl 1 rfl) ?_
    refine va_get (cl := gCl) C.1.1 C.1.2.1 C.1.2.2.2.2.1 EX6.1 C.1.2.2.2.1 C.1.2.2.2.2.2.1 hh.2.1 (23 + 2 * r) ((fx_at K d L M LB (by omega)).trans (by rw [we_row])) rfl 0 (by decide) (C.1.2.2.2.2.1 _ k655) (fun _ h => h) rfl dX6_set_40 ?_
    refine lv_iload_n C.1.1 C.1.2.1 dX6_set_43 rfl (lv_at hl 0 rfl) ?_
    refine k_aald C.1.1 C.1.2.1 C.1.2.2.2.2.2.1 hh.2.1 _ hat hin dX6_set_44 ?_
    rw [hix, hn]
    refine lv_iload_n C.1.1 C.1.2.1 dX6_set_45 rfl (lv_at hl 2 rfl) ?_
    refine lv_sipush C.1.1 C.1.2.1 dX6_set_46 (v := Int32.ofInt 1023) (by decide) ?_
    refine lv_iand C.1.1 C.1.2.1 dX6_set_49 ?_
    refine lv_iload_n C.1.1 C.1.2.1 dX6_set_50 rfl (lv_at hl 3 rfl) ?_
    obtain ⟨k9, hk9⟩ := List.getElem?_of_mem (BA_mem hn)
    have hbl : (wd K d L M LB)[91 + (L.length + k9)]? = some (a, .inl (d 0, 1024, .inl (fun j => Int32.ofInt (if j < 1024 then M r (1024 * ((bm i).toNat / 1024) + j) else 0)))) := by
      rw [bl_at]
      unfold bl
      rw [List.getElem?_map, hk9]
      rfl
    have e9 : Int32.ofInt i &&& Int32.ofInt 1023 = Int32.ofInt (iand i 1023) := by
      unfold iand
      rw [ofInt_toInt]
    rw [e9]
    refine k_iast (cl := gCl) C.1.1 C.1.2.1 C.1.2.2.2.2.2.1 hh.2.1 hh.2.2.1 hh.2.2.2.1 _ 0 hbl rfl (i_in (an_in i)) (Int32.ofInt v) rfl dX6_set_51 (fun H1 locs1 hP1 hD1 hS1 hz1 ht1 => ?_)
    have e8 : (Int32.ofInt (iand i 1023)).toNatClampNeg = (bm i).toNat % 1024 := by
      rw [i_nat, an1023]
      omega
    have e7 : (wd K d L M LB).set (91 + (L.length + k9)) (a, .inl (d 0, 1024, .inl (upd (fun j => Int32.ofInt (if j < 1024 then M r (1024 * ((bm i).toNat / 1024) + j) else 0)) ((bm i).toNat % 1024) (Int32.ofInt v)))) = wd K d L (rs M r i v) LB := by
      unfold wd
      rw [List.set_append_right _ _ (by rw [fx_len]; omega), fx_len, Nat.add_sub_cancel_left, List.set_append_right _ _ (by omega), Nat.add_sub_cancel_left, bl_up M LB r _ a i v hh.1 k9 hk9 rfl, fx_rs M LB r i v hr]
    rw [e8, e7] at hP1 hD1
    refine hret _ _ _ dX6_set_52 h H1 locs1 ls LB ⟨wf_rs hh.1 hr hn, hP1, hD1, hS1, ?_, ?_⟩ hl
    · rw [(nC_rs hr).1, hz1]
      exact hh.2.2.2.2.1
    · rw [(nC_rs hr).2, ht1]
      exact hh.2.2.2.2.2
  refine x_aload_n C dX6_set_19 rfl 1 rfl ?_
  refine x_blk C hr k655 dX6_set_20 ?_
  refine x_iload_n C dX6_set_23 rfl 0 rfl ?_
  intro H locs ls LB hh hl
  have hat : (wd K d L M LB)[24 + 2 * r]? = some (K (24 + 2 * r), .inl (d 4, nbR r, .inr (.inr (.inr (.inr (BA LB r)))))) := (fx_at K d L M LB (by omega)).trans (by rw [we_out])
  refine k_aald C.1.1 C.1.2.1 C.1.2.2.2.2.2.1 hh.2.1 _ hat hin dX6_set_24 ?_
  rw [hix]
  cases hn : BA LB r ((bm i).toNat / 1024) with
  | some a => exact lv_ifnonnull C.1.1 C.1.2.1 dX6_set_25 (tgt := 39) (by decide) (h39 H locs ls LB a hh hl hn)
  | none =>
    refine lv_ifnonnullN C.1.1 C.1.2.1 dX6_set_25 ?_
    refine lv_aload_n C.1.1 C.1.2.1 dX6_set_28 rfl (lv_at hl 1 rfl) ?_
    refine va_get (cl := gCl) C.1.1 C.1.2.1 C.1.2.2.2.2.1 EX6.1 C.1.2.2.2.1 C.1.2.2.2.2.2.1 hh.2.1 (23 + 2 * r) ((fx_at K d L M LB (by omega)).trans (by rw [we_row])) rfl 0 (by decide) (C.1.2.2.2.2.1 _ k655) (fun _ h => h) rfl dX6_set_29 ?_
    refine lv_iload_n C.1.1 C.1.2.1 dX6_set_32 rfl (lv_at hl 0 rfl) ?_
    refine lv_sipush C.1.1 C.1.2.1 dX6_set_33 (v := 1024) (by decide) ?_
    refine W.grow (fun hwt => ?_)
    have hwz := hh.2.2.2.1.1
    have hw' := wf_push (q := H.size) hh.1 hr (b := (bm i).toNat / 1024) (by omega) hn
    have hc' := hw'.cap
    have hn1 : nC M (LB ++ [(r, (bm i).toNat / 1024, H.size)]) = nC M LB + 1 := by
      unfold nC
      rw [List.length_append]
      simp
      omega
    have hn2 : nS M (LB ++ [(r, (bm i).toNat / 1024, H.size)]) = nS M LB + 1024 := by
      unfold nS
      rw [List.length_append]
      simp
      omega
    have hroom : H.size - s.heap.size + 1 ≤ R.cells ∧ TOT H - TOT s.heap + 1024 ≤ R.slots := by
      have h5 := hh.2.2.2.2.1
      have h6 := hh.2.2.2.2.2
      obtain ⟨-, -, -, -, c1, c2⟩ := C
      omega
    refine W.tight (k := H.size - s.heap.size) (n := TOT H - TOT s.heap) (by omega) (by omega) ?_
    refine va_newaK (N := 1024) C.1.1 C.1.2.1 (atype := .int) (C.1.2.2.2.2.1 _ ka_int) rfl dX6_set_36 rfl (by decide) (by decide +kernel) (by decide) hroom.1 hroom.2 rfl (fun H1 cA e1 z1 o1 hAr hNm => ?_)
    have hcA : cA = d 0 := Option.some.inj (hNm.symm.trans (C.1.2.2.2.2.2.1.2 0 _ rfl).2)
    subst hcA
    refine W.widen hroom.1 hroom.2 ?_
    have hkp : ∀ (k : Nat) (x : Nat × va_E), (wd K d L M LB)[k]? = some x → H1[x.1]? = H[x.1]? := fun k x hx => o1 x.1 ((hh.2.1 k x hx).lt)
    have hPa : va_P D gCl (wd K d L M LB ++ [(H.size, .inl (d 0, 1024, .inl (fun _ => 0)))]) H1 := (hh.2.1.kept hkp).app (fun k x hx => by
      cases k with
      | zero =>
        cases hx
        exact e1
      | succ k => simp at hx)
    have hDa : va_D A (wd K d L M LB ++ [(H.size, .inl (d 0, 1024, .inl (fun _ => 0)))]) := hh.2.2.1.push hh.2.1 rfl (C.1.2.2.2.2.2.2.1 _ hh.2.2.2.1.1)
    have hSa : va_S A s.heap H1 locs := ⟨Nat.le_trans hh.2.2.2.1.1 (by omega), fun x h1 h2 => (o1 x (Nat.lt_of_lt_of_le h1 hh.2.2.2.1.1)).trans (hh.2.2.2.1.2.1 x h1 h2), hh.2.2.2.1.2.2⟩
    have htot : TOT H1 = TOT H + 1024 := by
      have ha := tot_list H1.toList H.toList (fun j x hj => by
        rw [Array.getElem?_toList] at hj
        exact ⟨x, by rw [Array.getElem?_toList, o1 j (Array.getElem?_eq_some_iff.mp hj).1]; exact hj, rfl⟩)
      have hlen : H1.toList.length = H.toList.length + 1 := by rw [Array.length_toList, Array.length_toList, z1]
      have hx : H1.toList[H.toList.length]? = some (arrV (d 0) 1024 (fun _ => defaultValue .int)) := by rw [Array.getElem?_toList, Array.length_toList]; exact e1
      have hdr : H1.toList.drop H.toList.length = [arrV (d 0) 1024 (fun _ => defaultValue .int)] := by
        rw [List.drop_eq_getElem_cons (by omega), List.drop_eq_nil_of_le (by omega)]
        rw [List.getElem?_eq_getElem (by omega)] at hx
        rw [Option.some.inj hx]
      rw [hdr] at ha
      simpa [TOT, arrV_size] using ha
    have hl91 : (wd K d L M LB).length = 91 + (L.length + LB.length) := by
      unfold wd bl
      rw [List.length_append, fx_len, List.length_append, List.length_map]
    have hat1 : (wd K d L M LB ++ [(H.size, .inl (d 0, 1024, .inl (fun _ => 0)))])[24 + 2 * r]? = some (K (24 + 2 * r), .inl (d 4, nbR r, .inr (.inr (.inr (.inr (BA LB r)))))) := by
      rw [List.getElem?_append_left (by rw [hl91]; omega)]
      exact hat
    have hq1 : (wd K d L M LB ++ [(H.size, .inl (d 0, 1024, .inl (fun _ => 0)))])[91 + (L.length + LB.length)]? = some (H.size, .inl (d 0, 1024, .inl (fun _ => 0))) := by
      rw [List.getElem?_append_right (by rw [hl91]; omega), hl91, Nat.sub_self]
      rfl
    refine k_aast (cl := gCl) C.1.1 C.1.2.1 C.1.2.2.2.2.2.1 C.1.2.2.2.2.2.2.2.1 hPa hDa hSa _ _ hat1 hq1 hin dX6_set_38 (fun H2 locs2 hP2 hD2 hS2 hz2 ht2 => ?_)
    rw [hix] at hP2 hD2
    have e7 : (wd K d L M LB ++ [((H.size, Sum.inl (d 0, 1024, Sum.inl (fun _ => 0))) : Nat × va_E)]).set (24 + 2 * r) ((K (24 + 2 * r), Sum.inl (d 4, nbR r, Sum.inr (Sum.inr (Sum.inr (Sum.inr (va_up (BA LB r) ((bm i).toNat / 1024) (some H.size))))))) : Nat × va_E) = wd K d L M (LB ++ [(r, (bm i).toNat / 1024, H.size)]) := by
      rw [List.set_append_left _ _ (by rw [hl91]; omega)]
      unfold wd
      rw [List.set_append_left _ _ (by rw [fx_len]; omega)]
      have hb2 : bl d M (LB ++ [(r, (bm i).toNat / 1024, H.size)]) = bl d M LB ++ [(H.size, .inl (d 0, 1024, .inl (fun _ => 0)))] := by
        have hf : (fun j : Nat => Int32.ofInt (if j < 1024 then M r (1024 * ((bm i).toNat / 1024) + j) else 0)) = fun _ => 0 := by
          funext j
          by_cases hj : j < 1024
          · rw [if_pos hj, hh.1.2.2.1 r _ hr (by rw [show (1024 * ((bm i).toNat / 1024) + j) / 1024 = (bm i).toNat / 1024 by omega]; exact hn)]
            rfl
          · rw [if_neg hj]
            rfl
        unfold bl
        rw [List.map_append]
        simp only [List.map_cons, List.map_nil]
        rw [hf]
      rw [hb2, List.append_assoc, List.append_assoc]
      refine congrArg (fun z : va_W => z ++ (L ++ (bl d M LB ++ [((H.size, Sum.inl (d 0, 1024, Sum.inl (fun _ => 0))) : Nat × va_E)]))) ?_
      refine List.ext_getElem? (fun j => ?_)
      by_cases hj : j < 91
      · have e0 : ∀ B : g_B, (fx K d M B)[j]? = some (K j, we K d (BA B) (M (40 + j)) j) := fun B => by
          unfold fx
          rw [List.getElem?_map, List.getElem?_range hj]
          rfl
        rw [e0]
        by_cases h1 : j = 24 + 2 * r
        · subst h1
          rw [List.getElem?_set_self (by rw [fx_len]; omega), we_out]
          have hfun : va_up (BA LB r) ((bm i).toNat / 1024) (some H.size) = BA (LB ++ [(r, (bm i).toNat / 1024, H.size)]) r := by
            funext b
            rw [BA_push]
            unfold va_up
            by_cases h2 : b = (bm i).toNat / 1024
            · subst h2
              rw [if_pos rfl, hn, if_pos ⟨rfl, rfl⟩]
              rfl
            · rw [if_neg h2, if_neg (fun h => h2 h.2.symm)]
              cases BA LB r b <;> rfl
          rw [hfun]
        · rw [List.getElem?_set_ne (Ne.symm h1), e0]
          have hwe : we K d (BA LB) (M (40 + j)) j = we K d (BA (LB ++ [(r, (bm i).toNat / 1024, H.size)])) (M (40 + j)) j := by
            by_cases h2 : j < 23
            · exact we_lo h2
            · by_cases h3 : j % 2 = 1
              · generalize hg : (j - 23) / 2 = g
                have hj2 : j = 23 + 2 * g := by omega
                subst hj2
                rw [we_row, we_row]
              · generalize hg : (j - 24) / 2 = g
                have hj2 : j = 24 + 2 * g := by omega
                subst hj2
                rw [we_out, we_out]
                have hfun : BA LB g = BA (LB ++ [(r, (bm i).toNat / 1024, H.size)]) g := by
                  funext b
                  rw [BA_push, if_neg (fun h => by omega)]
                  cases BA LB g b <;> rfl
                rw [hfun]
          rw [hwe]
      · rw [List.getElem?_eq_none (by rw [List.length_set, fx_len]; omega), List.getElem?_eq_none (by rw [fx_len]; omega)]
    rw [e7] at hP2 hD2
    refine h39 H2 locs2 ls _ H.size ⟨hw', hP2, hD2, hS2, ?_, ?_⟩ hl ?_
    · rw [hn1, hz2, z1]
      have := hh.2.2.2.2.1
      omega
    · rw [hn2, ht2, htot]
      have := hh.2.2.2.2.2
      omega
    · rw [BA_push, hn, if_pos ⟨rfl, rfl⟩]
      rfl
end XS
end
