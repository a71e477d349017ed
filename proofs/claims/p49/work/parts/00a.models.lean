def F_X5_length (Q : Int → g_M → Prop) (M : g_M) : Prop := Q (M 46 3) M
def F_X5_append_47 (Q : g_M → Prop) (k3 : Int → Int → g_M → Prop) (x1 x2 : Int) (M : g_M) : Prop := k3 x1 (x2 + (-8)) M
def F_X5_append_3 (Q : g_M → Prop) : Nat → Int → Int → g_M → Prop
  | 0 => fun _ _ _ => False
  | n + 1 => fun x1 x2 M => ((bm x2 < 0 → (Q M)) ∧ (¬ bm x2 < 0 → (((bm (M 46 3) < 0 → (F_X5_append_47 Q (F_X5_append_3 Q n) x1 x2 M)) ∧ (¬ bm (M 46 3) < 0 → (((bm (M 46 3) < bm 400 → ((inI (M 46 3) 400 ∧ F_X5_append_47 Q (F_X5_append_3 Q n) x1 x2 (up (up M 62 (bm (M 46 3)).toNat (i2b (i2b (ishr x1 x2)))) 46 3 (((up M 62 (bm (M 46 3)).toNat (i2b (i2b (ishr x1 x2)))) 46 3) + 1))))) ∧ (¬ bm (M 46 3) < bm 400 → (F_X5_append_47 Q (F_X5_append_3 Q n) x1 x2 M)))))))))
def F_X5_append (Q : g_M → Prop) (a1 : Int) (M : g_M) : Prop := ∃ n9, F_X5_append_3 Q n9 a1 24 M
def F_X11_feed (Q : Int → g_M → Prop) (a1 a2 a3 a4 a5 : Int) (M : g_M) : Prop := F_X5_length (fun v1 M1 => ((bm 400 < bm (v1 + 20) → (False)) ∧ (¬ bm 400 < bm (v1 + 20) → (F_X5_append (fun M3 => F_X5_append (fun M4 => F_X5_append (fun M5 => F_X5_append (fun M6 => F_X5_append (fun M7 => F_X5_length (fun v8 M8 => Q v8 M8) M7) a5 M6) a4 M5) a3 M4) a2 M3) a1 M1)))) M
def F_X5_shorten (Q : g_M → Prop) (a1 : Int) (M : g_M) : Prop := Q (up M 46 3 a1)
def F_X11_trim (Q : Int → g_M → Prop) (a1 : Int) (M : g_M) : Prop := ((bm a1 < 0 → (False)) ∧ (¬ bm a1 < 0 → (F_X5_length (fun v2 M2 => ((bm v2 < bm a1 → (False)) ∧ (¬ bm v2 < bm a1 → (F_X5_shorten (fun M4 => Q a1 M4) a1 M2)))) M)))
def F_X5_isLetter (Q : Int → g_M → Prop) (a1 : Int) (M : g_M) : Prop := ((bm a1 < bm 97 → (Q 0 M)) ∧ (¬ bm a1 < bm 97 → (((bm 122 < bm a1 → (Q 0 M)) ∧ (¬ bm 122 < bm a1 → (Q 1 M))))))
def F_X5_isNamePart (Q : Int → g_M → Prop) (a1 : Int) (M : g_M) : Prop := F_X5_isLetter (fun v1 M1 => ((bm v1 = 0 → (((bm a1 < bm 48 → (Q 0 M1)) ∧ (¬ bm a1 < bm 48 → (((bm 57 < bm a1 → (Q 0 M1)) ∧ (¬ bm 57 < bm a1 → (Q 1 M1)))))))) ∧ (¬ bm v1 = 0 → (Q 1 M1)))) a1 M
def F_X5_holdsName_34 (Q : Int → g_M → Prop) : Nat → Int → g_M → Prop
  | 0 => fun _ _ => False
  | n + 1 => fun x1 M => ((bm x1 < bm (M 46 3) → ((inI x1 400 ∧ F_X5_isNamePart (fun v6 M6 => ((bm v6 = 0 → (Q 0 M6)) ∧ (¬ bm v6 = 0 → (F_X5_holdsName_34 Q n (x1 + 1) M6)))) (M 62 (bm x1).toNat) M))) ∧ (¬ bm x1 < bm (M 46 3) → (Q 1 M)))
def F_X5_holdsName (Q : Int → g_M → Prop) (M : g_M) : Prop := ((bm (M 46 3) < bm 1 → (Q 0 M)) ∧ (¬ bm (M 46 3) < bm 1 → (((bm 8 < bm (M 46 3) → (Q 0 M)) ∧ (¬ bm 8 < bm (M 46 3) → ((inI 0 400 ∧ F_X5_isLetter (fun v3 M3 => ((bm v3 = 0 → (Q 0 M3)) ∧ (¬ bm v3 = 0 → (∃ n9, F_X5_holdsName_34 Q n9 1 M3)))) (M 62 (bm 0).toNat) M)))))))
def F_X7_nameLength (Q : Int → g_M → Prop) (a1 : Int) (M : g_M) : Prop := ((bm a1 < 0 → (Q 0 M)) ∧ (¬ bm a1 < 0 → (((bm a1 < bm (M 41 7) → ((inI a1 24 ∧ Q (M 49 (bm a1).toNat) M))) ∧ (¬ bm a1 < bm (M 41 7) → (Q 0 M))))))
def F_X7_nameByte_31 (Q : Int → g_M → Prop) (x1 x2 t0 : Int) (M : g_M) : Prop := ((bm t0 = 0 → (isY 0 ∧ Q 0 M)) ∧ (¬ bm t0 = 0 → ((inI ((x1 * 8) + x2) 192 ∧ isY (M 48 (bm ((x1 * 8) + x2)).toNat) ∧ Q (M 48 (bm ((x1 * 8) + x2)).toNat) M))))
def F_X7_nameByte_30 (Q : Int → g_M → Prop) (x1 x2 : Int) (M : g_M) : Prop := F_X7_nameByte_31 Q x1 x2 0 M
def F_X7_nameByte (Q : Int → g_M → Prop) (a1 a2 : Int) (M : g_M) : Prop := ((bm a1 < 0 → (F_X7_nameByte_30 Q a1 a2 M)) ∧ (¬ bm a1 < 0 → (((bm a1 < bm (M 41 7) → (((bm a2 < 0 → (F_X7_nameByte_30 Q a1 a2 M)) ∧ (¬ bm a2 < 0 → ((inI a1 24 ∧ ((bm a2 < bm (M 49 (bm a1).toNat) → (F_X7_nameByte_31 Q a1 a2 1 M)) ∧ (¬ bm a2 < bm (M 49 (bm a1).toNat) → (F_X7_nameByte_30 Q a1 a2 M))))))))) ∧ (¬ bm a1 < bm (M 41 7) → (F_X7_nameByte_30 Q a1 a2 M))))))
def F_X7_isNameAt_3 (Q : Int → g_M → Prop) : Nat → Int → Int → Int → g_M → Prop
  | 0 => fun _ _ _ _ => False
  | n + 1 => fun x1 x3 x4 M => F_X7_nameLength (fun v1 M1 => ((bm x4 < bm v1 → (((bm (x3 + x4) < 0 → (Q 0 M1)) ∧ (¬ bm (x3 + x4) < 0 → (((bm (x3 + x4) < bm 400 → ((inI (x3 + x4) 400 ∧ F_X7_nameByte (fun v5 M5 => ((bm (M1 62 (bm (x3 + x4)).toNat) = bm v5 → (F_X7_isNameAt_3 Q n x1 x3 (x4 + 1) M5)) ∧ (¬ bm (M1 62 (bm (x3 + x4)).toNat) = bm v5 → (Q 0 M5)))) x1 x4 M1))) ∧ (¬ bm (x3 + x4) < bm 400 → (Q 0 M1)))))))) ∧ (¬ bm x4 < bm v1 → (Q 1 M1)))) x1 M
def F_X7_isNameAt (Q : Int → g_M → Prop) (a1 a3 : Int) (M : g_M) : Prop := ∃ n9, F_X7_isNameAt_3 Q n9 a1 a3 0 M
def F_X7_find_62 (Q : Int → g_M → Prop) (k28 : Int → Int → Int → g_M → Prop) (x2 x3 x4 : Int) (M : g_M) : Prop := k28 x2 x3 (x4 + 1) M
def F_X7_find_28 (Q : Int → g_M → Prop) : Nat → Int → Int → Int → g_M → Prop
  | 0 => fun _ _ _ _ => False
  | n + 1 => fun x2 x3 x4 M => ((bm x4 < bm (M 41 7) → ((inI x4 24 ∧ ((bm (M 49 (bm x4).toNat) = bm x3 → (F_X7_isNameAt (fun v7 M7 => ((bm v7 = 0 → (F_X7_find_62 Q (F_X7_find_28 Q n) x2 x3 x4 M7)) ∧ (¬ bm v7 = 0 → (Q x4 M7)))) x4 x2 M)) ∧ (¬ bm (M 49 (bm x4).toNat) = bm x3 → (F_X7_find_62 Q (F_X7_find_28 Q n) x2 x3 x4 M)))))) ∧ (¬ bm x4 < bm (M 41 7) → (Q (-1) M)))
def F_X7_find (Q : Int → g_M → Prop) (a2 a3 : Int) (M : g_M) : Prop := ((bm a2 < 0 → (Q (-1) M)) ∧ (¬ bm a2 < 0 → (((bm a3 < bm 1 → (Q (-1) M)) ∧ (¬ bm a3 < bm 1 → (((bm 8 < bm a3 → (Q (-1) M)) ∧ (¬ bm 8 < bm a3 → (((bm 400 < bm (a2 + a3) → (Q (-1) M)) ∧ (¬ bm 400 < bm (a2 + a3) → (∃ n9, F_X7_find_28 Q n9 a2 a3 0 M))))))))))))
def F_X5_heldSymbol (Q : Int → g_M → Prop) (M : g_M) : Prop := F_X7_find (fun v1 M1 => Q v1 M1) 0 (M 46 3) M
def F_X5_drain (Q : Int → g_M → Prop) (M : g_M) : Prop := Q (M 46 3) (up M 46 3 0)
def F_X7_isFull (Q : Int → g_M → Prop) (M : g_M) : Prop := ((bm (M 41 7) < bm 24 → (Q 0 M)) ∧ (¬ bm (M 41 7) < bm 24 → (Q 1 M)))
def F_X7_add_32 (Q : Int → g_M → Prop) : Nat → Int → Int → Int → Int → Int → g_M → Prop
  | 0 => fun _ _ _ _ _ _ => False
  | n + 1 => fun x2 x3 x4 x5 x6 M => ((bm x6 < bm x2 → ((inI x6 400 ∧ (inI ((x5 * 8) + x6) 192 ∧ F_X7_add_32 Q n x2 x3 x4 x5 (x6 + 1) (up M 48 (bm ((x5 * 8) + x6)).toNat (i2b (M 62 (bm x6).toNat))))))) ∧ (¬ bm x6 < bm x2 → ((inI x5 24 ∧ (inI x5 24 ∧ (inI x5 24 ∧ (inI x5 24 ∧ (inI x5 24 ∧ Q x5 (up (up (up (up (up (up M 49 (bm x5).toNat x2) 50 (bm x5).toNat x3) 51 (bm x5).toNat x4) 52 (bm x5).toNat x5) 53 (bm x5).toNat (-1)) 41 7 (((up (up (up (up (up M 49 (bm x5).toNat x2) 50 (bm x5).toNat x3) 51 (bm x5).toNat x4) 52 (bm x5).toNat x5) 53 (bm x5).toNat (-1)) 41 7) + 1))))))))))
def F_X7_add (Q : Int → g_M → Prop) (a2 a3 a4 : Int) (M : g_M) : Prop := ((bm (M 41 7) < bm 24 → (((bm 8 < bm a2 → (Q (-1) M)) ∧ (¬ bm 8 < bm a2 → (((bm 400 < bm a2 → (Q (-1) M)) ∧ (¬ bm 400 < bm a2 → (∃ n9, F_X7_add_32 Q n9 a2 a3 a4 (M 41 7) 0 M)))))))) ∧ (¬ bm (M 41 7) < bm 24 → (Q (-1) M)))
def F_X11_declare (Q : Int → g_M → Prop) (a1 a2 : Int) (M : g_M) : Prop := F_X5_holdsName (fun v1 M1 => F_X5_heldSymbol (fun v2 M2 => F_X5_drain (fun v3 M3 => ((bm a1 < 0 → (False)) ∧ (¬ bm a1 < 0 → (((bm 3 < bm a1 → (False)) ∧ (¬ bm 3 < bm a1 → (((bm a2 < bm 1 → (False)) ∧ (¬ bm a2 < bm 1 → (((bm 9 < bm a2 → (False)) ∧ (¬ bm 9 < bm a2 → (((bm v1 = 0 → (False)) ∧ (¬ bm v1 = 0 → (((bm v2 = bm (-1) → (F_X7_isFull (fun v10 M10 => ((bm v10 = 0 → (F_X7_add (fun v12 M12 => Q v12 M12) v3 a1 a2 M10)) ∧ (¬ bm v10 = 0 → (False)))) M3)) ∧ (¬ bm v2 = bm (-1) → (False))))))))))))))))))) M2) M1) M
def F_X7_isOrderFixed (Q : Int → g_M → Prop) (M : g_M) : Prop := isB (M 41 10) ∧ Q (M 41 10) M
def F_X7_isByWeight (Q : Int → g_M → Prop) (M : g_M) : Prop := isB (M 41 9) ∧ Q (M 41 9) M
def F_X7_chooseOrder (Q : g_M → Prop) (a1 : Int) (M : g_M) : Prop := (isB a1 ∧ Q (up M 41 9 a1))
def F_X11_orderByWeight (Q : Int → g_M → Prop) (a1 : Int) (M : g_M) : Prop := F_X7_isOrderFixed (fun v1 M1 => ((bm v1 = 0 → (F_X7_isByWeight (fun v3 M3 => F_X7_chooseOrder (fun M4 => isB v3 ∧ Q v3 M4) a1 M3) M1)) ∧ (¬ bm v1 = 0 → (False)))) M
def F_X7_has (Q : Int → g_M → Prop) (a1 : Int) (M : g_M) : Prop := ((bm a1 < 0 → (Q 0 M)) ∧ (¬ bm a1 < 0 → (((bm a1 < bm (M 41 7) → (Q 1 M)) ∧ (¬ bm a1 < bm (M 41 7) → (Q 0 M))))))
def F_X7_rank (Q : Int → g_M → Prop) (a1 : Int) (M : g_M) : Prop := ((bm a1 < 0 → (Q 0 M)) ∧ (¬ bm a1 < 0 → (((bm a1 < bm (M 41 7) → ((inI a1 24 ∧ Q (M 52 (bm a1).toNat) M))) ∧ (¬ bm a1 < bm (M 41 7) → (Q 0 M))))))
def F_X7_moveTo_101 (Q : g_M → Prop) (k23 : Int → Int → Int → Int → g_M → Prop) (x1 x2 x3 x4 : Int) (M : g_M) : Prop := k23 x1 x2 x3 (x4 + 1) M
def F_X7_moveTo_68 (Q : g_M → Prop) (k23 : Int → Int → Int → Int → g_M → Prop) (x1 x2 x3 x4 : Int) (M : g_M) : Prop := (inI x4 24 ∧ ((bm (M 52 (bm x4).toNat) < bm x3 → ((inI x4 24 ∧ ((bm (M 52 (bm x4).toNat) < bm x2 → (F_X7_moveTo_101 Q k23 x1 x2 x3 x4 M)) ∧ (¬ bm (M 52 (bm x4).toNat) < bm x2 → ((inI x4 24 ∧ (inI x4 24 ∧ F_X7_moveTo_101 Q k23 x1 x2 x3 x4 (up M 52 (bm x4).toNat ((M 52 (bm x4).toNat) + 1)))))))))) ∧ (¬ bm (M 52 (bm x4).toNat) < bm x3 → (F_X7_moveTo_101 Q k23 x1 x2 x3 x4 M))))
def F_X7_moveTo_23 (Q : g_M → Prop) : Nat → Int → Int → Int → Int → g_M → Prop
  | 0 => fun _ _ _ _ _ => False
  | n + 1 => fun x1 x2 x3 x4 M => ((bm x4 < bm (M 41 7) → ((inI x4 24 ∧ ((bm x3 < bm (M 52 (bm x4).toNat) → ((inI x4 24 ∧ ((bm x2 < bm (M 52 (bm x4).toNat) → (F_X7_moveTo_68 Q (F_X7_moveTo_23 Q n) x1 x2 x3 x4 M)) ∧ (¬ bm x2 < bm (M 52 (bm x4).toNat) → ((inI x4 24 ∧ (inI x4 24 ∧ F_X7_moveTo_101 Q (F_X7_moveTo_23 Q n) x1 x2 x3 x4 (up M 52 (bm x4).toNat ((M 52 (bm x4).toNat) - 1)))))))))) ∧ (¬ bm x3 < bm (M 52 (bm x4).toNat) → (F_X7_moveTo_68 Q (F_X7_moveTo_23 Q n) x1 x2 x3 x4 M)))))) ∧ (¬ bm x4 < bm (M 41 7) → ((inI x1 24 ∧ Q (up M 52 (bm x1).toNat x2)))))
def F_X7_moveTo (Q : g_M → Prop) (a1 a2 : Int) (M : g_M) : Prop := ((bm a1 < 0 → (Q M)) ∧ (¬ bm a1 < 0 → (((bm a1 < bm (M 41 7) → ((inI a1 24 ∧ ∃ n9, F_X7_moveTo_23 Q n9 a1 a2 (M 52 (bm a1).toNat) 0 M))) ∧ (¬ bm a1 < bm (M 41 7) → (Q M))))))
def F_X11_promote (Q : Int → g_M → Prop) (a1 a2 : Int) (M : g_M) : Prop := F_X7_has (fun v1 M1 => ((bm v1 = 0 → (False)) ∧ (¬ bm v1 = 0 → (F_X7_has (fun v3 M3 => ((bm v3 = 0 → (False)) ∧ (¬ bm v3 = 0 → (F_X7_isOrderFixed (fun v5 M5 => ((bm v5 = 0 → (F_X7_rank (fun v7 M7 => F_X7_moveTo (fun M8 => Q v7 M8) a1 a2 M7) a1 M5)) ∧ (¬ bm v5 = 0 → (False)))) M3)))) a2 M1)))) a1 M
def F_X11_rankOf (Q : Int → g_M → Prop) (a1 : Int) (M : g_M) : Prop := F_X7_has (fun v1 M1 => ((bm v1 = 0 → (False)) ∧ (¬ bm v1 = 0 → (F_X7_rank (fun v3 M3 => Q v3 M3) a1 M1)))) a1 M
def F_X7_isFromRight (Q : Int → g_M → Prop) (a1 : Int) (M : g_M) : Prop := ((bm a1 < 0 → (Q 0 M)) ∧ (¬ bm a1 < 0 → (((bm a1 < bm (M 41 7) → ((inI a1 24 ∧ ((bm (M 54 (bm a1).toNat) = 0 → (Q 0 M)) ∧ (¬ bm (M 54 (bm a1).toNat) = 0 → (Q 1 M)))))) ∧ (¬ bm a1 < bm (M 41 7) → (Q 0 M))))))
def F_X7_direct (Q : g_M → Prop) (a1 a2 : Int) (M : g_M) : Prop := ((bm a1 < 0 → (Q M)) ∧ (¬ bm a1 < 0 → (((bm a1 < bm (M 41 7) → ((inI a1 24 ∧ isB a2 ∧ Q (up M 54 (bm a1).toNat a2)))) ∧ (¬ bm a1 < bm (M 41 7) → (Q M))))))
def F_X11_setDirection (Q : Int → g_M → Prop) (a1 a2 : Int) (M : g_M) : Prop := F_X7_has (fun v1 M1 => ((bm v1 = 0 → (False)) ∧ (¬ bm v1 = 0 → (F_X7_isOrderFixed (fun v3 M3 => ((bm v3 = 0 → (F_X7_isFromRight (fun v5 M5 => F_X7_direct (fun M6 => isB v5 ∧ Q v5 M6) a1 a2 M5) a1 M3)) ∧ (¬ bm v3 = 0 → (False)))) M1)))) a1 M
def F_X7_arity (Q : Int → g_M → Prop) (a1 : Int) (M : g_M) : Prop := ((bm a1 < 0 → (Q 0 M)) ∧ (¬ bm a1 < 0 → (((bm a1 < bm (M 41 7) → ((inI a1 24 ∧ Q (M 50 (bm a1).toNat) M))) ∧ (¬ bm a1 < bm (M 41 7) → (Q 0 M))))))
def F_X11_isTerm (Q : Int → g_M → Prop) (a1 : Int) (M : g_M) : Prop := ((bm a1 < 0 → (Q 0 M)) ∧ (¬ bm a1 < 0 → (((bm a1 < bm (M 40 10) → (Q 1 M)) ∧ (¬ bm a1 < bm (M 40 10) → (Q 0 M))))))
def F_X8_isCrowded (Q : Int → g_M → Prop) (M : g_M) : Prop := ((bm (M 42 12) < bm (M 42 10) → (Q 1 M)) ∧ (¬ bm (M 42 12) < bm (M 42 10) → (Q 0 M)))
def F_X11_tidy (Q : g_M → Prop) (M : g_M) : Prop := F_X8_isCrowded (fun v1 M1 => ((bm v1 = 0 → (Q M1)) ∧ (¬ bm v1 = 0 → (False)))) M
def F_X8_bucketOf (Q : Int → g_M → Prop) (a1 a2 a3 a4 : Int) (M : g_M) : Prop := Q (iand (ixor ((ixor ((((((a1 * 31) + a2) * 8191) + a3) * 131071) + a4) (iushr ((((((a1 * 31) + a2) * 8191) + a3) * 131071) + a4) 15)) * 739982445) (iushr ((ixor ((((((a1 * 31) + a2) * 8191) + a3) * 131071) + a4) (iushr ((((((a1 * 31) + a2) * 8191) + a3) * 131071) + a4) 15)) * 739982445) 13)) 32767) M
def F_X7_variableOrdinal (Q : Int → g_M → Prop) (a1 : Int) (M : g_M) : Prop := ((bm a1 < 0 → (Q (-1) M)) ∧ (¬ bm a1 < 0 → (((bm a1 < bm (M 41 7) → ((inI a1 24 ∧ Q (M 53 (bm a1).toNat) M))) ∧ (¬ bm a1 < bm (M 41 7) → (Q (-1) M))))))
def F_X8_extentOver (Q : Int → g_M → Prop) (a1 a2 a3 a4 : Int) (M : g_M) : Prop := Q (ior (ior (ior (ishl (imin (((1 + (iushr a2 9)) + (iushr a3 9)) + (iushr a4 9)) 4194303) 9) (ishl (imin (1 + (imax (imax (iand (iushr a2 1) 255) (iand (iushr a3 1) 255)) (iand (iushr a4 1) 255))) 255) 1)) a1) (iand (ior (ior a2 a3) a4) 1)) M
def F_X8_keep_137 (Q : Int → g_M → Prop) (x2 x3 x4 x5 x6 t0 : Int) (M : g_M) : Prop := F_X8_extentOver (fun v5 M5 => (okI 2 x6 ∧ (okI 4 x6 ∧ (okI 5 x5 ∧ Q x6 (rs (rs (rs M5 2 x6 v5) 4 x6 (rg (rs M5 2 x6 v5) 5 x5)) 5 x5 (x6 + 1)))))) t0 (rg M 2 x2) (rg M 2 x3) (rg M 2 x4) M
def F_X8_keep_59 (Q : Int → g_M → Prop) (x1 x2 x3 x4 x5 x6 : Int) (M : g_M) : Prop := (okI 0 x6 ∧ (okI 1 (3 * x6) ∧ (okI 1 ((3 * x6) + 1) ∧ (okI 1 ((3 * x6) + 2) ∧ F_X7_variableOrdinal (fun v3 M3 => ((bm v3 = bm (-1) → (F_X8_keep_137 Q x2 x3 x4 x5 x6 0 M3)) ∧ (¬ bm v3 = bm (-1) → (F_X8_keep_137 Q x2 x3 x4 x5 x6 1 M3)))) x1 (rs (rs (rs (rs (up M 42 10 ((M 42 10) + 1)) 0 x6 x1) 1 (3 * x6) x2) 1 ((3 * x6) + 1) x3) 1 ((3 * x6) + 2) x4)))))
def F_X8_keep (Q : Int → g_M → Prop) (a1 a2 a3 a4 a5 : Int) (M : g_M) : Prop := ((bm ((M 42 11) - 1) < 0 → (((bm (M 42 9) < bm 524288 → (F_X8_keep_59 Q a1 a2 a3 a4 a5 (M 42 9) (up M 42 9 ((M 42 9) + 1)))) ∧ (¬ bm (M 42 9) < bm 524288 → (Q 0 M))))) ∧ (¬ bm ((M 42 11) - 1) < 0 → (F_X8_keep_59 Q a1 a2 a3 a4 a5 ((M 42 11) - 1) (up M 42 11 (rg M 4 ((M 42 11) - 1))))))
def F_X8_make_126 (Q : Int → g_M → Prop) (x1 x2 x3 x4 x5 : Int) (M : g_M) : Prop := F_X8_keep (fun v8 M8 => Q v8 M8) x1 x2 x3 x4 x5 M
def F_X8_make_107 (Q : Int → g_M → Prop) (k27 : Int → Int → Int → Int → Int → Int → Int → g_M → Prop) (x1 x2 x3 x4 x5 x6 x7 : Int) (M : g_M) : Prop := k27 x1 x2 x3 x4 x5 ((rg M 4 x6) - 1) (x7 + 1) M
def F_X8_make_27 (Q : Int → g_M → Prop) : Nat → Int → Int → Int → Int → Int → Int → Int → g_M → Prop
  | 0 => fun _ _ _ _ _ _ _ _ => False
  | n + 1 => fun x1 x2 x3 x4 x5 x6 x7 M => ((bm x7 < bm (M 42 9) → (((bm x6 < 0 → (F_X8_make_126 Q x1 x2 x3 x4 x5 M)) ∧ (¬ bm x6 < 0 → (((bm (rg M 0 x6) = bm x1 → (((bm (rg M 1 (3 * x6)) = bm x2 → (((bm (rg M 1 ((3 * x6) + 1)) = bm x3 → (((bm (rg M 1 ((3 * x6) + 2)) = bm x4 → (Q x6 M)) ∧ (¬ bm (rg M 1 ((3 * x6) + 2)) = bm x4 → (F_X8_make_107 Q (F_X8_make_27 Q n) x1 x2 x3 x4 x5 x6 x7 M))))) ∧ (¬ bm (rg M 1 ((3 * x6) + 1)) = bm x3 → (F_X8_make_107 Q (F_X8_make_27 Q n) x1 x2 x3 x4 x5 x6 x7 M))))) ∧ (¬ bm (rg M 1 (3 * x6)) = bm x2 → (F_X8_make_107 Q (F_X8_make_27 Q n) x1 x2 x3 x4 x5 x6 x7 M))))) ∧ (¬ bm (rg M 0 x6) = bm x1 → (F_X8_make_107 Q (F_X8_make_27 Q n) x1 x2 x3 x4 x5 x6 x7 M)))))))) ∧ (¬ bm x7 < bm (M 42 9) → (F_X8_make_126 Q x1 x2 x3 x4 x5 M)))
def F_X8_make (Q : Int → g_M → Prop) (a1 a2 a3 a4 : Int) (M : g_M) : Prop := F_X8_bucketOf (fun v1 M1 => ∃ n9, F_X8_make_27 Q n9 a1 a2 a3 a4 v1 ((rg M1 5 v1) - 1) 0 M1) a1 a2 a3 a4 M
def F_X8_width (Q : Int → g_M → Prop) (a1 : Int) (M : g_M) : Prop := Q (iushr (rg M 2 a1) 9) M
def F_X8_height (Q : Int → g_M → Prop) (a1 : Int) (M : g_M) : Prop := Q (iand (iushr (rg M 2 a1) 1) 255) M
def F_X8_isTooLarge (Q : Int → g_M → Prop) (a1 : Int) (M : g_M) : Prop := F_X8_width (fun v1 M1 => ((bm 1000 < bm v1 → (Q 1 M1)) ∧ (¬ bm 1000 < bm v1 → (F_X8_height (fun v3 M3 => ((bm 60 < bm v3 → (Q 1 M3)) ∧ (¬ bm 60 < bm v3 → (Q 0 M3)))) a1 M1)))) a1 M
def F_X8_number (Q : Int → g_M → Prop) (a1 : Int) (M : g_M) : Prop := Q ((rg M 3 a1) - 1) M
def F_X8_setNumber (Q : g_M → Prop) (a1 a2 : Int) (M : g_M) : Prop := (okI 3 a1 ∧ Q (rs M 3 a1 (a2 + 1)))
def F_X7_fixOrder (Q : g_M → Prop) (M : g_M) : Prop := Q (up M 41 10 1)
def F_X11_giveNumber_54 (Q : Int → g_M → Prop) (x2 : Int) (M : g_M) : Prop := Q x2 M
def F_X11_giveNumber (Q : Int → g_M → Prop) (a1 : Int) (M : g_M) : Prop := F_X8_number (fun v1 M1 => ((bm v1 = bm (-1) → (F_X8_setNumber (fun M3 => (okI 33 (M1 40 10) ∧ F_X7_fixOrder (fun M4 => F_X11_giveNumber_54 Q (M1 40 10) M4) (up (rs M3 33 (M1 40 10) a1) 40 10 (((rs M3 33 (M1 40 10) a1) 40 10) + 1)))) a1 (M1 40 10) M1)) ∧ (¬ bm v1 = bm (-1) → (F_X11_giveNumber_54 Q v1 M1)))) a1 M
def F_X11_term_136 (Q : Int → g_M → Prop) (t1 t2 t3 t4 : Int) (M : g_M) : Prop := F_X8_make (fun v17 M17 => F_X8_isTooLarge (fun v18 M18 => ((bm v18 = 0 → (F_X11_giveNumber (fun v20 M20 => Q v20 M20) v17 M18)) ∧ (¬ bm v18 = 0 → (False)))) v17 M17) t1 t2 t3 t4 M
def F_X11_term_117 (Q : Int → g_M → Prop) (x4 x5 t1 t2 t3 : Int) (M : g_M) : Prop := ((bm 2 < bm x5 → (F_X11_term_136 Q t1 t2 t3 (rg M 33 x4) M)) ∧ (¬ bm 2 < bm x5 → (F_X11_term_136 Q t1 t2 t3 (-1) M)))
def F_X11_term_99 (Q : Int → g_M → Prop) (x3 x4 x5 t1 t2 : Int) (M : g_M) : Prop := ((bm 1 < bm x5 → (F_X11_term_117 Q x4 x5 t1 t2 (rg M 33 x3) M)) ∧ (¬ bm 1 < bm x5 → (F_X11_term_117 Q x4 x5 t1 t2 (-1) M)))
def F_X11_term_73 (Q : Int → g_M → Prop) (x1 x2 x3 x4 x5 : Int) (M : g_M) : Prop := F_X11_tidy (fun M13 => ((0 < bm x5 → (F_X11_term_99 Q x3 x4 x5 x1 (rg M13 33 x2) M13)) ∧ (¬ 0 < bm x5 → (F_X11_term_99 Q x3 x4 x5 x1 (-1) M13)))) M
def F_X11_term_48 (Q : Int → g_M → Prop) (x1 x2 x3 x4 x5 : Int) (M : g_M) : Prop := ((bm 2 < bm x5 → (F_X11_isTerm (fun v11 M11 => ((bm v11 = 0 → (False)) ∧ (¬ bm v11 = 0 → (F_X11_term_73 Q x1 x2 x3 x4 x5 M11)))) x4 M)) ∧ (¬ bm 2 < bm x5 → (F_X11_term_73 Q x1 x2 x3 x4 x5 M)))
def F_X11_term_34 (Q : Int → g_M → Prop) (x1 x2 x3 x4 x5 : Int) (M : g_M) : Prop := ((bm 1 < bm x5 → (F_X11_isTerm (fun v8 M8 => ((bm v8 = 0 → (False)) ∧ (¬ bm v8 = 0 → (F_X11_term_48 Q x1 x2 x3 x4 x5 M8)))) x3 M)) ∧ (¬ bm 1 < bm x5 → (F_X11_term_48 Q x1 x2 x3 x4 x5 M)))
def F_X11_term (Q : Int → g_M → Prop) (a1 a2 a3 a4 : Int) (M : g_M) : Prop := F_X7_arity (fun v1 M1 => F_X7_has (fun v2 M2 => ((bm v2 = 0 → (False)) ∧ (¬ bm v2 = 0 → (((0 < bm v1 → (F_X11_isTerm (fun v5 M5 => ((bm v5 = 0 → (False)) ∧ (¬ bm v5 = 0 → (F_X11_term_34 Q a1 a2 a3 a4 v1 M5)))) a2 M2)) ∧ (¬ 0 < bm v1 → (F_X11_term_34 Q a1 a2 a3 a4 v1 M2))))))) a1 M1) a1 M
def F_X11_size (Q : Int → g_M → Prop) (a1 : Int) (M : g_M) : Prop := F_X11_isTerm (fun v1 M1 => ((bm v1 = 0 → (False)) ∧ (¬ bm v1 = 0 → (F_X8_width (fun v3 M3 => Q v3 M3) (rg M1 33 a1) M1)))) a1 M
def F_X10_clear (Q : g_M → Prop) (M : g_M) : Prop := Q (up M 43 6 0)
def F_X10_indexOf_16 (Q : Int → g_M → Prop) (x1 t0 : Int) (M : g_M) : Prop := ((bm t0 < 0 → (Q (-1) M)) ∧ (¬ bm t0 < 0 → (((bm t0 < bm (M 43 6) → (((bm (rg M 7 t0) = bm x1 → (Q t0 M)) ∧ (¬ bm (rg M 7 t0) = bm x1 → (Q (-1) M))))) ∧ (¬ bm t0 < bm (M 43 6) → (Q (-1) M))))))
def F_X10_indexOf (Q : Int → g_M → Prop) (a1 : Int) (M : g_M) : Prop := ((bm a1 < 0 → (F_X10_indexOf_16 Q a1 (-1) M)) ∧ (¬ bm a1 < 0 → (F_X10_indexOf_16 Q a1 (rg M 6 a1) M)))
def F_X8_arity (Q : Int → g_M → Prop) (a1 : Int) (M : g_M) : Prop := F_X7_arity (fun v1 M1 => Q v1 M1) (rg M 0 a1) M
def F_X8_part (Q : Int → g_M → Prop) (a1 a2 : Int) (M : g_M) : Prop := ((bm a1 < 0 → (Q (-1) M)) ∧ (¬ bm a1 < 0 → (Q (rg M 1 ((3 * a1) + a2)) M)))
def F_X10_firstUnlisted_2 (Q : Int → g_M → Prop) : Nat → Int → Int → g_M → Prop
  | 0 => fun _ _ _ => False
  | n + 1 => fun x1 x2 M => F_X8_arity (fun v1 M1 => ((bm x2 < bm v1 → (F_X8_part (fun v3 M3 => F_X10_indexOf (fun v4 M4 => ((bm v4 = bm (-1) → (Q v3 M4)) ∧ (¬ bm v4 = bm (-1) → (F_X10_firstUnlisted_2 Q n x1 (x2 + 1) M4)))) v3 M3) x1 x2 M1)) ∧ (¬ bm x2 < bm v1 → (Q (-1) M1)))) x1 M
def F_X10_firstUnlisted (Q : Int → g_M → Prop) (a1 : Int) (M : g_M) : Prop := ∃ n9, F_X10_firstUnlisted_2 Q n9 a1 0 M
def F_X10_append (Q : g_M → Prop) (a1 : Int) (M : g_M) : Prop := ((bm a1 < 0 → (Q M)) ∧ (¬ bm a1 < 0 → (F_X10_indexOf (fun v2 M2 => ((bm v2 = bm (-1) → ((okI 6 a1 ∧ (okI 7 ((rs M2 6 a1 (M2 43 6)) 43 6) ∧ Q (up (rs (rs M2 6 a1 (M2 43 6)) 7 ((rs M2 6 a1 (M2 43 6)) 43 6) a1) 43 6 (((rs (rs M2 6 a1 (M2 43 6)) 7 ((rs M2 6 a1 (M2 43 6)) 43 6) a1) 43 6) + 1)))))) ∧ (¬ bm v2 = bm (-1) → (Q M2)))) a1 M)))
def F_X10_add_90 (Q : g_M → Prop) (k26 : Int → Int → g_M → Prop) (x2 x3 : Int) (M : g_M) : Prop := k26 x2 (x3 + 1) M
def F_X10_add_26 (Q : g_M → Prop) : Nat → Int → Int → g_M → Prop
  | 0 => fun _ _ _ => False
  | n + 1 => fun x2 x3 M => ((bm x3 < bm 1048576 → (((bm x2 < 0 → (Q M)) ∧ (¬ bm x2 < 0 → (((bm (x2 + 1) < bm 256 → ((inI x2 256 ∧ F_X10_firstUnlisted (fun v7 M7 => ((bm v7 = bm (-1) → ((inI x2 256 ∧ F_X10_append (fun M9 => F_X10_add_90 Q (F_X10_add_26 Q n) (x2 + (-1)) x3 M9) (M7 61 (bm x2).toNat) M7))) ∧ (¬ bm v7 = bm (-1) → ((inI (x2 + 1) 256 ∧ F_X10_add_90 Q (F_X10_add_26 Q n) (x2 + 1) x3 (up M7 61 (bm (x2 + 1)).toNat v7)))))) (M 61 (bm x2).toNat) M))) ∧ (¬ bm (x2 + 1) < bm 256 → (Q M)))))))) ∧ (¬ bm x3 < bm 1048576 → (Q M)))
def F_X10_add_24 (Q : g_M → Prop) (x2 : Int) (M : g_M) : Prop := ∃ n9, F_X10_add_26 Q n9 x2 0 M
def F_X10_add (Q : g_M → Prop) (a1 : Int) (M : g_M) : Prop := ((bm a1 < 0 → (F_X10_add_24 Q (-1) M)) ∧ (¬ bm a1 < 0 → (F_X10_indexOf (fun v2 M2 => ((bm v2 = bm (-1) → ((inI 0 256 ∧ F_X10_add_24 Q 0 (up M2 61 (bm 0).toNat a1)))) ∧ (¬ bm v2 = bm (-1) → (F_X10_add_24 Q (-1) M2)))) a1 M)))
def F_X10_count (Q : Int → g_M → Prop) (M : g_M) : Prop := Q (M 43 6) M
def F_X2_clear (Q : g_M → Prop) (a1 : Int) (M : g_M) : Prop := Q (up (up M 44 15 a1) 44 16 0)
def F_X10_node (Q : Int → g_M → Prop) (a1 : Int) (M : g_M) : Prop := Q (rg M 7 a1) M
def F_X8_symbol (Q : Int → g_M → Prop) (a1 : Int) (M : g_M) : Prop := Q (rg M 0 a1) M
def F_X2_addProduction (Q : Int → g_M → Prop) (a1 a2 : Int) (M : g_M) : Prop := (okI 10 (M 44 16) ∧ (okI 11 (M 44 16) ∧ Q (M 44 16) (up (rs (rs M 10 (M 44 16) a1) 11 (M 44 16) a2) 44 16 (((rs (rs M 10 (M 44 16) a1) 11 (M 44 16) a2) 44 16) + 1))))
def F_X2_arity (Q : Int → g_M → Prop) (a1 : Int) (M : g_M) : Prop := F_X7_arity (fun v1 M1 => Q v1 M1) (rg M 11 a1) M
def F_X10_partOf (Q : Int → g_M → Prop) (a1 a2 : Int) (M : g_M) : Prop := F_X8_part (fun v1 M1 => F_X10_indexOf (fun v2 M2 => Q v2 M2) v1 M1) (rg M 7 a1) a2 M
def F_X2_setPart (Q : g_M → Prop) (a1 a2 a3 : Int) (M : g_M) : Prop := (okI 12 ((3 * a1) + a2) ∧ Q (rs M 12 ((3 * a1) + a2) a3))
def F_X2_takeTerms_37 (Q : g_M → Prop) (k10 : Int → g_M → Prop) : Nat → Int → Int → Int → g_M → Prop
  | 0 => fun _ _ _ _ => False
  | n + 1 => fun x3 x4 x5 M => F_X2_arity (fun v8 M8 => ((bm x5 < bm v8 → (F_X10_partOf (fun v10 M10 => F_X2_setPart (fun M11 => F_X2_takeTerms_37 Q k10 n x3 x4 (x5 + 1) M11) x4 x5 v10 M10) x3 x5 M8)) ∧ (¬ bm x5 < bm v8 → (k10 (x3 + 1) M8)))) x4 M
def F_X2_takeTerms_10 (Q : g_M → Prop) : Nat → Int → g_M → Prop
  | 0 => fun _ _ => False
  | n + 1 => fun x3 M => F_X10_count (fun v3 M3 => ((bm x3 < bm v3 → (F_X10_node (fun v5 M5 => F_X8_symbol (fun v6 M6 => F_X2_addProduction (fun v7 M7 => ∃ n9, F_X2_takeTerms_37 Q (F_X2_takeTerms_10 Q n) n9 x3 v7 0 M7) x3 v6 M6) v5 M5) x3 M3)) ∧ (¬ bm x3 < bm v3 → (Q M3)))) M
def F_X2_takeTerms (Q : g_M → Prop) (M : g_M) : Prop := F_X10_count (fun v1 M1 => F_X2_clear (fun M2 => ∃ n9, F_X2_takeTerms_10 Q n9 0 M2) v1 M1) M
def F_X7_orderMode (Q : Int → g_M → Prop) (M : g_M) : Prop := ((bm (M 41 9) = 0 → (Q 0 M)) ∧ (¬ bm (M 41 9) = 0 → (Q 1 M)))
def F_X2_linkUsers_46 (Q : g_M → Prop) (k36 : Int → g_M → Prop) : Nat → Int → Int → g_M → Prop
  | 0 => fun _ _ _ => False
  | n + 1 => fun x1 x2 M => F_X2_arity (fun v3 M3 => ((bm x2 < bm v3 → ((okI 15 ((3 * x1) + x2) ∧ (okI 14 (rg M3 12 ((3 * x1) + x2)) ∧ F_X2_linkUsers_46 Q k36 n x1 (x2 + 1) (rs (rs M3 15 ((3 * x1) + x2) (rg M3 14 (rg M3 12 ((3 * x1) + x2)))) 14 (rg M3 12 ((3 * x1) + x2)) (((3 * x1) + x2) + 1)))))) ∧ (¬ bm x2 < bm v3 → (k36 (x1 + 1) M3)))) x1 M
def F_X2_linkUsers_36 (Q : g_M → Prop) : Nat → Int → g_M → Prop
  | 0 => fun _ _ => False
  | n + 1 => fun x1 M => ((bm x1 < bm (M 44 16) → (∃ n9, F_X2_linkUsers_46 Q (F_X2_linkUsers_36 Q n) n9 x1 0 M)) ∧ (¬ bm x1 < bm (M 44 16) → (Q M)))
def F_X2_linkUsers_2 (Q : g_M → Prop) : Nat → Int → g_M → Prop
  | 0 => fun _ _ => False
  | n + 1 => fun x1 M => ((bm x1 < bm (M 44 15) → ((okI 14 x1 ∧ (okI 20 x1 ∧ F_X2_linkUsers_2 Q n (x1 + 1) (rs (rs M 14 x1 0) 20 x1 (-1)))))) ∧ (¬ bm x1 < bm (M 44 15) → (∃ n9, F_X2_linkUsers_36 Q n9 0 M)))
def F_X2_linkUsers (Q : g_M → Prop) (M : g_M) : Prop := ∃ n9, F_X2_linkUsers_2 Q n9 0 M
def F_X7_weight (Q : Int → g_M → Prop) (a1 : Int) (M : g_M) : Prop := ((bm a1 < 0 → (Q 0 M)) ∧ (¬ bm a1 < 0 → (((bm a1 < bm (M 41 7) → ((inI a1 24 ∧ Q (M 51 (bm a1).toNat) M))) ∧ (¬ bm a1 < bm (M 41 7) → (Q 0 M))))))
def F_X2_isBefore_144 (Q : Int → g_M → Prop) (k120 : Int → Int → Int → Int → Int → g_M → Prop) (x1 x2 x4 x5 x6 t0 : Int) (M : g_M) : Prop := ((bm (rg M 12 ((3 * x1) + t0)) = bm (rg M 12 ((3 * x2) + t0)) → (k120 x1 x2 x4 x5 (x6 + 1) M)) ∧ (¬ bm (rg M 12 ((3 * x1) + t0)) = bm (rg M 12 ((3 * x2) + t0)) → (((bm (rg M 21 (rg M 12 ((3 * x1) + t0))) < bm (rg M 21 (rg M 12 ((3 * x2) + t0))) → (Q 1 M)) ∧ (¬ bm (rg M 21 (rg M 12 ((3 * x1) + t0))) < bm (rg M 21 (rg M 12 ((3 * x2) + t0))) → (Q 0 M))))))
def F_X2_isBefore_120 (Q : Int → g_M → Prop) : Nat → Int → Int → Int → Int → Int → g_M → Prop
  | 0 => fun _ _ _ _ _ _ => False
  | n + 1 => fun x1 x2 x4 x5 x6 M => ((bm x6 < bm x4 → (((bm x5 = 0 → (F_X2_isBefore_144 Q (F_X2_isBefore_120 Q n) x1 x2 x4 x5 x6 x6 M)) ∧ (¬ bm x5 = 0 → (F_X2_isBefore_144 Q (F_X2_isBefore_120 Q n) x1 x2 x4 x5 x6 ((x4 - 1) - x6) M))))) ∧ (¬ bm x6 < bm x4 → (Q 0 M)))
def F_X2_isBefore (Q : Int → g_M → Prop) (a1 a2 : Int) (M : g_M) : Prop := ((bm (rg M 16 a1) = bm (rg M 16 a2) → (((bm (rg M 11 a1) = bm (rg M 11 a2) → (F_X7_arity (fun v3 M3 => F_X7_isFromRight (fun v4 M4 => ∃ n9, F_X2_isBefore_120 Q n9 a1 a2 v3 v4 0 M4) (rg M 11 a1) M3) (rg M 11 a1) M)) ∧ (¬ bm (rg M 11 a1) = bm (rg M 11 a2) → (F_X7_rank (fun v5 M5 => F_X7_rank (fun v6 M6 => ((bm v5 < bm v6 → (Q 1 M6)) ∧ (¬ bm v5 < bm v6 → (Q 0 M6)))) (rg M5 11 a2) M5) (rg M 11 a1) M))))) ∧ (¬ bm (rg M 16 a1) = bm (rg M 16 a2) → (((bm (rg M 16 a1) < bm (rg M 16 a2) → (Q 1 M)) ∧ (¬ bm (rg M 16 a1) < bm (rg M 16 a2) → (Q 0 M))))))
def F_X2_enter_260 (Q : g_M → Prop) (x1 x5 : Int) (M : g_M) : Prop := (okI 19 x5 ∧ Q (rs M 19 x5 x1))
def F_X2_enter_190 (Q : g_M → Prop) : Nat → Int → Int → Int → g_M → Prop
  | 0 => fun _ _ _ _ => False
  | n + 1 => fun x1 x5 x6 M => ((bm x6 < bm (M 44 17) → (((0 < bm x5 → (F_X2_isBefore (fun v8 M8 => ((bm v8 = 0 → (F_X2_enter_260 Q x1 x5 M8)) ∧ (¬ bm v8 = 0 → ((okI 19 x5 ∧ F_X2_enter_190 Q n x1 (idiv (x5 - 1) 2) (x6 + 1) (rs M8 19 x5 (rg M8 19 (idiv (x5 - 1) 2)))))))) x1 (rg M 19 (idiv (x5 - 1) 2)) M)) ∧ (¬ 0 < bm x5 → (F_X2_enter_260 Q x1 x5 M))))) ∧ (¬ bm x6 < bm (M 44 17) → (F_X2_enter_260 Q x1 x5 M)))
def F_X2_enter_168 (Q : g_M → Prop) (x1 t1 t2 : Int) (M : g_M) : Prop := (okI 16 t1 ∧ ∃ n9, F_X2_enter_190 Q n9 x1 ((rs M 16 t1 t2) 44 17) 0 (up (rs M 16 t1 t2) 44 17 (((rs M 16 t1 t2) 44 17) + 1)))
def F_X2_enter_24 (Q : g_M → Prop) : Nat → Int → Int → Int → Int → Int → g_M → Prop
  | 0 => fun _ _ _ _ _ _ => False
  | n + 1 => fun x1 x2 x3 x4 x5 M => F_X2_arity (fun v2 M2 => ((bm x5 < bm v2 → (F_X2_enter_24 Q n x1 (x2 + (rg M2 17 (rg M2 20 (rg M2 12 ((3 * x1) + x5))))) (imax x3 (rg M2 18 (rg M2 20 (rg M2 12 ((3 * x1) + x5))))) (x4 + (rg M2 16 (rg M2 20 (rg M2 12 ((3 * x1) + x5))))) (x5 + 1) M2)) ∧ (¬ bm x5 < bm v2 → ((okI 17 x1 ∧ (okI 18 x1 ∧ ((bm ((rs (rs M2 17 x1 (imin x2 1048575)) 18 x1 (imin (x3 + 1) 1048575)) 44 19) = bm 1 → (F_X2_enter_168 Q x1 x1 (imin x4 1048575) (rs (rs M2 17 x1 (imin x2 1048575)) 18 x1 (imin (x3 + 1) 1048575)))) ∧ (¬ bm ((rs (rs M2 17 x1 (imin x2 1048575)) 18 x1 (imin (x3 + 1) 1048575)) 44 19) = bm 1 → (((bm ((rs (rs M2 17 x1 (imin x2 1048575)) 18 x1 (imin (x3 + 1) 1048575)) 44 19) = bm 2 → (F_X2_enter_168 Q x1 x1 x2 (rs (rs M2 17 x1 (imin x2 1048575)) 18 x1 (imin (x3 + 1) 1048575)))) ∧ (¬ bm ((rs (rs M2 17 x1 (imin x2 1048575)) 18 x1 (imin (x3 + 1) 1048575)) 44 19) = bm 2 → (F_X2_enter_168 Q x1 x1 0 (rs (rs M2 17 x1 (imin x2 1048575)) 18 x1 (imin (x3 + 1) 1048575)))))))))))))) x1 M
def F_X2_enter (Q : g_M → Prop) (a1 : Int) (M : g_M) : Prop := F_X7_weight (fun v1 M1 => ∃ n9, F_X2_enter_24 Q n9 a1 1 0 v1 0 M1) (rg M 11 a1) M
def F_X2_takeLeast_151 (Q : Int → g_M → Prop) (x1 x2 x3 : Int) (M : g_M) : Prop := (okI 19 x3 ∧ Q x1 (rs M 19 x3 x2))
def F_X2_takeLeast_105 (Q : Int → g_M → Prop) (k36 : Int → Int → Int → Int → g_M → Prop) (x1 x2 x3 x4 x5 : Int) (M : g_M) : Prop := F_X2_isBefore (fun v6 M6 => ((bm v6 = 0 → (F_X2_takeLeast_151 Q x1 x2 x3 M6)) ∧ (¬ bm v6 = 0 → ((okI 19 x3 ∧ k36 x1 x2 x5 (x4 + 1) (rs M6 19 x3 (rg M6 19 x5))))))) (rg M 19 x5) x2 M
def F_X2_takeLeast_36 (Q : Int → g_M → Prop) : Nat → Int → Int → Int → Int → g_M → Prop
  | 0 => fun _ _ _ _ _ => False
  | n + 1 => fun x1 x2 x3 x4 M => ((bm x4 < bm (M 44 17) → (((bm ((2 * x3) + 1) < bm (M 44 17) → (((bm (((2 * x3) + 1) + 1) < bm (M 44 17) → (F_X2_isBefore (fun v4 M4 => ((bm v4 = 0 → (F_X2_takeLeast_105 Q (F_X2_takeLeast_36 Q n) x1 x2 x3 x4 ((2 * x3) + 1) M4)) ∧ (¬ bm v4 = 0 → (F_X2_takeLeast_105 Q (F_X2_takeLeast_36 Q n) x1 x2 x3 x4 (((2 * x3) + 1) + 1) M4)))) (rg M 19 (((2 * x3) + 1) + 1)) (rg M 19 ((2 * x3) + 1)) M)) ∧ (¬ bm (((2 * x3) + 1) + 1) < bm (M 44 17) → (F_X2_takeLeast_105 Q (F_X2_takeLeast_36 Q n) x1 x2 x3 x4 ((2 * x3) + 1) M))))) ∧ (¬ bm ((2 * x3) + 1) < bm (M 44 17) → (F_X2_takeLeast_151 Q x1 x2 x3 M))))) ∧ (¬ bm x4 < bm (M 44 17) → (F_X2_takeLeast_151 Q x1 x2 x3 M)))
def F_X2_takeLeast (Q : Int → g_M → Prop) (M : g_M) : Prop := ∃ n9, F_X2_takeLeast_36 Q n9 (rg M 19 0) (rg (up M 44 17 ((M 44 17) - 1)) 19 ((up M 44 17 ((M 44 17) - 1)) 44 17)) 0 0 (up M 44 17 ((M 44 17) - 1))
def F_X2_isReadyAfter (Q : Int → g_M → Prop) (a1 : Int) (M : g_M) : Prop := (okI 13 (idiv a1 3) ∧ ((bm (rg (rs M 13 (idiv a1 3) ((rg M 13 (idiv a1 3)) - 1)) 13 (idiv a1 3)) = 0 → (Q 1 (rs M 13 (idiv a1 3) ((rg M 13 (idiv a1 3)) - 1)))) ∧ (¬ bm (rg (rs M 13 (idiv a1 3) ((rg M 13 (idiv a1 3)) - 1)) 13 (idiv a1 3)) = 0 → (Q 0 (rs M 13 (idiv a1 3) ((rg M 13 (idiv a1 3)) - 1))))))
def F_X2_rank_55 (Q : g_M → Prop) (k21 : Int → g_M → Prop) (x2 : Int) (M : g_M) : Prop := k21 (x2 + 1) M
def F_X2_rank_210 (Q : g_M → Prop) (k63 : Int → g_M → Prop) (x2 : Int) (M : g_M) : Prop := k63 (x2 + 1) M
def F_X2_rank_191 (Q : g_M → Prop) (k63 : Int → g_M → Prop) (k158 : Int → Int → Int → g_M → Prop) (x2 x5 x6 : Int) (M : g_M) : Prop := k158 x2 ((rg M 15 x5) - 1) (x6 + 1) M
def F_X2_rank_158 (Q : g_M → Prop) (k63 : Int → g_M → Prop) : Nat → Int → Int → Int → g_M → Prop
  | 0 => fun _ _ _ _ => False
  | n + 1 => fun x2 x5 x6 M => ((bm x5 < 0 → (F_X2_rank_210 Q k63 x2 M)) ∧ (¬ bm x5 < 0 → (((bm x6 < bm (3 * (M 44 16)) → (F_X2_isReadyAfter (fun v13 M13 => ((bm v13 = 0 → (F_X2_rank_191 Q k63 (F_X2_rank_158 Q k63 n) x2 x5 x6 M13)) ∧ (¬ bm v13 = 0 → (F_X2_enter (fun M15 => F_X2_rank_191 Q k63 (F_X2_rank_158 Q k63 n) x2 x5 x6 M15) (idiv x5 3) M13)))) x5 M)) ∧ (¬ bm x6 < bm (3 * (M 44 16)) → (F_X2_rank_210 Q k63 x2 M))))))
def F_X2_rank_63 (Q : g_M → Prop) : Nat → Int → g_M → Prop
  | 0 => fun _ _ => False
  | n + 1 => fun x2 M => ((bm x2 < bm (M 44 16) → (((0 < bm (M 44 17) → (F_X2_takeLeast (fun v9 M9 => (okI 22 x2 ∧ ((bm (rg (up (rs M9 22 x2 v9) 44 18 (x2 + 1)) 20 (rg M9 10 v9)) = bm (-1) → ((okI 20 (rg M9 10 v9) ∧ (okI 21 (rg M9 10 v9) ∧ ∃ n9, F_X2_rank_158 Q (F_X2_rank_63 Q n) n9 x2 ((rg (rs (rs (up (rs M9 22 x2 v9) 44 18 (x2 + 1)) 20 (rg M9 10 v9) v9) 21 (rg M9 10 v9) x2) 14 (rg M9 10 v9)) - 1) 0 (rs (rs (up (rs M9 22 x2 v9) 44 18 (x2 + 1)) 20 (rg M9 10 v9) v9) 21 (rg M9 10 v9) x2))))) ∧ (¬ bm (rg (up (rs M9 22 x2 v9) 44 18 (x2 + 1)) 20 (rg M9 10 v9)) = bm (-1) → (F_X2_rank_210 Q (F_X2_rank_63 Q n) x2 (up (rs M9 22 x2 v9) 44 18 (x2 + 1))))))) M)) ∧ (¬ 0 < bm (M 44 17) → (Q M))))) ∧ (¬ bm x2 < bm (M 44 16) → (Q M)))
def F_X2_rank_21 (Q : g_M → Prop) : Nat → Int → g_M → Prop
  | 0 => fun _ _ => False
  | n + 1 => fun x2 M => ((bm x2 < bm (M 44 16) → (F_X2_arity (fun v3 M3 => (okI 13 x2 ∧ F_X2_arity (fun v4 M4 => ((bm v4 = 0 → (F_X2_enter (fun M6 => F_X2_rank_55 Q (F_X2_rank_21 Q n) x2 M6) x2 M4)) ∧ (¬ bm v4 = 0 → (F_X2_rank_55 Q (F_X2_rank_21 Q n) x2 M4)))) x2 (rs M3 13 x2 v3))) x2 M)) ∧ (¬ bm x2 < bm (M 44 16) → (∃ n9, F_X2_rank_63 Q n9 0 M)))
def F_X2_rank (Q : g_M → Prop) (a1 : Int) (M : g_M) : Prop := F_X2_linkUsers (fun M1 => ∃ n9, F_X2_rank_21 Q n9 0 M1) (up (up (up M 44 19 a1) 44 17 0) 44 18 0)
def F_X2_position (Q : Int → g_M → Prop) (a1 : Int) (M : g_M) : Prop := Q (rg M 21 a1) M
def F_X11_compare (Q : Int → g_M → Prop) (a1 a2 : Int) (M : g_M) : Prop := F_X11_isTerm (fun v1 M1 => ((bm v1 = 0 → (False)) ∧ (¬ bm v1 = 0 → (F_X11_isTerm (fun v3 M3 => ((bm v3 = 0 → (False)) ∧ (¬ bm v3 = 0 → (((bm a1 = bm a2 → (Q 0 M3)) ∧ (¬ bm a1 = bm a2 → (F_X10_clear (fun M6 => F_X10_add (fun M7 => F_X10_add (fun M8 => F_X2_takeTerms (fun M9 => F_X7_orderMode (fun v10 M10 => F_X2_rank (fun M11 => F_X10_indexOf (fun v12 M12 => F_X2_position (fun v13 M13 => F_X10_indexOf (fun v14 M14 => F_X2_position (fun v15 M15 => ((bm v15 < bm v13 → (Q 1 M15)) ∧ (¬ bm v15 < bm v13 → (Q (-1) M15)))) v14 M14) (rg M13 33 a2) M13) v12 M12) (rg M11 33 a1) M11) v10 M10) M9) M8) (rg M7 33 a2) M7) (rg M6 33 a1) M6) M3))))))) a2 M1)))) a1 M
def F_X8_isGround (Q : Int → g_M → Prop) (a1 : Int) (M : g_M) : Prop := ((bm (iand (rg M 2 a1) 1) = 0 → (Q 1 M)) ∧ (¬ bm (iand (rg M 2 a1) 1) = 0 → (Q 0 M)))
def F_X9_addEquation (Q : g_M → Prop) (a1 a2 : Int) (M : g_M) : Prop := ((bm (M 45 7) < 0 → (Q M)) ∧ (¬ bm (M 45 7) < 0 → (((bm (M 45 7) < bm 30 → ((inI (M 45 7) 30 ∧ (inI ((up M 55 (bm (M 45 7)).toNat a1) 45 7) 30 ∧ Q (up (up (up M 55 (bm (M 45 7)).toNat a1) 56 (bm ((up M 55 (bm (M 45 7)).toNat a1) 45 7)).toNat a2) 45 7 (((up (up M 55 (bm (M 45 7)).toNat a1) 56 (bm ((up M 55 (bm (M 45 7)).toNat a1) 45 7)).toNat a2) 45 7) + 1)))))) ∧ (¬ bm (M 45 7) < bm 30 → (Q M))))))
def F_X1_start_131 (Q : g_M → Prop) (k8 : Int → g_M → Prop) (x1 : Int) (M : g_M) : Prop := k8 (x1 + 1) M
def F_X1_start_71 (Q : g_M → Prop) (k8 : Int → g_M → Prop) : Nat → Int → Int → g_M → Prop
  | 0 => fun _ _ _ => False
  | n + 1 => fun x1 x2 M => ((bm x2 < bm 3 → (F_X10_partOf (fun v6 M6 => (okI 29 ((3 * x1) + x2) ∧ F_X1_start_71 Q k8 n x1 (x2 + 1) (rs M6 29 ((3 * x1) + x2) v6))) x1 x2 M)) ∧ (¬ bm x2 < bm 3 → (((bm (M 47 10) < bm x1 → (((bm (M 47 10) < bm 16384 → (F_X1_start_131 Q k8 x1 (up M 47 10 ((M 47 10) * 2)))) ∧ (¬ bm (M 47 10) < bm 16384 → (F_X1_start_131 Q k8 x1 M))))) ∧ (¬ bm (M 47 10) < bm x1 → (F_X1_start_131 Q k8 x1 M))))))
def F_X1_start_8 (Q : g_M → Prop) : Nat → Int → g_M → Prop
  | 0 => fun _ _ => False
  | n + 1 => fun x1 M => F_X10_count (fun v1 M1 => ((bm x1 < bm v1 → ((okI 24 x1 ∧ (okI 25 x1 ∧ (okI 26 x1 ∧ F_X10_node (fun v3 M3 => F_X8_symbol (fun v4 M4 => (okI 28 x1 ∧ ∃ n9, F_X1_start_71 Q (F_X1_start_8 Q n) n9 x1 0 (rs M4 28 x1 v4))) v3 M3) x1 (rs (rs (rs M1 24 x1 x1) 25 x1 x1) 26 x1 1)))))) ∧ (¬ bm x1 < bm v1 → (Q M1)))) M
def F_X1_start (Q : g_M → Prop) (M : g_M) : Prop := ∃ n9, F_X1_start_8 Q n9 0 (up M 47 10 64)
def F_X1_join_66 (Q : g_M → Prop) : Nat → Int → Int → Int → Int → g_M → Prop
  | 0 => fun _ _ _ _ _ => False
  | n + 1 => fun x3 x4 x5 x6 M => ((bm x6 < bm (rg M 26 x4) → ((okI 24 x5 ∧ F_X1_join_66 Q n x3 x4 (rg (rs M 24 x5 x3) 25 x5) (x6 + 1) (rs M 24 x5 x3)))) ∧ (¬ bm x6 < bm (rg M 26 x4) → ((okI 26 x3 ∧ (okI 25 x3 ∧ (okI 25 x4 ∧ Q (rs (rs (rs M 26 x3 ((rg M 26 x3) + (rg M 26 x4))) 25 x3 (rg (rs M 26 x3 ((rg M 26 x3) + (rg M 26 x4))) 25 x4)) 25 x4 (rg (rs M 26 x3 ((rg M 26 x3) + (rg M 26 x4))) 25 x3))))))))
def F_X1_join_59 (Q : g_M → Prop) (x3 x4 : Int) (M : g_M) : Prop := ∃ n9, F_X1_join_66 Q n9 x3 x4 x4 0 M
def F_X1_join (Q : g_M → Prop) (a1 a2 : Int) (M : g_M) : Prop := ((bm (rg M 24 a1) = bm (rg M 24 a2) → (Q M)) ∧ (¬ bm (rg M 24 a1) = bm (rg M 24 a2) → (((bm (rg M 26 (rg M 24 a1)) < bm (rg M 26 (rg M 24 a2)) → (F_X1_join_59 Q (rg M 24 a2) (rg M 24 a1) M)) ∧ (¬ bm (rg M 26 (rg M 24 a1)) < bm (rg M 26 (rg M 24 a2)) → (F_X1_join_59 Q (rg M 24 a1) (rg M 24 a2) M))))))
def F_X9_gather_60 (Q : g_M → Prop) (k10 : Int → Int → Int → Int → g_M → Prop) (x1 x2 x3 x4 : Int) (M : g_M) : Prop := k10 x1 x2 x3 (x4 + 1) M
def F_X9_gather_149 (Q : g_M → Prop) (k92 : Int → Int → g_M → Prop) (x1 x4 : Int) (M : g_M) : Prop := k92 x1 (x4 + 1) M
def F_X9_gather_92 (Q : g_M → Prop) : Nat → Int → Int → g_M → Prop
  | 0 => fun _ _ _ => False
  | n + 1 => fun x1 x4 M => ((bm x4 < bm (M 45 7) → (((bm x4 < bm 30 → (((bm x4 = bm x1 → (F_X9_gather_149 Q (F_X9_gather_92 Q n) x1 x4 M)) ∧ (¬ bm x4 = bm x1 → ((inI x4 30 ∧ F_X10_indexOf (fun v13 M13 => (inI x4 30 ∧ F_X10_indexOf (fun v14 M14 => F_X1_join (fun M15 => F_X9_gather_149 Q (F_X9_gather_92 Q n) x1 x4 M15) v13 v14 M14) (M13 56 (bm x4).toNat) M13)) (M 55 (bm x4).toNat) M)))))) ∧ (¬ bm x4 < bm 30 → (Q M))))) ∧ (¬ bm x4 < bm (M 45 7) → (Q M)))
def F_X9_gather_66 (Q : g_M → Prop) (x1 x2 x3 : Int) (M : g_M) : Prop := F_X10_add (fun M7 => F_X10_add (fun M8 => F_X1_start (fun M9 => ∃ n9, F_X9_gather_92 Q n9 x1 0 M9) M8) x3 M7) x2 M
def F_X9_gather_10 (Q : g_M → Prop) : Nat → Int → Int → Int → Int → g_M → Prop
  | 0 => fun _ _ _ _ _ => False
  | n + 1 => fun x1 x2 x3 x4 M => ((bm x4 < bm (M 45 7) → (((bm x4 < bm 30 → (((bm x4 = bm x1 → (F_X9_gather_60 Q (F_X9_gather_10 Q n) x1 x2 x3 x4 M)) ∧ (¬ bm x4 = bm x1 → ((inI x4 30 ∧ F_X10_add (fun M5 => (inI x4 30 ∧ F_X10_add (fun M6 => F_X9_gather_60 Q (F_X9_gather_10 Q n) x1 x2 x3 x4 M6) (M5 56 (bm x4).toNat) M5)) (M 55 (bm x4).toNat) M)))))) ∧ (¬ bm x4 < bm 30 → (F_X9_gather_66 Q x1 x2 x3 M))))) ∧ (¬ bm x4 < bm (M 45 7) → (F_X9_gather_66 Q x1 x2 x3 M)))
def F_X9_gather (Q : g_M → Prop) (a1 a2 a3 : Int) (M : g_M) : Prop := F_X10_clear (fun M1 => ∃ n9, F_X9_gather_10 Q n9 a1 a2 a3 0 M1) M
def F_X1_bucketOf_11 (Q : Int → g_M → Prop) : Nat → Int → Int → Int → g_M → Prop
  | 0 => fun _ _ _ _ => False
  | n + 1 => fun x1 x2 x3 M => ((bm x3 < bm 3 → (F_X1_bucketOf_11 Q n x1 ((x2 * 8191) + (rg M 24 (rg M 29 ((3 * x1) + x3)))) (x3 + 1) M)) ∧ (¬ bm x3 < bm 3 → (Q (iand (ixor (x2 * 739982445) (iushr (x2 * 739982445) 15)) ((M 47 10) - 1)) M)))
def F_X1_bucketOf (Q : Int → g_M → Prop) (a1 : Int) (M : g_M) : Prop := ∃ n9, F_X1_bucketOf_11 Q n9 a1 (rg M 28 a1) 0 M
def F_X1_areTwins_93 (Q : Int → g_M → Prop) (x3 : Int) (M : g_M) : Prop := isB x3 ∧ Q x3 M
def F_X1_areTwins_86 (Q : Int → g_M → Prop) (k28 : Int → Int → Int → Int → g_M → Prop) (x1 x2 x4 t0 : Int) (M : g_M) : Prop := k28 x1 x2 t0 (x4 + 1) M
def F_X1_areTwins_28 (Q : Int → g_M → Prop) : Nat → Int → Int → Int → Int → g_M → Prop
  | 0 => fun _ _ _ _ _ => False
  | n + 1 => fun x1 x2 x3 x4 M => ((bm x4 < bm 3 → (((bm x3 = 0 → (F_X1_areTwins_93 Q x3 M)) ∧ (¬ bm x3 = 0 → (((bm (rg M 24 (rg M 29 ((3 * x1) + x4))) = bm (rg M 24 (rg M 29 ((3 * x2) + x4))) → (F_X1_areTwins_86 Q (F_X1_areTwins_28 Q n) x1 x2 x4 1 M)) ∧ (¬ bm (rg M 24 (rg M 29 ((3 * x1) + x4))) = bm (rg M 24 (rg M 29 ((3 * x2) + x4))) → (F_X1_areTwins_86 Q (F_X1_areTwins_28 Q n) x1 x2 x4 0 M)))))))) ∧ (¬ bm x4 < bm 3 → (F_X1_areTwins_93 Q x3 M)))
def F_X1_areTwins_24 (Q : Int → g_M → Prop) (x1 x2 t0 : Int) (M : g_M) : Prop := ∃ n9, F_X1_areTwins_28 Q n9 x1 x2 t0 0 M
def F_X1_areTwins (Q : Int → g_M → Prop) (a1 a2 : Int) (M : g_M) : Prop := ((bm (rg M 28 a1) = bm (rg M 28 a2) → (F_X1_areTwins_24 Q a1 a2 1 M)) ∧ (¬ bm (rg M 28 a1) = bm (rg M 28 a2) → (F_X1_areTwins_24 Q a1 a2 0 M)))
def F_X1_joinTwins_189 (Q : Int → g_M → Prop) (k29 : Int → Int → g_M → Prop) (x1 x2 : Int) (M : g_M) : Prop := k29 x1 (x2 + 1) M
def F_X1_joinTwins_122 (Q : Int → g_M → Prop) (k29 : Int → Int → g_M → Prop) (x1 x2 x3 x4 t1 t2 : Int) (M : g_M) : Prop := (okI 27 t1 ∧ ((bm x4 < 0 → ((okI 31 x2 ∧ (okI 30 x3 ∧ F_X1_joinTwins_189 Q k29 x1 x2 (rs (rs (rs M 27 t1 t2) 31 x2 (rg (rs M 27 t1 t2) 30 x3)) 30 x3 (x2 + 1)))))) ∧ (¬ bm x4 < 0 → (((bm (rg (rs M 27 t1 t2) 24 x4) = bm (rg (rs M 27 t1 t2) 24 x2) → (F_X1_joinTwins_189 Q k29 x1 x2 (rs M 27 t1 t2))) ∧ (¬ bm (rg (rs M 27 t1 t2) 24 x4) = bm (rg (rs M 27 t1 t2) 24 x2) → (F_X1_join (fun M13 => F_X1_joinTwins_189 Q k29 1 x2 M13) x4 x2 (rs M 27 t1 t2))))))))
def F_X1_joinTwins_107 (Q : Int → g_M → Prop) (k29 : Int → Int → g_M → Prop) (x1 x2 x3 x4 : Int) (M : g_M) : Prop := ((bm x4 < 0 → (F_X1_joinTwins_122 Q k29 x1 x2 x3 x4 x2 0 M)) ∧ (¬ bm x4 < 0 → (F_X1_joinTwins_122 Q k29 x1 x2 x3 x4 x2 1 M)))
def F_X1_joinTwins_61 (Q : Int → g_M → Prop) (k29 : Int → Int → g_M → Prop) : Nat → Int → Int → Int → Int → Int → g_M → Prop
  | 0 => fun _ _ _ _ _ _ => False
  | n + 1 => fun x1 x2 x3 x4 x5 M => F_X10_count (fun v5 M5 => ((bm x5 < bm v5 → (((bm x4 < 0 → (F_X1_joinTwins_107 Q k29 x1 x2 x3 x4 M5)) ∧ (¬ bm x4 < 0 → (F_X1_areTwins (fun v8 M8 => ((bm v8 = 0 → (F_X1_joinTwins_61 Q k29 n x1 x2 x3 ((rg M8 31 x4) - 1) (x5 + 1) M8)) ∧ (¬ bm v8 = 0 → (F_X1_joinTwins_107 Q k29 x1 x2 x3 x4 M8)))) x2 x4 M5))))) ∧ (¬ bm x5 < bm v5 → (F_X1_joinTwins_107 Q k29 x1 x2 x3 x4 M5)))) M
def F_X1_joinTwins_29 (Q : Int → g_M → Prop) : Nat → Int → Int → g_M → Prop
  | 0 => fun _ _ _ => False
  | n + 1 => fun x1 x2 M => F_X10_count (fun v2 M2 => ((bm x2 < bm v2 → (F_X1_bucketOf (fun v4 M4 => ∃ n9, F_X1_joinTwins_61 Q (F_X1_joinTwins_29 Q n) n9 x1 x2 v4 ((rg M4 30 v4) - 1) 0 M4) x2 M2)) ∧ (¬ bm x2 < bm v2 → (isB x1 ∧ Q x1 M2)))) M
def F_X1_joinTwins_4 (Q : Int → g_M → Prop) : Nat → Int → Int → g_M → Prop
  | 0 => fun _ _ _ => False
  | n + 1 => fun x1 x2 M => ((bm x2 < bm (M 47 10) → ((okI 30 x2 ∧ F_X1_joinTwins_4 Q n x1 (x2 + 1) (rs M 30 x2 0)))) ∧ (¬ bm x2 < bm (M 47 10) → (∃ n9, F_X1_joinTwins_29 Q n9 x1 0 M)))
def F_X1_joinTwins (Q : Int → g_M → Prop) (M : g_M) : Prop := ∃ n9, F_X1_joinTwins_4 Q n9 0 0 M
def F_X1_close_2 (Q : g_M → Prop) : Nat → Int → g_M → Prop
  | 0 => fun _ _ => False
  | n + 1 => fun x1 M => F_X10_count (fun v1 M1 => ((bm v1 < bm x1 → (Q M1)) ∧ (¬ bm v1 < bm x1 → (F_X1_joinTwins (fun v3 M3 => ((bm v3 = 0 → (Q M3)) ∧ (¬ bm v3 = 0 → (F_X1_close_2 Q n (x1 + 1) M3)))) M1)))) M
def F_X1_close (Q : g_M → Prop) (M : g_M) : Prop := ∃ n9, F_X1_close_2 Q n9 0 M
def F_X1_pourInto_109 (Q : g_M → Prop) (k13 : Int → g_M → Prop) (x2 : Int) (M : g_M) : Prop := k13 (x2 + 1) M
def F_X1_pourInto_66 (Q : g_M → Prop) (k13 : Int → g_M → Prop) : Nat → Int → Int → Int → g_M → Prop
  | 0 => fun _ _ _ _ => False
  | n + 1 => fun x2 x3 x4 M => F_X2_arity (fun v9 M9 => ((bm x4 < bm v9 → (F_X2_setPart (fun M11 => F_X1_pourInto_66 Q k13 n x2 x3 (x4 + 1) M11) x3 x4 (rg M9 24 (rg M9 29 ((3 * x2) + x4))) M9)) ∧ (¬ bm x4 < bm v9 → (F_X1_pourInto_109 Q k13 x2 M9)))) x3 M
def F_X1_pourInto_13 (Q : g_M → Prop) : Nat → Int → g_M → Prop
  | 0 => fun _ _ => False
  | n + 1 => fun x2 M => F_X10_count (fun v3 M3 => ((bm x2 < bm v3 → (((bm (rg M3 27 x2) = 0 → (F_X10_node (fun v6 M6 => F_X8_symbol (fun v7 M7 => F_X2_addProduction (fun v8 M8 => ∃ n9, F_X1_pourInto_66 Q (F_X1_pourInto_13 Q n) n9 x2 v8 0 M8) (rg M3 24 x2) v7 M7) v6 M6) x2 M3)) ∧ (¬ bm (rg M3 27 x2) = 0 → (F_X1_pourInto_109 Q (F_X1_pourInto_13 Q n) x2 M3))))) ∧ (¬ bm x2 < bm v3 → (Q M3)))) M
def F_X1_pourInto (Q : g_M → Prop) (M : g_M) : Prop := F_X10_count (fun v1 M1 => F_X2_clear (fun M2 => ∃ n9, F_X1_pourInto_13 Q n9 0 M2) v1 M1) M
def F_X2_sequenceCount (Q : Int → g_M → Prop) (M : g_M) : Prop := Q (M 44 18) M
def F_X2_ranked (Q : Int → g_M → Prop) (a1 : Int) (M : g_M) : Prop := Q (rg M 22 a1) M
def F_X2_owner (Q : Int → g_M → Prop) (a1 : Int) (M : g_M) : Prop := Q (rg M 10 a1) M
def F_X2_choice (Q : Int → g_M → Prop) (a1 : Int) (M : g_M) : Prop := Q (rg M 20 a1) M
def F_X2_termSize (Q : Int → g_M → Prop) (a1 : Int) (M : g_M) : Prop := Q (rg M 17 a1) M
def F_X2_termDepth (Q : Int → g_M → Prop) (a1 : Int) (M : g_M) : Prop := Q (rg M 18 a1) M
def F_X9_isTooLargeSide (Q : Int → g_M → Prop) (a1 : Int) (M : g_M) : Prop := F_X2_termSize (fun v1 M1 => ((bm 300 < bm v1 → (Q 1 M1)) ∧ (¬ bm 300 < bm v1 → (F_X2_termDepth (fun v3 M3 => ((bm 40 < bm v3 → (Q 1 M3)) ∧ (¬ bm 40 < bm v3 → (Q 0 M3)))) a1 M1)))) a1 M
def F_X2_dropNeeds_2 (Q : g_M → Prop) : Nat → Int → g_M → Prop
  | 0 => fun _ _ => False
  | n + 1 => fun x1 M => ((bm x1 < bm (M 44 15) → ((okI 13 x1 ∧ F_X2_dropNeeds_2 Q n (x1 + 1) (rs M 13 x1 0)))) ∧ (¬ bm x1 < bm (M 44 15) → (Q M)))
def F_X2_dropNeeds (Q : g_M → Prop) (M : g_M) : Prop := ∃ n9, F_X2_dropNeeds_2 Q n9 0 M
def F_X2_need (Q : g_M → Prop) (a1 : Int) (M : g_M) : Prop := (okI 13 a1 ∧ Q (rs M 13 a1 1))
def F_X2_needParts_2 (Q : g_M → Prop) : Nat → Int → Int → g_M → Prop
  | 0 => fun _ _ _ => False
  | n + 1 => fun x1 x2 M => F_X2_arity (fun v1 M1 => ((bm x2 < bm v1 → ((okI 13 (rg M1 12 ((3 * x1) + x2)) ∧ F_X2_needParts_2 Q n x1 (x2 + 1) (rs M1 13 (rg M1 12 ((3 * x1) + x2)) 1)))) ∧ (¬ bm x2 < bm v1 → (Q M1)))) x1 M
def F_X2_needParts (Q : g_M → Prop) (a1 : Int) (M : g_M) : Prop := ∃ n9, F_X2_needParts_2 Q n9 a1 0 M
def F_X2_isNeeded (Q : Int → g_M → Prop) (a1 : Int) (M : g_M) : Prop := ((bm (rg M 20 (rg M 10 a1)) = bm a1 → (((bm (rg M 13 (rg M 10 a1)) = bm 1 → (Q 1 M)) ∧ (¬ bm (rg M 13 (rg M 10 a1)) = bm 1 → (Q 0 M))))) ∧ (¬ bm (rg M 20 (rg M 10 a1)) = bm a1 → (Q 0 M)))
def F_X2_spreadNeeds_33 (Q : g_M → Prop) (k7 : Int → g_M → Prop) (x1 : Int) (M : g_M) : Prop := k7 (x1 + (-1)) M
def F_X2_spreadNeeds_7 (Q : g_M → Prop) : Nat → Int → g_M → Prop
  | 0 => fun _ _ => False
  | n + 1 => fun x1 M => ((bm x1 < 0 → (Q M)) ∧ (¬ bm x1 < 0 → (F_X2_isNeeded (fun v2 M2 => ((bm v2 = 0 → (F_X2_spreadNeeds_33 Q (F_X2_spreadNeeds_7 Q n) x1 M2)) ∧ (¬ bm v2 = 0 → (F_X2_needParts (fun M4 => F_X2_spreadNeeds_33 Q (F_X2_spreadNeeds_7 Q n) x1 M4) (rg M 22 x1) M2)))) (rg M 22 x1) M)))
def F_X2_spreadNeeds (Q : g_M → Prop) (M : g_M) : Prop := ∃ n9, F_X2_spreadNeeds_7 Q n9 ((M 44 18) - 1) M
def F_X2_makeTerm_93 (Q : Int → g_M → Prop) (x1 x5 x6 t0 : Int) (M : g_M) : Prop := F_X8_make (fun v5 M5 => Q v5 M5) (rg M 11 x1) x5 x6 t0 M
def F_X2_makeTerm_64 (Q : Int → g_M → Prop) (x1 x3 x4 x5 t0 : Int) (M : g_M) : Prop := ((bm 2 < bm x4 → (F_X2_makeTerm_93 Q x1 x5 t0 (rg M 23 (rg M 12 (x3 + 2))) M)) ∧ (¬ bm 2 < bm x4 → (F_X2_makeTerm_93 Q x1 x5 t0 (-1) M)))
def F_X2_makeTerm_35 (Q : Int → g_M → Prop) (x1 x3 x4 t0 : Int) (M : g_M) : Prop := ((bm 1 < bm x4 → (F_X2_makeTerm_64 Q x1 x3 x4 t0 (rg M 23 (rg M 12 (x3 + 1))) M)) ∧ (¬ bm 1 < bm x4 → (F_X2_makeTerm_64 Q x1 x3 x4 t0 (-1) M)))
def F_X2_makeTerm (Q : Int → g_M → Prop) (a1 : Int) (M : g_M) : Prop := F_X2_arity (fun v1 M1 => ((0 < bm v1 → (F_X2_makeTerm_35 Q a1 (3 * a1) v1 (rg M1 23 (rg M1 12 (3 * a1))) M1)) ∧ (¬ 0 < bm v1 → (F_X2_makeTerm_35 Q a1 (3 * a1) v1 (-1) M1)))) a1 M
def F_X2_leastTerm (Q : Int → g_M → Prop) (a1 : Int) (M : g_M) : Prop := Q (rg M 23 a1) M
def F_X9_addRule (Q : g_M → Prop) (a1 a2 : Int) (M : g_M) : Prop := ((bm (M 45 17) < 0 → (Q M)) ∧ (¬ bm (M 45 17) < 0 → (((bm (M 45 17) < bm 30 → ((inI (M 45 17) 30 ∧ (inI ((up M 59 (bm (M 45 17)).toNat a1) 45 17) 30 ∧ (okI 32 a1 ∧ Q (up (rs (up (up M 59 (bm (M 45 17)).toNat a1) 60 (bm ((up M 59 (bm (M 45 17)).toNat a1) 45 17)).toNat a2) 32 a1 ((up (up M 59 (bm (M 45 17)).toNat a1) 60 (bm ((up M 59 (bm (M 45 17)).toNat a1) 45 17)).toNat a2) 45 17)) 45 17 (((rs (up (up M 59 (bm (M 45 17)).toNat a1) 60 (bm ((up M 59 (bm (M 45 17)).toNat a1) 45 17)).toNat a2) 32 a1 ((up (up M 59 (bm (M 45 17)).toNat a1) 60 (bm ((up M 59 (bm (M 45 17)).toNat a1) 45 17)).toNat a2) 45 17)) 45 17) + 1))))))) ∧ (¬ bm (M 45 17) < bm 30 → (Q M))))))
def F_X2_setLeastTerm (Q : g_M → Prop) (a1 a2 : Int) (M : g_M) : Prop := (okI 23 a1 ∧ Q (rs M 23 a1 a2))
def F_X9_takeRules_71 (Q : g_M → Prop) (k9 : Int → g_M → Prop) (x1 : Int) (M : g_M) : Prop := k9 (x1 + 1) M
def F_X9_takeRules_190 (Q : g_M → Prop) (k91 : Int → g_M → Prop) (x1 : Int) (M : g_M) : Prop := k91 (x1 + 1) M
def F_X9_takeRules_91 (Q : g_M → Prop) : Nat → Int → g_M → Prop
  | 0 => fun _ _ => False
  | n + 1 => fun x1 M => F_X2_sequenceCount (fun v12 M12 => ((bm x1 < bm v12 → (F_X2_ranked (fun v14 M14 => F_X2_owner (fun v15 M15 => F_X2_isNeeded (fun v16 M16 => ((bm v16 = 0 → (F_X2_choice (fun v18 M18 => ((bm v18 = bm v14 → (F_X9_takeRules_190 Q (F_X9_takeRules_91 Q n) x1 M18)) ∧ (¬ bm v18 = bm v14 → (F_X2_makeTerm (fun v20 M20 => F_X2_leastTerm (fun v21 M21 => F_X9_addRule (fun M22 => F_X9_takeRules_190 Q (F_X9_takeRules_91 Q n) x1 M22) v20 v21 M21) v15 M20) v14 M18)))) v15 M16)) ∧ (¬ bm v16 = 0 → (F_X2_makeTerm (fun v23 M23 => F_X2_setLeastTerm (fun M24 => F_X9_takeRules_190 Q (F_X9_takeRules_91 Q n) x1 M24) v15 v23 M23) v14 M16)))) v14 M15) v14 M14) x1 M12)) ∧ (¬ bm x1 < bm v12 → (Q M12)))) M
def F_X9_takeRules_9 (Q : g_M → Prop) : Nat → Int → g_M → Prop
  | 0 => fun _ _ => False
  | n + 1 => fun x1 M => F_X2_sequenceCount (fun v2 M2 => ((bm x1 < bm v2 → (F_X2_ranked (fun v4 M4 => F_X2_owner (fun v5 M5 => F_X2_choice (fun v6 M6 => ((bm v6 = bm v4 → (F_X9_takeRules_71 Q (F_X9_takeRules_9 Q n) x1 M6)) ∧ (¬ bm v6 = bm v4 → (F_X2_owner (fun v8 M8 => F_X2_need (fun M9 => F_X2_needParts (fun M10 => F_X9_takeRules_71 Q (F_X9_takeRules_9 Q n) x1 M10) v4 M9) v8 M8) v4 M6)))) v5 M5) v4 M4) x1 M2)) ∧ (¬ bm x1 < bm v2 → (F_X2_spreadNeeds (fun M11 => ∃ n9, F_X9_takeRules_91 Q n9 0 (up M11 45 17 0)) M2)))) M
def F_X9_takeRules (Q : g_M → Prop) (M : g_M) : Prop := F_X2_dropNeeds (fun M1 => ∃ n9, F_X9_takeRules_9 Q n9 0 M1) M
def F_X9_complete_100 (Q : Int → g_M → Prop) (k41 : Int → g_M → Prop) (x1 : Int) (M : g_M) : Prop := k41 (x1 + 1) M
def F_X9_complete_41 (Q : Int → g_M → Prop) : Nat → Int → g_M → Prop
  | 0 => fun _ _ => False
  | n + 1 => fun x1 M => F_X2_sequenceCount (fun v6 M6 => ((bm x1 < bm v6 → (F_X2_ranked (fun v8 M8 => F_X2_owner (fun v9 M9 => F_X2_choice (fun v10 M10 => ((bm v8 = bm v10 → (F_X9_complete_100 Q (F_X9_complete_41 Q n) x1 M10)) ∧ (¬ bm v8 = bm v10 → (F_X9_isTooLargeSide (fun v12 M12 => ((bm v12 = 0 → (F_X9_isTooLargeSide (fun v14 M14 => ((bm v14 = 0 → (F_X9_complete_100 Q (F_X9_complete_41 Q n) x1 M14)) ∧ (¬ bm v14 = 0 → (Q 0 M14)))) v10 M12)) ∧ (¬ bm v12 = 0 → (Q 0 M12)))) v8 M10)))) v9 M9) v8 M8) x1 M6)) ∧ (¬ bm x1 < bm v6 → (F_X9_takeRules (fun M16 => Q 1 M16) M6)))) M
def F_X9_complete (Q : Int → g_M → Prop) (M : g_M) : Prop := F_X9_gather (fun M1 => F_X1_close (fun M2 => F_X1_pourInto (fun M3 => F_X7_orderMode (fun v4 M4 => F_X2_rank (fun M5 => ∃ n9, F_X9_complete_41 Q n9 0 M5) v4 M4) M3) M2) M1) (-1) (-1) (-1) M
def F_X9_goBack (Q : g_M → Prop) (a1 a2 : Int) (M : g_M) : Prop := Q (up (up M 45 7 a1) 45 10 a2)
def F_X11_equate (Q : Int → g_M → Prop) (QE : g_M → Prop) (a1 a2 : Int) (M : g_M) : Prop := F_X11_isTerm (fun v1 M1 => ((bm v1 = 0 → (False)) ∧ (¬ bm v1 = 0 → (F_X11_isTerm (fun v3 M3 => ((bm v3 = 0 → (False)) ∧ (¬ bm v3 = 0 → (F_X8_isGround (fun v5 M5 => ((bm v5 = 0 → (False)) ∧ (¬ bm v5 = 0 → (F_X8_isGround (fun v7 M7 => ((bm v7 = 0 → (False)) ∧ (¬ bm v7 = 0 → (((bm (M7 45 7) < bm 30 → (F_X11_tidy (fun M10 => F_X9_addEquation (fun M11 => F_X9_complete (fun v12 M12 => ((bm v12 = 0 → (F_X9_goBack (fun M14 => M14 99 0 < 1000 ∧ QE (up M14 99 0 (M14 99 0 + 1))) ((M12 45 7) - 1) (M12 45 10) M12)) ∧ (¬ bm v12 = 0 → (Q ((M12 45 7) - 1) M12)))) M11) (rg M10 33 a1) (rg M10 33 a2) M10) M7)) ∧ (¬ bm (M7 45 7) < bm 30 → (False))))))) (rg M5 33 a2) M5)))) (rg M3 33 a1) M3)))) a2 M1)))) a1 M
def F_X11_equationCount (Q : Int → g_M → Prop) (M : g_M) : Prop := Q (M 45 7) M
def F_X9_openLevel (Q : g_M → Prop) (M : g_M) : Prop := ((bm (M 45 13) < 0 → (Q M)) ∧ (¬ bm (M 45 13) < 0 → (((bm (M 45 13) < bm 8 → ((inI (M 45 13) 8 ∧ (inI ((up M 57 (bm (M 45 13)).toNat (M 45 7)) 45 13) 8 ∧ Q (up (up (up M 57 (bm (M 45 13)).toNat (M 45 7)) 58 (bm ((up M 57 (bm (M 45 13)).toNat (M 45 7)) 45 13)).toNat ((up M 57 (bm (M 45 13)).toNat (M 45 7)) 45 10)) 45 13 (((up (up M 57 (bm (M 45 13)).toNat (M 45 7)) 58 (bm ((up M 57 (bm (M 45 13)).toNat (M 45 7)) 45 13)).toNat ((up M 57 (bm (M 45 13)).toNat (M 45 7)) 45 10)) 45 13) + 1)))))) ∧ (¬ bm (M 45 13) < bm 8 → (Q M))))))
def F_X11_push (Q : Int → g_M → Prop) (M : g_M) : Prop := ((bm (M 45 13) < bm 8 → (F_X9_openLevel (fun M2 => Q (M2 45 13) M2) M)) ∧ (¬ bm (M 45 13) < bm 8 → (False)))
def F_X9_closeLevel (Q : g_M → Prop) (M : g_M) : Prop := ((0 < bm (M 45 13) → (((bm 8 < bm (M 45 13) → (Q M)) ∧ (¬ bm 8 < bm (M 45 13) → ((inI ((up M 45 13 ((M 45 13) - 1)) 45 13) 8 ∧ (inI ((up M 45 13 ((M 45 13) - 1)) 45 13) 8 ∧ F_X9_goBack (fun M3 => Q M3) ((up M 45 13 ((M 45 13) - 1)) 57 (bm ((up M 45 13 ((M 45 13) - 1)) 45 13)).toNat) ((up M 45 13 ((M 45 13) - 1)) 58 (bm ((up M 45 13 ((M 45 13) - 1)) 45 13)).toNat) (up M 45 13 ((M 45 13) - 1))))))))) ∧ (¬ 0 < bm (M 45 13) → (Q M)))
def F_X11_pop (Q : Int → g_M → Prop) (QE : g_M → Prop) (M : g_M) : Prop := ((0 < bm (M 45 13) → (F_X11_tidy (fun M2 => F_X9_closeLevel (fun M3 => F_X9_complete (fun v4 M4 => Q (M4 45 13) M4) M3) M2) M)) ∧ (¬ 0 < bm (M 45 13) → (M 99 0 < 1000 ∧ QE (up M 99 0 (M 99 0 + 1)))))
def F_X10_rebuild_87 (Q : Int → g_M → Prop) (x2 x4 x5 t0 : Int) (M : g_M) : Prop := F_X8_symbol (fun v8 M8 => F_X8_make (fun v9 M9 => Q v9 M9) v8 x4 x5 t0 M8) x2 M
def F_X10_rebuild_63 (Q : Int → g_M → Prop) (x1 x2 x3 x4 t0 : Int) (M : g_M) : Prop := ((bm 2 < bm x3 → (F_X10_partOf (fun v7 M7 => F_X10_rebuild_87 Q x2 x4 t0 (rg M7 8 v7) M7) x1 2 M)) ∧ (¬ bm 2 < bm x3 → (F_X10_rebuild_87 Q x2 x4 t0 (-1) M)))
def F_X10_rebuild_39 (Q : Int → g_M → Prop) (x1 x2 x3 t0 : Int) (M : g_M) : Prop := ((bm 1 < bm x3 → (F_X10_partOf (fun v5 M5 => F_X10_rebuild_63 Q x1 x2 x3 t0 (rg M5 8 v5) M5) x1 1 M)) ∧ (¬ bm 1 < bm x3 → (F_X10_rebuild_63 Q x1 x2 x3 t0 (-1) M)))
def F_X10_rebuild (Q : Int → g_M → Prop) (a1 : Int) (M : g_M) : Prop := F_X8_arity (fun v1 M1 => ((0 < bm v1 → (F_X10_partOf (fun v3 M3 => F_X10_rebuild_39 Q a1 (rg M 7 a1) v1 (rg M3 8 v3) M3) a1 0 M1)) ∧ (¬ 0 < bm v1 → (F_X10_rebuild_39 Q a1 (rg M 7 a1) v1 (-1) M1)))) (rg M 7 a1) M
def F_X9_ruleFor (Q : Int → g_M → Prop) (a1 : Int) (M : g_M) : Prop := ((bm (rg M 32 a1) < 0 → (Q (-1) M)) ∧ (¬ bm (rg M 32 a1) < 0 → (((bm (rg M 32 a1) < bm (M 45 17) → (((bm (rg M 32 a1) < bm 30 → ((inI (rg M 32 a1) 30 ∧ ((bm (M 59 (bm (rg M 32 a1)).toNat) = bm a1 → (Q (rg M 32 a1) M)) ∧ (¬ bm (M 59 (bm (rg M 32 a1)).toNat) = bm a1 → (Q (-1) M)))))) ∧ (¬ bm (rg M 32 a1) < bm 30 → (Q (-1) M))))) ∧ (¬ bm (rg M 32 a1) < bm (M 45 17) → (Q (-1) M))))))
def F_X9_rightSide (Q : Int → g_M → Prop) (a1 : Int) (M : g_M) : Prop := ((bm a1 < 0 → (Q (-1) M)) ∧ (¬ bm a1 < 0 → (((bm a1 < bm 30 → ((inI a1 30 ∧ Q (M 60 (bm a1).toNat) M))) ∧ (¬ bm a1 < bm 30 → (Q (-1) M))))))
def F_X10_value (Q : Int → g_M → Prop) (a1 : Int) (M : g_M) : Prop := Q (rg M 8 a1) M
def F_X10_setValue (Q : g_M → Prop) (a1 a2 : Int) (M : g_M) : Prop := (okI 8 a1 ∧ Q (rs M 8 a1 a2))
def F_X10_sumOfParts_4 (Q : Int → g_M → Prop) : Nat → Int → Int → Int → g_M → Prop
  | 0 => fun _ _ _ _ => False
  | n + 1 => fun x1 x2 x3 M => F_X8_arity (fun v1 M1 => ((bm x3 < bm v1 → (F_X10_partOf (fun v3 M3 => F_X10_sumOfParts_4 Q n x1 (x2 + (rg M3 9 v3)) (x3 + 1) M3) x1 x3 M1)) ∧ (¬ bm x3 < bm v1 → (Q x2 M1)))) (rg M 7 x1) M
def F_X10_sumOfParts (Q : Int → g_M → Prop) (a1 : Int) (M : g_M) : Prop := ∃ n9, F_X10_sumOfParts_4 Q n9 a1 0 0 M
def F_X10_setTally (Q : g_M → Prop) (a1 a2 : Int) (M : g_M) : Prop := (okI 9 a1 ∧ Q (rs M 9 a1 a2))
def F_X9_normalize_92 (Q : Int → g_M → Prop) (k17 : Int → g_M → Prop) (x2 t1 t2 t3 : Int) (M : g_M) : Prop := F_X10_setTally (fun M14 => k17 (x2 + 1) M14) t1 (t2 + t3) M
def F_X9_normalize_65 (Q : Int → g_M → Prop) (k17 : Int → g_M → Prop) (x2 x4 t1 t2 : Int) (M : g_M) : Prop := F_X10_setValue (fun M11 => F_X10_sumOfParts (fun v12 M12 => ((bm x4 = bm (-1) → (F_X9_normalize_92 Q k17 x2 x2 v12 0 M12)) ∧ (¬ bm x4 = bm (-1) → (F_X9_normalize_92 Q k17 x2 x2 v12 1 M12)))) x2 M11) t1 t2 M
def F_X9_normalize_17 (Q : Int → g_M → Prop) : Nat → Int → g_M → Prop
  | 0 => fun _ _ => False
  | n + 1 => fun x2 M => F_X10_count (fun v3 M3 => ((bm x2 < bm v3 → (F_X10_rebuild (fun v5 M5 => F_X9_ruleFor (fun v6 M6 => ((bm v6 = bm (-1) → (F_X9_normalize_65 Q (F_X9_normalize_17 Q n) x2 v6 x2 v5 M6)) ∧ (¬ bm v6 = bm (-1) → (F_X9_rightSide (fun v8 M8 => F_X9_normalize_65 Q (F_X9_normalize_17 Q n) x2 v6 x2 v8 M8) v6 M6)))) v5 M5) x2 M3)) ∧ (¬ bm x2 < bm v3 → (F_X10_count (fun v9 M9 => F_X10_value (fun v10 M10 => Q v10 M10) (v9 - 1) M9) M3)))) M
def F_X9_normalize (Q : Int → g_M → Prop) (a1 : Int) (M : g_M) : Prop := F_X10_clear (fun M1 => F_X10_add (fun M2 => ∃ n9, F_X9_normalize_17 Q n9 0 M2) a1 M1) M
def F_X11_normalForm (Q : Int → g_M → Prop) (QE : g_M → Prop) (a1 : Int) (M : g_M) : Prop := F_X11_isTerm (fun v1 M1 => ((bm v1 = 0 → (False)) ∧ (¬ bm v1 = 0 → (F_X11_tidy (fun M3 => F_X9_normalize (fun v4 M4 => F_X8_isTooLarge (fun v5 M5 => ((bm v5 = 0 → (F_X11_giveNumber (fun v7 M7 => Q v7 M7) v4 M5)) ∧ (¬ bm v5 = 0 → (M5 99 0 < 1000 ∧ QE (up M5 99 0 (M5 99 0 + 1)))))) v4 M4) (rg M3 33 a1) M3) M1)))) a1 M
def F_X9_makesEqual (Q : Int → g_M → Prop) (a1 a2 : Int) (M : g_M) : Prop := ((bm a1 = bm a2 → (Q 1 M)) ∧ (¬ bm a1 = bm a2 → (F_X9_normalize (fun v2 M2 => F_X9_normalize (fun v3 M3 => ((bm v2 = bm v3 → (Q 1 M3)) ∧ (¬ bm v2 = bm v3 → (Q 0 M3)))) a2 M2) a1 M)))
def F_X11_areEqual (Q : Int → g_M → Prop) (a1 a2 : Int) (M : g_M) : Prop := F_X11_isTerm (fun v1 M1 => ((bm v1 = 0 → (False)) ∧ (¬ bm v1 = 0 → (F_X11_isTerm (fun v3 M3 => ((bm v3 = 0 → (False)) ∧ (¬ bm v3 = 0 → (F_X11_tidy (fun M5 => F_X9_makesEqual (fun v6 M6 => isB v6 ∧ Q v6 M6) (rg M5 33 a1) (rg M5 33 a2) M5) M3)))) a2 M1)))) a1 M
def F_X10_tally (Q : Int → g_M → Prop) (a1 : Int) (M : g_M) : Prop := Q (rg M 9 a1) M
def F_X9_countSteps (Q : Int → g_M → Prop) (a1 : Int) (M : g_M) : Prop := F_X9_normalize (fun v1 M1 => F_X10_count (fun v2 M2 => F_X10_tally (fun v3 M3 => Q v3 M3) (v2 - 1) M2) M1) a1 M
def F_X11_stepCount (Q : Int → g_M → Prop) (a1 : Int) (M : g_M) : Prop := F_X11_isTerm (fun v1 M1 => ((bm v1 = 0 → (False)) ∧ (¬ bm v1 = 0 → (F_X11_tidy (fun M3 => F_X9_countSteps (fun v4 M4 => Q v4 M4) (rg M3 33 a1) M3) M1)))) a1 M
def F_L_below (Q : Int → g_M → Prop) (a0 a1 : Int) (M : g_M) : Prop := (bm a1 ≠ 0 ∧ Q (irem (iand a0 2147483647) a1) M)
def F_L_cell (Ls : Nat) (xs : Nat → Int32) (Q : Int → g_M → Prop) (a1 : Int) (M : g_M) : Prop := ((bm a1 < bm (Ls : Int) → ((inI a1 Ls ∧ Q ((xs (bm a1).toNat).toInt) M))) ∧ (¬ bm a1 < bm (Ls : Int) → (Q (790386105 * (a1 + 3)) M)))
def F_L_declare (Q : Int → g_M → Prop) (a1 a2 a3 : Int) (M : g_M) : Prop := F_X11_feed (fun v1 M1 => ((bm v1 = bm 20 → (F_X11_trim (fun v3 M3 => ((bm v3 = bm 1 → (F_X11_declare (fun v5 M5 => Q v5 M5) a2 a3 M3)) ∧ (¬ bm v3 = bm 1 → (Q (-1) M3)))) 1 M1)) ∧ (¬ bm v1 = bm 20 → (Q (-1) M1)))) (ishl a1 24) 0 0 0 0 M
def F_L_setUp_149 (Q : Int → g_M → Prop) (x3 x4 t1 t2 : Int) (M : g_M) : Prop := F_X11_setDirection (fun v21 M21 => ((bm v21 = 0 → (F_X11_promote (fun v23 M23 => ((bm v23 = bm x3 → (F_X11_rankOf (fun v25 M25 => ((bm v25 = bm x4 → (Q 1 M25)) ∧ (¬ bm v25 = bm x4 → (Q 0 M25)))) x3 M23)) ∧ (¬ bm v23 = bm x3 → (Q 0 M23)))) x3 x4 M21)) ∧ (¬ bm v21 = 0 → (Q 0 M21)))) t1 t2 M
def F_L_setUp_129 (Q : Int → g_M → Prop) (x1 x3 x4 t1 : Int) (M : g_M) : Prop := F_X11_orderByWeight (fun v18 M18 => ((bm v18 = 0 → (((bm (iand x1 2) = bm 2 → (F_L_setUp_149 Q x3 x4 4 1 M18)) ∧ (¬ bm (iand x1 2) = bm 2 → (F_L_setUp_149 Q x3 x4 4 0 M18))))) ∧ (¬ bm v18 = 0 → (Q 0 M18)))) t1 M
def F_L_setUp_92 (Q : Int → g_M → Prop) (x1 t0 : Int) (M : g_M) : Prop := F_L_below (fun v14 M14 => F_L_below (fun v15 M15 => ((bm t0 = 0 → (Q 0 M15)) ∧ (¬ bm t0 = 0 → (((bm (iand x1 1) = bm 1 → (F_L_setUp_129 Q x1 v14 v15 1 M15)) ∧ (¬ bm (iand x1 1) = bm 1 → (F_L_setUp_129 Q x1 v14 v15 0 M15))))))) (ishr x1 12) 5 M14) (ishr x1 8) 5 M
def F_L_setUp_91 (Q : Int → g_M → Prop) (x1 : Int) (M : g_M) : Prop := F_L_setUp_92 Q x1 0 M
def F_L_setUp_49 (Q : Int → g_M → Prop) (x1 t0 : Int) (M : g_M) : Prop := ((bm t0 = 0 → (F_L_setUp_91 Q x1 M)) ∧ (¬ bm t0 = 0 → (F_L_below (fun v9 M9 => F_L_declare (fun v10 M10 => ((bm v10 = bm 3 → (F_L_declare (fun v12 M12 => ((bm v12 = bm 4 → (F_L_setUp_92 Q x1 1 M12)) ∧ (¬ bm v12 = bm 4 → (F_L_setUp_91 Q x1 M12)))) 103 2 1 M10)) ∧ (¬ bm v10 = bm 3 → (F_L_setUp_91 Q x1 M10)))) 102 1 (1 + v9) M9) (ishr x1 24) 3 M)))
def F_L_setUp_48 (Q : Int → g_M → Prop) (x1 : Int) (M : g_M) : Prop := F_L_setUp_49 Q x1 0 M
def F_L_setUp (Q : Int → g_M → Prop) (a1 : Int) (M : g_M) : Prop := F_L_below (fun v1 M1 => F_L_declare (fun v2 M2 => ((bm v2 = 0 → (F_L_declare (fun v4 M4 => ((bm v4 = bm 1 → (F_L_declare (fun v6 M6 => ((bm v6 = bm 2 → (F_L_setUp_49 Q a1 1 M6)) ∧ (¬ bm v6 = bm 2 → (F_L_setUp_48 Q a1 M6)))) 99 0 2 M4)) ∧ (¬ bm v4 = bm 1 → (F_L_setUp_48 Q a1 M4)))) 98 0 1 M2)) ∧ (¬ bm v2 = 0 → (F_L_setUp_48 Q a1 M2)))) 97 0 (1 + v1) M1) (ishr a1 20) 3 M
def F_L_build_183 (Ls : Nat) (xs : Nat → Int32) (Q : g_M → g_M → Prop) (k3 : Int → Int → g_M → g_M → Prop) (x2 x6 t1 t2 : Int) (M N : g_M) : Prop := (inI t1 14 ∧ k3 x2 (x6 + 1) M (up N 0 (bm t1).toNat t2))
def F_L_build_171 (Ls : Nat) (xs : Nat → Int32) (Q : g_M → g_M → Prop) (k3 : Int → Int → g_M → g_M → Prop) (x2 x6 x8 x9 t1 t3 : Int) (M N : g_M) : Prop := (inI x8 14 ∧ (inI x9 14 ∧ F_X11_term (fun v17 M17 => F_L_build_183 Ls xs Q k3 x2 x6 t1 v17 M17 N) t3 (N 0 (bm x8).toNat) (N 0 (bm x9).toNat) 0 M))
def F_L_build_135 (Ls : Nat) (xs : Nat → Int32) (Q : g_M → g_M → Prop) (k3 : Int → Int → g_M → g_M → Prop) (x2 x6 x8 x9 t1 t2 : Int) (M N : g_M) : Prop := (inI t1 14 ∧ ((bm x6 < bm 3 → (F_X11_term (fun v15 M15 => F_L_build_183 Ls xs Q k3 x2 x6 x6 v15 M15 (up N 2 (bm t1).toNat t2)) x6 0 0 0 M)) ∧ (¬ bm x6 < bm 3 → ((inI x6 14 ∧ ((bm ((up N 2 (bm t1).toNat t2) 2 (bm x6).toNat) < 0 → (F_L_build_171 Ls xs Q k3 x2 x6 x8 x9 x6 3 M (up N 2 (bm t1).toNat t2))) ∧ (¬ bm ((up N 2 (bm t1).toNat t2) 2 (bm x6).toNat) < 0 → (F_L_build_171 Ls xs Q k3 x2 x6 x8 x9 x6 4 M (up N 2 (bm t1).toNat t2)))))))))
def F_L_build_111 (Ls : Nat) (xs : Nat → Int32) (Q : g_M → g_M → Prop) (k3 : Int → Int → g_M → g_M → Prop) (x2 x6 x7 x8 x9 t1 t2 : Int) (M N : g_M) : Prop := (inI t1 14 ∧ ((bm x6 < bm 3 → (F_L_build_135 Ls xs Q k3 x2 x6 x8 x9 x6 (-1) M (up N 1 (bm t1).toNat t2))) ∧ (¬ bm x6 < bm 3 → (((bm (iand x7 3) = 0 → (F_L_build_135 Ls xs Q k3 x2 x6 x8 x9 x6 (-1) M (up N 1 (bm t1).toNat t2))) ∧ (¬ bm (iand x7 3) = 0 → (F_L_build_135 Ls xs Q k3 x2 x6 x8 x9 x6 x9 M (up N 1 (bm t1).toNat t2))))))))
def F_L_build_95 (Ls : Nat) (xs : Nat → Int32) (Q : g_M → g_M → Prop) (k3 : Int → Int → g_M → g_M → Prop) (x2 x6 x7 x8 x9 : Int) (M N : g_M) : Prop := ((bm x6 < bm 3 → (F_L_build_111 Ls xs Q k3 x2 x6 x7 x8 x9 x6 (-1) M N)) ∧ (¬ bm x6 < bm 3 → (F_L_build_111 Ls xs Q k3 x2 x6 x7 x8 x9 x6 x8 M N)))
def F_L_build_73 (Ls : Nat) (xs : Nat → Int32) (Q : g_M → g_M → Prop) (k3 : Int → Int → g_M → g_M → Prop) (x2 x6 x7 x8 x9 : Int) (M N : g_M) : Prop := ((bm x6 < bm 3 → (F_L_build_95 Ls xs Q k3 x2 x6 x7 x8 x9 M N)) ∧ (¬ bm x6 < bm 3 → ((inI x9 14 ∧ F_X11_size (fun v9 M9 => ((bm 6 < bm v9 → (F_L_build_95 Ls xs Q k3 x2 x6 x7 x8 1 M9 N)) ∧ (¬ bm 6 < bm v9 → (F_L_build_95 Ls xs Q k3 x2 x6 x7 x8 x9 M9 N)))) (N 0 (bm x9).toNat) M))))
def F_L_build_3 (Ls : Nat) (xs : Nat → Int32) (Q : g_M → g_M → Prop) : Nat → Int → Int → g_M → g_M → Prop
  | 0 => fun _ _ _ _ => False
  | n + 1 => fun x2 x6 M N => ((bm x6 < bm 14 → (F_L_cell Ls xs (fun v2 M2 => F_L_below (fun v3 M3 => F_L_below (fun v4 M4 => ((bm x6 < bm 3 → (F_L_build_73 Ls xs Q (F_L_build_3 Ls xs Q n) x2 x6 v2 v3 v4 M4 N)) ∧ (¬ bm x6 < bm 3 → ((inI v3 14 ∧ F_X11_size (fun v6 M6 => ((bm 6 < bm v6 → (F_L_build_73 Ls xs Q (F_L_build_3 Ls xs Q n) x2 x6 v2 0 v4 M6 N)) ∧ (¬ bm 6 < bm v6 → (F_L_build_73 Ls xs Q (F_L_build_3 Ls xs Q n) x2 x6 v2 v3 v4 M6 N)))) (N 0 (bm v3).toNat) M4))))) (ishr v2 10) (imax x6 1) M3) (ishr v2 2) (imax x6 1) M2) (x2 + x6) M)) ∧ (¬ bm x6 < bm 14 → (Q M N)))
def F_L_build (Ls : Nat) (xs : Nat → Int32) (Q : g_M → g_M → Prop) (a2 : Int) (M N : g_M) : Prop := ∃ n9, F_L_build_3 Ls xs Q n9 a2 0 M N
def F_L_equate (Q : Int → g_M → Prop) (a1 a2 : Int) (M : g_M) : Prop := F_X11_equate (fun v1 M1 => Q v1 M1) (fun M2 => Q (-1) M2) a1 a2 M
def F_L_normal (Q : Int → g_M → Prop) (a1 : Int) (M : g_M) : Prop := F_X11_normalForm (fun v1 M1 => Q v1 M1) (fun M2 => Q (-1) M2) a1 M
def F_L_unite_19 (Q : g_M → g_M → Prop) (k2 : Int → Int → Int → g_M → g_M → Prop) (x1 x2 x3 : Int) (M N : g_M) : Prop := k2 x1 x2 (x3 + 1) M N
def F_L_unite_2 (Q : g_M → g_M → Prop) : Nat → Int → Int → Int → g_M → g_M → Prop
  | 0 => fun _ _ _ _ _ => False
  | n + 1 => fun x1 x2 x3 M N => ((bm x3 < bm 14 → ((inI x3 14 ∧ ((bm (N 3 (bm x3).toNat) = bm x2 → ((inI x3 14 ∧ F_L_unite_19 Q (F_L_unite_2 Q n) x1 x2 x3 M (up N 3 (bm x3).toNat x1)))) ∧ (¬ bm (N 3 (bm x3).toNat) = bm x2 → (F_L_unite_19 Q (F_L_unite_2 Q n) x1 x2 x3 M N)))))) ∧ (¬ bm x3 < bm 14 → (Q M N)))
def F_L_unite (Q : g_M → g_M → Prop) (a1 a2 : Int) (M N : g_M) : Prop := ∃ n9, F_L_unite_2 Q n9 a1 a2 0 M N
def F_L_close_52 (Q : g_M → g_M → Prop) (k7 : Int → Int → Int → Int → g_M → g_M → Prop) (k24 : Int → Int → Int → Int → Int → g_M → g_M → Prop) (x5 x6 x8 x9 x10 : Int) (M N : g_M) : Prop := k24 x5 x6 x8 x9 (x10 + 1) M N
def F_L_close_24 (Q : g_M → g_M → Prop) (k7 : Int → Int → Int → Int → g_M → g_M → Prop) : Nat → Int → Int → Int → Int → Int → g_M → g_M → Prop
  | 0 => fun _ _ _ _ _ _ _ => False
  | n + 1 => fun x5 x6 x8 x9 x10 M N => ((bm x10 < bm x9 → ((inI x10 14 ∧ (inI x9 14 ∧ ((bm (N 0 (bm x10).toNat) = bm (N 0 (bm x9).toNat) → ((inI x10 14 ∧ (inI x9 14 ∧ F_L_close_52 Q k7 (F_L_close_24 Q k7 n) x5 x6 x8 x9 x10 M (up N 3 (bm x9).toNat (N 3 (bm x10).toNat)))))) ∧ (¬ bm (N 0 (bm x10).toNat) = bm (N 0 (bm x9).toNat) → (F_L_close_52 Q k7 (F_L_close_24 Q k7 n) x5 x6 x8 x9 x10 M N))))))) ∧ (¬ bm x10 < bm x9 → (k7 x5 x6 x8 (x9 + 1) M N)))
def F_L_close_101 (Q : g_M → g_M → Prop) (k67 : Int → Int → Int → Int → g_M → g_M → Prop) (x5 x6 x8 x9 : Int) (M N : g_M) : Prop := k67 x5 x6 x8 (x9 + 1) M N
def F_L_close_252 (Q : g_M → g_M → Prop) (k110 : Int → Int → g_M → g_M → Prop) (k121 : Int → Int → Int → g_M → g_M → Prop) (k131 : Int → Int → Int → Int → g_M → g_M → Prop) (x8 x9 x10 x11 : Int) (M N : g_M) : Prop := k131 x8 x9 x10 (x11 + 1) M N
def F_L_close_211 (Q : g_M → g_M → Prop) (k110 : Int → Int → g_M → g_M → Prop) (k121 : Int → Int → Int → g_M → g_M → Prop) (k131 : Int → Int → Int → Int → g_M → g_M → Prop) (x8 x9 x10 x11 t0 : Int) (M N : g_M) : Prop := ((bm t0 = 0 → (F_L_close_252 Q k110 k121 k131 x8 x9 x10 x11 M N)) ∧ (¬ bm t0 = 0 → ((inI x10 14 ∧ (inI x11 14 ∧ ((bm (N 3 (bm x10).toNat) = bm (N 3 (bm x11).toNat) → (F_L_close_252 Q k110 k121 k131 x8 x9 x10 x11 M N)) ∧ (¬ bm (N 3 (bm x10).toNat) = bm (N 3 (bm x11).toNat) → ((inI x11 14 ∧ (inI x10 14 ∧ F_L_unite (fun M18 N18 => F_L_close_252 Q k110 k121 k131 x8 1 x10 x11 M18 N18) (N 3 (bm x11).toNat) (N 3 (bm x10).toNat) M N))))))))))
def F_L_close_210 (Q : g_M → g_M → Prop) (k110 : Int → Int → g_M → g_M → Prop) (k121 : Int → Int → Int → g_M → g_M → Prop) (k131 : Int → Int → Int → Int → g_M → g_M → Prop) (x8 x9 x10 x11 : Int) (M N : g_M) : Prop := F_L_close_211 Q k110 k121 k131 x8 x9 x10 x11 0 M N
def F_L_close_162 (Q : g_M → g_M → Prop) (k110 : Int → Int → g_M → g_M → Prop) (k121 : Int → Int → Int → g_M → g_M → Prop) (k131 : Int → Int → Int → Int → g_M → g_M → Prop) (x8 x9 x10 x11 t0 t1 : Int) (M N : g_M) : Prop := ((bm t0 = bm t1 → ((inI x10 14 ∧ (inI (N 1 (bm x10).toNat) 14 ∧ (inI x11 14 ∧ (inI (N 1 (bm x11).toNat) 14 ∧ ((bm (N 3 (bm (N 1 (bm x10).toNat)).toNat) = bm (N 3 (bm (N 1 (bm x11).toNat)).toNat) → ((inI x10 14 ∧ ((bm (N 2 (bm x10).toNat) < 0 → (F_L_close_211 Q k110 k121 k131 x8 x9 x10 x11 1 M N)) ∧ (¬ bm (N 2 (bm x10).toNat) < 0 → ((inI x10 14 ∧ (inI (N 2 (bm x10).toNat) 14 ∧ (inI x11 14 ∧ (inI (N 2 (bm x11).toNat) 14 ∧ ((bm (N 3 (bm (N 2 (bm x10).toNat)).toNat) = bm (N 3 (bm (N 2 (bm x11).toNat)).toNat) → (F_L_close_211 Q k110 k121 k131 x8 x9 x10 x11 1 M N)) ∧ (¬ bm (N 3 (bm (N 2 (bm x10).toNat)).toNat) = bm (N 3 (bm (N 2 (bm x11).toNat)).toNat) → (F_L_close_210 Q k110 k121 k131 x8 x9 x10 x11 M N))))))))))))) ∧ (¬ bm (N 3 (bm (N 1 (bm x10).toNat)).toNat) = bm (N 3 (bm (N 1 (bm x11).toNat)).toNat) → (F_L_close_210 Q k110 k121 k131 x8 x9 x10 x11 M N))))))))) ∧ (¬ bm t0 = bm t1 → (F_L_close_210 Q k110 k121 k131 x8 x9 x10 x11 M N)))
def F_L_close_150 (Q : g_M → g_M → Prop) (k110 : Int → Int → g_M → g_M → Prop) (k121 : Int → Int → Int → g_M → g_M → Prop) (k131 : Int → Int → Int → Int → g_M → g_M → Prop) (x8 x9 x10 x11 t0 : Int) (M N : g_M) : Prop := (inI x11 14 ∧ ((bm (N 2 (bm x11).toNat) < 0 → (F_L_close_162 Q k110 k121 k131 x8 x9 x10 x11 t0 1 M N)) ∧ (¬ bm (N 2 (bm x11).toNat) < 0 → (F_L_close_162 Q k110 k121 k131 x8 x9 x10 x11 t0 0 M N))))
def F_L_close_131 (Q : g_M → g_M → Prop) (k110 : Int → Int → g_M → g_M → Prop) (k121 : Int → Int → Int → g_M → g_M → Prop) : Nat → Int → Int → Int → Int → g_M → g_M → Prop
  | 0 => fun _ _ _ _ _ _ => False
  | n + 1 => fun x8 x9 x10 x11 M N => ((bm x11 < bm x10 → ((inI x10 14 ∧ ((bm (N 2 (bm x10).toNat) < 0 → (F_L_close_150 Q k110 k121 (F_L_close_131 Q k110 k121 n) x8 x9 x10 x11 1 M N)) ∧ (¬ bm (N 2 (bm x10).toNat) < 0 → (F_L_close_150 Q k110 k121 (F_L_close_131 Q k110 k121 n) x8 x9 x10 x11 0 M N)))))) ∧ (¬ bm x11 < bm x10 → (k121 x8 x9 (x10 + 1) M N)))
def F_L_close_121 (Q : g_M → g_M → Prop) (k110 : Int → Int → g_M → g_M → Prop) : Nat → Int → Int → Int → g_M → g_M → Prop
  | 0 => fun _ _ _ _ _ => False
  | n + 1 => fun x8 x9 x10 M N => ((bm x10 < bm x8 → (∃ n9, F_L_close_131 Q k110 (F_L_close_121 Q k110 n) n9 x8 x9 x10 3 M N)) ∧ (¬ bm x10 < bm x8 → (k110 x8 x9 M N)))
def F_L_close_110 (Q : g_M → g_M → Prop) : Nat → Int → Int → g_M → g_M → Prop
  | 0 => fun _ _ _ _ => False
  | n + 1 => fun x8 x9 M N => ((bm x9 = 0 → (Q M N)) ∧ (¬ bm x9 = 0 → (∃ n9, F_L_close_121 Q (F_L_close_110 Q n) n9 x8 0 3 M N)))
def F_L_close_67 (Q : g_M → g_M → Prop) : Nat → Int → Int → Int → Int → g_M → g_M → Prop
  | 0 => fun _ _ _ _ _ _ => False
  | n + 1 => fun x5 x6 x8 x9 M N => ((bm x9 < bm x5 → (((bm x9 = bm x6 → (F_L_close_101 Q (F_L_close_67 Q n) x5 x6 x8 x9 M N)) ∧ (¬ bm x9 = bm x6 → ((inI x9 30 ∧ (inI (N 4 (bm x9).toNat) 14 ∧ (inI x9 30 ∧ (inI (N 5 (bm x9).toNat) 14 ∧ F_L_unite (fun M6 N6 => F_L_close_101 Q (F_L_close_67 Q n) x5 x6 x8 x9 M6 N6) (N 3 (bm (N 4 (bm x9).toNat)).toNat) (N 3 (bm (N 5 (bm x9).toNat)).toNat) M N))))))))) ∧ (¬ bm x9 < bm x5 → (∃ n9, F_L_close_110 Q n9 x8 1 M N)))
def F_L_close_7 (Q : g_M → g_M → Prop) : Nat → Int → Int → Int → Int → g_M → g_M → Prop
  | 0 => fun _ _ _ _ _ _ => False
  | n + 1 => fun x5 x6 x8 x9 M N => ((bm x9 < bm x8 → ((inI x9 14 ∧ ∃ n9, F_L_close_24 Q (F_L_close_7 Q n) n9 x5 x6 x8 x9 0 M (up N 3 (bm x9).toNat x9)))) ∧ (¬ bm x9 < bm x8 → (∃ n9, F_L_close_67 Q n9 x5 x6 x8 0 M N)))
def F_L_close (Q : g_M → g_M → Prop) (a5 a6 : Int) (M N : g_M) : Prop := ∃ n9, F_L_close_7 Q n9 a5 a6 14 0 M N
def F_L_pop (Q : Int → g_M → Prop) (M : g_M) : Prop := F_X11_pop (fun v1 M1 => Q v1 M1) (fun M2 => Q (-1) M2) M
