set_option maxRecDepth 100000 in
set_option maxHeartbeats 4000000 in
/-- GroundProver$Symbols.<init>()V -/
theorem c1_X7_init (l : Launch) (D : va_G) (d : Nat → ClassId) (a0 : Nat) : ∀ sz, Met l yX7_init (g_wd yX7_init cX7_init 1 none) (g_rm 0 7 336) (va_Pc [.ref a0] (g_pr false D d [(a0, .inr (7, [.null, .null, .null, .null, .null, .null, .null, .int 0, .int 0, .int 0, .int 0]))] sz)) (q_v D (fun u : g_S => [(a0, .inr (7, [(u.2.2 0 0), (u.2.2 0 1), (u.2.2 0 2), (u.2.2 0 3), (u.2.2 0 4), (u.2.2 0 5), (u.2.2 0 6), .int 0, .int 0, .int 0, .int 0]))]) (va_A [(a0, .inr (7, [.null, .null, .null, .null, .null, .null, .null, .int 0, .int 0, .int 0, .int 0]))] sz)) 7 336 (va_A [(a0, .inr (7, [.null, .null, .null, .null, .null, .null, .null, .int 0, .int 0, .int 0, .int 0]))] sz) := by
  refine s_met (y := yX7_init) (cc := cX7_init) (maxL := 1) (ret := none) (rm := (g_rm 0 7 336)) (mc := 7) (ms := 336) (E := false) (W0 := [(a0, .inr (7, [.null, .null, .null, .null, .null, .null, .null, .int 0, .int 0, .int 0, .int 0]))]) (av := [.ref a0]) (Qf := fun A => q_v D (fun u : g_S => [(a0, .inr (7, [(u.2.2 0 0), (u.2.2 0 1), (u.2.2 0 2), (u.2.2 0 3), (u.2.2 0 4), (u.2.2 0 5), (u.2.2 0 6), .int 0, .int 0, .int 0, .int 0]))]) A) pn_X7 (Nat.le_of_ble_eq_true rfl) [(0, .ref a0)] rfl (fun p e s m below meth c A C hr hlocks hin hEx => ?_)
  refine v_aload_n C dX7_init_0 rfl 0 rfl ?_
  refine v_objInit C k9 k4 k5 dX7_init_1 (Nat.le_of_ble_eq_true rfl) (Nat.le_of_ble_eq_true rfl) ?_
  refine v_aload_n C dX7_init_4 rfl 0 rfl ?_
  refine v_sipush (v := 192) C dX7_init_5 (by decide +kernel) ?_
  refine v_newaD C (atype := .byte) (ty := .byte) 1 rfl rfl ka_byte 192 (192, .inl (fun _ => 0)) (fun _ => rfl) (by decide +kernel) (by decide +kernel) (Nat.le_of_ble_eq_true rfl) (Nat.le_of_ble_eq_true rfl) (Nat.le_of_ble_eq_true rfl) dX7_init_8 (fun q3 => ?_)
  refine v_putF C hin EX7 0 rfl rfl 0 (by decide) k10 rfl rfl rfl rfl (Nat.le_of_ble_eq_true rfl) [(a0, .inr (7, [.ref q3, .null, .null, .null, .null, .null, .null, .int 0, .int 0, .int 0, .int 0]))] rfl dX7_init_10 ?_
  refine v_aload_n C dX7_init_13 rfl 0 rfl ?_
  refine v_bipush (v := 24) C dX7_init_14 (by decide +kernel) ?_
  refine v_newaD C (atype := .int) (ty := .int) 0 rfl rfl ka_int 24 (24, .inl (fun _ => 0)) (fun _ => rfl) (by decide +kernel) (by decide +kernel) (Nat.le_of_ble_eq_true rfl) (Nat.le_of_ble_eq_true rfl) (Nat.le_of_ble_eq_true rfl) dX7_init_16 (fun q4 => ?_)
  refine v_putF C hin EX7 0 rfl rfl 1 (by decide) k11 rfl rfl rfl rfl (Nat.le_of_ble_eq_true rfl) [(a0, .inr (7, [.ref q3, .ref q4, .null, .null, .null, .null, .null, .int 0, .int 0, .int 0, .int 0]))] rfl dX7_init_18 ?_
  refine v_aload_n C dX7_init_21 rfl 0 rfl ?_
  refine v_bipush (v := 24) C dX7_init_22 (by decide +kernel) ?_
  refine v_newaD C (atype := .int) (ty := .int) 0 rfl rfl ka_int 24 (24, .inl (fun _ => 0)) (fun _ => rfl) (by decide +kernel) (by decide +kernel) (Nat.le_of_ble_eq_true rfl) (Nat.le_of_ble_eq_true rfl) (Nat.le_of_ble_eq_true rfl) dX7_init_24 (fun q5 => ?_)
  refine v_putF C hin EX7 0 rfl rfl 2 (by decide) k12 rfl rfl rfl rfl (Nat.le_of_ble_eq_true rfl) [(a0, .inr (7, [.ref q3, .ref q4, .ref q5, .null, .null, .null, .null, .int 0, .int 0, .int 0, .int 0]))] rfl dX7_init_26 ?_
  refine v_aload_n C dX7_init_29 rfl 0 rfl ?_
  refine v_bipush (v := 24) C dX7_init_30 (by decide +kernel) ?_
  refine v_newaD C (atype := .int) (ty := .int) 0 rfl rfl ka_int 24 (24, .inl (fun _ => 0)) (fun _ => rfl) (by decide +kernel) (by decide +kernel) (Nat.le_of_ble_eq_true rfl) (Nat.le_of_ble_eq_true rfl) (Nat.le_of_ble_eq_true rfl) dX7_init_32 (fun q6 => ?_)
  refine v_putF C hin EX7 0 rfl rfl 3 (by decide) k13 rfl rfl rfl rfl (Nat.le_of_ble_eq_true rfl) [(a0, .inr (7, [.ref q3, .ref q4, .ref q5, .ref q6, .null, .null, .null, .int 0, .int 0, .int 0, .int 0]))] rfl dX7_init_34 ?_
  refine v_aload_n C dX7_init_37 rfl 0 rfl ?_
  refine v_bipush (v := 24) C dX7_init_38 (by decide +kernel) ?_
  refine v_newaD C (atype := .int) (ty := .int) 0 rfl rfl ka_int 24 (24, .inl (fun _ => 0)) (fun _ => rfl) (by decide +kernel) (by decide +kernel) (Nat.le_of_ble_eq_true rfl) (Nat.le_of_ble_eq_true rfl) (Nat.le_of_ble_eq_true rfl) dX7_init_40 (fun q7 => ?_)
  refine v_putF C hin EX7 0 rfl rfl 4 (by decide) k14 rfl rfl rfl rfl (Nat.le_of_ble_eq_true rfl) [(a0, .inr (7, [.ref q3, .ref q4, .ref q5, .ref q6, .ref q7, .null, .null, .int 0, .int 0, .int 0, .int 0]))] rfl dX7_init_42 ?_
  refine v_aload_n C dX7_init_45 rfl 0 rfl ?_
  refine v_bipush (v := 24) C dX7_init_46 (by decide +kernel) ?_
  refine v_newaD C (atype := .int) (ty := .int) 0 rfl rfl ka_int 24 (24, .inl (fun _ => 0)) (fun _ => rfl) (by decide +kernel) (by decide +kernel) (Nat.le_of_ble_eq_true rfl) (Nat.le_of_ble_eq_true rfl) (Nat.le_of_ble_eq_true rfl) dX7_init_48 (fun q8 => ?_)
  refine v_putF C hin EX7 0 rfl rfl 5 (by decide) k15 rfl rfl rfl rfl (Nat.le_of_ble_eq_true rfl) [(a0, .inr (7, [.ref q3, .ref q4, .ref q5, .ref q6, .ref q7, .ref q8, .null, .int 0, .int 0, .int 0, .int 0]))] rfl dX7_init_50 ?_
  refine v_aload_n C dX7_init_53 rfl 0 rfl ?_
  refine v_bipush (v := 24) C dX7_init_54 (by decide +kernel) ?_
  refine v_newaD C (atype := .boolean) (ty := .boolean) 2 rfl rfl ka_boolean 24 (24, .inl (fun _ => 0)) (fun _ => rfl) (by decide +kernel) (by decide +kernel) (Nat.le_of_ble_eq_true rfl) (Nat.le_of_ble_eq_true rfl) (Nat.le_of_ble_eq_true rfl) dX7_init_56 (fun q9 => ?_)
  refine v_putF C hin EX7 0 rfl rfl 6 (by decide) k16 rfl rfl rfl rfl (Nat.le_of_ble_eq_true rfl) [(a0, .inr (7, [.ref q3, .ref q4, .ref q5, .ref q6, .ref q7, .ref q8, .ref q9, .int 0, .int 0, .int 0, .int 0]))] rfl dX7_init_58 ?_
  exact v_return C (S := g_S) ((fun _ => 0, fun _ _ => 0, fun i => [(fun k => vp_V [.ref q3, .ref q4, .ref q5, .ref q6, .ref q7, .ref q8, .ref q9, .int 0, .int 0, .int 0, .int 0] k)].getD i (fun _ => .null)) : g_S) hr hlocks [0] rfl rfl (Nat.le_of_ble_eq_true rfl) (Nat.le_of_ble_eq_true rfl) dX7_init_61

set_option maxRecDepth 100000 in
set_option maxHeartbeats 4000000 in
/-- GroundProver$Row.<init>(I)V -/
theorem c3_X6_init (l : Launch) (D : va_G) (d : Nat → ClassId) (a0 : Nat) : ∀ sz, Met l yX6_init (g_wd yX6_init cX6_init 2 none) (g_rm 0 1 513) (va_Pc [.ref a0, .int 524288] (g_pr false D d [(a0, .inr (6, [.null]))] sz)) (q_v D (fun u : g_S => [(a0, .inr (6, [(u.2.2 0 0)]))]) (va_A [(a0, .inr (6, [.null]))] sz)) 1 513 (va_A [(a0, .inr (6, [.null]))] sz) := by
  refine s_met (y := yX6_init) (cc := cX6_init) (maxL := 2) (ret := none) (rm := (g_rm 0 1 513)) (mc := 1) (ms := 513) (E := false) (W0 := [(a0, .inr (6, [.null]))]) (av := [.ref a0, .int 524288]) (Qf := fun A => q_v D (fun u : g_S => [(a0, .inr (6, [(u.2.2 0 0)]))]) A) pn_X6 (Nat.le_of_ble_eq_true rfl) [(0, .ref a0), (1, .int 524288)] rfl (fun p e s m below meth c A C hr hlocks hin hEx => ?_)
  refine v_aload_n C dX6_init_0 rfl 0 rfl ?_
  refine v_objInit C k28 k4 k5 dX6_init_1 (Nat.le_of_ble_eq_true rfl) (Nat.le_of_ble_eq_true rfl) ?_
  refine v_aload_n C dX6_init_4 rfl 0 rfl ?_
  refine v_iload_n C dX6_init_5 rfl 1 rfl ?_
  refine v_iconst (v := 0) C dX6_init_6 (by decide +kernel) ?_
  refine v_mmax C 524288 k29 k30 k31 k32 (Nat.le_of_ble_eq_true rfl) (Nat.le_of_ble_eq_true rfl) (Nat.le_of_ble_eq_true rfl) (Nat.le_of_ble_eq_true rfl) dX6_init_7 (by decide +kernel) ?_
  refine v_bipush (v := 10) C dX6_init_10 (by decide +kernel) ?_
  refine v_ishr C 512 dX6_init_12 (by decide +kernel) ?_
  refine v_iconst (v := 1) C dX6_init_13 (by decide +kernel) ?_
  refine v_iadd C 513 dX6_init_14 (by decide +kernel) ?_
  refine v_anewI C 513 k33 (by decide +kernel) (by decide +kernel) (Nat.le_of_ble_eq_true rfl) (Nat.le_of_ble_eq_true rfl) (Nat.le_of_ble_eq_true rfl) dX6_init_15 (fun q12 => ?_)
  refine v_putF C hin EX6 0 rfl rfl 0 (by decide) k34 rfl rfl rfl rfl (Nat.le_of_ble_eq_true rfl) [(a0, .inr (6, [.ref q12]))] rfl dX6_init_18 ?_
  exact v_return C (S := g_S) ((fun _ => 0, fun _ _ => 0, fun i => [(fun k => vp_V [.ref q12] k)].getD i (fun _ => .null)) : g_S) hr hlocks [0] rfl rfl (Nat.le_of_ble_eq_true rfl) (Nat.le_of_ble_eq_true rfl) dX6_init_21

set_option maxRecDepth 100000 in
set_option maxHeartbeats 4000000 in
/-- GroundProver$Row.<init>(I)V -/
theorem c4_X6_init (l : Launch) (D : va_G) (d : Nat → ClassId) (a0 : Nat) : ∀ sz, Met l yX6_init (g_wd yX6_init cX6_init 2 none) (g_rm 0 1 1537) (va_Pc [.ref a0, .int 1572864] (g_pr false D d [(a0, .inr (6, [.null]))] sz)) (q_v D (fun u : g_S => [(a0, .inr (6, [(u.2.2 0 0)]))]) (va_A [(a0, .inr (6, [.null]))] sz)) 1 1537 (va_A [(a0, .inr (6, [.null]))] sz) := by
  refine s_met (y := yX6_init) (cc := cX6_init) (maxL := 2) (ret := none) (rm := (g_rm 0 1 1537)) (mc := 1) (ms := 1537) (E := false) (W0 := [(a0, .inr (6, [.null]))]) (av := [.ref a0, .int 1572864]) (Qf := fun A => q_v D (fun u : g_S => [(a0, .inr (6, [(u.2.2 0 0)]))]) A) pn_X6 (Nat.le_of_ble_eq_true rfl) [(0, .ref a0), (1, .int 1572864)] rfl (fun p e s m below meth c A C hr hlocks hin hEx => ?_)
  refine v_aload_n C dX6_init_0 rfl 0 rfl ?_
  refine v_objInit C k28 k4 k5 dX6_init_1 (Nat.le_of_ble_eq_true rfl) (Nat.le_of_ble_eq_true rfl) ?_
  refine v_aload_n C dX6_init_4 rfl 0 rfl ?_
  refine v_iload_n C dX6_init_5 rfl 1 rfl ?_
  refine v_iconst (v := 0) C dX6_init_6 (by decide +kernel) ?_
  refine v_mmax C 1572864 k29 k30 k31 k32 (Nat.le_of_ble_eq_true rfl) (Nat.le_of_ble_eq_true rfl) (Nat.le_of_ble_eq_true rfl) (Nat.le_of_ble_eq_true rfl) dX6_init_7 (by decide +kernel) ?_
  refine v_bipush (v := 10) C dX6_init_10 (by decide +kernel) ?_
  refine v_ishr C 1536 dX6_init_12 (by decide +kernel) ?_
  refine v_iconst (v := 1) C dX6_init_13 (by decide +kernel) ?_
  refine v_iadd C 1537 dX6_init_14 (by decide +kernel) ?_
  refine v_anewI C 1537 k33 (by decide +kernel) (by decide +kernel) (Nat.le_of_ble_eq_true rfl) (Nat.le_of_ble_eq_true rfl) (Nat.le_of_ble_eq_true rfl) dX6_init_15 (fun q14 => ?_)
  refine v_putF C hin EX6 0 rfl rfl 0 (by decide) k34 rfl rfl rfl rfl (Nat.le_of_ble_eq_true rfl) [(a0, .inr (6, [.ref q14]))] rfl dX6_init_18 ?_
  exact v_return C (S := g_S) ((fun _ => 0, fun _ _ => 0, fun i => [(fun k => vp_V [.ref q14] k)].getD i (fun _ => .null)) : g_S) hr hlocks [0] rfl rfl (Nat.le_of_ble_eq_true rfl) (Nat.le_of_ble_eq_true rfl) dX6_init_21

set_option maxRecDepth 100000 in
set_option maxHeartbeats 4000000 in
/-- GroundProver$Row.<init>(I)V -/
theorem c5_X6_init (l : Launch) (D : va_G) (d : Nat → ClassId) (a0 : Nat) : ∀ sz, Met l yX6_init (g_wd yX6_init cX6_init 2 none) (g_rm 0 1 33) (va_Pc [.ref a0, .int 32768] (g_pr false D d [(a0, .inr (6, [.null]))] sz)) (q_v D (fun u : g_S => [(a0, .inr (6, [(u.2.2 0 0)]))]) (va_A [(a0, .inr (6, [.null]))] sz)) 1 33 (va_A [(a0, .inr (6, [.null]))] sz) := by
  refine s_met (y := yX6_init) (cc := cX6_init) (maxL := 2) (ret := none) (rm := (g_rm 0 1 33)) (mc := 1) (ms := 33) (E := false) (W0 := [(a0, .inr (6, [.null]))]) (av := [.ref a0, .int 32768]) (Qf := fun A => q_v D (fun u : g_S => [(a0, .inr (6, [(u.2.2 0 0)]))]) A) pn_X6 (Nat.le_of_ble_eq_true rfl) [(0, .ref a0), (1, .int 32768)] rfl (fun p e s m below meth c A C hr hlocks hin hEx => ?_)
  refine v_aload_n C dX6_init_0 rfl 0 rfl ?_
  refine v_objInit C k28 k4 k5 dX6_init_1 (Nat.le_of_ble_eq_true rfl) (Nat.le_of_ble_eq_true rfl) ?_
  refine v_aload_n C dX6_init_4 rfl 0 rfl ?_
  refine v_iload_n C dX6_init_5 rfl 1 rfl ?_
  refine v_iconst (v := 0) C dX6_init_6 (by decide +kernel) ?_
  refine v_mmax C 32768 k29 k30 k31 k32 (Nat.le_of_ble_eq_true rfl) (Nat.le_of_ble_eq_true rfl) (Nat.le_of_ble_eq_true rfl) (Nat.le_of_ble_eq_true rfl) dX6_init_7 (by decide +kernel) ?_
  refine v_bipush (v := 10) C dX6_init_10 (by decide +kernel) ?_
  refine v_ishr C 32 dX6_init_12 (by decide +kernel) ?_
  refine v_iconst (v := 1) C dX6_init_13 (by decide +kernel) ?_
  refine v_iadd C 33 dX6_init_14 (by decide +kernel) ?_
  refine v_anewI C 33 k33 (by decide +kernel) (by decide +kernel) (Nat.le_of_ble_eq_true rfl) (Nat.le_of_ble_eq_true rfl) (Nat.le_of_ble_eq_true rfl) dX6_init_15 (fun q22 => ?_)
  refine v_putF C hin EX6 0 rfl rfl 0 (by decide) k34 rfl rfl rfl rfl (Nat.le_of_ble_eq_true rfl) [(a0, .inr (6, [.ref q22]))] rfl dX6_init_18 ?_
  exact v_return C (S := g_S) ((fun _ => 0, fun _ _ => 0, fun i => [(fun k => vp_V [.ref q22] k)].getD i (fun _ => .null)) : g_S) hr hlocks [0] rfl rfl (Nat.le_of_ble_eq_true rfl) (Nat.le_of_ble_eq_true rfl) dX6_init_21

set_option maxRecDepth 100000 in
set_option maxHeartbeats 4000000 in
/-- GroundProver$TermStore.<init>(LGroundProver$Symbols;)V -/
theorem c2_X8_init (l : Launch) (D : va_G) (d : Nat → ClassId) (a0 : Nat) (a1 : Nat) : ∀ sz, Met l yX8_init (g_wd yX8_init cX8_init 2 none) (g_rm 1 13 4396) (va_Pc [.ref a0, .ref a1] (g_pr false D d [(a0, .inr (8, [.null, .null, .null, .null, .null, .null, .null, .null, .int 0, .int 0, .int 0, .int 0, .int 0]))] sz)) (q_v D (fun u : g_S => [(a0, .inr (8, [.ref a1, (u.2.2 0 1), (u.2.2 0 2), (u.2.2 0 3), (u.2.2 0 4), (u.2.2 0 5), (u.2.2 0 6), (u.2.2 0 7), .int 0, .int 0, .int 0, .int 0, .int 4096]))]) (va_A [(a0, .inr (8, [.null, .null, .null, .null, .null, .null, .null, .null, .int 0, .int 0, .int 0, .int 0, .int 0]))] sz)) 13 4396 (va_A [(a0, .inr (8, [.null, .null, .null, .null, .null, .null, .null, .null, .int 0, .int 0, .int 0, .int 0, .int 0]))] sz) := by
  refine s_met (y := yX8_init) (cc := cX8_init) (maxL := 2) (ret := none) (rm := (g_rm 1 13 4396)) (mc := 13) (ms := 4396) (E := false) (W0 := [(a0, .inr (8, [.null, .null, .null, .null, .null, .null, .null, .null, .int 0, .int 0, .int 0, .int 0, .int 0]))]) (av := [.ref a0, .ref a1]) (Qf := fun A => q_v D (fun u : g_S => [(a0, .inr (8, [.ref a1, (u.2.2 0 1), (u.2.2 0 2), (u.2.2 0 3), (u.2.2 0 4), (u.2.2 0 5), (u.2.2 0 6), (u.2.2 0 7), .int 0, .int 0, .int 0, .int 0, .int 4096]))]) A) pn_X8 (Nat.le_of_ble_eq_true rfl) [(0, .ref a0), (1, .ref a1)] rfl (fun p e s m below meth c A C hr hlocks hin hEx => ?_)
  refine v_aload_n C dX8_init_0 rfl 0 rfl ?_
  refine v_objInit C k23 k4 k5 dX8_init_1 (Nat.le_of_ble_eq_true rfl) (Nat.le_of_ble_eq_true rfl) ?_
  refine v_aload_n C dX8_init_4 rfl 0 rfl ?_
  refine v_new C EX6 rfl [.null] zX6 k24 k25 k26 (Nat.le_of_ble_eq_true rfl) (Nat.le_of_ble_eq_true rfl) (fun q11 => [(a0, .inr (8, [.null, .null, .null, .null, .null, .null, .null, .null, .int 0, .int 0, .int 0, .int 0, .int 0])), (q11, .inr (6, [.null]))]) (fun _ => rfl) dX8_init_5 (fun q11 => ?_)
  refine v_dup C dX8_init_8 rfl ?_
  refine v_ldc C dX8_init_9 k27 ?_
  refine v_callI C FX6_init k37 rfl k35 (c3_X6_init l D d q11) (fun h => nomatch h) (wr := [(a0, .inr (8, [.null, .null, .null, .null, .null, .null, .null, .null, .int 0, .int 0, .int 0, .int 0, .int 0]))]) (rest := [.ref q11, .ref a0]) [1] [0] rfl rfl rfl rfl (by decide) ⟨rfl, rfl⟩ ⟨Nat.le_of_ble_eq_true rfl, Nat.le_of_ble_eq_true rfl⟩ ⟨Nat.le_of_ble_eq_true rfl, Nat.le_of_ble_eq_true rfl⟩ (Nat.le_of_ble_eq_true rfl) rfl rfl (fun u1 => [(a0, .inr (8, [.null, .null, .null, .null, .null, .null, .null, .null, .int 0, .int 0, .int 0, .int 0, .int 0])), (q11, .inr (6, [(u1.2.2 0 0)]))]) (fun _ => rfl) dX8_init_11 (fun u1 => ?_)
  refine v_sub (ws' := [(a0, .inr (8, [.null, .null, .null, .null, .null, .null, .null, .null, .int 0, .int 0, .int 0, .int 0, .int 0]))]) [0] rfl rfl ?_
  refine v_putF C hin EX8 0 rfl rfl 1 (by decide) k38 rfl rfl rfl rfl (Nat.le_of_ble_eq_true rfl) [(a0, .inr (8, [.null, .ref q11, .null, .null, .null, .null, .null, .null, .int 0, .int 0, .int 0, .int 0, .int 0]))] rfl dX8_init_14 ?_
  refine v_aload_n C dX8_init_17 rfl 0 rfl ?_
  refine v_new C EX6 rfl [.null] zX6 k24 k25 k26 (Nat.le_of_ble_eq_true rfl) (Nat.le_of_ble_eq_true rfl) (fun q13 => [(a0, .inr (8, [.null, .ref q11, .null, .null, .null, .null, .null, .null, .int 0, .int 0, .int 0, .int 0, .int 0])), (q13, .inr (6, [.null]))]) (fun _ => rfl) dX8_init_18 (fun q13 => ?_)
  refine v_dup C dX8_init_21 rfl ?_
  refine v_ldc C dX8_init_22 k39 ?_
  refine v_callI C FX6_init k37 rfl k35 (c4_X6_init l D d q13) (fun h => nomatch h) (wr := [(a0, .inr (8, [.null, .ref q11, .null, .null, .null, .null, .null, .null, .int 0, .int 0, .int 0, .int 0, .int 0]))]) (rest := [.ref q13, .ref a0]) [1] [0] rfl rfl rfl rfl (by decide) ⟨rfl, rfl⟩ ⟨Nat.le_of_ble_eq_true rfl, Nat.le_of_ble_eq_true rfl⟩ ⟨Nat.le_of_ble_eq_true rfl, Nat.le_of_ble_eq_true rfl⟩ (Nat.le_of_ble_eq_true rfl) rfl rfl (fun u2 => [(a0, .inr (8, [.null, .ref q11, .null, .null, .null, .null, .null, .null, .int 0, .int 0, .int 0, .int 0, .int 0])), (q13, .inr (6, [(u2.2.2 0 0)]))]) (fun _ => rfl) dX8_init_24 (fun u2 => ?_)
  refine v_sub (ws' := [(a0, .inr (8, [.null, .ref q11, .null, .null, .null, .null, .null, .null, .int 0, .int 0, .int 0, .int 0, .int 0]))]) [0] rfl rfl ?_
  refine v_putF C hin EX8 0 rfl rfl 2 (by decide) k40 rfl rfl rfl rfl (Nat.le_of_ble_eq_true rfl) [(a0, .inr (8, [.null, .ref q11, .ref q13, .null, .null, .null, .null, .null, .int 0, .int 0, .int 0, .int 0, .int 0]))] rfl dX8_init_27 ?_
  refine v_aload_n C dX8_init_30 rfl 0 rfl ?_
  refine v_new C EX6 rfl [.null] zX6 k24 k25 k26 (Nat.le_of_ble_eq_true rfl) (Nat.le_of_ble_eq_true rfl) (fun q15 => [(a0, .inr (8, [.null, .ref q11, .ref q13, .null, .null, .null, .null, .null, .int 0, .int 0, .int 0, .int 0, .int 0])), (q15, .inr (6, [.null]))]) (fun _ => rfl) dX8_init_31 (fun q15 => ?_)
  refine v_dup C dX8_init_34 rfl ?_
  refine v_ldc C dX8_init_35 k27 ?_
  refine v_callI C FX6_init k37 rfl k35 (c3_X6_init l D d q15) (fun h => nomatch h) (wr := [(a0, .inr (8, [.null, .ref q11, .ref q13, .null, .null, .null, .null, .null, .int 0, .int 0, .int 0, .int 0, .int 0]))]) (rest := [.ref q15, .ref a0]) [1] [0] rfl rfl rfl rfl (by decide) ⟨rfl, rfl⟩ ⟨Nat.le_of_ble_eq_true rfl, Nat.le_of_ble_eq_true rfl⟩ ⟨Nat.le_of_ble_eq_true rfl, Nat.le_of_ble_eq_true rfl⟩ (Nat.le_of_ble_eq_true rfl) rfl rfl (fun u3 => [(a0, .inr (8, [.null, .ref q11, .ref q13, .null, .null, .null, .null, .null, .int 0, .int 0, .int 0, .int 0, .int 0])), (q15, .inr (6, [(u3.2.2 0 0)]))]) (fun _ => rfl) dX8_init_37 (fun u3 => ?_)
  refine v_sub (ws' := [(a0, .inr (8, [.null, .ref q11, .ref q13, .null, .null, .null, .null, .null, .int 0, .int 0, .int 0, .int 0, .int 0]))]) [0] rfl rfl ?_
  refine v_putF C hin EX8 0 rfl rfl 3 (by decide) k41 rfl rfl rfl rfl (Nat.le_of_ble_eq_true rfl) [(a0, .inr (8, [.null, .ref q11, .ref q13, .ref q15, .null, .null, .null, .null, .int 0, .int 0, .int 0, .int 0, .int 0]))] rfl dX8_init_40 ?_
  refine v_aload_n C dX8_init_43 rfl 0 rfl ?_
  refine v_new C EX6 rfl [.null] zX6 k24 k25 k26 (Nat.le_of_ble_eq_true rfl) (Nat.le_of_ble_eq_true rfl) (fun q17 => [(a0, .inr (8, [.null, .ref q11, .ref q13, .ref q15, .null, .null, .null, .null, .int 0, .int 0, .int 0, .int 0, .int 0])), (q17, .inr (6, [.null]))]) (fun _ => rfl) dX8_init_44 (fun q17 => ?_)
  refine v_dup C dX8_init_47 rfl ?_
  refine v_ldc C dX8_init_48 k27 ?_
  refine v_callI C FX6_init k37 rfl k35 (c3_X6_init l D d q17) (fun h => nomatch h) (wr := [(a0, .inr (8, [.null, .ref q11, .ref q13, .ref q15, .null, .null, .null, .null, .int 0, .int 0, .int 0, .int 0, .int 0]))]) (rest := [.ref q17, .ref a0]) [1] [0] rfl rfl rfl rfl (by decide) ⟨rfl, rfl⟩ ⟨Nat.le_of_ble_eq_true rfl, Nat.le_of_ble_eq_true rfl⟩ ⟨Nat.le_of_ble_eq_true rfl, Nat.le_of_ble_eq_true rfl⟩ (Nat.le_of_ble_eq_true rfl) rfl rfl (fun u4 => [(a0, .inr (8, [.null, .ref q11, .ref q13, .ref q15, .null, .null, .null, .null, .int 0, .int 0, .int 0, .int 0, .int 0])), (q17, .inr (6, [(u4.2.2 0 0)]))]) (fun _ => rfl) dX8_init_50 (fun u4 => ?_)
  refine v_sub (ws' := [(a0, .inr (8, [.null, .ref q11, .ref q13, .ref q15, .null, .null, .null, .null, .int 0, .int 0, .int 0, .int 0, .int 0]))]) [0] rfl rfl ?_
  refine v_putF C hin EX8 0 rfl rfl 4 (by decide) k42 rfl rfl rfl rfl (Nat.le_of_ble_eq_true rfl) [(a0, .inr (8, [.null, .ref q11, .ref q13, .ref q15, .ref q17, .null, .null, .null, .int 0, .int 0, .int 0, .int 0, .int 0]))] rfl dX8_init_53 ?_
  refine v_aload_n C dX8_init_56 rfl 0 rfl ?_
  refine v_new C EX6 rfl [.null] zX6 k24 k25 k26 (Nat.le_of_ble_eq_true rfl) (Nat.le_of_ble_eq_true rfl) (fun q19 => [(a0, .inr (8, [.null, .ref q11, .ref q13, .ref q15, .ref q17, .null, .null, .null, .int 0, .int 0, .int 0, .int 0, .int 0])), (q19, .inr (6, [.null]))]) (fun _ => rfl) dX8_init_57 (fun q19 => ?_)
  refine v_dup C dX8_init_60 rfl ?_
  refine v_ldc C dX8_init_61 k27 ?_
  refine v_callI C FX6_init k37 rfl k35 (c3_X6_init l D d q19) (fun h => nomatch h) (wr := [(a0, .inr (8, [.null, .ref q11, .ref q13, .ref q15, .ref q17, .null, .null, .null, .int 0, .int 0, .int 0, .int 0, .int 0]))]) (rest := [.ref q19, .ref a0]) [1] [0] rfl rfl rfl rfl (by decide) ⟨rfl, rfl⟩ ⟨Nat.le_of_ble_eq_true rfl, Nat.le_of_ble_eq_true rfl⟩ ⟨Nat.le_of_ble_eq_true rfl, Nat.le_of_ble_eq_true rfl⟩ (Nat.le_of_ble_eq_true rfl) rfl rfl (fun u5 => [(a0, .inr (8, [.null, .ref q11, .ref q13, .ref q15, .ref q17, .null, .null, .null, .int 0, .int 0, .int 0, .int 0, .int 0])), (q19, .inr (6, [(u5.2.2 0 0)]))]) (fun _ => rfl) dX8_init_63 (fun u5 => ?_)
  refine v_sub (ws' := [(a0, .inr (8, [.null, .ref q11, .ref q13, .ref q15, .ref q17, .null, .null, .null, .int 0, .int 0, .int 0, .int 0, .int 0]))]) [0] rfl rfl ?_
  refine v_putF C hin EX8 0 rfl rfl 5 (by decide) k43 rfl rfl rfl rfl (Nat.le_of_ble_eq_true rfl) [(a0, .inr (8, [.null, .ref q11, .ref q13, .ref q15, .ref q17, .ref q19, .null, .null, .int 0, .int 0, .int 0, .int 0, .int 0]))] rfl dX8_init_66 ?_
  refine v_aload_n C dX8_init_69 rfl 0 rfl ?_
  refine v_new C EX6 rfl [.null] zX6 k24 k25 k26 (Nat.le_of_ble_eq_true rfl) (Nat.le_of_ble_eq_true rfl) (fun q21 => [(a0, .inr (8, [.null, .ref q11, .ref q13, .ref q15, .ref q17, .ref q19, .null, .null, .int 0, .int 0, .int 0, .int 0, .int 0])), (q21, .inr (6, [.null]))]) (fun _ => rfl) dX8_init_70 (fun q21 => ?_)
  refine v_dup C dX8_init_73 rfl ?_
  refine v_ldc C dX8_init_74 k44 ?_
  refine v_callI C FX6_init k37 rfl k35 (c5_X6_init l D d q21) (fun h => nomatch h) (wr := [(a0, .inr (8, [.null, .ref q11, .ref q13, .ref q15, .ref q17, .ref q19, .null, .null, .int 0, .int 0, .int 0, .int 0, .int 0]))]) (rest := [.ref q21, .ref a0]) [1] [0] rfl rfl rfl rfl (by decide) ⟨rfl, rfl⟩ ⟨Nat.le_of_ble_eq_true rfl, Nat.le_of_ble_eq_true rfl⟩ ⟨Nat.le_of_ble_eq_true rfl, Nat.le_of_ble_eq_true rfl⟩ (Nat.le_of_ble_eq_true rfl) rfl rfl (fun u6 => [(a0, .inr (8, [.null, .ref q11, .ref q13, .ref q15, .ref q17, .ref q19, .null, .null, .int 0, .int 0, .int 0, .int 0, .int 0])), (q21, .inr (6, [(u6.2.2 0 0)]))]) (fun _ => rfl) dX8_init_76 (fun u6 => ?_)
  refine v_sub (ws' := [(a0, .inr (8, [.null, .ref q11, .ref q13, .ref q15, .ref q17, .ref q19, .null, .null, .int 0, .int 0, .int 0, .int 0, .int 0]))]) [0] rfl rfl ?_
  refine v_putF C hin EX8 0 rfl rfl 6 (by decide) k45 rfl rfl rfl rfl (Nat.le_of_ble_eq_true rfl) [(a0, .inr (8, [.null, .ref q11, .ref q13, .ref q15, .ref q17, .ref q19, .ref q21, .null, .int 0, .int 0, .int 0, .int 0, .int 0]))] rfl dX8_init_79 ?_
  refine v_aload_n C dX8_init_82 rfl 0 rfl ?_
  refine v_sipush (v := 768) C dX8_init_83 (by decide +kernel) ?_
  refine v_newaD C (atype := .int) (ty := .int) 0 rfl rfl ka_int 768 (768, .inl (fun _ => 0)) (fun _ => rfl) (by decide +kernel) (by decide +kernel) (Nat.le_of_ble_eq_true rfl) (Nat.le_of_ble_eq_true rfl) (Nat.le_of_ble_eq_true rfl) dX8_init_86 (fun q23 => ?_)
  refine v_putF C hin EX8 0 rfl rfl 7 (by decide) k46 rfl rfl rfl rfl (Nat.le_of_ble_eq_true rfl) [(a0, .inr (8, [.null, .ref q11, .ref q13, .ref q15, .ref q17, .ref q19, .ref q21, .ref q23, .int 0, .int 0, .int 0, .int 0, .int 0]))] rfl dX8_init_88 ?_
  refine v_aload_n C dX8_init_91 rfl 0 rfl ?_
  refine v_sipush (v := 4096) C dX8_init_92 (by decide +kernel) ?_
  refine v_put C EX8 0 rfl rfl 12 (by decide) k47 rfl rfl rfl (Nat.le_of_ble_eq_true rfl) [(a0, .inr (8, [.null, .ref q11, .ref q13, .ref q15, .ref q17, .ref q19, .ref q21, .ref q23, .int 0, .int 0, .int 0, .int 0, .int 4096]))] rfl dX8_init_95 ?_
  refine v_aload_n C dX8_init_98 rfl 0 rfl ?_
  refine v_aload_n C dX8_init_99 rfl 1 rfl ?_
  refine v_putF C hin EX8 0 rfl rfl 0 (by decide) k48 rfl rfl rfl rfl (Nat.le_of_ble_eq_true rfl) [(a0, .inr (8, [.ref a1, .ref q11, .ref q13, .ref q15, .ref q17, .ref q19, .ref q21, .ref q23, .int 0, .int 0, .int 0, .int 0, .int 4096]))] rfl dX8_init_100 ?_
  exact v_return C (S := g_S) ((fun _ => 0, fun _ _ => 0, fun i => [(fun k => vp_V [.ref a1, .ref q11, .ref q13, .ref q15, .ref q17, .ref q19, .ref q21, .ref q23, .int 0, .int 0, .int 0, .int 0, .int 4096] k)].getD i (fun _ => .null)) : g_S) hr hlocks [0] rfl rfl (Nat.le_of_ble_eq_true rfl) (Nat.le_of_ble_eq_true rfl) dX8_init_103

set_option maxRecDepth 100000 in
set_option maxHeartbeats 4000000 in
/-- GroundProver$Row.<init>(I)V -/
theorem c7_X6_init (l : Launch) (D : va_G) (d : Nat → ClassId) (a0 : Nat) : ∀ sz, Met l yX6_init (g_wd yX6_init cX6_init 2 none) (g_rm 0 1 129) (va_Pc [.ref a0, .int 131072] (g_pr false D d [(a0, .inr (6, [.null]))] sz)) (q_v D (fun u : g_S => [(a0, .inr (6, [(u.2.2 0 0)]))]) (va_A [(a0, .inr (6, [.null]))] sz)) 1 129 (va_A [(a0, .inr (6, [.null]))] sz) := by
  refine s_met (y := yX6_init) (cc := cX6_init) (maxL := 2) (ret := none) (rm := (g_rm 0 1 129)) (mc := 1) (ms := 129) (E := false) (W0 := [(a0, .inr (6, [.null]))]) (av := [.ref a0, .int 131072]) (Qf := fun A => q_v D (fun u : g_S => [(a0, .inr (6, [(u.2.2 0 0)]))]) A) pn_X6 (Nat.le_of_ble_eq_true rfl) [(0, .ref a0), (1, .int 131072)] rfl (fun p e s m below meth c A C hr hlocks hin hEx => ?_)
  refine v_aload_n C dX6_init_0 rfl 0 rfl ?_
  refine v_objInit C k28 k4 k5 dX6_init_1 (Nat.le_of_ble_eq_true rfl) (Nat.le_of_ble_eq_true rfl) ?_
  refine v_aload_n C dX6_init_4 rfl 0 rfl ?_
  refine v_iload_n C dX6_init_5 rfl 1 rfl ?_
  refine v_iconst (v := 0) C dX6_init_6 (by decide +kernel) ?_
  refine v_mmax C 131072 k29 k30 k31 k32 (Nat.le_of_ble_eq_true rfl) (Nat.le_of_ble_eq_true rfl) (Nat.le_of_ble_eq_true rfl) (Nat.le_of_ble_eq_true rfl) dX6_init_7 (by decide +kernel) ?_
  refine v_bipush (v := 10) C dX6_init_10 (by decide +kernel) ?_
  refine v_ishr C 128 dX6_init_12 (by decide +kernel) ?_
  refine v_iconst (v := 1) C dX6_init_13 (by decide +kernel) ?_
  refine v_iadd C 129 dX6_init_14 (by decide +kernel) ?_
  refine v_anewI C 129 k33 (by decide +kernel) (by decide +kernel) (Nat.le_of_ble_eq_true rfl) (Nat.le_of_ble_eq_true rfl) (Nat.le_of_ble_eq_true rfl) dX6_init_15 (fun q28 => ?_)
  refine v_putF C hin EX6 0 rfl rfl 0 (by decide) k34 rfl rfl rfl rfl (Nat.le_of_ble_eq_true rfl) [(a0, .inr (6, [.ref q28]))] rfl dX6_init_18 ?_
  exact v_return C (S := g_S) ((fun _ => 0, fun _ _ => 0, fun i => [(fun k => vp_V [.ref q28] k)].getD i (fun _ => .null)) : g_S) hr hlocks [0] rfl rfl (Nat.le_of_ble_eq_true rfl) (Nat.le_of_ble_eq_true rfl) dX6_init_21

set_option maxRecDepth 100000 in
set_option maxHeartbeats 4000000 in
/-- GroundProver$Walk.<init>(LGroundProver$TermStore;)V -/
theorem c6_X10_init (l : Launch) (D : va_G) (d : Nat → ClassId) (a0 : Nat) (a1 : Nat) : ∀ sz, Met l yX10_init (g_wd yX10_init cX10_init 2 none) (g_rm 1 9 1160) (va_Pc [.ref a0, .ref a1] (g_pr false D d [(a0, .inr (10, [.null, .null, .null, .null, .null, .null, .int 0]))] sz)) (q_v D (fun u : g_S => [(a0, .inr (10, [.ref a1, (u.2.2 0 1), (u.2.2 0 2), (u.2.2 0 3), (u.2.2 0 4), (u.2.2 0 5), .int 0]))]) (va_A [(a0, .inr (10, [.null, .null, .null, .null, .null, .null, .int 0]))] sz)) 9 1160 (va_A [(a0, .inr (10, [.null, .null, .null, .null, .null, .null, .int 0]))] sz) := by
  refine s_met (y := yX10_init) (cc := cX10_init) (maxL := 2) (ret := none) (rm := (g_rm 1 9 1160)) (mc := 9) (ms := 1160) (E := false) (W0 := [(a0, .inr (10, [.null, .null, .null, .null, .null, .null, .int 0]))]) (av := [.ref a0, .ref a1]) (Qf := fun A => q_v D (fun u : g_S => [(a0, .inr (10, [.ref a1, (u.2.2 0 1), (u.2.2 0 2), (u.2.2 0 3), (u.2.2 0 4), (u.2.2 0 5), .int 0]))]) A) pn_X10 (Nat.le_of_ble_eq_true rfl) [(0, .ref a0), (1, .ref a1)] rfl (fun p e s m below meth c A C hr hlocks hin hEx => ?_)
  refine v_aload_n C dX10_init_0 rfl 0 rfl ?_
  refine v_objInit C k56 k4 k5 dX10_init_1 (Nat.le_of_ble_eq_true rfl) (Nat.le_of_ble_eq_true rfl) ?_
  refine v_aload_n C dX10_init_4 rfl 0 rfl ?_
  refine v_new C EX6 rfl [.null] zX6 k57 k25 k26 (Nat.le_of_ble_eq_true rfl) (Nat.le_of_ble_eq_true rfl) (fun q25 => [(a0, .inr (10, [.null, .null, .null, .null, .null, .null, .int 0])), (q25, .inr (6, [.null]))]) (fun _ => rfl) dX10_init_5 (fun q25 => ?_)
  refine v_dup C dX10_init_8 rfl ?_
  refine v_ldc C dX10_init_9 k58 ?_
  refine v_callI C FX6_init k37 rfl k59 (c3_X6_init l D d q25) (fun h => nomatch h) (wr := [(a0, .inr (10, [.null, .null, .null, .null, .null, .null, .int 0]))]) (rest := [.ref q25, .ref a0]) [1] [0] rfl rfl rfl rfl (by decide) ⟨rfl, rfl⟩ ⟨Nat.le_of_ble_eq_true rfl, Nat.le_of_ble_eq_true rfl⟩ ⟨Nat.le_of_ble_eq_true rfl, Nat.le_of_ble_eq_true rfl⟩ (Nat.le_of_ble_eq_true rfl) rfl rfl (fun u1 => [(a0, .inr (10, [.null, .null, .null, .null, .null, .null, .int 0])), (q25, .inr (6, [(u1.2.2 0 0)]))]) (fun _ => rfl) dX10_init_11 (fun u1 => ?_)
  refine v_sub (ws' := [(a0, .inr (10, [.null, .null, .null, .null, .null, .null, .int 0]))]) [0] rfl rfl ?_
  refine v_putF C hin EX10 0 rfl rfl 1 (by decide) k60 rfl rfl rfl rfl (Nat.le_of_ble_eq_true rfl) [(a0, .inr (10, [.null, .ref q25, .null, .null, .null, .null, .int 0]))] rfl dX10_init_14 ?_
  refine v_aload_n C dX10_init_17 rfl 0 rfl ?_
  refine v_new C EX6 rfl [.null] zX6 k57 k25 k26 (Nat.le_of_ble_eq_true rfl) (Nat.le_of_ble_eq_true rfl) (fun q27 => [(a0, .inr (10, [.null, .ref q25, .null, .null, .null, .null, .int 0])), (q27, .inr (6, [.null]))]) (fun _ => rfl) dX10_init_18 (fun q27 => ?_)
  refine v_dup C dX10_init_21 rfl ?_
  refine v_ldc C dX10_init_22 k61 ?_
  refine v_callI C FX6_init k37 rfl k59 (c7_X6_init l D d q27) (fun h => nomatch h) (wr := [(a0, .inr (10, [.null, .ref q25, .null, .null, .null, .null, .int 0]))]) (rest := [.ref q27, .ref a0]) [1] [0] rfl rfl rfl rfl (by decide) ⟨rfl, rfl⟩ ⟨Nat.le_of_ble_eq_true rfl, Nat.le_of_ble_eq_true rfl⟩ ⟨Nat.le_of_ble_eq_true rfl, Nat.le_of_ble_eq_true rfl⟩ (Nat.le_of_ble_eq_true rfl) rfl rfl (fun u2 => [(a0, .inr (10, [.null, .ref q25, .null, .null, .null, .null, .int 0])), (q27, .inr (6, [(u2.2.2 0 0)]))]) (fun _ => rfl) dX10_init_24 (fun u2 => ?_)
  refine v_sub (ws' := [(a0, .inr (10, [.null, .ref q25, .null, .null, .null, .null, .int 0]))]) [0] rfl rfl ?_
  refine v_putF C hin EX10 0 rfl rfl 2 (by decide) k62 rfl rfl rfl rfl (Nat.le_of_ble_eq_true rfl) [(a0, .inr (10, [.null, .ref q25, .ref q27, .null, .null, .null, .int 0]))] rfl dX10_init_27 ?_
  refine v_aload_n C dX10_init_30 rfl 0 rfl ?_
  refine v_new C EX6 rfl [.null] zX6 k57 k25 k26 (Nat.le_of_ble_eq_true rfl) (Nat.le_of_ble_eq_true rfl) (fun q29 => [(a0, .inr (10, [.null, .ref q25, .ref q27, .null, .null, .null, .int 0])), (q29, .inr (6, [.null]))]) (fun _ => rfl) dX10_init_31 (fun q29 => ?_)
  refine v_dup C dX10_init_34 rfl ?_
  refine v_ldc C dX10_init_35 k61 ?_
  refine v_callI C FX6_init k37 rfl k59 (c7_X6_init l D d q29) (fun h => nomatch h) (wr := [(a0, .inr (10, [.null, .ref q25, .ref q27, .null, .null, .null, .int 0]))]) (rest := [.ref q29, .ref a0]) [1] [0] rfl rfl rfl rfl (by decide) ⟨rfl, rfl⟩ ⟨Nat.le_of_ble_eq_true rfl, Nat.le_of_ble_eq_true rfl⟩ ⟨Nat.le_of_ble_eq_true rfl, Nat.le_of_ble_eq_true rfl⟩ (Nat.le_of_ble_eq_true rfl) rfl rfl (fun u3 => [(a0, .inr (10, [.null, .ref q25, .ref q27, .null, .null, .null, .int 0])), (q29, .inr (6, [(u3.2.2 0 0)]))]) (fun _ => rfl) dX10_init_37 (fun u3 => ?_)
  refine v_sub (ws' := [(a0, .inr (10, [.null, .ref q25, .ref q27, .null, .null, .null, .int 0]))]) [0] rfl rfl ?_
  refine v_putF C hin EX10 0 rfl rfl 3 (by decide) k63 rfl rfl rfl rfl (Nat.le_of_ble_eq_true rfl) [(a0, .inr (10, [.null, .ref q25, .ref q27, .ref q29, .null, .null, .int 0]))] rfl dX10_init_40 ?_
  refine v_aload_n C dX10_init_43 rfl 0 rfl ?_
  refine v_new C EX6 rfl [.null] zX6 k57 k25 k26 (Nat.le_of_ble_eq_true rfl) (Nat.le_of_ble_eq_true rfl) (fun q31 => [(a0, .inr (10, [.null, .ref q25, .ref q27, .ref q29, .null, .null, .int 0])), (q31, .inr (6, [.null]))]) (fun _ => rfl) dX10_init_44 (fun q31 => ?_)
  refine v_dup C dX10_init_47 rfl ?_
  refine v_ldc C dX10_init_48 k61 ?_
  refine v_callI C FX6_init k37 rfl k59 (c7_X6_init l D d q31) (fun h => nomatch h) (wr := [(a0, .inr (10, [.null, .ref q25, .ref q27, .ref q29, .null, .null, .int 0]))]) (rest := [.ref q31, .ref a0]) [1] [0] rfl rfl rfl rfl (by decide) ⟨rfl, rfl⟩ ⟨Nat.le_of_ble_eq_true rfl, Nat.le_of_ble_eq_true rfl⟩ ⟨Nat.le_of_ble_eq_true rfl, Nat.le_of_ble_eq_true rfl⟩ (Nat.le_of_ble_eq_true rfl) rfl rfl (fun u4 => [(a0, .inr (10, [.null, .ref q25, .ref q27, .ref q29, .null, .null, .int 0])), (q31, .inr (6, [(u4.2.2 0 0)]))]) (fun _ => rfl) dX10_init_50 (fun u4 => ?_)
  refine v_sub (ws' := [(a0, .inr (10, [.null, .ref q25, .ref q27, .ref q29, .null, .null, .int 0]))]) [0] rfl rfl ?_
  refine v_putF C hin EX10 0 rfl rfl 4 (by decide) k64 rfl rfl rfl rfl (Nat.le_of_ble_eq_true rfl) [(a0, .inr (10, [.null, .ref q25, .ref q27, .ref q29, .ref q31, .null, .int 0]))] rfl dX10_init_53 ?_
  refine v_aload_n C dX10_init_56 rfl 0 rfl ?_
  refine v_sipush (v := 256) C dX10_init_57 (by decide +kernel) ?_
  refine v_newaD C (atype := .int) (ty := .int) 0 rfl rfl ka_int 256 (256, .inl (fun _ => 0)) (fun _ => rfl) (by decide +kernel) (by decide +kernel) (Nat.le_of_ble_eq_true rfl) (Nat.le_of_ble_eq_true rfl) (Nat.le_of_ble_eq_true rfl) dX10_init_60 (fun q33 => ?_)
  refine v_putF C hin EX10 0 rfl rfl 5 (by decide) k65 rfl rfl rfl rfl (Nat.le_of_ble_eq_true rfl) [(a0, .inr (10, [.null, .ref q25, .ref q27, .ref q29, .ref q31, .ref q33, .int 0]))] rfl dX10_init_62 ?_
  refine v_aload_n C dX10_init_65 rfl 0 rfl ?_
  refine v_aload_n C dX10_init_66 rfl 1 rfl ?_
  refine v_putF C hin EX10 0 rfl rfl 0 (by decide) k66 rfl rfl rfl rfl (Nat.le_of_ble_eq_true rfl) [(a0, .inr (10, [.ref a1, .ref q25, .ref q27, .ref q29, .ref q31, .ref q33, .int 0]))] rfl dX10_init_67 ?_
  exact v_return C (S := g_S) ((fun _ => 0, fun _ _ => 0, fun i => [(fun k => vp_V [.ref a1, .ref q25, .ref q27, .ref q29, .ref q31, .ref q33, .int 0] k)].getD i (fun _ => .null)) : g_S) hr hlocks [0] rfl rfl (Nat.le_of_ble_eq_true rfl) (Nat.le_of_ble_eq_true rfl) dX10_init_70

set_option maxRecDepth 100000 in
set_option maxHeartbeats 4000000 in
/-- GroundProver$Row.<init>(I)V -/
theorem c9_X6_init (l : Launch) (D : va_G) (d : Nat → ClassId) (a0 : Nat) : ∀ sz, Met l yX6_init (g_wd yX6_init cX6_init 2 none) (g_rm 0 1 385) (va_Pc [.ref a0, .int 393216] (g_pr false D d [(a0, .inr (6, [.null]))] sz)) (q_v D (fun u : g_S => [(a0, .inr (6, [(u.2.2 0 0)]))]) (va_A [(a0, .inr (6, [.null]))] sz)) 1 385 (va_A [(a0, .inr (6, [.null]))] sz) := by
  refine s_met (y := yX6_init) (cc := cX6_init) (maxL := 2) (ret := none) (rm := (g_rm 0 1 385)) (mc := 1) (ms := 385) (E := false) (W0 := [(a0, .inr (6, [.null]))]) (av := [.ref a0, .int 393216]) (Qf := fun A => q_v D (fun u : g_S => [(a0, .inr (6, [(u.2.2 0 0)]))]) A) pn_X6 (Nat.le_of_ble_eq_true rfl) [(0, .ref a0), (1, .int 393216)] rfl (fun p e s m below meth c A C hr hlocks hin hEx => ?_)
  refine v_aload_n C dX6_init_0 rfl 0 rfl ?_
  refine v_objInit C k28 k4 k5 dX6_init_1 (Nat.le_of_ble_eq_true rfl) (Nat.le_of_ble_eq_true rfl) ?_
  refine v_aload_n C dX6_init_4 rfl 0 rfl ?_
  refine v_iload_n C dX6_init_5 rfl 1 rfl ?_
  refine v_iconst (v := 0) C dX6_init_6 (by decide +kernel) ?_
  refine v_mmax C 393216 k29 k30 k31 k32 (Nat.le_of_ble_eq_true rfl) (Nat.le_of_ble_eq_true rfl) (Nat.le_of_ble_eq_true rfl) (Nat.le_of_ble_eq_true rfl) dX6_init_7 (by decide +kernel) ?_
  refine v_bipush (v := 10) C dX6_init_10 (by decide +kernel) ?_
  refine v_ishr C 384 dX6_init_12 (by decide +kernel) ?_
  refine v_iconst (v := 1) C dX6_init_13 (by decide +kernel) ?_
  refine v_iadd C 385 dX6_init_14 (by decide +kernel) ?_
  refine v_anewI C 385 k33 (by decide +kernel) (by decide +kernel) (Nat.le_of_ble_eq_true rfl) (Nat.le_of_ble_eq_true rfl) (Nat.le_of_ble_eq_true rfl) dX6_init_15 (fun q40 => ?_)
  refine v_putF C hin EX6 0 rfl rfl 0 (by decide) k34 rfl rfl rfl rfl (Nat.le_of_ble_eq_true rfl) [(a0, .inr (6, [.ref q40]))] rfl dX6_init_18 ?_
  exact v_return C (S := g_S) ((fun _ => 0, fun _ _ => 0, fun i => [(fun k => vp_V [.ref q40] k)].getD i (fun _ => .null)) : g_S) hr hlocks [0] rfl rfl (Nat.le_of_ble_eq_true rfl) (Nat.le_of_ble_eq_true rfl) dX6_init_21

set_option maxRecDepth 100000 in
set_option maxHeartbeats 4000000 in
/-- GroundProver$Grammar.<init>(LGroundProver$Symbols;)V -/
theorem c8_X2_init (l : Launch) (D : va_G) (d : Nat → ClassId) (a0 : Nat) (a1 : Nat) : ∀ sz, Met l yX2_init (g_wd yX2_init cX2_init 2 none) (g_rm 1 28 2332) (va_Pc [.ref a0, .ref a1] (g_pr false D d [(a0, .inr (2, [.null, .null, .null, .null, .null, .null, .null, .null, .null, .null, .null, .null, .null, .null, .null, .int 0, .int 0, .int 0, .int 0, .int 0]))] sz)) (q_v D (fun u : g_S => [(a0, .inr (2, [.ref a1, (u.2.2 0 1), (u.2.2 0 2), (u.2.2 0 3), (u.2.2 0 4), (u.2.2 0 5), (u.2.2 0 6), (u.2.2 0 7), (u.2.2 0 8), (u.2.2 0 9), (u.2.2 0 10), (u.2.2 0 11), (u.2.2 0 12), (u.2.2 0 13), (u.2.2 0 14), .int 0, .int 0, .int 0, .int 0, .int 0]))]) (va_A [(a0, .inr (2, [.null, .null, .null, .null, .null, .null, .null, .null, .null, .null, .null, .null, .null, .null, .null, .int 0, .int 0, .int 0, .int 0, .int 0]))] sz)) 28 2332 (va_A [(a0, .inr (2, [.null, .null, .null, .null, .null, .null, .null, .null, .null, .null, .null, .null, .null, .null, .null, .int 0, .int 0, .int 0, .int 0, .int 0]))] sz) := by
  refine s_met (y := yX2_init) (cc := cX2_init) (maxL := 2) (ret := none) (rm := (g_rm 1 28 2332)) (mc := 28) (ms := 2332) (E := false) (W0 := [(a0, .inr (2, [.null, .null, .null, .null, .null, .null, .null, .null, .null, .null, .null, .null, .null, .null, .null, .int 0, .int 0, .int 0, .int 0, .int 0]))]) (av := [.ref a0, .ref a1]) (Qf := fun A => q_v D (fun u : g_S => [(a0, .inr (2, [.ref a1, (u.2.2 0 1), (u.2.2 0 2), (u.2.2 0 3), (u.2.2 0 4), (u.2.2 0 5), (u.2.2 0 6), (u.2.2 0 7), (u.2.2 0 8), (u.2.2 0 9), (u.2.2 0 10), (u.2.2 0 11), (u.2.2 0 12), (u.2.2 0 13), (u.2.2 0 14), .int 0, .int 0, .int 0, .int 0, .int 0]))]) A) pn_X2 (Nat.le_of_ble_eq_true rfl) [(0, .ref a0), (1, .ref a1)] rfl (fun p e s m below meth c A C hr hlocks hin hEx => ?_)
  refine v_aload_n C dX2_init_0 rfl 0 rfl ?_
  refine v_objInit C k74 k4 k5 dX2_init_1 (Nat.le_of_ble_eq_true rfl) (Nat.le_of_ble_eq_true rfl) ?_
  refine v_aload_n C dX2_init_4 rfl 0 rfl ?_
  refine v_new C EX6 rfl [.null] zX6 k75 k25 k26 (Nat.le_of_ble_eq_true rfl) (Nat.le_of_ble_eq_true rfl) (fun q35 => [(a0, .inr (2, [.null, .null, .null, .null, .null, .null, .null, .null, .null, .null, .null, .null, .null, .null, .null, .int 0, .int 0, .int 0, .int 0, .int 0])), (q35, .inr (6, [.null]))]) (fun _ => rfl) dX2_init_5 (fun q35 => ?_)
  refine v_dup C dX2_init_8 rfl ?_
  refine v_ldc C dX2_init_9 k76 ?_
  refine v_callI C FX6_init k37 rfl k77 (c7_X6_init l D d q35) (fun h => nomatch h) (wr := [(a0, .inr (2, [.null, .null, .null, .null, .null, .null, .null, .null, .null, .null, .null, .null, .null, .null, .null, .int 0, .int 0, .int 0, .int 0, .int 0]))]) (rest := [.ref q35, .ref a0]) [1] [0] rfl rfl rfl rfl (by decide) ⟨rfl, rfl⟩ ⟨Nat.le_of_ble_eq_true rfl, Nat.le_of_ble_eq_true rfl⟩ ⟨Nat.le_of_ble_eq_true rfl, Nat.le_of_ble_eq_true rfl⟩ (Nat.le_of_ble_eq_true rfl) rfl rfl (fun u1 => [(a0, .inr (2, [.null, .null, .null, .null, .null, .null, .null, .null, .null, .null, .null, .null, .null, .null, .null, .int 0, .int 0, .int 0, .int 0, .int 0])), (q35, .inr (6, [(u1.2.2 0 0)]))]) (fun _ => rfl) dX2_init_11 (fun u1 => ?_)
  refine v_sub (ws' := [(a0, .inr (2, [.null, .null, .null, .null, .null, .null, .null, .null, .null, .null, .null, .null, .null, .null, .null, .int 0, .int 0, .int 0, .int 0, .int 0]))]) [0] rfl rfl ?_
  refine v_putF C hin EX2 0 rfl rfl 1 (by decide) k78 rfl rfl rfl rfl (Nat.le_of_ble_eq_true rfl) [(a0, .inr (2, [.null, .ref q35, .null, .null, .null, .null, .null, .null, .null, .null, .null, .null, .null, .null, .null, .int 0, .int 0, .int 0, .int 0, .int 0]))] rfl dX2_init_14 ?_
  refine v_aload_n C dX2_init_17 rfl 0 rfl ?_
  refine v_new C EX6 rfl [.null] zX6 k75 k25 k26 (Nat.le_of_ble_eq_true rfl) (Nat.le_of_ble_eq_true rfl) (fun q37 => [(a0, .inr (2, [.null, .ref q35, .null, .null, .null, .null, .null, .null, .null, .null, .null, .null, .null, .null, .null, .int 0, .int 0, .int 0, .int 0, .int 0])), (q37, .inr (6, [.null]))]) (fun _ => rfl) dX2_init_18 (fun q37 => ?_)
  refine v_dup C dX2_init_21 rfl ?_
  refine v_ldc C dX2_init_22 k76 ?_
  refine v_callI C FX6_init k37 rfl k77 (c7_X6_init l D d q37) (fun h => nomatch h) (wr := [(a0, .inr (2, [.null, .ref q35, .null, .null, .null, .null, .null, .null, .null, .null, .null, .null, .null, .null, .null, .int 0, .int 0, .int 0, .int 0, .int 0]))]) (rest := [.ref q37, .ref a0]) [1] [0] rfl rfl rfl rfl (by decide) ⟨rfl, rfl⟩ ⟨Nat.le_of_ble_eq_true rfl, Nat.le_of_ble_eq_true rfl⟩ ⟨Nat.le_of_ble_eq_true rfl, Nat.le_of_ble_eq_true rfl⟩ (Nat.le_of_ble_eq_true rfl) rfl rfl (fun u2 => [(a0, .inr (2, [.null, .ref q35, .null, .null, .null, .null, .null, .null, .null, .null, .null, .null, .null, .null, .null, .int 0, .int 0, .int 0, .int 0, .int 0])), (q37, .inr (6, [(u2.2.2 0 0)]))]) (fun _ => rfl) dX2_init_24 (fun u2 => ?_)
  refine v_sub (ws' := [(a0, .inr (2, [.null, .ref q35, .null, .null, .null, .null, .null, .null, .null, .null, .null, .null, .null, .null, .null, .int 0, .int 0, .int 0, .int 0, .int 0]))]) [0] rfl rfl ?_
  refine v_putF C hin EX2 0 rfl rfl 2 (by decide) k79 rfl rfl rfl rfl (Nat.le_of_ble_eq_true rfl) [(a0, .inr (2, [.null, .ref q35, .ref q37, .null, .null, .null, .null, .null, .null, .null, .null, .null, .null, .null, .null, .int 0, .int 0, .int 0, .int 0, .int 0]))] rfl dX2_init_27 ?_
  refine v_aload_n C dX2_init_30 rfl 0 rfl ?_
  refine v_new C EX6 rfl [.null] zX6 k75 k25 k26 (Nat.le_of_ble_eq_true rfl) (Nat.le_of_ble_eq_true rfl) (fun q39 => [(a0, .inr (2, [.null, .ref q35, .ref q37, .null, .null, .null, .null, .null, .null, .null, .null, .null, .null, .null, .null, .int 0, .int 0, .int 0, .int 0, .int 0])), (q39, .inr (6, [.null]))]) (fun _ => rfl) dX2_init_31 (fun q39 => ?_)
  refine v_dup C dX2_init_34 rfl ?_
  refine v_ldc C dX2_init_35 k80 ?_
  refine v_callI C FX6_init k37 rfl k77 (c9_X6_init l D d q39) (fun h => nomatch h) (wr := [(a0, .inr (2, [.null, .ref q35, .ref q37, .null, .null, .null, .null, .null, .null, .null, .null, .null, .null, .null, .null, .int 0, .int 0, .int 0, .int 0, .int 0]))]) (rest := [.ref q39, .ref a0]) [1] [0] rfl rfl rfl rfl (by decide) ⟨rfl, rfl⟩ ⟨Nat.le_of_ble_eq_true rfl, Nat.le_of_ble_eq_true rfl⟩ ⟨Nat.le_of_ble_eq_true rfl, Nat.le_of_ble_eq_true rfl⟩ (Nat.le_of_ble_eq_true rfl) rfl rfl (fun u3 => [(a0, .inr (2, [.null, .ref q35, .ref q37, .null, .null, .null, .null, .null, .null, .null, .null, .null, .null, .null, .null, .int 0, .int 0, .int 0, .int 0, .int 0])), (q39, .inr (6, [(u3.2.2 0 0)]))]) (fun _ => rfl) dX2_init_37 (fun u3 => ?_)
  refine v_sub (ws' := [(a0, .inr (2, [.null, .ref q35, .ref q37, .null, .null, .null, .null, .null, .null, .null, .null, .null, .null, .null, .null, .int 0, .int 0, .int 0, .int 0, .int 0]))]) [0] rfl rfl ?_
  refine v_putF C hin EX2 0 rfl rfl 3 (by decide) k81 rfl rfl rfl rfl (Nat.le_of_ble_eq_true rfl) [(a0, .inr (2, [.null, .ref q35, .ref q37, .ref q39, .null, .null, .null, .null, .null, .null, .null, .null, .null, .null, .null, .int 0, .int 0, .int 0, .int 0, .int 0]))] rfl dX2_init_40 ?_
  refine v_aload_n C dX2_init_43 rfl 0 rfl ?_
  refine v_new C EX6 rfl [.null] zX6 k75 k25 k26 (Nat.le_of_ble_eq_true rfl) (Nat.le_of_ble_eq_true rfl) (fun q41 => [(a0, .inr (2, [.null, .ref q35, .ref q37, .ref q39, .null, .null, .null, .null, .null, .null, .null, .null, .null, .null, .null, .int 0, .int 0, .int 0, .int 0, .int 0])), (q41, .inr (6, [.null]))]) (fun _ => rfl) dX2_init_44 (fun q41 => ?_)
  refine v_dup C dX2_init_47 rfl ?_
  refine v_ldc C dX2_init_48 k76 ?_
  refine v_callI C FX6_init k37 rfl k77 (c7_X6_init l D d q41) (fun h => nomatch h) (wr := [(a0, .inr (2, [.null, .ref q35, .ref q37, .ref q39, .null, .null, .null, .null, .null, .null, .null, .null, .null, .null, .null, .int 0, .int 0, .int 0, .int 0, .int 0]))]) (rest := [.ref q41, .ref a0]) [1] [0] rfl rfl rfl rfl (by decide) ⟨rfl, rfl⟩ ⟨Nat.le_of_ble_eq_true rfl, Nat.le_of_ble_eq_true rfl⟩ ⟨Nat.le_of_ble_eq_true rfl, Nat.le_of_ble_eq_true rfl⟩ (Nat.le_of_ble_eq_true rfl) rfl rfl (fun u4 => [(a0, .inr (2, [.null, .ref q35, .ref q37, .ref q39, .null, .null, .null, .null, .null, .null, .null, .null, .null, .null, .null, .int 0, .int 0, .int 0, .int 0, .int 0])), (q41, .inr (6, [(u4.2.2 0 0)]))]) (fun _ => rfl) dX2_init_50 (fun u4 => ?_)
  refine v_sub (ws' := [(a0, .inr (2, [.null, .ref q35, .ref q37, .ref q39, .null, .null, .null, .null, .null, .null, .null, .null, .null, .null, .null, .int 0, .int 0, .int 0, .int 0, .int 0]))]) [0] rfl rfl ?_
  refine v_putF C hin EX2 0 rfl rfl 4 (by decide) k82 rfl rfl rfl rfl (Nat.le_of_ble_eq_true rfl) [(a0, .inr (2, [.null, .ref q35, .ref q37, .ref q39, .ref q41, .null, .null, .null, .null, .null, .null, .null, .null, .null, .null, .int 0, .int 0, .int 0, .int 0, .int 0]))] rfl dX2_init_53 ?_
  refine v_aload_n C dX2_init_56 rfl 0 rfl ?_
  refine v_new C EX6 rfl [.null] zX6 k75 k25 k26 (Nat.le_of_ble_eq_true rfl) (Nat.le_of_ble_eq_true rfl) (fun q43 => [(a0, .inr (2, [.null, .ref q35, .ref q37, .ref q39, .ref q41, .null, .null, .null, .null, .null, .null, .null, .null, .null, .null, .int 0, .int 0, .int 0, .int 0, .int 0])), (q43, .inr (6, [.null]))]) (fun _ => rfl) dX2_init_57 (fun q43 => ?_)
  refine v_dup C dX2_init_60 rfl ?_
  refine v_ldc C dX2_init_61 k76 ?_
  refine v_callI C FX6_init k37 rfl k77 (c7_X6_init l D d q43) (fun h => nomatch h) (wr := [(a0, .inr (2, [.null, .ref q35, .ref q37, .ref q39, .ref q41, .null, .null, .null, .null, .null, .null, .null, .null, .null, .null, .int 0, .int 0, .int 0, .int 0, .int 0]))]) (rest := [.ref q43, .ref a0]) [1] [0] rfl rfl rfl rfl (by decide) ⟨rfl, rfl⟩ ⟨Nat.le_of_ble_eq_true rfl, Nat.le_of_ble_eq_true rfl⟩ ⟨Nat.le_of_ble_eq_true rfl, Nat.le_of_ble_eq_true rfl⟩ (Nat.le_of_ble_eq_true rfl) rfl rfl (fun u5 => [(a0, .inr (2, [.null, .ref q35, .ref q37, .ref q39, .ref q41, .null, .null, .null, .null, .null, .null, .null, .null, .null, .null, .int 0, .int 0, .int 0, .int 0, .int 0])), (q43, .inr (6, [(u5.2.2 0 0)]))]) (fun _ => rfl) dX2_init_63 (fun u5 => ?_)
  refine v_sub (ws' := [(a0, .inr (2, [.null, .ref q35, .ref q37, .ref q39, .ref q41, .null, .null, .null, .null, .null, .null, .null, .null, .null, .null, .int 0, .int 0, .int 0, .int 0, .int 0]))]) [0] rfl rfl ?_
  refine v_putF C hin EX2 0 rfl rfl 5 (by decide) k83 rfl rfl rfl rfl (Nat.le_of_ble_eq_true rfl) [(a0, .inr (2, [.null, .ref q35, .ref q37, .ref q39, .ref q41, .ref q43, .null, .null, .null, .null, .null, .null, .null, .null, .null, .int 0, .int 0, .int 0, .int 0, .int 0]))] rfl dX2_init_66 ?_
  refine v_aload_n C dX2_init_69 rfl 0 rfl ?_
  refine v_new C EX6 rfl [.null] zX6 k75 k25 k26 (Nat.le_of_ble_eq_true rfl) (Nat.le_of_ble_eq_true rfl) (fun q45 => [(a0, .inr (2, [.null, .ref q35, .ref q37, .ref q39, .ref q41, .ref q43, .null, .null, .null, .null, .null, .null, .null, .null, .null, .int 0, .int 0, .int 0, .int 0, .int 0])), (q45, .inr (6, [.null]))]) (fun _ => rfl) dX2_init_70 (fun q45 => ?_)
  refine v_dup C dX2_init_73 rfl ?_
  refine v_ldc C dX2_init_74 k80 ?_
  refine v_callI C FX6_init k37 rfl k77 (c9_X6_init l D d q45) (fun h => nomatch h) (wr := [(a0, .inr (2, [.null, .ref q35, .ref q37, .ref q39, .ref q41, .ref q43, .null, .null, .null, .null, .null, .null, .null, .null, .null, .int 0, .int 0, .int 0, .int 0, .int 0]))]) (rest := [.ref q45, .ref a0]) [1] [0] rfl rfl rfl rfl (by decide) ⟨rfl, rfl⟩ ⟨Nat.le_of_ble_eq_true rfl, Nat.le_of_ble_eq_true rfl⟩ ⟨Nat.le_of_ble_eq_true rfl, Nat.le_of_ble_eq_true rfl⟩ (Nat.le_of_ble_eq_true rfl) rfl rfl (fun u6 => [(a0, .inr (2, [.null, .ref q35, .ref q37, .ref q39, .ref q41, .ref q43, .null, .null, .null, .null, .null, .null, .null, .null, .null, .int 0, .int 0, .int 0, .int 0, .int 0])), (q45, .inr (6, [(u6.2.2 0 0)]))]) (fun _ => rfl) dX2_init_76 (fun u6 => ?_)
  refine v_sub (ws' := [(a0, .inr (2, [.null, .ref q35, .ref q37, .ref q39, .ref q41, .ref q43, .null, .null, .null, .null, .null, .null, .null, .null, .null, .int 0, .int 0, .int 0, .int 0, .int 0]))]) [0] rfl rfl ?_
  refine v_putF C hin EX2 0 rfl rfl 6 (by decide) k84 rfl rfl rfl rfl (Nat.le_of_ble_eq_true rfl) [(a0, .inr (2, [.null, .ref q35, .ref q37, .ref q39, .ref q41, .ref q43, .ref q45, .null, .null, .null, .null, .null, .null, .null, .null, .int 0, .int 0, .int 0, .int 0, .int 0]))] rfl dX2_init_79 ?_
  refine v_aload_n C dX2_init_82 rfl 0 rfl ?_
  refine v_new C EX6 rfl [.null] zX6 k75 k25 k26 (Nat.le_of_ble_eq_true rfl) (Nat.le_of_ble_eq_true rfl) (fun q47 => [(a0, .inr (2, [.null, .ref q35, .ref q37, .ref q39, .ref q41, .ref q43, .ref q45, .null, .null, .null, .null, .null, .null, .null, .null, .int 0, .int 0, .int 0, .int 0, .int 0])), (q47, .inr (6, [.null]))]) (fun _ => rfl) dX2_init_83 (fun q47 => ?_)
  refine v_dup C dX2_init_86 rfl ?_
  refine v_ldc C dX2_init_87 k76 ?_
  refine v_callI C FX6_init k37 rfl k77 (c7_X6_init l D d q47) (fun h => nomatch h) (wr := [(a0, .inr (2, [.null, .ref q35, .ref q37, .ref q39, .ref q41, .ref q43, .ref q45, .null, .null, .null, .null, .null, .null, .null, .null, .int 0, .int 0, .int 0, .int 0, .int 0]))]) (rest := [.ref q47, .ref a0]) [1] [0] rfl rfl rfl rfl (by decide) ⟨rfl, rfl⟩ ⟨Nat.le_of_ble_eq_true rfl, Nat.le_of_ble_eq_true rfl⟩ ⟨Nat.le_of_ble_eq_true rfl, Nat.le_of_ble_eq_true rfl⟩ (Nat.le_of_ble_eq_true rfl) rfl rfl (fun u7 => [(a0, .inr (2, [.null, .ref q35, .ref q37, .ref q39, .ref q41, .ref q43, .ref q45, .null, .null, .null, .null, .null, .null, .null, .null, .int 0, .int 0, .int 0, .int 0, .int 0])), (q47, .inr (6, [(u7.2.2 0 0)]))]) (fun _ => rfl) dX2_init_89 (fun u7 => ?_)
  refine v_sub (ws' := [(a0, .inr (2, [.null, .ref q35, .ref q37, .ref q39, .ref q41, .ref q43, .ref q45, .null, .null, .null, .null, .null, .null, .null, .null, .int 0, .int 0, .int 0, .int 0, .int 0]))]) [0] rfl rfl ?_
  refine v_putF C hin EX2 0 rfl rfl 7 (by decide) k85 rfl rfl rfl rfl (Nat.le_of_ble_eq_true rfl) [(a0, .inr (2, [.null, .ref q35, .ref q37, .ref q39, .ref q41, .ref q43, .ref q45, .ref q47, .null, .null, .null, .null, .null, .null, .null, .int 0, .int 0, .int 0, .int 0, .int 0]))] rfl dX2_init_92 ?_
  refine v_aload_n C dX2_init_95 rfl 0 rfl ?_
  refine v_new C EX6 rfl [.null] zX6 k75 k25 k26 (Nat.le_of_ble_eq_true rfl) (Nat.le_of_ble_eq_true rfl) (fun q49 => [(a0, .inr (2, [.null, .ref q35, .ref q37, .ref q39, .ref q41, .ref q43, .ref q45, .ref q47, .null, .null, .null, .null, .null, .null, .null, .int 0, .int 0, .int 0, .int 0, .int 0])), (q49, .inr (6, [.null]))]) (fun _ => rfl) dX2_init_96 (fun q49 => ?_)
  refine v_dup C dX2_init_99 rfl ?_
  refine v_ldc C dX2_init_100 k76 ?_
  refine v_callI C FX6_init k37 rfl k77 (c7_X6_init l D d q49) (fun h => nomatch h) (wr := [(a0, .inr (2, [.null, .ref q35, .ref q37, .ref q39, .ref q41, .ref q43, .ref q45, .ref q47, .null, .null, .null, .null, .null, .null, .null, .int 0, .int 0, .int 0, .int 0, .int 0]))]) (rest := [.ref q49, .ref a0]) [1] [0] rfl rfl rfl rfl (by decide) ⟨rfl, rfl⟩ ⟨Nat.le_of_ble_eq_true rfl, Nat.le_of_ble_eq_true rfl⟩ ⟨Nat.le_of_ble_eq_true rfl, Nat.le_of_ble_eq_true rfl⟩ (Nat.le_of_ble_eq_true rfl) rfl rfl (fun u8 => [(a0, .inr (2, [.null, .ref q35, .ref q37, .ref q39, .ref q41, .ref q43, .ref q45, .ref q47, .null, .null, .null, .null, .null, .null, .null, .int 0, .int 0, .int 0, .int 0, .int 0])), (q49, .inr (6, [(u8.2.2 0 0)]))]) (fun _ => rfl) dX2_init_102 (fun u8 => ?_)
  refine v_sub (ws' := [(a0, .inr (2, [.null, .ref q35, .ref q37, .ref q39, .ref q41, .ref q43, .ref q45, .ref q47, .null, .null, .null, .null, .null, .null, .null, .int 0, .int 0, .int 0, .int 0, .int 0]))]) [0] rfl rfl ?_
  refine v_putF C hin EX2 0 rfl rfl 8 (by decide) k86 rfl rfl rfl rfl (Nat.le_of_ble_eq_true rfl) [(a0, .inr (2, [.null, .ref q35, .ref q37, .ref q39, .ref q41, .ref q43, .ref q45, .ref q47, .ref q49, .null, .null, .null, .null, .null, .null, .int 0, .int 0, .int 0, .int 0, .int 0]))] rfl dX2_init_105 ?_
  refine v_aload_n C dX2_init_108 rfl 0 rfl ?_
  refine v_new C EX6 rfl [.null] zX6 k75 k25 k26 (Nat.le_of_ble_eq_true rfl) (Nat.le_of_ble_eq_true rfl) (fun q51 => [(a0, .inr (2, [.null, .ref q35, .ref q37, .ref q39, .ref q41, .ref q43, .ref q45, .ref q47, .ref q49, .null, .null, .null, .null, .null, .null, .int 0, .int 0, .int 0, .int 0, .int 0])), (q51, .inr (6, [.null]))]) (fun _ => rfl) dX2_init_109 (fun q51 => ?_)
  refine v_dup C dX2_init_112 rfl ?_
  refine v_ldc C dX2_init_113 k76 ?_
  refine v_callI C FX6_init k37 rfl k77 (c7_X6_init l D d q51) (fun h => nomatch h) (wr := [(a0, .inr (2, [.null, .ref q35, .ref q37, .ref q39, .ref q41, .ref q43, .ref q45, .ref q47, .ref q49, .null, .null, .null, .null, .null, .null, .int 0, .int 0, .int 0, .int 0, .int 0]))]) (rest := [.ref q51, .ref a0]) [1] [0] rfl rfl rfl rfl (by decide) ⟨rfl, rfl⟩ ⟨Nat.le_of_ble_eq_true rfl, Nat.le_of_ble_eq_true rfl⟩ ⟨Nat.le_of_ble_eq_true rfl, Nat.le_of_ble_eq_true rfl⟩ (Nat.le_of_ble_eq_true rfl) rfl rfl (fun u9 => [(a0, .inr (2, [.null, .ref q35, .ref q37, .ref q39, .ref q41, .ref q43, .ref q45, .ref q47, .ref q49, .null, .null, .null, .null, .null, .null, .int 0, .int 0, .int 0, .int 0, .int 0])), (q51, .inr (6, [(u9.2.2 0 0)]))]) (fun _ => rfl) dX2_init_115 (fun u9 => ?_)
  refine v_sub (ws' := [(a0, .inr (2, [.null, .ref q35, .ref q37, .ref q39, .ref q41, .ref q43, .ref q45, .ref q47, .ref q49, .null, .null, .null, .null, .null, .null, .int 0, .int 0, .int 0, .int 0, .int 0]))]) [0] rfl rfl ?_
  refine v_putF C hin EX2 0 rfl rfl 9 (by decide) k87 rfl rfl rfl rfl (Nat.le_of_ble_eq_true rfl) [(a0, .inr (2, [.null, .ref q35, .ref q37, .ref q39, .ref q41, .ref q43, .ref q45, .ref q47, .ref q49, .ref q51, .null, .null, .null, .null, .null, .int 0, .int 0, .int 0, .int 0, .int 0]))] rfl dX2_init_118 ?_
  refine v_aload_n C dX2_init_121 rfl 0 rfl ?_
  refine v_new C EX6 rfl [.null] zX6 k75 k25 k26 (Nat.le_of_ble_eq_true rfl) (Nat.le_of_ble_eq_true rfl) (fun q53 => [(a0, .inr (2, [.null, .ref q35, .ref q37, .ref q39, .ref q41, .ref q43, .ref q45, .ref q47, .ref q49, .ref q51, .null, .null, .null, .null, .null, .int 0, .int 0, .int 0, .int 0, .int 0])), (q53, .inr (6, [.null]))]) (fun _ => rfl) dX2_init_122 (fun q53 => ?_)
  refine v_dup C dX2_init_125 rfl ?_
  refine v_ldc C dX2_init_126 k76 ?_
  refine v_callI C FX6_init k37 rfl k77 (c7_X6_init l D d q53) (fun h => nomatch h) (wr := [(a0, .inr (2, [.null, .ref q35, .ref q37, .ref q39, .ref q41, .ref q43, .ref q45, .ref q47, .ref q49, .ref q51, .null, .null, .null, .null, .null, .int 0, .int 0, .int 0, .int 0, .int 0]))]) (rest := [.ref q53, .ref a0]) [1] [0] rfl rfl rfl rfl (by decide) ⟨rfl, rfl⟩ ⟨Nat.le_of_ble_eq_true rfl, Nat.le_of_ble_eq_true rfl⟩ ⟨Nat.le_of_ble_eq_true rfl, Nat.le_of_ble_eq_true rfl⟩ (Nat.le_of_ble_eq_true rfl) rfl rfl (fun u10 => [(a0, .inr (2, [.null, .ref q35, .ref q37, .ref q39, .ref q41, .ref q43, .ref q45, .ref q47, .ref q49, .ref q51, .null, .null, .null, .null, .null, .int 0, .int 0, .int 0, .int 0, .int 0])), (q53, .inr (6, [(u10.2.2 0 0)]))]) (fun _ => rfl) dX2_init_128 (fun u10 => ?_)
  refine v_sub (ws' := [(a0, .inr (2, [.null, .ref q35, .ref q37, .ref q39, .ref q41, .ref q43, .ref q45, .ref q47, .ref q49, .ref q51, .null, .null, .null, .null, .null, .int 0, .int 0, .int 0, .int 0, .int 0]))]) [0] rfl rfl ?_
  refine v_putF C hin EX2 0 rfl rfl 10 (by decide) k88 rfl rfl rfl rfl (Nat.le_of_ble_eq_true rfl) [(a0, .inr (2, [.null, .ref q35, .ref q37, .ref q39, .ref q41, .ref q43, .ref q45, .ref q47, .ref q49, .ref q51, .ref q53, .null, .null, .null, .null, .int 0, .int 0, .int 0, .int 0, .int 0]))] rfl dX2_init_131 ?_
  refine v_aload_n C dX2_init_134 rfl 0 rfl ?_
  refine v_new C EX6 rfl [.null] zX6 k75 k25 k26 (Nat.le_of_ble_eq_true rfl) (Nat.le_of_ble_eq_true rfl) (fun q55 => [(a0, .inr (2, [.null, .ref q35, .ref q37, .ref q39, .ref q41, .ref q43, .ref q45, .ref q47, .ref q49, .ref q51, .ref q53, .null, .null, .null, .null, .int 0, .int 0, .int 0, .int 0, .int 0])), (q55, .inr (6, [.null]))]) (fun _ => rfl) dX2_init_135 (fun q55 => ?_)
  refine v_dup C dX2_init_138 rfl ?_
  refine v_ldc C dX2_init_139 k76 ?_
  refine v_callI C FX6_init k37 rfl k77 (c7_X6_init l D d q55) (fun h => nomatch h) (wr := [(a0, .inr (2, [.null, .ref q35, .ref q37, .ref q39, .ref q41, .ref q43, .ref q45, .ref q47, .ref q49, .ref q51, .ref q53, .null, .null, .null, .null, .int 0, .int 0, .int 0, .int 0, .int 0]))]) (rest := [.ref q55, .ref a0]) [1] [0] rfl rfl rfl rfl (by decide) ⟨rfl, rfl⟩ ⟨Nat.le_of_ble_eq_true rfl, Nat.le_of_ble_eq_true rfl⟩ ⟨Nat.le_of_ble_eq_true rfl, Nat.le_of_ble_eq_true rfl⟩ (Nat.le_of_ble_eq_true rfl) rfl rfl (fun u11 => [(a0, .inr (2, [.null, .ref q35, .ref q37, .ref q39, .ref q41, .ref q43, .ref q45, .ref q47, .ref q49, .ref q51, .ref q53, .null, .null, .null, .null, .int 0, .int 0, .int 0, .int 0, .int 0])), (q55, .inr (6, [(u11.2.2 0 0)]))]) (fun _ => rfl) dX2_init_141 (fun u11 => ?_)
  refine v_sub (ws' := [(a0, .inr (2, [.null, .ref q35, .ref q37, .ref q39, .ref q41, .ref q43, .ref q45, .ref q47, .ref q49, .ref q51, .ref q53, .null, .null, .null, .null, .int 0, .int 0, .int 0, .int 0, .int 0]))]) [0] rfl rfl ?_
  refine v_putF C hin EX2 0 rfl rfl 11 (by decide) k89 rfl rfl rfl rfl (Nat.le_of_ble_eq_true rfl) [(a0, .inr (2, [.null, .ref q35, .ref q37, .ref q39, .ref q41, .ref q43, .ref q45, .ref q47, .ref q49, .ref q51, .ref q53, .ref q55, .null, .null, .null, .int 0, .int 0, .int 0, .int 0, .int 0]))] rfl dX2_init_144 ?_
  refine v_aload_n C dX2_init_147 rfl 0 rfl ?_
  refine v_new C EX6 rfl [.null] zX6 k75 k25 k26 (Nat.le_of_ble_eq_true rfl) (Nat.le_of_ble_eq_true rfl) (fun q57 => [(a0, .inr (2, [.null, .ref q35, .ref q37, .ref q39, .ref q41, .ref q43, .ref q45, .ref q47, .ref q49, .ref q51, .ref q53, .ref q55, .null, .null, .null, .int 0, .int 0, .int 0, .int 0, .int 0])), (q57, .inr (6, [.null]))]) (fun _ => rfl) dX2_init_148 (fun q57 => ?_)
  refine v_dup C dX2_init_151 rfl ?_
  refine v_ldc C dX2_init_152 k76 ?_
  refine v_callI C FX6_init k37 rfl k77 (c7_X6_init l D d q57) (fun h => nomatch h) (wr := [(a0, .inr (2, [.null, .ref q35, .ref q37, .ref q39, .ref q41, .ref q43, .ref q45, .ref q47, .ref q49, .ref q51, .ref q53, .ref q55, .null, .null, .null, .int 0, .int 0, .int 0, .int 0, .int 0]))]) (rest := [.ref q57, .ref a0]) [1] [0] rfl rfl rfl rfl (by decide) ⟨rfl, rfl⟩ ⟨Nat.le_of_ble_eq_true rfl, Nat.le_of_ble_eq_true rfl⟩ ⟨Nat.le_of_ble_eq_true rfl, Nat.le_of_ble_eq_true rfl⟩ (Nat.le_of_ble_eq_true rfl) rfl rfl (fun u12 => [(a0, .inr (2, [.null, .ref q35, .ref q37, .ref q39, .ref q41, .ref q43, .ref q45, .ref q47, .ref q49, .ref q51, .ref q53, .ref q55, .null, .null, .null, .int 0, .int 0, .int 0, .int 0, .int 0])), (q57, .inr (6, [(u12.2.2 0 0)]))]) (fun _ => rfl) dX2_init_154 (fun u12 => ?_)
  refine v_sub (ws' := [(a0, .inr (2, [.null, .ref q35, .ref q37, .ref q39, .ref q41, .ref q43, .ref q45, .ref q47, .ref q49, .ref q51, .ref q53, .ref q55, .null, .null, .null, .int 0, .int 0, .int 0, .int 0, .int 0]))]) [0] rfl rfl ?_
  refine v_putF C hin EX2 0 rfl rfl 12 (by decide) k90 rfl rfl rfl rfl (Nat.le_of_ble_eq_true rfl) [(a0, .inr (2, [.null, .ref q35, .ref q37, .ref q39, .ref q41, .ref q43, .ref q45, .ref q47, .ref q49, .ref q51, .ref q53, .ref q55, .ref q57, .null, .null, .int 0, .int 0, .int 0, .int 0, .int 0]))] rfl dX2_init_157 ?_
  refine v_aload_n C dX2_init_160 rfl 0 rfl ?_
  refine v_new C EX6 rfl [.null] zX6 k75 k25 k26 (Nat.le_of_ble_eq_true rfl) (Nat.le_of_ble_eq_true rfl) (fun q59 => [(a0, .inr (2, [.null, .ref q35, .ref q37, .ref q39, .ref q41, .ref q43, .ref q45, .ref q47, .ref q49, .ref q51, .ref q53, .ref q55, .ref q57, .null, .null, .int 0, .int 0, .int 0, .int 0, .int 0])), (q59, .inr (6, [.null]))]) (fun _ => rfl) dX2_init_161 (fun q59 => ?_)
  refine v_dup C dX2_init_164 rfl ?_
  refine v_ldc C dX2_init_165 k76 ?_
  refine v_callI C FX6_init k37 rfl k77 (c7_X6_init l D d q59) (fun h => nomatch h) (wr := [(a0, .inr (2, [.null, .ref q35, .ref q37, .ref q39, .ref q41, .ref q43, .ref q45, .ref q47, .ref q49, .ref q51, .ref q53, .ref q55, .ref q57, .null, .null, .int 0, .int 0, .int 0, .int 0, .int 0]))]) (rest := [.ref q59, .ref a0]) [1] [0] rfl rfl rfl rfl (by decide) ⟨rfl, rfl⟩ ⟨Nat.le_of_ble_eq_true rfl, Nat.le_of_ble_eq_true rfl⟩ ⟨Nat.le_of_ble_eq_true rfl, Nat.le_of_ble_eq_true rfl⟩ (Nat.le_of_ble_eq_true rfl) rfl rfl (fun u13 => [(a0, .inr (2, [.null, .ref q35, .ref q37, .ref q39, .ref q41, .ref q43, .ref q45, .ref q47, .ref q49, .ref q51, .ref q53, .ref q55, .ref q57, .null, .null, .int 0, .int 0, .int 0, .int 0, .int 0])), (q59, .inr (6, [(u13.2.2 0 0)]))]) (fun _ => rfl) dX2_init_167 (fun u13 => ?_)
  refine v_sub (ws' := [(a0, .inr (2, [.null, .ref q35, .ref q37, .ref q39, .ref q41, .ref q43, .ref q45, .ref q47, .ref q49, .ref q51, .ref q53, .ref q55, .ref q57, .null, .null, .int 0, .int 0, .int 0, .int 0, .int 0]))]) [0] rfl rfl ?_
  refine v_putF C hin EX2 0 rfl rfl 13 (by decide) k91 rfl rfl rfl rfl (Nat.le_of_ble_eq_true rfl) [(a0, .inr (2, [.null, .ref q35, .ref q37, .ref q39, .ref q41, .ref q43, .ref q45, .ref q47, .ref q49, .ref q51, .ref q53, .ref q55, .ref q57, .ref q59, .null, .int 0, .int 0, .int 0, .int 0, .int 0]))] rfl dX2_init_170 ?_
  refine v_aload_n C dX2_init_173 rfl 0 rfl ?_
  refine v_new C EX6 rfl [.null] zX6 k75 k25 k26 (Nat.le_of_ble_eq_true rfl) (Nat.le_of_ble_eq_true rfl) (fun q61 => [(a0, .inr (2, [.null, .ref q35, .ref q37, .ref q39, .ref q41, .ref q43, .ref q45, .ref q47, .ref q49, .ref q51, .ref q53, .ref q55, .ref q57, .ref q59, .null, .int 0, .int 0, .int 0, .int 0, .int 0])), (q61, .inr (6, [.null]))]) (fun _ => rfl) dX2_init_174 (fun q61 => ?_)
  refine v_dup C dX2_init_177 rfl ?_
  refine v_ldc C dX2_init_178 k76 ?_
  refine v_callI C FX6_init k37 rfl k77 (c7_X6_init l D d q61) (fun h => nomatch h) (wr := [(a0, .inr (2, [.null, .ref q35, .ref q37, .ref q39, .ref q41, .ref q43, .ref q45, .ref q47, .ref q49, .ref q51, .ref q53, .ref q55, .ref q57, .ref q59, .null, .int 0, .int 0, .int 0, .int 0, .int 0]))]) (rest := [.ref q61, .ref a0]) [1] [0] rfl rfl rfl rfl (by decide) ⟨rfl, rfl⟩ ⟨Nat.le_of_ble_eq_true rfl, Nat.le_of_ble_eq_true rfl⟩ ⟨Nat.le_of_ble_eq_true rfl, Nat.le_of_ble_eq_true rfl⟩ (Nat.le_of_ble_eq_true rfl) rfl rfl (fun u14 => [(a0, .inr (2, [.null, .ref q35, .ref q37, .ref q39, .ref q41, .ref q43, .ref q45, .ref q47, .ref q49, .ref q51, .ref q53, .ref q55, .ref q57, .ref q59, .null, .int 0, .int 0, .int 0, .int 0, .int 0])), (q61, .inr (6, [(u14.2.2 0 0)]))]) (fun _ => rfl) dX2_init_180 (fun u14 => ?_)
  refine v_sub (ws' := [(a0, .inr (2, [.null, .ref q35, .ref q37, .ref q39, .ref q41, .ref q43, .ref q45, .ref q47, .ref q49, .ref q51, .ref q53, .ref q55, .ref q57, .ref q59, .null, .int 0, .int 0, .int 0, .int 0, .int 0]))]) [0] rfl rfl ?_
  refine v_putF C hin EX2 0 rfl rfl 14 (by decide) k92 rfl rfl rfl rfl (Nat.le_of_ble_eq_true rfl) [(a0, .inr (2, [.null, .ref q35, .ref q37, .ref q39, .ref q41, .ref q43, .ref q45, .ref q47, .ref q49, .ref q51, .ref q53, .ref q55, .ref q57, .ref q59, .ref q61, .int 0, .int 0, .int 0, .int 0, .int 0]))] rfl dX2_init_183 ?_
  refine v_aload_n C dX2_init_186 rfl 0 rfl ?_
  refine v_aload_n C dX2_init_187 rfl 1 rfl ?_
  refine v_putF C hin EX2 0 rfl rfl 0 (by decide) k93 rfl rfl rfl rfl (Nat.le_of_ble_eq_true rfl) [(a0, .inr (2, [.ref a1, .ref q35, .ref q37, .ref q39, .ref q41, .ref q43, .ref q45, .ref q47, .ref q49, .ref q51, .ref q53, .ref q55, .ref q57, .ref q59, .ref q61, .int 0, .int 0, .int 0, .int 0, .int 0]))] rfl dX2_init_188 ?_
  exact v_return C (S := g_S) ((fun _ => 0, fun _ _ => 0, fun i => [(fun k => vp_V [.ref a1, .ref q35, .ref q37, .ref q39, .ref q41, .ref q43, .ref q45, .ref q47, .ref q49, .ref q51, .ref q53, .ref q55, .ref q57, .ref q59, .ref q61, .int 0, .int 0, .int 0, .int 0, .int 0] k)].getD i (fun _ => .null)) : g_S) hr hlocks [0] rfl rfl (Nat.le_of_ble_eq_true rfl) (Nat.le_of_ble_eq_true rfl) dX2_init_191

