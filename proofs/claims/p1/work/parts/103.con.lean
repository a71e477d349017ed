set_option maxRecDepth 100000 in
set_option maxHeartbeats 4000000 in
/-- GroundProver$Reader.length()I -/
theorem c21_X5_length (l : Launch) (D : va_G) (d : Nat → ClassId) (a0 : Nat) (a1 : Nat) (a2 : Nat) (a3 : Nat) (g0 : Nat → Value) : ∀ sz, Met l yX5_length (g_wd yX5_length cX5_length 1 (some .int)) (g_rm 0 0 0) (va_Pc [.ref a0] (g_pr false D d [(a0, .inr (5, [.ref a1, .ref a2, .ref a3, .int 0, .int 0, .int 0, .int 0, .int 0, .int 0, .int (-1), (g0 10), (g0 11), (g0 12), (g0 13), .int 0, (g0 15), (g0 16), (g0 17), .int 0]))] sz)) (q_i D 0 (fun u : g_S => [(a0, .inr (5, [.ref a1, .ref a2, .ref a3, .int 0, .int 0, .int 0, .int 0, .int 0, .int 0, .int (-1), (g0 10), (g0 11), (g0 12), (g0 13), .int 0, (g0 15), (g0 16), (g0 17), .int 0]))]) (va_A [(a0, .inr (5, [.ref a1, .ref a2, .ref a3, .int 0, .int 0, .int 0, .int 0, .int 0, .int 0, .int (-1), (g0 10), (g0 11), (g0 12), (g0 13), .int 0, (g0 15), (g0 16), (g0 17), .int 0]))] sz)) 0 0 (va_A [(a0, .inr (5, [.ref a1, .ref a2, .ref a3, .int 0, .int 0, .int 0, .int 0, .int 0, .int 0, .int (-1), (g0 10), (g0 11), (g0 12), (g0 13), .int 0, (g0 15), (g0 16), (g0 17), .int 0]))] sz) := by
  refine s_met (y := yX5_length) (cc := cX5_length) (maxL := 1) (ret := (some .int)) (rm := (g_rm 0 0 0)) (mc := 0) (ms := 0) (E := false) (W0 := [(a0, .inr (5, [.ref a1, .ref a2, .ref a3, .int 0, .int 0, .int 0, .int 0, .int 0, .int 0, .int (-1), (g0 10), (g0 11), (g0 12), (g0 13), .int 0, (g0 15), (g0 16), (g0 17), .int 0]))]) (av := [.ref a0]) (Qf := fun A => q_i D 0 (fun u : g_S => [(a0, .inr (5, [.ref a1, .ref a2, .ref a3, .int 0, .int 0, .int 0, .int 0, .int 0, .int 0, .int (-1), (g0 10), (g0 11), (g0 12), (g0 13), .int 0, (g0 15), (g0 16), (g0 17), .int 0]))]) A) pn_X5 (Nat.le_of_ble_eq_true rfl) [(0, .ref a0)] rfl (fun p e s m below meth c A C hr hlocks hin hEx => ?_)
  refine v_aload_n C dX5_length_0 rfl 0 rfl ?_
  refine v_get C EX5 0 rfl rfl 3 (by decide) k285 rfl dX5_length_1 ?_
  exact v_ireturn C (S := g_S) ((fun _ => 0, fun _ _ => 0, fun _ _ => .null) : g_S) hr hlocks [0] rfl rfl (Nat.le_of_ble_eq_true rfl) (Nat.le_of_ble_eq_true rfl) dX5_length_4

set_option maxRecDepth 100000 in
set_option maxHeartbeats 4000000 in
/-- GroundProver$Reader.append(I)V -/
theorem c22_X5_append (l : Launch) (D : va_G) (d : Nat → ClassId) (a0 : Nat) (a1 : Nat) (a2 : Nat) (a3 : Nat) (g0 : Nat → Value) (f1 : Nat → Int32) (p0 : Int32) : ∀ sz, Met l yX5_append (g_wd yX5_append cX5_append 3 none) (g_rm 0 0 0) (va_Pc [.ref a0, .int p0] (g_pr false D d [(a0, .inr (5, [.ref a2, .ref a3, .ref a1, .int 0, .int 0, .int 0, .int 0, .int 0, .int 0, .int (-1), (g0 10), (g0 11), (g0 12), (g0 13), .int 0, (g0 15), (g0 16), (g0 17), .int 0])), (a1, .inl (d 1, 400, .inl f1))] sz)) (q_v D (fun u : g_S => [(a0, .inr (5, [.ref a2, .ref a3, .ref a1, .int 4, .int 0, .int 0, .int 0, .int 0, .int 0, .int (-1), (g0 10), (g0 11), (g0 12), (g0 13), .int 0, (g0 15), (g0 16), (g0 17), .int 0])), (a1, .inl (d 1, 400, .inl (u.2.1 0)))]) (va_A [(a0, .inr (5, [.ref a2, .ref a3, .ref a1, .int 0, .int 0, .int 0, .int 0, .int 0, .int 0, .int (-1), (g0 10), (g0 11), (g0 12), (g0 13), .int 0, (g0 15), (g0 16), (g0 17), .int 0])), (a1, .inl (d 1, 400, .inl f1))] sz)) 0 0 (va_A [(a0, .inr (5, [.ref a2, .ref a3, .ref a1, .int 0, .int 0, .int 0, .int 0, .int 0, .int 0, .int (-1), (g0 10), (g0 11), (g0 12), (g0 13), .int 0, (g0 15), (g0 16), (g0 17), .int 0])), (a1, .inl (d 1, 400, .inl f1))] sz) := by
  refine s_met (y := yX5_append) (cc := cX5_append) (maxL := 3) (ret := none) (rm := (g_rm 0 0 0)) (mc := 0) (ms := 0) (E := false) (W0 := [(a0, .inr (5, [.ref a2, .ref a3, .ref a1, .int 0, .int 0, .int 0, .int 0, .int 0, .int 0, .int (-1), (g0 10), (g0 11), (g0 12), (g0 13), .int 0, (g0 15), (g0 16), (g0 17), .int 0])), (a1, .inl (d 1, 400, .inl f1))]) (av := [.ref a0, .int p0]) (Qf := fun A => q_v D (fun u : g_S => [(a0, .inr (5, [.ref a2, .ref a3, .ref a1, .int 4, .int 0, .int 0, .int 0, .int 0, .int 0, .int (-1), (g0 10), (g0 11), (g0 12), (g0 13), .int 0, (g0 15), (g0 16), (g0 17), .int 0])), (a1, .inl (d 1, 400, .inl (u.2.1 0)))]) A) pn_X5 (Nat.le_of_ble_eq_true rfl) [(0, .ref a0), (1, .int p0)] rfl (fun p e s m below meth c A C hr hlocks hin hEx => ?_)
  refine v_bipush (v := 24) C dX5_append_0 (by decide +kernel) ?_
  refine v_istore_n C dX5_append_2 rfl (by decide) [(2, .int 24), (0, .ref a0), (1, .int p0)] rfl ?_
  refine v_iload_n C dX5_append_3 rfl 0 rfl ?_
  refine v_if_lt_f C 53 dX5_append_4 (by decide) (by decide +kernel) ?_
  refine v_aload_n C dX5_append_7 rfl 1 rfl ?_
  refine v_get C EX5 0 rfl rfl 3 (by decide) k285 rfl dX5_append_8 ?_
  refine v_if_lt_f C 47 dX5_append_11 (by decide) (by decide +kernel) ?_
  refine v_aload_n C dX5_append_14 rfl 1 rfl ?_
  refine v_get C EX5 0 rfl rfl 3 (by decide) k285 rfl dX5_append_15 ?_
  refine v_sipush (v := 400) C dX5_append_18 (by decide +kernel) ?_
  refine v_icmp_ge_f C 47 dX5_append_21 (by decide) (by decide +kernel) ?_
  refine v_aload_n C dX5_append_24 rfl 1 rfl ?_
  refine v_get C EX5 0 rfl rfl 2 (by decide) k148 rfl dX5_append_25 ?_
  refine v_aload_n C dX5_append_28 rfl 1 rfl ?_
  refine v_get C EX5 0 rfl rfl 3 (by decide) k285 rfl dX5_append_29 ?_
  refine v_iload_n C dX5_append_32 rfl 2 rfl ?_
  refine v_iload_n C dX5_append_33 rfl 0 rfl ?_
  refine v_ishr_s C dX5_append_34 (fun v1 => ?_)
  refine v_i2b_s C dX5_append_35 (fun v2 => ?_)
  refine v_bast C 1 1 rfl rfl (by unfold vp_in; decide +kernel) (fun w3 => [(a0, .inr (5, [.ref a2, .ref a3, .ref a1, .int 0, .int 0, .int 0, .int 0, .int 0, .int 0, .int (-1), (g0 10), (g0 11), (g0 12), (g0 13), .int 0, (g0 15), (g0 16), (g0 17), .int 0])), (a1, .inl (d 1, 400, .inl w3))]) (fun _ => rfl) dX5_append_36 (fun w3 => ?_)
  refine v_aload_n C dX5_append_37 rfl 1 rfl ?_
  refine v_dup C dX5_append_38 rfl ?_
  refine v_get C EX5 0 rfl rfl 3 (by decide) k285 rfl dX5_append_39 ?_
  refine v_iconst (v := 1) C dX5_append_42 (by decide +kernel) ?_
  refine v_iadd C 1 dX5_append_43 (by decide +kernel) ?_
  refine v_put C EX5 0 rfl rfl 3 (by decide) k285 rfl rfl rfl (Nat.le_of_ble_eq_true rfl) [(a0, .inr (5, [.ref a2, .ref a3, .ref a1, .int 1, .int 0, .int 0, .int 0, .int 0, .int 0, .int (-1), (g0 10), (g0 11), (g0 12), (g0 13), .int 0, (g0 15), (g0 16), (g0 17), .int 0])), (a1, .inl (d 1, 400, .inl w3))] rfl dX5_append_44 ?_
  refine v_iinc C 16 dX5_append_47 0 rfl (by decide +kernel) (by decide) [(2, .int 16), (0, .ref a0), (1, .int p0)] rfl ?_
  refine v_goto C 3 dX5_append_50 (by decide) ?_
  refine v_iload_n C dX5_append_3 rfl 0 rfl ?_
  refine v_if_lt_f C 53 dX5_append_4 (by decide) (by decide +kernel) ?_
  refine v_aload_n C dX5_append_7 rfl 1 rfl ?_
  refine v_get C EX5 0 rfl rfl 3 (by decide) k285 rfl dX5_append_8 ?_
  refine v_if_lt_f C 47 dX5_append_11 (by decide) (by decide +kernel) ?_
  refine v_aload_n C dX5_append_14 rfl 1 rfl ?_
  refine v_get C EX5 0 rfl rfl 3 (by decide) k285 rfl dX5_append_15 ?_
  refine v_sipush (v := 400) C dX5_append_18 (by decide +kernel) ?_
  refine v_icmp_ge_f C 47 dX5_append_21 (by decide) (by decide +kernel) ?_
  refine v_aload_n C dX5_append_24 rfl 1 rfl ?_
  refine v_get C EX5 0 rfl rfl 2 (by decide) k148 rfl dX5_append_25 ?_
  refine v_aload_n C dX5_append_28 rfl 1 rfl ?_
  refine v_get C EX5 0 rfl rfl 3 (by decide) k285 rfl dX5_append_29 ?_
  refine v_iload_n C dX5_append_32 rfl 2 rfl ?_
  refine v_iload_n C dX5_append_33 rfl 0 rfl ?_
  refine v_ishr_s C dX5_append_34 (fun v4 => ?_)
  refine v_i2b_s C dX5_append_35 (fun v5 => ?_)
  refine v_bast C 1 1 rfl rfl (by unfold vp_in; decide +kernel) (fun w6 => [(a0, .inr (5, [.ref a2, .ref a3, .ref a1, .int 1, .int 0, .int 0, .int 0, .int 0, .int 0, .int (-1), (g0 10), (g0 11), (g0 12), (g0 13), .int 0, (g0 15), (g0 16), (g0 17), .int 0])), (a1, .inl (d 1, 400, .inl w6))]) (fun _ => rfl) dX5_append_36 (fun w6 => ?_)
  refine v_aload_n C dX5_append_37 rfl 1 rfl ?_
  refine v_dup C dX5_append_38 rfl ?_
  refine v_get C EX5 0 rfl rfl 3 (by decide) k285 rfl dX5_append_39 ?_
  refine v_iconst (v := 1) C dX5_append_42 (by decide +kernel) ?_
  refine v_iadd C 2 dX5_append_43 (by decide +kernel) ?_
  refine v_put C EX5 0 rfl rfl 3 (by decide) k285 rfl rfl rfl (Nat.le_of_ble_eq_true rfl) [(a0, .inr (5, [.ref a2, .ref a3, .ref a1, .int 2, .int 0, .int 0, .int 0, .int 0, .int 0, .int (-1), (g0 10), (g0 11), (g0 12), (g0 13), .int 0, (g0 15), (g0 16), (g0 17), .int 0])), (a1, .inl (d 1, 400, .inl w6))] rfl dX5_append_44 ?_
  refine v_iinc C 8 dX5_append_47 0 rfl (by decide +kernel) (by decide) [(2, .int 8), (0, .ref a0), (1, .int p0)] rfl ?_
  refine v_goto C 3 dX5_append_50 (by decide) ?_
  refine v_iload_n C dX5_append_3 rfl 0 rfl ?_
  refine v_if_lt_f C 53 dX5_append_4 (by decide) (by decide +kernel) ?_
  refine v_aload_n C dX5_append_7 rfl 1 rfl ?_
  refine v_get C EX5 0 rfl rfl 3 (by decide) k285 rfl dX5_append_8 ?_
  refine v_if_lt_f C 47 dX5_append_11 (by decide) (by decide +kernel) ?_
  refine v_aload_n C dX5_append_14 rfl 1 rfl ?_
  refine v_get C EX5 0 rfl rfl 3 (by decide) k285 rfl dX5_append_15 ?_
  refine v_sipush (v := 400) C dX5_append_18 (by decide +kernel) ?_
  refine v_icmp_ge_f C 47 dX5_append_21 (by decide) (by decide +kernel) ?_
  refine v_aload_n C dX5_append_24 rfl 1 rfl ?_
  refine v_get C EX5 0 rfl rfl 2 (by decide) k148 rfl dX5_append_25 ?_
  refine v_aload_n C dX5_append_28 rfl 1 rfl ?_
  refine v_get C EX5 0 rfl rfl 3 (by decide) k285 rfl dX5_append_29 ?_
  refine v_iload_n C dX5_append_32 rfl 2 rfl ?_
  refine v_iload_n C dX5_append_33 rfl 0 rfl ?_
  refine v_ishr_s C dX5_append_34 (fun v7 => ?_)
  refine v_i2b_s C dX5_append_35 (fun v8 => ?_)
  refine v_bast C 1 1 rfl rfl (by unfold vp_in; decide +kernel) (fun w9 => [(a0, .inr (5, [.ref a2, .ref a3, .ref a1, .int 2, .int 0, .int 0, .int 0, .int 0, .int 0, .int (-1), (g0 10), (g0 11), (g0 12), (g0 13), .int 0, (g0 15), (g0 16), (g0 17), .int 0])), (a1, .inl (d 1, 400, .inl w9))]) (fun _ => rfl) dX5_append_36 (fun w9 => ?_)
  refine v_aload_n C dX5_append_37 rfl 1 rfl ?_
  refine v_dup C dX5_append_38 rfl ?_
  refine v_get C EX5 0 rfl rfl 3 (by decide) k285 rfl dX5_append_39 ?_
  refine v_iconst (v := 1) C dX5_append_42 (by decide +kernel) ?_
  refine v_iadd C 3 dX5_append_43 (by decide +kernel) ?_
  refine v_put C EX5 0 rfl rfl 3 (by decide) k285 rfl rfl rfl (Nat.le_of_ble_eq_true rfl) [(a0, .inr (5, [.ref a2, .ref a3, .ref a1, .int 3, .int 0, .int 0, .int 0, .int 0, .int 0, .int (-1), (g0 10), (g0 11), (g0 12), (g0 13), .int 0, (g0 15), (g0 16), (g0 17), .int 0])), (a1, .inl (d 1, 400, .inl w9))] rfl dX5_append_44 ?_
  refine v_iinc C 0 dX5_append_47 0 rfl (by decide +kernel) (by decide) [(2, .int 0), (0, .ref a0), (1, .int p0)] rfl ?_
  refine v_goto C 3 dX5_append_50 (by decide) ?_
  refine v_iload_n C dX5_append_3 rfl 0 rfl ?_
  refine v_if_lt_f C 53 dX5_append_4 (by decide) (by decide +kernel) ?_
  refine v_aload_n C dX5_append_7 rfl 1 rfl ?_
  refine v_get C EX5 0 rfl rfl 3 (by decide) k285 rfl dX5_append_8 ?_
  refine v_if_lt_f C 47 dX5_append_11 (by decide) (by decide +kernel) ?_
  refine v_aload_n C dX5_append_14 rfl 1 rfl ?_
  refine v_get C EX5 0 rfl rfl 3 (by decide) k285 rfl dX5_append_15 ?_
  refine v_sipush (v := 400) C dX5_append_18 (by decide +kernel) ?_
  refine v_icmp_ge_f C 47 dX5_append_21 (by decide) (by decide +kernel) ?_
  refine v_aload_n C dX5_append_24 rfl 1 rfl ?_
  refine v_get C EX5 0 rfl rfl 2 (by decide) k148 rfl dX5_append_25 ?_
  refine v_aload_n C dX5_append_28 rfl 1 rfl ?_
  refine v_get C EX5 0 rfl rfl 3 (by decide) k285 rfl dX5_append_29 ?_
  refine v_iload_n C dX5_append_32 rfl 2 rfl ?_
  refine v_iload_n C dX5_append_33 rfl 0 rfl ?_
  refine v_ishr_s C dX5_append_34 (fun v10 => ?_)
  refine v_i2b_s C dX5_append_35 (fun v11 => ?_)
  refine v_bast C 1 1 rfl rfl (by unfold vp_in; decide +kernel) (fun w12 => [(a0, .inr (5, [.ref a2, .ref a3, .ref a1, .int 3, .int 0, .int 0, .int 0, .int 0, .int 0, .int (-1), (g0 10), (g0 11), (g0 12), (g0 13), .int 0, (g0 15), (g0 16), (g0 17), .int 0])), (a1, .inl (d 1, 400, .inl w12))]) (fun _ => rfl) dX5_append_36 (fun w12 => ?_)
  refine v_aload_n C dX5_append_37 rfl 1 rfl ?_
  refine v_dup C dX5_append_38 rfl ?_
  refine v_get C EX5 0 rfl rfl 3 (by decide) k285 rfl dX5_append_39 ?_
  refine v_iconst (v := 1) C dX5_append_42 (by decide +kernel) ?_
  refine v_iadd C 4 dX5_append_43 (by decide +kernel) ?_
  refine v_put C EX5 0 rfl rfl 3 (by decide) k285 rfl rfl rfl (Nat.le_of_ble_eq_true rfl) [(a0, .inr (5, [.ref a2, .ref a3, .ref a1, .int 4, .int 0, .int 0, .int 0, .int 0, .int 0, .int (-1), (g0 10), (g0 11), (g0 12), (g0 13), .int 0, (g0 15), (g0 16), (g0 17), .int 0])), (a1, .inl (d 1, 400, .inl w12))] rfl dX5_append_44 ?_
  refine v_iinc C (-8) dX5_append_47 0 rfl (by decide +kernel) (by decide) [(2, .int (-8)), (0, .ref a0), (1, .int p0)] rfl ?_
  refine v_goto C 3 dX5_append_50 (by decide) ?_
  refine v_iload_n C dX5_append_3 rfl 0 rfl ?_
  refine v_if_lt_t C 53 dX5_append_4 (by decide) (by decide +kernel) ?_
  exact v_return C (S := g_S) ((fun _ => 0, fun i => [w12].getD i (fun _ => 0), fun _ _ => .null) : g_S) hr hlocks [0, 1] rfl rfl (Nat.le_of_ble_eq_true rfl) (Nat.le_of_ble_eq_true rfl) dX5_append_53

set_option maxRecDepth 100000 in
set_option maxHeartbeats 4000000 in
/-- GroundProver$Reader.append(I)V -/
theorem c23_X5_append (l : Launch) (D : va_G) (d : Nat → ClassId) (a0 : Nat) (a1 : Nat) (a2 : Nat) (a3 : Nat) (g0 : Nat → Value) (f1 : Nat → Int32) (p0 : Int32) : ∀ sz, Met l yX5_append (g_wd yX5_append cX5_append 3 none) (g_rm 0 0 0) (va_Pc [.ref a0, .int p0] (g_pr false D d [(a0, .inr (5, [.ref a2, .ref a3, .ref a1, .int 4, .int 0, .int 0, .int 0, .int 0, .int 0, .int (-1), (g0 10), (g0 11), (g0 12), (g0 13), .int 0, (g0 15), (g0 16), (g0 17), .int 0])), (a1, .inl (d 1, 400, .inl f1))] sz)) (q_v D (fun u : g_S => [(a0, .inr (5, [.ref a2, .ref a3, .ref a1, .int 8, .int 0, .int 0, .int 0, .int 0, .int 0, .int (-1), (g0 10), (g0 11), (g0 12), (g0 13), .int 0, (g0 15), (g0 16), (g0 17), .int 0])), (a1, .inl (d 1, 400, .inl (u.2.1 0)))]) (va_A [(a0, .inr (5, [.ref a2, .ref a3, .ref a1, .int 4, .int 0, .int 0, .int 0, .int 0, .int 0, .int (-1), (g0 10), (g0 11), (g0 12), (g0 13), .int 0, (g0 15), (g0 16), (g0 17), .int 0])), (a1, .inl (d 1, 400, .inl f1))] sz)) 0 0 (va_A [(a0, .inr (5, [.ref a2, .ref a3, .ref a1, .int 4, .int 0, .int 0, .int 0, .int 0, .int 0, .int (-1), (g0 10), (g0 11), (g0 12), (g0 13), .int 0, (g0 15), (g0 16), (g0 17), .int 0])), (a1, .inl (d 1, 400, .inl f1))] sz) := by
  refine s_met (y := yX5_append) (cc := cX5_append) (maxL := 3) (ret := none) (rm := (g_rm 0 0 0)) (mc := 0) (ms := 0) (E := false) (W0 := [(a0, .inr (5, [.ref a2, .ref a3, .ref a1, .int 4, .int 0, .int 0, .int 0, .int 0, .int 0, .int (-1), (g0 10), (g0 11), (g0 12), (g0 13), .int 0, (g0 15), (g0 16), (g0 17), .int 0])), (a1, .inl (d 1, 400, .inl f1))]) (av := [.ref a0, .int p0]) (Qf := fun A => q_v D (fun u : g_S => [(a0, .inr (5, [.ref a2, .ref a3, .ref a1, .int 8, .int 0, .int 0, .int 0, .int 0, .int 0, .int (-1), (g0 10), (g0 11), (g0 12), (g0 13), .int 0, (g0 15), (g0 16), (g0 17), .int 0])), (a1, .inl (d 1, 400, .inl (u.2.1 0)))]) A) pn_X5 (Nat.le_of_ble_eq_true rfl) [(0, .ref a0), (1, .int p0)] rfl (fun p e s m below meth c A C hr hlocks hin hEx => ?_)
  refine v_bipush (v := 24) C dX5_append_0 (by decide +kernel) ?_
  refine v_istore_n C dX5_append_2 rfl (by decide) [(2, .int 24), (0, .ref a0), (1, .int p0)] rfl ?_
  refine v_iload_n C dX5_append_3 rfl 0 rfl ?_
  refine v_if_lt_f C 53 dX5_append_4 (by decide) (by decide +kernel) ?_
  refine v_aload_n C dX5_append_7 rfl 1 rfl ?_
  refine v_get C EX5 0 rfl rfl 3 (by decide) k285 rfl dX5_append_8 ?_
  refine v_if_lt_f C 47 dX5_append_11 (by decide) (by decide +kernel) ?_
  refine v_aload_n C dX5_append_14 rfl 1 rfl ?_
  refine v_get C EX5 0 rfl rfl 3 (by decide) k285 rfl dX5_append_15 ?_
  refine v_sipush (v := 400) C dX5_append_18 (by decide +kernel) ?_
  refine v_icmp_ge_f C 47 dX5_append_21 (by decide) (by decide +kernel) ?_
  refine v_aload_n C dX5_append_24 rfl 1 rfl ?_
  refine v_get C EX5 0 rfl rfl 2 (by decide) k148 rfl dX5_append_25 ?_
  refine v_aload_n C dX5_append_28 rfl 1 rfl ?_
  refine v_get C EX5 0 rfl rfl 3 (by decide) k285 rfl dX5_append_29 ?_
  refine v_iload_n C dX5_append_32 rfl 2 rfl ?_
  refine v_iload_n C dX5_append_33 rfl 0 rfl ?_
  refine v_ishr_s C dX5_append_34 (fun v1 => ?_)
  refine v_i2b_s C dX5_append_35 (fun v2 => ?_)
  refine v_bast C 1 1 rfl rfl (by unfold vp_in; decide +kernel) (fun w3 => [(a0, .inr (5, [.ref a2, .ref a3, .ref a1, .int 4, .int 0, .int 0, .int 0, .int 0, .int 0, .int (-1), (g0 10), (g0 11), (g0 12), (g0 13), .int 0, (g0 15), (g0 16), (g0 17), .int 0])), (a1, .inl (d 1, 400, .inl w3))]) (fun _ => rfl) dX5_append_36 (fun w3 => ?_)
  refine v_aload_n C dX5_append_37 rfl 1 rfl ?_
  refine v_dup C dX5_append_38 rfl ?_
  refine v_get C EX5 0 rfl rfl 3 (by decide) k285 rfl dX5_append_39 ?_
  refine v_iconst (v := 1) C dX5_append_42 (by decide +kernel) ?_
  refine v_iadd C 5 dX5_append_43 (by decide +kernel) ?_
  refine v_put C EX5 0 rfl rfl 3 (by decide) k285 rfl rfl rfl (Nat.le_of_ble_eq_true rfl) [(a0, .inr (5, [.ref a2, .ref a3, .ref a1, .int 5, .int 0, .int 0, .int 0, .int 0, .int 0, .int (-1), (g0 10), (g0 11), (g0 12), (g0 13), .int 0, (g0 15), (g0 16), (g0 17), .int 0])), (a1, .inl (d 1, 400, .inl w3))] rfl dX5_append_44 ?_
  refine v_iinc C 16 dX5_append_47 0 rfl (by decide +kernel) (by decide) [(2, .int 16), (0, .ref a0), (1, .int p0)] rfl ?_
  refine v_goto C 3 dX5_append_50 (by decide) ?_
  refine v_iload_n C dX5_append_3 rfl 0 rfl ?_
  refine v_if_lt_f C 53 dX5_append_4 (by decide) (by decide +kernel) ?_
  refine v_aload_n C dX5_append_7 rfl 1 rfl ?_
  refine v_get C EX5 0 rfl rfl 3 (by decide) k285 rfl dX5_append_8 ?_
  refine v_if_lt_f C 47 dX5_append_11 (by decide) (by decide +kernel) ?_
  refine v_aload_n C dX5_append_14 rfl 1 rfl ?_
  refine v_get C EX5 0 rfl rfl 3 (by decide) k285 rfl dX5_append_15 ?_
  refine v_sipush (v := 400) C dX5_append_18 (by decide +kernel) ?_
  refine v_icmp_ge_f C 47 dX5_append_21 (by decide) (by decide +kernel) ?_
  refine v_aload_n C dX5_append_24 rfl 1 rfl ?_
  refine v_get C EX5 0 rfl rfl 2 (by decide) k148 rfl dX5_append_25 ?_
  refine v_aload_n C dX5_append_28 rfl 1 rfl ?_
  refine v_get C EX5 0 rfl rfl 3 (by decide) k285 rfl dX5_append_29 ?_
  refine v_iload_n C dX5_append_32 rfl 2 rfl ?_
  refine v_iload_n C dX5_append_33 rfl 0 rfl ?_
  refine v_ishr_s C dX5_append_34 (fun v4 => ?_)
  refine v_i2b_s C dX5_append_35 (fun v5 => ?_)
  refine v_bast C 1 1 rfl rfl (by unfold vp_in; decide +kernel) (fun w6 => [(a0, .inr (5, [.ref a2, .ref a3, .ref a1, .int 5, .int 0, .int 0, .int 0, .int 0, .int 0, .int (-1), (g0 10), (g0 11), (g0 12), (g0 13), .int 0, (g0 15), (g0 16), (g0 17), .int 0])), (a1, .inl (d 1, 400, .inl w6))]) (fun _ => rfl) dX5_append_36 (fun w6 => ?_)
  refine v_aload_n C dX5_append_37 rfl 1 rfl ?_
  refine v_dup C dX5_append_38 rfl ?_
  refine v_get C EX5 0 rfl rfl 3 (by decide) k285 rfl dX5_append_39 ?_
  refine v_iconst (v := 1) C dX5_append_42 (by decide +kernel) ?_
  refine v_iadd C 6 dX5_append_43 (by decide +kernel) ?_
  refine v_put C EX5 0 rfl rfl 3 (by decide) k285 rfl rfl rfl (Nat.le_of_ble_eq_true rfl) [(a0, .inr (5, [.ref a2, .ref a3, .ref a1, .int 6, .int 0, .int 0, .int 0, .int 0, .int 0, .int (-1), (g0 10), (g0 11), (g0 12), (g0 13), .int 0, (g0 15), (g0 16), (g0 17), .int 0])), (a1, .inl (d 1, 400, .inl w6))] rfl dX5_append_44 ?_
  refine v_iinc C 8 dX5_append_47 0 rfl (by decide +kernel) (by decide) [(2, .int 8), (0, .ref a0), (1, .int p0)] rfl ?_
  refine v_goto C 3 dX5_append_50 (by decide) ?_
  refine v_iload_n C dX5_append_3 rfl 0 rfl ?_
  refine v_if_lt_f C 53 dX5_append_4 (by decide) (by decide +kernel) ?_
  refine v_aload_n C dX5_append_7 rfl 1 rfl ?_
  refine v_get C EX5 0 rfl rfl 3 (by decide) k285 rfl dX5_append_8 ?_
  refine v_if_lt_f C 47 dX5_append_11 (by decide) (by decide +kernel) ?_
  refine v_aload_n C dX5_append_14 rfl 1 rfl ?_
  refine v_get C EX5 0 rfl rfl 3 (by decide) k285 rfl dX5_append_15 ?_
  refine v_sipush (v := 400) C dX5_append_18 (by decide +kernel) ?_
  refine v_icmp_ge_f C 47 dX5_append_21 (by decide) (by decide +kernel) ?_
  refine v_aload_n C dX5_append_24 rfl 1 rfl ?_
  refine v_get C EX5 0 rfl rfl 2 (by decide) k148 rfl dX5_append_25 ?_
  refine v_aload_n C dX5_append_28 rfl 1 rfl ?_
  refine v_get C EX5 0 rfl rfl 3 (by decide) k285 rfl dX5_append_29 ?_
  refine v_iload_n C dX5_append_32 rfl 2 rfl ?_
  refine v_iload_n C dX5_append_33 rfl 0 rfl ?_
  refine v_ishr_s C dX5_append_34 (fun v7 => ?_)
  refine v_i2b_s C dX5_append_35 (fun v8 => ?_)
  refine v_bast C 1 1 rfl rfl (by unfold vp_in; decide +kernel) (fun w9 => [(a0, .inr (5, [.ref a2, .ref a3, .ref a1, .int 6, .int 0, .int 0, .int 0, .int 0, .int 0, .int (-1), (g0 10), (g0 11), (g0 12), (g0 13), .int 0, (g0 15), (g0 16), (g0 17), .int 0])), (a1, .inl (d 1, 400, .inl w9))]) (fun _ => rfl) dX5_append_36 (fun w9 => ?_)
  refine v_aload_n C dX5_append_37 rfl 1 rfl ?_
  refine v_dup C dX5_append_38 rfl ?_
  refine v_get C EX5 0 rfl rfl 3 (by decide) k285 rfl dX5_append_39 ?_
  refine v_iconst (v := 1) C dX5_append_42 (by decide +kernel) ?_
  refine v_iadd C 7 dX5_append_43 (by decide +kernel) ?_
  refine v_put C EX5 0 rfl rfl 3 (by decide) k285 rfl rfl rfl (Nat.le_of_ble_eq_true rfl) [(a0, .inr (5, [.ref a2, .ref a3, .ref a1, .int 7, .int 0, .int 0, .int 0, .int 0, .int 0, .int (-1), (g0 10), (g0 11), (g0 12), (g0 13), .int 0, (g0 15), (g0 16), (g0 17), .int 0])), (a1, .inl (d 1, 400, .inl w9))] rfl dX5_append_44 ?_
  refine v_iinc C 0 dX5_append_47 0 rfl (by decide +kernel) (by decide) [(2, .int 0), (0, .ref a0), (1, .int p0)] rfl ?_
  refine v_goto C 3 dX5_append_50 (by decide) ?_
  refine v_iload_n C dX5_append_3 rfl 0 rfl ?_
  refine v_if_lt_f C 53 dX5_append_4 (by decide) (by decide +kernel) ?_
  refine v_aload_n C dX5_append_7 rfl 1 rfl ?_
  refine v_get C EX5 0 rfl rfl 3 (by decide) k285 rfl dX5_append_8 ?_
  refine v_if_lt_f C 47 dX5_append_11 (by decide) (by decide +kernel) ?_
  refine v_aload_n C dX5_append_14 rfl 1 rfl ?_
  refine v_get C EX5 0 rfl rfl 3 (by decide) k285 rfl dX5_append_15 ?_
  refine v_sipush (v := 400) C dX5_append_18 (by decide +kernel) ?_
  refine v_icmp_ge_f C 47 dX5_append_21 (by decide) (by decide +kernel) ?_
  refine v_aload_n C dX5_append_24 rfl 1 rfl ?_
  refine v_get C EX5 0 rfl rfl 2 (by decide) k148 rfl dX5_append_25 ?_
  refine v_aload_n C dX5_append_28 rfl 1 rfl ?_
  refine v_get C EX5 0 rfl rfl 3 (by decide) k285 rfl dX5_append_29 ?_
  refine v_iload_n C dX5_append_32 rfl 2 rfl ?_
  refine v_iload_n C dX5_append_33 rfl 0 rfl ?_
  refine v_ishr_s C dX5_append_34 (fun v10 => ?_)
  refine v_i2b_s C dX5_append_35 (fun v11 => ?_)
  refine v_bast C 1 1 rfl rfl (by unfold vp_in; decide +kernel) (fun w12 => [(a0, .inr (5, [.ref a2, .ref a3, .ref a1, .int 7, .int 0, .int 0, .int 0, .int 0, .int 0, .int (-1), (g0 10), (g0 11), (g0 12), (g0 13), .int 0, (g0 15), (g0 16), (g0 17), .int 0])), (a1, .inl (d 1, 400, .inl w12))]) (fun _ => rfl) dX5_append_36 (fun w12 => ?_)
  refine v_aload_n C dX5_append_37 rfl 1 rfl ?_
  refine v_dup C dX5_append_38 rfl ?_
  refine v_get C EX5 0 rfl rfl 3 (by decide) k285 rfl dX5_append_39 ?_
  refine v_iconst (v := 1) C dX5_append_42 (by decide +kernel) ?_
  refine v_iadd C 8 dX5_append_43 (by decide +kernel) ?_
  refine v_put C EX5 0 rfl rfl 3 (by decide) k285 rfl rfl rfl (Nat.le_of_ble_eq_true rfl) [(a0, .inr (5, [.ref a2, .ref a3, .ref a1, .int 8, .int 0, .int 0, .int 0, .int 0, .int 0, .int (-1), (g0 10), (g0 11), (g0 12), (g0 13), .int 0, (g0 15), (g0 16), (g0 17), .int 0])), (a1, .inl (d 1, 400, .inl w12))] rfl dX5_append_44 ?_
  refine v_iinc C (-8) dX5_append_47 0 rfl (by decide +kernel) (by decide) [(2, .int (-8)), (0, .ref a0), (1, .int p0)] rfl ?_
  refine v_goto C 3 dX5_append_50 (by decide) ?_
  refine v_iload_n C dX5_append_3 rfl 0 rfl ?_
  refine v_if_lt_t C 53 dX5_append_4 (by decide) (by decide +kernel) ?_
  exact v_return C (S := g_S) ((fun _ => 0, fun i => [w12].getD i (fun _ => 0), fun _ _ => .null) : g_S) hr hlocks [0, 1] rfl rfl (Nat.le_of_ble_eq_true rfl) (Nat.le_of_ble_eq_true rfl) dX5_append_53

set_option maxRecDepth 100000 in
set_option maxHeartbeats 4000000 in
/-- GroundProver$Reader.append(I)V -/
theorem c24_X5_append (l : Launch) (D : va_G) (d : Nat → ClassId) (a0 : Nat) (a1 : Nat) (a2 : Nat) (a3 : Nat) (g0 : Nat → Value) (f1 : Nat → Int32) (p0 : Int32) : ∀ sz, Met l yX5_append (g_wd yX5_append cX5_append 3 none) (g_rm 0 0 0) (va_Pc [.ref a0, .int p0] (g_pr false D d [(a0, .inr (5, [.ref a2, .ref a3, .ref a1, .int 8, .int 0, .int 0, .int 0, .int 0, .int 0, .int (-1), (g0 10), (g0 11), (g0 12), (g0 13), .int 0, (g0 15), (g0 16), (g0 17), .int 0])), (a1, .inl (d 1, 400, .inl f1))] sz)) (q_v D (fun u : g_S => [(a0, .inr (5, [.ref a2, .ref a3, .ref a1, .int 12, .int 0, .int 0, .int 0, .int 0, .int 0, .int (-1), (g0 10), (g0 11), (g0 12), (g0 13), .int 0, (g0 15), (g0 16), (g0 17), .int 0])), (a1, .inl (d 1, 400, .inl (u.2.1 0)))]) (va_A [(a0, .inr (5, [.ref a2, .ref a3, .ref a1, .int 8, .int 0, .int 0, .int 0, .int 0, .int 0, .int (-1), (g0 10), (g0 11), (g0 12), (g0 13), .int 0, (g0 15), (g0 16), (g0 17), .int 0])), (a1, .inl (d 1, 400, .inl f1))] sz)) 0 0 (va_A [(a0, .inr (5, [.ref a2, .ref a3, .ref a1, .int 8, .int 0, .int 0, .int 0, .int 0, .int 0, .int (-1), (g0 10), (g0 11), (g0 12), (g0 13), .int 0, (g0 15), (g0 16), (g0 17), .int 0])), (a1, .inl (d 1, 400, .inl f1))] sz) := by
  refine s_met (y := yX5_append) (cc := cX5_append) (maxL := 3) (ret := none) (rm := (g_rm 0 0 0)) (mc := 0) (ms := 0) (E := false) (W0 := [(a0, .inr (5, [.ref a2, .ref a3, .ref a1, .int 8, .int 0, .int 0, .int 0, .int 0, .int 0, .int (-1), (g0 10), (g0 11), (g0 12), (g0 13), .int 0, (g0 15), (g0 16), (g0 17), .int 0])), (a1, .inl (d 1, 400, .inl f1))]) (av := [.ref a0, .int p0]) (Qf := fun A => q_v D (fun u : g_S => [(a0, .inr (5, [.ref a2, .ref a3, .ref a1, .int 12, .int 0, .int 0, .int 0, .int 0, .int 0, .int (-1), (g0 10), (g0 11), (g0 12), (g0 13), .int 0, (g0 15), (g0 16), (g0 17), .int 0])), (a1, .inl (d 1, 400, .inl (u.2.1 0)))]) A) pn_X5 (Nat.le_of_ble_eq_true rfl) [(0, .ref a0), (1, .int p0)] rfl (fun p e s m below meth c A C hr hlocks hin hEx => ?_)
  refine v_bipush (v := 24) C dX5_append_0 (by decide +kernel) ?_
  refine v_istore_n C dX5_append_2 rfl (by decide) [(2, .int 24), (0, .ref a0), (1, .int p0)] rfl ?_
  refine v_iload_n C dX5_append_3 rfl 0 rfl ?_
  refine v_if_lt_f C 53 dX5_append_4 (by decide) (by decide +kernel) ?_
  refine v_aload_n C dX5_append_7 rfl 1 rfl ?_
  refine v_get C EX5 0 rfl rfl 3 (by decide) k285 rfl dX5_append_8 ?_
  refine v_if_lt_f C 47 dX5_append_11 (by decide) (by decide +kernel) ?_
  refine v_aload_n C dX5_append_14 rfl 1 rfl ?_
  refine v_get C EX5 0 rfl rfl 3 (by decide) k285 rfl dX5_append_15 ?_
  refine v_sipush (v := 400) C dX5_append_18 (by decide +kernel) ?_
  refine v_icmp_ge_f C 47 dX5_append_21 (by decide) (by decide +kernel) ?_
  refine v_aload_n C dX5_append_24 rfl 1 rfl ?_
  refine v_get C EX5 0 rfl rfl 2 (by decide) k148 rfl dX5_append_25 ?_
  refine v_aload_n C dX5_append_28 rfl 1 rfl ?_
  refine v_get C EX5 0 rfl rfl 3 (by decide) k285 rfl dX5_append_29 ?_
  refine v_iload_n C dX5_append_32 rfl 2 rfl ?_
  refine v_iload_n C dX5_append_33 rfl 0 rfl ?_
  refine v_ishr_s C dX5_append_34 (fun v1 => ?_)
  refine v_i2b_s C dX5_append_35 (fun v2 => ?_)
  refine v_bast C 1 1 rfl rfl (by unfold vp_in; decide +kernel) (fun w3 => [(a0, .inr (5, [.ref a2, .ref a3, .ref a1, .int 8, .int 0, .int 0, .int 0, .int 0, .int 0, .int (-1), (g0 10), (g0 11), (g0 12), (g0 13), .int 0, (g0 15), (g0 16), (g0 17), .int 0])), (a1, .inl (d 1, 400, .inl w3))]) (fun _ => rfl) dX5_append_36 (fun w3 => ?_)
  refine v_aload_n C dX5_append_37 rfl 1 rfl ?_
  refine v_dup C dX5_append_38 rfl ?_
  refine v_get C EX5 0 rfl rfl 3 (by decide) k285 rfl dX5_append_39 ?_
  refine v_iconst (v := 1) C dX5_append_42 (by decide +kernel) ?_
  refine v_iadd C 9 dX5_append_43 (by decide +kernel) ?_
  refine v_put C EX5 0 rfl rfl 3 (by decide) k285 rfl rfl rfl (Nat.le_of_ble_eq_true rfl) [(a0, .inr (5, [.ref a2, .ref a3, .ref a1, .int 9, .int 0, .int 0, .int 0, .int 0, .int 0, .int (-1), (g0 10), (g0 11), (g0 12), (g0 13), .int 0, (g0 15), (g0 16), (g0 17), .int 0])), (a1, .inl (d 1, 400, .inl w3))] rfl dX5_append_44 ?_
  refine v_iinc C 16 dX5_append_47 0 rfl (by decide +kernel) (by decide) [(2, .int 16), (0, .ref a0), (1, .int p0)] rfl ?_
  refine v_goto C 3 dX5_append_50 (by decide) ?_
  refine v_iload_n C dX5_append_3 rfl 0 rfl ?_
  refine v_if_lt_f C 53 dX5_append_4 (by decide) (by decide +kernel) ?_
  refine v_aload_n C dX5_append_7 rfl 1 rfl ?_
  refine v_get C EX5 0 rfl rfl 3 (by decide) k285 rfl dX5_append_8 ?_
  refine v_if_lt_f C 47 dX5_append_11 (by decide) (by decide +kernel) ?_
  refine v_aload_n C dX5_append_14 rfl 1 rfl ?_
  refine v_get C EX5 0 rfl rfl 3 (by decide) k285 rfl dX5_append_15 ?_
  refine v_sipush (v := 400) C dX5_append_18 (by decide +kernel) ?_
  refine v_icmp_ge_f C 47 dX5_append_21 (by decide) (by decide +kernel) ?_
  refine v_aload_n C dX5_append_24 rfl 1 rfl ?_
  refine v_get C EX5 0 rfl rfl 2 (by decide) k148 rfl dX5_append_25 ?_
  refine v_aload_n C dX5_append_28 rfl 1 rfl ?_
  refine v_get C EX5 0 rfl rfl 3 (by decide) k285 rfl dX5_append_29 ?_
  refine v_iload_n C dX5_append_32 rfl 2 rfl ?_
  refine v_iload_n C dX5_append_33 rfl 0 rfl ?_
  refine v_ishr_s C dX5_append_34 (fun v4 => ?_)
  refine v_i2b_s C dX5_append_35 (fun v5 => ?_)
  refine v_bast C 1 1 rfl rfl (by unfold vp_in; decide +kernel) (fun w6 => [(a0, .inr (5, [.ref a2, .ref a3, .ref a1, .int 9, .int 0, .int 0, .int 0, .int 0, .int 0, .int (-1), (g0 10), (g0 11), (g0 12), (g0 13), .int 0, (g0 15), (g0 16), (g0 17), .int 0])), (a1, .inl (d 1, 400, .inl w6))]) (fun _ => rfl) dX5_append_36 (fun w6 => ?_)
  refine v_aload_n C dX5_append_37 rfl 1 rfl ?_
  refine v_dup C dX5_append_38 rfl ?_
  refine v_get C EX5 0 rfl rfl 3 (by decide) k285 rfl dX5_append_39 ?_
  refine v_iconst (v := 1) C dX5_append_42 (by decide +kernel) ?_
  refine v_iadd C 10 dX5_append_43 (by decide +kernel) ?_
  refine v_put C EX5 0 rfl rfl 3 (by decide) k285 rfl rfl rfl (Nat.le_of_ble_eq_true rfl) [(a0, .inr (5, [.ref a2, .ref a3, .ref a1, .int 10, .int 0, .int 0, .int 0, .int 0, .int 0, .int (-1), (g0 10), (g0 11), (g0 12), (g0 13), .int 0, (g0 15), (g0 16), (g0 17), .int 0])), (a1, .inl (d 1, 400, .inl w6))] rfl dX5_append_44 ?_
  refine v_iinc C 8 dX5_append_47 0 rfl (by decide +kernel) (by decide) [(2, .int 8), (0, .ref a0), (1, .int p0)] rfl ?_
  refine v_goto C 3 dX5_append_50 (by decide) ?_
  refine v_iload_n C dX5_append_3 rfl 0 rfl ?_
  refine v_if_lt_f C 53 dX5_append_4 (by decide) (by decide +kernel) ?_
  refine v_aload_n C dX5_append_7 rfl 1 rfl ?_
  refine v_get C EX5 0 rfl rfl 3 (by decide) k285 rfl dX5_append_8 ?_
  refine v_if_lt_f C 47 dX5_append_11 (by decide) (by decide +kernel) ?_
  refine v_aload_n C dX5_append_14 rfl 1 rfl ?_
  refine v_get C EX5 0 rfl rfl 3 (by decide) k285 rfl dX5_append_15 ?_
  refine v_sipush (v := 400) C dX5_append_18 (by decide +kernel) ?_
  refine v_icmp_ge_f C 47 dX5_append_21 (by decide) (by decide +kernel) ?_
  refine v_aload_n C dX5_append_24 rfl 1 rfl ?_
  refine v_get C EX5 0 rfl rfl 2 (by decide) k148 rfl dX5_append_25 ?_
  refine v_aload_n C dX5_append_28 rfl 1 rfl ?_
  refine v_get C EX5 0 rfl rfl 3 (by decide) k285 rfl dX5_append_29 ?_
  refine v_iload_n C dX5_append_32 rfl 2 rfl ?_
  refine v_iload_n C dX5_append_33 rfl 0 rfl ?_
  refine v_ishr_s C dX5_append_34 (fun v7 => ?_)
  refine v_i2b_s C dX5_append_35 (fun v8 => ?_)
  refine v_bast C 1 1 rfl rfl (by unfold vp_in; decide +kernel) (fun w9 => [(a0, .inr (5, [.ref a2, .ref a3, .ref a1, .int 10, .int 0, .int 0, .int 0, .int 0, .int 0, .int (-1), (g0 10), (g0 11), (g0 12), (g0 13), .int 0, (g0 15), (g0 16), (g0 17), .int 0])), (a1, .inl (d 1, 400, .inl w9))]) (fun _ => rfl) dX5_append_36 (fun w9 => ?_)
  refine v_aload_n C dX5_append_37 rfl 1 rfl ?_
  refine v_dup C dX5_append_38 rfl ?_
  refine v_get C EX5 0 rfl rfl 3 (by decide) k285 rfl dX5_append_39 ?_
  refine v_iconst (v := 1) C dX5_append_42 (by decide +kernel) ?_
  refine v_iadd C 11 dX5_append_43 (by decide +kernel) ?_
  refine v_put C EX5 0 rfl rfl 3 (by decide) k285 rfl rfl rfl (Nat.le_of_ble_eq_true rfl) [(a0, .inr (5, [.ref a2, .ref a3, .ref a1, .int 11, .int 0, .int 0, .int 0, .int 0, .int 0, .int (-1), (g0 10), (g0 11), (g0 12), (g0 13), .int 0, (g0 15), (g0 16), (g0 17), .int 0])), (a1, .inl (d 1, 400, .inl w9))] rfl dX5_append_44 ?_
  refine v_iinc C 0 dX5_append_47 0 rfl (by decide +kernel) (by decide) [(2, .int 0), (0, .ref a0), (1, .int p0)] rfl ?_
  refine v_goto C 3 dX5_append_50 (by decide) ?_
  refine v_iload_n C dX5_append_3 rfl 0 rfl ?_
  refine v_if_lt_f C 53 dX5_append_4 (by decide) (by decide +kernel) ?_
  refine v_aload_n C dX5_append_7 rfl 1 rfl ?_
  refine v_get C EX5 0 rfl rfl 3 (by decide) k285 rfl dX5_append_8 ?_
  refine v_if_lt_f C 47 dX5_append_11 (by decide) (by decide +kernel) ?_
  refine v_aload_n C dX5_append_14 rfl 1 rfl ?_
  refine v_get C EX5 0 rfl rfl 3 (by decide) k285 rfl dX5_append_15 ?_
  refine v_sipush (v := 400) C dX5_append_18 (by decide +kernel) ?_
  refine v_icmp_ge_f C 47 dX5_append_21 (by decide) (by decide +kernel) ?_
  refine v_aload_n C dX5_append_24 rfl 1 rfl ?_
  refine v_get C EX5 0 rfl rfl 2 (by decide) k148 rfl dX5_append_25 ?_
  refine v_aload_n C dX5_append_28 rfl 1 rfl ?_
  refine v_get C EX5 0 rfl rfl 3 (by decide) k285 rfl dX5_append_29 ?_
  refine v_iload_n C dX5_append_32 rfl 2 rfl ?_
  refine v_iload_n C dX5_append_33 rfl 0 rfl ?_
  refine v_ishr_s C dX5_append_34 (fun v10 => ?_)
  refine v_i2b_s C dX5_append_35 (fun v11 => ?_)
  refine v_bast C 1 1 rfl rfl (by unfold vp_in; decide +kernel) (fun w12 => [(a0, .inr (5, [.ref a2, .ref a3, .ref a1, .int 11, .int 0, .int 0, .int 0, .int 0, .int 0, .int (-1), (g0 10), (g0 11), (g0 12), (g0 13), .int 0, (g0 15), (g0 16), (g0 17), .int 0])), (a1, .inl (d 1, 400, .inl w12))]) (fun _ => rfl) dX5_append_36 (fun w12 => ?_)
  refine v_aload_n C dX5_append_37 rfl 1 rfl ?_
  refine v_dup C dX5_append_38 rfl ?_
  refine v_get C EX5 0 rfl rfl 3 (by decide) k285 rfl dX5_append_39 ?_
  refine v_iconst (v := 1) C dX5_append_42 (by decide +kernel) ?_
  refine v_iadd C 12 dX5_append_43 (by decide +kernel) ?_
  refine v_put C EX5 0 rfl rfl 3 (by decide) k285 rfl rfl rfl (Nat.le_of_ble_eq_true rfl) [(a0, .inr (5, [.ref a2, .ref a3, .ref a1, .int 12, .int 0, .int 0, .int 0, .int 0, .int 0, .int (-1), (g0 10), (g0 11), (g0 12), (g0 13), .int 0, (g0 15), (g0 16), (g0 17), .int 0])), (a1, .inl (d 1, 400, .inl w12))] rfl dX5_append_44 ?_
  refine v_iinc C (-8) dX5_append_47 0 rfl (by decide +kernel) (by decide) [(2, .int (-8)), (0, .ref a0), (1, .int p0)] rfl ?_
  refine v_goto C 3 dX5_append_50 (by decide) ?_
  refine v_iload_n C dX5_append_3 rfl 0 rfl ?_
  refine v_if_lt_t C 53 dX5_append_4 (by decide) (by decide +kernel) ?_
  exact v_return C (S := g_S) ((fun _ => 0, fun i => [w12].getD i (fun _ => 0), fun _ _ => .null) : g_S) hr hlocks [0, 1] rfl rfl (Nat.le_of_ble_eq_true rfl) (Nat.le_of_ble_eq_true rfl) dX5_append_53

set_option maxRecDepth 100000 in
set_option maxHeartbeats 4000000 in
/-- GroundProver$Reader.append(I)V -/
theorem c25_X5_append (l : Launch) (D : va_G) (d : Nat → ClassId) (a0 : Nat) (a1 : Nat) (a2 : Nat) (a3 : Nat) (g0 : Nat → Value) (f1 : Nat → Int32) (p0 : Int32) : ∀ sz, Met l yX5_append (g_wd yX5_append cX5_append 3 none) (g_rm 0 0 0) (va_Pc [.ref a0, .int p0] (g_pr false D d [(a0, .inr (5, [.ref a2, .ref a3, .ref a1, .int 12, .int 0, .int 0, .int 0, .int 0, .int 0, .int (-1), (g0 10), (g0 11), (g0 12), (g0 13), .int 0, (g0 15), (g0 16), (g0 17), .int 0])), (a1, .inl (d 1, 400, .inl f1))] sz)) (q_v D (fun u : g_S => [(a0, .inr (5, [.ref a2, .ref a3, .ref a1, .int 16, .int 0, .int 0, .int 0, .int 0, .int 0, .int (-1), (g0 10), (g0 11), (g0 12), (g0 13), .int 0, (g0 15), (g0 16), (g0 17), .int 0])), (a1, .inl (d 1, 400, .inl (u.2.1 0)))]) (va_A [(a0, .inr (5, [.ref a2, .ref a3, .ref a1, .int 12, .int 0, .int 0, .int 0, .int 0, .int 0, .int (-1), (g0 10), (g0 11), (g0 12), (g0 13), .int 0, (g0 15), (g0 16), (g0 17), .int 0])), (a1, .inl (d 1, 400, .inl f1))] sz)) 0 0 (va_A [(a0, .inr (5, [.ref a2, .ref a3, .ref a1, .int 12, .int 0, .int 0, .int 0, .int 0, .int 0, .int (-1), (g0 10), (g0 11), (g0 12), (g0 13), .int 0, (g0 15), (g0 16), (g0 17), .int 0])), (a1, .inl (d 1, 400, .inl f1))] sz) := by
  refine s_met (y := yX5_append) (cc := cX5_append) (maxL := 3) (ret := none) (rm := (g_rm 0 0 0)) (mc := 0) (ms := 0) (E := false) (W0 := [(a0, .inr (5, [.ref a2, .ref a3, .ref a1, .int 12, .int 0, .int 0, .int 0, .int 0, .int 0, .int (-1), (g0 10), (g0 11), (g0 12), (g0 13), .int 0, (g0 15), (g0 16), (g0 17), .int 0])), (a1, .inl (d 1, 400, .inl f1))]) (av := [.ref a0, .int p0]) (Qf := fun A => q_v D (fun u : g_S => [(a0, .inr (5, [.ref a2, .ref a3, .ref a1, .int 16, .int 0, .int 0, .int 0, .int 0, .int 0, .int (-1), (g0 10), (g0 11), (g0 12), (g0 13), .int 0, (g0 15), (g0 16), (g0 17), .int 0])), (a1, .inl (d 1, 400, .inl (u.2.1 0)))]) A) pn_X5 (Nat.le_of_ble_eq_true rfl) [(0, .ref a0), (1, .int p0)] rfl (fun p e s m below meth c A C hr hlocks hin hEx => ?_)
  refine v_bipush (v := 24) C dX5_append_0 (by decide +kernel) ?_
  refine v_istore_n C dX5_append_2 rfl (by decide) [(2, .int 24), (0, .ref a0), (1, .int p0)] rfl ?_
  refine v_iload_n C dX5_append_3 rfl 0 rfl ?_
  refine v_if_lt_f C 53 dX5_append_4 (by decide) (by decide +kernel) ?_
  refine v_aload_n C dX5_append_7 rfl 1 rfl ?_
  refine v_get C EX5 0 rfl rfl 3 (by decide) k285 rfl dX5_append_8 ?_
  refine v_if_lt_f C 47 dX5_append_11 (by decide) (by decide +kernel) ?_
  refine v_aload_n C dX5_append_14 rfl 1 rfl ?_
  refine v_get C EX5 0 rfl rfl 3 (by decide) k285 rfl dX5_append_15 ?_
  refine v_sipush (v := 400) C dX5_append_18 (by decide +kernel) ?_
  refine v_icmp_ge_f C 47 dX5_append_21 (by decide) (by decide +kernel) ?_
  refine v_aload_n C dX5_append_24 rfl 1 rfl ?_
  refine v_get C EX5 0 rfl rfl 2 (by decide) k148 rfl dX5_append_25 ?_
  refine v_aload_n C dX5_append_28 rfl 1 rfl ?_
  refine v_get C EX5 0 rfl rfl 3 (by decide) k285 rfl dX5_append_29 ?_
  refine v_iload_n C dX5_append_32 rfl 2 rfl ?_
  refine v_iload_n C dX5_append_33 rfl 0 rfl ?_
  refine v_ishr_s C dX5_append_34 (fun v1 => ?_)
  refine v_i2b_s C dX5_append_35 (fun v2 => ?_)
  refine v_bast C 1 1 rfl rfl (by unfold vp_in; decide +kernel) (fun w3 => [(a0, .inr (5, [.ref a2, .ref a3, .ref a1, .int 12, .int 0, .int 0, .int 0, .int 0, .int 0, .int (-1), (g0 10), (g0 11), (g0 12), (g0 13), .int 0, (g0 15), (g0 16), (g0 17), .int 0])), (a1, .inl (d 1, 400, .inl w3))]) (fun _ => rfl) dX5_append_36 (fun w3 => ?_)
  refine v_aload_n C dX5_append_37 rfl 1 rfl ?_
  refine v_dup C dX5_append_38 rfl ?_
  refine v_get C EX5 0 rfl rfl 3 (by decide) k285 rfl dX5_append_39 ?_
  refine v_iconst (v := 1) C dX5_append_42 (by decide +kernel) ?_
  refine v_iadd C 13 dX5_append_43 (by decide +kernel) ?_
  refine v_put C EX5 0 rfl rfl 3 (by decide) k285 rfl rfl rfl (Nat.le_of_ble_eq_true rfl) [(a0, .inr (5, [.ref a2, .ref a3, .ref a1, .int 13, .int 0, .int 0, .int 0, .int 0, .int 0, .int (-1), (g0 10), (g0 11), (g0 12), (g0 13), .int 0, (g0 15), (g0 16), (g0 17), .int 0])), (a1, .inl (d 1, 400, .inl w3))] rfl dX5_append_44 ?_
  refine v_iinc C 16 dX5_append_47 0 rfl (by decide +kernel) (by decide) [(2, .int 16), (0, .ref a0), (1, .int p0)] rfl ?_
  refine v_goto C 3 dX5_append_50 (by decide) ?_
  refine v_iload_n C dX5_append_3 rfl 0 rfl ?_
  refine v_if_lt_f C 53 dX5_append_4 (by decide) (by decide +kernel) ?_
  refine v_aload_n C dX5_append_7 rfl 1 rfl ?_
  refine v_get C EX5 0 rfl rfl 3 (by decide) k285 rfl dX5_append_8 ?_
  refine v_if_lt_f C 47 dX5_append_11 (by decide) (by decide +kernel) ?_
  refine v_aload_n C dX5_append_14 rfl 1 rfl ?_
  refine v_get C EX5 0 rfl rfl 3 (by decide) k285 rfl dX5_append_15 ?_
  refine v_sipush (v := 400) C dX5_append_18 (by decide +kernel) ?_
  refine v_icmp_ge_f C 47 dX5_append_21 (by decide) (by decide +kernel) ?_
  refine v_aload_n C dX5_append_24 rfl 1 rfl ?_
  refine v_get C EX5 0 rfl rfl 2 (by decide) k148 rfl dX5_append_25 ?_
  refine v_aload_n C dX5_append_28 rfl 1 rfl ?_
  refine v_get C EX5 0 rfl rfl 3 (by decide) k285 rfl dX5_append_29 ?_
  refine v_iload_n C dX5_append_32 rfl 2 rfl ?_
  refine v_iload_n C dX5_append_33 rfl 0 rfl ?_
  refine v_ishr_s C dX5_append_34 (fun v4 => ?_)
  refine v_i2b_s C dX5_append_35 (fun v5 => ?_)
  refine v_bast C 1 1 rfl rfl (by unfold vp_in; decide +kernel) (fun w6 => [(a0, .inr (5, [.ref a2, .ref a3, .ref a1, .int 13, .int 0, .int 0, .int 0, .int 0, .int 0, .int (-1), (g0 10), (g0 11), (g0 12), (g0 13), .int 0, (g0 15), (g0 16), (g0 17), .int 0])), (a1, .inl (d 1, 400, .inl w6))]) (fun _ => rfl) dX5_append_36 (fun w6 => ?_)
  refine v_aload_n C dX5_append_37 rfl 1 rfl ?_
  refine v_dup C dX5_append_38 rfl ?_
  refine v_get C EX5 0 rfl rfl 3 (by decide) k285 rfl dX5_append_39 ?_
  refine v_iconst (v := 1) C dX5_append_42 (by decide +kernel) ?_
  refine v_iadd C 14 dX5_append_43 (by decide +kernel) ?_
  refine v_put C EX5 0 rfl rfl 3 (by decide) k285 rfl rfl rfl (Nat.le_of_ble_eq_true rfl) [(a0, .inr (5, [.ref a2, .ref a3, .ref a1, .int 14, .int 0, .int 0, .int 0, .int 0, .int 0, .int (-1), (g0 10), (g0 11), (g0 12), (g0 13), .int 0, (g0 15), (g0 16), (g0 17), .int 0])), (a1, .inl (d 1, 400, .inl w6))] rfl dX5_append_44 ?_
  refine v_iinc C 8 dX5_append_47 0 rfl (by decide +kernel) (by decide) [(2, .int 8), (0, .ref a0), (1, .int p0)] rfl ?_
  refine v_goto C 3 dX5_append_50 (by decide) ?_
  refine v_iload_n C dX5_append_3 rfl 0 rfl ?_
  refine v_if_lt_f C 53 dX5_append_4 (by decide) (by decide +kernel) ?_
  refine v_aload_n C dX5_append_7 rfl 1 rfl ?_
  refine v_get C EX5 0 rfl rfl 3 (by decide) k285 rfl dX5_append_8 ?_
  refine v_if_lt_f C 47 dX5_append_11 (by decide) (by decide +kernel) ?_
  refine v_aload_n C dX5_append_14 rfl 1 rfl ?_
  refine v_get C EX5 0 rfl rfl 3 (by decide) k285 rfl dX5_append_15 ?_
  refine v_sipush (v := 400) C dX5_append_18 (by decide +kernel) ?_
  refine v_icmp_ge_f C 47 dX5_append_21 (by decide) (by decide +kernel) ?_
  refine v_aload_n C dX5_append_24 rfl 1 rfl ?_
  refine v_get C EX5 0 rfl rfl 2 (by decide) k148 rfl dX5_append_25 ?_
  refine v_aload_n C dX5_append_28 rfl 1 rfl ?_
  refine v_get C EX5 0 rfl rfl 3 (by decide) k285 rfl dX5_append_29 ?_
  refine v_iload_n C dX5_append_32 rfl 2 rfl ?_
  refine v_iload_n C dX5_append_33 rfl 0 rfl ?_
  refine v_ishr_s C dX5_append_34 (fun v7 => ?_)
  refine v_i2b_s C dX5_append_35 (fun v8 => ?_)
  refine v_bast C 1 1 rfl rfl (by unfold vp_in; decide +kernel) (fun w9 => [(a0, .inr (5, [.ref a2, .ref a3, .ref a1, .int 14, .int 0, .int 0, .int 0, .int 0, .int 0, .int (-1), (g0 10), (g0 11), (g0 12), (g0 13), .int 0, (g0 15), (g0 16), (g0 17), .int 0])), (a1, .inl (d 1, 400, .inl w9))]) (fun _ => rfl) dX5_append_36 (fun w9 => ?_)
  refine v_aload_n C dX5_append_37 rfl 1 rfl ?_
  refine v_dup C dX5_append_38 rfl ?_
  refine v_get C EX5 0 rfl rfl 3 (by decide) k285 rfl dX5_append_39 ?_
  refine v_iconst (v := 1) C dX5_append_42 (by decide +kernel) ?_
  refine v_iadd C 15 dX5_append_43 (by decide +kernel) ?_
  refine v_put C EX5 0 rfl rfl 3 (by decide) k285 rfl rfl rfl (Nat.le_of_ble_eq_true rfl) [(a0, .inr (5, [.ref a2, .ref a3, .ref a1, .int 15, .int 0, .int 0, .int 0, .int 0, .int 0, .int (-1), (g0 10), (g0 11), (g0 12), (g0 13), .int 0, (g0 15), (g0 16), (g0 17), .int 0])), (a1, .inl (d 1, 400, .inl w9))] rfl dX5_append_44 ?_
  refine v_iinc C 0 dX5_append_47 0 rfl (by decide +kernel) (by decide) [(2, .int 0), (0, .ref a0), (1, .int p0)] rfl ?_
  refine v_goto C 3 dX5_append_50 (by decide) ?_
  refine v_iload_n C dX5_append_3 rfl 0 rfl ?_
  refine v_if_lt_f C 53 dX5_append_4 (by decide) (by decide +kernel) ?_
  refine v_aload_n C dX5_append_7 rfl 1 rfl ?_
  refine v_get C EX5 0 rfl rfl 3 (by decide) k285 rfl dX5_append_8 ?_
  refine v_if_lt_f C 47 dX5_append_11 (by decide) (by decide +kernel) ?_
  refine v_aload_n C dX5_append_14 rfl 1 rfl ?_
  refine v_get C EX5 0 rfl rfl 3 (by decide) k285 rfl dX5_append_15 ?_
  refine v_sipush (v := 400) C dX5_append_18 (by decide +kernel) ?_
  refine v_icmp_ge_f C 47 dX5_append_21 (by decide) (by decide +kernel) ?_
  refine v_aload_n C dX5_append_24 rfl 1 rfl ?_
  refine v_get C EX5 0 rfl rfl 2 (by decide) k148 rfl dX5_append_25 ?_
  refine v_aload_n C dX5_append_28 rfl 1 rfl ?_
  refine v_get C EX5 0 rfl rfl 3 (by decide) k285 rfl dX5_append_29 ?_
  refine v_iload_n C dX5_append_32 rfl 2 rfl ?_
  refine v_iload_n C dX5_append_33 rfl 0 rfl ?_
  refine v_ishr_s C dX5_append_34 (fun v10 => ?_)
  refine v_i2b_s C dX5_append_35 (fun v11 => ?_)
  refine v_bast C 1 1 rfl rfl (by unfold vp_in; decide +kernel) (fun w12 => [(a0, .inr (5, [.ref a2, .ref a3, .ref a1, .int 15, .int 0, .int 0, .int 0, .int 0, .int 0, .int (-1), (g0 10), (g0 11), (g0 12), (g0 13), .int 0, (g0 15), (g0 16), (g0 17), .int 0])), (a1, .inl (d 1, 400, .inl w12))]) (fun _ => rfl) dX5_append_36 (fun w12 => ?_)
  refine v_aload_n C dX5_append_37 rfl 1 rfl ?_
  refine v_dup C dX5_append_38 rfl ?_
  refine v_get C EX5 0 rfl rfl 3 (by decide) k285 rfl dX5_append_39 ?_
  refine v_iconst (v := 1) C dX5_append_42 (by decide +kernel) ?_
  refine v_iadd C 16 dX5_append_43 (by decide +kernel) ?_
  refine v_put C EX5 0 rfl rfl 3 (by decide) k285 rfl rfl rfl (Nat.le_of_ble_eq_true rfl) [(a0, .inr (5, [.ref a2, .ref a3, .ref a1, .int 16, .int 0, .int 0, .int 0, .int 0, .int 0, .int (-1), (g0 10), (g0 11), (g0 12), (g0 13), .int 0, (g0 15), (g0 16), (g0 17), .int 0])), (a1, .inl (d 1, 400, .inl w12))] rfl dX5_append_44 ?_
  refine v_iinc C (-8) dX5_append_47 0 rfl (by decide +kernel) (by decide) [(2, .int (-8)), (0, .ref a0), (1, .int p0)] rfl ?_
  refine v_goto C 3 dX5_append_50 (by decide) ?_
  refine v_iload_n C dX5_append_3 rfl 0 rfl ?_
  refine v_if_lt_t C 53 dX5_append_4 (by decide) (by decide +kernel) ?_
  exact v_return C (S := g_S) ((fun _ => 0, fun i => [w12].getD i (fun _ => 0), fun _ _ => .null) : g_S) hr hlocks [0, 1] rfl rfl (Nat.le_of_ble_eq_true rfl) (Nat.le_of_ble_eq_true rfl) dX5_append_53

set_option maxRecDepth 100000 in
set_option maxHeartbeats 4000000 in
/-- GroundProver$Reader.append(I)V -/
theorem c26_X5_append (l : Launch) (D : va_G) (d : Nat → ClassId) (a0 : Nat) (a1 : Nat) (a2 : Nat) (a3 : Nat) (g0 : Nat → Value) (f1 : Nat → Int32) (p0 : Int32) : ∀ sz, Met l yX5_append (g_wd yX5_append cX5_append 3 none) (g_rm 0 0 0) (va_Pc [.ref a0, .int p0] (g_pr false D d [(a0, .inr (5, [.ref a2, .ref a3, .ref a1, .int 16, .int 0, .int 0, .int 0, .int 0, .int 0, .int (-1), (g0 10), (g0 11), (g0 12), (g0 13), .int 0, (g0 15), (g0 16), (g0 17), .int 0])), (a1, .inl (d 1, 400, .inl f1))] sz)) (q_v D (fun u : g_S => [(a0, .inr (5, [.ref a2, .ref a3, .ref a1, .int 20, .int 0, .int 0, .int 0, .int 0, .int 0, .int (-1), (g0 10), (g0 11), (g0 12), (g0 13), .int 0, (g0 15), (g0 16), (g0 17), .int 0])), (a1, .inl (d 1, 400, .inl (u.2.1 0)))]) (va_A [(a0, .inr (5, [.ref a2, .ref a3, .ref a1, .int 16, .int 0, .int 0, .int 0, .int 0, .int 0, .int (-1), (g0 10), (g0 11), (g0 12), (g0 13), .int 0, (g0 15), (g0 16), (g0 17), .int 0])), (a1, .inl (d 1, 400, .inl f1))] sz)) 0 0 (va_A [(a0, .inr (5, [.ref a2, .ref a3, .ref a1, .int 16, .int 0, .int 0, .int 0, .int 0, .int 0, .int (-1), (g0 10), (g0 11), (g0 12), (g0 13), .int 0, (g0 15), (g0 16), (g0 17), .int 0])), (a1, .inl (d 1, 400, .inl f1))] sz) := by
  refine s_met (y := yX5_append) (cc := cX5_append) (maxL := 3) (ret := none) (rm := (g_rm 0 0 0)) (mc := 0) (ms := 0) (E := false) (W0 := [(a0, .inr (5, [.ref a2, .ref a3, .ref a1, .int 16, .int 0, .int 0, .int 0, .int 0, .int 0, .int (-1), (g0 10), (g0 11), (g0 12), (g0 13), .int 0, (g0 15), (g0 16), (g0 17), .int 0])), (a1, .inl (d 1, 400, .inl f1))]) (av := [.ref a0, .int p0]) (Qf := fun A => q_v D (fun u : g_S => [(a0, .inr (5, [.ref a2, .ref a3, .ref a1, .int 20, .int 0, .int 0, .int 0, .int 0, .int 0, .int (-1), (g0 10), (g0 11), (g0 12), (g0 13), .int 0, (g0 15), (g0 16), (g0 17), .int 0])), (a1, .inl (d 1, 400, .inl (u.2.1 0)))]) A) pn_X5 (Nat.le_of_ble_eq_true rfl) [(0, .ref a0), (1, .int p0)] rfl (fun p e s m below meth c A C hr hlocks hin hEx => ?_)
  refine v_bipush (v := 24) C dX5_append_0 (by decide +kernel) ?_
  refine v_istore_n C dX5_append_2 rfl (by decide) [(2, .int 24), (0, .ref a0), (1, .int p0)] rfl ?_
  refine v_iload_n C dX5_append_3 rfl 0 rfl ?_
  refine v_if_lt_f C 53 dX5_append_4 (by decide) (by decide +kernel) ?_
  refine v_aload_n C dX5_append_7 rfl 1 rfl ?_
  refine v_get C EX5 0 rfl rfl 3 (by decide) k285 rfl dX5_append_8 ?_
  refine v_if_lt_f C 47 dX5_append_11 (by decide) (by decide +kernel) ?_
  refine v_aload_n C dX5_append_14 rfl 1 rfl ?_
  refine v_get C EX5 0 rfl rfl 3 (by decide) k285 rfl dX5_append_15 ?_
  refine v_sipush (v := 400) C dX5_append_18 (by decide +kernel) ?_
  refine v_icmp_ge_f C 47 dX5_append_21 (by decide) (by decide +kernel) ?_
  refine v_aload_n C dX5_append_24 rfl 1 rfl ?_
  refine v_get C EX5 0 rfl rfl 2 (by decide) k148 rfl dX5_append_25 ?_
  refine v_aload_n C dX5_append_28 rfl 1 rfl ?_
  refine v_get C EX5 0 rfl rfl 3 (by decide) k285 rfl dX5_append_29 ?_
  refine v_iload_n C dX5_append_32 rfl 2 rfl ?_
  refine v_iload_n C dX5_append_33 rfl 0 rfl ?_
  refine v_ishr_s C dX5_append_34 (fun v1 => ?_)
  refine v_i2b_s C dX5_append_35 (fun v2 => ?_)
  refine v_bast C 1 1 rfl rfl (by unfold vp_in; decide +kernel) (fun w3 => [(a0, .inr (5, [.ref a2, .ref a3, .ref a1, .int 16, .int 0, .int 0, .int 0, .int 0, .int 0, .int (-1), (g0 10), (g0 11), (g0 12), (g0 13), .int 0, (g0 15), (g0 16), (g0 17), .int 0])), (a1, .inl (d 1, 400, .inl w3))]) (fun _ => rfl) dX5_append_36 (fun w3 => ?_)
  refine v_aload_n C dX5_append_37 rfl 1 rfl ?_
  refine v_dup C dX5_append_38 rfl ?_
  refine v_get C EX5 0 rfl rfl 3 (by decide) k285 rfl dX5_append_39 ?_
  refine v_iconst (v := 1) C dX5_append_42 (by decide +kernel) ?_
  refine v_iadd C 17 dX5_append_43 (by decide +kernel) ?_
  refine v_put C EX5 0 rfl rfl 3 (by decide) k285 rfl rfl rfl (Nat.le_of_ble_eq_true rfl) [(a0, .inr (5, [.ref a2, .ref a3, .ref a1, .int 17, .int 0, .int 0, .int 0, .int 0, .int 0, .int (-1), (g0 10), (g0 11), (g0 12), (g0 13), .int 0, (g0 15), (g0 16), (g0 17), .int 0])), (a1, .inl (d 1, 400, .inl w3))] rfl dX5_append_44 ?_
  refine v_iinc C 16 dX5_append_47 0 rfl (by decide +kernel) (by decide) [(2, .int 16), (0, .ref a0), (1, .int p0)] rfl ?_
  refine v_goto C 3 dX5_append_50 (by decide) ?_
  refine v_iload_n C dX5_append_3 rfl 0 rfl ?_
  refine v_if_lt_f C 53 dX5_append_4 (by decide) (by decide +kernel) ?_
  refine v_aload_n C dX5_append_7 rfl 1 rfl ?_
  refine v_get C EX5 0 rfl rfl 3 (by decide) k285 rfl dX5_append_8 ?_
  refine v_if_lt_f C 47 dX5_append_11 (by decide) (by decide +kernel) ?_
  refine v_aload_n C dX5_append_14 rfl 1 rfl ?_
  refine v_get C EX5 0 rfl rfl 3 (by decide) k285 rfl dX5_append_15 ?_
  refine v_sipush (v := 400) C dX5_append_18 (by decide +kernel) ?_
  refine v_icmp_ge_f C 47 dX5_append_21 (by decide) (by decide +kernel) ?_
  refine v_aload_n C dX5_append_24 rfl 1 rfl ?_
  refine v_get C EX5 0 rfl rfl 2 (by decide) k148 rfl dX5_append_25 ?_
  refine v_aload_n C dX5_append_28 rfl 1 rfl ?_
  refine v_get C EX5 0 rfl rfl 3 (by decide) k285 rfl dX5_append_29 ?_
  refine v_iload_n C dX5_append_32 rfl 2 rfl ?_
  refine v_iload_n C dX5_append_33 rfl 0 rfl ?_
  refine v_ishr_s C dX5_append_34 (fun v4 => ?_)
  refine v_i2b_s C dX5_append_35 (fun v5 => ?_)
  refine v_bast C 1 1 rfl rfl (by unfold vp_in; decide +kernel) (fun w6 => [(a0, .inr (5, [.ref a2, .ref a3, .ref a1, .int 17, .int 0, .int 0, .int 0, .int 0, .int 0, .int (-1), (g0 10), (g0 11), (g0 12), (g0 13), .int 0, (g0 15), (g0 16), (g0 17), .int 0])), (a1, .inl (d 1, 400, .inl w6))]) (fun _ => rfl) dX5_append_36 (fun w6 => ?_)
  refine v_aload_n C dX5_append_37 rfl 1 rfl ?_
  refine v_dup C dX5_append_38 rfl ?_
  refine v_get C EX5 0 rfl rfl 3 (by decide) k285 rfl dX5_append_39 ?_
  refine v_iconst (v := 1) C dX5_append_42 (by decide +kernel) ?_
  refine v_iadd C 18 dX5_append_43 (by decide +kernel) ?_
  refine v_put C EX5 0 rfl rfl 3 (by decide) k285 rfl rfl rfl (Nat.le_of_ble_eq_true rfl) [(a0, .inr (5, [.ref a2, .ref a3, .ref a1, .int 18, .int 0, .int 0, .int 0, .int 0, .int 0, .int (-1), (g0 10), (g0 11), (g0 12), (g0 13), .int 0, (g0 15), (g0 16), (g0 17), .int 0])), (a1, .inl (d 1, 400, .inl w6))] rfl dX5_append_44 ?_
  refine v_iinc C 8 dX5_append_47 0 rfl (by decide +kernel) (by decide) [(2, .int 8), (0, .ref a0), (1, .int p0)] rfl ?_
  refine v_goto C 3 dX5_append_50 (by decide) ?_
  refine v_iload_n C dX5_append_3 rfl 0 rfl ?_
  refine v_if_lt_f C 53 dX5_append_4 (by decide) (by decide +kernel) ?_
  refine v_aload_n C dX5_append_7 rfl 1 rfl ?_
  refine v_get C EX5 0 rfl rfl 3 (by decide) k285 rfl dX5_append_8 ?_
  refine v_if_lt_f C 47 dX5_append_11 (by decide) (by decide +kernel) ?_
  refine v_aload_n C dX5_append_14 rfl 1 rfl ?_
  refine v_get C EX5 0 rfl rfl 3 (by decide) k285 rfl dX5_append_15 ?_
  refine v_sipush (v := 400) C dX5_append_18 (by decide +kernel) ?_
  refine v_icmp_ge_f C 47 dX5_append_21 (by decide) (by decide +kernel) ?_
  refine v_aload_n C dX5_append_24 rfl 1 rfl ?_
  refine v_get C EX5 0 rfl rfl 2 (by decide) k148 rfl dX5_append_25 ?_
  refine v_aload_n C dX5_append_28 rfl 1 rfl ?_
  refine v_get C EX5 0 rfl rfl 3 (by decide) k285 rfl dX5_append_29 ?_
  refine v_iload_n C dX5_append_32 rfl 2 rfl ?_
  refine v_iload_n C dX5_append_33 rfl 0 rfl ?_
  refine v_ishr_s C dX5_append_34 (fun v7 => ?_)
  refine v_i2b_s C dX5_append_35 (fun v8 => ?_)
  refine v_bast C 1 1 rfl rfl (by unfold vp_in; decide +kernel) (fun w9 => [(a0, .inr (5, [.ref a2, .ref a3, .ref a1, .int 18, .int 0, .int 0, .int 0, .int 0, .int 0, .int (-1), (g0 10), (g0 11), (g0 12), (g0 13), .int 0, (g0 15), (g0 16), (g0 17), .int 0])), (a1, .inl (d 1, 400, .inl w9))]) (fun _ => rfl) dX5_append_36 (fun w9 => ?_)
  refine v_aload_n C dX5_append_37 rfl 1 rfl ?_
  refine v_dup C dX5_append_38 rfl ?_
  refine v_get C EX5 0 rfl rfl 3 (by decide) k285 rfl dX5_append_39 ?_
  refine v_iconst (v := 1) C dX5_append_42 (by decide +kernel) ?_
  refine v_iadd C 19 dX5_append_43 (by decide +kernel) ?_
  refine v_put C EX5 0 rfl rfl 3 (by decide) k285 rfl rfl rfl (Nat.le_of_ble_eq_true rfl) [(a0, .inr (5, [.ref a2, .ref a3, .ref a1, .int 19, .int 0, .int 0, .int 0, .int 0, .int 0, .int (-1), (g0 10), (g0 11), (g0 12), (g0 13), .int 0, (g0 15), (g0 16), (g0 17), .int 0])), (a1, .inl (d 1, 400, .inl w9))] rfl dX5_append_44 ?_
  refine v_iinc C 0 dX5_append_47 0 rfl (by decide +kernel) (by decide) [(2, .int 0), (0, .ref a0), (1, .int p0)] rfl ?_
  refine v_goto C 3 dX5_append_50 (by decide) ?_
  refine v_iload_n C dX5_append_3 rfl 0 rfl ?_
  refine v_if_lt_f C 53 dX5_append_4 (by decide) (by decide +kernel) ?_
  refine v_aload_n C dX5_append_7 rfl 1 rfl ?_
  refine v_get C EX5 0 rfl rfl 3 (by decide) k285 rfl dX5_append_8 ?_
  refine v_if_lt_f C 47 dX5_append_11 (by decide) (by decide +kernel) ?_
  refine v_aload_n C dX5_append_14 rfl 1 rfl ?_
  refine v_get C EX5 0 rfl rfl 3 (by decide) k285 rfl dX5_append_15 ?_
  refine v_sipush (v := 400) C dX5_append_18 (by decide +kernel) ?_
  refine v_icmp_ge_f C 47 dX5_append_21 (by decide) (by decide +kernel) ?_
  refine v_aload_n C dX5_append_24 rfl 1 rfl ?_
  refine v_get C EX5 0 rfl rfl 2 (by decide) k148 rfl dX5_append_25 ?_
  refine v_aload_n C dX5_append_28 rfl 1 rfl ?_
  refine v_get C EX5 0 rfl rfl 3 (by decide) k285 rfl dX5_append_29 ?_
  refine v_iload_n C dX5_append_32 rfl 2 rfl ?_
  refine v_iload_n C dX5_append_33 rfl 0 rfl ?_
  refine v_ishr_s C dX5_append_34 (fun v10 => ?_)
  refine v_i2b_s C dX5_append_35 (fun v11 => ?_)
  refine v_bast C 1 1 rfl rfl (by unfold vp_in; decide +kernel) (fun w12 => [(a0, .inr (5, [.ref a2, .ref a3, .ref a1, .int 19, .int 0, .int 0, .int 0, .int 0, .int 0, .int (-1), (g0 10), (g0 11), (g0 12), (g0 13), .int 0, (g0 15), (g0 16), (g0 17), .int 0])), (a1, .inl (d 1, 400, .inl w12))]) (fun _ => rfl) dX5_append_36 (fun w12 => ?_)
  refine v_aload_n C dX5_append_37 rfl 1 rfl ?_
  refine v_dup C dX5_append_38 rfl ?_
  refine v_get C EX5 0 rfl rfl 3 (by decide) k285 rfl dX5_append_39 ?_
  refine v_iconst (v := 1) C dX5_append_42 (by decide +kernel) ?_
  refine v_iadd C 20 dX5_append_43 (by decide +kernel) ?_
  refine v_put C EX5 0 rfl rfl 3 (by decide) k285 rfl rfl rfl (Nat.le_of_ble_eq_true rfl) [(a0, .inr (5, [.ref a2, .ref a3, .ref a1, .int 20, .int 0, .int 0, .int 0, .int 0, .int 0, .int (-1), (g0 10), (g0 11), (g0 12), (g0 13), .int 0, (g0 15), (g0 16), (g0 17), .int 0])), (a1, .inl (d 1, 400, .inl w12))] rfl dX5_append_44 ?_
  refine v_iinc C (-8) dX5_append_47 0 rfl (by decide +kernel) (by decide) [(2, .int (-8)), (0, .ref a0), (1, .int p0)] rfl ?_
  refine v_goto C 3 dX5_append_50 (by decide) ?_
  refine v_iload_n C dX5_append_3 rfl 0 rfl ?_
  refine v_if_lt_t C 53 dX5_append_4 (by decide) (by decide +kernel) ?_
  exact v_return C (S := g_S) ((fun _ => 0, fun i => [w12].getD i (fun _ => 0), fun _ _ => .null) : g_S) hr hlocks [0, 1] rfl rfl (Nat.le_of_ble_eq_true rfl) (Nat.le_of_ble_eq_true rfl) dX5_append_53

set_option maxRecDepth 100000 in
set_option maxHeartbeats 4000000 in
/-- GroundProver$Reader.length()I -/
theorem c27_X5_length (l : Launch) (D : va_G) (d : Nat → ClassId) (a0 : Nat) (a1 : Nat) (a2 : Nat) (a3 : Nat) (g0 : Nat → Value) : ∀ sz, Met l yX5_length (g_wd yX5_length cX5_length 1 (some .int)) (g_rm 0 0 0) (va_Pc [.ref a0] (g_pr false D d [(a0, .inr (5, [.ref a1, .ref a2, .ref a3, .int 20, .int 0, .int 0, .int 0, .int 0, .int 0, .int (-1), (g0 10), (g0 11), (g0 12), (g0 13), .int 0, (g0 15), (g0 16), (g0 17), .int 0]))] sz)) (q_i D 20 (fun u : g_S => [(a0, .inr (5, [.ref a1, .ref a2, .ref a3, .int 20, .int 0, .int 0, .int 0, .int 0, .int 0, .int (-1), (g0 10), (g0 11), (g0 12), (g0 13), .int 0, (g0 15), (g0 16), (g0 17), .int 0]))]) (va_A [(a0, .inr (5, [.ref a1, .ref a2, .ref a3, .int 20, .int 0, .int 0, .int 0, .int 0, .int 0, .int (-1), (g0 10), (g0 11), (g0 12), (g0 13), .int 0, (g0 15), (g0 16), (g0 17), .int 0]))] sz)) 0 0 (va_A [(a0, .inr (5, [.ref a1, .ref a2, .ref a3, .int 20, .int 0, .int 0, .int 0, .int 0, .int 0, .int (-1), (g0 10), (g0 11), (g0 12), (g0 13), .int 0, (g0 15), (g0 16), (g0 17), .int 0]))] sz) := by
  refine s_met (y := yX5_length) (cc := cX5_length) (maxL := 1) (ret := (some .int)) (rm := (g_rm 0 0 0)) (mc := 0) (ms := 0) (E := false) (W0 := [(a0, .inr (5, [.ref a1, .ref a2, .ref a3, .int 20, .int 0, .int 0, .int 0, .int 0, .int 0, .int (-1), (g0 10), (g0 11), (g0 12), (g0 13), .int 0, (g0 15), (g0 16), (g0 17), .int 0]))]) (av := [.ref a0]) (Qf := fun A => q_i D 20 (fun u : g_S => [(a0, .inr (5, [.ref a1, .ref a2, .ref a3, .int 20, .int 0, .int 0, .int 0, .int 0, .int 0, .int (-1), (g0 10), (g0 11), (g0 12), (g0 13), .int 0, (g0 15), (g0 16), (g0 17), .int 0]))]) A) pn_X5 (Nat.le_of_ble_eq_true rfl) [(0, .ref a0)] rfl (fun p e s m below meth c A C hr hlocks hin hEx => ?_)
  refine v_aload_n C dX5_length_0 rfl 0 rfl ?_
  refine v_get C EX5 0 rfl rfl 3 (by decide) k285 rfl dX5_length_1 ?_
  exact v_ireturn C (S := g_S) ((fun _ => 0, fun _ _ => 0, fun _ _ => .null) : g_S) hr hlocks [0] rfl rfl (Nat.le_of_ble_eq_true rfl) (Nat.le_of_ble_eq_true rfl) dX5_length_4

set_option maxRecDepth 100000 in
set_option maxHeartbeats 4000000 in
/-- GroundProver.feed(IIIII)I -/
theorem c20_X11_feed (l : Launch) (D : va_G) (d : Nat → ClassId) (a0 : Nat) (a1 : Nat) (a2 : Nat) (a3 : Nat) (a4 : Nat) (a5 : Nat) (a6 : Nat) (a7 : Nat) (g0 : Nat → Value) (g1 : Nat → Value) (f2 : Nat → Int32) (p0 : Int32) (p1 : Int32) (p2 : Int32) (p3 : Int32) (p4 : Int32) : ∀ sz, Met l yX11_feed (g_wd yX11_feed cX11_feed 6 (some .int)) (g_rm 1 0 0) (va_Pc [.ref a0, .int p0, .int p1, .int p2, .int p3, .int p4] (g_pr false D d [(a0, .inr (11, [.ref a3, .ref a4, (g0 2), (g0 3), .ref a5, .ref a1, .ref a6, (g0 7), .ref a7, (g0 9), .int 0])), (a1, .inr (5, [.ref a3, .ref a4, .ref a2, .int 0, .int 0, .int 0, .int 0, .int 0, .int 0, .int (-1), (g1 10), (g1 11), (g1 12), (g1 13), .int 0, (g1 15), (g1 16), (g1 17), .int 0])), (a2, .inl (d 1, 400, .inl f2))] sz)) (q_i D 20 (fun u : g_S => [(a0, .inr (11, [.ref a3, .ref a4, (g0 2), (g0 3), .ref a5, .ref a1, .ref a6, (g0 7), .ref a7, (g0 9), .int 0])), (a1, .inr (5, [.ref a3, .ref a4, .ref a2, .int 20, .int 0, .int 0, .int 0, .int 0, .int 0, .int (-1), (g1 10), (g1 11), (g1 12), (g1 13), .int 0, (g1 15), (g1 16), (g1 17), .int 0])), (a2, .inl (d 1, 400, .inl (u.2.1 0)))]) (va_A [(a0, .inr (11, [.ref a3, .ref a4, (g0 2), (g0 3), .ref a5, .ref a1, .ref a6, (g0 7), .ref a7, (g0 9), .int 0])), (a1, .inr (5, [.ref a3, .ref a4, .ref a2, .int 0, .int 0, .int 0, .int 0, .int 0, .int 0, .int (-1), (g1 10), (g1 11), (g1 12), (g1 13), .int 0, (g1 15), (g1 16), (g1 17), .int 0])), (a2, .inl (d 1, 400, .inl f2))] sz)) 0 0 (va_A [(a0, .inr (11, [.ref a3, .ref a4, (g0 2), (g0 3), .ref a5, .ref a1, .ref a6, (g0 7), .ref a7, (g0 9), .int 0])), (a1, .inr (5, [.ref a3, .ref a4, .ref a2, .int 0, .int 0, .int 0, .int 0, .int 0, .int 0, .int (-1), (g1 10), (g1 11), (g1 12), (g1 13), .int 0, (g1 15), (g1 16), (g1 17), .int 0])), (a2, .inl (d 1, 400, .inl f2))] sz) := by
  refine s_met (y := yX11_feed) (cc := cX11_feed) (maxL := 6) (ret := (some .int)) (rm := (g_rm 1 0 0)) (mc := 0) (ms := 0) (E := false) (W0 := [(a0, .inr (11, [.ref a3, .ref a4, (g0 2), (g0 3), .ref a5, .ref a1, .ref a6, (g0 7), .ref a7, (g0 9), .int 0])), (a1, .inr (5, [.ref a3, .ref a4, .ref a2, .int 0, .int 0, .int 0, .int 0, .int 0, .int 0, .int (-1), (g1 10), (g1 11), (g1 12), (g1 13), .int 0, (g1 15), (g1 16), (g1 17), .int 0])), (a2, .inl (d 1, 400, .inl f2))]) (av := [.ref a0, .int p0, .int p1, .int p2, .int p3, .int p4]) (Qf := fun A => q_i D 20 (fun u : g_S => [(a0, .inr (11, [.ref a3, .ref a4, (g0 2), (g0 3), .ref a5, .ref a1, .ref a6, (g0 7), .ref a7, (g0 9), .int 0])), (a1, .inr (5, [.ref a3, .ref a4, .ref a2, .int 20, .int 0, .int 0, .int 0, .int 0, .int 0, .int (-1), (g1 10), (g1 11), (g1 12), (g1 13), .int 0, (g1 15), (g1 16), (g1 17), .int 0])), (a2, .inl (d 1, 400, .inl (u.2.1 0)))]) A) pn_X11 (Nat.le_of_ble_eq_true rfl) [(0, .ref a0), (1, .int p0), (2, .int p1), (3, .int p2), (4, .int p3), (5, .int p4)] rfl (fun p e s m below meth c A C hr hlocks hin hEx => ?_)
  refine v_aload_n C dX11_feed_0 rfl 0 rfl ?_
  refine v_get C EX11 0 rfl rfl 5 (by decide) k162 rfl dX11_feed_1 ?_
  refine v_callVi C FX5_length GX5_length k286 (c21_X5_length l D d a1 a3 a4 a2 (g1)) (fun h => nomatch h) 1 rfl rfl (wr := [(a0, .inr (11, [.ref a3, .ref a4, (g0 2), (g0 3), .ref a5, .ref a1, .ref a6, (g0 7), .ref a7, (g0 9), .int 0])), (a2, .inl (d 1, 400, .inl f2))]) (rest := []) [1] [0, 2] rfl rfl rfl rfl (by decide) ⟨rfl, rfl⟩ ⟨Nat.le_of_ble_eq_true rfl, Nat.le_of_ble_eq_true rfl⟩ ⟨Nat.le_of_ble_eq_true rfl, Nat.le_of_ble_eq_true rfl⟩ (Nat.le_of_ble_eq_true rfl) rfl rfl (fun u1 => [(a0, .inr (11, [.ref a3, .ref a4, (g0 2), (g0 3), .ref a5, .ref a1, .ref a6, (g0 7), .ref a7, (g0 9), .int 0])), (a2, .inl (d 1, 400, .inl f2)), (a1, .inr (5, [.ref a3, .ref a4, .ref a2, .int 0, .int 0, .int 0, .int 0, .int 0, .int 0, .int (-1), (g1 10), (g1 11), (g1 12), (g1 13), .int 0, (g1 15), (g1 16), (g1 17), .int 0]))]) (fun _ => rfl) dX11_feed_4 (fun u1 => ?_)
  refine v_bipush (v := 20) C dX11_feed_7 (by decide +kernel) ?_
  refine v_iadd C 20 dX11_feed_9 (by decide +kernel) ?_
  refine v_sipush (v := 400) C dX11_feed_10 (by decide +kernel) ?_
  refine v_icmp_le_t C 26 dX11_feed_13 (by decide) (by decide +kernel) ?_
  refine v_aload_n C dX11_feed_26 rfl 0 rfl ?_
  refine v_get C EX11 0 rfl rfl 5 (by decide) k162 rfl dX11_feed_27 ?_
  refine v_iload_n C dX11_feed_30 rfl 1 rfl ?_
  refine v_callVv C FX5_append GX5_append k290 (c22_X5_append l D d a1 a2 a3 a4 (g1) f2 p0) (fun h => nomatch h) 2 rfl rfl (wr := [(a0, .inr (11, [.ref a3, .ref a4, (g0 2), (g0 3), .ref a5, .ref a1, .ref a6, (g0 7), .ref a7, (g0 9), .int 0]))]) (rest := []) [2, 1] [0] rfl rfl rfl rfl (by decide) ⟨rfl, rfl⟩ ⟨Nat.le_of_ble_eq_true rfl, Nat.le_of_ble_eq_true rfl⟩ ⟨Nat.le_of_ble_eq_true rfl, Nat.le_of_ble_eq_true rfl⟩ (Nat.le_of_ble_eq_true rfl) rfl rfl (fun u2 => [(a0, .inr (11, [.ref a3, .ref a4, (g0 2), (g0 3), .ref a5, .ref a1, .ref a6, (g0 7), .ref a7, (g0 9), .int 0])), (a1, .inr (5, [.ref a3, .ref a4, .ref a2, .int 4, .int 0, .int 0, .int 0, .int 0, .int 0, .int (-1), (g1 10), (g1 11), (g1 12), (g1 13), .int 0, (g1 15), (g1 16), (g1 17), .int 0])), (a2, .inl (d 1, 400, .inl (u2.2.1 0)))]) (fun _ => rfl) dX11_feed_31 (fun u2 => ?_)
  refine v_aload_n C dX11_feed_34 rfl 0 rfl ?_
  refine v_get C EX11 0 rfl rfl 5 (by decide) k162 rfl dX11_feed_35 ?_
  refine v_iload_n C dX11_feed_38 rfl 2 rfl ?_
  refine v_callVv C FX5_append GX5_append k290 (c23_X5_append l D d a1 a2 a3 a4 (g1) (u2.2.1 0) p1) (fun h => nomatch h) 1 rfl rfl (wr := [(a0, .inr (11, [.ref a3, .ref a4, (g0 2), (g0 3), .ref a5, .ref a1, .ref a6, (g0 7), .ref a7, (g0 9), .int 0]))]) (rest := []) [1, 2] [0] rfl rfl rfl rfl (by decide) ⟨rfl, rfl⟩ ⟨Nat.le_of_ble_eq_true rfl, Nat.le_of_ble_eq_true rfl⟩ ⟨Nat.le_of_ble_eq_true rfl, Nat.le_of_ble_eq_true rfl⟩ (Nat.le_of_ble_eq_true rfl) rfl rfl (fun u3 => [(a0, .inr (11, [.ref a3, .ref a4, (g0 2), (g0 3), .ref a5, .ref a1, .ref a6, (g0 7), .ref a7, (g0 9), .int 0])), (a1, .inr (5, [.ref a3, .ref a4, .ref a2, .int 8, .int 0, .int 0, .int 0, .int 0, .int 0, .int (-1), (g1 10), (g1 11), (g1 12), (g1 13), .int 0, (g1 15), (g1 16), (g1 17), .int 0])), (a2, .inl (d 1, 400, .inl (u3.2.1 0)))]) (fun _ => rfl) dX11_feed_39 (fun u3 => ?_)
  refine v_aload_n C dX11_feed_42 rfl 0 rfl ?_
  refine v_get C EX11 0 rfl rfl 5 (by decide) k162 rfl dX11_feed_43 ?_
  refine v_iload_n C dX11_feed_46 rfl 3 rfl ?_
  refine v_callVv C FX5_append GX5_append k290 (c24_X5_append l D d a1 a2 a3 a4 (g1) (u3.2.1 0) p2) (fun h => nomatch h) 1 rfl rfl (wr := [(a0, .inr (11, [.ref a3, .ref a4, (g0 2), (g0 3), .ref a5, .ref a1, .ref a6, (g0 7), .ref a7, (g0 9), .int 0]))]) (rest := []) [1, 2] [0] rfl rfl rfl rfl (by decide) ⟨rfl, rfl⟩ ⟨Nat.le_of_ble_eq_true rfl, Nat.le_of_ble_eq_true rfl⟩ ⟨Nat.le_of_ble_eq_true rfl, Nat.le_of_ble_eq_true rfl⟩ (Nat.le_of_ble_eq_true rfl) rfl rfl (fun u4 => [(a0, .inr (11, [.ref a3, .ref a4, (g0 2), (g0 3), .ref a5, .ref a1, .ref a6, (g0 7), .ref a7, (g0 9), .int 0])), (a1, .inr (5, [.ref a3, .ref a4, .ref a2, .int 12, .int 0, .int 0, .int 0, .int 0, .int 0, .int (-1), (g1 10), (g1 11), (g1 12), (g1 13), .int 0, (g1 15), (g1 16), (g1 17), .int 0])), (a2, .inl (d 1, 400, .inl (u4.2.1 0)))]) (fun _ => rfl) dX11_feed_47 (fun u4 => ?_)
  refine v_aload_n C dX11_feed_50 rfl 0 rfl ?_
  refine v_get C EX11 0 rfl rfl 5 (by decide) k162 rfl dX11_feed_51 ?_
  refine v_iload C dX11_feed_54 4 rfl ?_
  refine v_callVv C FX5_append GX5_append k290 (c25_X5_append l D d a1 a2 a3 a4 (g1) (u4.2.1 0) p3) (fun h => nomatch h) 1 rfl rfl (wr := [(a0, .inr (11, [.ref a3, .ref a4, (g0 2), (g0 3), .ref a5, .ref a1, .ref a6, (g0 7), .ref a7, (g0 9), .int 0]))]) (rest := []) [1, 2] [0] rfl rfl rfl rfl (by decide) ⟨rfl, rfl⟩ ⟨Nat.le_of_ble_eq_true rfl, Nat.le_of_ble_eq_true rfl⟩ ⟨Nat.le_of_ble_eq_true rfl, Nat.le_of_ble_eq_true rfl⟩ (Nat.le_of_ble_eq_true rfl) rfl rfl (fun u5 => [(a0, .inr (11, [.ref a3, .ref a4, (g0 2), (g0 3), .ref a5, .ref a1, .ref a6, (g0 7), .ref a7, (g0 9), .int 0])), (a1, .inr (5, [.ref a3, .ref a4, .ref a2, .int 16, .int 0, .int 0, .int 0, .int 0, .int 0, .int (-1), (g1 10), (g1 11), (g1 12), (g1 13), .int 0, (g1 15), (g1 16), (g1 17), .int 0])), (a2, .inl (d 1, 400, .inl (u5.2.1 0)))]) (fun _ => rfl) dX11_feed_56 (fun u5 => ?_)
  refine v_aload_n C dX11_feed_59 rfl 0 rfl ?_
  refine v_get C EX11 0 rfl rfl 5 (by decide) k162 rfl dX11_feed_60 ?_
  refine v_iload C dX11_feed_63 5 rfl ?_
  refine v_callVv C FX5_append GX5_append k290 (c26_X5_append l D d a1 a2 a3 a4 (g1) (u5.2.1 0) p4) (fun h => nomatch h) 1 rfl rfl (wr := [(a0, .inr (11, [.ref a3, .ref a4, (g0 2), (g0 3), .ref a5, .ref a1, .ref a6, (g0 7), .ref a7, (g0 9), .int 0]))]) (rest := []) [1, 2] [0] rfl rfl rfl rfl (by decide) ⟨rfl, rfl⟩ ⟨Nat.le_of_ble_eq_true rfl, Nat.le_of_ble_eq_true rfl⟩ ⟨Nat.le_of_ble_eq_true rfl, Nat.le_of_ble_eq_true rfl⟩ (Nat.le_of_ble_eq_true rfl) rfl rfl (fun u6 => [(a0, .inr (11, [.ref a3, .ref a4, (g0 2), (g0 3), .ref a5, .ref a1, .ref a6, (g0 7), .ref a7, (g0 9), .int 0])), (a1, .inr (5, [.ref a3, .ref a4, .ref a2, .int 20, .int 0, .int 0, .int 0, .int 0, .int 0, .int (-1), (g1 10), (g1 11), (g1 12), (g1 13), .int 0, (g1 15), (g1 16), (g1 17), .int 0])), (a2, .inl (d 1, 400, .inl (u6.2.1 0)))]) (fun _ => rfl) dX11_feed_65 (fun u6 => ?_)
  refine v_aload_n C dX11_feed_68 rfl 0 rfl ?_
  refine v_get C EX11 0 rfl rfl 5 (by decide) k162 rfl dX11_feed_69 ?_
  refine v_callVi C FX5_length GX5_length k286 (c27_X5_length l D d a1 a3 a4 a2 (g1)) (fun h => nomatch h) 1 rfl rfl (wr := [(a0, .inr (11, [.ref a3, .ref a4, (g0 2), (g0 3), .ref a5, .ref a1, .ref a6, (g0 7), .ref a7, (g0 9), .int 0])), (a2, .inl (d 1, 400, .inl (u6.2.1 0)))]) (rest := []) [1] [0, 2] rfl rfl rfl rfl (by decide) ⟨rfl, rfl⟩ ⟨Nat.le_of_ble_eq_true rfl, Nat.le_of_ble_eq_true rfl⟩ ⟨Nat.le_of_ble_eq_true rfl, Nat.le_of_ble_eq_true rfl⟩ (Nat.le_of_ble_eq_true rfl) rfl rfl (fun u7 => [(a0, .inr (11, [.ref a3, .ref a4, (g0 2), (g0 3), .ref a5, .ref a1, .ref a6, (g0 7), .ref a7, (g0 9), .int 0])), (a2, .inl (d 1, 400, .inl (u6.2.1 0))), (a1, .inr (5, [.ref a3, .ref a4, .ref a2, .int 20, .int 0, .int 0, .int 0, .int 0, .int 0, .int (-1), (g1 10), (g1 11), (g1 12), (g1 13), .int 0, (g1 15), (g1 16), (g1 17), .int 0]))]) (fun _ => rfl) dX11_feed_72 (fun u7 => ?_)
  exact v_ireturn C (S := g_S) ((fun _ => 0, fun i => [(u6.2.1 0)].getD i (fun _ => 0), fun _ _ => .null) : g_S) hr hlocks [0, 2, 1] rfl rfl (Nat.le_of_ble_eq_true rfl) (Nat.le_of_ble_eq_true rfl) dX11_feed_75

