section XW
variable {p : Program} {l : Launch} {e : Env} {R : Room} {s : State} {m : MethodId} {args : Array Value} {below : List Frame} {meth : Method} {c : Code} {Qg : State → Prop} {D : va_G} {d : Nat → ClassId} {K : Nat → Nat} {A : Nat → Prop} {zc zs : Int} {L : va_W}
set_option maxHeartbeats 4000000 in
theorem m_X11_normalForm (hlf : l.stackTraces = false) (a1 : Int) : MX l D d K yX11_normalForm cX11_normalForm 3 (some .int) 5 [(.ref (K 0)), (iv a1)] g_ARE (fun Q QE M => F_X11_normalForm Q QE a1 M) := by
  refine s_mxW pn_X11 (Nat.le_of_ble_eq_true rfl) [(0, (.ref (K 0))), (1, (iv a1))] rfl rfl rfl hlf xf_g_ARE (fun p e R s m args below meth c A L M zc zs Q QE Qg C hret hthr h => ?_)
  refine x_aload_n C dX11_normalForm_0 rfl 0 rfl ?_
  refine x_iload_n C dX11_normalForm_1 rfl 1 rfl ?_
  refine x_callVi C FX11_isTerm GX11_isTerm k114 (m_X11_isTerm a1) h (by decide) (fun _ => rfl) rfl (Nat.le_of_ble_eq_true rfl) (Nat.le_of_ble_eq_true rfl) (rest := []) (Nat.le_of_ble_eq_true rfl) rfl rfl dX11_normalForm_2 (fun v1 M1 h => ?_)
  refine x_if_ne C 18 dX11_normalForm_5 (by decide) (fun c2 => ?_) (fun c2 => ?_)
  · replace h := h.1 c2
    exact h.elim
  · replace h := h.2 c2
    refine x_aload_n C dX11_normalForm_18 rfl 0 rfl ?_
    refine x_callVv C FX11_tidy GX11_tidy k127 (m_X11_tidy) h (by decide) (fun _ => rfl) rfl (Nat.le_of_ble_eq_true rfl) (Nat.le_of_ble_eq_true rfl) (rest := []) (Nat.le_of_ble_eq_true rfl) rfl rfl dX11_normalForm_19 (fun M3 h => ?_)
    refine x_aload_n C dX11_normalForm_22 rfl 0 rfl ?_
    refine gf_0_4 C k357 dX11_normalForm_23 ?_
    refine x_aload_n C dX11_normalForm_26 rfl 0 rfl ?_
    refine gf_0_9 C k131 dX11_normalForm_27 ?_
    refine x_iload_n C dX11_normalForm_30 rfl 1 rfl ?_
    refine x_rget C 33 (by decide) k132 (Nat.le_of_ble_eq_true rfl) (Nat.le_of_ble_eq_true rfl) dX11_normalForm_31 ?_
    refine x_callVi C FX9_normalize GX9_normalize k572 (m_X9_normalize (rg M3 33 a1)) h (by decide) (fun _ => rfl) rfl (Nat.le_of_ble_eq_true rfl) (Nat.le_of_ble_eq_true rfl) (rest := []) (Nat.le_of_ble_eq_true rfl) rfl rfl dX11_normalForm_34 (fun v4 M4 h => ?_)
    refine x_istore_n C dX11_normalForm_37 rfl (by decide) [(2, (iv v4)), (0, (.ref (K 0))), (1, (iv a1))] rfl ?_
    refine x_aload_n C dX11_normalForm_38 rfl 1 rfl ?_
    refine gf_0_1 C k119 dX11_normalForm_39 ?_
    refine x_iload_n C dX11_normalForm_42 rfl 0 rfl ?_
    refine x_callVi C FX8_isTooLarge GX8_isTooLarge k189 (m_X8_isTooLarge v4) h (by decide) (fun _ => rfl) rfl (Nat.le_of_ble_eq_true rfl) (Nat.le_of_ble_eq_true rfl) (rest := []) (Nat.le_of_ble_eq_true rfl) rfl rfl dX11_normalForm_43 (fun v5 M5 h => ?_)
    refine x_if_eq C 60 dX11_normalForm_46 (by decide) (fun c6 => ?_) (fun c6 => ?_)
    · replace h := h.1 c6
      refine x_aload_n C dX11_normalForm_60 rfl 1 rfl ?_
      refine x_iload_n C dX11_normalForm_61 rfl 0 rfl ?_
      refine x_callVi C FX11_giveNumber GX11_giveNumber k207 (m_X11_giveNumber v4) h (by decide) (fun _ => rfl) rfl (Nat.le_of_ble_eq_true rfl) (Nat.le_of_ble_eq_true rfl) (rest := []) (Nat.le_of_ble_eq_true rfl) rfl rfl dX11_normalForm_62 (fun v7 M7 h => ?_)
      exact hret _ _ _ _ dX11_normalForm_65 h
    · replace h := h.2 c6
      exact hthr M5 h.1 h.2 k520 k521 (List.mem_of_getElem? (i := 15) rfl) dX11_normalForm_49 dX11_normalForm_52 dX11_normalForm_53 dX11_normalForm_56 dX11_normalForm_59
set_option maxHeartbeats 4000000 in
theorem m_X9_makesEqual (a1 : Int) (a2 : Int) : MI l D d K yX9_makesEqual cX9_makesEqual 3 (some .boolean) 5 [(.ref (K 5)), (iv a1), (iv a2)] (fun Q M => F_X9_makesEqual Q a1 a2 M) := by
  refine s_mz pn_X9 (Nat.le_of_ble_eq_true rfl) [(0, (.ref (K 5))), (1, (iv a1)), (2, (iv a2))] rfl rfl (fun p e R s m args below meth c A L M zc zs Q Qg C hret h => ?_)
  refine x_iload_n C dX9_makesEqual_0 rfl 1 rfl ?_
  refine x_iload_n C dX9_makesEqual_1 rfl 2 rfl ?_
  refine x_icmp_eq C 18 dX9_makesEqual_2 (by decide) (fun c1 => ?_) (fun c1 => ?_)
  · replace h := h.1 c1
    refine x_iconst C (n := 1) dX9_makesEqual_18 ?_
    refine x_goto C 23 dX9_makesEqual_19 (by decide) ?_
    exact hret _ _ _ _ dX9_makesEqual_23 (by unfold isB; decide) h
  · replace h := h.2 c1
    refine x_aload_n C dX9_makesEqual_5 rfl 0 rfl ?_
    refine x_iload_n C dX9_makesEqual_6 rfl 1 rfl ?_
    refine x_callVi C FX9_normalize GX9_normalize k576 (m_X9_normalize a1) h (by decide) (fun _ => rfl) rfl (Nat.le_of_ble_eq_true rfl) (Nat.le_of_ble_eq_true rfl) (rest := []) (Nat.le_of_ble_eq_true rfl) rfl rfl dX9_makesEqual_7 (fun v2 M2 h => ?_)
    refine x_aload_n C dX9_makesEqual_10 rfl 0 rfl ?_
    refine x_iload_n C dX9_makesEqual_11 rfl 2 rfl ?_
    refine x_callVi C FX9_normalize GX9_normalize k576 (m_X9_normalize a2) h (by decide) (fun _ => rfl) rfl (Nat.le_of_ble_eq_true rfl) (Nat.le_of_ble_eq_true rfl) (rest := [(iv v2)]) (Nat.le_of_ble_eq_true rfl) rfl rfl dX9_makesEqual_12 (fun v3 M3 h => ?_)
    refine x_icmp_ne C 22 dX9_makesEqual_15 (by decide) (fun c4 => ?_) (fun c4 => ?_)
    · replace h := h.1 c4
      refine x_iconst C (n := 1) dX9_makesEqual_18 ?_
      refine x_goto C 23 dX9_makesEqual_19 (by decide) ?_
      exact hret _ _ _ _ dX9_makesEqual_23 (by unfold isB; decide) h
    · replace h := h.2 c4
      refine x_iconst C (n := 0) dX9_makesEqual_22 ?_
      exact hret _ _ _ _ dX9_makesEqual_23 (by unfold isB; decide) h
set_option maxHeartbeats 4000000 in
theorem m_X11_areEqual (a1 : Int) (a2 : Int) : MI l D d K yX11_areEqual cX11_areEqual 3 (some .boolean) 6 [(.ref (K 0)), (iv a1), (iv a2)] (fun Q M => F_X11_areEqual Q a1 a2 M) := by
  refine s_mz pn_X11 (Nat.le_of_ble_eq_true rfl) [(0, (.ref (K 0))), (1, (iv a1)), (2, (iv a2))] rfl rfl (fun p e R s m args below meth c A L M zc zs Q Qg C hret h => ?_)
  refine x_aload_n C dX11_areEqual_0 rfl 0 rfl ?_
  refine x_iload_n C dX11_areEqual_1 rfl 1 rfl ?_
  refine x_callVi C FX11_isTerm GX11_isTerm k114 (m_X11_isTerm a1) h (by decide) (fun _ => rfl) rfl (Nat.le_of_ble_eq_true rfl) (Nat.le_of_ble_eq_true rfl) (rest := []) (Nat.le_of_ble_eq_true rfl) rfl rfl dX11_areEqual_2 (fun v1 M1 h => ?_)
  refine x_if_eq C 16 dX11_areEqual_5 (by decide) (fun c2 => ?_) (fun c2 => ?_)
  · replace h := h.1 c2
    exact h.elim
  · replace h := h.2 c2
    refine x_aload_n C dX11_areEqual_8 rfl 0 rfl ?_
    refine x_iload_n C dX11_areEqual_9 rfl 2 rfl ?_
    refine x_callVi C FX11_isTerm GX11_isTerm k114 (m_X11_isTerm a2) h (by decide) (fun _ => rfl) rfl (Nat.le_of_ble_eq_true rfl) (Nat.le_of_ble_eq_true rfl) (rest := []) (Nat.le_of_ble_eq_true rfl) rfl rfl dX11_areEqual_10 (fun v3 M3 h => ?_)
    refine x_if_ne C 26 dX11_areEqual_13 (by decide) (fun c4 => ?_) (fun c4 => ?_)
    · replace h := h.1 c4
      exact h.elim
    · replace h := h.2 c4
      refine x_aload_n C dX11_areEqual_26 rfl 0 rfl ?_
      refine x_callVv C FX11_tidy GX11_tidy k127 (m_X11_tidy) h (by decide) (fun _ => rfl) rfl (Nat.le_of_ble_eq_true rfl) (Nat.le_of_ble_eq_true rfl) (rest := []) (Nat.le_of_ble_eq_true rfl) rfl rfl dX11_areEqual_27 (fun M5 h => ?_)
      refine x_aload_n C dX11_areEqual_30 rfl 0 rfl ?_
      refine gf_0_4 C k357 dX11_areEqual_31 ?_
      refine x_aload_n C dX11_areEqual_34 rfl 0 rfl ?_
      refine gf_0_9 C k131 dX11_areEqual_35 ?_
      refine x_iload_n C dX11_areEqual_38 rfl 1 rfl ?_
      refine x_rget C 33 (by decide) k132 (Nat.le_of_ble_eq_true rfl) (Nat.le_of_ble_eq_true rfl) dX11_areEqual_39 ?_
      refine x_aload_n C dX11_areEqual_42 rfl 0 rfl ?_
      refine gf_0_9 C k131 dX11_areEqual_43 ?_
      refine x_iload_n C dX11_areEqual_46 rfl 2 rfl ?_
      refine x_rget C 33 (by decide) k132 (Nat.le_of_ble_eq_true rfl) (Nat.le_of_ble_eq_true rfl) dX11_areEqual_47 ?_
      refine x_callVi C FX9_makesEqual GX9_makesEqual k577 (m_X9_makesEqual (rg M5 33 a1) (rg M5 33 a2)) h (by decide) (fun _ => rfl) rfl (Nat.le_of_ble_eq_true rfl) (Nat.le_of_ble_eq_true rfl) (rest := []) (Nat.le_of_ble_eq_true rfl) rfl rfl dX11_areEqual_50 (fun v6 M6 h => ?_)
      exact hret _ _ _ _ dX11_areEqual_53 h.1 h.2
set_option maxHeartbeats 4000000 in
theorem m_X10_tally (a1 : Int) : MI l D d K yX10_tally cX10_tally 2 (some .int) 1 [(.ref (K 3)), (iv a1)] (fun Q M => F_X10_tally Q a1 M) := by
  refine s_mi pn_X10 (Nat.le_of_ble_eq_true rfl) [(0, (.ref (K 3))), (1, (iv a1))] rfl rfl (fun p e R s m args below meth c A L M zc zs Q Qg C hret h => ?_)
  refine x_aload_n C dX10_tally_0 rfl 0 rfl ?_
  refine gf_3_4 C k563 dX10_tally_1 ?_
  refine x_iload_n C dX10_tally_4 rfl 1 rfl ?_
  refine x_rget C 9 (by decide) k220 (Nat.le_of_ble_eq_true rfl) (Nat.le_of_ble_eq_true rfl) dX10_tally_5 ?_
  exact hret _ _ _ _ dX10_tally_8 h
set_option maxHeartbeats 4000000 in
theorem m_X9_countSteps (a1 : Int) : MI l D d K yX9_countSteps cX9_countSteps 2 (some .int) 5 [(.ref (K 5)), (iv a1)] (fun Q M => F_X9_countSteps Q a1 M) := by
  refine s_mi pn_X9 (Nat.le_of_ble_eq_true rfl) [(0, (.ref (K 5))), (1, (iv a1))] rfl rfl (fun p e R s m args below meth c A L M zc zs Q Qg C hret h => ?_)
  refine x_aload_n C dX9_countSteps_0 rfl 0 rfl ?_
  refine x_iload_n C dX9_countSteps_1 rfl 1 rfl ?_
  refine x_callVi C FX9_normalize GX9_normalize k576 (m_X9_normalize a1) h (by decide) (fun _ => rfl) rfl (Nat.le_of_ble_eq_true rfl) (Nat.le_of_ble_eq_true rfl) (rest := []) (Nat.le_of_ble_eq_true rfl) rfl rfl dX9_countSteps_2 (fun v1 M1 h => ?_)
  refine x_pop C dX9_countSteps_5 rfl ?_
  refine x_aload_n C dX9_countSteps_6 rfl 0 rfl ?_
  refine gf_5_2 C k367 dX9_countSteps_7 ?_
  refine x_aload_n C dX9_countSteps_10 rfl 0 rfl ?_
  refine gf_5_2 C k367 dX9_countSteps_11 ?_
  refine x_callVi C FX10_count GX10_count k537 (m_X10_count) h (by decide) (fun _ => rfl) rfl (Nat.le_of_ble_eq_true rfl) (Nat.le_of_ble_eq_true rfl) (rest := [(.ref (K 3))]) (Nat.le_of_ble_eq_true rfl) rfl rfl dX9_countSteps_14 (fun v2 M2 h => ?_)
  refine x_iconst C (n := 1) dX9_countSteps_17 ?_
  refine x_isub C dX9_countSteps_18 ?_
  refine x_callVi C FX10_tally GX10_tally k581 (m_X10_tally (v2 - 1)) h (by decide) (fun _ => rfl) rfl (Nat.le_of_ble_eq_true rfl) (Nat.le_of_ble_eq_true rfl) (rest := []) (Nat.le_of_ble_eq_true rfl) rfl rfl dX9_countSteps_19 (fun v3 M3 h => ?_)
  exact hret _ _ _ _ dX9_countSteps_22 h
set_option maxHeartbeats 4000000 in
theorem m_X11_stepCount (a1 : Int) : MI l D d K yX11_stepCount cX11_stepCount 2 (some .int) 6 [(.ref (K 0)), (iv a1)] (fun Q M => F_X11_stepCount Q a1 M) := by
  refine s_mi pn_X11 (Nat.le_of_ble_eq_true rfl) [(0, (.ref (K 0))), (1, (iv a1))] rfl rfl (fun p e R s m args below meth c A L M zc zs Q Qg C hret h => ?_)
  refine x_aload_n C dX11_stepCount_0 rfl 0 rfl ?_
  refine x_iload_n C dX11_stepCount_1 rfl 1 rfl ?_
  refine x_callVi C FX11_isTerm GX11_isTerm k114 (m_X11_isTerm a1) h (by decide) (fun _ => rfl) rfl (Nat.le_of_ble_eq_true rfl) (Nat.le_of_ble_eq_true rfl) (rest := []) (Nat.le_of_ble_eq_true rfl) rfl rfl dX11_stepCount_2 (fun v1 M1 h => ?_)
  refine x_if_ne C 18 dX11_stepCount_5 (by decide) (fun c2 => ?_) (fun c2 => ?_)
  · replace h := h.1 c2
    exact h.elim
  · replace h := h.2 c2
    refine x_aload_n C dX11_stepCount_18 rfl 0 rfl ?_
    refine x_callVv C FX11_tidy GX11_tidy k127 (m_X11_tidy) h (by decide) (fun _ => rfl) rfl (Nat.le_of_ble_eq_true rfl) (Nat.le_of_ble_eq_true rfl) (rest := []) (Nat.le_of_ble_eq_true rfl) rfl rfl dX11_stepCount_19 (fun M3 h => ?_)
    refine x_aload_n C dX11_stepCount_22 rfl 0 rfl ?_
    refine gf_0_4 C k357 dX11_stepCount_23 ?_
    refine x_aload_n C dX11_stepCount_26 rfl 0 rfl ?_
    refine gf_0_9 C k131 dX11_stepCount_27 ?_
    refine x_iload_n C dX11_stepCount_30 rfl 1 rfl ?_
    refine x_rget C 33 (by decide) k132 (Nat.le_of_ble_eq_true rfl) (Nat.le_of_ble_eq_true rfl) dX11_stepCount_31 ?_
    refine x_callVi C FX9_countSteps GX9_countSteps k585 (m_X9_countSteps (rg M3 33 a1)) h (by decide) (fun _ => rfl) rfl (Nat.le_of_ble_eq_true rfl) (Nat.le_of_ble_eq_true rfl) (rest := []) (Nat.le_of_ble_eq_true rfl) rfl rfl dX11_stepCount_34 (fun v4 M4 h => ?_)
    exact hret _ _ _ _ dX11_stepCount_37 h
set_option maxHeartbeats 4000000 in
theorem m_L_below (a0 : Int) (a1 : Int) : MI l D d K yL_below cL_below 2 (some .int) 0 [(iv a0), (iv a1)] (fun Q M => F_L_below Q a0 a1 M) := by
  refine s_mi pn_L (Nat.le_of_ble_eq_true rfl) [(0, (iv a0)), (1, (iv a1))] rfl rfl (fun p e R s m args below meth c A L M zc zs Q Qg C hret h => ?_)
  refine x_iload_n C dL_below_0 rfl 0 rfl ?_
  refine x_ldc C (n := 2147483647) (show Cond.constant RL 7 (Int32.ofInt 2147483647) ∈ gW from k589) dL_below_1 ?_
  refine x_iand C dL_below_3 ?_
  refine x_iload_n C dL_below_4 rfl 1 rfl ?_
  refine x_irem C dL_below_5 h.1 ?_
  replace h := h.2
  exact hret _ _ _ _ dL_below_6 h
set_option maxHeartbeats 4000000 in
theorem m_L_declare (a1 : Int) (a2 : Int) (a3 : Int) : MI l D d K yL_declare cL_declare 5 (some .int) 5 [(.ref (K 0)), (iv a1), (iv a2), (iv a3)] (fun Q M => F_L_declare Q a1 a2 a3 M) := by
  refine s_mi pn_L (Nat.le_of_ble_eq_true rfl) [(0, (.ref (K 0))), (1, (iv a1)), (2, (iv a2)), (3, (iv a3))] rfl rfl (fun p e R s m args below meth c A L M zc zs Q Qg C hret h => ?_)
  refine x_aload_n C dL_declare_0 rfl 0 rfl ?_
  refine x_iload_n C dL_declare_1 rfl 1 rfl ?_
  refine x_bipush C (n := 24) (by decide) (by decide) dL_declare_2 ?_
  refine x_ishl C dL_declare_4 ?_
  refine x_iconst C (n := 0) dL_declare_5 ?_
  refine x_iconst C (n := 0) dL_declare_6 ?_
  refine x_iconst C (n := 0) dL_declare_7 ?_
  refine x_iconst C (n := 0) dL_declare_8 ?_
  refine x_callVi C FX11_feed GX11_feed k591 (m_X11_feed (ishl a1 24) 0 0 0 0) h (by decide) (fun _ => rfl) rfl (Nat.le_of_ble_eq_true rfl) (Nat.le_of_ble_eq_true rfl) (rest := []) (Nat.le_of_ble_eq_true rfl) rfl rfl dL_declare_9 (fun v1 M1 h => ?_)
  refine x_istore C dL_declare_12 (by decide) [(4, (iv v1)), (0, (.ref (K 0))), (1, (iv a1)), (2, (iv a2)), (3, (iv a3))] rfl ?_
  refine x_iload C dL_declare_14 0 rfl ?_
  refine x_bipush C (n := 20) (by decide) (by decide) dL_declare_16 ?_
  refine x_icmp_ne C 39 dL_declare_18 (by decide) (fun c2 => ?_) (fun c2 => ?_)
  · replace h := h.1 c2
    refine x_aload_n C dL_declare_21 rfl 1 rfl ?_
    refine x_iconst C (n := 1) dL_declare_22 ?_
    refine x_callVi C FX11_trim GX11_trim k595 (m_X11_trim 1) h (by decide) (fun _ => rfl) rfl (Nat.le_of_ble_eq_true rfl) (Nat.le_of_ble_eq_true rfl) (rest := []) (Nat.le_of_ble_eq_true rfl) rfl rfl dL_declare_23 (fun v3 M3 h => ?_)
    refine x_iconst C (n := 1) dL_declare_26 ?_
    refine x_icmp_ne C 39 dL_declare_27 (by decide) (fun c4 => ?_) (fun c4 => ?_)
    · replace h := h.1 c4
      refine x_aload_n C dL_declare_30 rfl 1 rfl ?_
      refine x_iload_n C dL_declare_31 rfl 3 rfl ?_
      refine x_iload_n C dL_declare_32 rfl 4 rfl ?_
      refine x_callVi C FX11_declare GX11_declare k599 (m_X11_declare a2 a3) h (by decide) (fun _ => rfl) rfl (Nat.le_of_ble_eq_true rfl) (Nat.le_of_ble_eq_true rfl) (rest := []) (Nat.le_of_ble_eq_true rfl) rfl rfl dL_declare_33 (fun v5 M5 h => ?_)
      refine x_goto C 40 dL_declare_36 (by decide) ?_
      exact hret _ _ _ _ dL_declare_40 h
    · replace h := h.2 c4
      refine x_iconst C (n := (-1)) dL_declare_39 ?_
      exact hret _ _ _ _ dL_declare_40 h
  · replace h := h.2 c2
    refine x_iconst C (n := (-1)) dL_declare_39 ?_
    exact hret _ _ _ _ dL_declare_40 h
set_option maxHeartbeats 4000000 in
theorem T_L_setUp_149 {Q : Int → g_M → Prop} (C : XC p R s m args c D d A cL_setUp 5 RL 6 zc zs) (hret : RTZ p l e R s m args below meth c Qg D d K A 5 zc zs L cL_setUp Q) (x3 : Int) (x4 : Int) (t1 : Int) (t2 : Int) (M : g_M) (h : F_L_setUp_149 Q x3 x4 t1 t2 M) : X p l e R s m args below meth c Qg D d K A 5 zc zs L M [(0, (.ref (K 0))), (3, (iv x3)), (4, (iv x4))] 149 [(iv t2), (iv t1), (.ref (K 0))] := by
  refine x_callVi C FX11_setDirection GX11_setDirection k614 (m_X11_setDirection t1 t2) h (by decide) (fun _ => rfl) rfl (Nat.le_of_ble_eq_true rfl) (Nat.le_of_ble_eq_true rfl) (rest := []) (Nat.le_of_ble_eq_true rfl) rfl rfl dL_setUp_149 (fun v21 M21 h => ?_)
  refine x_if_ne C 166 dL_setUp_152 (by decide) (fun c22 => ?_) (fun c22 => ?_)
  · replace h := h.1 c22
    refine x_aload_n C dL_setUp_155 rfl 0 rfl ?_
    refine x_iload_n C dL_setUp_156 rfl 1 rfl ?_
    refine x_iload C dL_setUp_157 2 rfl ?_
    refine x_callVi C FX11_promote GX11_promote k618 (m_X11_promote x3 x4) h (by decide) (fun _ => rfl) rfl (Nat.le_of_ble_eq_true rfl) (Nat.le_of_ble_eq_true rfl) (rest := []) (Nat.le_of_ble_eq_true rfl) rfl rfl dL_setUp_159 (fun v23 M23 h => ?_)
    refine x_iload_n C dL_setUp_162 rfl 1 rfl ?_
    refine x_icmp_eq C 168 dL_setUp_163 (by decide) (fun c24 => ?_) (fun c24 => ?_)
    · replace h := h.1 c24
      refine x_aload_n C dL_setUp_168 rfl 0 rfl ?_
      refine x_iload_n C dL_setUp_169 rfl 1 rfl ?_
      refine x_callVi C FX11_rankOf GX11_rankOf k622 (m_X11_rankOf x3) h (by decide) (fun _ => rfl) rfl (Nat.le_of_ble_eq_true rfl) (Nat.le_of_ble_eq_true rfl) (rest := []) (Nat.le_of_ble_eq_true rfl) rfl rfl dL_setUp_170 (fun v25 M25 h => ?_)
      refine x_iload C dL_setUp_173 2 rfl ?_
      refine x_icmp_ne C 182 dL_setUp_175 (by decide) (fun c26 => ?_) (fun c26 => ?_)
      · replace h := h.1 c26
        refine x_iconst C (n := 1) dL_setUp_178 ?_
        refine x_goto C 183 dL_setUp_179 (by decide) ?_
        exact hret _ _ _ _ dL_setUp_183 (by unfold isB; decide) h
      · replace h := h.2 c26
        refine x_iconst C (n := 0) dL_setUp_182 ?_
        exact hret _ _ _ _ dL_setUp_183 (by unfold isB; decide) h
    · replace h := h.2 c24
      refine x_iconst C (n := 0) dL_setUp_166 ?_
      exact hret _ _ _ _ dL_setUp_167 (by unfold isB; decide) h
  · replace h := h.2 c22
    refine x_iconst C (n := 0) dL_setUp_166 ?_
    exact hret _ _ _ _ dL_setUp_167 (by unfold isB; decide) h
set_option maxHeartbeats 4000000 in
theorem T_L_setUp_129 {Q : Int → g_M → Prop} (C : XC p R s m args c D d A cL_setUp 5 RL 6 zc zs) (hret : RTZ p l e R s m args below meth c Qg D d K A 5 zc zs L cL_setUp Q) (x1 : Int) (x3 : Int) (x4 : Int) (t1 : Int) (M : g_M) (h : F_L_setUp_129 Q x1 x3 x4 t1 M) : X p l e R s m args below meth c Qg D d K A 5 zc zs L M [(0, (.ref (K 0))), (1, (iv x1)), (3, (iv x3)), (4, (iv x4))] 129 [(iv t1), (.ref (K 0))] := by
  refine x_callVi C FX11_orderByWeight GX11_orderByWeight k610 (m_X11_orderByWeight t1) h (by decide) (fun _ => rfl) rfl (Nat.le_of_ble_eq_true rfl) (Nat.le_of_ble_eq_true rfl) (rest := []) (Nat.le_of_ble_eq_true rfl) rfl rfl dL_setUp_129 (fun v18 M18 h => ?_)
  refine x_if_ne C 166 dL_setUp_132 (by decide) (fun c19 => ?_) (fun c19 => ?_)
  · replace h := h.1 c19
    refine x_aload_n C dL_setUp_135 rfl 0 rfl ?_
    refine x_iconst C (n := 4) dL_setUp_136 ?_
    refine x_iload_n C dL_setUp_137 rfl 1 rfl ?_
    refine x_iconst C (n := 2) dL_setUp_138 ?_
    refine x_iand C dL_setUp_139 ?_
    refine x_iconst C (n := 2) dL_setUp_140 ?_
    refine x_icmp_ne C 148 dL_setUp_141 (by decide) (fun c20 => ?_) (fun c20 => ?_)
    · replace h := h.1 c20
      refine x_iconst C (n := 1) dL_setUp_144 ?_
      refine x_goto C 149 dL_setUp_145 (by decide) ?_
      refine x_lv (lv' := [(0, (.ref (K 0))), (3, (iv x3)), (4, (iv x4))]) [0, 2, 3] rfl ?_
      exact T_L_setUp_149 C hret x3 x4 4 1 M18 h
    · replace h := h.2 c20
      refine x_iconst C (n := 0) dL_setUp_148 ?_
      refine x_lv (lv' := [(0, (.ref (K 0))), (3, (iv x3)), (4, (iv x4))]) [0, 2, 3] rfl ?_
      exact T_L_setUp_149 C hret x3 x4 4 0 M18 h
  · replace h := h.2 c19
    refine x_iconst C (n := 0) dL_setUp_166 ?_
    exact hret _ _ _ _ dL_setUp_167 (by unfold isB; decide) h
set_option maxHeartbeats 4000000 in
theorem T_L_setUp_92 {Q : Int → g_M → Prop} (C : XC p R s m args c D d A cL_setUp 5 RL 6 zc zs) (hret : RTZ p l e R s m args below meth c Qg D d K A 5 zc zs L cL_setUp Q) (x1 : Int) (t0 : Int) (M : g_M) (h : F_L_setUp_92 Q x1 t0 M) : X p l e R s m args below meth c Qg D d K A 5 zc zs L M [(0, (.ref (K 0))), (1, (iv x1))] 92 [(iv t0)] := by
  refine x_istore_n C dL_setUp_92 rfl (by decide) [(2, (iv t0)), (0, (.ref (K 0))), (1, (iv x1))] rfl ?_
  refine x_iload_n C dL_setUp_93 rfl 2 rfl ?_
  refine x_bipush C (n := 8) (by decide) (by decide) dL_setUp_94 ?_
  refine x_ishr C dL_setUp_96 ?_
  refine x_iconst C (n := 5) dL_setUp_97 ?_
  refine x_callSi C FL_below k606 k603 (m_L_below (ishr x1 8) 5) h (Nat.le_of_ble_eq_true rfl) (Nat.le_of_ble_eq_true rfl) (rest := []) (Nat.le_of_ble_eq_true rfl) rfl rfl dL_setUp_98 (fun v14 M14 h => ?_)
  refine x_istore_n C dL_setUp_101 rfl (by decide) [(3, (iv v14)), (2, (iv t0)), (0, (.ref (K 0))), (1, (iv x1))] rfl ?_
  refine x_iload_n C dL_setUp_102 rfl 3 rfl ?_
  refine x_bipush C (n := 12) (by decide) (by decide) dL_setUp_103 ?_
  refine x_ishr C dL_setUp_105 ?_
  refine x_iconst C (n := 5) dL_setUp_106 ?_
  refine x_callSi C FL_below k606 k603 (m_L_below (ishr x1 12) 5) h (Nat.le_of_ble_eq_true rfl) (Nat.le_of_ble_eq_true rfl) (rest := []) (Nat.le_of_ble_eq_true rfl) rfl rfl dL_setUp_107 (fun v15 M15 h => ?_)
  refine x_istore C dL_setUp_110 (by decide) [(4, (iv v15)), (3, (iv v14)), (2, (iv t0)), (0, (.ref (K 0))), (1, (iv x1))] rfl ?_
  refine x_iload_n C dL_setUp_112 rfl 2 rfl ?_
  refine x_if_eq C 166 dL_setUp_113 (by decide) (fun c16 => ?_) (fun c16 => ?_)
  · replace h := h.1 c16
    refine x_iconst C (n := 0) dL_setUp_166 ?_
    exact hret _ _ _ _ dL_setUp_167 (by unfold isB; decide) h
  · replace h := h.2 c16
    refine x_aload_n C dL_setUp_116 rfl 3 rfl ?_
    refine x_iload_n C dL_setUp_117 rfl 4 rfl ?_
    refine x_iconst C (n := 1) dL_setUp_118 ?_
    refine x_iand C dL_setUp_119 ?_
    refine x_iconst C (n := 1) dL_setUp_120 ?_
    refine x_icmp_ne C 128 dL_setUp_121 (by decide) (fun c17 => ?_) (fun c17 => ?_)
    · replace h := h.1 c17
      refine x_iconst C (n := 1) dL_setUp_124 ?_
      refine x_goto C 129 dL_setUp_125 (by decide) ?_
      refine x_lv (lv' := [(0, (.ref (K 0))), (1, (iv x1)), (3, (iv v14)), (4, (iv v15))]) [3, 4, 1, 0] rfl ?_
      exact T_L_setUp_129 C hret x1 v14 v15 1 M15 h
    · replace h := h.2 c17
      refine x_iconst C (n := 0) dL_setUp_128 ?_
      refine x_lv (lv' := [(0, (.ref (K 0))), (1, (iv x1)), (3, (iv v14)), (4, (iv v15))]) [3, 4, 1, 0] rfl ?_
      exact T_L_setUp_129 C hret x1 v14 v15 0 M15 h
set_option maxHeartbeats 4000000 in
theorem T_L_setUp_91 {Q : Int → g_M → Prop} (C : XC p R s m args c D d A cL_setUp 5 RL 6 zc zs) (hret : RTZ p l e R s m args below meth c Qg D d K A 5 zc zs L cL_setUp Q) (x1 : Int) (M : g_M) (h : F_L_setUp_91 Q x1 M) : X p l e R s m args below meth c Qg D d K A 5 zc zs L M [(0, (.ref (K 0))), (1, (iv x1))] 91 [] := by
  refine x_iconst C (n := 0) dL_setUp_91 ?_
  exact T_L_setUp_92 C hret x1 0 M h
set_option maxHeartbeats 4000000 in
theorem T_L_setUp_49 {Q : Int → g_M → Prop} (C : XC p R s m args c D d A cL_setUp 5 RL 6 zc zs) (hret : RTZ p l e R s m args below meth c Qg D d K A 5 zc zs L cL_setUp Q) (x1 : Int) (t0 : Int) (M : g_M) (h : F_L_setUp_49 Q x1 t0 M) : X p l e R s m args below meth c Qg D d K A 5 zc zs L M [(0, (.ref (K 0))), (1, (iv x1))] 49 [(iv t0)] := by
  refine x_istore_n C dL_setUp_49 rfl (by decide) [(2, (iv t0)), (0, (.ref (K 0))), (1, (iv x1))] rfl ?_
  refine x_iload_n C dL_setUp_50 rfl 0 rfl ?_
  refine x_if_eq C 91 dL_setUp_51 (by decide) (fun c8 => ?_) (fun c8 => ?_)
  · replace h := h.1 c8
    refine x_lv (lv' := [(0, (.ref (K 0))), (1, (iv x1))]) [1, 2] rfl ?_
    exact T_L_setUp_91 C hret x1 M h
  · replace h := h.2 c8
    refine x_aload_n C dL_setUp_54 rfl 1 rfl ?_
    refine x_bipush C (n := 102) (by decide) (by decide) dL_setUp_55 ?_
    refine x_iconst C (n := 1) dL_setUp_57 ?_
    refine x_iconst C (n := 1) dL_setUp_58 ?_
    refine x_iload_n C dL_setUp_59 rfl 2 rfl ?_
    refine x_bipush C (n := 24) (by decide) (by decide) dL_setUp_60 ?_
    refine x_ishr C dL_setUp_62 ?_
    refine x_iconst C (n := 3) dL_setUp_63 ?_
    refine x_callSi C FL_below k606 k603 (m_L_below (ishr x1 24) 3) h (Nat.le_of_ble_eq_true rfl) (Nat.le_of_ble_eq_true rfl) (rest := [(iv 1), (iv 1), (iv 102), (.ref (K 0))]) (Nat.le_of_ble_eq_true rfl) rfl rfl dL_setUp_64 (fun v9 M9 h => ?_)
    refine x_iadd C dL_setUp_67 ?_
    refine x_callSi C FL_declare k609 k607 (m_L_declare 102 1 (1 + v9)) h (Nat.le_of_ble_eq_true rfl) (Nat.le_of_ble_eq_true rfl) (rest := []) (Nat.le_of_ble_eq_true rfl) rfl rfl dL_setUp_68 (fun v10 M10 h => ?_)
    refine x_iconst C (n := 3) dL_setUp_71 ?_
    refine x_icmp_ne C 91 dL_setUp_72 (by decide) (fun c11 => ?_) (fun c11 => ?_)
    · replace h := h.1 c11
      refine x_aload_n C dL_setUp_75 rfl 1 rfl ?_
      refine x_bipush C (n := 103) (by decide) (by decide) dL_setUp_76 ?_
      refine x_iconst C (n := 2) dL_setUp_78 ?_
      refine x_iconst C (n := 1) dL_setUp_79 ?_
      refine x_callSi C FL_declare k609 k607 (m_L_declare 103 2 1) h (Nat.le_of_ble_eq_true rfl) (Nat.le_of_ble_eq_true rfl) (rest := []) (Nat.le_of_ble_eq_true rfl) rfl rfl dL_setUp_80 (fun v12 M12 h => ?_)
      refine x_iconst C (n := 4) dL_setUp_83 ?_
      refine x_icmp_ne C 91 dL_setUp_84 (by decide) (fun c13 => ?_) (fun c13 => ?_)
      · replace h := h.1 c13
        refine x_iconst C (n := 1) dL_setUp_87 ?_
        refine x_goto C 92 dL_setUp_88 (by decide) ?_
        refine x_lv (lv' := [(0, (.ref (K 0))), (1, (iv x1))]) [1, 2] rfl ?_
        exact T_L_setUp_92 C hret x1 1 M12 h
      · replace h := h.2 c13
        refine x_lv (lv' := [(0, (.ref (K 0))), (1, (iv x1))]) [1, 2] rfl ?_
        exact T_L_setUp_91 C hret x1 M12 h
    · replace h := h.2 c11
      refine x_lv (lv' := [(0, (.ref (K 0))), (1, (iv x1))]) [1, 2] rfl ?_
      exact T_L_setUp_91 C hret x1 M10 h
set_option maxHeartbeats 4000000 in
theorem T_L_setUp_48 {Q : Int → g_M → Prop} (C : XC p R s m args c D d A cL_setUp 5 RL 6 zc zs) (hret : RTZ p l e R s m args below meth c Qg D d K A 5 zc zs L cL_setUp Q) (x1 : Int) (M : g_M) (h : F_L_setUp_48 Q x1 M) : X p l e R s m args below meth c Qg D d K A 5 zc zs L M [(0, (.ref (K 0))), (1, (iv x1))] 48 [] := by
  refine x_iconst C (n := 0) dL_setUp_48 ?_
  exact T_L_setUp_49 C hret x1 0 M h
set_option maxHeartbeats 4000000 in
theorem m_L_setUp (a1 : Int) : MI l D d K yL_setUp cL_setUp 5 (some .boolean) 6 [(.ref (K 0)), (iv a1)] (fun Q M => F_L_setUp Q a1 M) := by
  refine s_mz pn_L (Nat.le_of_ble_eq_true rfl) [(0, (.ref (K 0))), (1, (iv a1))] rfl rfl (fun p e R s m args below meth c A L M zc zs Q Qg C hret h => ?_)
  refine x_aload_n C dL_setUp_0 rfl 0 rfl ?_
  refine x_bipush C (n := 97) (by decide) (by decide) dL_setUp_1 ?_
  refine x_iconst C (n := 0) dL_setUp_3 ?_
  refine x_iconst C (n := 1) dL_setUp_4 ?_
  refine x_iload_n C dL_setUp_5 rfl 1 rfl ?_
  refine x_bipush C (n := 20) (by decide) (by decide) dL_setUp_6 ?_
  refine x_ishr C dL_setUp_8 ?_
  refine x_iconst C (n := 3) dL_setUp_9 ?_
  refine x_callSi C FL_below k606 k603 (m_L_below (ishr a1 20) 3) h (Nat.le_of_ble_eq_true rfl) (Nat.le_of_ble_eq_true rfl) (rest := [(iv 1), (iv 0), (iv 97), (.ref (K 0))]) (Nat.le_of_ble_eq_true rfl) rfl rfl dL_setUp_10 (fun v1 M1 h => ?_)
  refine x_iadd C dL_setUp_13 ?_
  refine x_callSi C FL_declare k609 k607 (m_L_declare 97 0 (1 + v1)) h (Nat.le_of_ble_eq_true rfl) (Nat.le_of_ble_eq_true rfl) (rest := []) (Nat.le_of_ble_eq_true rfl) rfl rfl dL_setUp_14 (fun v2 M2 h => ?_)
  refine x_if_ne C 48 dL_setUp_17 (by decide) (fun c3 => ?_) (fun c3 => ?_)
  · replace h := h.1 c3
    refine x_aload_n C dL_setUp_20 rfl 0 rfl ?_
    refine x_bipush C (n := 98) (by decide) (by decide) dL_setUp_21 ?_
    refine x_iconst C (n := 0) dL_setUp_23 ?_
    refine x_iconst C (n := 1) dL_setUp_24 ?_
    refine x_callSi C FL_declare k609 k607 (m_L_declare 98 0 1) h (Nat.le_of_ble_eq_true rfl) (Nat.le_of_ble_eq_true rfl) (rest := []) (Nat.le_of_ble_eq_true rfl) rfl rfl dL_setUp_25 (fun v4 M4 h => ?_)
    refine x_iconst C (n := 1) dL_setUp_28 ?_
    refine x_icmp_ne C 48 dL_setUp_29 (by decide) (fun c5 => ?_) (fun c5 => ?_)
    · replace h := h.1 c5
      refine x_aload_n C dL_setUp_32 rfl 0 rfl ?_
      refine x_bipush C (n := 99) (by decide) (by decide) dL_setUp_33 ?_
      refine x_iconst C (n := 0) dL_setUp_35 ?_
      refine x_iconst C (n := 2) dL_setUp_36 ?_
      refine x_callSi C FL_declare k609 k607 (m_L_declare 99 0 2) h (Nat.le_of_ble_eq_true rfl) (Nat.le_of_ble_eq_true rfl) (rest := []) (Nat.le_of_ble_eq_true rfl) rfl rfl dL_setUp_37 (fun v6 M6 h => ?_)
      refine x_iconst C (n := 2) dL_setUp_40 ?_
      refine x_icmp_ne C 48 dL_setUp_41 (by decide) (fun c7 => ?_) (fun c7 => ?_)
      · replace h := h.1 c7
        refine x_iconst C (n := 1) dL_setUp_44 ?_
        refine x_goto C 49 dL_setUp_45 (by decide) ?_
        exact T_L_setUp_49 C hret a1 1 M6 h
      · replace h := h.2 c7
        exact T_L_setUp_48 C hret a1 M6 h
    · replace h := h.2 c5
      exact T_L_setUp_48 C hret a1 M4 h
  · replace h := h.2 c3
    exact T_L_setUp_48 C hret a1 M2 h
set_option maxHeartbeats 4000000 in
theorem m_L_equate (hlf : l.stackTraces = false) (a1 : Int) (a2 : Int) : MH l D d K yL_equate cL_equate 4 (some .int) [(0, 6, 7, 64), (0, 6, 10, 66)] 7 [(.ref (K 0)), (iv a1), (iv a2)] (fun Q M => F_L_equate Q a1 a2 M) := by
  refine s_mh pn_L (Nat.le_of_ble_eq_true rfl) [(0, (.ref (K 0))), (1, (iv a1)), (2, (iv a2))] rfl rfl (fun p e R s m args below meth c A L M zc zs Q Qg C htab hret h => ?_)
  refine x_aload_n C dL_equate_0 rfl 0 rfl ?_
  refine x_iload_n C dL_equate_1 rfl 1 rfl ?_
  refine x_iload_n C dL_equate_2 rfl 2 rfl ?_
  refine x_callXi C FX11_equate GX11_equate k638 (m_X11_equate hlf a1 a2) h (by decide) (fun _ => rfl) rfl (Nat.le_of_ble_eq_true rfl) (Nat.le_of_ble_eq_true rfl) (rest := []) (Nat.le_of_ble_eq_true rfl) rfl rfl _ _ htab rfl (by decide) k642 (by decide +kernel) dL_equate_3 (fun v1 M1 h => ?_) (fun q9 M2 h => ?_)
  · skip
    exact hret _ _ _ _ dL_equate_6 h
  · skip
    refine x_astore_n C dL_equate_7 rfl (by decide) [(3, (.ref q9)), (0, (.ref (K 0))), (1, (iv a1)), (2, (iv a2))] rfl ?_
    refine x_iconst C (n := (-1)) dL_equate_8 ?_
    exact hret _ _ _ _ dL_equate_9 h
set_option maxHeartbeats 4000000 in
theorem m_L_normal (hlf : l.stackTraces = false) (a1 : Int) : MH l D d K yL_normal cL_normal 3 (some .int) [(0, 5, 6, 64)] 6 [(.ref (K 0)), (iv a1)] (fun Q M => F_L_normal Q a1 M) := by
  refine s_mh pn_L (Nat.le_of_ble_eq_true rfl) [(0, (.ref (K 0))), (1, (iv a1))] rfl rfl (fun p e R s m args below meth c A L M zc zs Q Qg C htab hret h => ?_)
  refine x_aload_n C dL_normal_0 rfl 0 rfl ?_
  refine x_iload_n C dL_normal_1 rfl 1 rfl ?_
  refine x_callXi C FX11_normalForm GX11_normalForm k643 (m_X11_normalForm hlf a1) h (by decide) (fun _ => rfl) rfl (Nat.le_of_ble_eq_true rfl) (Nat.le_of_ble_eq_true rfl) (rest := []) (Nat.le_of_ble_eq_true rfl) rfl rfl _ _ htab rfl (by decide) k642 (by decide +kernel) dL_normal_2 (fun v1 M1 h => ?_) (fun q9 M2 h => ?_)
  · skip
    exact hret _ _ _ _ dL_normal_5 h
  · skip
    refine x_astore_n C dL_normal_6 rfl (by decide) [(2, (.ref q9)), (0, (.ref (K 0))), (1, (iv a1))] rfl ?_
    refine x_iconst C (n := (-1)) dL_normal_7 ?_
    exact hret _ _ _ _ dL_normal_8 h
set_option maxHeartbeats 4000000 in
theorem m_L_pop (hlf : l.stackTraces = false)  : MH l D d K yL_pop cL_pop 2 (some .int) [(0, 4, 5, 66)] 7 [(.ref (K 0))] (fun Q M => F_L_pop Q M) := by
  refine s_mh pn_L (Nat.le_of_ble_eq_true rfl) [(0, (.ref (K 0)))] rfl rfl (fun p e R s m args below meth c A L M zc zs Q Qg C htab hret h => ?_)
  refine x_aload_n C dL_pop_0 rfl 0 rfl ?_
  refine x_callXi C FX11_pop GX11_pop k650 (m_X11_pop hlf) h (by decide) (fun _ => rfl) rfl (Nat.le_of_ble_eq_true rfl) (Nat.le_of_ble_eq_true rfl) (rest := []) (Nat.le_of_ble_eq_true rfl) rfl rfl _ _ htab rfl (by decide) k654 (by decide +kernel) dL_pop_1 (fun v1 M1 h => ?_) (fun q9 M2 h => ?_)
  · skip
    exact hret _ _ _ _ dL_pop_4 h
  · skip
    refine x_astore_n C dL_pop_5 rfl (by decide) [(1, (.ref q9)), (0, (.ref (K 0)))] rfl ?_
    refine x_iconst C (n := (-1)) dL_pop_6 ?_
    exact hret _ _ _ _ dL_pop_7 h
end XW
