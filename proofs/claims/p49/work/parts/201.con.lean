section XW
variable {p : Program} {l : Launch} {e : Env} {R : Room} {s : State} {m : MethodId} {args : Array Value} {below : List Frame} {meth : Method} {c : Code} {Qg : State → Prop} {D : va_G} {d : Nat → ClassId} {K : Nat → Nat} {A : Nat → Prop} {zc zs : Int} {L : va_W}
set_option maxHeartbeats 4000000 in
theorem m_X11_promote (a1 : Int) (a2 : Int) : MI l D d K yX11_promote cX11_promote 4 (some .int) 1 [(.ref (K 0)), (iv a1), (iv a2)] (fun Q M => F_X11_promote Q a1 a2 M) := by
  refine s_mi pn_X11 (Nat.le_of_ble_eq_true rfl) [(0, (.ref (K 0))), (1, (iv a1)), (2, (iv a2))] rfl rfl (fun p e R s m args below meth c A L M zc zs Q Qg C hret h => ?_)
  refine x_aload_n C dX11_promote_0 rfl 0 rfl ?_
  refine gf_0_0 C k57 dX11_promote_1 ?_
  refine x_iload_n C dX11_promote_4 rfl 1 rfl ?_
  refine x_callVi C FX7_has GX7_has k88 (m_X7_has a1) h (by decide) (fun _ => rfl) rfl (Nat.le_of_ble_eq_true rfl) (Nat.le_of_ble_eq_true rfl) (rest := []) (Nat.le_of_ble_eq_true rfl) rfl rfl dX11_promote_5 (fun v1 M1 h => ?_)
  refine x_if_eq C 22 dX11_promote_8 (by decide) (fun c2 => ?_) (fun c2 => ?_)
  · replace h := h.1 c2
    exact h.elim
  · replace h := h.2 c2
    refine x_aload_n C dX11_promote_11 rfl 0 rfl ?_
    refine gf_0_0 C k57 dX11_promote_12 ?_
    refine x_iload_n C dX11_promote_15 rfl 2 rfl ?_
    refine x_callVi C FX7_has GX7_has k88 (m_X7_has a2) h (by decide) (fun _ => rfl) rfl (Nat.le_of_ble_eq_true rfl) (Nat.le_of_ble_eq_true rfl) (rest := []) (Nat.le_of_ble_eq_true rfl) rfl rfl dX11_promote_16 (fun v3 M3 h => ?_)
    refine x_if_ne C 32 dX11_promote_19 (by decide) (fun c4 => ?_) (fun c4 => ?_)
    · replace h := h.1 c4
      exact h.elim
    · replace h := h.2 c4
      refine x_aload_n C dX11_promote_32 rfl 0 rfl ?_
      refine gf_0_0 C k57 dX11_promote_33 ?_
      refine x_callVi C FX7_isOrderFixed GX7_isOrderFixed k75 (m_X7_isOrderFixed) h (by decide) (fun _ => rfl) rfl (Nat.le_of_ble_eq_true rfl) (Nat.le_of_ble_eq_true rfl) (rest := []) (Nat.le_of_ble_eq_true rfl) rfl rfl dX11_promote_36 (fun v5 M5 h => ?_)
      refine x_if_eq C 52 dX11_promote_39 (by decide) (fun c6 => ?_) (fun c6 => ?_)
      · replace h := h.1 c6
        refine x_aload_n C dX11_promote_52 rfl 0 rfl ?_
        refine gf_0_0 C k57 dX11_promote_53 ?_
        refine x_iload_n C dX11_promote_56 rfl 1 rfl ?_
        refine x_callVi C FX7_rank GX7_rank k92 (m_X7_rank a1) h (by decide) (fun _ => rfl) rfl (Nat.le_of_ble_eq_true rfl) (Nat.le_of_ble_eq_true rfl) (rest := []) (Nat.le_of_ble_eq_true rfl) rfl rfl dX11_promote_57 (fun v7 M7 h => ?_)
        refine x_istore_n C dX11_promote_60 rfl (by decide) [(3, (iv v7)), (0, (.ref (K 0))), (1, (iv a1)), (2, (iv a2))] rfl ?_
        refine x_aload_n C dX11_promote_61 rfl 1 rfl ?_
        refine gf_0_0 C k57 dX11_promote_62 ?_
        refine x_iload_n C dX11_promote_65 rfl 2 rfl ?_
        refine x_iload_n C dX11_promote_66 rfl 3 rfl ?_
        refine x_callVv C FX7_moveTo GX7_moveTo k96 (m_X7_moveTo a1 a2) h (by decide) (fun _ => rfl) rfl (Nat.le_of_ble_eq_true rfl) (Nat.le_of_ble_eq_true rfl) (rest := []) (Nat.le_of_ble_eq_true rfl) rfl rfl dX11_promote_67 (fun M8 h => ?_)
        refine x_iload_n C dX11_promote_70 rfl 0 rfl ?_
        exact hret _ _ _ _ dX11_promote_71 h
      · replace h := h.2 c6
        exact h.elim
set_option maxHeartbeats 4000000 in
theorem m_X11_rankOf (a1 : Int) : MI l D d K yX11_rankOf cX11_rankOf 2 (some .int) 1 [(.ref (K 0)), (iv a1)] (fun Q M => F_X11_rankOf Q a1 M) := by
  refine s_mi pn_X11 (Nat.le_of_ble_eq_true rfl) [(0, (.ref (K 0))), (1, (iv a1))] rfl rfl (fun p e R s m args below meth c A L M zc zs Q Qg C hret h => ?_)
  refine x_aload_n C dX11_rankOf_0 rfl 0 rfl ?_
  refine gf_0_0 C k57 dX11_rankOf_1 ?_
  refine x_iload_n C dX11_rankOf_4 rfl 1 rfl ?_
  refine x_callVi C FX7_has GX7_has k88 (m_X7_has a1) h (by decide) (fun _ => rfl) rfl (Nat.le_of_ble_eq_true rfl) (Nat.le_of_ble_eq_true rfl) (rest := []) (Nat.le_of_ble_eq_true rfl) rfl rfl dX11_rankOf_5 (fun v1 M1 h => ?_)
  refine x_if_ne C 21 dX11_rankOf_8 (by decide) (fun c2 => ?_) (fun c2 => ?_)
  · replace h := h.1 c2
    exact h.elim
  · replace h := h.2 c2
    refine x_aload_n C dX11_rankOf_21 rfl 0 rfl ?_
    refine gf_0_0 C k57 dX11_rankOf_22 ?_
    refine x_iload_n C dX11_rankOf_25 rfl 1 rfl ?_
    refine x_callVi C FX7_rank GX7_rank k92 (m_X7_rank a1) h (by decide) (fun _ => rfl) rfl (Nat.le_of_ble_eq_true rfl) (Nat.le_of_ble_eq_true rfl) (rest := []) (Nat.le_of_ble_eq_true rfl) rfl rfl dX11_rankOf_26 (fun v3 M3 h => ?_)
    exact hret _ _ _ _ dX11_rankOf_29 h
set_option maxHeartbeats 4000000 in
theorem m_X7_isFromRight (a1 : Int) : MI l D d K yX7_isFromRight cX7_isFromRight 2 (some .boolean) 0 [(.ref (K 1)), (iv a1)] (fun Q M => F_X7_isFromRight Q a1 M) := by
  refine s_mz pn_X7 (Nat.le_of_ble_eq_true rfl) [(0, (.ref (K 1))), (1, (iv a1))] rfl rfl (fun p e R s m args below meth c A L M zc zs Q Qg C hret h => ?_)
  refine x_iload_n C dX7_isFromRight_0 rfl 1 rfl ?_
  refine x_if_lt C 25 dX7_isFromRight_1 (by decide) (fun c1 => ?_) (fun c1 => ?_)
  · replace h := h.1 c1
    refine x_iconst C (n := 0) dX7_isFromRight_25 ?_
    exact hret _ _ _ _ dX7_isFromRight_26 (by unfold isB; decide) h
  · replace h := h.2 c1
    refine x_iload_n C dX7_isFromRight_4 rfl 1 rfl ?_
    refine x_aload_n C dX7_isFromRight_5 rfl 0 rfl ?_
    refine gf_1_7 C k29 dX7_isFromRight_6 ?_
    refine x_icmp_ge C 25 dX7_isFromRight_9 (by decide) (fun c2 => ?_) (fun c2 => ?_)
    · replace h := h.1 c2
      refine x_aload_n C dX7_isFromRight_12 rfl 0 rfl ?_
      refine gf_1_6 C k100 dX7_isFromRight_13 ?_
      refine x_iload_n C dX7_isFromRight_16 rfl 1 rfl ?_
      refine x_zald C 14 24 (by decide) (fun _ => rfl) h.1 dX7_isFromRight_17 ?_
      replace h := h.2
      refine x_if_eq C 25 dX7_isFromRight_18 (by decide) (fun c3 => ?_) (fun c3 => ?_)
      · replace h := h.1 c3
        refine x_iconst C (n := 0) dX7_isFromRight_25 ?_
        exact hret _ _ _ _ dX7_isFromRight_26 (by unfold isB; decide) h
      · replace h := h.2 c3
        refine x_iconst C (n := 1) dX7_isFromRight_21 ?_
        refine x_goto C 26 dX7_isFromRight_22 (by decide) ?_
        exact hret _ _ _ _ dX7_isFromRight_26 (by unfold isB; decide) h
    · replace h := h.2 c2
      refine x_iconst C (n := 0) dX7_isFromRight_25 ?_
      exact hret _ _ _ _ dX7_isFromRight_26 (by unfold isB; decide) h
set_option maxHeartbeats 4000000 in
theorem m_X7_direct (a1 : Int) (a2 : Int) : MV l D d K yX7_direct cX7_direct 3 none 0 [(.ref (K 1)), (iv a1), (iv a2)] (fun Q M => F_X7_direct Q a1 a2 M) := by
  refine s_mv pn_X7 (Nat.le_of_ble_eq_true rfl) [(0, (.ref (K 1))), (1, (iv a1)), (2, (iv a2))] rfl rfl (fun p e R s m args below meth c A L M zc zs Q Qg C hret h => ?_)
  refine x_iload_n C dX7_direct_0 rfl 1 rfl ?_
  refine x_if_lt C 19 dX7_direct_1 (by decide) (fun c1 => ?_) (fun c1 => ?_)
  · replace h := h.1 c1
    exact hret _ _ _ dX7_direct_19 h
  · replace h := h.2 c1
    refine x_iload_n C dX7_direct_4 rfl 1 rfl ?_
    refine x_aload_n C dX7_direct_5 rfl 0 rfl ?_
    refine gf_1_7 C k29 dX7_direct_6 ?_
    refine x_icmp_ge C 19 dX7_direct_9 (by decide) (fun c2 => ?_) (fun c2 => ?_)
    · replace h := h.1 c2
      refine x_aload_n C dX7_direct_12 rfl 0 rfl ?_
      refine gf_1_6 C k100 dX7_direct_13 ?_
      refine x_iload_n C dX7_direct_16 rfl 1 rfl ?_
      refine x_iload_n C dX7_direct_17 rfl 2 rfl ?_
      refine x_zast C 14 24 (by decide) (fun _ _ => rfl) h.1 h.2.1 dX7_direct_18 ?_
      replace h := h.2.2
      exact hret _ _ _ dX7_direct_19 h
    · replace h := h.2 c2
      exact hret _ _ _ dX7_direct_19 h
set_option maxHeartbeats 4000000 in
theorem m_X11_setDirection (a1 : Int) (a2 : Int) : MI l D d K yX11_setDirection cX11_setDirection 4 (some .boolean) 1 [(.ref (K 0)), (iv a1), (iv a2)] (fun Q M => F_X11_setDirection Q a1 a2 M) := by
  refine s_mz pn_X11 (Nat.le_of_ble_eq_true rfl) [(0, (.ref (K 0))), (1, (iv a1)), (2, (iv a2))] rfl rfl (fun p e R s m args below meth c A L M zc zs Q Qg C hret h => ?_)
  refine x_aload_n C dX11_setDirection_0 rfl 0 rfl ?_
  refine gf_0_0 C k57 dX11_setDirection_1 ?_
  refine x_iload_n C dX11_setDirection_4 rfl 1 rfl ?_
  refine x_callVi C FX7_has GX7_has k88 (m_X7_has a1) h (by decide) (fun _ => rfl) rfl (Nat.le_of_ble_eq_true rfl) (Nat.le_of_ble_eq_true rfl) (rest := []) (Nat.le_of_ble_eq_true rfl) rfl rfl dX11_setDirection_5 (fun v1 M1 h => ?_)
  refine x_if_ne C 21 dX11_setDirection_8 (by decide) (fun c2 => ?_) (fun c2 => ?_)
  · replace h := h.1 c2
    exact h.elim
  · replace h := h.2 c2
    refine x_aload_n C dX11_setDirection_21 rfl 0 rfl ?_
    refine gf_0_0 C k57 dX11_setDirection_22 ?_
    refine x_callVi C FX7_isOrderFixed GX7_isOrderFixed k75 (m_X7_isOrderFixed) h (by decide) (fun _ => rfl) rfl (Nat.le_of_ble_eq_true rfl) (Nat.le_of_ble_eq_true rfl) (rest := []) (Nat.le_of_ble_eq_true rfl) rfl rfl dX11_setDirection_25 (fun v3 M3 h => ?_)
    refine x_if_eq C 41 dX11_setDirection_28 (by decide) (fun c4 => ?_) (fun c4 => ?_)
    · replace h := h.1 c4
      refine x_aload_n C dX11_setDirection_41 rfl 0 rfl ?_
      refine gf_0_0 C k57 dX11_setDirection_42 ?_
      refine x_iload_n C dX11_setDirection_45 rfl 1 rfl ?_
      refine x_callVi C FX7_isFromRight GX7_isFromRight k101 (m_X7_isFromRight a1) h (by decide) (fun _ => rfl) rfl (Nat.le_of_ble_eq_true rfl) (Nat.le_of_ble_eq_true rfl) (rest := []) (Nat.le_of_ble_eq_true rfl) rfl rfl dX11_setDirection_46 (fun v5 M5 h => ?_)
      refine x_istore_n C dX11_setDirection_49 rfl (by decide) [(3, (iv v5)), (0, (.ref (K 0))), (1, (iv a1)), (2, (iv a2))] rfl ?_
      refine x_aload_n C dX11_setDirection_50 rfl 1 rfl ?_
      refine gf_0_0 C k57 dX11_setDirection_51 ?_
      refine x_iload_n C dX11_setDirection_54 rfl 2 rfl ?_
      refine x_iload_n C dX11_setDirection_55 rfl 3 rfl ?_
      refine x_callVv C FX7_direct GX7_direct k105 (m_X7_direct a1 a2) h (by decide) (fun _ => rfl) rfl (Nat.le_of_ble_eq_true rfl) (Nat.le_of_ble_eq_true rfl) (rest := []) (Nat.le_of_ble_eq_true rfl) rfl rfl dX11_setDirection_56 (fun M6 h => ?_)
      refine x_iload_n C dX11_setDirection_59 rfl 0 rfl ?_
      exact hret _ _ _ _ dX11_setDirection_60 h.1 h.2
    · replace h := h.2 c4
      exact h.elim
set_option maxHeartbeats 4000000 in
theorem m_X7_arity (a1 : Int) : MI l D d K yX7_arity cX7_arity 2 (some .int) 0 [(.ref (K 1)), (iv a1)] (fun Q M => F_X7_arity Q a1 M) := by
  refine s_mi pn_X7 (Nat.le_of_ble_eq_true rfl) [(0, (.ref (K 1))), (1, (iv a1))] rfl rfl (fun p e R s m args below meth c A L M zc zs Q Qg C hret h => ?_)
  refine x_iload_n C dX7_arity_0 rfl 1 rfl ?_
  refine x_if_lt C 21 dX7_arity_1 (by decide) (fun c1 => ?_) (fun c1 => ?_)
  · replace h := h.1 c1
    refine x_iconst C (n := 0) dX7_arity_21 ?_
    exact hret _ _ _ _ dX7_arity_22 h
  · replace h := h.2 c1
    refine x_iload_n C dX7_arity_4 rfl 1 rfl ?_
    refine x_aload_n C dX7_arity_5 rfl 0 rfl ?_
    refine gf_1_7 C k29 dX7_arity_6 ?_
    refine x_icmp_ge C 21 dX7_arity_9 (by decide) (fun c2 => ?_) (fun c2 => ?_)
    · replace h := h.1 c2
      refine x_aload_n C dX7_arity_12 rfl 0 rfl ?_
      refine gf_1_2 C k66 dX7_arity_13 ?_
      refine x_iload_n C dX7_arity_16 rfl 1 rfl ?_
      refine x_iald C 10 24 (by decide) (fun _ => rfl) h.1 dX7_arity_17 ?_
      replace h := h.2
      refine x_goto C 22 dX7_arity_18 (by decide) ?_
      exact hret _ _ _ _ dX7_arity_22 h
    · replace h := h.2 c2
      refine x_iconst C (n := 0) dX7_arity_21 ?_
      exact hret _ _ _ _ dX7_arity_22 h
set_option maxHeartbeats 4000000 in
theorem m_X11_isTerm (a1 : Int) : MI l D d K yX11_isTerm cX11_isTerm 2 (some .boolean) 0 [(.ref (K 0)), (iv a1)] (fun Q M => F_X11_isTerm Q a1 M) := by
  refine s_mz pn_X11 (Nat.le_of_ble_eq_true rfl) [(0, (.ref (K 0))), (1, (iv a1))] rfl rfl (fun p e R s m args below meth c A L M zc zs Q Qg C hret h => ?_)
  refine x_iload_n C dX11_isTerm_0 rfl 1 rfl ?_
  refine x_if_lt C 16 dX11_isTerm_1 (by decide) (fun c1 => ?_) (fun c1 => ?_)
  · replace h := h.1 c1
    refine x_iconst C (n := 0) dX11_isTerm_16 ?_
    exact hret _ _ _ _ dX11_isTerm_17 (by unfold isB; decide) h
  · replace h := h.2 c1
    refine x_iload_n C dX11_isTerm_4 rfl 1 rfl ?_
    refine x_aload_n C dX11_isTerm_5 rfl 0 rfl ?_
    refine gf_0_10 C k113 dX11_isTerm_6 ?_
    refine x_icmp_ge C 16 dX11_isTerm_9 (by decide) (fun c2 => ?_) (fun c2 => ?_)
    · replace h := h.1 c2
      refine x_iconst C (n := 1) dX11_isTerm_12 ?_
      refine x_goto C 17 dX11_isTerm_13 (by decide) ?_
      exact hret _ _ _ _ dX11_isTerm_17 (by unfold isB; decide) h
    · replace h := h.2 c2
      refine x_iconst C (n := 0) dX11_isTerm_16 ?_
      exact hret _ _ _ _ dX11_isTerm_17 (by unfold isB; decide) h
set_option maxHeartbeats 4000000 in
theorem m_X8_isCrowded  : MI l D d K yX8_isCrowded cX8_isCrowded 1 (some .boolean) 0 [(.ref (K 2))] (fun Q M => F_X8_isCrowded Q M) := by
  refine s_mz pn_X8 (Nat.le_of_ble_eq_true rfl) [(0, (.ref (K 2)))] rfl rfl (fun p e R s m args below meth c A L M zc zs Q Qg C hret h => ?_)
  refine x_aload_n C dX8_isCrowded_0 rfl 0 rfl ?_
  refine gf_2_10 C k120 dX8_isCrowded_1 ?_
  refine x_aload_n C dX8_isCrowded_4 rfl 0 rfl ?_
  refine gf_2_12 C k121 dX8_isCrowded_5 ?_
  refine x_icmp_le C 15 dX8_isCrowded_8 (by decide) (fun c1 => ?_) (fun c1 => ?_)
  · replace h := h.1 c1
    refine x_iconst C (n := 1) dX8_isCrowded_11 ?_
    refine x_goto C 16 dX8_isCrowded_12 (by decide) ?_
    exact hret _ _ _ _ dX8_isCrowded_16 (by unfold isB; decide) h
  · replace h := h.2 c1
    refine x_iconst C (n := 0) dX8_isCrowded_15 ?_
    exact hret _ _ _ _ dX8_isCrowded_16 (by unfold isB; decide) h
set_option maxHeartbeats 4000000 in
theorem m_X11_tidy  : MV l D d K yX11_tidy cX11_tidy 2 none 1 [(.ref (K 0))] (fun Q M => F_X11_tidy Q M) := by
  refine s_mv pn_X11 (Nat.le_of_ble_eq_true rfl) [(0, (.ref (K 0)))] rfl rfl (fun p e R s m args below meth c A L M zc zs Q Qg C hret h => ?_)
  refine x_aload_n C dX11_tidy_0 rfl 0 rfl ?_
  refine gf_0_1 C k119 dX11_tidy_1 ?_
  refine x_callVi C FX8_isCrowded GX8_isCrowded k122 (m_X8_isCrowded) h (by decide) (fun _ => rfl) rfl (Nat.le_of_ble_eq_true rfl) (Nat.le_of_ble_eq_true rfl) (rest := []) (Nat.le_of_ble_eq_true rfl) rfl rfl dX11_tidy_4 (fun v1 M1 h => ?_)
  refine x_if_ne C 11 dX11_tidy_7 (by decide) (fun c2 => ?_) (fun c2 => ?_)
  · replace h := h.1 c2
    exact hret _ _ _ dX11_tidy_10 h
  · replace h := h.2 c2
    exact h.elim
set_option maxHeartbeats 4000000 in
theorem m_X8_bucketOf (a1 : Int) (a2 : Int) (a3 : Int) (a4 : Int) : MI l D d K yX8_bucketOf cX8_bucketOf 6 (some .int) 0 [(.ref (K 2)), (iv a1), (iv a2), (iv a3), (iv a4)] (fun Q M => F_X8_bucketOf Q a1 a2 a3 a4 M) := by
  refine s_mi pn_X8 (Nat.le_of_ble_eq_true rfl) [(0, (.ref (K 2))), (1, (iv a1)), (2, (iv a2)), (3, (iv a3)), (4, (iv a4))] rfl rfl (fun p e R s m args below meth c A L M zc zs Q Qg C hret h => ?_)
  refine x_iload_n C dX8_bucketOf_0 rfl 1 rfl ?_
  refine x_bipush C (n := 31) (by decide) (by decide) dX8_bucketOf_1 ?_
  refine x_imul C dX8_bucketOf_3 ?_
  refine x_iload_n C dX8_bucketOf_4 rfl 2 rfl ?_
  refine x_iadd C dX8_bucketOf_5 ?_
  refine x_sipush C (n := 8191) (by decide) (by decide) dX8_bucketOf_6 ?_
  refine x_imul C dX8_bucketOf_9 ?_
  refine x_iload_n C dX8_bucketOf_10 rfl 3 rfl ?_
  refine x_iadd C dX8_bucketOf_11 ?_
  refine x_ldc C (n := 131071) (show Cond.constant RX8 83 (Int32.ofInt 131071) ∈ gW from k137) dX8_bucketOf_12 ?_
  refine x_imul C dX8_bucketOf_14 ?_
  refine x_iload C dX8_bucketOf_15 4 rfl ?_
  refine x_iadd C dX8_bucketOf_17 ?_
  refine x_istore C dX8_bucketOf_18 (by decide) [(5, (iv ((((((a1 * 31) + a2) * 8191) + a3) * 131071) + a4))), (0, (.ref (K 2))), (1, (iv a1)), (2, (iv a2)), (3, (iv a3)), (4, (iv a4))] rfl ?_
  refine x_iload C dX8_bucketOf_20 0 rfl ?_
  refine x_iload C dX8_bucketOf_22 0 rfl ?_
  refine x_bipush C (n := 15) (by decide) (by decide) dX8_bucketOf_24 ?_
  refine x_iushr C dX8_bucketOf_26 ?_
  refine x_ixor C dX8_bucketOf_27 ?_
  refine x_istore C dX8_bucketOf_28 (by decide) [(5, (iv (ixor ((((((a1 * 31) + a2) * 8191) + a3) * 131071) + a4) (iushr ((((((a1 * 31) + a2) * 8191) + a3) * 131071) + a4) 15)))), (0, (.ref (K 2))), (1, (iv a1)), (2, (iv a2)), (3, (iv a3)), (4, (iv a4))] rfl ?_
  refine x_iload C dX8_bucketOf_30 0 rfl ?_
  refine x_ldc C (n := 739982445) (show Cond.constant RX8 84 (Int32.ofInt 739982445) ∈ gW from k138) dX8_bucketOf_32 ?_
  refine x_imul C dX8_bucketOf_34 ?_
  refine x_istore C dX8_bucketOf_35 (by decide) [(5, (iv ((ixor ((((((a1 * 31) + a2) * 8191) + a3) * 131071) + a4) (iushr ((((((a1 * 31) + a2) * 8191) + a3) * 131071) + a4) 15)) * 739982445))), (0, (.ref (K 2))), (1, (iv a1)), (2, (iv a2)), (3, (iv a3)), (4, (iv a4))] rfl ?_
  refine x_iload C dX8_bucketOf_37 0 rfl ?_
  refine x_iload C dX8_bucketOf_39 0 rfl ?_
  refine x_bipush C (n := 13) (by decide) (by decide) dX8_bucketOf_41 ?_
  refine x_iushr C dX8_bucketOf_43 ?_
  refine x_ixor C dX8_bucketOf_44 ?_
  refine x_istore C dX8_bucketOf_45 (by decide) [(5, (iv (ixor ((ixor ((((((a1 * 31) + a2) * 8191) + a3) * 131071) + a4) (iushr ((((((a1 * 31) + a2) * 8191) + a3) * 131071) + a4) 15)) * 739982445) (iushr ((ixor ((((((a1 * 31) + a2) * 8191) + a3) * 131071) + a4) (iushr ((((((a1 * 31) + a2) * 8191) + a3) * 131071) + a4) 15)) * 739982445) 13)))), (0, (.ref (K 2))), (1, (iv a1)), (2, (iv a2)), (3, (iv a3)), (4, (iv a4))] rfl ?_
  refine x_iload C dX8_bucketOf_47 0 rfl ?_
  refine x_sipush C (n := 32767) (by decide) (by decide) dX8_bucketOf_49 ?_
  refine x_iand C dX8_bucketOf_52 ?_
  exact hret _ _ _ _ dX8_bucketOf_53 h
set_option maxHeartbeats 4000000 in
theorem m_X7_variableOrdinal (a1 : Int) : MI l D d K yX7_variableOrdinal cX7_variableOrdinal 2 (some .int) 0 [(.ref (K 1)), (iv a1)] (fun Q M => F_X7_variableOrdinal Q a1 M) := by
  refine s_mi pn_X7 (Nat.le_of_ble_eq_true rfl) [(0, (.ref (K 1))), (1, (iv a1))] rfl rfl (fun p e R s m args below meth c A L M zc zs Q Qg C hret h => ?_)
  refine x_iload_n C dX7_variableOrdinal_0 rfl 1 rfl ?_
  refine x_if_lt C 21 dX7_variableOrdinal_1 (by decide) (fun c1 => ?_) (fun c1 => ?_)
  · replace h := h.1 c1
    refine x_iconst C (n := (-1)) dX7_variableOrdinal_21 ?_
    exact hret _ _ _ _ dX7_variableOrdinal_22 h
  · replace h := h.2 c1
    refine x_iload_n C dX7_variableOrdinal_4 rfl 1 rfl ?_
    refine x_aload_n C dX7_variableOrdinal_5 rfl 0 rfl ?_
    refine gf_1_7 C k29 dX7_variableOrdinal_6 ?_
    refine x_icmp_ge C 21 dX7_variableOrdinal_9 (by decide) (fun c2 => ?_) (fun c2 => ?_)
    · replace h := h.1 c2
      refine x_aload_n C dX7_variableOrdinal_12 rfl 0 rfl ?_
      refine gf_1_5 C k69 dX7_variableOrdinal_13 ?_
      refine x_iload_n C dX7_variableOrdinal_16 rfl 1 rfl ?_
      refine x_iald C 13 24 (by decide) (fun _ => rfl) h.1 dX7_variableOrdinal_17 ?_
      replace h := h.2
      refine x_goto C 22 dX7_variableOrdinal_18 (by decide) ?_
      exact hret _ _ _ _ dX7_variableOrdinal_22 h
    · replace h := h.2 c2
      refine x_iconst C (n := (-1)) dX7_variableOrdinal_21 ?_
      exact hret _ _ _ _ dX7_variableOrdinal_22 h
set_option maxHeartbeats 4000000 in
theorem m_X8_extentOver (a1 : Int) (a2 : Int) (a3 : Int) (a4 : Int) : MI l D d K yX8_extentOver cX8_extentOver 8 (some .int) 0 [(.ref (K 2)), (iv a1), (iv a2), (iv a3), (iv a4)] (fun Q M => F_X8_extentOver Q a1 a2 a3 a4 M) := by
  refine s_mi pn_X8 (Nat.le_of_ble_eq_true rfl) [(0, (.ref (K 2))), (1, (iv a1)), (2, (iv a2)), (3, (iv a3)), (4, (iv a4))] rfl rfl (fun p e R s m args below meth c A L M zc zs Q Qg C hret h => ?_)
  refine x_iconst C (n := 1) dX8_extentOver_0 ?_
  refine x_iload_n C dX8_extentOver_1 rfl 2 rfl ?_
  refine x_bipush C (n := 9) (by decide) (by decide) dX8_extentOver_2 ?_
  refine x_iushr C dX8_extentOver_4 ?_
  refine x_iadd C dX8_extentOver_5 ?_
  refine x_iload_n C dX8_extentOver_6 rfl 3 rfl ?_
  refine x_bipush C (n := 9) (by decide) (by decide) dX8_extentOver_7 ?_
  refine x_iushr C dX8_extentOver_9 ?_
  refine x_iadd C dX8_extentOver_10 ?_
  refine x_iload C dX8_extentOver_11 4 rfl ?_
  refine x_bipush C (n := 9) (by decide) (by decide) dX8_extentOver_13 ?_
  refine x_iushr C dX8_extentOver_15 ?_
  refine x_iadd C dX8_extentOver_16 ?_
  refine x_ldc C (n := 4194303) (show Cond.constant RX8 94 (Int32.ofInt 4194303) ∈ gW from k161) dX8_extentOver_17 ?_
  refine x_mmin C k162 k163 k164 k165 (Nat.le_of_ble_eq_true rfl) dX8_extentOver_19 ?_
  refine x_istore C dX8_extentOver_22 (by decide) [(5, (iv (imin (((1 + (iushr a2 9)) + (iushr a3 9)) + (iushr a4 9)) 4194303))), (0, (.ref (K 2))), (1, (iv a1)), (2, (iv a2)), (3, (iv a3)), (4, (iv a4))] rfl ?_
  refine x_iload_n C dX8_extentOver_24 rfl 3 rfl ?_
  refine x_iconst C (n := 1) dX8_extentOver_25 ?_
  refine x_iushr C dX8_extentOver_26 ?_
  refine x_sipush C (n := 255) (by decide) (by decide) dX8_extentOver_27 ?_
  refine x_iand C dX8_extentOver_30 ?_
  refine x_iload_n C dX8_extentOver_31 rfl 4 rfl ?_
  refine x_iconst C (n := 1) dX8_extentOver_32 ?_
  refine x_iushr C dX8_extentOver_33 ?_
  refine x_sipush C (n := 255) (by decide) (by decide) dX8_extentOver_34 ?_
  refine x_iand C dX8_extentOver_37 ?_
  refine x_mmax C k166 k167 k164 k168 (Nat.le_of_ble_eq_true rfl) dX8_extentOver_38 ?_
  refine x_istore C dX8_extentOver_41 (by decide) [(6, (iv (imax (iand (iushr a2 1) 255) (iand (iushr a3 1) 255)))), (5, (iv (imin (((1 + (iushr a2 9)) + (iushr a3 9)) + (iushr a4 9)) 4194303))), (0, (.ref (K 2))), (1, (iv a1)), (2, (iv a2)), (3, (iv a3)), (4, (iv a4))] rfl ?_
  refine x_iconst C (n := 1) dX8_extentOver_43 ?_
  refine x_iload C dX8_extentOver_44 0 rfl ?_
  refine x_iload C dX8_extentOver_46 6 rfl ?_
  refine x_iconst C (n := 1) dX8_extentOver_48 ?_
  refine x_iushr C dX8_extentOver_49 ?_
  refine x_sipush C (n := 255) (by decide) (by decide) dX8_extentOver_50 ?_
  refine x_iand C dX8_extentOver_53 ?_
  refine x_mmax C k166 k167 k164 k168 (Nat.le_of_ble_eq_true rfl) dX8_extentOver_54 ?_
  refine x_iadd C dX8_extentOver_57 ?_
  refine x_sipush C (n := 255) (by decide) (by decide) dX8_extentOver_58 ?_
  refine x_mmin C k162 k163 k164 k165 (Nat.le_of_ble_eq_true rfl) dX8_extentOver_61 ?_
  refine x_istore C dX8_extentOver_64 (by decide) [(7, (iv (imin (1 + (imax (imax (iand (iushr a2 1) 255) (iand (iushr a3 1) 255)) (iand (iushr a4 1) 255))) 255))), (6, (iv (imax (iand (iushr a2 1) 255) (iand (iushr a3 1) 255)))), (5, (iv (imin (((1 + (iushr a2 9)) + (iushr a3 9)) + (iushr a4 9)) 4194303))), (0, (.ref (K 2))), (1, (iv a1)), (2, (iv a2)), (3, (iv a3)), (4, (iv a4))] rfl ?_
  refine x_iload C dX8_extentOver_66 2 rfl ?_
  refine x_bipush C (n := 9) (by decide) (by decide) dX8_extentOver_68 ?_
  refine x_ishl C dX8_extentOver_70 ?_
  refine x_iload C dX8_extentOver_71 0 rfl ?_
  refine x_iconst C (n := 1) dX8_extentOver_73 ?_
  refine x_ishl C dX8_extentOver_74 ?_
  refine x_ior C dX8_extentOver_75 ?_
  refine x_iload_n C dX8_extentOver_76 rfl 4 rfl ?_
  refine x_ior C dX8_extentOver_77 ?_
  refine x_iload_n C dX8_extentOver_78 rfl 5 rfl ?_
  refine x_iload_n C dX8_extentOver_79 rfl 6 rfl ?_
  refine x_ior C dX8_extentOver_80 ?_
  refine x_iload C dX8_extentOver_81 7 rfl ?_
  refine x_ior C dX8_extentOver_83 ?_
  refine x_iconst C (n := 1) dX8_extentOver_84 ?_
  refine x_iand C dX8_extentOver_85 ?_
  refine x_ior C dX8_extentOver_86 ?_
  exact hret _ _ _ _ dX8_extentOver_87 h
set_option maxHeartbeats 4000000 in
theorem T_X8_keep_137 {Q : Int → g_M → Prop} (C : XC p R s m args c D d A cX8_keep 8 RX8 1 zc zs) (hret : RTI p l e R s m args below meth c Qg D d K A 8 zc zs L cX8_keep Q) (x2 : Int) (x3 : Int) (x4 : Int) (x5 : Int) (x6 : Int) (t0 : Int) (M : g_M) (h : F_X8_keep_137 Q x2 x3 x4 x5 x6 t0 M) : X p l e R s m args below meth c Qg D d K A 8 zc zs L M [(0, (.ref (K 2))), (2, (iv x2)), (3, (iv x3)), (4, (iv x4)), (5, (iv x5)), (6, (iv x6))] 137 [(iv t0)] := by
  refine x_istore C dX8_keep_137 (by decide) [(7, (iv t0)), (0, (.ref (K 2))), (2, (iv x2)), (3, (iv x3)), (4, (iv x4)), (5, (iv x5)), (6, (iv x6))] rfl ?_
  refine x_aload_n C dX8_keep_139 rfl 1 rfl ?_
  refine gf_2_3 C k160 dX8_keep_140 ?_
  refine x_iload C dX8_keep_143 6 rfl ?_
  refine x_aload_n C dX8_keep_145 rfl 1 rfl ?_
  refine x_iload C dX8_keep_146 0 rfl ?_
  refine x_aload_n C dX8_keep_148 rfl 1 rfl ?_
  refine gf_2_3 C k160 dX8_keep_149 ?_
  refine x_iload_n C dX8_keep_152 rfl 2 rfl ?_
  refine x_rget C 2 (by decide) k144 (Nat.le_of_ble_eq_true rfl) (Nat.le_of_ble_eq_true rfl) dX8_keep_153 ?_
  refine x_aload_n C dX8_keep_156 rfl 1 rfl ?_
  refine gf_2_3 C k160 dX8_keep_157 ?_
  refine x_iload_n C dX8_keep_160 rfl 3 rfl ?_
  refine x_rget C 2 (by decide) k144 (Nat.le_of_ble_eq_true rfl) (Nat.le_of_ble_eq_true rfl) dX8_keep_161 ?_
  refine x_aload_n C dX8_keep_164 rfl 1 rfl ?_
  refine gf_2_3 C k160 dX8_keep_165 ?_
  refine x_iload C dX8_keep_168 4 rfl ?_
  refine x_rget C 2 (by decide) k144 (Nat.le_of_ble_eq_true rfl) (Nat.le_of_ble_eq_true rfl) dX8_keep_170 ?_
  refine x_callVi C FX8_extentOver GX8_extentOver k169 (m_X8_extentOver t0 (rg M 2 x2) (rg M 2 x3) (rg M 2 x4)) h (by decide) (fun _ => rfl) rfl (Nat.le_of_ble_eq_true rfl) (Nat.le_of_ble_eq_true rfl) (rest := [(iv x6), (.ref (K 27))]) (Nat.le_of_ble_eq_true rfl) rfl rfl dX8_keep_173 (fun v5 M5 h => ?_)
  refine x_rset C 2 (by decide) h.1 k151 (Nat.le_of_ble_eq_true rfl) (Nat.le_of_ble_eq_true rfl) dX8_keep_176 ?_
  replace h := h.2
  refine x_aload_n C dX8_keep_179 rfl 1 rfl ?_
  refine gf_2_5 C k150 dX8_keep_180 ?_
  refine x_iload C dX8_keep_183 6 rfl ?_
  refine x_aload_n C dX8_keep_185 rfl 1 rfl ?_
  refine gf_2_6 C k143 dX8_keep_186 ?_
  refine x_iload C dX8_keep_189 5 rfl ?_
  refine x_rget C 5 (by decide) k144 (Nat.le_of_ble_eq_true rfl) (Nat.le_of_ble_eq_true rfl) dX8_keep_191 ?_
  refine x_rset C 4 (by decide) h.1 k151 (Nat.le_of_ble_eq_true rfl) (Nat.le_of_ble_eq_true rfl) dX8_keep_194 ?_
  replace h := h.2
  refine x_aload_n C dX8_keep_197 rfl 1 rfl ?_
  refine gf_2_6 C k143 dX8_keep_198 ?_
  refine x_iload C dX8_keep_201 5 rfl ?_
  refine x_iload C dX8_keep_203 6 rfl ?_
  refine x_iconst C (n := 1) dX8_keep_205 ?_
  refine x_iadd C dX8_keep_206 ?_
  refine x_rset C 5 (by decide) h.1 k151 (Nat.le_of_ble_eq_true rfl) (Nat.le_of_ble_eq_true rfl) dX8_keep_207 ?_
  replace h := h.2
  refine x_iload C dX8_keep_210 6 rfl ?_
  exact hret _ _ _ _ dX8_keep_212 h
set_option maxHeartbeats 4000000 in
theorem T_X8_keep_59 {Q : Int → g_M → Prop} (C : XC p R s m args c D d A cX8_keep 8 RX8 1 zc zs) (hret : RTI p l e R s m args below meth c Qg D d K A 8 zc zs L cX8_keep Q) (x1 : Int) (x2 : Int) (x3 : Int) (x4 : Int) (x5 : Int) (x6 : Int) (M : g_M) (h : F_X8_keep_59 Q x1 x2 x3 x4 x5 x6 M) : X p l e R s m args below meth c Qg D d K A 8 zc zs L M [(0, (.ref (K 2))), (1, (iv x1)), (2, (iv x2)), (3, (iv x3)), (4, (iv x4)), (5, (iv x5)), (6, (iv x6))] 59 [] := by
  refine x_aload_n C dX8_keep_59 rfl 0 rfl ?_
  refine x_dup C dX8_keep_60 rfl ?_
  refine gf_2_10 C k120 dX8_keep_61 ?_
  refine x_iconst C (n := 1) dX8_keep_64 ?_
  refine x_iadd C dX8_keep_65 ?_
  refine pf_2_10 C k120 dX8_keep_66 ?_
  refine x_aload_n C dX8_keep_69 rfl 0 rfl ?_
  refine gf_2_1 C k146 dX8_keep_70 ?_
  refine x_iload C dX8_keep_73 6 rfl ?_
  refine x_iload_n C dX8_keep_75 rfl 1 rfl ?_
  refine x_rset C 0 (by decide) h.1 k151 (Nat.le_of_ble_eq_true rfl) (Nat.le_of_ble_eq_true rfl) dX8_keep_76 ?_
  replace h := h.2
  refine x_aload_n C dX8_keep_79 rfl 0 rfl ?_
  refine gf_2_2 C k147 dX8_keep_80 ?_
  refine x_iconst C (n := 3) dX8_keep_83 ?_
  refine x_iload C dX8_keep_84 6 rfl ?_
  refine x_imul C dX8_keep_86 ?_
  refine x_iload_n C dX8_keep_87 rfl 2 rfl ?_
  refine x_rset C 1 (by decide) h.1 k151 (Nat.le_of_ble_eq_true rfl) (Nat.le_of_ble_eq_true rfl) dX8_keep_88 ?_
  replace h := h.2
  refine x_aload_n C dX8_keep_91 rfl 0 rfl ?_
  refine gf_2_2 C k147 dX8_keep_92 ?_
  refine x_iconst C (n := 3) dX8_keep_95 ?_
  refine x_iload C dX8_keep_96 6 rfl ?_
  refine x_imul C dX8_keep_98 ?_
  refine x_iconst C (n := 1) dX8_keep_99 ?_
  refine x_iadd C dX8_keep_100 ?_
  refine x_iload_n C dX8_keep_101 rfl 3 rfl ?_
  refine x_rset C 1 (by decide) h.1 k151 (Nat.le_of_ble_eq_true rfl) (Nat.le_of_ble_eq_true rfl) dX8_keep_102 ?_
  replace h := h.2
  refine x_aload_n C dX8_keep_105 rfl 0 rfl ?_
  refine gf_2_2 C k147 dX8_keep_106 ?_
  refine x_iconst C (n := 3) dX8_keep_109 ?_
  refine x_iload C dX8_keep_110 6 rfl ?_
  refine x_imul C dX8_keep_112 ?_
  refine x_iconst C (n := 2) dX8_keep_113 ?_
  refine x_iadd C dX8_keep_114 ?_
  refine x_iload C dX8_keep_115 4 rfl ?_
  refine x_rset C 1 (by decide) h.1 k151 (Nat.le_of_ble_eq_true rfl) (Nat.le_of_ble_eq_true rfl) dX8_keep_117 ?_
  replace h := h.2
  refine x_aload_n C dX8_keep_120 rfl 0 rfl ?_
  refine gf_2_0 C k155 dX8_keep_121 ?_
  refine x_iload_n C dX8_keep_124 rfl 1 rfl ?_
  refine x_callVi C FX7_variableOrdinal GX7_variableOrdinal k156 (m_X7_variableOrdinal x1) h (by decide) (fun _ => rfl) rfl (Nat.le_of_ble_eq_true rfl) (Nat.le_of_ble_eq_true rfl) (rest := []) (Nat.le_of_ble_eq_true rfl) rfl rfl dX8_keep_125 (fun v3 M3 h => ?_)
  refine x_iconst C (n := (-1)) dX8_keep_128 ?_
  refine x_icmp_ne C 136 dX8_keep_129 (by decide) (fun c4 => ?_) (fun c4 => ?_)
  · replace h := h.1 c4
    refine x_iconst C (n := 0) dX8_keep_132 ?_
    refine x_goto C 137 dX8_keep_133 (by decide) ?_
    refine x_lv (lv' := [(0, (.ref (K 2))), (2, (iv x2)), (3, (iv x3)), (4, (iv x4)), (5, (iv x5)), (6, (iv x6))]) [0, 2, 3, 4, 5, 6] rfl ?_
    exact T_X8_keep_137 C hret x2 x3 x4 x5 x6 0 M3 h
  · replace h := h.2 c4
    refine x_iconst C (n := 1) dX8_keep_136 ?_
    refine x_lv (lv' := [(0, (.ref (K 2))), (2, (iv x2)), (3, (iv x3)), (4, (iv x4)), (5, (iv x5)), (6, (iv x6))]) [0, 2, 3, 4, 5, 6] rfl ?_
    exact T_X8_keep_137 C hret x2 x3 x4 x5 x6 1 M3 h
set_option maxHeartbeats 4000000 in
theorem m_X8_keep (a1 : Int) (a2 : Int) (a3 : Int) (a4 : Int) (a5 : Int) : MI l D d K yX8_keep cX8_keep 8 (some .int) 1 [(.ref (K 2)), (iv a1), (iv a2), (iv a3), (iv a4), (iv a5)] (fun Q M => F_X8_keep Q a1 a2 a3 a4 a5 M) := by
  refine s_mi pn_X8 (Nat.le_of_ble_eq_true rfl) [(0, (.ref (K 2))), (1, (iv a1)), (2, (iv a2)), (3, (iv a3)), (4, (iv a4)), (5, (iv a5))] rfl rfl (fun p e R s m args below meth c A L M zc zs Q Qg C hret h => ?_)
  refine x_aload_n C dX8_keep_0 rfl 0 rfl ?_
  refine gf_2_11 C k148 dX8_keep_1 ?_
  refine x_iconst C (n := 1) dX8_keep_4 ?_
  refine x_isub C dX8_keep_5 ?_
  refine x_istore C dX8_keep_6 (by decide) [(6, (iv ((M 42 11) - 1))), (0, (.ref (K 2))), (1, (iv a1)), (2, (iv a2)), (3, (iv a3)), (4, (iv a4)), (5, (iv a5))] rfl ?_
  refine x_iload C dX8_keep_8 0 rfl ?_
  refine x_if_lt C 29 dX8_keep_10 (by decide) (fun c1 => ?_) (fun c1 => ?_)
  · replace h := h.1 c1
    refine x_aload_n C dX8_keep_29 rfl 1 rfl ?_
    refine gf_2_9 C k145 dX8_keep_30 ?_
    refine x_ldc C (n := 524288) (show Cond.constant RX8 11 (Int32.ofInt 524288) ∈ gW from k149) dX8_keep_33 ?_
    refine x_icmp_ge C 57 dX8_keep_35 (by decide) (fun c2 => ?_) (fun c2 => ?_)
    · replace h := h.1 c2
      refine x_aload_n C dX8_keep_38 rfl 1 rfl ?_
      refine gf_2_9 C k145 dX8_keep_39 ?_
      refine x_istore C dX8_keep_42 (by decide) [(6, (iv (M 42 9))), (0, (.ref (K 2))), (1, (iv a1)), (2, (iv a2)), (3, (iv a3)), (4, (iv a4)), (5, (iv a5))] rfl ?_
      refine x_aload_n C dX8_keep_44 rfl 1 rfl ?_
      refine x_dup C dX8_keep_45 rfl ?_
      refine gf_2_9 C k145 dX8_keep_46 ?_
      refine x_iconst C (n := 1) dX8_keep_49 ?_
      refine x_iadd C dX8_keep_50 ?_
      refine pf_2_9 C k145 dX8_keep_51 ?_
      refine x_goto C 59 dX8_keep_54 (by decide) ?_
      refine x_lv (lv' := [(0, (.ref (K 2))), (1, (iv a1)), (2, (iv a2)), (3, (iv a3)), (4, (iv a4)), (5, (iv a5)), (6, (iv (M 42 9)))]) [1, 2, 3, 4, 5, 6, 0] rfl ?_
      exact T_X8_keep_59 C hret a1 a2 a3 a4 a5 (M 42 9) (up M 42 9 ((M 42 9) + 1)) h
    · replace h := h.2 c2
      refine x_iconst C (n := 0) dX8_keep_57 ?_
      exact hret _ _ _ _ dX8_keep_58 h
  · replace h := h.2 c1
    refine x_aload_n C dX8_keep_13 rfl 1 rfl ?_
    refine x_aload_n C dX8_keep_14 rfl 1 rfl ?_
    refine gf_2_5 C k150 dX8_keep_15 ?_
    refine x_iload C dX8_keep_18 0 rfl ?_
    refine x_rget C 4 (by decide) k144 (Nat.le_of_ble_eq_true rfl) (Nat.le_of_ble_eq_true rfl) dX8_keep_20 ?_
    refine pf_2_11 C k148 dX8_keep_23 ?_
    refine x_goto C 59 dX8_keep_26 (by decide) ?_
    refine x_lv (lv' := [(0, (.ref (K 2))), (1, (iv a1)), (2, (iv a2)), (3, (iv a3)), (4, (iv a4)), (5, (iv a5)), (6, (iv ((M 42 11) - 1)))]) [1, 2, 3, 4, 5, 6, 0] rfl ?_
    exact T_X8_keep_59 C hret a1 a2 a3 a4 a5 ((M 42 11) - 1) (up M 42 11 (rg M 4 ((M 42 11) - 1))) h
set_option maxHeartbeats 4000000 in
theorem T_X8_make_126 {Q : Int → g_M → Prop} (C : XC p R s m args c D d A cX8_make 9 RX8 2 zc zs) (hret : RTI p l e R s m args below meth c Qg D d K A 9 zc zs L cX8_make Q) (x1 : Int) (x2 : Int) (x3 : Int) (x4 : Int) (x5 : Int) (M : g_M) (h : F_X8_make_126 Q x1 x2 x3 x4 x5 M) : X p l e R s m args below meth c Qg D d K A 9 zc zs L M [(0, (.ref (K 2))), (1, (iv x1)), (2, (iv x2)), (3, (iv x3)), (4, (iv x4)), (5, (iv x5))] 126 [] := by
  refine x_aload_n C dX8_make_126 rfl 0 rfl ?_
  refine x_iload_n C dX8_make_127 rfl 1 rfl ?_
  refine x_iload_n C dX8_make_128 rfl 2 rfl ?_
  refine x_iload_n C dX8_make_129 rfl 3 rfl ?_
  refine x_iload C dX8_make_130 4 rfl ?_
  refine x_iload C dX8_make_132 5 rfl ?_
  refine x_callVi C FX8_keep GX8_keep k173 (m_X8_keep x1 x2 x3 x4 x5) h (by decide) (fun _ => rfl) rfl (Nat.le_of_ble_eq_true rfl) (Nat.le_of_ble_eq_true rfl) (rest := []) (Nat.le_of_ble_eq_true rfl) rfl rfl dX8_make_134 (fun v8 M8 h => ?_)
  exact hret _ _ _ _ dX8_make_137 h
set_option maxHeartbeats 4000000 in
theorem T_X8_make_107 {Q : Int → g_M → Prop} (C : XC p R s m args c D d A cX8_make 9 RX8 2 zc zs) (hret : RTI p l e R s m args below meth c Qg D d K A 9 zc zs L cX8_make Q) {k27 : Int → Int → Int → Int → Int → Int → Int → g_M → Prop} (hk27 : ∀ (x1 : Int) (x2 : Int) (x3 : Int) (x4 : Int) (x5 : Int) (x6 : Int) (x7 : Int) (M : g_M), k27 x1 x2 x3 x4 x5 x6 x7 M → X p l e R s m args below meth c Qg D d K A 9 zc zs L M [(0, (.ref (K 2))), (1, (iv x1)), (2, (iv x2)), (3, (iv x3)), (4, (iv x4)), (5, (iv x5)), (6, (iv x6)), (7, (iv x7))] 27 []) (x1 : Int) (x2 : Int) (x3 : Int) (x4 : Int) (x5 : Int) (x6 : Int) (x7 : Int) (M : g_M) (h : F_X8_make_107 Q k27 x1 x2 x3 x4 x5 x6 x7 M) : X p l e R s m args below meth c Qg D d K A 9 zc zs L M [(0, (.ref (K 2))), (1, (iv x1)), (2, (iv x2)), (3, (iv x3)), (4, (iv x4)), (5, (iv x5)), (6, (iv x6)), (7, (iv x7))] 107 [] := by
  refine x_aload_n C dX8_make_107 rfl 0 rfl ?_
  refine gf_2_5 C k150 dX8_make_108 ?_
  refine x_iload C dX8_make_111 6 rfl ?_
  refine x_rget C 4 (by decide) k144 (Nat.le_of_ble_eq_true rfl) (Nat.le_of_ble_eq_true rfl) dX8_make_113 ?_
  refine x_iconst C (n := 1) dX8_make_116 ?_
  refine x_isub C dX8_make_117 ?_
  refine x_istore C dX8_make_118 (by decide) [(6, (iv ((rg M 4 x6) - 1))), (0, (.ref (K 2))), (1, (iv x1)), (2, (iv x2)), (3, (iv x3)), (4, (iv x4)), (5, (iv x5)), (7, (iv x7))] rfl ?_
  refine x_iinc C dX8_make_120 7 rfl (by decide) [(7, (iv (x7 + 1))), (6, (iv ((rg M 4 x6) - 1))), (0, (.ref (K 2))), (1, (iv x1)), (2, (iv x2)), (3, (iv x3)), (4, (iv x4)), (5, (iv x5))] rfl ?_
  refine x_goto C 27 dX8_make_123 (by decide) ?_
  refine x_lv (lv' := [(0, (.ref (K 2))), (1, (iv x1)), (2, (iv x2)), (3, (iv x3)), (4, (iv x4)), (5, (iv x5)), (6, (iv ((rg M 4 x6) - 1))), (7, (iv (x7 + 1)))]) [2, 3, 4, 5, 6, 7, 1, 0] rfl ?_
  exact hk27 x1 x2 x3 x4 x5 ((rg M 4 x6) - 1) (x7 + 1) M h
set_option maxHeartbeats 4000000 in
theorem T_X8_make_27 {Q : Int → g_M → Prop} (C : XC p R s m args c D d A cX8_make 9 RX8 2 zc zs) (hret : RTI p l e R s m args below meth c Qg D d K A 9 zc zs L cX8_make Q) : ∀ (n : Nat) (x1 : Int) (x2 : Int) (x3 : Int) (x4 : Int) (x5 : Int) (x6 : Int) (x7 : Int) (M : g_M), F_X8_make_27 Q n x1 x2 x3 x4 x5 x6 x7 M → X p l e R s m args below meth c Qg D d K A 9 zc zs L M [(0, (.ref (K 2))), (1, (iv x1)), (2, (iv x2)), (3, (iv x3)), (4, (iv x4)), (5, (iv x5)), (6, (iv x6)), (7, (iv x7))] 27 [] := by
  intro n
  induction n with
  | zero =>
    intro x1 x2 x3 x4 x5 x6 x7 M h
    exact h.elim
  | succ n ih =>
    intro x1 x2 x3 x4 x5 x6 x7 M h
    replace h : ((bm x7 < bm (M 42 9) → (((bm x6 < 0 → (F_X8_make_126 Q x1 x2 x3 x4 x5 M)) ∧ (¬ bm x6 < 0 → (((bm (rg M 0 x6) = bm x1 → (((bm (rg M 1 (3 * x6)) = bm x2 → (((bm (rg M 1 ((3 * x6) + 1)) = bm x3 → (((bm (rg M 1 ((3 * x6) + 2)) = bm x4 → (Q x6 M)) ∧ (¬ bm (rg M 1 ((3 * x6) + 2)) = bm x4 → (F_X8_make_107 Q (F_X8_make_27 Q n) x1 x2 x3 x4 x5 x6 x7 M))))) ∧ (¬ bm (rg M 1 ((3 * x6) + 1)) = bm x3 → (F_X8_make_107 Q (F_X8_make_27 Q n) x1 x2 x3 x4 x5 x6 x7 M))))) ∧ (¬ bm (rg M 1 (3 * x6)) = bm x2 → (F_X8_make_107 Q (F_X8_make_27 Q n) x1 x2 x3 x4 x5 x6 x7 M))))) ∧ (¬ bm (rg M 0 x6) = bm x1 → (F_X8_make_107 Q (F_X8_make_27 Q n) x1 x2 x3 x4 x5 x6 x7 M)))))))) ∧ (¬ bm x7 < bm (M 42 9) → (F_X8_make_126 Q x1 x2 x3 x4 x5 M))) := h
    refine x_iload C dX8_make_27 7 rfl ?_
    refine x_aload_n C dX8_make_29 rfl 0 rfl ?_
    refine gf_2_9 C k145 dX8_make_30 ?_
    refine x_icmp_ge C 126 dX8_make_33 (by decide) (fun c2 => ?_) (fun c2 => ?_)
    · replace h := h.1 c2
      refine x_iload C dX8_make_36 6 rfl ?_
      refine x_if_lt C 126 dX8_make_38 (by decide) (fun c3 => ?_) (fun c3 => ?_)
      · replace h := h.1 c3
        refine x_lv (lv' := [(0, (.ref (K 2))), (1, (iv x1)), (2, (iv x2)), (3, (iv x3)), (4, (iv x4)), (5, (iv x5))]) [0, 1, 2, 3, 4, 5] rfl ?_
        exact T_X8_make_126 C hret x1 x2 x3 x4 x5 M h
      · replace h := h.2 c3
        refine x_iconst C (n := 3) dX8_make_41 ?_
        refine x_iload C dX8_make_42 6 rfl ?_
        refine x_imul C dX8_make_44 ?_
        refine x_istore C dX8_make_45 (by decide) [(8, (iv (3 * x6))), (0, (.ref (K 2))), (1, (iv x1)), (2, (iv x2)), (3, (iv x3)), (4, (iv x4)), (5, (iv x5)), (6, (iv x6)), (7, (iv x7))] rfl ?_
        refine x_aload_n C dX8_make_47 rfl 1 rfl ?_
        refine gf_2_1 C k146 dX8_make_48 ?_
        refine x_iload C dX8_make_51 7 rfl ?_
        refine x_rget C 0 (by decide) k144 (Nat.le_of_ble_eq_true rfl) (Nat.le_of_ble_eq_true rfl) dX8_make_53 ?_
        refine x_iload_n C dX8_make_56 rfl 2 rfl ?_
        refine x_icmp_ne C 107 dX8_make_57 (by decide) (fun c4 => ?_) (fun c4 => ?_)
        · replace h := h.1 c4
          refine x_aload_n C dX8_make_60 rfl 1 rfl ?_
          refine gf_2_2 C k147 dX8_make_61 ?_
          refine x_iload C dX8_make_64 0 rfl ?_
          refine x_rget C 1 (by decide) k144 (Nat.le_of_ble_eq_true rfl) (Nat.le_of_ble_eq_true rfl) dX8_make_66 ?_
          refine x_iload_n C dX8_make_69 rfl 3 rfl ?_
          refine x_icmp_ne C 107 dX8_make_70 (by decide) (fun c5 => ?_) (fun c5 => ?_)
          · replace h := h.1 c5
            refine x_aload_n C dX8_make_73 rfl 1 rfl ?_
            refine gf_2_2 C k147 dX8_make_74 ?_
            refine x_iload C dX8_make_77 0 rfl ?_
            refine x_iconst C (n := 1) dX8_make_79 ?_
            refine x_iadd C dX8_make_80 ?_
            refine x_rget C 1 (by decide) k144 (Nat.le_of_ble_eq_true rfl) (Nat.le_of_ble_eq_true rfl) dX8_make_81 ?_
            refine x_iload_n C dX8_make_84 rfl 4 rfl ?_
            refine x_icmp_ne C 107 dX8_make_85 (by decide) (fun c6 => ?_) (fun c6 => ?_)
            · replace h := h.1 c6
              refine x_aload_n C dX8_make_88 rfl 1 rfl ?_
              refine gf_2_2 C k147 dX8_make_89 ?_
              refine x_iload C dX8_make_92 0 rfl ?_
              refine x_iconst C (n := 2) dX8_make_94 ?_
              refine x_iadd C dX8_make_95 ?_
              refine x_rget C 1 (by decide) k144 (Nat.le_of_ble_eq_true rfl) (Nat.le_of_ble_eq_true rfl) dX8_make_96 ?_
              refine x_iload C dX8_make_99 5 rfl ?_
              refine x_icmp_ne C 107 dX8_make_101 (by decide) (fun c7 => ?_) (fun c7 => ?_)
              · replace h := h.1 c7
                refine x_iload C dX8_make_104 7 rfl ?_
                exact hret _ _ _ _ dX8_make_106 h
              · replace h := h.2 c7
                refine x_lv (lv' := [(0, (.ref (K 2))), (1, (iv x1)), (2, (iv x2)), (3, (iv x3)), (4, (iv x4)), (5, (iv x5)), (6, (iv x6)), (7, (iv x7))]) [1, 2, 3, 4, 5, 6, 7, 8] rfl ?_
                exact T_X8_make_107 C hret ih x1 x2 x3 x4 x5 x6 x7 M h
            · replace h := h.2 c6
              refine x_lv (lv' := [(0, (.ref (K 2))), (1, (iv x1)), (2, (iv x2)), (3, (iv x3)), (4, (iv x4)), (5, (iv x5)), (6, (iv x6)), (7, (iv x7))]) [1, 2, 3, 4, 5, 6, 7, 8] rfl ?_
              exact T_X8_make_107 C hret ih x1 x2 x3 x4 x5 x6 x7 M h
          · replace h := h.2 c5
            refine x_lv (lv' := [(0, (.ref (K 2))), (1, (iv x1)), (2, (iv x2)), (3, (iv x3)), (4, (iv x4)), (5, (iv x5)), (6, (iv x6)), (7, (iv x7))]) [1, 2, 3, 4, 5, 6, 7, 8] rfl ?_
            exact T_X8_make_107 C hret ih x1 x2 x3 x4 x5 x6 x7 M h
        · replace h := h.2 c4
          refine x_lv (lv' := [(0, (.ref (K 2))), (1, (iv x1)), (2, (iv x2)), (3, (iv x3)), (4, (iv x4)), (5, (iv x5)), (6, (iv x6)), (7, (iv x7))]) [1, 2, 3, 4, 5, 6, 7, 8] rfl ?_
          exact T_X8_make_107 C hret ih x1 x2 x3 x4 x5 x6 x7 M h
    · replace h := h.2 c2
      refine x_lv (lv' := [(0, (.ref (K 2))), (1, (iv x1)), (2, (iv x2)), (3, (iv x3)), (4, (iv x4)), (5, (iv x5))]) [0, 1, 2, 3, 4, 5] rfl ?_
      exact T_X8_make_126 C hret x1 x2 x3 x4 x5 M h
set_option maxHeartbeats 4000000 in
theorem m_X8_make (a1 : Int) (a2 : Int) (a3 : Int) (a4 : Int) : MI l D d K yX8_make cX8_make 9 (some .int) 2 [(.ref (K 2)), (iv a1), (iv a2), (iv a3), (iv a4)] (fun Q M => F_X8_make Q a1 a2 a3 a4 M) := by
  refine s_mi pn_X8 (Nat.le_of_ble_eq_true rfl) [(0, (.ref (K 2))), (1, (iv a1)), (2, (iv a2)), (3, (iv a3)), (4, (iv a4))] rfl rfl (fun p e R s m args below meth c A L M zc zs Q Qg C hret h => ?_)
  refine x_aload_n C dX8_make_0 rfl 0 rfl ?_
  refine x_iload_n C dX8_make_1 rfl 1 rfl ?_
  refine x_iload_n C dX8_make_2 rfl 2 rfl ?_
  refine x_iload_n C dX8_make_3 rfl 3 rfl ?_
  refine x_iload C dX8_make_4 4 rfl ?_
  refine x_callVi C FX8_bucketOf GX8_bucketOf k139 (m_X8_bucketOf a1 a2 a3 a4) h (by decide) (fun _ => rfl) rfl (Nat.le_of_ble_eq_true rfl) (Nat.le_of_ble_eq_true rfl) (rest := []) (Nat.le_of_ble_eq_true rfl) rfl rfl dX8_make_6 (fun v1 M1 h => ?_)
  refine x_istore C dX8_make_9 (by decide) [(5, (iv v1)), (0, (.ref (K 2))), (1, (iv a1)), (2, (iv a2)), (3, (iv a3)), (4, (iv a4))] rfl ?_
  refine x_aload_n C dX8_make_11 rfl 1 rfl ?_
  refine gf_2_6 C k143 dX8_make_12 ?_
  refine x_iload C dX8_make_15 0 rfl ?_
  refine x_rget C 5 (by decide) k144 (Nat.le_of_ble_eq_true rfl) (Nat.le_of_ble_eq_true rfl) dX8_make_17 ?_
  refine x_iconst C (n := 1) dX8_make_20 ?_
  refine x_isub C dX8_make_21 ?_
  refine x_istore C dX8_make_22 (by decide) [(6, (iv ((rg M1 5 v1) - 1))), (5, (iv v1)), (0, (.ref (K 2))), (1, (iv a1)), (2, (iv a2)), (3, (iv a3)), (4, (iv a4))] rfl ?_
  refine x_iconst C (n := 0) dX8_make_24 ?_
  refine x_istore C dX8_make_25 (by decide) [(7, (iv 0)), (6, (iv ((rg M1 5 v1) - 1))), (5, (iv v1)), (0, (.ref (K 2))), (1, (iv a1)), (2, (iv a2)), (3, (iv a3)), (4, (iv a4))] rfl ?_
  refine x_lv (lv' := [(0, (.ref (K 2))), (1, (iv a1)), (2, (iv a2)), (3, (iv a3)), (4, (iv a4)), (5, (iv v1)), (6, (iv ((rg M1 5 v1) - 1))), (7, (iv 0))]) [3, 4, 5, 6, 7, 2, 1, 0] rfl ?_
  obtain ⟨n9, h⟩ := h
  exact T_X8_make_27 C hret n9 a1 a2 a3 a4 v1 ((rg M1 5 v1) - 1) 0 M1 h
set_option maxHeartbeats 4000000 in
theorem m_X8_width (a1 : Int) : MI l D d K yX8_width cX8_width 2 (some .int) 1 [(.ref (K 2)), (iv a1)] (fun Q M => F_X8_width Q a1 M) := by
  refine s_mi pn_X8 (Nat.le_of_ble_eq_true rfl) [(0, (.ref (K 2))), (1, (iv a1))] rfl rfl (fun p e R s m args below meth c A L M zc zs Q Qg C hret h => ?_)
  refine x_aload_n C dX8_width_0 rfl 0 rfl ?_
  refine gf_2_3 C k160 dX8_width_1 ?_
  refine x_iload_n C dX8_width_4 rfl 1 rfl ?_
  refine x_rget C 2 (by decide) k144 (Nat.le_of_ble_eq_true rfl) (Nat.le_of_ble_eq_true rfl) dX8_width_5 ?_
  refine x_bipush C (n := 9) (by decide) (by decide) dX8_width_8 ?_
  refine x_iushr C dX8_width_10 ?_
  exact hret _ _ _ _ dX8_width_11 h
set_option maxHeartbeats 4000000 in
theorem m_X8_height (a1 : Int) : MI l D d K yX8_height cX8_height 2 (some .int) 1 [(.ref (K 2)), (iv a1)] (fun Q M => F_X8_height Q a1 M) := by
  refine s_mi pn_X8 (Nat.le_of_ble_eq_true rfl) [(0, (.ref (K 2))), (1, (iv a1))] rfl rfl (fun p e R s m args below meth c A L M zc zs Q Qg C hret h => ?_)
  refine x_aload_n C dX8_height_0 rfl 0 rfl ?_
  refine gf_2_3 C k160 dX8_height_1 ?_
  refine x_iload_n C dX8_height_4 rfl 1 rfl ?_
  refine x_rget C 2 (by decide) k144 (Nat.le_of_ble_eq_true rfl) (Nat.le_of_ble_eq_true rfl) dX8_height_5 ?_
  refine x_iconst C (n := 1) dX8_height_8 ?_
  refine x_iushr C dX8_height_9 ?_
  refine x_sipush C (n := 255) (by decide) (by decide) dX8_height_10 ?_
  refine x_iand C dX8_height_13 ?_
  exact hret _ _ _ _ dX8_height_14 h
set_option maxHeartbeats 4000000 in
theorem m_X8_isTooLarge (a1 : Int) : MI l D d K yX8_isTooLarge cX8_isTooLarge 2 (some .boolean) 2 [(.ref (K 2)), (iv a1)] (fun Q M => F_X8_isTooLarge Q a1 M) := by
  refine s_mz pn_X8 (Nat.le_of_ble_eq_true rfl) [(0, (.ref (K 2))), (1, (iv a1))] rfl rfl (fun p e R s m args below meth c A L M zc zs Q Qg C hret h => ?_)
  refine x_aload_n C dX8_isTooLarge_0 rfl 0 rfl ?_
  refine x_iload_n C dX8_isTooLarge_1 rfl 1 rfl ?_
  refine x_callVi C FX8_width GX8_width k181 (m_X8_width a1) h (by decide) (fun _ => rfl) rfl (Nat.le_of_ble_eq_true rfl) (Nat.le_of_ble_eq_true rfl) (rest := []) (Nat.le_of_ble_eq_true rfl) rfl rfl dX8_isTooLarge_2 (fun v1 M1 h => ?_)
  refine x_sipush C (n := 1000) (by decide) (by decide) dX8_isTooLarge_5 ?_
  refine x_icmp_gt C 21 dX8_isTooLarge_8 (by decide) (fun c2 => ?_) (fun c2 => ?_)
  · replace h := h.1 c2
    refine x_iconst C (n := 1) dX8_isTooLarge_21 ?_
    refine x_goto C 26 dX8_isTooLarge_22 (by decide) ?_
    exact hret _ _ _ _ dX8_isTooLarge_26 (by unfold isB; decide) h
  · replace h := h.2 c2
    refine x_aload_n C dX8_isTooLarge_11 rfl 0 rfl ?_
    refine x_iload_n C dX8_isTooLarge_12 rfl 1 rfl ?_
    refine x_callVi C FX8_height GX8_height k185 (m_X8_height a1) h (by decide) (fun _ => rfl) rfl (Nat.le_of_ble_eq_true rfl) (Nat.le_of_ble_eq_true rfl) (rest := []) (Nat.le_of_ble_eq_true rfl) rfl rfl dX8_isTooLarge_13 (fun v3 M3 h => ?_)
    refine x_bipush C (n := 60) (by decide) (by decide) dX8_isTooLarge_16 ?_
    refine x_icmp_le C 25 dX8_isTooLarge_18 (by decide) (fun c4 => ?_) (fun c4 => ?_)
    · replace h := h.1 c4
      refine x_iconst C (n := 1) dX8_isTooLarge_21 ?_
      refine x_goto C 26 dX8_isTooLarge_22 (by decide) ?_
      exact hret _ _ _ _ dX8_isTooLarge_26 (by unfold isB; decide) h
    · replace h := h.2 c4
      refine x_iconst C (n := 0) dX8_isTooLarge_25 ?_
      exact hret _ _ _ _ dX8_isTooLarge_26 (by unfold isB; decide) h
set_option maxHeartbeats 4000000 in
theorem m_X8_number (a1 : Int) : MI l D d K yX8_number cX8_number 2 (some .int) 1 [(.ref (K 2)), (iv a1)] (fun Q M => F_X8_number Q a1 M) := by
  refine s_mi pn_X8 (Nat.le_of_ble_eq_true rfl) [(0, (.ref (K 2))), (1, (iv a1))] rfl rfl (fun p e R s m args below meth c A L M zc zs Q Qg C hret h => ?_)
  refine x_aload_n C dX8_number_0 rfl 0 rfl ?_
  refine gf_2_4 C k193 dX8_number_1 ?_
  refine x_iload_n C dX8_number_4 rfl 1 rfl ?_
  refine x_rget C 3 (by decide) k144 (Nat.le_of_ble_eq_true rfl) (Nat.le_of_ble_eq_true rfl) dX8_number_5 ?_
  refine x_iconst C (n := 1) dX8_number_8 ?_
  refine x_isub C dX8_number_9 ?_
  exact hret _ _ _ _ dX8_number_10 h
set_option maxHeartbeats 4000000 in
theorem m_X8_setNumber (a1 : Int) (a2 : Int) : MV l D d K yX8_setNumber cX8_setNumber 3 none 1 [(.ref (K 2)), (iv a1), (iv a2)] (fun Q M => F_X8_setNumber Q a1 a2 M) := by
  refine s_mv pn_X8 (Nat.le_of_ble_eq_true rfl) [(0, (.ref (K 2))), (1, (iv a1)), (2, (iv a2))] rfl rfl (fun p e R s m args below meth c A L M zc zs Q Qg C hret h => ?_)
  refine x_aload_n C dX8_setNumber_0 rfl 0 rfl ?_
  refine gf_2_4 C k193 dX8_setNumber_1 ?_
  refine x_iload_n C dX8_setNumber_4 rfl 1 rfl ?_
  refine x_iload_n C dX8_setNumber_5 rfl 2 rfl ?_
  refine x_iconst C (n := 1) dX8_setNumber_6 ?_
  refine x_iadd C dX8_setNumber_7 ?_
  refine x_rset C 3 (by decide) h.1 k151 (Nat.le_of_ble_eq_true rfl) (Nat.le_of_ble_eq_true rfl) dX8_setNumber_8 ?_
  replace h := h.2
  exact hret _ _ _ dX8_setNumber_11 h
set_option maxHeartbeats 4000000 in
theorem m_X7_fixOrder  : MV l D d K yX7_fixOrder cX7_fixOrder 1 none 0 [(.ref (K 1))] (fun Q M => F_X7_fixOrder Q M) := by
  refine s_mv pn_X7 (Nat.le_of_ble_eq_true rfl) [(0, (.ref (K 1)))] rfl rfl (fun p e R s m args below meth c A L M zc zs Q Qg C hret h => ?_)
  refine x_aload_n C dX7_fixOrder_0 rfl 0 rfl ?_
  refine x_iconst C (n := 1) dX7_fixOrder_1 ?_
  refine pf_1_10 C (by unfold isB; decide) k74 dX7_fixOrder_2 ?_
  exact hret _ _ _ dX7_fixOrder_5 h
set_option maxHeartbeats 4000000 in
theorem T_X11_giveNumber_54 {Q : Int → g_M → Prop} (C : XC p R s m args c D d A cX11_giveNumber 3 RX11 2 zc zs) (hret : RTI p l e R s m args below meth c Qg D d K A 3 zc zs L cX11_giveNumber Q) (x2 : Int) (M : g_M) (h : F_X11_giveNumber_54 Q x2 M) : X p l e R s m args below meth c Qg D d K A 3 zc zs L M [(2, (iv x2))] 54 [] := by
  refine x_iload_n C dX11_giveNumber_54 rfl 0 rfl ?_
  exact hret _ _ _ _ dX11_giveNumber_55 h
set_option maxHeartbeats 4000000 in
theorem m_X11_giveNumber (a1 : Int) : MI l D d K yX11_giveNumber cX11_giveNumber 3 (some .int) 2 [(.ref (K 0)), (iv a1)] (fun Q M => F_X11_giveNumber Q a1 M) := by
  refine s_mi pn_X11 (Nat.le_of_ble_eq_true rfl) [(0, (.ref (K 0))), (1, (iv a1))] rfl rfl (fun p e R s m args below meth c A L M zc zs Q Qg C hret h => ?_)
  refine x_aload_n C dX11_giveNumber_0 rfl 0 rfl ?_
  refine gf_0_1 C k119 dX11_giveNumber_1 ?_
  refine x_iload_n C dX11_giveNumber_4 rfl 1 rfl ?_
  refine x_callVi C FX8_number GX8_number k194 (m_X8_number a1) h (by decide) (fun _ => rfl) rfl (Nat.le_of_ble_eq_true rfl) (Nat.le_of_ble_eq_true rfl) (rest := []) (Nat.le_of_ble_eq_true rfl) rfl rfl dX11_giveNumber_5 (fun v1 M1 h => ?_)
  refine x_istore_n C dX11_giveNumber_8 rfl (by decide) [(2, (iv v1)), (0, (.ref (K 0))), (1, (iv a1))] rfl ?_
  refine x_iload_n C dX11_giveNumber_9 rfl 0 rfl ?_
  refine x_iconst C (n := (-1)) dX11_giveNumber_10 ?_
  refine x_icmp_ne C 54 dX11_giveNumber_11 (by decide) (fun c2 => ?_) (fun c2 => ?_)
  · replace h := h.1 c2
    refine x_aload_n C dX11_giveNumber_14 rfl 1 rfl ?_
    refine gf_0_10 C k113 dX11_giveNumber_15 ?_
    refine x_istore_n C dX11_giveNumber_18 rfl (by decide) [(2, (iv (M1 40 10))), (0, (.ref (K 0))), (1, (iv a1))] rfl ?_
    refine x_aload_n C dX11_giveNumber_19 rfl 1 rfl ?_
    refine gf_0_1 C k119 dX11_giveNumber_20 ?_
    refine x_iload_n C dX11_giveNumber_23 rfl 2 rfl ?_
    refine x_iload_n C dX11_giveNumber_24 rfl 0 rfl ?_
    refine x_callVv C FX8_setNumber GX8_setNumber k198 (m_X8_setNumber a1 (M1 40 10)) h (by decide) (fun _ => rfl) rfl (Nat.le_of_ble_eq_true rfl) (Nat.le_of_ble_eq_true rfl) (rest := []) (Nat.le_of_ble_eq_true rfl) rfl rfl dX11_giveNumber_25 (fun M3 h => ?_)
    refine x_aload_n C dX11_giveNumber_28 rfl 1 rfl ?_
    refine gf_0_9 C k131 dX11_giveNumber_29 ?_
    refine x_iload_n C dX11_giveNumber_32 rfl 0 rfl ?_
    refine x_iload_n C dX11_giveNumber_33 rfl 2 rfl ?_
    refine x_rset C 33 (by decide) h.1 k202 (Nat.le_of_ble_eq_true rfl) (Nat.le_of_ble_eq_true rfl) dX11_giveNumber_34 ?_
    replace h := h.2
    refine x_aload_n C dX11_giveNumber_37 rfl 1 rfl ?_
    refine x_dup C dX11_giveNumber_38 rfl ?_
    refine gf_0_10 C k113 dX11_giveNumber_39 ?_
    refine x_iconst C (n := 1) dX11_giveNumber_42 ?_
    refine x_iadd C dX11_giveNumber_43 ?_
    refine pf_0_10 C k113 dX11_giveNumber_44 ?_
    refine x_aload_n C dX11_giveNumber_47 rfl 1 rfl ?_
    refine gf_0_0 C k57 dX11_giveNumber_48 ?_
    refine x_callVv C FX7_fixOrder GX7_fixOrder k203 (m_X7_fixOrder) h (by decide) (fun _ => rfl) rfl (Nat.le_of_ble_eq_true rfl) (Nat.le_of_ble_eq_true rfl) (rest := []) (Nat.le_of_ble_eq_true rfl) rfl rfl dX11_giveNumber_51 (fun M4 h => ?_)
    refine x_lv (lv' := [(2, (iv (M1 40 10)))]) [0] rfl ?_
    exact T_X11_giveNumber_54 C hret (M1 40 10) M4 h
  · replace h := h.2 c2
    refine x_lv (lv' := [(2, (iv v1))]) [0] rfl ?_
    exact T_X11_giveNumber_54 C hret v1 M1 h
set_option maxHeartbeats 4000000 in
theorem T_X11_term_136 {Q : Int → g_M → Prop} (C : XC p R s m args c D d A cX11_term 7 RX11 3 zc zs) (hret : RTI p l e R s m args below meth c Qg D d K A 7 zc zs L cX11_term Q) (t1 : Int) (t2 : Int) (t3 : Int) (t4 : Int) (M : g_M) (h : F_X11_term_136 Q t1 t2 t3 t4 M) : X p l e R s m args below meth c Qg D d K A 7 zc zs L M [(0, (.ref (K 0)))] 136 [(iv t4), (iv t3), (iv t2), (iv t1), (.ref (K 2))] := by
  refine x_callVi C FX8_make GX8_make k177 (m_X8_make t1 t2 t3 t4) h (by decide) (fun _ => rfl) rfl (Nat.le_of_ble_eq_true rfl) (Nat.le_of_ble_eq_true rfl) (rest := []) (Nat.le_of_ble_eq_true rfl) rfl rfl dX11_term_136 (fun v17 M17 h => ?_)
  refine x_istore C dX11_term_139 (by decide) [(6, (iv v17)), (0, (.ref (K 0)))] rfl ?_
  refine x_aload_n C dX11_term_141 rfl 1 rfl ?_
  refine gf_0_1 C k119 dX11_term_142 ?_
  refine x_iload C dX11_term_145 0 rfl ?_
  refine x_callVi C FX8_isTooLarge GX8_isTooLarge k189 (m_X8_isTooLarge v17) h (by decide) (fun _ => rfl) rfl (Nat.le_of_ble_eq_true rfl) (Nat.le_of_ble_eq_true rfl) (rest := []) (Nat.le_of_ble_eq_true rfl) rfl rfl dX11_term_147 (fun v18 M18 h => ?_)
  refine x_if_eq C 163 dX11_term_150 (by decide) (fun c19 => ?_) (fun c19 => ?_)
  · replace h := h.1 c19
    refine x_aload_n C dX11_term_163 rfl 1 rfl ?_
    refine x_iload C dX11_term_164 0 rfl ?_
    refine x_callVi C FX11_giveNumber GX11_giveNumber k207 (m_X11_giveNumber v17) h (by decide) (fun _ => rfl) rfl (Nat.le_of_ble_eq_true rfl) (Nat.le_of_ble_eq_true rfl) (rest := []) (Nat.le_of_ble_eq_true rfl) rfl rfl dX11_term_166 (fun v20 M20 h => ?_)
    exact hret _ _ _ _ dX11_term_169 h
  · replace h := h.2 c19
    exact h.elim
set_option maxHeartbeats 4000000 in
theorem T_X11_term_117 {Q : Int → g_M → Prop} (C : XC p R s m args c D d A cX11_term 7 RX11 3 zc zs) (hret : RTI p l e R s m args below meth c Qg D d K A 7 zc zs L cX11_term Q) (x4 : Int) (x5 : Int) (t1 : Int) (t2 : Int) (t3 : Int) (M : g_M) (h : F_X11_term_117 Q x4 x5 t1 t2 t3 M) : X p l e R s m args below meth c Qg D d K A 7 zc zs L M [(0, (.ref (K 0))), (4, (iv x4)), (5, (iv x5))] 117 [(iv t3), (iv t2), (iv t1), (.ref (K 2))] := by
  refine x_iload C dX11_term_117 2 rfl ?_
  refine x_iconst C (n := 2) dX11_term_119 ?_
  refine x_icmp_le C 135 dX11_term_120 (by decide) (fun c16 => ?_) (fun c16 => ?_)
  · replace h := h.1 c16
    refine x_aload_n C dX11_term_123 rfl 0 rfl ?_
    refine gf_0_9 C k131 dX11_term_124 ?_
    refine x_iload C dX11_term_127 1 rfl ?_
    refine x_rget C 33 (by decide) k132 (Nat.le_of_ble_eq_true rfl) (Nat.le_of_ble_eq_true rfl) dX11_term_129 ?_
    refine x_goto C 136 dX11_term_132 (by decide) ?_
    refine x_lv (lv' := [(0, (.ref (K 0)))]) [0] rfl ?_
    exact T_X11_term_136 C hret t1 t2 t3 (rg M 33 x4) M h
  · replace h := h.2 c16
    refine x_iconst C (n := (-1)) dX11_term_135 ?_
    refine x_lv (lv' := [(0, (.ref (K 0)))]) [0] rfl ?_
    exact T_X11_term_136 C hret t1 t2 t3 (-1) M h
set_option maxHeartbeats 4000000 in
theorem T_X11_term_99 {Q : Int → g_M → Prop} (C : XC p R s m args c D d A cX11_term 7 RX11 3 zc zs) (hret : RTI p l e R s m args below meth c Qg D d K A 7 zc zs L cX11_term Q) (x3 : Int) (x4 : Int) (x5 : Int) (t1 : Int) (t2 : Int) (M : g_M) (h : F_X11_term_99 Q x3 x4 x5 t1 t2 M) : X p l e R s m args below meth c Qg D d K A 7 zc zs L M [(0, (.ref (K 0))), (3, (iv x3)), (4, (iv x4)), (5, (iv x5))] 99 [(iv t2), (iv t1), (.ref (K 2))] := by
  refine x_iload C dX11_term_99 3 rfl ?_
  refine x_iconst C (n := 1) dX11_term_101 ?_
  refine x_icmp_le C 116 dX11_term_102 (by decide) (fun c15 => ?_) (fun c15 => ?_)
  · replace h := h.1 c15
    refine x_aload_n C dX11_term_105 rfl 0 rfl ?_
    refine gf_0_9 C k131 dX11_term_106 ?_
    refine x_iload_n C dX11_term_109 rfl 1 rfl ?_
    refine x_rget C 33 (by decide) k132 (Nat.le_of_ble_eq_true rfl) (Nat.le_of_ble_eq_true rfl) dX11_term_110 ?_
    refine x_goto C 117 dX11_term_113 (by decide) ?_
    refine x_lv (lv' := [(0, (.ref (K 0))), (4, (iv x4)), (5, (iv x5))]) [0, 2, 3] rfl ?_
    exact T_X11_term_117 C hret x4 x5 t1 t2 (rg M 33 x3) M h
  · replace h := h.2 c15
    refine x_iconst C (n := (-1)) dX11_term_116 ?_
    refine x_lv (lv' := [(0, (.ref (K 0))), (4, (iv x4)), (5, (iv x5))]) [0, 2, 3] rfl ?_
    exact T_X11_term_117 C hret x4 x5 t1 t2 (-1) M h
set_option maxHeartbeats 4000000 in
theorem T_X11_term_73 {Q : Int → g_M → Prop} (C : XC p R s m args c D d A cX11_term 7 RX11 3 zc zs) (hret : RTI p l e R s m args below meth c Qg D d K A 7 zc zs L cX11_term Q) (x1 : Int) (x2 : Int) (x3 : Int) (x4 : Int) (x5 : Int) (M : g_M) (h : F_X11_term_73 Q x1 x2 x3 x4 x5 M) : X p l e R s m args below meth c Qg D d K A 7 zc zs L M [(0, (.ref (K 0))), (1, (iv x1)), (2, (iv x2)), (3, (iv x3)), (4, (iv x4)), (5, (iv x5))] 73 [] := by
  refine x_aload_n C dX11_term_73 rfl 0 rfl ?_
  refine x_callVv C FX11_tidy GX11_tidy k127 (m_X11_tidy) h (by decide) (fun _ => rfl) rfl (Nat.le_of_ble_eq_true rfl) (Nat.le_of_ble_eq_true rfl) (rest := []) (Nat.le_of_ble_eq_true rfl) rfl rfl dX11_term_74 (fun M13 h => ?_)
  refine x_aload_n C dX11_term_77 rfl 0 rfl ?_
  refine gf_0_1 C k119 dX11_term_78 ?_
  refine x_iload_n C dX11_term_81 rfl 1 rfl ?_
  refine x_iload C dX11_term_82 5 rfl ?_
  refine x_if_le C 98 dX11_term_84 (by decide) (fun c14 => ?_) (fun c14 => ?_)
  · replace h := h.1 c14
    refine x_aload_n C dX11_term_87 rfl 0 rfl ?_
    refine gf_0_9 C k131 dX11_term_88 ?_
    refine x_iload_n C dX11_term_91 rfl 2 rfl ?_
    refine x_rget C 33 (by decide) k132 (Nat.le_of_ble_eq_true rfl) (Nat.le_of_ble_eq_true rfl) dX11_term_92 ?_
    refine x_goto C 99 dX11_term_95 (by decide) ?_
    refine x_lv (lv' := [(0, (.ref (K 0))), (3, (iv x3)), (4, (iv x4)), (5, (iv x5))]) [0, 3, 4, 5] rfl ?_
    exact T_X11_term_99 C hret x3 x4 x5 x1 (rg M13 33 x2) M13 h
  · replace h := h.2 c14
    refine x_iconst C (n := (-1)) dX11_term_98 ?_
    refine x_lv (lv' := [(0, (.ref (K 0))), (3, (iv x3)), (4, (iv x4)), (5, (iv x5))]) [0, 3, 4, 5] rfl ?_
    exact T_X11_term_99 C hret x3 x4 x5 x1 (-1) M13 h
set_option maxHeartbeats 4000000 in
theorem T_X11_term_48 {Q : Int → g_M → Prop} (C : XC p R s m args c D d A cX11_term 7 RX11 3 zc zs) (hret : RTI p l e R s m args below meth c Qg D d K A 7 zc zs L cX11_term Q) (x1 : Int) (x2 : Int) (x3 : Int) (x4 : Int) (x5 : Int) (M : g_M) (h : F_X11_term_48 Q x1 x2 x3 x4 x5 M) : X p l e R s m args below meth c Qg D d K A 7 zc zs L M [(0, (.ref (K 0))), (1, (iv x1)), (2, (iv x2)), (3, (iv x3)), (4, (iv x4)), (5, (iv x5))] 48 [] := by
  refine x_iload C dX11_term_48 5 rfl ?_
  refine x_iconst C (n := 2) dX11_term_50 ?_
  refine x_icmp_le C 73 dX11_term_51 (by decide) (fun c10 => ?_) (fun c10 => ?_)
  · replace h := h.1 c10
    refine x_aload_n C dX11_term_54 rfl 0 rfl ?_
    refine x_iload C dX11_term_55 4 rfl ?_
    refine x_callVi C FX11_isTerm GX11_isTerm k114 (m_X11_isTerm x4) h (by decide) (fun _ => rfl) rfl (Nat.le_of_ble_eq_true rfl) (Nat.le_of_ble_eq_true rfl) (rest := []) (Nat.le_of_ble_eq_true rfl) rfl rfl dX11_term_57 (fun v11 M11 h => ?_)
    refine x_if_ne C 73 dX11_term_60 (by decide) (fun c12 => ?_) (fun c12 => ?_)
    · replace h := h.1 c12
      exact h.elim
    · replace h := h.2 c12
      exact T_X11_term_73 C hret x1 x2 x3 x4 x5 M11 h
  · replace h := h.2 c10
    exact T_X11_term_73 C hret x1 x2 x3 x4 x5 M h
set_option maxHeartbeats 4000000 in
theorem T_X11_term_34 {Q : Int → g_M → Prop} (C : XC p R s m args c D d A cX11_term 7 RX11 3 zc zs) (hret : RTI p l e R s m args below meth c Qg D d K A 7 zc zs L cX11_term Q) (x1 : Int) (x2 : Int) (x3 : Int) (x4 : Int) (x5 : Int) (M : g_M) (h : F_X11_term_34 Q x1 x2 x3 x4 x5 M) : X p l e R s m args below meth c Qg D d K A 7 zc zs L M [(0, (.ref (K 0))), (1, (iv x1)), (2, (iv x2)), (3, (iv x3)), (4, (iv x4)), (5, (iv x5))] 34 [] := by
  refine x_iload C dX11_term_34 5 rfl ?_
  refine x_iconst C (n := 1) dX11_term_36 ?_
  refine x_icmp_le C 48 dX11_term_37 (by decide) (fun c7 => ?_) (fun c7 => ?_)
  · replace h := h.1 c7
    refine x_aload_n C dX11_term_40 rfl 0 rfl ?_
    refine x_iload_n C dX11_term_41 rfl 3 rfl ?_
    refine x_callVi C FX11_isTerm GX11_isTerm k114 (m_X11_isTerm x3) h (by decide) (fun _ => rfl) rfl (Nat.le_of_ble_eq_true rfl) (Nat.le_of_ble_eq_true rfl) (rest := []) (Nat.le_of_ble_eq_true rfl) rfl rfl dX11_term_42 (fun v8 M8 h => ?_)
    refine x_if_eq C 63 dX11_term_45 (by decide) (fun c9 => ?_) (fun c9 => ?_)
    · replace h := h.1 c9
      exact h.elim
    · replace h := h.2 c9
      exact T_X11_term_48 C hret x1 x2 x3 x4 x5 M8 h
  · replace h := h.2 c7
    exact T_X11_term_48 C hret x1 x2 x3 x4 x5 M h
set_option maxHeartbeats 4000000 in
theorem m_X11_term (a1 : Int) (a2 : Int) (a3 : Int) (a4 : Int) : MI l D d K yX11_term cX11_term 7 (some .int) 3 [(.ref (K 0)), (iv a1), (iv a2), (iv a3), (iv a4)] (fun Q M => F_X11_term Q a1 a2 a3 a4 M) := by
  refine s_mi pn_X11 (Nat.le_of_ble_eq_true rfl) [(0, (.ref (K 0))), (1, (iv a1)), (2, (iv a2)), (3, (iv a3)), (4, (iv a4))] rfl rfl (fun p e R s m args below meth c A L M zc zs Q Qg C hret h => ?_)
  refine x_aload_n C dX11_term_0 rfl 0 rfl ?_
  refine gf_0_0 C k57 dX11_term_1 ?_
  refine x_iload_n C dX11_term_4 rfl 1 rfl ?_
  refine x_callVi C FX7_arity GX7_arity k109 (m_X7_arity a1) h (by decide) (fun _ => rfl) rfl (Nat.le_of_ble_eq_true rfl) (Nat.le_of_ble_eq_true rfl) (rest := []) (Nat.le_of_ble_eq_true rfl) rfl rfl dX11_term_5 (fun v1 M1 h => ?_)
  refine x_istore C dX11_term_8 (by decide) [(5, (iv v1)), (0, (.ref (K 0))), (1, (iv a1)), (2, (iv a2)), (3, (iv a3)), (4, (iv a4))] rfl ?_
  refine x_aload_n C dX11_term_10 rfl 1 rfl ?_
  refine gf_0_0 C k57 dX11_term_11 ?_
  refine x_iload_n C dX11_term_14 rfl 2 rfl ?_
  refine x_callVi C FX7_has GX7_has k88 (m_X7_has a1) h (by decide) (fun _ => rfl) rfl (Nat.le_of_ble_eq_true rfl) (Nat.le_of_ble_eq_true rfl) (rest := []) (Nat.le_of_ble_eq_true rfl) rfl rfl dX11_term_15 (fun v2 M2 h => ?_)
  refine x_if_eq C 63 dX11_term_18 (by decide) (fun c3 => ?_) (fun c3 => ?_)
  · replace h := h.1 c3
    exact h.elim
  · replace h := h.2 c3
    refine x_iload C dX11_term_21 0 rfl ?_
    refine x_if_le C 34 dX11_term_23 (by decide) (fun c4 => ?_) (fun c4 => ?_)
    · replace h := h.1 c4
      refine x_aload_n C dX11_term_26 rfl 1 rfl ?_
      refine x_iload_n C dX11_term_27 rfl 3 rfl ?_
      refine x_callVi C FX11_isTerm GX11_isTerm k114 (m_X11_isTerm a2) h (by decide) (fun _ => rfl) rfl (Nat.le_of_ble_eq_true rfl) (Nat.le_of_ble_eq_true rfl) (rest := []) (Nat.le_of_ble_eq_true rfl) rfl rfl dX11_term_28 (fun v5 M5 h => ?_)
      refine x_if_eq C 63 dX11_term_31 (by decide) (fun c6 => ?_) (fun c6 => ?_)
      · replace h := h.1 c6
        exact h.elim
      · replace h := h.2 c6
        refine x_lv (lv' := [(0, (.ref (K 0))), (1, (iv a1)), (2, (iv a2)), (3, (iv a3)), (4, (iv a4)), (5, (iv v1))]) [1, 2, 3, 4, 5, 0] rfl ?_
        exact T_X11_term_34 C hret a1 a2 a3 a4 v1 M5 h
    · replace h := h.2 c4
      refine x_lv (lv' := [(0, (.ref (K 0))), (1, (iv a1)), (2, (iv a2)), (3, (iv a3)), (4, (iv a4)), (5, (iv v1))]) [1, 2, 3, 4, 5, 0] rfl ?_
      exact T_X11_term_34 C hret a1 a2 a3 a4 v1 M2 h
end XW
