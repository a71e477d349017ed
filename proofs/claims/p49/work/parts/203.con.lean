section XW
variable {p : Program} {l : Launch} {e : Env} {R : Room} {s : State} {m : MethodId} {args : Array Value} {below : List Frame} {meth : Method} {c : Code} {Qg : State → Prop} {D : va_G} {d : Nat → ClassId} {K : Nat → Nat} {A : Nat → Prop} {zc zs : Int} {L : va_W}
set_option maxHeartbeats 4000000 in
theorem T_X2_takeLeast_151 {Q : Int → g_M → Prop} (C : XC p R s m args c D d A cX2_takeLeast 6 RX2 2 zc zs) (hret : RTI p l e R s m args below meth c Qg D d K A 6 zc zs L cX2_takeLeast Q) (x1 : Int) (x2 : Int) (x3 : Int) (M : g_M) (h : F_X2_takeLeast_151 Q x1 x2 x3 M) : X p l e R s m args below meth c Qg D d K A 6 zc zs L M [(0, (.ref (K 4))), (1, (iv x1)), (2, (iv x2)), (3, (iv x3))] 151 [] := by
  refine x_aload_n C dX2_takeLeast_151 rfl 0 rfl ?_
  refine gf_4_10 C k323 dX2_takeLeast_152 ?_
  refine x_iload_n C dX2_takeLeast_155 rfl 3 rfl ?_
  refine x_iload_n C dX2_takeLeast_156 rfl 2 rfl ?_
  refine x_rset C 19 (by decide) h.1 k272 (Nat.le_of_ble_eq_true rfl) (Nat.le_of_ble_eq_true rfl) dX2_takeLeast_157 ?_
  replace h := h.2
  refine x_iload_n C dX2_takeLeast_160 rfl 1 rfl ?_
  exact hret _ _ _ _ dX2_takeLeast_161 h
set_option maxHeartbeats 4000000 in
theorem T_X2_takeLeast_105 {Q : Int → g_M → Prop} (C : XC p R s m args c D d A cX2_takeLeast 6 RX2 2 zc zs) (hret : RTI p l e R s m args below meth c Qg D d K A 6 zc zs L cX2_takeLeast Q) {k36 : Int → Int → Int → Int → g_M → Prop} (hk36 : ∀ (x1 : Int) (x2 : Int) (x3 : Int) (x4 : Int) (M : g_M), k36 x1 x2 x3 x4 M → X p l e R s m args below meth c Qg D d K A 6 zc zs L M [(0, (.ref (K 4))), (1, (iv x1)), (2, (iv x2)), (3, (iv x3)), (4, (iv x4))] 36 []) (x1 : Int) (x2 : Int) (x3 : Int) (x4 : Int) (x5 : Int) (M : g_M) (h : F_X2_takeLeast_105 Q k36 x1 x2 x3 x4 x5 M) : X p l e R s m args below meth c Qg D d K A 6 zc zs L M [(0, (.ref (K 4))), (1, (iv x1)), (2, (iv x2)), (3, (iv x3)), (4, (iv x4)), (5, (iv x5))] 105 [] := by
  refine x_aload_n C dX2_takeLeast_105 rfl 0 rfl ?_
  refine x_aload_n C dX2_takeLeast_106 rfl 0 rfl ?_
  refine gf_4_10 C k323 dX2_takeLeast_107 ?_
  refine x_iload C dX2_takeLeast_110 5 rfl ?_
  refine x_rget C 19 (by decide) k279 (Nat.le_of_ble_eq_true rfl) (Nat.le_of_ble_eq_true rfl) dX2_takeLeast_112 ?_
  refine x_iload_n C dX2_takeLeast_115 rfl 2 rfl ?_
  refine x_callVi C FX2_isBefore GX2_isBefore k327 (m_X2_isBefore (rg M 19 x5) x2) h (by decide) (fun _ => rfl) rfl (Nat.le_of_ble_eq_true rfl) (Nat.le_of_ble_eq_true rfl) (rest := []) (Nat.le_of_ble_eq_true rfl) rfl rfl dX2_takeLeast_116 (fun v6 M6 h => ?_)
  refine x_if_ne C 125 dX2_takeLeast_119 (by decide) (fun c7 => ?_) (fun c7 => ?_)
  · replace h := h.1 c7
    refine x_goto C 151 dX2_takeLeast_122 (by decide) ?_
    refine x_lv (lv' := [(0, (.ref (K 4))), (1, (iv x1)), (2, (iv x2)), (3, (iv x3))]) [0, 1, 2, 3] rfl ?_
    exact T_X2_takeLeast_151 C hret x1 x2 x3 M6 h
  · replace h := h.2 c7
    refine x_aload_n C dX2_takeLeast_125 rfl 0 rfl ?_
    refine gf_4_10 C k323 dX2_takeLeast_126 ?_
    refine x_iload_n C dX2_takeLeast_129 rfl 3 rfl ?_
    refine x_aload_n C dX2_takeLeast_130 rfl 0 rfl ?_
    refine gf_4_10 C k323 dX2_takeLeast_131 ?_
    refine x_iload C dX2_takeLeast_134 5 rfl ?_
    refine x_rget C 19 (by decide) k279 (Nat.le_of_ble_eq_true rfl) (Nat.le_of_ble_eq_true rfl) dX2_takeLeast_136 ?_
    refine x_rset C 19 (by decide) h.1 k272 (Nat.le_of_ble_eq_true rfl) (Nat.le_of_ble_eq_true rfl) dX2_takeLeast_139 ?_
    replace h := h.2
    refine x_iload C dX2_takeLeast_142 5 rfl ?_
    refine x_istore_n C dX2_takeLeast_144 rfl (by decide) [(3, (iv x5)), (0, (.ref (K 4))), (1, (iv x1)), (2, (iv x2)), (4, (iv x4)), (5, (iv x5))] rfl ?_
    refine x_iinc C dX2_takeLeast_145 4 rfl (by decide) [(4, (iv (x4 + 1))), (3, (iv x5)), (0, (.ref (K 4))), (1, (iv x1)), (2, (iv x2)), (5, (iv x5))] rfl ?_
    refine x_goto C 36 dX2_takeLeast_148 (by decide) ?_
    refine x_lv (lv' := [(0, (.ref (K 4))), (1, (iv x1)), (2, (iv x2)), (3, (iv x5)), (4, (iv (x4 + 1)))]) [2, 3, 4, 1, 0] rfl ?_
    exact hk36 x1 x2 x5 (x4 + 1) (rs M6 19 x3 (rg M6 19 x5)) h
set_option maxHeartbeats 4000000 in
theorem T_X2_takeLeast_36 {Q : Int → g_M → Prop} (C : XC p R s m args c D d A cX2_takeLeast 6 RX2 2 zc zs) (hret : RTI p l e R s m args below meth c Qg D d K A 6 zc zs L cX2_takeLeast Q) : ∀ (n : Nat) (x1 : Int) (x2 : Int) (x3 : Int) (x4 : Int) (M : g_M), F_X2_takeLeast_36 Q n x1 x2 x3 x4 M → X p l e R s m args below meth c Qg D d K A 6 zc zs L M [(0, (.ref (K 4))), (1, (iv x1)), (2, (iv x2)), (3, (iv x3)), (4, (iv x4))] 36 [] := by
  intro n
  induction n with
  | zero =>
    intro x1 x2 x3 x4 M h
    exact h.elim
  | succ n ih =>
    intro x1 x2 x3 x4 M h
    replace h : ((bm x4 < bm (M 44 17) → (((bm ((2 * x3) + 1) < bm (M 44 17) → (((bm (((2 * x3) + 1) + 1) < bm (M 44 17) → (F_X2_isBefore (fun v4 M4 => ((bm v4 = 0 → (F_X2_takeLeast_105 Q (F_X2_takeLeast_36 Q n) x1 x2 x3 x4 ((2 * x3) + 1) M4)) ∧ (¬ bm v4 = 0 → (F_X2_takeLeast_105 Q (F_X2_takeLeast_36 Q n) x1 x2 x3 x4 (((2 * x3) + 1) + 1) M4)))) (rg M 19 (((2 * x3) + 1) + 1)) (rg M 19 ((2 * x3) + 1)) M)) ∧ (¬ bm (((2 * x3) + 1) + 1) < bm (M 44 17) → (F_X2_takeLeast_105 Q (F_X2_takeLeast_36 Q n) x1 x2 x3 x4 ((2 * x3) + 1) M))))) ∧ (¬ bm ((2 * x3) + 1) < bm (M 44 17) → (F_X2_takeLeast_151 Q x1 x2 x3 M))))) ∧ (¬ bm x4 < bm (M 44 17) → (F_X2_takeLeast_151 Q x1 x2 x3 M))) := h
    refine x_iload C dX2_takeLeast_36 4 rfl ?_
    refine x_aload_n C dX2_takeLeast_38 rfl 0 rfl ?_
    refine gf_4_17 C k303 dX2_takeLeast_39 ?_
    refine x_icmp_ge C 151 dX2_takeLeast_42 (by decide) (fun c1 => ?_) (fun c1 => ?_)
    · replace h := h.1 c1
      refine x_iconst C (n := 2) dX2_takeLeast_45 ?_
      refine x_iload_n C dX2_takeLeast_46 rfl 3 rfl ?_
      refine x_imul C dX2_takeLeast_47 ?_
      refine x_iconst C (n := 1) dX2_takeLeast_48 ?_
      refine x_iadd C dX2_takeLeast_49 ?_
      refine x_istore C dX2_takeLeast_50 (by decide) [(5, (iv ((2 * x3) + 1))), (0, (.ref (K 4))), (1, (iv x1)), (2, (iv x2)), (3, (iv x3)), (4, (iv x4))] rfl ?_
      refine x_iload C dX2_takeLeast_52 0 rfl ?_
      refine x_aload_n C dX2_takeLeast_54 rfl 1 rfl ?_
      refine gf_4_17 C k303 dX2_takeLeast_55 ?_
      refine x_icmp_lt C 64 dX2_takeLeast_58 (by decide) (fun c2 => ?_) (fun c2 => ?_)
      · replace h := h.1 c2
        refine x_iload C dX2_takeLeast_64 0 rfl ?_
        refine x_iconst C (n := 1) dX2_takeLeast_66 ?_
        refine x_iadd C dX2_takeLeast_67 ?_
        refine x_aload_n C dX2_takeLeast_68 rfl 1 rfl ?_
        refine gf_4_17 C k303 dX2_takeLeast_69 ?_
        refine x_icmp_ge C 105 dX2_takeLeast_72 (by decide) (fun c3 => ?_) (fun c3 => ?_)
        · replace h := h.1 c3
          refine x_aload_n C dX2_takeLeast_75 rfl 1 rfl ?_
          refine x_aload_n C dX2_takeLeast_76 rfl 1 rfl ?_
          refine gf_4_10 C k323 dX2_takeLeast_77 ?_
          refine x_iload C dX2_takeLeast_80 0 rfl ?_
          refine x_iconst C (n := 1) dX2_takeLeast_82 ?_
          refine x_iadd C dX2_takeLeast_83 ?_
          refine x_rget C 19 (by decide) k279 (Nat.le_of_ble_eq_true rfl) (Nat.le_of_ble_eq_true rfl) dX2_takeLeast_84 ?_
          refine x_aload_n C dX2_takeLeast_87 rfl 1 rfl ?_
          refine gf_4_10 C k323 dX2_takeLeast_88 ?_
          refine x_iload C dX2_takeLeast_91 0 rfl ?_
          refine x_rget C 19 (by decide) k279 (Nat.le_of_ble_eq_true rfl) (Nat.le_of_ble_eq_true rfl) dX2_takeLeast_93 ?_
          refine x_callVi C FX2_isBefore GX2_isBefore k327 (m_X2_isBefore (rg M 19 (((2 * x3) + 1) + 1)) (rg M 19 ((2 * x3) + 1))) h (by decide) (fun _ => rfl) rfl (Nat.le_of_ble_eq_true rfl) (Nat.le_of_ble_eq_true rfl) (rest := []) (Nat.le_of_ble_eq_true rfl) rfl rfl dX2_takeLeast_96 (fun v4 M4 h => ?_)
          refine x_if_eq C 105 dX2_takeLeast_99 (by decide) (fun c5 => ?_) (fun c5 => ?_)
          · replace h := h.1 c5
            refine x_lv (lv' := [(0, (.ref (K 4))), (1, (iv x1)), (2, (iv x2)), (3, (iv x3)), (4, (iv x4)), (5, (iv ((2 * x3) + 1)))]) [1, 2, 3, 4, 5, 0] rfl ?_
            exact T_X2_takeLeast_105 C hret ih x1 x2 x3 x4 ((2 * x3) + 1) M4 h
          · replace h := h.2 c5
            refine x_iinc C dX2_takeLeast_102 0 rfl (by decide) [(5, (iv (((2 * x3) + 1) + 1))), (0, (.ref (K 4))), (1, (iv x1)), (2, (iv x2)), (3, (iv x3)), (4, (iv x4))] rfl ?_
            refine x_lv (lv' := [(0, (.ref (K 4))), (1, (iv x1)), (2, (iv x2)), (3, (iv x3)), (4, (iv x4)), (5, (iv (((2 * x3) + 1) + 1)))]) [1, 2, 3, 4, 5, 0] rfl ?_
            exact T_X2_takeLeast_105 C hret ih x1 x2 x3 x4 (((2 * x3) + 1) + 1) M4 h
        · replace h := h.2 c3
          refine x_lv (lv' := [(0, (.ref (K 4))), (1, (iv x1)), (2, (iv x2)), (3, (iv x3)), (4, (iv x4)), (5, (iv ((2 * x3) + 1)))]) [1, 2, 3, 4, 5, 0] rfl ?_
          exact T_X2_takeLeast_105 C hret ih x1 x2 x3 x4 ((2 * x3) + 1) M h
      · replace h := h.2 c2
        refine x_goto C 151 dX2_takeLeast_61 (by decide) ?_
        refine x_lv (lv' := [(0, (.ref (K 4))), (1, (iv x1)), (2, (iv x2)), (3, (iv x3))]) [1, 2, 3, 4] rfl ?_
        exact T_X2_takeLeast_151 C hret x1 x2 x3 M h
    · replace h := h.2 c1
      refine x_lv (lv' := [(0, (.ref (K 4))), (1, (iv x1)), (2, (iv x2)), (3, (iv x3))]) [0, 1, 2, 3] rfl ?_
      exact T_X2_takeLeast_151 C hret x1 x2 x3 M h
set_option maxHeartbeats 4000000 in
theorem m_X2_takeLeast  : MI l D d K yX2_takeLeast cX2_takeLeast 6 (some .int) 2 [(.ref (K 4))] (fun Q M => F_X2_takeLeast Q M) := by
  refine s_mi pn_X2 (Nat.le_of_ble_eq_true rfl) [(0, (.ref (K 4)))] rfl rfl (fun p e R s m args below meth c A L M zc zs Q Qg C hret h => ?_)
  refine x_aload_n C dX2_takeLeast_0 rfl 0 rfl ?_
  refine gf_4_10 C k323 dX2_takeLeast_1 ?_
  refine x_iconst C (n := 0) dX2_takeLeast_4 ?_
  refine x_rget C 19 (by decide) k279 (Nat.le_of_ble_eq_true rfl) (Nat.le_of_ble_eq_true rfl) dX2_takeLeast_5 ?_
  refine x_istore_n C dX2_takeLeast_8 rfl (by decide) [(1, (iv (rg M 19 0))), (0, (.ref (K 4)))] rfl ?_
  refine x_aload_n C dX2_takeLeast_9 rfl 1 rfl ?_
  refine x_dup C dX2_takeLeast_10 rfl ?_
  refine gf_4_17 C k303 dX2_takeLeast_11 ?_
  refine x_iconst C (n := 1) dX2_takeLeast_14 ?_
  refine x_isub C dX2_takeLeast_15 ?_
  refine pf_4_17 C k303 dX2_takeLeast_16 ?_
  refine x_aload_n C dX2_takeLeast_19 rfl 1 rfl ?_
  refine gf_4_10 C k323 dX2_takeLeast_20 ?_
  refine x_aload_n C dX2_takeLeast_23 rfl 1 rfl ?_
  refine gf_4_17 C k303 dX2_takeLeast_24 ?_
  refine x_rget C 19 (by decide) k279 (Nat.le_of_ble_eq_true rfl) (Nat.le_of_ble_eq_true rfl) dX2_takeLeast_27 ?_
  refine x_istore_n C dX2_takeLeast_30 rfl (by decide) [(2, (iv (rg (up M 44 17 ((M 44 17) - 1)) 19 ((up M 44 17 ((M 44 17) - 1)) 44 17)))), (1, (iv (rg M 19 0))), (0, (.ref (K 4)))] rfl ?_
  refine x_iconst C (n := 0) dX2_takeLeast_31 ?_
  refine x_istore_n C dX2_takeLeast_32 rfl (by decide) [(3, (iv 0)), (2, (iv (rg (up M 44 17 ((M 44 17) - 1)) 19 ((up M 44 17 ((M 44 17) - 1)) 44 17)))), (1, (iv (rg M 19 0))), (0, (.ref (K 4)))] rfl ?_
  refine x_iconst C (n := 0) dX2_takeLeast_33 ?_
  refine x_istore C dX2_takeLeast_34 (by decide) [(4, (iv 0)), (3, (iv 0)), (2, (iv (rg (up M 44 17 ((M 44 17) - 1)) 19 ((up M 44 17 ((M 44 17) - 1)) 44 17)))), (1, (iv (rg M 19 0))), (0, (.ref (K 4)))] rfl ?_
  refine x_lv (lv' := [(0, (.ref (K 4))), (1, (iv (rg M 19 0))), (2, (iv (rg (up M 44 17 ((M 44 17) - 1)) 19 ((up M 44 17 ((M 44 17) - 1)) 44 17)))), (3, (iv 0)), (4, (iv 0))]) [4, 3, 2, 1, 0] rfl ?_
  obtain ⟨n9, h⟩ := h
  exact T_X2_takeLeast_36 C hret n9 (rg M 19 0) (rg (up M 44 17 ((M 44 17) - 1)) 19 ((up M 44 17 ((M 44 17) - 1)) 44 17)) 0 0 (up M 44 17 ((M 44 17) - 1)) h
set_option maxHeartbeats 4000000 in
theorem m_X2_isReadyAfter (a1 : Int) : MI l D d K yX2_isReadyAfter cX2_isReadyAfter 3 (some .boolean) 1 [(.ref (K 4)), (iv a1)] (fun Q M => F_X2_isReadyAfter Q a1 M) := by
  refine s_mz pn_X2 (Nat.le_of_ble_eq_true rfl) [(0, (.ref (K 4))), (1, (iv a1))] rfl rfl (fun p e R s m args below meth c A L M zc zs Q Qg C hret h => ?_)
  refine x_iload_n C dX2_isReadyAfter_0 rfl 1 rfl ?_
  refine x_iconst C (n := 3) dX2_isReadyAfter_1 ?_
  refine x_idiv C dX2_isReadyAfter_2 (by decide) ?_
  refine x_istore_n C dX2_isReadyAfter_3 rfl (by decide) [(2, (iv (idiv a1 3))), (0, (.ref (K 4))), (1, (iv a1))] rfl ?_
  refine x_aload_n C dX2_isReadyAfter_4 rfl 1 rfl ?_
  refine gf_4_4 C k312 dX2_isReadyAfter_5 ?_
  refine x_iload_n C dX2_isReadyAfter_8 rfl 0 rfl ?_
  refine x_aload_n C dX2_isReadyAfter_9 rfl 1 rfl ?_
  refine gf_4_4 C k312 dX2_isReadyAfter_10 ?_
  refine x_iload_n C dX2_isReadyAfter_13 rfl 0 rfl ?_
  refine x_rget C 13 (by decide) k279 (Nat.le_of_ble_eq_true rfl) (Nat.le_of_ble_eq_true rfl) dX2_isReadyAfter_14 ?_
  refine x_iconst C (n := 1) dX2_isReadyAfter_17 ?_
  refine x_isub C dX2_isReadyAfter_18 ?_
  refine x_rset C 13 (by decide) h.1 k272 (Nat.le_of_ble_eq_true rfl) (Nat.le_of_ble_eq_true rfl) dX2_isReadyAfter_19 ?_
  replace h := h.2
  refine x_aload_n C dX2_isReadyAfter_22 rfl 1 rfl ?_
  refine gf_4_4 C k312 dX2_isReadyAfter_23 ?_
  refine x_iload_n C dX2_isReadyAfter_26 rfl 0 rfl ?_
  refine x_rget C 13 (by decide) k279 (Nat.le_of_ble_eq_true rfl) (Nat.le_of_ble_eq_true rfl) dX2_isReadyAfter_27 ?_
  refine x_if_ne C 37 dX2_isReadyAfter_30 (by decide) (fun c1 => ?_) (fun c1 => ?_)
  · replace h := h.1 c1
    refine x_iconst C (n := 1) dX2_isReadyAfter_33 ?_
    refine x_goto C 38 dX2_isReadyAfter_34 (by decide) ?_
    exact hret _ _ _ _ dX2_isReadyAfter_38 (by unfold isB; decide) h
  · replace h := h.2 c1
    refine x_iconst C (n := 0) dX2_isReadyAfter_37 ?_
    exact hret _ _ _ _ dX2_isReadyAfter_38 (by unfold isB; decide) h
set_option maxHeartbeats 4000000 in
theorem T_X2_rank_55 {Q : g_M → Prop} (C : XC p R s m args c D d A cX2_rank 7 RX2 3 zc zs) (hret : RTV p l e R s m args below meth c Qg D d K A 7 zc zs L cX2_rank Q) {k21 : Int → g_M → Prop} (hk21 : ∀ (x2 : Int) (M : g_M), k21 x2 M → X p l e R s m args below meth c Qg D d K A 7 zc zs L M [(0, (.ref (K 4))), (2, (iv x2))] 21 []) (x2 : Int) (M : g_M) (h : F_X2_rank_55 Q k21 x2 M) : X p l e R s m args below meth c Qg D d K A 7 zc zs L M [(0, (.ref (K 4))), (2, (iv x2))] 55 [] := by
  refine x_iinc C dX2_rank_55 1 rfl (by decide) [(2, (iv (x2 + 1))), (0, (.ref (K 4)))] rfl ?_
  refine x_goto C 21 dX2_rank_58 (by decide) ?_
  refine x_lv (lv' := [(0, (.ref (K 4))), (2, (iv (x2 + 1)))]) [1, 0] rfl ?_
  exact hk21 (x2 + 1) M h
set_option maxHeartbeats 4000000 in
theorem T_X2_rank_210 {Q : g_M → Prop} (C : XC p R s m args c D d A cX2_rank 7 RX2 3 zc zs) (hret : RTV p l e R s m args below meth c Qg D d K A 7 zc zs L cX2_rank Q) {k63 : Int → g_M → Prop} (hk63 : ∀ (x2 : Int) (M : g_M), k63 x2 M → X p l e R s m args below meth c Qg D d K A 7 zc zs L M [(0, (.ref (K 4))), (2, (iv x2))] 63 []) (x2 : Int) (M : g_M) (h : F_X2_rank_210 Q k63 x2 M) : X p l e R s m args below meth c Qg D d K A 7 zc zs L M [(0, (.ref (K 4))), (2, (iv x2))] 210 [] := by
  refine x_iinc C dX2_rank_210 1 rfl (by decide) [(2, (iv (x2 + 1))), (0, (.ref (K 4)))] rfl ?_
  refine x_goto C 63 dX2_rank_213 (by decide) ?_
  refine x_lv (lv' := [(0, (.ref (K 4))), (2, (iv (x2 + 1)))]) [1, 0] rfl ?_
  exact hk63 (x2 + 1) M h
set_option maxHeartbeats 4000000 in
theorem T_X2_rank_191 {Q : g_M → Prop} (C : XC p R s m args c D d A cX2_rank 7 RX2 3 zc zs) (hret : RTV p l e R s m args below meth c Qg D d K A 7 zc zs L cX2_rank Q) {k63 : Int → g_M → Prop} (hk63 : ∀ (x2 : Int) (M : g_M), k63 x2 M → X p l e R s m args below meth c Qg D d K A 7 zc zs L M [(0, (.ref (K 4))), (2, (iv x2))] 63 []) {k158 : Int → Int → Int → g_M → Prop} (hk158 : ∀ (x2 : Int) (x5 : Int) (x6 : Int) (M : g_M), k158 x2 x5 x6 M → X p l e R s m args below meth c Qg D d K A 7 zc zs L M [(0, (.ref (K 4))), (2, (iv x2)), (5, (iv x5)), (6, (iv x6))] 158 []) (x2 : Int) (x5 : Int) (x6 : Int) (M : g_M) (h : F_X2_rank_191 Q k63 k158 x2 x5 x6 M) : X p l e R s m args below meth c Qg D d K A 7 zc zs L M [(0, (.ref (K 4))), (2, (iv x2)), (5, (iv x5)), (6, (iv x6))] 191 [] := by
  refine x_aload_n C dX2_rank_191 rfl 0 rfl ?_
  refine gf_4_6 C k307 dX2_rank_192 ?_
  refine x_iload C dX2_rank_195 2 rfl ?_
  refine x_rget C 15 (by decide) k279 (Nat.le_of_ble_eq_true rfl) (Nat.le_of_ble_eq_true rfl) dX2_rank_197 ?_
  refine x_iconst C (n := 1) dX2_rank_200 ?_
  refine x_isub C dX2_rank_201 ?_
  refine x_istore C dX2_rank_202 (by decide) [(5, (iv ((rg M 15 x5) - 1))), (0, (.ref (K 4))), (2, (iv x2)), (6, (iv x6))] rfl ?_
  refine x_iinc C dX2_rank_204 3 rfl (by decide) [(6, (iv (x6 + 1))), (5, (iv ((rg M 15 x5) - 1))), (0, (.ref (K 4))), (2, (iv x2))] rfl ?_
  refine x_goto C 158 dX2_rank_207 (by decide) ?_
  refine x_lv (lv' := [(0, (.ref (K 4))), (2, (iv x2)), (5, (iv ((rg M 15 x5) - 1))), (6, (iv (x6 + 1)))]) [2, 3, 1, 0] rfl ?_
  exact hk158 x2 ((rg M 15 x5) - 1) (x6 + 1) M h
set_option maxHeartbeats 4000000 in
theorem T_X2_rank_158 {Q : g_M → Prop} (C : XC p R s m args c D d A cX2_rank 7 RX2 3 zc zs) (hret : RTV p l e R s m args below meth c Qg D d K A 7 zc zs L cX2_rank Q) {k63 : Int → g_M → Prop} (hk63 : ∀ (x2 : Int) (M : g_M), k63 x2 M → X p l e R s m args below meth c Qg D d K A 7 zc zs L M [(0, (.ref (K 4))), (2, (iv x2))] 63 []) : ∀ (n : Nat) (x2 : Int) (x5 : Int) (x6 : Int) (M : g_M), F_X2_rank_158 Q k63 n x2 x5 x6 M → X p l e R s m args below meth c Qg D d K A 7 zc zs L M [(0, (.ref (K 4))), (2, (iv x2)), (5, (iv x5)), (6, (iv x6))] 158 [] := by
  intro n
  induction n with
  | zero =>
    intro x2 x5 x6 M h
    exact h.elim
  | succ n ih =>
    intro x2 x5 x6 M h
    replace h : ((bm x5 < 0 → (F_X2_rank_210 Q k63 x2 M)) ∧ (¬ bm x5 < 0 → (((bm x6 < bm (3 * (M 44 16)) → (F_X2_isReadyAfter (fun v13 M13 => ((bm v13 = 0 → (F_X2_rank_191 Q k63 (F_X2_rank_158 Q k63 n) x2 x5 x6 M13)) ∧ (¬ bm v13 = 0 → (F_X2_enter (fun M15 => F_X2_rank_191 Q k63 (F_X2_rank_158 Q k63 n) x2 x5 x6 M15) (idiv x5 3) M13)))) x5 M)) ∧ (¬ bm x6 < bm (3 * (M 44 16)) → (F_X2_rank_210 Q k63 x2 M)))))) := h
    refine x_iload C dX2_rank_158 2 rfl ?_
    refine x_if_lt C 210 dX2_rank_160 (by decide) (fun c11 => ?_) (fun c11 => ?_)
    · replace h := h.1 c11
      refine x_lv (lv' := [(0, (.ref (K 4))), (2, (iv x2))]) [0, 1] rfl ?_
      exact T_X2_rank_210 C hret hk63 x2 M h
    · replace h := h.2 c11
      refine x_iload C dX2_rank_163 3 rfl ?_
      refine x_iconst C (n := 3) dX2_rank_165 ?_
      refine x_aload_n C dX2_rank_166 rfl 0 rfl ?_
      refine gf_4_16 C k257 dX2_rank_167 ?_
      refine x_imul C dX2_rank_170 ?_
      refine x_icmp_ge C 210 dX2_rank_171 (by decide) (fun c12 => ?_) (fun c12 => ?_)
      · replace h := h.1 c12
        refine x_aload_n C dX2_rank_174 rfl 0 rfl ?_
        refine x_iload C dX2_rank_175 2 rfl ?_
        refine x_callVi C FX2_isReadyAfter GX2_isReadyAfter k340 (m_X2_isReadyAfter x5) h (by decide) (fun _ => rfl) rfl (Nat.le_of_ble_eq_true rfl) (Nat.le_of_ble_eq_true rfl) (rest := []) (Nat.le_of_ble_eq_true rfl) rfl rfl dX2_rank_177 (fun v13 M13 h => ?_)
        refine x_if_eq C 191 dX2_rank_180 (by decide) (fun c14 => ?_) (fun c14 => ?_)
        · replace h := h.1 c14
          exact T_X2_rank_191 C hret hk63 ih x2 x5 x6 M13 h
        · replace h := h.2 c14
          refine x_aload_n C dX2_rank_183 rfl 0 rfl ?_
          refine x_iload C dX2_rank_184 2 rfl ?_
          refine x_iconst C (n := 3) dX2_rank_186 ?_
          refine x_idiv C dX2_rank_187 (by decide) ?_
          refine x_callVv C FX2_enter GX2_enter k331 (m_X2_enter (idiv x5 3)) h (by decide) (fun _ => rfl) rfl (Nat.le_of_ble_eq_true rfl) (Nat.le_of_ble_eq_true rfl) (rest := []) (Nat.le_of_ble_eq_true rfl) rfl rfl dX2_rank_188 (fun M15 h => ?_)
          exact T_X2_rank_191 C hret hk63 ih x2 x5 x6 M15 h
      · replace h := h.2 c12
        refine x_lv (lv' := [(0, (.ref (K 4))), (2, (iv x2))]) [0, 1] rfl ?_
        exact T_X2_rank_210 C hret hk63 x2 M h
set_option maxHeartbeats 4000000 in
theorem T_X2_rank_63 {Q : g_M → Prop} (C : XC p R s m args c D d A cX2_rank 7 RX2 3 zc zs) (hret : RTV p l e R s m args below meth c Qg D d K A 7 zc zs L cX2_rank Q) : ∀ (n : Nat) (x2 : Int) (M : g_M), F_X2_rank_63 Q n x2 M → X p l e R s m args below meth c Qg D d K A 7 zc zs L M [(0, (.ref (K 4))), (2, (iv x2))] 63 [] := by
  intro n
  induction n with
  | zero =>
    intro x2 M h
    exact h.elim
  | succ n ih =>
    intro x2 M h
    replace h : ((bm x2 < bm (M 44 16) → (((0 < bm (M 44 17) → (F_X2_takeLeast (fun v9 M9 => (okI 22 x2 ∧ ((bm (rg (up (rs M9 22 x2 v9) 44 18 (x2 + 1)) 20 (rg M9 10 v9)) = bm (-1) → ((okI 20 (rg M9 10 v9) ∧ (okI 21 (rg M9 10 v9) ∧ ∃ n9, F_X2_rank_158 Q (F_X2_rank_63 Q n) n9 x2 ((rg (rs (rs (up (rs M9 22 x2 v9) 44 18 (x2 + 1)) 20 (rg M9 10 v9) v9) 21 (rg M9 10 v9) x2) 14 (rg M9 10 v9)) - 1) 0 (rs (rs (up (rs M9 22 x2 v9) 44 18 (x2 + 1)) 20 (rg M9 10 v9) v9) 21 (rg M9 10 v9) x2))))) ∧ (¬ bm (rg (up (rs M9 22 x2 v9) 44 18 (x2 + 1)) 20 (rg M9 10 v9)) = bm (-1) → (F_X2_rank_210 Q (F_X2_rank_63 Q n) x2 (up (rs M9 22 x2 v9) 44 18 (x2 + 1))))))) M)) ∧ (¬ 0 < bm (M 44 17) → (Q M))))) ∧ (¬ bm x2 < bm (M 44 16) → (Q M))) := h
    refine x_iload_n C dX2_rank_63 rfl 1 rfl ?_
    refine x_aload_n C dX2_rank_64 rfl 0 rfl ?_
    refine gf_4_16 C k257 dX2_rank_65 ?_
    refine x_icmp_ge C 216 dX2_rank_68 (by decide) (fun c7 => ?_) (fun c7 => ?_)
    · replace h := h.1 c7
      refine x_aload_n C dX2_rank_71 rfl 0 rfl ?_
      refine gf_4_17 C k303 dX2_rank_72 ?_
      refine x_if_le C 216 dX2_rank_75 (by decide) (fun c8 => ?_) (fun c8 => ?_)
      · replace h := h.1 c8
        refine x_aload_n C dX2_rank_78 rfl 0 rfl ?_
        refine x_callVi C FX2_takeLeast GX2_takeLeast k335 (m_X2_takeLeast) h (by decide) (fun _ => rfl) rfl (Nat.le_of_ble_eq_true rfl) (Nat.le_of_ble_eq_true rfl) (rest := []) (Nat.le_of_ble_eq_true rfl) rfl rfl dX2_rank_79 (fun v9 M9 h => ?_)
        refine x_istore_n C dX2_rank_82 rfl (by decide) [(3, (iv v9)), (0, (.ref (K 4))), (2, (iv x2))] rfl ?_
        refine x_aload_n C dX2_rank_83 rfl 1 rfl ?_
        refine gf_4_1 C k271 dX2_rank_84 ?_
        refine x_iload_n C dX2_rank_87 rfl 0 rfl ?_
        refine x_rget C 10 (by decide) k279 (Nat.le_of_ble_eq_true rfl) (Nat.le_of_ble_eq_true rfl) dX2_rank_88 ?_
        refine x_istore C dX2_rank_91 (by decide) [(4, (iv (rg M9 10 v9))), (3, (iv v9)), (0, (.ref (K 4))), (2, (iv x2))] rfl ?_
        refine x_aload_n C dX2_rank_93 rfl 2 rfl ?_
        refine gf_4_13 C k339 dX2_rank_94 ?_
        refine x_iload_n C dX2_rank_97 rfl 3 rfl ?_
        refine x_iload_n C dX2_rank_98 rfl 1 rfl ?_
        refine x_rset C 22 (by decide) h.1 k272 (Nat.le_of_ble_eq_true rfl) (Nat.le_of_ble_eq_true rfl) dX2_rank_99 ?_
        replace h := h.2
        refine x_aload_n C dX2_rank_102 rfl 2 rfl ?_
        refine x_iload_n C dX2_rank_103 rfl 3 rfl ?_
        refine x_iconst C (n := 1) dX2_rank_104 ?_
        refine x_iadd C dX2_rank_105 ?_
        refine pf_4_18 C k304 dX2_rank_106 ?_
        refine x_aload_n C dX2_rank_109 rfl 2 rfl ?_
        refine gf_4_11 C k306 dX2_rank_110 ?_
        refine x_iload C dX2_rank_113 0 rfl ?_
        refine x_rget C 20 (by decide) k279 (Nat.le_of_ble_eq_true rfl) (Nat.le_of_ble_eq_true rfl) dX2_rank_115 ?_
        refine x_iconst C (n := (-1)) dX2_rank_118 ?_
        refine x_icmp_ne C 210 dX2_rank_119 (by decide) (fun c10 => ?_) (fun c10 => ?_)
        · replace h := h.1 c10
          refine x_aload_n C dX2_rank_122 rfl 2 rfl ?_
          refine gf_4_11 C k306 dX2_rank_123 ?_
          refine x_iload C dX2_rank_126 0 rfl ?_
          refine x_iload_n C dX2_rank_128 rfl 1 rfl ?_
          refine x_rset C 20 (by decide) h.1 k272 (Nat.le_of_ble_eq_true rfl) (Nat.le_of_ble_eq_true rfl) dX2_rank_129 ?_
          replace h := h.2
          refine x_aload_n C dX2_rank_132 rfl 2 rfl ?_
          refine gf_4_12 C k326 dX2_rank_133 ?_
          refine x_iload C dX2_rank_136 0 rfl ?_
          refine x_iload_n C dX2_rank_138 rfl 3 rfl ?_
          refine x_rset C 21 (by decide) h.1 k272 (Nat.le_of_ble_eq_true rfl) (Nat.le_of_ble_eq_true rfl) dX2_rank_139 ?_
          replace h := h.2
          refine x_aload_n C dX2_rank_142 rfl 2 rfl ?_
          refine gf_4_5 C k305 dX2_rank_143 ?_
          refine x_iload C dX2_rank_146 0 rfl ?_
          refine x_rget C 14 (by decide) k279 (Nat.le_of_ble_eq_true rfl) (Nat.le_of_ble_eq_true rfl) dX2_rank_148 ?_
          refine x_iconst C (n := 1) dX2_rank_151 ?_
          refine x_isub C dX2_rank_152 ?_
          refine x_istore C dX2_rank_153 (by decide) [(5, (iv ((rg (rs (rs (up (rs M9 22 x2 v9) 44 18 (x2 + 1)) 20 (rg M9 10 v9) v9) 21 (rg M9 10 v9) x2) 14 (rg M9 10 v9)) - 1))), (4, (iv (rg M9 10 v9))), (3, (iv v9)), (0, (.ref (K 4))), (2, (iv x2))] rfl ?_
          refine x_iconst C (n := 0) dX2_rank_155 ?_
          refine x_istore C dX2_rank_156 (by decide) [(6, (iv 0)), (5, (iv ((rg (rs (rs (up (rs M9 22 x2 v9) 44 18 (x2 + 1)) 20 (rg M9 10 v9) v9) 21 (rg M9 10 v9) x2) 14 (rg M9 10 v9)) - 1))), (4, (iv (rg M9 10 v9))), (3, (iv v9)), (0, (.ref (K 4))), (2, (iv x2))] rfl ?_
          refine x_lv (lv' := [(0, (.ref (K 4))), (2, (iv x2)), (5, (iv ((rg (rs (rs (up (rs M9 22 x2 v9) 44 18 (x2 + 1)) 20 (rg M9 10 v9) v9) 21 (rg M9 10 v9) x2) 14 (rg M9 10 v9)) - 1))), (6, (iv 0))]) [4, 5, 1, 0] rfl ?_
          obtain ⟨n9, h⟩ := h
          exact T_X2_rank_158 C hret ih n9 x2 ((rg (rs (rs (up (rs M9 22 x2 v9) 44 18 (x2 + 1)) 20 (rg M9 10 v9) v9) 21 (rg M9 10 v9) x2) 14 (rg M9 10 v9)) - 1) 0 (rs (rs (up (rs M9 22 x2 v9) 44 18 (x2 + 1)) 20 (rg M9 10 v9) v9) 21 (rg M9 10 v9) x2) h
        · replace h := h.2 c10
          refine x_lv (lv' := [(0, (.ref (K 4))), (2, (iv x2))]) [2, 3] rfl ?_
          exact T_X2_rank_210 C hret ih x2 (up (rs M9 22 x2 v9) 44 18 (x2 + 1)) h
      · replace h := h.2 c8
        exact hret _ _ _ dX2_rank_216 h
    · replace h := h.2 c7
      exact hret _ _ _ dX2_rank_216 h
set_option maxHeartbeats 4000000 in
theorem T_X2_rank_21 {Q : g_M → Prop} (C : XC p R s m args c D d A cX2_rank 7 RX2 3 zc zs) (hret : RTV p l e R s m args below meth c Qg D d K A 7 zc zs L cX2_rank Q) : ∀ (n : Nat) (x2 : Int) (M : g_M), F_X2_rank_21 Q n x2 M → X p l e R s m args below meth c Qg D d K A 7 zc zs L M [(0, (.ref (K 4))), (2, (iv x2))] 21 [] := by
  intro n
  induction n with
  | zero =>
    intro x2 M h
    exact h.elim
  | succ n ih =>
    intro x2 M h
    replace h : ((bm x2 < bm (M 44 16) → (F_X2_arity (fun v3 M3 => (okI 13 x2 ∧ F_X2_arity (fun v4 M4 => ((bm v4 = 0 → (F_X2_enter (fun M6 => F_X2_rank_55 Q (F_X2_rank_21 Q n) x2 M6) x2 M4)) ∧ (¬ bm v4 = 0 → (F_X2_rank_55 Q (F_X2_rank_21 Q n) x2 M4)))) x2 (rs M3 13 x2 v3))) x2 M)) ∧ (¬ bm x2 < bm (M 44 16) → (∃ n9, F_X2_rank_63 Q n9 0 M))) := h
    refine x_iload_n C dX2_rank_21 rfl 1 rfl ?_
    refine x_aload_n C dX2_rank_22 rfl 0 rfl ?_
    refine gf_4_16 C k257 dX2_rank_23 ?_
    refine x_icmp_ge C 61 dX2_rank_26 (by decide) (fun c2 => ?_) (fun c2 => ?_)
    · replace h := h.1 c2
      refine x_aload_n C dX2_rank_29 rfl 0 rfl ?_
      refine gf_4_4 C k312 dX2_rank_30 ?_
      refine x_iload_n C dX2_rank_33 rfl 1 rfl ?_
      refine x_aload_n C dX2_rank_34 rfl 0 rfl ?_
      refine x_iload_n C dX2_rank_35 rfl 1 rfl ?_
      refine x_callVi C FX2_arity GX2_arity k281 (m_X2_arity x2) h (by decide) (fun _ => rfl) rfl (Nat.le_of_ble_eq_true rfl) (Nat.le_of_ble_eq_true rfl) (rest := [(iv x2), (.ref (K 49))]) (Nat.le_of_ble_eq_true rfl) rfl rfl dX2_rank_36 (fun v3 M3 h => ?_)
      refine x_rset C 13 (by decide) h.1 k272 (Nat.le_of_ble_eq_true rfl) (Nat.le_of_ble_eq_true rfl) dX2_rank_39 ?_
      replace h := h.2
      refine x_aload_n C dX2_rank_42 rfl 0 rfl ?_
      refine x_iload_n C dX2_rank_43 rfl 1 rfl ?_
      refine x_callVi C FX2_arity GX2_arity k281 (m_X2_arity x2) h (by decide) (fun _ => rfl) rfl (Nat.le_of_ble_eq_true rfl) (Nat.le_of_ble_eq_true rfl) (rest := []) (Nat.le_of_ble_eq_true rfl) rfl rfl dX2_rank_44 (fun v4 M4 h => ?_)
      refine x_if_ne C 55 dX2_rank_47 (by decide) (fun c5 => ?_) (fun c5 => ?_)
      · replace h := h.1 c5
        refine x_aload_n C dX2_rank_50 rfl 0 rfl ?_
        refine x_iload_n C dX2_rank_51 rfl 1 rfl ?_
        refine x_callVv C FX2_enter GX2_enter k331 (m_X2_enter x2) h (by decide) (fun _ => rfl) rfl (Nat.le_of_ble_eq_true rfl) (Nat.le_of_ble_eq_true rfl) (rest := []) (Nat.le_of_ble_eq_true rfl) rfl rfl dX2_rank_52 (fun M6 h => ?_)
        exact T_X2_rank_55 C hret ih x2 M6 h
      · replace h := h.2 c5
        exact T_X2_rank_55 C hret ih x2 M4 h
    · replace h := h.2 c2
      refine x_iconst C (n := 0) dX2_rank_61 ?_
      refine x_istore_n C dX2_rank_62 rfl (by decide) [(2, (iv 0)), (0, (.ref (K 4)))] rfl ?_
      refine x_lv (lv' := [(0, (.ref (K 4))), (2, (iv 0))]) [1, 0] rfl ?_
      obtain ⟨n9, h⟩ := h
      exact T_X2_rank_63 C hret n9 0 M h
set_option maxHeartbeats 4000000 in
theorem m_X2_rank (a1 : Int) : MV l D d K yX2_rank cX2_rank 7 none 3 [(.ref (K 4)), (iv a1)] (fun Q M => F_X2_rank Q a1 M) := by
  refine s_mv pn_X2 (Nat.le_of_ble_eq_true rfl) [(0, (.ref (K 4))), (1, (iv a1))] rfl rfl (fun p e R s m args below meth c A L M zc zs Q Qg C hret h => ?_)
  refine x_aload_n C dX2_rank_0 rfl 0 rfl ?_
  refine x_iload_n C dX2_rank_1 rfl 1 rfl ?_
  refine pf_4_19 C k302 dX2_rank_2 ?_
  refine x_aload_n C dX2_rank_5 rfl 0 rfl ?_
  refine x_iconst C (n := 0) dX2_rank_6 ?_
  refine pf_4_17 C k303 dX2_rank_7 ?_
  refine x_aload_n C dX2_rank_10 rfl 0 rfl ?_
  refine x_iconst C (n := 0) dX2_rank_11 ?_
  refine pf_4_18 C k304 dX2_rank_12 ?_
  refine x_aload_n C dX2_rank_15 rfl 0 rfl ?_
  refine x_callVv C FX2_linkUsers GX2_linkUsers k308 (m_X2_linkUsers) h (by decide) (fun _ => rfl) rfl (Nat.le_of_ble_eq_true rfl) (Nat.le_of_ble_eq_true rfl) (rest := []) (Nat.le_of_ble_eq_true rfl) rfl rfl dX2_rank_16 (fun M1 h => ?_)
  refine x_iconst C (n := 0) dX2_rank_19 ?_
  refine x_istore_n C dX2_rank_20 rfl (by decide) [(2, (iv 0)), (0, (.ref (K 4))), (1, (iv a1))] rfl ?_
  refine x_lv (lv' := [(0, (.ref (K 4))), (2, (iv 0))]) [1, 0] rfl ?_
  obtain ⟨n9, h⟩ := h
  exact T_X2_rank_21 C hret n9 0 M1 h
set_option maxHeartbeats 4000000 in
theorem m_X2_position (a1 : Int) : MI l D d K yX2_position cX2_position 2 (some .int) 1 [(.ref (K 4)), (iv a1)] (fun Q M => F_X2_position Q a1 M) := by
  refine s_mi pn_X2 (Nat.le_of_ble_eq_true rfl) [(0, (.ref (K 4))), (1, (iv a1))] rfl rfl (fun p e R s m args below meth c A L M zc zs Q Qg C hret h => ?_)
  refine x_aload_n C dX2_position_0 rfl 0 rfl ?_
  refine gf_4_12 C k326 dX2_position_1 ?_
  refine x_iload_n C dX2_position_4 rfl 1 rfl ?_
  refine x_rget C 21 (by decide) k279 (Nat.le_of_ble_eq_true rfl) (Nat.le_of_ble_eq_true rfl) dX2_position_5 ?_
  exact hret _ _ _ _ dX2_position_8 h
set_option maxHeartbeats 4000000 in
theorem m_X11_compare (a1 : Int) (a2 : Int) : MI l D d K yX11_compare cX11_compare 5 (some .int) 4 [(.ref (K 0)), (iv a1), (iv a2)] (fun Q M => F_X11_compare Q a1 a2 M) := by
  refine s_mi pn_X11 (Nat.le_of_ble_eq_true rfl) [(0, (.ref (K 0))), (1, (iv a1)), (2, (iv a2))] rfl rfl (fun p e R s m args below meth c A L M zc zs Q Qg C hret h => ?_)
  refine x_aload_n C dX11_compare_0 rfl 0 rfl ?_
  refine x_iload_n C dX11_compare_1 rfl 1 rfl ?_
  refine x_callVi C FX11_isTerm GX11_isTerm k114 (m_X11_isTerm a1) h (by decide) (fun _ => rfl) rfl (Nat.le_of_ble_eq_true rfl) (Nat.le_of_ble_eq_true rfl) (rest := []) (Nat.le_of_ble_eq_true rfl) rfl rfl dX11_compare_2 (fun v1 M1 h => ?_)
  refine x_if_eq C 16 dX11_compare_5 (by decide) (fun c2 => ?_) (fun c2 => ?_)
  · replace h := h.1 c2
    exact h.elim
  · replace h := h.2 c2
    refine x_aload_n C dX11_compare_8 rfl 0 rfl ?_
    refine x_iload_n C dX11_compare_9 rfl 2 rfl ?_
    refine x_callVi C FX11_isTerm GX11_isTerm k114 (m_X11_isTerm a2) h (by decide) (fun _ => rfl) rfl (Nat.le_of_ble_eq_true rfl) (Nat.le_of_ble_eq_true rfl) (rest := []) (Nat.le_of_ble_eq_true rfl) rfl rfl dX11_compare_10 (fun v3 M3 h => ?_)
    refine x_if_ne C 26 dX11_compare_13 (by decide) (fun c4 => ?_) (fun c4 => ?_)
    · replace h := h.1 c4
      exact h.elim
    · replace h := h.2 c4
      refine x_iload_n C dX11_compare_26 rfl 1 rfl ?_
      refine x_iload_n C dX11_compare_27 rfl 2 rfl ?_
      refine x_icmp_ne C 33 dX11_compare_28 (by decide) (fun c5 => ?_) (fun c5 => ?_)
      · replace h := h.1 c5
        refine x_iconst C (n := 0) dX11_compare_31 ?_
        exact hret _ _ _ _ dX11_compare_32 h
      · replace h := h.2 c5
        refine x_aload_n C dX11_compare_33 rfl 0 rfl ?_
        refine gf_0_2 C k212 dX11_compare_34 ?_
        refine x_callVv C FX10_clear GX10_clear k214 (m_X10_clear) h (by decide) (fun _ => rfl) rfl (Nat.le_of_ble_eq_true rfl) (Nat.le_of_ble_eq_true rfl) (rest := []) (Nat.le_of_ble_eq_true rfl) rfl rfl dX11_compare_37 (fun M6 h => ?_)
        refine x_aload_n C dX11_compare_40 rfl 0 rfl ?_
        refine gf_0_2 C k212 dX11_compare_41 ?_
        refine x_aload_n C dX11_compare_44 rfl 0 rfl ?_
        refine gf_0_9 C k131 dX11_compare_45 ?_
        refine x_iload_n C dX11_compare_48 rfl 1 rfl ?_
        refine x_rget C 33 (by decide) k132 (Nat.le_of_ble_eq_true rfl) (Nat.le_of_ble_eq_true rfl) dX11_compare_49 ?_
        refine x_callVv C FX10_add GX10_add k247 (m_X10_add (rg M6 33 a1)) h (by decide) (fun _ => rfl) rfl (Nat.le_of_ble_eq_true rfl) (Nat.le_of_ble_eq_true rfl) (rest := []) (Nat.le_of_ble_eq_true rfl) rfl rfl dX11_compare_52 (fun M7 h => ?_)
        refine x_aload_n C dX11_compare_55 rfl 0 rfl ?_
        refine gf_0_2 C k212 dX11_compare_56 ?_
        refine x_aload_n C dX11_compare_59 rfl 0 rfl ?_
        refine gf_0_9 C k131 dX11_compare_60 ?_
        refine x_iload_n C dX11_compare_63 rfl 2 rfl ?_
        refine x_rget C 33 (by decide) k132 (Nat.le_of_ble_eq_true rfl) (Nat.le_of_ble_eq_true rfl) dX11_compare_64 ?_
        refine x_callVv C FX10_add GX10_add k247 (m_X10_add (rg M7 33 a2)) h (by decide) (fun _ => rfl) rfl (Nat.le_of_ble_eq_true rfl) (Nat.le_of_ble_eq_true rfl) (rest := []) (Nat.le_of_ble_eq_true rfl) rfl rfl dX11_compare_67 (fun M8 h => ?_)
        refine x_aload_n C dX11_compare_70 rfl 0 rfl ?_
        refine gf_0_3 C k251 dX11_compare_71 ?_
        refine x_aload_n C dX11_compare_74 rfl 0 rfl ?_
        refine gf_0_2 C k212 dX11_compare_75 ?_
        refine x_aload_n C dX11_compare_78 rfl 0 rfl ?_
        refine gf_0_1 C k119 dX11_compare_79 ?_
        refine x_callVv C FX2_takeTerms GX2_takeTerms k294 (m_X2_takeTerms) h (by decide) (fun _ => rfl) rfl (Nat.le_of_ble_eq_true rfl) (Nat.le_of_ble_eq_true rfl) (rest := []) (Nat.le_of_ble_eq_true rfl) rfl rfl dX11_compare_82 (fun M9 h => ?_)
        refine x_aload_n C dX11_compare_85 rfl 0 rfl ?_
        refine gf_0_3 C k251 dX11_compare_86 ?_
        refine x_aload_n C dX11_compare_89 rfl 0 rfl ?_
        refine gf_0_0 C k57 dX11_compare_90 ?_
        refine x_callVi C FX7_orderMode GX7_orderMode k298 (m_X7_orderMode) h (by decide) (fun _ => rfl) rfl (Nat.le_of_ble_eq_true rfl) (Nat.le_of_ble_eq_true rfl) (rest := [(.ref (K 4))]) (Nat.le_of_ble_eq_true rfl) rfl rfl dX11_compare_93 (fun v10 M10 h => ?_)
        refine x_callVv C FX2_rank GX2_rank k344 (m_X2_rank v10) h (by decide) (fun _ => rfl) rfl (Nat.le_of_ble_eq_true rfl) (Nat.le_of_ble_eq_true rfl) (rest := []) (Nat.le_of_ble_eq_true rfl) rfl rfl dX11_compare_96 (fun M11 h => ?_)
        refine x_aload_n C dX11_compare_99 rfl 0 rfl ?_
        refine gf_0_3 C k251 dX11_compare_100 ?_
        refine x_aload_n C dX11_compare_103 rfl 0 rfl ?_
        refine gf_0_2 C k212 dX11_compare_104 ?_
        refine x_aload_n C dX11_compare_107 rfl 0 rfl ?_
        refine gf_0_9 C k131 dX11_compare_108 ?_
        refine x_iload_n C dX11_compare_111 rfl 1 rfl ?_
        refine x_rget C 33 (by decide) k132 (Nat.le_of_ble_eq_true rfl) (Nat.le_of_ble_eq_true rfl) dX11_compare_112 ?_
        refine x_callVi C FX10_indexOf GX10_indexOf k348 (m_X10_indexOf (rg M11 33 a1)) h (by decide) (fun _ => rfl) rfl (Nat.le_of_ble_eq_true rfl) (Nat.le_of_ble_eq_true rfl) (rest := [(.ref (K 4))]) (Nat.le_of_ble_eq_true rfl) rfl rfl dX11_compare_115 (fun v12 M12 h => ?_)
        refine x_callVi C FX2_position GX2_position k349 (m_X2_position v12) h (by decide) (fun _ => rfl) rfl (Nat.le_of_ble_eq_true rfl) (Nat.le_of_ble_eq_true rfl) (rest := []) (Nat.le_of_ble_eq_true rfl) rfl rfl dX11_compare_118 (fun v13 M13 h => ?_)
        refine x_istore_n C dX11_compare_121 rfl (by decide) [(3, (iv v13)), (0, (.ref (K 0))), (1, (iv a1)), (2, (iv a2))] rfl ?_
        refine x_aload_n C dX11_compare_122 rfl 1 rfl ?_
        refine gf_0_3 C k251 dX11_compare_123 ?_
        refine x_aload_n C dX11_compare_126 rfl 1 rfl ?_
        refine gf_0_2 C k212 dX11_compare_127 ?_
        refine x_aload_n C dX11_compare_130 rfl 1 rfl ?_
        refine gf_0_9 C k131 dX11_compare_131 ?_
        refine x_iload_n C dX11_compare_134 rfl 3 rfl ?_
        refine x_rget C 33 (by decide) k132 (Nat.le_of_ble_eq_true rfl) (Nat.le_of_ble_eq_true rfl) dX11_compare_135 ?_
        refine x_callVi C FX10_indexOf GX10_indexOf k348 (m_X10_indexOf (rg M13 33 a2)) h (by decide) (fun _ => rfl) rfl (Nat.le_of_ble_eq_true rfl) (Nat.le_of_ble_eq_true rfl) (rest := [(.ref (K 4))]) (Nat.le_of_ble_eq_true rfl) rfl rfl dX11_compare_138 (fun v14 M14 h => ?_)
        refine x_callVi C FX2_position GX2_position k349 (m_X2_position v14) h (by decide) (fun _ => rfl) rfl (Nat.le_of_ble_eq_true rfl) (Nat.le_of_ble_eq_true rfl) (rest := []) (Nat.le_of_ble_eq_true rfl) rfl rfl dX11_compare_141 (fun v15 M15 h => ?_)
        refine x_istore C dX11_compare_144 (by decide) [(4, (iv v15)), (3, (iv v13)), (0, (.ref (K 0))), (1, (iv a1)), (2, (iv a2))] rfl ?_
        refine x_iload_n C dX11_compare_146 rfl 1 rfl ?_
        refine x_iload C dX11_compare_147 0 rfl ?_
        refine x_icmp_le C 156 dX11_compare_149 (by decide) (fun c16 => ?_) (fun c16 => ?_)
        · replace h := h.1 c16
          refine x_iconst C (n := 1) dX11_compare_152 ?_
          refine x_goto C 157 dX11_compare_153 (by decide) ?_
          exact hret _ _ _ _ dX11_compare_157 h
        · replace h := h.2 c16
          refine x_iconst C (n := (-1)) dX11_compare_156 ?_
          exact hret _ _ _ _ dX11_compare_157 h
set_option maxHeartbeats 4000000 in
theorem m_X8_isGround (a1 : Int) : MI l D d K yX8_isGround cX8_isGround 2 (some .boolean) 1 [(.ref (K 2)), (iv a1)] (fun Q M => F_X8_isGround Q a1 M) := by
  refine s_mz pn_X8 (Nat.le_of_ble_eq_true rfl) [(0, (.ref (K 2))), (1, (iv a1))] rfl rfl (fun p e R s m args below meth c A L M zc zs Q Qg C hret h => ?_)
  refine x_aload_n C dX8_isGround_0 rfl 0 rfl ?_
  refine gf_2_3 C k160 dX8_isGround_1 ?_
  refine x_iload_n C dX8_isGround_4 rfl 1 rfl ?_
  refine x_rget C 2 (by decide) k144 (Nat.le_of_ble_eq_true rfl) (Nat.le_of_ble_eq_true rfl) dX8_isGround_5 ?_
  refine x_iconst C (n := 1) dX8_isGround_8 ?_
  refine x_iand C dX8_isGround_9 ?_
  refine x_if_ne C 17 dX8_isGround_10 (by decide) (fun c1 => ?_) (fun c1 => ?_)
  · replace h := h.1 c1
    refine x_iconst C (n := 1) dX8_isGround_13 ?_
    refine x_goto C 18 dX8_isGround_14 (by decide) ?_
    exact hret _ _ _ _ dX8_isGround_18 (by unfold isB; decide) h
  · replace h := h.2 c1
    refine x_iconst C (n := 0) dX8_isGround_17 ?_
    exact hret _ _ _ _ dX8_isGround_18 (by unfold isB; decide) h
set_option maxHeartbeats 4000000 in
theorem m_X9_addEquation (a1 : Int) (a2 : Int) : MV l D d K yX9_addEquation cX9_addEquation 3 none 0 [(.ref (K 5)), (iv a1), (iv a2)] (fun Q M => F_X9_addEquation Q a1 a2 M) := by
  refine s_mv pn_X9 (Nat.le_of_ble_eq_true rfl) [(0, (.ref (K 5))), (1, (iv a1)), (2, (iv a2))] rfl rfl (fun p e R s m args below meth c A L M zc zs Q Qg C hret h => ?_)
  refine x_aload_n C dX9_addEquation_0 rfl 0 rfl ?_
  refine gf_5_7 C k359 dX9_addEquation_1 ?_
  refine x_if_lt C 46 dX9_addEquation_4 (by decide) (fun c1 => ?_) (fun c1 => ?_)
  · replace h := h.1 c1
    exact hret _ _ _ dX9_addEquation_46 h
  · replace h := h.2 c1
    refine x_aload_n C dX9_addEquation_7 rfl 0 rfl ?_
    refine gf_5_7 C k359 dX9_addEquation_8 ?_
    refine x_bipush C (n := 30) (by decide) (by decide) dX9_addEquation_11 ?_
    refine x_icmp_ge C 46 dX9_addEquation_13 (by decide) (fun c2 => ?_) (fun c2 => ?_)
    · replace h := h.1 c2
      refine x_aload_n C dX9_addEquation_16 rfl 0 rfl ?_
      refine gf_5_5 C k360 dX9_addEquation_17 ?_
      refine x_aload_n C dX9_addEquation_20 rfl 0 rfl ?_
      refine gf_5_7 C k359 dX9_addEquation_21 ?_
      refine x_iload_n C dX9_addEquation_24 rfl 1 rfl ?_
      refine x_iast C 15 30 (by decide) (fun _ _ => rfl) h.1 dX9_addEquation_25 ?_
      replace h := h.2
      refine x_aload_n C dX9_addEquation_26 rfl 0 rfl ?_
      refine gf_5_6 C k361 dX9_addEquation_27 ?_
      refine x_aload_n C dX9_addEquation_30 rfl 0 rfl ?_
      refine gf_5_7 C k359 dX9_addEquation_31 ?_
      refine x_iload_n C dX9_addEquation_34 rfl 2 rfl ?_
      refine x_iast C 16 30 (by decide) (fun _ _ => rfl) h.1 dX9_addEquation_35 ?_
      replace h := h.2
      refine x_aload_n C dX9_addEquation_36 rfl 0 rfl ?_
      refine x_dup C dX9_addEquation_37 rfl ?_
      refine gf_5_7 C k359 dX9_addEquation_38 ?_
      refine x_iconst C (n := 1) dX9_addEquation_41 ?_
      refine x_iadd C dX9_addEquation_42 ?_
      refine pf_5_7 C k359 dX9_addEquation_43 ?_
      exact hret _ _ _ dX9_addEquation_46 h
    · replace h := h.2 c2
      exact hret _ _ _ dX9_addEquation_46 h
set_option maxHeartbeats 4000000 in
theorem T_X1_start_131 {Q : g_M → Prop} (C : XC p R s m args c D d A cX1_start 3 RX1 3 zc zs) (hret : RTV p l e R s m args below meth c Qg D d K A 3 zc zs L cX1_start Q) {k8 : Int → g_M → Prop} (hk8 : ∀ (x1 : Int) (M : g_M), k8 x1 M → X p l e R s m args below meth c Qg D d K A 3 zc zs L M [(0, (.ref (K 7))), (1, (iv x1))] 8 []) (x1 : Int) (M : g_M) (h : F_X1_start_131 Q k8 x1 M) : X p l e R s m args below meth c Qg D d K A 3 zc zs L M [(0, (.ref (K 7))), (1, (iv x1))] 131 [] := by
  refine x_iinc C dX1_start_131 1 rfl (by decide) [(1, (iv (x1 + 1))), (0, (.ref (K 7)))] rfl ?_
  refine x_goto C 8 dX1_start_134 (by decide) ?_
  refine x_lv (lv' := [(0, (.ref (K 7))), (1, (iv (x1 + 1)))]) [1, 0] rfl ?_
  exact hk8 (x1 + 1) M h
set_option maxHeartbeats 4000000 in
theorem T_X1_start_71 {Q : g_M → Prop} (C : XC p R s m args c D d A cX1_start 3 RX1 3 zc zs) (hret : RTV p l e R s m args below meth c Qg D d K A 3 zc zs L cX1_start Q) {k8 : Int → g_M → Prop} (hk8 : ∀ (x1 : Int) (M : g_M), k8 x1 M → X p l e R s m args below meth c Qg D d K A 3 zc zs L M [(0, (.ref (K 7))), (1, (iv x1))] 8 []) : ∀ (n : Nat) (x1 : Int) (x2 : Int) (M : g_M), F_X1_start_71 Q k8 n x1 x2 M → X p l e R s m args below meth c Qg D d K A 3 zc zs L M [(0, (.ref (K 7))), (1, (iv x1)), (2, (iv x2))] 71 [] := by
  intro n
  induction n with
  | zero =>
    intro x1 x2 M h
    exact h.elim
  | succ n ih =>
    intro x1 x2 M h
    replace h : ((bm x2 < bm 3 → (F_X10_partOf (fun v6 M6 => (okI 29 ((3 * x1) + x2) ∧ F_X1_start_71 Q k8 n x1 (x2 + 1) (rs M6 29 ((3 * x1) + x2) v6))) x1 x2 M)) ∧ (¬ bm x2 < bm 3 → (((bm (M 47 10) < bm x1 → (((bm (M 47 10) < bm 16384 → (F_X1_start_131 Q k8 x1 (up M 47 10 ((M 47 10) * 2)))) ∧ (¬ bm (M 47 10) < bm 16384 → (F_X1_start_131 Q k8 x1 M))))) ∧ (¬ bm (M 47 10) < bm x1 → (F_X1_start_131 Q k8 x1 M)))))) := h
    refine x_iload_n C dX1_start_71 rfl 2 rfl ?_
    refine x_iconst C (n := 3) dX1_start_72 ?_
    refine x_icmp_ge C 103 dX1_start_73 (by decide) (fun c5 => ?_) (fun c5 => ?_)
    · replace h := h.1 c5
      refine x_aload_n C dX1_start_76 rfl 0 rfl ?_
      refine gf_7_7 C k382 dX1_start_77 ?_
      refine x_iconst C (n := 3) dX1_start_80 ?_
      refine x_iload_n C dX1_start_81 rfl 1 rfl ?_
      refine x_imul C dX1_start_82 ?_
      refine x_iload_n C dX1_start_83 rfl 2 rfl ?_
      refine x_iadd C dX1_start_84 ?_
      refine x_aload_n C dX1_start_85 rfl 0 rfl ?_
      refine gf_7_1 C k372 dX1_start_86 ?_
      refine x_iload_n C dX1_start_89 rfl 1 rfl ?_
      refine x_iload_n C dX1_start_90 rfl 2 rfl ?_
      refine x_callVi C FX10_partOf GX10_partOf k383 (m_X10_partOf x1 x2) h (by decide) (fun _ => rfl) rfl (Nat.le_of_ble_eq_true rfl) (Nat.le_of_ble_eq_true rfl) (rest := [(iv ((3 * x1) + x2)), (.ref (K 81))]) (Nat.le_of_ble_eq_true rfl) rfl rfl dX1_start_91 (fun v6 M6 h => ?_)
      refine x_rset C 29 (by decide) h.1 k375 (Nat.le_of_ble_eq_true rfl) (Nat.le_of_ble_eq_true rfl) dX1_start_94 ?_
      replace h := h.2
      refine x_iinc C dX1_start_97 2 rfl (by decide) [(2, (iv (x2 + 1))), (0, (.ref (K 7))), (1, (iv x1))] rfl ?_
      refine x_goto C 71 dX1_start_100 (by decide) ?_
      refine x_lv (lv' := [(0, (.ref (K 7))), (1, (iv x1)), (2, (iv (x2 + 1)))]) [1, 2, 0] rfl ?_
      exact ih x1 (x2 + 1) (rs M6 29 ((3 * x1) + x2) v6) h
    · replace h := h.2 c5
      refine x_iload_n C dX1_start_103 rfl 1 rfl ?_
      refine x_aload_n C dX1_start_104 rfl 0 rfl ?_
      refine gf_7_10 C k371 dX1_start_105 ?_
      refine x_icmp_le C 131 dX1_start_108 (by decide) (fun c7 => ?_) (fun c7 => ?_)
      · replace h := h.1 c7
        refine x_aload_n C dX1_start_111 rfl 0 rfl ?_
        refine gf_7_10 C k371 dX1_start_112 ?_
        refine x_sipush C (n := 16384) (by decide) (by decide) dX1_start_115 ?_
        refine x_icmp_ge C 131 dX1_start_118 (by decide) (fun c8 => ?_) (fun c8 => ?_)
        · replace h := h.1 c8
          refine x_aload_n C dX1_start_121 rfl 0 rfl ?_
          refine x_dup C dX1_start_122 rfl ?_
          refine gf_7_10 C k371 dX1_start_123 ?_
          refine x_iconst C (n := 2) dX1_start_126 ?_
          refine x_imul C dX1_start_127 ?_
          refine pf_7_10 C k371 dX1_start_128 ?_
          refine x_lv (lv' := [(0, (.ref (K 7))), (1, (iv x1))]) [0, 1] rfl ?_
          exact T_X1_start_131 C hret hk8 x1 (up M 47 10 ((M 47 10) * 2)) h
        · replace h := h.2 c8
          refine x_lv (lv' := [(0, (.ref (K 7))), (1, (iv x1))]) [0, 1] rfl ?_
          exact T_X1_start_131 C hret hk8 x1 M h
      · replace h := h.2 c7
        refine x_lv (lv' := [(0, (.ref (K 7))), (1, (iv x1))]) [0, 1] rfl ?_
        exact T_X1_start_131 C hret hk8 x1 M h
set_option maxHeartbeats 4000000 in
theorem T_X1_start_8 {Q : g_M → Prop} (C : XC p R s m args c D d A cX1_start 3 RX1 3 zc zs) (hret : RTV p l e R s m args below meth c Qg D d K A 3 zc zs L cX1_start Q) : ∀ (n : Nat) (x1 : Int) (M : g_M), F_X1_start_8 Q n x1 M → X p l e R s m args below meth c Qg D d K A 3 zc zs L M [(0, (.ref (K 7))), (1, (iv x1))] 8 [] := by
  intro n
  induction n with
  | zero =>
    intro x1 M h
    exact h.elim
  | succ n ih =>
    intro x1 M h
    replace h : F_X10_count (fun v1 M1 => ((bm x1 < bm v1 → ((okI 24 x1 ∧ (okI 25 x1 ∧ (okI 26 x1 ∧ F_X10_node (fun v3 M3 => F_X8_symbol (fun v4 M4 => (okI 28 x1 ∧ ∃ n9, F_X1_start_71 Q (F_X1_start_8 Q n) n9 x1 0 (rs M4 28 x1 v4))) v3 M3) x1 (rs (rs (rs M1 24 x1 x1) 25 x1 x1) 26 x1 1)))))) ∧ (¬ bm x1 < bm v1 → (Q M1)))) M := h
    refine x_iload_n C dX1_start_8 rfl 1 rfl ?_
    refine x_aload_n C dX1_start_9 rfl 0 rfl ?_
    refine gf_7_1 C k372 dX1_start_10 ?_
    refine x_callVi C FX10_count GX10_count k373 (m_X10_count) h (by decide) (fun _ => rfl) rfl (Nat.le_of_ble_eq_true rfl) (Nat.le_of_ble_eq_true rfl) (rest := [(iv x1)]) (Nat.le_of_ble_eq_true rfl) rfl rfl dX1_start_13 (fun v1 M1 h => ?_)
    refine x_icmp_ge C 137 dX1_start_16 (by decide) (fun c2 => ?_) (fun c2 => ?_)
    · replace h := h.1 c2
      refine x_aload_n C dX1_start_19 rfl 0 rfl ?_
      refine gf_7_2 C k374 dX1_start_20 ?_
      refine x_iload_n C dX1_start_23 rfl 1 rfl ?_
      refine x_iload_n C dX1_start_24 rfl 1 rfl ?_
      refine x_rset C 24 (by decide) h.1 k375 (Nat.le_of_ble_eq_true rfl) (Nat.le_of_ble_eq_true rfl) dX1_start_25 ?_
      replace h := h.2
      refine x_aload_n C dX1_start_28 rfl 0 rfl ?_
      refine gf_7_3 C k376 dX1_start_29 ?_
      refine x_iload_n C dX1_start_32 rfl 1 rfl ?_
      refine x_iload_n C dX1_start_33 rfl 1 rfl ?_
      refine x_rset C 25 (by decide) h.1 k375 (Nat.le_of_ble_eq_true rfl) (Nat.le_of_ble_eq_true rfl) dX1_start_34 ?_
      replace h := h.2
      refine x_aload_n C dX1_start_37 rfl 0 rfl ?_
      refine gf_7_4 C k377 dX1_start_38 ?_
      refine x_iload_n C dX1_start_41 rfl 1 rfl ?_
      refine x_iconst C (n := 1) dX1_start_42 ?_
      refine x_rset C 26 (by decide) h.1 k375 (Nat.le_of_ble_eq_true rfl) (Nat.le_of_ble_eq_true rfl) dX1_start_43 ?_
      replace h := h.2
      refine x_aload_n C dX1_start_46 rfl 0 rfl ?_
      refine gf_7_6 C k378 dX1_start_47 ?_
      refine x_iload_n C dX1_start_50 rfl 1 rfl ?_
      refine x_aload_n C dX1_start_51 rfl 0 rfl ?_
      refine gf_7_0 C k379 dX1_start_52 ?_
      refine x_aload_n C dX1_start_55 rfl 0 rfl ?_
      refine gf_7_1 C k372 dX1_start_56 ?_
      refine x_iload_n C dX1_start_59 rfl 1 rfl ?_
      refine x_callVi C FX10_node GX10_node k380 (m_X10_node x1) h (by decide) (fun _ => rfl) rfl (Nat.le_of_ble_eq_true rfl) (Nat.le_of_ble_eq_true rfl) (rest := [(.ref (K 2)), (iv x1), (.ref (K 79))]) (Nat.le_of_ble_eq_true rfl) rfl rfl dX1_start_60 (fun v3 M3 h => ?_)
      refine x_callVi C FX8_symbol GX8_symbol k381 (m_X8_symbol v3) h (by decide) (fun _ => rfl) rfl (Nat.le_of_ble_eq_true rfl) (Nat.le_of_ble_eq_true rfl) (rest := [(iv x1), (.ref (K 79))]) (Nat.le_of_ble_eq_true rfl) rfl rfl dX1_start_63 (fun v4 M4 h => ?_)
      refine x_rset C 28 (by decide) h.1 k375 (Nat.le_of_ble_eq_true rfl) (Nat.le_of_ble_eq_true rfl) dX1_start_66 ?_
      replace h := h.2
      refine x_iconst C (n := 0) dX1_start_69 ?_
      refine x_istore_n C dX1_start_70 rfl (by decide) [(2, (iv 0)), (0, (.ref (K 7))), (1, (iv x1))] rfl ?_
      refine x_lv (lv' := [(0, (.ref (K 7))), (1, (iv x1)), (2, (iv 0))]) [1, 2, 0] rfl ?_
      obtain ⟨n9, h⟩ := h
      exact T_X1_start_71 C hret ih n9 x1 0 (rs M4 28 x1 v4) h
    · replace h := h.2 c2
      exact hret _ _ _ dX1_start_137 h
set_option maxHeartbeats 4000000 in
theorem m_X1_start  : MV l D d K yX1_start cX1_start 3 none 3 [(.ref (K 7))] (fun Q M => F_X1_start Q M) := by
  refine s_mv pn_X1 (Nat.le_of_ble_eq_true rfl) [(0, (.ref (K 7)))] rfl rfl (fun p e R s m args below meth c A L M zc zs Q Qg C hret h => ?_)
  refine x_aload_n C dX1_start_0 rfl 0 rfl ?_
  refine x_bipush C (n := 64) (by decide) (by decide) dX1_start_1 ?_
  refine pf_7_10 C k371 dX1_start_3 ?_
  refine x_iconst C (n := 0) dX1_start_6 ?_
  refine x_istore_n C dX1_start_7 rfl (by decide) [(1, (iv 0)), (0, (.ref (K 7)))] rfl ?_
  refine x_lv (lv' := [(0, (.ref (K 7))), (1, (iv 0))]) [1, 0] rfl ?_
  obtain ⟨n9, h⟩ := h
  exact T_X1_start_8 C hret n9 0 (up M 47 10 64) h
set_option maxHeartbeats 4000000 in
theorem T_X1_join_66 {Q : g_M → Prop} (C : XC p R s m args c D d A cX1_join 7 RX1 1 zc zs) (hret : RTV p l e R s m args below meth c Qg D d K A 7 zc zs L cX1_join Q) : ∀ (n : Nat) (x3 : Int) (x4 : Int) (x5 : Int) (x6 : Int) (M : g_M), F_X1_join_66 Q n x3 x4 x5 x6 M → X p l e R s m args below meth c Qg D d K A 7 zc zs L M [(0, (.ref (K 7))), (3, (iv x3)), (4, (iv x4)), (5, (iv x5)), (6, (iv x6))] 66 [] := by
  intro n
  induction n with
  | zero =>
    intro x3 x4 x5 x6 M h
    exact h.elim
  | succ n ih =>
    intro x3 x4 x5 x6 M h
    replace h : ((bm x6 < bm (rg M 26 x4) → ((okI 24 x5 ∧ F_X1_join_66 Q n x3 x4 (rg (rs M 24 x5 x3) 25 x5) (x6 + 1) (rs M 24 x5 x3)))) ∧ (¬ bm x6 < bm (rg M 26 x4) → ((okI 26 x3 ∧ (okI 25 x3 ∧ (okI 25 x4 ∧ Q (rs (rs (rs M 26 x3 ((rg M 26 x3) + (rg M 26 x4))) 25 x3 (rg (rs M 26 x3 ((rg M 26 x3) + (rg M 26 x4))) 25 x4)) 25 x4 (rg (rs M 26 x3 ((rg M 26 x3) + (rg M 26 x4))) 25 x3)))))))) := h
    refine x_iload C dX1_join_66 4 rfl ?_
    refine x_aload_n C dX1_join_68 rfl 0 rfl ?_
    refine gf_7_4 C k377 dX1_join_69 ?_
    refine x_iload C dX1_join_72 2 rfl ?_
    refine x_rget C 26 (by decide) k390 (Nat.le_of_ble_eq_true rfl) (Nat.le_of_ble_eq_true rfl) dX1_join_74 ?_
    refine x_icmp_ge C 107 dX1_join_77 (by decide) (fun c3 => ?_) (fun c3 => ?_)
    · replace h := h.1 c3
      refine x_aload_n C dX1_join_80 rfl 0 rfl ?_
      refine gf_7_2 C k374 dX1_join_81 ?_
      refine x_iload C dX1_join_84 3 rfl ?_
      refine x_iload_n C dX1_join_86 rfl 1 rfl ?_
      refine x_rset C 24 (by decide) h.1 k375 (Nat.le_of_ble_eq_true rfl) (Nat.le_of_ble_eq_true rfl) dX1_join_87 ?_
      replace h := h.2
      refine x_aload_n C dX1_join_90 rfl 0 rfl ?_
      refine gf_7_3 C k376 dX1_join_91 ?_
      refine x_iload C dX1_join_94 3 rfl ?_
      refine x_rget C 25 (by decide) k390 (Nat.le_of_ble_eq_true rfl) (Nat.le_of_ble_eq_true rfl) dX1_join_96 ?_
      refine x_istore C dX1_join_99 (by decide) [(5, (iv (rg (rs M 24 x5 x3) 25 x5))), (0, (.ref (K 7))), (3, (iv x3)), (4, (iv x4)), (6, (iv x6))] rfl ?_
      refine x_iinc C dX1_join_101 4 rfl (by decide) [(6, (iv (x6 + 1))), (5, (iv (rg (rs M 24 x5 x3) 25 x5))), (0, (.ref (K 7))), (3, (iv x3)), (4, (iv x4))] rfl ?_
      refine x_goto C 66 dX1_join_104 (by decide) ?_
      refine x_lv (lv' := [(0, (.ref (K 7))), (3, (iv x3)), (4, (iv x4)), (5, (iv (rg (rs M 24 x5 x3) 25 x5))), (6, (iv (x6 + 1)))]) [2, 3, 4, 1, 0] rfl ?_
      exact ih x3 x4 (rg (rs M 24 x5 x3) 25 x5) (x6 + 1) (rs M 24 x5 x3) h
    · replace h := h.2 c3
      refine x_aload_n C dX1_join_107 rfl 0 rfl ?_
      refine gf_7_4 C k377 dX1_join_108 ?_
      refine x_iload_n C dX1_join_111 rfl 1 rfl ?_
      refine x_aload_n C dX1_join_112 rfl 0 rfl ?_
      refine gf_7_4 C k377 dX1_join_113 ?_
      refine x_iload_n C dX1_join_116 rfl 1 rfl ?_
      refine x_rget C 26 (by decide) k390 (Nat.le_of_ble_eq_true rfl) (Nat.le_of_ble_eq_true rfl) dX1_join_117 ?_
      refine x_aload_n C dX1_join_120 rfl 0 rfl ?_
      refine gf_7_4 C k377 dX1_join_121 ?_
      refine x_iload C dX1_join_124 2 rfl ?_
      refine x_rget C 26 (by decide) k390 (Nat.le_of_ble_eq_true rfl) (Nat.le_of_ble_eq_true rfl) dX1_join_126 ?_
      refine x_iadd C dX1_join_129 ?_
      refine x_rset C 26 (by decide) h.1 k375 (Nat.le_of_ble_eq_true rfl) (Nat.le_of_ble_eq_true rfl) dX1_join_130 ?_
      replace h := h.2
      refine x_aload_n C dX1_join_133 rfl 0 rfl ?_
      refine gf_7_3 C k376 dX1_join_134 ?_
      refine x_iload_n C dX1_join_137 rfl 1 rfl ?_
      refine x_rget C 25 (by decide) k390 (Nat.le_of_ble_eq_true rfl) (Nat.le_of_ble_eq_true rfl) dX1_join_138 ?_
      refine x_istore C dX1_join_141 (by decide) [(6, (iv (rg (rs M 26 x3 ((rg M 26 x3) + (rg M 26 x4))) 25 x3))), (0, (.ref (K 7))), (3, (iv x3)), (4, (iv x4)), (5, (iv x5))] rfl ?_
      refine x_aload_n C dX1_join_143 rfl 1 rfl ?_
      refine gf_7_3 C k376 dX1_join_144 ?_
      refine x_iload_n C dX1_join_147 rfl 2 rfl ?_
      refine x_aload_n C dX1_join_148 rfl 1 rfl ?_
      refine gf_7_3 C k376 dX1_join_149 ?_
      refine x_iload C dX1_join_152 3 rfl ?_
      refine x_rget C 25 (by decide) k390 (Nat.le_of_ble_eq_true rfl) (Nat.le_of_ble_eq_true rfl) dX1_join_154 ?_
      refine x_rset C 25 (by decide) h.1 k375 (Nat.le_of_ble_eq_true rfl) (Nat.le_of_ble_eq_true rfl) dX1_join_157 ?_
      replace h := h.2
      refine x_aload_n C dX1_join_160 rfl 1 rfl ?_
      refine gf_7_3 C k376 dX1_join_161 ?_
      refine x_iload C dX1_join_164 3 rfl ?_
      refine x_iload C dX1_join_166 0 rfl ?_
      refine x_rset C 25 (by decide) h.1 k375 (Nat.le_of_ble_eq_true rfl) (Nat.le_of_ble_eq_true rfl) dX1_join_168 ?_
      replace h := h.2
      exact hret _ _ _ dX1_join_171 h
set_option maxHeartbeats 4000000 in
theorem T_X1_join_59 {Q : g_M → Prop} (C : XC p R s m args c D d A cX1_join 7 RX1 1 zc zs) (hret : RTV p l e R s m args below meth c Qg D d K A 7 zc zs L cX1_join Q) (x3 : Int) (x4 : Int) (M : g_M) (h : F_X1_join_59 Q x3 x4 M) : X p l e R s m args below meth c Qg D d K A 7 zc zs L M [(0, (.ref (K 7))), (3, (iv x3)), (4, (iv x4))] 59 [] := by
  refine x_iload C dX1_join_59 2 rfl ?_
  refine x_istore C dX1_join_61 (by decide) [(5, (iv x4)), (0, (.ref (K 7))), (3, (iv x3)), (4, (iv x4))] rfl ?_
  refine x_iconst C (n := 0) dX1_join_63 ?_
  refine x_istore C dX1_join_64 (by decide) [(6, (iv 0)), (5, (iv x4)), (0, (.ref (K 7))), (3, (iv x3)), (4, (iv x4))] rfl ?_
  refine x_lv (lv' := [(0, (.ref (K 7))), (3, (iv x3)), (4, (iv x4)), (5, (iv x4)), (6, (iv 0))]) [2, 3, 4, 1, 0] rfl ?_
  obtain ⟨n9, h⟩ := h
  exact T_X1_join_66 C hret n9 x3 x4 x4 0 M h
set_option maxHeartbeats 4000000 in
theorem m_X1_join (a1 : Int) (a2 : Int) : MV l D d K yX1_join cX1_join 7 none 1 [(.ref (K 7)), (iv a1), (iv a2)] (fun Q M => F_X1_join Q a1 a2 M) := by
  refine s_mv pn_X1 (Nat.le_of_ble_eq_true rfl) [(0, (.ref (K 7))), (1, (iv a1)), (2, (iv a2))] rfl rfl (fun p e R s m args below meth c A L M zc zs Q Qg C hret h => ?_)
  refine x_aload_n C dX1_join_0 rfl 0 rfl ?_
  refine gf_7_2 C k374 dX1_join_1 ?_
  refine x_iload_n C dX1_join_4 rfl 1 rfl ?_
  refine x_rget C 24 (by decide) k390 (Nat.le_of_ble_eq_true rfl) (Nat.le_of_ble_eq_true rfl) dX1_join_5 ?_
  refine x_istore_n C dX1_join_8 rfl (by decide) [(3, (iv (rg M 24 a1))), (0, (.ref (K 7))), (1, (iv a1)), (2, (iv a2))] rfl ?_
  refine x_aload_n C dX1_join_9 rfl 1 rfl ?_
  refine gf_7_2 C k374 dX1_join_10 ?_
  refine x_iload_n C dX1_join_13 rfl 3 rfl ?_
  refine x_rget C 24 (by decide) k390 (Nat.le_of_ble_eq_true rfl) (Nat.le_of_ble_eq_true rfl) dX1_join_14 ?_
  refine x_istore C dX1_join_17 (by decide) [(4, (iv (rg M 24 a2))), (3, (iv (rg M 24 a1))), (0, (.ref (K 7))), (1, (iv a1)), (2, (iv a2))] rfl ?_
  refine x_iload_n C dX1_join_19 rfl 1 rfl ?_
  refine x_iload C dX1_join_20 0 rfl ?_
  refine x_icmp_ne C 26 dX1_join_22 (by decide) (fun c1 => ?_) (fun c1 => ?_)
  · replace h := h.1 c1
    exact hret _ _ _ dX1_join_25 h
  · replace h := h.2 c1
    refine x_aload_n C dX1_join_26 rfl 2 rfl ?_
    refine gf_7_4 C k377 dX1_join_27 ?_
    refine x_iload_n C dX1_join_30 rfl 1 rfl ?_
    refine x_rget C 26 (by decide) k390 (Nat.le_of_ble_eq_true rfl) (Nat.le_of_ble_eq_true rfl) dX1_join_31 ?_
    refine x_aload_n C dX1_join_34 rfl 2 rfl ?_
    refine gf_7_4 C k377 dX1_join_35 ?_
    refine x_iload C dX1_join_38 0 rfl ?_
    refine x_rget C 26 (by decide) k390 (Nat.le_of_ble_eq_true rfl) (Nat.le_of_ble_eq_true rfl) dX1_join_40 ?_
    refine x_icmp_ge C 59 dX1_join_43 (by decide) (fun c2 => ?_) (fun c2 => ?_)
    · replace h := h.1 c2
      refine x_iload C dX1_join_46 0 rfl ?_
      refine x_istore_n C dX1_join_48 rfl (by decide) [(3, (iv (rg M 24 a2))), (4, (iv (rg M 24 a2))), (0, (.ref (K 7))), (1, (iv a1)), (2, (iv a2))] rfl ?_
      refine x_aload_n C dX1_join_49 rfl 2 rfl ?_
      refine gf_7_2 C k374 dX1_join_50 ?_
      refine x_iload_n C dX1_join_53 rfl 3 rfl ?_
      refine x_rget C 24 (by decide) k390 (Nat.le_of_ble_eq_true rfl) (Nat.le_of_ble_eq_true rfl) dX1_join_54 ?_
      refine x_istore C dX1_join_57 (by decide) [(4, (iv (rg M 24 a1))), (3, (iv (rg M 24 a2))), (0, (.ref (K 7))), (1, (iv a1)), (2, (iv a2))] rfl ?_
      refine x_lv (lv' := [(0, (.ref (K 7))), (3, (iv (rg M 24 a2))), (4, (iv (rg M 24 a1)))]) [2, 1, 0] rfl ?_
      exact T_X1_join_59 C hret (rg M 24 a2) (rg M 24 a1) M h
    · replace h := h.2 c2
      refine x_lv (lv' := [(0, (.ref (K 7))), (3, (iv (rg M 24 a1))), (4, (iv (rg M 24 a2)))]) [2, 1, 0] rfl ?_
      exact T_X1_join_59 C hret (rg M 24 a1) (rg M 24 a2) M h
set_option maxHeartbeats 4000000 in
theorem T_X9_gather_60 {Q : g_M → Prop} (C : XC p R s m args c D d A cX9_gather 5 RX9 4 zc zs) (hret : RTV p l e R s m args below meth c Qg D d K A 5 zc zs L cX9_gather Q) {k10 : Int → Int → Int → Int → g_M → Prop} (hk10 : ∀ (x1 : Int) (x2 : Int) (x3 : Int) (x4 : Int) (M : g_M), k10 x1 x2 x3 x4 M → X p l e R s m args below meth c Qg D d K A 5 zc zs L M [(0, (.ref (K 5))), (1, (iv x1)), (2, (iv x2)), (3, (iv x3)), (4, (iv x4))] 10 []) (x1 : Int) (x2 : Int) (x3 : Int) (x4 : Int) (M : g_M) (h : F_X9_gather_60 Q k10 x1 x2 x3 x4 M) : X p l e R s m args below meth c Qg D d K A 5 zc zs L M [(0, (.ref (K 5))), (1, (iv x1)), (2, (iv x2)), (3, (iv x3)), (4, (iv x4))] 60 [] := by
  refine x_iinc C dX9_gather_60 4 rfl (by decide) [(4, (iv (x4 + 1))), (0, (.ref (K 5))), (1, (iv x1)), (2, (iv x2)), (3, (iv x3))] rfl ?_
  refine x_goto C 10 dX9_gather_63 (by decide) ?_
  refine x_lv (lv' := [(0, (.ref (K 5))), (1, (iv x1)), (2, (iv x2)), (3, (iv x3)), (4, (iv (x4 + 1)))]) [1, 2, 3, 4, 0] rfl ?_
  exact hk10 x1 x2 x3 (x4 + 1) M h
set_option maxHeartbeats 4000000 in
theorem T_X9_gather_149 {Q : g_M → Prop} (C : XC p R s m args c D d A cX9_gather 5 RX9 4 zc zs) (hret : RTV p l e R s m args below meth c Qg D d K A 5 zc zs L cX9_gather Q) {k92 : Int → Int → g_M → Prop} (hk92 : ∀ (x1 : Int) (x4 : Int) (M : g_M), k92 x1 x4 M → X p l e R s m args below meth c Qg D d K A 5 zc zs L M [(0, (.ref (K 5))), (1, (iv x1)), (4, (iv x4))] 92 []) (x1 : Int) (x4 : Int) (M : g_M) (h : F_X9_gather_149 Q k92 x1 x4 M) : X p l e R s m args below meth c Qg D d K A 5 zc zs L M [(0, (.ref (K 5))), (1, (iv x1)), (4, (iv x4))] 149 [] := by
  refine x_iinc C dX9_gather_149 2 rfl (by decide) [(4, (iv (x4 + 1))), (0, (.ref (K 5))), (1, (iv x1))] rfl ?_
  refine x_goto C 92 dX9_gather_152 (by decide) ?_
  refine x_lv (lv' := [(0, (.ref (K 5))), (1, (iv x1)), (4, (iv (x4 + 1)))]) [1, 2, 0] rfl ?_
  exact hk92 x1 (x4 + 1) M h
set_option maxHeartbeats 4000000 in
theorem T_X9_gather_92 {Q : g_M → Prop} (C : XC p R s m args c D d A cX9_gather 5 RX9 4 zc zs) (hret : RTV p l e R s m args below meth c Qg D d K A 5 zc zs L cX9_gather Q) : ∀ (n : Nat) (x1 : Int) (x4 : Int) (M : g_M), F_X9_gather_92 Q n x1 x4 M → X p l e R s m args below meth c Qg D d K A 5 zc zs L M [(0, (.ref (K 5))), (1, (iv x1)), (4, (iv x4))] 92 [] := by
  intro n
  induction n with
  | zero =>
    intro x1 x4 M h
    exact h.elim
  | succ n ih =>
    intro x1 x4 M h
    replace h : ((bm x4 < bm (M 45 7) → (((bm x4 < bm 30 → (((bm x4 = bm x1 → (F_X9_gather_149 Q (F_X9_gather_92 Q n) x1 x4 M)) ∧ (¬ bm x4 = bm x1 → ((inI x4 30 ∧ F_X10_indexOf (fun v13 M13 => (inI x4 30 ∧ F_X10_indexOf (fun v14 M14 => F_X1_join (fun M15 => F_X9_gather_149 Q (F_X9_gather_92 Q n) x1 x4 M15) v13 v14 M14) (M13 56 (bm x4).toNat) M13)) (M 55 (bm x4).toNat) M)))))) ∧ (¬ bm x4 < bm 30 → (Q M))))) ∧ (¬ bm x4 < bm (M 45 7) → (Q M))) := h
    refine x_iload C dX9_gather_92 2 rfl ?_
    refine x_aload_n C dX9_gather_94 rfl 0 rfl ?_
    refine gf_5_7 C k359 dX9_gather_95 ?_
    refine x_icmp_ge C 155 dX9_gather_98 (by decide) (fun c10 => ?_) (fun c10 => ?_)
    · replace h := h.1 c10
      refine x_iload C dX9_gather_101 2 rfl ?_
      refine x_bipush C (n := 30) (by decide) (by decide) dX9_gather_103 ?_
      refine x_icmp_ge C 155 dX9_gather_105 (by decide) (fun c11 => ?_) (fun c11 => ?_)
      · replace h := h.1 c11
        refine x_iload C dX9_gather_108 2 rfl ?_
        refine x_iload_n C dX9_gather_110 rfl 1 rfl ?_
        refine x_icmp_eq C 149 dX9_gather_111 (by decide) (fun c12 => ?_) (fun c12 => ?_)
        · replace h := h.1 c12
          exact T_X9_gather_149 C hret ih x1 x4 M h
        · replace h := h.2 c12
          refine x_aload_n C dX9_gather_114 rfl 0 rfl ?_
          refine gf_5_4 C k370 dX9_gather_115 ?_
          refine x_aload_n C dX9_gather_118 rfl 0 rfl ?_
          refine gf_5_2 C k367 dX9_gather_119 ?_
          refine x_aload_n C dX9_gather_122 rfl 0 rfl ?_
          refine gf_5_5 C k360 dX9_gather_123 ?_
          refine x_iload C dX9_gather_126 2 rfl ?_
          refine x_iald C 15 30 (by decide) (fun _ => rfl) h.1 dX9_gather_128 ?_
          replace h := h.2
          refine x_callVi C FX10_indexOf GX10_indexOf k389 (m_X10_indexOf (M 55 (bm x4).toNat)) h (by decide) (fun _ => rfl) rfl (Nat.le_of_ble_eq_true rfl) (Nat.le_of_ble_eq_true rfl) (rest := [(.ref (K 7))]) (Nat.le_of_ble_eq_true rfl) rfl rfl dX9_gather_129 (fun v13 M13 h => ?_)
          refine x_aload_n C dX9_gather_132 rfl 0 rfl ?_
          refine gf_5_2 C k367 dX9_gather_133 ?_
          refine x_aload_n C dX9_gather_136 rfl 0 rfl ?_
          refine gf_5_6 C k361 dX9_gather_137 ?_
          refine x_iload C dX9_gather_140 2 rfl ?_
          refine x_iald C 16 30 (by decide) (fun _ => rfl) h.1 dX9_gather_142 ?_
          replace h := h.2
          refine x_callVi C FX10_indexOf GX10_indexOf k389 (m_X10_indexOf (M13 56 (bm x4).toNat)) h (by decide) (fun _ => rfl) rfl (Nat.le_of_ble_eq_true rfl) (Nat.le_of_ble_eq_true rfl) (rest := [(iv v13), (.ref (K 7))]) (Nat.le_of_ble_eq_true rfl) rfl rfl dX9_gather_143 (fun v14 M14 h => ?_)
          refine x_callVv C FX1_join GX1_join k391 (m_X1_join v13 v14) h (by decide) (fun _ => rfl) rfl (Nat.le_of_ble_eq_true rfl) (Nat.le_of_ble_eq_true rfl) (rest := []) (Nat.le_of_ble_eq_true rfl) rfl rfl dX9_gather_146 (fun M15 h => ?_)
          exact T_X9_gather_149 C hret ih x1 x4 M15 h
      · replace h := h.2 c11
        exact hret _ _ _ dX9_gather_155 h
    · replace h := h.2 c10
      exact hret _ _ _ dX9_gather_155 h
set_option maxHeartbeats 4000000 in
theorem T_X9_gather_66 {Q : g_M → Prop} (C : XC p R s m args c D d A cX9_gather 5 RX9 4 zc zs) (hret : RTV p l e R s m args below meth c Qg D d K A 5 zc zs L cX9_gather Q) (x1 : Int) (x2 : Int) (x3 : Int) (M : g_M) (h : F_X9_gather_66 Q x1 x2 x3 M) : X p l e R s m args below meth c Qg D d K A 5 zc zs L M [(0, (.ref (K 5))), (1, (iv x1)), (2, (iv x2)), (3, (iv x3))] 66 [] := by
  refine x_aload_n C dX9_gather_66 rfl 0 rfl ?_
  refine gf_5_2 C k367 dX9_gather_67 ?_
  refine x_iload_n C dX9_gather_70 rfl 2 rfl ?_
  refine x_callVv C FX10_add GX10_add k369 (m_X10_add x2) h (by decide) (fun _ => rfl) rfl (Nat.le_of_ble_eq_true rfl) (Nat.le_of_ble_eq_true rfl) (rest := []) (Nat.le_of_ble_eq_true rfl) rfl rfl dX9_gather_71 (fun M7 h => ?_)
  refine x_aload_n C dX9_gather_74 rfl 0 rfl ?_
  refine gf_5_2 C k367 dX9_gather_75 ?_
  refine x_iload_n C dX9_gather_78 rfl 3 rfl ?_
  refine x_callVv C FX10_add GX10_add k369 (m_X10_add x3) h (by decide) (fun _ => rfl) rfl (Nat.le_of_ble_eq_true rfl) (Nat.le_of_ble_eq_true rfl) (rest := []) (Nat.le_of_ble_eq_true rfl) rfl rfl dX9_gather_79 (fun M8 h => ?_)
  refine x_aload_n C dX9_gather_82 rfl 0 rfl ?_
  refine gf_5_4 C k370 dX9_gather_83 ?_
  refine x_callVv C FX1_start GX1_start k384 (m_X1_start) h (by decide) (fun _ => rfl) rfl (Nat.le_of_ble_eq_true rfl) (Nat.le_of_ble_eq_true rfl) (rest := []) (Nat.le_of_ble_eq_true rfl) rfl rfl dX9_gather_86 (fun M9 h => ?_)
  refine x_iconst C (n := 0) dX9_gather_89 ?_
  refine x_istore C dX9_gather_90 (by decide) [(4, (iv 0)), (0, (.ref (K 5))), (1, (iv x1)), (2, (iv x2)), (3, (iv x3))] rfl ?_
  refine x_lv (lv' := [(0, (.ref (K 5))), (1, (iv x1)), (4, (iv 0))]) [1, 2, 0] rfl ?_
  obtain ⟨n9, h⟩ := h
  exact T_X9_gather_92 C hret n9 x1 0 M9 h
set_option maxHeartbeats 4000000 in
theorem T_X9_gather_10 {Q : g_M → Prop} (C : XC p R s m args c D d A cX9_gather 5 RX9 4 zc zs) (hret : RTV p l e R s m args below meth c Qg D d K A 5 zc zs L cX9_gather Q) : ∀ (n : Nat) (x1 : Int) (x2 : Int) (x3 : Int) (x4 : Int) (M : g_M), F_X9_gather_10 Q n x1 x2 x3 x4 M → X p l e R s m args below meth c Qg D d K A 5 zc zs L M [(0, (.ref (K 5))), (1, (iv x1)), (2, (iv x2)), (3, (iv x3)), (4, (iv x4))] 10 [] := by
  intro n
  induction n with
  | zero =>
    intro x1 x2 x3 x4 M h
    exact h.elim
  | succ n ih =>
    intro x1 x2 x3 x4 M h
    replace h : ((bm x4 < bm (M 45 7) → (((bm x4 < bm 30 → (((bm x4 = bm x1 → (F_X9_gather_60 Q (F_X9_gather_10 Q n) x1 x2 x3 x4 M)) ∧ (¬ bm x4 = bm x1 → ((inI x4 30 ∧ F_X10_add (fun M5 => (inI x4 30 ∧ F_X10_add (fun M6 => F_X9_gather_60 Q (F_X9_gather_10 Q n) x1 x2 x3 x4 M6) (M5 56 (bm x4).toNat) M5)) (M 55 (bm x4).toNat) M)))))) ∧ (¬ bm x4 < bm 30 → (F_X9_gather_66 Q x1 x2 x3 M))))) ∧ (¬ bm x4 < bm (M 45 7) → (F_X9_gather_66 Q x1 x2 x3 M))) := h
    refine x_iload C dX9_gather_10 4 rfl ?_
    refine x_aload_n C dX9_gather_12 rfl 0 rfl ?_
    refine gf_5_7 C k359 dX9_gather_13 ?_
    refine x_icmp_ge C 66 dX9_gather_16 (by decide) (fun c2 => ?_) (fun c2 => ?_)
    · replace h := h.1 c2
      refine x_iload C dX9_gather_19 4 rfl ?_
      refine x_bipush C (n := 30) (by decide) (by decide) dX9_gather_21 ?_
      refine x_icmp_ge C 66 dX9_gather_23 (by decide) (fun c3 => ?_) (fun c3 => ?_)
      · replace h := h.1 c3
        refine x_iload C dX9_gather_26 4 rfl ?_
        refine x_iload_n C dX9_gather_28 rfl 1 rfl ?_
        refine x_icmp_eq C 60 dX9_gather_29 (by decide) (fun c4 => ?_) (fun c4 => ?_)
        · replace h := h.1 c4
          exact T_X9_gather_60 C hret ih x1 x2 x3 x4 M h
        · replace h := h.2 c4
          refine x_aload_n C dX9_gather_32 rfl 0 rfl ?_
          refine gf_5_2 C k367 dX9_gather_33 ?_
          refine x_aload_n C dX9_gather_36 rfl 0 rfl ?_
          refine gf_5_5 C k360 dX9_gather_37 ?_
          refine x_iload C dX9_gather_40 4 rfl ?_
          refine x_iald C 15 30 (by decide) (fun _ => rfl) h.1 dX9_gather_42 ?_
          replace h := h.2
          refine x_callVv C FX10_add GX10_add k369 (m_X10_add (M 55 (bm x4).toNat)) h (by decide) (fun _ => rfl) rfl (Nat.le_of_ble_eq_true rfl) (Nat.le_of_ble_eq_true rfl) (rest := []) (Nat.le_of_ble_eq_true rfl) rfl rfl dX9_gather_43 (fun M5 h => ?_)
          refine x_aload_n C dX9_gather_46 rfl 0 rfl ?_
          refine gf_5_2 C k367 dX9_gather_47 ?_
          refine x_aload_n C dX9_gather_50 rfl 0 rfl ?_
          refine gf_5_6 C k361 dX9_gather_51 ?_
          refine x_iload C dX9_gather_54 4 rfl ?_
          refine x_iald C 16 30 (by decide) (fun _ => rfl) h.1 dX9_gather_56 ?_
          replace h := h.2
          refine x_callVv C FX10_add GX10_add k369 (m_X10_add (M5 56 (bm x4).toNat)) h (by decide) (fun _ => rfl) rfl (Nat.le_of_ble_eq_true rfl) (Nat.le_of_ble_eq_true rfl) (rest := []) (Nat.le_of_ble_eq_true rfl) rfl rfl dX9_gather_57 (fun M6 h => ?_)
          exact T_X9_gather_60 C hret ih x1 x2 x3 x4 M6 h
      · replace h := h.2 c3
        refine x_lv (lv' := [(0, (.ref (K 5))), (1, (iv x1)), (2, (iv x2)), (3, (iv x3))]) [0, 1, 2, 3] rfl ?_
        exact T_X9_gather_66 C hret x1 x2 x3 M h
    · replace h := h.2 c2
      refine x_lv (lv' := [(0, (.ref (K 5))), (1, (iv x1)), (2, (iv x2)), (3, (iv x3))]) [0, 1, 2, 3] rfl ?_
      exact T_X9_gather_66 C hret x1 x2 x3 M h
set_option maxHeartbeats 4000000 in
theorem m_X9_gather (a1 : Int) (a2 : Int) (a3 : Int) : MV l D d K yX9_gather cX9_gather 5 none 4 [(.ref (K 5)), (iv a1), (iv a2), (iv a3)] (fun Q M => F_X9_gather Q a1 a2 a3 M) := by
  refine s_mv pn_X9 (Nat.le_of_ble_eq_true rfl) [(0, (.ref (K 5))), (1, (iv a1)), (2, (iv a2)), (3, (iv a3))] rfl rfl (fun p e R s m args below meth c A L M zc zs Q Qg C hret h => ?_)
  refine x_aload_n C dX9_gather_0 rfl 0 rfl ?_
  refine gf_5_2 C k367 dX9_gather_1 ?_
  refine x_callVv C FX10_clear GX10_clear k368 (m_X10_clear) h (by decide) (fun _ => rfl) rfl (Nat.le_of_ble_eq_true rfl) (Nat.le_of_ble_eq_true rfl) (rest := []) (Nat.le_of_ble_eq_true rfl) rfl rfl dX9_gather_4 (fun M1 h => ?_)
  refine x_iconst C (n := 0) dX9_gather_7 ?_
  refine x_istore C dX9_gather_8 (by decide) [(4, (iv 0)), (0, (.ref (K 5))), (1, (iv a1)), (2, (iv a2)), (3, (iv a3))] rfl ?_
  refine x_lv (lv' := [(0, (.ref (K 5))), (1, (iv a1)), (2, (iv a2)), (3, (iv a3)), (4, (iv 0))]) [1, 2, 3, 4, 0] rfl ?_
  obtain ⟨n9, h⟩ := h
  exact T_X9_gather_10 C hret n9 a1 a2 a3 0 M1 h
end XW
