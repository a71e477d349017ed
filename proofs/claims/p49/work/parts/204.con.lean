section XW
variable {p : Program} {l : Launch} {e : Env} {R : Room} {s : State} {m : MethodId} {args : Array Value} {below : List Frame} {meth : Method} {c : Code} {Qg : State → Prop} {D : va_G} {d : Nat → ClassId} {K : Nat → Nat} {A : Nat → Prop} {zc zs : Int} {L : va_W}
set_option maxHeartbeats 4000000 in
theorem T_X1_bucketOf_11 {Q : Int → g_M → Prop} (C : XC p R s m args c D d A cX1_bucketOf 4 RX1 1 zc zs) (hret : RTI p l e R s m args below meth c Qg D d K A 4 zc zs L cX1_bucketOf Q) : ∀ (n : Nat) (x1 : Int) (x2 : Int) (x3 : Int) (M : g_M), F_X1_bucketOf_11 Q n x1 x2 x3 M → X p l e R s m args below meth c Qg D d K A 4 zc zs L M [(0, (.ref (K 7))), (1, (iv x1)), (2, (iv x2)), (3, (iv x3))] 11 [] := by
  intro n
  induction n with
  | zero =>
    intro x1 x2 x3 M h
    exact h.elim
  | succ n ih =>
    intro x1 x2 x3 M h
    replace h : ((bm x3 < bm 3 → (F_X1_bucketOf_11 Q n x1 ((x2 * 8191) + (rg M 24 (rg M 29 ((3 * x1) + x3)))) (x3 + 1) M)) ∧ (¬ bm x3 < bm 3 → (Q (iand (ixor (x2 * 739982445) (iushr (x2 * 739982445) 15)) ((M 47 10) - 1)) M))) := h
    refine x_iload_n C dX1_bucketOf_11 rfl 3 rfl ?_
    refine x_iconst C (n := 3) dX1_bucketOf_12 ?_
    refine x_icmp_ge C 48 dX1_bucketOf_13 (by decide) (fun c1 => ?_) (fun c1 => ?_)
    · replace h := h.1 c1
      refine x_iload_n C dX1_bucketOf_16 rfl 2 rfl ?_
      refine x_sipush C (n := 8191) (by decide) (by decide) dX1_bucketOf_17 ?_
      refine x_imul C dX1_bucketOf_20 ?_
      refine x_aload_n C dX1_bucketOf_21 rfl 0 rfl ?_
      refine gf_7_2 C k374 dX1_bucketOf_22 ?_
      refine x_aload_n C dX1_bucketOf_25 rfl 0 rfl ?_
      refine gf_7_7 C k382 dX1_bucketOf_26 ?_
      refine x_iconst C (n := 3) dX1_bucketOf_29 ?_
      refine x_iload_n C dX1_bucketOf_30 rfl 1 rfl ?_
      refine x_imul C dX1_bucketOf_31 ?_
      refine x_iload_n C dX1_bucketOf_32 rfl 3 rfl ?_
      refine x_iadd C dX1_bucketOf_33 ?_
      refine x_rget C 29 (by decide) k390 (Nat.le_of_ble_eq_true rfl) (Nat.le_of_ble_eq_true rfl) dX1_bucketOf_34 ?_
      refine x_rget C 24 (by decide) k390 (Nat.le_of_ble_eq_true rfl) (Nat.le_of_ble_eq_true rfl) dX1_bucketOf_37 ?_
      refine x_iadd C dX1_bucketOf_40 ?_
      refine x_istore_n C dX1_bucketOf_41 rfl (by decide) [(2, (iv ((x2 * 8191) + (rg M 24 (rg M 29 ((3 * x1) + x3)))))), (0, (.ref (K 7))), (1, (iv x1)), (3, (iv x3))] rfl ?_
      refine x_iinc C dX1_bucketOf_42 3 rfl (by decide) [(3, (iv (x3 + 1))), (2, (iv ((x2 * 8191) + (rg M 24 (rg M 29 ((3 * x1) + x3)))))), (0, (.ref (K 7))), (1, (iv x1))] rfl ?_
      refine x_goto C 11 dX1_bucketOf_45 (by decide) ?_
      refine x_lv (lv' := [(0, (.ref (K 7))), (1, (iv x1)), (2, (iv ((x2 * 8191) + (rg M 24 (rg M 29 ((3 * x1) + x3)))))), (3, (iv (x3 + 1)))]) [2, 3, 1, 0] rfl ?_
      exact ih x1 ((x2 * 8191) + (rg M 24 (rg M 29 ((3 * x1) + x3)))) (x3 + 1) M h
    · replace h := h.2 c1
      refine x_iload_n C dX1_bucketOf_48 rfl 2 rfl ?_
      refine x_ldc C (n := 739982445) (show Cond.constant RX1 95 (Int32.ofInt 739982445) ∈ gW from k400) dX1_bucketOf_49 ?_
      refine x_imul C dX1_bucketOf_51 ?_
      refine x_istore_n C dX1_bucketOf_52 rfl (by decide) [(2, (iv (x2 * 739982445))), (0, (.ref (K 7))), (1, (iv x1)), (3, (iv x3))] rfl ?_
      refine x_iload_n C dX1_bucketOf_53 rfl 0 rfl ?_
      refine x_iload_n C dX1_bucketOf_54 rfl 0 rfl ?_
      refine x_bipush C (n := 15) (by decide) (by decide) dX1_bucketOf_55 ?_
      refine x_iushr C dX1_bucketOf_57 ?_
      refine x_ixor C dX1_bucketOf_58 ?_
      refine x_istore_n C dX1_bucketOf_59 rfl (by decide) [(2, (iv (ixor (x2 * 739982445) (iushr (x2 * 739982445) 15)))), (0, (.ref (K 7))), (1, (iv x1)), (3, (iv x3))] rfl ?_
      refine x_iload_n C dX1_bucketOf_60 rfl 0 rfl ?_
      refine x_aload_n C dX1_bucketOf_61 rfl 1 rfl ?_
      refine gf_7_10 C k371 dX1_bucketOf_62 ?_
      refine x_iconst C (n := 1) dX1_bucketOf_65 ?_
      refine x_isub C dX1_bucketOf_66 ?_
      refine x_iand C dX1_bucketOf_67 ?_
      exact hret _ _ _ _ dX1_bucketOf_68 h
set_option maxHeartbeats 4000000 in
theorem m_X1_bucketOf (a1 : Int) : MI l D d K yX1_bucketOf cX1_bucketOf 4 (some .int) 1 [(.ref (K 7)), (iv a1)] (fun Q M => F_X1_bucketOf Q a1 M) := by
  refine s_mi pn_X1 (Nat.le_of_ble_eq_true rfl) [(0, (.ref (K 7))), (1, (iv a1))] rfl rfl (fun p e R s m args below meth c A L M zc zs Q Qg C hret h => ?_)
  refine x_aload_n C dX1_bucketOf_0 rfl 0 rfl ?_
  refine gf_7_6 C k378 dX1_bucketOf_1 ?_
  refine x_iload_n C dX1_bucketOf_4 rfl 1 rfl ?_
  refine x_rget C 28 (by decide) k390 (Nat.le_of_ble_eq_true rfl) (Nat.le_of_ble_eq_true rfl) dX1_bucketOf_5 ?_
  refine x_istore_n C dX1_bucketOf_8 rfl (by decide) [(2, (iv (rg M 28 a1))), (0, (.ref (K 7))), (1, (iv a1))] rfl ?_
  refine x_iconst C (n := 0) dX1_bucketOf_9 ?_
  refine x_istore_n C dX1_bucketOf_10 rfl (by decide) [(3, (iv 0)), (2, (iv (rg M 28 a1))), (0, (.ref (K 7))), (1, (iv a1))] rfl ?_
  refine x_lv (lv' := [(0, (.ref (K 7))), (1, (iv a1)), (2, (iv (rg M 28 a1))), (3, (iv 0))]) [2, 3, 1, 0] rfl ?_
  obtain ⟨n9, h⟩ := h
  exact T_X1_bucketOf_11 C hret n9 a1 (rg M 28 a1) 0 M h
set_option maxHeartbeats 4000000 in
theorem T_X1_areTwins_93 {Q : Int → g_M → Prop} (C : XC p R s m args c D d A cX1_areTwins 5 RX1 1 zc zs) (hret : RTZ p l e R s m args below meth c Qg D d K A 5 zc zs L cX1_areTwins Q) (x3 : Int) (M : g_M) (h : F_X1_areTwins_93 Q x3 M) : X p l e R s m args below meth c Qg D d K A 5 zc zs L M [(3, (iv x3))] 93 [] := by
  refine x_iload_n C dX1_areTwins_93 rfl 0 rfl ?_
  exact hret _ _ _ _ dX1_areTwins_94 h.1 h.2
set_option maxHeartbeats 4000000 in
theorem T_X1_areTwins_86 {Q : Int → g_M → Prop} (C : XC p R s m args c D d A cX1_areTwins 5 RX1 1 zc zs) (hret : RTZ p l e R s m args below meth c Qg D d K A 5 zc zs L cX1_areTwins Q) {k28 : Int → Int → Int → Int → g_M → Prop} (hk28 : ∀ (x1 : Int) (x2 : Int) (x3 : Int) (x4 : Int) (M : g_M), k28 x1 x2 x3 x4 M → X p l e R s m args below meth c Qg D d K A 5 zc zs L M [(0, (.ref (K 7))), (1, (iv x1)), (2, (iv x2)), (3, (iv x3)), (4, (iv x4))] 28 []) (x1 : Int) (x2 : Int) (x4 : Int) (t0 : Int) (M : g_M) (h : F_X1_areTwins_86 Q k28 x1 x2 x4 t0 M) : X p l e R s m args below meth c Qg D d K A 5 zc zs L M [(0, (.ref (K 7))), (1, (iv x1)), (2, (iv x2)), (4, (iv x4))] 86 [(iv t0)] := by
  refine x_istore_n C dX1_areTwins_86 rfl (by decide) [(3, (iv t0)), (0, (.ref (K 7))), (1, (iv x1)), (2, (iv x2)), (4, (iv x4))] rfl ?_
  refine x_iinc C dX1_areTwins_87 4 rfl (by decide) [(4, (iv (x4 + 1))), (3, (iv t0)), (0, (.ref (K 7))), (1, (iv x1)), (2, (iv x2))] rfl ?_
  refine x_goto C 28 dX1_areTwins_90 (by decide) ?_
  refine x_lv (lv' := [(0, (.ref (K 7))), (1, (iv x1)), (2, (iv x2)), (3, (iv t0)), (4, (iv (x4 + 1)))]) [2, 3, 4, 1, 0] rfl ?_
  exact hk28 x1 x2 t0 (x4 + 1) M h
set_option maxHeartbeats 4000000 in
theorem T_X1_areTwins_28 {Q : Int → g_M → Prop} (C : XC p R s m args c D d A cX1_areTwins 5 RX1 1 zc zs) (hret : RTZ p l e R s m args below meth c Qg D d K A 5 zc zs L cX1_areTwins Q) : ∀ (n : Nat) (x1 : Int) (x2 : Int) (x3 : Int) (x4 : Int) (M : g_M), F_X1_areTwins_28 Q n x1 x2 x3 x4 M → X p l e R s m args below meth c Qg D d K A 5 zc zs L M [(0, (.ref (K 7))), (1, (iv x1)), (2, (iv x2)), (3, (iv x3)), (4, (iv x4))] 28 [] := by
  intro n
  induction n with
  | zero =>
    intro x1 x2 x3 x4 M h
    exact h.elim
  | succ n ih =>
    intro x1 x2 x3 x4 M h
    replace h : ((bm x4 < bm 3 → (((bm x3 = 0 → (F_X1_areTwins_93 Q x3 M)) ∧ (¬ bm x3 = 0 → (((bm (rg M 24 (rg M 29 ((3 * x1) + x4))) = bm (rg M 24 (rg M 29 ((3 * x2) + x4))) → (F_X1_areTwins_86 Q (F_X1_areTwins_28 Q n) x1 x2 x4 1 M)) ∧ (¬ bm (rg M 24 (rg M 29 ((3 * x1) + x4))) = bm (rg M 24 (rg M 29 ((3 * x2) + x4))) → (F_X1_areTwins_86 Q (F_X1_areTwins_28 Q n) x1 x2 x4 0 M)))))))) ∧ (¬ bm x4 < bm 3 → (F_X1_areTwins_93 Q x3 M))) := h
    refine x_iload C dX1_areTwins_28 4 rfl ?_
    refine x_iconst C (n := 3) dX1_areTwins_30 ?_
    refine x_icmp_ge C 93 dX1_areTwins_31 (by decide) (fun c2 => ?_) (fun c2 => ?_)
    · replace h := h.1 c2
      refine x_iload_n C dX1_areTwins_34 rfl 3 rfl ?_
      refine x_if_eq C 93 dX1_areTwins_35 (by decide) (fun c3 => ?_) (fun c3 => ?_)
      · replace h := h.1 c3
        refine x_lv (lv' := [(3, (iv x3))]) [3] rfl ?_
        exact T_X1_areTwins_93 C hret x3 M h
      · replace h := h.2 c3
        refine x_aload_n C dX1_areTwins_38 rfl 0 rfl ?_
        refine gf_7_2 C k374 dX1_areTwins_39 ?_
        refine x_aload_n C dX1_areTwins_42 rfl 0 rfl ?_
        refine gf_7_7 C k382 dX1_areTwins_43 ?_
        refine x_iconst C (n := 3) dX1_areTwins_46 ?_
        refine x_iload_n C dX1_areTwins_47 rfl 1 rfl ?_
        refine x_imul C dX1_areTwins_48 ?_
        refine x_iload C dX1_areTwins_49 4 rfl ?_
        refine x_iadd C dX1_areTwins_51 ?_
        refine x_rget C 29 (by decide) k390 (Nat.le_of_ble_eq_true rfl) (Nat.le_of_ble_eq_true rfl) dX1_areTwins_52 ?_
        refine x_rget C 24 (by decide) k390 (Nat.le_of_ble_eq_true rfl) (Nat.le_of_ble_eq_true rfl) dX1_areTwins_55 ?_
        refine x_aload_n C dX1_areTwins_58 rfl 0 rfl ?_
        refine gf_7_2 C k374 dX1_areTwins_59 ?_
        refine x_aload_n C dX1_areTwins_62 rfl 0 rfl ?_
        refine gf_7_7 C k382 dX1_areTwins_63 ?_
        refine x_iconst C (n := 3) dX1_areTwins_66 ?_
        refine x_iload_n C dX1_areTwins_67 rfl 2 rfl ?_
        refine x_imul C dX1_areTwins_68 ?_
        refine x_iload C dX1_areTwins_69 4 rfl ?_
        refine x_iadd C dX1_areTwins_71 ?_
        refine x_rget C 29 (by decide) k390 (Nat.le_of_ble_eq_true rfl) (Nat.le_of_ble_eq_true rfl) dX1_areTwins_72 ?_
        refine x_rget C 24 (by decide) k390 (Nat.le_of_ble_eq_true rfl) (Nat.le_of_ble_eq_true rfl) dX1_areTwins_75 ?_
        refine x_icmp_ne C 85 dX1_areTwins_78 (by decide) (fun c4 => ?_) (fun c4 => ?_)
        · replace h := h.1 c4
          refine x_iconst C (n := 1) dX1_areTwins_81 ?_
          refine x_goto C 86 dX1_areTwins_82 (by decide) ?_
          refine x_lv (lv' := [(0, (.ref (K 7))), (1, (iv x1)), (2, (iv x2)), (4, (iv x4))]) [0, 1, 2, 4] rfl ?_
          exact T_X1_areTwins_86 C hret ih x1 x2 x4 1 M h
        · replace h := h.2 c4
          refine x_iconst C (n := 0) dX1_areTwins_85 ?_
          refine x_lv (lv' := [(0, (.ref (K 7))), (1, (iv x1)), (2, (iv x2)), (4, (iv x4))]) [0, 1, 2, 4] rfl ?_
          exact T_X1_areTwins_86 C hret ih x1 x2 x4 0 M h
    · replace h := h.2 c2
      refine x_lv (lv' := [(3, (iv x3))]) [3] rfl ?_
      exact T_X1_areTwins_93 C hret x3 M h
set_option maxHeartbeats 4000000 in
theorem T_X1_areTwins_24 {Q : Int → g_M → Prop} (C : XC p R s m args c D d A cX1_areTwins 5 RX1 1 zc zs) (hret : RTZ p l e R s m args below meth c Qg D d K A 5 zc zs L cX1_areTwins Q) (x1 : Int) (x2 : Int) (t0 : Int) (M : g_M) (h : F_X1_areTwins_24 Q x1 x2 t0 M) : X p l e R s m args below meth c Qg D d K A 5 zc zs L M [(0, (.ref (K 7))), (1, (iv x1)), (2, (iv x2))] 24 [(iv t0)] := by
  refine x_istore_n C dX1_areTwins_24 rfl (by decide) [(3, (iv t0)), (0, (.ref (K 7))), (1, (iv x1)), (2, (iv x2))] rfl ?_
  refine x_iconst C (n := 0) dX1_areTwins_25 ?_
  refine x_istore C dX1_areTwins_26 (by decide) [(4, (iv 0)), (3, (iv t0)), (0, (.ref (K 7))), (1, (iv x1)), (2, (iv x2))] rfl ?_
  refine x_lv (lv' := [(0, (.ref (K 7))), (1, (iv x1)), (2, (iv x2)), (3, (iv t0)), (4, (iv 0))]) [2, 3, 4, 1, 0] rfl ?_
  obtain ⟨n9, h⟩ := h
  exact T_X1_areTwins_28 C hret n9 x1 x2 t0 0 M h
set_option maxHeartbeats 4000000 in
theorem m_X1_areTwins (a1 : Int) (a2 : Int) : MI l D d K yX1_areTwins cX1_areTwins 5 (some .boolean) 1 [(.ref (K 7)), (iv a1), (iv a2)] (fun Q M => F_X1_areTwins Q a1 a2 M) := by
  refine s_mz pn_X1 (Nat.le_of_ble_eq_true rfl) [(0, (.ref (K 7))), (1, (iv a1)), (2, (iv a2))] rfl rfl (fun p e R s m args below meth c A L M zc zs Q Qg C hret h => ?_)
  refine x_aload_n C dX1_areTwins_0 rfl 0 rfl ?_
  refine gf_7_6 C k378 dX1_areTwins_1 ?_
  refine x_iload_n C dX1_areTwins_4 rfl 1 rfl ?_
  refine x_rget C 28 (by decide) k390 (Nat.le_of_ble_eq_true rfl) (Nat.le_of_ble_eq_true rfl) dX1_areTwins_5 ?_
  refine x_aload_n C dX1_areTwins_8 rfl 0 rfl ?_
  refine gf_7_6 C k378 dX1_areTwins_9 ?_
  refine x_iload_n C dX1_areTwins_12 rfl 2 rfl ?_
  refine x_rget C 28 (by decide) k390 (Nat.le_of_ble_eq_true rfl) (Nat.le_of_ble_eq_true rfl) dX1_areTwins_13 ?_
  refine x_icmp_ne C 23 dX1_areTwins_16 (by decide) (fun c1 => ?_) (fun c1 => ?_)
  · replace h := h.1 c1
    refine x_iconst C (n := 1) dX1_areTwins_19 ?_
    refine x_goto C 24 dX1_areTwins_20 (by decide) ?_
    exact T_X1_areTwins_24 C hret a1 a2 1 M h
  · replace h := h.2 c1
    refine x_iconst C (n := 0) dX1_areTwins_23 ?_
    exact T_X1_areTwins_24 C hret a1 a2 0 M h
set_option maxHeartbeats 4000000 in
theorem T_X1_joinTwins_189 {Q : Int → g_M → Prop} (C : XC p R s m args c D d A cX1_joinTwins 6 RX1 2 zc zs) (hret : RTZ p l e R s m args below meth c Qg D d K A 6 zc zs L cX1_joinTwins Q) {k29 : Int → Int → g_M → Prop} (hk29 : ∀ (x1 : Int) (x2 : Int) (M : g_M), k29 x1 x2 M → X p l e R s m args below meth c Qg D d K A 6 zc zs L M [(0, (.ref (K 7))), (1, (iv x1)), (2, (iv x2))] 29 []) (x1 : Int) (x2 : Int) (M : g_M) (h : F_X1_joinTwins_189 Q k29 x1 x2 M) : X p l e R s m args below meth c Qg D d K A 6 zc zs L M [(0, (.ref (K 7))), (1, (iv x1)), (2, (iv x2))] 189 [] := by
  refine x_iinc C dX1_joinTwins_189 2 rfl (by decide) [(2, (iv (x2 + 1))), (0, (.ref (K 7))), (1, (iv x1))] rfl ?_
  refine x_goto C 29 dX1_joinTwins_192 (by decide) ?_
  refine x_lv (lv' := [(0, (.ref (K 7))), (1, (iv x1)), (2, (iv (x2 + 1)))]) [1, 2, 0] rfl ?_
  exact hk29 x1 (x2 + 1) M h
set_option maxHeartbeats 4000000 in
theorem T_X1_joinTwins_122 {Q : Int → g_M → Prop} (C : XC p R s m args c D d A cX1_joinTwins 6 RX1 2 zc zs) (hret : RTZ p l e R s m args below meth c Qg D d K A 6 zc zs L cX1_joinTwins Q) {k29 : Int → Int → g_M → Prop} (hk29 : ∀ (x1 : Int) (x2 : Int) (M : g_M), k29 x1 x2 M → X p l e R s m args below meth c Qg D d K A 6 zc zs L M [(0, (.ref (K 7))), (1, (iv x1)), (2, (iv x2))] 29 []) (x1 : Int) (x2 : Int) (x3 : Int) (x4 : Int) (t1 : Int) (t2 : Int) (M : g_M) (h : F_X1_joinTwins_122 Q k29 x1 x2 x3 x4 t1 t2 M) : X p l e R s m args below meth c Qg D d K A 6 zc zs L M [(0, (.ref (K 7))), (1, (iv x1)), (2, (iv x2)), (3, (iv x3)), (4, (iv x4))] 122 [(iv t2), (iv t1), (.ref (K 77))] := by
  refine x_rset C 27 (by decide) h.1 k375 (Nat.le_of_ble_eq_true rfl) (Nat.le_of_ble_eq_true rfl) dX1_joinTwins_122 ?_
  replace h := h.2
  refine x_iload C dX1_joinTwins_125 4 rfl ?_
  refine x_if_ge C 160 dX1_joinTwins_127 (by decide) (fun c11 => ?_) (fun c11 => ?_)
  · replace h := h.1 c11
    refine x_aload_n C dX1_joinTwins_130 rfl 0 rfl ?_
    refine gf_7_9 C k409 dX1_joinTwins_131 ?_
    refine x_iload_n C dX1_joinTwins_134 rfl 2 rfl ?_
    refine x_aload_n C dX1_joinTwins_135 rfl 0 rfl ?_
    refine gf_7_8 C k399 dX1_joinTwins_136 ?_
    refine x_iload_n C dX1_joinTwins_139 rfl 3 rfl ?_
    refine x_rget C 30 (by decide) k390 (Nat.le_of_ble_eq_true rfl) (Nat.le_of_ble_eq_true rfl) dX1_joinTwins_140 ?_
    refine x_rset C 31 (by decide) h.1 k375 (Nat.le_of_ble_eq_true rfl) (Nat.le_of_ble_eq_true rfl) dX1_joinTwins_143 ?_
    replace h := h.2
    refine x_aload_n C dX1_joinTwins_146 rfl 0 rfl ?_
    refine gf_7_8 C k399 dX1_joinTwins_147 ?_
    refine x_iload_n C dX1_joinTwins_150 rfl 3 rfl ?_
    refine x_iload_n C dX1_joinTwins_151 rfl 2 rfl ?_
    refine x_iconst C (n := 1) dX1_joinTwins_152 ?_
    refine x_iadd C dX1_joinTwins_153 ?_
    refine x_rset C 30 (by decide) h.1 k375 (Nat.le_of_ble_eq_true rfl) (Nat.le_of_ble_eq_true rfl) dX1_joinTwins_154 ?_
    replace h := h.2
    refine x_goto C 189 dX1_joinTwins_157 (by decide) ?_
    refine x_lv (lv' := [(0, (.ref (K 7))), (1, (iv x1)), (2, (iv x2))]) [0, 1, 2] rfl ?_
    exact T_X1_joinTwins_189 C hret hk29 x1 x2 (rs (rs (rs M 27 t1 t2) 31 x2 (rg (rs M 27 t1 t2) 30 x3)) 30 x3 (x2 + 1)) h
  · replace h := h.2 c11
    refine x_aload_n C dX1_joinTwins_160 rfl 0 rfl ?_
    refine gf_7_2 C k374 dX1_joinTwins_161 ?_
    refine x_iload C dX1_joinTwins_164 4 rfl ?_
    refine x_rget C 24 (by decide) k390 (Nat.le_of_ble_eq_true rfl) (Nat.le_of_ble_eq_true rfl) dX1_joinTwins_166 ?_
    refine x_aload_n C dX1_joinTwins_169 rfl 0 rfl ?_
    refine gf_7_2 C k374 dX1_joinTwins_170 ?_
    refine x_iload_n C dX1_joinTwins_173 rfl 2 rfl ?_
    refine x_rget C 24 (by decide) k390 (Nat.le_of_ble_eq_true rfl) (Nat.le_of_ble_eq_true rfl) dX1_joinTwins_174 ?_
    refine x_icmp_eq C 189 dX1_joinTwins_177 (by decide) (fun c12 => ?_) (fun c12 => ?_)
    · replace h := h.1 c12
      refine x_lv (lv' := [(0, (.ref (K 7))), (1, (iv x1)), (2, (iv x2))]) [0, 1, 2] rfl ?_
      exact T_X1_joinTwins_189 C hret hk29 x1 x2 (rs M 27 t1 t2) h
    · replace h := h.2 c12
      refine x_aload_n C dX1_joinTwins_180 rfl 0 rfl ?_
      refine x_iload C dX1_joinTwins_181 4 rfl ?_
      refine x_iload_n C dX1_joinTwins_183 rfl 2 rfl ?_
      refine x_callVv C FX1_join GX1_join k411 (m_X1_join x4 x2) h (by decide) (fun _ => rfl) rfl (Nat.le_of_ble_eq_true rfl) (Nat.le_of_ble_eq_true rfl) (rest := []) (Nat.le_of_ble_eq_true rfl) rfl rfl dX1_joinTwins_184 (fun M13 h => ?_)
      refine x_iconst C (n := 1) dX1_joinTwins_187 ?_
      refine x_istore_n C dX1_joinTwins_188 rfl (by decide) [(1, (iv 1)), (0, (.ref (K 7))), (2, (iv x2)), (3, (iv x3)), (4, (iv x4))] rfl ?_
      refine x_lv (lv' := [(0, (.ref (K 7))), (1, (iv 1)), (2, (iv x2))]) [1, 0, 2] rfl ?_
      exact T_X1_joinTwins_189 C hret hk29 1 x2 M13 h
set_option maxHeartbeats 4000000 in
theorem T_X1_joinTwins_107 {Q : Int → g_M → Prop} (C : XC p R s m args c D d A cX1_joinTwins 6 RX1 2 zc zs) (hret : RTZ p l e R s m args below meth c Qg D d K A 6 zc zs L cX1_joinTwins Q) {k29 : Int → Int → g_M → Prop} (hk29 : ∀ (x1 : Int) (x2 : Int) (M : g_M), k29 x1 x2 M → X p l e R s m args below meth c Qg D d K A 6 zc zs L M [(0, (.ref (K 7))), (1, (iv x1)), (2, (iv x2))] 29 []) (x1 : Int) (x2 : Int) (x3 : Int) (x4 : Int) (M : g_M) (h : F_X1_joinTwins_107 Q k29 x1 x2 x3 x4 M) : X p l e R s m args below meth c Qg D d K A 6 zc zs L M [(0, (.ref (K 7))), (1, (iv x1)), (2, (iv x2)), (3, (iv x3)), (4, (iv x4))] 107 [] := by
  refine x_aload_n C dX1_joinTwins_107 rfl 0 rfl ?_
  refine gf_7_5 C k410 dX1_joinTwins_108 ?_
  refine x_iload_n C dX1_joinTwins_111 rfl 2 rfl ?_
  refine x_iload C dX1_joinTwins_112 4 rfl ?_
  refine x_if_ge C 121 dX1_joinTwins_114 (by decide) (fun c10 => ?_) (fun c10 => ?_)
  · replace h := h.1 c10
    refine x_iconst C (n := 0) dX1_joinTwins_117 ?_
    refine x_goto C 122 dX1_joinTwins_118 (by decide) ?_
    exact T_X1_joinTwins_122 C hret hk29 x1 x2 x3 x4 x2 0 M h
  · replace h := h.2 c10
    refine x_iconst C (n := 1) dX1_joinTwins_121 ?_
    exact T_X1_joinTwins_122 C hret hk29 x1 x2 x3 x4 x2 1 M h
set_option maxHeartbeats 4000000 in
theorem T_X1_joinTwins_61 {Q : Int → g_M → Prop} (C : XC p R s m args c D d A cX1_joinTwins 6 RX1 2 zc zs) (hret : RTZ p l e R s m args below meth c Qg D d K A 6 zc zs L cX1_joinTwins Q) {k29 : Int → Int → g_M → Prop} (hk29 : ∀ (x1 : Int) (x2 : Int) (M : g_M), k29 x1 x2 M → X p l e R s m args below meth c Qg D d K A 6 zc zs L M [(0, (.ref (K 7))), (1, (iv x1)), (2, (iv x2))] 29 []) : ∀ (n : Nat) (x1 : Int) (x2 : Int) (x3 : Int) (x4 : Int) (x5 : Int) (M : g_M), F_X1_joinTwins_61 Q k29 n x1 x2 x3 x4 x5 M → X p l e R s m args below meth c Qg D d K A 6 zc zs L M [(0, (.ref (K 7))), (1, (iv x1)), (2, (iv x2)), (3, (iv x3)), (4, (iv x4)), (5, (iv x5))] 61 [] := by
  intro n
  induction n with
  | zero =>
    intro x1 x2 x3 x4 x5 M h
    exact h.elim
  | succ n ih =>
    intro x1 x2 x3 x4 x5 M h
    replace h : F_X10_count (fun v5 M5 => ((bm x5 < bm v5 → (((bm x4 < 0 → (F_X1_joinTwins_107 Q k29 x1 x2 x3 x4 M5)) ∧ (¬ bm x4 < 0 → (F_X1_areTwins (fun v8 M8 => ((bm v8 = 0 → (F_X1_joinTwins_61 Q k29 n x1 x2 x3 ((rg M8 31 x4) - 1) (x5 + 1) M8)) ∧ (¬ bm v8 = 0 → (F_X1_joinTwins_107 Q k29 x1 x2 x3 x4 M8)))) x2 x4 M5))))) ∧ (¬ bm x5 < bm v5 → (F_X1_joinTwins_107 Q k29 x1 x2 x3 x4 M5)))) M := h
    refine x_iload C dX1_joinTwins_61 5 rfl ?_
    refine x_aload_n C dX1_joinTwins_63 rfl 0 rfl ?_
    refine gf_7_1 C k372 dX1_joinTwins_64 ?_
    refine x_callVi C FX10_count GX10_count k373 (m_X10_count) h (by decide) (fun _ => rfl) rfl (Nat.le_of_ble_eq_true rfl) (Nat.le_of_ble_eq_true rfl) (rest := [(iv x5)]) (Nat.le_of_ble_eq_true rfl) rfl rfl dX1_joinTwins_67 (fun v5 M5 h => ?_)
    refine x_icmp_ge C 107 dX1_joinTwins_70 (by decide) (fun c6 => ?_) (fun c6 => ?_)
    · replace h := h.1 c6
      refine x_iload C dX1_joinTwins_73 4 rfl ?_
      refine x_if_lt C 107 dX1_joinTwins_75 (by decide) (fun c7 => ?_) (fun c7 => ?_)
      · replace h := h.1 c7
        refine x_lv (lv' := [(0, (.ref (K 7))), (1, (iv x1)), (2, (iv x2)), (3, (iv x3)), (4, (iv x4))]) [0, 1, 2, 3, 4] rfl ?_
        exact T_X1_joinTwins_107 C hret hk29 x1 x2 x3 x4 M5 h
      · replace h := h.2 c7
        refine x_aload_n C dX1_joinTwins_78 rfl 0 rfl ?_
        refine x_iload_n C dX1_joinTwins_79 rfl 2 rfl ?_
        refine x_iload C dX1_joinTwins_80 4 rfl ?_
        refine x_callVi C FX1_areTwins GX1_areTwins k405 (m_X1_areTwins x2 x4) h (by decide) (fun _ => rfl) rfl (Nat.le_of_ble_eq_true rfl) (Nat.le_of_ble_eq_true rfl) (rest := []) (Nat.le_of_ble_eq_true rfl) rfl rfl dX1_joinTwins_82 (fun v8 M8 h => ?_)
        refine x_if_ne C 107 dX1_joinTwins_85 (by decide) (fun c9 => ?_) (fun c9 => ?_)
        · replace h := h.1 c9
          refine x_aload_n C dX1_joinTwins_88 rfl 0 rfl ?_
          refine gf_7_9 C k409 dX1_joinTwins_89 ?_
          refine x_iload C dX1_joinTwins_92 4 rfl ?_
          refine x_rget C 31 (by decide) k390 (Nat.le_of_ble_eq_true rfl) (Nat.le_of_ble_eq_true rfl) dX1_joinTwins_94 ?_
          refine x_iconst C (n := 1) dX1_joinTwins_97 ?_
          refine x_isub C dX1_joinTwins_98 ?_
          refine x_istore C dX1_joinTwins_99 (by decide) [(4, (iv ((rg M8 31 x4) - 1))), (0, (.ref (K 7))), (1, (iv x1)), (2, (iv x2)), (3, (iv x3)), (5, (iv x5))] rfl ?_
          refine x_iinc C dX1_joinTwins_101 5 rfl (by decide) [(5, (iv (x5 + 1))), (4, (iv ((rg M8 31 x4) - 1))), (0, (.ref (K 7))), (1, (iv x1)), (2, (iv x2)), (3, (iv x3))] rfl ?_
          refine x_goto C 61 dX1_joinTwins_104 (by decide) ?_
          refine x_lv (lv' := [(0, (.ref (K 7))), (1, (iv x1)), (2, (iv x2)), (3, (iv x3)), (4, (iv ((rg M8 31 x4) - 1))), (5, (iv (x5 + 1)))]) [2, 3, 4, 5, 1, 0] rfl ?_
          exact ih x1 x2 x3 ((rg M8 31 x4) - 1) (x5 + 1) M8 h
        · replace h := h.2 c9
          refine x_lv (lv' := [(0, (.ref (K 7))), (1, (iv x1)), (2, (iv x2)), (3, (iv x3)), (4, (iv x4))]) [0, 1, 2, 3, 4] rfl ?_
          exact T_X1_joinTwins_107 C hret hk29 x1 x2 x3 x4 M8 h
    · replace h := h.2 c6
      refine x_lv (lv' := [(0, (.ref (K 7))), (1, (iv x1)), (2, (iv x2)), (3, (iv x3)), (4, (iv x4))]) [0, 1, 2, 3, 4] rfl ?_
      exact T_X1_joinTwins_107 C hret hk29 x1 x2 x3 x4 M5 h
set_option maxHeartbeats 4000000 in
theorem T_X1_joinTwins_29 {Q : Int → g_M → Prop} (C : XC p R s m args c D d A cX1_joinTwins 6 RX1 2 zc zs) (hret : RTZ p l e R s m args below meth c Qg D d K A 6 zc zs L cX1_joinTwins Q) : ∀ (n : Nat) (x1 : Int) (x2 : Int) (M : g_M), F_X1_joinTwins_29 Q n x1 x2 M → X p l e R s m args below meth c Qg D d K A 6 zc zs L M [(0, (.ref (K 7))), (1, (iv x1)), (2, (iv x2))] 29 [] := by
  intro n
  induction n with
  | zero =>
    intro x1 x2 M h
    exact h.elim
  | succ n ih =>
    intro x1 x2 M h
    replace h : F_X10_count (fun v2 M2 => ((bm x2 < bm v2 → (F_X1_bucketOf (fun v4 M4 => ∃ n9, F_X1_joinTwins_61 Q (F_X1_joinTwins_29 Q n) n9 x1 x2 v4 ((rg M4 30 v4) - 1) 0 M4) x2 M2)) ∧ (¬ bm x2 < bm v2 → (isB x1 ∧ Q x1 M2)))) M := h
    refine x_iload_n C dX1_joinTwins_29 rfl 2 rfl ?_
    refine x_aload_n C dX1_joinTwins_30 rfl 0 rfl ?_
    refine gf_7_1 C k372 dX1_joinTwins_31 ?_
    refine x_callVi C FX10_count GX10_count k373 (m_X10_count) h (by decide) (fun _ => rfl) rfl (Nat.le_of_ble_eq_true rfl) (Nat.le_of_ble_eq_true rfl) (rest := [(iv x2)]) (Nat.le_of_ble_eq_true rfl) rfl rfl dX1_joinTwins_34 (fun v2 M2 h => ?_)
    refine x_icmp_ge C 195 dX1_joinTwins_37 (by decide) (fun c3 => ?_) (fun c3 => ?_)
    · replace h := h.1 c3
      refine x_aload_n C dX1_joinTwins_40 rfl 0 rfl ?_
      refine x_iload_n C dX1_joinTwins_41 rfl 2 rfl ?_
      refine x_callVi C FX1_bucketOf GX1_bucketOf k401 (m_X1_bucketOf x2) h (by decide) (fun _ => rfl) rfl (Nat.le_of_ble_eq_true rfl) (Nat.le_of_ble_eq_true rfl) (rest := []) (Nat.le_of_ble_eq_true rfl) rfl rfl dX1_joinTwins_42 (fun v4 M4 h => ?_)
      refine x_istore_n C dX1_joinTwins_45 rfl (by decide) [(3, (iv v4)), (0, (.ref (K 7))), (1, (iv x1)), (2, (iv x2))] rfl ?_
      refine x_aload_n C dX1_joinTwins_46 rfl 1 rfl ?_
      refine gf_7_8 C k399 dX1_joinTwins_47 ?_
      refine x_iload_n C dX1_joinTwins_50 rfl 0 rfl ?_
      refine x_rget C 30 (by decide) k390 (Nat.le_of_ble_eq_true rfl) (Nat.le_of_ble_eq_true rfl) dX1_joinTwins_51 ?_
      refine x_iconst C (n := 1) dX1_joinTwins_54 ?_
      refine x_isub C dX1_joinTwins_55 ?_
      refine x_istore C dX1_joinTwins_56 (by decide) [(4, (iv ((rg M4 30 v4) - 1))), (3, (iv v4)), (0, (.ref (K 7))), (1, (iv x1)), (2, (iv x2))] rfl ?_
      refine x_iconst C (n := 0) dX1_joinTwins_58 ?_
      refine x_istore C dX1_joinTwins_59 (by decide) [(5, (iv 0)), (4, (iv ((rg M4 30 v4) - 1))), (3, (iv v4)), (0, (.ref (K 7))), (1, (iv x1)), (2, (iv x2))] rfl ?_
      refine x_lv (lv' := [(0, (.ref (K 7))), (1, (iv x1)), (2, (iv x2)), (3, (iv v4)), (4, (iv ((rg M4 30 v4) - 1))), (5, (iv 0))]) [3, 4, 5, 2, 1, 0] rfl ?_
      obtain ⟨n9, h⟩ := h
      exact T_X1_joinTwins_61 C hret ih n9 x1 x2 v4 ((rg M4 30 v4) - 1) 0 M4 h
    · replace h := h.2 c3
      refine x_iload_n C dX1_joinTwins_195 rfl 1 rfl ?_
      exact hret _ _ _ _ dX1_joinTwins_196 h.1 h.2
set_option maxHeartbeats 4000000 in
theorem T_X1_joinTwins_4 {Q : Int → g_M → Prop} (C : XC p R s m args c D d A cX1_joinTwins 6 RX1 2 zc zs) (hret : RTZ p l e R s m args below meth c Qg D d K A 6 zc zs L cX1_joinTwins Q) : ∀ (n : Nat) (x1 : Int) (x2 : Int) (M : g_M), F_X1_joinTwins_4 Q n x1 x2 M → X p l e R s m args below meth c Qg D d K A 6 zc zs L M [(0, (.ref (K 7))), (1, (iv x1)), (2, (iv x2))] 4 [] := by
  intro n
  induction n with
  | zero =>
    intro x1 x2 M h
    exact h.elim
  | succ n ih =>
    intro x1 x2 M h
    replace h : ((bm x2 < bm (M 47 10) → ((okI 30 x2 ∧ F_X1_joinTwins_4 Q n x1 (x2 + 1) (rs M 30 x2 0)))) ∧ (¬ bm x2 < bm (M 47 10) → (∃ n9, F_X1_joinTwins_29 Q n9 x1 0 M))) := h
    refine x_iload_n C dX1_joinTwins_4 rfl 2 rfl ?_
    refine x_aload_n C dX1_joinTwins_5 rfl 0 rfl ?_
    refine gf_7_10 C k371 dX1_joinTwins_6 ?_
    refine x_icmp_ge C 27 dX1_joinTwins_9 (by decide) (fun c1 => ?_) (fun c1 => ?_)
    · replace h := h.1 c1
      refine x_aload_n C dX1_joinTwins_12 rfl 0 rfl ?_
      refine gf_7_8 C k399 dX1_joinTwins_13 ?_
      refine x_iload_n C dX1_joinTwins_16 rfl 2 rfl ?_
      refine x_iconst C (n := 0) dX1_joinTwins_17 ?_
      refine x_rset C 30 (by decide) h.1 k375 (Nat.le_of_ble_eq_true rfl) (Nat.le_of_ble_eq_true rfl) dX1_joinTwins_18 ?_
      replace h := h.2
      refine x_iinc C dX1_joinTwins_21 2 rfl (by decide) [(2, (iv (x2 + 1))), (0, (.ref (K 7))), (1, (iv x1))] rfl ?_
      refine x_goto C 4 dX1_joinTwins_24 (by decide) ?_
      refine x_lv (lv' := [(0, (.ref (K 7))), (1, (iv x1)), (2, (iv (x2 + 1)))]) [1, 2, 0] rfl ?_
      exact ih x1 (x2 + 1) (rs M 30 x2 0) h
    · replace h := h.2 c1
      refine x_iconst C (n := 0) dX1_joinTwins_27 ?_
      refine x_istore_n C dX1_joinTwins_28 rfl (by decide) [(2, (iv 0)), (0, (.ref (K 7))), (1, (iv x1))] rfl ?_
      refine x_lv (lv' := [(0, (.ref (K 7))), (1, (iv x1)), (2, (iv 0))]) [1, 2, 0] rfl ?_
      obtain ⟨n9, h⟩ := h
      exact T_X1_joinTwins_29 C hret n9 x1 0 M h
set_option maxHeartbeats 4000000 in
theorem m_X1_joinTwins  : MI l D d K yX1_joinTwins cX1_joinTwins 6 (some .boolean) 2 [(.ref (K 7))] (fun Q M => F_X1_joinTwins Q M) := by
  refine s_mz pn_X1 (Nat.le_of_ble_eq_true rfl) [(0, (.ref (K 7)))] rfl rfl (fun p e R s m args below meth c A L M zc zs Q Qg C hret h => ?_)
  refine x_iconst C (n := 0) dX1_joinTwins_0 ?_
  refine x_istore_n C dX1_joinTwins_1 rfl (by decide) [(1, (iv 0)), (0, (.ref (K 7)))] rfl ?_
  refine x_iconst C (n := 0) dX1_joinTwins_2 ?_
  refine x_istore_n C dX1_joinTwins_3 rfl (by decide) [(2, (iv 0)), (1, (iv 0)), (0, (.ref (K 7)))] rfl ?_
  refine x_lv (lv' := [(0, (.ref (K 7))), (1, (iv 0)), (2, (iv 0))]) [2, 1, 0] rfl ?_
  obtain ⟨n9, h⟩ := h
  exact T_X1_joinTwins_4 C hret n9 0 0 M h
set_option maxHeartbeats 4000000 in
theorem T_X1_close_2 {Q : g_M → Prop} (C : XC p R s m args c D d A cX1_close 2 RX1 3 zc zs) (hret : RTV p l e R s m args below meth c Qg D d K A 2 zc zs L cX1_close Q) : ∀ (n : Nat) (x1 : Int) (M : g_M), F_X1_close_2 Q n x1 M → X p l e R s m args below meth c Qg D d K A 2 zc zs L M [(0, (.ref (K 7))), (1, (iv x1))] 2 [] := by
  intro n
  induction n with
  | zero =>
    intro x1 M h
    exact h.elim
  | succ n ih =>
    intro x1 M h
    replace h : F_X10_count (fun v1 M1 => ((bm v1 < bm x1 → (Q M1)) ∧ (¬ bm v1 < bm x1 → (F_X1_joinTwins (fun v3 M3 => ((bm v3 = 0 → (Q M3)) ∧ (¬ bm v3 = 0 → (F_X1_close_2 Q n (x1 + 1) M3)))) M1)))) M := h
    refine x_iload_n C dX1_close_2 rfl 1 rfl ?_
    refine x_aload_n C dX1_close_3 rfl 0 rfl ?_
    refine gf_7_1 C k372 dX1_close_4 ?_
    refine x_callVi C FX10_count GX10_count k373 (m_X10_count) h (by decide) (fun _ => rfl) rfl (Nat.le_of_ble_eq_true rfl) (Nat.le_of_ble_eq_true rfl) (rest := [(iv x1)]) (Nat.le_of_ble_eq_true rfl) rfl rfl dX1_close_7 (fun v1 M1 h => ?_)
    refine x_icmp_gt C 27 dX1_close_10 (by decide) (fun c2 => ?_) (fun c2 => ?_)
    · replace h := h.1 c2
      exact hret _ _ _ dX1_close_27 h
    · replace h := h.2 c2
      refine x_aload_n C dX1_close_13 rfl 0 rfl ?_
      refine x_callVi C FX1_joinTwins GX1_joinTwins k412 (m_X1_joinTwins) h (by decide) (fun _ => rfl) rfl (Nat.le_of_ble_eq_true rfl) (Nat.le_of_ble_eq_true rfl) (rest := []) (Nat.le_of_ble_eq_true rfl) rfl rfl dX1_close_14 (fun v3 M3 h => ?_)
      refine x_if_ne C 21 dX1_close_17 (by decide) (fun c4 => ?_) (fun c4 => ?_)
      · replace h := h.1 c4
        exact hret _ _ _ dX1_close_20 h
      · replace h := h.2 c4
        refine x_iinc C dX1_close_21 1 rfl (by decide) [(1, (iv (x1 + 1))), (0, (.ref (K 7)))] rfl ?_
        refine x_goto C 2 dX1_close_24 (by decide) ?_
        refine x_lv (lv' := [(0, (.ref (K 7))), (1, (iv (x1 + 1)))]) [1, 0] rfl ?_
        exact ih (x1 + 1) M3 h
set_option maxHeartbeats 4000000 in
theorem m_X1_close  : MV l D d K yX1_close cX1_close 2 none 3 [(.ref (K 7))] (fun Q M => F_X1_close Q M) := by
  refine s_mv pn_X1 (Nat.le_of_ble_eq_true rfl) [(0, (.ref (K 7)))] rfl rfl (fun p e R s m args below meth c A L M zc zs Q Qg C hret h => ?_)
  refine x_iconst C (n := 0) dX1_close_0 ?_
  refine x_istore_n C dX1_close_1 rfl (by decide) [(1, (iv 0)), (0, (.ref (K 7)))] rfl ?_
  refine x_lv (lv' := [(0, (.ref (K 7))), (1, (iv 0))]) [1, 0] rfl ?_
  obtain ⟨n9, h⟩ := h
  exact T_X1_close_2 C hret n9 0 M h
set_option maxHeartbeats 4000000 in
theorem T_X1_pourInto_109 {Q : g_M → Prop} (C : XC p R s m args c D d A cX1_pourInto 5 RX1 2 zc zs) (hret : RTV p l e R s m args below meth c Qg D d K A 5 zc zs L cX1_pourInto Q) {k13 : Int → g_M → Prop} (hk13 : ∀ (x2 : Int) (M : g_M), k13 x2 M → X p l e R s m args below meth c Qg D d K A 5 zc zs L M [(0, (.ref (K 7))), (1, (.ref (K 4))), (2, (iv x2))] 13 []) (x2 : Int) (M : g_M) (h : F_X1_pourInto_109 Q k13 x2 M) : X p l e R s m args below meth c Qg D d K A 5 zc zs L M [(0, (.ref (K 7))), (1, (.ref (K 4))), (2, (iv x2))] 109 [] := by
  refine x_iinc C dX1_pourInto_109 2 rfl (by decide) [(2, (iv (x2 + 1))), (0, (.ref (K 7))), (1, (.ref (K 4)))] rfl ?_
  refine x_goto C 13 dX1_pourInto_112 (by decide) ?_
  refine x_lv (lv' := [(0, (.ref (K 7))), (1, (.ref (K 4))), (2, (iv (x2 + 1)))]) [1, 2, 0] rfl ?_
  exact hk13 (x2 + 1) M h
set_option maxHeartbeats 4000000 in
theorem T_X1_pourInto_66 {Q : g_M → Prop} (C : XC p R s m args c D d A cX1_pourInto 5 RX1 2 zc zs) (hret : RTV p l e R s m args below meth c Qg D d K A 5 zc zs L cX1_pourInto Q) {k13 : Int → g_M → Prop} (hk13 : ∀ (x2 : Int) (M : g_M), k13 x2 M → X p l e R s m args below meth c Qg D d K A 5 zc zs L M [(0, (.ref (K 7))), (1, (.ref (K 4))), (2, (iv x2))] 13 []) : ∀ (n : Nat) (x2 : Int) (x3 : Int) (x4 : Int) (M : g_M), F_X1_pourInto_66 Q k13 n x2 x3 x4 M → X p l e R s m args below meth c Qg D d K A 5 zc zs L M [(0, (.ref (K 7))), (1, (.ref (K 4))), (2, (iv x2)), (3, (iv x3)), (4, (iv x4))] 66 [] := by
  intro n
  induction n with
  | zero =>
    intro x2 x3 x4 M h
    exact h.elim
  | succ n ih =>
    intro x2 x3 x4 M h
    replace h : F_X2_arity (fun v9 M9 => ((bm x4 < bm v9 → (F_X2_setPart (fun M11 => F_X1_pourInto_66 Q k13 n x2 x3 (x4 + 1) M11) x3 x4 (rg M9 24 (rg M9 29 ((3 * x2) + x4))) M9)) ∧ (¬ bm x4 < bm v9 → (F_X1_pourInto_109 Q k13 x2 M9)))) x3 M := h
    refine x_iload C dX1_pourInto_66 4 rfl ?_
    refine x_aload_n C dX1_pourInto_68 rfl 1 rfl ?_
    refine x_iload_n C dX1_pourInto_69 rfl 3 rfl ?_
    refine x_callVi C FX2_arity GX2_arity k423 (m_X2_arity x3) h (by decide) (fun _ => rfl) rfl (Nat.le_of_ble_eq_true rfl) (Nat.le_of_ble_eq_true rfl) (rest := [(iv x4)]) (Nat.le_of_ble_eq_true rfl) rfl rfl dX1_pourInto_70 (fun v9 M9 h => ?_)
    refine x_icmp_ge C 109 dX1_pourInto_73 (by decide) (fun c10 => ?_) (fun c10 => ?_)
    · replace h := h.1 c10
      refine x_aload_n C dX1_pourInto_76 rfl 1 rfl ?_
      refine x_iload_n C dX1_pourInto_77 rfl 3 rfl ?_
      refine x_iload C dX1_pourInto_78 4 rfl ?_
      refine x_aload_n C dX1_pourInto_80 rfl 0 rfl ?_
      refine gf_7_2 C k374 dX1_pourInto_81 ?_
      refine x_aload_n C dX1_pourInto_84 rfl 0 rfl ?_
      refine gf_7_7 C k382 dX1_pourInto_85 ?_
      refine x_iconst C (n := 3) dX1_pourInto_88 ?_
      refine x_iload_n C dX1_pourInto_89 rfl 2 rfl ?_
      refine x_imul C dX1_pourInto_90 ?_
      refine x_iload C dX1_pourInto_91 4 rfl ?_
      refine x_iadd C dX1_pourInto_93 ?_
      refine x_rget C 29 (by decide) k390 (Nat.le_of_ble_eq_true rfl) (Nat.le_of_ble_eq_true rfl) dX1_pourInto_94 ?_
      refine x_rget C 24 (by decide) k390 (Nat.le_of_ble_eq_true rfl) (Nat.le_of_ble_eq_true rfl) dX1_pourInto_97 ?_
      refine x_callVv C FX2_setPart GX2_setPart k424 (m_X2_setPart x3 x4 (rg M9 24 (rg M9 29 ((3 * x2) + x4)))) h (by decide) (fun _ => rfl) rfl (Nat.le_of_ble_eq_true rfl) (Nat.le_of_ble_eq_true rfl) (rest := []) (Nat.le_of_ble_eq_true rfl) rfl rfl dX1_pourInto_100 (fun M11 h => ?_)
      refine x_iinc C dX1_pourInto_103 4 rfl (by decide) [(4, (iv (x4 + 1))), (0, (.ref (K 7))), (1, (.ref (K 4))), (2, (iv x2)), (3, (iv x3))] rfl ?_
      refine x_goto C 66 dX1_pourInto_106 (by decide) ?_
      refine x_lv (lv' := [(0, (.ref (K 7))), (1, (.ref (K 4))), (2, (iv x2)), (3, (iv x3)), (4, (iv (x4 + 1)))]) [1, 2, 3, 4, 0] rfl ?_
      exact ih x2 x3 (x4 + 1) M11 h
    · replace h := h.2 c10
      refine x_lv (lv' := [(0, (.ref (K 7))), (1, (.ref (K 4))), (2, (iv x2))]) [0, 1, 2] rfl ?_
      exact T_X1_pourInto_109 C hret hk13 x2 M9 h
set_option maxHeartbeats 4000000 in
theorem T_X1_pourInto_13 {Q : g_M → Prop} (C : XC p R s m args c D d A cX1_pourInto 5 RX1 2 zc zs) (hret : RTV p l e R s m args below meth c Qg D d K A 5 zc zs L cX1_pourInto Q) : ∀ (n : Nat) (x2 : Int) (M : g_M), F_X1_pourInto_13 Q n x2 M → X p l e R s m args below meth c Qg D d K A 5 zc zs L M [(0, (.ref (K 7))), (1, (.ref (K 4))), (2, (iv x2))] 13 [] := by
  intro n
  induction n with
  | zero =>
    intro x2 M h
    exact h.elim
  | succ n ih =>
    intro x2 M h
    replace h : F_X10_count (fun v3 M3 => ((bm x2 < bm v3 → (((bm (rg M3 27 x2) = 0 → (F_X10_node (fun v6 M6 => F_X8_symbol (fun v7 M7 => F_X2_addProduction (fun v8 M8 => ∃ n9, F_X1_pourInto_66 Q (F_X1_pourInto_13 Q n) n9 x2 v8 0 M8) (rg M3 24 x2) v7 M7) v6 M6) x2 M3)) ∧ (¬ bm (rg M3 27 x2) = 0 → (F_X1_pourInto_109 Q (F_X1_pourInto_13 Q n) x2 M3))))) ∧ (¬ bm x2 < bm v3 → (Q M3)))) M := h
    refine x_iload_n C dX1_pourInto_13 rfl 2 rfl ?_
    refine x_aload_n C dX1_pourInto_14 rfl 0 rfl ?_
    refine gf_7_1 C k372 dX1_pourInto_15 ?_
    refine x_callVi C FX10_count GX10_count k373 (m_X10_count) h (by decide) (fun _ => rfl) rfl (Nat.le_of_ble_eq_true rfl) (Nat.le_of_ble_eq_true rfl) (rest := [(iv x2)]) (Nat.le_of_ble_eq_true rfl) rfl rfl dX1_pourInto_18 (fun v3 M3 h => ?_)
    refine x_icmp_ge C 115 dX1_pourInto_21 (by decide) (fun c4 => ?_) (fun c4 => ?_)
    · replace h := h.1 c4
      refine x_aload_n C dX1_pourInto_24 rfl 0 rfl ?_
      refine gf_7_5 C k410 dX1_pourInto_25 ?_
      refine x_iload_n C dX1_pourInto_28 rfl 2 rfl ?_
      refine x_rget C 27 (by decide) k390 (Nat.le_of_ble_eq_true rfl) (Nat.le_of_ble_eq_true rfl) dX1_pourInto_29 ?_
      refine x_if_ne C 109 dX1_pourInto_32 (by decide) (fun c5 => ?_) (fun c5 => ?_)
      · replace h := h.1 c5
        refine x_aload_n C dX1_pourInto_35 rfl 1 rfl ?_
        refine x_aload_n C dX1_pourInto_36 rfl 0 rfl ?_
        refine gf_7_2 C k374 dX1_pourInto_37 ?_
        refine x_iload_n C dX1_pourInto_40 rfl 2 rfl ?_
        refine x_rget C 24 (by decide) k390 (Nat.le_of_ble_eq_true rfl) (Nat.le_of_ble_eq_true rfl) dX1_pourInto_41 ?_
        refine x_aload_n C dX1_pourInto_44 rfl 0 rfl ?_
        refine gf_7_0 C k379 dX1_pourInto_45 ?_
        refine x_aload_n C dX1_pourInto_48 rfl 0 rfl ?_
        refine gf_7_1 C k372 dX1_pourInto_49 ?_
        refine x_iload_n C dX1_pourInto_52 rfl 2 rfl ?_
        refine x_callVi C FX10_node GX10_node k380 (m_X10_node x2) h (by decide) (fun _ => rfl) rfl (Nat.le_of_ble_eq_true rfl) (Nat.le_of_ble_eq_true rfl) (rest := [(.ref (K 2)), (iv (rg M3 24 x2)), (.ref (K 4))]) (Nat.le_of_ble_eq_true rfl) rfl rfl dX1_pourInto_53 (fun v6 M6 h => ?_)
        refine x_callVi C FX8_symbol GX8_symbol k381 (m_X8_symbol v6) h (by decide) (fun _ => rfl) rfl (Nat.le_of_ble_eq_true rfl) (Nat.le_of_ble_eq_true rfl) (rest := [(iv (rg M3 24 x2)), (.ref (K 4))]) (Nat.le_of_ble_eq_true rfl) rfl rfl dX1_pourInto_56 (fun v7 M7 h => ?_)
        refine x_callVi C FX2_addProduction GX2_addProduction k422 (m_X2_addProduction (rg M3 24 x2) v7) h (by decide) (fun _ => rfl) rfl (Nat.le_of_ble_eq_true rfl) (Nat.le_of_ble_eq_true rfl) (rest := []) (Nat.le_of_ble_eq_true rfl) rfl rfl dX1_pourInto_59 (fun v8 M8 h => ?_)
        refine x_istore_n C dX1_pourInto_62 rfl (by decide) [(3, (iv v8)), (0, (.ref (K 7))), (1, (.ref (K 4))), (2, (iv x2))] rfl ?_
        refine x_iconst C (n := 0) dX1_pourInto_63 ?_
        refine x_istore C dX1_pourInto_64 (by decide) [(4, (iv 0)), (3, (iv v8)), (0, (.ref (K 7))), (1, (.ref (K 4))), (2, (iv x2))] rfl ?_
        refine x_lv (lv' := [(0, (.ref (K 7))), (1, (.ref (K 4))), (2, (iv x2)), (3, (iv v8)), (4, (iv 0))]) [2, 3, 4, 1, 0] rfl ?_
        obtain ⟨n9, h⟩ := h
        exact T_X1_pourInto_66 C hret ih n9 x2 v8 0 M8 h
      · replace h := h.2 c5
        exact T_X1_pourInto_109 C hret ih x2 M3 h
    · replace h := h.2 c4
      exact hret _ _ _ dX1_pourInto_115 h
set_option maxHeartbeats 4000000 in
theorem m_X1_pourInto  : MV l D d K yX1_pourInto cX1_pourInto 5 none 2 [(.ref (K 7)), (.ref (K 4))] (fun Q M => F_X1_pourInto Q M) := by
  refine s_mv pn_X1 (Nat.le_of_ble_eq_true rfl) [(0, (.ref (K 7))), (1, (.ref (K 4)))] rfl rfl (fun p e R s m args below meth c A L M zc zs Q Qg C hret h => ?_)
  refine x_aload_n C dX1_pourInto_0 rfl 1 rfl ?_
  refine x_aload_n C dX1_pourInto_1 rfl 0 rfl ?_
  refine gf_7_1 C k372 dX1_pourInto_2 ?_
  refine x_callVi C FX10_count GX10_count k373 (m_X10_count) h (by decide) (fun _ => rfl) rfl (Nat.le_of_ble_eq_true rfl) (Nat.le_of_ble_eq_true rfl) (rest := [(.ref (K 4))]) (Nat.le_of_ble_eq_true rfl) rfl rfl dX1_pourInto_5 (fun v1 M1 h => ?_)
  refine x_callVv C FX2_clear GX2_clear k421 (m_X2_clear v1) h (by decide) (fun _ => rfl) rfl (Nat.le_of_ble_eq_true rfl) (Nat.le_of_ble_eq_true rfl) (rest := []) (Nat.le_of_ble_eq_true rfl) rfl rfl dX1_pourInto_8 (fun M2 h => ?_)
  refine x_iconst C (n := 0) dX1_pourInto_11 ?_
  refine x_istore_n C dX1_pourInto_12 rfl (by decide) [(2, (iv 0)), (0, (.ref (K 7))), (1, (.ref (K 4)))] rfl ?_
  refine x_lv (lv' := [(0, (.ref (K 7))), (1, (.ref (K 4))), (2, (iv 0))]) [1, 2, 0] rfl ?_
  obtain ⟨n9, h⟩ := h
  exact T_X1_pourInto_13 C hret n9 0 M2 h
set_option maxHeartbeats 4000000 in
theorem m_X2_sequenceCount  : MI l D d K yX2_sequenceCount cX2_sequenceCount 1 (some .int) 0 [(.ref (K 4))] (fun Q M => F_X2_sequenceCount Q M) := by
  refine s_mi pn_X2 (Nat.le_of_ble_eq_true rfl) [(0, (.ref (K 4)))] rfl rfl (fun p e R s m args below meth c A L M zc zs Q Qg C hret h => ?_)
  refine x_aload_n C dX2_sequenceCount_0 rfl 0 rfl ?_
  refine gf_4_18 C k304 dX2_sequenceCount_1 ?_
  exact hret _ _ _ _ dX2_sequenceCount_4 h
set_option maxHeartbeats 4000000 in
theorem m_X2_ranked (a1 : Int) : MI l D d K yX2_ranked cX2_ranked 2 (some .int) 1 [(.ref (K 4)), (iv a1)] (fun Q M => F_X2_ranked Q a1 M) := by
  refine s_mi pn_X2 (Nat.le_of_ble_eq_true rfl) [(0, (.ref (K 4))), (1, (iv a1))] rfl rfl (fun p e R s m args below meth c A L M zc zs Q Qg C hret h => ?_)
  refine x_aload_n C dX2_ranked_0 rfl 0 rfl ?_
  refine gf_4_13 C k339 dX2_ranked_1 ?_
  refine x_iload_n C dX2_ranked_4 rfl 1 rfl ?_
  refine x_rget C 22 (by decide) k279 (Nat.le_of_ble_eq_true rfl) (Nat.le_of_ble_eq_true rfl) dX2_ranked_5 ?_
  exact hret _ _ _ _ dX2_ranked_8 h
set_option maxHeartbeats 4000000 in
theorem m_X2_owner (a1 : Int) : MI l D d K yX2_owner cX2_owner 2 (some .int) 1 [(.ref (K 4)), (iv a1)] (fun Q M => F_X2_owner Q a1 M) := by
  refine s_mi pn_X2 (Nat.le_of_ble_eq_true rfl) [(0, (.ref (K 4))), (1, (iv a1))] rfl rfl (fun p e R s m args below meth c A L M zc zs Q Qg C hret h => ?_)
  refine x_aload_n C dX2_owner_0 rfl 0 rfl ?_
  refine gf_4_1 C k271 dX2_owner_1 ?_
  refine x_iload_n C dX2_owner_4 rfl 1 rfl ?_
  refine x_rget C 10 (by decide) k279 (Nat.le_of_ble_eq_true rfl) (Nat.le_of_ble_eq_true rfl) dX2_owner_5 ?_
  exact hret _ _ _ _ dX2_owner_8 h
set_option maxHeartbeats 4000000 in
theorem m_X2_choice (a1 : Int) : MI l D d K yX2_choice cX2_choice 2 (some .int) 1 [(.ref (K 4)), (iv a1)] (fun Q M => F_X2_choice Q a1 M) := by
  refine s_mi pn_X2 (Nat.le_of_ble_eq_true rfl) [(0, (.ref (K 4))), (1, (iv a1))] rfl rfl (fun p e R s m args below meth c A L M zc zs Q Qg C hret h => ?_)
  refine x_aload_n C dX2_choice_0 rfl 0 rfl ?_
  refine gf_4_11 C k306 dX2_choice_1 ?_
  refine x_iload_n C dX2_choice_4 rfl 1 rfl ?_
  refine x_rget C 20 (by decide) k279 (Nat.le_of_ble_eq_true rfl) (Nat.le_of_ble_eq_true rfl) dX2_choice_5 ?_
  exact hret _ _ _ _ dX2_choice_8 h
set_option maxHeartbeats 4000000 in
theorem m_X2_termSize (a1 : Int) : MI l D d K yX2_termSize cX2_termSize 2 (some .int) 1 [(.ref (K 4)), (iv a1)] (fun Q M => F_X2_termSize Q a1 M) := by
  refine s_mi pn_X2 (Nat.le_of_ble_eq_true rfl) [(0, (.ref (K 4))), (1, (iv a1))] rfl rfl (fun p e R s m args below meth c A L M zc zs Q Qg C hret h => ?_)
  refine x_aload_n C dX2_termSize_0 rfl 0 rfl ?_
  refine gf_4_8 C k317 dX2_termSize_1 ?_
  refine x_iload_n C dX2_termSize_4 rfl 1 rfl ?_
  refine x_rget C 17 (by decide) k279 (Nat.le_of_ble_eq_true rfl) (Nat.le_of_ble_eq_true rfl) dX2_termSize_5 ?_
  exact hret _ _ _ _ dX2_termSize_8 h
set_option maxHeartbeats 4000000 in
theorem m_X2_termDepth (a1 : Int) : MI l D d K yX2_termDepth cX2_termDepth 2 (some .int) 1 [(.ref (K 4)), (iv a1)] (fun Q M => F_X2_termDepth Q a1 M) := by
  refine s_mi pn_X2 (Nat.le_of_ble_eq_true rfl) [(0, (.ref (K 4))), (1, (iv a1))] rfl rfl (fun p e R s m args below meth c A L M zc zs Q Qg C hret h => ?_)
  refine x_aload_n C dX2_termDepth_0 rfl 0 rfl ?_
  refine gf_4_9 C k318 dX2_termDepth_1 ?_
  refine x_iload_n C dX2_termDepth_4 rfl 1 rfl ?_
  refine x_rget C 18 (by decide) k279 (Nat.le_of_ble_eq_true rfl) (Nat.le_of_ble_eq_true rfl) dX2_termDepth_5 ?_
  exact hret _ _ _ _ dX2_termDepth_8 h
set_option maxHeartbeats 4000000 in
theorem m_X9_isTooLargeSide (a1 : Int) : MI l D d K yX9_isTooLargeSide cX9_isTooLargeSide 2 (some .boolean) 2 [(.ref (K 5)), (iv a1)] (fun Q M => F_X9_isTooLargeSide Q a1 M) := by
  refine s_mz pn_X9 (Nat.le_of_ble_eq_true rfl) [(0, (.ref (K 5))), (1, (iv a1))] rfl rfl (fun p e R s m args below meth c A L M zc zs Q Qg C hret h => ?_)
  refine x_aload_n C dX9_isTooLargeSide_0 rfl 0 rfl ?_
  refine gf_5_3 C k420 dX9_isTooLargeSide_1 ?_
  refine x_iload_n C dX9_isTooLargeSide_4 rfl 1 rfl ?_
  refine x_callVi C FX2_termSize GX2_termSize k448 (m_X2_termSize a1) h (by decide) (fun _ => rfl) rfl (Nat.le_of_ble_eq_true rfl) (Nat.le_of_ble_eq_true rfl) (rest := []) (Nat.le_of_ble_eq_true rfl) rfl rfl dX9_isTooLargeSide_5 (fun v1 M1 h => ?_)
  refine x_sipush C (n := 300) (by decide) (by decide) dX9_isTooLargeSide_8 ?_
  refine x_icmp_gt C 27 dX9_isTooLargeSide_11 (by decide) (fun c2 => ?_) (fun c2 => ?_)
  · replace h := h.1 c2
    refine x_iconst C (n := 1) dX9_isTooLargeSide_27 ?_
    refine x_goto C 32 dX9_isTooLargeSide_28 (by decide) ?_
    exact hret _ _ _ _ dX9_isTooLargeSide_32 (by unfold isB; decide) h
  · replace h := h.2 c2
    refine x_aload_n C dX9_isTooLargeSide_14 rfl 0 rfl ?_
    refine gf_5_3 C k420 dX9_isTooLargeSide_15 ?_
    refine x_iload_n C dX9_isTooLargeSide_18 rfl 1 rfl ?_
    refine x_callVi C FX2_termDepth GX2_termDepth k452 (m_X2_termDepth a1) h (by decide) (fun _ => rfl) rfl (Nat.le_of_ble_eq_true rfl) (Nat.le_of_ble_eq_true rfl) (rest := []) (Nat.le_of_ble_eq_true rfl) rfl rfl dX9_isTooLargeSide_19 (fun v3 M3 h => ?_)
    refine x_bipush C (n := 40) (by decide) (by decide) dX9_isTooLargeSide_22 ?_
    refine x_icmp_le C 31 dX9_isTooLargeSide_24 (by decide) (fun c4 => ?_) (fun c4 => ?_)
    · replace h := h.1 c4
      refine x_iconst C (n := 1) dX9_isTooLargeSide_27 ?_
      refine x_goto C 32 dX9_isTooLargeSide_28 (by decide) ?_
      exact hret _ _ _ _ dX9_isTooLargeSide_32 (by unfold isB; decide) h
    · replace h := h.2 c4
      refine x_iconst C (n := 0) dX9_isTooLargeSide_31 ?_
      exact hret _ _ _ _ dX9_isTooLargeSide_32 (by unfold isB; decide) h
set_option maxHeartbeats 4000000 in
theorem T_X2_dropNeeds_2 {Q : g_M → Prop} (C : XC p R s m args c D d A cX2_dropNeeds 2 RX2 1 zc zs) (hret : RTV p l e R s m args below meth c Qg D d K A 2 zc zs L cX2_dropNeeds Q) : ∀ (n : Nat) (x1 : Int) (M : g_M), F_X2_dropNeeds_2 Q n x1 M → X p l e R s m args below meth c Qg D d K A 2 zc zs L M [(0, (.ref (K 4))), (1, (iv x1))] 2 [] := by
  intro n
  induction n with
  | zero =>
    intro x1 M h
    exact h.elim
  | succ n ih =>
    intro x1 M h
    replace h : ((bm x1 < bm (M 44 15) → ((okI 13 x1 ∧ F_X2_dropNeeds_2 Q n (x1 + 1) (rs M 13 x1 0)))) ∧ (¬ bm x1 < bm (M 44 15) → (Q M))) := h
    refine x_iload_n C dX2_dropNeeds_2 rfl 1 rfl ?_
    refine x_aload_n C dX2_dropNeeds_3 rfl 0 rfl ?_
    refine gf_4_15 C k256 dX2_dropNeeds_4 ?_
    refine x_icmp_ge C 25 dX2_dropNeeds_7 (by decide) (fun c1 => ?_) (fun c1 => ?_)
    · replace h := h.1 c1
      refine x_aload_n C dX2_dropNeeds_10 rfl 0 rfl ?_
      refine gf_4_4 C k312 dX2_dropNeeds_11 ?_
      refine x_iload_n C dX2_dropNeeds_14 rfl 1 rfl ?_
      refine x_iconst C (n := 0) dX2_dropNeeds_15 ?_
      refine x_rset C 13 (by decide) h.1 k272 (Nat.le_of_ble_eq_true rfl) (Nat.le_of_ble_eq_true rfl) dX2_dropNeeds_16 ?_
      replace h := h.2
      refine x_iinc C dX2_dropNeeds_19 1 rfl (by decide) [(1, (iv (x1 + 1))), (0, (.ref (K 4)))] rfl ?_
      refine x_goto C 2 dX2_dropNeeds_22 (by decide) ?_
      refine x_lv (lv' := [(0, (.ref (K 4))), (1, (iv (x1 + 1)))]) [1, 0] rfl ?_
      exact ih (x1 + 1) (rs M 13 x1 0) h
    · replace h := h.2 c1
      exact hret _ _ _ dX2_dropNeeds_25 h
set_option maxHeartbeats 4000000 in
theorem m_X2_dropNeeds  : MV l D d K yX2_dropNeeds cX2_dropNeeds 2 none 1 [(.ref (K 4))] (fun Q M => F_X2_dropNeeds Q M) := by
  refine s_mv pn_X2 (Nat.le_of_ble_eq_true rfl) [(0, (.ref (K 4)))] rfl rfl (fun p e R s m args below meth c A L M zc zs Q Qg C hret h => ?_)
  refine x_iconst C (n := 0) dX2_dropNeeds_0 ?_
  refine x_istore_n C dX2_dropNeeds_1 rfl (by decide) [(1, (iv 0)), (0, (.ref (K 4)))] rfl ?_
  refine x_lv (lv' := [(0, (.ref (K 4))), (1, (iv 0))]) [1, 0] rfl ?_
  obtain ⟨n9, h⟩ := h
  exact T_X2_dropNeeds_2 C hret n9 0 M h
set_option maxHeartbeats 4000000 in
theorem m_X2_need (a1 : Int) : MV l D d K yX2_need cX2_need 2 none 1 [(.ref (K 4)), (iv a1)] (fun Q M => F_X2_need Q a1 M) := by
  refine s_mv pn_X2 (Nat.le_of_ble_eq_true rfl) [(0, (.ref (K 4))), (1, (iv a1))] rfl rfl (fun p e R s m args below meth c A L M zc zs Q Qg C hret h => ?_)
  refine x_aload_n C dX2_need_0 rfl 0 rfl ?_
  refine gf_4_4 C k312 dX2_need_1 ?_
  refine x_iload_n C dX2_need_4 rfl 1 rfl ?_
  refine x_iconst C (n := 1) dX2_need_5 ?_
  refine x_rset C 13 (by decide) h.1 k272 (Nat.le_of_ble_eq_true rfl) (Nat.le_of_ble_eq_true rfl) dX2_need_6 ?_
  replace h := h.2
  exact hret _ _ _ dX2_need_9 h
set_option maxHeartbeats 4000000 in
theorem T_X2_needParts_2 {Q : g_M → Prop} (C : XC p R s m args c D d A cX2_needParts 3 RX2 2 zc zs) (hret : RTV p l e R s m args below meth c Qg D d K A 3 zc zs L cX2_needParts Q) : ∀ (n : Nat) (x1 : Int) (x2 : Int) (M : g_M), F_X2_needParts_2 Q n x1 x2 M → X p l e R s m args below meth c Qg D d K A 3 zc zs L M [(0, (.ref (K 4))), (1, (iv x1)), (2, (iv x2))] 2 [] := by
  intro n
  induction n with
  | zero =>
    intro x1 x2 M h
    exact h.elim
  | succ n ih =>
    intro x1 x2 M h
    replace h : F_X2_arity (fun v1 M1 => ((bm x2 < bm v1 → ((okI 13 (rg M1 12 ((3 * x1) + x2)) ∧ F_X2_needParts_2 Q n x1 (x2 + 1) (rs M1 13 (rg M1 12 ((3 * x1) + x2)) 1)))) ∧ (¬ bm x2 < bm v1 → (Q M1)))) x1 M := h
    refine x_iload_n C dX2_needParts_2 rfl 2 rfl ?_
    refine x_aload_n C dX2_needParts_3 rfl 0 rfl ?_
    refine x_iload_n C dX2_needParts_4 rfl 1 rfl ?_
    refine x_callVi C FX2_arity GX2_arity k281 (m_X2_arity x1) h (by decide) (fun _ => rfl) rfl (Nat.le_of_ble_eq_true rfl) (Nat.le_of_ble_eq_true rfl) (rest := [(iv x2)]) (Nat.le_of_ble_eq_true rfl) rfl rfl dX2_needParts_5 (fun v1 M1 h => ?_)
    refine x_icmp_ge C 37 dX2_needParts_8 (by decide) (fun c2 => ?_) (fun c2 => ?_)
    · replace h := h.1 c2
      refine x_aload_n C dX2_needParts_11 rfl 0 rfl ?_
      refine gf_4_4 C k312 dX2_needParts_12 ?_
      refine x_aload_n C dX2_needParts_15 rfl 0 rfl ?_
      refine gf_4_3 C k289 dX2_needParts_16 ?_
      refine x_iconst C (n := 3) dX2_needParts_19 ?_
      refine x_iload_n C dX2_needParts_20 rfl 1 rfl ?_
      refine x_imul C dX2_needParts_21 ?_
      refine x_iload_n C dX2_needParts_22 rfl 2 rfl ?_
      refine x_iadd C dX2_needParts_23 ?_
      refine x_rget C 12 (by decide) k279 (Nat.le_of_ble_eq_true rfl) (Nat.le_of_ble_eq_true rfl) dX2_needParts_24 ?_
      refine x_iconst C (n := 1) dX2_needParts_27 ?_
      refine x_rset C 13 (by decide) h.1 k272 (Nat.le_of_ble_eq_true rfl) (Nat.le_of_ble_eq_true rfl) dX2_needParts_28 ?_
      replace h := h.2
      refine x_iinc C dX2_needParts_31 2 rfl (by decide) [(2, (iv (x2 + 1))), (0, (.ref (K 4))), (1, (iv x1))] rfl ?_
      refine x_goto C 2 dX2_needParts_34 (by decide) ?_
      refine x_lv (lv' := [(0, (.ref (K 4))), (1, (iv x1)), (2, (iv (x2 + 1)))]) [1, 2, 0] rfl ?_
      exact ih x1 (x2 + 1) (rs M1 13 (rg M1 12 ((3 * x1) + x2)) 1) h
    · replace h := h.2 c2
      exact hret _ _ _ dX2_needParts_37 h
set_option maxHeartbeats 4000000 in
theorem m_X2_needParts (a1 : Int) : MV l D d K yX2_needParts cX2_needParts 3 none 2 [(.ref (K 4)), (iv a1)] (fun Q M => F_X2_needParts Q a1 M) := by
  refine s_mv pn_X2 (Nat.le_of_ble_eq_true rfl) [(0, (.ref (K 4))), (1, (iv a1))] rfl rfl (fun p e R s m args below meth c A L M zc zs Q Qg C hret h => ?_)
  refine x_iconst C (n := 0) dX2_needParts_0 ?_
  refine x_istore_n C dX2_needParts_1 rfl (by decide) [(2, (iv 0)), (0, (.ref (K 4))), (1, (iv a1))] rfl ?_
  refine x_lv (lv' := [(0, (.ref (K 4))), (1, (iv a1)), (2, (iv 0))]) [1, 2, 0] rfl ?_
  obtain ⟨n9, h⟩ := h
  exact T_X2_needParts_2 C hret n9 a1 0 M h
set_option maxHeartbeats 4000000 in
theorem m_X2_isNeeded (a1 : Int) : MI l D d K yX2_isNeeded cX2_isNeeded 3 (some .boolean) 1 [(.ref (K 4)), (iv a1)] (fun Q M => F_X2_isNeeded Q a1 M) := by
  refine s_mz pn_X2 (Nat.le_of_ble_eq_true rfl) [(0, (.ref (K 4))), (1, (iv a1))] rfl rfl (fun p e R s m args below meth c A L M zc zs Q Qg C hret h => ?_)
  refine x_aload_n C dX2_isNeeded_0 rfl 0 rfl ?_
  refine gf_4_1 C k271 dX2_isNeeded_1 ?_
  refine x_iload_n C dX2_isNeeded_4 rfl 1 rfl ?_
  refine x_rget C 10 (by decide) k279 (Nat.le_of_ble_eq_true rfl) (Nat.le_of_ble_eq_true rfl) dX2_isNeeded_5 ?_
  refine x_istore_n C dX2_isNeeded_8 rfl (by decide) [(2, (iv (rg M 10 a1))), (0, (.ref (K 4))), (1, (iv a1))] rfl ?_
  refine x_aload_n C dX2_isNeeded_9 rfl 1 rfl ?_
  refine gf_4_11 C k306 dX2_isNeeded_10 ?_
  refine x_iload_n C dX2_isNeeded_13 rfl 0 rfl ?_
  refine x_rget C 20 (by decide) k279 (Nat.le_of_ble_eq_true rfl) (Nat.le_of_ble_eq_true rfl) dX2_isNeeded_14 ?_
  refine x_iload_n C dX2_isNeeded_17 rfl 2 rfl ?_
  refine x_icmp_ne C 37 dX2_isNeeded_18 (by decide) (fun c1 => ?_) (fun c1 => ?_)
  · replace h := h.1 c1
    refine x_aload_n C dX2_isNeeded_21 rfl 1 rfl ?_
    refine gf_4_4 C k312 dX2_isNeeded_22 ?_
    refine x_iload_n C dX2_isNeeded_25 rfl 0 rfl ?_
    refine x_rget C 13 (by decide) k279 (Nat.le_of_ble_eq_true rfl) (Nat.le_of_ble_eq_true rfl) dX2_isNeeded_26 ?_
    refine x_iconst C (n := 1) dX2_isNeeded_29 ?_
    refine x_icmp_ne C 37 dX2_isNeeded_30 (by decide) (fun c2 => ?_) (fun c2 => ?_)
    · replace h := h.1 c2
      refine x_iconst C (n := 1) dX2_isNeeded_33 ?_
      refine x_goto C 38 dX2_isNeeded_34 (by decide) ?_
      exact hret _ _ _ _ dX2_isNeeded_38 (by unfold isB; decide) h
    · replace h := h.2 c2
      refine x_iconst C (n := 0) dX2_isNeeded_37 ?_
      exact hret _ _ _ _ dX2_isNeeded_38 (by unfold isB; decide) h
  · replace h := h.2 c1
    refine x_iconst C (n := 0) dX2_isNeeded_37 ?_
    exact hret _ _ _ _ dX2_isNeeded_38 (by unfold isB; decide) h
set_option maxHeartbeats 4000000 in
theorem T_X2_spreadNeeds_33 {Q : g_M → Prop} (C : XC p R s m args c D d A cX2_spreadNeeds 3 RX2 3 zc zs) (hret : RTV p l e R s m args below meth c Qg D d K A 3 zc zs L cX2_spreadNeeds Q) {k7 : Int → g_M → Prop} (hk7 : ∀ (x1 : Int) (M : g_M), k7 x1 M → X p l e R s m args below meth c Qg D d K A 3 zc zs L M [(0, (.ref (K 4))), (1, (iv x1))] 7 []) (x1 : Int) (M : g_M) (h : F_X2_spreadNeeds_33 Q k7 x1 M) : X p l e R s m args below meth c Qg D d K A 3 zc zs L M [(0, (.ref (K 4))), (1, (iv x1))] 33 [] := by
  refine x_iinc C dX2_spreadNeeds_33 1 rfl (by decide) [(1, (iv (x1 + (-1)))), (0, (.ref (K 4)))] rfl ?_
  refine x_goto C 7 dX2_spreadNeeds_36 (by decide) ?_
  refine x_lv (lv' := [(0, (.ref (K 4))), (1, (iv (x1 + (-1))))]) [1, 0] rfl ?_
  exact hk7 (x1 + (-1)) M h
set_option maxHeartbeats 4000000 in
theorem T_X2_spreadNeeds_7 {Q : g_M → Prop} (C : XC p R s m args c D d A cX2_spreadNeeds 3 RX2 3 zc zs) (hret : RTV p l e R s m args below meth c Qg D d K A 3 zc zs L cX2_spreadNeeds Q) : ∀ (n : Nat) (x1 : Int) (M : g_M), F_X2_spreadNeeds_7 Q n x1 M → X p l e R s m args below meth c Qg D d K A 3 zc zs L M [(0, (.ref (K 4))), (1, (iv x1))] 7 [] := by
  intro n
  induction n with
  | zero =>
    intro x1 M h
    exact h.elim
  | succ n ih =>
    intro x1 M h
    replace h : ((bm x1 < 0 → (Q M)) ∧ (¬ bm x1 < 0 → (F_X2_isNeeded (fun v2 M2 => ((bm v2 = 0 → (F_X2_spreadNeeds_33 Q (F_X2_spreadNeeds_7 Q n) x1 M2)) ∧ (¬ bm v2 = 0 → (F_X2_needParts (fun M4 => F_X2_spreadNeeds_33 Q (F_X2_spreadNeeds_7 Q n) x1 M4) (rg M 22 x1) M2)))) (rg M 22 x1) M))) := h
    refine x_iload_n C dX2_spreadNeeds_7 rfl 1 rfl ?_
    refine x_if_lt C 39 dX2_spreadNeeds_8 (by decide) (fun c1 => ?_) (fun c1 => ?_)
    · replace h := h.1 c1
      exact hret _ _ _ dX2_spreadNeeds_39 h
    · replace h := h.2 c1
      refine x_aload_n C dX2_spreadNeeds_11 rfl 0 rfl ?_
      refine gf_4_13 C k339 dX2_spreadNeeds_12 ?_
      refine x_iload_n C dX2_spreadNeeds_15 rfl 1 rfl ?_
      refine x_rget C 22 (by decide) k279 (Nat.le_of_ble_eq_true rfl) (Nat.le_of_ble_eq_true rfl) dX2_spreadNeeds_16 ?_
      refine x_istore_n C dX2_spreadNeeds_19 rfl (by decide) [(2, (iv (rg M 22 x1))), (0, (.ref (K 4))), (1, (iv x1))] rfl ?_
      refine x_aload_n C dX2_spreadNeeds_20 rfl 1 rfl ?_
      refine x_iload_n C dX2_spreadNeeds_21 rfl 0 rfl ?_
      refine x_callVi C FX2_isNeeded GX2_isNeeded k472 (m_X2_isNeeded (rg M 22 x1)) h (by decide) (fun _ => rfl) rfl (Nat.le_of_ble_eq_true rfl) (Nat.le_of_ble_eq_true rfl) (rest := []) (Nat.le_of_ble_eq_true rfl) rfl rfl dX2_spreadNeeds_22 (fun v2 M2 h => ?_)
      refine x_if_eq C 33 dX2_spreadNeeds_25 (by decide) (fun c3 => ?_) (fun c3 => ?_)
      · replace h := h.1 c3
        refine x_lv (lv' := [(0, (.ref (K 4))), (1, (iv x1))]) [1, 2] rfl ?_
        exact T_X2_spreadNeeds_33 C hret ih x1 M2 h
      · replace h := h.2 c3
        refine x_aload_n C dX2_spreadNeeds_28 rfl 1 rfl ?_
        refine x_iload_n C dX2_spreadNeeds_29 rfl 0 rfl ?_
        refine x_callVv C FX2_needParts GX2_needParts k476 (m_X2_needParts (rg M 22 x1)) h (by decide) (fun _ => rfl) rfl (Nat.le_of_ble_eq_true rfl) (Nat.le_of_ble_eq_true rfl) (rest := []) (Nat.le_of_ble_eq_true rfl) rfl rfl dX2_spreadNeeds_30 (fun M4 h => ?_)
        refine x_lv (lv' := [(0, (.ref (K 4))), (1, (iv x1))]) [1, 2] rfl ?_
        exact T_X2_spreadNeeds_33 C hret ih x1 M4 h
set_option maxHeartbeats 4000000 in
theorem m_X2_spreadNeeds  : MV l D d K yX2_spreadNeeds cX2_spreadNeeds 3 none 3 [(.ref (K 4))] (fun Q M => F_X2_spreadNeeds Q M) := by
  refine s_mv pn_X2 (Nat.le_of_ble_eq_true rfl) [(0, (.ref (K 4)))] rfl rfl (fun p e R s m args below meth c A L M zc zs Q Qg C hret h => ?_)
  refine x_aload_n C dX2_spreadNeeds_0 rfl 0 rfl ?_
  refine gf_4_18 C k304 dX2_spreadNeeds_1 ?_
  refine x_iconst C (n := 1) dX2_spreadNeeds_4 ?_
  refine x_isub C dX2_spreadNeeds_5 ?_
  refine x_istore_n C dX2_spreadNeeds_6 rfl (by decide) [(1, (iv ((M 44 18) - 1))), (0, (.ref (K 4)))] rfl ?_
  refine x_lv (lv' := [(0, (.ref (K 4))), (1, (iv ((M 44 18) - 1)))]) [1, 0] rfl ?_
  obtain ⟨n9, h⟩ := h
  exact T_X2_spreadNeeds_7 C hret n9 ((M 44 18) - 1) M h
set_option maxHeartbeats 4000000 in
theorem T_X2_makeTerm_93 {Q : Int → g_M → Prop} (C : XC p R s m args c D d A cX2_makeTerm 8 RX2 3 zc zs) (hret : RTI p l e R s m args below meth c Qg D d K A 8 zc zs L cX2_makeTerm Q) (x1 : Int) (x5 : Int) (x6 : Int) (t0 : Int) (M : g_M) (h : F_X2_makeTerm_93 Q x1 x5 x6 t0 M) : X p l e R s m args below meth c Qg D d K A 8 zc zs L M [(0, (.ref (K 4))), (1, (iv x1)), (2, (.ref (K 2))), (5, (iv x5)), (6, (iv x6))] 93 [(iv t0)] := by
  refine x_istore C dX2_makeTerm_93 (by decide) [(7, (iv t0)), (0, (.ref (K 4))), (1, (iv x1)), (2, (.ref (K 2))), (5, (iv x5)), (6, (iv x6))] rfl ?_
  refine x_aload_n C dX2_makeTerm_95 rfl 3 rfl ?_
  refine x_aload_n C dX2_makeTerm_96 rfl 1 rfl ?_
  refine gf_4_2 C k273 dX2_makeTerm_97 ?_
  refine x_iload_n C dX2_makeTerm_100 rfl 2 rfl ?_
  refine x_rget C 11 (by decide) k279 (Nat.le_of_ble_eq_true rfl) (Nat.le_of_ble_eq_true rfl) dX2_makeTerm_101 ?_
  refine x_iload C dX2_makeTerm_104 4 rfl ?_
  refine x_iload C dX2_makeTerm_106 5 rfl ?_
  refine x_iload C dX2_makeTerm_108 0 rfl ?_
  refine x_callVi C FX8_make GX8_make k485 (m_X8_make (rg M 11 x1) x5 x6 t0) h (by decide) (fun _ => rfl) rfl (Nat.le_of_ble_eq_true rfl) (Nat.le_of_ble_eq_true rfl) (rest := []) (Nat.le_of_ble_eq_true rfl) rfl rfl dX2_makeTerm_110 (fun v5 M5 h => ?_)
  exact hret _ _ _ _ dX2_makeTerm_113 h
set_option maxHeartbeats 4000000 in
theorem T_X2_makeTerm_64 {Q : Int → g_M → Prop} (C : XC p R s m args c D d A cX2_makeTerm 8 RX2 3 zc zs) (hret : RTI p l e R s m args below meth c Qg D d K A 8 zc zs L cX2_makeTerm Q) (x1 : Int) (x3 : Int) (x4 : Int) (x5 : Int) (t0 : Int) (M : g_M) (h : F_X2_makeTerm_64 Q x1 x3 x4 x5 t0 M) : X p l e R s m args below meth c Qg D d K A 8 zc zs L M [(0, (.ref (K 4))), (1, (iv x1)), (2, (.ref (K 2))), (3, (iv x3)), (4, (iv x4)), (5, (iv x5))] 64 [(iv t0)] := by
  refine x_istore C dX2_makeTerm_64 (by decide) [(6, (iv t0)), (0, (.ref (K 4))), (1, (iv x1)), (2, (.ref (K 2))), (3, (iv x3)), (4, (iv x4)), (5, (iv x5))] rfl ?_
  refine x_iload C dX2_makeTerm_66 5 rfl ?_
  refine x_iconst C (n := 2) dX2_makeTerm_68 ?_
  refine x_icmp_le C 92 dX2_makeTerm_69 (by decide) (fun c4 => ?_) (fun c4 => ?_)
  · replace h := h.1 c4
    refine x_aload_n C dX2_makeTerm_72 rfl 1 rfl ?_
    refine gf_4_14 C k484 dX2_makeTerm_73 ?_
    refine x_aload_n C dX2_makeTerm_76 rfl 1 rfl ?_
    refine gf_4_3 C k289 dX2_makeTerm_77 ?_
    refine x_iload_n C dX2_makeTerm_80 rfl 4 rfl ?_
    refine x_iconst C (n := 2) dX2_makeTerm_81 ?_
    refine x_iadd C dX2_makeTerm_82 ?_
    refine x_rget C 12 (by decide) k279 (Nat.le_of_ble_eq_true rfl) (Nat.le_of_ble_eq_true rfl) dX2_makeTerm_83 ?_
    refine x_rget C 23 (by decide) k279 (Nat.le_of_ble_eq_true rfl) (Nat.le_of_ble_eq_true rfl) dX2_makeTerm_86 ?_
    refine x_goto C 93 dX2_makeTerm_89 (by decide) ?_
    refine x_lv (lv' := [(0, (.ref (K 4))), (1, (iv x1)), (2, (.ref (K 2))), (5, (iv x5)), (6, (iv t0))]) [1, 2, 3, 6, 0] rfl ?_
    exact T_X2_makeTerm_93 C hret x1 x5 t0 (rg M 23 (rg M 12 (x3 + 2))) M h
  · replace h := h.2 c4
    refine x_iconst C (n := (-1)) dX2_makeTerm_92 ?_
    refine x_lv (lv' := [(0, (.ref (K 4))), (1, (iv x1)), (2, (.ref (K 2))), (5, (iv x5)), (6, (iv t0))]) [1, 2, 3, 6, 0] rfl ?_
    exact T_X2_makeTerm_93 C hret x1 x5 t0 (-1) M h
set_option maxHeartbeats 4000000 in
theorem T_X2_makeTerm_35 {Q : Int → g_M → Prop} (C : XC p R s m args c D d A cX2_makeTerm 8 RX2 3 zc zs) (hret : RTI p l e R s m args below meth c Qg D d K A 8 zc zs L cX2_makeTerm Q) (x1 : Int) (x3 : Int) (x4 : Int) (t0 : Int) (M : g_M) (h : F_X2_makeTerm_35 Q x1 x3 x4 t0 M) : X p l e R s m args below meth c Qg D d K A 8 zc zs L M [(0, (.ref (K 4))), (1, (iv x1)), (2, (.ref (K 2))), (3, (iv x3)), (4, (iv x4))] 35 [(iv t0)] := by
  refine x_istore C dX2_makeTerm_35 (by decide) [(5, (iv t0)), (0, (.ref (K 4))), (1, (iv x1)), (2, (.ref (K 2))), (3, (iv x3)), (4, (iv x4))] rfl ?_
  refine x_iload C dX2_makeTerm_37 5 rfl ?_
  refine x_iconst C (n := 1) dX2_makeTerm_39 ?_
  refine x_icmp_le C 63 dX2_makeTerm_40 (by decide) (fun c3 => ?_) (fun c3 => ?_)
  · replace h := h.1 c3
    refine x_aload_n C dX2_makeTerm_43 rfl 1 rfl ?_
    refine gf_4_14 C k484 dX2_makeTerm_44 ?_
    refine x_aload_n C dX2_makeTerm_47 rfl 1 rfl ?_
    refine gf_4_3 C k289 dX2_makeTerm_48 ?_
    refine x_iload_n C dX2_makeTerm_51 rfl 4 rfl ?_
    refine x_iconst C (n := 1) dX2_makeTerm_52 ?_
    refine x_iadd C dX2_makeTerm_53 ?_
    refine x_rget C 12 (by decide) k279 (Nat.le_of_ble_eq_true rfl) (Nat.le_of_ble_eq_true rfl) dX2_makeTerm_54 ?_
    refine x_rget C 23 (by decide) k279 (Nat.le_of_ble_eq_true rfl) (Nat.le_of_ble_eq_true rfl) dX2_makeTerm_57 ?_
    refine x_goto C 64 dX2_makeTerm_60 (by decide) ?_
    refine x_lv (lv' := [(0, (.ref (K 4))), (1, (iv x1)), (2, (.ref (K 2))), (3, (iv x3)), (4, (iv x4)), (5, (iv t0))]) [1, 2, 3, 4, 5, 0] rfl ?_
    exact T_X2_makeTerm_64 C hret x1 x3 x4 t0 (rg M 23 (rg M 12 (x3 + 1))) M h
  · replace h := h.2 c3
    refine x_iconst C (n := (-1)) dX2_makeTerm_63 ?_
    refine x_lv (lv' := [(0, (.ref (K 4))), (1, (iv x1)), (2, (.ref (K 2))), (3, (iv x3)), (4, (iv x4)), (5, (iv t0))]) [1, 2, 3, 4, 5, 0] rfl ?_
    exact T_X2_makeTerm_64 C hret x1 x3 x4 t0 (-1) M h
set_option maxHeartbeats 4000000 in
theorem m_X2_makeTerm (a1 : Int) : MI l D d K yX2_makeTerm cX2_makeTerm 8 (some .int) 3 [(.ref (K 4)), (iv a1), (.ref (K 2))] (fun Q M => F_X2_makeTerm Q a1 M) := by
  refine s_mi pn_X2 (Nat.le_of_ble_eq_true rfl) [(0, (.ref (K 4))), (1, (iv a1)), (2, (.ref (K 2)))] rfl rfl (fun p e R s m args below meth c A L M zc zs Q Qg C hret h => ?_)
  refine x_iconst C (n := 3) dX2_makeTerm_0 ?_
  refine x_iload_n C dX2_makeTerm_1 rfl 1 rfl ?_
  refine x_imul C dX2_makeTerm_2 ?_
  refine x_istore_n C dX2_makeTerm_3 rfl (by decide) [(3, (iv (3 * a1))), (0, (.ref (K 4))), (1, (iv a1)), (2, (.ref (K 2)))] rfl ?_
  refine x_aload_n C dX2_makeTerm_4 rfl 1 rfl ?_
  refine x_iload_n C dX2_makeTerm_5 rfl 2 rfl ?_
  refine x_callVi C FX2_arity GX2_arity k281 (m_X2_arity a1) h (by decide) (fun _ => rfl) rfl (Nat.le_of_ble_eq_true rfl) (Nat.le_of_ble_eq_true rfl) (rest := []) (Nat.le_of_ble_eq_true rfl) rfl rfl dX2_makeTerm_6 (fun v1 M1 h => ?_)
  refine x_istore C dX2_makeTerm_9 (by decide) [(4, (iv v1)), (3, (iv (3 * a1))), (0, (.ref (K 4))), (1, (iv a1)), (2, (.ref (K 2)))] rfl ?_
  refine x_iload C dX2_makeTerm_11 0 rfl ?_
  refine x_if_le C 34 dX2_makeTerm_13 (by decide) (fun c2 => ?_) (fun c2 => ?_)
  · replace h := h.1 c2
    refine x_aload_n C dX2_makeTerm_16 rfl 2 rfl ?_
    refine gf_4_14 C k484 dX2_makeTerm_17 ?_
    refine x_aload_n C dX2_makeTerm_20 rfl 2 rfl ?_
    refine gf_4_3 C k289 dX2_makeTerm_21 ?_
    refine x_iload_n C dX2_makeTerm_24 rfl 1 rfl ?_
    refine x_rget C 12 (by decide) k279 (Nat.le_of_ble_eq_true rfl) (Nat.le_of_ble_eq_true rfl) dX2_makeTerm_25 ?_
    refine x_rget C 23 (by decide) k279 (Nat.le_of_ble_eq_true rfl) (Nat.le_of_ble_eq_true rfl) dX2_makeTerm_28 ?_
    refine x_goto C 35 dX2_makeTerm_31 (by decide) ?_
    refine x_lv (lv' := [(0, (.ref (K 4))), (1, (iv a1)), (2, (.ref (K 2))), (3, (iv (3 * a1))), (4, (iv v1))]) [2, 3, 4, 1, 0] rfl ?_
    exact T_X2_makeTerm_35 C hret a1 (3 * a1) v1 (rg M1 23 (rg M1 12 (3 * a1))) M1 h
  · replace h := h.2 c2
    refine x_iconst C (n := (-1)) dX2_makeTerm_34 ?_
    refine x_lv (lv' := [(0, (.ref (K 4))), (1, (iv a1)), (2, (.ref (K 2))), (3, (iv (3 * a1))), (4, (iv v1))]) [2, 3, 4, 1, 0] rfl ?_
    exact T_X2_makeTerm_35 C hret a1 (3 * a1) v1 (-1) M1 h
end XW
