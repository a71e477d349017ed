section XW
variable {p : Program} {l : Launch} {e : Env} {R : Room} {s : State} {m : MethodId} {args : Array Value} {below : List Frame} {meth : Method} {c : Code} {Qg : State → Prop} {D : va_G} {d : Nat → ClassId} {K : Nat → Nat} {A : Nat → Prop} {zc zs : Int} {L : va_W}
set_option maxHeartbeats 4000000 in
theorem m_X11_size (a1 : Int) : MI l D d K yX11_size cX11_size 2 (some .int) 2 [(.ref (K 0)), (iv a1)] (fun Q M => F_X11_size Q a1 M) := by
  refine s_mi pn_X11 (Nat.le_of_ble_eq_true rfl) [(0, (.ref (K 0))), (1, (iv a1))] rfl rfl (fun p e R s m args below meth c A L M zc zs Q Qg C hret h => ?_)
  refine x_aload_n C dX11_size_0 rfl 0 rfl ?_
  refine x_iload_n C dX11_size_1 rfl 1 rfl ?_
  refine x_callVi C FX11_isTerm GX11_isTerm k114 (m_X11_isTerm a1) h (by decide) (fun _ => rfl) rfl (Nat.le_of_ble_eq_true rfl) (Nat.le_of_ble_eq_true rfl) (rest := []) (Nat.le_of_ble_eq_true rfl) rfl rfl dX11_size_2 (fun v1 M1 h => ?_)
  refine x_if_ne C 18 dX11_size_5 (by decide) (fun c2 => ?_) (fun c2 => ?_)
  · replace h := h.1 c2
    exact h.elim
  · replace h := h.2 c2
    refine x_aload_n C dX11_size_18 rfl 0 rfl ?_
    refine gf_0_1 C k119 dX11_size_19 ?_
    refine x_aload_n C dX11_size_22 rfl 0 rfl ?_
    refine gf_0_9 C k131 dX11_size_23 ?_
    refine x_iload_n C dX11_size_26 rfl 1 rfl ?_
    refine x_rget C 33 (by decide) k132 (Nat.le_of_ble_eq_true rfl) (Nat.le_of_ble_eq_true rfl) dX11_size_27 ?_
    refine x_callVi C FX8_width GX8_width k211 (m_X8_width (rg M1 33 a1)) h (by decide) (fun _ => rfl) rfl (Nat.le_of_ble_eq_true rfl) (Nat.le_of_ble_eq_true rfl) (rest := []) (Nat.le_of_ble_eq_true rfl) rfl rfl dX11_size_30 (fun v3 M3 h => ?_)
    exact hret _ _ _ _ dX11_size_33 h
set_option maxHeartbeats 4000000 in
theorem m_X10_clear  : MV l D d K yX10_clear cX10_clear 1 none 0 [(.ref (K 3))] (fun Q M => F_X10_clear Q M) := by
  refine s_mv pn_X10 (Nat.le_of_ble_eq_true rfl) [(0, (.ref (K 3)))] rfl rfl (fun p e R s m args below meth c A L M zc zs Q Qg C hret h => ?_)
  refine x_aload_n C dX10_clear_0 rfl 0 rfl ?_
  refine x_iconst C (n := 0) dX10_clear_1 ?_
  refine pf_3_6 C k213 dX10_clear_2 ?_
  exact hret _ _ _ dX10_clear_5 h
set_option maxHeartbeats 4000000 in
theorem T_X10_indexOf_16 {Q : Int → g_M → Prop} (C : XC p R s m args c D d A cX10_indexOf 3 RX10 1 zc zs) (hret : RTI p l e R s m args below meth c Qg D d K A 3 zc zs L cX10_indexOf Q) (x1 : Int) (t0 : Int) (M : g_M) (h : F_X10_indexOf_16 Q x1 t0 M) : X p l e R s m args below meth c Qg D d K A 3 zc zs L M [(0, (.ref (K 3))), (1, (iv x1))] 16 [(iv t0)] := by
  refine x_istore_n C dX10_indexOf_16 rfl (by decide) [(2, (iv t0)), (0, (.ref (K 3))), (1, (iv x1))] rfl ?_
  refine x_iload_n C dX10_indexOf_17 rfl 0 rfl ?_
  refine x_if_lt C 45 dX10_indexOf_18 (by decide) (fun c2 => ?_) (fun c2 => ?_)
  · replace h := h.1 c2
    refine x_iconst C (n := (-1)) dX10_indexOf_45 ?_
    exact hret _ _ _ _ dX10_indexOf_46 h
  · replace h := h.2 c2
    refine x_iload_n C dX10_indexOf_21 rfl 0 rfl ?_
    refine x_aload_n C dX10_indexOf_22 rfl 1 rfl ?_
    refine gf_3_6 C k213 dX10_indexOf_23 ?_
    refine x_icmp_ge C 45 dX10_indexOf_26 (by decide) (fun c3 => ?_) (fun c3 => ?_)
    · replace h := h.1 c3
      refine x_aload_n C dX10_indexOf_29 rfl 1 rfl ?_
      refine gf_3_2 C k221 dX10_indexOf_30 ?_
      refine x_iload_n C dX10_indexOf_33 rfl 0 rfl ?_
      refine x_rget C 7 (by decide) k220 (Nat.le_of_ble_eq_true rfl) (Nat.le_of_ble_eq_true rfl) dX10_indexOf_34 ?_
      refine x_iload_n C dX10_indexOf_37 rfl 2 rfl ?_
      refine x_icmp_ne C 45 dX10_indexOf_38 (by decide) (fun c4 => ?_) (fun c4 => ?_)
      · replace h := h.1 c4
        refine x_iload_n C dX10_indexOf_41 rfl 0 rfl ?_
        refine x_goto C 46 dX10_indexOf_42 (by decide) ?_
        exact hret _ _ _ _ dX10_indexOf_46 h
      · replace h := h.2 c4
        refine x_iconst C (n := (-1)) dX10_indexOf_45 ?_
        exact hret _ _ _ _ dX10_indexOf_46 h
    · replace h := h.2 c3
      refine x_iconst C (n := (-1)) dX10_indexOf_45 ?_
      exact hret _ _ _ _ dX10_indexOf_46 h
set_option maxHeartbeats 4000000 in
theorem m_X10_indexOf (a1 : Int) : MI l D d K yX10_indexOf cX10_indexOf 3 (some .int) 1 [(.ref (K 3)), (iv a1)] (fun Q M => F_X10_indexOf Q a1 M) := by
  refine s_mi pn_X10 (Nat.le_of_ble_eq_true rfl) [(0, (.ref (K 3))), (1, (iv a1))] rfl rfl (fun p e R s m args below meth c A L M zc zs Q Qg C hret h => ?_)
  refine x_iload_n C dX10_indexOf_0 rfl 1 rfl ?_
  refine x_if_ge C 8 dX10_indexOf_1 (by decide) (fun c1 => ?_) (fun c1 => ?_)
  · replace h := h.1 c1
    refine x_iconst C (n := (-1)) dX10_indexOf_4 ?_
    refine x_goto C 16 dX10_indexOf_5 (by decide) ?_
    exact T_X10_indexOf_16 C hret a1 (-1) M h
  · replace h := h.2 c1
    refine x_aload_n C dX10_indexOf_8 rfl 0 rfl ?_
    refine gf_3_1 C k219 dX10_indexOf_9 ?_
    refine x_iload_n C dX10_indexOf_12 rfl 1 rfl ?_
    refine x_rget C 6 (by decide) k220 (Nat.le_of_ble_eq_true rfl) (Nat.le_of_ble_eq_true rfl) dX10_indexOf_13 ?_
    exact T_X10_indexOf_16 C hret a1 (rg M 6 a1) M h
set_option maxHeartbeats 4000000 in
theorem m_X8_arity (a1 : Int) : MI l D d K yX8_arity cX8_arity 2 (some .int) 1 [(.ref (K 2)), (iv a1)] (fun Q M => F_X8_arity Q a1 M) := by
  refine s_mi pn_X8 (Nat.le_of_ble_eq_true rfl) [(0, (.ref (K 2))), (1, (iv a1))] rfl rfl (fun p e R s m args below meth c A L M zc zs Q Qg C hret h => ?_)
  refine x_aload_n C dX8_arity_0 rfl 0 rfl ?_
  refine gf_2_0 C k155 dX8_arity_1 ?_
  refine x_aload_n C dX8_arity_4 rfl 0 rfl ?_
  refine gf_2_1 C k146 dX8_arity_5 ?_
  refine x_iload_n C dX8_arity_8 rfl 1 rfl ?_
  refine x_rget C 0 (by decide) k144 (Nat.le_of_ble_eq_true rfl) (Nat.le_of_ble_eq_true rfl) dX8_arity_9 ?_
  refine x_callVi C FX7_arity GX7_arity k229 (m_X7_arity (rg M 0 a1)) h (by decide) (fun _ => rfl) rfl (Nat.le_of_ble_eq_true rfl) (Nat.le_of_ble_eq_true rfl) (rest := []) (Nat.le_of_ble_eq_true rfl) rfl rfl dX8_arity_12 (fun v1 M1 h => ?_)
  exact hret _ _ _ _ dX8_arity_15 h
set_option maxHeartbeats 4000000 in
theorem m_X8_part (a1 : Int) (a2 : Int) : MI l D d K yX8_part cX8_part 3 (some .int) 1 [(.ref (K 2)), (iv a1), (iv a2)] (fun Q M => F_X8_part Q a1 a2 M) := by
  refine s_mi pn_X8 (Nat.le_of_ble_eq_true rfl) [(0, (.ref (K 2))), (1, (iv a1)), (2, (iv a2))] rfl rfl (fun p e R s m args below meth c A L M zc zs Q Qg C hret h => ?_)
  refine x_iload_n C dX8_part_0 rfl 1 rfl ?_
  refine x_if_ge C 8 dX8_part_1 (by decide) (fun c1 => ?_) (fun c1 => ?_)
  · replace h := h.1 c1
    refine x_iconst C (n := (-1)) dX8_part_4 ?_
    refine x_goto C 20 dX8_part_5 (by decide) ?_
    exact hret _ _ _ _ dX8_part_20 h
  · replace h := h.2 c1
    refine x_aload_n C dX8_part_8 rfl 0 rfl ?_
    refine gf_2_2 C k147 dX8_part_9 ?_
    refine x_iconst C (n := 3) dX8_part_12 ?_
    refine x_iload_n C dX8_part_13 rfl 1 rfl ?_
    refine x_imul C dX8_part_14 ?_
    refine x_iload_n C dX8_part_15 rfl 2 rfl ?_
    refine x_iadd C dX8_part_16 ?_
    refine x_rget C 1 (by decide) k144 (Nat.le_of_ble_eq_true rfl) (Nat.le_of_ble_eq_true rfl) dX8_part_17 ?_
    exact hret _ _ _ _ dX8_part_20 h
set_option maxHeartbeats 4000000 in
theorem T_X10_firstUnlisted_2 {Q : Int → g_M → Prop} (C : XC p R s m args c D d A cX10_firstUnlisted 4 RX10 2 zc zs) (hret : RTI p l e R s m args below meth c Qg D d K A 4 zc zs L cX10_firstUnlisted Q) : ∀ (n : Nat) (x1 : Int) (x2 : Int) (M : g_M), F_X10_firstUnlisted_2 Q n x1 x2 M → X p l e R s m args below meth c Qg D d K A 4 zc zs L M [(0, (.ref (K 3))), (1, (iv x1)), (2, (iv x2))] 2 [] := by
  intro n
  induction n with
  | zero =>
    intro x1 x2 M h
    exact h.elim
  | succ n ih =>
    intro x1 x2 M h
    replace h : F_X8_arity (fun v1 M1 => ((bm x2 < bm v1 → (F_X8_part (fun v3 M3 => F_X10_indexOf (fun v4 M4 => ((bm v4 = bm (-1) → (Q v3 M4)) ∧ (¬ bm v4 = bm (-1) → (F_X10_firstUnlisted_2 Q n x1 (x2 + 1) M4)))) v3 M3) x1 x2 M1)) ∧ (¬ bm x2 < bm v1 → (Q (-1) M1)))) x1 M := h
    refine x_iload_n C dX10_firstUnlisted_2 rfl 2 rfl ?_
    refine x_aload_n C dX10_firstUnlisted_3 rfl 0 rfl ?_
    refine gf_3_0 C k228 dX10_firstUnlisted_4 ?_
    refine x_iload_n C dX10_firstUnlisted_7 rfl 1 rfl ?_
    refine x_callVi C FX8_arity GX8_arity k230 (m_X8_arity x1) h (by decide) (fun _ => rfl) rfl (Nat.le_of_ble_eq_true rfl) (Nat.le_of_ble_eq_true rfl) (rest := [(iv x2)]) (Nat.le_of_ble_eq_true rfl) rfl rfl dX10_firstUnlisted_8 (fun v1 M1 h => ?_)
    refine x_icmp_ge C 41 dX10_firstUnlisted_11 (by decide) (fun c2 => ?_) (fun c2 => ?_)
    · replace h := h.1 c2
      refine x_aload_n C dX10_firstUnlisted_14 rfl 0 rfl ?_
      refine gf_3_0 C k228 dX10_firstUnlisted_15 ?_
      refine x_iload_n C dX10_firstUnlisted_18 rfl 1 rfl ?_
      refine x_iload_n C dX10_firstUnlisted_19 rfl 2 rfl ?_
      refine x_callVi C FX8_part GX8_part k234 (m_X8_part x1 x2) h (by decide) (fun _ => rfl) rfl (Nat.le_of_ble_eq_true rfl) (Nat.le_of_ble_eq_true rfl) (rest := []) (Nat.le_of_ble_eq_true rfl) rfl rfl dX10_firstUnlisted_20 (fun v3 M3 h => ?_)
      refine x_istore_n C dX10_firstUnlisted_23 rfl (by decide) [(3, (iv v3)), (0, (.ref (K 3))), (1, (iv x1)), (2, (iv x2))] rfl ?_
      refine x_aload_n C dX10_firstUnlisted_24 rfl 1 rfl ?_
      refine x_iload_n C dX10_firstUnlisted_25 rfl 0 rfl ?_
      refine x_callVi C FX10_indexOf GX10_indexOf k222 (m_X10_indexOf v3) h (by decide) (fun _ => rfl) rfl (Nat.le_of_ble_eq_true rfl) (Nat.le_of_ble_eq_true rfl) (rest := []) (Nat.le_of_ble_eq_true rfl) rfl rfl dX10_firstUnlisted_26 (fun v4 M4 h => ?_)
      refine x_iconst C (n := (-1)) dX10_firstUnlisted_29 ?_
      refine x_icmp_ne C 35 dX10_firstUnlisted_30 (by decide) (fun c5 => ?_) (fun c5 => ?_)
      · replace h := h.1 c5
        refine x_iload_n C dX10_firstUnlisted_33 rfl 0 rfl ?_
        exact hret _ _ _ _ dX10_firstUnlisted_34 h
      · replace h := h.2 c5
        refine x_iinc C dX10_firstUnlisted_35 3 rfl (by decide) [(2, (iv (x2 + 1))), (3, (iv v3)), (0, (.ref (K 3))), (1, (iv x1))] rfl ?_
        refine x_goto C 2 dX10_firstUnlisted_38 (by decide) ?_
        refine x_lv (lv' := [(0, (.ref (K 3))), (1, (iv x1)), (2, (iv (x2 + 1)))]) [2, 3, 0] rfl ?_
        exact ih x1 (x2 + 1) M4 h
    · replace h := h.2 c2
      refine x_iconst C (n := (-1)) dX10_firstUnlisted_41 ?_
      exact hret _ _ _ _ dX10_firstUnlisted_42 h
set_option maxHeartbeats 4000000 in
theorem m_X10_firstUnlisted (a1 : Int) : MI l D d K yX10_firstUnlisted cX10_firstUnlisted 4 (some .int) 2 [(.ref (K 3)), (iv a1)] (fun Q M => F_X10_firstUnlisted Q a1 M) := by
  refine s_mi pn_X10 (Nat.le_of_ble_eq_true rfl) [(0, (.ref (K 3))), (1, (iv a1))] rfl rfl (fun p e R s m args below meth c A L M zc zs Q Qg C hret h => ?_)
  refine x_iconst C (n := 0) dX10_firstUnlisted_0 ?_
  refine x_istore_n C dX10_firstUnlisted_1 rfl (by decide) [(2, (iv 0)), (0, (.ref (K 3))), (1, (iv a1))] rfl ?_
  refine x_lv (lv' := [(0, (.ref (K 3))), (1, (iv a1)), (2, (iv 0))]) [1, 2, 0] rfl ?_
  obtain ⟨n9, h⟩ := h
  exact T_X10_firstUnlisted_2 C hret n9 a1 0 M h
set_option maxHeartbeats 4000000 in
theorem m_X10_append (a1 : Int) : MV l D d K yX10_append cX10_append 2 none 2 [(.ref (K 3)), (iv a1)] (fun Q M => F_X10_append Q a1 M) := by
  refine s_mv pn_X10 (Nat.le_of_ble_eq_true rfl) [(0, (.ref (K 3))), (1, (iv a1))] rfl rfl (fun p e R s m args below meth c A L M zc zs Q Qg C hret h => ?_)
  refine x_iload_n C dX10_append_0 rfl 1 rfl ?_
  refine x_if_lt C 47 dX10_append_1 (by decide) (fun c1 => ?_) (fun c1 => ?_)
  · replace h := h.1 c1
    exact hret _ _ _ dX10_append_47 h
  · replace h := h.2 c1
    refine x_aload_n C dX10_append_4 rfl 0 rfl ?_
    refine x_iload_n C dX10_append_5 rfl 1 rfl ?_
    refine x_callVi C FX10_indexOf GX10_indexOf k222 (m_X10_indexOf a1) h (by decide) (fun _ => rfl) rfl (Nat.le_of_ble_eq_true rfl) (Nat.le_of_ble_eq_true rfl) (rest := []) (Nat.le_of_ble_eq_true rfl) rfl rfl dX10_append_6 (fun v2 M2 h => ?_)
    refine x_iconst C (n := (-1)) dX10_append_9 ?_
    refine x_icmp_ne C 47 dX10_append_10 (by decide) (fun c3 => ?_) (fun c3 => ?_)
    · replace h := h.1 c3
      refine x_aload_n C dX10_append_13 rfl 0 rfl ?_
      refine gf_3_1 C k219 dX10_append_14 ?_
      refine x_iload_n C dX10_append_17 rfl 1 rfl ?_
      refine x_aload_n C dX10_append_18 rfl 0 rfl ?_
      refine gf_3_6 C k213 dX10_append_19 ?_
      refine x_rset C 6 (by decide) h.1 k242 (Nat.le_of_ble_eq_true rfl) (Nat.le_of_ble_eq_true rfl) dX10_append_22 ?_
      replace h := h.2
      refine x_aload_n C dX10_append_25 rfl 0 rfl ?_
      refine gf_3_2 C k221 dX10_append_26 ?_
      refine x_aload_n C dX10_append_29 rfl 0 rfl ?_
      refine gf_3_6 C k213 dX10_append_30 ?_
      refine x_iload_n C dX10_append_33 rfl 1 rfl ?_
      refine x_rset C 7 (by decide) h.1 k242 (Nat.le_of_ble_eq_true rfl) (Nat.le_of_ble_eq_true rfl) dX10_append_34 ?_
      replace h := h.2
      refine x_aload_n C dX10_append_37 rfl 0 rfl ?_
      refine x_dup C dX10_append_38 rfl ?_
      refine gf_3_6 C k213 dX10_append_39 ?_
      refine x_iconst C (n := 1) dX10_append_42 ?_
      refine x_iadd C dX10_append_43 ?_
      refine pf_3_6 C k213 dX10_append_44 ?_
      exact hret _ _ _ dX10_append_47 h
    · replace h := h.2 c3
      exact hret _ _ _ dX10_append_47 h
set_option maxHeartbeats 4000000 in
theorem T_X10_add_90 {Q : g_M → Prop} (C : XC p R s m args c D d A cX10_add 5 RX10 3 zc zs) (hret : RTV p l e R s m args below meth c Qg D d K A 5 zc zs L cX10_add Q) {k26 : Int → Int → g_M → Prop} (hk26 : ∀ (x2 : Int) (x3 : Int) (M : g_M), k26 x2 x3 M → X p l e R s m args below meth c Qg D d K A 5 zc zs L M [(0, (.ref (K 3))), (2, (iv x2)), (3, (iv x3))] 26 []) (x2 : Int) (x3 : Int) (M : g_M) (h : F_X10_add_90 Q k26 x2 x3 M) : X p l e R s m args below meth c Qg D d K A 5 zc zs L M [(0, (.ref (K 3))), (2, (iv x2)), (3, (iv x3))] 90 [] := by
  refine x_iinc C dX10_add_90 2 rfl (by decide) [(3, (iv (x3 + 1))), (0, (.ref (K 3))), (2, (iv x2))] rfl ?_
  refine x_goto C 26 dX10_add_93 (by decide) ?_
  refine x_lv (lv' := [(0, (.ref (K 3))), (2, (iv x2)), (3, (iv (x3 + 1)))]) [1, 2, 0] rfl ?_
  exact hk26 x2 (x3 + 1) M h
set_option maxHeartbeats 4000000 in
theorem T_X10_add_26 {Q : g_M → Prop} (C : XC p R s m args c D d A cX10_add 5 RX10 3 zc zs) (hret : RTV p l e R s m args below meth c Qg D d K A 5 zc zs L cX10_add Q) : ∀ (n : Nat) (x2 : Int) (x3 : Int) (M : g_M), F_X10_add_26 Q n x2 x3 M → X p l e R s m args below meth c Qg D d K A 5 zc zs L M [(0, (.ref (K 3))), (2, (iv x2)), (3, (iv x3))] 26 [] := by
  intro n
  induction n with
  | zero =>
    intro x2 x3 M h
    exact h.elim
  | succ n ih =>
    intro x2 x3 M h
    replace h : ((bm x3 < bm 1048576 → (((bm x2 < 0 → (Q M)) ∧ (¬ bm x2 < 0 → (((bm (x2 + 1) < bm 256 → ((inI x2 256 ∧ F_X10_firstUnlisted (fun v7 M7 => ((bm v7 = bm (-1) → ((inI x2 256 ∧ F_X10_append (fun M9 => F_X10_add_90 Q (F_X10_add_26 Q n) (x2 + (-1)) x3 M9) (M7 61 (bm x2).toNat) M7))) ∧ (¬ bm v7 = bm (-1) → ((inI (x2 + 1) 256 ∧ F_X10_add_90 Q (F_X10_add_26 Q n) (x2 + 1) x3 (up M7 61 (bm (x2 + 1)).toNat v7)))))) (M 61 (bm x2).toNat) M))) ∧ (¬ bm (x2 + 1) < bm 256 → (Q M)))))))) ∧ (¬ bm x3 < bm 1048576 → (Q M))) := h
    refine x_iload_n C dX10_add_26 rfl 2 rfl ?_
    refine x_ldc C (n := 1048576) (show Cond.constant RX10 60 (Int32.ofInt 1048576) ∈ gW from k227) dX10_add_27 ?_
    refine x_icmp_ge C 96 dX10_add_29 (by decide) (fun c4 => ?_) (fun c4 => ?_)
    · replace h := h.1 c4
      refine x_iload_n C dX10_add_32 rfl 1 rfl ?_
      refine x_if_lt C 96 dX10_add_33 (by decide) (fun c5 => ?_) (fun c5 => ?_)
      · replace h := h.1 c5
        exact hret _ _ _ dX10_add_96 h
      · replace h := h.2 c5
        refine x_iload_n C dX10_add_36 rfl 1 rfl ?_
        refine x_iconst C (n := 1) dX10_add_37 ?_
        refine x_iadd C dX10_add_38 ?_
        refine x_sipush C (n := 256) (by decide) (by decide) dX10_add_39 ?_
        refine x_icmp_ge C 96 dX10_add_42 (by decide) (fun c6 => ?_) (fun c6 => ?_)
        · replace h := h.1 c6
          refine x_aload_n C dX10_add_45 rfl 0 rfl ?_
          refine x_aload_n C dX10_add_46 rfl 0 rfl ?_
          refine gf_3_5 C k226 dX10_add_47 ?_
          refine x_iload_n C dX10_add_50 rfl 1 rfl ?_
          refine x_iald C 21 256 (by decide) (fun _ => rfl) h.1 dX10_add_51 ?_
          replace h := h.2
          refine x_callVi C FX10_firstUnlisted GX10_firstUnlisted k238 (m_X10_firstUnlisted (M 61 (bm x2).toNat)) h (by decide) (fun _ => rfl) rfl (Nat.le_of_ble_eq_true rfl) (Nat.le_of_ble_eq_true rfl) (rest := []) (Nat.le_of_ble_eq_true rfl) rfl rfl dX10_add_52 (fun v7 M7 h => ?_)
          refine x_istore C dX10_add_55 (by decide) [(4, (iv v7)), (0, (.ref (K 3))), (2, (iv x2)), (3, (iv x3))] rfl ?_
          refine x_iload C dX10_add_57 0 rfl ?_
          refine x_iconst C (n := (-1)) dX10_add_59 ?_
          refine x_icmp_ne C 79 dX10_add_60 (by decide) (fun c8 => ?_) (fun c8 => ?_)
          · replace h := h.1 c8
            refine x_aload_n C dX10_add_63 rfl 1 rfl ?_
            refine x_aload_n C dX10_add_64 rfl 1 rfl ?_
            refine gf_3_5 C k226 dX10_add_65 ?_
            refine x_iload_n C dX10_add_68 rfl 2 rfl ?_
            refine x_iald C 21 256 (by decide) (fun _ => rfl) h.1 dX10_add_69 ?_
            replace h := h.2
            refine x_callVv C FX10_append GX10_append k243 (m_X10_append (M7 61 (bm x2).toNat)) h (by decide) (fun _ => rfl) rfl (Nat.le_of_ble_eq_true rfl) (Nat.le_of_ble_eq_true rfl) (rest := []) (Nat.le_of_ble_eq_true rfl) rfl rfl dX10_add_70 (fun M9 h => ?_)
            refine x_iinc C dX10_add_73 2 rfl (by decide) [(2, (iv (x2 + (-1)))), (4, (iv v7)), (0, (.ref (K 3))), (3, (iv x3))] rfl ?_
            refine x_goto C 90 dX10_add_76 (by decide) ?_
            refine x_lv (lv' := [(0, (.ref (K 3))), (2, (iv (x2 + (-1)))), (3, (iv x3))]) [2, 0, 3] rfl ?_
            exact T_X10_add_90 C hret ih (x2 + (-1)) x3 M9 h
          · replace h := h.2 c8
            refine x_iinc C dX10_add_79 2 rfl (by decide) [(2, (iv (x2 + 1))), (4, (iv v7)), (0, (.ref (K 3))), (3, (iv x3))] rfl ?_
            refine x_aload_n C dX10_add_82 rfl 2 rfl ?_
            refine gf_3_5 C k226 dX10_add_83 ?_
            refine x_iload_n C dX10_add_86 rfl 0 rfl ?_
            refine x_iload C dX10_add_87 1 rfl ?_
            refine x_iast C 21 256 (by decide) (fun _ _ => rfl) h.1 dX10_add_89 ?_
            replace h := h.2
            refine x_lv (lv' := [(0, (.ref (K 3))), (2, (iv (x2 + 1))), (3, (iv x3))]) [2, 0, 3] rfl ?_
            exact T_X10_add_90 C hret ih (x2 + 1) x3 (up M7 61 (bm (x2 + 1)).toNat v7) h
        · replace h := h.2 c6
          exact hret _ _ _ dX10_add_96 h
    · replace h := h.2 c4
      exact hret _ _ _ dX10_add_96 h
set_option maxHeartbeats 4000000 in
theorem T_X10_add_24 {Q : g_M → Prop} (C : XC p R s m args c D d A cX10_add 5 RX10 3 zc zs) (hret : RTV p l e R s m args below meth c Qg D d K A 5 zc zs L cX10_add Q) (x2 : Int) (M : g_M) (h : F_X10_add_24 Q x2 M) : X p l e R s m args below meth c Qg D d K A 5 zc zs L M [(0, (.ref (K 3))), (2, (iv x2))] 24 [] := by
  refine x_iconst C (n := 0) dX10_add_24 ?_
  refine x_istore_n C dX10_add_25 rfl (by decide) [(3, (iv 0)), (0, (.ref (K 3))), (2, (iv x2))] rfl ?_
  refine x_lv (lv' := [(0, (.ref (K 3))), (2, (iv x2)), (3, (iv 0))]) [1, 2, 0] rfl ?_
  obtain ⟨n9, h⟩ := h
  exact T_X10_add_26 C hret n9 x2 0 M h
set_option maxHeartbeats 4000000 in
theorem m_X10_add (a1 : Int) : MV l D d K yX10_add cX10_add 5 none 3 [(.ref (K 3)), (iv a1)] (fun Q M => F_X10_add Q a1 M) := by
  refine s_mv pn_X10 (Nat.le_of_ble_eq_true rfl) [(0, (.ref (K 3))), (1, (iv a1))] rfl rfl (fun p e R s m args below meth c A L M zc zs Q Qg C hret h => ?_)
  refine x_iconst C (n := (-1)) dX10_add_0 ?_
  refine x_istore_n C dX10_add_1 rfl (by decide) [(2, (iv (-1))), (0, (.ref (K 3))), (1, (iv a1))] rfl ?_
  refine x_iload_n C dX10_add_2 rfl 2 rfl ?_
  refine x_if_lt C 24 dX10_add_3 (by decide) (fun c1 => ?_) (fun c1 => ?_)
  · replace h := h.1 c1
    refine x_lv (lv' := [(0, (.ref (K 3))), (2, (iv (-1)))]) [1, 0] rfl ?_
    exact T_X10_add_24 C hret (-1) M h
  · replace h := h.2 c1
    refine x_aload_n C dX10_add_6 rfl 1 rfl ?_
    refine x_iload_n C dX10_add_7 rfl 2 rfl ?_
    refine x_callVi C FX10_indexOf GX10_indexOf k222 (m_X10_indexOf a1) h (by decide) (fun _ => rfl) rfl (Nat.le_of_ble_eq_true rfl) (Nat.le_of_ble_eq_true rfl) (rest := []) (Nat.le_of_ble_eq_true rfl) rfl rfl dX10_add_8 (fun v2 M2 h => ?_)
    refine x_iconst C (n := (-1)) dX10_add_11 ?_
    refine x_icmp_ne C 24 dX10_add_12 (by decide) (fun c3 => ?_) (fun c3 => ?_)
    · replace h := h.1 c3
      refine x_iconst C (n := 0) dX10_add_15 ?_
      refine x_istore_n C dX10_add_16 rfl (by decide) [(2, (iv 0)), (0, (.ref (K 3))), (1, (iv a1))] rfl ?_
      refine x_aload_n C dX10_add_17 rfl 1 rfl ?_
      refine gf_3_5 C k226 dX10_add_18 ?_
      refine x_iconst C (n := 0) dX10_add_21 ?_
      refine x_iload_n C dX10_add_22 rfl 2 rfl ?_
      refine x_iast C 21 256 (by decide) (fun _ _ => rfl) h.1 dX10_add_23 ?_
      replace h := h.2
      refine x_lv (lv' := [(0, (.ref (K 3))), (2, (iv 0))]) [1, 0] rfl ?_
      exact T_X10_add_24 C hret 0 (up M2 61 (bm 0).toNat a1) h
    · replace h := h.2 c3
      refine x_lv (lv' := [(0, (.ref (K 3))), (2, (iv (-1)))]) [1, 0] rfl ?_
      exact T_X10_add_24 C hret (-1) M2 h
set_option maxHeartbeats 4000000 in
theorem m_X10_count  : MI l D d K yX10_count cX10_count 1 (some .int) 0 [(.ref (K 3))] (fun Q M => F_X10_count Q M) := by
  refine s_mi pn_X10 (Nat.le_of_ble_eq_true rfl) [(0, (.ref (K 3)))] rfl rfl (fun p e R s m args below meth c A L M zc zs Q Qg C hret h => ?_)
  refine x_aload_n C dX10_count_0 rfl 0 rfl ?_
  refine gf_3_6 C k213 dX10_count_1 ?_
  exact hret _ _ _ _ dX10_count_4 h
set_option maxHeartbeats 4000000 in
theorem m_X2_clear (a1 : Int) : MV l D d K yX2_clear cX2_clear 2 none 0 [(.ref (K 4)), (iv a1)] (fun Q M => F_X2_clear Q a1 M) := by
  refine s_mv pn_X2 (Nat.le_of_ble_eq_true rfl) [(0, (.ref (K 4))), (1, (iv a1))] rfl rfl (fun p e R s m args below meth c A L M zc zs Q Qg C hret h => ?_)
  refine x_aload_n C dX2_clear_0 rfl 0 rfl ?_
  refine x_iload_n C dX2_clear_1 rfl 1 rfl ?_
  refine pf_4_15 C k256 dX2_clear_2 ?_
  refine x_aload_n C dX2_clear_5 rfl 0 rfl ?_
  refine x_iconst C (n := 0) dX2_clear_6 ?_
  refine pf_4_16 C k257 dX2_clear_7 ?_
  exact hret _ _ _ dX2_clear_10 h
set_option maxHeartbeats 4000000 in
theorem m_X10_node (a1 : Int) : MI l D d K yX10_node cX10_node 2 (some .int) 1 [(.ref (K 3)), (iv a1)] (fun Q M => F_X10_node Q a1 M) := by
  refine s_mi pn_X10 (Nat.le_of_ble_eq_true rfl) [(0, (.ref (K 3))), (1, (iv a1))] rfl rfl (fun p e R s m args below meth c A L M zc zs Q Qg C hret h => ?_)
  refine x_aload_n C dX10_node_0 rfl 0 rfl ?_
  refine gf_3_2 C k221 dX10_node_1 ?_
  refine x_iload_n C dX10_node_4 rfl 1 rfl ?_
  refine x_rget C 7 (by decide) k220 (Nat.le_of_ble_eq_true rfl) (Nat.le_of_ble_eq_true rfl) dX10_node_5 ?_
  exact hret _ _ _ _ dX10_node_8 h
set_option maxHeartbeats 4000000 in
theorem m_X8_symbol (a1 : Int) : MI l D d K yX8_symbol cX8_symbol 2 (some .int) 1 [(.ref (K 2)), (iv a1)] (fun Q M => F_X8_symbol Q a1 M) := by
  refine s_mi pn_X8 (Nat.le_of_ble_eq_true rfl) [(0, (.ref (K 2))), (1, (iv a1))] rfl rfl (fun p e R s m args below meth c A L M zc zs Q Qg C hret h => ?_)
  refine x_aload_n C dX8_symbol_0 rfl 0 rfl ?_
  refine gf_2_1 C k146 dX8_symbol_1 ?_
  refine x_iload_n C dX8_symbol_4 rfl 1 rfl ?_
  refine x_rget C 0 (by decide) k144 (Nat.le_of_ble_eq_true rfl) (Nat.le_of_ble_eq_true rfl) dX8_symbol_5 ?_
  exact hret _ _ _ _ dX8_symbol_8 h
set_option maxHeartbeats 4000000 in
theorem m_X2_addProduction (a1 : Int) (a2 : Int) : MI l D d K yX2_addProduction cX2_addProduction 4 (some .int) 1 [(.ref (K 4)), (iv a1), (iv a2)] (fun Q M => F_X2_addProduction Q a1 a2 M) := by
  refine s_mi pn_X2 (Nat.le_of_ble_eq_true rfl) [(0, (.ref (K 4))), (1, (iv a1)), (2, (iv a2))] rfl rfl (fun p e R s m args below meth c A L M zc zs Q Qg C hret h => ?_)
  refine x_aload_n C dX2_addProduction_0 rfl 0 rfl ?_
  refine gf_4_16 C k257 dX2_addProduction_1 ?_
  refine x_istore_n C dX2_addProduction_4 rfl (by decide) [(3, (iv (M 44 16))), (0, (.ref (K 4))), (1, (iv a1)), (2, (iv a2))] rfl ?_
  refine x_aload_n C dX2_addProduction_5 rfl 1 rfl ?_
  refine gf_4_1 C k271 dX2_addProduction_6 ?_
  refine x_iload_n C dX2_addProduction_9 rfl 0 rfl ?_
  refine x_iload_n C dX2_addProduction_10 rfl 2 rfl ?_
  refine x_rset C 10 (by decide) h.1 k272 (Nat.le_of_ble_eq_true rfl) (Nat.le_of_ble_eq_true rfl) dX2_addProduction_11 ?_
  replace h := h.2
  refine x_aload_n C dX2_addProduction_14 rfl 1 rfl ?_
  refine gf_4_2 C k273 dX2_addProduction_15 ?_
  refine x_iload_n C dX2_addProduction_18 rfl 0 rfl ?_
  refine x_iload_n C dX2_addProduction_19 rfl 3 rfl ?_
  refine x_rset C 11 (by decide) h.1 k272 (Nat.le_of_ble_eq_true rfl) (Nat.le_of_ble_eq_true rfl) dX2_addProduction_20 ?_
  replace h := h.2
  refine x_aload_n C dX2_addProduction_23 rfl 1 rfl ?_
  refine x_dup C dX2_addProduction_24 rfl ?_
  refine gf_4_16 C k257 dX2_addProduction_25 ?_
  refine x_iconst C (n := 1) dX2_addProduction_28 ?_
  refine x_iadd C dX2_addProduction_29 ?_
  refine pf_4_16 C k257 dX2_addProduction_30 ?_
  refine x_iload_n C dX2_addProduction_33 rfl 0 rfl ?_
  exact hret _ _ _ _ dX2_addProduction_34 h
set_option maxHeartbeats 4000000 in
theorem m_X2_arity (a1 : Int) : MI l D d K yX2_arity cX2_arity 2 (some .int) 1 [(.ref (K 4)), (iv a1)] (fun Q M => F_X2_arity Q a1 M) := by
  refine s_mi pn_X2 (Nat.le_of_ble_eq_true rfl) [(0, (.ref (K 4))), (1, (iv a1))] rfl rfl (fun p e R s m args below meth c A L M zc zs Q Qg C hret h => ?_)
  refine x_aload_n C dX2_arity_0 rfl 0 rfl ?_
  refine gf_4_0 C k278 dX2_arity_1 ?_
  refine x_aload_n C dX2_arity_4 rfl 0 rfl ?_
  refine gf_4_2 C k273 dX2_arity_5 ?_
  refine x_iload_n C dX2_arity_8 rfl 1 rfl ?_
  refine x_rget C 11 (by decide) k279 (Nat.le_of_ble_eq_true rfl) (Nat.le_of_ble_eq_true rfl) dX2_arity_9 ?_
  refine x_callVi C FX7_arity GX7_arity k280 (m_X7_arity (rg M 11 a1)) h (by decide) (fun _ => rfl) rfl (Nat.le_of_ble_eq_true rfl) (Nat.le_of_ble_eq_true rfl) (rest := []) (Nat.le_of_ble_eq_true rfl) rfl rfl dX2_arity_12 (fun v1 M1 h => ?_)
  exact hret _ _ _ _ dX2_arity_15 h
set_option maxHeartbeats 4000000 in
theorem m_X10_partOf (a1 : Int) (a2 : Int) : MI l D d K yX10_partOf cX10_partOf 3 (some .int) 2 [(.ref (K 3)), (iv a1), (iv a2)] (fun Q M => F_X10_partOf Q a1 a2 M) := by
  refine s_mi pn_X10 (Nat.le_of_ble_eq_true rfl) [(0, (.ref (K 3))), (1, (iv a1)), (2, (iv a2))] rfl rfl (fun p e R s m args below meth c A L M zc zs Q Qg C hret h => ?_)
  refine x_aload_n C dX10_partOf_0 rfl 0 rfl ?_
  refine x_aload_n C dX10_partOf_1 rfl 0 rfl ?_
  refine gf_3_0 C k228 dX10_partOf_2 ?_
  refine x_aload_n C dX10_partOf_5 rfl 0 rfl ?_
  refine gf_3_2 C k221 dX10_partOf_6 ?_
  refine x_iload_n C dX10_partOf_9 rfl 1 rfl ?_
  refine x_rget C 7 (by decide) k220 (Nat.le_of_ble_eq_true rfl) (Nat.le_of_ble_eq_true rfl) dX10_partOf_10 ?_
  refine x_iload_n C dX10_partOf_13 rfl 2 rfl ?_
  refine x_callVi C FX8_part GX8_part k234 (m_X8_part (rg M 7 a1) a2) h (by decide) (fun _ => rfl) rfl (Nat.le_of_ble_eq_true rfl) (Nat.le_of_ble_eq_true rfl) (rest := [(.ref (K 3))]) (Nat.le_of_ble_eq_true rfl) rfl rfl dX10_partOf_14 (fun v1 M1 h => ?_)
  refine x_callVi C FX10_indexOf GX10_indexOf k222 (m_X10_indexOf v1) h (by decide) (fun _ => rfl) rfl (Nat.le_of_ble_eq_true rfl) (Nat.le_of_ble_eq_true rfl) (rest := []) (Nat.le_of_ble_eq_true rfl) rfl rfl dX10_partOf_17 (fun v2 M2 h => ?_)
  exact hret _ _ _ _ dX10_partOf_20 h
set_option maxHeartbeats 4000000 in
theorem m_X2_setPart (a1 : Int) (a2 : Int) (a3 : Int) : MV l D d K yX2_setPart cX2_setPart 4 none 1 [(.ref (K 4)), (iv a1), (iv a2), (iv a3)] (fun Q M => F_X2_setPart Q a1 a2 a3 M) := by
  refine s_mv pn_X2 (Nat.le_of_ble_eq_true rfl) [(0, (.ref (K 4))), (1, (iv a1)), (2, (iv a2)), (3, (iv a3))] rfl rfl (fun p e R s m args below meth c A L M zc zs Q Qg C hret h => ?_)
  refine x_aload_n C dX2_setPart_0 rfl 0 rfl ?_
  refine gf_4_3 C k289 dX2_setPart_1 ?_
  refine x_iconst C (n := 3) dX2_setPart_4 ?_
  refine x_iload_n C dX2_setPart_5 rfl 1 rfl ?_
  refine x_imul C dX2_setPart_6 ?_
  refine x_iload_n C dX2_setPart_7 rfl 2 rfl ?_
  refine x_iadd C dX2_setPart_8 ?_
  refine x_iload_n C dX2_setPart_9 rfl 3 rfl ?_
  refine x_rset C 12 (by decide) h.1 k272 (Nat.le_of_ble_eq_true rfl) (Nat.le_of_ble_eq_true rfl) dX2_setPart_10 ?_
  replace h := h.2
  exact hret _ _ _ dX2_setPart_13 h
set_option maxHeartbeats 4000000 in
theorem T_X2_takeTerms_37 {Q : g_M → Prop} (C : XC p R s m args c D d A cX2_takeTerms 6 RX2 3 zc zs) (hret : RTV p l e R s m args below meth c Qg D d K A 6 zc zs L cX2_takeTerms Q) {k10 : Int → g_M → Prop} (hk10 : ∀ (x3 : Int) (M : g_M), k10 x3 M → X p l e R s m args below meth c Qg D d K A 6 zc zs L M [(0, (.ref (K 4))), (1, (.ref (K 3))), (2, (.ref (K 2))), (3, (iv x3))] 10 []) : ∀ (n : Nat) (x3 : Int) (x4 : Int) (x5 : Int) (M : g_M), F_X2_takeTerms_37 Q k10 n x3 x4 x5 M → X p l e R s m args below meth c Qg D d K A 6 zc zs L M [(0, (.ref (K 4))), (1, (.ref (K 3))), (2, (.ref (K 2))), (3, (iv x3)), (4, (iv x4)), (5, (iv x5))] 37 [] := by
  intro n
  induction n with
  | zero =>
    intro x3 x4 x5 M h
    exact h.elim
  | succ n ih =>
    intro x3 x4 x5 M h
    replace h : F_X2_arity (fun v8 M8 => ((bm x5 < bm v8 → (F_X10_partOf (fun v10 M10 => F_X2_setPart (fun M11 => F_X2_takeTerms_37 Q k10 n x3 x4 (x5 + 1) M11) x4 x5 v10 M10) x3 x5 M8)) ∧ (¬ bm x5 < bm v8 → (k10 (x3 + 1) M8)))) x4 M := h
    refine x_iload C dX2_takeTerms_37 5 rfl ?_
    refine x_aload_n C dX2_takeTerms_39 rfl 0 rfl ?_
    refine x_iload C dX2_takeTerms_40 4 rfl ?_
    refine x_callVi C FX2_arity GX2_arity k281 (m_X2_arity x4) h (by decide) (fun _ => rfl) rfl (Nat.le_of_ble_eq_true rfl) (Nat.le_of_ble_eq_true rfl) (rest := [(iv x5)]) (Nat.le_of_ble_eq_true rfl) rfl rfl dX2_takeTerms_42 (fun v8 M8 h => ?_)
    refine x_icmp_ge C 69 dX2_takeTerms_45 (by decide) (fun c9 => ?_) (fun c9 => ?_)
    · replace h := h.1 c9
      refine x_aload_n C dX2_takeTerms_48 rfl 0 rfl ?_
      refine x_iload C dX2_takeTerms_49 4 rfl ?_
      refine x_iload C dX2_takeTerms_51 5 rfl ?_
      refine x_aload_n C dX2_takeTerms_53 rfl 1 rfl ?_
      refine x_iload_n C dX2_takeTerms_54 rfl 3 rfl ?_
      refine x_iload C dX2_takeTerms_55 5 rfl ?_
      refine x_callVi C FX10_partOf GX10_partOf k285 (m_X10_partOf x3 x5) h (by decide) (fun _ => rfl) rfl (Nat.le_of_ble_eq_true rfl) (Nat.le_of_ble_eq_true rfl) (rest := [(iv x5), (iv x4), (.ref (K 4))]) (Nat.le_of_ble_eq_true rfl) rfl rfl dX2_takeTerms_57 (fun v10 M10 h => ?_)
      refine x_callVv C FX2_setPart GX2_setPart k290 (m_X2_setPart x4 x5 v10) h (by decide) (fun _ => rfl) rfl (Nat.le_of_ble_eq_true rfl) (Nat.le_of_ble_eq_true rfl) (rest := []) (Nat.le_of_ble_eq_true rfl) rfl rfl dX2_takeTerms_60 (fun M11 h => ?_)
      refine x_iinc C dX2_takeTerms_63 5 rfl (by decide) [(5, (iv (x5 + 1))), (0, (.ref (K 4))), (1, (.ref (K 3))), (2, (.ref (K 2))), (3, (iv x3)), (4, (iv x4))] rfl ?_
      refine x_goto C 37 dX2_takeTerms_66 (by decide) ?_
      refine x_lv (lv' := [(0, (.ref (K 4))), (1, (.ref (K 3))), (2, (.ref (K 2))), (3, (iv x3)), (4, (iv x4)), (5, (iv (x5 + 1)))]) [1, 2, 3, 4, 5, 0] rfl ?_
      exact ih x3 x4 (x5 + 1) M11 h
    · replace h := h.2 c9
      refine x_iinc C dX2_takeTerms_69 3 rfl (by decide) [(3, (iv (x3 + 1))), (0, (.ref (K 4))), (1, (.ref (K 3))), (2, (.ref (K 2))), (4, (iv x4)), (5, (iv x5))] rfl ?_
      refine x_goto C 10 dX2_takeTerms_72 (by decide) ?_
      refine x_lv (lv' := [(0, (.ref (K 4))), (1, (.ref (K 3))), (2, (.ref (K 2))), (3, (iv (x3 + 1)))]) [1, 2, 3, 0] rfl ?_
      exact hk10 (x3 + 1) M8 h
set_option maxHeartbeats 4000000 in
theorem T_X2_takeTerms_10 {Q : g_M → Prop} (C : XC p R s m args c D d A cX2_takeTerms 6 RX2 3 zc zs) (hret : RTV p l e R s m args below meth c Qg D d K A 6 zc zs L cX2_takeTerms Q) : ∀ (n : Nat) (x3 : Int) (M : g_M), F_X2_takeTerms_10 Q n x3 M → X p l e R s m args below meth c Qg D d K A 6 zc zs L M [(0, (.ref (K 4))), (1, (.ref (K 3))), (2, (.ref (K 2))), (3, (iv x3))] 10 [] := by
  intro n
  induction n with
  | zero =>
    intro x3 M h
    exact h.elim
  | succ n ih =>
    intro x3 M h
    replace h : F_X10_count (fun v3 M3 => ((bm x3 < bm v3 → (F_X10_node (fun v5 M5 => F_X8_symbol (fun v6 M6 => F_X2_addProduction (fun v7 M7 => ∃ n9, F_X2_takeTerms_37 Q (F_X2_takeTerms_10 Q n) n9 x3 v7 0 M7) x3 v6 M6) v5 M5) x3 M3)) ∧ (¬ bm x3 < bm v3 → (Q M3)))) M := h
    refine x_iload_n C dX2_takeTerms_10 rfl 3 rfl ?_
    refine x_aload_n C dX2_takeTerms_11 rfl 1 rfl ?_
    refine x_callVi C FX10_count GX10_count k252 (m_X10_count) h (by decide) (fun _ => rfl) rfl (Nat.le_of_ble_eq_true rfl) (Nat.le_of_ble_eq_true rfl) (rest := [(iv x3)]) (Nat.le_of_ble_eq_true rfl) rfl rfl dX2_takeTerms_12 (fun v3 M3 h => ?_)
    refine x_icmp_ge C 75 dX2_takeTerms_15 (by decide) (fun c4 => ?_) (fun c4 => ?_)
    · replace h := h.1 c4
      refine x_aload_n C dX2_takeTerms_18 rfl 0 rfl ?_
      refine x_iload_n C dX2_takeTerms_19 rfl 3 rfl ?_
      refine x_aload_n C dX2_takeTerms_20 rfl 2 rfl ?_
      refine x_aload_n C dX2_takeTerms_21 rfl 1 rfl ?_
      refine x_iload_n C dX2_takeTerms_22 rfl 3 rfl ?_
      refine x_callVi C FX10_node GX10_node k263 (m_X10_node x3) h (by decide) (fun _ => rfl) rfl (Nat.le_of_ble_eq_true rfl) (Nat.le_of_ble_eq_true rfl) (rest := [(.ref (K 2)), (iv x3), (.ref (K 4))]) (Nat.le_of_ble_eq_true rfl) rfl rfl dX2_takeTerms_23 (fun v5 M5 h => ?_)
      refine x_callVi C FX8_symbol GX8_symbol k267 (m_X8_symbol v5) h (by decide) (fun _ => rfl) rfl (Nat.le_of_ble_eq_true rfl) (Nat.le_of_ble_eq_true rfl) (rest := [(iv x3), (.ref (K 4))]) (Nat.le_of_ble_eq_true rfl) rfl rfl dX2_takeTerms_26 (fun v6 M6 h => ?_)
      refine x_callVi C FX2_addProduction GX2_addProduction k274 (m_X2_addProduction x3 v6) h (by decide) (fun _ => rfl) rfl (Nat.le_of_ble_eq_true rfl) (Nat.le_of_ble_eq_true rfl) (rest := []) (Nat.le_of_ble_eq_true rfl) rfl rfl dX2_takeTerms_29 (fun v7 M7 h => ?_)
      refine x_istore C dX2_takeTerms_32 (by decide) [(4, (iv v7)), (0, (.ref (K 4))), (1, (.ref (K 3))), (2, (.ref (K 2))), (3, (iv x3))] rfl ?_
      refine x_iconst C (n := 0) dX2_takeTerms_34 ?_
      refine x_istore C dX2_takeTerms_35 (by decide) [(5, (iv 0)), (4, (iv v7)), (0, (.ref (K 4))), (1, (.ref (K 3))), (2, (.ref (K 2))), (3, (iv x3))] rfl ?_
      refine x_lv (lv' := [(0, (.ref (K 4))), (1, (.ref (K 3))), (2, (.ref (K 2))), (3, (iv x3)), (4, (iv v7)), (5, (iv 0))]) [2, 3, 4, 5, 1, 0] rfl ?_
      obtain ⟨n9, h⟩ := h
      exact T_X2_takeTerms_37 C hret ih n9 x3 v7 0 M7 h
    · replace h := h.2 c4
      exact hret _ _ _ dX2_takeTerms_75 h
set_option maxHeartbeats 4000000 in
theorem m_X2_takeTerms  : MV l D d K yX2_takeTerms cX2_takeTerms 6 none 3 [(.ref (K 4)), (.ref (K 3)), (.ref (K 2))] (fun Q M => F_X2_takeTerms Q M) := by
  refine s_mv pn_X2 (Nat.le_of_ble_eq_true rfl) [(0, (.ref (K 4))), (1, (.ref (K 3))), (2, (.ref (K 2)))] rfl rfl (fun p e R s m args below meth c A L M zc zs Q Qg C hret h => ?_)
  refine x_aload_n C dX2_takeTerms_0 rfl 0 rfl ?_
  refine x_aload_n C dX2_takeTerms_1 rfl 1 rfl ?_
  refine x_callVi C FX10_count GX10_count k252 (m_X10_count) h (by decide) (fun _ => rfl) rfl (Nat.le_of_ble_eq_true rfl) (Nat.le_of_ble_eq_true rfl) (rest := [(.ref (K 4))]) (Nat.le_of_ble_eq_true rfl) rfl rfl dX2_takeTerms_2 (fun v1 M1 h => ?_)
  refine x_callVv C FX2_clear GX2_clear k258 (m_X2_clear v1) h (by decide) (fun _ => rfl) rfl (Nat.le_of_ble_eq_true rfl) (Nat.le_of_ble_eq_true rfl) (rest := []) (Nat.le_of_ble_eq_true rfl) rfl rfl dX2_takeTerms_5 (fun M2 h => ?_)
  refine x_iconst C (n := 0) dX2_takeTerms_8 ?_
  refine x_istore_n C dX2_takeTerms_9 rfl (by decide) [(3, (iv 0)), (0, (.ref (K 4))), (1, (.ref (K 3))), (2, (.ref (K 2)))] rfl ?_
  refine x_lv (lv' := [(0, (.ref (K 4))), (1, (.ref (K 3))), (2, (.ref (K 2))), (3, (iv 0))]) [1, 2, 3, 0] rfl ?_
  obtain ⟨n9, h⟩ := h
  exact T_X2_takeTerms_10 C hret n9 0 M2 h
set_option maxHeartbeats 4000000 in
theorem m_X7_orderMode  : MI l D d K yX7_orderMode cX7_orderMode 1 (some .int) 0 [(.ref (K 1))] (fun Q M => F_X7_orderMode Q M) := by
  refine s_mi pn_X7 (Nat.le_of_ble_eq_true rfl) [(0, (.ref (K 1)))] rfl rfl (fun p e R s m args below meth c A L M zc zs Q Qg C hret h => ?_)
  refine x_aload_n C dX7_orderMode_0 rfl 0 rfl ?_
  refine gf_1_9 C k79 dX7_orderMode_1 ?_
  refine x_if_eq C 11 dX7_orderMode_4 (by decide) (fun c1 => ?_) (fun c1 => ?_)
  · replace h := h.1 c1
    refine x_iconst C (n := 0) dX7_orderMode_11 ?_
    exact hret _ _ _ _ dX7_orderMode_12 h
  · replace h := h.2 c1
    refine x_iconst C (n := 1) dX7_orderMode_7 ?_
    refine x_goto C 12 dX7_orderMode_8 (by decide) ?_
    exact hret _ _ _ _ dX7_orderMode_12 h
set_option maxHeartbeats 4000000 in
theorem T_X2_linkUsers_46 {Q : g_M → Prop} (C : XC p R s m args c D d A cX2_linkUsers 5 RX2 2 zc zs) (hret : RTV p l e R s m args below meth c Qg D d K A 5 zc zs L cX2_linkUsers Q) {k36 : Int → g_M → Prop} (hk36 : ∀ (x1 : Int) (M : g_M), k36 x1 M → X p l e R s m args below meth c Qg D d K A 5 zc zs L M [(0, (.ref (K 4))), (1, (iv x1))] 36 []) : ∀ (n : Nat) (x1 : Int) (x2 : Int) (M : g_M), F_X2_linkUsers_46 Q k36 n x1 x2 M → X p l e R s m args below meth c Qg D d K A 5 zc zs L M [(0, (.ref (K 4))), (1, (iv x1)), (2, (iv x2))] 46 [] := by
  intro n
  induction n with
  | zero =>
    intro x1 x2 M h
    exact h.elim
  | succ n ih =>
    intro x1 x2 M h
    replace h : F_X2_arity (fun v3 M3 => ((bm x2 < bm v3 → ((okI 15 ((3 * x1) + x2) ∧ (okI 14 (rg M3 12 ((3 * x1) + x2)) ∧ F_X2_linkUsers_46 Q k36 n x1 (x2 + 1) (rs (rs M3 15 ((3 * x1) + x2) (rg M3 14 (rg M3 12 ((3 * x1) + x2)))) 14 (rg M3 12 ((3 * x1) + x2)) (((3 * x1) + x2) + 1)))))) ∧ (¬ bm x2 < bm v3 → (k36 (x1 + 1) M3)))) x1 M := h
    refine x_iload_n C dX2_linkUsers_46 rfl 2 rfl ?_
    refine x_aload_n C dX2_linkUsers_47 rfl 0 rfl ?_
    refine x_iload_n C dX2_linkUsers_48 rfl 1 rfl ?_
    refine x_callVi C FX2_arity GX2_arity k281 (m_X2_arity x1) h (by decide) (fun _ => rfl) rfl (Nat.le_of_ble_eq_true rfl) (Nat.le_of_ble_eq_true rfl) (rest := [(iv x2)]) (Nat.le_of_ble_eq_true rfl) rfl rfl dX2_linkUsers_49 (fun v3 M3 h => ?_)
    refine x_icmp_ge C 106 dX2_linkUsers_52 (by decide) (fun c4 => ?_) (fun c4 => ?_)
    · replace h := h.1 c4
      refine x_iconst C (n := 3) dX2_linkUsers_55 ?_
      refine x_iload_n C dX2_linkUsers_56 rfl 1 rfl ?_
      refine x_imul C dX2_linkUsers_57 ?_
      refine x_iload_n C dX2_linkUsers_58 rfl 2 rfl ?_
      refine x_iadd C dX2_linkUsers_59 ?_
      refine x_istore_n C dX2_linkUsers_60 rfl (by decide) [(3, (iv ((3 * x1) + x2))), (0, (.ref (K 4))), (1, (iv x1)), (2, (iv x2))] rfl ?_
      refine x_aload_n C dX2_linkUsers_61 rfl 1 rfl ?_
      refine gf_4_3 C k289 dX2_linkUsers_62 ?_
      refine x_iload_n C dX2_linkUsers_65 rfl 0 rfl ?_
      refine x_rget C 12 (by decide) k279 (Nat.le_of_ble_eq_true rfl) (Nat.le_of_ble_eq_true rfl) dX2_linkUsers_66 ?_
      refine x_istore C dX2_linkUsers_69 (by decide) [(4, (iv (rg M3 12 ((3 * x1) + x2)))), (3, (iv ((3 * x1) + x2))), (0, (.ref (K 4))), (1, (iv x1)), (2, (iv x2))] rfl ?_
      refine x_aload_n C dX2_linkUsers_71 rfl 2 rfl ?_
      refine gf_4_6 C k307 dX2_linkUsers_72 ?_
      refine x_iload_n C dX2_linkUsers_75 rfl 1 rfl ?_
      refine x_aload_n C dX2_linkUsers_76 rfl 2 rfl ?_
      refine gf_4_5 C k305 dX2_linkUsers_77 ?_
      refine x_iload C dX2_linkUsers_80 0 rfl ?_
      refine x_rget C 14 (by decide) k279 (Nat.le_of_ble_eq_true rfl) (Nat.le_of_ble_eq_true rfl) dX2_linkUsers_82 ?_
      refine x_rset C 15 (by decide) h.1 k272 (Nat.le_of_ble_eq_true rfl) (Nat.le_of_ble_eq_true rfl) dX2_linkUsers_85 ?_
      replace h := h.2
      refine x_aload_n C dX2_linkUsers_88 rfl 2 rfl ?_
      refine gf_4_5 C k305 dX2_linkUsers_89 ?_
      refine x_iload C dX2_linkUsers_92 0 rfl ?_
      refine x_iload_n C dX2_linkUsers_94 rfl 1 rfl ?_
      refine x_iconst C (n := 1) dX2_linkUsers_95 ?_
      refine x_iadd C dX2_linkUsers_96 ?_
      refine x_rset C 14 (by decide) h.1 k272 (Nat.le_of_ble_eq_true rfl) (Nat.le_of_ble_eq_true rfl) dX2_linkUsers_97 ?_
      replace h := h.2
      refine x_iinc C dX2_linkUsers_100 4 rfl (by decide) [(2, (iv (x2 + 1))), (4, (iv (rg M3 12 ((3 * x1) + x2)))), (3, (iv ((3 * x1) + x2))), (0, (.ref (K 4))), (1, (iv x1))] rfl ?_
      refine x_goto C 46 dX2_linkUsers_103 (by decide) ?_
      refine x_lv (lv' := [(0, (.ref (K 4))), (1, (iv x1)), (2, (iv (x2 + 1)))]) [3, 4, 0] rfl ?_
      exact ih x1 (x2 + 1) (rs (rs M3 15 ((3 * x1) + x2) (rg M3 14 (rg M3 12 ((3 * x1) + x2)))) 14 (rg M3 12 ((3 * x1) + x2)) (((3 * x1) + x2) + 1)) h
    · replace h := h.2 c4
      refine x_iinc C dX2_linkUsers_106 1 rfl (by decide) [(1, (iv (x1 + 1))), (0, (.ref (K 4))), (2, (iv x2))] rfl ?_
      refine x_goto C 36 dX2_linkUsers_109 (by decide) ?_
      refine x_lv (lv' := [(0, (.ref (K 4))), (1, (iv (x1 + 1)))]) [1, 0] rfl ?_
      exact hk36 (x1 + 1) M3 h
set_option maxHeartbeats 4000000 in
theorem T_X2_linkUsers_36 {Q : g_M → Prop} (C : XC p R s m args c D d A cX2_linkUsers 5 RX2 2 zc zs) (hret : RTV p l e R s m args below meth c Qg D d K A 5 zc zs L cX2_linkUsers Q) : ∀ (n : Nat) (x1 : Int) (M : g_M), F_X2_linkUsers_36 Q n x1 M → X p l e R s m args below meth c Qg D d K A 5 zc zs L M [(0, (.ref (K 4))), (1, (iv x1))] 36 [] := by
  intro n
  induction n with
  | zero =>
    intro x1 M h
    exact h.elim
  | succ n ih =>
    intro x1 M h
    replace h : ((bm x1 < bm (M 44 16) → (∃ n9, F_X2_linkUsers_46 Q (F_X2_linkUsers_36 Q n) n9 x1 0 M)) ∧ (¬ bm x1 < bm (M 44 16) → (Q M))) := h
    refine x_iload_n C dX2_linkUsers_36 rfl 1 rfl ?_
    refine x_aload_n C dX2_linkUsers_37 rfl 0 rfl ?_
    refine gf_4_16 C k257 dX2_linkUsers_38 ?_
    refine x_icmp_ge C 112 dX2_linkUsers_41 (by decide) (fun c2 => ?_) (fun c2 => ?_)
    · replace h := h.1 c2
      refine x_iconst C (n := 0) dX2_linkUsers_44 ?_
      refine x_istore_n C dX2_linkUsers_45 rfl (by decide) [(2, (iv 0)), (0, (.ref (K 4))), (1, (iv x1))] rfl ?_
      refine x_lv (lv' := [(0, (.ref (K 4))), (1, (iv x1)), (2, (iv 0))]) [1, 2, 0] rfl ?_
      obtain ⟨n9, h⟩ := h
      exact T_X2_linkUsers_46 C hret ih n9 x1 0 M h
    · replace h := h.2 c2
      exact hret _ _ _ dX2_linkUsers_112 h
set_option maxHeartbeats 4000000 in
theorem T_X2_linkUsers_2 {Q : g_M → Prop} (C : XC p R s m args c D d A cX2_linkUsers 5 RX2 2 zc zs) (hret : RTV p l e R s m args below meth c Qg D d K A 5 zc zs L cX2_linkUsers Q) : ∀ (n : Nat) (x1 : Int) (M : g_M), F_X2_linkUsers_2 Q n x1 M → X p l e R s m args below meth c Qg D d K A 5 zc zs L M [(0, (.ref (K 4))), (1, (iv x1))] 2 [] := by
  intro n
  induction n with
  | zero =>
    intro x1 M h
    exact h.elim
  | succ n ih =>
    intro x1 M h
    replace h : ((bm x1 < bm (M 44 15) → ((okI 14 x1 ∧ (okI 20 x1 ∧ F_X2_linkUsers_2 Q n (x1 + 1) (rs (rs M 14 x1 0) 20 x1 (-1)))))) ∧ (¬ bm x1 < bm (M 44 15) → (∃ n9, F_X2_linkUsers_36 Q n9 0 M))) := h
    refine x_iload_n C dX2_linkUsers_2 rfl 1 rfl ?_
    refine x_aload_n C dX2_linkUsers_3 rfl 0 rfl ?_
    refine gf_4_15 C k256 dX2_linkUsers_4 ?_
    refine x_icmp_ge C 34 dX2_linkUsers_7 (by decide) (fun c1 => ?_) (fun c1 => ?_)
    · replace h := h.1 c1
      refine x_aload_n C dX2_linkUsers_10 rfl 0 rfl ?_
      refine gf_4_5 C k305 dX2_linkUsers_11 ?_
      refine x_iload_n C dX2_linkUsers_14 rfl 1 rfl ?_
      refine x_iconst C (n := 0) dX2_linkUsers_15 ?_
      refine x_rset C 14 (by decide) h.1 k272 (Nat.le_of_ble_eq_true rfl) (Nat.le_of_ble_eq_true rfl) dX2_linkUsers_16 ?_
      replace h := h.2
      refine x_aload_n C dX2_linkUsers_19 rfl 0 rfl ?_
      refine gf_4_11 C k306 dX2_linkUsers_20 ?_
      refine x_iload_n C dX2_linkUsers_23 rfl 1 rfl ?_
      refine x_iconst C (n := (-1)) dX2_linkUsers_24 ?_
      refine x_rset C 20 (by decide) h.1 k272 (Nat.le_of_ble_eq_true rfl) (Nat.le_of_ble_eq_true rfl) dX2_linkUsers_25 ?_
      replace h := h.2
      refine x_iinc C dX2_linkUsers_28 1 rfl (by decide) [(1, (iv (x1 + 1))), (0, (.ref (K 4)))] rfl ?_
      refine x_goto C 2 dX2_linkUsers_31 (by decide) ?_
      refine x_lv (lv' := [(0, (.ref (K 4))), (1, (iv (x1 + 1)))]) [1, 0] rfl ?_
      exact ih (x1 + 1) (rs (rs M 14 x1 0) 20 x1 (-1)) h
    · replace h := h.2 c1
      refine x_iconst C (n := 0) dX2_linkUsers_34 ?_
      refine x_istore_n C dX2_linkUsers_35 rfl (by decide) [(1, (iv 0)), (0, (.ref (K 4)))] rfl ?_
      refine x_lv (lv' := [(0, (.ref (K 4))), (1, (iv 0))]) [1, 0] rfl ?_
      obtain ⟨n9, h⟩ := h
      exact T_X2_linkUsers_36 C hret n9 0 M h
set_option maxHeartbeats 4000000 in
theorem m_X2_linkUsers  : MV l D d K yX2_linkUsers cX2_linkUsers 5 none 2 [(.ref (K 4))] (fun Q M => F_X2_linkUsers Q M) := by
  refine s_mv pn_X2 (Nat.le_of_ble_eq_true rfl) [(0, (.ref (K 4)))] rfl rfl (fun p e R s m args below meth c A L M zc zs Q Qg C hret h => ?_)
  refine x_iconst C (n := 0) dX2_linkUsers_0 ?_
  refine x_istore_n C dX2_linkUsers_1 rfl (by decide) [(1, (iv 0)), (0, (.ref (K 4)))] rfl ?_
  refine x_lv (lv' := [(0, (.ref (K 4))), (1, (iv 0))]) [1, 0] rfl ?_
  obtain ⟨n9, h⟩ := h
  exact T_X2_linkUsers_2 C hret n9 0 M h
set_option maxHeartbeats 4000000 in
theorem m_X7_weight (a1 : Int) : MI l D d K yX7_weight cX7_weight 2 (some .int) 0 [(.ref (K 1)), (iv a1)] (fun Q M => F_X7_weight Q a1 M) := by
  refine s_mi pn_X7 (Nat.le_of_ble_eq_true rfl) [(0, (.ref (K 1))), (1, (iv a1))] rfl rfl (fun p e R s m args below meth c A L M zc zs Q Qg C hret h => ?_)
  refine x_iload_n C dX7_weight_0 rfl 1 rfl ?_
  refine x_if_lt C 21 dX7_weight_1 (by decide) (fun c1 => ?_) (fun c1 => ?_)
  · replace h := h.1 c1
    refine x_iconst C (n := 0) dX7_weight_21 ?_
    exact hret _ _ _ _ dX7_weight_22 h
  · replace h := h.2 c1
    refine x_iload_n C dX7_weight_4 rfl 1 rfl ?_
    refine x_aload_n C dX7_weight_5 rfl 0 rfl ?_
    refine gf_1_7 C k29 dX7_weight_6 ?_
    refine x_icmp_ge C 21 dX7_weight_9 (by decide) (fun c2 => ?_) (fun c2 => ?_)
    · replace h := h.1 c2
      refine x_aload_n C dX7_weight_12 rfl 0 rfl ?_
      refine gf_1_3 C k67 dX7_weight_13 ?_
      refine x_iload_n C dX7_weight_16 rfl 1 rfl ?_
      refine x_iald C 11 24 (by decide) (fun _ => rfl) h.1 dX7_weight_17 ?_
      replace h := h.2
      refine x_goto C 22 dX7_weight_18 (by decide) ?_
      exact hret _ _ _ _ dX7_weight_22 h
    · replace h := h.2 c2
      refine x_iconst C (n := 0) dX7_weight_21 ?_
      exact hret _ _ _ _ dX7_weight_22 h
set_option maxHeartbeats 4000000 in
theorem T_X2_isBefore_144 {Q : Int → g_M → Prop} (C : XC p R s m args c D d A cX2_isBefore 10 RX2 1 zc zs) (hret : RTZ p l e R s m args below meth c Qg D d K A 10 zc zs L cX2_isBefore Q) {k120 : Int → Int → Int → Int → Int → g_M → Prop} (hk120 : ∀ (x1 : Int) (x2 : Int) (x4 : Int) (x5 : Int) (x6 : Int) (M : g_M), k120 x1 x2 x4 x5 x6 M → X p l e R s m args below meth c Qg D d K A 10 zc zs L M [(0, (.ref (K 4))), (1, (iv x1)), (2, (iv x2)), (4, (iv x4)), (5, (iv x5)), (6, (iv x6))] 120 []) (x1 : Int) (x2 : Int) (x4 : Int) (x5 : Int) (x6 : Int) (t0 : Int) (M : g_M) (h : F_X2_isBefore_144 Q k120 x1 x2 x4 x5 x6 t0 M) : X p l e R s m args below meth c Qg D d K A 10 zc zs L M [(0, (.ref (K 4))), (1, (iv x1)), (2, (iv x2)), (4, (iv x4)), (5, (iv x5)), (6, (iv x6))] 144 [(iv t0)] := by
  refine x_istore C dX2_isBefore_144 (by decide) [(7, (iv t0)), (0, (.ref (K 4))), (1, (iv x1)), (2, (iv x2)), (4, (iv x4)), (5, (iv x5)), (6, (iv x6))] rfl ?_
  refine x_aload_n C dX2_isBefore_146 rfl 1 rfl ?_
  refine gf_4_3 C k289 dX2_isBefore_147 ?_
  refine x_iconst C (n := 3) dX2_isBefore_150 ?_
  refine x_iload_n C dX2_isBefore_151 rfl 2 rfl ?_
  refine x_imul C dX2_isBefore_152 ?_
  refine x_iload C dX2_isBefore_153 0 rfl ?_
  refine x_iadd C dX2_isBefore_155 ?_
  refine x_rget C 12 (by decide) k279 (Nat.le_of_ble_eq_true rfl) (Nat.le_of_ble_eq_true rfl) dX2_isBefore_156 ?_
  refine x_istore C dX2_isBefore_159 (by decide) [(8, (iv (rg M 12 ((3 * x1) + t0)))), (7, (iv t0)), (0, (.ref (K 4))), (1, (iv x1)), (2, (iv x2)), (4, (iv x4)), (5, (iv x5)), (6, (iv x6))] rfl ?_
  refine x_aload_n C dX2_isBefore_161 rfl 2 rfl ?_
  refine gf_4_3 C k289 dX2_isBefore_162 ?_
  refine x_iconst C (n := 3) dX2_isBefore_165 ?_
  refine x_iload_n C dX2_isBefore_166 rfl 4 rfl ?_
  refine x_imul C dX2_isBefore_167 ?_
  refine x_iload C dX2_isBefore_168 1 rfl ?_
  refine x_iadd C dX2_isBefore_170 ?_
  refine x_rget C 12 (by decide) k279 (Nat.le_of_ble_eq_true rfl) (Nat.le_of_ble_eq_true rfl) dX2_isBefore_171 ?_
  refine x_istore C dX2_isBefore_174 (by decide) [(9, (iv (rg M 12 ((3 * x2) + t0)))), (8, (iv (rg M 12 ((3 * x1) + t0)))), (7, (iv t0)), (0, (.ref (K 4))), (1, (iv x1)), (2, (iv x2)), (4, (iv x4)), (5, (iv x5)), (6, (iv x6))] rfl ?_
  refine x_iload C dX2_isBefore_176 1 rfl ?_
  refine x_iload C dX2_isBefore_178 0 rfl ?_
  refine x_icmp_eq C 210 dX2_isBefore_180 (by decide) (fun c11 => ?_) (fun c11 => ?_)
  · replace h := h.1 c11
    refine x_iinc C dX2_isBefore_210 8 rfl (by decide) [(6, (iv (x6 + 1))), (9, (iv (rg M 12 ((3 * x2) + t0)))), (8, (iv (rg M 12 ((3 * x1) + t0)))), (7, (iv t0)), (0, (.ref (K 4))), (1, (iv x1)), (2, (iv x2)), (4, (iv x4)), (5, (iv x5))] rfl ?_
    refine x_goto C 120 dX2_isBefore_213 (by decide) ?_
    refine x_lv (lv' := [(0, (.ref (K 4))), (1, (iv x1)), (2, (iv x2)), (4, (iv x4)), (5, (iv x5)), (6, (iv (x6 + 1)))]) [4, 5, 6, 7, 8, 0] rfl ?_
    exact hk120 x1 x2 x4 x5 (x6 + 1) M h
  · replace h := h.2 c11
    refine x_aload_n C dX2_isBefore_183 rfl 3 rfl ?_
    refine gf_4_12 C k326 dX2_isBefore_184 ?_
    refine x_iload C dX2_isBefore_187 1 rfl ?_
    refine x_rget C 21 (by decide) k279 (Nat.le_of_ble_eq_true rfl) (Nat.le_of_ble_eq_true rfl) dX2_isBefore_189 ?_
    refine x_aload_n C dX2_isBefore_192 rfl 3 rfl ?_
    refine gf_4_12 C k326 dX2_isBefore_193 ?_
    refine x_iload C dX2_isBefore_196 0 rfl ?_
    refine x_rget C 21 (by decide) k279 (Nat.le_of_ble_eq_true rfl) (Nat.le_of_ble_eq_true rfl) dX2_isBefore_198 ?_
    refine x_icmp_ge C 208 dX2_isBefore_201 (by decide) (fun c12 => ?_) (fun c12 => ?_)
    · replace h := h.1 c12
      refine x_iconst C (n := 1) dX2_isBefore_204 ?_
      refine x_goto C 209 dX2_isBefore_205 (by decide) ?_
      exact hret _ _ _ _ dX2_isBefore_209 (by unfold isB; decide) h
    · replace h := h.2 c12
      refine x_iconst C (n := 0) dX2_isBefore_208 ?_
      exact hret _ _ _ _ dX2_isBefore_209 (by unfold isB; decide) h
set_option maxHeartbeats 4000000 in
theorem T_X2_isBefore_120 {Q : Int → g_M → Prop} (C : XC p R s m args c D d A cX2_isBefore 10 RX2 1 zc zs) (hret : RTZ p l e R s m args below meth c Qg D d K A 10 zc zs L cX2_isBefore Q) : ∀ (n : Nat) (x1 : Int) (x2 : Int) (x4 : Int) (x5 : Int) (x6 : Int) (M : g_M), F_X2_isBefore_120 Q n x1 x2 x4 x5 x6 M → X p l e R s m args below meth c Qg D d K A 10 zc zs L M [(0, (.ref (K 4))), (1, (iv x1)), (2, (iv x2)), (4, (iv x4)), (5, (iv x5)), (6, (iv x6))] 120 [] := by
  intro n
  induction n with
  | zero =>
    intro x1 x2 x4 x5 x6 M h
    exact h.elim
  | succ n ih =>
    intro x1 x2 x4 x5 x6 M h
    replace h : ((bm x6 < bm x4 → (((bm x5 = 0 → (F_X2_isBefore_144 Q (F_X2_isBefore_120 Q n) x1 x2 x4 x5 x6 x6 M)) ∧ (¬ bm x5 = 0 → (F_X2_isBefore_144 Q (F_X2_isBefore_120 Q n) x1 x2 x4 x5 x6 ((x4 - 1) - x6) M))))) ∧ (¬ bm x6 < bm x4 → (Q 0 M))) := h
    refine x_iload C dX2_isBefore_120 5 rfl ?_
    refine x_iload C dX2_isBefore_122 3 rfl ?_
    refine x_icmp_ge C 216 dX2_isBefore_124 (by decide) (fun c9 => ?_) (fun c9 => ?_)
    · replace h := h.1 c9
      refine x_iload C dX2_isBefore_127 4 rfl ?_
      refine x_if_eq C 142 dX2_isBefore_129 (by decide) (fun c10 => ?_) (fun c10 => ?_)
      · replace h := h.1 c10
        refine x_iload C dX2_isBefore_142 5 rfl ?_
        exact T_X2_isBefore_144 C hret ih x1 x2 x4 x5 x6 x6 M h
      · replace h := h.2 c10
        refine x_iload C dX2_isBefore_132 3 rfl ?_
        refine x_iconst C (n := 1) dX2_isBefore_134 ?_
        refine x_isub C dX2_isBefore_135 ?_
        refine x_iload C dX2_isBefore_136 5 rfl ?_
        refine x_isub C dX2_isBefore_138 ?_
        refine x_goto C 144 dX2_isBefore_139 (by decide) ?_
        exact T_X2_isBefore_144 C hret ih x1 x2 x4 x5 x6 ((x4 - 1) - x6) M h
    · replace h := h.2 c9
      refine x_iconst C (n := 0) dX2_isBefore_216 ?_
      exact hret _ _ _ _ dX2_isBefore_217 (by unfold isB; decide) h
set_option maxHeartbeats 4000000 in
theorem m_X2_isBefore (a1 : Int) (a2 : Int) : MI l D d K yX2_isBefore cX2_isBefore 10 (some .boolean) 1 [(.ref (K 4)), (iv a1), (iv a2)] (fun Q M => F_X2_isBefore Q a1 a2 M) := by
  refine s_mz pn_X2 (Nat.le_of_ble_eq_true rfl) [(0, (.ref (K 4))), (1, (iv a1)), (2, (iv a2))] rfl rfl (fun p e R s m args below meth c A L M zc zs Q Qg C hret h => ?_)
  refine x_aload_n C dX2_isBefore_0 rfl 0 rfl ?_
  refine gf_4_7 C k320 dX2_isBefore_1 ?_
  refine x_iload_n C dX2_isBefore_4 rfl 1 rfl ?_
  refine x_rget C 16 (by decide) k279 (Nat.le_of_ble_eq_true rfl) (Nat.le_of_ble_eq_true rfl) dX2_isBefore_5 ?_
  refine x_aload_n C dX2_isBefore_8 rfl 0 rfl ?_
  refine gf_4_7 C k320 dX2_isBefore_9 ?_
  refine x_iload_n C dX2_isBefore_12 rfl 2 rfl ?_
  refine x_rget C 16 (by decide) k279 (Nat.le_of_ble_eq_true rfl) (Nat.le_of_ble_eq_true rfl) dX2_isBefore_13 ?_
  refine x_icmp_eq C 44 dX2_isBefore_16 (by decide) (fun c1 => ?_) (fun c1 => ?_)
  · replace h := h.1 c1
    refine x_aload_n C dX2_isBefore_44 rfl 0 rfl ?_
    refine gf_4_2 C k273 dX2_isBefore_45 ?_
    refine x_iload_n C dX2_isBefore_48 rfl 1 rfl ?_
    refine x_rget C 11 (by decide) k279 (Nat.le_of_ble_eq_true rfl) (Nat.le_of_ble_eq_true rfl) dX2_isBefore_49 ?_
    refine x_istore_n C dX2_isBefore_52 rfl (by decide) [(3, (iv (rg M 11 a1))), (0, (.ref (K 4))), (1, (iv a1)), (2, (iv a2))] rfl ?_
    refine x_iload_n C dX2_isBefore_53 rfl 0 rfl ?_
    refine x_aload_n C dX2_isBefore_54 rfl 1 rfl ?_
    refine gf_4_2 C k273 dX2_isBefore_55 ?_
    refine x_iload_n C dX2_isBefore_58 rfl 3 rfl ?_
    refine x_rget C 11 (by decide) k279 (Nat.le_of_ble_eq_true rfl) (Nat.le_of_ble_eq_true rfl) dX2_isBefore_59 ?_
    refine x_icmp_eq C 97 dX2_isBefore_62 (by decide) (fun c2 => ?_) (fun c2 => ?_)
    · replace h := h.1 c2
      refine x_aload_n C dX2_isBefore_97 rfl 1 rfl ?_
      refine gf_4_0 C k278 dX2_isBefore_98 ?_
      refine x_iload_n C dX2_isBefore_101 rfl 0 rfl ?_
      refine x_callVi C FX7_arity GX7_arity k280 (m_X7_arity (rg M 11 a1)) h (by decide) (fun _ => rfl) rfl (Nat.le_of_ble_eq_true rfl) (Nat.le_of_ble_eq_true rfl) (rest := []) (Nat.le_of_ble_eq_true rfl) rfl rfl dX2_isBefore_102 (fun v3 M3 h => ?_)
      refine x_istore C dX2_isBefore_105 (by decide) [(4, (iv v3)), (3, (iv (rg M 11 a1))), (0, (.ref (K 4))), (1, (iv a1)), (2, (iv a2))] rfl ?_
      refine x_aload_n C dX2_isBefore_107 rfl 2 rfl ?_
      refine gf_4_0 C k278 dX2_isBefore_108 ?_
      refine x_iload_n C dX2_isBefore_111 rfl 1 rfl ?_
      refine x_callVi C FX7_isFromRight GX7_isFromRight k324 (m_X7_isFromRight (rg M 11 a1)) h (by decide) (fun _ => rfl) rfl (Nat.le_of_ble_eq_true rfl) (Nat.le_of_ble_eq_true rfl) (rest := []) (Nat.le_of_ble_eq_true rfl) rfl rfl dX2_isBefore_112 (fun v4 M4 h => ?_)
      refine x_istore C dX2_isBefore_115 (by decide) [(5, (iv v4)), (4, (iv v3)), (3, (iv (rg M 11 a1))), (0, (.ref (K 4))), (1, (iv a1)), (2, (iv a2))] rfl ?_
      refine x_iconst C (n := 0) dX2_isBefore_117 ?_
      refine x_istore C dX2_isBefore_118 (by decide) [(6, (iv 0)), (5, (iv v4)), (4, (iv v3)), (3, (iv (rg M 11 a1))), (0, (.ref (K 4))), (1, (iv a1)), (2, (iv a2))] rfl ?_
      refine x_lv (lv' := [(0, (.ref (K 4))), (1, (iv a1)), (2, (iv a2)), (4, (iv v3)), (5, (iv v4)), (6, (iv 0))]) [4, 5, 6, 2, 1, 0] rfl ?_
      obtain ⟨n9, h⟩ := h
      exact T_X2_isBefore_120 C hret n9 a1 a2 v3 v4 0 M4 h
    · replace h := h.2 c2
      refine x_aload_n C dX2_isBefore_65 rfl 1 rfl ?_
      refine gf_4_0 C k278 dX2_isBefore_66 ?_
      refine x_iload_n C dX2_isBefore_69 rfl 0 rfl ?_
      refine x_callVi C FX7_rank GX7_rank k325 (m_X7_rank (rg M 11 a1)) h (by decide) (fun _ => rfl) rfl (Nat.le_of_ble_eq_true rfl) (Nat.le_of_ble_eq_true rfl) (rest := []) (Nat.le_of_ble_eq_true rfl) rfl rfl dX2_isBefore_70 (fun v5 M5 h => ?_)
      refine x_aload_n C dX2_isBefore_73 rfl 1 rfl ?_
      refine gf_4_0 C k278 dX2_isBefore_74 ?_
      refine x_aload_n C dX2_isBefore_77 rfl 1 rfl ?_
      refine gf_4_2 C k273 dX2_isBefore_78 ?_
      refine x_iload_n C dX2_isBefore_81 rfl 3 rfl ?_
      refine x_rget C 11 (by decide) k279 (Nat.le_of_ble_eq_true rfl) (Nat.le_of_ble_eq_true rfl) dX2_isBefore_82 ?_
      refine x_callVi C FX7_rank GX7_rank k325 (m_X7_rank (rg M5 11 a2)) h (by decide) (fun _ => rfl) rfl (Nat.le_of_ble_eq_true rfl) (Nat.le_of_ble_eq_true rfl) (rest := [(iv v5)]) (Nat.le_of_ble_eq_true rfl) rfl rfl dX2_isBefore_85 (fun v6 M6 h => ?_)
      refine x_icmp_ge C 95 dX2_isBefore_88 (by decide) (fun c7 => ?_) (fun c7 => ?_)
      · replace h := h.1 c7
        refine x_iconst C (n := 1) dX2_isBefore_91 ?_
        refine x_goto C 96 dX2_isBefore_92 (by decide) ?_
        exact hret _ _ _ _ dX2_isBefore_96 (by unfold isB; decide) h
      · replace h := h.2 c7
        refine x_iconst C (n := 0) dX2_isBefore_95 ?_
        exact hret _ _ _ _ dX2_isBefore_96 (by unfold isB; decide) h
  · replace h := h.2 c1
    refine x_aload_n C dX2_isBefore_19 rfl 0 rfl ?_
    refine gf_4_7 C k320 dX2_isBefore_20 ?_
    refine x_iload_n C dX2_isBefore_23 rfl 1 rfl ?_
    refine x_rget C 16 (by decide) k279 (Nat.le_of_ble_eq_true rfl) (Nat.le_of_ble_eq_true rfl) dX2_isBefore_24 ?_
    refine x_aload_n C dX2_isBefore_27 rfl 0 rfl ?_
    refine gf_4_7 C k320 dX2_isBefore_28 ?_
    refine x_iload_n C dX2_isBefore_31 rfl 2 rfl ?_
    refine x_rget C 16 (by decide) k279 (Nat.le_of_ble_eq_true rfl) (Nat.le_of_ble_eq_true rfl) dX2_isBefore_32 ?_
    refine x_icmp_ge C 42 dX2_isBefore_35 (by decide) (fun c8 => ?_) (fun c8 => ?_)
    · replace h := h.1 c8
      refine x_iconst C (n := 1) dX2_isBefore_38 ?_
      refine x_goto C 43 dX2_isBefore_39 (by decide) ?_
      exact hret _ _ _ _ dX2_isBefore_43 (by unfold isB; decide) h
    · replace h := h.2 c8
      refine x_iconst C (n := 0) dX2_isBefore_42 ?_
      exact hret _ _ _ _ dX2_isBefore_43 (by unfold isB; decide) h
set_option maxHeartbeats 4000000 in
theorem T_X2_enter_260 {Q : g_M → Prop} (C : XC p R s m args c D d A cX2_enter 8 RX2 2 zc zs) (hret : RTV p l e R s m args below meth c Qg D d K A 8 zc zs L cX2_enter Q) (x1 : Int) (x5 : Int) (M : g_M) (h : F_X2_enter_260 Q x1 x5 M) : X p l e R s m args below meth c Qg D d K A 8 zc zs L M [(0, (.ref (K 4))), (1, (iv x1)), (5, (iv x5))] 260 [] := by
  refine x_aload_n C dX2_enter_260 rfl 0 rfl ?_
  refine gf_4_10 C k323 dX2_enter_261 ?_
  refine x_iload C dX2_enter_264 2 rfl ?_
  refine x_iload_n C dX2_enter_266 rfl 1 rfl ?_
  refine x_rset C 19 (by decide) h.1 k272 (Nat.le_of_ble_eq_true rfl) (Nat.le_of_ble_eq_true rfl) dX2_enter_267 ?_
  replace h := h.2
  exact hret _ _ _ dX2_enter_270 h
set_option maxHeartbeats 4000000 in
theorem T_X2_enter_190 {Q : g_M → Prop} (C : XC p R s m args c D d A cX2_enter 8 RX2 2 zc zs) (hret : RTV p l e R s m args below meth c Qg D d K A 8 zc zs L cX2_enter Q) : ∀ (n : Nat) (x1 : Int) (x5 : Int) (x6 : Int) (M : g_M), F_X2_enter_190 Q n x1 x5 x6 M → X p l e R s m args below meth c Qg D d K A 8 zc zs L M [(0, (.ref (K 4))), (1, (iv x1)), (5, (iv x5)), (6, (iv x6))] 190 [] := by
  intro n
  induction n with
  | zero =>
    intro x1 x5 x6 M h
    exact h.elim
  | succ n ih =>
    intro x1 x5 x6 M h
    replace h : ((bm x6 < bm (M 44 17) → (((0 < bm x5 → (F_X2_isBefore (fun v8 M8 => ((bm v8 = 0 → (F_X2_enter_260 Q x1 x5 M8)) ∧ (¬ bm v8 = 0 → ((okI 19 x5 ∧ F_X2_enter_190 Q n x1 (idiv (x5 - 1) 2) (x6 + 1) (rs M8 19 x5 (rg M8 19 (idiv (x5 - 1) 2)))))))) x1 (rg M 19 (idiv (x5 - 1) 2)) M)) ∧ (¬ 0 < bm x5 → (F_X2_enter_260 Q x1 x5 M))))) ∧ (¬ bm x6 < bm (M 44 17) → (F_X2_enter_260 Q x1 x5 M))) := h
    refine x_iload C dX2_enter_190 3 rfl ?_
    refine x_aload_n C dX2_enter_192 rfl 0 rfl ?_
    refine gf_4_17 C k303 dX2_enter_193 ?_
    refine x_icmp_ge C 260 dX2_enter_196 (by decide) (fun c6 => ?_) (fun c6 => ?_)
    · replace h := h.1 c6
      refine x_iload C dX2_enter_199 2 rfl ?_
      refine x_if_le C 260 dX2_enter_201 (by decide) (fun c7 => ?_) (fun c7 => ?_)
      · replace h := h.1 c7
        refine x_iload C dX2_enter_204 2 rfl ?_
        refine x_iconst C (n := 1) dX2_enter_206 ?_
        refine x_isub C dX2_enter_207 ?_
        refine x_iconst C (n := 2) dX2_enter_208 ?_
        refine x_idiv C dX2_enter_209 (by decide) ?_
        refine x_istore C dX2_enter_210 (by decide) [(7, (iv (idiv (x5 - 1) 2))), (0, (.ref (K 4))), (1, (iv x1)), (5, (iv x5)), (6, (iv x6))] rfl ?_
        refine x_aload_n C dX2_enter_212 rfl 1 rfl ?_
        refine x_iload_n C dX2_enter_213 rfl 2 rfl ?_
        refine x_aload_n C dX2_enter_214 rfl 1 rfl ?_
        refine gf_4_10 C k323 dX2_enter_215 ?_
        refine x_iload C dX2_enter_218 0 rfl ?_
        refine x_rget C 19 (by decide) k279 (Nat.le_of_ble_eq_true rfl) (Nat.le_of_ble_eq_true rfl) dX2_enter_220 ?_
        refine x_callVi C FX2_isBefore GX2_isBefore k327 (m_X2_isBefore x1 (rg M 19 (idiv (x5 - 1) 2))) h (by decide) (fun _ => rfl) rfl (Nat.le_of_ble_eq_true rfl) (Nat.le_of_ble_eq_true rfl) (rest := []) (Nat.le_of_ble_eq_true rfl) rfl rfl dX2_enter_223 (fun v8 M8 h => ?_)
        refine x_if_ne C 232 dX2_enter_226 (by decide) (fun c9 => ?_) (fun c9 => ?_)
        · replace h := h.1 c9
          refine x_goto C 260 dX2_enter_229 (by decide) ?_
          refine x_lv (lv' := [(0, (.ref (K 4))), (1, (iv x1)), (5, (iv x5))]) [1, 2, 3] rfl ?_
          exact T_X2_enter_260 C hret x1 x5 M8 h
        · replace h := h.2 c9
          refine x_aload_n C dX2_enter_232 rfl 1 rfl ?_
          refine gf_4_10 C k323 dX2_enter_233 ?_
          refine x_iload C dX2_enter_236 3 rfl ?_
          refine x_aload_n C dX2_enter_238 rfl 1 rfl ?_
          refine gf_4_10 C k323 dX2_enter_239 ?_
          refine x_iload C dX2_enter_242 0 rfl ?_
          refine x_rget C 19 (by decide) k279 (Nat.le_of_ble_eq_true rfl) (Nat.le_of_ble_eq_true rfl) dX2_enter_244 ?_
          refine x_rset C 19 (by decide) h.1 k272 (Nat.le_of_ble_eq_true rfl) (Nat.le_of_ble_eq_true rfl) dX2_enter_247 ?_
          replace h := h.2
          refine x_iload C dX2_enter_250 0 rfl ?_
          refine x_istore C dX2_enter_252 (by decide) [(5, (iv (idiv (x5 - 1) 2))), (7, (iv (idiv (x5 - 1) 2))), (0, (.ref (K 4))), (1, (iv x1)), (6, (iv x6))] rfl ?_
          refine x_iinc C dX2_enter_254 4 rfl (by decide) [(6, (iv (x6 + 1))), (5, (iv (idiv (x5 - 1) 2))), (7, (iv (idiv (x5 - 1) 2))), (0, (.ref (K 4))), (1, (iv x1))] rfl ?_
          refine x_goto C 190 dX2_enter_257 (by decide) ?_
          refine x_lv (lv' := [(0, (.ref (K 4))), (1, (iv x1)), (5, (iv (idiv (x5 - 1) 2))), (6, (iv (x6 + 1)))]) [3, 4, 1, 0] rfl ?_
          exact ih x1 (idiv (x5 - 1) 2) (x6 + 1) (rs M8 19 x5 (rg M8 19 (idiv (x5 - 1) 2))) h
      · replace h := h.2 c7
        refine x_lv (lv' := [(0, (.ref (K 4))), (1, (iv x1)), (5, (iv x5))]) [0, 1, 2] rfl ?_
        exact T_X2_enter_260 C hret x1 x5 M h
    · replace h := h.2 c6
      refine x_lv (lv' := [(0, (.ref (K 4))), (1, (iv x1)), (5, (iv x5))]) [0, 1, 2] rfl ?_
      exact T_X2_enter_260 C hret x1 x5 M h
set_option maxHeartbeats 4000000 in
theorem T_X2_enter_168 {Q : g_M → Prop} (C : XC p R s m args c D d A cX2_enter 8 RX2 2 zc zs) (hret : RTV p l e R s m args below meth c Qg D d K A 8 zc zs L cX2_enter Q) (x1 : Int) (t1 : Int) (t2 : Int) (M : g_M) (h : F_X2_enter_168 Q x1 t1 t2 M) : X p l e R s m args below meth c Qg D d K A 8 zc zs L M [(0, (.ref (K 4))), (1, (iv x1))] 168 [(iv t2), (iv t1), (.ref (K 55))] := by
  refine x_rset C 16 (by decide) h.1 k272 (Nat.le_of_ble_eq_true rfl) (Nat.le_of_ble_eq_true rfl) dX2_enter_168 ?_
  replace h := h.2
  refine x_aload_n C dX2_enter_171 rfl 0 rfl ?_
  refine gf_4_17 C k303 dX2_enter_172 ?_
  refine x_istore C dX2_enter_175 (by decide) [(5, (iv ((rs M 16 t1 t2) 44 17))), (0, (.ref (K 4))), (1, (iv x1))] rfl ?_
  refine x_aload_n C dX2_enter_177 rfl 1 rfl ?_
  refine x_dup C dX2_enter_178 rfl ?_
  refine gf_4_17 C k303 dX2_enter_179 ?_
  refine x_iconst C (n := 1) dX2_enter_182 ?_
  refine x_iadd C dX2_enter_183 ?_
  refine pf_4_17 C k303 dX2_enter_184 ?_
  refine x_iconst C (n := 0) dX2_enter_187 ?_
  refine x_istore C dX2_enter_188 (by decide) [(6, (iv 0)), (5, (iv ((rs M 16 t1 t2) 44 17))), (0, (.ref (K 4))), (1, (iv x1))] rfl ?_
  refine x_lv (lv' := [(0, (.ref (K 4))), (1, (iv x1)), (5, (iv ((rs M 16 t1 t2) 44 17))), (6, (iv 0))]) [2, 3, 1, 0] rfl ?_
  obtain ⟨n9, h⟩ := h
  exact T_X2_enter_190 C hret n9 x1 ((rs M 16 t1 t2) 44 17) 0 (up (rs M 16 t1 t2) 44 17 (((rs M 16 t1 t2) 44 17) + 1)) h
set_option maxHeartbeats 4000000 in
theorem T_X2_enter_24 {Q : g_M → Prop} (C : XC p R s m args c D d A cX2_enter 8 RX2 2 zc zs) (hret : RTV p l e R s m args below meth c Qg D d K A 8 zc zs L cX2_enter Q) : ∀ (n : Nat) (x1 : Int) (x2 : Int) (x3 : Int) (x4 : Int) (x5 : Int) (M : g_M), F_X2_enter_24 Q n x1 x2 x3 x4 x5 M → X p l e R s m args below meth c Qg D d K A 8 zc zs L M [(0, (.ref (K 4))), (1, (iv x1)), (2, (iv x2)), (3, (iv x3)), (4, (iv x4)), (5, (iv x5))] 24 [] := by
  intro n
  induction n with
  | zero =>
    intro x1 x2 x3 x4 x5 M h
    exact h.elim
  | succ n ih =>
    intro x1 x2 x3 x4 x5 M h
    replace h : F_X2_arity (fun v2 M2 => ((bm x5 < bm v2 → (F_X2_enter_24 Q n x1 (x2 + (rg M2 17 (rg M2 20 (rg M2 12 ((3 * x1) + x5))))) (imax x3 (rg M2 18 (rg M2 20 (rg M2 12 ((3 * x1) + x5))))) (x4 + (rg M2 16 (rg M2 20 (rg M2 12 ((3 * x1) + x5))))) (x5 + 1) M2)) ∧ (¬ bm x5 < bm v2 → ((okI 17 x1 ∧ (okI 18 x1 ∧ ((bm ((rs (rs M2 17 x1 (imin x2 1048575)) 18 x1 (imin (x3 + 1) 1048575)) 44 19) = bm 1 → (F_X2_enter_168 Q x1 x1 (imin x4 1048575) (rs (rs M2 17 x1 (imin x2 1048575)) 18 x1 (imin (x3 + 1) 1048575)))) ∧ (¬ bm ((rs (rs M2 17 x1 (imin x2 1048575)) 18 x1 (imin (x3 + 1) 1048575)) 44 19) = bm 1 → (((bm ((rs (rs M2 17 x1 (imin x2 1048575)) 18 x1 (imin (x3 + 1) 1048575)) 44 19) = bm 2 → (F_X2_enter_168 Q x1 x1 x2 (rs (rs M2 17 x1 (imin x2 1048575)) 18 x1 (imin (x3 + 1) 1048575)))) ∧ (¬ bm ((rs (rs M2 17 x1 (imin x2 1048575)) 18 x1 (imin (x3 + 1) 1048575)) 44 19) = bm 2 → (F_X2_enter_168 Q x1 x1 0 (rs (rs M2 17 x1 (imin x2 1048575)) 18 x1 (imin (x3 + 1) 1048575)))))))))))))) x1 M := h
    refine x_iload C dX2_enter_24 5 rfl ?_
    refine x_aload_n C dX2_enter_26 rfl 0 rfl ?_
    refine x_iload_n C dX2_enter_27 rfl 1 rfl ?_
    refine x_callVi C FX2_arity GX2_arity k281 (m_X2_arity x1) h (by decide) (fun _ => rfl) rfl (Nat.le_of_ble_eq_true rfl) (Nat.le_of_ble_eq_true rfl) (rest := [(iv x5)]) (Nat.le_of_ble_eq_true rfl) rfl rfl dX2_enter_28 (fun v2 M2 h => ?_)
    refine x_icmp_ge C 102 dX2_enter_31 (by decide) (fun c3 => ?_) (fun c3 => ?_)
    · replace h := h.1 c3
      refine x_aload_n C dX2_enter_34 rfl 0 rfl ?_
      refine gf_4_11 C k306 dX2_enter_35 ?_
      refine x_aload_n C dX2_enter_38 rfl 0 rfl ?_
      refine gf_4_3 C k289 dX2_enter_39 ?_
      refine x_iconst C (n := 3) dX2_enter_42 ?_
      refine x_iload_n C dX2_enter_43 rfl 1 rfl ?_
      refine x_imul C dX2_enter_44 ?_
      refine x_iload C dX2_enter_45 5 rfl ?_
      refine x_iadd C dX2_enter_47 ?_
      refine x_rget C 12 (by decide) k279 (Nat.le_of_ble_eq_true rfl) (Nat.le_of_ble_eq_true rfl) dX2_enter_48 ?_
      refine x_rget C 20 (by decide) k279 (Nat.le_of_ble_eq_true rfl) (Nat.le_of_ble_eq_true rfl) dX2_enter_51 ?_
      refine x_istore C dX2_enter_54 (by decide) [(6, (iv (rg M2 20 (rg M2 12 ((3 * x1) + x5))))), (0, (.ref (K 4))), (1, (iv x1)), (2, (iv x2)), (3, (iv x3)), (4, (iv x4)), (5, (iv x5))] rfl ?_
      refine x_iload_n C dX2_enter_56 rfl 3 rfl ?_
      refine x_aload_n C dX2_enter_57 rfl 1 rfl ?_
      refine gf_4_8 C k317 dX2_enter_58 ?_
      refine x_iload C dX2_enter_61 0 rfl ?_
      refine x_rget C 17 (by decide) k279 (Nat.le_of_ble_eq_true rfl) (Nat.le_of_ble_eq_true rfl) dX2_enter_63 ?_
      refine x_iadd C dX2_enter_66 ?_
      refine x_istore_n C dX2_enter_67 rfl (by decide) [(2, (iv (x2 + (rg M2 17 (rg M2 20 (rg M2 12 ((3 * x1) + x5))))))), (6, (iv (rg M2 20 (rg M2 12 ((3 * x1) + x5))))), (0, (.ref (K 4))), (1, (iv x1)), (3, (iv x3)), (4, (iv x4)), (5, (iv x5))] rfl ?_
      refine x_iload_n C dX2_enter_68 rfl 4 rfl ?_
      refine x_aload_n C dX2_enter_69 rfl 2 rfl ?_
      refine gf_4_9 C k318 dX2_enter_70 ?_
      refine x_iload C dX2_enter_73 1 rfl ?_
      refine x_rget C 18 (by decide) k279 (Nat.le_of_ble_eq_true rfl) (Nat.le_of_ble_eq_true rfl) dX2_enter_75 ?_
      refine x_mmax C k319 k167 k164 k168 (Nat.le_of_ble_eq_true rfl) dX2_enter_78 ?_
      refine x_istore_n C dX2_enter_81 rfl (by decide) [(3, (iv (imax x3 (rg M2 18 (rg M2 20 (rg M2 12 ((3 * x1) + x5))))))), (2, (iv (x2 + (rg M2 17 (rg M2 20 (rg M2 12 ((3 * x1) + x5))))))), (6, (iv (rg M2 20 (rg M2 12 ((3 * x1) + x5))))), (0, (.ref (K 4))), (1, (iv x1)), (4, (iv x4)), (5, (iv x5))] rfl ?_
      refine x_iload C dX2_enter_82 5 rfl ?_
      refine x_aload_n C dX2_enter_84 rfl 3 rfl ?_
      refine gf_4_7 C k320 dX2_enter_85 ?_
      refine x_iload C dX2_enter_88 2 rfl ?_
      refine x_rget C 16 (by decide) k279 (Nat.le_of_ble_eq_true rfl) (Nat.le_of_ble_eq_true rfl) dX2_enter_90 ?_
      refine x_iadd C dX2_enter_93 ?_
      refine x_istore C dX2_enter_94 (by decide) [(4, (iv (x4 + (rg M2 16 (rg M2 20 (rg M2 12 ((3 * x1) + x5))))))), (3, (iv (imax x3 (rg M2 18 (rg M2 20 (rg M2 12 ((3 * x1) + x5))))))), (2, (iv (x2 + (rg M2 17 (rg M2 20 (rg M2 12 ((3 * x1) + x5))))))), (6, (iv (rg M2 20 (rg M2 12 ((3 * x1) + x5))))), (0, (.ref (K 4))), (1, (iv x1)), (5, (iv x5))] rfl ?_
      refine x_iinc C dX2_enter_96 6 rfl (by decide) [(5, (iv (x5 + 1))), (4, (iv (x4 + (rg M2 16 (rg M2 20 (rg M2 12 ((3 * x1) + x5))))))), (3, (iv (imax x3 (rg M2 18 (rg M2 20 (rg M2 12 ((3 * x1) + x5))))))), (2, (iv (x2 + (rg M2 17 (rg M2 20 (rg M2 12 ((3 * x1) + x5))))))), (6, (iv (rg M2 20 (rg M2 12 ((3 * x1) + x5))))), (0, (.ref (K 4))), (1, (iv x1))] rfl ?_
      refine x_goto C 24 dX2_enter_99 (by decide) ?_
      refine x_lv (lv' := [(0, (.ref (K 4))), (1, (iv x1)), (2, (iv (x2 + (rg M2 17 (rg M2 20 (rg M2 12 ((3 * x1) + x5))))))), (3, (iv (imax x3 (rg M2 18 (rg M2 20 (rg M2 12 ((3 * x1) + x5))))))), (4, (iv (x4 + (rg M2 16 (rg M2 20 (rg M2 12 ((3 * x1) + x5))))))), (5, (iv (x5 + 1)))]) [5, 6, 3, 2, 1, 0] rfl ?_
      exact ih x1 (x2 + (rg M2 17 (rg M2 20 (rg M2 12 ((3 * x1) + x5))))) (imax x3 (rg M2 18 (rg M2 20 (rg M2 12 ((3 * x1) + x5))))) (x4 + (rg M2 16 (rg M2 20 (rg M2 12 ((3 * x1) + x5))))) (x5 + 1) M2 h
    · replace h := h.2 c3
      refine x_aload_n C dX2_enter_102 rfl 0 rfl ?_
      refine gf_4_8 C k317 dX2_enter_103 ?_
      refine x_iload_n C dX2_enter_106 rfl 1 rfl ?_
      refine x_iload_n C dX2_enter_107 rfl 2 rfl ?_
      refine x_ldc C (n := 1048575) (show Cond.constant RX2 143 (Int32.ofInt 1048575) ∈ gW from k321) dX2_enter_108 ?_
      refine x_mmin C k322 k163 k164 k165 (Nat.le_of_ble_eq_true rfl) dX2_enter_110 ?_
      refine x_rset C 17 (by decide) h.1 k272 (Nat.le_of_ble_eq_true rfl) (Nat.le_of_ble_eq_true rfl) dX2_enter_113 ?_
      replace h := h.2
      refine x_aload_n C dX2_enter_116 rfl 0 rfl ?_
      refine gf_4_9 C k318 dX2_enter_117 ?_
      refine x_iload_n C dX2_enter_120 rfl 1 rfl ?_
      refine x_iload_n C dX2_enter_121 rfl 3 rfl ?_
      refine x_iconst C (n := 1) dX2_enter_122 ?_
      refine x_iadd C dX2_enter_123 ?_
      refine x_ldc C (n := 1048575) (show Cond.constant RX2 143 (Int32.ofInt 1048575) ∈ gW from k321) dX2_enter_124 ?_
      refine x_mmin C k322 k163 k164 k165 (Nat.le_of_ble_eq_true rfl) dX2_enter_126 ?_
      refine x_rset C 18 (by decide) h.1 k272 (Nat.le_of_ble_eq_true rfl) (Nat.le_of_ble_eq_true rfl) dX2_enter_129 ?_
      replace h := h.2
      refine x_aload_n C dX2_enter_132 rfl 0 rfl ?_
      refine gf_4_7 C k320 dX2_enter_133 ?_
      refine x_iload_n C dX2_enter_136 rfl 1 rfl ?_
      refine x_aload_n C dX2_enter_137 rfl 0 rfl ?_
      refine gf_4_19 C k302 dX2_enter_138 ?_
      refine x_iconst C (n := 1) dX2_enter_141 ?_
      refine x_icmp_ne C 155 dX2_enter_142 (by decide) (fun c4 => ?_) (fun c4 => ?_)
      · replace h := h.1 c4
        refine x_iload C dX2_enter_145 4 rfl ?_
        refine x_ldc C (n := 1048575) (show Cond.constant RX2 143 (Int32.ofInt 1048575) ∈ gW from k321) dX2_enter_147 ?_
        refine x_mmin C k322 k163 k164 k165 (Nat.le_of_ble_eq_true rfl) dX2_enter_149 ?_
        refine x_goto C 168 dX2_enter_152 (by decide) ?_
        refine x_lv (lv' := [(0, (.ref (K 4))), (1, (iv x1))]) [0, 1] rfl ?_
        exact T_X2_enter_168 C hret x1 x1 (imin x4 1048575) (rs (rs M2 17 x1 (imin x2 1048575)) 18 x1 (imin (x3 + 1) 1048575)) h
      · replace h := h.2 c4
        refine x_aload_n C dX2_enter_155 rfl 0 rfl ?_
        refine gf_4_19 C k302 dX2_enter_156 ?_
        refine x_iconst C (n := 2) dX2_enter_159 ?_
        refine x_icmp_ne C 167 dX2_enter_160 (by decide) (fun c5 => ?_) (fun c5 => ?_)
        · replace h := h.1 c5
          refine x_iload_n C dX2_enter_163 rfl 2 rfl ?_
          refine x_goto C 168 dX2_enter_164 (by decide) ?_
          refine x_lv (lv' := [(0, (.ref (K 4))), (1, (iv x1))]) [0, 1] rfl ?_
          exact T_X2_enter_168 C hret x1 x1 x2 (rs (rs M2 17 x1 (imin x2 1048575)) 18 x1 (imin (x3 + 1) 1048575)) h
        · replace h := h.2 c5
          refine x_iconst C (n := 0) dX2_enter_167 ?_
          refine x_lv (lv' := [(0, (.ref (K 4))), (1, (iv x1))]) [0, 1] rfl ?_
          exact T_X2_enter_168 C hret x1 x1 0 (rs (rs M2 17 x1 (imin x2 1048575)) 18 x1 (imin (x3 + 1) 1048575)) h
set_option maxHeartbeats 4000000 in
theorem m_X2_enter (a1 : Int) : MV l D d K yX2_enter cX2_enter 8 none 2 [(.ref (K 4)), (iv a1)] (fun Q M => F_X2_enter Q a1 M) := by
  refine s_mv pn_X2 (Nat.le_of_ble_eq_true rfl) [(0, (.ref (K 4))), (1, (iv a1))] rfl rfl (fun p e R s m args below meth c A L M zc zs Q Qg C hret h => ?_)
  refine x_iconst C (n := 1) dX2_enter_0 ?_
  refine x_istore_n C dX2_enter_1 rfl (by decide) [(2, (iv 1)), (0, (.ref (K 4))), (1, (iv a1))] rfl ?_
  refine x_iconst C (n := 0) dX2_enter_2 ?_
  refine x_istore_n C dX2_enter_3 rfl (by decide) [(3, (iv 0)), (2, (iv 1)), (0, (.ref (K 4))), (1, (iv a1))] rfl ?_
  refine x_aload_n C dX2_enter_4 rfl 2 rfl ?_
  refine gf_4_0 C k278 dX2_enter_5 ?_
  refine x_aload_n C dX2_enter_8 rfl 2 rfl ?_
  refine gf_4_2 C k273 dX2_enter_9 ?_
  refine x_iload_n C dX2_enter_12 rfl 3 rfl ?_
  refine x_rget C 11 (by decide) k279 (Nat.le_of_ble_eq_true rfl) (Nat.le_of_ble_eq_true rfl) dX2_enter_13 ?_
  refine x_callVi C FX7_weight GX7_weight k313 (m_X7_weight (rg M 11 a1)) h (by decide) (fun _ => rfl) rfl (Nat.le_of_ble_eq_true rfl) (Nat.le_of_ble_eq_true rfl) (rest := []) (Nat.le_of_ble_eq_true rfl) rfl rfl dX2_enter_16 (fun v1 M1 h => ?_)
  refine x_istore C dX2_enter_19 (by decide) [(4, (iv v1)), (3, (iv 0)), (2, (iv 1)), (0, (.ref (K 4))), (1, (iv a1))] rfl ?_
  refine x_iconst C (n := 0) dX2_enter_21 ?_
  refine x_istore C dX2_enter_22 (by decide) [(5, (iv 0)), (4, (iv v1)), (3, (iv 0)), (2, (iv 1)), (0, (.ref (K 4))), (1, (iv a1))] rfl ?_
  refine x_lv (lv' := [(0, (.ref (K 4))), (1, (iv a1)), (2, (iv 1)), (3, (iv 0)), (4, (iv v1)), (5, (iv 0))]) [4, 5, 3, 2, 1, 0] rfl ?_
  obtain ⟨n9, h⟩ := h
  exact T_X2_enter_24 C hret n9 a1 1 0 v1 0 M1 h
end XW
