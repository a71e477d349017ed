section XW
variable {p : Program} {l : Launch} {e : Env} {R : Room} {s : State} {m : MethodId} {args : Array Value} {below : List Frame} {meth : Method} {c : Code} {Qg : State → Prop} {D : va_G} {d : Nat → ClassId} {K : Nat → Nat} {A : Nat → Prop} {zc zs : Int} {L : va_W} {KN : Nat → Nat} {b Ls : Nat} {xs : Nat → Int32}
set_option maxHeartbeats 4000000 in
theorem m_L_cell (a1 : Int) : MIs l D d K b Ls xs yL_cell cL_cell 2 (some .int) 0 [(.ref b), (iv a1)] (fun Q M => F_L_cell Ls xs Q a1 M) := by
  refine s_mis pn_L (Nat.le_of_ble_eq_true rfl) [(0, (.ref b)), (1, (iv a1))] rfl rfl (fun p e R s m args below meth c A L M zc zs Q Qg C hscr hret h => ?_)
  refine x_iload_n C dL_cell_0 rfl 1 rfl ?_
  refine x_aload_n C dL_cell_1 rfl 0 rfl ?_
  refine x_slen C hscr dL_cell_2 ?_
  refine x_icmp_ge C 12 dL_cell_3 (by decide) (fun c1 => ?_) (fun c1 => ?_)
  · replace h := h.1 c1
    refine x_aload_n C dL_cell_6 rfl 0 rfl ?_
    refine x_iload_n C dL_cell_7 rfl 1 rfl ?_
    refine x_sld C hscr h.1 dL_cell_8 ?_
    replace h := h.2
    refine x_goto C 18 dL_cell_9 (by decide) ?_
    exact hret _ _ _ _ dL_cell_18 h
  · replace h := h.2 c1
    refine x_ldc C (n := 790386105) (show Cond.constant RL 8 (Int32.ofInt 790386105) ∈ gW from k590) dL_cell_12 ?_
    refine x_iload_n C dL_cell_14 rfl 1 rfl ?_
    refine x_iconst C (n := 3) dL_cell_15 ?_
    refine x_iadd C dL_cell_16 ?_
    refine x_imul C dL_cell_17 ?_
    exact hret _ _ _ _ dL_cell_18 h
set_option maxHeartbeats 4000000 in
theorem T_L_build_183 {Q : g_M → g_M → Prop} (C : XC p R s m args c D d A cL_build 10 RL 4 zc zs) (hscr : SC b Ls xs s A) (hret : RTN p l e R s m args below meth c Qg D d K A 10 zc zs KN cL_build Q) {k3 : Int → Int → g_M → g_M → Prop} (hk3 : ∀ (x2 : Int) (x6 : Int) (M N : g_M), k3 x2 x6 M N → X p l e R s m args below meth c Qg D d K A 10 zc zs (lw KN d N) M [(0, (.ref (K 0))), (1, (.ref b)), (2, (iv x2)), (3, (.ref (KN 0))), (4, (.ref (KN 1))), (5, (.ref (KN 2))), (6, (iv x6))] 3 []) (x2 : Int) (x6 : Int) (t1 : Int) (t2 : Int) (M N : g_M) (h : F_L_build_183 Ls xs Q k3 x2 x6 t1 t2 M N) : X p l e R s m args below meth c Qg D d K A 10 zc zs (lw KN d N) M [(0, (.ref (K 0))), (1, (.ref b)), (2, (iv x2)), (3, (.ref (KN 0))), (4, (.ref (KN 1))), (5, (.ref (KN 2))), (6, (iv x6))] 183 [(iv t2), (iv t1), (.ref (KN 0))] := by
  refine y_iast C 0 14 (by decide) (by rfl) h.1 dL_build_183 ?_
  replace h := h.2
  refine x_iinc C dL_build_184 6 rfl (by decide) [(6, (iv (x6 + 1))), (0, (.ref (K 0))), (1, (.ref b)), (2, (iv x2)), (3, (.ref (KN 0))), (4, (.ref (KN 1))), (5, (.ref (KN 2)))] rfl ?_
  refine x_goto C 3 dL_build_187 (by decide) ?_
  refine x_lv (lv' := [(0, (.ref (K 0))), (1, (.ref b)), (2, (iv x2)), (3, (.ref (KN 0))), (4, (.ref (KN 1))), (5, (.ref (KN 2))), (6, (iv (x6 + 1)))]) [1, 2, 3, 4, 5, 6, 0] rfl ?_
  exact hk3 x2 (x6 + 1) M (up N 0 (bm t1).toNat t2) h
set_option maxHeartbeats 4000000 in
theorem T_L_build_171 {Q : g_M → g_M → Prop} (C : XC p R s m args c D d A cL_build 10 RL 4 zc zs) (hscr : SC b Ls xs s A) (hret : RTN p l e R s m args below meth c Qg D d K A 10 zc zs KN cL_build Q) {k3 : Int → Int → g_M → g_M → Prop} (hk3 : ∀ (x2 : Int) (x6 : Int) (M N : g_M), k3 x2 x6 M N → X p l e R s m args below meth c Qg D d K A 10 zc zs (lw KN d N) M [(0, (.ref (K 0))), (1, (.ref b)), (2, (iv x2)), (3, (.ref (KN 0))), (4, (.ref (KN 1))), (5, (.ref (KN 2))), (6, (iv x6))] 3 []) (x2 : Int) (x6 : Int) (x8 : Int) (x9 : Int) (t1 : Int) (t3 : Int) (M N : g_M) (h : F_L_build_171 Ls xs Q k3 x2 x6 x8 x9 t1 t3 M N) : X p l e R s m args below meth c Qg D d K A 10 zc zs (lw KN d N) M [(0, (.ref (K 0))), (1, (.ref b)), (2, (iv x2)), (3, (.ref (KN 0))), (4, (.ref (KN 1))), (5, (.ref (KN 2))), (6, (iv x6)), (8, (iv x8)), (9, (iv x9))] 171 [(iv t3), (.ref (K 0)), (iv t1), (.ref (KN 0))] := by
  refine x_aload_n C dL_build_171 rfl 3 rfl ?_
  refine x_iload C dL_build_172 7 rfl ?_
  refine y_iald C 0 14 (by decide) (by rfl) h.1 dL_build_174 ?_
  replace h := h.2
  refine x_aload_n C dL_build_175 rfl 3 rfl ?_
  refine x_iload C dL_build_176 8 rfl ?_
  refine y_iald C 0 14 (by decide) (by rfl) h.1 dL_build_178 ?_
  replace h := h.2
  refine x_iconst C (n := 0) dL_build_179 ?_
  refine x_callVi C FX11_term GX11_term k634 (m_X11_term t3 (N 0 (bm x8).toNat) (N 0 (bm x9).toNat) 0) h (by decide) (fun _ => rfl) rfl (Nat.le_of_ble_eq_true rfl) (Nat.le_of_ble_eq_true rfl) (rest := [(iv t1), (.ref (KN 0))]) (Nat.le_of_ble_eq_true rfl) rfl rfl dL_build_180 (fun v17 M17 h => ?_)
  refine x_lv (lv' := [(0, (.ref (K 0))), (1, (.ref b)), (2, (iv x2)), (3, (.ref (KN 0))), (4, (.ref (KN 1))), (5, (.ref (KN 2))), (6, (iv x6))]) [0, 1, 2, 3, 4, 5, 6] rfl ?_
  exact T_L_build_183 C hscr hret hk3 x2 x6 t1 v17 M17 N h
set_option maxHeartbeats 4000000 in
theorem T_L_build_135 {Q : g_M → g_M → Prop} (C : XC p R s m args c D d A cL_build 10 RL 4 zc zs) (hscr : SC b Ls xs s A) (hret : RTN p l e R s m args below meth c Qg D d K A 10 zc zs KN cL_build Q) {k3 : Int → Int → g_M → g_M → Prop} (hk3 : ∀ (x2 : Int) (x6 : Int) (M N : g_M), k3 x2 x6 M N → X p l e R s m args below meth c Qg D d K A 10 zc zs (lw KN d N) M [(0, (.ref (K 0))), (1, (.ref b)), (2, (iv x2)), (3, (.ref (KN 0))), (4, (.ref (KN 1))), (5, (.ref (KN 2))), (6, (iv x6))] 3 []) (x2 : Int) (x6 : Int) (x8 : Int) (x9 : Int) (t1 : Int) (t2 : Int) (M N : g_M) (h : F_L_build_135 Ls xs Q k3 x2 x6 x8 x9 t1 t2 M N) : X p l e R s m args below meth c Qg D d K A 10 zc zs (lw KN d N) M [(0, (.ref (K 0))), (1, (.ref b)), (2, (iv x2)), (3, (.ref (KN 0))), (4, (.ref (KN 1))), (5, (.ref (KN 2))), (6, (iv x6)), (8, (iv x8)), (9, (iv x9))] 135 [(iv t2), (iv t1), (.ref (KN 2))] := by
  refine y_iast C 2 14 (by decide) (by rfl) h.1 dL_build_135 ?_
  replace h := h.2
  refine x_aload_n C dL_build_136 rfl 3 rfl ?_
  refine x_iload C dL_build_137 6 rfl ?_
  refine x_iload C dL_build_139 6 rfl ?_
  refine x_iconst C (n := 3) dL_build_141 ?_
  refine x_icmp_ge C 157 dL_build_142 (by decide) (fun c14 => ?_) (fun c14 => ?_)
  · replace h := h.1 c14
    refine x_aload_n C dL_build_145 rfl 0 rfl ?_
    refine x_iload C dL_build_146 6 rfl ?_
    refine x_iconst C (n := 0) dL_build_148 ?_
    refine x_iconst C (n := 0) dL_build_149 ?_
    refine x_iconst C (n := 0) dL_build_150 ?_
    refine x_callVi C FX11_term GX11_term k634 (m_X11_term x6 0 0 0) h (by decide) (fun _ => rfl) rfl (Nat.le_of_ble_eq_true rfl) (Nat.le_of_ble_eq_true rfl) (rest := [(iv x6), (.ref (KN 0))]) (Nat.le_of_ble_eq_true rfl) rfl rfl dL_build_151 (fun v15 M15 h => ?_)
    refine x_goto C 183 dL_build_154 (by decide) ?_
    refine x_lv (lv' := [(0, (.ref (K 0))), (1, (.ref b)), (2, (iv x2)), (3, (.ref (KN 0))), (4, (.ref (KN 1))), (5, (.ref (KN 2))), (6, (iv x6))]) [0, 1, 2, 3, 4, 5, 6] rfl ?_
    exact T_L_build_183 C hscr hret hk3 x2 x6 x6 v15 M15 (up N 2 (bm t1).toNat t2) h
  · replace h := h.2 c14
    refine x_aload_n C dL_build_157 rfl 0 rfl ?_
    refine x_aload C dL_build_158 5 rfl ?_
    refine x_iload C dL_build_160 6 rfl ?_
    refine y_iald C 2 14 (by decide) (by rfl) h.1 dL_build_162 ?_
    replace h := h.2
    refine x_if_ge C 170 dL_build_163 (by decide) (fun c16 => ?_) (fun c16 => ?_)
    · replace h := h.1 c16
      refine x_iconst C (n := 3) dL_build_166 ?_
      refine x_goto C 171 dL_build_167 (by decide) ?_
      exact T_L_build_171 C hscr hret hk3 x2 x6 x8 x9 x6 3 M (up N 2 (bm t1).toNat t2) h
    · replace h := h.2 c16
      refine x_iconst C (n := 4) dL_build_170 ?_
      exact T_L_build_171 C hscr hret hk3 x2 x6 x8 x9 x6 4 M (up N 2 (bm t1).toNat t2) h
set_option maxHeartbeats 4000000 in
theorem T_L_build_111 {Q : g_M → g_M → Prop} (C : XC p R s m args c D d A cL_build 10 RL 4 zc zs) (hscr : SC b Ls xs s A) (hret : RTN p l e R s m args below meth c Qg D d K A 10 zc zs KN cL_build Q) {k3 : Int → Int → g_M → g_M → Prop} (hk3 : ∀ (x2 : Int) (x6 : Int) (M N : g_M), k3 x2 x6 M N → X p l e R s m args below meth c Qg D d K A 10 zc zs (lw KN d N) M [(0, (.ref (K 0))), (1, (.ref b)), (2, (iv x2)), (3, (.ref (KN 0))), (4, (.ref (KN 1))), (5, (.ref (KN 2))), (6, (iv x6))] 3 []) (x2 : Int) (x6 : Int) (x7 : Int) (x8 : Int) (x9 : Int) (t1 : Int) (t2 : Int) (M N : g_M) (h : F_L_build_111 Ls xs Q k3 x2 x6 x7 x8 x9 t1 t2 M N) : X p l e R s m args below meth c Qg D d K A 10 zc zs (lw KN d N) M [(0, (.ref (K 0))), (1, (.ref b)), (2, (iv x2)), (3, (.ref (KN 0))), (4, (.ref (KN 1))), (5, (.ref (KN 2))), (6, (iv x6)), (7, (iv x7)), (8, (iv x8)), (9, (iv x9))] 111 [(iv t2), (iv t1), (.ref (KN 1))] := by
  refine y_iast C 1 14 (by decide) (by rfl) h.1 dL_build_111 ?_
  replace h := h.2
  refine x_aload C dL_build_112 5 rfl ?_
  refine x_iload C dL_build_114 6 rfl ?_
  refine x_iload C dL_build_116 6 rfl ?_
  refine x_iconst C (n := 3) dL_build_118 ?_
  refine x_icmp_lt C 129 dL_build_119 (by decide) (fun c12 => ?_) (fun c12 => ?_)
  · replace h := h.1 c12
    refine x_iconst C (n := (-1)) dL_build_129 ?_
    refine x_goto C 135 dL_build_130 (by decide) ?_
    refine x_lv (lv' := [(0, (.ref (K 0))), (1, (.ref b)), (2, (iv x2)), (3, (.ref (KN 0))), (4, (.ref (KN 1))), (5, (.ref (KN 2))), (6, (iv x6)), (8, (iv x8)), (9, (iv x9))]) [0, 1, 2, 3, 4, 5, 6, 8, 9] rfl ?_
    exact T_L_build_135 C hscr hret hk3 x2 x6 x8 x9 x6 (-1) M (up N 1 (bm t1).toNat t2) h
  · replace h := h.2 c12
    refine x_iload C dL_build_122 7 rfl ?_
    refine x_iconst C (n := 3) dL_build_124 ?_
    refine x_iand C dL_build_125 ?_
    refine x_if_ne C 133 dL_build_126 (by decide) (fun c13 => ?_) (fun c13 => ?_)
    · replace h := h.1 c13
      refine x_iconst C (n := (-1)) dL_build_129 ?_
      refine x_goto C 135 dL_build_130 (by decide) ?_
      refine x_lv (lv' := [(0, (.ref (K 0))), (1, (.ref b)), (2, (iv x2)), (3, (.ref (KN 0))), (4, (.ref (KN 1))), (5, (.ref (KN 2))), (6, (iv x6)), (8, (iv x8)), (9, (iv x9))]) [0, 1, 2, 3, 4, 5, 6, 8, 9] rfl ?_
      exact T_L_build_135 C hscr hret hk3 x2 x6 x8 x9 x6 (-1) M (up N 1 (bm t1).toNat t2) h
    · replace h := h.2 c13
      refine x_iload C dL_build_133 9 rfl ?_
      refine x_lv (lv' := [(0, (.ref (K 0))), (1, (.ref b)), (2, (iv x2)), (3, (.ref (KN 0))), (4, (.ref (KN 1))), (5, (.ref (KN 2))), (6, (iv x6)), (8, (iv x8)), (9, (iv x9))]) [0, 1, 2, 3, 4, 5, 6, 8, 9] rfl ?_
      exact T_L_build_135 C hscr hret hk3 x2 x6 x8 x9 x6 x9 M (up N 1 (bm t1).toNat t2) h
set_option maxHeartbeats 4000000 in
theorem T_L_build_95 {Q : g_M → g_M → Prop} (C : XC p R s m args c D d A cL_build 10 RL 4 zc zs) (hscr : SC b Ls xs s A) (hret : RTN p l e R s m args below meth c Qg D d K A 10 zc zs KN cL_build Q) {k3 : Int → Int → g_M → g_M → Prop} (hk3 : ∀ (x2 : Int) (x6 : Int) (M N : g_M), k3 x2 x6 M N → X p l e R s m args below meth c Qg D d K A 10 zc zs (lw KN d N) M [(0, (.ref (K 0))), (1, (.ref b)), (2, (iv x2)), (3, (.ref (KN 0))), (4, (.ref (KN 1))), (5, (.ref (KN 2))), (6, (iv x6))] 3 []) (x2 : Int) (x6 : Int) (x7 : Int) (x8 : Int) (x9 : Int) (M N : g_M) (h : F_L_build_95 Ls xs Q k3 x2 x6 x7 x8 x9 M N) : X p l e R s m args below meth c Qg D d K A 10 zc zs (lw KN d N) M [(0, (.ref (K 0))), (1, (.ref b)), (2, (iv x2)), (3, (.ref (KN 0))), (4, (.ref (KN 1))), (5, (.ref (KN 2))), (6, (iv x6)), (7, (iv x7)), (8, (iv x8)), (9, (iv x9))] 95 [] := by
  refine x_aload C dL_build_95 4 rfl ?_
  refine x_iload C dL_build_97 6 rfl ?_
  refine x_iload C dL_build_99 6 rfl ?_
  refine x_iconst C (n := 3) dL_build_101 ?_
  refine x_icmp_ge C 109 dL_build_102 (by decide) (fun c11 => ?_) (fun c11 => ?_)
  · replace h := h.1 c11
    refine x_iconst C (n := (-1)) dL_build_105 ?_
    refine x_goto C 111 dL_build_106 (by decide) ?_
    exact T_L_build_111 C hscr hret hk3 x2 x6 x7 x8 x9 x6 (-1) M N h
  · replace h := h.2 c11
    refine x_iload C dL_build_109 8 rfl ?_
    exact T_L_build_111 C hscr hret hk3 x2 x6 x7 x8 x9 x6 x8 M N h
set_option maxHeartbeats 4000000 in
theorem T_L_build_73 {Q : g_M → g_M → Prop} (C : XC p R s m args c D d A cL_build 10 RL 4 zc zs) (hscr : SC b Ls xs s A) (hret : RTN p l e R s m args below meth c Qg D d K A 10 zc zs KN cL_build Q) {k3 : Int → Int → g_M → g_M → Prop} (hk3 : ∀ (x2 : Int) (x6 : Int) (M N : g_M), k3 x2 x6 M N → X p l e R s m args below meth c Qg D d K A 10 zc zs (lw KN d N) M [(0, (.ref (K 0))), (1, (.ref b)), (2, (iv x2)), (3, (.ref (KN 0))), (4, (.ref (KN 1))), (5, (.ref (KN 2))), (6, (iv x6))] 3 []) (x2 : Int) (x6 : Int) (x7 : Int) (x8 : Int) (x9 : Int) (M N : g_M) (h : F_L_build_73 Ls xs Q k3 x2 x6 x7 x8 x9 M N) : X p l e R s m args below meth c Qg D d K A 10 zc zs (lw KN d N) M [(0, (.ref (K 0))), (1, (.ref b)), (2, (iv x2)), (3, (.ref (KN 0))), (4, (.ref (KN 1))), (5, (.ref (KN 2))), (6, (iv x6)), (7, (iv x7)), (8, (iv x8)), (9, (iv x9))] 73 [] := by
  refine x_iload C dL_build_73 6 rfl ?_
  refine x_iconst C (n := 3) dL_build_75 ?_
  refine x_icmp_lt C 95 dL_build_76 (by decide) (fun c8 => ?_) (fun c8 => ?_)
  · replace h := h.1 c8
    exact T_L_build_95 C hscr hret hk3 x2 x6 x7 x8 x9 M N h
  · replace h := h.2 c8
    refine x_aload_n C dL_build_79 rfl 0 rfl ?_
    refine x_aload_n C dL_build_80 rfl 3 rfl ?_
    refine x_iload C dL_build_81 9 rfl ?_
    refine y_iald C 0 14 (by decide) (by rfl) h.1 dL_build_83 ?_
    replace h := h.2
    refine x_callVi C FX11_size GX11_size k630 (m_X11_size (N 0 (bm x9).toNat)) h (by decide) (fun _ => rfl) rfl (Nat.le_of_ble_eq_true rfl) (Nat.le_of_ble_eq_true rfl) (rest := []) (Nat.le_of_ble_eq_true rfl) rfl rfl dL_build_84 (fun v9 M9 h => ?_)
    refine x_bipush C (n := 6) (by decide) (by decide) dL_build_87 ?_
    refine x_icmp_le C 95 dL_build_89 (by decide) (fun c10 => ?_) (fun c10 => ?_)
    · replace h := h.1 c10
      refine x_iconst C (n := 1) dL_build_92 ?_
      refine x_istore C dL_build_93 (by decide) [(9, (iv 1)), (0, (.ref (K 0))), (1, (.ref b)), (2, (iv x2)), (3, (.ref (KN 0))), (4, (.ref (KN 1))), (5, (.ref (KN 2))), (6, (iv x6)), (7, (iv x7)), (8, (iv x8))] rfl ?_
      refine x_lv (lv' := [(0, (.ref (K 0))), (1, (.ref b)), (2, (iv x2)), (3, (.ref (KN 0))), (4, (.ref (KN 1))), (5, (.ref (KN 2))), (6, (iv x6)), (7, (iv x7)), (8, (iv x8)), (9, (iv 1))]) [1, 2, 3, 4, 5, 6, 7, 8, 9, 0] rfl ?_
      exact T_L_build_95 C hscr hret hk3 x2 x6 x7 x8 1 M9 N h
    · replace h := h.2 c10
      exact T_L_build_95 C hscr hret hk3 x2 x6 x7 x8 x9 M9 N h
set_option maxHeartbeats 4000000 in
theorem T_L_build_3 {Q : g_M → g_M → Prop} (C : XC p R s m args c D d A cL_build 10 RL 4 zc zs) (hscr : SC b Ls xs s A) (hret : RTN p l e R s m args below meth c Qg D d K A 10 zc zs KN cL_build Q) : ∀ (n : Nat) (x2 : Int) (x6 : Int) (M N : g_M), F_L_build_3 Ls xs Q n x2 x6 M N → X p l e R s m args below meth c Qg D d K A 10 zc zs (lw KN d N) M [(0, (.ref (K 0))), (1, (.ref b)), (2, (iv x2)), (3, (.ref (KN 0))), (4, (.ref (KN 1))), (5, (.ref (KN 2))), (6, (iv x6))] 3 [] := by
  intro n
  induction n with
  | zero =>
    intro x2 x6 M N h
    exact h.elim
  | succ n ih =>
    intro x2 x6 M N h
    replace h : ((bm x6 < bm 14 → (F_L_cell Ls xs (fun v2 M2 => F_L_below (fun v3 M3 => F_L_below (fun v4 M4 => ((bm x6 < bm 3 → (F_L_build_73 Ls xs Q (F_L_build_3 Ls xs Q n) x2 x6 v2 v3 v4 M4 N)) ∧ (¬ bm x6 < bm 3 → ((inI v3 14 ∧ F_X11_size (fun v6 M6 => ((bm 6 < bm v6 → (F_L_build_73 Ls xs Q (F_L_build_3 Ls xs Q n) x2 x6 v2 0 v4 M6 N)) ∧ (¬ bm 6 < bm v6 → (F_L_build_73 Ls xs Q (F_L_build_3 Ls xs Q n) x2 x6 v2 v3 v4 M6 N)))) (N 0 (bm v3).toNat) M4))))) (ishr v2 10) (imax x6 1) M3) (ishr v2 2) (imax x6 1) M2) (x2 + x6) M)) ∧ (¬ bm x6 < bm 14 → (Q M N))) := h
    refine x_iload C dL_build_3 6 rfl ?_
    refine x_aload_n C dL_build_5 rfl 3 rfl ?_
    refine y_alen C 0 14 (by decide) (by rfl) dL_build_6 ?_
    refine x_icmp_ge C 190 dL_build_7 (by decide) (fun c1 => ?_) (fun c1 => ?_)
    · replace h := h.1 c1
      refine x_aload_n C dL_build_10 rfl 1 rfl ?_
      refine x_iload_n C dL_build_11 rfl 2 rfl ?_
      refine x_iload C dL_build_12 6 rfl ?_
      refine x_iadd C dL_build_14 ?_
      refine x_callSis C FL_cell k628 k626 hscr (m_L_cell (x2 + x6)) h (Nat.le_of_ble_eq_true rfl) (Nat.le_of_ble_eq_true rfl) (rest := []) (Nat.le_of_ble_eq_true rfl) rfl rfl dL_build_15 (fun v2 M2 h => ?_)
      refine x_istore C dL_build_18 (by decide) [(7, (iv v2)), (0, (.ref (K 0))), (1, (.ref b)), (2, (iv x2)), (3, (.ref (KN 0))), (4, (.ref (KN 1))), (5, (.ref (KN 2))), (6, (iv x6))] rfl ?_
      refine x_iload C dL_build_20 0 rfl ?_
      refine x_iconst C (n := 2) dL_build_22 ?_
      refine x_ishr C dL_build_23 ?_
      refine x_iload C dL_build_24 7 rfl ?_
      refine x_iconst C (n := 1) dL_build_26 ?_
      refine x_mmax C k629 k167 k164 k168 (Nat.le_of_ble_eq_true rfl) dL_build_27 ?_
      refine x_callSi C FL_below k606 k603 (m_L_below (ishr v2 2) (imax x6 1)) h (Nat.le_of_ble_eq_true rfl) (Nat.le_of_ble_eq_true rfl) (rest := []) (Nat.le_of_ble_eq_true rfl) rfl rfl dL_build_30 (fun v3 M3 h => ?_)
      refine x_istore C dL_build_33 (by decide) [(8, (iv v3)), (7, (iv v2)), (0, (.ref (K 0))), (1, (.ref b)), (2, (iv x2)), (3, (.ref (KN 0))), (4, (.ref (KN 1))), (5, (.ref (KN 2))), (6, (iv x6))] rfl ?_
      refine x_iload C dL_build_35 1 rfl ?_
      refine x_bipush C (n := 10) (by decide) (by decide) dL_build_37 ?_
      refine x_ishr C dL_build_39 ?_
      refine x_iload C dL_build_40 8 rfl ?_
      refine x_iconst C (n := 1) dL_build_42 ?_
      refine x_mmax C k629 k167 k164 k168 (Nat.le_of_ble_eq_true rfl) dL_build_43 ?_
      refine x_callSi C FL_below k606 k603 (m_L_below (ishr v2 10) (imax x6 1)) h (Nat.le_of_ble_eq_true rfl) (Nat.le_of_ble_eq_true rfl) (rest := []) (Nat.le_of_ble_eq_true rfl) rfl rfl dL_build_46 (fun v4 M4 h => ?_)
      refine x_istore C dL_build_49 (by decide) [(9, (iv v4)), (8, (iv v3)), (7, (iv v2)), (0, (.ref (K 0))), (1, (.ref b)), (2, (iv x2)), (3, (.ref (KN 0))), (4, (.ref (KN 1))), (5, (.ref (KN 2))), (6, (iv x6))] rfl ?_
      refine x_iload C dL_build_51 9 rfl ?_
      refine x_iconst C (n := 3) dL_build_53 ?_
      refine x_icmp_lt C 73 dL_build_54 (by decide) (fun c5 => ?_) (fun c5 => ?_)
      · replace h := h.1 c5
        refine x_lv (lv' := [(0, (.ref (K 0))), (1, (.ref b)), (2, (iv x2)), (3, (.ref (KN 0))), (4, (.ref (KN 1))), (5, (.ref (KN 2))), (6, (iv x6)), (7, (iv v2)), (8, (iv v3)), (9, (iv v4))]) [3, 4, 5, 6, 7, 8, 9, 2, 1, 0] rfl ?_
        exact T_L_build_73 C hscr hret ih x2 x6 v2 v3 v4 M4 N h
      · replace h := h.2 c5
        refine x_aload_n C dL_build_57 rfl 3 rfl ?_
        refine x_aload_n C dL_build_58 rfl 6 rfl ?_
        refine x_iload C dL_build_59 1 rfl ?_
        refine y_iald C 0 14 (by decide) (by rfl) h.1 dL_build_61 ?_
        replace h := h.2
        refine x_callVi C FX11_size GX11_size k630 (m_X11_size (N 0 (bm v3).toNat)) h (by decide) (fun _ => rfl) rfl (Nat.le_of_ble_eq_true rfl) (Nat.le_of_ble_eq_true rfl) (rest := []) (Nat.le_of_ble_eq_true rfl) rfl rfl dL_build_62 (fun v6 M6 h => ?_)
        refine x_bipush C (n := 6) (by decide) (by decide) dL_build_65 ?_
        refine x_icmp_le C 73 dL_build_67 (by decide) (fun c7 => ?_) (fun c7 => ?_)
        · replace h := h.1 c7
          refine x_iconst C (n := 0) dL_build_70 ?_
          refine x_istore C dL_build_71 (by decide) [(8, (iv 0)), (9, (iv v4)), (7, (iv v2)), (0, (.ref (K 0))), (1, (.ref b)), (2, (iv x2)), (3, (.ref (KN 0))), (4, (.ref (KN 1))), (5, (.ref (KN 2))), (6, (iv x6))] rfl ?_
          refine x_lv (lv' := [(0, (.ref (K 0))), (1, (.ref b)), (2, (iv x2)), (3, (.ref (KN 0))), (4, (.ref (KN 1))), (5, (.ref (KN 2))), (6, (iv x6)), (7, (iv v2)), (8, (iv 0)), (9, (iv v4))]) [3, 4, 5, 6, 7, 8, 9, 2, 0, 1] rfl ?_
          exact T_L_build_73 C hscr hret ih x2 x6 v2 0 v4 M6 N h
        · replace h := h.2 c7
          refine x_lv (lv' := [(0, (.ref (K 0))), (1, (.ref b)), (2, (iv x2)), (3, (.ref (KN 0))), (4, (.ref (KN 1))), (5, (.ref (KN 2))), (6, (iv x6)), (7, (iv v2)), (8, (iv v3)), (9, (iv v4))]) [3, 4, 5, 6, 7, 8, 9, 2, 1, 0] rfl ?_
          exact T_L_build_73 C hscr hret ih x2 x6 v2 v3 v4 M6 N h
    · replace h := h.2 c1
      exact hret _ _ _ _ dL_build_190 h
set_option maxHeartbeats 4000000 in
theorem m_L_build (a2 : Int) : MVNs l D d K KN b Ls xs yL_build cL_build 10 none 4 [(.ref (K 0)), (.ref b), (iv a2), (.ref (KN 0)), (.ref (KN 1)), (.ref (KN 2))] (fun Q M N => F_L_build Ls xs Q a2 M N) := by
  refine s_mvns pn_L (Nat.le_of_ble_eq_true rfl) [(0, (.ref (K 0))), (1, (.ref b)), (2, (iv a2)), (3, (.ref (KN 0))), (4, (.ref (KN 1))), (5, (.ref (KN 2)))] rfl rfl (fun p e R s m args below meth c A N M zc zs Q Qg C hscr hret h => ?_)
  refine x_iconst C (n := 0) dL_build_0 ?_
  refine x_istore C dL_build_1 (by decide) [(6, (iv 0)), (0, (.ref (K 0))), (1, (.ref b)), (2, (iv a2)), (3, (.ref (KN 0))), (4, (.ref (KN 1))), (5, (.ref (KN 2)))] rfl ?_
  refine x_lv (lv' := [(0, (.ref (K 0))), (1, (.ref b)), (2, (iv a2)), (3, (.ref (KN 0))), (4, (.ref (KN 1))), (5, (.ref (KN 2))), (6, (iv 0))]) [1, 2, 3, 4, 5, 6, 0] rfl ?_
  obtain ⟨n9, h⟩ := h
  exact T_L_build_3 C hscr hret n9 a2 0 M N h
set_option maxHeartbeats 4000000 in
theorem T_L_unite_19 {Q : g_M → g_M → Prop} (C : XC p R s m args c D d A cL_unite 4 RL 0 zc zs) (hret : RTN p l e R s m args below meth c Qg D d K A 4 zc zs KN cL_unite Q) {k2 : Int → Int → Int → g_M → g_M → Prop} (hk2 : ∀ (x1 : Int) (x2 : Int) (x3 : Int) (M N : g_M), k2 x1 x2 x3 M N → X p l e R s m args below meth c Qg D d K A 4 zc zs (lw KN d N) M [(0, (.ref (KN 3))), (1, (iv x1)), (2, (iv x2)), (3, (iv x3))] 2 []) (x1 : Int) (x2 : Int) (x3 : Int) (M N : g_M) (h : F_L_unite_19 Q k2 x1 x2 x3 M N) : X p l e R s m args below meth c Qg D d K A 4 zc zs (lw KN d N) M [(0, (.ref (KN 3))), (1, (iv x1)), (2, (iv x2)), (3, (iv x3))] 19 [] := by
  refine x_iinc C dL_unite_19 3 rfl (by decide) [(3, (iv (x3 + 1))), (0, (.ref (KN 3))), (1, (iv x1)), (2, (iv x2))] rfl ?_
  refine x_goto C 2 dL_unite_22 (by decide) ?_
  refine x_lv (lv' := [(0, (.ref (KN 3))), (1, (iv x1)), (2, (iv x2)), (3, (iv (x3 + 1)))]) [1, 2, 3, 0] rfl ?_
  exact hk2 x1 x2 (x3 + 1) M N h
set_option maxHeartbeats 4000000 in
theorem T_L_unite_2 {Q : g_M → g_M → Prop} (C : XC p R s m args c D d A cL_unite 4 RL 0 zc zs) (hret : RTN p l e R s m args below meth c Qg D d K A 4 zc zs KN cL_unite Q) : ∀ (n : Nat) (x1 : Int) (x2 : Int) (x3 : Int) (M N : g_M), F_L_unite_2 Q n x1 x2 x3 M N → X p l e R s m args below meth c Qg D d K A 4 zc zs (lw KN d N) M [(0, (.ref (KN 3))), (1, (iv x1)), (2, (iv x2)), (3, (iv x3))] 2 [] := by
  intro n
  induction n with
  | zero =>
    intro x1 x2 x3 M N h
    exact h.elim
  | succ n ih =>
    intro x1 x2 x3 M N h
    replace h : ((bm x3 < bm 14 → ((inI x3 14 ∧ ((bm (N 3 (bm x3).toNat) = bm x2 → ((inI x3 14 ∧ F_L_unite_19 Q (F_L_unite_2 Q n) x1 x2 x3 M (up N 3 (bm x3).toNat x1)))) ∧ (¬ bm (N 3 (bm x3).toNat) = bm x2 → (F_L_unite_19 Q (F_L_unite_2 Q n) x1 x2 x3 M N)))))) ∧ (¬ bm x3 < bm 14 → (Q M N))) := h
    refine x_iload_n C dL_unite_2 rfl 3 rfl ?_
    refine x_aload_n C dL_unite_3 rfl 0 rfl ?_
    refine y_alen C 3 14 (by decide) (by rfl) dL_unite_4 ?_
    refine x_icmp_ge C 25 dL_unite_5 (by decide) (fun c1 => ?_) (fun c1 => ?_)
    · replace h := h.1 c1
      refine x_aload_n C dL_unite_8 rfl 0 rfl ?_
      refine x_iload_n C dL_unite_9 rfl 3 rfl ?_
      refine y_iald C 3 14 (by decide) (by rfl) h.1 dL_unite_10 ?_
      replace h := h.2
      refine x_iload_n C dL_unite_11 rfl 2 rfl ?_
      refine x_icmp_ne C 19 dL_unite_12 (by decide) (fun c2 => ?_) (fun c2 => ?_)
      · replace h := h.1 c2
        refine x_aload_n C dL_unite_15 rfl 0 rfl ?_
        refine x_iload_n C dL_unite_16 rfl 3 rfl ?_
        refine x_iload_n C dL_unite_17 rfl 1 rfl ?_
        refine y_iast C 3 14 (by decide) (by rfl) h.1 dL_unite_18 ?_
        replace h := h.2
        exact T_L_unite_19 C hret ih x1 x2 x3 M (up N 3 (bm x3).toNat x1) h
      · replace h := h.2 c2
        exact T_L_unite_19 C hret ih x1 x2 x3 M N h
    · replace h := h.2 c1
      exact hret _ _ _ _ dL_unite_25 h
set_option maxHeartbeats 4000000 in
theorem m_L_unite (a1 : Int) (a2 : Int) : MVN l D d K KN yL_unite cL_unite 4 none 0 [(.ref (KN 3)), (iv a1), (iv a2)] (fun Q M N => F_L_unite Q a1 a2 M N) := by
  refine s_mvn pn_L (Nat.le_of_ble_eq_true rfl) [(0, (.ref (KN 3))), (1, (iv a1)), (2, (iv a2))] rfl rfl (fun p e R s m args below meth c A N M zc zs Q Qg C hret h => ?_)
  refine x_iconst C (n := 0) dL_unite_0 ?_
  refine x_istore_n C dL_unite_1 rfl (by decide) [(3, (iv 0)), (0, (.ref (KN 3))), (1, (iv a1)), (2, (iv a2))] rfl ?_
  refine x_lv (lv' := [(0, (.ref (KN 3))), (1, (iv a1)), (2, (iv a2)), (3, (iv 0))]) [1, 2, 3, 0] rfl ?_
  obtain ⟨n9, h⟩ := h
  exact T_L_unite_2 C hret n9 a1 a2 0 M N h
set_option maxHeartbeats 4000000 in
theorem T_L_close_52 {Q : g_M → g_M → Prop} (C : XC p R s m args c D d A cL_close 13 RL 1 zc zs) (hret : RTN p l e R s m args below meth c Qg D d K A 13 zc zs KN cL_close Q) {k7 : Int → Int → Int → Int → g_M → g_M → Prop} (hk7 : ∀ (x5 : Int) (x6 : Int) (x8 : Int) (x9 : Int) (M N : g_M), k7 x5 x6 x8 x9 M N → X p l e R s m args below meth c Qg D d K A 13 zc zs (lw KN d N) M [(0, (.ref (KN 0))), (1, (.ref (KN 1))), (2, (.ref (KN 2))), (3, (.ref (KN 4))), (4, (.ref (KN 5))), (5, (iv x5)), (6, (iv x6)), (7, (.ref (KN 3))), (8, (iv x8)), (9, (iv x9))] 7 []) {k24 : Int → Int → Int → Int → Int → g_M → g_M → Prop} (hk24 : ∀ (x5 : Int) (x6 : Int) (x8 : Int) (x9 : Int) (x10 : Int) (M N : g_M), k24 x5 x6 x8 x9 x10 M N → X p l e R s m args below meth c Qg D d K A 13 zc zs (lw KN d N) M [(0, (.ref (KN 0))), (1, (.ref (KN 1))), (2, (.ref (KN 2))), (3, (.ref (KN 4))), (4, (.ref (KN 5))), (5, (iv x5)), (6, (iv x6)), (7, (.ref (KN 3))), (8, (iv x8)), (9, (iv x9)), (10, (iv x10))] 24 []) (x5 : Int) (x6 : Int) (x8 : Int) (x9 : Int) (x10 : Int) (M N : g_M) (h : F_L_close_52 Q k7 k24 x5 x6 x8 x9 x10 M N) : X p l e R s m args below meth c Qg D d K A 13 zc zs (lw KN d N) M [(0, (.ref (KN 0))), (1, (.ref (KN 1))), (2, (.ref (KN 2))), (3, (.ref (KN 4))), (4, (.ref (KN 5))), (5, (iv x5)), (6, (iv x6)), (7, (.ref (KN 3))), (8, (iv x8)), (9, (iv x9)), (10, (iv x10))] 52 [] := by
  refine x_iinc C dL_close_52 10 rfl (by decide) [(10, (iv (x10 + 1))), (0, (.ref (KN 0))), (1, (.ref (KN 1))), (2, (.ref (KN 2))), (3, (.ref (KN 4))), (4, (.ref (KN 5))), (5, (iv x5)), (6, (iv x6)), (7, (.ref (KN 3))), (8, (iv x8)), (9, (iv x9))] rfl ?_
  refine x_goto C 24 dL_close_55 (by decide) ?_
  refine x_lv (lv' := [(0, (.ref (KN 0))), (1, (.ref (KN 1))), (2, (.ref (KN 2))), (3, (.ref (KN 4))), (4, (.ref (KN 5))), (5, (iv x5)), (6, (iv x6)), (7, (.ref (KN 3))), (8, (iv x8)), (9, (iv x9)), (10, (iv (x10 + 1)))]) [1, 2, 3, 4, 5, 6, 7, 8, 9, 10, 0] rfl ?_
  exact hk24 x5 x6 x8 x9 (x10 + 1) M N h
set_option maxHeartbeats 4000000 in
theorem T_L_close_24 {Q : g_M → g_M → Prop} (C : XC p R s m args c D d A cL_close 13 RL 1 zc zs) (hret : RTN p l e R s m args below meth c Qg D d K A 13 zc zs KN cL_close Q) {k7 : Int → Int → Int → Int → g_M → g_M → Prop} (hk7 : ∀ (x5 : Int) (x6 : Int) (x8 : Int) (x9 : Int) (M N : g_M), k7 x5 x6 x8 x9 M N → X p l e R s m args below meth c Qg D d K A 13 zc zs (lw KN d N) M [(0, (.ref (KN 0))), (1, (.ref (KN 1))), (2, (.ref (KN 2))), (3, (.ref (KN 4))), (4, (.ref (KN 5))), (5, (iv x5)), (6, (iv x6)), (7, (.ref (KN 3))), (8, (iv x8)), (9, (iv x9))] 7 []) : ∀ (n : Nat) (x5 : Int) (x6 : Int) (x8 : Int) (x9 : Int) (x10 : Int) (M N : g_M), F_L_close_24 Q k7 n x5 x6 x8 x9 x10 M N → X p l e R s m args below meth c Qg D d K A 13 zc zs (lw KN d N) M [(0, (.ref (KN 0))), (1, (.ref (KN 1))), (2, (.ref (KN 2))), (3, (.ref (KN 4))), (4, (.ref (KN 5))), (5, (iv x5)), (6, (iv x6)), (7, (.ref (KN 3))), (8, (iv x8)), (9, (iv x9)), (10, (iv x10))] 24 [] := by
  intro n
  induction n with
  | zero =>
    intro x5 x6 x8 x9 x10 M N h
    exact h.elim
  | succ n ih =>
    intro x5 x6 x8 x9 x10 M N h
    replace h : ((bm x10 < bm x9 → ((inI x10 14 ∧ (inI x9 14 ∧ ((bm (N 0 (bm x10).toNat) = bm (N 0 (bm x9).toNat) → ((inI x10 14 ∧ (inI x9 14 ∧ F_L_close_52 Q k7 (F_L_close_24 Q k7 n) x5 x6 x8 x9 x10 M (up N 3 (bm x9).toNat (N 3 (bm x10).toNat)))))) ∧ (¬ bm (N 0 (bm x10).toNat) = bm (N 0 (bm x9).toNat) → (F_L_close_52 Q k7 (F_L_close_24 Q k7 n) x5 x6 x8 x9 x10 M N))))))) ∧ (¬ bm x10 < bm x9 → (k7 x5 x6 x8 (x9 + 1) M N))) := h
    refine x_iload C dL_close_24 10 rfl ?_
    refine x_iload C dL_close_26 9 rfl ?_
    refine x_icmp_ge C 58 dL_close_28 (by decide) (fun c2 => ?_) (fun c2 => ?_)
    · replace h := h.1 c2
      refine x_aload_n C dL_close_31 rfl 0 rfl ?_
      refine x_iload C dL_close_32 10 rfl ?_
      refine y_iald C 0 14 (by decide) (by rfl) h.1 dL_close_34 ?_
      replace h := h.2
      refine x_aload_n C dL_close_35 rfl 0 rfl ?_
      refine x_iload C dL_close_36 9 rfl ?_
      refine y_iald C 0 14 (by decide) (by rfl) h.1 dL_close_38 ?_
      replace h := h.2
      refine x_icmp_ne C 52 dL_close_39 (by decide) (fun c3 => ?_) (fun c3 => ?_)
      · replace h := h.1 c3
        refine x_aload C dL_close_42 7 rfl ?_
        refine x_iload C dL_close_44 9 rfl ?_
        refine x_aload C dL_close_46 7 rfl ?_
        refine x_iload C dL_close_48 10 rfl ?_
        refine y_iald C 3 14 (by decide) (by rfl) h.1 dL_close_50 ?_
        replace h := h.2
        refine y_iast C 3 14 (by decide) (by rfl) h.1 dL_close_51 ?_
        replace h := h.2
        exact T_L_close_52 C hret hk7 ih x5 x6 x8 x9 x10 M (up N 3 (bm x9).toNat (N 3 (bm x10).toNat)) h
      · replace h := h.2 c3
        exact T_L_close_52 C hret hk7 ih x5 x6 x8 x9 x10 M N h
    · replace h := h.2 c2
      refine x_iinc C dL_close_58 9 rfl (by decide) [(9, (iv (x9 + 1))), (0, (.ref (KN 0))), (1, (.ref (KN 1))), (2, (.ref (KN 2))), (3, (.ref (KN 4))), (4, (.ref (KN 5))), (5, (iv x5)), (6, (iv x6)), (7, (.ref (KN 3))), (8, (iv x8)), (10, (iv x10))] rfl ?_
      refine x_goto C 7 dL_close_61 (by decide) ?_
      refine x_lv (lv' := [(0, (.ref (KN 0))), (1, (.ref (KN 1))), (2, (.ref (KN 2))), (3, (.ref (KN 4))), (4, (.ref (KN 5))), (5, (iv x5)), (6, (iv x6)), (7, (.ref (KN 3))), (8, (iv x8)), (9, (iv (x9 + 1)))]) [1, 2, 3, 4, 5, 6, 7, 8, 9, 0] rfl ?_
      exact hk7 x5 x6 x8 (x9 + 1) M N h
set_option maxHeartbeats 4000000 in
theorem T_L_close_101 {Q : g_M → g_M → Prop} (C : XC p R s m args c D d A cL_close 13 RL 1 zc zs) (hret : RTN p l e R s m args below meth c Qg D d K A 13 zc zs KN cL_close Q) {k67 : Int → Int → Int → Int → g_M → g_M → Prop} (hk67 : ∀ (x5 : Int) (x6 : Int) (x8 : Int) (x9 : Int) (M N : g_M), k67 x5 x6 x8 x9 M N → X p l e R s m args below meth c Qg D d K A 13 zc zs (lw KN d N) M [(1, (.ref (KN 1))), (2, (.ref (KN 2))), (3, (.ref (KN 4))), (4, (.ref (KN 5))), (5, (iv x5)), (6, (iv x6)), (7, (.ref (KN 3))), (8, (iv x8)), (9, (iv x9))] 67 []) (x5 : Int) (x6 : Int) (x8 : Int) (x9 : Int) (M N : g_M) (h : F_L_close_101 Q k67 x5 x6 x8 x9 M N) : X p l e R s m args below meth c Qg D d K A 13 zc zs (lw KN d N) M [(1, (.ref (KN 1))), (2, (.ref (KN 2))), (3, (.ref (KN 4))), (4, (.ref (KN 5))), (5, (iv x5)), (6, (iv x6)), (7, (.ref (KN 3))), (8, (iv x8)), (9, (iv x9))] 101 [] := by
  refine x_iinc C dL_close_101 8 rfl (by decide) [(9, (iv (x9 + 1))), (1, (.ref (KN 1))), (2, (.ref (KN 2))), (3, (.ref (KN 4))), (4, (.ref (KN 5))), (5, (iv x5)), (6, (iv x6)), (7, (.ref (KN 3))), (8, (iv x8))] rfl ?_
  refine x_goto C 67 dL_close_104 (by decide) ?_
  refine x_lv (lv' := [(1, (.ref (KN 1))), (2, (.ref (KN 2))), (3, (.ref (KN 4))), (4, (.ref (KN 5))), (5, (iv x5)), (6, (iv x6)), (7, (.ref (KN 3))), (8, (iv x8)), (9, (iv (x9 + 1)))]) [1, 2, 3, 4, 5, 6, 7, 8, 0] rfl ?_
  exact hk67 x5 x6 x8 (x9 + 1) M N h
set_option maxHeartbeats 4000000 in
theorem T_L_close_252 {Q : g_M → g_M → Prop} (C : XC p R s m args c D d A cL_close 13 RL 1 zc zs) (hret : RTN p l e R s m args below meth c Qg D d K A 13 zc zs KN cL_close Q) {k110 : Int → Int → g_M → g_M → Prop} (hk110 : ∀ (x8 : Int) (x9 : Int) (M N : g_M), k110 x8 x9 M N → X p l e R s m args below meth c Qg D d K A 13 zc zs (lw KN d N) M [(1, (.ref (KN 1))), (2, (.ref (KN 2))), (7, (.ref (KN 3))), (8, (iv x8)), (9, (iv x9))] 110 []) {k121 : Int → Int → Int → g_M → g_M → Prop} (hk121 : ∀ (x8 : Int) (x9 : Int) (x10 : Int) (M N : g_M), k121 x8 x9 x10 M N → X p l e R s m args below meth c Qg D d K A 13 zc zs (lw KN d N) M [(1, (.ref (KN 1))), (2, (.ref (KN 2))), (7, (.ref (KN 3))), (8, (iv x8)), (9, (iv x9)), (10, (iv x10))] 121 []) {k131 : Int → Int → Int → Int → g_M → g_M → Prop} (hk131 : ∀ (x8 : Int) (x9 : Int) (x10 : Int) (x11 : Int) (M N : g_M), k131 x8 x9 x10 x11 M N → X p l e R s m args below meth c Qg D d K A 13 zc zs (lw KN d N) M [(1, (.ref (KN 1))), (2, (.ref (KN 2))), (7, (.ref (KN 3))), (8, (iv x8)), (9, (iv x9)), (10, (iv x10)), (11, (iv x11))] 131 []) (x8 : Int) (x9 : Int) (x10 : Int) (x11 : Int) (M N : g_M) (h : F_L_close_252 Q k110 k121 k131 x8 x9 x10 x11 M N) : X p l e R s m args below meth c Qg D d K A 13 zc zs (lw KN d N) M [(1, (.ref (KN 1))), (2, (.ref (KN 2))), (7, (.ref (KN 3))), (8, (iv x8)), (9, (iv x9)), (10, (iv x10)), (11, (iv x11))] 252 [] := by
  refine x_iinc C dL_close_252 6 rfl (by decide) [(11, (iv (x11 + 1))), (1, (.ref (KN 1))), (2, (.ref (KN 2))), (7, (.ref (KN 3))), (8, (iv x8)), (9, (iv x9)), (10, (iv x10))] rfl ?_
  refine x_goto C 131 dL_close_255 (by decide) ?_
  refine x_lv (lv' := [(1, (.ref (KN 1))), (2, (.ref (KN 2))), (7, (.ref (KN 3))), (8, (iv x8)), (9, (iv x9)), (10, (iv x10)), (11, (iv (x11 + 1)))]) [1, 2, 3, 4, 5, 6, 0] rfl ?_
  exact hk131 x8 x9 x10 (x11 + 1) M N h
set_option maxHeartbeats 4000000 in
theorem T_L_close_211 {Q : g_M → g_M → Prop} (C : XC p R s m args c D d A cL_close 13 RL 1 zc zs) (hret : RTN p l e R s m args below meth c Qg D d K A 13 zc zs KN cL_close Q) {k110 : Int → Int → g_M → g_M → Prop} (hk110 : ∀ (x8 : Int) (x9 : Int) (M N : g_M), k110 x8 x9 M N → X p l e R s m args below meth c Qg D d K A 13 zc zs (lw KN d N) M [(1, (.ref (KN 1))), (2, (.ref (KN 2))), (7, (.ref (KN 3))), (8, (iv x8)), (9, (iv x9))] 110 []) {k121 : Int → Int → Int → g_M → g_M → Prop} (hk121 : ∀ (x8 : Int) (x9 : Int) (x10 : Int) (M N : g_M), k121 x8 x9 x10 M N → X p l e R s m args below meth c Qg D d K A 13 zc zs (lw KN d N) M [(1, (.ref (KN 1))), (2, (.ref (KN 2))), (7, (.ref (KN 3))), (8, (iv x8)), (9, (iv x9)), (10, (iv x10))] 121 []) {k131 : Int → Int → Int → Int → g_M → g_M → Prop} (hk131 : ∀ (x8 : Int) (x9 : Int) (x10 : Int) (x11 : Int) (M N : g_M), k131 x8 x9 x10 x11 M N → X p l e R s m args below meth c Qg D d K A 13 zc zs (lw KN d N) M [(1, (.ref (KN 1))), (2, (.ref (KN 2))), (7, (.ref (KN 3))), (8, (iv x8)), (9, (iv x9)), (10, (iv x10)), (11, (iv x11))] 131 []) (x8 : Int) (x9 : Int) (x10 : Int) (x11 : Int) (t0 : Int) (M N : g_M) (h : F_L_close_211 Q k110 k121 k131 x8 x9 x10 x11 t0 M N) : X p l e R s m args below meth c Qg D d K A 13 zc zs (lw KN d N) M [(1, (.ref (KN 1))), (2, (.ref (KN 2))), (7, (.ref (KN 3))), (8, (iv x8)), (9, (iv x9)), (10, (iv x10)), (11, (iv x11))] 211 [(iv t0)] := by
  refine x_istore C dL_close_211 (by decide) [(12, (iv t0)), (1, (.ref (KN 1))), (2, (.ref (KN 2))), (7, (.ref (KN 3))), (8, (iv x8)), (9, (iv x9)), (10, (iv x10)), (11, (iv x11))] rfl ?_
  refine x_iload C dL_close_213 0 rfl ?_
  refine x_if_eq C 252 dL_close_215 (by decide) (fun c16 => ?_) (fun c16 => ?_)
  · replace h := h.1 c16
    refine x_lv (lv' := [(1, (.ref (KN 1))), (2, (.ref (KN 2))), (7, (.ref (KN 3))), (8, (iv x8)), (9, (iv x9)), (10, (iv x10)), (11, (iv x11))]) [1, 2, 3, 4, 5, 6, 7] rfl ?_
    exact T_L_close_252 C hret hk110 hk121 hk131 x8 x9 x10 x11 M N h
  · replace h := h.2 c16
    refine x_aload C dL_close_218 3 rfl ?_
    refine x_iload C dL_close_220 6 rfl ?_
    refine y_iald C 3 14 (by decide) (by rfl) h.1 dL_close_222 ?_
    replace h := h.2
    refine x_aload C dL_close_223 3 rfl ?_
    refine x_iload C dL_close_225 7 rfl ?_
    refine y_iald C 3 14 (by decide) (by rfl) h.1 dL_close_227 ?_
    replace h := h.2
    refine x_icmp_ne C 234 dL_close_228 (by decide) (fun c17 => ?_) (fun c17 => ?_)
    · replace h := h.1 c17
      refine x_goto C 252 dL_close_231 (by decide) ?_
      refine x_lv (lv' := [(1, (.ref (KN 1))), (2, (.ref (KN 2))), (7, (.ref (KN 3))), (8, (iv x8)), (9, (iv x9)), (10, (iv x10)), (11, (iv x11))]) [1, 2, 3, 4, 5, 6, 7] rfl ?_
      exact T_L_close_252 C hret hk110 hk121 hk131 x8 x9 x10 x11 M N h
    · replace h := h.2 c17
      refine x_aload C dL_close_234 3 rfl ?_
      refine x_aload C dL_close_236 3 rfl ?_
      refine x_iload C dL_close_238 7 rfl ?_
      refine y_iald C 3 14 (by decide) (by rfl) h.1 dL_close_240 ?_
      replace h := h.2
      refine x_aload C dL_close_241 3 rfl ?_
      refine x_iload C dL_close_243 6 rfl ?_
      refine y_iald C 3 14 (by decide) (by rfl) h.1 dL_close_245 ?_
      replace h := h.2
      refine x_callSvN C FL_unite k649 k647 (m_L_unite (N 3 (bm x11).toNat) (N 3 (bm x10).toNat)) h (Nat.le_of_ble_eq_true rfl) (Nat.le_of_ble_eq_true rfl) (rest := []) (Nat.le_of_ble_eq_true rfl) rfl rfl dL_close_246 (fun M18 N18 h => ?_)
      refine x_iconst C (n := 1) dL_close_249 ?_
      refine x_istore C dL_close_250 (by decide) [(9, (iv 1)), (12, (iv t0)), (1, (.ref (KN 1))), (2, (.ref (KN 2))), (7, (.ref (KN 3))), (8, (iv x8)), (10, (iv x10)), (11, (iv x11))] rfl ?_
      refine x_lv (lv' := [(1, (.ref (KN 1))), (2, (.ref (KN 2))), (7, (.ref (KN 3))), (8, (iv x8)), (9, (iv 1)), (10, (iv x10)), (11, (iv x11))]) [2, 3, 4, 5, 0, 6, 7] rfl ?_
      exact T_L_close_252 C hret hk110 hk121 hk131 x8 1 x10 x11 M18 N18 h
set_option maxHeartbeats 4000000 in
theorem T_L_close_210 {Q : g_M → g_M → Prop} (C : XC p R s m args c D d A cL_close 13 RL 1 zc zs) (hret : RTN p l e R s m args below meth c Qg D d K A 13 zc zs KN cL_close Q) {k110 : Int → Int → g_M → g_M → Prop} (hk110 : ∀ (x8 : Int) (x9 : Int) (M N : g_M), k110 x8 x9 M N → X p l e R s m args below meth c Qg D d K A 13 zc zs (lw KN d N) M [(1, (.ref (KN 1))), (2, (.ref (KN 2))), (7, (.ref (KN 3))), (8, (iv x8)), (9, (iv x9))] 110 []) {k121 : Int → Int → Int → g_M → g_M → Prop} (hk121 : ∀ (x8 : Int) (x9 : Int) (x10 : Int) (M N : g_M), k121 x8 x9 x10 M N → X p l e R s m args below meth c Qg D d K A 13 zc zs (lw KN d N) M [(1, (.ref (KN 1))), (2, (.ref (KN 2))), (7, (.ref (KN 3))), (8, (iv x8)), (9, (iv x9)), (10, (iv x10))] 121 []) {k131 : Int → Int → Int → Int → g_M → g_M → Prop} (hk131 : ∀ (x8 : Int) (x9 : Int) (x10 : Int) (x11 : Int) (M N : g_M), k131 x8 x9 x10 x11 M N → X p l e R s m args below meth c Qg D d K A 13 zc zs (lw KN d N) M [(1, (.ref (KN 1))), (2, (.ref (KN 2))), (7, (.ref (KN 3))), (8, (iv x8)), (9, (iv x9)), (10, (iv x10)), (11, (iv x11))] 131 []) (x8 : Int) (x9 : Int) (x10 : Int) (x11 : Int) (M N : g_M) (h : F_L_close_210 Q k110 k121 k131 x8 x9 x10 x11 M N) : X p l e R s m args below meth c Qg D d K A 13 zc zs (lw KN d N) M [(1, (.ref (KN 1))), (2, (.ref (KN 2))), (7, (.ref (KN 3))), (8, (iv x8)), (9, (iv x9)), (10, (iv x10)), (11, (iv x11))] 210 [] := by
  refine x_iconst C (n := 0) dL_close_210 ?_
  exact T_L_close_211 C hret hk110 hk121 hk131 x8 x9 x10 x11 0 M N h
set_option maxHeartbeats 4000000 in
theorem T_L_close_162 {Q : g_M → g_M → Prop} (C : XC p R s m args c D d A cL_close 13 RL 1 zc zs) (hret : RTN p l e R s m args below meth c Qg D d K A 13 zc zs KN cL_close Q) {k110 : Int → Int → g_M → g_M → Prop} (hk110 : ∀ (x8 : Int) (x9 : Int) (M N : g_M), k110 x8 x9 M N → X p l e R s m args below meth c Qg D d K A 13 zc zs (lw KN d N) M [(1, (.ref (KN 1))), (2, (.ref (KN 2))), (7, (.ref (KN 3))), (8, (iv x8)), (9, (iv x9))] 110 []) {k121 : Int → Int → Int → g_M → g_M → Prop} (hk121 : ∀ (x8 : Int) (x9 : Int) (x10 : Int) (M N : g_M), k121 x8 x9 x10 M N → X p l e R s m args below meth c Qg D d K A 13 zc zs (lw KN d N) M [(1, (.ref (KN 1))), (2, (.ref (KN 2))), (7, (.ref (KN 3))), (8, (iv x8)), (9, (iv x9)), (10, (iv x10))] 121 []) {k131 : Int → Int → Int → Int → g_M → g_M → Prop} (hk131 : ∀ (x8 : Int) (x9 : Int) (x10 : Int) (x11 : Int) (M N : g_M), k131 x8 x9 x10 x11 M N → X p l e R s m args below meth c Qg D d K A 13 zc zs (lw KN d N) M [(1, (.ref (KN 1))), (2, (.ref (KN 2))), (7, (.ref (KN 3))), (8, (iv x8)), (9, (iv x9)), (10, (iv x10)), (11, (iv x11))] 131 []) (x8 : Int) (x9 : Int) (x10 : Int) (x11 : Int) (t0 : Int) (t1 : Int) (M N : g_M) (h : F_L_close_162 Q k110 k121 k131 x8 x9 x10 x11 t0 t1 M N) : X p l e R s m args below meth c Qg D d K A 13 zc zs (lw KN d N) M [(1, (.ref (KN 1))), (2, (.ref (KN 2))), (7, (.ref (KN 3))), (8, (iv x8)), (9, (iv x9)), (10, (iv x10)), (11, (iv x11))] 162 [(iv t1), (iv t0)] := by
  refine x_icmp_ne C 210 dL_close_162 (by decide) (fun c12 => ?_) (fun c12 => ?_)
  · replace h := h.1 c12
    refine x_aload C dL_close_165 2 rfl ?_
    refine x_aload_n C dL_close_167 rfl 0 rfl ?_
    refine x_iload C dL_close_168 5 rfl ?_
    refine y_iald C 1 14 (by decide) (by rfl) h.1 dL_close_170 ?_
    replace h := h.2
    refine y_iald C 3 14 (by decide) (by rfl) h.1 dL_close_171 ?_
    replace h := h.2
    refine x_aload C dL_close_172 2 rfl ?_
    refine x_aload_n C dL_close_174 rfl 0 rfl ?_
    refine x_iload C dL_close_175 6 rfl ?_
    refine y_iald C 1 14 (by decide) (by rfl) h.1 dL_close_177 ?_
    replace h := h.2
    refine y_iald C 3 14 (by decide) (by rfl) h.1 dL_close_178 ?_
    replace h := h.2
    refine x_icmp_ne C 210 dL_close_179 (by decide) (fun c13 => ?_) (fun c13 => ?_)
    · replace h := h.1 c13
      refine x_aload_n C dL_close_182 rfl 1 rfl ?_
      refine x_iload C dL_close_183 5 rfl ?_
      refine y_iald C 2 14 (by decide) (by rfl) h.1 dL_close_185 ?_
      replace h := h.2
      refine x_if_lt C 206 dL_close_186 (by decide) (fun c14 => ?_) (fun c14 => ?_)
      · replace h := h.1 c14
        refine x_iconst C (n := 1) dL_close_206 ?_
        refine x_goto C 211 dL_close_207 (by decide) ?_
        exact T_L_close_211 C hret hk110 hk121 hk131 x8 x9 x10 x11 1 M N h
      · replace h := h.2 c14
        refine x_aload C dL_close_189 2 rfl ?_
        refine x_aload_n C dL_close_191 rfl 1 rfl ?_
        refine x_iload C dL_close_192 5 rfl ?_
        refine y_iald C 2 14 (by decide) (by rfl) h.1 dL_close_194 ?_
        replace h := h.2
        refine y_iald C 3 14 (by decide) (by rfl) h.1 dL_close_195 ?_
        replace h := h.2
        refine x_aload C dL_close_196 2 rfl ?_
        refine x_aload_n C dL_close_198 rfl 1 rfl ?_
        refine x_iload C dL_close_199 6 rfl ?_
        refine y_iald C 2 14 (by decide) (by rfl) h.1 dL_close_201 ?_
        replace h := h.2
        refine y_iald C 3 14 (by decide) (by rfl) h.1 dL_close_202 ?_
        replace h := h.2
        refine x_icmp_ne C 210 dL_close_203 (by decide) (fun c15 => ?_) (fun c15 => ?_)
        · replace h := h.1 c15
          refine x_iconst C (n := 1) dL_close_206 ?_
          refine x_goto C 211 dL_close_207 (by decide) ?_
          exact T_L_close_211 C hret hk110 hk121 hk131 x8 x9 x10 x11 1 M N h
        · replace h := h.2 c15
          exact T_L_close_210 C hret hk110 hk121 hk131 x8 x9 x10 x11 M N h
    · replace h := h.2 c13
      exact T_L_close_210 C hret hk110 hk121 hk131 x8 x9 x10 x11 M N h
  · replace h := h.2 c12
    exact T_L_close_210 C hret hk110 hk121 hk131 x8 x9 x10 x11 M N h
set_option maxHeartbeats 4000000 in
theorem T_L_close_150 {Q : g_M → g_M → Prop} (C : XC p R s m args c D d A cL_close 13 RL 1 zc zs) (hret : RTN p l e R s m args below meth c Qg D d K A 13 zc zs KN cL_close Q) {k110 : Int → Int → g_M → g_M → Prop} (hk110 : ∀ (x8 : Int) (x9 : Int) (M N : g_M), k110 x8 x9 M N → X p l e R s m args below meth c Qg D d K A 13 zc zs (lw KN d N) M [(1, (.ref (KN 1))), (2, (.ref (KN 2))), (7, (.ref (KN 3))), (8, (iv x8)), (9, (iv x9))] 110 []) {k121 : Int → Int → Int → g_M → g_M → Prop} (hk121 : ∀ (x8 : Int) (x9 : Int) (x10 : Int) (M N : g_M), k121 x8 x9 x10 M N → X p l e R s m args below meth c Qg D d K A 13 zc zs (lw KN d N) M [(1, (.ref (KN 1))), (2, (.ref (KN 2))), (7, (.ref (KN 3))), (8, (iv x8)), (9, (iv x9)), (10, (iv x10))] 121 []) {k131 : Int → Int → Int → Int → g_M → g_M → Prop} (hk131 : ∀ (x8 : Int) (x9 : Int) (x10 : Int) (x11 : Int) (M N : g_M), k131 x8 x9 x10 x11 M N → X p l e R s m args below meth c Qg D d K A 13 zc zs (lw KN d N) M [(1, (.ref (KN 1))), (2, (.ref (KN 2))), (7, (.ref (KN 3))), (8, (iv x8)), (9, (iv x9)), (10, (iv x10)), (11, (iv x11))] 131 []) (x8 : Int) (x9 : Int) (x10 : Int) (x11 : Int) (t0 : Int) (M N : g_M) (h : F_L_close_150 Q k110 k121 k131 x8 x9 x10 x11 t0 M N) : X p l e R s m args below meth c Qg D d K A 13 zc zs (lw KN d N) M [(1, (.ref (KN 1))), (2, (.ref (KN 2))), (7, (.ref (KN 3))), (8, (iv x8)), (9, (iv x9)), (10, (iv x10)), (11, (iv x11))] 150 [(iv t0)] := by
  refine x_aload_n C dL_close_150 rfl 1 rfl ?_
  refine x_iload C dL_close_151 6 rfl ?_
  refine y_iald C 2 14 (by decide) (by rfl) h.1 dL_close_153 ?_
  replace h := h.2
  refine x_if_ge C 161 dL_close_154 (by decide) (fun c11 => ?_) (fun c11 => ?_)
  · replace h := h.1 c11
    refine x_iconst C (n := 1) dL_close_157 ?_
    refine x_goto C 162 dL_close_158 (by decide) ?_
    exact T_L_close_162 C hret hk110 hk121 hk131 x8 x9 x10 x11 t0 1 M N h
  · replace h := h.2 c11
    refine x_iconst C (n := 0) dL_close_161 ?_
    exact T_L_close_162 C hret hk110 hk121 hk131 x8 x9 x10 x11 t0 0 M N h
set_option maxHeartbeats 4000000 in
theorem T_L_close_131 {Q : g_M → g_M → Prop} (C : XC p R s m args c D d A cL_close 13 RL 1 zc zs) (hret : RTN p l e R s m args below meth c Qg D d K A 13 zc zs KN cL_close Q) {k110 : Int → Int → g_M → g_M → Prop} (hk110 : ∀ (x8 : Int) (x9 : Int) (M N : g_M), k110 x8 x9 M N → X p l e R s m args below meth c Qg D d K A 13 zc zs (lw KN d N) M [(1, (.ref (KN 1))), (2, (.ref (KN 2))), (7, (.ref (KN 3))), (8, (iv x8)), (9, (iv x9))] 110 []) {k121 : Int → Int → Int → g_M → g_M → Prop} (hk121 : ∀ (x8 : Int) (x9 : Int) (x10 : Int) (M N : g_M), k121 x8 x9 x10 M N → X p l e R s m args below meth c Qg D d K A 13 zc zs (lw KN d N) M [(1, (.ref (KN 1))), (2, (.ref (KN 2))), (7, (.ref (KN 3))), (8, (iv x8)), (9, (iv x9)), (10, (iv x10))] 121 []) : ∀ (n : Nat) (x8 : Int) (x9 : Int) (x10 : Int) (x11 : Int) (M N : g_M), F_L_close_131 Q k110 k121 n x8 x9 x10 x11 M N → X p l e R s m args below meth c Qg D d K A 13 zc zs (lw KN d N) M [(1, (.ref (KN 1))), (2, (.ref (KN 2))), (7, (.ref (KN 3))), (8, (iv x8)), (9, (iv x9)), (10, (iv x10)), (11, (iv x11))] 131 [] := by
  intro n
  induction n with
  | zero =>
    intro x8 x9 x10 x11 M N h
    exact h.elim
  | succ n ih =>
    intro x8 x9 x10 x11 M N h
    replace h : ((bm x11 < bm x10 → ((inI x10 14 ∧ ((bm (N 2 (bm x10).toNat) < 0 → (F_L_close_150 Q k110 k121 (F_L_close_131 Q k110 k121 n) x8 x9 x10 x11 1 M N)) ∧ (¬ bm (N 2 (bm x10).toNat) < 0 → (F_L_close_150 Q k110 k121 (F_L_close_131 Q k110 k121 n) x8 x9 x10 x11 0 M N)))))) ∧ (¬ bm x11 < bm x10 → (k121 x8 x9 (x10 + 1) M N))) := h
    refine x_iload C dL_close_131 6 rfl ?_
    refine x_iload C dL_close_133 5 rfl ?_
    refine x_icmp_ge C 258 dL_close_135 (by decide) (fun c9 => ?_) (fun c9 => ?_)
    · replace h := h.1 c9
      refine x_aload_n C dL_close_138 rfl 1 rfl ?_
      refine x_iload C dL_close_139 5 rfl ?_
      refine y_iald C 2 14 (by decide) (by rfl) h.1 dL_close_141 ?_
      replace h := h.2
      refine x_if_ge C 149 dL_close_142 (by decide) (fun c10 => ?_) (fun c10 => ?_)
      · replace h := h.1 c10
        refine x_iconst C (n := 1) dL_close_145 ?_
        refine x_goto C 150 dL_close_146 (by decide) ?_
        exact T_L_close_150 C hret hk110 hk121 ih x8 x9 x10 x11 1 M N h
      · replace h := h.2 c10
        refine x_iconst C (n := 0) dL_close_149 ?_
        exact T_L_close_150 C hret hk110 hk121 ih x8 x9 x10 x11 0 M N h
    · replace h := h.2 c9
      refine x_iinc C dL_close_258 5 rfl (by decide) [(10, (iv (x10 + 1))), (1, (.ref (KN 1))), (2, (.ref (KN 2))), (7, (.ref (KN 3))), (8, (iv x8)), (9, (iv x9)), (11, (iv x11))] rfl ?_
      refine x_goto C 121 dL_close_261 (by decide) ?_
      refine x_lv (lv' := [(1, (.ref (KN 1))), (2, (.ref (KN 2))), (7, (.ref (KN 3))), (8, (iv x8)), (9, (iv x9)), (10, (iv (x10 + 1)))]) [1, 2, 3, 4, 5, 0] rfl ?_
      exact hk121 x8 x9 (x10 + 1) M N h
set_option maxHeartbeats 4000000 in
theorem T_L_close_121 {Q : g_M → g_M → Prop} (C : XC p R s m args c D d A cL_close 13 RL 1 zc zs) (hret : RTN p l e R s m args below meth c Qg D d K A 13 zc zs KN cL_close Q) {k110 : Int → Int → g_M → g_M → Prop} (hk110 : ∀ (x8 : Int) (x9 : Int) (M N : g_M), k110 x8 x9 M N → X p l e R s m args below meth c Qg D d K A 13 zc zs (lw KN d N) M [(1, (.ref (KN 1))), (2, (.ref (KN 2))), (7, (.ref (KN 3))), (8, (iv x8)), (9, (iv x9))] 110 []) : ∀ (n : Nat) (x8 : Int) (x9 : Int) (x10 : Int) (M N : g_M), F_L_close_121 Q k110 n x8 x9 x10 M N → X p l e R s m args below meth c Qg D d K A 13 zc zs (lw KN d N) M [(1, (.ref (KN 1))), (2, (.ref (KN 2))), (7, (.ref (KN 3))), (8, (iv x8)), (9, (iv x9)), (10, (iv x10))] 121 [] := by
  intro n
  induction n with
  | zero =>
    intro x8 x9 x10 M N h
    exact h.elim
  | succ n ih =>
    intro x8 x9 x10 M N h
    replace h : ((bm x10 < bm x8 → (∃ n9, F_L_close_131 Q k110 (F_L_close_121 Q k110 n) n9 x8 x9 x10 3 M N)) ∧ (¬ bm x10 < bm x8 → (k110 x8 x9 M N))) := h
    refine x_iload C dL_close_121 5 rfl ?_
    refine x_iload C dL_close_123 3 rfl ?_
    refine x_icmp_ge C 264 dL_close_125 (by decide) (fun c8 => ?_) (fun c8 => ?_)
    · replace h := h.1 c8
      refine x_iconst C (n := 3) dL_close_128 ?_
      refine x_istore C dL_close_129 (by decide) [(11, (iv 3)), (1, (.ref (KN 1))), (2, (.ref (KN 2))), (7, (.ref (KN 3))), (8, (iv x8)), (9, (iv x9)), (10, (iv x10))] rfl ?_
      refine x_lv (lv' := [(1, (.ref (KN 1))), (2, (.ref (KN 2))), (7, (.ref (KN 3))), (8, (iv x8)), (9, (iv x9)), (10, (iv x10)), (11, (iv 3))]) [1, 2, 3, 4, 5, 6, 0] rfl ?_
      obtain ⟨n9, h⟩ := h
      exact T_L_close_131 C hret hk110 ih n9 x8 x9 x10 3 M N h
    · replace h := h.2 c8
      refine x_goto C 110 dL_close_264 (by decide) ?_
      refine x_lv (lv' := [(1, (.ref (KN 1))), (2, (.ref (KN 2))), (7, (.ref (KN 3))), (8, (iv x8)), (9, (iv x9))]) [0, 1, 2, 3, 4] rfl ?_
      exact hk110 x8 x9 M N h
set_option maxHeartbeats 4000000 in
theorem T_L_close_110 {Q : g_M → g_M → Prop} (C : XC p R s m args c D d A cL_close 13 RL 1 zc zs) (hret : RTN p l e R s m args below meth c Qg D d K A 13 zc zs KN cL_close Q) : ∀ (n : Nat) (x8 : Int) (x9 : Int) (M N : g_M), F_L_close_110 Q n x8 x9 M N → X p l e R s m args below meth c Qg D d K A 13 zc zs (lw KN d N) M [(1, (.ref (KN 1))), (2, (.ref (KN 2))), (7, (.ref (KN 3))), (8, (iv x8)), (9, (iv x9))] 110 [] := by
  intro n
  induction n with
  | zero =>
    intro x8 x9 M N h
    exact h.elim
  | succ n ih =>
    intro x8 x9 M N h
    replace h : ((bm x9 = 0 → (Q M N)) ∧ (¬ bm x9 = 0 → (∃ n9, F_L_close_121 Q (F_L_close_110 Q n) n9 x8 0 3 M N))) := h
    refine x_iload C dL_close_110 4 rfl ?_
    refine x_if_eq C 267 dL_close_112 (by decide) (fun c7 => ?_) (fun c7 => ?_)
    · replace h := h.1 c7
      exact hret _ _ _ _ dL_close_267 h
    · replace h := h.2 c7
      refine x_iconst C (n := 0) dL_close_115 ?_
      refine x_istore C dL_close_116 (by decide) [(9, (iv 0)), (1, (.ref (KN 1))), (2, (.ref (KN 2))), (7, (.ref (KN 3))), (8, (iv x8))] rfl ?_
      refine x_iconst C (n := 3) dL_close_118 ?_
      refine x_istore C dL_close_119 (by decide) [(10, (iv 3)), (9, (iv 0)), (1, (.ref (KN 1))), (2, (.ref (KN 2))), (7, (.ref (KN 3))), (8, (iv x8))] rfl ?_
      refine x_lv (lv' := [(1, (.ref (KN 1))), (2, (.ref (KN 2))), (7, (.ref (KN 3))), (8, (iv x8)), (9, (iv 0)), (10, (iv 3))]) [2, 3, 4, 5, 1, 0] rfl ?_
      obtain ⟨n9, h⟩ := h
      exact T_L_close_121 C hret ih n9 x8 0 3 M N h
set_option maxHeartbeats 4000000 in
theorem T_L_close_67 {Q : g_M → g_M → Prop} (C : XC p R s m args c D d A cL_close 13 RL 1 zc zs) (hret : RTN p l e R s m args below meth c Qg D d K A 13 zc zs KN cL_close Q) : ∀ (n : Nat) (x5 : Int) (x6 : Int) (x8 : Int) (x9 : Int) (M N : g_M), F_L_close_67 Q n x5 x6 x8 x9 M N → X p l e R s m args below meth c Qg D d K A 13 zc zs (lw KN d N) M [(1, (.ref (KN 1))), (2, (.ref (KN 2))), (3, (.ref (KN 4))), (4, (.ref (KN 5))), (5, (iv x5)), (6, (iv x6)), (7, (.ref (KN 3))), (8, (iv x8)), (9, (iv x9))] 67 [] := by
  intro n
  induction n with
  | zero =>
    intro x5 x6 x8 x9 M N h
    exact h.elim
  | succ n ih =>
    intro x5 x6 x8 x9 M N h
    replace h : ((bm x9 < bm x5 → (((bm x9 = bm x6 → (F_L_close_101 Q (F_L_close_67 Q n) x5 x6 x8 x9 M N)) ∧ (¬ bm x9 = bm x6 → ((inI x9 30 ∧ (inI (N 4 (bm x9).toNat) 14 ∧ (inI x9 30 ∧ (inI (N 5 (bm x9).toNat) 14 ∧ F_L_unite (fun M6 N6 => F_L_close_101 Q (F_L_close_67 Q n) x5 x6 x8 x9 M6 N6) (N 3 (bm (N 4 (bm x9).toNat)).toNat) (N 3 (bm (N 5 (bm x9).toNat)).toNat) M N))))))))) ∧ (¬ bm x9 < bm x5 → (∃ n9, F_L_close_110 Q n9 x8 1 M N))) := h
    refine x_iload C dL_close_67 8 rfl ?_
    refine x_iload C dL_close_69 4 rfl ?_
    refine x_icmp_ge C 107 dL_close_71 (by decide) (fun c4 => ?_) (fun c4 => ?_)
    · replace h := h.1 c4
      refine x_iload C dL_close_74 8 rfl ?_
      refine x_iload C dL_close_76 5 rfl ?_
      refine x_icmp_eq C 101 dL_close_78 (by decide) (fun c5 => ?_) (fun c5 => ?_)
      · replace h := h.1 c5
        exact T_L_close_101 C hret ih x5 x6 x8 x9 M N h
      · replace h := h.2 c5
        refine x_aload C dL_close_81 6 rfl ?_
        refine x_aload C dL_close_83 6 rfl ?_
        refine x_aload_n C dL_close_85 rfl 2 rfl ?_
        refine x_iload C dL_close_86 8 rfl ?_
        refine y_iald C 4 30 (by decide) (by rfl) h.1 dL_close_88 ?_
        replace h := h.2
        refine y_iald C 3 14 (by decide) (by rfl) h.1 dL_close_89 ?_
        replace h := h.2
        refine x_aload C dL_close_90 6 rfl ?_
        refine x_aload C dL_close_92 3 rfl ?_
        refine x_iload C dL_close_94 8 rfl ?_
        refine y_iald C 5 30 (by decide) (by rfl) h.1 dL_close_96 ?_
        replace h := h.2
        refine y_iald C 3 14 (by decide) (by rfl) h.1 dL_close_97 ?_
        replace h := h.2
        refine x_callSvN C FL_unite k649 k647 (m_L_unite (N 3 (bm (N 4 (bm x9).toNat)).toNat) (N 3 (bm (N 5 (bm x9).toNat)).toNat)) h (Nat.le_of_ble_eq_true rfl) (Nat.le_of_ble_eq_true rfl) (rest := []) (Nat.le_of_ble_eq_true rfl) rfl rfl dL_close_98 (fun M6 N6 h => ?_)
        exact T_L_close_101 C hret ih x5 x6 x8 x9 M6 N6 h
    · replace h := h.2 c4
      refine x_iconst C (n := 1) dL_close_107 ?_
      refine x_istore C dL_close_108 (by decide) [(9, (iv 1)), (1, (.ref (KN 1))), (2, (.ref (KN 2))), (3, (.ref (KN 4))), (4, (.ref (KN 5))), (5, (iv x5)), (6, (iv x6)), (7, (.ref (KN 3))), (8, (iv x8))] rfl ?_
      refine x_lv (lv' := [(1, (.ref (KN 1))), (2, (.ref (KN 2))), (7, (.ref (KN 3))), (8, (iv x8)), (9, (iv 1))]) [1, 2, 7, 8, 0] rfl ?_
      obtain ⟨n9, h⟩ := h
      exact T_L_close_110 C hret n9 x8 1 M N h
set_option maxHeartbeats 4000000 in
theorem T_L_close_7 {Q : g_M → g_M → Prop} (C : XC p R s m args c D d A cL_close 13 RL 1 zc zs) (hret : RTN p l e R s m args below meth c Qg D d K A 13 zc zs KN cL_close Q) : ∀ (n : Nat) (x5 : Int) (x6 : Int) (x8 : Int) (x9 : Int) (M N : g_M), F_L_close_7 Q n x5 x6 x8 x9 M N → X p l e R s m args below meth c Qg D d K A 13 zc zs (lw KN d N) M [(0, (.ref (KN 0))), (1, (.ref (KN 1))), (2, (.ref (KN 2))), (3, (.ref (KN 4))), (4, (.ref (KN 5))), (5, (iv x5)), (6, (iv x6)), (7, (.ref (KN 3))), (8, (iv x8)), (9, (iv x9))] 7 [] := by
  intro n
  induction n with
  | zero =>
    intro x5 x6 x8 x9 M N h
    exact h.elim
  | succ n ih =>
    intro x5 x6 x8 x9 M N h
    replace h : ((bm x9 < bm x8 → ((inI x9 14 ∧ ∃ n9, F_L_close_24 Q (F_L_close_7 Q n) n9 x5 x6 x8 x9 0 M (up N 3 (bm x9).toNat x9)))) ∧ (¬ bm x9 < bm x8 → (∃ n9, F_L_close_67 Q n9 x5 x6 x8 0 M N))) := h
    refine x_iload C dL_close_7 9 rfl ?_
    refine x_iload C dL_close_9 8 rfl ?_
    refine x_icmp_ge C 64 dL_close_11 (by decide) (fun c1 => ?_) (fun c1 => ?_)
    · replace h := h.1 c1
      refine x_aload C dL_close_14 7 rfl ?_
      refine x_iload C dL_close_16 9 rfl ?_
      refine x_iload C dL_close_18 9 rfl ?_
      refine y_iast C 3 14 (by decide) (by rfl) h.1 dL_close_20 ?_
      replace h := h.2
      refine x_iconst C (n := 0) dL_close_21 ?_
      refine x_istore C dL_close_22 (by decide) [(10, (iv 0)), (0, (.ref (KN 0))), (1, (.ref (KN 1))), (2, (.ref (KN 2))), (3, (.ref (KN 4))), (4, (.ref (KN 5))), (5, (iv x5)), (6, (iv x6)), (7, (.ref (KN 3))), (8, (iv x8)), (9, (iv x9))] rfl ?_
      refine x_lv (lv' := [(0, (.ref (KN 0))), (1, (.ref (KN 1))), (2, (.ref (KN 2))), (3, (.ref (KN 4))), (4, (.ref (KN 5))), (5, (iv x5)), (6, (iv x6)), (7, (.ref (KN 3))), (8, (iv x8)), (9, (iv x9)), (10, (iv 0))]) [1, 2, 3, 4, 5, 6, 7, 8, 9, 10, 0] rfl ?_
      obtain ⟨n9, h⟩ := h
      exact T_L_close_24 C hret ih n9 x5 x6 x8 x9 0 M (up N 3 (bm x9).toNat x9) h
    · replace h := h.2 c1
      refine x_iconst C (n := 0) dL_close_64 ?_
      refine x_istore C dL_close_65 (by decide) [(9, (iv 0)), (0, (.ref (KN 0))), (1, (.ref (KN 1))), (2, (.ref (KN 2))), (3, (.ref (KN 4))), (4, (.ref (KN 5))), (5, (iv x5)), (6, (iv x6)), (7, (.ref (KN 3))), (8, (iv x8))] rfl ?_
      refine x_lv (lv' := [(1, (.ref (KN 1))), (2, (.ref (KN 2))), (3, (.ref (KN 4))), (4, (.ref (KN 5))), (5, (iv x5)), (6, (iv x6)), (7, (.ref (KN 3))), (8, (iv x8)), (9, (iv 0))]) [2, 3, 4, 5, 6, 7, 8, 9, 0] rfl ?_
      obtain ⟨n9, h⟩ := h
      exact T_L_close_67 C hret n9 x5 x6 x8 0 M N h
set_option maxHeartbeats 4000000 in
theorem m_L_close (a5 : Int) (a6 : Int) : MVN l D d K KN yL_close cL_close 13 none 1 [(.ref (KN 0)), (.ref (KN 1)), (.ref (KN 2)), (.ref (KN 4)), (.ref (KN 5)), (iv a5), (iv a6), (.ref (KN 3))] (fun Q M N => F_L_close Q a5 a6 M N) := by
  refine s_mvn pn_L (Nat.le_of_ble_eq_true rfl) [(0, (.ref (KN 0))), (1, (.ref (KN 1))), (2, (.ref (KN 2))), (3, (.ref (KN 4))), (4, (.ref (KN 5))), (5, (iv a5)), (6, (iv a6)), (7, (.ref (KN 3)))] rfl rfl (fun p e R s m args below meth c A N M zc zs Q Qg C hret h => ?_)
  refine x_aload_n C dL_close_0 rfl 0 rfl ?_
  refine y_alen C 0 14 (by decide) (by rfl) dL_close_1 ?_
  refine x_istore C dL_close_2 (by decide) [(8, (iv 14)), (0, (.ref (KN 0))), (1, (.ref (KN 1))), (2, (.ref (KN 2))), (3, (.ref (KN 4))), (4, (.ref (KN 5))), (5, (iv a5)), (6, (iv a6)), (7, (.ref (KN 3)))] rfl ?_
  refine x_iconst C (n := 0) dL_close_4 ?_
  refine x_istore C dL_close_5 (by decide) [(9, (iv 0)), (8, (iv 14)), (0, (.ref (KN 0))), (1, (.ref (KN 1))), (2, (.ref (KN 2))), (3, (.ref (KN 4))), (4, (.ref (KN 5))), (5, (iv a5)), (6, (iv a6)), (7, (.ref (KN 3)))] rfl ?_
  refine x_lv (lv' := [(0, (.ref (KN 0))), (1, (.ref (KN 1))), (2, (.ref (KN 2))), (3, (.ref (KN 4))), (4, (.ref (KN 5))), (5, (iv a5)), (6, (iv a6)), (7, (.ref (KN 3))), (8, (iv 14)), (9, (iv 0))]) [2, 3, 4, 5, 6, 7, 8, 9, 1, 0] rfl ?_
  obtain ⟨n9, h⟩ := h
  exact T_L_close_7 C hret n9 a5 a6 14 0 M N h
end XW
