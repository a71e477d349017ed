section XW
variable {p : Program} {l : Launch} {e : Env} {R : Room} {s : State} {m : MethodId} {args : Array Value} {below : List Frame} {meth : Method} {c : Code} {Qg : State → Prop} {D : va_G} {d : Nat → ClassId} {K : Nat → Nat} {A : Nat → Prop} {zc zs : Int} {L : va_W}
set_option maxHeartbeats 4000000 in
theorem m_X2_leastTerm (a1 : Int) : MI l D d K yX2_leastTerm cX2_leastTerm 2 (some .int) 1 [(.ref (K 4)), (iv a1)] (fun Q M => F_X2_leastTerm Q a1 M) := by
  refine s_mi pn_X2 (Nat.le_of_ble_eq_true rfl) [(0, (.ref (K 4))), (1, (iv a1))] rfl rfl (fun p e R s m args below meth c A L M zc zs Q Qg C hret h => ?_)
  refine x_aload_n C dX2_leastTerm_0 rfl 0 rfl ?_
  refine gf_4_14 C k484 dX2_leastTerm_1 ?_
  refine x_iload_n C dX2_leastTerm_4 rfl 1 rfl ?_
  refine x_rget C 23 (by decide) k279 (Nat.le_of_ble_eq_true rfl) (Nat.le_of_ble_eq_true rfl) dX2_leastTerm_5 ?_
  exact hret _ _ _ _ dX2_leastTerm_8 h
set_option maxHeartbeats 4000000 in
theorem m_X9_addRule (a1 : Int) (a2 : Int) : MV l D d K yX9_addRule cX9_addRule 3 none 1 [(.ref (K 5)), (iv a1), (iv a2)] (fun Q M => F_X9_addRule Q a1 a2 M) := by
  refine s_mv pn_X9 (Nat.le_of_ble_eq_true rfl) [(0, (.ref (K 5))), (1, (iv a1)), (2, (iv a2))] rfl rfl (fun p e R s m args below meth c A L M zc zs Q Qg C hret h => ?_)
  refine x_aload_n C dX9_addRule_0 rfl 0 rfl ?_
  refine gf_5_17 C k481 dX9_addRule_1 ?_
  refine x_if_lt C 58 dX9_addRule_4 (by decide) (fun c1 => ?_) (fun c1 => ?_)
  · replace h := h.1 c1
    exact hret _ _ _ dX9_addRule_58 h
  · replace h := h.2 c1
    refine x_aload_n C dX9_addRule_7 rfl 0 rfl ?_
    refine gf_5_17 C k481 dX9_addRule_8 ?_
    refine x_bipush C (n := 30) (by decide) (by decide) dX9_addRule_11 ?_
    refine x_icmp_ge C 58 dX9_addRule_13 (by decide) (fun c2 => ?_) (fun c2 => ?_)
    · replace h := h.1 c2
      refine x_aload_n C dX9_addRule_16 rfl 0 rfl ?_
      refine gf_5_14 C k494 dX9_addRule_17 ?_
      refine x_aload_n C dX9_addRule_20 rfl 0 rfl ?_
      refine gf_5_17 C k481 dX9_addRule_21 ?_
      refine x_iload_n C dX9_addRule_24 rfl 1 rfl ?_
      refine x_iast C 19 30 (by decide) (fun _ _ => rfl) h.1 dX9_addRule_25 ?_
      replace h := h.2
      refine x_aload_n C dX9_addRule_26 rfl 0 rfl ?_
      refine gf_5_15 C k495 dX9_addRule_27 ?_
      refine x_aload_n C dX9_addRule_30 rfl 0 rfl ?_
      refine gf_5_17 C k481 dX9_addRule_31 ?_
      refine x_iload_n C dX9_addRule_34 rfl 2 rfl ?_
      refine x_iast C 20 30 (by decide) (fun _ _ => rfl) h.1 dX9_addRule_35 ?_
      replace h := h.2
      refine x_aload_n C dX9_addRule_36 rfl 0 rfl ?_
      refine gf_5_16 C k496 dX9_addRule_37 ?_
      refine x_iload_n C dX9_addRule_40 rfl 1 rfl ?_
      refine x_aload_n C dX9_addRule_41 rfl 0 rfl ?_
      refine gf_5_17 C k481 dX9_addRule_42 ?_
      refine x_rset C 32 (by decide) h.1 k497 (Nat.le_of_ble_eq_true rfl) (Nat.le_of_ble_eq_true rfl) dX9_addRule_45 ?_
      replace h := h.2
      refine x_aload_n C dX9_addRule_48 rfl 0 rfl ?_
      refine x_dup C dX9_addRule_49 rfl ?_
      refine gf_5_17 C k481 dX9_addRule_50 ?_
      refine x_iconst C (n := 1) dX9_addRule_53 ?_
      refine x_iadd C dX9_addRule_54 ?_
      refine pf_5_17 C k481 dX9_addRule_55 ?_
      exact hret _ _ _ dX9_addRule_58 h
    · replace h := h.2 c2
      exact hret _ _ _ dX9_addRule_58 h
set_option maxHeartbeats 4000000 in
theorem m_X2_setLeastTerm (a1 : Int) (a2 : Int) : MV l D d K yX2_setLeastTerm cX2_setLeastTerm 3 none 1 [(.ref (K 4)), (iv a1), (iv a2)] (fun Q M => F_X2_setLeastTerm Q a1 a2 M) := by
  refine s_mv pn_X2 (Nat.le_of_ble_eq_true rfl) [(0, (.ref (K 4))), (1, (iv a1)), (2, (iv a2))] rfl rfl (fun p e R s m args below meth c A L M zc zs Q Qg C hret h => ?_)
  refine x_aload_n C dX2_setLeastTerm_0 rfl 0 rfl ?_
  refine gf_4_14 C k484 dX2_setLeastTerm_1 ?_
  refine x_iload_n C dX2_setLeastTerm_4 rfl 1 rfl ?_
  refine x_iload_n C dX2_setLeastTerm_5 rfl 2 rfl ?_
  refine x_rset C 23 (by decide) h.1 k272 (Nat.le_of_ble_eq_true rfl) (Nat.le_of_ble_eq_true rfl) dX2_setLeastTerm_6 ?_
  replace h := h.2
  exact hret _ _ _ dX2_setLeastTerm_9 h
set_option maxHeartbeats 4000000 in
theorem T_X9_takeRules_71 {Q : g_M → Prop} (C : XC p R s m args c D d A cX9_takeRules 4 RX9 4 zc zs) (hret : RTV p l e R s m args below meth c Qg D d K A 4 zc zs L cX9_takeRules Q) {k9 : Int → g_M → Prop} (hk9 : ∀ (x1 : Int) (M : g_M), k9 x1 M → X p l e R s m args below meth c Qg D d K A 4 zc zs L M [(0, (.ref (K 5))), (1, (iv x1))] 9 []) (x1 : Int) (M : g_M) (h : F_X9_takeRules_71 Q k9 x1 M) : X p l e R s m args below meth c Qg D d K A 4 zc zs L M [(0, (.ref (K 5))), (1, (iv x1))] 71 [] := by
  refine x_iinc C dX9_takeRules_71 1 rfl (by decide) [(1, (iv (x1 + 1))), (0, (.ref (K 5)))] rfl ?_
  refine x_goto C 9 dX9_takeRules_74 (by decide) ?_
  refine x_lv (lv' := [(0, (.ref (K 5))), (1, (iv (x1 + 1)))]) [1, 0] rfl ?_
  exact hk9 (x1 + 1) M h
set_option maxHeartbeats 4000000 in
theorem T_X9_takeRules_190 {Q : g_M → Prop} (C : XC p R s m args c D d A cX9_takeRules 4 RX9 4 zc zs) (hret : RTV p l e R s m args below meth c Qg D d K A 4 zc zs L cX9_takeRules Q) {k91 : Int → g_M → Prop} (hk91 : ∀ (x1 : Int) (M : g_M), k91 x1 M → X p l e R s m args below meth c Qg D d K A 4 zc zs L M [(0, (.ref (K 5))), (1, (iv x1))] 91 []) (x1 : Int) (M : g_M) (h : F_X9_takeRules_190 Q k91 x1 M) : X p l e R s m args below meth c Qg D d K A 4 zc zs L M [(0, (.ref (K 5))), (1, (iv x1))] 190 [] := by
  refine x_iinc C dX9_takeRules_190 1 rfl (by decide) [(1, (iv (x1 + 1))), (0, (.ref (K 5)))] rfl ?_
  refine x_goto C 91 dX9_takeRules_193 (by decide) ?_
  refine x_lv (lv' := [(0, (.ref (K 5))), (1, (iv (x1 + 1)))]) [1, 0] rfl ?_
  exact hk91 (x1 + 1) M h
set_option maxHeartbeats 4000000 in
theorem T_X9_takeRules_91 {Q : g_M → Prop} (C : XC p R s m args c D d A cX9_takeRules 4 RX9 4 zc zs) (hret : RTV p l e R s m args below meth c Qg D d K A 4 zc zs L cX9_takeRules Q) : ∀ (n : Nat) (x1 : Int) (M : g_M), F_X9_takeRules_91 Q n x1 M → X p l e R s m args below meth c Qg D d K A 4 zc zs L M [(0, (.ref (K 5))), (1, (iv x1))] 91 [] := by
  intro n
  induction n with
  | zero =>
    intro x1 M h
    exact h.elim
  | succ n ih =>
    intro x1 M h
    replace h : F_X2_sequenceCount (fun v12 M12 => ((bm x1 < bm v12 → (F_X2_ranked (fun v14 M14 => F_X2_owner (fun v15 M15 => F_X2_isNeeded (fun v16 M16 => ((bm v16 = 0 → (F_X2_choice (fun v18 M18 => ((bm v18 = bm v14 → (F_X9_takeRules_190 Q (F_X9_takeRules_91 Q n) x1 M18)) ∧ (¬ bm v18 = bm v14 → (F_X2_makeTerm (fun v20 M20 => F_X2_leastTerm (fun v21 M21 => F_X9_addRule (fun M22 => F_X9_takeRules_190 Q (F_X9_takeRules_91 Q n) x1 M22) v20 v21 M21) v15 M20) v14 M18)))) v15 M16)) ∧ (¬ bm v16 = 0 → (F_X2_makeTerm (fun v23 M23 => F_X2_setLeastTerm (fun M24 => F_X9_takeRules_190 Q (F_X9_takeRules_91 Q n) x1 M24) v15 v23 M23) v14 M16)))) v14 M15) v14 M14) x1 M12)) ∧ (¬ bm x1 < bm v12 → (Q M12)))) M := h
    refine x_iload_n C dX9_takeRules_91 rfl 1 rfl ?_
    refine x_aload_n C dX9_takeRules_92 rfl 0 rfl ?_
    refine gf_5_3 C k420 dX9_takeRules_93 ?_
    refine x_callVi C FX2_sequenceCount GX2_sequenceCount k432 (m_X2_sequenceCount) h (by decide) (fun _ => rfl) rfl (Nat.le_of_ble_eq_true rfl) (Nat.le_of_ble_eq_true rfl) (rest := [(iv x1)]) (Nat.le_of_ble_eq_true rfl) rfl rfl dX9_takeRules_96 (fun v12 M12 h => ?_)
    refine x_icmp_ge C 196 dX9_takeRules_99 (by decide) (fun c13 => ?_) (fun c13 => ?_)
    · replace h := h.1 c13
      refine x_aload_n C dX9_takeRules_102 rfl 0 rfl ?_
      refine gf_5_3 C k420 dX9_takeRules_103 ?_
      refine x_iload_n C dX9_takeRules_106 rfl 1 rfl ?_
      refine x_callVi C FX2_ranked GX2_ranked k436 (m_X2_ranked x1) h (by decide) (fun _ => rfl) rfl (Nat.le_of_ble_eq_true rfl) (Nat.le_of_ble_eq_true rfl) (rest := []) (Nat.le_of_ble_eq_true rfl) rfl rfl dX9_takeRules_107 (fun v14 M14 h => ?_)
      refine x_istore_n C dX9_takeRules_110 rfl (by decide) [(2, (iv v14)), (0, (.ref (K 5))), (1, (iv x1))] rfl ?_
      refine x_aload_n C dX9_takeRules_111 rfl 1 rfl ?_
      refine gf_5_3 C k420 dX9_takeRules_112 ?_
      refine x_iload_n C dX9_takeRules_115 rfl 0 rfl ?_
      refine x_callVi C FX2_owner GX2_owner k440 (m_X2_owner v14) h (by decide) (fun _ => rfl) rfl (Nat.le_of_ble_eq_true rfl) (Nat.le_of_ble_eq_true rfl) (rest := []) (Nat.le_of_ble_eq_true rfl) rfl rfl dX9_takeRules_116 (fun v15 M15 h => ?_)
      refine x_istore_n C dX9_takeRules_119 rfl (by decide) [(3, (iv v15)), (2, (iv v14)), (0, (.ref (K 5))), (1, (iv x1))] rfl ?_
      refine x_aload_n C dX9_takeRules_120 rfl 2 rfl ?_
      refine gf_5_3 C k420 dX9_takeRules_121 ?_
      refine x_iload_n C dX9_takeRules_124 rfl 1 rfl ?_
      refine x_callVi C FX2_isNeeded GX2_isNeeded k482 (m_X2_isNeeded v14) h (by decide) (fun _ => rfl) rfl (Nat.le_of_ble_eq_true rfl) (Nat.le_of_ble_eq_true rfl) (rest := []) (Nat.le_of_ble_eq_true rfl) rfl rfl dX9_takeRules_125 (fun v16 M16 h => ?_)
      refine x_if_eq C 154 dX9_takeRules_128 (by decide) (fun c17 => ?_) (fun c17 => ?_)
      · replace h := h.1 c17
        refine x_aload_n C dX9_takeRules_154 rfl 2 rfl ?_
        refine gf_5_3 C k420 dX9_takeRules_155 ?_
        refine x_iload_n C dX9_takeRules_158 rfl 0 rfl ?_
        refine x_callVi C FX2_choice GX2_choice k444 (m_X2_choice v15) h (by decide) (fun _ => rfl) rfl (Nat.le_of_ble_eq_true rfl) (Nat.le_of_ble_eq_true rfl) (rest := []) (Nat.le_of_ble_eq_true rfl) rfl rfl dX9_takeRules_159 (fun v18 M18 h => ?_)
        refine x_iload_n C dX9_takeRules_162 rfl 1 rfl ?_
        refine x_icmp_eq C 190 dX9_takeRules_163 (by decide) (fun c19 => ?_) (fun c19 => ?_)
        · replace h := h.1 c19
          refine x_lv (lv' := [(0, (.ref (K 5))), (1, (iv x1))]) [2, 3] rfl ?_
          exact T_X9_takeRules_190 C hret ih x1 M18 h
        · replace h := h.2 c19
          refine x_aload_n C dX9_takeRules_166 rfl 2 rfl ?_
          refine x_aload_n C dX9_takeRules_167 rfl 2 rfl ?_
          refine gf_5_3 C k420 dX9_takeRules_168 ?_
          refine x_iload_n C dX9_takeRules_171 rfl 1 rfl ?_
          refine x_aload_n C dX9_takeRules_172 rfl 2 rfl ?_
          refine gf_5_1 C k483 dX9_takeRules_173 ?_
          refine x_callVi C FX2_makeTerm GX2_makeTerm k486 (m_X2_makeTerm v14) h (by decide) (fun _ => rfl) rfl (Nat.le_of_ble_eq_true rfl) (Nat.le_of_ble_eq_true rfl) (rest := [(.ref (K 5))]) (Nat.le_of_ble_eq_true rfl) rfl rfl dX9_takeRules_176 (fun v20 M20 h => ?_)
          refine x_aload_n C dX9_takeRules_179 rfl 2 rfl ?_
          refine gf_5_3 C k420 dX9_takeRules_180 ?_
          refine x_iload_n C dX9_takeRules_183 rfl 0 rfl ?_
          refine x_callVi C FX2_leastTerm GX2_leastTerm k490 (m_X2_leastTerm v15) h (by decide) (fun _ => rfl) rfl (Nat.le_of_ble_eq_true rfl) (Nat.le_of_ble_eq_true rfl) (rest := [(iv v20), (.ref (K 5))]) (Nat.le_of_ble_eq_true rfl) rfl rfl dX9_takeRules_184 (fun v21 M21 h => ?_)
          refine x_callVv C FX9_addRule GX9_addRule k498 (m_X9_addRule v20 v21) h (by decide) (fun _ => rfl) rfl (Nat.le_of_ble_eq_true rfl) (Nat.le_of_ble_eq_true rfl) (rest := []) (Nat.le_of_ble_eq_true rfl) rfl rfl dX9_takeRules_187 (fun M22 h => ?_)
          refine x_lv (lv' := [(0, (.ref (K 5))), (1, (iv x1))]) [2, 3] rfl ?_
          exact T_X9_takeRules_190 C hret ih x1 M22 h
      · replace h := h.2 c17
        refine x_aload_n C dX9_takeRules_131 rfl 2 rfl ?_
        refine gf_5_3 C k420 dX9_takeRules_132 ?_
        refine x_iload_n C dX9_takeRules_135 rfl 0 rfl ?_
        refine x_aload_n C dX9_takeRules_136 rfl 2 rfl ?_
        refine gf_5_3 C k420 dX9_takeRules_137 ?_
        refine x_iload_n C dX9_takeRules_140 rfl 1 rfl ?_
        refine x_aload_n C dX9_takeRules_141 rfl 2 rfl ?_
        refine gf_5_1 C k483 dX9_takeRules_142 ?_
        refine x_callVi C FX2_makeTerm GX2_makeTerm k486 (m_X2_makeTerm v14) h (by decide) (fun _ => rfl) rfl (Nat.le_of_ble_eq_true rfl) (Nat.le_of_ble_eq_true rfl) (rest := [(iv v15), (.ref (K 4))]) (Nat.le_of_ble_eq_true rfl) rfl rfl dX9_takeRules_145 (fun v23 M23 h => ?_)
        refine x_callVv C FX2_setLeastTerm GX2_setLeastTerm k502 (m_X2_setLeastTerm v15 v23) h (by decide) (fun _ => rfl) rfl (Nat.le_of_ble_eq_true rfl) (Nat.le_of_ble_eq_true rfl) (rest := []) (Nat.le_of_ble_eq_true rfl) rfl rfl dX9_takeRules_148 (fun M24 h => ?_)
        refine x_goto C 190 dX9_takeRules_151 (by decide) ?_
        refine x_lv (lv' := [(0, (.ref (K 5))), (1, (iv x1))]) [2, 3] rfl ?_
        exact T_X9_takeRules_190 C hret ih x1 M24 h
    · replace h := h.2 c13
      exact hret _ _ _ dX9_takeRules_196 h
set_option maxHeartbeats 4000000 in
theorem T_X9_takeRules_9 {Q : g_M → Prop} (C : XC p R s m args c D d A cX9_takeRules 4 RX9 4 zc zs) (hret : RTV p l e R s m args below meth c Qg D d K A 4 zc zs L cX9_takeRules Q) : ∀ (n : Nat) (x1 : Int) (M : g_M), F_X9_takeRules_9 Q n x1 M → X p l e R s m args below meth c Qg D d K A 4 zc zs L M [(0, (.ref (K 5))), (1, (iv x1))] 9 [] := by
  intro n
  induction n with
  | zero =>
    intro x1 M h
    exact h.elim
  | succ n ih =>
    intro x1 M h
    replace h : F_X2_sequenceCount (fun v2 M2 => ((bm x1 < bm v2 → (F_X2_ranked (fun v4 M4 => F_X2_owner (fun v5 M5 => F_X2_choice (fun v6 M6 => ((bm v6 = bm v4 → (F_X9_takeRules_71 Q (F_X9_takeRules_9 Q n) x1 M6)) ∧ (¬ bm v6 = bm v4 → (F_X2_owner (fun v8 M8 => F_X2_need (fun M9 => F_X2_needParts (fun M10 => F_X9_takeRules_71 Q (F_X9_takeRules_9 Q n) x1 M10) v4 M9) v8 M8) v4 M6)))) v5 M5) v4 M4) x1 M2)) ∧ (¬ bm x1 < bm v2 → (F_X2_spreadNeeds (fun M11 => ∃ n9, F_X9_takeRules_91 Q n9 0 (up M11 45 17 0)) M2)))) M := h
    refine x_iload_n C dX9_takeRules_9 rfl 1 rfl ?_
    refine x_aload_n C dX9_takeRules_10 rfl 0 rfl ?_
    refine gf_5_3 C k420 dX9_takeRules_11 ?_
    refine x_callVi C FX2_sequenceCount GX2_sequenceCount k432 (m_X2_sequenceCount) h (by decide) (fun _ => rfl) rfl (Nat.le_of_ble_eq_true rfl) (Nat.le_of_ble_eq_true rfl) (rest := [(iv x1)]) (Nat.le_of_ble_eq_true rfl) rfl rfl dX9_takeRules_14 (fun v2 M2 h => ?_)
    refine x_icmp_ge C 77 dX9_takeRules_17 (by decide) (fun c3 => ?_) (fun c3 => ?_)
    · replace h := h.1 c3
      refine x_aload_n C dX9_takeRules_20 rfl 0 rfl ?_
      refine gf_5_3 C k420 dX9_takeRules_21 ?_
      refine x_iload_n C dX9_takeRules_24 rfl 1 rfl ?_
      refine x_callVi C FX2_ranked GX2_ranked k436 (m_X2_ranked x1) h (by decide) (fun _ => rfl) rfl (Nat.le_of_ble_eq_true rfl) (Nat.le_of_ble_eq_true rfl) (rest := []) (Nat.le_of_ble_eq_true rfl) rfl rfl dX9_takeRules_25 (fun v4 M4 h => ?_)
      refine x_istore_n C dX9_takeRules_28 rfl (by decide) [(2, (iv v4)), (0, (.ref (K 5))), (1, (iv x1))] rfl ?_
      refine x_aload_n C dX9_takeRules_29 rfl 1 rfl ?_
      refine gf_5_3 C k420 dX9_takeRules_30 ?_
      refine x_aload_n C dX9_takeRules_33 rfl 1 rfl ?_
      refine gf_5_3 C k420 dX9_takeRules_34 ?_
      refine x_iload_n C dX9_takeRules_37 rfl 0 rfl ?_
      refine x_callVi C FX2_owner GX2_owner k440 (m_X2_owner v4) h (by decide) (fun _ => rfl) rfl (Nat.le_of_ble_eq_true rfl) (Nat.le_of_ble_eq_true rfl) (rest := [(.ref (K 4))]) (Nat.le_of_ble_eq_true rfl) rfl rfl dX9_takeRules_38 (fun v5 M5 h => ?_)
      refine x_callVi C FX2_choice GX2_choice k444 (m_X2_choice v5) h (by decide) (fun _ => rfl) rfl (Nat.le_of_ble_eq_true rfl) (Nat.le_of_ble_eq_true rfl) (rest := []) (Nat.le_of_ble_eq_true rfl) rfl rfl dX9_takeRules_41 (fun v6 M6 h => ?_)
      refine x_iload_n C dX9_takeRules_44 rfl 0 rfl ?_
      refine x_icmp_eq C 71 dX9_takeRules_45 (by decide) (fun c7 => ?_) (fun c7 => ?_)
      · replace h := h.1 c7
        refine x_lv (lv' := [(0, (.ref (K 5))), (1, (iv x1))]) [1, 2] rfl ?_
        exact T_X9_takeRules_71 C hret ih x1 M6 h
      · replace h := h.2 c7
        refine x_aload_n C dX9_takeRules_48 rfl 1 rfl ?_
        refine gf_5_3 C k420 dX9_takeRules_49 ?_
        refine x_aload_n C dX9_takeRules_52 rfl 1 rfl ?_
        refine gf_5_3 C k420 dX9_takeRules_53 ?_
        refine x_iload_n C dX9_takeRules_56 rfl 0 rfl ?_
        refine x_callVi C FX2_owner GX2_owner k440 (m_X2_owner v4) h (by decide) (fun _ => rfl) rfl (Nat.le_of_ble_eq_true rfl) (Nat.le_of_ble_eq_true rfl) (rest := [(.ref (K 4))]) (Nat.le_of_ble_eq_true rfl) rfl rfl dX9_takeRules_57 (fun v8 M8 h => ?_)
        refine x_callVv C FX2_need GX2_need k464 (m_X2_need v8) h (by decide) (fun _ => rfl) rfl (Nat.le_of_ble_eq_true rfl) (Nat.le_of_ble_eq_true rfl) (rest := []) (Nat.le_of_ble_eq_true rfl) rfl rfl dX9_takeRules_60 (fun M9 h => ?_)
        refine x_aload_n C dX9_takeRules_63 rfl 1 rfl ?_
        refine gf_5_3 C k420 dX9_takeRules_64 ?_
        refine x_iload_n C dX9_takeRules_67 rfl 0 rfl ?_
        refine x_callVv C FX2_needParts GX2_needParts k468 (m_X2_needParts v4) h (by decide) (fun _ => rfl) rfl (Nat.le_of_ble_eq_true rfl) (Nat.le_of_ble_eq_true rfl) (rest := []) (Nat.le_of_ble_eq_true rfl) rfl rfl dX9_takeRules_68 (fun M10 h => ?_)
        refine x_lv (lv' := [(0, (.ref (K 5))), (1, (iv x1))]) [1, 2] rfl ?_
        exact T_X9_takeRules_71 C hret ih x1 M10 h
    · replace h := h.2 c3
      refine x_aload_n C dX9_takeRules_77 rfl 0 rfl ?_
      refine gf_5_3 C k420 dX9_takeRules_78 ?_
      refine x_callVv C FX2_spreadNeeds GX2_spreadNeeds k477 (m_X2_spreadNeeds) h (by decide) (fun _ => rfl) rfl (Nat.le_of_ble_eq_true rfl) (Nat.le_of_ble_eq_true rfl) (rest := []) (Nat.le_of_ble_eq_true rfl) rfl rfl dX9_takeRules_81 (fun M11 h => ?_)
      refine x_aload_n C dX9_takeRules_84 rfl 0 rfl ?_
      refine x_iconst C (n := 0) dX9_takeRules_85 ?_
      refine pf_5_17 C k481 dX9_takeRules_86 ?_
      refine x_iconst C (n := 0) dX9_takeRules_89 ?_
      refine x_istore_n C dX9_takeRules_90 rfl (by decide) [(1, (iv 0)), (0, (.ref (K 5)))] rfl ?_
      refine x_lv (lv' := [(0, (.ref (K 5))), (1, (iv 0))]) [1, 0] rfl ?_
      obtain ⟨n9, h⟩ := h
      exact T_X9_takeRules_91 C hret n9 0 (up M11 45 17 0) h
set_option maxHeartbeats 4000000 in
theorem m_X9_takeRules  : MV l D d K yX9_takeRules cX9_takeRules 4 none 4 [(.ref (K 5))] (fun Q M => F_X9_takeRules Q M) := by
  refine s_mv pn_X9 (Nat.le_of_ble_eq_true rfl) [(0, (.ref (K 5)))] rfl rfl (fun p e R s m args below meth c A L M zc zs Q Qg C hret h => ?_)
  refine x_aload_n C dX9_takeRules_0 rfl 0 rfl ?_
  refine gf_5_3 C k420 dX9_takeRules_1 ?_
  refine x_callVv C FX2_dropNeeds GX2_dropNeeds k460 (m_X2_dropNeeds) h (by decide) (fun _ => rfl) rfl (Nat.le_of_ble_eq_true rfl) (Nat.le_of_ble_eq_true rfl) (rest := []) (Nat.le_of_ble_eq_true rfl) rfl rfl dX9_takeRules_4 (fun M1 h => ?_)
  refine x_iconst C (n := 0) dX9_takeRules_7 ?_
  refine x_istore_n C dX9_takeRules_8 rfl (by decide) [(1, (iv 0)), (0, (.ref (K 5)))] rfl ?_
  refine x_lv (lv' := [(0, (.ref (K 5))), (1, (iv 0))]) [1, 0] rfl ?_
  obtain ⟨n9, h⟩ := h
  exact T_X9_takeRules_9 C hret n9 0 M1 h
set_option maxHeartbeats 4000000 in
theorem T_X9_complete_100 {Q : Int → g_M → Prop} (C : XC p R s m args c D d A cX9_complete 4 RX9 5 zc zs) (hret : RTZ p l e R s m args below meth c Qg D d K A 4 zc zs L cX9_complete Q) {k41 : Int → g_M → Prop} (hk41 : ∀ (x1 : Int) (M : g_M), k41 x1 M → X p l e R s m args below meth c Qg D d K A 4 zc zs L M [(0, (.ref (K 5))), (1, (iv x1))] 41 []) (x1 : Int) (M : g_M) (h : F_X9_complete_100 Q k41 x1 M) : X p l e R s m args below meth c Qg D d K A 4 zc zs L M [(0, (.ref (K 5))), (1, (iv x1))] 100 [] := by
  refine x_iinc C dX9_complete_100 1 rfl (by decide) [(1, (iv (x1 + 1))), (0, (.ref (K 5)))] rfl ?_
  refine x_goto C 41 dX9_complete_103 (by decide) ?_
  refine x_lv (lv' := [(0, (.ref (K 5))), (1, (iv (x1 + 1)))]) [1, 0] rfl ?_
  exact hk41 (x1 + 1) M h
set_option maxHeartbeats 4000000 in
theorem T_X9_complete_41 {Q : Int → g_M → Prop} (C : XC p R s m args c D d A cX9_complete 4 RX9 5 zc zs) (hret : RTZ p l e R s m args below meth c Qg D d K A 4 zc zs L cX9_complete Q) : ∀ (n : Nat) (x1 : Int) (M : g_M), F_X9_complete_41 Q n x1 M → X p l e R s m args below meth c Qg D d K A 4 zc zs L M [(0, (.ref (K 5))), (1, (iv x1))] 41 [] := by
  intro n
  induction n with
  | zero =>
    intro x1 M h
    exact h.elim
  | succ n ih =>
    intro x1 M h
    replace h : F_X2_sequenceCount (fun v6 M6 => ((bm x1 < bm v6 → (F_X2_ranked (fun v8 M8 => F_X2_owner (fun v9 M9 => F_X2_choice (fun v10 M10 => ((bm v8 = bm v10 → (F_X9_complete_100 Q (F_X9_complete_41 Q n) x1 M10)) ∧ (¬ bm v8 = bm v10 → (F_X9_isTooLargeSide (fun v12 M12 => ((bm v12 = 0 → (F_X9_isTooLargeSide (fun v14 M14 => ((bm v14 = 0 → (F_X9_complete_100 Q (F_X9_complete_41 Q n) x1 M14)) ∧ (¬ bm v14 = 0 → (Q 0 M14)))) v10 M12)) ∧ (¬ bm v12 = 0 → (Q 0 M12)))) v8 M10)))) v9 M9) v8 M8) x1 M6)) ∧ (¬ bm x1 < bm v6 → (F_X9_takeRules (fun M16 => Q 1 M16) M6)))) M := h
    refine x_iload_n C dX9_complete_41 rfl 1 rfl ?_
    refine x_aload_n C dX9_complete_42 rfl 0 rfl ?_
    refine gf_5_3 C k420 dX9_complete_43 ?_
    refine x_callVi C FX2_sequenceCount GX2_sequenceCount k432 (m_X2_sequenceCount) h (by decide) (fun _ => rfl) rfl (Nat.le_of_ble_eq_true rfl) (Nat.le_of_ble_eq_true rfl) (rest := [(iv x1)]) (Nat.le_of_ble_eq_true rfl) rfl rfl dX9_complete_46 (fun v6 M6 h => ?_)
    refine x_icmp_ge C 106 dX9_complete_49 (by decide) (fun c7 => ?_) (fun c7 => ?_)
    · replace h := h.1 c7
      refine x_aload_n C dX9_complete_52 rfl 0 rfl ?_
      refine gf_5_3 C k420 dX9_complete_53 ?_
      refine x_iload_n C dX9_complete_56 rfl 1 rfl ?_
      refine x_callVi C FX2_ranked GX2_ranked k436 (m_X2_ranked x1) h (by decide) (fun _ => rfl) rfl (Nat.le_of_ble_eq_true rfl) (Nat.le_of_ble_eq_true rfl) (rest := []) (Nat.le_of_ble_eq_true rfl) rfl rfl dX9_complete_57 (fun v8 M8 h => ?_)
      refine x_istore_n C dX9_complete_60 rfl (by decide) [(2, (iv v8)), (0, (.ref (K 5))), (1, (iv x1))] rfl ?_
      refine x_aload_n C dX9_complete_61 rfl 1 rfl ?_
      refine gf_5_3 C k420 dX9_complete_62 ?_
      refine x_aload_n C dX9_complete_65 rfl 1 rfl ?_
      refine gf_5_3 C k420 dX9_complete_66 ?_
      refine x_iload_n C dX9_complete_69 rfl 0 rfl ?_
      refine x_callVi C FX2_owner GX2_owner k440 (m_X2_owner v8) h (by decide) (fun _ => rfl) rfl (Nat.le_of_ble_eq_true rfl) (Nat.le_of_ble_eq_true rfl) (rest := [(.ref (K 4))]) (Nat.le_of_ble_eq_true rfl) rfl rfl dX9_complete_70 (fun v9 M9 h => ?_)
      refine x_callVi C FX2_choice GX2_choice k444 (m_X2_choice v9) h (by decide) (fun _ => rfl) rfl (Nat.le_of_ble_eq_true rfl) (Nat.le_of_ble_eq_true rfl) (rest := []) (Nat.le_of_ble_eq_true rfl) rfl rfl dX9_complete_73 (fun v10 M10 h => ?_)
      refine x_istore_n C dX9_complete_76 rfl (by decide) [(3, (iv v10)), (2, (iv v8)), (0, (.ref (K 5))), (1, (iv x1))] rfl ?_
      refine x_iload_n C dX9_complete_77 rfl 1 rfl ?_
      refine x_iload_n C dX9_complete_78 rfl 0 rfl ?_
      refine x_icmp_eq C 100 dX9_complete_79 (by decide) (fun c11 => ?_) (fun c11 => ?_)
      · replace h := h.1 c11
        refine x_lv (lv' := [(0, (.ref (K 5))), (1, (iv x1))]) [2, 3] rfl ?_
        exact T_X9_complete_100 C hret ih x1 M10 h
      · replace h := h.2 c11
        refine x_aload_n C dX9_complete_82 rfl 2 rfl ?_
        refine x_iload_n C dX9_complete_83 rfl 1 rfl ?_
        refine x_callVi C FX9_isTooLargeSide GX9_isTooLargeSide k456 (m_X9_isTooLargeSide v8) h (by decide) (fun _ => rfl) rfl (Nat.le_of_ble_eq_true rfl) (Nat.le_of_ble_eq_true rfl) (rest := []) (Nat.le_of_ble_eq_true rfl) rfl rfl dX9_complete_84 (fun v12 M12 h => ?_)
        refine x_if_ne C 98 dX9_complete_87 (by decide) (fun c13 => ?_) (fun c13 => ?_)
        · replace h := h.1 c13
          refine x_aload_n C dX9_complete_90 rfl 2 rfl ?_
          refine x_iload_n C dX9_complete_91 rfl 0 rfl ?_
          refine x_callVi C FX9_isTooLargeSide GX9_isTooLargeSide k456 (m_X9_isTooLargeSide v10) h (by decide) (fun _ => rfl) rfl (Nat.le_of_ble_eq_true rfl) (Nat.le_of_ble_eq_true rfl) (rest := []) (Nat.le_of_ble_eq_true rfl) rfl rfl dX9_complete_92 (fun v14 M14 h => ?_)
          refine x_if_eq C 100 dX9_complete_95 (by decide) (fun c15 => ?_) (fun c15 => ?_)
          · replace h := h.1 c15
            refine x_lv (lv' := [(0, (.ref (K 5))), (1, (iv x1))]) [2, 3] rfl ?_
            exact T_X9_complete_100 C hret ih x1 M14 h
          · replace h := h.2 c15
            refine x_iconst C (n := 0) dX9_complete_98 ?_
            exact hret _ _ _ _ dX9_complete_99 (by unfold isB; decide) h
        · replace h := h.2 c13
          refine x_iconst C (n := 0) dX9_complete_98 ?_
          exact hret _ _ _ _ dX9_complete_99 (by unfold isB; decide) h
    · replace h := h.2 c7
      refine x_aload_n C dX9_complete_106 rfl 0 rfl ?_
      refine x_callVv C FX9_takeRules GX9_takeRules k506 (m_X9_takeRules) h (by decide) (fun _ => rfl) rfl (Nat.le_of_ble_eq_true rfl) (Nat.le_of_ble_eq_true rfl) (rest := []) (Nat.le_of_ble_eq_true rfl) rfl rfl dX9_complete_107 (fun M16 h => ?_)
      refine x_iconst C (n := 1) dX9_complete_110 ?_
      exact hret _ _ _ _ dX9_complete_111 (by unfold isB; decide) h
set_option maxHeartbeats 4000000 in
theorem m_X9_complete  : MI l D d K yX9_complete cX9_complete 4 (some .boolean) 5 [(.ref (K 5))] (fun Q M => F_X9_complete Q M) := by
  refine s_mz pn_X9 (Nat.le_of_ble_eq_true rfl) [(0, (.ref (K 5)))] rfl rfl (fun p e R s m args below meth c A L M zc zs Q Qg C hret h => ?_)
  refine x_aload_n C dX9_complete_0 rfl 0 rfl ?_
  refine x_iconst C (n := (-1)) dX9_complete_1 ?_
  refine x_iconst C (n := (-1)) dX9_complete_2 ?_
  refine x_iconst C (n := (-1)) dX9_complete_3 ?_
  refine x_callVv C FX9_gather GX9_gather k395 (m_X9_gather (-1) (-1) (-1)) h (by decide) (fun _ => rfl) rfl (Nat.le_of_ble_eq_true rfl) (Nat.le_of_ble_eq_true rfl) (rest := []) (Nat.le_of_ble_eq_true rfl) rfl rfl dX9_complete_4 (fun M1 h => ?_)
  refine x_aload_n C dX9_complete_7 rfl 0 rfl ?_
  refine gf_5_4 C k370 dX9_complete_8 ?_
  refine x_callVv C FX1_close GX1_close k416 (m_X1_close) h (by decide) (fun _ => rfl) rfl (Nat.le_of_ble_eq_true rfl) (Nat.le_of_ble_eq_true rfl) (rest := []) (Nat.le_of_ble_eq_true rfl) rfl rfl dX9_complete_11 (fun M2 h => ?_)
  refine x_aload_n C dX9_complete_14 rfl 0 rfl ?_
  refine gf_5_4 C k370 dX9_complete_15 ?_
  refine x_aload_n C dX9_complete_18 rfl 0 rfl ?_
  refine gf_5_3 C k420 dX9_complete_19 ?_
  refine x_callVv C FX1_pourInto GX1_pourInto k425 (m_X1_pourInto) h (by decide) (fun _ => rfl) rfl (Nat.le_of_ble_eq_true rfl) (Nat.le_of_ble_eq_true rfl) (rest := []) (Nat.le_of_ble_eq_true rfl) rfl rfl dX9_complete_22 (fun M3 h => ?_)
  refine x_aload_n C dX9_complete_25 rfl 0 rfl ?_
  refine gf_5_3 C k420 dX9_complete_26 ?_
  refine x_aload_n C dX9_complete_29 rfl 0 rfl ?_
  refine gf_5_0 C k429 dX9_complete_30 ?_
  refine x_callVi C FX7_orderMode GX7_orderMode k430 (m_X7_orderMode) h (by decide) (fun _ => rfl) rfl (Nat.le_of_ble_eq_true rfl) (Nat.le_of_ble_eq_true rfl) (rest := [(.ref (K 4))]) (Nat.le_of_ble_eq_true rfl) rfl rfl dX9_complete_33 (fun v4 M4 h => ?_)
  refine x_callVv C FX2_rank GX2_rank k431 (m_X2_rank v4) h (by decide) (fun _ => rfl) rfl (Nat.le_of_ble_eq_true rfl) (Nat.le_of_ble_eq_true rfl) (rest := []) (Nat.le_of_ble_eq_true rfl) rfl rfl dX9_complete_36 (fun M5 h => ?_)
  refine x_iconst C (n := 0) dX9_complete_39 ?_
  refine x_istore_n C dX9_complete_40 rfl (by decide) [(1, (iv 0)), (0, (.ref (K 5)))] rfl ?_
  refine x_lv (lv' := [(0, (.ref (K 5))), (1, (iv 0))]) [1, 0] rfl ?_
  obtain ⟨n9, h⟩ := h
  exact T_X9_complete_41 C hret n9 0 M5 h
set_option maxHeartbeats 4000000 in
theorem m_X9_goBack (a1 : Int) (a2 : Int) : MV l D d K yX9_goBack cX9_goBack 3 none 0 [(.ref (K 5)), (iv a1), (iv a2)] (fun Q M => F_X9_goBack Q a1 a2 M) := by
  refine s_mv pn_X9 (Nat.le_of_ble_eq_true rfl) [(0, (.ref (K 5))), (1, (iv a1)), (2, (iv a2))] rfl rfl (fun p e R s m args below meth c A L M zc zs Q Qg C hret h => ?_)
  refine x_aload_n C dX9_goBack_0 rfl 0 rfl ?_
  refine x_iload_n C dX9_goBack_1 rfl 1 rfl ?_
  refine pf_5_7 C k359 dX9_goBack_2 ?_
  refine x_aload_n C dX9_goBack_5 rfl 0 rfl ?_
  refine x_iload_n C dX9_goBack_6 rfl 2 rfl ?_
  refine pf_5_10 C k515 dX9_goBack_7 ?_
  exact hret _ _ _ dX9_goBack_10 h
set_option maxHeartbeats 4000000 in
theorem m_X11_equate (hlf : l.stackTraces = false) (a1 : Int) (a2 : Int) : MX l D d K yX11_equate cX11_equate 3 (some .int) 6 [(.ref (K 0)), (iv a1), (iv a2)] g_ARE (fun Q QE M => F_X11_equate Q QE a1 a2 M) := by
  refine s_mxW pn_X11 (Nat.le_of_ble_eq_true rfl) [(0, (.ref (K 0))), (1, (iv a1)), (2, (iv a2))] rfl rfl rfl hlf xf_g_ARE (fun p e R s m args below meth c A L M zc zs Q QE Qg C hret hthr h => ?_)
  refine x_aload_n C dX11_equate_0 rfl 0 rfl ?_
  refine x_iload_n C dX11_equate_1 rfl 1 rfl ?_
  refine x_callVi C FX11_isTerm GX11_isTerm k114 (m_X11_isTerm a1) h (by decide) (fun _ => rfl) rfl (Nat.le_of_ble_eq_true rfl) (Nat.le_of_ble_eq_true rfl) (rest := []) (Nat.le_of_ble_eq_true rfl) rfl rfl dX11_equate_2 (fun v1 M1 h => ?_)
  refine x_if_eq C 16 dX11_equate_5 (by decide) (fun c2 => ?_) (fun c2 => ?_)
  · replace h := h.1 c2
    exact h.elim
  · replace h := h.2 c2
    refine x_aload_n C dX11_equate_8 rfl 0 rfl ?_
    refine x_iload_n C dX11_equate_9 rfl 2 rfl ?_
    refine x_callVi C FX11_isTerm GX11_isTerm k114 (m_X11_isTerm a2) h (by decide) (fun _ => rfl) rfl (Nat.le_of_ble_eq_true rfl) (Nat.le_of_ble_eq_true rfl) (rest := []) (Nat.le_of_ble_eq_true rfl) rfl rfl dX11_equate_10 (fun v3 M3 h => ?_)
    refine x_if_ne C 26 dX11_equate_13 (by decide) (fun c4 => ?_) (fun c4 => ?_)
    · replace h := h.1 c4
      exact h.elim
    · replace h := h.2 c4
      refine x_aload_n C dX11_equate_26 rfl 0 rfl ?_
      refine gf_0_1 C k119 dX11_equate_27 ?_
      refine x_aload_n C dX11_equate_30 rfl 0 rfl ?_
      refine gf_0_9 C k131 dX11_equate_31 ?_
      refine x_iload_n C dX11_equate_34 rfl 1 rfl ?_
      refine x_rget C 33 (by decide) k132 (Nat.le_of_ble_eq_true rfl) (Nat.le_of_ble_eq_true rfl) dX11_equate_35 ?_
      refine x_callVi C FX8_isGround GX8_isGround k353 (m_X8_isGround (rg M3 33 a1)) h (by decide) (fun _ => rfl) rfl (Nat.le_of_ble_eq_true rfl) (Nat.le_of_ble_eq_true rfl) (rest := []) (Nat.le_of_ble_eq_true rfl) rfl rfl dX11_equate_38 (fun v5 M5 h => ?_)
      refine x_if_eq C 62 dX11_equate_41 (by decide) (fun c6 => ?_) (fun c6 => ?_)
      · replace h := h.1 c6
        exact h.elim
      · replace h := h.2 c6
        refine x_aload_n C dX11_equate_44 rfl 0 rfl ?_
        refine gf_0_1 C k119 dX11_equate_45 ?_
        refine x_aload_n C dX11_equate_48 rfl 0 rfl ?_
        refine gf_0_9 C k131 dX11_equate_49 ?_
        refine x_iload_n C dX11_equate_52 rfl 2 rfl ?_
        refine x_rget C 33 (by decide) k132 (Nat.le_of_ble_eq_true rfl) (Nat.le_of_ble_eq_true rfl) dX11_equate_53 ?_
        refine x_callVi C FX8_isGround GX8_isGround k353 (m_X8_isGround (rg M5 33 a2)) h (by decide) (fun _ => rfl) rfl (Nat.le_of_ble_eq_true rfl) (Nat.le_of_ble_eq_true rfl) (rest := []) (Nat.le_of_ble_eq_true rfl) rfl rfl dX11_equate_56 (fun v7 M7 h => ?_)
        refine x_if_ne C 73 dX11_equate_59 (by decide) (fun c8 => ?_) (fun c8 => ?_)
        · replace h := h.1 c8
          exact h.elim
        · replace h := h.2 c8
          refine x_aload_n C dX11_equate_73 rfl 0 rfl ?_
          refine gf_0_4 C k357 dX11_equate_74 ?_
          refine gf_5_7 C k358 dX11_equate_77 ?_
          refine x_bipush C (n := 30) (by decide) (by decide) dX11_equate_80 ?_
          refine x_icmp_lt C 96 dX11_equate_82 (by decide) (fun c9 => ?_) (fun c9 => ?_)
          · replace h := h.1 c9
            refine x_aload_n C dX11_equate_96 rfl 0 rfl ?_
            refine x_callVv C FX11_tidy GX11_tidy k127 (m_X11_tidy) h (by decide) (fun _ => rfl) rfl (Nat.le_of_ble_eq_true rfl) (Nat.le_of_ble_eq_true rfl) (rest := []) (Nat.le_of_ble_eq_true rfl) rfl rfl dX11_equate_97 (fun M10 h => ?_)
            refine x_aload_n C dX11_equate_100 rfl 0 rfl ?_
            refine gf_0_4 C k357 dX11_equate_101 ?_
            refine x_aload_n C dX11_equate_104 rfl 0 rfl ?_
            refine gf_0_9 C k131 dX11_equate_105 ?_
            refine x_iload_n C dX11_equate_108 rfl 1 rfl ?_
            refine x_rget C 33 (by decide) k132 (Nat.le_of_ble_eq_true rfl) (Nat.le_of_ble_eq_true rfl) dX11_equate_109 ?_
            refine x_aload_n C dX11_equate_112 rfl 0 rfl ?_
            refine gf_0_9 C k131 dX11_equate_113 ?_
            refine x_iload_n C dX11_equate_116 rfl 2 rfl ?_
            refine x_rget C 33 (by decide) k132 (Nat.le_of_ble_eq_true rfl) (Nat.le_of_ble_eq_true rfl) dX11_equate_117 ?_
            refine x_callVv C FX9_addEquation GX9_addEquation k362 (m_X9_addEquation (rg M10 33 a1) (rg M10 33 a2)) h (by decide) (fun _ => rfl) rfl (Nat.le_of_ble_eq_true rfl) (Nat.le_of_ble_eq_true rfl) (rest := []) (Nat.le_of_ble_eq_true rfl) rfl rfl dX11_equate_120 (fun M11 h => ?_)
            refine x_aload_n C dX11_equate_123 rfl 0 rfl ?_
            refine gf_0_4 C k357 dX11_equate_124 ?_
            refine x_callVi C FX9_complete GX9_complete k510 (m_X9_complete) h (by decide) (fun _ => rfl) rfl (Nat.le_of_ble_eq_true rfl) (Nat.le_of_ble_eq_true rfl) (rest := []) (Nat.le_of_ble_eq_true rfl) rfl rfl dX11_equate_127 (fun v12 M12 h => ?_)
            refine x_if_ne C 167 dX11_equate_130 (by decide) (fun c13 => ?_) (fun c13 => ?_)
            · replace h := h.1 c13
              refine x_aload_n C dX11_equate_133 rfl 0 rfl ?_
              refine gf_0_4 C k357 dX11_equate_134 ?_
              refine x_aload_n C dX11_equate_137 rfl 0 rfl ?_
              refine gf_0_4 C k357 dX11_equate_138 ?_
              refine gf_5_7 C k358 dX11_equate_141 ?_
              refine x_iconst C (n := 1) dX11_equate_144 ?_
              refine x_isub C dX11_equate_145 ?_
              refine x_aload_n C dX11_equate_146 rfl 0 rfl ?_
              refine gf_0_4 C k357 dX11_equate_147 ?_
              refine gf_5_10 C k514 dX11_equate_150 ?_
              refine x_callVv C FX9_goBack GX9_goBack k516 (m_X9_goBack ((M12 45 7) - 1) (M12 45 10)) h (by decide) (fun _ => rfl) rfl (Nat.le_of_ble_eq_true rfl) (Nat.le_of_ble_eq_true rfl) (rest := []) (Nat.le_of_ble_eq_true rfl) rfl rfl dX11_equate_153 (fun M14 h => ?_)
              exact hthr M14 h.1 h.2 k520 k521 (List.mem_of_getElem? (i := 12) rfl) dX11_equate_156 dX11_equate_159 dX11_equate_160 dX11_equate_163 dX11_equate_166
            · replace h := h.2 c13
              refine x_aload_n C dX11_equate_167 rfl 0 rfl ?_
              refine gf_0_4 C k357 dX11_equate_168 ?_
              refine gf_5_7 C k358 dX11_equate_171 ?_
              refine x_iconst C (n := 1) dX11_equate_174 ?_
              refine x_isub C dX11_equate_175 ?_
              exact hret _ _ _ _ dX11_equate_176 h
          · replace h := h.2 c9
            exact h.elim
set_option maxHeartbeats 4000000 in
theorem m_X11_equationCount  : MI l D d K yX11_equationCount cX11_equationCount 1 (some .int) 0 [(.ref (K 0))] (fun Q M => F_X11_equationCount Q M) := by
  refine s_mi pn_X11 (Nat.le_of_ble_eq_true rfl) [(0, (.ref (K 0)))] rfl rfl (fun p e R s m args below meth c A L M zc zs Q Qg C hret h => ?_)
  refine x_aload_n C dX11_equationCount_0 rfl 0 rfl ?_
  refine gf_0_4 C k357 dX11_equationCount_1 ?_
  refine gf_5_7 C k358 dX11_equationCount_4 ?_
  exact hret _ _ _ _ dX11_equationCount_7 h
set_option maxHeartbeats 4000000 in
theorem m_X9_openLevel  : MV l D d K yX9_openLevel cX9_openLevel 1 none 0 [(.ref (K 5))] (fun Q M => F_X9_openLevel Q M) := by
  refine s_mv pn_X9 (Nat.le_of_ble_eq_true rfl) [(0, (.ref (K 5)))] rfl rfl (fun p e R s m args below meth c A L M zc zs Q Qg C hret h => ?_)
  refine x_aload_n C dX9_openLevel_0 rfl 0 rfl ?_
  refine gf_5_13 C k523 dX9_openLevel_1 ?_
  refine x_if_lt C 52 dX9_openLevel_4 (by decide) (fun c1 => ?_) (fun c1 => ?_)
  · replace h := h.1 c1
    exact hret _ _ _ dX9_openLevel_52 h
  · replace h := h.2 c1
    refine x_aload_n C dX9_openLevel_7 rfl 0 rfl ?_
    refine gf_5_13 C k523 dX9_openLevel_8 ?_
    refine x_bipush C (n := 8) (by decide) (by decide) dX9_openLevel_11 ?_
    refine x_icmp_ge C 52 dX9_openLevel_13 (by decide) (fun c2 => ?_) (fun c2 => ?_)
    · replace h := h.1 c2
      refine x_aload_n C dX9_openLevel_16 rfl 0 rfl ?_
      refine gf_5_11 C k524 dX9_openLevel_17 ?_
      refine x_aload_n C dX9_openLevel_20 rfl 0 rfl ?_
      refine gf_5_13 C k523 dX9_openLevel_21 ?_
      refine x_aload_n C dX9_openLevel_24 rfl 0 rfl ?_
      refine gf_5_7 C k359 dX9_openLevel_25 ?_
      refine x_iast C 17 8 (by decide) (fun _ _ => rfl) h.1 dX9_openLevel_28 ?_
      replace h := h.2
      refine x_aload_n C dX9_openLevel_29 rfl 0 rfl ?_
      refine gf_5_12 C k525 dX9_openLevel_30 ?_
      refine x_aload_n C dX9_openLevel_33 rfl 0 rfl ?_
      refine gf_5_13 C k523 dX9_openLevel_34 ?_
      refine x_aload_n C dX9_openLevel_37 rfl 0 rfl ?_
      refine gf_5_10 C k515 dX9_openLevel_38 ?_
      refine x_iast C 18 8 (by decide) (fun _ _ => rfl) h.1 dX9_openLevel_41 ?_
      replace h := h.2
      refine x_aload_n C dX9_openLevel_42 rfl 0 rfl ?_
      refine x_dup C dX9_openLevel_43 rfl ?_
      refine gf_5_13 C k523 dX9_openLevel_44 ?_
      refine x_iconst C (n := 1) dX9_openLevel_47 ?_
      refine x_iadd C dX9_openLevel_48 ?_
      refine pf_5_13 C k523 dX9_openLevel_49 ?_
      exact hret _ _ _ dX9_openLevel_52 h
    · replace h := h.2 c2
      exact hret _ _ _ dX9_openLevel_52 h
set_option maxHeartbeats 4000000 in
theorem m_X11_push  : MI l D d K yX11_push cX11_push 1 (some .int) 1 [(.ref (K 0))] (fun Q M => F_X11_push Q M) := by
  refine s_mi pn_X11 (Nat.le_of_ble_eq_true rfl) [(0, (.ref (K 0)))] rfl rfl (fun p e R s m args below meth c A L M zc zs Q Qg C hret h => ?_)
  refine x_aload_n C dX11_push_0 rfl 0 rfl ?_
  refine gf_0_4 C k357 dX11_push_1 ?_
  refine gf_5_13 C k522 dX11_push_4 ?_
  refine x_bipush C (n := 8) (by decide) (by decide) dX11_push_7 ?_
  refine x_icmp_lt C 23 dX11_push_9 (by decide) (fun c1 => ?_) (fun c1 => ?_)
  · replace h := h.1 c1
    refine x_aload_n C dX11_push_23 rfl 0 rfl ?_
    refine gf_0_4 C k357 dX11_push_24 ?_
    refine x_callVv C FX9_openLevel GX9_openLevel k526 (m_X9_openLevel) h (by decide) (fun _ => rfl) rfl (Nat.le_of_ble_eq_true rfl) (Nat.le_of_ble_eq_true rfl) (rest := []) (Nat.le_of_ble_eq_true rfl) rfl rfl dX11_push_27 (fun M2 h => ?_)
    refine x_aload_n C dX11_push_30 rfl 0 rfl ?_
    refine gf_0_4 C k357 dX11_push_31 ?_
    refine gf_5_13 C k522 dX11_push_34 ?_
    exact hret _ _ _ _ dX11_push_37 h
  · replace h := h.2 c1
    exact h.elim
set_option maxHeartbeats 4000000 in
theorem m_X9_closeLevel  : MV l D d K yX9_closeLevel cX9_closeLevel 1 none 1 [(.ref (K 5))] (fun Q M => F_X9_closeLevel Q M) := by
  refine s_mv pn_X9 (Nat.le_of_ble_eq_true rfl) [(0, (.ref (K 5)))] rfl rfl (fun p e R s m args below meth c A L M zc zs Q Qg C hret h => ?_)
  refine x_aload_n C dX9_closeLevel_0 rfl 0 rfl ?_
  refine gf_5_13 C k523 dX9_closeLevel_1 ?_
  refine x_if_le C 48 dX9_closeLevel_4 (by decide) (fun c1 => ?_) (fun c1 => ?_)
  · replace h := h.1 c1
    refine x_aload_n C dX9_closeLevel_7 rfl 0 rfl ?_
    refine gf_5_13 C k523 dX9_closeLevel_8 ?_
    refine x_bipush C (n := 8) (by decide) (by decide) dX9_closeLevel_11 ?_
    refine x_icmp_gt C 48 dX9_closeLevel_13 (by decide) (fun c2 => ?_) (fun c2 => ?_)
    · replace h := h.1 c2
      exact hret _ _ _ dX9_closeLevel_48 h
    · replace h := h.2 c2
      refine x_aload_n C dX9_closeLevel_16 rfl 0 rfl ?_
      refine x_dup C dX9_closeLevel_17 rfl ?_
      refine gf_5_13 C k523 dX9_closeLevel_18 ?_
      refine x_iconst C (n := 1) dX9_closeLevel_21 ?_
      refine x_isub C dX9_closeLevel_22 ?_
      refine pf_5_13 C k523 dX9_closeLevel_23 ?_
      refine x_aload_n C dX9_closeLevel_26 rfl 0 rfl ?_
      refine x_aload_n C dX9_closeLevel_27 rfl 0 rfl ?_
      refine gf_5_11 C k524 dX9_closeLevel_28 ?_
      refine x_aload_n C dX9_closeLevel_31 rfl 0 rfl ?_
      refine gf_5_13 C k523 dX9_closeLevel_32 ?_
      refine x_iald C 17 8 (by decide) (fun _ => rfl) h.1 dX9_closeLevel_35 ?_
      replace h := h.2
      refine x_aload_n C dX9_closeLevel_36 rfl 0 rfl ?_
      refine gf_5_12 C k525 dX9_closeLevel_37 ?_
      refine x_aload_n C dX9_closeLevel_40 rfl 0 rfl ?_
      refine gf_5_13 C k523 dX9_closeLevel_41 ?_
      refine x_iald C 18 8 (by decide) (fun _ => rfl) h.1 dX9_closeLevel_44 ?_
      replace h := h.2
      refine x_callVv C FX9_goBack GX9_goBack k530 (m_X9_goBack ((up M 45 13 ((M 45 13) - 1)) 57 (bm ((up M 45 13 ((M 45 13) - 1)) 45 13)).toNat) ((up M 45 13 ((M 45 13) - 1)) 58 (bm ((up M 45 13 ((M 45 13) - 1)) 45 13)).toNat)) h (by decide) (fun _ => rfl) rfl (Nat.le_of_ble_eq_true rfl) (Nat.le_of_ble_eq_true rfl) (rest := []) (Nat.le_of_ble_eq_true rfl) rfl rfl dX9_closeLevel_45 (fun M3 h => ?_)
      exact hret _ _ _ dX9_closeLevel_48 h
  · replace h := h.2 c1
    exact hret _ _ _ dX9_closeLevel_48 h
set_option maxHeartbeats 4000000 in
theorem m_X11_pop (hlf : l.stackTraces = false)  : MX l D d K yX11_pop cX11_pop 1 (some .int) 6 [(.ref (K 0))] g_ISE (fun Q QE M => F_X11_pop Q QE M) := by
  refine s_mxW pn_X11 (Nat.le_of_ble_eq_true rfl) [(0, (.ref (K 0)))] rfl rfl rfl hlf xf_g_ISE (fun p e R s m args below meth c A L M zc zs Q QE Qg C hret hthr h => ?_)
  refine x_aload_n C dX11_pop_0 rfl 0 rfl ?_
  refine gf_0_4 C k357 dX11_pop_1 ?_
  refine gf_5_13 C k522 dX11_pop_4 ?_
  refine x_if_gt C 21 dX11_pop_7 (by decide) (fun c1 => ?_) (fun c1 => ?_)
  · replace h := h.1 c1
    refine x_aload_n C dX11_pop_21 rfl 0 rfl ?_
    refine x_callVv C FX11_tidy GX11_tidy k127 (m_X11_tidy) h (by decide) (fun _ => rfl) rfl (Nat.le_of_ble_eq_true rfl) (Nat.le_of_ble_eq_true rfl) (rest := []) (Nat.le_of_ble_eq_true rfl) rfl rfl dX11_pop_22 (fun M2 h => ?_)
    refine x_aload_n C dX11_pop_25 rfl 0 rfl ?_
    refine gf_0_4 C k357 dX11_pop_26 ?_
    refine x_callVv C FX9_closeLevel GX9_closeLevel k531 (m_X9_closeLevel) h (by decide) (fun _ => rfl) rfl (Nat.le_of_ble_eq_true rfl) (Nat.le_of_ble_eq_true rfl) (rest := []) (Nat.le_of_ble_eq_true rfl) rfl rfl dX11_pop_29 (fun M3 h => ?_)
    refine x_aload_n C dX11_pop_32 rfl 0 rfl ?_
    refine gf_0_4 C k357 dX11_pop_33 ?_
    refine x_callVi C FX9_complete GX9_complete k510 (m_X9_complete) h (by decide) (fun _ => rfl) rfl (Nat.le_of_ble_eq_true rfl) (Nat.le_of_ble_eq_true rfl) (rest := []) (Nat.le_of_ble_eq_true rfl) rfl rfl dX11_pop_36 (fun v4 M4 h => ?_)
    refine x_pop C dX11_pop_39 rfl ?_
    refine x_aload_n C dX11_pop_40 rfl 0 rfl ?_
    refine gf_0_4 C k357 dX11_pop_41 ?_
    refine gf_5_13 C k522 dX11_pop_44 ?_
    exact hret _ _ _ _ dX11_pop_47 h
  · replace h := h.2 c1
    exact hthr M h.1 h.2 k535 k536 (List.mem_of_getElem? (i := 14) rfl) dX11_pop_10 dX11_pop_13 dX11_pop_14 dX11_pop_17 dX11_pop_20
set_option maxHeartbeats 4000000 in
theorem T_X10_rebuild_87 {Q : Int → g_M → Prop} (C : XC p R s m args c D d A cX10_rebuild 7 RX10 3 zc zs) (hret : RTI p l e R s m args below meth c Qg D d K A 7 zc zs L cX10_rebuild Q) (x2 : Int) (x4 : Int) (x5 : Int) (t0 : Int) (M : g_M) (h : F_X10_rebuild_87 Q x2 x4 x5 t0 M) : X p l e R s m args below meth c Qg D d K A 7 zc zs L M [(0, (.ref (K 3))), (2, (iv x2)), (4, (iv x4)), (5, (iv x5))] 87 [(iv t0)] := by
  refine x_istore C dX10_rebuild_87 (by decide) [(6, (iv t0)), (0, (.ref (K 3))), (2, (iv x2)), (4, (iv x4)), (5, (iv x5))] rfl ?_
  refine x_aload_n C dX10_rebuild_89 rfl 1 rfl ?_
  refine gf_3_0 C k228 dX10_rebuild_90 ?_
  refine x_aload_n C dX10_rebuild_93 rfl 1 rfl ?_
  refine gf_3_0 C k228 dX10_rebuild_94 ?_
  refine x_iload_n C dX10_rebuild_97 rfl 2 rfl ?_
  refine x_callVi C FX8_symbol GX8_symbol k540 (m_X8_symbol x2) h (by decide) (fun _ => rfl) rfl (Nat.le_of_ble_eq_true rfl) (Nat.le_of_ble_eq_true rfl) (rest := [(.ref (K 2))]) (Nat.le_of_ble_eq_true rfl) rfl rfl dX10_rebuild_98 (fun v8 M8 h => ?_)
  refine x_iload C dX10_rebuild_101 3 rfl ?_
  refine x_iload C dX10_rebuild_103 4 rfl ?_
  refine x_iload C dX10_rebuild_105 0 rfl ?_
  refine x_callVi C FX8_make GX8_make k541 (m_X8_make v8 x4 x5 t0) h (by decide) (fun _ => rfl) rfl (Nat.le_of_ble_eq_true rfl) (Nat.le_of_ble_eq_true rfl) (rest := []) (Nat.le_of_ble_eq_true rfl) rfl rfl dX10_rebuild_107 (fun v9 M9 h => ?_)
  exact hret _ _ _ _ dX10_rebuild_110 h
set_option maxHeartbeats 4000000 in
theorem T_X10_rebuild_63 {Q : Int → g_M → Prop} (C : XC p R s m args c D d A cX10_rebuild 7 RX10 3 zc zs) (hret : RTI p l e R s m args below meth c Qg D d K A 7 zc zs L cX10_rebuild Q) (x1 : Int) (x2 : Int) (x3 : Int) (x4 : Int) (t0 : Int) (M : g_M) (h : F_X10_rebuild_63 Q x1 x2 x3 x4 t0 M) : X p l e R s m args below meth c Qg D d K A 7 zc zs L M [(0, (.ref (K 3))), (1, (iv x1)), (2, (iv x2)), (3, (iv x3)), (4, (iv x4))] 63 [(iv t0)] := by
  refine x_istore C dX10_rebuild_63 (by decide) [(5, (iv t0)), (0, (.ref (K 3))), (1, (iv x1)), (2, (iv x2)), (3, (iv x3)), (4, (iv x4))] rfl ?_
  refine x_iload_n C dX10_rebuild_65 rfl 4 rfl ?_
  refine x_iconst C (n := 2) dX10_rebuild_66 ?_
  refine x_icmp_le C 86 dX10_rebuild_67 (by decide) (fun c6 => ?_) (fun c6 => ?_)
  · replace h := h.1 c6
    refine x_aload_n C dX10_rebuild_70 rfl 1 rfl ?_
    refine gf_3_3 C k538 dX10_rebuild_71 ?_
    refine x_aload_n C dX10_rebuild_74 rfl 1 rfl ?_
    refine x_iload_n C dX10_rebuild_75 rfl 2 rfl ?_
    refine x_iconst C (n := 2) dX10_rebuild_76 ?_
    refine x_callVi C FX10_partOf GX10_partOf k539 (m_X10_partOf x1 2) h (by decide) (fun _ => rfl) rfl (Nat.le_of_ble_eq_true rfl) (Nat.le_of_ble_eq_true rfl) (rest := [(.ref (K 39))]) (Nat.le_of_ble_eq_true rfl) rfl rfl dX10_rebuild_77 (fun v7 M7 h => ?_)
    refine x_rget C 8 (by decide) k220 (Nat.le_of_ble_eq_true rfl) (Nat.le_of_ble_eq_true rfl) dX10_rebuild_80 ?_
    refine x_goto C 87 dX10_rebuild_83 (by decide) ?_
    refine x_lv (lv' := [(0, (.ref (K 3))), (2, (iv x2)), (4, (iv x4)), (5, (iv t0))]) [1, 3, 5, 0] rfl ?_
    exact T_X10_rebuild_87 C hret x2 x4 t0 (rg M7 8 v7) M7 h
  · replace h := h.2 c6
    refine x_iconst C (n := (-1)) dX10_rebuild_86 ?_
    refine x_lv (lv' := [(0, (.ref (K 3))), (2, (iv x2)), (4, (iv x4)), (5, (iv t0))]) [1, 3, 5, 0] rfl ?_
    exact T_X10_rebuild_87 C hret x2 x4 t0 (-1) M h
set_option maxHeartbeats 4000000 in
theorem T_X10_rebuild_39 {Q : Int → g_M → Prop} (C : XC p R s m args c D d A cX10_rebuild 7 RX10 3 zc zs) (hret : RTI p l e R s m args below meth c Qg D d K A 7 zc zs L cX10_rebuild Q) (x1 : Int) (x2 : Int) (x3 : Int) (t0 : Int) (M : g_M) (h : F_X10_rebuild_39 Q x1 x2 x3 t0 M) : X p l e R s m args below meth c Qg D d K A 7 zc zs L M [(0, (.ref (K 3))), (1, (iv x1)), (2, (iv x2)), (3, (iv x3))] 39 [(iv t0)] := by
  refine x_istore C dX10_rebuild_39 (by decide) [(4, (iv t0)), (0, (.ref (K 3))), (1, (iv x1)), (2, (iv x2)), (3, (iv x3))] rfl ?_
  refine x_iload_n C dX10_rebuild_41 rfl 4 rfl ?_
  refine x_iconst C (n := 1) dX10_rebuild_42 ?_
  refine x_icmp_le C 62 dX10_rebuild_43 (by decide) (fun c4 => ?_) (fun c4 => ?_)
  · replace h := h.1 c4
    refine x_aload_n C dX10_rebuild_46 rfl 1 rfl ?_
    refine gf_3_3 C k538 dX10_rebuild_47 ?_
    refine x_aload_n C dX10_rebuild_50 rfl 1 rfl ?_
    refine x_iload_n C dX10_rebuild_51 rfl 2 rfl ?_
    refine x_iconst C (n := 1) dX10_rebuild_52 ?_
    refine x_callVi C FX10_partOf GX10_partOf k539 (m_X10_partOf x1 1) h (by decide) (fun _ => rfl) rfl (Nat.le_of_ble_eq_true rfl) (Nat.le_of_ble_eq_true rfl) (rest := [(.ref (K 39))]) (Nat.le_of_ble_eq_true rfl) rfl rfl dX10_rebuild_53 (fun v5 M5 h => ?_)
    refine x_rget C 8 (by decide) k220 (Nat.le_of_ble_eq_true rfl) (Nat.le_of_ble_eq_true rfl) dX10_rebuild_56 ?_
    refine x_goto C 63 dX10_rebuild_59 (by decide) ?_
    refine x_lv (lv' := [(0, (.ref (K 3))), (1, (iv x1)), (2, (iv x2)), (3, (iv x3)), (4, (iv t0))]) [1, 2, 3, 4, 0] rfl ?_
    exact T_X10_rebuild_63 C hret x1 x2 x3 t0 (rg M5 8 v5) M5 h
  · replace h := h.2 c4
    refine x_iconst C (n := (-1)) dX10_rebuild_62 ?_
    refine x_lv (lv' := [(0, (.ref (K 3))), (1, (iv x1)), (2, (iv x2)), (3, (iv x3)), (4, (iv t0))]) [1, 2, 3, 4, 0] rfl ?_
    exact T_X10_rebuild_63 C hret x1 x2 x3 t0 (-1) M h
set_option maxHeartbeats 4000000 in
theorem m_X10_rebuild (a1 : Int) : MI l D d K yX10_rebuild cX10_rebuild 7 (some .int) 3 [(.ref (K 3)), (iv a1)] (fun Q M => F_X10_rebuild Q a1 M) := by
  refine s_mi pn_X10 (Nat.le_of_ble_eq_true rfl) [(0, (.ref (K 3))), (1, (iv a1))] rfl rfl (fun p e R s m args below meth c A L M zc zs Q Qg C hret h => ?_)
  refine x_aload_n C dX10_rebuild_0 rfl 0 rfl ?_
  refine gf_3_2 C k221 dX10_rebuild_1 ?_
  refine x_iload_n C dX10_rebuild_4 rfl 1 rfl ?_
  refine x_rget C 7 (by decide) k220 (Nat.le_of_ble_eq_true rfl) (Nat.le_of_ble_eq_true rfl) dX10_rebuild_5 ?_
  refine x_istore_n C dX10_rebuild_8 rfl (by decide) [(2, (iv (rg M 7 a1))), (0, (.ref (K 3))), (1, (iv a1))] rfl ?_
  refine x_aload_n C dX10_rebuild_9 rfl 1 rfl ?_
  refine gf_3_0 C k228 dX10_rebuild_10 ?_
  refine x_iload_n C dX10_rebuild_13 rfl 0 rfl ?_
  refine x_callVi C FX8_arity GX8_arity k230 (m_X8_arity (rg M 7 a1)) h (by decide) (fun _ => rfl) rfl (Nat.le_of_ble_eq_true rfl) (Nat.le_of_ble_eq_true rfl) (rest := []) (Nat.le_of_ble_eq_true rfl) rfl rfl dX10_rebuild_14 (fun v1 M1 h => ?_)
  refine x_istore_n C dX10_rebuild_17 rfl (by decide) [(3, (iv v1)), (2, (iv (rg M 7 a1))), (0, (.ref (K 3))), (1, (iv a1))] rfl ?_
  refine x_iload_n C dX10_rebuild_18 rfl 0 rfl ?_
  refine x_if_le C 38 dX10_rebuild_19 (by decide) (fun c2 => ?_) (fun c2 => ?_)
  · replace h := h.1 c2
    refine x_aload_n C dX10_rebuild_22 rfl 2 rfl ?_
    refine gf_3_3 C k538 dX10_rebuild_23 ?_
    refine x_aload_n C dX10_rebuild_26 rfl 2 rfl ?_
    refine x_iload_n C dX10_rebuild_27 rfl 3 rfl ?_
    refine x_iconst C (n := 0) dX10_rebuild_28 ?_
    refine x_callVi C FX10_partOf GX10_partOf k539 (m_X10_partOf a1 0) h (by decide) (fun _ => rfl) rfl (Nat.le_of_ble_eq_true rfl) (Nat.le_of_ble_eq_true rfl) (rest := [(.ref (K 39))]) (Nat.le_of_ble_eq_true rfl) rfl rfl dX10_rebuild_29 (fun v3 M3 h => ?_)
    refine x_rget C 8 (by decide) k220 (Nat.le_of_ble_eq_true rfl) (Nat.le_of_ble_eq_true rfl) dX10_rebuild_32 ?_
    refine x_goto C 39 dX10_rebuild_35 (by decide) ?_
    refine x_lv (lv' := [(0, (.ref (K 3))), (1, (iv a1)), (2, (iv (rg M 7 a1))), (3, (iv v1))]) [2, 3, 1, 0] rfl ?_
    exact T_X10_rebuild_39 C hret a1 (rg M 7 a1) v1 (rg M3 8 v3) M3 h
  · replace h := h.2 c2
    refine x_iconst C (n := (-1)) dX10_rebuild_38 ?_
    refine x_lv (lv' := [(0, (.ref (K 3))), (1, (iv a1)), (2, (iv (rg M 7 a1))), (3, (iv v1))]) [2, 3, 1, 0] rfl ?_
    exact T_X10_rebuild_39 C hret a1 (rg M 7 a1) v1 (-1) M1 h
set_option maxHeartbeats 4000000 in
theorem m_X9_ruleFor (a1 : Int) : MI l D d K yX9_ruleFor cX9_ruleFor 3 (some .int) 1 [(.ref (K 5)), (iv a1)] (fun Q M => F_X9_ruleFor Q a1 M) := by
  refine s_mi pn_X9 (Nat.le_of_ble_eq_true rfl) [(0, (.ref (K 5))), (1, (iv a1))] rfl rfl (fun p e R s m args below meth c A L M zc zs Q Qg C hret h => ?_)
  refine x_aload_n C dX9_ruleFor_0 rfl 0 rfl ?_
  refine gf_5_16 C k496 dX9_ruleFor_1 ?_
  refine x_iload_n C dX9_ruleFor_4 rfl 1 rfl ?_
  refine x_rget C 32 (by decide) k546 (Nat.le_of_ble_eq_true rfl) (Nat.le_of_ble_eq_true rfl) dX9_ruleFor_5 ?_
  refine x_istore_n C dX9_ruleFor_8 rfl (by decide) [(2, (iv (rg M 32 a1))), (0, (.ref (K 5))), (1, (iv a1))] rfl ?_
  refine x_iload_n C dX9_ruleFor_9 rfl 0 rfl ?_
  refine x_if_lt C 41 dX9_ruleFor_10 (by decide) (fun c1 => ?_) (fun c1 => ?_)
  · replace h := h.1 c1
    refine x_iconst C (n := (-1)) dX9_ruleFor_41 ?_
    exact hret _ _ _ _ dX9_ruleFor_42 h
  · replace h := h.2 c1
    refine x_iload_n C dX9_ruleFor_13 rfl 0 rfl ?_
    refine x_aload_n C dX9_ruleFor_14 rfl 1 rfl ?_
    refine gf_5_17 C k481 dX9_ruleFor_15 ?_
    refine x_icmp_ge C 41 dX9_ruleFor_18 (by decide) (fun c2 => ?_) (fun c2 => ?_)
    · replace h := h.1 c2
      refine x_iload_n C dX9_ruleFor_21 rfl 0 rfl ?_
      refine x_bipush C (n := 30) (by decide) (by decide) dX9_ruleFor_22 ?_
      refine x_icmp_ge C 41 dX9_ruleFor_24 (by decide) (fun c3 => ?_) (fun c3 => ?_)
      · replace h := h.1 c3
        refine x_aload_n C dX9_ruleFor_27 rfl 1 rfl ?_
        refine gf_5_14 C k494 dX9_ruleFor_28 ?_
        refine x_iload_n C dX9_ruleFor_31 rfl 0 rfl ?_
        refine x_iald C 19 30 (by decide) (fun _ => rfl) h.1 dX9_ruleFor_32 ?_
        replace h := h.2
        refine x_iload_n C dX9_ruleFor_33 rfl 2 rfl ?_
        refine x_icmp_ne C 41 dX9_ruleFor_34 (by decide) (fun c4 => ?_) (fun c4 => ?_)
        · replace h := h.1 c4
          refine x_iload_n C dX9_ruleFor_37 rfl 0 rfl ?_
          refine x_goto C 42 dX9_ruleFor_38 (by decide) ?_
          exact hret _ _ _ _ dX9_ruleFor_42 h
        · replace h := h.2 c4
          refine x_iconst C (n := (-1)) dX9_ruleFor_41 ?_
          exact hret _ _ _ _ dX9_ruleFor_42 h
      · replace h := h.2 c3
        refine x_iconst C (n := (-1)) dX9_ruleFor_41 ?_
        exact hret _ _ _ _ dX9_ruleFor_42 h
    · replace h := h.2 c2
      refine x_iconst C (n := (-1)) dX9_ruleFor_41 ?_
      exact hret _ _ _ _ dX9_ruleFor_42 h
set_option maxHeartbeats 4000000 in
theorem m_X9_rightSide (a1 : Int) : MI l D d K yX9_rightSide cX9_rightSide 2 (some .int) 0 [(.ref (K 5)), (iv a1)] (fun Q M => F_X9_rightSide Q a1 M) := by
  refine s_mi pn_X9 (Nat.le_of_ble_eq_true rfl) [(0, (.ref (K 5))), (1, (iv a1))] rfl rfl (fun p e R s m args below meth c A L M zc zs Q Qg C hret h => ?_)
  refine x_iload_n C dX9_rightSide_0 rfl 1 rfl ?_
  refine x_if_lt C 19 dX9_rightSide_1 (by decide) (fun c1 => ?_) (fun c1 => ?_)
  · replace h := h.1 c1
    refine x_iconst C (n := (-1)) dX9_rightSide_19 ?_
    exact hret _ _ _ _ dX9_rightSide_20 h
  · replace h := h.2 c1
    refine x_iload_n C dX9_rightSide_4 rfl 1 rfl ?_
    refine x_bipush C (n := 30) (by decide) (by decide) dX9_rightSide_5 ?_
    refine x_icmp_ge C 19 dX9_rightSide_7 (by decide) (fun c2 => ?_) (fun c2 => ?_)
    · replace h := h.1 c2
      refine x_aload_n C dX9_rightSide_10 rfl 0 rfl ?_
      refine gf_5_15 C k495 dX9_rightSide_11 ?_
      refine x_iload_n C dX9_rightSide_14 rfl 1 rfl ?_
      refine x_iald C 20 30 (by decide) (fun _ => rfl) h.1 dX9_rightSide_15 ?_
      replace h := h.2
      refine x_goto C 20 dX9_rightSide_16 (by decide) ?_
      exact hret _ _ _ _ dX9_rightSide_20 h
    · replace h := h.2 c2
      refine x_iconst C (n := (-1)) dX9_rightSide_19 ?_
      exact hret _ _ _ _ dX9_rightSide_20 h
set_option maxHeartbeats 4000000 in
theorem m_X10_value (a1 : Int) : MI l D d K yX10_value cX10_value 2 (some .int) 1 [(.ref (K 3)), (iv a1)] (fun Q M => F_X10_value Q a1 M) := by
  refine s_mi pn_X10 (Nat.le_of_ble_eq_true rfl) [(0, (.ref (K 3))), (1, (iv a1))] rfl rfl (fun p e R s m args below meth c A L M zc zs Q Qg C hret h => ?_)
  refine x_aload_n C dX10_value_0 rfl 0 rfl ?_
  refine gf_3_3 C k538 dX10_value_1 ?_
  refine x_iload_n C dX10_value_4 rfl 1 rfl ?_
  refine x_rget C 8 (by decide) k220 (Nat.le_of_ble_eq_true rfl) (Nat.le_of_ble_eq_true rfl) dX10_value_5 ?_
  exact hret _ _ _ _ dX10_value_8 h
set_option maxHeartbeats 4000000 in
theorem m_X10_setValue (a1 : Int) (a2 : Int) : MV l D d K yX10_setValue cX10_setValue 3 none 1 [(.ref (K 3)), (iv a1), (iv a2)] (fun Q M => F_X10_setValue Q a1 a2 M) := by
  refine s_mv pn_X10 (Nat.le_of_ble_eq_true rfl) [(0, (.ref (K 3))), (1, (iv a1)), (2, (iv a2))] rfl rfl (fun p e R s m args below meth c A L M zc zs Q Qg C hret h => ?_)
  refine x_aload_n C dX10_setValue_0 rfl 0 rfl ?_
  refine gf_3_3 C k538 dX10_setValue_1 ?_
  refine x_iload_n C dX10_setValue_4 rfl 1 rfl ?_
  refine x_iload_n C dX10_setValue_5 rfl 2 rfl ?_
  refine x_rset C 8 (by decide) h.1 k242 (Nat.le_of_ble_eq_true rfl) (Nat.le_of_ble_eq_true rfl) dX10_setValue_6 ?_
  replace h := h.2
  exact hret _ _ _ dX10_setValue_9 h
set_option maxHeartbeats 4000000 in
theorem T_X10_sumOfParts_4 {Q : Int → g_M → Prop} (C : XC p R s m args c D d A cX10_sumOfParts 4 RX10 3 zc zs) (hret : RTI p l e R s m args below meth c Qg D d K A 4 zc zs L cX10_sumOfParts Q) : ∀ (n : Nat) (x1 : Int) (x2 : Int) (x3 : Int) (M : g_M), F_X10_sumOfParts_4 Q n x1 x2 x3 M → X p l e R s m args below meth c Qg D d K A 4 zc zs L M [(0, (.ref (K 3))), (1, (iv x1)), (2, (iv x2)), (3, (iv x3))] 4 [] := by
  intro n
  induction n with
  | zero =>
    intro x1 x2 x3 M h
    exact h.elim
  | succ n ih =>
    intro x1 x2 x3 M h
    replace h : F_X8_arity (fun v1 M1 => ((bm x3 < bm v1 → (F_X10_partOf (fun v3 M3 => F_X10_sumOfParts_4 Q n x1 (x2 + (rg M3 9 v3)) (x3 + 1) M3) x1 x3 M1)) ∧ (¬ bm x3 < bm v1 → (Q x2 M1)))) (rg M 7 x1) M := h
    refine x_iload_n C dX10_sumOfParts_4 rfl 3 rfl ?_
    refine x_aload_n C dX10_sumOfParts_5 rfl 0 rfl ?_
    refine gf_3_0 C k228 dX10_sumOfParts_6 ?_
    refine x_aload_n C dX10_sumOfParts_9 rfl 0 rfl ?_
    refine gf_3_2 C k221 dX10_sumOfParts_10 ?_
    refine x_iload_n C dX10_sumOfParts_13 rfl 1 rfl ?_
    refine x_rget C 7 (by decide) k220 (Nat.le_of_ble_eq_true rfl) (Nat.le_of_ble_eq_true rfl) dX10_sumOfParts_14 ?_
    refine x_callVi C FX8_arity GX8_arity k230 (m_X8_arity (rg M 7 x1)) h (by decide) (fun _ => rfl) rfl (Nat.le_of_ble_eq_true rfl) (Nat.le_of_ble_eq_true rfl) (rest := [(iv x3)]) (Nat.le_of_ble_eq_true rfl) rfl rfl dX10_sumOfParts_17 (fun v1 M1 h => ?_)
    refine x_icmp_ge C 45 dX10_sumOfParts_20 (by decide) (fun c2 => ?_) (fun c2 => ?_)
    · replace h := h.1 c2
      refine x_iload_n C dX10_sumOfParts_23 rfl 2 rfl ?_
      refine x_aload_n C dX10_sumOfParts_24 rfl 0 rfl ?_
      refine gf_3_4 C k563 dX10_sumOfParts_25 ?_
      refine x_aload_n C dX10_sumOfParts_28 rfl 0 rfl ?_
      refine x_iload_n C dX10_sumOfParts_29 rfl 1 rfl ?_
      refine x_iload_n C dX10_sumOfParts_30 rfl 3 rfl ?_
      refine x_callVi C FX10_partOf GX10_partOf k539 (m_X10_partOf x1 x3) h (by decide) (fun _ => rfl) rfl (Nat.le_of_ble_eq_true rfl) (Nat.le_of_ble_eq_true rfl) (rest := [(.ref (K 41)), (iv x2)]) (Nat.le_of_ble_eq_true rfl) rfl rfl dX10_sumOfParts_31 (fun v3 M3 h => ?_)
      refine x_rget C 9 (by decide) k220 (Nat.le_of_ble_eq_true rfl) (Nat.le_of_ble_eq_true rfl) dX10_sumOfParts_34 ?_
      refine x_iadd C dX10_sumOfParts_37 ?_
      refine x_istore_n C dX10_sumOfParts_38 rfl (by decide) [(2, (iv (x2 + (rg M3 9 v3)))), (0, (.ref (K 3))), (1, (iv x1)), (3, (iv x3))] rfl ?_
      refine x_iinc C dX10_sumOfParts_39 3 rfl (by decide) [(3, (iv (x3 + 1))), (2, (iv (x2 + (rg M3 9 v3)))), (0, (.ref (K 3))), (1, (iv x1))] rfl ?_
      refine x_goto C 4 dX10_sumOfParts_42 (by decide) ?_
      refine x_lv (lv' := [(0, (.ref (K 3))), (1, (iv x1)), (2, (iv (x2 + (rg M3 9 v3)))), (3, (iv (x3 + 1)))]) [2, 3, 1, 0] rfl ?_
      exact ih x1 (x2 + (rg M3 9 v3)) (x3 + 1) M3 h
    · replace h := h.2 c2
      refine x_iload_n C dX10_sumOfParts_45 rfl 2 rfl ?_
      exact hret _ _ _ _ dX10_sumOfParts_46 h
set_option maxHeartbeats 4000000 in
theorem m_X10_sumOfParts (a1 : Int) : MI l D d K yX10_sumOfParts cX10_sumOfParts 4 (some .int) 3 [(.ref (K 3)), (iv a1)] (fun Q M => F_X10_sumOfParts Q a1 M) := by
  refine s_mi pn_X10 (Nat.le_of_ble_eq_true rfl) [(0, (.ref (K 3))), (1, (iv a1))] rfl rfl (fun p e R s m args below meth c A L M zc zs Q Qg C hret h => ?_)
  refine x_iconst C (n := 0) dX10_sumOfParts_0 ?_
  refine x_istore_n C dX10_sumOfParts_1 rfl (by decide) [(2, (iv 0)), (0, (.ref (K 3))), (1, (iv a1))] rfl ?_
  refine x_iconst C (n := 0) dX10_sumOfParts_2 ?_
  refine x_istore_n C dX10_sumOfParts_3 rfl (by decide) [(3, (iv 0)), (2, (iv 0)), (0, (.ref (K 3))), (1, (iv a1))] rfl ?_
  refine x_lv (lv' := [(0, (.ref (K 3))), (1, (iv a1)), (2, (iv 0)), (3, (iv 0))]) [2, 3, 1, 0] rfl ?_
  obtain ⟨n9, h⟩ := h
  exact T_X10_sumOfParts_4 C hret n9 a1 0 0 M h
set_option maxHeartbeats 4000000 in
theorem m_X10_setTally (a1 : Int) (a2 : Int) : MV l D d K yX10_setTally cX10_setTally 3 none 1 [(.ref (K 3)), (iv a1), (iv a2)] (fun Q M => F_X10_setTally Q a1 a2 M) := by
  refine s_mv pn_X10 (Nat.le_of_ble_eq_true rfl) [(0, (.ref (K 3))), (1, (iv a1)), (2, (iv a2))] rfl rfl (fun p e R s m args below meth c A L M zc zs Q Qg C hret h => ?_)
  refine x_aload_n C dX10_setTally_0 rfl 0 rfl ?_
  refine gf_3_4 C k563 dX10_setTally_1 ?_
  refine x_iload_n C dX10_setTally_4 rfl 1 rfl ?_
  refine x_iload_n C dX10_setTally_5 rfl 2 rfl ?_
  refine x_rset C 9 (by decide) h.1 k242 (Nat.le_of_ble_eq_true rfl) (Nat.le_of_ble_eq_true rfl) dX10_setTally_6 ?_
  replace h := h.2
  exact hret _ _ _ dX10_setTally_9 h
set_option maxHeartbeats 4000000 in
theorem T_X9_normalize_92 {Q : Int → g_M → Prop} (C : XC p R s m args c D d A cX9_normalize 5 RX9 4 zc zs) (hret : RTI p l e R s m args below meth c Qg D d K A 5 zc zs L cX9_normalize Q) {k17 : Int → g_M → Prop} (hk17 : ∀ (x2 : Int) (M : g_M), k17 x2 M → X p l e R s m args below meth c Qg D d K A 5 zc zs L M [(0, (.ref (K 5))), (2, (iv x2))] 17 []) (x2 : Int) (t1 : Int) (t2 : Int) (t3 : Int) (M : g_M) (h : F_X9_normalize_92 Q k17 x2 t1 t2 t3 M) : X p l e R s m args below meth c Qg D d K A 5 zc zs L M [(0, (.ref (K 5))), (2, (iv x2))] 92 [(iv t3), (iv t2), (iv t1), (.ref (K 3))] := by
  refine x_iadd C dX9_normalize_92 ?_
  refine x_callVv C FX10_setTally GX10_setTally k568 (m_X10_setTally t1 (t2 + t3)) h (by decide) (fun _ => rfl) rfl (Nat.le_of_ble_eq_true rfl) (Nat.le_of_ble_eq_true rfl) (rest := []) (Nat.le_of_ble_eq_true rfl) rfl rfl dX9_normalize_93 (fun M14 h => ?_)
  refine x_iinc C dX9_normalize_96 1 rfl (by decide) [(2, (iv (x2 + 1))), (0, (.ref (K 5)))] rfl ?_
  refine x_goto C 17 dX9_normalize_99 (by decide) ?_
  refine x_lv (lv' := [(0, (.ref (K 5))), (2, (iv (x2 + 1)))]) [1, 0] rfl ?_
  exact hk17 (x2 + 1) M14 h
set_option maxHeartbeats 4000000 in
theorem T_X9_normalize_65 {Q : Int → g_M → Prop} (C : XC p R s m args c D d A cX9_normalize 5 RX9 4 zc zs) (hret : RTI p l e R s m args below meth c Qg D d K A 5 zc zs L cX9_normalize Q) {k17 : Int → g_M → Prop} (hk17 : ∀ (x2 : Int) (M : g_M), k17 x2 M → X p l e R s m args below meth c Qg D d K A 5 zc zs L M [(0, (.ref (K 5))), (2, (iv x2))] 17 []) (x2 : Int) (x4 : Int) (t1 : Int) (t2 : Int) (M : g_M) (h : F_X9_normalize_65 Q k17 x2 x4 t1 t2 M) : X p l e R s m args below meth c Qg D d K A 5 zc zs L M [(0, (.ref (K 5))), (2, (iv x2)), (4, (iv x4))] 65 [(iv t2), (iv t1), (.ref (K 3))] := by
  refine x_callVv C FX10_setValue GX10_setValue k559 (m_X10_setValue t1 t2) h (by decide) (fun _ => rfl) rfl (Nat.le_of_ble_eq_true rfl) (Nat.le_of_ble_eq_true rfl) (rest := []) (Nat.le_of_ble_eq_true rfl) rfl rfl dX9_normalize_65 (fun M11 h => ?_)
  refine x_aload_n C dX9_normalize_68 rfl 0 rfl ?_
  refine gf_5_2 C k367 dX9_normalize_69 ?_
  refine x_iload_n C dX9_normalize_72 rfl 1 rfl ?_
  refine x_aload_n C dX9_normalize_73 rfl 0 rfl ?_
  refine gf_5_2 C k367 dX9_normalize_74 ?_
  refine x_iload_n C dX9_normalize_77 rfl 1 rfl ?_
  refine x_callVi C FX10_sumOfParts GX10_sumOfParts k564 (m_X10_sumOfParts x2) h (by decide) (fun _ => rfl) rfl (Nat.le_of_ble_eq_true rfl) (Nat.le_of_ble_eq_true rfl) (rest := [(iv x2), (.ref (K 3))]) (Nat.le_of_ble_eq_true rfl) rfl rfl dX9_normalize_78 (fun v12 M12 h => ?_)
  refine x_iload C dX9_normalize_81 2 rfl ?_
  refine x_iconst C (n := (-1)) dX9_normalize_83 ?_
  refine x_icmp_ne C 91 dX9_normalize_84 (by decide) (fun c13 => ?_) (fun c13 => ?_)
  · replace h := h.1 c13
    refine x_iconst C (n := 0) dX9_normalize_87 ?_
    refine x_goto C 92 dX9_normalize_88 (by decide) ?_
    refine x_lv (lv' := [(0, (.ref (K 5))), (2, (iv x2))]) [0, 1] rfl ?_
    exact T_X9_normalize_92 C hret hk17 x2 x2 v12 0 M12 h
  · replace h := h.2 c13
    refine x_iconst C (n := 1) dX9_normalize_91 ?_
    refine x_lv (lv' := [(0, (.ref (K 5))), (2, (iv x2))]) [0, 1] rfl ?_
    exact T_X9_normalize_92 C hret hk17 x2 x2 v12 1 M12 h
set_option maxHeartbeats 4000000 in
theorem T_X9_normalize_17 {Q : Int → g_M → Prop} (C : XC p R s m args c D d A cX9_normalize 5 RX9 4 zc zs) (hret : RTI p l e R s m args below meth c Qg D d K A 5 zc zs L cX9_normalize Q) : ∀ (n : Nat) (x2 : Int) (M : g_M), F_X9_normalize_17 Q n x2 M → X p l e R s m args below meth c Qg D d K A 5 zc zs L M [(0, (.ref (K 5))), (2, (iv x2))] 17 [] := by
  intro n
  induction n with
  | zero =>
    intro x2 M h
    exact h.elim
  | succ n ih =>
    intro x2 M h
    replace h : F_X10_count (fun v3 M3 => ((bm x2 < bm v3 → (F_X10_rebuild (fun v5 M5 => F_X9_ruleFor (fun v6 M6 => ((bm v6 = bm (-1) → (F_X9_normalize_65 Q (F_X9_normalize_17 Q n) x2 v6 x2 v5 M6)) ∧ (¬ bm v6 = bm (-1) → (F_X9_rightSide (fun v8 M8 => F_X9_normalize_65 Q (F_X9_normalize_17 Q n) x2 v6 x2 v8 M8) v6 M6)))) v5 M5) x2 M3)) ∧ (¬ bm x2 < bm v3 → (F_X10_count (fun v9 M9 => F_X10_value (fun v10 M10 => Q v10 M10) (v9 - 1) M9) M3)))) M := h
    refine x_iload_n C dX9_normalize_17 rfl 1 rfl ?_
    refine x_aload_n C dX9_normalize_18 rfl 0 rfl ?_
    refine gf_5_2 C k367 dX9_normalize_19 ?_
    refine x_callVi C FX10_count GX10_count k537 (m_X10_count) h (by decide) (fun _ => rfl) rfl (Nat.le_of_ble_eq_true rfl) (Nat.le_of_ble_eq_true rfl) (rest := [(iv x2)]) (Nat.le_of_ble_eq_true rfl) rfl rfl dX9_normalize_22 (fun v3 M3 h => ?_)
    refine x_icmp_ge C 102 dX9_normalize_25 (by decide) (fun c4 => ?_) (fun c4 => ?_)
    · replace h := h.1 c4
      refine x_aload_n C dX9_normalize_28 rfl 0 rfl ?_
      refine gf_5_2 C k367 dX9_normalize_29 ?_
      refine x_iload_n C dX9_normalize_32 rfl 1 rfl ?_
      refine x_callVi C FX10_rebuild GX10_rebuild k542 (m_X10_rebuild x2) h (by decide) (fun _ => rfl) rfl (Nat.le_of_ble_eq_true rfl) (Nat.le_of_ble_eq_true rfl) (rest := []) (Nat.le_of_ble_eq_true rfl) rfl rfl dX9_normalize_33 (fun v5 M5 h => ?_)
      refine x_istore_n C dX9_normalize_36 rfl (by decide) [(3, (iv v5)), (0, (.ref (K 5))), (2, (iv x2))] rfl ?_
      refine x_aload_n C dX9_normalize_37 rfl 1 rfl ?_
      refine x_iload_n C dX9_normalize_38 rfl 0 rfl ?_
      refine x_callVi C FX9_ruleFor GX9_ruleFor k547 (m_X9_ruleFor v5) h (by decide) (fun _ => rfl) rfl (Nat.le_of_ble_eq_true rfl) (Nat.le_of_ble_eq_true rfl) (rest := []) (Nat.le_of_ble_eq_true rfl) rfl rfl dX9_normalize_39 (fun v6 M6 h => ?_)
      refine x_istore C dX9_normalize_42 (by decide) [(4, (iv v6)), (3, (iv v5)), (0, (.ref (K 5))), (2, (iv x2))] rfl ?_
      refine x_aload_n C dX9_normalize_44 rfl 2 rfl ?_
      refine gf_5_2 C k367 dX9_normalize_45 ?_
      refine x_iload_n C dX9_normalize_48 rfl 3 rfl ?_
      refine x_iload C dX9_normalize_49 0 rfl ?_
      refine x_iconst C (n := (-1)) dX9_normalize_51 ?_
      refine x_icmp_ne C 59 dX9_normalize_52 (by decide) (fun c7 => ?_) (fun c7 => ?_)
      · replace h := h.1 c7
        refine x_iload_n C dX9_normalize_55 rfl 1 rfl ?_
        refine x_goto C 65 dX9_normalize_56 (by decide) ?_
        refine x_lv (lv' := [(0, (.ref (K 5))), (2, (iv x2)), (4, (iv v6))]) [2, 3, 0] rfl ?_
        exact T_X9_normalize_65 C hret ih x2 v6 x2 v5 M6 h
      · replace h := h.2 c7
        refine x_aload_n C dX9_normalize_59 rfl 2 rfl ?_
        refine x_iload C dX9_normalize_60 0 rfl ?_
        refine x_callVi C FX9_rightSide GX9_rightSide k551 (m_X9_rightSide v6) h (by decide) (fun _ => rfl) rfl (Nat.le_of_ble_eq_true rfl) (Nat.le_of_ble_eq_true rfl) (rest := [(iv x2), (.ref (K 3))]) (Nat.le_of_ble_eq_true rfl) rfl rfl dX9_normalize_62 (fun v8 M8 h => ?_)
        refine x_lv (lv' := [(0, (.ref (K 5))), (2, (iv x2)), (4, (iv v6))]) [2, 3, 0] rfl ?_
        exact T_X9_normalize_65 C hret ih x2 v6 x2 v8 M8 h
    · replace h := h.2 c4
      refine x_aload_n C dX9_normalize_102 rfl 0 rfl ?_
      refine gf_5_2 C k367 dX9_normalize_103 ?_
      refine x_aload_n C dX9_normalize_106 rfl 0 rfl ?_
      refine gf_5_2 C k367 dX9_normalize_107 ?_
      refine x_callVi C FX10_count GX10_count k537 (m_X10_count) h (by decide) (fun _ => rfl) rfl (Nat.le_of_ble_eq_true rfl) (Nat.le_of_ble_eq_true rfl) (rest := [(.ref (K 3))]) (Nat.le_of_ble_eq_true rfl) rfl rfl dX9_normalize_110 (fun v9 M9 h => ?_)
      refine x_iconst C (n := 1) dX9_normalize_113 ?_
      refine x_isub C dX9_normalize_114 ?_
      refine x_callVi C FX10_value GX10_value k555 (m_X10_value (v9 - 1)) h (by decide) (fun _ => rfl) rfl (Nat.le_of_ble_eq_true rfl) (Nat.le_of_ble_eq_true rfl) (rest := []) (Nat.le_of_ble_eq_true rfl) rfl rfl dX9_normalize_115 (fun v10 M10 h => ?_)
      exact hret _ _ _ _ dX9_normalize_118 h
set_option maxHeartbeats 4000000 in
theorem m_X9_normalize (a1 : Int) : MI l D d K yX9_normalize cX9_normalize 5 (some .int) 4 [(.ref (K 5)), (iv a1)] (fun Q M => F_X9_normalize Q a1 M) := by
  refine s_mi pn_X9 (Nat.le_of_ble_eq_true rfl) [(0, (.ref (K 5))), (1, (iv a1))] rfl rfl (fun p e R s m args below meth c A L M zc zs Q Qg C hret h => ?_)
  refine x_aload_n C dX9_normalize_0 rfl 0 rfl ?_
  refine gf_5_2 C k367 dX9_normalize_1 ?_
  refine x_callVv C FX10_clear GX10_clear k368 (m_X10_clear) h (by decide) (fun _ => rfl) rfl (Nat.le_of_ble_eq_true rfl) (Nat.le_of_ble_eq_true rfl) (rest := []) (Nat.le_of_ble_eq_true rfl) rfl rfl dX9_normalize_4 (fun M1 h => ?_)
  refine x_aload_n C dX9_normalize_7 rfl 0 rfl ?_
  refine gf_5_2 C k367 dX9_normalize_8 ?_
  refine x_iload_n C dX9_normalize_11 rfl 1 rfl ?_
  refine x_callVv C FX10_add GX10_add k369 (m_X10_add a1) h (by decide) (fun _ => rfl) rfl (Nat.le_of_ble_eq_true rfl) (Nat.le_of_ble_eq_true rfl) (rest := []) (Nat.le_of_ble_eq_true rfl) rfl rfl dX9_normalize_12 (fun M2 h => ?_)
  refine x_iconst C (n := 0) dX9_normalize_15 ?_
  refine x_istore_n C dX9_normalize_16 rfl (by decide) [(2, (iv 0)), (0, (.ref (K 5))), (1, (iv a1))] rfl ?_
  refine x_lv (lv' := [(0, (.ref (K 5))), (2, (iv 0))]) [1, 0] rfl ?_
  obtain ⟨n9, h⟩ := h
  exact T_X9_normalize_17 C hret n9 0 M2 h
end XW
