section XW
variable {p : Program} {l : Launch} {e : Env} {R : Room} {s : State} {m : MethodId} {args : Array Value} {below : List Frame} {meth : Method} {c : Code} {Qg : State → Prop} {D : va_G} {d : Nat → ClassId} {K : Nat → Nat} {A : Nat → Prop} {zc zs : Int} {L : va_W}
set_option maxHeartbeats 4000000 in
theorem m_X5_length  : MI l D d K yX5_length cX5_length 1 (some .int) 0 [(.ref (K 6))] (fun Q M => F_X5_length Q M) := by
  refine s_mi pn_X5 (Nat.le_of_ble_eq_true rfl) [(0, (.ref (K 6)))] rfl rfl (fun p e R s m args below meth c A L M zc zs Q Qg C hret h => ?_)
  refine x_aload_n C dX5_length_0 rfl 0 rfl ?_
  refine gf_6_3 C k1 dX5_length_1 ?_
  exact hret _ _ _ _ dX5_length_4 h
set_option maxHeartbeats 4000000 in
theorem T_X5_append_47 {Q : g_M → Prop} (C : XC p R s m args c D d A cX5_append 3 RX5 0 zc zs) (hret : RTV p l e R s m args below meth c Qg D d K A 3 zc zs L cX5_append Q) {k3 : Int → Int → g_M → Prop} (hk3 : ∀ (x1 : Int) (x2 : Int) (M : g_M), k3 x1 x2 M → X p l e R s m args below meth c Qg D d K A 3 zc zs L M [(0, (.ref (K 6))), (1, (iv x1)), (2, (iv x2))] 3 []) (x1 : Int) (x2 : Int) (M : g_M) (h : F_X5_append_47 Q k3 x1 x2 M) : X p l e R s m args below meth c Qg D d K A 3 zc zs L M [(0, (.ref (K 6))), (1, (iv x1)), (2, (iv x2))] 47 [] := by
  refine x_iinc C dX5_append_47 2 rfl (by decide) [(2, (iv (x2 + (-8)))), (0, (.ref (K 6))), (1, (iv x1))] rfl ?_
  refine x_goto C 3 dX5_append_50 (by decide) ?_
  refine x_lv (lv' := [(0, (.ref (K 6))), (1, (iv x1)), (2, (iv (x2 + (-8))))]) [1, 2, 0] rfl ?_
  exact hk3 x1 (x2 + (-8)) M h
set_option maxHeartbeats 4000000 in
theorem T_X5_append_3 {Q : g_M → Prop} (C : XC p R s m args c D d A cX5_append 3 RX5 0 zc zs) (hret : RTV p l e R s m args below meth c Qg D d K A 3 zc zs L cX5_append Q) : ∀ (n : Nat) (x1 : Int) (x2 : Int) (M : g_M), F_X5_append_3 Q n x1 x2 M → X p l e R s m args below meth c Qg D d K A 3 zc zs L M [(0, (.ref (K 6))), (1, (iv x1)), (2, (iv x2))] 3 [] := by
  intro n
  induction n with
  | zero =>
    intro x1 x2 M h
    exact h.elim
  | succ n ih =>
    intro x1 x2 M h
    replace h : ((bm x2 < 0 → (Q M)) ∧ (¬ bm x2 < 0 → (((bm (M 46 3) < 0 → (F_X5_append_47 Q (F_X5_append_3 Q n) x1 x2 M)) ∧ (¬ bm (M 46 3) < 0 → (((bm (M 46 3) < bm 400 → ((inI (M 46 3) 400 ∧ F_X5_append_47 Q (F_X5_append_3 Q n) x1 x2 (up (up M 62 (bm (M 46 3)).toNat (i2b (i2b (ishr x1 x2)))) 46 3 (((up M 62 (bm (M 46 3)).toNat (i2b (i2b (ishr x1 x2)))) 46 3) + 1))))) ∧ (¬ bm (M 46 3) < bm 400 → (F_X5_append_47 Q (F_X5_append_3 Q n) x1 x2 M))))))))) := h
    refine x_iload_n C dX5_append_3 rfl 2 rfl ?_
    refine x_if_lt C 53 dX5_append_4 (by decide) (fun c1 => ?_) (fun c1 => ?_)
    · replace h := h.1 c1
      exact hret _ _ _ dX5_append_53 h
    · replace h := h.2 c1
      refine x_aload_n C dX5_append_7 rfl 0 rfl ?_
      refine gf_6_3 C k1 dX5_append_8 ?_
      refine x_if_lt C 47 dX5_append_11 (by decide) (fun c2 => ?_) (fun c2 => ?_)
      · replace h := h.1 c2
        exact T_X5_append_47 C hret ih x1 x2 M h
      · replace h := h.2 c2
        refine x_aload_n C dX5_append_14 rfl 0 rfl ?_
        refine gf_6_3 C k1 dX5_append_15 ?_
        refine x_sipush C (n := 400) (by decide) (by decide) dX5_append_18 ?_
        refine x_icmp_ge C 47 dX5_append_21 (by decide) (fun c3 => ?_) (fun c3 => ?_)
        · replace h := h.1 c3
          refine x_aload_n C dX5_append_24 rfl 0 rfl ?_
          refine gf_6_2 C k7 dX5_append_25 ?_
          refine x_aload_n C dX5_append_28 rfl 0 rfl ?_
          refine gf_6_3 C k1 dX5_append_29 ?_
          refine x_iload_n C dX5_append_32 rfl 1 rfl ?_
          refine x_iload_n C dX5_append_33 rfl 2 rfl ?_
          refine x_ishr C dX5_append_34 ?_
          refine x_i2b C dX5_append_35 ?_
          refine x_bast C 22 400 (by decide) (fun _ _ => rfl) h.1 dX5_append_36 ?_
          replace h := h.2
          refine x_aload_n C dX5_append_37 rfl 0 rfl ?_
          refine x_dup C dX5_append_38 rfl ?_
          refine gf_6_3 C k1 dX5_append_39 ?_
          refine x_iconst C (n := 1) dX5_append_42 ?_
          refine x_iadd C dX5_append_43 ?_
          refine pf_6_3 C k1 dX5_append_44 ?_
          exact T_X5_append_47 C hret ih x1 x2 (up (up M 62 (bm (M 46 3)).toNat (i2b (i2b (ishr x1 x2)))) 46 3 (((up M 62 (bm (M 46 3)).toNat (i2b (i2b (ishr x1 x2)))) 46 3) + 1)) h
        · replace h := h.2 c3
          exact T_X5_append_47 C hret ih x1 x2 M h
set_option maxHeartbeats 4000000 in
theorem m_X5_append (a1 : Int) : MV l D d K yX5_append cX5_append 3 none 0 [(.ref (K 6)), (iv a1)] (fun Q M => F_X5_append Q a1 M) := by
  refine s_mv pn_X5 (Nat.le_of_ble_eq_true rfl) [(0, (.ref (K 6))), (1, (iv a1))] rfl rfl (fun p e R s m args below meth c A L M zc zs Q Qg C hret h => ?_)
  refine x_bipush C (n := 24) (by decide) (by decide) dX5_append_0 ?_
  refine x_istore_n C dX5_append_2 rfl (by decide) [(2, (iv 24)), (0, (.ref (K 6))), (1, (iv a1))] rfl ?_
  refine x_lv (lv' := [(0, (.ref (K 6))), (1, (iv a1)), (2, (iv 24))]) [1, 2, 0] rfl ?_
  obtain ⟨n9, h⟩ := h
  exact T_X5_append_3 C hret n9 a1 24 M h
set_option maxHeartbeats 4000000 in
theorem m_X11_feed (a1 : Int) (a2 : Int) (a3 : Int) (a4 : Int) (a5 : Int) : MI l D d K yX11_feed cX11_feed 6 (some .int) 1 [(.ref (K 0)), (iv a1), (iv a2), (iv a3), (iv a4), (iv a5)] (fun Q M => F_X11_feed Q a1 a2 a3 a4 a5 M) := by
  refine s_mi pn_X11 (Nat.le_of_ble_eq_true rfl) [(0, (.ref (K 0))), (1, (iv a1)), (2, (iv a2)), (3, (iv a3)), (4, (iv a4)), (5, (iv a5))] rfl rfl (fun p e R s m args below meth c A L M zc zs Q Qg C hret h => ?_)
  refine x_aload_n C dX11_feed_0 rfl 0 rfl ?_
  refine gf_0_5 C k0 dX11_feed_1 ?_
  refine x_callVi C FX5_length GX5_length k2 (m_X5_length) h (by decide) (fun _ => rfl) rfl (Nat.le_of_ble_eq_true rfl) (Nat.le_of_ble_eq_true rfl) (rest := []) (Nat.le_of_ble_eq_true rfl) rfl rfl dX11_feed_4 (fun v1 M1 h => ?_)
  refine x_bipush C (n := 20) (by decide) (by decide) dX11_feed_7 ?_
  refine x_iadd C dX11_feed_9 ?_
  refine x_sipush C (n := 400) (by decide) (by decide) dX11_feed_10 ?_
  refine x_icmp_le C 26 dX11_feed_13 (by decide) (fun c2 => ?_) (fun c2 => ?_)
  · replace h := h.1 c2
    exact h.elim
  · replace h := h.2 c2
    refine x_aload_n C dX11_feed_26 rfl 0 rfl ?_
    refine gf_0_5 C k0 dX11_feed_27 ?_
    refine x_iload_n C dX11_feed_30 rfl 1 rfl ?_
    refine x_callVv C FX5_append GX5_append k8 (m_X5_append a1) h (by decide) (fun _ => rfl) rfl (Nat.le_of_ble_eq_true rfl) (Nat.le_of_ble_eq_true rfl) (rest := []) (Nat.le_of_ble_eq_true rfl) rfl rfl dX11_feed_31 (fun M3 h => ?_)
    refine x_aload_n C dX11_feed_34 rfl 0 rfl ?_
    refine gf_0_5 C k0 dX11_feed_35 ?_
    refine x_iload_n C dX11_feed_38 rfl 2 rfl ?_
    refine x_callVv C FX5_append GX5_append k8 (m_X5_append a2) h (by decide) (fun _ => rfl) rfl (Nat.le_of_ble_eq_true rfl) (Nat.le_of_ble_eq_true rfl) (rest := []) (Nat.le_of_ble_eq_true rfl) rfl rfl dX11_feed_39 (fun M4 h => ?_)
    refine x_aload_n C dX11_feed_42 rfl 0 rfl ?_
    refine gf_0_5 C k0 dX11_feed_43 ?_
    refine x_iload_n C dX11_feed_46 rfl 3 rfl ?_
    refine x_callVv C FX5_append GX5_append k8 (m_X5_append a3) h (by decide) (fun _ => rfl) rfl (Nat.le_of_ble_eq_true rfl) (Nat.le_of_ble_eq_true rfl) (rest := []) (Nat.le_of_ble_eq_true rfl) rfl rfl dX11_feed_47 (fun M5 h => ?_)
    refine x_aload_n C dX11_feed_50 rfl 0 rfl ?_
    refine gf_0_5 C k0 dX11_feed_51 ?_
    refine x_iload C dX11_feed_54 4 rfl ?_
    refine x_callVv C FX5_append GX5_append k8 (m_X5_append a4) h (by decide) (fun _ => rfl) rfl (Nat.le_of_ble_eq_true rfl) (Nat.le_of_ble_eq_true rfl) (rest := []) (Nat.le_of_ble_eq_true rfl) rfl rfl dX11_feed_56 (fun M6 h => ?_)
    refine x_aload_n C dX11_feed_59 rfl 0 rfl ?_
    refine gf_0_5 C k0 dX11_feed_60 ?_
    refine x_iload C dX11_feed_63 5 rfl ?_
    refine x_callVv C FX5_append GX5_append k8 (m_X5_append a5) h (by decide) (fun _ => rfl) rfl (Nat.le_of_ble_eq_true rfl) (Nat.le_of_ble_eq_true rfl) (rest := []) (Nat.le_of_ble_eq_true rfl) rfl rfl dX11_feed_65 (fun M7 h => ?_)
    refine x_aload_n C dX11_feed_68 rfl 0 rfl ?_
    refine gf_0_5 C k0 dX11_feed_69 ?_
    refine x_callVi C FX5_length GX5_length k2 (m_X5_length) h (by decide) (fun _ => rfl) rfl (Nat.le_of_ble_eq_true rfl) (Nat.le_of_ble_eq_true rfl) (rest := []) (Nat.le_of_ble_eq_true rfl) rfl rfl dX11_feed_72 (fun v8 M8 h => ?_)
    exact hret _ _ _ _ dX11_feed_75 h
set_option maxHeartbeats 4000000 in
theorem m_X5_shorten (a1 : Int) : MV l D d K yX5_shorten cX5_shorten 2 none 0 [(.ref (K 6)), (iv a1)] (fun Q M => F_X5_shorten Q a1 M) := by
  refine s_mv pn_X5 (Nat.le_of_ble_eq_true rfl) [(0, (.ref (K 6))), (1, (iv a1))] rfl rfl (fun p e R s m args below meth c A L M zc zs Q Qg C hret h => ?_)
  refine x_aload_n C dX5_shorten_0 rfl 0 rfl ?_
  refine x_iload_n C dX5_shorten_1 rfl 1 rfl ?_
  refine pf_6_3 C k1 dX5_shorten_2 ?_
  exact hret _ _ _ dX5_shorten_5 h
set_option maxHeartbeats 4000000 in
theorem m_X11_trim (a1 : Int) : MI l D d K yX11_trim cX11_trim 2 (some .int) 1 [(.ref (K 0)), (iv a1)] (fun Q M => F_X11_trim Q a1 M) := by
  refine s_mi pn_X11 (Nat.le_of_ble_eq_true rfl) [(0, (.ref (K 0))), (1, (iv a1))] rfl rfl (fun p e R s m args below meth c A L M zc zs Q Qg C hret h => ?_)
  refine x_iload_n C dX11_trim_0 rfl 1 rfl ?_
  refine x_if_lt C 15 dX11_trim_1 (by decide) (fun c1 => ?_) (fun c1 => ?_)
  · replace h := h.1 c1
    exact h.elim
  · replace h := h.2 c1
    refine x_iload_n C dX11_trim_4 rfl 1 rfl ?_
    refine x_aload_n C dX11_trim_5 rfl 0 rfl ?_
    refine gf_0_5 C k0 dX11_trim_6 ?_
    refine x_callVi C FX5_length GX5_length k2 (m_X5_length) h (by decide) (fun _ => rfl) rfl (Nat.le_of_ble_eq_true rfl) (Nat.le_of_ble_eq_true rfl) (rest := [(iv a1)]) (Nat.le_of_ble_eq_true rfl) rfl rfl dX11_trim_9 (fun v2 M2 h => ?_)
    refine x_icmp_le C 25 dX11_trim_12 (by decide) (fun c3 => ?_) (fun c3 => ?_)
    · replace h := h.1 c3
      exact h.elim
    · replace h := h.2 c3
      refine x_aload_n C dX11_trim_25 rfl 0 rfl ?_
      refine gf_0_5 C k0 dX11_trim_26 ?_
      refine x_iload_n C dX11_trim_29 rfl 1 rfl ?_
      refine x_callVv C FX5_shorten GX5_shorten k12 (m_X5_shorten a1) h (by decide) (fun _ => rfl) rfl (Nat.le_of_ble_eq_true rfl) (Nat.le_of_ble_eq_true rfl) (rest := []) (Nat.le_of_ble_eq_true rfl) rfl rfl dX11_trim_30 (fun M4 h => ?_)
      refine x_iload_n C dX11_trim_33 rfl 1 rfl ?_
      exact hret _ _ _ _ dX11_trim_34 h
set_option maxHeartbeats 4000000 in
theorem m_X5_isLetter (a1 : Int) : MI l D d K yX5_isLetter cX5_isLetter 2 (some .boolean) 0 [(.ref (K 6)), (iv a1)] (fun Q M => F_X5_isLetter Q a1 M) := by
  refine s_mz pn_X5 (Nat.le_of_ble_eq_true rfl) [(0, (.ref (K 6))), (1, (iv a1))] rfl rfl (fun p e R s m args below meth c A L M zc zs Q Qg C hret h => ?_)
  refine x_iload_n C dX5_isLetter_0 rfl 1 rfl ?_
  refine x_bipush C (n := 97) (by decide) (by decide) dX5_isLetter_1 ?_
  refine x_icmp_lt C 16 dX5_isLetter_3 (by decide) (fun c1 => ?_) (fun c1 => ?_)
  · replace h := h.1 c1
    refine x_iconst C (n := 0) dX5_isLetter_16 ?_
    exact hret _ _ _ _ dX5_isLetter_17 (by unfold isB; decide) h
  · replace h := h.2 c1
    refine x_iload_n C dX5_isLetter_6 rfl 1 rfl ?_
    refine x_bipush C (n := 122) (by decide) (by decide) dX5_isLetter_7 ?_
    refine x_icmp_gt C 16 dX5_isLetter_9 (by decide) (fun c2 => ?_) (fun c2 => ?_)
    · replace h := h.1 c2
      refine x_iconst C (n := 0) dX5_isLetter_16 ?_
      exact hret _ _ _ _ dX5_isLetter_17 (by unfold isB; decide) h
    · replace h := h.2 c2
      refine x_iconst C (n := 1) dX5_isLetter_12 ?_
      refine x_goto C 17 dX5_isLetter_13 (by decide) ?_
      exact hret _ _ _ _ dX5_isLetter_17 (by unfold isB; decide) h
set_option maxHeartbeats 4000000 in
theorem m_X5_isNamePart (a1 : Int) : MI l D d K yX5_isNamePart cX5_isNamePart 2 (some .boolean) 1 [(.ref (K 6)), (iv a1)] (fun Q M => F_X5_isNamePart Q a1 M) := by
  refine s_mz pn_X5 (Nat.le_of_ble_eq_true rfl) [(0, (.ref (K 6))), (1, (iv a1))] rfl rfl (fun p e R s m args below meth c A L M zc zs Q Qg C hret h => ?_)
  refine x_aload_n C dX5_isNamePart_0 rfl 0 rfl ?_
  refine x_iload_n C dX5_isNamePart_1 rfl 1 rfl ?_
  refine x_callVi C FX5_isLetter GX5_isLetter k16 (m_X5_isLetter a1) h (by decide) (fun _ => rfl) rfl (Nat.le_of_ble_eq_true rfl) (Nat.le_of_ble_eq_true rfl) (rest := []) (Nat.le_of_ble_eq_true rfl) rfl rfl dX5_isNamePart_2 (fun v1 M1 h => ?_)
  refine x_if_ne C 20 dX5_isNamePart_5 (by decide) (fun c2 => ?_) (fun c2 => ?_)
  · replace h := h.1 c2
    refine x_iload_n C dX5_isNamePart_8 rfl 1 rfl ?_
    refine x_bipush C (n := 48) (by decide) (by decide) dX5_isNamePart_9 ?_
    refine x_icmp_lt C 24 dX5_isNamePart_11 (by decide) (fun c3 => ?_) (fun c3 => ?_)
    · replace h := h.1 c3
      refine x_iconst C (n := 0) dX5_isNamePart_24 ?_
      exact hret _ _ _ _ dX5_isNamePart_25 (by unfold isB; decide) h
    · replace h := h.2 c3
      refine x_iload_n C dX5_isNamePart_14 rfl 1 rfl ?_
      refine x_bipush C (n := 57) (by decide) (by decide) dX5_isNamePart_15 ?_
      refine x_icmp_gt C 24 dX5_isNamePart_17 (by decide) (fun c4 => ?_) (fun c4 => ?_)
      · replace h := h.1 c4
        refine x_iconst C (n := 0) dX5_isNamePart_24 ?_
        exact hret _ _ _ _ dX5_isNamePart_25 (by unfold isB; decide) h
      · replace h := h.2 c4
        refine x_iconst C (n := 1) dX5_isNamePart_20 ?_
        refine x_goto C 25 dX5_isNamePart_21 (by decide) ?_
        exact hret _ _ _ _ dX5_isNamePart_25 (by unfold isB; decide) h
  · replace h := h.2 c2
    refine x_iconst C (n := 1) dX5_isNamePart_20 ?_
    refine x_goto C 25 dX5_isNamePart_21 (by decide) ?_
    exact hret _ _ _ _ dX5_isNamePart_25 (by unfold isB; decide) h
set_option maxHeartbeats 4000000 in
theorem T_X5_holdsName_34 {Q : Int → g_M → Prop} (C : XC p R s m args c D d A cX5_holdsName 2 RX5 2 zc zs) (hret : RTZ p l e R s m args below meth c Qg D d K A 2 zc zs L cX5_holdsName Q) : ∀ (n : Nat) (x1 : Int) (M : g_M), F_X5_holdsName_34 Q n x1 M → X p l e R s m args below meth c Qg D d K A 2 zc zs L M [(0, (.ref (K 6))), (1, (iv x1))] 34 [] := by
  intro n
  induction n with
  | zero =>
    intro x1 M h
    exact h.elim
  | succ n ih =>
    intro x1 M h
    replace h : ((bm x1 < bm (M 46 3) → ((inI x1 400 ∧ F_X5_isNamePart (fun v6 M6 => ((bm v6 = 0 → (Q 0 M6)) ∧ (¬ bm v6 = 0 → (F_X5_holdsName_34 Q n (x1 + 1) M6)))) (M 62 (bm x1).toNat) M))) ∧ (¬ bm x1 < bm (M 46 3) → (Q 1 M))) := h
    refine x_iload_n C dX5_holdsName_34 rfl 1 rfl ?_
    refine x_aload_n C dX5_holdsName_35 rfl 0 rfl ?_
    refine gf_6_3 C k1 dX5_holdsName_36 ?_
    refine x_icmp_ge C 63 dX5_holdsName_39 (by decide) (fun c5 => ?_) (fun c5 => ?_)
    · replace h := h.1 c5
      refine x_aload_n C dX5_holdsName_42 rfl 0 rfl ?_
      refine x_aload_n C dX5_holdsName_43 rfl 0 rfl ?_
      refine gf_6_2 C k7 dX5_holdsName_44 ?_
      refine x_iload_n C dX5_holdsName_47 rfl 1 rfl ?_
      refine x_bald C 22 400 (by decide) (fun _ => rfl) h.1 dX5_holdsName_48 ?_
      replace h := h.2
      refine x_callVi C FX5_isNamePart GX5_isNamePart k20 (m_X5_isNamePart (M 62 (bm x1).toNat)) h (by decide) (fun _ => rfl) rfl (Nat.le_of_ble_eq_true rfl) (Nat.le_of_ble_eq_true rfl) (rest := []) (Nat.le_of_ble_eq_true rfl) rfl rfl dX5_holdsName_49 (fun v6 M6 h => ?_)
      refine x_if_ne C 57 dX5_holdsName_52 (by decide) (fun c7 => ?_) (fun c7 => ?_)
      · replace h := h.1 c7
        refine x_iconst C (n := 0) dX5_holdsName_55 ?_
        exact hret _ _ _ _ dX5_holdsName_56 (by unfold isB; decide) h
      · replace h := h.2 c7
        refine x_iinc C dX5_holdsName_57 1 rfl (by decide) [(1, (iv (x1 + 1))), (0, (.ref (K 6)))] rfl ?_
        refine x_goto C 34 dX5_holdsName_60 (by decide) ?_
        refine x_lv (lv' := [(0, (.ref (K 6))), (1, (iv (x1 + 1)))]) [1, 0] rfl ?_
        exact ih (x1 + 1) M6 h
    · replace h := h.2 c5
      refine x_iconst C (n := 1) dX5_holdsName_63 ?_
      exact hret _ _ _ _ dX5_holdsName_64 (by unfold isB; decide) h
set_option maxHeartbeats 4000000 in
theorem m_X5_holdsName  : MI l D d K yX5_holdsName cX5_holdsName 2 (some .boolean) 2 [(.ref (K 6))] (fun Q M => F_X5_holdsName Q M) := by
  refine s_mz pn_X5 (Nat.le_of_ble_eq_true rfl) [(0, (.ref (K 6)))] rfl rfl (fun p e R s m args below meth c A L M zc zs Q Qg C hret h => ?_)
  refine x_aload_n C dX5_holdsName_0 rfl 0 rfl ?_
  refine gf_6_3 C k1 dX5_holdsName_1 ?_
  refine x_iconst C (n := 1) dX5_holdsName_4 ?_
  refine x_icmp_lt C 30 dX5_holdsName_5 (by decide) (fun c1 => ?_) (fun c1 => ?_)
  · replace h := h.1 c1
    refine x_iconst C (n := 0) dX5_holdsName_30 ?_
    exact hret _ _ _ _ dX5_holdsName_31 (by unfold isB; decide) h
  · replace h := h.2 c1
    refine x_aload_n C dX5_holdsName_8 rfl 0 rfl ?_
    refine gf_6_3 C k1 dX5_holdsName_9 ?_
    refine x_bipush C (n := 8) (by decide) (by decide) dX5_holdsName_12 ?_
    refine x_icmp_gt C 30 dX5_holdsName_14 (by decide) (fun c2 => ?_) (fun c2 => ?_)
    · replace h := h.1 c2
      refine x_iconst C (n := 0) dX5_holdsName_30 ?_
      exact hret _ _ _ _ dX5_holdsName_31 (by unfold isB; decide) h
    · replace h := h.2 c2
      refine x_aload_n C dX5_holdsName_17 rfl 0 rfl ?_
      refine x_aload_n C dX5_holdsName_18 rfl 0 rfl ?_
      refine gf_6_2 C k7 dX5_holdsName_19 ?_
      refine x_iconst C (n := 0) dX5_holdsName_22 ?_
      refine x_bald C 22 400 (by decide) (fun _ => rfl) h.1 dX5_holdsName_23 ?_
      replace h := h.2
      refine x_callVi C FX5_isLetter GX5_isLetter k16 (m_X5_isLetter (M 62 (bm 0).toNat)) h (by decide) (fun _ => rfl) rfl (Nat.le_of_ble_eq_true rfl) (Nat.le_of_ble_eq_true rfl) (rest := []) (Nat.le_of_ble_eq_true rfl) rfl rfl dX5_holdsName_24 (fun v3 M3 h => ?_)
      refine x_if_ne C 32 dX5_holdsName_27 (by decide) (fun c4 => ?_) (fun c4 => ?_)
      · replace h := h.1 c4
        refine x_iconst C (n := 0) dX5_holdsName_30 ?_
        exact hret _ _ _ _ dX5_holdsName_31 (by unfold isB; decide) h
      · replace h := h.2 c4
        refine x_iconst C (n := 1) dX5_holdsName_32 ?_
        refine x_istore_n C dX5_holdsName_33 rfl (by decide) [(1, (iv 1)), (0, (.ref (K 6)))] rfl ?_
        refine x_lv (lv' := [(0, (.ref (K 6))), (1, (iv 1))]) [1, 0] rfl ?_
        obtain ⟨n9, h⟩ := h
        exact T_X5_holdsName_34 C hret n9 1 M3 h
set_option maxHeartbeats 4000000 in
theorem m_X7_nameLength (a1 : Int) : MI l D d K yX7_nameLength cX7_nameLength 2 (some .int) 0 [(.ref (K 1)), (iv a1)] (fun Q M => F_X7_nameLength Q a1 M) := by
  refine s_mi pn_X7 (Nat.le_of_ble_eq_true rfl) [(0, (.ref (K 1))), (1, (iv a1))] rfl rfl (fun p e R s m args below meth c A L M zc zs Q Qg C hret h => ?_)
  refine x_iload_n C dX7_nameLength_0 rfl 1 rfl ?_
  refine x_if_lt C 21 dX7_nameLength_1 (by decide) (fun c1 => ?_) (fun c1 => ?_)
  · replace h := h.1 c1
    refine x_iconst C (n := 0) dX7_nameLength_21 ?_
    exact hret _ _ _ _ dX7_nameLength_22 h
  · replace h := h.2 c1
    refine x_iload_n C dX7_nameLength_4 rfl 1 rfl ?_
    refine x_aload_n C dX7_nameLength_5 rfl 0 rfl ?_
    refine gf_1_7 C k29 dX7_nameLength_6 ?_
    refine x_icmp_ge C 21 dX7_nameLength_9 (by decide) (fun c2 => ?_) (fun c2 => ?_)
    · replace h := h.1 c2
      refine x_aload_n C dX7_nameLength_12 rfl 0 rfl ?_
      refine gf_1_1 C k30 dX7_nameLength_13 ?_
      refine x_iload_n C dX7_nameLength_16 rfl 1 rfl ?_
      refine x_iald C 9 24 (by decide) (fun _ => rfl) h.1 dX7_nameLength_17 ?_
      replace h := h.2
      refine x_goto C 22 dX7_nameLength_18 (by decide) ?_
      exact hret _ _ _ _ dX7_nameLength_22 h
    · replace h := h.2 c2
      refine x_iconst C (n := 0) dX7_nameLength_21 ?_
      exact hret _ _ _ _ dX7_nameLength_22 h
set_option maxHeartbeats 4000000 in
theorem T_X7_nameByte_31 {Q : Int → g_M → Prop} (C : XC p R s m args c D d A cX7_nameByte 4 RX7 0 zc zs) (hret : RTY p l e R s m args below meth c Qg D d K A 4 zc zs L cX7_nameByte Q) (x1 : Int) (x2 : Int) (t0 : Int) (M : g_M) (h : F_X7_nameByte_31 Q x1 x2 t0 M) : X p l e R s m args below meth c Qg D d K A 4 zc zs L M [(0, (.ref (K 1))), (1, (iv x1)), (2, (iv x2))] 31 [(iv t0)] := by
  refine x_istore_n C dX7_nameByte_31 rfl (by decide) [(3, (iv t0)), (0, (.ref (K 1))), (1, (iv x1)), (2, (iv x2))] rfl ?_
  refine x_iload_n C dX7_nameByte_32 rfl 0 rfl ?_
  refine x_if_eq C 50 dX7_nameByte_33 (by decide) (fun c5 => ?_) (fun c5 => ?_)
  · replace h := h.1 c5
    refine x_iconst C (n := 0) dX7_nameByte_50 ?_
    exact hret _ _ _ _ dX7_nameByte_51 h.1 h.2
  · replace h := h.2 c5
    refine x_aload_n C dX7_nameByte_36 rfl 1 rfl ?_
    refine gf_1_0 C k36 dX7_nameByte_37 ?_
    refine x_iload_n C dX7_nameByte_40 rfl 2 rfl ?_
    refine x_bipush C (n := 8) (by decide) (by decide) dX7_nameByte_41 ?_
    refine x_imul C dX7_nameByte_43 ?_
    refine x_iload_n C dX7_nameByte_44 rfl 3 rfl ?_
    refine x_iadd C dX7_nameByte_45 ?_
    refine x_bald C 8 192 (by decide) (fun _ => rfl) h.1 dX7_nameByte_46 ?_
    replace h := h.2
    refine x_goto C 51 dX7_nameByte_47 (by decide) ?_
    exact hret _ _ _ _ dX7_nameByte_51 h.1 h.2
set_option maxHeartbeats 4000000 in
theorem T_X7_nameByte_30 {Q : Int → g_M → Prop} (C : XC p R s m args c D d A cX7_nameByte 4 RX7 0 zc zs) (hret : RTY p l e R s m args below meth c Qg D d K A 4 zc zs L cX7_nameByte Q) (x1 : Int) (x2 : Int) (M : g_M) (h : F_X7_nameByte_30 Q x1 x2 M) : X p l e R s m args below meth c Qg D d K A 4 zc zs L M [(0, (.ref (K 1))), (1, (iv x1)), (2, (iv x2))] 30 [] := by
  refine x_iconst C (n := 0) dX7_nameByte_30 ?_
  exact T_X7_nameByte_31 C hret x1 x2 0 M h
set_option maxHeartbeats 4000000 in
theorem m_X7_nameByte (a1 : Int) (a2 : Int) : MI l D d K yX7_nameByte cX7_nameByte 4 (some .byte) 0 [(.ref (K 1)), (iv a1), (iv a2)] (fun Q M => F_X7_nameByte Q a1 a2 M) := by
  refine s_my pn_X7 (Nat.le_of_ble_eq_true rfl) [(0, (.ref (K 1))), (1, (iv a1)), (2, (iv a2))] rfl rfl (fun p e R s m args below meth c A L M zc zs Q Qg C hret h => ?_)
  refine x_iload_n C dX7_nameByte_0 rfl 1 rfl ?_
  refine x_if_lt C 30 dX7_nameByte_1 (by decide) (fun c1 => ?_) (fun c1 => ?_)
  · replace h := h.1 c1
    exact T_X7_nameByte_30 C hret a1 a2 M h
  · replace h := h.2 c1
    refine x_iload_n C dX7_nameByte_4 rfl 1 rfl ?_
    refine x_aload_n C dX7_nameByte_5 rfl 0 rfl ?_
    refine gf_1_7 C k29 dX7_nameByte_6 ?_
    refine x_icmp_ge C 30 dX7_nameByte_9 (by decide) (fun c2 => ?_) (fun c2 => ?_)
    · replace h := h.1 c2
      refine x_iload_n C dX7_nameByte_12 rfl 2 rfl ?_
      refine x_if_lt C 30 dX7_nameByte_13 (by decide) (fun c3 => ?_) (fun c3 => ?_)
      · replace h := h.1 c3
        exact T_X7_nameByte_30 C hret a1 a2 M h
      · replace h := h.2 c3
        refine x_iload_n C dX7_nameByte_16 rfl 2 rfl ?_
        refine x_aload_n C dX7_nameByte_17 rfl 0 rfl ?_
        refine gf_1_1 C k30 dX7_nameByte_18 ?_
        refine x_iload_n C dX7_nameByte_21 rfl 1 rfl ?_
        refine x_iald C 9 24 (by decide) (fun _ => rfl) h.1 dX7_nameByte_22 ?_
        replace h := h.2
        refine x_icmp_ge C 30 dX7_nameByte_23 (by decide) (fun c4 => ?_) (fun c4 => ?_)
        · replace h := h.1 c4
          refine x_iconst C (n := 1) dX7_nameByte_26 ?_
          refine x_goto C 31 dX7_nameByte_27 (by decide) ?_
          exact T_X7_nameByte_31 C hret a1 a2 1 M h
        · replace h := h.2 c4
          exact T_X7_nameByte_30 C hret a1 a2 M h
    · replace h := h.2 c2
      exact T_X7_nameByte_30 C hret a1 a2 M h
set_option maxHeartbeats 4000000 in
theorem T_X7_isNameAt_3 {Q : Int → g_M → Prop} (C : XC p R s m args c D d A cX7_isNameAt 6 RX7 1 zc zs) (hret : RTZ p l e R s m args below meth c Qg D d K A 6 zc zs L cX7_isNameAt Q) : ∀ (n : Nat) (x1 : Int) (x3 : Int) (x4 : Int) (M : g_M), F_X7_isNameAt_3 Q n x1 x3 x4 M → X p l e R s m args below meth c Qg D d K A 6 zc zs L M [(0, (.ref (K 1))), (1, (iv x1)), (2, (.ref (K 22))), (3, (iv x3)), (4, (iv x4))] 3 [] := by
  intro n
  induction n with
  | zero =>
    intro x1 x3 x4 M h
    exact h.elim
  | succ n ih =>
    intro x1 x3 x4 M h
    replace h : F_X7_nameLength (fun v1 M1 => ((bm x4 < bm v1 → (((bm (x3 + x4) < 0 → (Q 0 M1)) ∧ (¬ bm (x3 + x4) < 0 → (((bm (x3 + x4) < bm 400 → ((inI (x3 + x4) 400 ∧ F_X7_nameByte (fun v5 M5 => ((bm (M1 62 (bm (x3 + x4)).toNat) = bm v5 → (F_X7_isNameAt_3 Q n x1 x3 (x4 + 1) M5)) ∧ (¬ bm (M1 62 (bm (x3 + x4)).toNat) = bm v5 → (Q 0 M5)))) x1 x4 M1))) ∧ (¬ bm (x3 + x4) < bm 400 → (Q 0 M1)))))))) ∧ (¬ bm x4 < bm v1 → (Q 1 M1)))) x1 M := h
    refine x_iload C dX7_isNameAt_3 4 rfl ?_
    refine x_aload_n C dX7_isNameAt_5 rfl 0 rfl ?_
    refine x_iload_n C dX7_isNameAt_6 rfl 1 rfl ?_
    refine x_callVi C FX7_nameLength GX7_nameLength k31 (m_X7_nameLength x1) h (by decide) (fun _ => rfl) rfl (Nat.le_of_ble_eq_true rfl) (Nat.le_of_ble_eq_true rfl) (rest := [(iv x4)]) (Nat.le_of_ble_eq_true rfl) rfl rfl dX7_isNameAt_7 (fun v1 M1 h => ?_)
    refine x_icmp_ge C 53 dX7_isNameAt_10 (by decide) (fun c2 => ?_) (fun c2 => ?_)
    · replace h := h.1 c2
      refine x_iload_n C dX7_isNameAt_13 rfl 3 rfl ?_
      refine x_iload C dX7_isNameAt_14 4 rfl ?_
      refine x_iadd C dX7_isNameAt_16 ?_
      refine x_istore C dX7_isNameAt_17 (by decide) [(5, (iv (x3 + x4))), (0, (.ref (K 1))), (1, (iv x1)), (2, (.ref (K 22))), (3, (iv x3)), (4, (iv x4))] rfl ?_
      refine x_iload C dX7_isNameAt_19 0 rfl ?_
      refine x_if_lt C 45 dX7_isNameAt_21 (by decide) (fun c3 => ?_) (fun c3 => ?_)
      · replace h := h.1 c3
        refine x_iconst C (n := 0) dX7_isNameAt_45 ?_
        exact hret _ _ _ _ dX7_isNameAt_46 (by unfold isB; decide) h
      · replace h := h.2 c3
        refine x_iload C dX7_isNameAt_24 0 rfl ?_
        refine x_aload_n C dX7_isNameAt_26 rfl 3 rfl ?_
        refine x_alen C 22 400 1 (by decide) (fun _ => rfl) rfl (show Int32.ofNat 400 = Int32.ofInt 400 by decide) dX7_isNameAt_27 ?_
        refine x_icmp_ge C 45 dX7_isNameAt_28 (by decide) (fun c4 => ?_) (fun c4 => ?_)
        · replace h := h.1 c4
          refine x_aload_n C dX7_isNameAt_31 rfl 3 rfl ?_
          refine x_iload C dX7_isNameAt_32 0 rfl ?_
          refine x_bald C 22 400 (by decide) (fun _ => rfl) h.1 dX7_isNameAt_34 ?_
          replace h := h.2
          refine x_aload_n C dX7_isNameAt_35 rfl 1 rfl ?_
          refine x_iload_n C dX7_isNameAt_36 rfl 2 rfl ?_
          refine x_iload C dX7_isNameAt_37 5 rfl ?_
          refine x_callVi C FX7_nameByte GX7_nameByte k37 (m_X7_nameByte x1 x4) h (by decide) (fun _ => rfl) rfl (Nat.le_of_ble_eq_true rfl) (Nat.le_of_ble_eq_true rfl) (rest := [(iv (M1 62 (bm (x3 + x4)).toNat))]) (Nat.le_of_ble_eq_true rfl) rfl rfl dX7_isNameAt_39 (fun v5 M5 h => ?_)
          refine x_icmp_eq C 47 dX7_isNameAt_42 (by decide) (fun c6 => ?_) (fun c6 => ?_)
          · replace h := h.1 c6
            refine x_iinc C dX7_isNameAt_47 5 rfl (by decide) [(4, (iv (x4 + 1))), (5, (iv (x3 + x4))), (0, (.ref (K 1))), (1, (iv x1)), (2, (.ref (K 22))), (3, (iv x3))] rfl ?_
            refine x_goto C 3 dX7_isNameAt_50 (by decide) ?_
            refine x_lv (lv' := [(0, (.ref (K 1))), (1, (iv x1)), (2, (.ref (K 22))), (3, (iv x3)), (4, (iv (x4 + 1)))]) [2, 3, 4, 5, 0] rfl ?_
            exact ih x1 x3 (x4 + 1) M5 h
          · replace h := h.2 c6
            refine x_iconst C (n := 0) dX7_isNameAt_45 ?_
            exact hret _ _ _ _ dX7_isNameAt_46 (by unfold isB; decide) h
        · replace h := h.2 c4
          refine x_iconst C (n := 0) dX7_isNameAt_45 ?_
          exact hret _ _ _ _ dX7_isNameAt_46 (by unfold isB; decide) h
    · replace h := h.2 c2
      refine x_iconst C (n := 1) dX7_isNameAt_53 ?_
      exact hret _ _ _ _ dX7_isNameAt_54 (by unfold isB; decide) h
set_option maxHeartbeats 4000000 in
theorem m_X7_isNameAt (a1 : Int) (a3 : Int) : MI l D d K yX7_isNameAt cX7_isNameAt 6 (some .boolean) 1 [(.ref (K 1)), (iv a1), (.ref (K 22)), (iv a3)] (fun Q M => F_X7_isNameAt Q a1 a3 M) := by
  refine s_mz pn_X7 (Nat.le_of_ble_eq_true rfl) [(0, (.ref (K 1))), (1, (iv a1)), (2, (.ref (K 22))), (3, (iv a3))] rfl rfl (fun p e R s m args below meth c A L M zc zs Q Qg C hret h => ?_)
  refine x_iconst C (n := 0) dX7_isNameAt_0 ?_
  refine x_istore C dX7_isNameAt_1 (by decide) [(4, (iv 0)), (0, (.ref (K 1))), (1, (iv a1)), (2, (.ref (K 22))), (3, (iv a3))] rfl ?_
  refine x_lv (lv' := [(0, (.ref (K 1))), (1, (iv a1)), (2, (.ref (K 22))), (3, (iv a3)), (4, (iv 0))]) [1, 2, 3, 4, 0] rfl ?_
  obtain ⟨n9, h⟩ := h
  exact T_X7_isNameAt_3 C hret n9 a1 a3 0 M h
set_option maxHeartbeats 4000000 in
theorem T_X7_find_62 {Q : Int → g_M → Prop} (C : XC p R s m args c D d A cX7_find 5 RX7 2 zc zs) (hret : RTI p l e R s m args below meth c Qg D d K A 5 zc zs L cX7_find Q) {k28 : Int → Int → Int → g_M → Prop} (hk28 : ∀ (x2 : Int) (x3 : Int) (x4 : Int) (M : g_M), k28 x2 x3 x4 M → X p l e R s m args below meth c Qg D d K A 5 zc zs L M [(0, (.ref (K 1))), (1, (.ref (K 22))), (2, (iv x2)), (3, (iv x3)), (4, (iv x4))] 28 []) (x2 : Int) (x3 : Int) (x4 : Int) (M : g_M) (h : F_X7_find_62 Q k28 x2 x3 x4 M) : X p l e R s m args below meth c Qg D d K A 5 zc zs L M [(0, (.ref (K 1))), (1, (.ref (K 22))), (2, (iv x2)), (3, (iv x3)), (4, (iv x4))] 62 [] := by
  refine x_iinc C dX7_find_62 4 rfl (by decide) [(4, (iv (x4 + 1))), (0, (.ref (K 1))), (1, (.ref (K 22))), (2, (iv x2)), (3, (iv x3))] rfl ?_
  refine x_goto C 28 dX7_find_65 (by decide) ?_
  refine x_lv (lv' := [(0, (.ref (K 1))), (1, (.ref (K 22))), (2, (iv x2)), (3, (iv x3)), (4, (iv (x4 + 1)))]) [1, 2, 3, 4, 0] rfl ?_
  exact hk28 x2 x3 (x4 + 1) M h
set_option maxHeartbeats 4000000 in
theorem T_X7_find_28 {Q : Int → g_M → Prop} (C : XC p R s m args c D d A cX7_find 5 RX7 2 zc zs) (hret : RTI p l e R s m args below meth c Qg D d K A 5 zc zs L cX7_find Q) : ∀ (n : Nat) (x2 : Int) (x3 : Int) (x4 : Int) (M : g_M), F_X7_find_28 Q n x2 x3 x4 M → X p l e R s m args below meth c Qg D d K A 5 zc zs L M [(0, (.ref (K 1))), (1, (.ref (K 22))), (2, (iv x2)), (3, (iv x3)), (4, (iv x4))] 28 [] := by
  intro n
  induction n with
  | zero =>
    intro x2 x3 x4 M h
    exact h.elim
  | succ n ih =>
    intro x2 x3 x4 M h
    replace h : ((bm x4 < bm (M 41 7) → ((inI x4 24 ∧ ((bm (M 49 (bm x4).toNat) = bm x3 → (F_X7_isNameAt (fun v7 M7 => ((bm v7 = 0 → (F_X7_find_62 Q (F_X7_find_28 Q n) x2 x3 x4 M7)) ∧ (¬ bm v7 = 0 → (Q x4 M7)))) x4 x2 M)) ∧ (¬ bm (M 49 (bm x4).toNat) = bm x3 → (F_X7_find_62 Q (F_X7_find_28 Q n) x2 x3 x4 M)))))) ∧ (¬ bm x4 < bm (M 41 7) → (Q (-1) M))) := h
    refine x_iload C dX7_find_28 4 rfl ?_
    refine x_aload_n C dX7_find_30 rfl 0 rfl ?_
    refine gf_1_7 C k29 dX7_find_31 ?_
    refine x_icmp_ge C 68 dX7_find_34 (by decide) (fun c5 => ?_) (fun c5 => ?_)
    · replace h := h.1 c5
      refine x_aload_n C dX7_find_37 rfl 0 rfl ?_
      refine gf_1_1 C k30 dX7_find_38 ?_
      refine x_iload C dX7_find_41 4 rfl ?_
      refine x_iald C 9 24 (by decide) (fun _ => rfl) h.1 dX7_find_43 ?_
      replace h := h.2
      refine x_iload_n C dX7_find_44 rfl 3 rfl ?_
      refine x_icmp_ne C 62 dX7_find_45 (by decide) (fun c6 => ?_) (fun c6 => ?_)
      · replace h := h.1 c6
        refine x_aload_n C dX7_find_48 rfl 0 rfl ?_
        refine x_iload C dX7_find_49 4 rfl ?_
        refine x_aload_n C dX7_find_51 rfl 1 rfl ?_
        refine x_iload_n C dX7_find_52 rfl 2 rfl ?_
        refine x_callVi C FX7_isNameAt GX7_isNameAt k41 (m_X7_isNameAt x4 x2) h (by decide) (fun _ => rfl) rfl (Nat.le_of_ble_eq_true rfl) (Nat.le_of_ble_eq_true rfl) (rest := []) (Nat.le_of_ble_eq_true rfl) rfl rfl dX7_find_53 (fun v7 M7 h => ?_)
        refine x_if_eq C 62 dX7_find_56 (by decide) (fun c8 => ?_) (fun c8 => ?_)
        · replace h := h.1 c8
          exact T_X7_find_62 C hret ih x2 x3 x4 M7 h
        · replace h := h.2 c8
          refine x_iload C dX7_find_59 4 rfl ?_
          exact hret _ _ _ _ dX7_find_61 h
      · replace h := h.2 c6
        exact T_X7_find_62 C hret ih x2 x3 x4 M h
    · replace h := h.2 c5
      refine x_iconst C (n := (-1)) dX7_find_68 ?_
      exact hret _ _ _ _ dX7_find_69 h
set_option maxHeartbeats 4000000 in
theorem m_X7_find (a2 : Int) (a3 : Int) : MI l D d K yX7_find cX7_find 5 (some .int) 2 [(.ref (K 1)), (.ref (K 22)), (iv a2), (iv a3)] (fun Q M => F_X7_find Q a2 a3 M) := by
  refine s_mi pn_X7 (Nat.le_of_ble_eq_true rfl) [(0, (.ref (K 1))), (1, (.ref (K 22))), (2, (iv a2)), (3, (iv a3))] rfl rfl (fun p e R s m args below meth c A L M zc zs Q Qg C hret h => ?_)
  refine x_iload_n C dX7_find_0 rfl 2 rfl ?_
  refine x_if_lt C 23 dX7_find_1 (by decide) (fun c1 => ?_) (fun c1 => ?_)
  · replace h := h.1 c1
    refine x_iconst C (n := (-1)) dX7_find_23 ?_
    exact hret _ _ _ _ dX7_find_24 h
  · replace h := h.2 c1
    refine x_iload_n C dX7_find_4 rfl 3 rfl ?_
    refine x_iconst C (n := 1) dX7_find_5 ?_
    refine x_icmp_lt C 23 dX7_find_6 (by decide) (fun c2 => ?_) (fun c2 => ?_)
    · replace h := h.1 c2
      refine x_iconst C (n := (-1)) dX7_find_23 ?_
      exact hret _ _ _ _ dX7_find_24 h
    · replace h := h.2 c2
      refine x_iload_n C dX7_find_9 rfl 3 rfl ?_
      refine x_bipush C (n := 8) (by decide) (by decide) dX7_find_10 ?_
      refine x_icmp_gt C 23 dX7_find_12 (by decide) (fun c3 => ?_) (fun c3 => ?_)
      · replace h := h.1 c3
        refine x_iconst C (n := (-1)) dX7_find_23 ?_
        exact hret _ _ _ _ dX7_find_24 h
      · replace h := h.2 c3
        refine x_iload_n C dX7_find_15 rfl 2 rfl ?_
        refine x_iload_n C dX7_find_16 rfl 3 rfl ?_
        refine x_iadd C dX7_find_17 ?_
        refine x_aload_n C dX7_find_18 rfl 1 rfl ?_
        refine x_alen C 22 400 1 (by decide) (fun _ => rfl) rfl (show Int32.ofNat 400 = Int32.ofInt 400 by decide) dX7_find_19 ?_
        refine x_icmp_le C 25 dX7_find_20 (by decide) (fun c4 => ?_) (fun c4 => ?_)
        · replace h := h.1 c4
          refine x_iconst C (n := (-1)) dX7_find_23 ?_
          exact hret _ _ _ _ dX7_find_24 h
        · replace h := h.2 c4
          refine x_iconst C (n := 0) dX7_find_25 ?_
          refine x_istore C dX7_find_26 (by decide) [(4, (iv 0)), (0, (.ref (K 1))), (1, (.ref (K 22))), (2, (iv a2)), (3, (iv a3))] rfl ?_
          refine x_lv (lv' := [(0, (.ref (K 1))), (1, (.ref (K 22))), (2, (iv a2)), (3, (iv a3)), (4, (iv 0))]) [1, 2, 3, 4, 0] rfl ?_
          obtain ⟨n9, h⟩ := h
          exact T_X7_find_28 C hret n9 a2 a3 0 M h
set_option maxHeartbeats 4000000 in
theorem m_X5_heldSymbol  : MI l D d K yX5_heldSymbol cX5_heldSymbol 1 (some .int) 3 [(.ref (K 6))] (fun Q M => F_X5_heldSymbol Q M) := by
  refine s_mi pn_X5 (Nat.le_of_ble_eq_true rfl) [(0, (.ref (K 6)))] rfl rfl (fun p e R s m args below meth c A L M zc zs Q Qg C hret h => ?_)
  refine x_aload_n C dX5_heldSymbol_0 rfl 0 rfl ?_
  refine gf_6_0 C k28 dX5_heldSymbol_1 ?_
  refine x_aload_n C dX5_heldSymbol_4 rfl 0 rfl ?_
  refine gf_6_2 C k7 dX5_heldSymbol_5 ?_
  refine x_iconst C (n := 0) dX5_heldSymbol_8 ?_
  refine x_aload_n C dX5_heldSymbol_9 rfl 0 rfl ?_
  refine gf_6_3 C k1 dX5_heldSymbol_10 ?_
  refine x_callVi C FX7_find GX7_find k45 (m_X7_find 0 (M 46 3)) h (by decide) (fun _ => rfl) rfl (Nat.le_of_ble_eq_true rfl) (Nat.le_of_ble_eq_true rfl) (rest := []) (Nat.le_of_ble_eq_true rfl) rfl rfl dX5_heldSymbol_13 (fun v1 M1 h => ?_)
  exact hret _ _ _ _ dX5_heldSymbol_16 h
set_option maxHeartbeats 4000000 in
theorem m_X5_drain  : MI l D d K yX5_drain cX5_drain 2 (some .int) 0 [(.ref (K 6))] (fun Q M => F_X5_drain Q M) := by
  refine s_mi pn_X5 (Nat.le_of_ble_eq_true rfl) [(0, (.ref (K 6)))] rfl rfl (fun p e R s m args below meth c A L M zc zs Q Qg C hret h => ?_)
  refine x_aload_n C dX5_drain_0 rfl 0 rfl ?_
  refine gf_6_3 C k1 dX5_drain_1 ?_
  refine x_istore_n C dX5_drain_4 rfl (by decide) [(1, (iv (M 46 3))), (0, (.ref (K 6)))] rfl ?_
  refine x_aload_n C dX5_drain_5 rfl 1 rfl ?_
  refine x_iconst C (n := 0) dX5_drain_6 ?_
  refine pf_6_3 C k1 dX5_drain_7 ?_
  refine x_iload_n C dX5_drain_10 rfl 0 rfl ?_
  exact hret _ _ _ _ dX5_drain_11 h
set_option maxHeartbeats 4000000 in
theorem m_X7_isFull  : MI l D d K yX7_isFull cX7_isFull 1 (some .boolean) 0 [(.ref (K 1))] (fun Q M => F_X7_isFull Q M) := by
  refine s_mz pn_X7 (Nat.le_of_ble_eq_true rfl) [(0, (.ref (K 1)))] rfl rfl (fun p e R s m args below meth c A L M zc zs Q Qg C hret h => ?_)
  refine x_aload_n C dX7_isFull_0 rfl 0 rfl ?_
  refine gf_1_7 C k29 dX7_isFull_1 ?_
  refine x_bipush C (n := 24) (by decide) (by decide) dX7_isFull_4 ?_
  refine x_icmp_lt C 13 dX7_isFull_6 (by decide) (fun c1 => ?_) (fun c1 => ?_)
  · replace h := h.1 c1
    refine x_iconst C (n := 0) dX7_isFull_13 ?_
    exact hret _ _ _ _ dX7_isFull_14 (by unfold isB; decide) h
  · replace h := h.2 c1
    refine x_iconst C (n := 1) dX7_isFull_9 ?_
    refine x_goto C 14 dX7_isFull_10 (by decide) ?_
    exact hret _ _ _ _ dX7_isFull_14 (by unfold isB; decide) h
set_option maxHeartbeats 4000000 in
theorem T_X7_add_32 {Q : Int → g_M → Prop} (C : XC p R s m args c D d A cX7_add 7 RX7 0 zc zs) (hret : RTI p l e R s m args below meth c Qg D d K A 7 zc zs L cX7_add Q) : ∀ (n : Nat) (x2 : Int) (x3 : Int) (x4 : Int) (x5 : Int) (x6 : Int) (M : g_M), F_X7_add_32 Q n x2 x3 x4 x5 x6 M → X p l e R s m args below meth c Qg D d K A 7 zc zs L M [(0, (.ref (K 1))), (1, (.ref (K 22))), (2, (iv x2)), (3, (iv x3)), (4, (iv x4)), (5, (iv x5)), (6, (iv x6))] 32 [] := by
  intro n
  induction n with
  | zero =>
    intro x2 x3 x4 x5 x6 M h
    exact h.elim
  | succ n ih =>
    intro x2 x3 x4 x5 x6 M h
    replace h : ((bm x6 < bm x2 → ((inI x6 400 ∧ (inI ((x5 * 8) + x6) 192 ∧ F_X7_add_32 Q n x2 x3 x4 x5 (x6 + 1) (up M 48 (bm ((x5 * 8) + x6)).toNat (i2b (M 62 (bm x6).toNat))))))) ∧ (¬ bm x6 < bm x2 → ((inI x5 24 ∧ (inI x5 24 ∧ (inI x5 24 ∧ (inI x5 24 ∧ (inI x5 24 ∧ Q x5 (up (up (up (up (up (up M 49 (bm x5).toNat x2) 50 (bm x5).toNat x3) 51 (bm x5).toNat x4) 52 (bm x5).toNat x5) 53 (bm x5).toNat (-1)) 41 7 (((up (up (up (up (up M 49 (bm x5).toNat x2) 50 (bm x5).toNat x3) 51 (bm x5).toNat x4) 52 (bm x5).toNat x5) 53 (bm x5).toNat (-1)) 41 7) + 1)))))))))) := h
    refine x_iload C dX7_add_32 6 rfl ?_
    refine x_iload_n C dX7_add_34 rfl 2 rfl ?_
    refine x_icmp_ge C 61 dX7_add_35 (by decide) (fun c4 => ?_) (fun c4 => ?_)
    · replace h := h.1 c4
      refine x_aload_n C dX7_add_38 rfl 0 rfl ?_
      refine gf_1_0 C k36 dX7_add_39 ?_
      refine x_iload C dX7_add_42 5 rfl ?_
      refine x_bipush C (n := 8) (by decide) (by decide) dX7_add_44 ?_
      refine x_imul C dX7_add_46 ?_
      refine x_iload C dX7_add_47 6 rfl ?_
      refine x_iadd C dX7_add_49 ?_
      refine x_aload_n C dX7_add_50 rfl 1 rfl ?_
      refine x_iload C dX7_add_51 6 rfl ?_
      refine x_bald C 22 400 (by decide) (fun _ => rfl) h.1 dX7_add_53 ?_
      replace h := h.2
      refine x_bast C 8 192 (by decide) (fun _ _ => rfl) h.1 dX7_add_54 ?_
      replace h := h.2
      refine x_iinc C dX7_add_55 6 rfl (by decide) [(6, (iv (x6 + 1))), (0, (.ref (K 1))), (1, (.ref (K 22))), (2, (iv x2)), (3, (iv x3)), (4, (iv x4)), (5, (iv x5))] rfl ?_
      refine x_goto C 32 dX7_add_58 (by decide) ?_
      refine x_lv (lv' := [(0, (.ref (K 1))), (1, (.ref (K 22))), (2, (iv x2)), (3, (iv x3)), (4, (iv x4)), (5, (iv x5)), (6, (iv (x6 + 1)))]) [1, 2, 3, 4, 5, 6, 0] rfl ?_
      exact ih x2 x3 x4 x5 (x6 + 1) (up M 48 (bm ((x5 * 8) + x6)).toNat (i2b (M 62 (bm x6).toNat))) h
    · replace h := h.2 c4
      refine x_aload_n C dX7_add_61 rfl 0 rfl ?_
      refine gf_1_1 C k30 dX7_add_62 ?_
      refine x_iload C dX7_add_65 5 rfl ?_
      refine x_iload_n C dX7_add_67 rfl 2 rfl ?_
      refine x_iast C 9 24 (by decide) (fun _ _ => rfl) h.1 dX7_add_68 ?_
      replace h := h.2
      refine x_aload_n C dX7_add_69 rfl 0 rfl ?_
      refine gf_1_2 C k66 dX7_add_70 ?_
      refine x_iload C dX7_add_73 5 rfl ?_
      refine x_iload_n C dX7_add_75 rfl 3 rfl ?_
      refine x_iast C 10 24 (by decide) (fun _ _ => rfl) h.1 dX7_add_76 ?_
      replace h := h.2
      refine x_aload_n C dX7_add_77 rfl 0 rfl ?_
      refine gf_1_3 C k67 dX7_add_78 ?_
      refine x_iload C dX7_add_81 5 rfl ?_
      refine x_iload C dX7_add_83 4 rfl ?_
      refine x_iast C 11 24 (by decide) (fun _ _ => rfl) h.1 dX7_add_85 ?_
      replace h := h.2
      refine x_aload_n C dX7_add_86 rfl 0 rfl ?_
      refine gf_1_4 C k68 dX7_add_87 ?_
      refine x_iload C dX7_add_90 5 rfl ?_
      refine x_iload C dX7_add_92 5 rfl ?_
      refine x_iast C 12 24 (by decide) (fun _ _ => rfl) h.1 dX7_add_94 ?_
      replace h := h.2
      refine x_aload_n C dX7_add_95 rfl 0 rfl ?_
      refine gf_1_5 C k69 dX7_add_96 ?_
      refine x_iload C dX7_add_99 5 rfl ?_
      refine x_iconst C (n := (-1)) dX7_add_101 ?_
      refine x_iast C 13 24 (by decide) (fun _ _ => rfl) h.1 dX7_add_102 ?_
      replace h := h.2
      refine x_aload_n C dX7_add_103 rfl 0 rfl ?_
      refine x_dup C dX7_add_104 rfl ?_
      refine gf_1_7 C k29 dX7_add_105 ?_
      refine x_iconst C (n := 1) dX7_add_108 ?_
      refine x_iadd C dX7_add_109 ?_
      refine pf_1_7 C k29 dX7_add_110 ?_
      refine x_iload C dX7_add_113 5 rfl ?_
      exact hret _ _ _ _ dX7_add_115 h
set_option maxHeartbeats 4000000 in
theorem m_X7_add (a2 : Int) (a3 : Int) (a4 : Int) : MI l D d K yX7_add cX7_add 7 (some .int) 0 [(.ref (K 1)), (.ref (K 22)), (iv a2), (iv a3), (iv a4)] (fun Q M => F_X7_add Q a2 a3 a4 M) := by
  refine s_mi pn_X7 (Nat.le_of_ble_eq_true rfl) [(0, (.ref (K 1))), (1, (.ref (K 22))), (2, (iv a2)), (3, (iv a3)), (4, (iv a4))] rfl rfl (fun p e R s m args below meth c A L M zc zs Q Qg C hret h => ?_)
  refine x_aload_n C dX7_add_0 rfl 0 rfl ?_
  refine gf_1_7 C k29 dX7_add_1 ?_
  refine x_bipush C (n := 24) (by decide) (by decide) dX7_add_4 ?_
  refine x_icmp_ge C 21 dX7_add_6 (by decide) (fun c1 => ?_) (fun c1 => ?_)
  · replace h := h.1 c1
    refine x_iload_n C dX7_add_9 rfl 2 rfl ?_
    refine x_bipush C (n := 8) (by decide) (by decide) dX7_add_10 ?_
    refine x_icmp_gt C 21 dX7_add_12 (by decide) (fun c2 => ?_) (fun c2 => ?_)
    · replace h := h.1 c2
      refine x_iconst C (n := (-1)) dX7_add_21 ?_
      exact hret _ _ _ _ dX7_add_22 h
    · replace h := h.2 c2
      refine x_iload_n C dX7_add_15 rfl 2 rfl ?_
      refine x_aload_n C dX7_add_16 rfl 1 rfl ?_
      refine x_alen C 22 400 1 (by decide) (fun _ => rfl) rfl (show Int32.ofNat 400 = Int32.ofInt 400 by decide) dX7_add_17 ?_
      refine x_icmp_le C 23 dX7_add_18 (by decide) (fun c3 => ?_) (fun c3 => ?_)
      · replace h := h.1 c3
        refine x_iconst C (n := (-1)) dX7_add_21 ?_
        exact hret _ _ _ _ dX7_add_22 h
      · replace h := h.2 c3
        refine x_aload_n C dX7_add_23 rfl 0 rfl ?_
        refine gf_1_7 C k29 dX7_add_24 ?_
        refine x_istore C dX7_add_27 (by decide) [(5, (iv (M 41 7))), (0, (.ref (K 1))), (1, (.ref (K 22))), (2, (iv a2)), (3, (iv a3)), (4, (iv a4))] rfl ?_
        refine x_iconst C (n := 0) dX7_add_29 ?_
        refine x_istore C dX7_add_30 (by decide) [(6, (iv 0)), (5, (iv (M 41 7))), (0, (.ref (K 1))), (1, (.ref (K 22))), (2, (iv a2)), (3, (iv a3)), (4, (iv a4))] rfl ?_
        refine x_lv (lv' := [(0, (.ref (K 1))), (1, (.ref (K 22))), (2, (iv a2)), (3, (iv a3)), (4, (iv a4)), (5, (iv (M 41 7))), (6, (iv 0))]) [2, 3, 4, 5, 6, 1, 0] rfl ?_
        obtain ⟨n9, h⟩ := h
        exact T_X7_add_32 C hret n9 a2 a3 a4 (M 41 7) 0 M h
  · replace h := h.2 c1
    refine x_iconst C (n := (-1)) dX7_add_21 ?_
    exact hret _ _ _ _ dX7_add_22 h
set_option maxHeartbeats 4000000 in
theorem m_X11_declare (a1 : Int) (a2 : Int) : MI l D d K yX11_declare cX11_declare 6 (some .int) 4 [(.ref (K 0)), (iv a1), (iv a2)] (fun Q M => F_X11_declare Q a1 a2 M) := by
  refine s_mi pn_X11 (Nat.le_of_ble_eq_true rfl) [(0, (.ref (K 0))), (1, (iv a1)), (2, (iv a2))] rfl rfl (fun p e R s m args below meth c A L M zc zs Q Qg C hret h => ?_)
  refine x_aload_n C dX11_declare_0 rfl 0 rfl ?_
  refine gf_0_5 C k0 dX11_declare_1 ?_
  refine x_callVi C FX5_holdsName GX5_holdsName k24 (m_X5_holdsName) h (by decide) (fun _ => rfl) rfl (Nat.le_of_ble_eq_true rfl) (Nat.le_of_ble_eq_true rfl) (rest := []) (Nat.le_of_ble_eq_true rfl) rfl rfl dX11_declare_4 (fun v1 M1 h => ?_)
  refine x_istore_n C dX11_declare_7 rfl (by decide) [(3, (iv v1)), (0, (.ref (K 0))), (1, (iv a1)), (2, (iv a2))] rfl ?_
  refine x_aload_n C dX11_declare_8 rfl 1 rfl ?_
  refine gf_0_5 C k0 dX11_declare_9 ?_
  refine x_callVi C FX5_heldSymbol GX5_heldSymbol k49 (m_X5_heldSymbol) h (by decide) (fun _ => rfl) rfl (Nat.le_of_ble_eq_true rfl) (Nat.le_of_ble_eq_true rfl) (rest := []) (Nat.le_of_ble_eq_true rfl) rfl rfl dX11_declare_12 (fun v2 M2 h => ?_)
  refine x_istore C dX11_declare_15 (by decide) [(4, (iv v2)), (3, (iv v1)), (0, (.ref (K 0))), (1, (iv a1)), (2, (iv a2))] rfl ?_
  refine x_aload_n C dX11_declare_17 rfl 2 rfl ?_
  refine gf_0_5 C k0 dX11_declare_18 ?_
  refine x_callVi C FX5_drain GX5_drain k53 (m_X5_drain) h (by decide) (fun _ => rfl) rfl (Nat.le_of_ble_eq_true rfl) (Nat.le_of_ble_eq_true rfl) (rest := []) (Nat.le_of_ble_eq_true rfl) rfl rfl dX11_declare_21 (fun v3 M3 h => ?_)
  refine x_istore C dX11_declare_24 (by decide) [(5, (iv v3)), (4, (iv v2)), (3, (iv v1)), (0, (.ref (K 0))), (1, (iv a1)), (2, (iv a2))] rfl ?_
  refine x_iload_n C dX11_declare_26 rfl 4 rfl ?_
  refine x_if_lt C 50 dX11_declare_27 (by decide) (fun c4 => ?_) (fun c4 => ?_)
  · replace h := h.1 c4
    exact h.elim
  · replace h := h.2 c4
    refine x_iload_n C dX11_declare_30 rfl 4 rfl ?_
    refine x_iconst C (n := 3) dX11_declare_31 ?_
    refine x_icmp_gt C 50 dX11_declare_32 (by decide) (fun c5 => ?_) (fun c5 => ?_)
    · replace h := h.1 c5
      exact h.elim
    · replace h := h.2 c5
      refine x_iload_n C dX11_declare_35 rfl 5 rfl ?_
      refine x_iconst C (n := 1) dX11_declare_36 ?_
      refine x_icmp_lt C 50 dX11_declare_37 (by decide) (fun c6 => ?_) (fun c6 => ?_)
      · replace h := h.1 c6
        exact h.elim
      · replace h := h.2 c6
        refine x_iload_n C dX11_declare_40 rfl 5 rfl ?_
        refine x_bipush C (n := 9) (by decide) (by decide) dX11_declare_41 ?_
        refine x_icmp_gt C 50 dX11_declare_43 (by decide) (fun c7 => ?_) (fun c7 => ?_)
        · replace h := h.1 c7
          exact h.elim
        · replace h := h.2 c7
          refine x_iload_n C dX11_declare_46 rfl 2 rfl ?_
          refine x_if_ne C 60 dX11_declare_47 (by decide) (fun c8 => ?_) (fun c8 => ?_)
          · replace h := h.1 c8
            exact h.elim
          · replace h := h.2 c8
            refine x_iload C dX11_declare_60 1 rfl ?_
            refine x_iconst C (n := (-1)) dX11_declare_62 ?_
            refine x_icmp_ne C 76 dX11_declare_63 (by decide) (fun c9 => ?_) (fun c9 => ?_)
            · replace h := h.1 c9
              refine x_aload_n C dX11_declare_66 rfl 3 rfl ?_
              refine gf_0_0 C k57 dX11_declare_67 ?_
              refine x_callVi C FX7_isFull GX7_isFull k58 (m_X7_isFull) h (by decide) (fun _ => rfl) rfl (Nat.le_of_ble_eq_true rfl) (Nat.le_of_ble_eq_true rfl) (rest := []) (Nat.le_of_ble_eq_true rfl) rfl rfl dX11_declare_70 (fun v10 M10 h => ?_)
              refine x_if_eq C 86 dX11_declare_73 (by decide) (fun c11 => ?_) (fun c11 => ?_)
              · replace h := h.1 c11
                refine x_aload_n C dX11_declare_86 rfl 3 rfl ?_
                refine gf_0_0 C k57 dX11_declare_87 ?_
                refine x_aload_n C dX11_declare_90 rfl 3 rfl ?_
                refine gf_0_5 C k0 dX11_declare_91 ?_
                refine x_bytes C k65 (Nat.le_of_ble_eq_true rfl) (Nat.le_of_ble_eq_true rfl) dX11_declare_94 ?_
                refine x_iload C dX11_declare_97 0 rfl ?_
                refine x_iload_n C dX11_declare_99 rfl 4 rfl ?_
                refine x_iload_n C dX11_declare_100 rfl 5 rfl ?_
                refine x_callVi C FX7_add GX7_add k70 (m_X7_add v3 a1 a2) h (by decide) (fun _ => rfl) rfl (Nat.le_of_ble_eq_true rfl) (Nat.le_of_ble_eq_true rfl) (rest := []) (Nat.le_of_ble_eq_true rfl) rfl rfl dX11_declare_101 (fun v12 M12 h => ?_)
                exact hret _ _ _ _ dX11_declare_104 h
              · replace h := h.2 c11
                exact h.elim
            · replace h := h.2 c9
              exact h.elim
set_option maxHeartbeats 4000000 in
theorem m_X7_isOrderFixed  : MI l D d K yX7_isOrderFixed cX7_isOrderFixed 1 (some .boolean) 0 [(.ref (K 1))] (fun Q M => F_X7_isOrderFixed Q M) := by
  refine s_mz pn_X7 (Nat.le_of_ble_eq_true rfl) [(0, (.ref (K 1)))] rfl rfl (fun p e R s m args below meth c A L M zc zs Q Qg C hret h => ?_)
  refine x_aload_n C dX7_isOrderFixed_0 rfl 0 rfl ?_
  refine gf_1_10 C k74 dX7_isOrderFixed_1 ?_
  exact hret _ _ _ _ dX7_isOrderFixed_4 h.1 h.2
set_option maxHeartbeats 4000000 in
theorem m_X7_isByWeight  : MI l D d K yX7_isByWeight cX7_isByWeight 1 (some .boolean) 0 [(.ref (K 1))] (fun Q M => F_X7_isByWeight Q M) := by
  refine s_mz pn_X7 (Nat.le_of_ble_eq_true rfl) [(0, (.ref (K 1)))] rfl rfl (fun p e R s m args below meth c A L M zc zs Q Qg C hret h => ?_)
  refine x_aload_n C dX7_isByWeight_0 rfl 0 rfl ?_
  refine gf_1_9 C k79 dX7_isByWeight_1 ?_
  exact hret _ _ _ _ dX7_isByWeight_4 h.1 h.2
set_option maxHeartbeats 4000000 in
theorem m_X7_chooseOrder (a1 : Int) : MV l D d K yX7_chooseOrder cX7_chooseOrder 2 none 0 [(.ref (K 1)), (iv a1)] (fun Q M => F_X7_chooseOrder Q a1 M) := by
  refine s_mv pn_X7 (Nat.le_of_ble_eq_true rfl) [(0, (.ref (K 1))), (1, (iv a1))] rfl rfl (fun p e R s m args below meth c A L M zc zs Q Qg C hret h => ?_)
  refine x_aload_n C dX7_chooseOrder_0 rfl 0 rfl ?_
  refine x_iload_n C dX7_chooseOrder_1 rfl 1 rfl ?_
  refine pf_1_9 C h.1 k79 dX7_chooseOrder_2 ?_
  replace h := h.2
  exact hret _ _ _ dX7_chooseOrder_5 h
set_option maxHeartbeats 4000000 in
theorem m_X11_orderByWeight (a1 : Int) : MI l D d K yX11_orderByWeight cX11_orderByWeight 3 (some .boolean) 1 [(.ref (K 0)), (iv a1)] (fun Q M => F_X11_orderByWeight Q a1 M) := by
  refine s_mz pn_X11 (Nat.le_of_ble_eq_true rfl) [(0, (.ref (K 0))), (1, (iv a1))] rfl rfl (fun p e R s m args below meth c A L M zc zs Q Qg C hret h => ?_)
  refine x_aload_n C dX11_orderByWeight_0 rfl 0 rfl ?_
  refine gf_0_0 C k57 dX11_orderByWeight_1 ?_
  refine x_callVi C FX7_isOrderFixed GX7_isOrderFixed k75 (m_X7_isOrderFixed) h (by decide) (fun _ => rfl) rfl (Nat.le_of_ble_eq_true rfl) (Nat.le_of_ble_eq_true rfl) (rest := []) (Nat.le_of_ble_eq_true rfl) rfl rfl dX11_orderByWeight_4 (fun v1 M1 h => ?_)
  refine x_if_eq C 20 dX11_orderByWeight_7 (by decide) (fun c2 => ?_) (fun c2 => ?_)
  · replace h := h.1 c2
    refine x_aload_n C dX11_orderByWeight_20 rfl 0 rfl ?_
    refine gf_0_0 C k57 dX11_orderByWeight_21 ?_
    refine x_callVi C FX7_isByWeight GX7_isByWeight k80 (m_X7_isByWeight) h (by decide) (fun _ => rfl) rfl (Nat.le_of_ble_eq_true rfl) (Nat.le_of_ble_eq_true rfl) (rest := []) (Nat.le_of_ble_eq_true rfl) rfl rfl dX11_orderByWeight_24 (fun v3 M3 h => ?_)
    refine x_istore_n C dX11_orderByWeight_27 rfl (by decide) [(2, (iv v3)), (0, (.ref (K 0))), (1, (iv a1))] rfl ?_
    refine x_aload_n C dX11_orderByWeight_28 rfl 1 rfl ?_
    refine gf_0_0 C k57 dX11_orderByWeight_29 ?_
    refine x_iload_n C dX11_orderByWeight_32 rfl 2 rfl ?_
    refine x_callVv C FX7_chooseOrder GX7_chooseOrder k84 (m_X7_chooseOrder a1) h (by decide) (fun _ => rfl) rfl (Nat.le_of_ble_eq_true rfl) (Nat.le_of_ble_eq_true rfl) (rest := []) (Nat.le_of_ble_eq_true rfl) rfl rfl dX11_orderByWeight_33 (fun M4 h => ?_)
    refine x_iload_n C dX11_orderByWeight_36 rfl 0 rfl ?_
    exact hret _ _ _ _ dX11_orderByWeight_37 h.1 h.2
  · replace h := h.2 c2
    exact h.elim
set_option maxHeartbeats 4000000 in
theorem m_X7_has (a1 : Int) : MI l D d K yX7_has cX7_has 2 (some .boolean) 0 [(.ref (K 1)), (iv a1)] (fun Q M => F_X7_has Q a1 M) := by
  refine s_mz pn_X7 (Nat.le_of_ble_eq_true rfl) [(0, (.ref (K 1))), (1, (iv a1))] rfl rfl (fun p e R s m args below meth c A L M zc zs Q Qg C hret h => ?_)
  refine x_iload_n C dX7_has_0 rfl 1 rfl ?_
  refine x_if_lt C 16 dX7_has_1 (by decide) (fun c1 => ?_) (fun c1 => ?_)
  · replace h := h.1 c1
    refine x_iconst C (n := 0) dX7_has_16 ?_
    exact hret _ _ _ _ dX7_has_17 (by unfold isB; decide) h
  · replace h := h.2 c1
    refine x_iload_n C dX7_has_4 rfl 1 rfl ?_
    refine x_aload_n C dX7_has_5 rfl 0 rfl ?_
    refine gf_1_7 C k29 dX7_has_6 ?_
    refine x_icmp_ge C 16 dX7_has_9 (by decide) (fun c2 => ?_) (fun c2 => ?_)
    · replace h := h.1 c2
      refine x_iconst C (n := 1) dX7_has_12 ?_
      refine x_goto C 17 dX7_has_13 (by decide) ?_
      exact hret _ _ _ _ dX7_has_17 (by unfold isB; decide) h
    · replace h := h.2 c2
      refine x_iconst C (n := 0) dX7_has_16 ?_
      exact hret _ _ _ _ dX7_has_17 (by unfold isB; decide) h
set_option maxHeartbeats 4000000 in
theorem m_X7_rank (a1 : Int) : MI l D d K yX7_rank cX7_rank 2 (some .int) 0 [(.ref (K 1)), (iv a1)] (fun Q M => F_X7_rank Q a1 M) := by
  refine s_mi pn_X7 (Nat.le_of_ble_eq_true rfl) [(0, (.ref (K 1))), (1, (iv a1))] rfl rfl (fun p e R s m args below meth c A L M zc zs Q Qg C hret h => ?_)
  refine x_iload_n C dX7_rank_0 rfl 1 rfl ?_
  refine x_if_lt C 21 dX7_rank_1 (by decide) (fun c1 => ?_) (fun c1 => ?_)
  · replace h := h.1 c1
    refine x_iconst C (n := 0) dX7_rank_21 ?_
    exact hret _ _ _ _ dX7_rank_22 h
  · replace h := h.2 c1
    refine x_iload_n C dX7_rank_4 rfl 1 rfl ?_
    refine x_aload_n C dX7_rank_5 rfl 0 rfl ?_
    refine gf_1_7 C k29 dX7_rank_6 ?_
    refine x_icmp_ge C 21 dX7_rank_9 (by decide) (fun c2 => ?_) (fun c2 => ?_)
    · replace h := h.1 c2
      refine x_aload_n C dX7_rank_12 rfl 0 rfl ?_
      refine gf_1_4 C k68 dX7_rank_13 ?_
      refine x_iload_n C dX7_rank_16 rfl 1 rfl ?_
      refine x_iald C 12 24 (by decide) (fun _ => rfl) h.1 dX7_rank_17 ?_
      replace h := h.2
      refine x_goto C 22 dX7_rank_18 (by decide) ?_
      exact hret _ _ _ _ dX7_rank_22 h
    · replace h := h.2 c2
      refine x_iconst C (n := 0) dX7_rank_21 ?_
      exact hret _ _ _ _ dX7_rank_22 h
set_option maxHeartbeats 4000000 in
theorem T_X7_moveTo_101 {Q : g_M → Prop} (C : XC p R s m args c D d A cX7_moveTo 5 RX7 0 zc zs) (hret : RTV p l e R s m args below meth c Qg D d K A 5 zc zs L cX7_moveTo Q) {k23 : Int → Int → Int → Int → g_M → Prop} (hk23 : ∀ (x1 : Int) (x2 : Int) (x3 : Int) (x4 : Int) (M : g_M), k23 x1 x2 x3 x4 M → X p l e R s m args below meth c Qg D d K A 5 zc zs L M [(0, (.ref (K 1))), (1, (iv x1)), (2, (iv x2)), (3, (iv x3)), (4, (iv x4))] 23 []) (x1 : Int) (x2 : Int) (x3 : Int) (x4 : Int) (M : g_M) (h : F_X7_moveTo_101 Q k23 x1 x2 x3 x4 M) : X p l e R s m args below meth c Qg D d K A 5 zc zs L M [(0, (.ref (K 1))), (1, (iv x1)), (2, (iv x2)), (3, (iv x3)), (4, (iv x4))] 101 [] := by
  refine x_iinc C dX7_moveTo_101 4 rfl (by decide) [(4, (iv (x4 + 1))), (0, (.ref (K 1))), (1, (iv x1)), (2, (iv x2)), (3, (iv x3))] rfl ?_
  refine x_goto C 23 dX7_moveTo_104 (by decide) ?_
  refine x_lv (lv' := [(0, (.ref (K 1))), (1, (iv x1)), (2, (iv x2)), (3, (iv x3)), (4, (iv (x4 + 1)))]) [1, 2, 3, 4, 0] rfl ?_
  exact hk23 x1 x2 x3 (x4 + 1) M h
set_option maxHeartbeats 4000000 in
theorem T_X7_moveTo_68 {Q : g_M → Prop} (C : XC p R s m args c D d A cX7_moveTo 5 RX7 0 zc zs) (hret : RTV p l e R s m args below meth c Qg D d K A 5 zc zs L cX7_moveTo Q) {k23 : Int → Int → Int → Int → g_M → Prop} (hk23 : ∀ (x1 : Int) (x2 : Int) (x3 : Int) (x4 : Int) (M : g_M), k23 x1 x2 x3 x4 M → X p l e R s m args below meth c Qg D d K A 5 zc zs L M [(0, (.ref (K 1))), (1, (iv x1)), (2, (iv x2)), (3, (iv x3)), (4, (iv x4))] 23 []) (x1 : Int) (x2 : Int) (x3 : Int) (x4 : Int) (M : g_M) (h : F_X7_moveTo_68 Q k23 x1 x2 x3 x4 M) : X p l e R s m args below meth c Qg D d K A 5 zc zs L M [(0, (.ref (K 1))), (1, (iv x1)), (2, (iv x2)), (3, (iv x3)), (4, (iv x4))] 68 [] := by
  refine x_aload_n C dX7_moveTo_68 rfl 0 rfl ?_
  refine gf_1_4 C k68 dX7_moveTo_69 ?_
  refine x_iload C dX7_moveTo_72 4 rfl ?_
  refine x_iald C 12 24 (by decide) (fun _ => rfl) h.1 dX7_moveTo_74 ?_
  replace h := h.2
  refine x_iload_n C dX7_moveTo_75 rfl 3 rfl ?_
  refine x_icmp_ge C 101 dX7_moveTo_76 (by decide) (fun c6 => ?_) (fun c6 => ?_)
  · replace h := h.1 c6
    refine x_aload_n C dX7_moveTo_79 rfl 0 rfl ?_
    refine gf_1_4 C k68 dX7_moveTo_80 ?_
    refine x_iload C dX7_moveTo_83 4 rfl ?_
    refine x_iald C 12 24 (by decide) (fun _ => rfl) h.1 dX7_moveTo_85 ?_
    replace h := h.2
    refine x_iload_n C dX7_moveTo_86 rfl 2 rfl ?_
    refine x_icmp_lt C 101 dX7_moveTo_87 (by decide) (fun c7 => ?_) (fun c7 => ?_)
    · replace h := h.1 c7
      exact T_X7_moveTo_101 C hret hk23 x1 x2 x3 x4 M h
    · replace h := h.2 c7
      refine x_aload_n C dX7_moveTo_90 rfl 0 rfl ?_
      refine gf_1_4 C k68 dX7_moveTo_91 ?_
      refine x_iload C dX7_moveTo_94 4 rfl ?_
      refine x_dup2 C dX7_moveTo_96 rfl rfl ?_
      refine x_iald C 12 24 (by decide) (fun _ => rfl) h.1 dX7_moveTo_97 ?_
      replace h := h.2
      refine x_iconst C (n := 1) dX7_moveTo_98 ?_
      refine x_iadd C dX7_moveTo_99 ?_
      refine x_iast C 12 24 (by decide) (fun _ _ => rfl) h.1 dX7_moveTo_100 ?_
      replace h := h.2
      exact T_X7_moveTo_101 C hret hk23 x1 x2 x3 x4 (up M 52 (bm x4).toNat ((M 52 (bm x4).toNat) + 1)) h
  · replace h := h.2 c6
    exact T_X7_moveTo_101 C hret hk23 x1 x2 x3 x4 M h
set_option maxHeartbeats 4000000 in
theorem T_X7_moveTo_23 {Q : g_M → Prop} (C : XC p R s m args c D d A cX7_moveTo 5 RX7 0 zc zs) (hret : RTV p l e R s m args below meth c Qg D d K A 5 zc zs L cX7_moveTo Q) : ∀ (n : Nat) (x1 : Int) (x2 : Int) (x3 : Int) (x4 : Int) (M : g_M), F_X7_moveTo_23 Q n x1 x2 x3 x4 M → X p l e R s m args below meth c Qg D d K A 5 zc zs L M [(0, (.ref (K 1))), (1, (iv x1)), (2, (iv x2)), (3, (iv x3)), (4, (iv x4))] 23 [] := by
  intro n
  induction n with
  | zero =>
    intro x1 x2 x3 x4 M h
    exact h.elim
  | succ n ih =>
    intro x1 x2 x3 x4 M h
    replace h : ((bm x4 < bm (M 41 7) → ((inI x4 24 ∧ ((bm x3 < bm (M 52 (bm x4).toNat) → ((inI x4 24 ∧ ((bm x2 < bm (M 52 (bm x4).toNat) → (F_X7_moveTo_68 Q (F_X7_moveTo_23 Q n) x1 x2 x3 x4 M)) ∧ (¬ bm x2 < bm (M 52 (bm x4).toNat) → ((inI x4 24 ∧ (inI x4 24 ∧ F_X7_moveTo_101 Q (F_X7_moveTo_23 Q n) x1 x2 x3 x4 (up M 52 (bm x4).toNat ((M 52 (bm x4).toNat) - 1)))))))))) ∧ (¬ bm x3 < bm (M 52 (bm x4).toNat) → (F_X7_moveTo_68 Q (F_X7_moveTo_23 Q n) x1 x2 x3 x4 M)))))) ∧ (¬ bm x4 < bm (M 41 7) → ((inI x1 24 ∧ Q (up M 52 (bm x1).toNat x2))))) := h
    refine x_iload C dX7_moveTo_23 4 rfl ?_
    refine x_aload_n C dX7_moveTo_25 rfl 0 rfl ?_
    refine gf_1_7 C k29 dX7_moveTo_26 ?_
    refine x_icmp_ge C 107 dX7_moveTo_29 (by decide) (fun c3 => ?_) (fun c3 => ?_)
    · replace h := h.1 c3
      refine x_aload_n C dX7_moveTo_32 rfl 0 rfl ?_
      refine gf_1_4 C k68 dX7_moveTo_33 ?_
      refine x_iload C dX7_moveTo_36 4 rfl ?_
      refine x_iald C 12 24 (by decide) (fun _ => rfl) h.1 dX7_moveTo_38 ?_
      replace h := h.2
      refine x_iload_n C dX7_moveTo_39 rfl 3 rfl ?_
      refine x_icmp_le C 68 dX7_moveTo_40 (by decide) (fun c4 => ?_) (fun c4 => ?_)
      · replace h := h.1 c4
        refine x_aload_n C dX7_moveTo_43 rfl 0 rfl ?_
        refine gf_1_4 C k68 dX7_moveTo_44 ?_
        refine x_iload C dX7_moveTo_47 4 rfl ?_
        refine x_iald C 12 24 (by decide) (fun _ => rfl) h.1 dX7_moveTo_49 ?_
        replace h := h.2
        refine x_iload_n C dX7_moveTo_50 rfl 2 rfl ?_
        refine x_icmp_gt C 68 dX7_moveTo_51 (by decide) (fun c5 => ?_) (fun c5 => ?_)
        · replace h := h.1 c5
          exact T_X7_moveTo_68 C hret ih x1 x2 x3 x4 M h
        · replace h := h.2 c5
          refine x_aload_n C dX7_moveTo_54 rfl 0 rfl ?_
          refine gf_1_4 C k68 dX7_moveTo_55 ?_
          refine x_iload C dX7_moveTo_58 4 rfl ?_
          refine x_dup2 C dX7_moveTo_60 rfl rfl ?_
          refine x_iald C 12 24 (by decide) (fun _ => rfl) h.1 dX7_moveTo_61 ?_
          replace h := h.2
          refine x_iconst C (n := 1) dX7_moveTo_62 ?_
          refine x_isub C dX7_moveTo_63 ?_
          refine x_iast C 12 24 (by decide) (fun _ _ => rfl) h.1 dX7_moveTo_64 ?_
          replace h := h.2
          refine x_goto C 101 dX7_moveTo_65 (by decide) ?_
          exact T_X7_moveTo_101 C hret ih x1 x2 x3 x4 (up M 52 (bm x4).toNat ((M 52 (bm x4).toNat) - 1)) h
      · replace h := h.2 c4
        exact T_X7_moveTo_68 C hret ih x1 x2 x3 x4 M h
    · replace h := h.2 c3
      refine x_aload_n C dX7_moveTo_107 rfl 0 rfl ?_
      refine gf_1_4 C k68 dX7_moveTo_108 ?_
      refine x_iload_n C dX7_moveTo_111 rfl 1 rfl ?_
      refine x_iload_n C dX7_moveTo_112 rfl 2 rfl ?_
      refine x_iast C 12 24 (by decide) (fun _ _ => rfl) h.1 dX7_moveTo_113 ?_
      replace h := h.2
      exact hret _ _ _ dX7_moveTo_114 h
set_option maxHeartbeats 4000000 in
theorem m_X7_moveTo (a1 : Int) (a2 : Int) : MV l D d K yX7_moveTo cX7_moveTo 5 none 0 [(.ref (K 1)), (iv a1), (iv a2)] (fun Q M => F_X7_moveTo Q a1 a2 M) := by
  refine s_mv pn_X7 (Nat.le_of_ble_eq_true rfl) [(0, (.ref (K 1))), (1, (iv a1)), (2, (iv a2))] rfl rfl (fun p e R s m args below meth c A L M zc zs Q Qg C hret h => ?_)
  refine x_iload_n C dX7_moveTo_0 rfl 1 rfl ?_
  refine x_if_lt C 12 dX7_moveTo_1 (by decide) (fun c1 => ?_) (fun c1 => ?_)
  · replace h := h.1 c1
    exact hret _ _ _ dX7_moveTo_12 h
  · replace h := h.2 c1
    refine x_iload_n C dX7_moveTo_4 rfl 1 rfl ?_
    refine x_aload_n C dX7_moveTo_5 rfl 0 rfl ?_
    refine gf_1_7 C k29 dX7_moveTo_6 ?_
    refine x_icmp_lt C 13 dX7_moveTo_9 (by decide) (fun c2 => ?_) (fun c2 => ?_)
    · replace h := h.1 c2
      refine x_aload_n C dX7_moveTo_13 rfl 0 rfl ?_
      refine gf_1_4 C k68 dX7_moveTo_14 ?_
      refine x_iload_n C dX7_moveTo_17 rfl 1 rfl ?_
      refine x_iald C 12 24 (by decide) (fun _ => rfl) h.1 dX7_moveTo_18 ?_
      replace h := h.2
      refine x_istore_n C dX7_moveTo_19 rfl (by decide) [(3, (iv (M 52 (bm a1).toNat))), (0, (.ref (K 1))), (1, (iv a1)), (2, (iv a2))] rfl ?_
      refine x_iconst C (n := 0) dX7_moveTo_20 ?_
      refine x_istore C dX7_moveTo_21 (by decide) [(4, (iv 0)), (3, (iv (M 52 (bm a1).toNat))), (0, (.ref (K 1))), (1, (iv a1)), (2, (iv a2))] rfl ?_
      refine x_lv (lv' := [(0, (.ref (K 1))), (1, (iv a1)), (2, (iv a2)), (3, (iv (M 52 (bm a1).toNat))), (4, (iv 0))]) [2, 3, 4, 1, 0] rfl ?_
      obtain ⟨n9, h⟩ := h
      exact T_X7_moveTo_23 C hret n9 a1 a2 (M 52 (bm a1).toNat) 0 M h
    · replace h := h.2 c2
      exact hret _ _ _ dX7_moveTo_12 h
end XW
