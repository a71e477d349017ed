section XW
variable {p : Program} {l : Launch} {e : Env} {R : Room} {s : State} {m : MethodId} {args : Array Value} {below : List Frame} {meth : Method} {c : Code} {Qg : State → Prop} {D : va_G} {d : Nat → ClassId} {K : Nat → Nat} {A : Nat → Prop} {zc zs : Int} {L : va_W} {KN : Nat → Nat} {b Ls : Nat} {xs : Nat → Int32}
set_option maxHeartbeats 4000000 in
theorem T_L_law_463 (hlf : l.stackTraces = false)  (C : XC p R s m args c D d A cL_law 19 RL 8 zc zs) (hscr : SC b Ls xs s A) (hret : ∀ (M N : g_M) (lv : List (Nat × Value)) (pc : Nat), decode cL_law pc = .ok (.ireturn, 1) → X p l e R s m args below meth c Qg D d K A 19 zc zs (lw KN d N) M lv pc [iv 1]) {k81 : Int → Int → Int → g_M → g_M → Prop} (hk81 : ∀ (x9 : Int) (x10 : Int) (x11 : Int) (M N : g_M), k81 x9 x10 x11 M N → X p l e R s m args below meth c Qg D d K A 19 zc zs (lw KN d N) M [(0, (.ref b)), (1, (.ref (K 0))), (2, (.ref (KN 0))), (3, (.ref (KN 1))), (4, (.ref (KN 2))), (5, (.ref (KN 3))), (6, (.ref (KN 4))), (7, (.ref (KN 5))), (8, (.ref (KN 6))), (9, (iv x9)), (10, (iv x10)), (11, (iv x11))] 81 []) {k284 : Int → Int → Int → Int → Int → g_M → g_M → Prop} (hk284 : ∀ (x9 : Int) (x10 : Int) (x11 : Int) (x12 : Int) (x14 : Int) (M N : g_M), k284 x9 x10 x11 x12 x14 M N → X p l e R s m args below meth c Qg D d K A 19 zc zs (lw KN d N) M [(0, (.ref b)), (1, (.ref (K 0))), (2, (.ref (KN 0))), (3, (.ref (KN 1))), (4, (.ref (KN 2))), (5, (.ref (KN 3))), (6, (.ref (KN 4))), (7, (.ref (KN 5))), (8, (.ref (KN 6))), (9, (iv x9)), (10, (iv x10)), (11, (iv x11)), (12, (iv x12)), (14, (iv x14))] 284 []) (x9 : Int) (x10 : Int) (x11 : Int) (x12 : Int) (x14 : Int) (M N : g_M) (h : F_L_law_463 Ls xs k81 k284 x9 x10 x11 x12 x14 M N) : X p l e R s m args below meth c Qg D d K A 19 zc zs (lw KN d N) M [(0, (.ref b)), (1, (.ref (K 0))), (2, (.ref (KN 0))), (3, (.ref (KN 1))), (4, (.ref (KN 2))), (5, (.ref (KN 3))), (6, (.ref (KN 4))), (7, (.ref (KN 5))), (8, (.ref (KN 6))), (9, (iv x9)), (10, (iv x10)), (11, (iv x11)), (12, (iv x12)), (14, (iv x14))] 463 [] := by
  refine x_iinc C dL_law_463 13 rfl (by decide) [(14, (iv (x14 + 1))), (0, (.ref b)), (1, (.ref (K 0))), (2, (.ref (KN 0))), (3, (.ref (KN 1))), (4, (.ref (KN 2))), (5, (.ref (KN 3))), (6, (.ref (KN 4))), (7, (.ref (KN 5))), (8, (.ref (KN 6))), (9, (iv x9)), (10, (iv x10)), (11, (iv x11)), (12, (iv x12))] rfl ?_
  refine x_goto C 284 dL_law_466 (by decide) ?_
  refine x_lv (lv' := [(0, (.ref b)), (1, (.ref (K 0))), (2, (.ref (KN 0))), (3, (.ref (KN 1))), (4, (.ref (KN 2))), (5, (.ref (KN 3))), (6, (.ref (KN 4))), (7, (.ref (KN 5))), (8, (.ref (KN 6))), (9, (iv x9)), (10, (iv x10)), (11, (iv x11)), (12, (iv x12)), (14, (iv (x14 + 1)))]) [1, 2, 3, 4, 5, 6, 7, 8, 9, 10, 11, 12, 13, 0] rfl ?_
  exact hk284 x9 x10 x11 x12 (x14 + 1) M N h
set_option maxHeartbeats 4000000 in
theorem T_L_law_444 (hlf : l.stackTraces = false)  (C : XC p R s m args c D d A cL_law 19 RL 8 zc zs) (hscr : SC b Ls xs s A) (hret : ∀ (M N : g_M) (lv : List (Nat × Value)) (pc : Nat), decode cL_law pc = .ok (.ireturn, 1) → X p l e R s m args below meth c Qg D d K A 19 zc zs (lw KN d N) M lv pc [iv 1]) {k81 : Int → Int → Int → g_M → g_M → Prop} (hk81 : ∀ (x9 : Int) (x10 : Int) (x11 : Int) (M N : g_M), k81 x9 x10 x11 M N → X p l e R s m args below meth c Qg D d K A 19 zc zs (lw KN d N) M [(0, (.ref b)), (1, (.ref (K 0))), (2, (.ref (KN 0))), (3, (.ref (KN 1))), (4, (.ref (KN 2))), (5, (.ref (KN 3))), (6, (.ref (KN 4))), (7, (.ref (KN 5))), (8, (.ref (KN 6))), (9, (iv x9)), (10, (iv x10)), (11, (iv x11))] 81 []) {k284 : Int → Int → Int → Int → Int → g_M → g_M → Prop} (hk284 : ∀ (x9 : Int) (x10 : Int) (x11 : Int) (x12 : Int) (x14 : Int) (M N : g_M), k284 x9 x10 x11 x12 x14 M N → X p l e R s m args below meth c Qg D d K A 19 zc zs (lw KN d N) M [(0, (.ref b)), (1, (.ref (K 0))), (2, (.ref (KN 0))), (3, (.ref (KN 1))), (4, (.ref (KN 2))), (5, (.ref (KN 3))), (6, (.ref (KN 4))), (7, (.ref (KN 5))), (8, (.ref (KN 6))), (9, (iv x9)), (10, (iv x10)), (11, (iv x11)), (12, (iv x12)), (14, (iv x14))] 284 []) (x9 : Int) (x10 : Int) (x11 : Int) (x12 : Int) (x14 : Int) (x15 : Int) (t0 : Int) (t1 : Int) (M N : g_M) (h : F_L_law_444 Ls xs k81 k284 x9 x10 x11 x12 x14 x15 t0 t1 M N) : X p l e R s m args below meth c Qg D d K A 19 zc zs (lw KN d N) M [(0, (.ref b)), (1, (.ref (K 0))), (2, (.ref (KN 0))), (3, (.ref (KN 1))), (4, (.ref (KN 2))), (5, (.ref (KN 3))), (6, (.ref (KN 4))), (7, (.ref (KN 5))), (8, (.ref (KN 6))), (9, (iv x9)), (10, (iv x10)), (11, (iv x11)), (12, (iv x12)), (14, (iv x14)), (15, (iv x15))] 444 [(iv t1), (iv t0)] := by
  refine x_icmp_ne C 461 dL_law_444 (by decide) (fun c40 => ?_) (fun c40 => ?_)
  · replace h := h.1 c40
    refine x_iload C dL_law_447 14 rfl ?_
    refine x_if_lt C 463 dL_law_449 (by decide) (fun c41 => ?_) (fun c41 => ?_)
    · replace h := h.1 c41
      refine x_lv (lv' := [(0, (.ref b)), (1, (.ref (K 0))), (2, (.ref (KN 0))), (3, (.ref (KN 1))), (4, (.ref (KN 2))), (5, (.ref (KN 3))), (6, (.ref (KN 4))), (7, (.ref (KN 5))), (8, (.ref (KN 6))), (9, (iv x9)), (10, (iv x10)), (11, (iv x11)), (12, (iv x12)), (14, (iv x14))]) [0, 1, 2, 3, 4, 5, 6, 7, 8, 9, 10, 11, 12, 13] rfl ?_
      exact T_L_law_463 hlf C hscr hret hk81 hk284 x9 x10 x11 x12 x14 M N h
    · replace h := h.2 c41
      refine x_aload_n C dL_law_452 rfl 1 rfl ?_
      refine x_iload C dL_law_453 14 rfl ?_
      refine x_callVi C FX11_stepCount GX11_stepCount k686 (m_X11_stepCount x15) h (by decide) (fun _ => rfl) rfl (Nat.le_of_ble_eq_true rfl) (Nat.le_of_ble_eq_true rfl) (rest := []) (Nat.le_of_ble_eq_true rfl) rfl rfl dL_law_455 (fun v42 M42 h => ?_)
      refine x_if_eq C 463 dL_law_458 (by decide) (fun c43 => ?_) (fun c43 => ?_)
      · replace h := h.1 c43
        refine x_lv (lv' := [(0, (.ref b)), (1, (.ref (K 0))), (2, (.ref (KN 0))), (3, (.ref (KN 1))), (4, (.ref (KN 2))), (5, (.ref (KN 3))), (6, (.ref (KN 4))), (7, (.ref (KN 5))), (8, (.ref (KN 6))), (9, (iv x9)), (10, (iv x10)), (11, (iv x11)), (12, (iv x12)), (14, (iv x14))]) [0, 1, 2, 3, 4, 5, 6, 7, 8, 9, 10, 11, 12, 13] rfl ?_
        exact T_L_law_463 hlf C hscr hret hk81 hk284 x9 x10 x11 x12 x14 M42 N h
      · replace h := h.2 c43
        refine x_iconst C (n := 0) dL_law_461 ?_
        exact h.elim
  · replace h := h.2 c40
    refine x_iconst C (n := 0) dL_law_461 ?_
    exact h.elim
set_option maxHeartbeats 4000000 in
theorem T_L_law_430 (hlf : l.stackTraces = false)  (C : XC p R s m args c D d A cL_law 19 RL 8 zc zs) (hscr : SC b Ls xs s A) (hret : ∀ (M N : g_M) (lv : List (Nat × Value)) (pc : Nat), decode cL_law pc = .ok (.ireturn, 1) → X p l e R s m args below meth c Qg D d K A 19 zc zs (lw KN d N) M lv pc [iv 1]) {k81 : Int → Int → Int → g_M → g_M → Prop} (hk81 : ∀ (x9 : Int) (x10 : Int) (x11 : Int) (M N : g_M), k81 x9 x10 x11 M N → X p l e R s m args below meth c Qg D d K A 19 zc zs (lw KN d N) M [(0, (.ref b)), (1, (.ref (K 0))), (2, (.ref (KN 0))), (3, (.ref (KN 1))), (4, (.ref (KN 2))), (5, (.ref (KN 3))), (6, (.ref (KN 4))), (7, (.ref (KN 5))), (8, (.ref (KN 6))), (9, (iv x9)), (10, (iv x10)), (11, (iv x11))] 81 []) {k284 : Int → Int → Int → Int → Int → g_M → g_M → Prop} (hk284 : ∀ (x9 : Int) (x10 : Int) (x11 : Int) (x12 : Int) (x14 : Int) (M N : g_M), k284 x9 x10 x11 x12 x14 M N → X p l e R s m args below meth c Qg D d K A 19 zc zs (lw KN d N) M [(0, (.ref b)), (1, (.ref (K 0))), (2, (.ref (KN 0))), (3, (.ref (KN 1))), (4, (.ref (KN 2))), (5, (.ref (KN 3))), (6, (.ref (KN 4))), (7, (.ref (KN 5))), (8, (.ref (KN 6))), (9, (iv x9)), (10, (iv x10)), (11, (iv x11)), (12, (iv x12)), (14, (iv x14))] 284 []) (x9 : Int) (x10 : Int) (x11 : Int) (x12 : Int) (x14 : Int) (x15 : Int) (t0 : Int) (M N : g_M) (h : F_L_law_430 Ls xs k81 k284 x9 x10 x11 x12 x14 x15 t0 M N) : X p l e R s m args below meth c Qg D d K A 19 zc zs (lw KN d N) M [(0, (.ref b)), (1, (.ref (K 0))), (2, (.ref (KN 0))), (3, (.ref (KN 1))), (4, (.ref (KN 2))), (5, (.ref (KN 3))), (6, (.ref (KN 4))), (7, (.ref (KN 5))), (8, (.ref (KN 6))), (9, (iv x9)), (10, (iv x10)), (11, (iv x11)), (12, (iv x12)), (14, (iv x14)), (15, (iv x15))] 430 [(iv t0)] := by
  refine x_iload C dL_law_430 14 rfl ?_
  refine x_aload_n C dL_law_432 rfl 2 rfl ?_
  refine x_iload C dL_law_433 13 rfl ?_
  refine y_iald C 0 14 (by decide) (by rfl) h.1 dL_law_435 ?_
  replace h := h.2
  refine x_icmp_ne C 443 dL_law_436 (by decide) (fun c39 => ?_) (fun c39 => ?_)
  · replace h := h.1 c39
    refine x_iconst C (n := 1) dL_law_439 ?_
    refine x_goto C 444 dL_law_440 (by decide) ?_
    exact T_L_law_444 hlf C hscr hret hk81 hk284 x9 x10 x11 x12 x14 x15 t0 1 M N h
  · replace h := h.2 c39
    refine x_iconst C (n := 0) dL_law_443 ?_
    exact T_L_law_444 hlf C hscr hret hk81 hk284 x9 x10 x11 x12 x14 x15 t0 0 M N h
set_option maxHeartbeats 4000000 in
theorem T_L_law_414 (hlf : l.stackTraces = false)  (C : XC p R s m args c D d A cL_law 19 RL 8 zc zs) (hscr : SC b Ls xs s A) (hret : ∀ (M N : g_M) (lv : List (Nat × Value)) (pc : Nat), decode cL_law pc = .ok (.ireturn, 1) → X p l e R s m args below meth c Qg D d K A 19 zc zs (lw KN d N) M lv pc [iv 1]) {k81 : Int → Int → Int → g_M → g_M → Prop} (hk81 : ∀ (x9 : Int) (x10 : Int) (x11 : Int) (M N : g_M), k81 x9 x10 x11 M N → X p l e R s m args below meth c Qg D d K A 19 zc zs (lw KN d N) M [(0, (.ref b)), (1, (.ref (K 0))), (2, (.ref (KN 0))), (3, (.ref (KN 1))), (4, (.ref (KN 2))), (5, (.ref (KN 3))), (6, (.ref (KN 4))), (7, (.ref (KN 5))), (8, (.ref (KN 6))), (9, (iv x9)), (10, (iv x10)), (11, (iv x11))] 81 []) {k284 : Int → Int → Int → Int → Int → g_M → g_M → Prop} (hk284 : ∀ (x9 : Int) (x10 : Int) (x11 : Int) (x12 : Int) (x14 : Int) (M N : g_M), k284 x9 x10 x11 x12 x14 M N → X p l e R s m args below meth c Qg D d K A 19 zc zs (lw KN d N) M [(0, (.ref b)), (1, (.ref (K 0))), (2, (.ref (KN 0))), (3, (.ref (KN 1))), (4, (.ref (KN 2))), (5, (.ref (KN 3))), (6, (.ref (KN 4))), (7, (.ref (KN 5))), (8, (.ref (KN 6))), (9, (iv x9)), (10, (iv x10)), (11, (iv x11)), (12, (iv x12)), (14, (iv x14))] 284 []) (x9 : Int) (x10 : Int) (x11 : Int) (x12 : Int) (x14 : Int) (x15 : Int) (M N : g_M) (h : F_L_law_414 Ls xs k81 k284 x9 x10 x11 x12 x14 x15 M N) : X p l e R s m args below meth c Qg D d K A 19 zc zs (lw KN d N) M [(0, (.ref b)), (1, (.ref (K 0))), (2, (.ref (KN 0))), (3, (.ref (KN 1))), (4, (.ref (KN 2))), (5, (.ref (KN 3))), (6, (.ref (KN 4))), (7, (.ref (KN 5))), (8, (.ref (KN 6))), (9, (iv x9)), (10, (iv x10)), (11, (iv x11)), (12, (iv x12)), (14, (iv x14)), (15, (iv x15))] 414 [] := by
  refine x_aload_n C dL_law_414 rfl 1 rfl ?_
  refine x_aload_n C dL_law_415 rfl 2 rfl ?_
  refine x_iload C dL_law_416 13 rfl ?_
  refine y_iald C 0 14 (by decide) (by rfl) h.1 dL_law_418 ?_
  replace h := h.2
  refine x_callVi C FX11_stepCount GX11_stepCount k686 (m_X11_stepCount (N 0 (bm x14).toNat)) h (by decide) (fun _ => rfl) rfl (Nat.le_of_ble_eq_true rfl) (Nat.le_of_ble_eq_true rfl) (rest := []) (Nat.le_of_ble_eq_true rfl) rfl rfl dL_law_419 (fun v37 M37 h => ?_)
  refine x_if_ne C 429 dL_law_422 (by decide) (fun c38 => ?_) (fun c38 => ?_)
  · replace h := h.1 c38
    refine x_iconst C (n := 1) dL_law_425 ?_
    refine x_goto C 430 dL_law_426 (by decide) ?_
    exact T_L_law_430 hlf C hscr hret hk81 hk284 x9 x10 x11 x12 x14 x15 1 M37 N h
  · replace h := h.2 c38
    refine x_iconst C (n := 0) dL_law_429 ?_
    exact T_L_law_430 hlf C hscr hret hk81 hk284 x9 x10 x11 x12 x14 x15 0 M37 N h
set_option maxHeartbeats 4000000 in
theorem T_L_law_389 (hlf : l.stackTraces = false)  (C : XC p R s m args c D d A cL_law 19 RL 8 zc zs) (hscr : SC b Ls xs s A) (hret : ∀ (M N : g_M) (lv : List (Nat × Value)) (pc : Nat), decode cL_law pc = .ok (.ireturn, 1) → X p l e R s m args below meth c Qg D d K A 19 zc zs (lw KN d N) M lv pc [iv 1]) {k81 : Int → Int → Int → g_M → g_M → Prop} (hk81 : ∀ (x9 : Int) (x10 : Int) (x11 : Int) (M N : g_M), k81 x9 x10 x11 M N → X p l e R s m args below meth c Qg D d K A 19 zc zs (lw KN d N) M [(0, (.ref b)), (1, (.ref (K 0))), (2, (.ref (KN 0))), (3, (.ref (KN 1))), (4, (.ref (KN 2))), (5, (.ref (KN 3))), (6, (.ref (KN 4))), (7, (.ref (KN 5))), (8, (.ref (KN 6))), (9, (iv x9)), (10, (iv x10)), (11, (iv x11))] 81 []) {k284 : Int → Int → Int → Int → Int → g_M → g_M → Prop} (hk284 : ∀ (x9 : Int) (x10 : Int) (x11 : Int) (x12 : Int) (x14 : Int) (M N : g_M), k284 x9 x10 x11 x12 x14 M N → X p l e R s m args below meth c Qg D d K A 19 zc zs (lw KN d N) M [(0, (.ref b)), (1, (.ref (K 0))), (2, (.ref (KN 0))), (3, (.ref (KN 1))), (4, (.ref (KN 2))), (5, (.ref (KN 3))), (6, (.ref (KN 4))), (7, (.ref (KN 5))), (8, (.ref (KN 6))), (9, (iv x9)), (10, (iv x10)), (11, (iv x11)), (12, (iv x12)), (14, (iv x14))] 284 []) (x9 : Int) (x10 : Int) (x11 : Int) (x12 : Int) (x14 : Int) (x15 : Int) (x16 : Int) (x18 : Int) (M N : g_M) (h : F_L_law_389 Ls xs k81 k284 x9 x10 x11 x12 x14 x15 x16 x18 M N) : X p l e R s m args below meth c Qg D d K A 19 zc zs (lw KN d N) M [(0, (.ref b)), (1, (.ref (K 0))), (2, (.ref (KN 0))), (3, (.ref (KN 1))), (4, (.ref (KN 2))), (5, (.ref (KN 3))), (6, (.ref (KN 4))), (7, (.ref (KN 5))), (8, (.ref (KN 6))), (9, (iv x9)), (10, (iv x10)), (11, (iv x11)), (12, (iv x12)), (14, (iv x14)), (15, (iv x15)), (16, (iv x16)), (18, (iv x18))] 389 [] := by
  refine x_iload C dL_law_389 14 rfl ?_
  refine x_if_lt C 414 dL_law_391 (by decide) (fun c32 => ?_) (fun c32 => ?_)
  · replace h := h.1 c32
    refine x_lv (lv' := [(0, (.ref b)), (1, (.ref (K 0))), (2, (.ref (KN 0))), (3, (.ref (KN 1))), (4, (.ref (KN 2))), (5, (.ref (KN 3))), (6, (.ref (KN 4))), (7, (.ref (KN 5))), (8, (.ref (KN 6))), (9, (iv x9)), (10, (iv x10)), (11, (iv x11)), (12, (iv x12)), (14, (iv x14)), (15, (iv x15))]) [0, 1, 2, 3, 4, 5, 6, 7, 8, 9, 10, 11, 12, 13, 14] rfl ?_
    exact T_L_law_414 hlf C hscr hret hk81 hk284 x9 x10 x11 x12 x14 x15 M N h
  · replace h := h.2 c32
    refine x_iload C dL_law_394 16 rfl ?_
    refine x_if_eq C 414 dL_law_396 (by decide) (fun c33 => ?_) (fun c33 => ?_)
    · replace h := h.1 c33
      refine x_lv (lv' := [(0, (.ref b)), (1, (.ref (K 0))), (2, (.ref (KN 0))), (3, (.ref (KN 1))), (4, (.ref (KN 2))), (5, (.ref (KN 3))), (6, (.ref (KN 4))), (7, (.ref (KN 5))), (8, (.ref (KN 6))), (9, (iv x9)), (10, (iv x10)), (11, (iv x11)), (12, (iv x12)), (14, (iv x14)), (15, (iv x15))]) [0, 1, 2, 3, 4, 5, 6, 7, 8, 9, 10, 11, 12, 13, 14] rfl ?_
      exact T_L_law_414 hlf C hscr hret hk81 hk284 x9 x10 x11 x12 x14 x15 M N h
    · replace h := h.2 c33
      refine x_aload_n C dL_law_399 rfl 1 rfl ?_
      refine x_aload_n C dL_law_400 rfl 2 rfl ?_
      refine x_iload C dL_law_401 15 rfl ?_
      refine y_iald C 0 14 (by decide) (by rfl) h.1 dL_law_403 ?_
      replace h := h.2
      refine x_iload C dL_law_404 14 rfl ?_
      refine x_callVi C FX11_compare GX11_compare k682 (m_X11_compare (N 0 (bm x16).toNat) x15) h (by decide) (fun _ => rfl) rfl (Nat.le_of_ble_eq_true rfl) (Nat.le_of_ble_eq_true rfl) (rest := []) (Nat.le_of_ble_eq_true rfl) rfl rfl dL_law_406 (fun v34 M34 h => ?_)
      refine x_if_ge C 414 dL_law_409 (by decide) (fun c35 => ?_) (fun c35 => ?_)
      · replace h := h.1 c35
        refine x_iconst C (n := 0) dL_law_412 ?_
        exact h.elim
      · replace h := h.2 c35
        refine x_lv (lv' := [(0, (.ref b)), (1, (.ref (K 0))), (2, (.ref (KN 0))), (3, (.ref (KN 1))), (4, (.ref (KN 2))), (5, (.ref (KN 3))), (6, (.ref (KN 4))), (7, (.ref (KN 5))), (8, (.ref (KN 6))), (9, (iv x9)), (10, (iv x10)), (11, (iv x11)), (12, (iv x12)), (14, (iv x14)), (15, (iv x15))]) [0, 1, 2, 3, 4, 5, 6, 7, 8, 9, 10, 11, 12, 13, 14] rfl ?_
        exact T_L_law_414 hlf C hscr hret hk81 hk284 x9 x10 x11 x12 x14 x15 M34 N h
set_option maxHeartbeats 4000000 in
theorem T_L_law_384 (hlf : l.stackTraces = false)  (C : XC p R s m args c D d A cL_law 19 RL 8 zc zs) (hscr : SC b Ls xs s A) (hret : ∀ (M N : g_M) (lv : List (Nat × Value)) (pc : Nat), decode cL_law pc = .ok (.ireturn, 1) → X p l e R s m args below meth c Qg D d K A 19 zc zs (lw KN d N) M lv pc [iv 1]) {k81 : Int → Int → Int → g_M → g_M → Prop} (hk81 : ∀ (x9 : Int) (x10 : Int) (x11 : Int) (M N : g_M), k81 x9 x10 x11 M N → X p l e R s m args below meth c Qg D d K A 19 zc zs (lw KN d N) M [(0, (.ref b)), (1, (.ref (K 0))), (2, (.ref (KN 0))), (3, (.ref (KN 1))), (4, (.ref (KN 2))), (5, (.ref (KN 3))), (6, (.ref (KN 4))), (7, (.ref (KN 5))), (8, (.ref (KN 6))), (9, (iv x9)), (10, (iv x10)), (11, (iv x11))] 81 []) {k284 : Int → Int → Int → Int → Int → g_M → g_M → Prop} (hk284 : ∀ (x9 : Int) (x10 : Int) (x11 : Int) (x12 : Int) (x14 : Int) (M N : g_M), k284 x9 x10 x11 x12 x14 M N → X p l e R s m args below meth c Qg D d K A 19 zc zs (lw KN d N) M [(0, (.ref b)), (1, (.ref (K 0))), (2, (.ref (KN 0))), (3, (.ref (KN 1))), (4, (.ref (KN 2))), (5, (.ref (KN 3))), (6, (.ref (KN 4))), (7, (.ref (KN 5))), (8, (.ref (KN 6))), (9, (iv x9)), (10, (iv x10)), (11, (iv x11)), (12, (iv x12)), (14, (iv x14))] 284 []) (x9 : Int) (x10 : Int) (x11 : Int) (x12 : Int) (x14 : Int) (x15 : Int) (x16 : Int) (x18 : Int) (t0 : Int) (M N : g_M) (h : F_L_law_384 Ls xs k81 k284 x9 x10 x11 x12 x14 x15 x16 x18 t0 M N) : X p l e R s m args below meth c Qg D d K A 19 zc zs (lw KN d N) M [(0, (.ref b)), (1, (.ref (K 0))), (2, (.ref (KN 0))), (3, (.ref (KN 1))), (4, (.ref (KN 2))), (5, (.ref (KN 3))), (6, (.ref (KN 4))), (7, (.ref (KN 5))), (8, (.ref (KN 6))), (9, (iv x9)), (10, (iv x10)), (11, (iv x11)), (12, (iv x12)), (14, (iv x14)), (15, (iv x15)), (16, (iv x16)), (18, (iv x18))] 384 [(iv t0)] := by
  refine x_iload C dL_law_384 16 rfl ?_
  refine x_icmp_ne C 412 dL_law_386 (by decide) (fun c36 => ?_) (fun c36 => ?_)
  · replace h := h.1 c36
    exact T_L_law_389 hlf C hscr hret hk81 hk284 x9 x10 x11 x12 x14 x15 x16 x18 M N h
  · replace h := h.2 c36
    refine x_iconst C (n := 0) dL_law_412 ?_
    exact h.elim
set_option maxHeartbeats 4000000 in
theorem T_L_law_343 (hlf : l.stackTraces = false)  (C : XC p R s m args c D d A cL_law 19 RL 8 zc zs) (hscr : SC b Ls xs s A) (hret : ∀ (M N : g_M) (lv : List (Nat × Value)) (pc : Nat), decode cL_law pc = .ok (.ireturn, 1) → X p l e R s m args below meth c Qg D d K A 19 zc zs (lw KN d N) M lv pc [iv 1]) {k81 : Int → Int → Int → g_M → g_M → Prop} (hk81 : ∀ (x9 : Int) (x10 : Int) (x11 : Int) (M N : g_M), k81 x9 x10 x11 M N → X p l e R s m args below meth c Qg D d K A 19 zc zs (lw KN d N) M [(0, (.ref b)), (1, (.ref (K 0))), (2, (.ref (KN 0))), (3, (.ref (KN 1))), (4, (.ref (KN 2))), (5, (.ref (KN 3))), (6, (.ref (KN 4))), (7, (.ref (KN 5))), (8, (.ref (KN 6))), (9, (iv x9)), (10, (iv x10)), (11, (iv x11))] 81 []) {k284 : Int → Int → Int → Int → Int → g_M → g_M → Prop} (hk284 : ∀ (x9 : Int) (x10 : Int) (x11 : Int) (x12 : Int) (x14 : Int) (M N : g_M), k284 x9 x10 x11 x12 x14 M N → X p l e R s m args below meth c Qg D d K A 19 zc zs (lw KN d N) M [(0, (.ref b)), (1, (.ref (K 0))), (2, (.ref (KN 0))), (3, (.ref (KN 1))), (4, (.ref (KN 2))), (5, (.ref (KN 3))), (6, (.ref (KN 4))), (7, (.ref (KN 5))), (8, (.ref (KN 6))), (9, (iv x9)), (10, (iv x10)), (11, (iv x11)), (12, (iv x12)), (14, (iv x14))] 284 []) (x9 : Int) (x10 : Int) (x11 : Int) (x12 : Int) (x14 : Int) (x15 : Int) (x16 : Int) (x17 : Int) (t0 : Int) (M N : g_M) (h : F_L_law_343 Ls xs k81 k284 x9 x10 x11 x12 x14 x15 x16 x17 t0 M N) : X p l e R s m args below meth c Qg D d K A 19 zc zs (lw KN d N) M [(0, (.ref b)), (1, (.ref (K 0))), (2, (.ref (KN 0))), (3, (.ref (KN 1))), (4, (.ref (KN 2))), (5, (.ref (KN 3))), (6, (.ref (KN 4))), (7, (.ref (KN 5))), (8, (.ref (KN 6))), (9, (iv x9)), (10, (iv x10)), (11, (iv x11)), (12, (iv x12)), (14, (iv x14)), (15, (iv x15)), (16, (iv x16)), (17, (iv x17))] 343 [(iv t0)] := by
  refine x_istore C dL_law_343 (by decide) [(18, (iv t0)), (0, (.ref b)), (1, (.ref (K 0))), (2, (.ref (KN 0))), (3, (.ref (KN 1))), (4, (.ref (KN 2))), (5, (.ref (KN 3))), (6, (.ref (KN 4))), (7, (.ref (KN 5))), (8, (.ref (KN 6))), (9, (iv x9)), (10, (iv x10)), (11, (iv x11)), (12, (iv x12)), (14, (iv x14)), (15, (iv x15)), (16, (iv x16)), (17, (iv x17))] rfl ?_
  refine x_aload_n C dL_law_345 rfl 2 rfl ?_
  refine x_aload_n C dL_law_346 rfl 3 rfl ?_
  refine x_iload C dL_law_347 14 rfl ?_
  refine y_iald C 0 14 (by decide) (by rfl) h.1 dL_law_349 ?_
  replace h := h.2
  refine x_aload_n C dL_law_350 rfl 3 rfl ?_
  refine x_iload C dL_law_351 16 rfl ?_
  refine y_iald C 0 14 (by decide) (by rfl) h.1 dL_law_353 ?_
  replace h := h.2
  refine x_callVi C FX11_areEqual GX11_areEqual k678 (m_X11_areEqual (N 0 (bm x14).toNat) (N 0 (bm x16).toNat)) h (by decide) (fun _ => rfl) rfl (Nat.le_of_ble_eq_true rfl) (Nat.le_of_ble_eq_true rfl) (rest := []) (Nat.le_of_ble_eq_true rfl) rfl rfl dL_law_354 (fun v27 M27 h => ?_)
  refine x_iload C dL_law_357 0 rfl ?_
  refine x_icmp_ne C 412 dL_law_359 (by decide) (fun c28 => ?_) (fun c28 => ?_)
  · replace h := h.1 c28
    refine x_iload C dL_law_362 15 rfl ?_
    refine x_if_lt C 389 dL_law_364 (by decide) (fun c29 => ?_) (fun c29 => ?_)
    · replace h := h.1 c29
      refine x_lv (lv' := [(0, (.ref b)), (1, (.ref (K 0))), (2, (.ref (KN 0))), (3, (.ref (KN 1))), (4, (.ref (KN 2))), (5, (.ref (KN 3))), (6, (.ref (KN 4))), (7, (.ref (KN 5))), (8, (.ref (KN 6))), (9, (iv x9)), (10, (iv x10)), (11, (iv x11)), (12, (iv x12)), (14, (iv x14)), (15, (iv x15)), (16, (iv x16)), (18, (iv t0))]) [1, 2, 3, 4, 5, 6, 7, 8, 9, 10, 11, 12, 13, 14, 15, 16, 0] rfl ?_
      exact T_L_law_389 hlf C hscr hret hk81 hk284 x9 x10 x11 x12 x14 x15 x16 t0 M27 N h
    · replace h := h.2 c29
      refine x_iload C dL_law_367 17 rfl ?_
      refine x_if_lt C 389 dL_law_369 (by decide) (fun c30 => ?_) (fun c30 => ?_)
      · replace h := h.1 c30
        refine x_lv (lv' := [(0, (.ref b)), (1, (.ref (K 0))), (2, (.ref (KN 0))), (3, (.ref (KN 1))), (4, (.ref (KN 2))), (5, (.ref (KN 3))), (6, (.ref (KN 4))), (7, (.ref (KN 5))), (8, (.ref (KN 6))), (9, (iv x9)), (10, (iv x10)), (11, (iv x11)), (12, (iv x12)), (14, (iv x14)), (15, (iv x15)), (16, (iv x16)), (18, (iv t0))]) [1, 2, 3, 4, 5, 6, 7, 8, 9, 10, 11, 12, 13, 14, 15, 16, 0] rfl ?_
        exact T_L_law_389 hlf C hscr hret hk81 hk284 x9 x10 x11 x12 x14 x15 x16 t0 M27 N h
      · replace h := h.2 c30
        refine x_iload C dL_law_372 15 rfl ?_
        refine x_iload C dL_law_374 17 rfl ?_
        refine x_icmp_ne C 383 dL_law_376 (by decide) (fun c31 => ?_) (fun c31 => ?_)
        · replace h := h.1 c31
          refine x_iconst C (n := 1) dL_law_379 ?_
          refine x_goto C 384 dL_law_380 (by decide) ?_
          refine x_lv (lv' := [(0, (.ref b)), (1, (.ref (K 0))), (2, (.ref (KN 0))), (3, (.ref (KN 1))), (4, (.ref (KN 2))), (5, (.ref (KN 3))), (6, (.ref (KN 4))), (7, (.ref (KN 5))), (8, (.ref (KN 6))), (9, (iv x9)), (10, (iv x10)), (11, (iv x11)), (12, (iv x12)), (14, (iv x14)), (15, (iv x15)), (16, (iv x16)), (18, (iv t0))]) [1, 2, 3, 4, 5, 6, 7, 8, 9, 10, 11, 12, 13, 14, 15, 16, 0] rfl ?_
          exact T_L_law_384 hlf C hscr hret hk81 hk284 x9 x10 x11 x12 x14 x15 x16 t0 1 M27 N h
        · replace h := h.2 c31
          refine x_iconst C (n := 0) dL_law_383 ?_
          refine x_lv (lv' := [(0, (.ref b)), (1, (.ref (K 0))), (2, (.ref (KN 0))), (3, (.ref (KN 1))), (4, (.ref (KN 2))), (5, (.ref (KN 3))), (6, (.ref (KN 4))), (7, (.ref (KN 5))), (8, (.ref (KN 6))), (9, (iv x9)), (10, (iv x10)), (11, (iv x11)), (12, (iv x12)), (14, (iv x14)), (15, (iv x15)), (16, (iv x16)), (18, (iv t0))]) [1, 2, 3, 4, 5, 6, 7, 8, 9, 10, 11, 12, 13, 14, 15, 16, 0] rfl ?_
          exact T_L_law_384 hlf C hscr hret hk81 hk284 x9 x10 x11 x12 x14 x15 x16 t0 0 M27 N h
  · replace h := h.2 c28
    refine x_iconst C (n := 0) dL_law_412 ?_
    exact h.elim
set_option maxHeartbeats 4000000 in
theorem T_L_law_284 (hlf : l.stackTraces = false)  (C : XC p R s m args c D d A cL_law 19 RL 8 zc zs) (hscr : SC b Ls xs s A) (hret : ∀ (M N : g_M) (lv : List (Nat × Value)) (pc : Nat), decode cL_law pc = .ok (.ireturn, 1) → X p l e R s m args below meth c Qg D d K A 19 zc zs (lw KN d N) M lv pc [iv 1]) {k81 : Int → Int → Int → g_M → g_M → Prop} (hk81 : ∀ (x9 : Int) (x10 : Int) (x11 : Int) (M N : g_M), k81 x9 x10 x11 M N → X p l e R s m args below meth c Qg D d K A 19 zc zs (lw KN d N) M [(0, (.ref b)), (1, (.ref (K 0))), (2, (.ref (KN 0))), (3, (.ref (KN 1))), (4, (.ref (KN 2))), (5, (.ref (KN 3))), (6, (.ref (KN 4))), (7, (.ref (KN 5))), (8, (.ref (KN 6))), (9, (iv x9)), (10, (iv x10)), (11, (iv x11))] 81 []) : ∀ (n : Nat) (x9 : Int) (x10 : Int) (x11 : Int) (x12 : Int) (x14 : Int) (M N : g_M), F_L_law_284 Ls xs k81 n x9 x10 x11 x12 x14 M N → X p l e R s m args below meth c Qg D d K A 19 zc zs (lw KN d N) M [(0, (.ref b)), (1, (.ref (K 0))), (2, (.ref (KN 0))), (3, (.ref (KN 1))), (4, (.ref (KN 2))), (5, (.ref (KN 3))), (6, (.ref (KN 4))), (7, (.ref (KN 5))), (8, (.ref (KN 6))), (9, (iv x9)), (10, (iv x10)), (11, (iv x11)), (12, (iv x12)), (14, (iv x14))] 284 [] := by
  intro n
  induction n with
  | zero =>
    intro x9 x10 x11 x12 x14 M N h
    exact h.elim
  | succ n ih =>
    intro x9 x10 x11 x12 x14 M N h
    replace h : ((bm x14 < bm 14 → ((inI x14 14 ∧ F_L_normal (fun v22 M22 => F_L_below (fun v23 M23 => (inI v23 14 ∧ F_L_normal (fun v24 M24 => (inI x14 14 ∧ (inI v23 14 ∧ ((bm (N 3 (bm x14).toNat) = bm (N 3 (bm v23).toNat) → (F_L_law_343 Ls xs k81 (F_L_law_284 Ls xs k81 n) x9 x10 x11 x12 x14 v22 v23 v24 1 M24 N)) ∧ (¬ bm (N 3 (bm x14).toNat) = bm (N 3 (bm v23).toNat) → (F_L_law_343 Ls xs k81 (F_L_law_284 Ls xs k81 n) x9 x10 x11 x12 x14 v22 v23 v24 0 M24 N)))))) (N 0 (bm v23).toNat) M23)) ((5 * x14) + x12) 14 M22) (N 0 (bm x14).toNat) M))) ∧ (¬ bm x14 < bm 14 → (k81 x9 x10 (x11 + 1) M N))) := h
    refine x_iload C dL_law_284 13 rfl ?_
    refine x_bipush C (n := 14) (by decide) (by decide) dL_law_286 ?_
    refine x_icmp_ge C 469 dL_law_288 (by decide) (fun c21 => ?_) (fun c21 => ?_)
    · replace h := h.1 c21
      refine x_aload_n C dL_law_291 rfl 1 rfl ?_
      refine x_aload_n C dL_law_292 rfl 2 rfl ?_
      refine x_iload C dL_law_293 13 rfl ?_
      refine y_iald C 0 14 (by decide) (by rfl) h.1 dL_law_295 ?_
      replace h := h.2
      refine x_callWi C FL_normal k677 k675 (m_L_normal hlf (N 0 (bm x14).toNat)) h (Nat.le_of_ble_eq_true rfl) (Nat.le_of_ble_eq_true rfl) (rest := []) (Nat.le_of_ble_eq_true rfl) rfl rfl dL_law_296 (fun v22 M22 h => ?_)
      refine x_istore C dL_law_299 (by decide) [(15, (iv v22)), (0, (.ref b)), (1, (.ref (K 0))), (2, (.ref (KN 0))), (3, (.ref (KN 1))), (4, (.ref (KN 2))), (5, (.ref (KN 3))), (6, (.ref (KN 4))), (7, (.ref (KN 5))), (8, (.ref (KN 6))), (9, (iv x9)), (10, (iv x10)), (11, (iv x11)), (12, (iv x12)), (14, (iv x14))] rfl ?_
      refine x_iconst C (n := 5) dL_law_301 ?_
      refine x_iload C dL_law_302 14 rfl ?_
      refine x_imul C dL_law_304 ?_
      refine x_iload C dL_law_305 13 rfl ?_
      refine x_iadd C dL_law_307 ?_
      refine x_bipush C (n := 14) (by decide) (by decide) dL_law_308 ?_
      refine x_callSi C FL_below k606 k603 (m_L_below ((5 * x14) + x12) 14) h (Nat.le_of_ble_eq_true rfl) (Nat.le_of_ble_eq_true rfl) (rest := []) (Nat.le_of_ble_eq_true rfl) rfl rfl dL_law_310 (fun v23 M23 h => ?_)
      refine x_istore C dL_law_313 (by decide) [(16, (iv v23)), (15, (iv v22)), (0, (.ref b)), (1, (.ref (K 0))), (2, (.ref (KN 0))), (3, (.ref (KN 1))), (4, (.ref (KN 2))), (5, (.ref (KN 3))), (6, (.ref (KN 4))), (7, (.ref (KN 5))), (8, (.ref (KN 6))), (9, (iv x9)), (10, (iv x10)), (11, (iv x11)), (12, (iv x12)), (14, (iv x14))] rfl ?_
      refine x_aload_n C dL_law_315 rfl 3 rfl ?_
      refine x_aload_n C dL_law_316 rfl 4 rfl ?_
      refine x_iload C dL_law_317 0 rfl ?_
      refine y_iald C 0 14 (by decide) (by rfl) h.1 dL_law_319 ?_
      replace h := h.2
      refine x_callWi C FL_normal k677 k675 (m_L_normal hlf (N 0 (bm v23).toNat)) h (Nat.le_of_ble_eq_true rfl) (Nat.le_of_ble_eq_true rfl) (rest := []) (Nat.le_of_ble_eq_true rfl) rfl rfl dL_law_320 (fun v24 M24 h => ?_)
      refine x_istore C dL_law_323 (by decide) [(17, (iv v24)), (16, (iv v23)), (15, (iv v22)), (0, (.ref b)), (1, (.ref (K 0))), (2, (.ref (KN 0))), (3, (.ref (KN 1))), (4, (.ref (KN 2))), (5, (.ref (KN 3))), (6, (.ref (KN 4))), (7, (.ref (KN 5))), (8, (.ref (KN 6))), (9, (iv x9)), (10, (iv x10)), (11, (iv x11)), (12, (iv x12)), (14, (iv x14))] rfl ?_
      refine x_aload C dL_law_325 8 rfl ?_
      refine x_iload C dL_law_327 16 rfl ?_
      refine y_iald C 3 14 (by decide) (by rfl) h.1 dL_law_329 ?_
      replace h := h.2
      refine x_aload C dL_law_330 8 rfl ?_
      refine x_iload C dL_law_332 1 rfl ?_
      refine y_iald C 3 14 (by decide) (by rfl) h.1 dL_law_334 ?_
      replace h := h.2
      refine x_icmp_ne C 342 dL_law_335 (by decide) (fun c25 => ?_) (fun c25 => ?_)
      · replace h := h.1 c25
        refine x_iconst C (n := 1) dL_law_338 ?_
        refine x_goto C 343 dL_law_339 (by decide) ?_
        refine x_lv (lv' := [(0, (.ref b)), (1, (.ref (K 0))), (2, (.ref (KN 0))), (3, (.ref (KN 1))), (4, (.ref (KN 2))), (5, (.ref (KN 3))), (6, (.ref (KN 4))), (7, (.ref (KN 5))), (8, (.ref (KN 6))), (9, (iv x9)), (10, (iv x10)), (11, (iv x11)), (12, (iv x12)), (14, (iv x14)), (15, (iv v22)), (16, (iv v23)), (17, (iv v24))]) [3, 4, 5, 6, 7, 8, 9, 10, 11, 12, 13, 14, 15, 16, 2, 1, 0] rfl ?_
        exact T_L_law_343 hlf C hscr hret hk81 ih x9 x10 x11 x12 x14 v22 v23 v24 1 M24 N h
      · replace h := h.2 c25
        refine x_iconst C (n := 0) dL_law_342 ?_
        refine x_lv (lv' := [(0, (.ref b)), (1, (.ref (K 0))), (2, (.ref (KN 0))), (3, (.ref (KN 1))), (4, (.ref (KN 2))), (5, (.ref (KN 3))), (6, (.ref (KN 4))), (7, (.ref (KN 5))), (8, (.ref (KN 6))), (9, (iv x9)), (10, (iv x10)), (11, (iv x11)), (12, (iv x12)), (14, (iv x14)), (15, (iv v22)), (16, (iv v23)), (17, (iv v24))]) [3, 4, 5, 6, 7, 8, 9, 10, 11, 12, 13, 14, 15, 16, 2, 1, 0] rfl ?_
        exact T_L_law_343 hlf C hscr hret hk81 ih x9 x10 x11 x12 x14 v22 v23 v24 0 M24 N h
    · replace h := h.2 c21
      refine x_iinc C dL_law_469 11 rfl (by decide) [(11, (iv (x11 + 1))), (0, (.ref b)), (1, (.ref (K 0))), (2, (.ref (KN 0))), (3, (.ref (KN 1))), (4, (.ref (KN 2))), (5, (.ref (KN 3))), (6, (.ref (KN 4))), (7, (.ref (KN 5))), (8, (.ref (KN 6))), (9, (iv x9)), (10, (iv x10)), (12, (iv x12)), (14, (iv x14))] rfl ?_
      refine x_goto C 81 dL_law_472 (by decide) ?_
      refine x_lv (lv' := [(0, (.ref b)), (1, (.ref (K 0))), (2, (.ref (KN 0))), (3, (.ref (KN 1))), (4, (.ref (KN 2))), (5, (.ref (KN 3))), (6, (.ref (KN 4))), (7, (.ref (KN 5))), (8, (.ref (KN 6))), (9, (iv x9)), (10, (iv x10)), (11, (iv (x11 + 1)))]) [1, 2, 3, 4, 5, 6, 7, 8, 9, 10, 11, 0] rfl ?_
      exact hk81 x9 x10 (x11 + 1) M N h
set_option maxHeartbeats 4000000 in
theorem T_L_law_254 (hlf : l.stackTraces = false)  (C : XC p R s m args c D d A cL_law 19 RL 8 zc zs) (hscr : SC b Ls xs s A) (hret : ∀ (M N : g_M) (lv : List (Nat × Value)) (pc : Nat), decode cL_law pc = .ok (.ireturn, 1) → X p l e R s m args below meth c Qg D d K A 19 zc zs (lw KN d N) M lv pc [iv 1]) {k81 : Int → Int → Int → g_M → g_M → Prop} (hk81 : ∀ (x9 : Int) (x10 : Int) (x11 : Int) (M N : g_M), k81 x9 x10 x11 M N → X p l e R s m args below meth c Qg D d K A 19 zc zs (lw KN d N) M [(0, (.ref b)), (1, (.ref (K 0))), (2, (.ref (KN 0))), (3, (.ref (KN 1))), (4, (.ref (KN 2))), (5, (.ref (KN 3))), (6, (.ref (KN 4))), (7, (.ref (KN 5))), (8, (.ref (KN 6))), (9, (iv x9)), (10, (iv x10)), (11, (iv x11))] 81 []) (x9 : Int) (x10 : Int) (x11 : Int) (x12 : Int) (M N : g_M) (h : F_L_law_254 Ls xs k81 x9 x10 x11 x12 M N) : X p l e R s m args below meth c Qg D d K A 19 zc zs (lw KN d N) M [(0, (.ref b)), (1, (.ref (K 0))), (2, (.ref (KN 0))), (3, (.ref (KN 1))), (4, (.ref (KN 2))), (5, (.ref (KN 3))), (6, (.ref (KN 4))), (7, (.ref (KN 5))), (8, (.ref (KN 6))), (9, (iv x9)), (10, (iv x10)), (11, (iv x11)), (12, (iv x12))] 254 [] := by
  refine x_aload_n C dL_law_254 rfl 1 rfl ?_
  refine x_callVi C FX11_equationCount GX11_equationCount k662 (m_X11_equationCount) h (by decide) (fun _ => rfl) rfl (Nat.le_of_ble_eq_true rfl) (Nat.le_of_ble_eq_true rfl) (rest := []) (Nat.le_of_ble_eq_true rfl) rfl rfl dL_law_255 (fun v9 M9 h => ?_)
  refine x_iload C dL_law_258 9 rfl ?_
  refine x_icmp_eq C 265 dL_law_260 (by decide) (fun c10 => ?_) (fun c10 => ?_)
  · replace h := h.1 c10
    refine x_aload_n C dL_law_265 rfl 2 rfl ?_
    refine x_aload_n C dL_law_266 rfl 3 rfl ?_
    refine x_aload C dL_law_267 4 rfl ?_
    refine x_aload C dL_law_269 6 rfl ?_
    refine x_aload C dL_law_271 7 rfl ?_
    refine x_iload C dL_law_273 9 rfl ?_
    refine x_iconst C (n := (-1)) dL_law_275 ?_
    refine x_aload C dL_law_276 5 rfl ?_
    refine x_callSvN C FL_close k668 k666 (m_L_close x9 (-1)) h (Nat.le_of_ble_eq_true rfl) (Nat.le_of_ble_eq_true rfl) (rest := []) (Nat.le_of_ble_eq_true rfl) rfl rfl dL_law_278 (fun M11 N11 h => ?_)
    refine x_iconst C (n := 0) dL_law_281 ?_
    refine x_istore C dL_law_282 (by decide) [(14, (iv 0)), (0, (.ref b)), (1, (.ref (K 0))), (2, (.ref (KN 0))), (3, (.ref (KN 1))), (4, (.ref (KN 2))), (5, (.ref (KN 3))), (6, (.ref (KN 4))), (7, (.ref (KN 5))), (8, (.ref (KN 6))), (9, (iv x9)), (10, (iv x10)), (11, (iv x11)), (12, (iv x12))] rfl ?_
    refine x_lv (lv' := [(0, (.ref b)), (1, (.ref (K 0))), (2, (.ref (KN 0))), (3, (.ref (KN 1))), (4, (.ref (KN 2))), (5, (.ref (KN 3))), (6, (.ref (KN 4))), (7, (.ref (KN 5))), (8, (.ref (KN 6))), (9, (iv x9)), (10, (iv x10)), (11, (iv x11)), (12, (iv x12)), (14, (iv 0))]) [1, 2, 3, 4, 5, 6, 7, 8, 9, 10, 11, 12, 13, 0] rfl ?_
    obtain ⟨n9, h⟩ := h
    exact T_L_law_284 hlf C hscr hret hk81 n9 x9 x10 x11 x12 0 M11 N11 h
  · replace h := h.2 c10
    refine x_iconst C (n := 0) dL_law_263 ?_
    exact h.elim
set_option maxHeartbeats 4000000 in
theorem T_L_law_230 (hlf : l.stackTraces = false)  (C : XC p R s m args c D d A cL_law 19 RL 8 zc zs) (hscr : SC b Ls xs s A) (hret : ∀ (M N : g_M) (lv : List (Nat × Value)) (pc : Nat), decode cL_law pc = .ok (.ireturn, 1) → X p l e R s m args below meth c Qg D d K A 19 zc zs (lw KN d N) M lv pc [iv 1]) {k81 : Int → Int → Int → g_M → g_M → Prop} (hk81 : ∀ (x9 : Int) (x10 : Int) (x11 : Int) (M N : g_M), k81 x9 x10 x11 M N → X p l e R s m args below meth c Qg D d K A 19 zc zs (lw KN d N) M [(0, (.ref b)), (1, (.ref (K 0))), (2, (.ref (KN 0))), (3, (.ref (KN 1))), (4, (.ref (KN 2))), (5, (.ref (KN 3))), (6, (.ref (KN 4))), (7, (.ref (KN 5))), (8, (.ref (KN 6))), (9, (iv x9)), (10, (iv x10)), (11, (iv x11))] 81 []) (x9 : Int) (x10 : Int) (x11 : Int) (x12 : Int) (x14 : Int) (x15 : Int) (x16 : Int) (M N : g_M) (h : F_L_law_230 Ls xs k81 x9 x10 x11 x12 x14 x15 x16 M N) : X p l e R s m args below meth c Qg D d K A 19 zc zs (lw KN d N) M [(0, (.ref b)), (1, (.ref (K 0))), (2, (.ref (KN 0))), (3, (.ref (KN 1))), (4, (.ref (KN 2))), (5, (.ref (KN 3))), (6, (.ref (KN 4))), (7, (.ref (KN 5))), (8, (.ref (KN 6))), (9, (iv x9)), (10, (iv x10)), (11, (iv x11)), (12, (iv x12)), (14, (iv x14)), (15, (iv x15)), (16, (iv x16))] 230 [] := by
  refine x_iload C dL_law_230 15 rfl ?_
  refine x_iload C dL_law_232 9 rfl ?_
  refine x_icmp_ne C 254 dL_law_234 (by decide) (fun c26 => ?_) (fun c26 => ?_)
  · replace h := h.1 c26
    refine x_aload C dL_law_237 6 rfl ?_
    refine x_iload C dL_law_239 9 rfl ?_
    refine x_iload C dL_law_241 13 rfl ?_
    refine y_iast C 4 30 (by decide) (by rfl) h.1 dL_law_243 ?_
    replace h := h.2
    refine x_aload C dL_law_244 7 rfl ?_
    refine x_iload C dL_law_246 9 rfl ?_
    refine x_iload C dL_law_248 14 rfl ?_
    refine y_iast C 5 30 (by decide) (by rfl) h.1 dL_law_250 ?_
    replace h := h.2
    refine x_iinc C dL_law_251 9 rfl (by decide) [(9, (iv (x9 + 1))), (0, (.ref b)), (1, (.ref (K 0))), (2, (.ref (KN 0))), (3, (.ref (KN 1))), (4, (.ref (KN 2))), (5, (.ref (KN 3))), (6, (.ref (KN 4))), (7, (.ref (KN 5))), (8, (.ref (KN 6))), (10, (iv x10)), (11, (iv x11)), (12, (iv x12)), (14, (iv x14)), (15, (iv x15)), (16, (iv x16))] rfl ?_
    refine x_lv (lv' := [(0, (.ref b)), (1, (.ref (K 0))), (2, (.ref (KN 0))), (3, (.ref (KN 1))), (4, (.ref (KN 2))), (5, (.ref (KN 3))), (6, (.ref (KN 4))), (7, (.ref (KN 5))), (8, (.ref (KN 6))), (9, (iv (x9 + 1))), (10, (iv x10)), (11, (iv x11)), (12, (iv x12))]) [1, 2, 3, 4, 5, 6, 7, 8, 9, 0, 10, 11, 12] rfl ?_
    exact T_L_law_254 hlf C hscr hret hk81 (x9 + 1) x10 x11 x12 M (up (up N 4 (bm x9).toNat x14) 5 (bm x9).toNat x15) h
  · replace h := h.2 c26
    refine x_lv (lv' := [(0, (.ref b)), (1, (.ref (K 0))), (2, (.ref (KN 0))), (3, (.ref (KN 1))), (4, (.ref (KN 2))), (5, (.ref (KN 3))), (6, (.ref (KN 4))), (7, (.ref (KN 5))), (8, (.ref (KN 6))), (9, (iv x9)), (10, (iv x10)), (11, (iv x11)), (12, (iv x12))]) [0, 1, 2, 3, 4, 5, 6, 7, 8, 9, 10, 11, 12] rfl ?_
    exact T_L_law_254 hlf C hscr hret hk81 x9 x10 x11 x12 M N h
set_option maxHeartbeats 4000000 in
theorem T_L_law_141 (hlf : l.stackTraces = false)  (C : XC p R s m args c D d A cL_law 19 RL 8 zc zs) (hscr : SC b Ls xs s A) (hret : ∀ (M N : g_M) (lv : List (Nat × Value)) (pc : Nat), decode cL_law pc = .ok (.ireturn, 1) → X p l e R s m args below meth c Qg D d K A 19 zc zs (lw KN d N) M lv pc [iv 1]) {k81 : Int → Int → Int → g_M → g_M → Prop} (hk81 : ∀ (x9 : Int) (x10 : Int) (x11 : Int) (M N : g_M), k81 x9 x10 x11 M N → X p l e R s m args below meth c Qg D d K A 19 zc zs (lw KN d N) M [(0, (.ref b)), (1, (.ref (K 0))), (2, (.ref (KN 0))), (3, (.ref (KN 1))), (4, (.ref (KN 2))), (5, (.ref (KN 3))), (6, (.ref (KN 4))), (7, (.ref (KN 5))), (8, (.ref (KN 6))), (9, (iv x9)), (10, (iv x10)), (11, (iv x11))] 81 []) (x9 : Int) (x10 : Int) (x11 : Int) (x12 : Int) (x13 : Int) (M N : g_M) (h : F_L_law_141 Ls xs k81 x9 x10 x11 x12 x13 M N) : X p l e R s m args below meth c Qg D d K A 19 zc zs (lw KN d N) M [(0, (.ref b)), (1, (.ref (K 0))), (2, (.ref (KN 0))), (3, (.ref (KN 1))), (4, (.ref (KN 2))), (5, (.ref (KN 3))), (6, (.ref (KN 4))), (7, (.ref (KN 5))), (8, (.ref (KN 6))), (9, (iv x9)), (10, (iv x10)), (11, (iv x11)), (12, (iv x12)), (13, (iv x13))] 141 [] := by
  refine x_iload C dL_law_141 13 rfl ?_
  refine x_iconst C (n := 1) dL_law_143 ?_
  refine x_icmp_ne C 178 dL_law_144 (by decide) (fun c12 => ?_) (fun c12 => ?_)
  · replace h := h.1 c12
    refine x_aload_n C dL_law_147 rfl 1 rfl ?_
    refine x_callWi C FL_pop k671 k669 (m_L_pop hlf) h (Nat.le_of_ble_eq_true rfl) (Nat.le_of_ble_eq_true rfl) (rest := []) (Nat.le_of_ble_eq_true rfl) rfl rfl dL_law_148 (fun v13 M13 h => ?_)
    refine x_iload C dL_law_151 10 rfl ?_
    refine x_iconst C (n := 1) dL_law_153 ?_
    refine x_isub C dL_law_154 ?_
    refine x_icmp_eq C 160 dL_law_155 (by decide) (fun c14 => ?_) (fun c14 => ?_)
    · replace h := h.1 c14
      refine x_iload C dL_law_160 10 rfl ?_
      refine x_if_le C 254 dL_law_162 (by decide) (fun c15 => ?_) (fun c15 => ?_)
      · replace h := h.1 c15
        refine x_iinc C dL_law_165 10 rfl (by decide) [(10, (iv (x10 + (-1)))), (0, (.ref b)), (1, (.ref (K 0))), (2, (.ref (KN 0))), (3, (.ref (KN 1))), (4, (.ref (KN 2))), (5, (.ref (KN 3))), (6, (.ref (KN 4))), (7, (.ref (KN 5))), (8, (.ref (KN 6))), (9, (iv x9)), (11, (iv x11)), (12, (iv x12)), (13, (iv x13))] rfl ?_
        refine x_aload C dL_law_168 9 rfl ?_
        refine x_iload C dL_law_170 0 rfl ?_
        refine y_iald C 6 9 (by decide) (by rfl) h.1 dL_law_172 ?_
        replace h := h.2
        refine x_istore C dL_law_173 (by decide) [(9, (iv (N 6 (bm (x10 + (-1))).toNat))), (10, (iv (x10 + (-1)))), (0, (.ref b)), (1, (.ref (K 0))), (2, (.ref (KN 0))), (3, (.ref (KN 1))), (4, (.ref (KN 2))), (5, (.ref (KN 3))), (6, (.ref (KN 4))), (7, (.ref (KN 5))), (8, (.ref (KN 6))), (11, (iv x11)), (12, (iv x12)), (13, (iv x13))] rfl ?_
        refine x_goto C 254 dL_law_175 (by decide) ?_
        refine x_lv (lv' := [(0, (.ref b)), (1, (.ref (K 0))), (2, (.ref (KN 0))), (3, (.ref (KN 1))), (4, (.ref (KN 2))), (5, (.ref (KN 3))), (6, (.ref (KN 4))), (7, (.ref (KN 5))), (8, (.ref (KN 6))), (9, (iv (N 6 (bm (x10 + (-1))).toNat))), (10, (iv (x10 + (-1)))), (11, (iv x11)), (12, (iv x12))]) [2, 3, 4, 5, 6, 7, 8, 9, 10, 0, 1, 11, 12] rfl ?_
        exact T_L_law_254 hlf C hscr hret hk81 (N 6 (bm (x10 + (-1))).toNat) (x10 + (-1)) x11 x12 M13 N h
      · replace h := h.2 c15
        refine x_lv (lv' := [(0, (.ref b)), (1, (.ref (K 0))), (2, (.ref (KN 0))), (3, (.ref (KN 1))), (4, (.ref (KN 2))), (5, (.ref (KN 3))), (6, (.ref (KN 4))), (7, (.ref (KN 5))), (8, (.ref (KN 6))), (9, (iv x9)), (10, (iv x10)), (11, (iv x11)), (12, (iv x12))]) [0, 1, 2, 3, 4, 5, 6, 7, 8, 9, 10, 11, 12] rfl ?_
        exact T_L_law_254 hlf C hscr hret hk81 x9 x10 x11 x12 M13 N h
    · replace h := h.2 c14
      refine x_iconst C (n := 0) dL_law_158 ?_
      exact h.elim
  · replace h := h.2 c12
    refine x_iload C dL_law_178 12 rfl ?_
    refine x_iconst C (n := 4) dL_law_180 ?_
    refine x_ishr C dL_law_181 ?_
    refine x_bipush C (n := 14) (by decide) (by decide) dL_law_182 ?_
    refine x_callSi C FL_below k606 k603 (m_L_below (ishr x12 4) 14) h (Nat.le_of_ble_eq_true rfl) (Nat.le_of_ble_eq_true rfl) (rest := []) (Nat.le_of_ble_eq_true rfl) rfl rfl dL_law_184 (fun v16 M16 h => ?_)
    refine x_istore C dL_law_187 (by decide) [(14, (iv v16)), (0, (.ref b)), (1, (.ref (K 0))), (2, (.ref (KN 0))), (3, (.ref (KN 1))), (4, (.ref (KN 2))), (5, (.ref (KN 3))), (6, (.ref (KN 4))), (7, (.ref (KN 5))), (8, (.ref (KN 6))), (9, (iv x9)), (10, (iv x10)), (11, (iv x11)), (12, (iv x12)), (13, (iv x13))] rfl ?_
    refine x_iload C dL_law_189 13 rfl ?_
    refine x_bipush C (n := 12) (by decide) (by decide) dL_law_191 ?_
    refine x_ishr C dL_law_193 ?_
    refine x_bipush C (n := 14) (by decide) (by decide) dL_law_194 ?_
    refine x_callSi C FL_below k606 k603 (m_L_below (ishr x12 12) 14) h (Nat.le_of_ble_eq_true rfl) (Nat.le_of_ble_eq_true rfl) (rest := []) (Nat.le_of_ble_eq_true rfl) rfl rfl dL_law_196 (fun v17 M17 h => ?_)
    refine x_istore C dL_law_199 (by decide) [(15, (iv v17)), (14, (iv v16)), (0, (.ref b)), (1, (.ref (K 0))), (2, (.ref (KN 0))), (3, (.ref (KN 1))), (4, (.ref (KN 2))), (5, (.ref (KN 3))), (6, (.ref (KN 4))), (7, (.ref (KN 5))), (8, (.ref (KN 6))), (9, (iv x9)), (10, (iv x10)), (11, (iv x11)), (12, (iv x12)), (13, (iv x13))] rfl ?_
    refine x_aload_n C dL_law_201 rfl 3 rfl ?_
    refine x_aload_n C dL_law_202 rfl 4 rfl ?_
    refine x_iload C dL_law_203 1 rfl ?_
    refine y_iald C 0 14 (by decide) (by rfl) h.1 dL_law_205 ?_
    replace h := h.2
    refine x_aload_n C dL_law_206 rfl 4 rfl ?_
    refine x_iload C dL_law_207 0 rfl ?_
    refine y_iald C 0 14 (by decide) (by rfl) h.1 dL_law_209 ?_
    replace h := h.2
    refine x_callWi C FL_equate k674 k672 (m_L_equate hlf (N 0 (bm v16).toNat) (N 0 (bm v17).toNat)) h (Nat.le_of_ble_eq_true rfl) (Nat.le_of_ble_eq_true rfl) (rest := []) (Nat.le_of_ble_eq_true rfl) rfl rfl dL_law_210 (fun v18 M18 h => ?_)
    refine x_istore C dL_law_213 (by decide) [(16, (iv v18)), (15, (iv v17)), (14, (iv v16)), (0, (.ref b)), (1, (.ref (K 0))), (2, (.ref (KN 0))), (3, (.ref (KN 1))), (4, (.ref (KN 2))), (5, (.ref (KN 3))), (6, (.ref (KN 4))), (7, (.ref (KN 5))), (8, (.ref (KN 6))), (9, (iv x9)), (10, (iv x10)), (11, (iv x11)), (12, (iv x12)), (13, (iv x13))] rfl ?_
    refine x_iload C dL_law_215 0 rfl ?_
    refine x_iconst C (n := (-1)) dL_law_217 ?_
    refine x_icmp_eq C 230 dL_law_218 (by decide) (fun c19 => ?_) (fun c19 => ?_)
    · replace h := h.1 c19
      refine x_lv (lv' := [(0, (.ref b)), (1, (.ref (K 0))), (2, (.ref (KN 0))), (3, (.ref (KN 1))), (4, (.ref (KN 2))), (5, (.ref (KN 3))), (6, (.ref (KN 4))), (7, (.ref (KN 5))), (8, (.ref (KN 6))), (9, (iv x9)), (10, (iv x10)), (11, (iv x11)), (12, (iv x12)), (14, (iv v16)), (15, (iv v17)), (16, (iv v18))]) [3, 4, 5, 6, 7, 8, 9, 10, 11, 12, 13, 14, 15, 2, 1, 0] rfl ?_
      exact T_L_law_230 hlf C hscr hret hk81 x9 x10 x11 x12 v16 v17 v18 M18 N h
    · replace h := h.2 c19
      refine x_iload C dL_law_221 0 rfl ?_
      refine x_iload C dL_law_223 12 rfl ?_
      refine x_icmp_eq C 230 dL_law_225 (by decide) (fun c20 => ?_) (fun c20 => ?_)
      · replace h := h.1 c20
        refine x_lv (lv' := [(0, (.ref b)), (1, (.ref (K 0))), (2, (.ref (KN 0))), (3, (.ref (KN 1))), (4, (.ref (KN 2))), (5, (.ref (KN 3))), (6, (.ref (KN 4))), (7, (.ref (KN 5))), (8, (.ref (KN 6))), (9, (iv x9)), (10, (iv x10)), (11, (iv x11)), (12, (iv x12)), (14, (iv v16)), (15, (iv v17)), (16, (iv v18))]) [3, 4, 5, 6, 7, 8, 9, 10, 11, 12, 13, 14, 15, 2, 1, 0] rfl ?_
        exact T_L_law_230 hlf C hscr hret hk81 x9 x10 x11 x12 v16 v17 v18 M18 N h
      · replace h := h.2 c20
        refine x_iconst C (n := 0) dL_law_228 ?_
        exact h.elim
set_option maxHeartbeats 4000000 in
theorem T_L_law_81 (hlf : l.stackTraces = false)  (C : XC p R s m args c D d A cL_law 19 RL 8 zc zs) (hscr : SC b Ls xs s A) (hret : ∀ (M N : g_M) (lv : List (Nat × Value)) (pc : Nat), decode cL_law pc = .ok (.ireturn, 1) → X p l e R s m args below meth c Qg D d K A 19 zc zs (lw KN d N) M lv pc [iv 1]) : ∀ (n : Nat) (x9 : Int) (x10 : Int) (x11 : Int) (M N : g_M), F_L_law_81 Ls xs n x9 x10 x11 M N → X p l e R s m args below meth c Qg D d K A 19 zc zs (lw KN d N) M [(0, (.ref b)), (1, (.ref (K 0))), (2, (.ref (KN 0))), (3, (.ref (KN 1))), (4, (.ref (KN 2))), (5, (.ref (KN 3))), (6, (.ref (KN 4))), (7, (.ref (KN 5))), (8, (.ref (KN 6))), (9, (iv x9)), (10, (iv x10)), (11, (iv x11))] 81 [] := by
  intro n
  induction n with
  | zero =>
    intro x9 x10 x11 M N h
    exact h.elim
  | succ n ih =>
    intro x9 x10 x11 M N h
    replace h : ((bm x11 < bm 12 → (F_L_cell Ls xs (fun v3 M3 => F_L_below (fun v4 M4 => ((bm v4 = 0 → (((bm x10 < bm 8 → ((inI x10 9 ∧ F_X11_push (fun v7 M7 => ((bm v7 = bm (x10 + 1) → (F_L_law_254 Ls xs (F_L_law_81 Ls xs n) x9 (x10 + 1) x11 v3 M7 (up N 6 (bm x10).toNat x9))) ∧ (¬ bm v7 = bm (x10 + 1) → (False)))) M4))) ∧ (¬ bm x10 < bm 8 → (F_L_law_141 Ls xs (F_L_law_81 Ls xs n) x9 x10 x11 v3 v4 M4 N))))) ∧ (¬ bm v4 = 0 → (F_L_law_141 Ls xs (F_L_law_81 Ls xs n) x9 x10 x11 v3 v4 M4 N)))) v3 6 M3) (15 + x11) M)) ∧ (¬ bm x11 < bm 12 → (True))) := h
    refine x_iload C dL_law_81 11 rfl ?_
    refine x_bipush C (n := 12) (by decide) (by decide) dL_law_83 ?_
    refine x_icmp_ge C 475 dL_law_85 (by decide) (fun c2 => ?_) (fun c2 => ?_)
    · replace h := h.1 c2
      refine x_aload_n C dL_law_88 rfl 0 rfl ?_
      refine x_bipush C (n := 15) (by decide) (by decide) dL_law_89 ?_
      refine x_iload C dL_law_91 11 rfl ?_
      refine x_iadd C dL_law_93 ?_
      refine x_callSis C FL_cell k628 k626 hscr (m_L_cell (15 + x11)) h (Nat.le_of_ble_eq_true rfl) (Nat.le_of_ble_eq_true rfl) (rest := []) (Nat.le_of_ble_eq_true rfl) rfl rfl dL_law_94 (fun v3 M3 h => ?_)
      refine x_istore C dL_law_97 (by decide) [(12, (iv v3)), (0, (.ref b)), (1, (.ref (K 0))), (2, (.ref (KN 0))), (3, (.ref (KN 1))), (4, (.ref (KN 2))), (5, (.ref (KN 3))), (6, (.ref (KN 4))), (7, (.ref (KN 5))), (8, (.ref (KN 6))), (9, (iv x9)), (10, (iv x10)), (11, (iv x11))] rfl ?_
      refine x_iload C dL_law_99 0 rfl ?_
      refine x_bipush C (n := 6) (by decide) (by decide) dL_law_101 ?_
      refine x_callSi C FL_below k606 k603 (m_L_below v3 6) h (Nat.le_of_ble_eq_true rfl) (Nat.le_of_ble_eq_true rfl) (rest := []) (Nat.le_of_ble_eq_true rfl) rfl rfl dL_law_103 (fun v4 M4 h => ?_)
      refine x_istore C dL_law_106 (by decide) [(13, (iv v4)), (12, (iv v3)), (0, (.ref b)), (1, (.ref (K 0))), (2, (.ref (KN 0))), (3, (.ref (KN 1))), (4, (.ref (KN 2))), (5, (.ref (KN 3))), (6, (.ref (KN 4))), (7, (.ref (KN 5))), (8, (.ref (KN 6))), (9, (iv x9)), (10, (iv x10)), (11, (iv x11))] rfl ?_
      refine x_iload C dL_law_108 0 rfl ?_
      refine x_if_ne C 141 dL_law_110 (by decide) (fun c5 => ?_) (fun c5 => ?_)
      · replace h := h.1 c5
        refine x_iload C dL_law_113 12 rfl ?_
        refine x_bipush C (n := 8) (by decide) (by decide) dL_law_115 ?_
        refine x_icmp_ge C 141 dL_law_117 (by decide) (fun c6 => ?_) (fun c6 => ?_)
        · replace h := h.1 c6
          refine x_aload C dL_law_120 10 rfl ?_
          refine x_iload C dL_law_122 12 rfl ?_
          refine x_iload C dL_law_124 11 rfl ?_
          refine y_iast C 6 9 (by decide) (by rfl) h.1 dL_law_126 ?_
          replace h := h.2
          refine x_iinc C dL_law_127 12 rfl (by decide) [(10, (iv (x10 + 1))), (13, (iv v4)), (12, (iv v3)), (0, (.ref b)), (1, (.ref (K 0))), (2, (.ref (KN 0))), (3, (.ref (KN 1))), (4, (.ref (KN 2))), (5, (.ref (KN 3))), (6, (.ref (KN 4))), (7, (.ref (KN 5))), (8, (.ref (KN 6))), (9, (iv x9)), (11, (iv x11))] rfl ?_
          refine x_aload_n C dL_law_130 rfl 4 rfl ?_
          refine x_callVi C FX11_push GX11_push k658 (m_X11_push) h (by decide) (fun _ => rfl) rfl (Nat.le_of_ble_eq_true rfl) (Nat.le_of_ble_eq_true rfl) (rest := []) (Nat.le_of_ble_eq_true rfl) rfl rfl dL_law_131 (fun v7 M7 h => ?_)
          refine x_iload C dL_law_134 0 rfl ?_
          refine x_icmp_eq C 254 dL_law_136 (by decide) (fun c8 => ?_) (fun c8 => ?_)
          · replace h := h.1 c8
            refine x_lv (lv' := [(0, (.ref b)), (1, (.ref (K 0))), (2, (.ref (KN 0))), (3, (.ref (KN 1))), (4, (.ref (KN 2))), (5, (.ref (KN 3))), (6, (.ref (KN 4))), (7, (.ref (KN 5))), (8, (.ref (KN 6))), (9, (iv x9)), (10, (iv (x10 + 1))), (11, (iv x11)), (12, (iv v3))]) [3, 4, 5, 6, 7, 8, 9, 10, 11, 12, 0, 13, 2] rfl ?_
            exact T_L_law_254 hlf C hscr hret ih x9 (x10 + 1) x11 v3 M7 (up N 6 (bm x10).toNat x9) h
          · replace h := h.2 c8
            refine x_iconst C (n := 0) dL_law_139 ?_
            exact h.elim
        · replace h := h.2 c6
          refine x_lv (lv' := [(0, (.ref b)), (1, (.ref (K 0))), (2, (.ref (KN 0))), (3, (.ref (KN 1))), (4, (.ref (KN 2))), (5, (.ref (KN 3))), (6, (.ref (KN 4))), (7, (.ref (KN 5))), (8, (.ref (KN 6))), (9, (iv x9)), (10, (iv x10)), (11, (iv x11)), (12, (iv v3)), (13, (iv v4))]) [2, 3, 4, 5, 6, 7, 8, 9, 10, 11, 12, 13, 1, 0] rfl ?_
          exact T_L_law_141 hlf C hscr hret ih x9 x10 x11 v3 v4 M4 N h
      · replace h := h.2 c5
        refine x_lv (lv' := [(0, (.ref b)), (1, (.ref (K 0))), (2, (.ref (KN 0))), (3, (.ref (KN 1))), (4, (.ref (KN 2))), (5, (.ref (KN 3))), (6, (.ref (KN 4))), (7, (.ref (KN 5))), (8, (.ref (KN 6))), (9, (iv x9)), (10, (iv x10)), (11, (iv x11)), (12, (iv v3)), (13, (iv v4))]) [2, 3, 4, 5, 6, 7, 8, 9, 10, 11, 12, 13, 1, 0] rfl ?_
        exact T_L_law_141 hlf C hscr hret ih x9 x10 x11 v3 v4 M4 N h
    · replace h := h.2 c2
      refine x_iconst C (n := 1) dL_law_475 ?_
      exact hret _ _ _ _ dL_law_476
set_option maxHeartbeats 4000000 in
theorem T_L_law (hlf : l.stackTraces = false) (C : XC p R s m args c D d A cL_law 19 RL 8 zc zs) (hscr : SC b Ls xs s A) (hret : ∀ (M N : g_M) (lv : List (Nat × Value)) (pc : Nat), decode cL_law pc = .ok (.ireturn, 1) → X p l e R s m args below meth c Qg D d K A 19 zc zs (lw KN d N) M lv pc [iv 1]) (M N : g_M) (h : F_L_law Ls xs M N) : X p l e R s m args below meth c Qg D d K A 19 zc zs (lw KN d N) M [(0, (.ref b)), (1, (.ref (K 0))), (2, (.ref (KN 0))), (3, (.ref (KN 1))), (4, (.ref (KN 2))), (5, (.ref (KN 3))), (6, (.ref (KN 4))), (7, (.ref (KN 5))), (8, (.ref (KN 6)))] 62 [] := by
  refine x_aload_n C dL_law_62 rfl 1 rfl ?_
  refine x_aload_n C dL_law_63 rfl 0 rfl ?_
  refine x_iconst C (n := 1) dL_law_64 ?_
  refine x_aload_n C dL_law_65 rfl 2 rfl ?_
  refine x_aload_n C dL_law_66 rfl 3 rfl ?_
  refine x_aload C dL_law_67 4 rfl ?_
  refine x_callSvNs C FL_build k657 k655 hscr (m_L_build 1) h (Nat.le_of_ble_eq_true rfl) (Nat.le_of_ble_eq_true rfl) (rest := []) (Nat.le_of_ble_eq_true rfl) rfl rfl dL_law_69 (fun M1 N1 h => ?_)
  refine x_iconst C (n := 0) dL_law_72 ?_
  refine x_istore C dL_law_73 (by decide) [(9, (iv 0)), (0, (.ref b)), (1, (.ref (K 0))), (2, (.ref (KN 0))), (3, (.ref (KN 1))), (4, (.ref (KN 2))), (5, (.ref (KN 3))), (6, (.ref (KN 4))), (7, (.ref (KN 5))), (8, (.ref (KN 6)))] rfl ?_
  refine x_iconst C (n := 0) dL_law_75 ?_
  refine x_istore C dL_law_76 (by decide) [(10, (iv 0)), (9, (iv 0)), (0, (.ref b)), (1, (.ref (K 0))), (2, (.ref (KN 0))), (3, (.ref (KN 1))), (4, (.ref (KN 2))), (5, (.ref (KN 3))), (6, (.ref (KN 4))), (7, (.ref (KN 5))), (8, (.ref (KN 6)))] rfl ?_
  refine x_iconst C (n := 0) dL_law_78 ?_
  refine x_istore C dL_law_79 (by decide) [(11, (iv 0)), (10, (iv 0)), (9, (iv 0)), (0, (.ref b)), (1, (.ref (K 0))), (2, (.ref (KN 0))), (3, (.ref (KN 1))), (4, (.ref (KN 2))), (5, (.ref (KN 3))), (6, (.ref (KN 4))), (7, (.ref (KN 5))), (8, (.ref (KN 6)))] rfl ?_
  refine x_lv (lv' := [(0, (.ref b)), (1, (.ref (K 0))), (2, (.ref (KN 0))), (3, (.ref (KN 1))), (4, (.ref (KN 2))), (5, (.ref (KN 3))), (6, (.ref (KN 4))), (7, (.ref (KN 5))), (8, (.ref (KN 6))), (9, (iv 0)), (10, (iv 0)), (11, (iv 0))]) [3, 4, 5, 6, 7, 8, 9, 10, 11, 2, 1, 0] rfl ?_
  obtain ⟨n9, h⟩ := h
  exact T_L_law_81 hlf C hscr hret n9 0 0 0 M1 N1 h
end XW
