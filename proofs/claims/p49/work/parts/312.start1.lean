section ZB
variable {p : Program} {l : Launch} {e : Env} {s : State} {m : MethodId} {below : List Frame} {meth : Method} {c : Code} {D : va_G} {d : Nat → ClassId} {b Ls : Nat} {xs : Nat → Int32}
def F_start (Ls : Nat) (xs : Nat → Int32) : Prop := F_L_cell Ls xs (fun v M1 => F_L_setUp (fun r M2 => bm r ≠ 0 ∧ F_L_law Ls xs M2 (fun _ _ => 0)) v M1) 0 M0
theorem law_ret {K KN : Nat → Nat} {zc zs : Int} (C : XC p room_1 s m #[Value.ref b] c D d (fun q : Nat => s.heap.size ≤ q) cL_law 19 RL 8 zc zs) (hr : meth.sig.returnType = ret) (hlocks : meth.locks = false) : ∀ (M N : g_M) (lv : List (Nat × Value)) (pc : Nat), decode cL_law pc = .ok (.ireturn, 1) → X p l e room_1 s m #[Value.ref b] below meth c (lw_Z below #[Value.ref b] s) D d K (fun q : Nat => s.heap.size ≤ q) 19 zc zs (lw KN d N) M lv pc [iv 1] := by
  intro M N lv pc dg H locs ls LB hh hl
  exact va_forget (fun q hq => hh.2.2.2.1.2.2 q hq) (W.widen (Nat.le_refl _) (Nat.le_refl _) (lw_ret C.1.1 C.1.2.1 hr hlocks dg))
set_option maxHeartbeats 4000000 in
theorem law_A (hlf : l.stackTraces = false) {K : Nat → Nat} {zc zs : Int} (CC : ∀ i j : Nat, i ≤ 10 → j ≤ 1000 → XC p room_1 s m #[Value.ref b] c D d (fun q : Nat => s.heap.size ≤ q) cL_law 19 RL 8 (zc + i) (zs + j)) (hr : meth.sig.returnType = ret) (hlocks : meth.locks = false) (hscr : SC b Ls xs s (fun q : Nat => s.heap.size ≤ q)) (h : F_start Ls xs) : X p l e room_1 s m #[Value.ref b] below meth c (lw_Z below #[Value.ref b] s) D d K (fun q : Nat => s.heap.size ≤ q) 19 zc zs [] M0 [(1, .ref (K 0)), (0, .ref b)] 8 [] := by
  have C : XC p room_1 s m #[Value.ref b] c D d (fun q : Nat => s.heap.size ≤ q) cL_law 19 RL 8 zc zs := by
    have h9 := CC 0 0 (by decide) (by decide)
    rw [show zc + ((0 : Nat) : Int) = zc by omega, show zs + ((0 : Nat) : Int) = zs by omega] at h9
    exact h9
  refine x_aload_n C dL_law_8 rfl 0 rfl ?_
  refine x_aload_n C dL_law_9 rfl 1 rfl ?_
  refine x_iconst C (n := 0) dL_law_10 ?_
  refine x_callSis C FL_cell k628 k626 hscr (m_L_cell 0) h (Nat.le_of_ble_eq_true rfl) (Nat.le_of_ble_eq_true rfl) (rest := [.ref (K 0)]) (Nat.le_of_ble_eq_true rfl) rfl rfl dL_law_11 (fun v M1 h => ?_)
  refine x_callSi C FL_setUp k826 k825 (m_L_setUp v) h (Nat.le_of_ble_eq_true rfl) (Nat.le_of_ble_eq_true rfl) (rest := []) (Nat.le_of_ble_eq_true rfl) rfl rfl dL_law_14 (fun r M2 h => ?_)
  refine x_if_ne C 22 dL_law_17 (by decide) (fun c1 => absurd c1 h.1) (fun c1 => ?_)
  replace h := h.2
  have C0 := CC 1 14 (by decide) (by decide)
  refine x_bipush C (n := 14) (by decide) (by decide) dL_law_22 ?_
  refine x_newarr C (n := 14) C0 (by omega) (by omega) (by decide) (by decide) (by decide) dL_law_24 (fun q0 => ?_)
  refine x_astore_n C0 dL_law_26 rfl (by decide) [(2, .ref q0), (1, .ref (K 0)), (0, .ref b)] rfl ?_
  have C1 := CC 2 28 (by decide) (by decide)
  refine x_bipush C0 (n := 14) (by decide) (by decide) dL_law_27 ?_
  refine x_newarr C0 (n := 14) C1 (by omega) (by omega) (by decide) (by decide) (by decide) dL_law_29 (fun q1 => ?_)
  refine x_astore_n C1 dL_law_31 rfl (by decide) [(3, .ref q1), (2, .ref q0), (1, .ref (K 0)), (0, .ref b)] rfl ?_
  have C2 := CC 3 42 (by decide) (by decide)
  refine x_bipush C1 (n := 14) (by decide) (by decide) dL_law_32 ?_
  refine x_newarr C1 (n := 14) C2 (by omega) (by omega) (by decide) (by decide) (by decide) dL_law_34 (fun q2 => ?_)
  refine x_astore C2 dL_law_36 (by decide) [(4, .ref q2), (3, .ref q1), (2, .ref q0), (1, .ref (K 0)), (0, .ref b)] rfl ?_
  have C3 := CC 4 56 (by decide) (by decide)
  refine x_bipush C2 (n := 14) (by decide) (by decide) dL_law_38 ?_
  refine x_newarr C2 (n := 14) C3 (by omega) (by omega) (by decide) (by decide) (by decide) dL_law_40 (fun q3 => ?_)
  refine x_astore C3 dL_law_42 (by decide) [(5, .ref q3), (4, .ref q2), (3, .ref q1), (2, .ref q0), (1, .ref (K 0)), (0, .ref b)] rfl ?_
  have C4 := CC 5 86 (by decide) (by decide)
  refine x_bipush C3 (n := 30) (by decide) (by decide) dL_law_44 ?_
  refine x_newarr C3 (n := 30) C4 (by omega) (by omega) (by decide) (by decide) (by decide) dL_law_46 (fun q4 => ?_)
  refine x_astore C4 dL_law_48 (by decide) [(6, .ref q4), (5, .ref q3), (4, .ref q2), (3, .ref q1), (2, .ref q0), (1, .ref (K 0)), (0, .ref b)] rfl ?_
  have C5 := CC 6 116 (by decide) (by decide)
  refine x_bipush C4 (n := 30) (by decide) (by decide) dL_law_50 ?_
  refine x_newarr C4 (n := 30) C5 (by omega) (by omega) (by decide) (by decide) (by decide) dL_law_52 (fun q5 => ?_)
  refine x_astore C5 dL_law_54 (by decide) [(7, .ref q5), (6, .ref q4), (5, .ref q3), (4, .ref q2), (3, .ref q1), (2, .ref q0), (1, .ref (K 0)), (0, .ref b)] rfl ?_
  have C6 := CC 7 125 (by decide) (by decide)
  refine x_bipush C5 (n := 9) (by decide) (by decide) dL_law_56 ?_
  refine x_newarr C5 (n := 9) C6 (by omega) (by omega) (by decide) (by decide) (by decide) dL_law_58 (fun q6 => ?_)
  refine x_astore C6 dL_law_60 (by decide) [(8, .ref q6), (7, .ref q5), (6, .ref q4), (5, .ref q3), (4, .ref q2), (3, .ref q1), (2, .ref q0), (1, .ref (K 0)), (0, .ref b)] rfl ?_
  have T := T_L_law (KN := fun j => [q0, q1, q2, q3, q4, q5, q6].getD j 0) (K := K) hlf C6 hscr (law_ret C6 hr hlocks (below := below) (l := l) (e := e) (K := K) (KN := fun j => [q0, q1, q2, q3, q4, q5, q6].getD j 0)) M2 (fun _ _ => 0) h
  refine x_lv (lv' := [(0, (.ref b)), (1, (.ref (K 0))), (2, (.ref q0)), (3, (.ref q1)), (4, (.ref q2)), (5, (.ref q3)), (6, (.ref q4)), (7, (.ref q5)), (8, (.ref q6))]) [8, 7, 6, 5, 4, 3, 2, 1, 0] rfl ?_
  exact T
end ZB
