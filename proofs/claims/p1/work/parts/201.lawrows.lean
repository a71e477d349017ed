section VLaw
variable {p : Program} {l : Launch} {e : Env} {s : State} {m : MethodId} {below : List Frame} {meth : Method} {c : Code} {D : va_G} {d : Nat → ClassId} {b : Nat} {xs : Nat → Int32}

theorem v_lv {l : Launch} {R : Room} {args : Array Value} {Q : State → Prop} {A : Nat → Prop} {nL : Nat} {ws : va_W} {lv : List (Nat × Value)} {ck sl pc : Nat} {st : List Value} {lv' : List (Nat × Value)} (ks : List Nat) (h : lv_pick lv ks = lv') (k : V p l e R s m args below meth c Q D A nL ws lv' ck sl pc st) : V p l e R s m args below meth c Q D A nL ws lv ck sl pc st := fun H locs ls hP hD hS hl => k H locs ls hP hD hS (lv_sub hl ks h)
theorem v_lawret (C : VC p s m #[Value.ref b] c D d (fun q : Nat => s.heap.size ≤ q) cL_law 8 RL) (hr : meth.sig.returnType = ret) (hlocks : meth.locks = false) {ws : va_W} {lv : List (Nat × Value)} {ck sl pc : Nat} (hc : ck ≤ 600006) (hs : sl ≤ 7302032) (dg : decode cL_law pc = .ok (.ireturn, 1)) : V p l e room_1 s m #[Value.ref b] below meth c (lw_Z below #[Value.ref b] s) D (fun q : Nat => s.heap.size ≤ q) 8 ws lv ck sl pc [.int 1] := fun H locs ls hP hD hS hl => va_forget (fun q hq => hS.2.2 q hq) (W.widen hc hs (lw_ret C.1 C.2.1 hr hlocks dg))
set_option maxHeartbeats 4000000 in
theorem law_exit (C : VC p s m #[Value.ref b] c D d (fun q : Nat => s.heap.size ≤ q) cL_law 8 RL) (hr : meth.sig.returnType = ret) (hlocks : meth.locks = false) (hX : va_X b 6 xs s s.heap) (hbl : b < s.heap.size) {ws : va_W} {lv : List (Nat × Value)} {ck sl : Nat} {q4 q0 : Nat} (h4 : lv[q4]? = some (4, .int 0)) (h0 : lv[q0]? = some (0, .ref b)) (hc : ck ≤ 600006) (hs : sl ≤ 7302032) : V p l e room_1 s m #[Value.ref b] below meth c (lw_Z below #[Value.ref b] s) D (fun q : Nat => s.heap.size ≤ q) 8 ws lv ck sl 2712 [] := by
  refine v_lv (lv' := [(4, .int 0), (0, .ref b)]) [q4, q0] (by simp [lv_pick, h4, h0]) ?_
  refine v_iinc C 6 dL_law_2712 0 rfl (by decide +kernel) (by decide) [(4, .int 6), (0, .ref b)] rfl ?_
  refine v_goto C 23 dL_law_2715 (by decide) ?_
  refine v_iload C dL_law_23 0 rfl ?_
  refine v_aload_n C dL_law_25 rfl 1 rfl ?_
  refine v_slen C hX hbl (Nat.not_le.mpr hbl) dL_law_26 ?_
  refine v_bipush (v := 6) C dL_law_27 (by decide +kernel) ?_
  refine v_isub C 0 dL_law_29 (by decide +kernel) ?_
  refine v_icmp_gt_t C 2718 dL_law_30 (by decide) (by decide +kernel) ?_
  refine v_iconst (v := 1) C dL_law_2718 (by decide +kernel) ?_
  exact v_lawret C hr hlocks hc hs dL_law_2719
set_option maxHeartbeats 4000000 in
theorem law_short (C : VC p s m #[Value.ref b] c D d (fun q : Nat => s.heap.size ≤ q) cL_law 8 RL) (hr : meth.sig.returnType = ret) (hlocks : meth.locks = false) {L : Nat} (hX : va_X b L xs s s.heap) (hbl : b < s.heap.size) (hL : L < 6) {ws : va_W} {lv : List (Nat × Value)} {ck sl : Nat} {q4 q0 : Nat} (h4 : lv[q4]? = some (4, .int 0)) (h0 : lv[q0]? = some (0, .ref b)) (hc : ck ≤ 600006) (hs : sl ≤ 7302032) : V p l e room_1 s m #[Value.ref b] below meth c (lw_Z below #[Value.ref b] s) D (fun q : Nat => s.heap.size ≤ q) 8 ws lv ck sl 23 [] := by
  refine v_lv (lv' := [(4, .int 0), (0, .ref b)]) [q4, q0] (by simp [lv_pick, h4, h0]) ?_
  refine v_iload C dL_law_23 0 rfl ?_
  refine v_aload_n C dL_law_25 rfl 1 rfl ?_
  refine v_slen C hX hbl (Nat.not_le.mpr hbl) dL_law_26 ?_
  refine v_bipush (v := 6) C dL_law_27 (by decide +kernel) ?_
  refine v_isub C (Int32.ofNat L - 6) dL_law_29 rfl ?_
  refine v_icmp_gt_t C 2718 dL_law_30 (by decide) (by rcases (show L = 0 ∨ L = 1 ∨ L = 2 ∨ L = 3 ∨ L = 4 ∨ L = 5 by omega) with rfl | rfl | rfl | rfl | rfl | rfl <;> decide +kernel) ?_
  refine v_iconst (v := 1) C dL_law_2718 (by decide +kernel) ?_
  exact v_lawret C hr hlocks hc hs dL_law_2719
end VLaw
