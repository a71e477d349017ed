section VLaw
variable {p : Program} {l : Launch} {e : Env} {s : State} {m : MethodId} {below : List Frame} {meth : Method} {c : Code} {D : va_G} {d : Nat → ClassId} {b : Nat} {xs : Nat → Int32}

set_option maxRecDepth 100000 in
set_option maxHeartbeats 4000000 in
theorem law_head (C : VC p s m #[Value.ref b] c D d (fun q : Nat => s.heap.size ≤ q) cL_law 8 RL) (hr : meth.sig.returnType = ret) (hlocks : meth.locks = false) (hX : va_X b 6 xs s s.heap) (hbl : b < s.heap.size) (hex : g_ex (fun q : Nat => s.heap.size ≤ q) s) (hlf : l.stackTraces = false) (a0 : Nat) (a1 : Nat) (a2 : Nat) (a3 : Nat) (a4 : Nat) (a5 : Nat) (a6 : Nat) (a7 : Nat) (a8 : Nat) (a9 : Nat) (a10 : Nat) (a11 : Nat) (a12 : Nat) (a13 : Nat) (g0 : Nat → Value) (g1 : Nat → Value) (g2 : Nat → Value) (g3 : Nat → Value) (g6 : Nat → Value) (g8 : Nat → Value) (g9 : Nat → Value) (g10 : Nat → Value) (f4 : Nat → Int32) (f5 : Nat → Int32) (f7 : Nat → Int32) (f11 : Nat → Int32) (f12 : Nat → Int32) : V p l e room_1 s m #[Value.ref b] below meth c (lw_Z below #[Value.ref b] s) D (fun q : Nat => s.heap.size ≤ q) 8 [(a0, .inr (11, [.ref a1, .ref a2, (g0 2), (g0 3), .ref a3, .ref a6, .ref a8, (g0 7), .ref a9, (g0 9), .int 0])), (a1, .inr (7, [(g1 0), (g1 1), (g1 2), (g1 3), (g1 4), (g1 5), (g1 6), .int 0, .int 0, .int 0, .int 0])), (a2, .inr (8, [.ref a1, (g2 1), (g2 2), (g2 3), (g2 4), (g2 5), (g2 6), (g2 7), .int 0, .int 0, .int 0, .int 0, .int 4096])), (a3, .inr (9, [.ref a1, .ref a2, (g3 2), (g3 3), (g3 4), (g3 5), (g3 6), .int 0, (g3 8), (g3 9), .int 0, .ref a4, .ref a5, .int 0, (g3 14), (g3 15), (g3 16), .int 0])), (a4, .inl (d 0, 8, .inl f4)), (a5, .inl (d 0, 8, .inl f5)), (a6, .inr (5, [.ref a1, .ref a2, .ref a7, .int 0, .int 0, .int 0, .int 0, .int 0, .int 0, .int (-1), (g6 10), (g6 11), (g6 12), (g6 13), .int 0, (g6 15), (g6 16), (g6 17), .int 0])), (a7, .inl (d 1, 400, .inl f7)), (a8, .inr (4, [.ref a1, .ref a2, (g8 2), (g8 3), .int 0])), (a9, .inr (3, [.ref a3, .ref a2, (g9 2), (g9 3), (g9 4), .int 0, .int 0, (g9 7), .int 0, .int 0, (g9 10), (g9 11), (g9 12), .int 0, (g9 14)])), (a10, .inr (12, [.int 0, .int 0, .int 0, (g10 3), (g10 4), (g10 5), (g10 6), (g10 7), (g10 8), (g10 9), .int 0, .int 0, .ref a11, .int 0, (g10 14), .int 0, .int 0, .int (-1), .int 0, .int 256, (g10 20), (g10 21), (g10 22), (g10 23), (g10 24), (g10 25), (g10 26), (g10 27), .int 0, (g10 29), (g10 30), .int 0, (g10 32), (g10 33), (g10 34), (g10 35), (g10 36), (g10 37), (g10 38), .int 0, (g10 40), .int 0, (g10 42), .int 0, .ref a12, .int 0, (g10 46), .int 0, (g10 48), (g10 49), (g10 50), (g10 51), .int 1, (g10 53), (g10 54), .int 0, (g10 56), (g10 57), (g10 58), (g10 59), (g10 60), .int 0, (g10 62), (g10 63), (g10 64), .int 0, (g10 66), (g10 67), .int 0, (g10 69), .int 0, (g10 71), .int 0, (g10 73), .int 0, (g10 75), .int 0, (g10 77), (g10 78), .int 0, (g10 80), (g10 81), .int 0, .int 0, (g10 84), (g10 85), (g10 86), (g10 87), .int 0, (g10 89), .int 0, (g10 91)])), (a11, .inl (d 1, 400, .inl f11)), (a12, .inl (d 0, 16, .inl f12)), (a13, .inl (d 3, 1, .inr (.inl (fun _ => 0))))] [(4, .int 0), (3, .ref a13), (2, .ref a10), (1, .ref a0), (0, .ref b)] 176 32418 23 [] := by
  refine v_iload C dL_law_23 0 rfl ?_
  refine v_aload_n C dL_law_25 rfl 4 rfl ?_
  refine v_slen C hX hbl (Nat.not_le.mpr hbl) dL_law_26 ?_
  refine v_bipush (v := 6) C dL_law_27 (by decide +kernel) ?_
  refine v_isub C 0 dL_law_29 (by decide +kernel) ?_
  refine v_icmp_gt_f C 2718 dL_law_30 (by decide) (by decide +kernel) ?_
  refine v_aload_n C dL_law_33 rfl 4 rfl ?_
  refine v_iload C dL_law_34 0 rfl ?_
  refine v_sld C hX hbl (Nat.not_le.mpr hbl) (xs 0) (by unfold vp_in; decide +kernel) rfl dL_law_36 ?_
  refine v_bipush (v := 63) C dL_law_37 (by decide +kernel) ?_
  obtain ⟨n, hn, en⟩ := pk_andE (xs 0) (m := 63) 6 (by decide +kernel)
  refine v_iand C (nI n) dL_law_39 en ?_
  rcases (show n = 0 ∨ n = 1 ∨ n = 2 ∨ n = 3 ∨ n = 4 ∨ n = 5 ∨ n = 6 ∨ n = 7 ∨ n = 8 ∨ n = 9 ∨ n = 10 ∨ n = 11 ∨ n = 12 ∨ n = 13 ∨ n = 14 ∨ n = 15 ∨ n = 16 ∨ n = 17 ∨ n = 18 ∨ n = 19 ∨ n = 20 ∨ n = 21 ∨ n = 22 ∨ n = 23 ∨ n = 24 ∨ n = 25 ∨ n = 26 ∨ n = 27 ∨ n = 28 ∨ n = 29 ∨ n = 30 ∨ n = 31 ∨ n = 32 ∨ n = 33 ∨ n = 34 ∨ n = 35 ∨ n = 36 ∨ n = 37 ∨ n = 38 ∨ n = 39 ∨ n = 40 ∨ n = 41 ∨ n = 42 ∨ n = 43 ∨ n = 44 ∨ n = 45 ∨ 46 ≤ n by omega) with rfl | rfl | rfl | rfl | rfl | rfl | rfl | rfl | rfl | rfl | rfl | rfl | rfl | rfl | rfl | rfl | rfl | rfl | rfl | rfl | rfl | rfl | rfl | rfl | rfl | rfl | rfl | rfl | rfl | rfl | rfl | rfl | rfl | rfl | rfl | rfl | rfl | rfl | rfl | rfl | rfl | rfl | rfl | rfl | rfl | rfl | hge
  · refine v_tableIn C (off := 200) 240 dL_law_40 (by decide +kernel) (by decide +kernel) (by decide +kernel) (by decide) ?_
    exact case_0 C hr hlocks hX hbl hex hlf a0 a1 a2 a3 a4 a5 a6 a7 a8 a9 a10 a11 a12 a13 g0 g1 g2 g3 g6 g8 g9 g10 f4 f5 f7 f11 f12
  · refine v_tableIn C (off := 304) 344 dL_law_40 (by decide +kernel) (by decide +kernel) (by decide +kernel) (by decide) ?_
    exact case_1 C hr hlocks hX hbl hex hlf a0 a1 a2 a3 a4 a5 a6 a7 a8 a9 a10 a11 a12 a13 g0 g1 g2 g3 g6 g8 g9 g10 f4 f5 f7 f11 f12
  · refine v_tableIn C (off := 360) 400 dL_law_40 (by decide +kernel) (by decide +kernel) (by decide +kernel) (by decide) ?_
    exact case_2 C hr hlocks hX hbl hex hlf a0 a1 a2 a3 a4 a5 a6 a7 a8 a9 a10 a11 a12 a13 g0 g1 g2 g3 g6 g8 g9 g10 f4 f5 f7 f11 f12
  · refine v_tableIn C (off := 428) 468 dL_law_40 (by decide +kernel) (by decide +kernel) (by decide +kernel) (by decide) ?_
    exact case_3 C hr hlocks hX hbl hex hlf a0 a1 a2 a3 a4 a5 a6 a7 a8 a9 a10 a11 a12 a13 g0 g1 g2 g3 g6 g8 g9 g10 f4 f5 f7 f11 f12
  · refine v_tableIn C (off := 472) 512 dL_law_40 (by decide +kernel) (by decide +kernel) (by decide +kernel) (by decide) ?_
    exact case_4 C hr hlocks hX hbl hex hlf a0 a1 a2 a3 a4 a5 a6 a7 a8 a9 a10 a11 a12 a13 g0 g1 g2 g3 g6 g8 g9 g10 f4 f5 f7 f11 f12
  · refine v_tableIn C (off := 485) 525 dL_law_40 (by decide +kernel) (by decide +kernel) (by decide +kernel) (by decide) ?_
    exact case_5 C hr hlocks hX hbl hex hlf a0 a1 a2 a3 a4 a5 a6 a7 a8 a9 a10 a11 a12 a13 g0 g1 g2 g3 g6 g8 g9 g10 f4 f5 f7 f11 f12
  · refine v_tableIn C (off := 564) 604 dL_law_40 (by decide +kernel) (by decide +kernel) (by decide +kernel) (by decide) ?_
    exact case_6 C hr hlocks hX hbl hex hlf a0 a1 a2 a3 a4 a5 a6 a7 a8 a9 a10 a11 a12 a13 g0 g1 g2 g3 g6 g8 g9 g10 f4 f5 f7 f11 f12
  · refine v_tableIn C (off := 632) 672 dL_law_40 (by decide +kernel) (by decide +kernel) (by decide +kernel) (by decide) ?_
    exact case_7 C hr hlocks hX hbl hex hlf a0 a1 a2 a3 a4 a5 a6 a7 a8 a9 a10 a11 a12 a13 g0 g1 g2 g3 g6 g8 g9 g10 f4 f5 f7 f11 f12
  · refine v_tableIn C (off := 688) 728 dL_law_40 (by decide +kernel) (by decide +kernel) (by decide +kernel) (by decide) ?_
    exact case_8 C hr hlocks hX hbl hex hlf a0 a1 a2 a3 a4 a5 a6 a7 a8 a9 a10 a11 a12 a13 g0 g1 g2 g3 g6 g8 g9 g10 f4 f5 f7 f11 f12
  · refine v_tableIn C (off := 779) 819 dL_law_40 (by decide +kernel) (by decide +kernel) (by decide +kernel) (by decide) ?_
    exact case_9 C hr hlocks hX hbl hex hlf a0 a1 a2 a3 a4 a5 a6 a7 a8 a9 a10 a11 a12 a13 g0 g1 g2 g3 g6 g8 g9 g10 f4 f5 f7 f11 f12
  · refine v_tableIn C (off := 871) 911 dL_law_40 (by decide +kernel) (by decide +kernel) (by decide +kernel) (by decide) ?_
    exact case_10 C hr hlocks hX hbl hex hlf a0 a1 a2 a3 a4 a5 a6 a7 a8 a9 a10 a11 a12 a13 g0 g1 g2 g3 g6 g8 g9 g10 f4 f5 f7 f11 f12
  · refine v_tableIn C (off := 915) 955 dL_law_40 (by decide +kernel) (by decide +kernel) (by decide +kernel) (by decide) ?_
    exact case_11 C hr hlocks hX hbl hex hlf a0 a1 a2 a3 a4 a5 a6 a7 a8 a9 a10 a11 a12 a13 g0 g1 g2 g3 g6 g8 g9 g10 f4 f5 f7 f11 f12
  · refine v_tableIn C (off := 928) 968 dL_law_40 (by decide +kernel) (by decide +kernel) (by decide +kernel) (by decide) ?_
    exact case_12 C hr hlocks hX hbl hex hlf a0 a1 a2 a3 a4 a5 a6 a7 a8 a9 a10 a11 a12 a13 g0 g1 g2 g3 g6 g8 g9 g10 f4 f5 f7 f11 f12
  · refine v_tableIn C (off := 941) 981 dL_law_40 (by decide +kernel) (by decide +kernel) (by decide +kernel) (by decide) ?_
    exact case_13 C hr hlocks hX hbl hex hlf a0 a1 a2 a3 a4 a5 a6 a7 a8 a9 a10 a11 a12 a13 g0 g1 g2 g3 g6 g8 g9 g10 f4 f5 f7 f11 f12
  · refine v_tableIn C (off := 954) 994 dL_law_40 (by decide +kernel) (by decide +kernel) (by decide +kernel) (by decide) ?_
    exact case_14 C hr hlocks hX hbl hex hlf a0 a1 a2 a3 a4 a5 a6 a7 a8 a9 a10 a11 a12 a13 g0 g1 g2 g3 g6 g8 g9 g10 f4 f5 f7 f11 f12
  · refine v_tableIn C (off := 1010) 1050 dL_law_40 (by decide +kernel) (by decide +kernel) (by decide +kernel) (by decide) ?_
    exact case_15 C hr hlocks hX hbl hex hlf a0 a1 a2 a3 a4 a5 a6 a7 a8 a9 a10 a11 a12 a13 g0 g1 g2 g3 g6 g8 g9 g10 f4 f5 f7 f11 f12
  · refine v_tableIn C (off := 1078) 1118 dL_law_40 (by decide +kernel) (by decide +kernel) (by decide +kernel) (by decide) ?_
    exact case_16 C hr hlocks hX hbl hex hlf a0 a1 a2 a3 a4 a5 a6 a7 a8 a9 a10 a11 a12 a13 g0 g1 g2 g3 g6 g8 g9 g10 f4 f5 f7 f11 f12
  · refine v_tableIn C (off := 1134) 1174 dL_law_40 (by decide +kernel) (by decide +kernel) (by decide +kernel) (by decide) ?_
    exact case_17 C hr hlocks hX hbl hex hlf a0 a1 a2 a3 a4 a5 a6 a7 a8 a9 a10 a11 a12 a13 g0 g1 g2 g3 g6 g8 g9 g10 f4 f5 f7 f11 f12
  · refine v_tableIn C (off := 1190) 1230 dL_law_40 (by decide +kernel) (by decide +kernel) (by decide +kernel) (by decide) ?_
    exact case_18 C hr hlocks hX hbl hex hlf a0 a1 a2 a3 a4 a5 a6 a7 a8 a9 a10 a11 a12 a13 g0 g1 g2 g3 g6 g8 g9 g10 f4 f5 f7 f11 f12
  · refine v_tableIn C (off := 1258) 1298 dL_law_40 (by decide +kernel) (by decide +kernel) (by decide +kernel) (by decide) ?_
    exact case_19 C hr hlocks hX hbl hex hlf a0 a1 a2 a3 a4 a5 a6 a7 a8 a9 a10 a11 a12 a13 g0 g1 g2 g3 g6 g8 g9 g10 f4 f5 f7 f11 f12
  · refine v_tableIn C (off := 1326) 1366 dL_law_40 (by decide +kernel) (by decide +kernel) (by decide +kernel) (by decide) ?_
    exact case_20 C hr hlocks hX hbl hex hlf a0 a1 a2 a3 a4 a5 a6 a7 a8 a9 a10 a11 a12 a13 g0 g1 g2 g3 g6 g8 g9 g10 f4 f5 f7 f11 f12
  · refine v_tableIn C (off := 1406) 1446 dL_law_40 (by decide +kernel) (by decide +kernel) (by decide +kernel) (by decide) ?_
    exact case_21 C hr hlocks hX hbl hex hlf a0 a1 a2 a3 a4 a5 a6 a7 a8 a9 a10 a11 a12 a13 g0 g1 g2 g3 g6 g8 g9 g10 f4 f5 f7 f11 f12
  · refine v_tableIn C (off := 1462) 1502 dL_law_40 (by decide +kernel) (by decide +kernel) (by decide +kernel) (by decide) ?_
    exact case_22 C hr hlocks hX hbl hex hlf a0 a1 a2 a3 a4 a5 a6 a7 a8 a9 a10 a11 a12 a13 g0 g1 g2 g3 g6 g8 g9 g10 f4 f5 f7 f11 f12
  · refine v_tableIn C (off := 1518) 1558 dL_law_40 (by decide +kernel) (by decide +kernel) (by decide +kernel) (by decide) ?_
    exact case_23 C hr hlocks hX hbl hex hlf a0 a1 a2 a3 a4 a5 a6 a7 a8 a9 a10 a11 a12 a13 g0 g1 g2 g3 g6 g8 g9 g10 f4 f5 f7 f11 f12
  · refine v_tableIn C (off := 1586) 1626 dL_law_40 (by decide +kernel) (by decide +kernel) (by decide +kernel) (by decide) ?_
    exact case_24 C hr hlocks hX hbl hex hlf a0 a1 a2 a3 a4 a5 a6 a7 a8 a9 a10 a11 a12 a13 g0 g1 g2 g3 g6 g8 g9 g10 f4 f5 f7 f11 f12
  · refine v_tableIn C (off := 1654) 1694 dL_law_40 (by decide +kernel) (by decide +kernel) (by decide +kernel) (by decide) ?_
    exact case_25 C hr hlocks hX hbl hex hlf a0 a1 a2 a3 a4 a5 a6 a7 a8 a9 a10 a11 a12 a13 g0 g1 g2 g3 g6 g8 g9 g10 f4 f5 f7 f11 f12
  · refine v_tableIn C (off := 1698) 1738 dL_law_40 (by decide +kernel) (by decide +kernel) (by decide +kernel) (by decide) ?_
    exact case_26 C hr hlocks hX hbl hex hlf a0 a1 a2 a3 a4 a5 a6 a7 a8 a9 a10 a11 a12 a13 g0 g1 g2 g3 g6 g8 g9 g10 f4 f5 f7 f11 f12
  · refine v_tableIn C (off := 1711) 1751 dL_law_40 (by decide +kernel) (by decide +kernel) (by decide +kernel) (by decide) ?_
    exact case_27 C hr hlocks hX hbl hex hlf a0 a1 a2 a3 a4 a5 a6 a7 a8 a9 a10 a11 a12 a13 g0 g1 g2 g3 g6 g8 g9 g10 f4 f5 f7 f11 f12
  · refine v_tableIn C (off := 1724) 1764 dL_law_40 (by decide +kernel) (by decide +kernel) (by decide +kernel) (by decide) ?_
    exact case_28 C hr hlocks hX hbl hex hlf a0 a1 a2 a3 a4 a5 a6 a7 a8 a9 a10 a11 a12 a13 g0 g1 g2 g3 g6 g8 g9 g10 f4 f5 f7 f11 f12
  · refine v_tableIn C (off := 1737) 1777 dL_law_40 (by decide +kernel) (by decide +kernel) (by decide +kernel) (by decide) ?_
    exact case_29 C hr hlocks hX hbl hex hlf a0 a1 a2 a3 a4 a5 a6 a7 a8 a9 a10 a11 a12 a13 g0 g1 g2 g3 g6 g8 g9 g10 f4 f5 f7 f11 f12
  · refine v_tableIn C (off := 1781) 1821 dL_law_40 (by decide +kernel) (by decide +kernel) (by decide +kernel) (by decide) ?_
    exact case_30 C hr hlocks hX hbl hex hlf a0 a1 a2 a3 a4 a5 a6 a7 a8 a9 a10 a11 a12 a13 g0 g1 g2 g3 g6 g8 g9 g10 f4 f5 f7 f11 f12
  · refine v_tableIn C (off := 1825) 1865 dL_law_40 (by decide +kernel) (by decide +kernel) (by decide +kernel) (by decide) ?_
    exact case_31 C hr hlocks hX hbl hex hlf a0 a1 a2 a3 a4 a5 a6 a7 a8 a9 a10 a11 a12 a13 g0 g1 g2 g3 g6 g8 g9 g10 f4 f5 f7 f11 f12
  · refine v_tableIn C (off := 1869) 1909 dL_law_40 (by decide +kernel) (by decide +kernel) (by decide +kernel) (by decide) ?_
    exact case_32 C hr hlocks hX hbl hex hlf a0 a1 a2 a3 a4 a5 a6 a7 a8 a9 a10 a11 a12 a13 g0 g1 g2 g3 g6 g8 g9 g10 f4 f5 f7 f11 f12
  · refine v_tableIn C (off := 1882) 1922 dL_law_40 (by decide +kernel) (by decide +kernel) (by decide +kernel) (by decide) ?_
    exact case_33 C hr hlocks hX hbl hex hlf a0 a1 a2 a3 a4 a5 a6 a7 a8 a9 a10 a11 a12 a13 g0 g1 g2 g3 g6 g8 g9 g10 f4 f5 f7 f11 f12
  · refine v_tableIn C (off := 1938) 1978 dL_law_40 (by decide +kernel) (by decide +kernel) (by decide +kernel) (by decide) ?_
    exact case_34 C hr hlocks hX hbl hex hlf a0 a1 a2 a3 a4 a5 a6 a7 a8 a9 a10 a11 a12 a13 g0 g1 g2 g3 g6 g8 g9 g10 f4 f5 f7 f11 f12
  · refine v_tableIn C (off := 1994) 2034 dL_law_40 (by decide +kernel) (by decide +kernel) (by decide +kernel) (by decide) ?_
    exact case_35 C hr hlocks hX hbl hex hlf a0 a1 a2 a3 a4 a5 a6 a7 a8 a9 a10 a11 a12 a13 g0 g1 g2 g3 g6 g8 g9 g10 f4 f5 f7 f11 f12
  · refine v_tableIn C (off := 2050) 2090 dL_law_40 (by decide +kernel) (by decide +kernel) (by decide +kernel) (by decide) ?_
    exact case_36 C hr hlocks hX hbl hex hlf a0 a1 a2 a3 a4 a5 a6 a7 a8 a9 a10 a11 a12 a13 g0 g1 g2 g3 g6 g8 g9 g10 f4 f5 f7 f11 f12
  · refine v_tableIn C (off := 2125) 2165 dL_law_40 (by decide +kernel) (by decide +kernel) (by decide +kernel) (by decide) ?_
    exact case_37 C hr hlocks hX hbl hex hlf a0 a1 a2 a3 a4 a5 a6 a7 a8 a9 a10 a11 a12 a13 g0 g1 g2 g3 g6 g8 g9 g10 f4 f5 f7 f11 f12
  · refine v_tableIn C (off := 2212) 2252 dL_law_40 (by decide +kernel) (by decide +kernel) (by decide +kernel) (by decide) ?_
    exact case_38 C hr hlocks hX hbl hex hlf a0 a1 a2 a3 a4 a5 a6 a7 a8 a9 a10 a11 a12 a13 g0 g1 g2 g3 g6 g8 g9 g10 f4 f5 f7 f11 f12
  · refine v_tableIn C (off := 2268) 2308 dL_law_40 (by decide +kernel) (by decide +kernel) (by decide +kernel) (by decide) ?_
    exact case_39 C hr hlocks hX hbl hex hlf a0 a1 a2 a3 a4 a5 a6 a7 a8 a9 a10 a11 a12 a13 g0 g1 g2 g3 g6 g8 g9 g10 f4 f5 f7 f11 f12
  · refine v_tableIn C (off := 2336) 2376 dL_law_40 (by decide +kernel) (by decide +kernel) (by decide +kernel) (by decide) ?_
    exact case_40 C hr hlocks hX hbl hex hlf a0 a1 a2 a3 a4 a5 a6 a7 a8 a9 a10 a11 a12 a13 g0 g1 g2 g3 g6 g8 g9 g10 f4 f5 f7 f11 f12
  · refine v_tableIn C (off := 2403) 2443 dL_law_40 (by decide +kernel) (by decide +kernel) (by decide +kernel) (by decide) ?_
    exact case_41 C hr hlocks hX hbl hex hlf a0 a1 a2 a3 a4 a5 a6 a7 a8 a9 a10 a11 a12 a13 g0 g1 g2 g3 g6 g8 g9 g10 f4 f5 f7 f11 f12
  · refine v_tableIn C (off := 2466) 2506 dL_law_40 (by decide +kernel) (by decide +kernel) (by decide +kernel) (by decide) ?_
    exact case_42 C hr hlocks hX hbl hex hlf a0 a1 a2 a3 a4 a5 a6 a7 a8 a9 a10 a11 a12 a13 g0 g1 g2 g3 g6 g8 g9 g10 f4 f5 f7 f11 f12
  · refine v_tableIn C (off := 2522) 2562 dL_law_40 (by decide +kernel) (by decide +kernel) (by decide +kernel) (by decide) ?_
    exact case_43 C hr hlocks hX hbl hex hlf a0 a1 a2 a3 a4 a5 a6 a7 a8 a9 a10 a11 a12 a13 g0 g1 g2 g3 g6 g8 g9 g10 f4 f5 f7 f11 f12
  · refine v_tableIn C (off := 2590) 2630 dL_law_40 (by decide +kernel) (by decide +kernel) (by decide +kernel) (by decide) ?_
    exact case_44 C hr hlocks hX hbl hex hlf a0 a1 a2 a3 a4 a5 a6 a7 a8 a9 a10 a11 a12 a13 g0 g1 g2 g3 g6 g8 g9 g10 f4 f5 f7 f11 f12
  · refine v_tableIn C (off := 2658) 2698 dL_law_40 (by decide +kernel) (by decide +kernel) (by decide +kernel) (by decide) ?_
    exact case_45 C hr hlocks hX hbl hex hlf a0 a1 a2 a3 a4 a5 a6 a7 a8 a9 a10 a11 a12 a13 g0 g1 g2 g3 g6 g8 g9 g10 f4 f5 f7 f11 f12
  · refine v_tableOut C 2712 dL_law_40 (Or.inr (by rw [nI_toInt (show n < 2 ^ 31 by omega)]; omega)) (by decide) ?_
    exact law_exit C hr hlocks hX hbl (q4 := 0) (q0 := 4) rfl rfl (Nat.le_of_ble_eq_true rfl) (Nat.le_of_ble_eq_true rfl)
end VLaw
