section YB
def lw (KN : Nat → Nat) (d : Nat → ClassId) (N : g_M) : va_W := [(KN 0, .inl (d 0, 14, .inl (fun i => Int32.ofInt (N 0 i)))), (KN 1, .inl (d 0, 14, .inl (fun i => Int32.ofInt (N 1 i)))), (KN 2, .inl (d 0, 14, .inl (fun i => Int32.ofInt (N 2 i)))), (KN 3, .inl (d 0, 14, .inl (fun i => Int32.ofInt (N 3 i)))), (KN 4, .inl (d 0, 30, .inl (fun i => Int32.ofInt (N 4 i)))), (KN 5, .inl (d 0, 30, .inl (fun i => Int32.ofInt (N 5 i)))), (KN 6, .inl (d 0, 9, .inl (fun i => Int32.ofInt (N 6 i))))]
def lwn (j : Nat) : Nat := [14, 14, 14, 14, 30, 30, 9].getD j 0
theorem lw_at (KN : Nat → Nat) (d : Nat → ClassId) (N : g_M) : ∀ j, j < 7 → (lw KN d N)[j]? = some (KN j, .inl (d 0, lwn j, .inl (fun i => Int32.ofInt (N j i)))) := by
  intro j hj
  have h2 : j = 0 ∨ j = 1 ∨ j = 2 ∨ j = 3 ∨ j = 4 ∨ j = 5 ∨ j = 6 := by omega
  rcases h2 with rfl | rfl | rfl | rfl | rfl | rfl | rfl <;> rfl
theorem lw_set (KN : Nat → Nat) (d : Nat → ClassId) (N : g_M) (i : Nat) (v : Int) : ∀ j, j < 7 → (lw KN d N).set j (KN j, .inl (d 0, lwn j, .inl (fun q => Int32.ofInt (up N j i v j q)))) = lw KN d (up N j i v) := by
  intro j hj
  have h2 : j = 0 ∨ j = 1 ∨ j = 2 ∨ j = 3 ∨ j = 4 ∨ j = 5 ∨ j = 6 := by omega
  rcases h2 with rfl | rfl | rfl | rfl | rfl | rfl | rfl <;> rfl
theorem lw_len (KN : Nat → Nat) (d : Nat → ClassId) (N : g_M) : (lw KN d N).length = 7 := rfl
variable {p : Program} {l : Launch} {e : Env} {R : Room} {s : State} {m : MethodId} {args : Array Value} {below : List Frame} {meth : Method} {c : Code} {Q : State → Prop} {D : va_G} {d : Nat → ClassId} {K : Nat → Nat} {A : Nat → Prop} {cc : ByteArray} {nL lvl : Nat} {own : String} {zc zs : Int} {KN : Nat → Nat} {N : g_M} {b Ls : Nat} {xs : Nat → Int32} {M : g_M} {lv : List (Nat × Value)} {pc : Nat} {st : List Value}

theorem y_iald (C : XC p R s m args c D d A cc nL own lvl zc zs) (j n : Nat) (hj : j < 7) (hn : lwn j = n) {x : Int} (hin : inI x n) (dg : decode cc pc = .ok (.iaload, 1)) (k : X p l e R s m args below meth c Q D d K A nL zc zs (lw KN d N) M lv (pc + 1) (iv (N j (bm x).toNat) :: st)) : X p l e R s m args below meth c Q D d K A nL zc zs (lw KN d N) M lv pc (iv x :: .ref (KN j) :: st) := by
  intro H locs ls LB hh hl
  subst hn
  refine va_iald (cl := gCl) C.1.1 C.1.2.1 C.1.2.2.2.2.2.1 hh.2.1 (91 + j) 0 ((L_at K d _ M LB (by rw [lw_len]; exact hj)).trans (lw_at KN d N j hj)) rfl (i_in hin) dg ?_
  rw [i_nat]
  exact k H locs ls LB hh hl
theorem y_iast (C : XC p R s m args c D d A cc nL own lvl zc zs) (j n : Nat) (hj : j < 7) (hn : lwn j = n) {x v : Int} (hin : inI x n) (dg : decode cc pc = .ok (.iastore, 1)) (k : X p l e R s m args below meth c Q D d K A nL zc zs (lw KN d (up N j (bm x).toNat v)) M lv (pc + 1) st) : X p l e R s m args below meth c Q D d K A nL zc zs (lw KN d N) M lv pc (iv v :: iv x :: .ref (KN j) :: st) := by
  intro H locs ls LB hh hl
  subst hn
  refine k_iast (cl := gCl) C.1.1 C.1.2.1 C.1.2.2.2.2.2.1 hh.2.1 hh.2.2.1 hh.2.2.2.1 (91 + j) 0 ((L_at K d _ M LB (by rw [lw_len]; exact hj)).trans (lw_at KN d N j hj)) rfl (i_in hin) (Int32.ofInt v) rfl dg (fun H1 locs1 hP1 hD1 hS1 hz ht => ?_)
  rw [i_nat, upd_up] at hP1 hD1
  have e7 : (wd K d (lw KN d N) M LB).set (91 + j) (KN j, .inl (d 0, lwn j, .inl (fun q => Int32.ofInt (up N j (bm x).toNat v j q)))) = wd K d (lw KN d (up N j (bm x).toNat v)) M LB := by
    unfold wd
    rw [List.set_append_right _ _ (by rw [fx_len]; omega), fx_len, Nat.add_sub_cancel_left, List.set_append_left _ _ (by rw [lw_len]; exact hj), lw_set KN d N _ v j hj]
  rw [e7] at hP1 hD1
  refine k H1 locs1 ls LB ⟨hh.1, hP1, hD1, hS1, ?_, ?_⟩ hl
  · rw [hz]
    exact hh.2.2.2.2.1
  · rw [ht]
    exact hh.2.2.2.2.2
theorem y_alen (C : XC p R s m args c D d A cc nL own lvl zc zs) (j n : Nat) (hj : j < 7) (hn : lwn j = n) (dg : decode cc pc = .ok (.arraylength, 1)) (k : X p l e R s m args below meth c Q D d K A nL zc zs (lw KN d N) M lv (pc + 1) (iv n :: st)) : X p l e R s m args below meth c Q D d K A nL zc zs (lw KN d N) M lv pc (.ref (KN j) :: st) := by
  intro H locs ls LB hh hl
  subst hn
  exact va_alen (cl := gCl) C.1.1 C.1.2.1 C.1.2.2.2.2.2.1 hh.2.1 (91 + j) 0 ((L_at K d _ M LB (by rw [lw_len]; exact hj)).trans (lw_at KN d N j hj)) rfl (Int32.ofInt_eq_ofNat (n := lwn j)).symm dg (k H locs ls LB hh hl)
def SC (b Ls : Nat) (xs : Nat → Int32) (s : State) (A : Nat → Prop) : Prop := va_X b Ls xs s s.heap ∧ b < s.heap.size ∧ ¬ A b
def scr (b Ls : Nat) (xs : Nat → Int32) (W : va_W) (sz : Nat) (U : State) : Prop := va_X b Ls xs U U.heap ∧ b < sz ∧ ¬ va_A W sz b
end YB
section YC
variable {p : Program} {l : Launch} {e : Env} {R : Room} {s : State} {m : MethodId} {args : Array Value} {below : List Frame} {meth : Method} {c : Code} {Q : State → Prop} {D : va_G} {d : Nat → ClassId} {K : Nat → Nat} {A : Nat → Prop} {cc : ByteArray} {nL lvl : Nat} {own : String} {zc zs : Int} {L : va_W} {M : g_M} {lv : List (Nat × Value)} {pc : Nat} {st : List Value}
variable {b Ls : Nat} {xs : Nat → Int32}
theorem x_sld (C : XC p R s m args c D d A cc nL own lvl zc zs) (hscr : SC b Ls xs s A) {x : Int} (hin : inI x Ls) (dg : decode cc pc = .ok (.iaload, 1)) (k : X p l e R s m args below meth c Q D d K A nL zc zs L M lv (pc + 1) (iv ((xs (bm x).toNat).toInt) :: st)) : X p l e R s m args below meth c Q D d K A nL zc zs L M lv pc (iv x :: .ref b :: st) := by
  intro H locs ls LB hh hl
  have h9 := k H locs ls LB hh hl
  unfold iv at h9
  rw [ofInt_toInt] at h9
  refine va_sld C.1.1 C.1.2.1 hscr.1 hscr.2.1 hscr.2.2 hh.2.2.2.1 (i_in hin) dg ?_
  rw [i_nat]
  exact h9
theorem x_slen (C : XC p R s m args c D d A cc nL own lvl zc zs) (hscr : SC b Ls xs s A) (dg : decode cc pc = .ok (.arraylength, 1)) (k : X p l e R s m args below meth c Q D d K A nL zc zs L M lv (pc + 1) (iv (Ls : Int) :: st)) : X p l e R s m args below meth c Q D d K A nL zc zs L M lv pc (.ref b :: st) := by
  intro H locs ls LB hh hl
  have h9 := k H locs ls LB hh hl
  unfold iv at h9
  rw [Int32.ofInt_eq_ofNat] at h9
  exact va_slen C.1.1 C.1.2.1 hscr.1 hscr.2.1 hscr.2.2 hh.2.2.2.1 dg h9
theorem sc_pre (C : XC p R s m args c D d A cc nL own lvl zc zs) (hscr : SC b Ls xs s A) {H : Heap} {locs : List Loc} {LB : g_B} (hh : XH D d K A s zc zs L M LB H locs) {U : State} (hU : U.heap = H) (hW : s.WarmedH U.vm) : scr b Ls xs (wd K d L M LB) H.size U := by
  refine ⟨?_, Nat.lt_of_lt_of_le hscr.2.1 hh.2.2.2.1.1, fun h => hscr.2.2 (va_free0 hh.2.2.1 hh.2.2.2.1 C.1.2.2.2.2.2.2.1 _ h)⟩
  rw [hU]
  exact (hscr.1.kept (hh.2.2.2.1.2.1 b hscr.2.1 hscr.2.2)).moved hW.alike
def MIs (l : Launch) (D : va_G) (d : Nat → ClassId) (K : Nat → Nat) (b Ls : Nat) (xs : Nat → Int32) (y : MethodName) (bb : ByteArray) (nY : Nat) (ret : Option FieldType) (n : Nat) (av : List Value) (F : (Int → g_M → Prop) → g_M → Prop) : Prop := ∀ (L : va_W) (M : g_M) (LB : g_B) (sz tz : Nat) (Q : Int → g_M → Prop), F Q M → Met l y (g_wd y bb nY ret) (g_rmx n M LB) (va_Pc av (fun U => kP D d K L M LB sz tz U ∧ scr b Ls xs (wd K d L M LB) sz U)) (qI D d K L (nC M LB) (nS M LB) sz tz Q (va_A (wd K d L M LB) sz)) (cC M LB) (cS M LB) (va_A (wd K d L M LB) sz)
abbrev qVN (D : va_G) (d : Nat → ClassId) (K : Nat → Nat) (KN : Nat → Nat) (nc ns : Int) (sz tz : Nat) (Q : g_M → g_M → Prop) (A : Nat → Prop) := va_Qv (fun (u : g_M × g_M × g_B) => Q u.1 u.2.1) (fun u t => kB D d K (lw KN d u.2.1) nc ns sz tz A (u.1, u.2.2) t) A
def MVN (l : Launch) (D : va_G) (d : Nat → ClassId) (K : Nat → Nat) (KN : Nat → Nat) (y : MethodName) (bb : ByteArray) (nY : Nat) (ret : Option FieldType) (n : Nat) (av : List Value) (F : (g_M → g_M → Prop) → g_M → g_M → Prop) : Prop := ∀ (M N : g_M) (LB : g_B) (sz tz : Nat) (Q : g_M → g_M → Prop), F Q M N → Met l y (g_wd y bb nY ret) (g_rmx n M LB) (va_Pc av (kP D d K (lw KN d N) M LB sz tz)) (qVN D d K KN (nC M LB) (nS M LB) sz tz Q (va_A (wd K d (lw KN d N) M LB) sz)) (cC M LB) (cS M LB) (va_A (wd K d (lw KN d N) M LB) sz)
def MVNs (l : Launch) (D : va_G) (d : Nat → ClassId) (K : Nat → Nat) (KN : Nat → Nat) (b Ls : Nat) (xs : Nat → Int32) (y : MethodName) (bb : ByteArray) (nY : Nat) (ret : Option FieldType) (n : Nat) (av : List Value) (F : (g_M → g_M → Prop) → g_M → g_M → Prop) : Prop := ∀ (M N : g_M) (LB : g_B) (sz tz : Nat) (Q : g_M → g_M → Prop), F Q M N → Met l y (g_wd y bb nY ret) (g_rmx n M LB) (va_Pc av (fun U => kP D d K (lw KN d N) M LB sz tz U ∧ scr b Ls xs (wd K d (lw KN d N) M LB) sz U)) (qVN D d K KN (nC M LB) (nS M LB) sz tz Q (va_A (wd K d (lw KN d N) M LB) sz)) (cC M LB) (cS M LB) (va_A (wd K d (lw KN d N) M LB) sz)
theorem kps_blind {LB : g_B} {sz tz : Nat} {av : List Value} : FrameBlind (va_Pc av (fun U => kP D d K L M LB sz tz U ∧ scr b Ls xs (wd K d L M LB) sz U)) := fun a U g mk q => by
  obtain ⟨q0, q1, q2⟩ := q
  have h := kp_blind (av := av) a U g mk ⟨q0, q1⟩
  exact ⟨h.1, h.2, q2.1.moved (u := U) (U := U.calling g mk a) (Vm.Alike.refl U.vm), q2.2⟩
theorem x_callSis (C : XC p R s m args c D d A cc nL own lvl zc zs) {y : MethodName} {bb : ByteArray} {nY nA index : Nat} {ret : Option FieldType} {n : Nat} (F : g_mf y bb nY ret nA) (hstat : Cond.static y ∈ gW) (hlink : Cond.methodLink own index y ∈ gW) (hscr : SC b Ls xs s A) {As rest : List Value} {FF : (Int → g_M → Prop) → g_M → Prop} {Q1 : Int → g_M → Prop} (hM : MIs l D d K b Ls xs y bb nY ret n As FF) (h : FF Q1 M) (hn : n + 1 ≤ lvl) (hnY : nY ≤ 31) (hrest : (rest.map fun v => v.category).sum ≤ 8) {st0 : List Value} (hst : st0 = As.reverse ++ rest) (hlen : As.length = nA) (dg : decode cc pc = .ok (.invokestatic index, 3)) (k : ∀ (v : Int) (M1 : g_M), Q1 v M1 → X p l e R s m args below meth c Q D d K A nL zc zs L M1 lv (pc + 3) (iv v :: rest)) : X p l e R s m args below meth c Q D d K A nL zc zs L M lv pc st0 := by
  intro H locs ls LB hh hl
  refine W.grow (fun hwt => ?_)
  have hr := xroom C hh hwt
  have hwz := hh.2.2.2.1.1
  refine W.tight (k := H.size - s.heap.size) (n := TOT H - TOT s.heap) (by omega) (by omega) ?_
  have cw : CallB R s args own index y bb nY ret (g_wd y bb nY ret) (g_rmx n M LB) (cC M LB) (cS M LB) nA ∧ (Cond.static y).before args s = true := ⟨callB_of nA C.1.2.2.2.2.1 (g_goodC F.1) rfl rfl rfl (C.1.2.2.2.2.1 _ F.2.1) (C.1.2.2.2.2.1 _ hlink) F.2.2 ⟨by show n + 6 + 1 ≤ _; have := C.2.2.1; omega, by show 8 + (nY + 11) + (150 + 50 * n) ≤ _; have := C.2.2.2.1; omega⟩, C.1.2.2.2.2.1 _ hstat⟩
  refine va_calli (va_runS (Ts := gW) ⟨C.1.1, C.1.2.1, C.1.2.2.1, C.1.2.2.2.1, C.1.2.2.2.2.1⟩ (hM L M LB H.size (TOT H) Q1 h) cw ⟨kps_blind, fun U hU hW => ⟨rfl, kp_pre C hh hU hW, sc_pre C hscr hh hU hW⟩⟩ rfl hlen hl.1 hst (lv_room hrest) dg hr) hh.2.2.2.1 (fun q _ h => va_free0 hh.2.2.1 hh.2.2.2.1 C.1.2.2.2.2.2.2.1 q h) (va_free0 hh.2.2.1 hh.2.2.2.1 C.1.2.2.2.2.2.2.1) (fun r u t H1 locs1 ht hvm hw9 hB hz1 hk1 hS1 => ?_)
  obtain ⟨rfl, hq⟩ := hw9
  exact W.widen hr.1 hr.2 (k u.1 u.2.1 hq H1 locs1 ls u.2.2 (kb_post C hh ht hB hS1) hl)
theorem x_callSvN (C : XC p R s m args c D d A cc nL own lvl zc zs) {KN : Nat → Nat} {N : g_M} {y : MethodName} {bb : ByteArray} {nY nA index : Nat} {ret : Option FieldType} {n : Nat} (F : g_mf y bb nY ret nA) (hstat : Cond.static y ∈ gW) (hlink : Cond.methodLink own index y ∈ gW) {As rest : List Value} {FF : (g_M → g_M → Prop) → g_M → g_M → Prop} {Q1 : g_M → g_M → Prop} (hM : MVN l D d K KN y bb nY ret n As FF) (h : FF Q1 M N) (hn : n + 1 ≤ lvl) (hnY : nY ≤ 31) (hrest : (rest.map fun v => v.category).sum ≤ 8) {st0 : List Value} (hst : st0 = As.reverse ++ rest) (hlen : As.length = nA) (dg : decode cc pc = .ok (.invokestatic index, 3)) (k : ∀ (M1 N1 : g_M), Q1 M1 N1 → X p l e R s m args below meth c Q D d K A nL zc zs (lw KN d N1) M1 lv (pc + 3) rest) : X p l e R s m args below meth c Q D d K A nL zc zs (lw KN d N) M lv pc st0 := by
  intro H locs ls LB hh hl
  refine W.grow (fun hwt => ?_)
  have hr := xroom C hh hwt
  have hwz := hh.2.2.2.1.1
  refine W.tight (k := H.size - s.heap.size) (n := TOT H - TOT s.heap) (by omega) (by omega) ?_
  have cw : CallB R s args own index y bb nY ret (g_wd y bb nY ret) (g_rmx n M LB) (cC M LB) (cS M LB) nA ∧ (Cond.static y).before args s = true := ⟨callB_of nA C.1.2.2.2.2.1 (g_goodC F.1) rfl rfl rfl (C.1.2.2.2.2.1 _ F.2.1) (C.1.2.2.2.2.1 _ hlink) F.2.2 ⟨by show n + 6 + 1 ≤ _; have := C.2.2.1; omega, by show 8 + (nY + 11) + (150 + 50 * n) ≤ _; have := C.2.2.2.1; omega⟩, C.1.2.2.2.2.1 _ hstat⟩
  refine va_callv (va_runS (Ts := gW) ⟨C.1.1, C.1.2.1, C.1.2.2.1, C.1.2.2.2.1, C.1.2.2.2.2.1⟩ (hM M N LB H.size (TOT H) Q1 h) cw ⟨kp_blind, fun U hU hW => ⟨rfl, kp_pre C hh hU hW⟩⟩ rfl hlen hl.1 hst (lv_room hrest) dg hr) hh.2.2.2.1 (fun q _ h => va_free0 hh.2.2.1 hh.2.2.2.1 C.1.2.2.2.2.2.2.1 q h) (va_free0 hh.2.2.1 hh.2.2.2.1 C.1.2.2.2.2.2.2.1) (fun u t H1 locs1 ht hvm hw9 hB hz1 hk1 hS1 => ?_)
  exact W.widen hr.1 hr.2 (k u.1 u.2.1 hw9 H1 locs1 ls u.2.2 (kb_post C hh ht hB hS1) hl)
theorem x_callSvNs (C : XC p R s m args c D d A cc nL own lvl zc zs) {KN : Nat → Nat} {N : g_M} {y : MethodName} {bb : ByteArray} {nY nA index : Nat} {ret : Option FieldType} {n : Nat} (F : g_mf y bb nY ret nA) (hstat : Cond.static y ∈ gW) (hlink : Cond.methodLink own index y ∈ gW) (hscr : SC b Ls xs s A) {As rest : List Value} {FF : (g_M → g_M → Prop) → g_M → g_M → Prop} {Q1 : g_M → g_M → Prop} (hM : MVNs l D d K KN b Ls xs y bb nY ret n As FF) (h : FF Q1 M N) (hn : n + 1 ≤ lvl) (hnY : nY ≤ 31) (hrest : (rest.map fun v => v.category).sum ≤ 8) {st0 : List Value} (hst : st0 = As.reverse ++ rest) (hlen : As.length = nA) (dg : decode cc pc = .ok (.invokestatic index, 3)) (k : ∀ (M1 N1 : g_M), Q1 M1 N1 → X p l e R s m args below meth c Q D d K A nL zc zs (lw KN d N1) M1 lv (pc + 3) rest) : X p l e R s m args below meth c Q D d K A nL zc zs (lw KN d N) M lv pc st0 := by
  intro H locs ls LB hh hl
  refine W.grow (fun hwt => ?_)
  have hr := xroom C hh hwt
  have hwz := hh.2.2.2.1.1
  refine W.tight (k := H.size - s.heap.size) (n := TOT H - TOT s.heap) (by omega) (by omega) ?_
  have cw : CallB R s args own index y bb nY ret (g_wd y bb nY ret) (g_rmx n M LB) (cC M LB) (cS M LB) nA ∧ (Cond.static y).before args s = true := ⟨callB_of nA C.1.2.2.2.2.1 (g_goodC F.1) rfl rfl rfl (C.1.2.2.2.2.1 _ F.2.1) (C.1.2.2.2.2.1 _ hlink) F.2.2 ⟨by show n + 6 + 1 ≤ _; have := C.2.2.1; omega, by show 8 + (nY + 11) + (150 + 50 * n) ≤ _; have := C.2.2.2.1; omega⟩, C.1.2.2.2.2.1 _ hstat⟩
  refine va_callv (va_runS (Ts := gW) ⟨C.1.1, C.1.2.1, C.1.2.2.1, C.1.2.2.2.1, C.1.2.2.2.2.1⟩ (hM M N LB H.size (TOT H) Q1 h) cw ⟨kps_blind, fun U hU hW => ⟨rfl, kp_pre C hh hU hW, sc_pre C hscr hh hU hW⟩⟩ rfl hlen hl.1 hst (lv_room hrest) dg hr) hh.2.2.2.1 (fun q _ h => va_free0 hh.2.2.1 hh.2.2.2.1 C.1.2.2.2.2.2.2.1 q h) (va_free0 hh.2.2.1 hh.2.2.2.1 C.1.2.2.2.2.2.2.1) (fun u t H1 locs1 ht hvm hw9 hB hz1 hk1 hS1 => ?_)
  exact W.widen hr.1 hr.2 (k u.1 u.2.1 hw9 H1 locs1 ls u.2.2 (kb_post C hh ht hB hS1) hl)
def RTN (p : Program) (l : Launch) (e : Env) (R : Room) (s : State) (m : MethodId) (args : Array Value) (below : List Frame) (meth : Method) (c : Code) (Q : State → Prop) (D : va_G) (d : Nat → ClassId) (K : Nat → Nat) (A : Nat → Prop) (nL : Nat) (zc zs : Int) (KN : Nat → Nat) (cc : ByteArray) (Q1 : g_M → g_M → Prop) : Prop := ∀ (M N : g_M) (lv : List (Nat × Value)) (pc : Nat), decode cc pc = .ok (.return_, 1) → Q1 M N → X p l e R s m args below meth c Q D d K A nL zc zs (lw KN d N) M lv pc []
end YC
section YM
variable {l : Launch} {D : va_G} {d : Nat → ClassId} {K KN : Nat → Nat} {y : MethodName} {av : List Value} {cc : ByteArray} {maxL n : Nat} {ret : Option FieldType} {b Ls : Nat} {xs : Nat → Int32}
theorem s_mis (hy : plainName y.cls = true) (hlen : (lg_sl av).length ≤ maxL) (lv0 : List (Nat × Value)) (hlv : lv_args 0 av = lv0) (hrt : ret = some .int) {F : (Int → g_M → Prop) → g_M → Prop}
    (body : ∀ (p : Program) (e : Env) (R : Room) (s : State) (m : MethodId) (args : Array Value) (below : List Frame) (meth : Method) (c : Code) (A : Nat → Prop) (L : va_W) (M : g_M) (zc zs : Int) (Q : Int → g_M → Prop) (Qg : State → Prop), XC p R s m args c D d A cc maxL y.cls n zc zs → SC b Ls xs s A → RTI p l e R s m args below meth c Qg D d K A maxL zc zs L cc Q → F Q M → X p l e R s m args below meth c Qg D d K A maxL zc zs L M lv0 0 []) : MIs l D d K b Ls xs y cc maxL ret n av F := by
  intro L M LB sz tz Q hF
  refine Met.ofW (cc := cc) (maxL := maxL) (ret := ret) hy rfl ?_
  intro p e s m args below meth c s₁ B hml hv
  obtain ⟨rfl, hv, hscr⟩ := hv
  rw [lg_entry_eq]
  have hts := atoms_spec (ws := g_wd y cc maxL ret) B.pre
  have hR := B.returns
  have hlk := B.notSynchronized
  obtain ⟨C, h0⟩ := xc_start (n := n) B.exec B.bytes hml (findClass_of_methodNamed B.named) (fun w hw => hts w (List.mem_cons_of_mem _ hw)) hv
  have K9 : X p l e (g_rmx n M LB) s m av.toArray below meth c (MQ below (qI D d K L (nC M LB) (nS M LB) sz tz Q (va_A (wd K d L M LB) sz)) av.toArray s (cC M LB) (cS M LB) (va_A (wd K d L M LB) sz)) D d K (va_A (wd K d L M LB) sz) maxL (s.heap.size - nC M LB) (TOT s.heap - nS M LB) L M lv0 0 [] := by
    refine body _ _ _ _ _ _ _ _ _ _ _ _ _ _ _ _ C ⟨hscr.1, by rw [hv.1]; exact hscr.2.1, hscr.2.2⟩ ?_ hF
    intro r M1 lv1 pc1 dg hq H locs ls LB1 h1 hl
    refine W.iret C.1.1 C.1.2.1 (hR.trans hrt) (fun t ht hW => ⟨⟨Int32.ofInt r, (r, M1, LB1), rfl, ⟨rfl, hq⟩, ?_⟩, h1.2.2.2.1.F ht⟩) h1.2.2.2.1.2.2 dg hlk
    refine ⟨h1.1, by rw [ht]; exact h1.2.1, h1.2.2.1, ?_, ?_⟩
    · rw [ht]
      have := h1.2.2.2.2.1
      have := hv.1
      dsimp only
      omega
    · rw [ht]
      have := h1.2.2.2.2.2
      have := hv.2.1
      dsimp only
      omega
  exact W.widen (Nat.zero_le _) (Nat.zero_le _) (K9 s.heap [] _ LB h0 (hlv ▸ lv_entry av hlen))
theorem s_mvn (hy : plainName y.cls = true) (hlen : (lg_sl av).length ≤ maxL) (lv0 : List (Nat × Value)) (hlv : lv_args 0 av = lv0) (hrt : ret = none) {F : (g_M → g_M → Prop) → g_M → g_M → Prop}
    (body : ∀ (p : Program) (e : Env) (R : Room) (s : State) (m : MethodId) (args : Array Value) (below : List Frame) (meth : Method) (c : Code) (A : Nat → Prop) (N : g_M) (M : g_M) (zc zs : Int) (Q : g_M → g_M → Prop) (Qg : State → Prop), XC p R s m args c D d A cc maxL y.cls n zc zs → RTN p l e R s m args below meth c Qg D d K A maxL zc zs KN cc Q → F Q M N → X p l e R s m args below meth c Qg D d K A maxL zc zs (lw KN d N) M lv0 0 []) : MVN l D d K KN y cc maxL ret n av F := by
  intro M N LB sz tz Q hF
  refine Met.ofW (cc := cc) (maxL := maxL) (ret := ret) hy rfl ?_
  intro p e s m args below meth c s₁ B hml hv
  obtain ⟨rfl, hv⟩ := hv
  rw [lg_entry_eq]
  have hts := atoms_spec (ws := g_wd y cc maxL ret) B.pre
  have hR := B.returns
  have hlk := B.notSynchronized
  obtain ⟨C, h0⟩ := xc_start (n := n) B.exec B.bytes hml (findClass_of_methodNamed B.named) (fun w hw => hts w (List.mem_cons_of_mem _ hw)) hv
  have K9 : X p l e (g_rmx n M LB) s m av.toArray below meth c (MQ below (qVN D d K KN (nC M LB) (nS M LB) sz tz Q (va_A (wd K d (lw KN d N) M LB) sz)) av.toArray s (cC M LB) (cS M LB) (va_A (wd K d (lw KN d N) M LB) sz)) D d K (va_A (wd K d (lw KN d N) M LB) sz) maxL (s.heap.size - nC M LB) (TOT s.heap - nS M LB) (lw KN d N) M lv0 0 [] := by
    refine body _ _ _ _ _ _ _ _ _ _ _ _ _ _ _ _ C ?_ hF
    intro M1 N1 lv1 pc1 dg hq H locs ls LB1 h1 hl
    refine W.vret C.1.1 C.1.2.1 (hR.trans hrt) (fun t ht hW => ⟨⟨(M1, N1, LB1), rfl, hq, ?_⟩, h1.2.2.2.1.F ht⟩) h1.2.2.2.1.2.2 dg hlk
    refine ⟨h1.1, by rw [ht]; exact h1.2.1, h1.2.2.1, ?_, ?_⟩
    · rw [ht]
      have := h1.2.2.2.2.1
      have := hv.1
      dsimp only
      omega
    · rw [ht]
      have := h1.2.2.2.2.2
      have := hv.2.1
      dsimp only
      omega
  exact W.widen (Nat.zero_le _) (Nat.zero_le _) (K9 s.heap [] _ LB h0 (hlv ▸ lv_entry av hlen))
theorem s_mvns (hy : plainName y.cls = true) (hlen : (lg_sl av).length ≤ maxL) (lv0 : List (Nat × Value)) (hlv : lv_args 0 av = lv0) (hrt : ret = none) {F : (g_M → g_M → Prop) → g_M → g_M → Prop}
    (body : ∀ (p : Program) (e : Env) (R : Room) (s : State) (m : MethodId) (args : Array Value) (below : List Frame) (meth : Method) (c : Code) (A : Nat → Prop) (N : g_M) (M : g_M) (zc zs : Int) (Q : g_M → g_M → Prop) (Qg : State → Prop), XC p R s m args c D d A cc maxL y.cls n zc zs → SC b Ls xs s A → RTN p l e R s m args below meth c Qg D d K A maxL zc zs KN cc Q → F Q M N → X p l e R s m args below meth c Qg D d K A maxL zc zs (lw KN d N) M lv0 0 []) : MVNs l D d K KN b Ls xs y cc maxL ret n av F := by
  intro M N LB sz tz Q hF
  refine Met.ofW (cc := cc) (maxL := maxL) (ret := ret) hy rfl ?_
  intro p e s m args below meth c s₁ B hml hv
  obtain ⟨rfl, hv, hscr⟩ := hv
  rw [lg_entry_eq]
  have hts := atoms_spec (ws := g_wd y cc maxL ret) B.pre
  have hR := B.returns
  have hlk := B.notSynchronized
  obtain ⟨C, h0⟩ := xc_start (n := n) B.exec B.bytes hml (findClass_of_methodNamed B.named) (fun w hw => hts w (List.mem_cons_of_mem _ hw)) hv
  have K9 : X p l e (g_rmx n M LB) s m av.toArray below meth c (MQ below (qVN D d K KN (nC M LB) (nS M LB) sz tz Q (va_A (wd K d (lw KN d N) M LB) sz)) av.toArray s (cC M LB) (cS M LB) (va_A (wd K d (lw KN d N) M LB) sz)) D d K (va_A (wd K d (lw KN d N) M LB) sz) maxL (s.heap.size - nC M LB) (TOT s.heap - nS M LB) (lw KN d N) M lv0 0 [] := by
    refine body _ _ _ _ _ _ _ _ _ _ _ _ _ _ _ _ C ⟨hscr.1, by rw [hv.1]; exact hscr.2.1, hscr.2.2⟩ ?_ hF
    intro M1 N1 lv1 pc1 dg hq H locs ls LB1 h1 hl
    refine W.vret C.1.1 C.1.2.1 (hR.trans hrt) (fun t ht hW => ⟨⟨(M1, N1, LB1), rfl, hq, ?_⟩, h1.2.2.2.1.F ht⟩) h1.2.2.2.1.2.2 dg hlk
    refine ⟨h1.1, by rw [ht]; exact h1.2.1, h1.2.2.1, ?_, ?_⟩
    · rw [ht]
      have := h1.2.2.2.2.1
      have := hv.1
      dsimp only
      omega
    · rw [ht]
      have := h1.2.2.2.2.2
      have := hv.2.1
      dsimp only
      omega
  exact W.widen (Nat.zero_le _) (Nat.zero_le _) (K9 s.heap [] _ LB h0 (hlv ▸ lv_entry av hlen))
end YM
