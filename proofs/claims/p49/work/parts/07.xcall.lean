section XD
variable {p : Program} {l : Launch} {e : Env} {R : Room} {s : State} {m : MethodId} {args : Array Value} {below : List Frame} {meth : Method} {c : Code} {Q : State → Prop} {D : va_G} {d : Nat → ClassId} {K : Nat → Nat} {A : Nat → Prop} {cc : ByteArray} {nL lvl : Nat} {own : String} {zc zs : Int} {L : va_W} {M : g_M} {lv : List (Nat × Value)} {pc : Nat} {st : List Value}

theorem x_get (C : XC p R s m args c D d A cc nL own lvl zc zs) {Cn : String} {T : u_T} {N ci index : Nat} {ty : Nat → FieldType} (F : g_cf Cn T N ty) (j0 : Nat) (hj0 : j0 < 91) {fs : List Value} (he : ∀ B, we K d B (M (40 + j0)) j0 = .inr (ci, fs)) (hc : gCl[ci]? = some (Cn, T, N)) (j : Nat) (hj : j < N) (hlink : Cond.fieldLink own index (T j).1 (T j).2.1 (T j).2.2.1 ∈ gW) {v : Value} (hv : fs[j]? = some v) (dg : decode cc pc = .ok (.getfield index, 3)) (k : X p l e R s m args below meth c Q D d K A nL zc zs L M lv (pc + 3) (v :: st)) : X p l e R s m args below meth c Q D d K A nL zc zs L M lv pc (.ref (K j0) :: st) := fun H locs ls LB hh hl => va_get (cl := gCl) C.1.1 C.1.2.1 C.1.2.2.2.2.1 F.1 C.1.2.2.2.1 C.1.2.2.2.2.2.1 hh.2.1 j0 ((fx_at K d L M LB hj0).trans (by rw [he])) hc j hj (C.1.2.2.2.2.1 _ hlink) (fun _ h => h) hv dg (k H locs ls LB hh hl)
theorem setSlot_size (c : Cell) (i : Nat) (v : Value) : (c.setSlot i v).slots.size = c.slots.size := by simp [Cell.setSlot]
/-- a field is set: the heap's size and its slots stay -/
theorem k_put {cl : List vw_C} {tys : List (ClassId × FieldType)} {H : Heap} {locs : List Loc} {cells slots a : Nat} {ls : Array Slot} {rest : List Value} {ws : va_W} {H0 : Heap} (hexec : p.tables.exec = Jvm.exec) (hb : c.code = cc) {own ref C : String} {T : u_T} {N ci index : Nat} {Ts : List Cond} (hts : ∀ w ∈ Ts, w.before args s = true) (hin : ∀ w ∈ u_ws C T N, w ∈ Ts) (ty0 : Nat → FieldType) (hty : ∀ k, k < N → parseFieldDescriptor (T k).2.2.1 = some (ty0 k)) (hnm : ∀ a, a < N → ∀ b, b < N → a ≠ b → (T a).2.1 ≠ (T b).2.1) (hown : s.vm.findClass own = some m.cls) (hK : va_K D cl tys s) (hP : va_P D cl ws H) (hD : va_D A ws) (hS0 : va_S A H0 H locs) (q0 : Nat) {fs : List Value} (he : ws[q0]? = some (a, .inr (ci, fs))) (hc : cl[ci]? = some (C, T, N)) (k : Nat) (hk : k < N) (hlink : (Cond.fieldLink own index ref (T k).2.1 (T k).2.2.1).before args s = true) (hsame : ∀ x, s.fieldFound? (T k).1 (T k).2.1 (T k).2.2.1 = some x → s.fieldFound? ref (T k).2.1 (T k).2.2.1 = some x) (hfin : (T k).2.2.2 = false) {ty : FieldType} {v : Value} (hd : parseFieldDescriptor (T k).2.2.1 = some ty) (hn : narrow ty v = v) (hfit : fits ty v = true) (hl : k < fs.length)
    (hdg : decode cc pc = .ok (.putfield index, 3)) (kk : ∀ (H1 : Heap) (locs1 : List Loc), va_P D cl (ws.set q0 (a, .inr (ci, fs.set k v))) H1 → va_D A (ws.set q0 (a, .inr (ci, fs.set k v))) → va_S A H0 H1 locs1 → H1.size = H.size → TOT H1 = TOT H → W p l e R s m args below meth c H1 locs1 cells slots Q (F0 m (pc + 3) ls rest)) : W p l e R s m args below meth c H locs cells slots Q (F0 m pc ls (v :: .ref a :: rest)) := by
  have hap := va_apart (own := own) hts hin ty0 hty hnm hK hc
  obtain ⟨r, h1, cell, q1, q2, q3, q4⟩ := hP q0 _ he
  have hr : r = (C, T, N) := Option.some.inj (h1.symm.trans hc)
  subst hr
  obtain ⟨hS, hfc, kC, hkC, hkind⟩ := hK.1 ci _ hc
  obtain ⟨cf, kf, fi, f, hi, hsl⟩ := hS k hk
  have hlay := hts _ (hin _ (u_in_lay hk))
  unfold u_lay at hlay
  rw [if_neg (by rw [hfin]; decide)] at hlay
  have hst := (u_facts hfc hkC (u_lays hts hin hk) hi).1
  have h6 := u_store hfc hkC hkind hlay hi hd hn hfit
  refine W.putK hexec hb (f := f) ⟨hown, hlink, ⟨_, _, _, hsame _ hi⟩, hst⟩ (by rw [q2]; exact h6) q1 q3 (by rw [hsl]; exact k2_hasslot (q4 k hk)) rfl rfl hdg fun H' e1 e2 e3 => ?_
  have ht := tot_put e2 e3 q1 e1 (setSlot_size _ _ _)
  rw [hsl] at e1 ⊢
  exact kk H' _ (hP.set hD he ⟨_, hc, t_OB.to (V := updV (vp_V fs) k v) ⟨_, e1, q2, q3, t_set q4 hap hk v⟩ (fun j _ => vp_updV_set hl v j)⟩ e3) (hD.set he) (hS0.put e2 e3 (hD.2 q0 _ he)) e2 ht
theorem wf_up {M : g_M} {LB : g_B} {a i : Nat} {v : Int} (h : g_wf M LB) (ha : 34 ≤ a) (hb : a ≠ 99) : g_wf (up M a i v) LB := by
  refine ⟨h.1, h.2.1, fun r j hr hn => ?_, ?_⟩
  · rw [up_ne (by omega)]
    exact h.2.2.1 r j hr hn
  · rw [up_ne (Ne.symm hb)]
    exact h.2.2.2
theorem nC_up {M : g_M} {LB : g_B} {a i : Nat} {v : Int} (hb : a ≠ 99) : nC (up M a i v) LB = nC M LB ∧ nS (up M a i v) LB = nS M LB := by
  unfold nC nS
  rw [up_ne (Ne.symm hb)]
  exact ⟨rfl, rfl⟩
theorem x_put (C : XC p R s m args c D d A cc nL own lvl zc zs) {Cn : String} {T : u_T} {N ci index : Nat} {ty : Nat → FieldType} (F : g_cf Cn T N ty) (j0 : Nat) (hj0 : j0 < 23) {fs : List Value} (he : ∀ B, we K d B (M (40 + j0)) j0 = .inr (ci, fs)) (hc : gCl[ci]? = some (Cn, T, N)) (j : Nat) (hj : j < N) (hlink : Cond.fieldLink own index (T j).1 (T j).2.1 (T j).2.2.1 ∈ gW) (hfin : (T j).2.2.2 = false) {x : Int} (hn : narrow (ty j) (iv x) = iv x) (hfit : fits (ty j) (iv x) = true) (hl0 : j < fs.length) (hx : ∀ B, we K d B (up M (40 + j0) j x (40 + j0)) j0 = .inr (ci, fs.set j (iv x))) (dg : decode cc pc = .ok (.putfield index, 3)) (k : X p l e R s m args below meth c Q D d K A nL zc zs L (up M (40 + j0) j x) lv (pc + 3) st) : X p l e R s m args below meth c Q D d K A nL zc zs L M lv pc (iv x :: .ref (K j0) :: st) := by
  intro H locs ls LB hh hl
  refine k_put (cl := gCl) C.1.1 C.1.2.1 C.1.2.2.2.2.1 F.1 ty F.2.1 F.2.2 C.1.2.2.2.1 C.1.2.2.2.2.2.1 hh.2.1 hh.2.2.1 hh.2.2.2.1 j0 ((fx_at K d L M LB (by omega)).trans (by rw [he])) hc j hj (C.1.2.2.2.2.1 _ hlink) (fun _ h => h) hfin (F.2.1 j hj) hn hfit hl0 dg (fun H1 locs1 hP1 hD1 hS1 hz ht => ?_)
  rw [wd_set (M' := up M (40 + j0) j x) (by omega) (hx _) (fun a ha => up_ne ha) (fun q hq => (hh.1.1 q hq).1)] at hP1 hD1
  refine k H1 locs1 ls LB ⟨wf_up hh.1 (by omega) (by omega), hP1, hD1, hS1, ?_, ?_⟩ hl
  · rw [(nC_up (by omega)).1, hz]
    exact hh.2.2.2.2.1
  · rw [(nC_up (by omega)).2, ht]
    exact hh.2.2.2.2.2
theorem x_iald (C : XC p R s m args c D d A cc nL own lvl zc zs) (j0 n : Nat) (hj0 : j0 < 23) (he : ∀ B, we K d B (M (40 + j0)) j0 = .inl (d 0, n, .inl (fun i => Int32.ofInt (M (40 + j0) i)))) {x : Int} (hin : inI x n) (dg : decode cc pc = .ok (.iaload, 1)) (k : X p l e R s m args below meth c Q D d K A nL zc zs L M lv (pc + 1) (iv (M (40 + j0) (bm x).toNat) :: st)) : X p l e R s m args below meth c Q D d K A nL zc zs L M lv pc (iv x :: .ref (K j0) :: st) := by
  intro H locs ls LB hh hl
  refine va_iald (cl := gCl) C.1.1 C.1.2.1 C.1.2.2.2.2.2.1 hh.2.1 j0 0 ((fx_at K d L M LB (by omega)).trans (by rw [he])) rfl (i_in hin) dg ?_
  rw [i_nat]
  exact k H locs ls LB hh hl
theorem k_iast {cl : List vw_C} {tys : List (ClassId × FieldType)} {H : Heap} {locs : List Loc} {cells slots a : Nat} {ls : Array Slot} {rest : List Value} {ws : va_W} {H0 : Heap} (hexec : p.tables.exec = Jvm.exec) (hb : c.code = cc) (hK : va_K D cl tys s) (hP : va_P D cl ws H) (hD : va_D A ws) (hS : va_S A H0 H locs) (q0 t0 : Nat) {cA : ClassId} {n : Nat} {f : Nat → Int32} (ha : ws[q0]? = some (a, .inl (cA, n, .inl f))) (ht : tys[t0]? = some (cA, .int)) {i : Int32} {x : Int32} (hin : vp_in i n) (y : Int32) (hy : (.int x) = Value.int y) (hdg : decode cc pc = .ok (.iastore, 1))
    (kk : ∀ (H1 : Heap) (locs1 : List Loc), va_P D cl (ws.set q0 (a, .inl (cA, n, .inl (upd f i.toNatClampNeg y)))) H1 → va_D A (ws.set q0 (a, .inl (cA, n, .inl (upd f i.toNatClampNeg y)))) → va_S A H0 H1 locs1 → H1.size = H.size → TOT H1 = TOT H → W p l e R s m args below meth c H1 locs1 cells slots Q (F0 m (pc + 1) ls rest)) : W p l e R s m args below meth c H locs cells slots Q (F0 m pc ls (.int x :: .int i :: .ref a :: rest)) := by
  refine W.iast hexec hb (hP q0 _ ha) ((hK.2 t0 _ ht).1 n (fun j => .int (f j))) (fun q => by cases q) (by show ¬ (i < 0 ∨ (arrV _ _ _).slots.size ≤ _); rw [arrV_size]; exact hin) rfl rfl hdg fun H1 e z oq => ?_
  refine kk H1 _ (hP.set hD ha ?_ oq) (hD.set ha) (hS.put z oq (hD.2 q0 _ ha)) z (tot_put z oq (hP q0 _ ha) e (setSlot_size _ _ _))
  show H1[a]? = some (vp_cell _ _)
  rw [e]
  cases hy
  rw [vp_cell_i, vp_cell_i, arrV_store]
  congr 2
  funext q
  by_cases hq : q = i.toNatClampNeg
  · subst hq
    simp [updV, upd]
  · simp [updV, upd, hq]
theorem x_bald (C : XC p R s m args c D d A cc nL own lvl zc zs) (j0 n : Nat) (hj0 : j0 < 23) (he : ∀ B, we K d B (M (40 + j0)) j0 = .inl (d 1, n, .inl (fun i => Int32.ofInt (M (40 + j0) i)))) {x : Int} (hin : inI x n) (dg : decode cc pc = .ok (.baload, 1)) (k : X p l e R s m args below meth c Q D d K A nL zc zs L M lv (pc + 1) (iv (M (40 + j0) (bm x).toNat) :: st)) : X p l e R s m args below meth c Q D d K A nL zc zs L M lv pc (iv x :: .ref (K j0) :: st) := by
  intro H locs ls LB hh hl
  refine va_bald (cl := gCl) C.1.1 C.1.2.1 C.1.2.2.2.2.2.1 hh.2.1 j0 1 ((fx_at K d L M LB (by omega)).trans (by rw [he])) rfl (i_in hin) dg ?_
  rw [i_nat]
  exact k H locs ls LB hh hl
theorem k_bast {cl : List vw_C} {tys : List (ClassId × FieldType)} {H : Heap} {locs : List Loc} {cells slots a : Nat} {ls : Array Slot} {rest : List Value} {ws : va_W} {H0 : Heap} (hexec : p.tables.exec = Jvm.exec) (hb : c.code = cc) (hK : va_K D cl tys s) (hP : va_P D cl ws H) (hD : va_D A ws) (hS : va_S A H0 H locs) (q0 t0 : Nat) {cA : ClassId} {n : Nat} {f : Nat → Int32} (ha : ws[q0]? = some (a, .inl (cA, n, .inl f))) (ht : tys[t0]? = some (cA, .byte)) {i : Int32} {x : Int32} (hin : vp_in i n) (y : Int32) (hy : (narrow .byte (.int x)) = Value.int y) (hdg : decode cc pc = .ok (.bastore, 1))
    (kk : ∀ (H1 : Heap) (locs1 : List Loc), va_P D cl (ws.set q0 (a, .inl (cA, n, .inl (upd f i.toNatClampNeg y)))) H1 → va_D A (ws.set q0 (a, .inl (cA, n, .inl (upd f i.toNatClampNeg y)))) → va_S A H0 H1 locs1 → H1.size = H.size → TOT H1 = TOT H → W p l e R s m args below meth c H1 locs1 cells slots Q (F0 m (pc + 1) ls rest)) : W p l e R s m args below meth c H locs cells slots Q (F0 m pc ls (.int x :: .int i :: .ref a :: rest)) := by
  refine W.bast hexec hb (hP q0 _ ha) ((hK.2 t0 _ ht).1 n (fun j => .int (f j))) (fun q => by cases q) (by show ¬ (i < 0 ∨ (arrV _ _ _).slots.size ≤ _); rw [arrV_size]; exact hin) rfl rfl hdg fun H1 e z oq => ?_
  refine kk H1 _ (hP.set hD ha ?_ oq) (hD.set ha) (hS.put z oq (hD.2 q0 _ ha)) z (tot_put z oq (hP q0 _ ha) e (setSlot_size _ _ _))
  show H1[a]? = some (vp_cell _ _)
  rw [e]
  rw [hy]
  rw [vp_cell_i, vp_cell_i, arrV_store]
  congr 2
  funext q
  by_cases hq : q = i.toNatClampNeg
  · subst hq
    simp [updV, upd]
  · simp [updV, upd, hq]
theorem x_zald (C : XC p R s m args c D d A cc nL own lvl zc zs) (j0 n : Nat) (hj0 : j0 < 23) (he : ∀ B, we K d B (M (40 + j0)) j0 = .inl (d 2, n, .inl (fun i => Int32.ofInt (M (40 + j0) i)))) {x : Int} (hin : inI x n) (dg : decode cc pc = .ok (.baload, 1)) (k : X p l e R s m args below meth c Q D d K A nL zc zs L M lv (pc + 1) (iv (M (40 + j0) (bm x).toNat) :: st)) : X p l e R s m args below meth c Q D d K A nL zc zs L M lv pc (iv x :: .ref (K j0) :: st) := by
  intro H locs ls LB hh hl
  refine va_zald (cl := gCl) C.1.1 C.1.2.1 C.1.2.2.2.2.2.1 hh.2.1 j0 2 ((fx_at K d L M LB (by omega)).trans (by rw [he])) rfl (i_in hin) dg ?_
  rw [i_nat]
  exact k H locs ls LB hh hl
theorem k_zast {cl : List vw_C} {tys : List (ClassId × FieldType)} {H : Heap} {locs : List Loc} {cells slots a : Nat} {ls : Array Slot} {rest : List Value} {ws : va_W} {H0 : Heap} (hexec : p.tables.exec = Jvm.exec) (hb : c.code = cc) (hK : va_K D cl tys s) (hP : va_P D cl ws H) (hD : va_D A ws) (hS : va_S A H0 H locs) (q0 t0 : Nat) {cA : ClassId} {n : Nat} {f : Nat → Int32} (ha : ws[q0]? = some (a, .inl (cA, n, .inl f))) (ht : tys[t0]? = some (cA, .boolean)) {i : Int32} {x : Int32} (hin : vp_in i n) (y : Int32) (hy : (narrow .boolean (.int x)) = Value.int y) (hdg : decode cc pc = .ok (.bastore, 1))
    (kk : ∀ (H1 : Heap) (locs1 : List Loc), va_P D cl (ws.set q0 (a, .inl (cA, n, .inl (upd f i.toNatClampNeg y)))) H1 → va_D A (ws.set q0 (a, .inl (cA, n, .inl (upd f i.toNatClampNeg y)))) → va_S A H0 H1 locs1 → H1.size = H.size → TOT H1 = TOT H → W p l e R s m args below meth c H1 locs1 cells slots Q (F0 m (pc + 1) ls rest)) : W p l e R s m args below meth c H locs cells slots Q (F0 m pc ls (.int x :: .int i :: .ref a :: rest)) := by
  refine W.zast hexec hb (hP q0 _ ha) ((hK.2 t0 _ ht).1 n (fun j => .int (f j))) (fun q => by cases q) (by show ¬ (i < 0 ∨ (arrV _ _ _).slots.size ≤ _); rw [arrV_size]; exact hin) rfl rfl hdg fun H1 e z oq => ?_
  refine kk H1 _ (hP.set hD ha ?_ oq) (hD.set ha) (hS.put z oq (hD.2 q0 _ ha)) z (tot_put z oq (hP q0 _ ha) e (setSlot_size _ _ _))
  show H1[a]? = some (vp_cell _ _)
  rw [e]
  rw [hy]
  rw [vp_cell_i, vp_cell_i, arrV_store]
  congr 2
  funext q
  by_cases hq : q = i.toNatClampNeg
  · subst hq
    simp [updV, upd]
  · simp [updV, upd, hq]
theorem upd_up (M : g_M) (a i : Nat) (v : Int) : upd (fun j => Int32.ofInt (M a j)) i (Int32.ofInt v) = fun j => Int32.ofInt (up M a i v a j) := by
  funext j
  rw [up_row]
  by_cases h : j = i
  · simp [upd, h]
  · simp [upd, h]
theorem x_iast (C : XC p R s m args c D d A cc nL own lvl zc zs) (j0 n : Nat) (hj0 : j0 < 23) (he : ∀ (B : Nat → Nat → Option Nat) (mm : Nat → Int), we K d B mm j0 = .inl (d 0, n, .inl (fun i => Int32.ofInt (mm i)))) {x v : Int} (hin : inI x n) (dg : decode cc pc = .ok (.iastore, 1)) (k : X p l e R s m args below meth c Q D d K A nL zc zs L (up M (40 + j0) (bm x).toNat v) lv (pc + 1) st) : X p l e R s m args below meth c Q D d K A nL zc zs L M lv pc (iv v :: iv x :: .ref (K j0) :: st) := by
  intro H locs ls LB hh hl
  refine k_iast (cl := gCl) C.1.1 C.1.2.1 C.1.2.2.2.2.2.1 hh.2.1 hh.2.2.1 hh.2.2.2.1 j0 0 ((fx_at K d L M LB (by omega)).trans (by rw [he])) rfl (i_in hin) (Int32.ofInt v) rfl dg (fun H1 locs1 hP1 hD1 hS1 hz ht => ?_)
  rw [i_nat, upd_up] at hP1 hD1
  rw [wd_set (M' := up M (40 + j0) (bm x).toNat v) (by omega) (he _ _) (fun a ha => up_ne ha) (fun q hq => (hh.1.1 q hq).1)] at hP1 hD1
  refine k H1 locs1 ls LB ⟨wf_up hh.1 (by omega) (by omega), hP1, hD1, hS1, ?_, ?_⟩ hl
  · rw [(nC_up (by omega)).1, hz]
    exact hh.2.2.2.2.1
  · rw [(nC_up (by omega)).2, ht]
    exact hh.2.2.2.2.2
theorem x_bast (C : XC p R s m args c D d A cc nL own lvl zc zs) (j0 n : Nat) (hj0 : j0 < 23) (he : ∀ (B : Nat → Nat → Option Nat) (mm : Nat → Int), we K d B mm j0 = .inl (d 1, n, .inl (fun i => Int32.ofInt (mm i)))) {x v : Int} (hin : inI x n) (dg : decode cc pc = .ok (.bastore, 1)) (k : X p l e R s m args below meth c Q D d K A nL zc zs L (up M (40 + j0) (bm x).toNat (i2b v)) lv (pc + 1) st) : X p l e R s m args below meth c Q D d K A nL zc zs L M lv pc (iv v :: iv x :: .ref (K j0) :: st) := by
  intro H locs ls LB hh hl
  refine k_bast (cl := gCl) C.1.1 C.1.2.1 C.1.2.2.2.2.2.1 hh.2.1 hh.2.2.1 hh.2.2.2.1 j0 1 ((fx_at K d L M LB (by omega)).trans (by rw [he])) rfl (i_in hin) (Int32.ofInt (i2b v)) (by show Value.int _ = _; unfold i2b; rw [ofInt_toInt]) dg (fun H1 locs1 hP1 hD1 hS1 hz ht => ?_)
  rw [i_nat, upd_up] at hP1 hD1
  rw [wd_set (M' := up M (40 + j0) (bm x).toNat (i2b v)) (by omega) (he _ _) (fun a ha => up_ne ha) (fun q hq => (hh.1.1 q hq).1)] at hP1 hD1
  refine k H1 locs1 ls LB ⟨wf_up hh.1 (by omega) (by omega), hP1, hD1, hS1, ?_, ?_⟩ hl
  · rw [(nC_up (by omega)).1, hz]
    exact hh.2.2.2.2.1
  · rw [(nC_up (by omega)).2, ht]
    exact hh.2.2.2.2.2
theorem x_zast (C : XC p R s m args c D d A cc nL own lvl zc zs) (j0 n : Nat) (hj0 : j0 < 23) (he : ∀ (B : Nat → Nat → Option Nat) (mm : Nat → Int), we K d B mm j0 = .inl (d 2, n, .inl (fun i => Int32.ofInt (mm i)))) {x v : Int} (hin : inI x n) (hb : isB v) (dg : decode cc pc = .ok (.bastore, 1)) (k : X p l e R s m args below meth c Q D d K A nL zc zs L (up M (40 + j0) (bm x).toNat v) lv (pc + 1) st) : X p l e R s m args below meth c Q D d K A nL zc zs L M lv pc (iv v :: iv x :: .ref (K j0) :: st) := by
  intro H locs ls LB hh hl
  refine k_zast (cl := gCl) C.1.1 C.1.2.1 C.1.2.2.2.2.2.1 hh.2.1 hh.2.2.1 hh.2.2.2.1 j0 2 ((fx_at K d L M LB (by omega)).trans (by rw [he])) rfl (i_in hin) (Int32.ofInt v) ((i_bool hb).1) dg (fun H1 locs1 hP1 hD1 hS1 hz ht => ?_)
  rw [i_nat, upd_up] at hP1 hD1
  rw [wd_set (M' := up M (40 + j0) (bm x).toNat v) (by omega) (he _ _) (fun a ha => up_ne ha) (fun q hq => (hh.1.1 q hq).1)] at hP1 hD1
  refine k H1 locs1 ls LB ⟨wf_up hh.1 (by omega) (by omega), hP1, hD1, hS1, ?_, ?_⟩ hl
  · rw [(nC_up (by omega)).1, hz]
    exact hh.2.2.2.2.1
  · rw [(nC_up (by omega)).2, ht]
    exact hh.2.2.2.2.2
theorem x_alen (C : XC p R s m args c D d A cc nL own lvl zc zs) (j0 n ti : Nat) (hj0 : j0 < 23) {x : vp_A} (he : ∀ B, we K d B (M (40 + j0)) j0 = .inl (d ti, x)) {ty : FieldType} (ht : (g_ty d)[ti]? = some (d ti, ty)) (hv : Int32.ofNat x.1 = Int32.ofInt n) (dg : decode cc pc = .ok (.arraylength, 1)) (k : X p l e R s m args below meth c Q D d K A nL zc zs L M lv (pc + 1) (iv n :: st)) : X p l e R s m args below meth c Q D d K A nL zc zs L M lv pc (.ref (K j0) :: st) := fun H locs ls LB hh hl => va_alen (cl := gCl) C.1.1 C.1.2.1 C.1.2.2.2.2.2.1 hh.2.1 j0 ti ((fx_at K d L M LB (by omega)).trans (by rw [he])) ht hv dg (k H locs ls LB hh hl)
theorem x_mmax (C : XC p R s m args c D d A cc nL own lvl zc zs) {index : Nat} {x y : Int} (hlink : Cond.methodLink own index Lib.Math.max.name ∈ gW) (hstat : Cond.static Lib.Math.max.name ∈ gW) (hini : Cond.initialized "java/lang/Math" ∈ gW) (hcode : Cond.code Lib.Math.max.name Lib.Math.max.code 2 (some .int) ∈ gW) (hlo : (st.map fun v => v.category).sum + 13 ≤ 150) (dg : decode cc pc = .ok (.invokestatic index, 3)) (k : X p l e R s m args below meth c Q D d K A nL zc zs L M lv (pc + 3) (iv (imax x y) :: st)) : X p l e R s m args below meth c Q D d K A nL zc zs L M lv pc (iv y :: iv x :: st) := by
  intro H locs ls LB hh hl
  refine va_mmax C.1.1 C.1.2.1 (C.1.2.2.1.trans hl.1.symm) C.1.2.2.2.1 (C.1.2.2.2.2.1 _ hlink) (C.1.2.2.2.2.1 _ hstat) (C.1.2.2.2.2.1 _ hini) (C.1.2.2.2.2.1 _ hcode) (by have := C.2.2.1; omega) (by have := C.2.2.2.1; omega) (Nat.le_refl _) (Nat.le_refl _) dg ?_
  have h9 := k H locs ls LB hh hl
  have e : Int32.ofInt (imax x y) = if Int32.ofInt x < Int32.ofInt y then Int32.ofInt y else Int32.ofInt x := by
    unfold imax
    by_cases h : bm x < bm y
    · rw [if_pos h, if_pos ((i_lt _ _).mpr h)]
    · rw [if_neg h, if_neg (fun q => h ((i_lt _ _).mp q))]
  unfold iv at h9
  rw [e] at h9
  exact h9
theorem x_mmin (C : XC p R s m args c D d A cc nL own lvl zc zs) {index : Nat} {x y : Int} (hlink : Cond.methodLink own index Lib.Math.min.name ∈ gW) (hstat : Cond.static Lib.Math.min.name ∈ gW) (hini : Cond.initialized "java/lang/Math" ∈ gW) (hcode : Cond.code Lib.Math.min.name Lib.Math.min.code 2 (some .int) ∈ gW) (hlo : (st.map fun v => v.category).sum + 13 ≤ 150) (dg : decode cc pc = .ok (.invokestatic index, 3)) (k : X p l e R s m args below meth c Q D d K A nL zc zs L M lv (pc + 3) (iv (imin x y) :: st)) : X p l e R s m args below meth c Q D d K A nL zc zs L M lv pc (iv y :: iv x :: st) := by
  intro H locs ls LB hh hl
  refine va_mmin C.1.1 C.1.2.1 (C.1.2.2.1.trans hl.1.symm) C.1.2.2.2.1 (C.1.2.2.2.2.1 _ hlink) (C.1.2.2.2.2.1 _ hstat) (C.1.2.2.2.2.1 _ hini) (C.1.2.2.2.2.1 _ hcode) (by have := C.2.2.1; omega) (by have := C.2.2.2.1; omega) (Nat.le_refl _) (Nat.le_refl _) dg ?_
  have h9 := k H locs ls LB hh hl
  have e : Int32.ofInt (imin x y) = if Int32.ofInt y < Int32.ofInt x then Int32.ofInt y else Int32.ofInt x := by
    unfold imin
    by_cases h : bm y < bm x
    · rw [if_pos h, if_pos ((i_lt _ _).mpr h)]
    · rw [if_neg h, if_neg (fun q => h ((i_lt _ _).mp q))]
  unfold iv at h9
  rw [e] at h9
  exact h9
theorem W.tight {H : Heap} {locs : List Loc} {ck sl k n : Nat} {g : JFrame} (h1 : H.size ≤ s.heap.size + k) (h2 : TOT H ≤ TOT s.heap + n) (kk : W p l e R s m args below meth c H locs k n Q g) : W p l e R s m args below meth c H locs ck sl Q g := by
  intro T hT Y
  refine kk T hT { Y with same := ?_ }
  obtain ⟨a1, a2, a3, a4, a5, a6⟩ := Y.same
  have h0 := tot_same Y.same
  refine ⟨a1, a2, ?_, a4, ?_, a6⟩
  · show T.heap.size ≤ _
    rw [hT]
    exact h1
  · have h3 : TOT (T.setVm s.vm).heap = TOT H := by show TOT T.heap = _; rw [hT]
    omega
theorem va_free0 {A0 : Nat → Prop} {ws : va_W} {H0 H : Heap} {locs : List Loc} (hD : va_D A0 ws) (hS : va_S A0 H0 H locs) (hA : ∀ q, H0.size ≤ q → A0 q) : ∀ q, va_A ws H.size q → A0 q := fun q h => h.elim (fun ⟨k, e, h⟩ => hD.2 k (q, e) h) (fun h => hA q (Nat.le_trans hS.1 h))
def kP (D : va_G) (d : Nat → ClassId) (K : Nat → Nat) (L : va_W) (M : g_M) (LB : g_B) (sz tz : Nat) (U : State) : Prop := U.heap.size = sz ∧ TOT U.heap = tz ∧ g_wf M LB ∧ va_P D gCl (wd K d L M LB) U.heap ∧ va_K D gCl (g_ty d) U ∧ va_D (fun _ => True) (wd K d L M LB) ∧ g_AO U ∧ (∀ w ∈ gB, va_Nw w U) ∧ g_ex (va_A (wd K d L M LB) sz) U
def kB (D : va_G) (d : Nat → ClassId) (K : Nat → Nat) (L : va_W) (nc ns : Int) (sz tz : Nat) (A : Nat → Prop) : g_M × g_B → State → Prop := fun u t => g_wf u.1 u.2 ∧ va_P D gCl (wd K d L u.1 u.2) t.heap ∧ va_D A (wd K d L u.1 u.2) ∧ (t.heap.size : Int) + nc ≤ sz + nC u.1 u.2 ∧ (TOT t.heap : Int) + ns ≤ tz + nS u.1 u.2
abbrev qI (D : va_G) (d : Nat → ClassId) (K : Nat → Nat) (L : va_W) (nc ns : Int) (sz tz : Nat) (Q : Int → g_M → Prop) (A : Nat → Prop) := va_Qi (fun (r : Int32) (u : Int × g_M × g_B) => r = Int32.ofInt u.1 ∧ Q u.1 u.2.1) (fun u t => kB D d K L nc ns sz tz A u.2 t) A
abbrev qV (D : va_G) (d : Nat → ClassId) (K : Nat → Nat) (L : va_W) (nc ns : Int) (sz tz : Nat) (Q : g_M → Prop) (A : Nat → Prop) := va_Qv (fun (u : g_M × g_B) => Q u.1) (fun u t => kB D d K L nc ns sz tz A u t) A
abbrev qX (D : va_G) (d : Nat → ClassId) (K : Nat → Nat) (L : va_W) (nc ns : Int) (sz tz : Nat) (EX : String) (QE : g_M → Prop) (A : Nat → Prop) := vx_X (fun (u : g_M × g_B) => QE u.1) (fun E' u t => E' = EX ∧ kB D d K L nc ns sz tz A u t) A
def g_rmx (n : Nat) (M : g_M) (LB : g_B) : Room := { frames := n + 6, cells := cC M LB, slots := cS M LB, locals := 150 + 50 * n }
def MI (l : Launch) (D : va_G) (d : Nat → ClassId) (K : Nat → Nat) (y : MethodName) (bb : ByteArray) (nY : Nat) (ret : Option FieldType) (n : Nat) (av : List Value) (F : (Int → g_M → Prop) → g_M → Prop) : Prop := ∀ (L : va_W) (M : g_M) (LB : g_B) (sz tz : Nat) (Q : Int → g_M → Prop), F Q M → Met l y (g_wd y bb nY ret) (g_rmx n M LB) (va_Pc av (kP D d K L M LB sz tz)) (qI D d K L (nC M LB) (nS M LB) sz tz Q (va_A (wd K d L M LB) sz)) (cC M LB) (cS M LB) (va_A (wd K d L M LB) sz)
def MV (l : Launch) (D : va_G) (d : Nat → ClassId) (K : Nat → Nat) (y : MethodName) (bb : ByteArray) (nY : Nat) (ret : Option FieldType) (n : Nat) (av : List Value) (F : (g_M → Prop) → g_M → Prop) : Prop := ∀ (L : va_W) (M : g_M) (LB : g_B) (sz tz : Nat) (Q : g_M → Prop), F Q M → Met l y (g_wd y bb nY ret) (g_rmx n M LB) (va_Pc av (kP D d K L M LB sz tz)) (qV D d K L (nC M LB) (nS M LB) sz tz Q (va_A (wd K d L M LB) sz)) (cC M LB) (cS M LB) (va_A (wd K d L M LB) sz)
def MX (l : Launch) (D : va_G) (d : Nat → ClassId) (K : Nat → Nat) (y : MethodName) (bb : ByteArray) (nY : Nat) (ret : Option FieldType) (n : Nat) (av : List Value) (EX : String) (F : (Int → g_M → Prop) → (g_M → Prop) → g_M → Prop) : Prop := ∀ (L : va_W) (M : g_M) (LB : g_B) (sz tz : Nat) (Q : Int → g_M → Prop) (QE : g_M → Prop), F Q QE M → vx_Met l y (g_wd y bb nY ret) (g_rmx n M LB) (va_Pc av (kP D d K L M LB sz tz)) (qI D d K L (nC M LB) (nS M LB) sz tz Q (va_A (wd K d L M LB) sz)) (qX D d K L (nC M LB) (nS M LB) sz tz EX QE (va_A (wd K d L M LB) sz)) (cC M LB) (cS M LB) (va_A (wd K d L M LB) sz)
def MH (l : Launch) (D : va_G) (d : Nat → ClassId) (K : Nat → Nat) (y : MethodName) (bb : ByteArray) (nY : Nat) (ret : Option FieldType) (hh : List (Nat × Nat × Nat × Nat)) (n : Nat) (av : List Value) (F : (Int → g_M → Prop) → g_M → Prop) : Prop := ∀ (L : va_W) (M : g_M) (LB : g_B) (sz tz : Nat) (Q : Int → g_M → Prop), F Q M → Met l y (g_wh y bb nY ret hh) (g_rmx n M LB) (va_Pc av (kP D d K L M LB sz tz)) (qI D d K L (nC M LB) (nS M LB) sz tz Q (va_A (wd K d L M LB) sz)) (cC M LB) (cS M LB) (va_A (wd K d L M LB) sz)
theorem kp_blind {LB : g_B} {sz tz : Nat} {av : List Value} : FrameBlind (va_Pc av (kP D d K L M LB sz tz)) := fun a U g mk q => by
  obtain ⟨q0, q1, q2, q3, q4, q5, q6, q7, q8, q9⟩ := q
  exact ⟨q0, q1, q2, q3, q4, va_K.moved (u := U) (U := U.calling g mk a) (Vm.Alike.refl U.vm) q5, q6, q7.moved (u := U) (U := U.calling g mk a) (Vm.Alike.refl U.vm), gB_same (s := U) (U := U.calling g mk a) rfl q8, q9.same rfl rfl⟩
theorem kp_pre (C : XC p R s m args c D d A cc nL own lvl zc zs) {H : Heap} {locs : List Loc} {LB : g_B} (hh : XH D d K A s zc zs L M LB H locs) {U : State} (hU : U.heap = H) (hW : s.WarmedH U.vm) : kP D d K L M LB H.size (TOT H) U :=
  ⟨by rw [hU], by rw [hU], hh.1, by rw [hU]; exact hh.2.1, va_K.moved hW.alike C.1.2.2.2.2.2.1, hh.2.2.1.weaken (fun _ _ _ _ => trivial), C.1.2.2.2.2.2.2.2.1.moved hW.alike, gB_warm hW C.1.2.2.2.2.2.2.2.2, C.2.1.to hh.2.2.2.1 hU hW (va_free0 hh.2.2.1 hh.2.2.2.1 C.1.2.2.2.2.2.2.1)⟩
theorem kb_post (C : XC p R s m args c D d A cc nL own lvl zc zs) {H H1 : Heap} {locs locs1 : List Loc} {LB : g_B} {L' : va_W} (hh : XH D d K A s zc zs L M LB H locs) {t : State} (ht : t.heap = H1) {u : g_M × g_B} (hB : kB D d K L' (nC M LB) (nS M LB) H.size (TOT H) (va_A (wd K d L M LB) H.size) u t) (hS1 : va_S A s.heap H1 locs1) : XH D d K A s zc zs L' u.1 u.2 H1 locs1 := by
  obtain ⟨b1, b2, b3, b4, b5⟩ := hB
  rw [ht] at b2 b4 b5
  obtain ⟨h1, h2, h3, h4, h5, h6⟩ := hh
  exact ⟨b1, b2, b3.weaken (fun k q _ h => va_free0 h3 h4 C.1.2.2.2.2.2.2.1 _ h), hS1, by omega, by omega⟩
theorem W.grow {H : Heap} {locs : List Loc} {ck sl : Nat} {g : JFrame} (kk : TOT s.heap ≤ TOT H → W p l e R s m args below meth c H locs ck sl Q g) : W p l e R s m args below meth c H locs ck sl Q g := by
  intro T hT Y
  have h0 := tot_same Y.same
  have h3 : TOT (T.setVm s.vm).heap = TOT H := by show TOT T.heap = _; rw [hT]
  exact kk (by omega) T hT Y
theorem xroom (C : XC p R s m args c D d A cc nL own lvl zc zs) {H : Heap} {locs : List Loc} {LB : g_B} (hh : XH D d K A s zc zs L M LB H locs) (hwt : TOT s.heap ≤ TOT H) : H.size - s.heap.size + cC M LB ≤ R.cells ∧ TOT H - TOT s.heap + cS M LB ≤ R.slots := by
  obtain ⟨h1, h2, h3, h4, h5, h6⟩ := hh
  have hc := h1.cap
  have hz := h4.1
  obtain ⟨-, -, -, -, c1, c2⟩ := C
  unfold cC cS
  omega
theorem x_callVi (C : XC p R s m args c D d A cc nL own lvl zc zs) {y : MethodName} {bb : ByteArray} {nY nA index : Nat} {ret : Option FieldType} {n : Nat} (F : g_mf y bb nY ret nA) (G : g_mv y) (hlink : Cond.methodLink own index y ∈ gW) {j0 : Nat} {As rest : List Value} {FF : (Int → g_M → Prop) → g_M → Prop} {Q1 : Int → g_M → Prop} (hM : MI l D d K y bb nY ret n (.ref (K j0) :: As) FF) (h : FF Q1 M) (hj0 : j0 < 91) {ci : Nat} {T : u_T} {N : Nat} {fs : List Value} (he : ∀ B, we K d B (M (40 + j0)) j0 = .inr (ci, fs)) (hci : gCl[ci]? = some (y.cls, T, N)) (hn : n + 1 ≤ lvl) (hnY : nY ≤ 31) (hrest : (rest.map fun v => v.category).sum ≤ 8) {st0 : List Value} (hst : st0 = As.reverse ++ .ref (K j0) :: rest) (hlen : As.length = nA) (dg : decode cc pc = .ok (.invokevirtual index, 3)) (k : ∀ (v : Int) (M1 : g_M), Q1 v M1 → X p l e R s m args below meth c Q D d K A nL zc zs L M1 lv (pc + 3) (iv v :: rest)) : X p l e R s m args below meth c Q D d K A nL zc zs L M lv pc st0 := by
  intro H locs ls LB hh hl
  refine W.grow (fun hwt => ?_)
  have hr := xroom C hh hwt
  have hwz := hh.2.2.2.1.1
  refine W.tight (k := H.size - s.heap.size) (n := TOT H - TOT s.heap) (by omega) (by omega) ?_
  have cw : CallW R s args own y.cls index y bb nY ret (g_wd y bb nY ret) (g_rmx n M LB) (cC M LB) (cS M LB) nA := ⟨callB_of nA C.1.2.2.2.2.1 (g_goodC F.1) rfl rfl rfl (C.1.2.2.2.2.1 _ F.2.1) (C.1.2.2.2.2.1 _ hlink) F.2.2 ⟨by show n + 6 + 1 ≤ _; have := C.2.2.1; omega, by show 8 + (nY + 11) + (150 + 50 * n) ≤ _; have := C.2.2.2.1; omega⟩, C.1.2.2.2.2.1 _ G.1, C.1.2.2.2.2.1 _ G.2⟩
  refine va_calli (va_runV (Ts := gW) ⟨C.1.1, C.1.2.1, C.1.2.2.1, C.1.2.2.2.1, C.1.2.2.2.2.1⟩ (hM L M LB H.size (TOT H) Q1 h) cw ⟨kp_blind, va_recv C.1.2.2.2.2.2.1 hh.2.1 hci ((fx_at K d L M LB hj0).trans (by rw [he])), fun U hU hW => ⟨rfl, kp_pre C hh hU hW⟩⟩ rfl hlen hl.1 hst (lv_room hrest) dg hr) hh.2.2.2.1 (fun q _ h => va_free0 hh.2.2.1 hh.2.2.2.1 C.1.2.2.2.2.2.2.1 q h) (va_free0 hh.2.2.1 hh.2.2.2.1 C.1.2.2.2.2.2.2.1) (fun r u t H1 locs1 ht hvm hw9 hB hz1 hk1 hS1 => ?_)
  obtain ⟨rfl, hq⟩ := hw9
  exact W.widen hr.1 hr.2 (k u.1 u.2.1 hq H1 locs1 ls u.2.2 (kb_post C hh ht hB hS1) hl)
theorem x_callVv (C : XC p R s m args c D d A cc nL own lvl zc zs) {y : MethodName} {bb : ByteArray} {nY nA index : Nat} {ret : Option FieldType} {n : Nat} (F : g_mf y bb nY ret nA) (G : g_mv y) (hlink : Cond.methodLink own index y ∈ gW) {j0 : Nat} {As rest : List Value} {FF : (g_M → Prop) → g_M → Prop} {Q1 : g_M → Prop} (hM : MV l D d K y bb nY ret n (.ref (K j0) :: As) FF) (h : FF Q1 M) (hj0 : j0 < 91) {ci : Nat} {T : u_T} {N : Nat} {fs : List Value} (he : ∀ B, we K d B (M (40 + j0)) j0 = .inr (ci, fs)) (hci : gCl[ci]? = some (y.cls, T, N)) (hn : n + 1 ≤ lvl) (hnY : nY ≤ 31) (hrest : (rest.map fun v => v.category).sum ≤ 8) {st0 : List Value} (hst : st0 = As.reverse ++ .ref (K j0) :: rest) (hlen : As.length = nA) (dg : decode cc pc = .ok (.invokevirtual index, 3)) (k : ∀ M1 : g_M, Q1 M1 → X p l e R s m args below meth c Q D d K A nL zc zs L M1 lv (pc + 3) rest) : X p l e R s m args below meth c Q D d K A nL zc zs L M lv pc st0 := by
  intro H locs ls LB hh hl
  refine W.grow (fun hwt => ?_)
  have hr := xroom C hh hwt
  have hwz := hh.2.2.2.1.1
  refine W.tight (k := H.size - s.heap.size) (n := TOT H - TOT s.heap) (by omega) (by omega) ?_
  have cw : CallW R s args own y.cls index y bb nY ret (g_wd y bb nY ret) (g_rmx n M LB) (cC M LB) (cS M LB) nA := ⟨callB_of nA C.1.2.2.2.2.1 (g_goodC F.1) rfl rfl rfl (C.1.2.2.2.2.1 _ F.2.1) (C.1.2.2.2.2.1 _ hlink) F.2.2 ⟨by show n + 6 + 1 ≤ _; have := C.2.2.1; omega, by show 8 + (nY + 11) + (150 + 50 * n) ≤ _; have := C.2.2.2.1; omega⟩, C.1.2.2.2.2.1 _ G.1, C.1.2.2.2.2.1 _ G.2⟩
  refine va_callv (va_runV (Ts := gW) ⟨C.1.1, C.1.2.1, C.1.2.2.1, C.1.2.2.2.1, C.1.2.2.2.2.1⟩ (hM L M LB H.size (TOT H) Q1 h) cw ⟨kp_blind, va_recv C.1.2.2.2.2.2.1 hh.2.1 hci ((fx_at K d L M LB hj0).trans (by rw [he])), fun U hU hW => ⟨rfl, kp_pre C hh hU hW⟩⟩ rfl hlen hl.1 hst (lv_room hrest) dg hr) hh.2.2.2.1 (fun q _ h => va_free0 hh.2.2.1 hh.2.2.2.1 C.1.2.2.2.2.2.2.1 q h) (va_free0 hh.2.2.1 hh.2.2.2.1 C.1.2.2.2.2.2.2.1) (fun u t H1 locs1 ht hvm hw9 hB hz1 hk1 hS1 => ?_)
  exact W.widen hr.1 hr.2 (k u.1 hw9 H1 locs1 ls u.2 (kb_post C hh ht hB hS1) hl)
theorem x_callSi (C : XC p R s m args c D d A cc nL own lvl zc zs) {y : MethodName} {bb : ByteArray} {nY nA index : Nat} {ret : Option FieldType} {n : Nat} (F : g_mf y bb nY ret nA) (hstat : Cond.static y ∈ gW) (hlink : Cond.methodLink own index y ∈ gW) {As rest : List Value} {FF : (Int → g_M → Prop) → g_M → Prop} {Q1 : Int → g_M → Prop} (hM : MI l D d K y bb nY ret n As FF) (h : FF Q1 M) (hn : n + 1 ≤ lvl) (hnY : nY ≤ 31) (hrest : (rest.map fun v => v.category).sum ≤ 8) {st0 : List Value} (hst : st0 = As.reverse ++ rest) (hlen : As.length = nA) (dg : decode cc pc = .ok (.invokestatic index, 3)) (k : ∀ (v : Int) (M1 : g_M), Q1 v M1 → X p l e R s m args below meth c Q D d K A nL zc zs L M1 lv (pc + 3) (iv v :: rest)) : X p l e R s m args below meth c Q D d K A nL zc zs L M lv pc st0 := by
  intro H locs ls LB hh hl
  refine W.grow (fun hwt => ?_)
  have hr := xroom C hh hwt
  have hwz := hh.2.2.2.1.1
  refine W.tight (k := H.size - s.heap.size) (n := TOT H - TOT s.heap) (by omega) (by omega) ?_
  have cw : CallB R s args own index y bb nY ret (g_wd y bb nY ret) (g_rmx n M LB) (cC M LB) (cS M LB) nA ∧ (Cond.static y).before args s = true := ⟨callB_of nA C.1.2.2.2.2.1 (g_goodC F.1) rfl rfl rfl (C.1.2.2.2.2.1 _ F.2.1) (C.1.2.2.2.2.1 _ hlink) F.2.2 ⟨by show n + 6 + 1 ≤ _; have := C.2.2.1; omega, by show 8 + (nY + 11) + (150 + 50 * n) ≤ _; have := C.2.2.2.1; omega⟩, C.1.2.2.2.2.1 _ hstat⟩
  refine va_calli (va_runS (Ts := gW) ⟨C.1.1, C.1.2.1, C.1.2.2.1, C.1.2.2.2.1, C.1.2.2.2.2.1⟩ (hM L M LB H.size (TOT H) Q1 h) cw ⟨kp_blind, fun U hU hW => ⟨rfl, kp_pre C hh hU hW⟩⟩ rfl hlen hl.1 hst (lv_room hrest) dg hr) hh.2.2.2.1 (fun q _ h => va_free0 hh.2.2.1 hh.2.2.2.1 C.1.2.2.2.2.2.2.1 q h) (va_free0 hh.2.2.1 hh.2.2.2.1 C.1.2.2.2.2.2.2.1) (fun r u t H1 locs1 ht hvm hw9 hB hz1 hk1 hS1 => ?_)
  obtain ⟨rfl, hq⟩ := hw9
  exact W.widen hr.1 hr.2 (k u.1 u.2.1 hq H1 locs1 ls u.2.2 (kb_post C hh ht hB hS1) hl)
theorem x_callSv (C : XC p R s m args c D d A cc nL own lvl zc zs) {y : MethodName} {bb : ByteArray} {nY nA index : Nat} {ret : Option FieldType} {n : Nat} (F : g_mf y bb nY ret nA) (hstat : Cond.static y ∈ gW) (hlink : Cond.methodLink own index y ∈ gW) {As rest : List Value} {FF : (g_M → Prop) → g_M → Prop} {Q1 : g_M → Prop} (hM : MV l D d K y bb nY ret n As FF) (h : FF Q1 M) (hn : n + 1 ≤ lvl) (hnY : nY ≤ 31) (hrest : (rest.map fun v => v.category).sum ≤ 8) {st0 : List Value} (hst : st0 = As.reverse ++ rest) (hlen : As.length = nA) (dg : decode cc pc = .ok (.invokestatic index, 3)) (k : ∀ M1 : g_M, Q1 M1 → X p l e R s m args below meth c Q D d K A nL zc zs L M1 lv (pc + 3) rest) : X p l e R s m args below meth c Q D d K A nL zc zs L M lv pc st0 := by
  intro H locs ls LB hh hl
  refine W.grow (fun hwt => ?_)
  have hr := xroom C hh hwt
  have hwz := hh.2.2.2.1.1
  refine W.tight (k := H.size - s.heap.size) (n := TOT H - TOT s.heap) (by omega) (by omega) ?_
  have cw : CallB R s args own index y bb nY ret (g_wd y bb nY ret) (g_rmx n M LB) (cC M LB) (cS M LB) nA ∧ (Cond.static y).before args s = true := ⟨callB_of nA C.1.2.2.2.2.1 (g_goodC F.1) rfl rfl rfl (C.1.2.2.2.2.1 _ F.2.1) (C.1.2.2.2.2.1 _ hlink) F.2.2 ⟨by show n + 6 + 1 ≤ _; have := C.2.2.1; omega, by show 8 + (nY + 11) + (150 + 50 * n) ≤ _; have := C.2.2.2.1; omega⟩, C.1.2.2.2.2.1 _ hstat⟩
  refine va_callv (va_runS (Ts := gW) ⟨C.1.1, C.1.2.1, C.1.2.2.1, C.1.2.2.2.1, C.1.2.2.2.2.1⟩ (hM L M LB H.size (TOT H) Q1 h) cw ⟨kp_blind, fun U hU hW => ⟨rfl, kp_pre C hh hU hW⟩⟩ rfl hlen hl.1 hst (lv_room hrest) dg hr) hh.2.2.2.1 (fun q _ h => va_free0 hh.2.2.1 hh.2.2.2.1 C.1.2.2.2.2.2.2.1 q h) (va_free0 hh.2.2.1 hh.2.2.2.1 C.1.2.2.2.2.2.2.1) (fun u t H1 locs1 ht hvm hw9 hB hz1 hk1 hS1 => ?_)
  exact W.widen hr.1 hr.2 (k u.1 hw9 H1 locs1 ls u.2 (kb_post C hh ht hB hS1) hl)
theorem x_callWi (C : XC p R s m args c D d A cc nL own lvl zc zs) {y : MethodName} {bb : ByteArray} {nY nA index : Nat} {ret : Option FieldType} {n : Nat} {th : List (Nat × Nat × Nat × Nat)} (F : Cond.codeWith y bb nY ret th ∈ gW ∧ Cond.initialized y.cls ∈ gW ∧ (y.cls ≠ "java/lang/invoke/MethodHandle" ∧ y.cls ≠ "java/lang/invoke/VarHandle" ∧ (parseMethodDescriptor y.desc).map (fun d => d.parameters.length) = some nA)) (hstat : Cond.static y ∈ gW) (hlink : Cond.methodLink own index y ∈ gW) {As rest : List Value} {FF : (Int → g_M → Prop) → g_M → Prop} {Q1 : Int → g_M → Prop} (hM : MH l D d K y bb nY ret th n As FF) (h : FF Q1 M) (hn : n + 1 ≤ lvl) (hnY : nY ≤ 31) (hrest : (rest.map fun v => v.category).sum ≤ 8) {st0 : List Value} (hst : st0 = As.reverse ++ rest) (hlen : As.length = nA) (dg : decode cc pc = .ok (.invokestatic index, 3)) (k : ∀ (v : Int) (M1 : g_M), Q1 v M1 → X p l e R s m args below meth c Q D d K A nL zc zs L M1 lv (pc + 3) (iv v :: rest)) : X p l e R s m args below meth c Q D d K A nL zc zs L M lv pc st0 := by
  intro H locs ls LB hh hl
  refine W.grow (fun hwt => ?_)
  have hr := xroom C hh hwt
  have hwz := hh.2.2.2.1.1
  refine W.tight (k := H.size - s.heap.size) (n := TOT H - TOT s.heap) (by omega) (by omega) ?_
  have hG9 : GoodIn gW (va_wsS own index y (g_wh y bb nY ret th)) := g_goodA (a := [.methodLink own index y, .static y, .initialized y.cls]) (fun w hw => (List.mem_cons.mp hw).elim (fun e => by rw [e]; exact hlink) (fun hw => (List.mem_cons.mp hw).elim (fun e => by rw [e]; exact hstat) (fun hw => (List.mem_cons.mp hw).elim (fun e => by rw [e]; exact F.2.1) (fun hw => nomatch hw)))) (g_goodC F.1)
  have cw : vx_CSW R s args own index y bb nY ret th (g_wh y bb nY ret th) (g_rmx n M LB) (cC M LB) (cS M LB) nA := vx_cwSW nA C.1.2.2.2.2.1 hG9 rfl rfl rfl F.2.2 ⟨by show n + 6 + 1 ≤ _; have := C.2.2.1; omega, by show 8 + (nY + 11) + (150 + 50 * n) ≤ _; have := C.2.2.2.1; omega⟩
  refine va_calli (vx_runSW (Ts := gW) ⟨C.1.1, C.1.2.1, C.1.2.2.1, C.1.2.2.2.1, C.1.2.2.2.2.1⟩ (hM L M LB H.size (TOT H) Q1 h) cw ⟨kp_blind, fun U hU hW => ⟨rfl, kp_pre C hh hU hW⟩⟩ rfl hlen hl.1 hst (lv_room hrest) dg hr) hh.2.2.2.1 (fun q _ h => va_free0 hh.2.2.1 hh.2.2.2.1 C.1.2.2.2.2.2.2.1 q h) (va_free0 hh.2.2.1 hh.2.2.2.1 C.1.2.2.2.2.2.2.1) (fun r u t H1 locs1 ht hvm hw9 hB hz1 hk1 hS1 => ?_)
  obtain ⟨rfl, hq⟩ := hw9
  exact W.widen hr.1 hr.2 (k u.1 u.2.1 hq H1 locs1 ls u.2.2 (kb_post C hh ht hB hS1) hl)
theorem x_callXi (C : XC p R s m args c D d A cc nL own lvl zc zs) {y : MethodName} {bb : ByteArray} {nY nA index : Nat} {ret : Option FieldType} {n : Nat} (F : g_mf y bb nY ret nA) (G : g_mv y) {j0 : Nat} (hlink : Cond.methodLink own index y ∈ gW) {As rest : List Value} {EX : String} {FF : (Int → g_M → Prop) → (g_M → Prop) → g_M → Prop} {Q1 : Int → g_M → Prop} {QE1 : g_M → Prop} (hM : MX l D d K y bb nY ret n (.ref (K j0) :: As) EX FF) (h : FF Q1 QE1 M) (hj0 : j0 < 91) {ci : Nat} {T : u_T} {N : Nat} {fs : List Value} (he : ∀ B, we K d B (M (40 + j0)) j0 = .inr (ci, fs)) (hci : gCl[ci]? = some (y.cls, T, N)) (hn : n + 1 ≤ lvl) (hnY : nY ≤ 31) (hrest : (rest.map fun v => v.category).sum ≤ 8) {st0 : List Value} (hst : st0 = As.reverse ++ .ref (K j0) :: rest) (hlen : As.length = nA) (x : ExceptionTableEntry) (suf : List ExceptionTableEntry) (hsplit : c.exceptionTable.toList = x :: suf) (hx : covers x pc = true) (h0 : x.catchType ≠ 0) (hcl : Cond.classLink own x.catchType EX ∈ gW) (hcast : Cond.castable EX EX ∈ gB) (dg : decode cc pc = .ok (.invokevirtual index, 3)) (k : ∀ (v : Int) (M1 : g_M), Q1 v M1 → X p l e R s m args below meth c Q D d K A nL zc zs L M1 lv (pc + 3) (iv v :: rest)) (kx : ∀ (q9 : Nat) (M1 : g_M), QE1 M1 → X p l e R s m args below meth c Q D d K A nL zc zs L M1 lv x.handlerPc [.ref q9]) : X p l e R s m args below meth c Q D d K A nL zc zs L M lv pc st0 := by
  intro H locs ls LB hh hl
  refine W.grow (fun hwt => ?_)
  have hr := xroom C hh hwt
  have hwz := hh.2.2.2.1.1
  refine W.tight (k := H.size - s.heap.size) (n := TOT H - TOT s.heap) (by omega) (by omega) ?_
  have cw : CallW R s args own y.cls index y bb nY ret (g_wd y bb nY ret) (g_rmx n M LB) (cC M LB) (cS M LB) nA := ⟨callB_of nA C.1.2.2.2.2.1 (g_goodC F.1) rfl rfl rfl (C.1.2.2.2.2.1 _ F.2.1) (C.1.2.2.2.2.1 _ hlink) F.2.2 ⟨by show n + 6 + 1 ≤ _; have := C.2.2.1; omega, by show 8 + (nY + 11) + (150 + 50 * n) ≤ _; have := C.2.2.2.1; omega⟩, C.1.2.2.2.2.1 _ G.1, C.1.2.2.2.2.1 _ G.2⟩
  have hFc := va_free0 hh.2.2.1 hh.2.2.2.1 C.1.2.2.2.2.2.2.1
  refine vx_calli (vx_runV (Ts := gW) ⟨C.1.1, C.1.2.1, C.1.2.2.1, C.1.2.2.2.1, C.1.2.2.2.2.1⟩ (hM L M LB H.size (TOT H) Q1 QE1 h) cw ⟨kp_blind, va_recv C.1.2.2.2.2.2.1 hh.2.1 hci ((fx_at K d L M LB hj0).trans (by rw [he])), fun U hU hW => ⟨rfl, kp_pre C hh hU hW⟩⟩ rfl hlen hl.1 hst (lv_room hrest) dg hr) hh.2.2.2.1 (fun q _ h => hFc q h) hFc (fun q _ h => hFc q h) (fun E' ce q9 u t H1 locs1 ht hvm hpx hBX hz1 hk1 hS1 hce hcv hcls => ?_) (fun r u t H1 locs1 ht hvm hw9 hB hz1 hk1 hS1 => ?_)
  · obtain ⟨rfl, hB⟩ := hBX
    refine vx_widen hr.1 hr.2 ?_
    exact vx_catch C.1.2.2.2.1 [] x suf hsplit (fun z hz => by cases hz) hx h0 (C.1.2.2.2.2.1 _ hcl) ((C.1.2.2.2.2.2.2.2.2 _ hcast).use rfl) hce hcv hcls (kx q9 u.1 hpx H1 locs1 ls u.2 (kb_post C hh ht hB hS1) hl)
  · obtain ⟨rfl, hq⟩ := hw9
    exact W.widen hr.1 hr.2 (k u.1 u.2.1 hq H1 locs1 ls u.2.2 (kb_post C hh ht hB hS1) hl)
def RTI (p : Program) (l : Launch) (e : Env) (R : Room) (s : State) (m : MethodId) (args : Array Value) (below : List Frame) (meth : Method) (c : Code) (Q : State → Prop) (D : va_G) (d : Nat → ClassId) (K : Nat → Nat) (A : Nat → Prop) (nL : Nat) (zc zs : Int) (L : va_W) (cc : ByteArray) (Q1 : Int → g_M → Prop) : Prop := ∀ (r : Int) (M : g_M) (lv : List (Nat × Value)) (pc : Nat), decode cc pc = .ok (.ireturn, 1) → Q1 r M → X p l e R s m args below meth c Q D d K A nL zc zs L M lv pc [iv r]
def RTZ (p : Program) (l : Launch) (e : Env) (R : Room) (s : State) (m : MethodId) (args : Array Value) (below : List Frame) (meth : Method) (c : Code) (Q : State → Prop) (D : va_G) (d : Nat → ClassId) (K : Nat → Nat) (A : Nat → Prop) (nL : Nat) (zc zs : Int) (L : va_W) (cc : ByteArray) (Q1 : Int → g_M → Prop) : Prop := ∀ (r : Int) (M : g_M) (lv : List (Nat × Value)) (pc : Nat), decode cc pc = .ok (.ireturn, 1) → isB r → Q1 r M → X p l e R s m args below meth c Q D d K A nL zc zs L M lv pc [iv r]
def RTY (p : Program) (l : Launch) (e : Env) (R : Room) (s : State) (m : MethodId) (args : Array Value) (below : List Frame) (meth : Method) (c : Code) (Q : State → Prop) (D : va_G) (d : Nat → ClassId) (K : Nat → Nat) (A : Nat → Prop) (nL : Nat) (zc zs : Int) (L : va_W) (cc : ByteArray) (Q1 : Int → g_M → Prop) : Prop := ∀ (r : Int) (M : g_M) (lv : List (Nat × Value)) (pc : Nat), decode cc pc = .ok (.ireturn, 1) → isY r → Q1 r M → X p l e R s m args below meth c Q D d K A nL zc zs L M lv pc [iv r]
def RTV (p : Program) (l : Launch) (e : Env) (R : Room) (s : State) (m : MethodId) (args : Array Value) (below : List Frame) (meth : Method) (c : Code) (Q : State → Prop) (D : va_G) (d : Nat → ClassId) (K : Nat → Nat) (A : Nat → Prop) (nL : Nat) (zc zs : Int) (L : va_W) (cc : ByteArray) (Q1 : g_M → Prop) : Prop := ∀ (M : g_M) (lv : List (Nat × Value)) (pc : Nat), decode cc pc = .ok (.return_, 1) → Q1 M → X p l e R s m args below meth c Q D d K A nL zc zs L M lv pc []
def HTW (p : Program) (l : Launch) (e : Env) (R : Room) (s : State) (m : MethodId) (args : Array Value) (below : List Frame) (meth : Method) (c : Code) (Q : State → Prop) (D : va_G) (d : Nat → ClassId) (K : Nat → Nat) (A : Nat → Prop) (nL : Nat) (zc zs : Int) (L : va_W) (cc : ByteArray) (ln ic : Nat) (ld : Nat → Instr) (EX : String) (QE : g_M → Prop) : Prop := ∀ (M : g_M) {lv : List (Nat × Value)} {pc ik is : Nat} {text : String}, M 99 0 < 1000 → QE (up M 99 0 (M 99 0 + 1)) → Cond.classLink RX11 ik EX ∈ gW → Cond.initialized EX ∈ gW → (is, text) ∈ gTx → decode cc pc = .ok (.new ik, 3) → decode cc (pc + 3) = .ok (.dup, 1) → decode cc (pc + 4) = .ok (ld is, ln) → decode cc (pc + (4 + ln)) = .ok (.invokespecial ic, 3) → decode cc (pc + (7 + ln)) = .ok (.athrow, 1) → X p l e R s m args below meth c Q D d K A nL zc zs L M lv pc []
end XD
section XM
variable {l : Launch} {D : va_G} {d : Nat → ClassId} {K : Nat → Nat} {y : MethodName} {av : List Value} {cc : ByteArray} {maxL n : Nat} {ret : Option FieldType}
theorem xc_start {p : Program} {s : State} {m : MethodId} {args : Array Value} {c : Code} {L : va_W} {M : g_M} {LB : g_B} {sz tz : Nat} (hx : p.tables.exec = Jvm.exec) (hb : c.code = cc) (hml : c.maxLocals = maxL) (hown : s.vm.findClass y.cls = some m.cls) (hts : ∀ w ∈ gW, w.before args s = true) (hv : kP D d K L M LB sz tz s) : XC p (g_rmx n M LB) s m args c D d (va_A (wd K d L M LB) sz) cc maxL y.cls n (s.heap.size - nC M LB) (TOT s.heap - nS M LB) ∧ XH D d K (va_A (wd K d L M LB) sz) s (s.heap.size - nC M LB) (TOT s.heap - nS M LB) L M LB s.heap [] := by
  obtain ⟨hsz, htz, hwf, hP, hK, hD0, hO, hB, hE⟩ := hv
  subst hsz
  have hc := hwf.cap
  refine ⟨⟨⟨hx, hb, hml, hown, hts, hK, fun q h => Or.inr h, hO, hB⟩, hE, Nat.le_refl _, Nat.le_refl _, ?_, ?_⟩, hwf, hP, hD0.self, va_S.rf, ?_, ?_⟩
  · show _ ≤ ((cC M LB : Nat) : Int)
    unfold cC
    omega
  · show _ ≤ ((cS M LB : Nat) : Int)
    unfold cS
    omega
  · omega
  · omega
theorem s_mi (hy : plainName y.cls = true) (hlen : (lg_sl av).length ≤ maxL) (lv0 : List (Nat × Value)) (hlv : lv_args 0 av = lv0) (hrt : ret = some .int) {F : (Int → g_M → Prop) → g_M → Prop}
    (body : ∀ (p : Program) (e : Env) (R : Room) (s : State) (m : MethodId) (args : Array Value) (below : List Frame) (meth : Method) (c : Code) (A : Nat → Prop) (L : va_W) (M : g_M) (zc zs : Int) (Q : Int → g_M → Prop) (Qg : State → Prop), XC p R s m args c D d A cc maxL y.cls n zc zs → RTI p l e R s m args below meth c Qg D d K A maxL zc zs L cc Q → F Q M → X p l e R s m args below meth c Qg D d K A maxL zc zs L M lv0 0 []) : MI l D d K y cc maxL ret n av F := by
  intro L M LB sz tz Q hF
  refine Met.ofW (cc := cc) (maxL := maxL) (ret := ret) hy rfl ?_
  intro p e s m args below meth c s₁ B hml hv
  obtain ⟨rfl, hv⟩ := hv
  rw [lg_entry_eq]
  have hts := atoms_spec (ws := g_wd y cc maxL ret) B.pre
  have hR := B.returns
  have hlk := B.notSynchronized
  obtain ⟨C, h0⟩ := xc_start (n := n) B.exec B.bytes hml (findClass_of_methodNamed B.named) (fun w hw => hts w (List.mem_cons_of_mem _ hw)) hv
  have K9 : X p l e (g_rmx n M LB) s m av.toArray below meth c (MQ below (qI D d K L (nC M LB) (nS M LB) sz tz Q (va_A (wd K d L M LB) sz)) av.toArray s (cC M LB) (cS M LB) (va_A (wd K d L M LB) sz)) D d K (va_A (wd K d L M LB) sz) maxL (s.heap.size - nC M LB) (TOT s.heap - nS M LB) L M lv0 0 [] := by
    have hret : RTI p l e (g_rmx n M LB) s m av.toArray below meth c (MQ below (qI D d K L (nC M LB) (nS M LB) sz tz Q (va_A (wd K d L M LB) sz)) av.toArray s (cC M LB) (cS M LB) (va_A (wd K d L M LB) sz)) D d K (va_A (wd K d L M LB) sz) maxL (s.heap.size - nC M LB) (TOT s.heap - nS M LB) L cc Q := by
      intro r M1 lv1 pc1 dg hq H locs ls LB1 h1 hl
      refine W.iret C.1.1 C.1.2.1 (hR.trans hrt) (fun t ht hW => ⟨⟨Int32.ofInt r, (r, M1, LB1), rfl, ⟨rfl, hq⟩, ?_⟩, h1.2.2.2.1.F ht⟩) h1.2.2.2.1.2.2 dg hlk
      refine ⟨h1.1, by rw [ht]; exact h1.2.1, h1.2.2.1, ?_, ?_⟩
      · rw [ht]
        have := h1.2.2.2.2.1
        have := hv.1
        dsimp only
        omega
      · rw [ht]
        have := h1.2.2.2.2.2
        have := hv.2.1
        dsimp only
        omega
    exact body _ _ _ _ _ _ _ _ _ _ _ _ _ _ _ _ C hret hF
  exact W.widen (Nat.zero_le _) (Nat.zero_le _) (K9 s.heap [] _ LB h0 (hlv ▸ lv_entry av hlen))
theorem s_mz (hy : plainName y.cls = true) (hlen : (lg_sl av).length ≤ maxL) (lv0 : List (Nat × Value)) (hlv : lv_args 0 av = lv0) (hrt : ret = some .boolean) {F : (Int → g_M → Prop) → g_M → Prop}
    (body : ∀ (p : Program) (e : Env) (R : Room) (s : State) (m : MethodId) (args : Array Value) (below : List Frame) (meth : Method) (c : Code) (A : Nat → Prop) (L : va_W) (M : g_M) (zc zs : Int) (Q : Int → g_M → Prop) (Qg : State → Prop), XC p R s m args c D d A cc maxL y.cls n zc zs → RTZ p l e R s m args below meth c Qg D d K A maxL zc zs L cc Q → F Q M → X p l e R s m args below meth c Qg D d K A maxL zc zs L M lv0 0 []) : MI l D d K y cc maxL ret n av F := by
  intro L M LB sz tz Q hF
  refine Met.ofW (cc := cc) (maxL := maxL) (ret := ret) hy rfl ?_
  intro p e s m args below meth c s₁ B hml hv
  obtain ⟨rfl, hv⟩ := hv
  rw [lg_entry_eq]
  have hts := atoms_spec (ws := g_wd y cc maxL ret) B.pre
  have hR := B.returns
  have hlk := B.notSynchronized
  obtain ⟨C, h0⟩ := xc_start (n := n) B.exec B.bytes hml (findClass_of_methodNamed B.named) (fun w hw => hts w (List.mem_cons_of_mem _ hw)) hv
  have K9 : X p l e (g_rmx n M LB) s m av.toArray below meth c (MQ below (qI D d K L (nC M LB) (nS M LB) sz tz Q (va_A (wd K d L M LB) sz)) av.toArray s (cC M LB) (cS M LB) (va_A (wd K d L M LB) sz)) D d K (va_A (wd K d L M LB) sz) maxL (s.heap.size - nC M LB) (TOT s.heap - nS M LB) L M lv0 0 [] := by
    have hret : RTZ p l e (g_rmx n M LB) s m av.toArray below meth c (MQ below (qI D d K L (nC M LB) (nS M LB) sz tz Q (va_A (wd K d L M LB) sz)) av.toArray s (cC M LB) (cS M LB) (va_A (wd K d L M LB) sz)) D d K (va_A (wd K d L M LB) sz) maxL (s.heap.size - nC M LB) (TOT s.heap - nS M LB) L cc Q := by
      intro r M1 lv1 pc1 dg hb9 hq H locs ls LB1 h1 hl
      refine W.zret C.1.1 C.1.2.1 (hR.trans hrt) (i_bool hb9).1 (fun t ht hW => ⟨⟨Int32.ofInt r, (r, M1, LB1), rfl, ⟨rfl, hq⟩, ?_⟩, h1.2.2.2.1.F ht⟩) h1.2.2.2.1.2.2 dg hlk
      refine ⟨h1.1, by rw [ht]; exact h1.2.1, h1.2.2.1, ?_, ?_⟩
      · rw [ht]
        have := h1.2.2.2.2.1
        have := hv.1
        dsimp only
        omega
      · rw [ht]
        have := h1.2.2.2.2.2
        have := hv.2.1
        dsimp only
        omega
    exact body _ _ _ _ _ _ _ _ _ _ _ _ _ _ _ _ C hret hF
  exact W.widen (Nat.zero_le _) (Nat.zero_le _) (K9 s.heap [] _ LB h0 (hlv ▸ lv_entry av hlen))
theorem s_my (hy : plainName y.cls = true) (hlen : (lg_sl av).length ≤ maxL) (lv0 : List (Nat × Value)) (hlv : lv_args 0 av = lv0) (hrt : ret = some .byte) {F : (Int → g_M → Prop) → g_M → Prop}
    (body : ∀ (p : Program) (e : Env) (R : Room) (s : State) (m : MethodId) (args : Array Value) (below : List Frame) (meth : Method) (c : Code) (A : Nat → Prop) (L : va_W) (M : g_M) (zc zs : Int) (Q : Int → g_M → Prop) (Qg : State → Prop), XC p R s m args c D d A cc maxL y.cls n zc zs → RTY p l e R s m args below meth c Qg D d K A maxL zc zs L cc Q → F Q M → X p l e R s m args below meth c Qg D d K A maxL zc zs L M lv0 0 []) : MI l D d K y cc maxL ret n av F := by
  intro L M LB sz tz Q hF
  refine Met.ofW (cc := cc) (maxL := maxL) (ret := ret) hy rfl ?_
  intro p e s m args below meth c s₁ B hml hv
  obtain ⟨rfl, hv⟩ := hv
  rw [lg_entry_eq]
  have hts := atoms_spec (ws := g_wd y cc maxL ret) B.pre
  have hR := B.returns
  have hlk := B.notSynchronized
  obtain ⟨C, h0⟩ := xc_start (n := n) B.exec B.bytes hml (findClass_of_methodNamed B.named) (fun w hw => hts w (List.mem_cons_of_mem _ hw)) hv
  have K9 : X p l e (g_rmx n M LB) s m av.toArray below meth c (MQ below (qI D d K L (nC M LB) (nS M LB) sz tz Q (va_A (wd K d L M LB) sz)) av.toArray s (cC M LB) (cS M LB) (va_A (wd K d L M LB) sz)) D d K (va_A (wd K d L M LB) sz) maxL (s.heap.size - nC M LB) (TOT s.heap - nS M LB) L M lv0 0 [] := by
    have hret : RTY p l e (g_rmx n M LB) s m av.toArray below meth c (MQ below (qI D d K L (nC M LB) (nS M LB) sz tz Q (va_A (wd K d L M LB) sz)) av.toArray s (cC M LB) (cS M LB) (va_A (wd K d L M LB) sz)) D d K (va_A (wd K d L M LB) sz) maxL (s.heap.size - nC M LB) (TOT s.heap - nS M LB) L cc Q := by
      intro r M1 lv1 pc1 dg hb9 hq H locs ls LB1 h1 hl
      refine W.zret C.1.1 C.1.2.1 (hR.trans hrt) (i_byte hb9) (fun t ht hW => ⟨⟨Int32.ofInt r, (r, M1, LB1), rfl, ⟨rfl, hq⟩, ?_⟩, h1.2.2.2.1.F ht⟩) h1.2.2.2.1.2.2 dg hlk
      refine ⟨h1.1, by rw [ht]; exact h1.2.1, h1.2.2.1, ?_, ?_⟩
      · rw [ht]
        have := h1.2.2.2.2.1
        have := hv.1
        dsimp only
        omega
      · rw [ht]
        have := h1.2.2.2.2.2
        have := hv.2.1
        dsimp only
        omega
    exact body _ _ _ _ _ _ _ _ _ _ _ _ _ _ _ _ C hret hF
  exact W.widen (Nat.zero_le _) (Nat.zero_le _) (K9 s.heap [] _ LB h0 (hlv ▸ lv_entry av hlen))
theorem s_mv (hy : plainName y.cls = true) (hlen : (lg_sl av).length ≤ maxL) (lv0 : List (Nat × Value)) (hlv : lv_args 0 av = lv0) (hrt : ret = none) {F : (g_M → Prop) → g_M → Prop}
    (body : ∀ (p : Program) (e : Env) (R : Room) (s : State) (m : MethodId) (args : Array Value) (below : List Frame) (meth : Method) (c : Code) (A : Nat → Prop) (L : va_W) (M : g_M) (zc zs : Int) (Q : g_M → Prop) (Qg : State → Prop), XC p R s m args c D d A cc maxL y.cls n zc zs → RTV p l e R s m args below meth c Qg D d K A maxL zc zs L cc Q → F Q M → X p l e R s m args below meth c Qg D d K A maxL zc zs L M lv0 0 []) : MV l D d K y cc maxL ret n av F := by
  intro L M LB sz tz Q hF
  refine Met.ofW (cc := cc) (maxL := maxL) (ret := ret) hy rfl ?_
  intro p e s m args below meth c s₁ B hml hv
  obtain ⟨rfl, hv⟩ := hv
  rw [lg_entry_eq]
  have hts := atoms_spec (ws := g_wd y cc maxL ret) B.pre
  have hR := B.returns
  have hlk := B.notSynchronized
  obtain ⟨C, h0⟩ := xc_start (n := n) B.exec B.bytes hml (findClass_of_methodNamed B.named) (fun w hw => hts w (List.mem_cons_of_mem _ hw)) hv
  have K9 : X p l e (g_rmx n M LB) s m av.toArray below meth c (MQ below (qV D d K L (nC M LB) (nS M LB) sz tz Q (va_A (wd K d L M LB) sz)) av.toArray s (cC M LB) (cS M LB) (va_A (wd K d L M LB) sz)) D d K (va_A (wd K d L M LB) sz) maxL (s.heap.size - nC M LB) (TOT s.heap - nS M LB) L M lv0 0 [] := by
    have hret : RTV p l e (g_rmx n M LB) s m av.toArray below meth c (MQ below (qV D d K L (nC M LB) (nS M LB) sz tz Q (va_A (wd K d L M LB) sz)) av.toArray s (cC M LB) (cS M LB) (va_A (wd K d L M LB) sz)) D d K (va_A (wd K d L M LB) sz) maxL (s.heap.size - nC M LB) (TOT s.heap - nS M LB) L cc Q := by
      intro M1 lv1 pc1 dg hq H locs ls LB1 h1 hl
      refine W.vret C.1.1 C.1.2.1 (hR.trans hrt) (fun t ht hW => ⟨⟨(M1, LB1), rfl, hq, ?_⟩, h1.2.2.2.1.F ht⟩) h1.2.2.2.1.2.2 dg hlk
      refine ⟨h1.1, by rw [ht]; exact h1.2.1, h1.2.2.1, ?_, ?_⟩
      · rw [ht]
        have := h1.2.2.2.2.1
        have := hv.1
        dsimp only
        omega
      · rw [ht]
        have := h1.2.2.2.2.2
        have := hv.2.1
        dsimp only
        omega
    exact body _ _ _ _ _ _ _ _ _ _ _ _ _ _ _ _ C hret hF
  exact W.widen (Nat.zero_le _) (Nat.zero_le _) (K9 s.heap [] _ LB h0 (hlv ▸ lv_entry av hlen))
theorem s_mh {hh : List (Nat × Nat × Nat × Nat)} (hy : plainName y.cls = true) (hlen : (lg_sl av).length ≤ maxL) (lv0 : List (Nat × Value)) (hlv : lv_args 0 av = lv0) (hrt : ret = some .int) {F : (Int → g_M → Prop) → g_M → Prop}
    (body : ∀ (p : Program) (e : Env) (R : Room) (s : State) (m : MethodId) (args : Array Value) (below : List Frame) (meth : Method) (c : Code) (A : Nat → Prop) (L : va_W) (M : g_M) (zc zs : Int) (Q : Int → g_M → Prop) (Qg : State → Prop), XC p R s m args c D d A cc maxL y.cls n zc zs → c.exceptionTable.toList = tableOf hh → RTI p l e R s m args below meth c Qg D d K A maxL zc zs L cc Q → F Q M → X p l e R s m args below meth c Qg D d K A maxL zc zs L M lv0 0 []) : MH l D d K y cc maxL ret hh n av F := by
  intro L M LB sz tz Q hF
  refine MetFree.of_bodyS (code := cc) (maxLocals := maxL) (ret := ret) hy ?_ ?_
  · intro args s m h hn
    obtain ⟨m9, meth, c, hn9, h1, h2, h3, h4, -, h5, h6, -⟩ := Cond.codeWith_spec (atoms_spec (ws := g_wh y cc maxL ret hh) h _ List.mem_cons_self)
    cases hn.symm.trans hn9
    exact ⟨meth, c, h1, h2, h3, h4, h5, h6⟩
  · intro p e s m args below meth c s₁ B hml hv _
    obtain ⟨rfl, hv⟩ := hv
    have hh0 : s₁.heap = s.heap := by rw [B.state]; rfl
    have hts := atoms_spec (ws := g_wh y cc maxL ret hh) B.pre
    have htab := vx_table (x := y) B (hts _ List.mem_cons_self)
    have hR := B.returns
    have hlk := B.notSynchronized
    obtain ⟨C, h0⟩ := xc_start (n := n) B.exec B.bytes hml (findClass_of_methodNamed B.named) (fun w hw => hts w (List.mem_cons_of_mem _ hw)) hv
    have hret : RTI p l e (g_rmx n M LB) s m av.toArray below meth c (MQ below (qI D d K L (nC M LB) (nS M LB) sz tz Q (va_A (wd K d L M LB) sz)) av.toArray s (cC M LB) (cS M LB) (va_A (wd K d L M LB) sz)) D d K (va_A (wd K d L M LB) sz) maxL (s.heap.size - nC M LB) (TOT s.heap - nS M LB) L cc Q := by
      intro r M1 lv1 pc1 dg hq H locs ls LB1 h1 hl
      refine W.iret C.1.1 C.1.2.1 (hR.trans hrt) (fun t ht hW => ⟨⟨Int32.ofInt r, (r, M1, LB1), rfl, ⟨rfl, hq⟩, ?_⟩, h1.2.2.2.1.F ht⟩) h1.2.2.2.1.2.2 dg hlk
      refine ⟨h1.1, by rw [ht]; exact h1.2.1, h1.2.2.1, ?_, ?_⟩
      · rw [ht]
        have := h1.2.2.2.2.1
        have := hv.1
        dsimp only
        omega
      · rw [ht]
        have := h1.2.2.2.2.2
        have := hv.2.1
        dsimp only
        omega
    have K9 := W.widen (Nat.zero_le _) (Nat.zero_le _) (body _ _ _ _ _ _ _ _ _ _ _ _ _ _ _ _ C htab hret hF s.heap [] _ LB h0 (hlv ▸ lv_entry av hlen))
    rw [← lg_entry_eq] at K9
    obtain ⟨t, a1, o, b1, b2, b3, b4⟩ := K9 s₁ hh0 (Stand.of_body B)
    exact ⟨t, o, a1, b1, b2, b3, b4⟩
end XM
