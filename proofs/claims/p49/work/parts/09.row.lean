section XR
theorem sh10 (i : Int) : bm (ishr i 10) = bm i / 1024 := by
  unfold ishr
  rw [show (Int32.ofInt 10 &&& 31) = (10 : Int32) by decide, pk_shr _ _ 10 (by decide), toInt_ofInt, Int.shiftRight_eq_div_pow]
  have h := bm_lt i
  show bm (bm i / 1024) = bm i / 1024
  unfold bm at *
  exact Int.bmod_eq_of_le (by omega) (by omega)
theorem an1023 (i : Int) : bm (iand i 1023) = bm i % 1024 := by
  unfold iand
  rw [pk_and (Int32.ofInt i) (m := Int32.ofInt 1023) 10 (by decide), nI_toInt (by omega)]
  have h1 : (Int32.ofInt i).toInt = bm i := toInt_ofInt i
  have h2 : (Int32.ofInt i).toInt = if 2 * (Int32.ofInt i).toBitVec.toNat < 2 ^ 32 then ((Int32.ofInt i).toBitVec.toNat : Int) else ((Int32.ofInt i).toBitVec.toNat : Int) - ((2 ^ 32 : Nat) : Int) := BitVec.toInt_eq_toNat_cond _
  generalize (Int32.ofInt i).toBitVec.toNat = n at *
  rw [h1] at h2
  have h3 : bm ((n % 2 ^ 10 : Nat) : Int) = ((n % 2 ^ 10 : Nat) : Int) := by
    unfold bm
    exact Int.bmod_eq_of_le (by omega) (by omega)
  rw [h3, h2]
  split <;> omega
theorem an_in (i : Int) : inI (iand i 1023) 1024 := by
  unfold inI
  rw [an1023]
  omega
theorem BA_mem {LB : g_B} {r b a : Nat} (h : BA LB r b = some a) : (r, b, a) ∈ LB := by
  unfold BA at h
  obtain ⟨q, hq, rfl⟩ := Option.map_eq_some_iff.mp h
  have h1 := List.find?_some hq
  have h2 := List.mem_of_find?_eq_some hq
  simp only [Bool.and_eq_true, beq_iff_eq] at h1
  rw [← h1.1, ← h1.2]
  exact h2
theorem BA_none {LB : g_B} {r b : Nat} (h : BA LB r b = none) : ∀ q ∈ LB, ¬ (q.1 = r ∧ q.2.1 = b) := by
  unfold BA at h
  rw [Option.map_eq_none_iff, List.find?_eq_none] at h
  intro q hq hh
  exact h q hq (by simp [hh.1, hh.2])
theorem BA_push {LB : g_B} {r b a r' b' : Nat} : BA (LB ++ [(r, b, a)]) r' b' = (BA LB r' b').or (if r = r' ∧ b = b' then some a else none) := by
  unfold BA
  rw [List.find?_append]
  cases h : LB.find? (fun q => q.1 == r' && q.2.1 == b') with
  | some x => simp
  | none =>
    by_cases hh : r = r' ∧ b = b'
    · simp [hh.1, hh.2]
    · rw [if_neg hh]
      have : ¬ ((r == r' && b == b') = true) := by simpa using hh
      simp [this]
theorem capB_nb {r : Nat} (hr : r < 34) : capB r ≤ nbR r := by
  have h : ∀ r, r < 34 → capB r ≤ nbR r := by decide +kernel
  exact h r hr
theorem as_self (vm : Vm) (c : ClassId) : vm.assignable c c = true := by
  show vm.assignableAux (255 + 1) c c = true
  rw [Vm.assignableAux]
  simp only [beq_self_eq_true, Bool.true_or]
variable {p : Program} {l : Launch} {e : Env} {R : Room} {s : State} {m : MethodId} {args : Array Value} {below : List Frame} {meth : Method} {c : Code} {Q : State → Prop} {D : va_G} {d : Nat → ClassId} {K : Nat → Nat} {A : Nat → Prop} {cc : ByteArray} {nL lvl : Nat} {own : String} {zc zs : Int} {L : va_W} {M : g_M} {lv : List (Nat × Value)} {pc : Nat} {st : List Value}

theorem k_aast {cl : List vw_C} {H : Heap} {locs : List Loc} {cells slots a v : Nat} {ls : Array Slot} {rest : List Value} {ws : va_W} {H0 : Heap} (hexec : p.tables.exec = Jvm.exec) (hb : c.code = cc) (hK : va_K D cl (g_ty d) s) (hAO : g_AO s) (hP : va_P D cl ws H) (hD : va_D A ws) (hS : va_S A H0 H locs) (q0 q1 : Nat) {n n1 : Nat} {f : Nat → Option Nat} {g : Nat → Int32} (ha : ws[q0]? = some (a, .inl (d 4, n, .inr (.inr (.inr (.inr f)))))) (hv : ws[q1]? = some (v, .inl (d 0, n1, .inl g))) {i : Int32} (hin : vp_in i n) (hdg : decode cc pc = .ok (.aastore, 1))
    (kk : ∀ (H1 : Heap) (locs1 : List Loc), va_P D cl (ws.set q0 (a, .inl (d 4, n, .inr (.inr (.inr (.inr (va_up f i.toNatClampNeg (some v)))))))) H1 → va_D A (ws.set q0 (a, .inl (d 4, n, .inr (.inr (.inr (.inr (va_up f i.toNatClampNeg (some v)))))))) → va_S A H0 H1 locs1 → H1.size = H.size → TOT H1 = TOT H → W p l e R s m args below meth c H1 locs1 cells slots Q (F0 m (pc + 1) ls rest)) : W p l e R s m args below meth c H locs cells slots Q (F0 m pc ls (.ref v :: .int i :: .ref a :: rest)) := by
  have hlt : i.toNatClampNeg < n := Nat.not_le.mp fun q => hin (Or.inr q)
  have h0 : ¬ i < 0 := fun q => hin (Or.inl q)
  obtain ⟨comp, c4, k4, e1, e2, e3, e4, e5⟩ := arrayOverA_spec hAO
  have g4 : s.vm.findClass ("[" ++ (FieldType.array .int).toString) = some (d 4) := (hK.2 4 _ rfl).2
  have g0 : s.vm.findClass ("[" ++ FieldType.int.toString) = some (d 0) := (hK.2 0 _ rfl).2
  have h4 : c4 = d 4 := Option.some.inj (e5.symm.trans g4)
  have hc0 : comp = d 0 := Option.some.inj (e1.symm.trans g0)
  subst hc0
  subst h4
  obtain ⟨k0, hk0, -⟩ := Vm.findClass_spec e1
  refine W.aast hexec hb (hP q0 _ ha) (fun q h => by cases h) (fun h => by cases h) e3 e4 rfl hk0 ⟨h0, by show _ < (arrV _ _ _).slots.size; rw [arrV_size]; exact hlt⟩ (hP q1 _ hv) (fun q h => by cases h) hk0 (as_self _ _) rfl rfl hdg fun H1 e z oq => ?_
  refine kk H1 _ (hP.set hD ha ?_ oq) (hD.set ha) (hS.put z oq (hD.2 q0 _ ha)) z (tot_put z oq (hP q0 _ ha) e (setSlot_size _ _ _))
  show H1[a]? = some (vp_cell _ _)
  rw [e]
  rw [vp_cell_q, vp_cell_q, arrV_store]
  congr 2
  funext q
  by_cases hq : q = i.toNatClampNeg
  · subst hq
    simp [updV, va_up, va_rf]
  · simp [updV, va_up, hq]
theorem k_aald {cl : List vw_C} {H : Heap} {locs : List Loc} {cells slots a : Nat} {ls : Array Slot} {rest : List Value} {ws : va_W} (hexec : p.tables.exec = Jvm.exec) (hb : c.code = cc) (hK : va_K D cl (g_ty d) s) (hP : va_P D cl ws H) (q0 : Nat) {n : Nat} {f : Nat → Option Nat} (ha : ws[q0]? = some (a, .inl (d 4, n, .inr (.inr (.inr (.inr f)))))) {i : Int32} (hin : vp_in i n) (hdg : decode cc pc = .ok (.aaload, 1))
    (kk : W p l e R s m args below meth c H locs cells slots Q (F0 m (pc + 1) ls (va_rf (f i.toNatClampNeg) :: rest))) : W p l e R s m args below meth c H locs cells slots Q (F0 m pc ls (.int i :: .ref a :: rest)) := by
  have hlt : i.toNatClampNeg < n := Nat.not_le.mp fun q => hin (Or.inr q)
  exact W.aald (v := va_rf (f i.toNatClampNeg)) (ty := .array .int) hexec hb (hP q0 _ ha) ((hK.2 4 _ rfl).1 n (fun j => va_rf (f j))) rfl (fun q => by cases q) (by show ¬ (i < 0 ∨ (arrV _ _ _).slots.size ≤ _); rw [arrV_size]; exact hin) (by show (arrV _ _ _).slots[_]? = _; rw [arrV_read _ _ hlt]) rfl rfl hdg kk
theorem x_olen (C : XC p R s m args c D d A cc nL own lvl zc zs) {r : Nat} (hr : r < 34) (dg : decode cc pc = .ok (.arraylength, 1)) (k : X p l e R s m args below meth c Q D d K A nL zc zs L M lv (pc + 1) (iv (nbR r) :: st)) : X p l e R s m args below meth c Q D d K A nL zc zs L M lv pc (.ref (K (24 + 2 * r)) :: st) := fun H locs ls LB hh hl => va_alen (cl := gCl) C.1.1 C.1.2.1 C.1.2.2.2.2.2.1 hh.2.1 (24 + 2 * r) 4 ((fx_at K d L M LB (by omega)).trans (by rw [we_out])) rfl (Int32.ofInt_eq_ofNat (n := nbR r)).symm dg (k H locs ls LB hh hl)
theorem x_blk (C : XC p R s m args c D d A cc nL own lvl zc zs) {r : Nat} (hr : r < 34) {index : Nat} (hlink : Cond.fieldLink own index (TX6 0).1 (TX6 0).2.1 (TX6 0).2.2.1 ∈ gW) (dg : decode cc pc = .ok (.getfield index, 3)) (k : X p l e R s m args below meth c Q D d K A nL zc zs L M lv (pc + 3) (.ref (K (24 + 2 * r)) :: st)) : X p l e R s m args below meth c Q D d K A nL zc zs L M lv pc (.ref (K (23 + 2 * r)) :: st) := x_get C EX6 (23 + 2 * r) (by omega) (fs := [.ref (K (24 + 2 * r))]) (fun B => we_row) rfl 0 (by decide) hlink rfl dg k
end XR
section XS
variable {l : Launch} {D : va_G} {d : Nat → ClassId} {K : Nat → Nat}
set_option maxHeartbeats 1000000 in
theorem m_X6_get (r : Nat) (hr : r < 34) (i : Int) : MI l D d K yX6_get cX6_get 3 (some .int) 0 [.ref (K (23 + 2 * r)), iv i] (fun Q M => Q (rg M r i) M) := by
  refine s_mi pn_X6 (Nat.le_of_ble_eq_true rfl) [(0, .ref (K (23 + 2 * r))), (1, iv i)] rfl rfl (fun p e R s m args below meth c A L M zc zs Q Qg C hret h => ?_)
  refine x_iload_n C dX6_get_0 rfl 1 rfl ?_
  refine x_bipush C (n := 10) (by decide) (by decide) dX6_get_1 ?_
  refine x_ishr C dX6_get_3 ?_
  refine x_istore_n C dX6_get_4 rfl (by decide) [(2, iv (ishr i 10)), (0, .ref (K (23 + 2 * r))), (1, iv i)] rfl ?_
  refine x_iload_n C dX6_get_5 rfl 0 rfl ?_
  have h27 : bm i < 0 ∨ rg M r i = 0 → X p l e R s m args below meth c Qg D d K A 3 zc zs L M [(2, iv (ishr i 10)), (0, .ref (K (23 + 2 * r))), (1, iv i)] 27 [] := by
    intro hc
    refine x_iconst C (n := 0) dX6_get_27 ?_
    refine hret 0 M _ _ dX6_get_28 ?_
    rcases hc with hc | hc
    · unfold rg at h
      rw [if_pos hc] at h
      exact h
    · rw [hc] at h
      exact h
  refine x_if_lt C 27 dX6_get_6 (by decide) (fun hc => ?_) (fun hc => ?_)
  · rw [sh10] at hc
    exact h27 (Or.inl (by omega))
  refine x_iload_n C dX6_get_9 rfl 0 rfl ?_
  refine x_aload_n C dX6_get_10 rfl 1 rfl ?_
  refine x_blk C hr k708 dX6_get_11 ?_
  refine x_olen C hr dX6_get_14 ?_
  rw [sh10] at hc
  have hb := bm_lt i
  have hrg : ∀ LB, g_wf M LB → BA LB r ((bm i).toNat / 1024) = none → rg M r i = 0 := by
    intro LB hw hn
    unfold rg
    rw [if_neg (by omega)]
    exact hw.2.2.1 r _ hr hn
  refine x_icmp_ge C 27 dX6_get_15 (by decide) (fun hc2 => ?_) (fun hc2 => ?_)
  rotate_left
  · intro H locs ls LB hh hl
    refine h27 (Or.inr (hrg LB hh.1 ?_)) H locs ls LB hh hl
    cases hn : BA LB r ((bm i).toNat / 1024) with
    | none => rfl
    | some a =>
      exfalso
      have h1 := hh.1.1 _ (BA_mem hn)
      have h2 := capB_nb hr
      have h3 : bm (nbR r : Int) = nbR r := by
        have h4 : ∀ r, r < 34 → nbR r < 2000 := by decide +kernel
        have h5 := h4 r hr
        unfold bm
        exact Int.bmod_eq_of_le (by omega) (by omega)
      rw [sh10, h3] at hc2
      simp only at h1
      omega
  refine x_aload_n C dX6_get_18 rfl 1 rfl ?_
  refine x_blk C hr k708 dX6_get_19 ?_
  refine x_iload_n C dX6_get_22 rfl 0 rfl ?_
  intro H locs ls LB hh hl
  have h3 : bm (nbR r : Int) = nbR r := by
    have h4 : ∀ r, r < 34 → nbR r < 2000 := by decide +kernel
    have h5 := h4 r hr
    unfold bm
    exact Int.bmod_eq_of_le (by omega) (by omega)
  have hin : vp_in (Int32.ofInt (ishr i 10)) (nbR r) := i_in ⟨by rw [sh10]; omega, by rw [← h3]; exact hc2⟩
  have hat : (wd K d L M LB)[24 + 2 * r]? = some (K (24 + 2 * r), .inl (d 4, nbR r, .inr (.inr (.inr (.inr (BA LB r)))))) := (fx_at K d L M LB (by omega)).trans (by rw [we_out])
  have hix : (Int32.ofInt (ishr i 10)).toNatClampNeg = (bm i).toNat / 1024 := by
    rw [i_nat, sh10]
    omega
  refine k_aald C.1.1 C.1.2.1 C.1.2.2.2.2.2.1 hh.2.1 _ hat hin dX6_get_23 ?_
  rw [hix]
  cases hn : BA LB r ((bm i).toNat / 1024) with
  | none => exact lv_ifnonnullN C.1.1 C.1.2.1 dX6_get_24 (h27 (Or.inr (hrg LB hh.1 hn)) H locs ls LB hh hl)
  | some a =>
    refine lv_ifnonnull C.1.1 C.1.2.1 dX6_get_24 (tgt := 29) (by decide) ?_
    refine lv_aload_n C.1.1 C.1.2.1 dX6_get_29 rfl (lv_at hl 1 rfl) ?_
    refine va_get (cl := gCl) C.1.1 C.1.2.1 C.1.2.2.2.2.1 EX6.1 C.1.2.2.2.1 C.1.2.2.2.2.2.1 hh.2.1 (23 + 2 * r) ((fx_at K d L M LB (by omega)).trans (by rw [we_row])) rfl 0 (by decide) (C.1.2.2.2.2.1 _ k708) (fun _ h => h) rfl dX6_get_30 ?_
    refine lv_iload_n C.1.1 C.1.2.1 dX6_get_33 rfl (lv_at hl 0 rfl) ?_
    refine k_aald C.1.1 C.1.2.1 C.1.2.2.2.2.2.1 hh.2.1 _ hat hin dX6_get_34 ?_
    rw [hix, hn]
    refine lv_iload_n C.1.1 C.1.2.1 dX6_get_35 rfl (lv_at hl 2 rfl) ?_
    refine lv_sipush C.1.1 C.1.2.1 dX6_get_36 (v := Int32.ofInt 1023) (by decide) ?_
    refine lv_iand C.1.1 C.1.2.1 dX6_get_39 ?_
    obtain ⟨k9, hk9⟩ := List.getElem?_of_mem (BA_mem hn)
    have hbl : (wd K d L M LB)[91 + (L.length + k9)]? = some (a, .inl (d 0, 1024, .inl (fun j => Int32.ofInt (if j < 1024 then M r (1024 * ((bm i).toNat / 1024) + j) else 0)))) := by
      rw [bl_at]
      unfold bl
      rw [List.getElem?_map, hk9]
      rfl
    have e9 : Int32.ofInt i &&& Int32.ofInt 1023 = Int32.ofInt (iand i 1023) := by
      unfold iand
      rw [ofInt_toInt]
    rw [e9]
    refine va_iald (cl := gCl) C.1.1 C.1.2.1 C.1.2.2.2.2.2.1 hh.2.1 _ 0 hbl rfl (i_in (an_in i)) dX6_get_40 ?_
    rw [i_nat, an1023]
    rw [if_pos (by omega)]
    have e8 : 1024 * ((bm i).toNat / 1024) + (bm i % 1024).toNat = (bm i).toNat := by omega
    rw [e8]
    have e7 : rg M r i = M r (bm i).toNat := by
      unfold rg
      rw [if_neg (by omega)]
    rw [e7] at h
    exact hret _ M _ _ dX6_get_41 h H locs ls LB hh hl
theorem bm_id {x : Int} (h1 : -2147483648 ≤ x) (h2 : x ≤ 2147483647) : bm x = x := by
  unfold bm
  exact Int.bmod_eq_of_le (by omega) (by omega)
theorem bl_up (M : g_M) (LB : g_B) (r b a : Nat) (i v : Int) (hw : g_wf M LB) (k9 : Nat) (hk9 : LB[k9]? = some (r, b, a)) (hi : (bm i).toNat / 1024 = b) : (bl d M LB).set k9 (a, .inl (d 0, 1024, .inl (upd (fun j => Int32.ofInt (if j < 1024 then M r (1024 * b + j) else 0)) ((bm i).toNat % 1024) (Int32.ofInt v)))) = bl d (rs M r i v) LB := by
  unfold bl
  refine List.ext_getElem? (fun j => ?_)
  rw [List.getElem?_map]
  by_cases hj : j = k9
  · subst hj
    rw [List.getElem?_set_self (by rw [List.length_map]; exact (List.getElem?_eq_some_iff.mp hk9).1), hk9]
    simp only [Option.map_some, Option.some.injEq, Prod.mk.injEq, true_and]
    congr 4
    funext q
    unfold rs up upd
    by_cases hq : q = (bm i).toNat % 1024
    · rw [if_pos hq, if_pos (by omega), if_pos ⟨rfl, by omega⟩]
    · rw [if_neg hq]
      show Int32.ofInt (if q < 1024 then M r (1024 * b + q) else 0) = _
      by_cases h1 : q < 1024
      · rw [if_pos h1, if_pos h1, if_neg (fun h => by omega)]
      · rw [if_neg h1, if_neg h1]
  · rw [List.getElem?_set_ne (Ne.symm hj), List.getElem?_map]
    cases h : LB[j]? with
    | none => rfl
    | some x =>
      obtain ⟨r2, b2, a2⟩ := x
      simp only [Option.map_some, Option.some.injEq, Prod.mk.injEq, true_and]
      congr 4
      funext q
      by_cases h1 : q < 1024
      · rw [if_pos h1, if_pos h1]
        unfold rs up
        rw [if_neg]
        rintro ⟨e1, e2⟩
        subst e1
        have e3 : b2 = b := by omega
        subst e3
        have n1 : (LB.map (fun q => 64 * q.1 + q.2.1))[j]? = some (64 * r2 + b2) := by rw [List.getElem?_map, h]; rfl
        have n2 : (LB.map (fun q => 64 * q.1 + q.2.1))[k9]? = some (64 * r2 + b2) := by rw [List.getElem?_map, hk9]; rfl
        exact hj ((List.getElem?_inj (List.getElem?_eq_some_iff.mp n1).1 hw.2.1).mp (n1.trans n2.symm))
      · rw [if_neg h1, if_neg h1]
theorem fx_rs (M : g_M) (LB : g_B) (r : Nat) (i v : Int) (hr : r < 34) : fx K d (rs M r i v) LB = fx K d M LB := by
  unfold fx rs
  refine List.map_congr_left (fun j hj => ?_)
  rw [up_ne (by omega)]
theorem wf_rs {M : g_M} {LB : g_B} {r a : Nat} {i v : Int} (h : g_wf M LB) (hr : r < 34) (ha : BA LB r ((bm i).toNat / 1024) = some a) : g_wf (rs M r i v) LB := by
  refine ⟨h.1, h.2.1, fun r2 j hr2 hn => ?_, ?_⟩
  · unfold rs up
    rw [if_neg]
    · exact h.2.2.1 r2 j hr2 hn
    · rintro ⟨e1, e2⟩
      subst e1
      subst e2
      rw [hn] at ha
      cases ha
  · unfold rs
    rw [up_ne (by omega)]
    exact h.2.2.2
theorem nC_rs {M : g_M} {LB : g_B} {r : Nat} {i v : Int} (hr : r < 34) : nC (rs M r i v) LB = nC M LB ∧ nS (rs M r i v) LB = nS M LB := nC_up (by omega)
/-- a new block -/
theorem wf_push {M : g_M} {LB : g_B} {r b q : Nat} (h : g_wf M LB) (hr : r < 34) (hb : b < capB r) (hn : BA LB r b = none) : g_wf M (LB ++ [(r, b, q)]) := by
  refine ⟨fun x hx => ?_, ?_, fun r2 j hr2 hj => ?_, h.2.2.2⟩
  · rcases List.mem_append.mp hx with hx | hx
    · exact h.1 x hx
    · rw [List.mem_singleton.mp hx]
      exact ⟨hr, hb⟩
  · rw [List.map_append, List.nodup_append]
    refine ⟨h.2.1, by simp, ?_⟩
    intro x hx y hy hxy
    subst hxy
    obtain ⟨z, hz, rfl⟩ := List.mem_map.mp hx
    have h1 := BA_none hn z hz
    have h2 := (h.1 z hz).2
    have h3 := capB_le z.1
    have h4 := capB_le r
    have h5 : 64 * z.1 + z.2.1 = 64 * r + b := by simpa using hy
    exact h1 ⟨by omega, by omega⟩
  · rw [BA_push] at hj
    cases h1 : BA LB r2 (j / 1024) with
    | none => exact h.2.2.1 r2 j hr2 h1
    | some x => rw [h1] at hj; cases hj
theorem we_lo {K : Nat → Nat} {d : Nat → ClassId} {B B' : Nat → Nat → Option Nat} {m : Nat → Int} {j : Nat} (h : j < 23) : we K d B m j = we K d B' m j := by
  have h2 : j = 0 ∨ j = 1 ∨ j = 2 ∨ j = 3 ∨ j = 4 ∨ j = 5 ∨ j = 6 ∨ j = 7 ∨ j = 8 ∨ j = 9 ∨ j = 10 ∨ j = 11 ∨ j = 12 ∨ j = 13 ∨ j = 14 ∨ j = 15 ∨ j = 16 ∨ j = 17 ∨ j = 18 ∨ j = 19 ∨ j = 20 ∨ j = 21 ∨ j = 22 := by omega
  rcases h2 with rfl | rfl | rfl | rfl | rfl | rfl | rfl | rfl | rfl | rfl | rfl | rfl | rfl | rfl | rfl | rfl | rfl | rfl | rfl | rfl | rfl | rfl | rfl <;> rfl
set_option maxHeartbeats 2000000 in
theorem m_X6_set (r : Nat) (hr : r < 34) (i v : Int) : MV l D d K yX6_set cX6_set 4 none 0 [.ref (K (23 + 2 * r)), iv i, iv v] (fun Q M => okI r i ∧ Q (rs M r i v)) := by
  refine s_mv pn_X6 (Nat.le_of_ble_eq_true rfl) [(0, .ref (K (23 + 2 * r))), (1, iv i), (2, iv v)] rfl rfl (fun p e R s m args below meth c A L M zc zs Q Qg C hret h => ?_)
  obtain ⟨hok, h⟩ := h
  have hb := bm_lt i
  have hcap := capB_nb hr
  have hc64 := capB_le r
  have h3 : bm (nbR r : Int) = nbR r := by
    have h4 : ∀ r, r < 34 → nbR r < 2000 := by decide +kernel
    have h5 := h4 r hr
    unfold bm
    exact Int.bmod_eq_of_le (by omega) (by omega)
  unfold okI at hok
  refine x_iload_n C dX6_set_0 rfl 1 rfl ?_
  refine x_bipush C (n := 10) (by decide) (by decide) dX6_set_1 ?_
  refine x_ishr C dX6_set_3 ?_
  refine x_istore_n C dX6_set_4 rfl (by decide) [(3, iv (ishr i 10)), (0, .ref (K (23 + 2 * r))), (1, iv i), (2, iv v)] rfl ?_
  refine x_iload_n C dX6_set_5 rfl 0 rfl ?_
  refine x_if_lt C 18 dX6_set_6 (by decide) (fun hc => ?_) (fun hc => ?_)
  · rw [sh10] at hc
    omega
  refine x_iload_n C dX6_set_9 rfl 0 rfl ?_
  refine x_aload_n C dX6_set_10 rfl 1 rfl ?_
  refine x_blk C hr k708 dX6_set_11 ?_
  refine x_olen C hr dX6_set_14 ?_
  refine x_icmp_lt C 19 dX6_set_15 (by decide) (fun hc2 => ?_) (fun hc2 => ?_)
  rotate_left
  · rw [sh10, h3] at hc2
    omega
  rw [sh10] at hc
  have hin : vp_in (Int32.ofInt (ishr i 10)) (nbR r) := i_in ⟨by rw [sh10]; omega, by rw [← h3]; exact hc2⟩
  have hix : (Int32.ofInt (ishr i 10)).toNatClampNeg = (bm i).toNat / 1024 := by
    rw [i_nat, sh10]
    omega
  -- from 39 on: the block is there
  have h39 : ∀ (H : Heap) (locs : List Loc) (ls : Array Slot) (LB : g_B) (a : Nat), XH D d K A s zc zs L M LB H locs → lv_has ls 4 [(3, iv (ishr i 10)), (0, .ref (K (23 + 2 * r))), (1, iv i), (2, iv v)] → BA LB r ((bm i).toNat / 1024) = some a → W p l e R s m args below meth c H locs R.cells R.slots Qg (F0 m 39 ls []) := by
    intro H locs ls LB a hh hl hn
    have hat : (wd K d L M LB)[24 + 2 * r]? = some (K (24 + 2 * r), .inl (d 4, nbR r, .inr (.inr (.inr (.inr (BA LB r)))))) := (fx_at K d L M LB (by omega)).trans (by rw [we_out])
    refine lv_aload_n C.1.1 C.1.2.1 dX6_set_39 rfl (lv_at hl 1 rfl) ?_
    refine va_get (cl := gCl) C.1.1 C.1.2.1 C.1.2.2.2.2.1 EX6.1 C.1.2.2.2.1 C.1.2.2.2.2.2.1 hh.2.1 (23 + 2 * r) ((fx_at K d L M LB (by omega)).trans (by rw [we_row])) rfl 0 (by decide) (C.1.2.2.2.2.1 _ k708) (fun _ h => h) rfl dX6_set_40 ?_
    refine lv_iload_n C.1.1 C.1.2.1 dX6_set_43 rfl (lv_at hl 0 rfl) ?_
    refine k_aald C.1.1 C.1.2.1 C.1.2.2.2.2.2.1 hh.2.1 _ hat hin dX6_set_44 ?_
    rw [hix, hn]
    refine lv_iload_n C.1.1 C.1.2.1 dX6_set_45 rfl (lv_at hl 2 rfl) ?_
    refine lv_sipush C.1.1 C.1.2.1 dX6_set_46 (v := Int32.ofInt 1023) (by decide) ?_
    refine lv_iand C.1.1 C.1.2.1 dX6_set_49 ?_
    refine lv_iload_n C.1.1 C.1.2.1 dX6_set_50 rfl (lv_at hl 3 rfl) ?_
    obtain ⟨k9, hk9⟩ := List.getElem?_of_mem (BA_mem hn)
    have hbl : (wd K d L M LB)[91 + (L.length + k9)]? = some (a, .inl (d 0, 1024, .inl (fun j => Int32.ofInt (if j < 1024 then M r (1024 * ((bm i).toNat / 1024) + j) else 0)))) := by
      rw [bl_at]
      unfold bl
      rw [List.getElem?_map, hk9]
      rfl
    have e9 : Int32.ofInt i &&& Int32.ofInt 1023 = Int32.ofInt (iand i 1023) := by
      unfold iand
      rw [ofInt_toInt]
    rw [e9]
    refine k_iast (cl := gCl) C.1.1 C.1.2.1 C.1.2.2.2.2.2.1 hh.2.1 hh.2.2.1 hh.2.2.2.1 _ 0 hbl rfl (i_in (an_in i)) (Int32.ofInt v) rfl dX6_set_51 (fun H1 locs1 hP1 hD1 hS1 hz1 ht1 => ?_)
    have e8 : (Int32.ofInt (iand i 1023)).toNatClampNeg = (bm i).toNat % 1024 := by
      rw [i_nat, an1023]
      omega
    have e7 : (wd K d L M LB).set (91 + (L.length + k9)) (a, .inl (d 0, 1024, .inl (upd (fun j => Int32.ofInt (if j < 1024 then M r (1024 * ((bm i).toNat / 1024) + j) else 0)) ((bm i).toNat % 1024) (Int32.ofInt v)))) = wd K d L (rs M r i v) LB := by
      unfold wd
      rw [List.set_append_right _ _ (by rw [fx_len]; omega), fx_len, Nat.add_sub_cancel_left, List.set_append_right _ _ (by omega), Nat.add_sub_cancel_left, bl_up M LB r _ a i v hh.1 k9 hk9 rfl, fx_rs M LB r i v hr]
    rw [e8, e7] at hP1 hD1
    refine hret _ _ _ dX6_set_52 h H1 locs1 ls LB ⟨wf_rs hh.1 hr hn, hP1, hD1, hS1, ?_, ?_⟩ hl
    · rw [(nC_rs hr).1, hz1]
      exact hh.2.2.2.2.1
    · rw [(nC_rs hr).2, ht1]
      exact hh.2.2.2.2.2
  refine x_aload_n C dX6_set_19 rfl 1 rfl ?_
  refine x_blk C hr k708 dX6_set_20 ?_
  refine x_iload_n C dX6_set_23 rfl 0 rfl ?_
  intro H locs ls LB hh hl
  have hat : (wd K d L M LB)[24 + 2 * r]? = some (K (24 + 2 * r), .inl (d 4, nbR r, .inr (.inr (.inr (.inr (BA LB r)))))) := (fx_at K d L M LB (by omega)).trans (by rw [we_out])
  refine k_aald C.1.1 C.1.2.1 C.1.2.2.2.2.2.1 hh.2.1 _ hat hin dX6_set_24 ?_
  rw [hix]
  cases hn : BA LB r ((bm i).toNat / 1024) with
  | some a => exact lv_ifnonnull C.1.1 C.1.2.1 dX6_set_25 (tgt := 39) (by decide) (h39 H locs ls LB a hh hl hn)
  | none =>
    refine lv_ifnonnullN C.1.1 C.1.2.1 dX6_set_25 ?_
    refine lv_aload_n C.1.1 C.1.2.1 dX6_set_28 rfl (lv_at hl 1 rfl) ?_
    refine va_get (cl := gCl) C.1.1 C.1.2.1 C.1.2.2.2.2.1 EX6.1 C.1.2.2.2.1 C.1.2.2.2.2.2.1 hh.2.1 (23 + 2 * r) ((fx_at K d L M LB (by omega)).trans (by rw [we_row])) rfl 0 (by decide) (C.1.2.2.2.2.1 _ k708) (fun _ h => h) rfl dX6_set_29 ?_
    refine lv_iload_n C.1.1 C.1.2.1 dX6_set_32 rfl (lv_at hl 0 rfl) ?_
    refine lv_sipush C.1.1 C.1.2.1 dX6_set_33 (v := 1024) (by decide) ?_
    refine W.grow (fun hwt => ?_)
    have hwz := hh.2.2.2.1.1
    have hw' := wf_push (q := H.size) hh.1 hr (b := (bm i).toNat / 1024) (by omega) hn
    have hc' := hw'.cap
    have hn1 : nC M (LB ++ [(r, (bm i).toNat / 1024, H.size)]) = nC M LB + 1 := by
      unfold nC
      rw [List.length_append]
      simp
      omega
    have hn2 : nS M (LB ++ [(r, (bm i).toNat / 1024, H.size)]) = nS M LB + 1024 := by
      unfold nS
      rw [List.length_append]
      simp
      omega
    have hroom : H.size - s.heap.size + 1 ≤ R.cells ∧ TOT H - TOT s.heap + 1024 ≤ R.slots := by
      have h5 := hh.2.2.2.2.1
      have h6 := hh.2.2.2.2.2
      obtain ⟨-, -, -, -, c1, c2⟩ := C
      omega
    refine W.tight (k := H.size - s.heap.size) (n := TOT H - TOT s.heap) (by omega) (by omega) ?_
    refine va_newaK (N := 1024) C.1.1 C.1.2.1 (atype := .int) (C.1.2.2.2.2.1 _ ka_int) rfl dX6_set_36 rfl (by decide) (by decide +kernel) (by decide) hroom.1 hroom.2 rfl (fun H1 cA e1 z1 o1 hAr hNm => ?_)
    have hcA : cA = d 0 := Option.some.inj (hNm.symm.trans (C.1.2.2.2.2.2.1.2 0 _ rfl).2)
    subst hcA
    refine W.widen hroom.1 hroom.2 ?_
    have hkp : ∀ (k : Nat) (x : Nat × va_E), (wd K d L M LB)[k]? = some x → H1[x.1]? = H[x.1]? := fun k x hx => o1 x.1 ((hh.2.1 k x hx).lt)
    have hPa : va_P D gCl (wd K d L M LB ++ [(H.size, .inl (d 0, 1024, .inl (fun _ => 0)))]) H1 := (hh.2.1.kept hkp).app (fun k x hx => by
      cases k with
      | zero =>
        cases hx
        exact e1
      | succ k => simp at hx)
    have hDa : va_D A (wd K d L M LB ++ [(H.size, .inl (d 0, 1024, .inl (fun _ => 0)))]) := hh.2.2.1.push hh.2.1 rfl (C.1.2.2.2.2.2.2.1 _ hh.2.2.2.1.1)
    have hSa : va_S A s.heap H1 locs := ⟨Nat.le_trans hh.2.2.2.1.1 (by omega), fun x h1 h2 => (o1 x (Nat.lt_of_lt_of_le h1 hh.2.2.2.1.1)).trans (hh.2.2.2.1.2.1 x h1 h2), hh.2.2.2.1.2.2⟩
    have htot : TOT H1 = TOT H + 1024 := by
      have ha := tot_list H1.toList H.toList (fun j x hj => by
        rw [Array.getElem?_toList] at hj
        exact ⟨x, by rw [Array.getElem?_toList, o1 j (Array.getElem?_eq_some_iff.mp hj).1]; exact hj, rfl⟩)
      have hlen : H1.toList.length = H.toList.length + 1 := by rw [Array.length_toList, Array.length_toList, z1]
      have hx : H1.toList[H.toList.length]? = some (arrV (d 0) 1024 (fun _ => defaultValue .int)) := by rw [Array.getElem?_toList, Array.length_toList]; exact e1
      have hdr : H1.toList.drop H.toList.length = [arrV (d 0) 1024 (fun _ => defaultValue .int)] := by
        rw [List.drop_eq_getElem_cons (by omega), List.drop_eq_nil_of_le (by omega)]
        rw [List.getElem?_eq_getElem (by omega)] at hx
        rw [Option.some.inj hx]
      rw [hdr] at ha
      simpa [TOT, arrV_size] using ha
    have hl91 : (wd K d L M LB).length = 91 + (L.length + LB.length) := by
      unfold wd bl
      rw [List.length_append, fx_len, List.length_append, List.length_map]
    have hat1 : (wd K d L M LB ++ [(H.size, .inl (d 0, 1024, .inl (fun _ => 0)))])[24 + 2 * r]? = some (K (24 + 2 * r), .inl (d 4, nbR r, .inr (.inr (.inr (.inr (BA LB r)))))) := by
      rw [List.getElem?_append_left (by rw [hl91]; omega)]
      exact hat
    have hq1 : (wd K d L M LB ++ [(H.size, .inl (d 0, 1024, .inl (fun _ => 0)))])[91 + (L.length + LB.length)]? = some (H.size, .inl (d 0, 1024, .inl (fun _ => 0))) := by
      rw [List.getElem?_append_right (by rw [hl91]; omega), hl91, Nat.sub_self]
      rfl
    refine k_aast (cl := gCl) C.1.1 C.1.2.1 C.1.2.2.2.2.2.1 C.1.2.2.2.2.2.2.2.1 hPa hDa hSa _ _ hat1 hq1 hin dX6_set_38 (fun H2 locs2 hP2 hD2 hS2 hz2 ht2 => ?_)
    rw [hix] at hP2 hD2
    have e7 : (wd K d L M LB ++ [((H.size, Sum.inl (d 0, 1024, Sum.inl (fun _ => 0))) : Nat × va_E)]).set (24 + 2 * r) ((K (24 + 2 * r), Sum.inl (d 4, nbR r, Sum.inr (Sum.inr (Sum.inr (Sum.inr (va_up (BA LB r) ((bm i).toNat / 1024) (some H.size))))))) : Nat × va_E) = wd K d L M (LB ++ [(r, (bm i).toNat / 1024, H.size)]) := by
      rw [List.set_append_left _ _ (by rw [hl91]; omega)]
      unfold wd
      rw [List.set_append_left _ _ (by rw [fx_len]; omega)]
      have hb2 : bl d M (LB ++ [(r, (bm i).toNat / 1024, H.size)]) = bl d M LB ++ [(H.size, .inl (d 0, 1024, .inl (fun _ => 0)))] := by
        have hf : (fun j : Nat => Int32.ofInt (if j < 1024 then M r (1024 * ((bm i).toNat / 1024) + j) else 0)) = fun _ => 0 := by
          funext j
          by_cases hj : j < 1024
          · rw [if_pos hj, hh.1.2.2.1 r _ hr (by rw [show (1024 * ((bm i).toNat / 1024) + j) / 1024 = (bm i).toNat / 1024 by omega]; exact hn)]
            rfl
          · rw [if_neg hj]
            rfl
        unfold bl
        rw [List.map_append]
        simp only [List.map_cons, List.map_nil]
        rw [hf]
      rw [hb2, List.append_assoc, List.append_assoc]
      refine congrArg (fun z : va_W => z ++ (L ++ (bl d M LB ++ [((H.size, Sum.inl (d 0, 1024, Sum.inl (fun _ => 0))) : Nat × va_E)]))) ?_
      refine List.ext_getElem? (fun j => ?_)
      by_cases hj : j < 91
      · have e0 : ∀ B : g_B, (fx K d M B)[j]? = some (K j, we K d (BA B) (M (40 + j)) j) := fun B => by
          unfold fx
          rw [List.getElem?_map, List.getElem?_range hj]
          rfl
        rw [e0]
        by_cases h1 : j = 24 + 2 * r
        · subst h1
          rw [List.getElem?_set_self (by rw [fx_len]; omega), we_out]
          have hfun : va_up (BA LB r) ((bm i).toNat / 1024) (some H.size) = BA (LB ++ [(r, (bm i).toNat / 1024, H.size)]) r := by
            funext b
            rw [BA_push]
            unfold va_up
            by_cases h2 : b = (bm i).toNat / 1024
            · subst h2
              rw [if_pos rfl, hn, if_pos ⟨rfl, rfl⟩]
              rfl
            · rw [if_neg h2, if_neg (fun h => h2 h.2.symm)]
              cases BA LB r b <;> rfl
          rw [hfun]
        · rw [List.getElem?_set_ne (Ne.symm h1), e0]
          have hwe : we K d (BA LB) (M (40 + j)) j = we K d (BA (LB ++ [(r, (bm i).toNat / 1024, H.size)])) (M (40 + j)) j := by
            by_cases h2 : j < 23
            · exact we_lo h2
            · by_cases h3 : j % 2 = 1
              · generalize hg : (j - 23) / 2 = g
                have hj2 : j = 23 + 2 * g := by omega
                subst hj2
                rw [we_row, we_row]
              · generalize hg : (j - 24) / 2 = g
                have hj2 : j = 24 + 2 * g := by omega
                subst hj2
                rw [we_out, we_out]
                have hfun : BA LB g = BA (LB ++ [(r, (bm i).toNat / 1024, H.size)]) g := by
                  funext b
                  rw [BA_push, if_neg (fun h => by omega)]
                  cases BA LB g b <;> rfl
                rw [hfun]
          rw [hwe]
      · rw [List.getElem?_eq_none (by rw [List.length_set, fx_len]; omega), List.getElem?_eq_none (by rw [fx_len]; omega)]
    rw [e7] at hP2 hD2
    refine h39 H2 locs2 ls _ H.size ⟨hw', hP2, hD2, hS2, ?_, ?_⟩ hl ?_
    · rw [hn1, hz2, z1]
      have := hh.2.2.2.2.1
      omega
    · rw [hn2, ht2, htot]
      have := hh.2.2.2.2.2
      omega
    · rw [BA_push, hn, if_pos ⟨rfl, rfl⟩]
      rfl
end XS
