/-- YOUR PART: from the entry, for every script of at most 260 ints, the law comes to its end with true ('hflags': the launch's flags, for a law that throws: no stack traces) -/
theorem whole_start {p : Program} {e : Env} {s : State} {m : MethodId} {below : List Frame} {meth : Method} {c : Code} (l : Launch) (hflags : l.flags = flags0) {b L : Nat} {xs : Nat → Int32} (hL : L ≤ 260) (C0 : lw_At p s m meth c b L xs) : W p l e room_1 s m #[Value.ref b] below meth c s.heap [] 0 0 (lw_Z below #[Value.ref b] s) (entryFrame m ([Value.ref b] : List Value).toArray 19) := by
  obtain ⟨hx, hb, hr, hml, hown, hts, hX, hbl, hlocks, hgv⟩ := C0
  have hlf : l.stackTraces = false := by unfold Launch.stackTraces; rw [hflags]; decide
  obtain ⟨c0, iS0, hKn0⟩ := u_known (C := RX0) (T := TX0) (N := 5) (n := 5) hts tbX0 (hts _ (gW_in _ k787))
  obtain ⟨c1, iS1, hKn1⟩ := u_known (C := RX1) (T := TX1) (N := 11) (n := 11) hts tbX1 (hts _ (gW_in _ k747))
  obtain ⟨c2, iS2, hKn2⟩ := u_known (C := RX2) (T := TX2) (N := 20) (n := 20) hts tbX2 (hts _ (gW_in _ k729))
  obtain ⟨c3, iS3, hKn3⟩ := u_known (C := RX3) (T := TX3) (N := 15) (n := 15) hts tbX3 (hts _ (gW_in _ k800))
  obtain ⟨c4, iS4, hKn4⟩ := u_known (C := RX4) (T := TX4) (N := 5) (n := 5) hts tbX4 (hts _ (gW_in _ k775))
  obtain ⟨c5, iS5, hKn5⟩ := u_known (C := RX5) (T := TX5) (N := 19) (n := 19) hts tbX5 (hts _ (gW_in _ k760))
  obtain ⟨c6, iS6, hKn6⟩ := u_known (C := RX6) (T := TX6) (N := 1) (n := 1) hts tbX6 (hts _ (gW_in _ k704))
  obtain ⟨c7, iS7, hKn7⟩ := u_known (C := RX7) (T := TX7) (N := 11) (n := 11) hts tbX7 (hts _ (gW_in _ k696))
  obtain ⟨c8, iS8, hKn8⟩ := u_known (C := RX8) (T := TX8) (N := 13) (n := 13) hts tbX8 (hts _ (gW_in _ k701))
  obtain ⟨c9, iS9, hKn9⟩ := u_known (C := RX9) (T := TX9) (N := 18) (n := 18) hts tbX9 (hts _ (gW_in _ k739))
  obtain ⟨c10, iS10, hKn10⟩ := u_known (C := RX10) (T := TX10) (N := 7) (n := 7) hts tbX10 (hts _ (gW_in _ k719))
  obtain ⟨c11, iS11, hKn11⟩ := u_known (C := RX11) (T := TX11) (N := 11) (n := 11) hts tbX11 (hts _ (gW_in _ k691))
  have hlc : ∀ (k : Nat) (q : vw_C), gCl[k]? = some q → u_Kn s q.1 q.2.1 q.2.2 (([c0, c1, c2, c3, c4, c5, c6, c7, c8, c9, c10, c11].getD k 0 : ClassId)) ([iS0, iS1, iS2, iS3, iS4, iS5, iS6, iS7, iS8, iS9, iS10, iS11].getD k (fun _ => 0)) := by
    intro k q hq
    match k, hq with
    | 0, hq => cases hq; exact hKn0
    | 1, hq => cases hq; exact hKn1
    | 2, hq => cases hq; exact hKn2
    | 3, hq => cases hq; exact hKn3
    | 4, hq => cases hq; exact hKn4
    | 5, hq => cases hq; exact hKn5
    | 6, hq => cases hq; exact hKn6
    | 7, hq => cases hq; exact hKn7
    | 8, hq => cases hq; exact hKn8
    | 9, hq => cases hq; exact hKn9
    | 10, hq => cases hq; exact hKn10
    | 11, hq => cases hq; exact hKn11
    | k + 12, hq => simp [gCl] at hq
  obtain ⟨d0, kd0, cp0, ed0, fd0, gd0⟩ := Cond.arrayClass_spec (hts _ (gW_in _ ka_int))
  obtain ⟨d1, kd1, cp1, ed1, fd1, gd1⟩ := Cond.arrayClass_spec (hts _ (gW_in _ ka_byte))
  obtain ⟨d2, kd2, cp2, ed2, fd2, gd2⟩ := Cond.arrayClass_spec (hts _ (gW_in _ ka_boolean))
  obtain ⟨d3, kd3, cp3, ed3, fd3, gd3⟩ := Cond.arrayClass_spec (hts _ (gW_in _ ka_long))
  have hAO : g_AO s := hts _ (tk1 _ (List.mem_of_getElem? (i := 89) rfl))
  obtain ⟨cp4, d4, kd4, e41, e42, e43, e44, e45⟩ := arrayOverA_spec hAO
  have hKd : ∀ (k : Nat) (q : ClassId × FieldType), (g_ty (fun k => [d0, d1, d2, d3, d4].getD k 0))[k]? = some q → ArrOfT s q.1 q.2 ∧ va_RA s q.1 q.2 := by
    intro k q hq
    match k, hq with
    | 0, hq => cases hq; exact ⟨fun n z => ⟨fun k h => (by cases h), kd0, fd0, cp0, gd0⟩, ed0⟩
    | 1, hq => cases hq; exact ⟨fun n z => ⟨fun k h => (by cases h), kd1, fd1, cp1, gd1⟩, ed1⟩
    | 2, hq => cases hq; exact ⟨fun n z => ⟨fun k h => (by cases h), kd2, fd2, cp2, gd2⟩, ed2⟩
    | 3, hq => cases hq; exact ⟨fun n z => ⟨fun k h => (by cases h), kd3, fd3, cp3, gd3⟩, ed3⟩
    | 4, hq => cases hq; exact ⟨fun n z => ⟨fun k h => (by cases h), kd4, e43, cp4, e44⟩, e45⟩
    | k + 5, hq => simp [g_ty] at hq
  have hB : ∀ w ∈ gB, va_Nw w s := List.forall_mem_cons.mpr ⟨va_Nw.of rfl (hts _ (tk3 _ (List.mem_of_getElem? (i := 71) rfl))), List.forall_mem_cons.mpr ⟨va_Nw.of rfl (hts _ (tk3 _ (List.mem_of_getElem? (i := 73) rfl))), List.forall_mem_cons.mpr ⟨va_Nw.of rfl (hts _ (tk3 _ (List.mem_of_getElem? (i := 75) rfl))), List.forall_mem_cons.mpr ⟨va_Nw.of rfl (hts _ (tk4 _ (List.mem_of_getElem? (i := 37) rfl))), List.forall_mem_cons.mpr ⟨va_Nw.of rfl (hts _ (tk5 _ (List.mem_of_getElem? (i := 119) rfl))), List.forall_mem_cons.mpr ⟨va_Nw.of rfl (hts _ (tk1 _ (List.mem_of_getElem? (i := 32) rfl))), fun _ h => absurd h List.not_mem_nil⟩⟩⟩⟩⟩⟩
  have hfl := flat_of_before _ hgv
  have hZ1 : vx_Zq Bundle.tN "UNASSIGNED_STACK" "[Ljava/lang/StackTraceElement;" (fun q : Nat => s.heap.size ≤ q) s s.heap := vx_Zqof (hts _ (tk3 _ (List.mem_of_getElem? (i := 94) rfl))) (hts _ (tk1 _ (List.mem_of_getElem? (i := 14) rfl))) (hfl _ (List.mem_of_getElem? (i := 4) (by decide +kernel))) (fun a h1 h2 => absurd h2 (Nat.not_le.mpr h1))
  have hZ2 : vx_Zq Bundle.tN "SUPPRESSED_SENTINEL" "Ljava/util/List;" (fun q : Nat => s.heap.size ≤ q) s s.heap := vx_Zqof (hts _ (tk3 _ (List.mem_of_getElem? (i := 96) rfl))) (hts _ (tk1 _ (List.mem_of_getElem? (i := 14) rfl))) (hfl _ (List.mem_of_getElem? (i := 5) (by decide +kernel))) (fun a h1 h2 => absurd h2 (Nat.not_le.mpr h1))
  have hst : ∀ q ∈ gTx, ∃ sa : Nat, vk_R RX11 q.1 q.2 sa s := by
    have hc11 : s.vm.findClass RX11 = some c11 := (hlc 11 _ rfl).2.1
    have hh : ∀ q ∈ gTx, (Cond.stringRef RX11 q.1 q.2).before #[Value.ref b] s = true := List.forall_mem_cons.mpr ⟨hts _ (tk4 _ (List.mem_of_getElem? (i := 201) rfl)), List.forall_mem_cons.mpr ⟨hts _ (tk4 _ (List.mem_of_getElem? (i := 219) rfl)), List.forall_mem_cons.mpr ⟨hts _ (tk5 _ (List.mem_of_getElem? (i := 30) rfl)), List.forall_mem_cons.mpr ⟨hts _ (tk5 _ (List.mem_of_getElem? (i := 35) rfl)), List.forall_mem_cons.mpr ⟨hts _ (tk5 _ (List.mem_of_getElem? (i := 52) rfl)), List.forall_mem_cons.mpr ⟨hts _ (tk5 _ (List.mem_of_getElem? (i := 79) rfl)), List.forall_mem_cons.mpr ⟨hts _ (tk5 _ (List.mem_of_getElem? (i := 69) rfl)), List.forall_mem_cons.mpr ⟨hts _ (tk5 _ (List.mem_of_getElem? (i := 106) rfl)), List.forall_mem_cons.mpr ⟨hts _ (tk5 _ (List.mem_of_getElem? (i := 126) rfl)), List.forall_mem_cons.mpr ⟨hts _ (tk3 _ (List.mem_of_getElem? (i := 109) rfl)), List.forall_mem_cons.mpr ⟨hts _ (tk5 _ (List.mem_of_getElem? (i := 168) rfl)), List.forall_mem_cons.mpr ⟨hts _ (tk5 _ (List.mem_of_getElem? (i := 169) rfl)), List.forall_mem_cons.mpr ⟨hts _ (tk6 _ (List.mem_of_getElem? (i := 61) rfl)), List.forall_mem_cons.mpr ⟨hts _ (tk4 _ (List.mem_of_getElem? (i := 44) rfl)), List.forall_mem_cons.mpr ⟨hts _ (tk6 _ (List.mem_of_getElem? (i := 84) rfl)), List.forall_mem_cons.mpr ⟨hts _ (tk6 _ (List.mem_of_getElem? (i := 70) rfl)), fun _ h => absurd h List.not_mem_nil⟩⟩⟩⟩⟩⟩⟩⟩⟩⟩⟩⟩⟩⟩⟩⟩
    intro q hq
    obtain ⟨k, cf, i, a, -, -, -, -, -, ha⟩ := Cond.stringRef_spec hc11 (hh q hq)
    exact ⟨a, vk_R.of (hh q hq) ha⟩
  have hex : g_ex (fun q : Nat => s.heap.size ≤ q) s := ⟨hZ1, hZ2, hst⟩
  have C : VC p s m #[Value.ref b] c (fun k => [c0, c1, c2, c3, c4, c5, c6, c7, c8, c9, c10, c11].getD k 0, fun k => [iS0, iS1, iS2, iS3, iS4, iS5, iS6, iS7, iS8, iS9, iS10, iS11].getD k (fun _ => 0)) (fun k => [d0, d1, d2, d3, d4].getD k 0) (fun q : Nat => s.heap.size ≤ q) cL_law 19 RL := ⟨hx, hb, hml, hown, fun w hw => hts w (gW_in w hw), ⟨hlc, hKd⟩, fun q h => h, hAO, hB⟩
  generalize hDe : ((fun k => [c0, c1, c2, c3, c4, c5, c6, c7, c8, c9, c10, c11].getD k 0, fun k => [iS0, iS1, iS2, iS3, iS4, iS5, iS6, iS7, iS8, iS9, iS10, iS11].getD k (fun _ => 0)) : va_G) = D at C
  generalize hde : (fun k => [d0, d1, d2, d3, d4].getD k 0 : Nat → ClassId) = d at C
  rw [lg_entry_eq]
  have hP0 : va_P D gCl [] s.heap := fun k q h => by simp at h
  have hD0 : va_D (fun q : Nat => s.heap.size ≤ q) [] := ⟨fun i j p q h => by simp at h, fun k q h => by simp at h⟩
  exact law_from hlf C hex hr hlocks ⟨hX, hbl, Nat.not_le.mpr hbl⟩ (F_all L xs hL) s.heap [] _ hP0 hD0 va_S.rf (lv_entry ([.ref b]) (n := 19) (Nat.le_of_ble_eq_true rfl))
