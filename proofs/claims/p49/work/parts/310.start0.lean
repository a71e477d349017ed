section ZA
theorem va_D_perm {A : Nat → Prop} {ws ws' : va_W} (h : va_D A ws) (hp : ws.Perm ws') : va_D A ws' := by
  have key : ∀ {v : va_W}, va_D A v ↔ (v.map (fun q => q.1)).Nodup ∧ ∀ q ∈ v, A q.1 := by
    intro v
    constructor
    · intro hv
      refine ⟨?_, fun q hq => ?_⟩
      · rw [List.nodup_iff_pairwise_ne, List.pairwise_iff_getElem]
        intro i j hi hj hij he
        rw [List.length_map] at hi hj
        have e1 : v[i]? = some v[i] := List.getElem?_eq_getElem hi
        have e2 : v[j]? = some v[j] := List.getElem?_eq_getElem hj
        have := hv.1 i j _ _ e1 e2 (by simpa using he)
        omega
      · obtain ⟨i, hi⟩ := List.getElem?_of_mem hq
        exact hv.2 i q hi
    · rintro ⟨h1, h2⟩
      refine ⟨fun i j p q hp hq he => ?_, fun k q hk => h2 q (List.mem_of_getElem? hk)⟩
      have g1 : (v.map (fun q => q.1))[i]? = some p.1 := by rw [List.getElem?_map, hp]; rfl
      have g2 : (v.map (fun q => q.1))[j]? = some p.1 := by rw [List.getElem?_map, hq, he]; rfl
      exact (List.getElem?_inj (List.getElem?_eq_some_iff.mp g1).1 h1).mp (g1.trans g2.symm)
  rw [key] at h ⊢
  exact ⟨(hp.map _).nodup_iff.mp h.1, fun q hq => h.2 q (hp.mem_iff.mpr hq)⟩
theorem va_P_perm {D : va_G} {cl : List vw_C} {ws ws' : va_W} {H : Heap} (h : va_P D cl ws H) (hp : ws.Perm ws') : va_P D cl ws' H := by
  intro k q hk
  obtain ⟨i, hi⟩ := List.getElem?_of_mem (hp.mem_iff.mpr (List.mem_of_getElem? hk))
  exact h i q hi
variable {p : Program} {l : Launch} {e : Env} {R : Room} {s : State} {m : MethodId} {args : Array Value} {below : List Frame} {meth : Method} {c : Code} {Q : State → Prop} {D : va_G} {d : Nat → ClassId} {K : Nat → Nat} {A : Nat → Prop} {cc : ByteArray} {nL lvl : Nat} {own : String} {zc zs : Int} {L : va_W} {M : g_M} {lv : List (Nat × Value)} {pc : Nat} {st : List Value}

theorem x_newarr (C : XC p R s m args c D d A cc nL own lvl zc zs) {n : Nat} {zc' zs' : Int} (C1 : XC p R s m args c D d A cc nL own lvl zc' zs') (hz : zc + 1 ≤ zc') (hzs : zs + n ≤ zs') (hn0 : ¬ Int32.ofInt n < 0) (hN : (Int32.ofInt n).toNatClampNeg = n) (hb : n * 4 ≤ 536870912) (dg : decode cc pc = .ok (.newarray .int, 2)) (k : ∀ q : Nat, X p l e R s m args below meth c Q D d K A nL zc' zs' (L ++ [(q, .inl (d 0, n, .inl (fun _ => Int32.ofInt 0)))]) M lv (pc + 2) (.ref q :: st)) : X p l e R s m args below meth c Q D d K A nL zc zs L M lv pc (iv n :: st) := by
  intro H locs ls LB hh hl
  refine W.grow (fun hwt => ?_)
  have hwz := hh.2.2.2.1.1
  have hc := hh.1.cap
  have hroom : H.size - s.heap.size + 1 ≤ R.cells ∧ TOT H - TOT s.heap + n ≤ R.slots := by
    have h5 := hh.2.2.2.2.1
    have h6 := hh.2.2.2.2.2
    obtain ⟨-, -, -, -, c1, c2⟩ := C1
    omega
  refine W.tight (k := H.size - s.heap.size) (n := TOT H - TOT s.heap) (by omega) (by omega) ?_
  refine va_newaK (N := n) C.1.1 C.1.2.1 (atype := .int) (C.1.2.2.2.2.1 _ ka_int) rfl dg rfl hn0 hN hb hroom.1 hroom.2 rfl (fun H1 cA e1 z1 o1 hAr hNm => ?_)
  have hcA : cA = d 0 := Option.some.inj (hNm.symm.trans (C.1.2.2.2.2.2.1.2 0 _ rfl).2)
  subst hcA
  refine W.widen hroom.1 hroom.2 ?_
  have hkp : ∀ (k : Nat) (x : Nat × va_E), (wd K d L M LB)[k]? = some x → H1[x.1]? = H[x.1]? := fun k x hx => o1 x.1 ((hh.2.1 k x hx).lt)
  have hPa : va_P D gCl (wd K d L M LB ++ [(H.size, .inl (d 0, n, .inl (fun _ => Int32.ofInt 0)))]) H1 := (hh.2.1.kept hkp).app (fun k x hx => by
    cases k with
    | zero =>
      cases hx
      exact e1
    | succ k => simp at hx)
  have hDa : va_D A (wd K d L M LB ++ [(H.size, .inl (d 0, n, .inl (fun _ => Int32.ofInt 0)))]) := hh.2.2.1.push hh.2.1 rfl (C.1.2.2.2.2.2.2.1 _ hh.2.2.2.1.1)
  have hSa : va_S A s.heap H1 locs := ⟨Nat.le_trans hh.2.2.2.1.1 (by omega), fun x h1 h2 => (o1 x (Nat.lt_of_lt_of_le h1 hh.2.2.2.1.1)).trans (hh.2.2.2.1.2.1 x h1 h2), hh.2.2.2.1.2.2⟩
  have htot : TOT H1 = TOT H + n := by
    have ha := tot_list H1.toList H.toList (fun j x hj => by
      rw [Array.getElem?_toList] at hj
      exact ⟨x, by rw [Array.getElem?_toList, o1 j (Array.getElem?_eq_some_iff.mp hj).1]; exact hj, rfl⟩)
    have hlen : H1.toList.length = H.toList.length + 1 := by rw [Array.length_toList, Array.length_toList, z1]
    have hx : H1.toList[H.toList.length]? = some (arrV (d 0) n (fun _ => defaultValue .int)) := by rw [Array.getElem?_toList, Array.length_toList]; exact e1
    have hdr : H1.toList.drop H.toList.length = [arrV (d 0) n (fun _ => defaultValue .int)] := by
      rw [List.drop_eq_getElem_cons (by omega), List.drop_eq_nil_of_le (by omega)]
      rw [List.getElem?_eq_getElem (by omega)] at hx
      rw [Option.some.inj hx]
    rw [hdr] at ha
    simpa [TOT, arrV_size] using ha
  have hperm : (wd K d L M LB ++ [((H.size, Sum.inl (d 0, n, Sum.inl (fun _ => Int32.ofInt 0))) : Nat × va_E)]).Perm (wd K d (L ++ [((H.size, Sum.inl (d 0, n, Sum.inl (fun _ => Int32.ofInt 0))) : Nat × va_E)]) M LB) := by
    unfold wd
    rw [List.append_assoc, List.append_assoc]
    refine List.Perm.append_left _ ?_
    rw [List.append_assoc]
    refine List.Perm.append_left _ ?_
    exact List.perm_append_comm
  refine k H.size H1 locs ls LB ⟨hh.1, va_P_perm hPa hperm, va_D_perm hDa hperm, hSa, ?_, ?_⟩ hl
  · have := hh.2.2.2.2.1
    omega
  · have := hh.2.2.2.2.2
    omega
theorem wf0 : g_wf M0 [] := by
  refine ⟨fun q hq => (by cases hq), by simp, fun r i hr _ => ?_, by decide, by decide⟩
  unfold M0
  rw [if_neg (by omega), if_neg (by omega)]
theorem v_to_x (C : VC p s m args c D d A cc nL own) (hex : g_ex A s) (hfr : lvl + 6 ≤ R.frames) (hlo : 150 + 50 * lvl ≤ R.locals) {ws : va_W} {ck sl : Nat} (hck : ck + 3186 ≤ R.cells) (hsl : sl + 2235224 ≤ R.slots) (K : Nat → Nat) (is : List Nat) (hn : va_nd is = true) (hs : is.map (fun i => ws[i]?) = (wd K d [] M0 []).map some) (k : ∀ zc zs : Int, (∀ i j : Nat, i ≤ 10 → j ≤ 1000 → XC p R s m args c D d A cc nL own lvl (zc + i) (zs + j)) → X p l e R s m args below meth c Q D d K A nL zc zs [] M0 lv pc st) : V p l e R s m args below meth c Q D A nL ws lv ck sl pc st := by
  intro H locs ls hP hD hS hl T hT Y
  have h1 : T.heap.size ≤ s.heap.size + ck := Y.same.2.2.1
  have h2 := tot_le Y.same
  have h3 : TOT (T.setVm s.vm).heap = TOT H := by show TOT T.heap = _; rw [hT]
  rw [hT] at h1
  refine (W.widen (k := R.cells) (n := R.slots) (by omega) (by omega) (k (s.heap.size + ck) (TOT s.heap + sl) (fun i j hi hj => ⟨C, hex, hfr, hlo, by omega, by omega⟩) H locs ls [] ⟨wf0, hP.sub is (fm_of hs), hD.sub is hn hs, hS, ?_, ?_⟩ hl)) T hT Y
  · show (H.size : Int) ≤ _ + (0 + 0)
    omega
  · show (TOT H : Int) ≤ _ + (1024 * 0 + 6 * 0)
    omega
end ZA
