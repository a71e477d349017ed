section
def bm (x : Int) : Int := Int.bmod x 4294967296
abbrev g_M : Type := Nat → Nat → Int
abbrev g_B : Type := List (Nat × Nat × Nat)
def up (M : g_M) (a i : Nat) (v : Int) : g_M := fun b j => if b = a ∧ j = i then v else M b j
def rg (M : g_M) (r : Nat) (i : Int) : Int := if bm i < 0 then 0 else M r (bm i).toNat
def rs (M : g_M) (r : Nat) (i v : Int) : g_M := up M r (bm i).toNat v
def capB (r : Nat) : Nat := if r = 5 then 32 else if r = 30 then 16 else 64
def okI (r : Nat) (i : Int) : Prop := 0 ≤ bm i ∧ bm i < 1024 * capB r
def inI (i : Int) (n : Nat) : Prop := 0 ≤ bm i ∧ bm i < (n : Int)
def isB (v : Int) : Prop := v = 0 ∨ v = 1
def isY (v : Int) : Prop := -128 ≤ v ∧ v ≤ 127
def idiv (a b : Int) : Int := (Int32.ofInt a / Int32.ofInt b).toInt
def irem (a b : Int) : Int := (Int32.ofInt a - Int32.ofInt a / Int32.ofInt b * Int32.ofInt b).toInt
def iand (a b : Int) : Int := (Int32.ofInt a &&& Int32.ofInt b).toInt
def ior (a b : Int) : Int := (Int32.ofInt a ||| Int32.ofInt b).toInt
def ixor (a b : Int) : Int := (Int32.ofInt a ^^^ Int32.ofInt b).toInt
def ishl (a b : Int) : Int := (Int32.ofInt a <<< (Int32.ofInt b &&& 31)).toInt
def ishr (a b : Int) : Int := (Int32.ofInt a >>> (Int32.ofInt b &&& 31)).toInt
def iushr (a b : Int) : Int := ((Int32.ofInt a).toUInt32 >>> ((Int32.ofInt b).toUInt32 &&& Int32.toUInt32 31)).toInt32.toInt
def i2b (a : Int) : Int := (Int32.ofInt a).toInt8.toInt32.toInt
def imax (a b : Int) : Int := if bm a < bm b then b else a
def imin (a b : Int) : Int := if bm b < bm a then b else a
end
section
def TOT (H : Heap) : Nat := (H.toList.map (fun c : Cell => c.slots.size)).sum
theorem tot_list : ∀ (l l0 : List Cell), (∀ (i : Nat) (c : Cell), l0[i]? = some c → ∃ c', l[i]? = some c' ∧ c'.slots.size = c.slots.size) → (l.map (fun c : Cell => c.slots.size)).sum = (l0.map (fun c : Cell => c.slots.size)).sum + ((l.drop l0.length).map (fun c : Cell => c.slots.size)).sum
  | l, [], _ => by simp
  | [], c :: l0, h => by
    obtain ⟨c', h1, -⟩ := h 0 c rfl
    simp at h1
  | x :: l, c :: l0, h => by
    obtain ⟨c', h1, h2⟩ := h 0 c rfl
    have h1 : x = c' := by simpa using h1
    subst h1
    have ih := tot_list l l0 (fun i c hi => h (i + 1) c (by simpa using hi))
    simp only [List.map_cons, List.sum_cons, List.length_cons, List.drop_succ_cons]
    omega
theorem tot_same {s s' : State} {locs : List Loc} {c n : Nat} (h : s.sameButNew s' locs c n) : TOT s'.heap = TOT s.heap + ((s'.heap.toList.drop s.heap.size).map (·.slots.size)).sum := by
  obtain ⟨-, -, -, -, -, h6⟩ := h
  refine tot_list s'.heap.toList s.heap.toList (fun i c hi => ?_)
  rw [Array.getElem?_toList] at hi
  obtain ⟨c', h1, -, h2, -⟩ := h6 i c hi
  exact ⟨c', by rw [Array.getElem?_toList]; exact h1, h2⟩
theorem tot_le {s s' : State} {locs : List Loc} {c n : Nat} (h : s.sameButNew s' locs c n) : TOT s'.heap ≤ TOT s.heap + n := by
  have h1 := tot_same h
  obtain ⟨-, -, -, -, h5, -⟩ := h
  omega
theorem tot_put {H H1 : Heap} {a : Nat} {c c1 : Cell} (hz : H1.size = H.size) (ho : ∀ q : Nat, q ≠ a → H1[q]? = H[q]?) (hc : H[a]? = some c) (hc1 : H1[a]? = some c1) (hs : c1.slots.size = c.slots.size) : TOT H1 = TOT H := by
  have h := tot_list H1.toList H.toList (fun i x hi => by
    rw [Array.getElem?_toList] at hi
    by_cases e : i = a
    · subst e
      rw [hc] at hi
      cases hi
      exact ⟨c1, by rw [Array.getElem?_toList]; exact hc1, hs⟩
    · exact ⟨x, by rw [Array.getElem?_toList, ho i e]; exact hi, rfl⟩)
  have e : H1.toList.drop H.toList.length = [] := List.drop_eq_nil_of_le (by rw [Array.length_toList, Array.length_toList]; omega)
  rw [e] at h
  simpa [TOT] using h
theorem tot_push (H : Heap) (c : Cell) : TOT (H.push c) = TOT H + c.slots.size := by
  unfold TOT
  simp [Array.toList_push]
end
section
-- ===== PART A: goes FIRST, ahead of the names: the tables' words, and 'selects' of the private methods out of them =====
/-- a private method of a class that the tables say can be made, by its rows of tables_1 -/
def lw_okq (q : MethodName × Nat) : Prop := (q.1.cls ≠ "java/lang/invoke/MethodHandle" ∧ q.1.cls ≠ "java/lang/invoke/VarHandle") ∧ Cond.instantiable q.1.cls q.2 ∈ tables_1 ∧ Cond.privateMethod q.1 ∈ tables_1 ∧ Cond.instanceMethod q.1 ∈ tables_1
theorem lw_p0 : lw_okq (⟨"GroundProver", "isTerm", "(I)Z"⟩, 11) := ⟨⟨by decide +kernel, by decide +kernel⟩, List.mem_of_getElem? (i := 23) (by decide +kernel), List.mem_of_getElem? (i := 544) (by decide +kernel), List.mem_of_getElem? (i := 545) (by decide +kernel)⟩
theorem lw_p1 : lw_okq (⟨"java/lang/Throwable", "fillInStackTrace", "(I)Ljava/lang/Throwable;"⟩, 6) := ⟨⟨by decide +kernel, by decide +kernel⟩, List.mem_of_getElem? (i := 587) (by decide +kernel), List.mem_of_getElem? (i := 585) (by decide +kernel), List.mem_of_getElem? (i := 586) (by decide +kernel)⟩
theorem lw_p2 : lw_okq (⟨"GroundProver$Walk", "firstUnlisted", "(I)I"⟩, 7) := ⟨⟨by decide +kernel, by decide +kernel⟩, List.mem_of_getElem? (i := 137) (by decide +kernel), List.mem_of_getElem? (i := 634) (by decide +kernel), List.mem_of_getElem? (i := 635) (by decide +kernel)⟩
theorem lw_p3 : lw_okq (⟨"GroundProver$Grammar", "linkUsers", "()V"⟩, 20) := ⟨⟨by decide +kernel, by decide +kernel⟩, List.mem_of_getElem? (i := 169) (by decide +kernel), List.mem_of_getElem? (i := 706) (by decide +kernel), List.mem_of_getElem? (i := 707) (by decide +kernel)⟩
theorem lw_p4 : lw_okq (⟨"GroundProver$Grammar", "enter", "(I)V"⟩, 20) := ⟨⟨by decide +kernel, by decide +kernel⟩, List.mem_of_getElem? (i := 169) (by decide +kernel), List.mem_of_getElem? (i := 710) (by decide +kernel), List.mem_of_getElem? (i := 711) (by decide +kernel)⟩
theorem lw_p5 : lw_okq (⟨"GroundProver$Grammar", "isBefore", "(II)Z"⟩, 20) := ⟨⟨by decide +kernel, by decide +kernel⟩, List.mem_of_getElem? (i := 169) (by decide +kernel), List.mem_of_getElem? (i := 723) (by decide +kernel), List.mem_of_getElem? (i := 724) (by decide +kernel)⟩
theorem lw_p6 : lw_okq (⟨"GroundProver$Grammar", "takeLeast", "()I"⟩, 20) := ⟨⟨by decide +kernel, by decide +kernel⟩, List.mem_of_getElem? (i := 169) (by decide +kernel), List.mem_of_getElem? (i := 735) (by decide +kernel), List.mem_of_getElem? (i := 736) (by decide +kernel)⟩
theorem lw_p7 : lw_okq (⟨"GroundProver$Grammar", "isReadyAfter", "(I)Z"⟩, 20) := ⟨⟨by decide +kernel, by decide +kernel⟩, List.mem_of_getElem? (i := 169) (by decide +kernel), List.mem_of_getElem? (i := 739) (by decide +kernel), List.mem_of_getElem? (i := 740) (by decide +kernel)⟩
theorem lw_p8 : lw_okq (⟨"GroundProver", "tidy", "()V"⟩, 11) := ⟨⟨by decide +kernel, by decide +kernel⟩, List.mem_of_getElem? (i := 23) (by decide +kernel), List.mem_of_getElem? (i := 780) (by decide +kernel), List.mem_of_getElem? (i := 781) (by decide +kernel)⟩
theorem lw_p9 : lw_okq (⟨"GroundProver$TermStore", "markOne", "(I)V"⟩, 13) := ⟨⟨by decide +kernel, by decide +kernel⟩, List.mem_of_getElem? (i := 73) (by decide +kernel), List.mem_of_getElem? (i := 792) (by decide +kernel), List.mem_of_getElem? (i := 793) (by decide +kernel)⟩
theorem lw_p10 : lw_okq (⟨"GroundProver$TermStore", "relink", "(I)V"⟩, 13) := ⟨⟨by decide +kernel, by decide +kernel⟩, List.mem_of_getElem? (i := 73) (by decide +kernel), List.mem_of_getElem? (i := 817) (by decide +kernel), List.mem_of_getElem? (i := 818) (by decide +kernel)⟩
theorem lw_p11 : lw_okq (⟨"GroundProver$TermStore", "bucketOf", "(IIII)I"⟩, 13) := ⟨⟨by decide +kernel, by decide +kernel⟩, List.mem_of_getElem? (i := 73) (by decide +kernel), List.mem_of_getElem? (i := 821) (by decide +kernel), List.mem_of_getElem? (i := 822) (by decide +kernel)⟩
theorem lw_p12 : lw_okq (⟨"GroundProver$TermStore", "keep", "(IIIII)I"⟩, 13) := ⟨⟨by decide +kernel, by decide +kernel⟩, List.mem_of_getElem? (i := 73) (by decide +kernel), List.mem_of_getElem? (i := 848) (by decide +kernel), List.mem_of_getElem? (i := 849) (by decide +kernel)⟩
theorem lw_p13 : lw_okq (⟨"GroundProver$TermStore", "extentOver", "(IIII)I"⟩, 13) := ⟨⟨by decide +kernel, by decide +kernel⟩, List.mem_of_getElem? (i := 73) (by decide +kernel), List.mem_of_getElem? (i := 856) (by decide +kernel), List.mem_of_getElem? (i := 857) (by decide +kernel)⟩
theorem lw_p14 : lw_okq (⟨"GroundProver$Theory", "ruleFor", "(I)I"⟩, 18) := ⟨⟨by decide +kernel, by decide +kernel⟩, List.mem_of_getElem? (i := 240) (by decide +kernel), List.mem_of_getElem? (i := 863) (by decide +kernel), List.mem_of_getElem? (i := 864) (by decide +kernel)⟩
theorem lw_p15 : lw_okq (⟨"GroundProver$Reader", "isLetter", "(I)Z"⟩, 19) := ⟨⟨by decide +kernel, by decide +kernel⟩, List.mem_of_getElem? (i := 351) (by decide +kernel), List.mem_of_getElem? (i := 959) (by decide +kernel), List.mem_of_getElem? (i := 960) (by decide +kernel)⟩
def lw_privs_1 : List (MethodName × Nat) := [(⟨"GroundProver", "isTerm", "(I)Z"⟩, 11), (⟨"java/lang/Throwable", "fillInStackTrace", "(I)Ljava/lang/Throwable;"⟩, 6), (⟨"GroundProver$Walk", "firstUnlisted", "(I)I"⟩, 7), (⟨"GroundProver$Grammar", "linkUsers", "()V"⟩, 20), (⟨"GroundProver$Grammar", "enter", "(I)V"⟩, 20), (⟨"GroundProver$Grammar", "isBefore", "(II)Z"⟩, 20), (⟨"GroundProver$Grammar", "takeLeast", "()I"⟩, 20), (⟨"GroundProver$Grammar", "isReadyAfter", "(I)Z"⟩, 20), (⟨"GroundProver", "tidy", "()V"⟩, 11), (⟨"GroundProver$TermStore", "markOne", "(I)V"⟩, 13), (⟨"GroundProver$TermStore", "relink", "(I)V"⟩, 13), (⟨"GroundProver$TermStore", "bucketOf", "(IIII)I"⟩, 13), (⟨"GroundProver$TermStore", "keep", "(IIIII)I"⟩, 13), (⟨"GroundProver$TermStore", "extentOver", "(IIII)I"⟩, 13), (⟨"GroundProver$Theory", "ruleFor", "(I)I"⟩, 18), (⟨"GroundProver$Reader", "isLetter", "(I)Z"⟩, 19)]
theorem lw_r1 : ∀ q ∈ lw_privs_1, lw_okq q := List.forall_mem_cons.mpr ⟨lw_p0, List.forall_mem_cons.mpr ⟨lw_p1, List.forall_mem_cons.mpr ⟨lw_p2, List.forall_mem_cons.mpr ⟨lw_p3, List.forall_mem_cons.mpr ⟨lw_p4, List.forall_mem_cons.mpr ⟨lw_p5, List.forall_mem_cons.mpr ⟨lw_p6, List.forall_mem_cons.mpr ⟨lw_p7, List.forall_mem_cons.mpr ⟨lw_p8, List.forall_mem_cons.mpr ⟨lw_p9, List.forall_mem_cons.mpr ⟨lw_p10, List.forall_mem_cons.mpr ⟨lw_p11, List.forall_mem_cons.mpr ⟨lw_p12, List.forall_mem_cons.mpr ⟨lw_p13, List.forall_mem_cons.mpr ⟨lw_p14, List.forall_mem_cons.mpr ⟨lw_p15, fun _ h => absurd h List.not_mem_nil⟩⟩⟩⟩⟩⟩⟩⟩⟩⟩⟩⟩⟩⟩⟩⟩
theorem lw_p16 : lw_okq (⟨"GroundProver$Reader", "isNamePart", "(I)Z"⟩, 19) := ⟨⟨by decide +kernel, by decide +kernel⟩, List.mem_of_getElem? (i := 351) (by decide +kernel), List.mem_of_getElem? (i := 963) (by decide +kernel), List.mem_of_getElem? (i := 964) (by decide +kernel)⟩
theorem lw_p17 : lw_okq (⟨"GroundProver$Symbols", "isNameAt", "(I[BI)Z"⟩, 11) := ⟨⟨by decide +kernel, by decide +kernel⟩, List.mem_of_getElem? (i := 31) (by decide +kernel), List.mem_of_getElem? (i := 975) (by decide +kernel), List.mem_of_getElem? (i := 976) (by decide +kernel)⟩
theorem lw_p18 : lw_okq (⟨"GroundProver", "giveNumber", "(I)I"⟩, 11) := ⟨⟨by decide +kernel, by decide +kernel⟩, List.mem_of_getElem? (i := 23) (by decide +kernel), List.mem_of_getElem? (i := 1094) (by decide +kernel), List.mem_of_getElem? (i := 1095) (by decide +kernel)⟩
theorem lw_p19 : lw_okq (⟨"GroundProver$Theory", "gather", "(III)V"⟩, 18) := ⟨⟨by decide +kernel, by decide +kernel⟩, List.mem_of_getElem? (i := 240) (by decide +kernel), List.mem_of_getElem? (i := 1139) (by decide +kernel), List.mem_of_getElem? (i := 1140) (by decide +kernel)⟩
theorem lw_p20 : lw_okq (⟨"GroundProver$Closure", "joinTwins", "()Z"⟩, 11) := ⟨⟨by decide +kernel, by decide +kernel⟩, List.mem_of_getElem? (i := 249) (by decide +kernel), List.mem_of_getElem? (i := 1162) (by decide +kernel), List.mem_of_getElem? (i := 1163) (by decide +kernel)⟩
theorem lw_p21 : lw_okq (⟨"GroundProver$Closure", "bucketOf", "(I)I"⟩, 11) := ⟨⟨by decide +kernel, by decide +kernel⟩, List.mem_of_getElem? (i := 249) (by decide +kernel), List.mem_of_getElem? (i := 1166) (by decide +kernel), List.mem_of_getElem? (i := 1167) (by decide +kernel)⟩
theorem lw_p22 : lw_okq (⟨"GroundProver$Closure", "areTwins", "(II)Z"⟩, 11) := ⟨⟨by decide +kernel, by decide +kernel⟩, List.mem_of_getElem? (i := 249) (by decide +kernel), List.mem_of_getElem? (i := 1171) (by decide +kernel), List.mem_of_getElem? (i := 1172) (by decide +kernel)⟩
theorem lw_p23 : lw_okq (⟨"GroundProver$Theory", "isTooLargeSide", "(I)Z"⟩, 18) := ⟨⟨by decide +kernel, by decide +kernel⟩, List.mem_of_getElem? (i := 240) (by decide +kernel), List.mem_of_getElem? (i := 1202) (by decide +kernel), List.mem_of_getElem? (i := 1203) (by decide +kernel)⟩
theorem lw_p24 : lw_okq (⟨"GroundProver$Theory", "takeRules", "()V"⟩, 18) := ⟨⟨by decide +kernel, by decide +kernel⟩, List.mem_of_getElem? (i := 240) (by decide +kernel), List.mem_of_getElem? (i := 1214) (by decide +kernel), List.mem_of_getElem? (i := 1215) (by decide +kernel)⟩
theorem lw_p25 : lw_okq (⟨"GroundProver$Theory", "addRule", "(II)V"⟩, 18) := ⟨⟨by decide +kernel, by decide +kernel⟩, List.mem_of_getElem? (i := 240) (by decide +kernel), List.mem_of_getElem? (i := 1253) (by decide +kernel), List.mem_of_getElem? (i := 1254) (by decide +kernel)⟩
def lw_privs_2 : List (MethodName × Nat) := [(⟨"GroundProver$Reader", "isNamePart", "(I)Z"⟩, 19), (⟨"GroundProver$Symbols", "isNameAt", "(I[BI)Z"⟩, 11), (⟨"GroundProver", "giveNumber", "(I)I"⟩, 11), (⟨"GroundProver$Theory", "gather", "(III)V"⟩, 18), (⟨"GroundProver$Closure", "joinTwins", "()Z"⟩, 11), (⟨"GroundProver$Closure", "bucketOf", "(I)I"⟩, 11), (⟨"GroundProver$Closure", "areTwins", "(II)Z"⟩, 11), (⟨"GroundProver$Theory", "isTooLargeSide", "(I)Z"⟩, 18), (⟨"GroundProver$Theory", "takeRules", "()V"⟩, 18), (⟨"GroundProver$Theory", "addRule", "(II)V"⟩, 18)]
theorem lw_r2 : ∀ q ∈ lw_privs_2, lw_okq q := List.forall_mem_cons.mpr ⟨lw_p16, List.forall_mem_cons.mpr ⟨lw_p17, List.forall_mem_cons.mpr ⟨lw_p18, List.forall_mem_cons.mpr ⟨lw_p19, List.forall_mem_cons.mpr ⟨lw_p20, List.forall_mem_cons.mpr ⟨lw_p21, List.forall_mem_cons.mpr ⟨lw_p22, List.forall_mem_cons.mpr ⟨lw_p23, List.forall_mem_cons.mpr ⟨lw_p24, List.forall_mem_cons.mpr ⟨lw_p25, fun _ h => absurd h List.not_mem_nil⟩⟩⟩⟩⟩⟩⟩⟩⟩⟩
def lw_privs : List (MethodName × Nat) := lw_privs_1 ++ (lw_privs_2)
def lw_tbl : List Cond := k2_sels lw_privs ++ tables_1
theorem lw_privs_ok : ∀ q ∈ lw_privs, lw_okq q := by
  show ∀ q ∈ lw_privs_1 ++ (lw_privs_2), lw_okq q
  exact List.forall_mem_append.mpr ⟨lw_r1, lw_r2⟩
end
section
/-! ===== BEGIN words of one list among another's, by their places ===== -/
theorem goodIn_r {big : List Cond} (ws : List Cond) (ps : List Nat) (hp : ws = ps.filterMap (fun i => big[i]?)) (h : ws.all goodWord = true) : GoodIn big ws := by
  intro w hw
  have h1 := List.all_eq_true.mp h w hw
  rw [hp] at hw
  obtain ⟨i, -, hi⟩ := List.mem_filterMap.mp hw
  have hm : w ∈ big := by first | exact List.mem_of_getElem? hi | exact List.getElem?_mem hi
  exact ⟨hm, good_of_word h1⟩
theorem goodIn_app {big a b : List Cond} (ha : GoodIn big a) (hb : GoodIn big b) : GoodIn big (a ++ b) := fun w h => (List.mem_append.mp h).elim (ha w) (hb w)
theorem goodIn_ca {big a b : List Cond} {c : Cond} (ha : GoodIn big (c :: a)) (hb : GoodIn big b) : GoodIn big (c :: (a ++ b)) := fun w h => (List.mem_cons.mp h).elim (fun e => ha w (List.mem_cons.mpr (Or.inl e))) (fun h => (List.mem_append.mp h).elim (fun h => ha w (List.mem_cons.mpr (Or.inr h))) (hb w))
theorem goodIn_sub {big ws : List Cond} (hm : ∀ w ∈ ws, w ∈ big) (h : ws.all goodWord = true) : GoodIn big ws := fun w hw => ⟨hm w hw, good_of_word (List.all_eq_true.mp h w hw)⟩
/-! ===== END ===== -/

/-! ===== BEGIN exceptions that leave a method, and their catching by the caller (launches without stack traces) ===== -/
section VXA
/-! The laws vx_back, vx_callV, vx_callS, vx_callSW, vx_throw0, vx_throwS follow proofs of the library, with one case more: JvmDerived/Free/Laws.lean (Back.of_free), Shelf42/LK1.lean (callV, callS), Shelf/KitTraced.lean (throwNew0V, throwNewS). -/
/-- where a method has thrown q: the class by its name, the cell, what was written, the world -/
def vx_T (XC : String → State → State → Prop) (st : State) (q : Addr) (t : State) (mc ms : Nat) (free : Addr → Prop) : Prop :=
  ∃ (E : String) (ce : Cell) (L : List Loc), XC E st t ∧ t.heap[q]? = some ce ∧ ce.vm = .none ∧ st.vm.findClass E = some ce.cls ∧ st.WarmedH t.vm ∧ st.sameButNew ({ t with vm := st.vm } : State) L mc ms ∧ ∀ z ∈ L, free z.base
def vx_Q (Qc : Array Value → State → Outcome → State → Prop) (XC : String → State → State → Prop) (mc ms : Nat) (free : Addr → Prop) : Array Value → State → Outcome → State → Prop := fun a st o t =>
  (Qc a st o t ∧ ∃ L, FrameEnd st o t L mc ms ∧ ∀ q ∈ L, free q.base) ∨ ∃ q, o = .threw q ∧ vx_T XC st q t mc ms free
/-- a callee that returns or throws -/
def vx_Met (l : Launch) (y : MethodName) (ws : List Cond) (rm : Room) (Pc : Array Value → State → Prop) (Qc : Array Value → State → Outcome → State → Prop) (XC : String → State → State → Prop) (mc ms : Nat) (free : Addr → Prop) : Prop :=
  MetFree l y (headSpec ws rm) Pc (fun _ _ _ _ _ => True) (vx_Q Qc XC mc ms free)
def vx_Post (XC : String → State → State → Prop) (mc ms : Nat) (free : Addr → Prop) : Pt → Array Value → Addr → Pt → Prop := fun A a q B =>
  ∃ (g : JFrame) (mk : MethodId) (t : State) (L : List Loc) (E : String) (ce : Cell), B.U.heap = t.heap ∧ B.U.vm = t.vm ∧ XC E (A.U.calling g mk a) t ∧ t.heap[q]? = some ce ∧ ce.vm = .none ∧ A.U.vm.findClass E = some ce.cls ∧ B.locs = A.locs ++ L ∧ (∀ z ∈ L, free z.base) ∧ B.cells = A.cells + mc ∧ B.slots = A.slots + ms
def vx_Back (l : Launch) (R : Room) (p : Program) (e : Env) (below : List Frame) (s : State) (sargs : Array Value) (y : MethodName) (len W9 : Nat)
    (Pre : Pt → Array Value → Prop) (Post : Pt → Array Value → Option Value → Pt → Prop) (PostX : Pt → Array Value → Addr → Pt → Prop) : Prop :=
  ∀ (m : MethodId) (meth : Method) (c : Code) (A : Pt) (g : JFrame) (ig : Instr) (mk : MethodId) (a : Array Value),
    Stand p l e R s m sargs below meth c A.U A.locs A.cells A.slots → g.method = m → g.locals.size = c.maxLocals → decode c.code g.pc = .ok (ig, len) →
    2 * g.monitorRoom + (g.stack.map fun v => v.category).sum ≤ W9 → A.U.methodNamed? y = some mk → Pre A a →
    (∃ (v : Option Value) (B : Pt), Stand p l e R s m sargs below meth c B.U B.locs B.cells B.slots ∧ Post A a v B ∧
      Steps p.tables e below (doInvoke e (A.U.setTop g) [] mk a).1 (B.U.setTop { g with pc := g.pc + len, stack := v.toList ++ g.stack })) ∨
    (∃ (q : Addr) (B : Pt), Stand p l e R s m sargs below meth c B.U B.locs B.cells B.slots ∧ PostX A a q B ∧
      Steps p.tables e below (doInvoke e (A.U.setTop g) [] mk a).1 ((B.U.setTop g).pushFrame (.throwing q)))
section Payer
variable {l : Launch} {R : Room} {p : Program} {e : Env} {below : List Frame} {s : State} {sargs : Array Value} {y : MethodName} {len W9 : Nat}
theorem vx_back {ws : List Cond} {rm : Room} {Pc : Array Value → State → Prop} {Qc : Array Value → State → Outcome → State → Prop} {XC : String → State → State → Prop} {mc ms : Nat} {free : Addr → Prop} {bytes : ByteArray} {maxL : Nat} {ret : Option FieldType}
    (hM : vx_Met l y ws rm Pc Qc XC mc ms free) (hblind : FrameBlind Pc) (hrc : rm.cells = mc) (hrs : rm.slots = ms)
    (hframes : rm.frames + 1 ≤ R.frames) (hlocals : W9 + (maxL + 11) + rm.locals ≤ R.locals)
    (hws : ∀ w ∈ ws, ∀ a' U, s.WarmedH U.vm → w.before a' U = true) (hcode : Cond.code y bytes maxL ret ∈ ws) (hinit : ∀ a' U, s.WarmedH U.vm → (Cond.initialized y.cls).before a' U = true) :
    vx_Back l R p e below s sargs y len W9 (PreOf R mc ms Pc) (PostOf Qc mc ms free) (vx_Post XC mc ms free) := by
  intro m meth c A g ig mk a X hg hsize hdg hW hn hp
  have h1 : (headSpec ws rm).pre.before a A.U = true := atoms_intro fun w hw => hws w hw _ _ X.warmed
  have h2 : (Cond.code y bytes maxL ret).before a A.U = true := hws _ hcode _ _ X.warmed
  have h3 : (Cond.initialized y.cls).before a A.U = true := hinit _ _ X.warmed
  have h4 : A.cells + (headSpec ws rm).room.cells ≤ R.cells := by rw [show (headSpec ws rm).room.cells = mc from hrc]; exact hp.1
  have h5 : A.slots + (headSpec ws rm).room.slots ≤ R.slots := by rw [show (headSpec ws rm).room.slots = ms from hrs]; exact hp.2.1
  have hPc : Pc a (A.U.calling g mk a) := hblind _ _ _ _ hp.2.2
  obtain ⟨U, Ls, c0, s0⟩ := A
  dsimp only [Pt.U, Pt.locs, Pt.cells, Pt.slots] at h1 h2 h3 h4 h5 X hn hPc ⊢
  obtain ⟨methY, cY, hmY, hcY, -, hlY, -, -, -, -⟩ := Cond.code_spec hn h2
  obtain ⟨kY, hkY, -⟩ := className_of_methodNamed hn
  have hinitY : kY.init = .initialized := Cond.initialized_spec (findClass_of_methodNamed hn) hkY h3
  have h : At U g.method c below := by rw [hg]; exact X.here
  have hlocals9 : W9 + (maxL + 11) + (headSpec ws rm).room.locals ≤ R.locals := hlocals
  have happ : (headSpec ws rm).appliesLoose y e.platform (U.calling g mk a) = true :=
    Spec.appliesLoose_calling (g := g) h hdg hn hkY hinitY
      (X.room_calling (g := g) (R' := (headSpec ws rm).room) hsize hmY hcY hframes (by rw [hlY]; omega) h4 h5) h1
  obtain ⟨mid, hmid⟩ := h.above
  have hfr : (U.setTop g).frames = (.java g :: mid) ++ below := by rw [State.frames_setTop' g h.top, hmid]; rfl
  obtain ⟨o, s₂, hsteps, -, hend, hq⟩ := Steps.callFree hM p X.admits X.cas X.clock (acts := []) hfr happ hPc trivial
  have hq' : vx_Q Qc XC mc ms free a (U.calling g mk a) o s₂ := hq
  rw [State.frames_setTop' g h.top] at hend
  obtain ⟨g₀, hg0⟩ := Option.isSome_iff_exists.mp h.top
  obtain ⟨r, hr⟩ := State.topJava?_eq_some.mp hg0
  have hr' : (({ U with heap := s₂.heap, slotsUsed := s₂.slotsUsed } : State).setVm s₂.vm).frames = .java g₀ :: r := hr
  rcases hq' with ⟨hqc, L, hfe, hL⟩ | ⟨q, rfl, E, ce, L, hx, hce, hcv, hcl, hW₂, hsm, hL⟩
  · obtain ⟨⟨v, rfl⟩, hW₂, e2, q2, q3, q4, q5, q6⟩ := id hfe
    have e3 : s₂ = ({ (U.calling g mk a).setFrames s₂.frames with heap := s₂.heap, slotsUsed := s₂.slotsUsed } : State).setVm s₂.vm := by
      have : s₂ = ({ s₂ with vm := (U.calling g mk a).vm } : State).setVm s₂.vm := rfl
      rw [e2] at this
      exact this
    obtain ⟨c₂, i₂, len₂, hc₂, hd₂, hf₂⟩ := hend
    have hW' : U.WarmedH s₂.vm := hW₂
    have hcc : c₂ = c := by
      have h1 : s₂.code? g.method = U.code? g.method := by
        rw [State.code?_eq, State.code?_eq, hW'.alike.method?]
      exact Option.some.inj (hc₂.symm.trans (h1.trans h.code))
    subst hcc
    have hlen : len₂ = len := by rw [hdg] at hd₂; cases hd₂; rfl
    subst hlen
    have hs₂ : s₂ = (({ U with heap := s₂.heap, slotsUsed := s₂.slotsUsed } : State).setVm s₂.vm).setTop { g with pc := g.pc + len₂, stack := v.toList ++ g.stack } := by
      refine e3.trans ?_
      rw [hf₂, State.calling_eq h.top, State.setFrames_setFrames, State.setTop_of_frames _ hr', hr]
      rfl
    have hsame : U.sameButNew ({ U with heap := s₂.heap, slotsUsed := s₂.slotsUsed } : State) L mc ms := by
      refine ⟨?_, q2, q3, q4, q5, q6⟩
      obtain ⟨t, ht, -⟩ := State.frames_cons hr
      show ({ U with heap := s₂.heap, slotsUsed := s₂.slotsUsed } : State) = { U.setFrames U.frames with heap := s₂.heap, slotsUsed := s₂.slotsUsed }
      rw [State.setFrames_self ht]
    subst hg
    refine Or.inl ⟨v, ⟨(({ U with heap := s₂.heap, slotsUsed := s₂.slotsUsed } : State).setVm s₂.vm), Ls ++ L, c0 + mc, s0 + ms⟩,
      ⟨X.admits, X.cas, X.clock, X.frames, X.room, X.hears, X.method, X.code, (X.here.setHeapUsed s₂.heap s₂.slotsUsed).setVm hW'.alike, X.tail, State.WarmedH.trans X.warmed hW', X.limits, X.bytes, X.same.trans (hsame.setVm s.vm)⟩,
      ⟨g, mk, s₂, L, rfl, rfl, hqc, rfl, hL, rfl, rfl⟩, ?_⟩
    show Steps p.tables e below _ ((({ U with heap := s₂.heap, slotsUsed := s₂.slotsUsed } : State).setVm s₂.vm).setTop { g with pc := g.pc + len₂, stack := v.toList ++ g.stack })
    rw [← hs₂]
    exact hsteps
  · obtain ⟨e2, q2, q3, q4, q5, q6⟩ := id hsm
    have e3 : s₂ = ({ (U.calling g mk a).setFrames s₂.frames with heap := s₂.heap, slotsUsed := s₂.slotsUsed } : State).setVm s₂.vm := by
      have : s₂ = ({ s₂ with vm := (U.calling g mk a).vm } : State).setVm s₂.vm := rfl
      rw [e2] at this
      exact this
    have hf₂ : s₂.frames = .throwing q :: .java g :: U.frames.tail := hend
    have hW' : U.WarmedH s₂.vm := hW₂
    have hs₂ : s₂ = ((({ U with heap := s₂.heap, slotsUsed := s₂.slotsUsed } : State).setVm s₂.vm).setTop g).pushFrame (.throwing q) := by
      refine e3.trans ?_
      rw [hf₂, State.calling_eq h.top, State.setFrames_setFrames, State.pushFrame, State.frames_setTop _ hr', State.setTop_of_frames _ hr', State.setFrames_setFrames, hr]
      rfl
    have hsame : U.sameButNew ({ U with heap := s₂.heap, slotsUsed := s₂.slotsUsed } : State) L mc ms := by
      refine ⟨?_, q2, q3, q4, q5, q6⟩
      obtain ⟨t, ht, -⟩ := State.frames_cons hr
      show ({ U with heap := s₂.heap, slotsUsed := s₂.slotsUsed } : State) = { U.setFrames U.frames with heap := s₂.heap, slotsUsed := s₂.slotsUsed }
      rw [State.setFrames_self ht]
    subst hg
    refine Or.inr ⟨q, ⟨(({ U with heap := s₂.heap, slotsUsed := s₂.slotsUsed } : State).setVm s₂.vm), Ls ++ L, c0 + mc, s0 + ms⟩,
      ⟨X.admits, X.cas, X.clock, X.frames, X.room, X.hears, X.method, X.code, (X.here.setHeapUsed s₂.heap s₂.slotsUsed).setVm hW'.alike, X.tail, State.WarmedH.trans X.warmed hW', X.limits, X.bytes, X.same.trans (hsame.setVm s.vm)⟩,
      ⟨g, mk, s₂, L, E, ce, rfl, rfl, hx, hce, hcv, hcl, rfl, hL, rfl, rfl⟩, ?_⟩
    show Steps p.tables e below _ (((({ U with heap := s₂.heap, slotsUsed := s₂.slotsUsed } : State).setVm s₂.vm).setTop g).pushFrame (.throwing q))
    rw [← hs₂]
    exact hsteps
end Payer
section Calls
variable {p : Program} {l : Launch} {e : Env} {R : Room} {s : State} {m : MethodId} {args : Array Value} {below : List Frame} {meth : Method} {c : Code} {T : State} {locs : List Loc} {cells slots : Nat}
theorem vx_callV (X : Stand p l e R s m args below meth c T locs cells slots) (hexec : p.tables.exec = Jvm.exec) {own C : String} {index : Nat} {y : MethodName} {bytes : ByteArray} {maxL : Nat} {ret : Option FieldType}
    (hown : s.vm.findClass own = some m.cls) (hlink : (Cond.methodLink own index y).before args s = true) (hinst : (Cond.instanceMethod y).before args s = true) (hsel : (Cond.selects C y y).before args s = true)
    (hcode : (Cond.code y bytes maxL ret).before args s = true) (hy : y.cls ≠ "java/lang/invoke/MethodHandle" ∧ y.cls ≠ "java/lang/invoke/VarHandle")
    {W9 : Nat} {Pre : Pt → Array Value → Prop} {Post : Pt → Array Value → Option Value → Pt → Prop} {PostX : Pt → Array Value → Addr → Pt → Prop} (hK : vx_Back l R p e below s args y 3 W9 Pre Post PostX)
    {b : Addr} {cellB : Cell} (hcell : T.heap[b]? = some cellB) (hobj : cellB.vm.isStatics = false) (hcls : s.vm.findClass C = some cellB.cls)
    {g : JFrame} (hg : g.method = m) (hsize : g.locals.size = c.maxLocals) {argsL rest : List Value} (hlen : ∀ sig, parseMethodDescriptor y.desc = some sig → argsL.length = sig.parameters.length)
    (hstack : g.stack = argsL.reverse ++ .ref b :: rest) (hW : 2 * g.monitorRoom + (rest.map fun v => v.category).sum ≤ W9) (hdg : decode c.code g.pc = .ok (.invokevirtual index, 3))
    (hpre : ∀ vm₁, s.WarmedH vm₁ → Pre ⟨T.setVm vm₁, locs, cells, slots⟩ (Value.ref b :: argsL).toArray) :
    (∃ (v : Option Value) (vm₁ : Vm) (B : Pt), s.WarmedH vm₁ ∧ Stand p l e R s m args below meth c B.U B.locs B.cells B.slots ∧ Post ⟨T.setVm vm₁, locs, cells, slots⟩ (Value.ref b :: argsL).toArray v B ∧
      ∀ target, Steps p.tables e below (B.U.setTop { g with pc := g.pc + 3, stack := v.toList ++ rest }) target → Steps p.tables e below (T.setTop g) target) ∨
    (∃ (q : Addr) (vm₁ : Vm) (B : Pt), s.WarmedH vm₁ ∧ Stand p l e R s m args below meth c B.U B.locs B.cells B.slots ∧ PostX ⟨T.setVm vm₁, locs, cells, slots⟩ (Value.ref b :: argsL).toArray q B ∧
      Steps p.tables e below (T.setTop g) ((B.U.setTop { g with stack := rest }).pushFrame (.throwing q))) := by
  obtain ⟨mk, methM, hnamed, hmethM, hstM, habM⟩ := Cond.instanceMethod_spec hinst
  obtain ⟨methM', cM, hmethM', -, -, -, -, -, -, hsigM⟩ := Cond.code_spec hnamed hcode
  cases hmethM.symm.trans hmethM'
  obtain ⟨c2, r2, m2, q1, q2, q3, q4, kP, hkP, hkPi⟩ := Cond.selects_spec hsel
  cases hcls.symm.trans q1
  cases (State.methodFound?_of_named hnamed hy).symm.trans q2
  cases hnamed.symm.trans q3
  have hselP : selectMethod e.platform s.vm cellB.cls mk = .method mk := by rw [Launch.admits_selectMethod X.admits]; exact q4
  obtain ⟨vm₁, X₁, hstep₁⟩ := X.invokevirtual hexec hown hlink hnamed hmethM hstM hkP hkPi hy (a := b) (cell := cellB) hcell
    (fun z h => by rw [h] at hobj; cases hobj) hselP hmethM habM hkP hkPi (g := g) hg (argsL := argsL) (rest := rest) (hlen _ hsigM) hstack hdg
  rcases hK m meth c ⟨T.setVm vm₁, locs, cells, slots⟩ { g with stack := rest } (.invokevirtual index) mk (Value.ref b :: argsL).toArray X₁ hg hsize hdg hW (X₁.named hnamed) (hpre vm₁ X₁.warmed) with ⟨v, B, X', hpost, hsteps⟩ | ⟨q, B, X', hpost, hsteps⟩
  · exact Or.inl ⟨v, vm₁, B, X₁.warmed, X', hpost, fun target h => hstep₁ _ fun acts => by rw [doInvoke_state]; exact hsteps.trans h⟩
  · exact Or.inr ⟨q, vm₁, B, X₁.warmed, X', hpost, hstep₁ _ fun acts => by rw [doInvoke_state]; exact hsteps⟩
theorem vx_callS (X : Stand p l e R s m args below meth c T locs cells slots) (hexec : p.tables.exec = Jvm.exec) {own : String} {index : Nat} {y : MethodName} {bytes : ByteArray} {maxL : Nat} {ret : Option FieldType}
    (hown : s.vm.findClass own = some m.cls) (hlink : (Cond.methodLink own index y).before args s = true) (hstat : (Cond.static y).before args s = true) (hinit : (Cond.initialized y.cls).before args s = true)
    (hcode : (Cond.code y bytes maxL ret).before args s = true) (hy : y.cls ≠ "java/lang/invoke/MethodHandle" ∧ y.cls ≠ "java/lang/invoke/VarHandle")
    {W9 : Nat} {Pre : Pt → Array Value → Prop} {Post : Pt → Array Value → Option Value → Pt → Prop} {PostX : Pt → Array Value → Addr → Pt → Prop} (hK : vx_Back l R p e below s args y 3 W9 Pre Post PostX)
    {g : JFrame} (hg : g.method = m) (hsize : g.locals.size = c.maxLocals) {argsL rest : List Value} (hlen : ∀ sig, parseMethodDescriptor y.desc = some sig → argsL.length = sig.parameters.length)
    (hstack : g.stack = argsL.reverse ++ rest) (hW : 2 * g.monitorRoom + (rest.map fun v => v.category).sum ≤ W9) (hdg : decode c.code g.pc = .ok (.invokestatic index, 3))
    (hpre : ∀ vm₁, s.WarmedH vm₁ → Pre ⟨T.setVm vm₁, locs, cells, slots⟩ argsL.toArray) :
    (∃ (v : Option Value) (vm₁ : Vm) (B : Pt), s.WarmedH vm₁ ∧ Stand p l e R s m args below meth c B.U B.locs B.cells B.slots ∧ Post ⟨T.setVm vm₁, locs, cells, slots⟩ argsL.toArray v B ∧
      ∀ target, Steps p.tables e below (B.U.setTop { g with pc := g.pc + 3, stack := v.toList ++ rest }) target → Steps p.tables e below (T.setTop g) target) ∨
    (∃ (q : Addr) (vm₁ : Vm) (B : Pt), s.WarmedH vm₁ ∧ Stand p l e R s m args below meth c B.U B.locs B.cells B.slots ∧ PostX ⟨T.setVm vm₁, locs, cells, slots⟩ argsL.toArray q B ∧
      Steps p.tables e below (T.setTop g) ((B.U.setTop { g with stack := rest }).pushFrame (.throwing q))) := by
  obtain ⟨mk, hnamed⟩ := Cond.code_named hcode
  obtain ⟨methM, cM, hmethM, -, -, -, -, -, -, hsigM⟩ := Cond.code_spec hnamed hcode
  have hstatic : methM.isStatic = true := Cond.static_spec hnamed hmethM hstat
  obtain ⟨kP, hkP, -⟩ := className_of_methodNamed hnamed
  have hinitP : kP.init = .initialized := Cond.initialized_spec (findClass_of_methodNamed hnamed) hkP hinit
  obtain ⟨vm₁, X₁, hstep₁⟩ := X.invokestatic hexec hown hlink hnamed hmethM hstatic hkP hinitP hy (g := g) hg (argsL := argsL) (rest := rest) (hlen _ hsigM) hstack hdg
  rcases hK m meth c ⟨T.setVm vm₁, locs, cells, slots⟩ { g with stack := rest } (.invokestatic index) mk argsL.toArray X₁ hg hsize hdg hW (X₁.named hnamed) (hpre vm₁ X₁.warmed) with ⟨v, B, X', hpost, hsteps⟩ | ⟨q, B, X', hpost, hsteps⟩
  · exact Or.inl ⟨v, vm₁, B, X₁.warmed, X', hpost, fun target h => hstep₁ _ fun acts => by rw [doInvoke_state]; exact hsteps.trans h⟩
  · exact Or.inr ⟨q, vm₁, B, X₁.warmed, X', hpost, hstep₁ _ fun acts => by rw [doInvoke_state]; exact hsteps⟩
end Calls
theorem vx_cls {s : State} {T : State} {vm₁ : Vm} {E : String} {k : ClassId} (hW : s.WarmedH vm₁) (h : (T.setVm vm₁).vm.findClass E = some k) : s.vm.findClass E = some k := by
  have h1 : vm₁.findClass E = some k := h
  rw [hW.alike.findClass] at h1
  exact h1
/-- the method's frame g, with q thrown over it -/
def vx_W (p : Program) (l : Launch) (e : Env) (R : Room) (s : State) (m : MethodId) (args : Array Value) (below : List Frame) (meth : Method) (c : Code) (H : Heap) (locs : List Loc) (cells slots : Nat) (Q : State → Prop) (g : JFrame) (q : Addr) : Prop :=
  ∀ T : State, T.heap = H → Stand p l e R s m args below meth c T locs cells slots → ∃ t, Steps p.tables e below ((T.setTop g).pushFrame (.throwing q)) t ∧ Q t
def vx_Run (p : Program) (l : Launch) (e : Env) (R : Room) (s : State) (m : MethodId) (args : Array Value) (below : List Frame) (meth : Method) (c : Code) (H : Heap) (locs : List Loc) (cells slots mc ms : Nat) (g : JFrame) (rest : List Value) (Qa : State → Outcome → State → Prop) (XC : String → State → State → Prop) (free : Addr → Prop) : Prop :=
  ∀ T : State, T.heap = H → Stand p l e R s m args below meth c T locs cells slots →
    (∃ (v : Option Value) (st₀ t T' : State) (L : List Loc), st₀.heap = H ∧ Stand p l e R s m args below meth c T' (locs ++ L) (cells + mc) (slots + ms) ∧ (∀ q ∈ L, free q.base) ∧ T'.heap = t.heap ∧ T'.vm = t.vm ∧ Qa st₀ (.returned v) t ∧
      Goes p e below T g T' { g with pc := g.pc + 3, stack := v.toList ++ rest }) ∨
    (∃ (q : Addr) (st₀ t T' : State) (L : List Loc) (E : String) (ce : Cell), st₀.heap = H ∧ Stand p l e R s m args below meth c T' (locs ++ L) (cells + mc) (slots + ms) ∧ (∀ z ∈ L, free z.base) ∧ T'.heap = t.heap ∧ T'.vm = t.vm ∧ XC E st₀ t ∧ t.heap[q]? = some ce ∧ ce.vm = .none ∧ s.vm.findClass E = some ce.cls ∧
      Steps p.tables e below (T.setTop g) ((T'.setTop { g with stack := rest }).pushFrame (.throwing q)))
def vx_X {S : Type} (px : S → Prop) (B : String → S → State → Prop) (A : Nat → Prop) : String → State → State → Prop := fun E st t => ∃ u : S, px u ∧ B E u t ∧ va_F A st t
section Runs
variable {p : Program} {l : Launch} {e : Env} {R : Room} {s : State} {m : MethodId} {args : Array Value} {below : List Frame} {meth : Method} {c : Code} {H : Heap} {locs : List Loc} {cells slots : Nat}
variable {y : MethodName} {bytes cc : ByteArray} {maxL nL mc ms n index : Nat} {ret : Option FieldType} {ws : List Cond} {rm : Room} {Pc : Array Value → State → Prop} {Qc : Array Value → State → Outcome → State → Prop} {XC : String → State → State → Prop} {free : Addr → Prop} {Ts : List Cond} {own C : String} {b : Addr} {As rest : List Value} {g : JFrame}
theorem vx_callBack (cb : CallB R s args own index y bytes maxL ret ws rm mc ms n) (hM : vx_Met l y ws rm Pc Qc XC mc ms free) (hbl : FrameBlind Pc) : vx_Back l R p e below s args y 3 8 (PreOf R mc ms Pc) (PostOf Qc mc ms free) (vx_Post XC mc ms free) := by
  obtain ⟨hrc, hrs, hfr, hlo, hws, hcw, -, hini, -⟩ := cb
  exact vx_back (bytes := bytes) (maxL := maxL) (ret := ret) hM hbl hrc hrs hfr hlo hws hcw (fun a' U hW => word_at hW (Or.inl (by first | rfl | simp [Cond.onTables, Cond.keeps, Cond.steady])) hini)
theorem vx_runV (S : CallFix p m c cc nL s args Ts own) (hM : vx_Met l y ws rm Pc Qc XC mc ms free) (cw : CallW R s args own C index y bytes maxL ret ws rm mc ms n) (hp : PreV s H C b Pc As)
    (hg : g.method = m) (hn : As.length = n) (hsize : g.locals.size = nL) (hstack : g.stack = As.reverse ++ .ref b :: rest) (hW : 2 * g.monitorRoom + (rest.map fun v => v.category).sum ≤ 8) (hdg : decode cc g.pc = .ok (.invokevirtual index, 3)) (hf : cells + mc ≤ R.cells ∧ slots + ms ≤ R.slots) :
    vx_Run p l e R s m args below meth c H locs cells slots mc ms g rest (Qc (Value.ref b :: As).toArray) XC free := by
  have hK : vx_Back l R p e below s args y 3 8 (PreOf R mc ms Pc) (PostOf Qc mc ms free) (vx_Post XC mc ms free) := vx_callBack cw.1 hM hp.1
  obtain ⟨⟨-, -, -, -, -, -, hcode, -, hy, hlen, hl⟩, hin, hse⟩ := cw
  obtain ⟨hx, hb, hml, ho, -⟩ := S
  obtain ⟨-, ⟨cellB, hcB, hoB, hclB⟩, hPc⟩ := hp
  intro T hT X
  rcases vx_callV X hx (C := C) (bytes := bytes) (maxL := maxL) (ret := ret) ho hl hin hse hcode hy hK (by rw [hT]; exact hcB) hoB hclB hg (hsize.trans hml.symm) (argsL := As) (rest := rest) (fun sig h => hn.trans (hlen sig h)) hstack hW (by rw [hb]; exact hdg)
    (fun vm₁ hW₁ => ⟨hf.1, hf.2, hPc (T.setVm vm₁) hT hW₁⟩) with ⟨v, vm₁, ⟨U', l2, c2, s2⟩, hW₁, X', ⟨g', mk, t, L, e1, e2, hq, h1, hL, h2, h3⟩, st⟩ | ⟨q, vm₁, ⟨U', l2, c2, s2⟩, hW₁, X', ⟨g', mk, t, L, E, ce, e1, e2, hq, hce, hcv, hcl, h1, hL, h2, h3⟩, st⟩
  · dsimp only [Pt.U, Pt.locs, Pt.cells, Pt.slots] at X' e1 e2 h1 h2 h3 st
    subst h1; subst h2; subst h3
    exact Or.inl ⟨v, (T.setVm vm₁).calling g' mk (Value.ref b :: As).toArray, t, U', L, hT, X', hL, e1, e2, hq, st⟩
  · dsimp only [Pt.U, Pt.locs, Pt.cells, Pt.slots] at X' e1 e2 h1 h2 h3 st hcl
    subst h1; subst h2; subst h3
    exact Or.inr ⟨q, (T.setVm vm₁).calling g' mk (Value.ref b :: As).toArray, t, U', L, E, ce, hT, X', hL, e1, e2, hq, hce, hcv, vx_cls hW₁ hcl, st⟩
theorem vx_runS (S : CallFix p m c cc nL s args Ts own) (hM : vx_Met l y ws rm Pc Qc XC mc ms free) (cw : CallB R s args own index y bytes maxL ret ws rm mc ms n ∧ (Cond.static y).before args s = true) (hp : PreS s H Pc As)
    (hg : g.method = m) (hn : As.length = n) (hsize : g.locals.size = nL) (hstack : g.stack = As.reverse ++ rest) (hW : 2 * g.monitorRoom + (rest.map fun v => v.category).sum ≤ 8) (hdg : decode cc g.pc = .ok (.invokestatic index, 3)) (hf : cells + mc ≤ R.cells ∧ slots + ms ≤ R.slots) :
    vx_Run p l e R s m args below meth c H locs cells slots mc ms g rest (Qc As.toArray) XC free := by
  have hK : vx_Back l R p e below s args y 3 8 (PreOf R mc ms Pc) (PostOf Qc mc ms free) (vx_Post XC mc ms free) := vx_callBack cw.1 hM hp.1
  obtain ⟨⟨-, -, -, -, -, -, hcode, hini, hy, hlen, hl⟩, hstt⟩ := cw
  obtain ⟨hx, hb, hml, ho, -⟩ := S
  intro T hT X
  rcases vx_callS X hx (bytes := bytes) (maxL := maxL) (ret := ret) ho hl hstt hini hcode hy hK hg (hsize.trans hml.symm) (argsL := As) (rest := rest) (fun sig h => hn.trans (hlen sig h)) hstack hW (by rw [hb]; exact hdg)
    (fun vm₁ hW₁ => ⟨hf.1, hf.2, hp.2 (T.setVm vm₁) hT hW₁⟩) with ⟨v, vm₁, ⟨U', l2, c2, s2⟩, hW₁, X', ⟨g', mk, t, L, e1, e2, hq, h1, hL, h2, h3⟩, st⟩ | ⟨q, vm₁, ⟨U', l2, c2, s2⟩, hW₁, X', ⟨g', mk, t, L, E, ce, e1, e2, hq, hce, hcv, hcl, h1, hL, h2, h3⟩, st⟩
  · dsimp only [Pt.U, Pt.locs, Pt.cells, Pt.slots] at X' e1 e2 h1 h2 h3 st
    subst h1; subst h2; subst h3
    exact Or.inl ⟨v, (T.setVm vm₁).calling g' mk As.toArray, t, U', L, hT, X', hL, e1, e2, hq, st⟩
  · dsimp only [Pt.U, Pt.locs, Pt.cells, Pt.slots] at X' e1 e2 h1 h2 h3 st hcl
    subst h1; subst h2; subst h3
    exact Or.inr ⟨q, (T.setVm vm₁).calling g' mk As.toArray, t, U', L, E, ce, hT, X', hL, e1, e2, hq, hce, hcv, vx_cls hW₁ hcl, st⟩
end Runs
section Rows
variable {p : Program} {l : Launch} {e : Env} {R : Room} {s : State} {m : MethodId} {args : Array Value} {below : List Frame} {meth : Method} {c : Code} {H : Heap} {locs : List Loc} {cells slots : Nat} {Q : State → Prop}
variable {mc ms : Nat} {free : Addr → Prop} {A0 A1 : Nat → Prop} {H0 : Heap} {a : Array Value} {pc : Nat} {ls : Array Slot} {st0 rest : List Value}
theorem vx_keep {st₀ t T' : State} {L : List Loc} (h0 : st₀.heap = H) (e1 : T'.heap = t.heap) (hS : va_S A0 H0 H locs) (hA : ∀ q, q < H.size → A1 q → A0 q) (hf : ∀ q, free q → A0 q) (hL : ∀ q ∈ L, free q.base) (hF : va_F A1 st₀ t) :
    H.size ≤ T'.heap.size ∧ (∀ q : Nat, q < H.size → ¬ A1 q → T'.heap[q]? = H[q]?) ∧ va_S A0 H0 T'.heap (locs ++ L) := by
  obtain ⟨hz, hk⟩ := hF
  rw [h0] at hz hk
  exact ⟨by rw [e1]; exact hz, fun q h1 h2 => by rw [e1]; exact hk q h1 h2,
    ⟨Nat.le_trans hS.1 (by rw [e1]; exact hz), fun q h1 h2 => by rw [e1, hk q (Nat.lt_of_lt_of_le h1 hS.1) (fun z => h2 (hA q (Nat.lt_of_lt_of_le h1 hS.1) z))]; exact hS.2.1 q h1 h2, fun q hq => by
      rcases List.mem_append.mp hq with h | h
      · exact hS.2.2 q h
      · exact hf _ (hL q h)⟩⟩
theorem vx_calli {S SX : Type} {post : Int32 → S → Prop} {px : SX → Prop} {B : S → State → Prop} {BX : String → SX → State → Prop} {AX : Nat → Prop} (hr : vx_Run p l e R s m args below meth c H locs cells slots mc ms (F0 m pc ls st0) rest (va_Qi post B A1 a) (vx_X px BX AX) free) (hS : va_S A0 H0 H locs) (hA : ∀ q, q < H.size → A1 q → A0 q) (hf : ∀ q, free q → A0 q) (hAX : ∀ q, q < H.size → AX q → A0 q)
    (kx : ∀ (E : String) (ce : Cell) (q9 : Addr) (u : SX) (t : State) (H1 : Heap) (locs1 : List Loc), t.heap = H1 → s.vm.Alike t.vm → px u → BX E u t → H.size ≤ H1.size → (∀ q : Nat, q < H.size → ¬ AX q → H1[q]? = H[q]?) → va_S A0 H0 H1 locs1 → H1[q9]? = some ce → ce.vm = .none → s.vm.findClass E = some ce.cls → vx_W p l e R s m args below meth c H1 locs1 (cells + mc) (slots + ms) Q (F0 m pc ls rest) q9)
    (kk : ∀ (r : Int32) (u : S) (t : State) (H1 : Heap) (locs1 : List Loc), t.heap = H1 → s.vm.Alike t.vm → post r u → B u t → H.size ≤ H1.size → (∀ q : Nat, q < H.size → ¬ A1 q → H1[q]? = H[q]?) → va_S A0 H0 H1 locs1 → W p l e R s m args below meth c H1 locs1 (cells + mc) (slots + ms) Q (F0 m (pc + 3) ls (.int r :: rest))) : W p l e R s m args below meth c H locs cells slots Q (F0 m pc ls st0) := by
  intro T hT X
  rcases hr T hT X with ⟨v, st₀, t, T', L, h0, X', hL, e1, e2, ⟨⟨r, u, hv, hp, hb⟩, hF⟩, st⟩ | ⟨q, st₀, t, T', L, E, ce, h0, X', hL, e1, e2, ⟨u, hp, hb, hF⟩, hce, hcv, hcl, st⟩
  · cases hv
    obtain ⟨k1, k2, k3⟩ := vx_keep h0 e1 hS hA hf hL hF
    obtain ⟨t2, a1, b1⟩ := kk r u t T'.heap (locs ++ L) e1.symm (by rw [← e2]; exact X'.warmed.alike) hp hb k1 k2 k3 T' rfl X'
    exact ⟨t2, st t2 a1, b1⟩
  · obtain ⟨k1, k2, k3⟩ := vx_keep h0 e1 hS hAX hf hL hF
    obtain ⟨t2, a1, b1⟩ := kx E ce q u t T'.heap (locs ++ L) e1.symm (by rw [← e2]; exact X'.warmed.alike) hp hb k1 k2 k3 (by rw [e1]; exact hce) hcv hcl T' rfl X'
    exact ⟨t2, st.trans a1, b1⟩
theorem vx_calll {S SX : Type} {post : Int64 → S → Prop} {px : SX → Prop} {B : S → State → Prop} {BX : String → SX → State → Prop} {AX : Nat → Prop} (hr : vx_Run p l e R s m args below meth c H locs cells slots mc ms (F0 m pc ls st0) rest (va_Ql post B A1 a) (vx_X px BX AX) free) (hS : va_S A0 H0 H locs) (hA : ∀ q, q < H.size → A1 q → A0 q) (hf : ∀ q, free q → A0 q) (hAX : ∀ q, q < H.size → AX q → A0 q)
    (kx : ∀ (E : String) (ce : Cell) (q9 : Addr) (u : SX) (t : State) (H1 : Heap) (locs1 : List Loc), t.heap = H1 → s.vm.Alike t.vm → px u → BX E u t → H.size ≤ H1.size → (∀ q : Nat, q < H.size → ¬ AX q → H1[q]? = H[q]?) → va_S A0 H0 H1 locs1 → H1[q9]? = some ce → ce.vm = .none → s.vm.findClass E = some ce.cls → vx_W p l e R s m args below meth c H1 locs1 (cells + mc) (slots + ms) Q (F0 m pc ls rest) q9)
    (kk : ∀ (r : Int64) (u : S) (t : State) (H1 : Heap) (locs1 : List Loc), t.heap = H1 → s.vm.Alike t.vm → post r u → B u t → H.size ≤ H1.size → (∀ q : Nat, q < H.size → ¬ A1 q → H1[q]? = H[q]?) → va_S A0 H0 H1 locs1 → W p l e R s m args below meth c H1 locs1 (cells + mc) (slots + ms) Q (F0 m (pc + 3) ls (.long r :: rest))) : W p l e R s m args below meth c H locs cells slots Q (F0 m pc ls st0) := by
  intro T hT X
  rcases hr T hT X with ⟨v, st₀, t, T', L, h0, X', hL, e1, e2, ⟨⟨r, u, hv, hp, hb⟩, hF⟩, st⟩ | ⟨q, st₀, t, T', L, E, ce, h0, X', hL, e1, e2, ⟨u, hp, hb, hF⟩, hce, hcv, hcl, st⟩
  · cases hv
    obtain ⟨k1, k2, k3⟩ := vx_keep h0 e1 hS hA hf hL hF
    obtain ⟨t2, a1, b1⟩ := kk r u t T'.heap (locs ++ L) e1.symm (by rw [← e2]; exact X'.warmed.alike) hp hb k1 k2 k3 T' rfl X'
    exact ⟨t2, st t2 a1, b1⟩
  · obtain ⟨k1, k2, k3⟩ := vx_keep h0 e1 hS hAX hf hL hF
    obtain ⟨t2, a1, b1⟩ := kx E ce q u t T'.heap (locs ++ L) e1.symm (by rw [← e2]; exact X'.warmed.alike) hp hb k1 k2 k3 (by rw [e1]; exact hce) hcv hcl T' rfl X'
    exact ⟨t2, st.trans a1, b1⟩
theorem vx_callf {S SX : Type} {post : UInt32 → S → Prop} {px : SX → Prop} {B : S → State → Prop} {BX : String → SX → State → Prop} {AX : Nat → Prop} (hr : vx_Run p l e R s m args below meth c H locs cells slots mc ms (F0 m pc ls st0) rest (va_Qf post B A1 a) (vx_X px BX AX) free) (hS : va_S A0 H0 H locs) (hA : ∀ q, q < H.size → A1 q → A0 q) (hf : ∀ q, free q → A0 q) (hAX : ∀ q, q < H.size → AX q → A0 q)
    (kx : ∀ (E : String) (ce : Cell) (q9 : Addr) (u : SX) (t : State) (H1 : Heap) (locs1 : List Loc), t.heap = H1 → s.vm.Alike t.vm → px u → BX E u t → H.size ≤ H1.size → (∀ q : Nat, q < H.size → ¬ AX q → H1[q]? = H[q]?) → va_S A0 H0 H1 locs1 → H1[q9]? = some ce → ce.vm = .none → s.vm.findClass E = some ce.cls → vx_W p l e R s m args below meth c H1 locs1 (cells + mc) (slots + ms) Q (F0 m pc ls rest) q9)
    (kk : ∀ (r : UInt32) (u : S) (t : State) (H1 : Heap) (locs1 : List Loc), t.heap = H1 → s.vm.Alike t.vm → post r u → B u t → H.size ≤ H1.size → (∀ q : Nat, q < H.size → ¬ A1 q → H1[q]? = H[q]?) → va_S A0 H0 H1 locs1 → W p l e R s m args below meth c H1 locs1 (cells + mc) (slots + ms) Q (F0 m (pc + 3) ls (.float r :: rest))) : W p l e R s m args below meth c H locs cells slots Q (F0 m pc ls st0) := by
  intro T hT X
  rcases hr T hT X with ⟨v, st₀, t, T', L, h0, X', hL, e1, e2, ⟨⟨r, u, hv, hp, hb⟩, hF⟩, st⟩ | ⟨q, st₀, t, T', L, E, ce, h0, X', hL, e1, e2, ⟨u, hp, hb, hF⟩, hce, hcv, hcl, st⟩
  · cases hv
    obtain ⟨k1, k2, k3⟩ := vx_keep h0 e1 hS hA hf hL hF
    obtain ⟨t2, a1, b1⟩ := kk r u t T'.heap (locs ++ L) e1.symm (by rw [← e2]; exact X'.warmed.alike) hp hb k1 k2 k3 T' rfl X'
    exact ⟨t2, st t2 a1, b1⟩
  · obtain ⟨k1, k2, k3⟩ := vx_keep h0 e1 hS hAX hf hL hF
    obtain ⟨t2, a1, b1⟩ := kx E ce q u t T'.heap (locs ++ L) e1.symm (by rw [← e2]; exact X'.warmed.alike) hp hb k1 k2 k3 (by rw [e1]; exact hce) hcv hcl T' rfl X'
    exact ⟨t2, st.trans a1, b1⟩
theorem vx_calld {S SX : Type} {post : UInt64 → S → Prop} {px : SX → Prop} {B : S → State → Prop} {BX : String → SX → State → Prop} {AX : Nat → Prop} (hr : vx_Run p l e R s m args below meth c H locs cells slots mc ms (F0 m pc ls st0) rest (va_Qd post B A1 a) (vx_X px BX AX) free) (hS : va_S A0 H0 H locs) (hA : ∀ q, q < H.size → A1 q → A0 q) (hf : ∀ q, free q → A0 q) (hAX : ∀ q, q < H.size → AX q → A0 q)
    (kx : ∀ (E : String) (ce : Cell) (q9 : Addr) (u : SX) (t : State) (H1 : Heap) (locs1 : List Loc), t.heap = H1 → s.vm.Alike t.vm → px u → BX E u t → H.size ≤ H1.size → (∀ q : Nat, q < H.size → ¬ AX q → H1[q]? = H[q]?) → va_S A0 H0 H1 locs1 → H1[q9]? = some ce → ce.vm = .none → s.vm.findClass E = some ce.cls → vx_W p l e R s m args below meth c H1 locs1 (cells + mc) (slots + ms) Q (F0 m pc ls rest) q9)
    (kk : ∀ (r : UInt64) (u : S) (t : State) (H1 : Heap) (locs1 : List Loc), t.heap = H1 → s.vm.Alike t.vm → post r u → B u t → H.size ≤ H1.size → (∀ q : Nat, q < H.size → ¬ A1 q → H1[q]? = H[q]?) → va_S A0 H0 H1 locs1 → W p l e R s m args below meth c H1 locs1 (cells + mc) (slots + ms) Q (F0 m (pc + 3) ls (.double r :: rest))) : W p l e R s m args below meth c H locs cells slots Q (F0 m pc ls st0) := by
  intro T hT X
  rcases hr T hT X with ⟨v, st₀, t, T', L, h0, X', hL, e1, e2, ⟨⟨r, u, hv, hp, hb⟩, hF⟩, st⟩ | ⟨q, st₀, t, T', L, E, ce, h0, X', hL, e1, e2, ⟨u, hp, hb, hF⟩, hce, hcv, hcl, st⟩
  · cases hv
    obtain ⟨k1, k2, k3⟩ := vx_keep h0 e1 hS hA hf hL hF
    obtain ⟨t2, a1, b1⟩ := kk r u t T'.heap (locs ++ L) e1.symm (by rw [← e2]; exact X'.warmed.alike) hp hb k1 k2 k3 T' rfl X'
    exact ⟨t2, st t2 a1, b1⟩
  · obtain ⟨k1, k2, k3⟩ := vx_keep h0 e1 hS hAX hf hL hF
    obtain ⟨t2, a1, b1⟩ := kx E ce q u t T'.heap (locs ++ L) e1.symm (by rw [← e2]; exact X'.warmed.alike) hp hb k1 k2 k3 (by rw [e1]; exact hce) hcv hcl T' rfl X'
    exact ⟨t2, st.trans a1, b1⟩
theorem vx_callv {S SX : Type} {post : S → Prop} {px : SX → Prop} {B : S → State → Prop} {BX : String → SX → State → Prop} {AX : Nat → Prop} (hr : vx_Run p l e R s m args below meth c H locs cells slots mc ms (F0 m pc ls st0) rest (va_Qv post B A1 a) (vx_X px BX AX) free) (hS : va_S A0 H0 H locs) (hA : ∀ q, q < H.size → A1 q → A0 q) (hf : ∀ q, free q → A0 q) (hAX : ∀ q, q < H.size → AX q → A0 q)
    (kx : ∀ (E : String) (ce : Cell) (q9 : Addr) (u : SX) (t : State) (H1 : Heap) (locs1 : List Loc), t.heap = H1 → s.vm.Alike t.vm → px u → BX E u t → H.size ≤ H1.size → (∀ q : Nat, q < H.size → ¬ AX q → H1[q]? = H[q]?) → va_S A0 H0 H1 locs1 → H1[q9]? = some ce → ce.vm = .none → s.vm.findClass E = some ce.cls → vx_W p l e R s m args below meth c H1 locs1 (cells + mc) (slots + ms) Q (F0 m pc ls rest) q9)
    (kk : ∀ (u : S) (t : State) (H1 : Heap) (locs1 : List Loc), t.heap = H1 → s.vm.Alike t.vm → post u → B u t → H.size ≤ H1.size → (∀ q : Nat, q < H.size → ¬ A1 q → H1[q]? = H[q]?) → va_S A0 H0 H1 locs1 → W p l e R s m args below meth c H1 locs1 (cells + mc) (slots + ms) Q (F0 m (pc + 3) ls (rest))) : W p l e R s m args below meth c H locs cells slots Q (F0 m pc ls st0) := by
  intro T hT X
  rcases hr T hT X with ⟨v, st₀, t, T', L, h0, X', hL, e1, e2, ⟨⟨u, hv, hp, hb⟩, hF⟩, st⟩ | ⟨q, st₀, t, T', L, E, ce, h0, X', hL, e1, e2, ⟨u, hp, hb, hF⟩, hce, hcv, hcl, st⟩
  · cases hv
    obtain ⟨k1, k2, k3⟩ := vx_keep h0 e1 hS hA hf hL hF
    obtain ⟨t2, a1, b1⟩ := kk u t T'.heap (locs ++ L) e1.symm (by rw [← e2]; exact X'.warmed.alike) hp hb k1 k2 k3 T' rfl X'
    exact ⟨t2, st t2 a1, b1⟩
  · obtain ⟨k1, k2, k3⟩ := vx_keep h0 e1 hS hAX hf hL hF
    obtain ⟨t2, a1, b1⟩ := kx E ce q u t T'.heap (locs ++ L) e1.symm (by rw [← e2]; exact X'.warmed.alike) hp hb k1 k2 k3 (by rw [e1]; exact hce) hcv hcl T' rfl X'
    exact ⟨t2, st.trans a1, b1⟩
/-- caught by the row x of this method's table; the rows ahead don't take it -/
theorem vx_catch {own name : String} {E : String} {ce : Cell} {q : Addr} (hown : s.vm.findClass own = some m.cls) (pre : List ExceptionTableEntry) (x : ExceptionTableEntry) (suf : List ExceptionTableEntry) (hsplit : c.exceptionTable.toList = pre ++ x :: suf)
    (hpass : ∀ z ∈ pre, covers z pc = false ∨ (z.catchType ≠ 0 ∧ ∃ nm : String, (Cond.classLink own z.catchType nm).before args s = true ∧ va_Nc E nm s)) (hx : covers x pc = true) (h0 : x.catchType ≠ 0)
    (hlink : (Cond.classLink own x.catchType name).before args s = true) (hcast : (Cond.castable E name).before args s = true) (hcell : H[q]? = some ce) (hv : ce.vm = .none) (hcl : s.vm.findClass E = some ce.cls)
    (kk : W p l e R s m args below meth c H locs cells slots Q (F0 m x.handlerPc ls [.ref q])) : vx_W p l e R s m args below meth c H locs cells slots Q (F0 m pc ls rest) q := by
  intro T hT X
  have hpl : e.platform.magicAccessors = ({} : Platform).magicAccessors := by rw [X.admits.platform]
  obtain ⟨c3, c4, hc3, hc4, hasg⟩ := Cond.castable_spec hcast
  cases Option.some.inj (hc3.symm.trans hcl)
  obtain ⟨c5, hc5, hcl5⟩ := Cond.classLink_spec hown hlink e.platform hpl
  cases Option.some.inj (hc4.symm.trans hc5)
  obtain ⟨vm', X', st⟩ := X.thenCaughtThrough q (g := F0 m pc ls rest) rfl (Steps.refl _) (by rw [hT]; exact hcell) (by rw [hv]; rfl) (by obtain ⟨k9, h9, -⟩ := Vm.findClass_spec hcl; exact ⟨k9, h9⟩) pre x suf hsplit
    (fun z hz => by
      rcases hpass z hz with h | ⟨hz0, nm, hl1, hn1⟩
      · exact Or.inl h
      · obtain ⟨c6, hc6, hcl6⟩ := Cond.classLink_spec hown hl1 e.platform hpl
        obtain ⟨a8, b8, h1, h2, h3⟩ := hn1
        cases Option.some.inj (h1.symm.trans hcl)
        cases Option.some.inj (h2.symm.trans hc6)
        exact Or.inr ⟨hz0, _, hcl6, h3⟩) hx (Or.inr ⟨h0, c4, hcl5, hasg⟩)
  obtain ⟨t, a1, b1⟩ := kk (T.setVm vm') hT X'
  exact ⟨t, st.trans a1, b1⟩
end Rows
section Ends
variable {p : Program} {l : Launch} {e : Env} {R : Room} {s : State} {m : MethodId} {args : Array Value} {below : List Frame} {meth : Method} {c : Code} {H : Heap} {locs : List Loc} {cells slots : Nat} {Q : State → Prop}
variable {mc ms : Nat} {free : Addr → Prop} {A0 A1 : Nat → Prop} {H0 : Heap} {a : Array Value} {ls : Array Slot} {st0 rest : List Value}
variable {Qc : Array Value → State → Outcome → State → Prop} {XC : String → State → State → Prop}
/-- what a body that may throw owes at its end -/
def vx_MQ (below : List Frame) (Qc : Array Value → State → Outcome → State → Prop) (XC : String → State → State → Prop) (a : Array Value) (s : State) (mc ms : Nat) (free : Addr → Prop) : State → Prop := fun t =>
  ∃ o, t.status = .running ∧ Ended t below o ∧ vx_Q Qc XC mc ms free a s o t
theorem vx_ret {g : JFrame} {mc ms : Nat} (k : W p l e R s m args below meth c H locs cells slots (MQ below Qc args s mc ms free) g) : W p l e R s m args below meth c H locs cells slots (vx_MQ below Qc XC args s mc ms free) g := by
  intro T hT X
  obtain ⟨t, a1, o, b1, b2, b3, b4⟩ := k T hT X
  exact ⟨t, a1, o, b1, b2, Or.inl ⟨b3, b4⟩⟩
/-- not caught here: it goes on to the caller -/
theorem vx_widen {g : JFrame} {q : Addr} {k n : Nat} (h1 : cells ≤ k) (h2 : slots ≤ n) (kk : vx_W p l e R s m args below meth c H locs k n Q g q) : vx_W p l e R s m args below meth c H locs cells slots Q g q := fun T hT X => kk T hT (stand_widen X h1 h2)
theorem vx_out {pc : Nat} {E : String} {ce : Cell} {q : Addr} {mc ms : Nat} (hout : ∀ x ∈ c.exceptionTable.toList, covers x pc = false) (hlocks : meth.locks = false) (hcell : H[q]? = some ce) (hv : ce.vm = .none) (hcl : s.vm.findClass E = some ce.cls)
    (hx : ∀ t : State, t.heap = H → s.vm.Alike t.vm → XC E s t) (hf : ∀ z ∈ locs, free z.base) (hc : cells ≤ mc) (hs : slots ≤ ms) :
    vx_W p l e R s m args below meth c H locs cells slots (vx_MQ below Qc XC args s mc ms free) (F0 m pc ls rest) q := by
  intro T hT X
  obtain ⟨st1, hrun, hend, hW, hsm⟩ := X.leaveThrown q (g := F0 m pc ls rest) rfl rfl rfl hout hlocks
  have hcell9 : (T.setFrames (.throwing q :: below)).heap[q]? = some ce := by
    show T.heap[q]? = some ce
    rw [hT]; exact hcell
  exact ⟨_, st1, .threw q, hrun, hend, Or.inr ⟨q, rfl, E, ce, locs, hx _ hT hW.alike, hcell9, hv, hcl, hW, hsm.mono hc hs, hf⟩⟩
theorem vx_frame {U : State} {k n : Nat} (h : s.sameButNew ({ U with vm := s.vm } : State) locs k n) : s.heap.size ≤ U.heap.size ∧ ∀ q : Nat, q < s.heap.size → (∀ z ∈ locs, z.base ≠ q) → U.heap[q]? = s.heap[q]? := by
  obtain ⟨-, h2, -, -, -, h6⟩ := h
  refine ⟨h2, fun q hq hz => ?_⟩
  obtain ⟨c9, e1, e2, e3, e4⟩ := h6 q _ (Array.getElem?_eq_getElem hq)
  have hs : c9.slots = (s.heap[q]).slots := Array.ext_getElem? fun i => e4 i fun hm => hz _ hm rfl
  have h9 : c9 = s.heap[q] := by
    rw [hs] at e2
    exact e2
  have e5 : U.heap[q]? = some c9 := e1
  rw [e5, h9, Array.getElem?_eq_getElem hq]
/-- the words of a throw but the four that speak of the heap -/
def vx_no (w : Cond) : Bool := decide (w ≠ .isRef (.static Bundle.tN "UNASSIGNED_STACK" Bundle.steD)) && decide (w ≠ .isRef (.static Bundle.tN "SUPPRESSED_SENTINEL" Bundle.listD)) && decide (w ≠ .laysStatic Bundle.tN "UNASSIGNED_STACK" Bundle.steD) && decide (w ≠ .laysStatic Bundle.tN "SUPPRESSED_SENTINEL" Bundle.listD)
def vx_at0 (own : String) (ic : Nat) (X : String) (names : List String) : List Cond := (Bundle.ownAtoms0 own ic X names).filter vx_no
def vx_atS (own : String) (ic : Nat) (X : String) (names : List String) : List Cond := (Bundle.ownAtoms own ic X names).filter vx_no
/-- a word that the tables alone decide, or a good one -/
def vx_ot (w : Cond) : Bool := w.onTables || goodWord w
theorem vx_ot_at {args a' : Array Value} {s U : State} {w : Cond} (hW : s.WarmedH U.vm) (hvm : s.vm = U.vm) (hg : vx_ot w = true) (h : w.before args s = true) : w.before a' U = true := by
  simp only [vx_ot, Bool.or_eq_true] at hg
  rcases hg with hg | hg
  · exact va_tabs hg hvm h
  · exact word_at hW (good_of_word hg) h
/-- a list's words: the good ones out of the method's own list, the others by premises of their own -/
theorem vx_hat {args : Array Value} {s : State} {L B : List Cond} (h1 : ∀ w ∈ L.filter goodWord, w.before args s = true) (h2 : ∀ w ∈ L.filter (fun w => !goodWord w), w ∈ B) (h3 : ∀ w ∈ B, w.before args s = true) : ∀ w ∈ L, w.before args s = true := by
  intro w hw
  by_cases g : goodWord w = true
  · exact h1 w (List.mem_filter.mpr ⟨hw, g⟩)
  · refine h3 w (h2 w (List.mem_filter.mpr ⟨hw, ?_⟩))
    show (!goodWord w) = true
    cases hgw : goodWord w
    · rfl
    · exact absurd hgw g
theorem vx_c {args : Array Value} {s : State} {w : Cond} {B : List Cond} (h : w.before args s = true) (t : ∀ w ∈ B, w.before args s = true) : ∀ w' ∈ w :: B, w'.before args s = true := fun w' h' => (List.mem_cons.mp h').elim (fun e => by rw [e]; exact h) (t w')
theorem vx_n {args : Array Value} {s : State} : ∀ w ∈ ([] : List Cond), w.before args s = true := fun _ h => nomatch h
theorem vx_own {args : Array Value} {s : State} {L : List Cond} (h1 : ∀ w ∈ L.filter vx_no, w.before args s = true)
    (hU : (Cond.isRef (.static Bundle.tN "UNASSIGNED_STACK" Bundle.steD)).before args s = true) (hN : (Cond.isRef (.static Bundle.tN "SUPPRESSED_SENTINEL" Bundle.listD)).before args s = true)
    (lU : (Cond.laysStatic Bundle.tN "UNASSIGNED_STACK" Bundle.steD).before args s = true) (lN : (Cond.laysStatic Bundle.tN "SUPPRESSED_SENTINEL" Bundle.listD).before args s = true) : ∀ w ∈ L, w.before args s = true := by
  intro w hw
  by_cases e1 : w = .isRef (.static Bundle.tN "UNASSIGNED_STACK" Bundle.steD)
  · rw [e1]; exact hU
  · by_cases e2 : w = .isRef (.static Bundle.tN "SUPPRESSED_SENTINEL" Bundle.listD)
    · rw [e2]; exact hN
    · by_cases e3 : w = .laysStatic Bundle.tN "UNASSIGNED_STACK" Bundle.steD
      · rw [e3]; exact lU
      · by_cases e4 : w = .laysStatic Bundle.tN "SUPPRESSED_SENTINEL" Bundle.listD
        · rw [e4]; exact lN
        · exact h1 w (List.mem_filter.mpr ⟨hw, by unfold vx_no; rw [decide_eq_true e1, decide_eq_true e2, decide_eq_true e3, decide_eq_true e4]; rfl⟩)
/-- where a static field lies, its class's statics cell in H -/
def vx_L (C n d : String) (A : Nat → Prop) (U : State) (H : Heap) : Prop := ∃ (c : ClassId) (k : Class) (i : Nat) (f : Field) (a : Nat) (cell : Cell), U.vm.findClass C = some c ∧ U.fieldFound? C n d = some (c, k, i, f) ∧ f.isStatic = true ∧ k.statics = some a ∧ H[a]? = some cell ∧ cell.vm.isStatics = true ∧ cell.cls = c ∧ f.slot < cell.slots.size ∧ k.staticTypes[f.slot]? = some f.type ∧ ¬ A a
theorem vx_L.moved {C n d : String} {A : Nat → Prop} {u U : State} {H : Heap} (hvm : u.vm.Alike U.vm) (h : vx_L C n d A u H) : vx_L C n d A U H := by
  obtain ⟨c, k, i, f, a, cell, h1, h2, h3, h4, h5, h6, h7, h8, h9, h10⟩ := h
  obtain ⟨k', hi', he⟩ := State.fieldFound?_setVm hvm h2
  exact ⟨c, k', i, f, a, cell, by rw [hvm.findClass]; exact h1, hi', h3, by rw [he]; exact h4, h5, h6, h7, h8, by rw [he]; exact h9, h10⟩
theorem vx_L.kept {C n d : String} {A : Nat → Prop} {U : State} {H H1 : Heap} (h : vx_L C n d A U H) (hq : ∀ a : Nat, a < H.size → ¬ A a → H1[a]? = H[a]?) : vx_L C n d A U H1 := by
  obtain ⟨c, k, i, f, a, cell, h1, h2, h3, h4, h5, h6, h7, h8, h9, h10⟩ := h
  exact ⟨c, k, i, f, a, cell, h1, h2, h3, h4, by rw [hq a (Array.getElem?_eq_some_iff.mp h5).1 h10]; exact h5, h6, h7, h8, h9, h10⟩
theorem vx_L.narrow {C n d : String} {A B : Nat → Prop} {U : State} {H : Heap} (h : vx_L C n d A U H) (hAB : ∀ q, B q → A q) : vx_L C n d B U H := by
  obtain ⟨c, k, i, f, a, cell, h1, h2, h3, h4, h5, h6, h7, h8, h9, h10⟩ := h
  exact ⟨c, k, i, f, a, cell, h1, h2, h3, h4, h5, h6, h7, h8, h9, fun z => h10 (hAB _ z)⟩
theorem vx_L.word {C n d : String} {A : Nat → Prop} {s : State} {args : Array Value} (h : vx_L C n d A s s.heap) : (Cond.laysStatic C n d).before args s = true := by
  obtain ⟨c, k, i, f, a, cell, h1, h2, h3, h4, h5, h6, h7, h8, h9, -⟩ := h
  show (Cond.laysStatic C n d).holds args s none s [] = true
  exact Cond.laysStatic_of h1 h2 h3 h4 h5 h6 h7 h8 h9
/-- .. and what it holds: null or some reference -/
def vx_Zq (C n d : String) (A : Nat → Prop) (U : State) (H : Heap) : Prop := va_Zq C n d A U H ∧ vx_L C n d A U H
theorem vx_Zq.moved {C n d : String} {A : Nat → Prop} {u U : State} {H : Heap} (hvm : u.vm.Alike U.vm) (h : vx_Zq C n d A u H) : vx_Zq C n d A U H := ⟨va_Zq.moved hvm h.1, vx_L.moved hvm h.2⟩
theorem vx_Zq.kept {C n d : String} {A : Nat → Prop} {U : State} {H H1 : Heap} (h : vx_Zq C n d A U H) (hq : ∀ a : Nat, a < H.size → ¬ A a → H1[a]? = H[a]?) : vx_Zq C n d A U H1 := ⟨va_Zq.kept h.1 hq, vx_L.kept h.2 hq⟩
theorem vx_Zq.narrow {C n d : String} {A B : Nat → Prop} {U : State} {H : Heap} (h : vx_Zq C n d A U H) (hAB : ∀ q, B q → A q) : vx_Zq C n d B U H := ⟨va_Zq.narrow h.1 hAB, vx_L.narrow h.2 hAB⟩
theorem vx_Zqof {args : Array Value} {s : State} {C n d : String} {A : Nat → Prop} (hl : (Cond.laysStatic C n d).before args s = true) (hini : (Cond.initialized C).before args s = true) (h : (Cond.isRef (.static C n d)).before args s = true) (hA : ∀ a : Nat, a < s.heap.size → ¬ A a) : vx_Zq C n d A s s.heap := by
  refine ⟨va_Zqof hl hini h hA, ?_⟩
  obtain ⟨c, k, i, f, a, cell, h1, h2, h3, h4, h5, h6, h7, h8, h9⟩ := Cond.laysStatic_spec hl
  exact ⟨c, k, i, f, a, cell, h1, h2, h3, h4, h5, h6, h7, h8, h9, hA a (Array.getElem?_eq_some_iff.mp h5).1⟩
theorem vx_isRef {C n d : String} {v : Value} {A : Nat → Prop} {s : State} {args : Array Value} (h : va_Z C n d v A s s.heap) (hv : v.isRef = true) : (Cond.isRef (.static C n d)).before args s = true := by
  obtain ⟨cf, kf, fi, f, a, cell, h1, h2, h3, h4, h5, h6, h7, -⟩ := h
  have he : (Term.static C n d).eval args s none [] s = some v := by
    simp [Term.eval, State.fieldNamed?, h1, h2, h4, h5, h6, h7]
  simp only [Cond.before, Cond.holds, Cond.value, he]
  cases v <;> simp_all [Value.isRef]
theorem vx_isRefq {C n d : String} {A : Nat → Prop} {s : State} {args : Array Value} (h : va_Zq C n d A s s.heap) : (Cond.isRef (.static C n d)).before args s = true := by
  rcases h with h | ⟨t, h⟩
  · exact vx_isRef h rfl
  · exact vx_isRef h rfl
/-- the same frame, seen from here: as if the method were called anew in this heap -/
theorem vx_rebase {T : State} (X : Stand p l e R s m args below meth c T locs cells slots) {R' : Room} (hf : R'.frames ≤ R.frames) (hl : R'.locals ≤ R.locals) (hc : cells + R'.cells ≤ R.cells) (hs : slots + R'.slots ≤ R.slots) :
    Stand p l e R' ((T.setVm s.vm).setFrames (.invoking m args :: below)) m args below meth c T [] 0 0 := by
  have htop : (T.setVm s.vm).topJava?.isSome := X.here.top
  have hF : ((T.setVm s.vm).setFrames (.invoking m args :: below)).frames = .invoking m args :: below := State.frames_setFrames _ (State.cur_lt_of_top htop)
  obtain ⟨g₀, hg0⟩ := Option.isSome_iff_exists.mp htop
  obtain ⟨r, hr⟩ := State.topJava?_eq_some.mp hg0
  have hl9 : e.platform.stackLimits (T.setVm s.vm).me = e.platform.stackLimits s.me := X.limits
  have hb9 : (T.setVm s.vm).me.stackBytes = s.me.stackBytes := X.bytes
  refine ⟨X.admits, X.cas, X.clock, hF, ?_, X.hears, X.method, X.code, X.here, X.tail, X.warmed, ?_, ?_, ?_⟩
  · have h := X.room
    have hU : ((T.setVm s.vm).setFrames (.invoking m args :: below)).localsInUse = s.localsInUse := by
      rw [State.localsInUse_invoking hF (meth := meth) (c := c) X.method X.code, State.localsInUse_invoking X.frames X.method X.code]
    simp only [State.hasRoom, Bool.and_eq_true, decide_eq_true_eq] at h ⊢
    obtain ⟨⟨⟨⟨h1, h2, h3, h4, h5, h6⟩, h7⟩, h8⟩, h9⟩ := h
    rw [X.frames, List.length_cons] at h2 h3
    have q1 := X.heapSize
    have q2 := X.used
    simp only [hF, hU, List.length_cons, State.stackLimits_setFrames, State.stackBytes_setFrames, hl9, hb9]
    refine ⟨⟨⟨⟨by omega, by omega, by omega, by omega, by omega, h6⟩, ?_⟩, ?_⟩, X.book⟩
    · show T.heap.size + R'.cells ≤ e.platform.maxCells
      omega
    · show T.slotsUsed + R'.slots ≤ e.platform.maxSlots
      omega
  · rw [State.stackLimits_setFrames]; rfl
  · rw [State.stackBytes_setFrames]; rfl
  · refine ⟨?_, Nat.le_refl _, Nat.le_refl _, ?_, ?_, fun a c9 h9 => ⟨c9, h9, rfl, rfl, fun _ _ => rfl⟩⟩
    · obtain ⟨t, ht, -⟩ := State.frames_cons hr
      show T.setVm s.vm = { ((T.setVm s.vm).setFrames (.invoking m args :: below)).setFrames (T.setVm s.vm).frames with heap := T.heap, slotsUsed := T.slotsUsed }
      rw [State.setFrames_setFrames, State.setFrames_self ht]
      rfl
    · show T.slotsUsed = T.slotsUsed + ((T.heap.toList.drop T.heap.size).map (·.slots.size)).sum
      rw [List.drop_eq_nil_of_le (Nat.le_of_eq Array.length_toList)]
      rfl
    · show ((T.heap.toList.drop T.heap.size).map (·.slots.size)).sum ≤ 0
      rw [List.drop_eq_nil_of_le (Nat.le_of_eq Array.length_toList)]
      exact Nat.le_refl _
/-- 'throw new E()': new; dup; invokespecial; athrow -/
theorem vx_throw0 {cc : ByteArray} {pc : Nat} (hexec : p.tables.exec = Jvm.exec) (hb : c.code = cc) (hl : l.stackTraces = false) {own cls : String} {names : List String} {ik ic mc ms : Nat} {A : Nat → Prop}
    (hown : s.vm.findClass own = some m.cls) (hcls : Bundle.fit cls = true) (hnames : ∀ n ∈ names, Bundle.fit n = true)
    (hk : (Cond.classLink own ik cls).before args s = true) (hini : (Cond.initialized cls).before args s = true) (hat : ∀ w ∈ vx_at0 own ic cls names, w.before args s = true)
    (hgood : ∀ w ∈ Cond.classLink own ik cls :: Cond.initialized cls :: vx_at0 own ic cls names, vx_ot w = true)
    (hU : vx_Zq Bundle.tN "UNASSIGNED_STACK" Bundle.steD A s s.heap) (hN : vx_Zq Bundle.tN "SUPPRESSED_SENTINEL" Bundle.listD A s s.heap) (hS : va_S A s.heap H locs) (hsize : ls.size = c.maxLocals)
    (d0 : decode cc pc = .ok (.new ik, 3)) (d3 : decode cc (pc + 3) = .ok (.dup, 1)) (d4 : decode cc (pc + 4) = .ok (.invokespecial ic, 3)) (d7 : decode cc (pc + 7) = .ok (.athrow, 1))
    (hout : ∀ x ∈ c.exceptionTable.toList, covers x (pc + 7) = false)
    (hRframes : names.length + 3 < R.frames) (hRlocals : (rest.map fun v => v.category).sum + (13 * (names.length + 1) + 42) ≤ R.locals) (hRcells : cells + 1 ≤ R.cells) (hRslots : slots + 6 ≤ R.slots) (hlocks : meth.locks = false)
    (hx : ∀ t : State, s.vm.Alike t.vm → H.size ≤ t.heap.size → (∀ q : Nat, q < H.size → t.heap[q]? = H[q]?) → XC cls s t)
    (hf : ∀ z ∈ locs, free z.base) (hc : cells + 1 ≤ mc) (hs : slots + 6 ≤ ms) :
    W p l e R s m args below meth c H locs cells slots (vx_MQ below Qc XC args s mc ms free) (F0 m pc ls rest) := by
  intro T hT X
  have htr : e.platform.stackTraces = false := (show e.platform.stackTraces = l.stackTraces by rw [X.admits.platform]).trans hl
  have Y := vx_rebase X (R' := { frames := R.frames, locals := R.locals, cells := 1, slots := 6 }) (Nat.le_refl _) (Nat.le_refl _) hRcells hRslots
  obtain ⟨s', hA⟩ : ∃ z, z = (T.setVm s.vm).setFrames (.invoking m args :: below) := ⟨_, rfl⟩
  rw [← hA] at Y
  have hvm : s'.vm = s.vm := by rw [hA]; rfl
  have hhp : s'.heap = H := by rw [hA]; exact hT
  have hW0 : s.WarmedH s'.vm := by rw [hvm]; exact State.WarmedH.refl s
  have hat' : ∀ w ∈ vx_at0 own ic cls names, w.before args s' = true := fun w hw => vx_ot_at hW0 hvm.symm (hgood w (List.mem_cons_of_mem _ (List.mem_cons_of_mem _ hw))) (hat w hw)
  have hk' : (Cond.classLink own ik cls).before args s' = true := vx_ot_at hW0 hvm.symm (hgood _ List.mem_cons_self) hk
  have hini' : (Cond.initialized cls).before args s' = true := vx_ot_at hW0 hvm.symm (hgood _ (List.mem_cons_of_mem _ List.mem_cons_self)) hini
  have hU' : vx_Zq Bundle.tN "UNASSIGNED_STACK" Bundle.steD A s' s'.heap := by rw [hhp]; exact vx_Zq.moved hW0.alike (hU.kept hS.2.1)
  have hN' : vx_Zq Bundle.tN "SUPPRESSED_SENTINEL" Bundle.listD A s' s'.heap := by rw [hhp]; exact vx_Zq.moved hW0.alike (hN.kept hS.2.1)
  have h : ∀ w ∈ Bundle.ownAtoms0 own ic cls names, w.before args s' = true := vx_own hat' (vx_isRefq hU'.1) (vx_isRefq hN'.1) hU'.2.word hN'.2.word
  have hown' : s'.vm.findClass own = some m.cls := by rw [hvm]; exact hown
  have hins : (Cond.instantiable cls 6).before args s' = true := h _ (by simp [Bundle.ownAtoms0])
  obtain ⟨vm₁, cX, kX, hfX, hkX, -, -, X₁, st1⟩ := Y.newCold hexec (own := own) (C := cls) (index := ik) (n := 6) hown' hk' hins hini'
    (g := F0 m pc ls rest) rfl (by rw [hb]; exact d0) (Nat.le_refl _) (Nat.le_refl _)
  generalize hT1 : (T.setVm vm₁).pushCell { cls := cX, slots := kX.instanceTypes.map defaultValue, vm := .none } = T1 at X₁ st1
  have hcat : (Value.ref T.heap.size).category = 1 := rfl
  have hcellA : T1.heap[T.heap.size]? = some (freshCell cX kX) := by rw [← hT1]; exact State.heap_pushCell_size _ _
  have d3' : decode c.code (pc + 3) = .ok (.dup, 1) := by rw [hb]; exact d3
  obtain ⟨U, hsteps, hrun, hend, hW, hsame, ce, hce, hO⟩ := X₁.ctorThrow0 hexec htr (own := own) (cls := cls) (names := names) (ic := ic) hown' hcls hnames h (fun x hx => nomatch hx) hfX hkX hcellA (by rw [hhp, hT]; exact Nat.le_refl _)
    (g := { method := m, pc := pc + 4, locals := ls, stack := .ref T.heap.size :: .ref T.heap.size :: rest, locked := none }) rfl hsize rfl rfl (rest := rest) rfl
    (by rw [hb]; exact d4) (by rw [hb]; exact d7) hout hRframes (by simp only [List.map_cons, List.sum_cons, hcat]; omega) hlocks
  obtain ⟨f1, f2⟩ := vx_frame hsame
  rw [hhp] at f1 f2
  have hWs : s.WarmedH U.vm := State.WarmedH.trans hW0 hW
  have hcl : s.vm.findClass cls = some ce.cls := by
    have h9 := hO.cls
    rw [hvm] at h9
    exact h9
  have hall : s.sameButNew ({ U with vm := s.vm } : State) locs mc ms := by
    subst hA
    obtain ⟨e1, e2⟩ := hsame
    rw [State.setFrames_setFrames] at e1
    have h2 : (T.setVm s.vm).sameButNew ({ U with vm := s.vm } : State) [] (0 + 1) (0 + 6) := ⟨e1, e2⟩
    have h3 := X.same.trans h2
    rw [List.append_nil] at h3
    exact h3.mono hc hs
  refine ⟨U, ?_, .threw T.heap.size, hrun, hend, Or.inr ⟨T.heap.size, rfl, cls, ce, locs, hx U hWs.alike f1 (fun q hq => f2 q hq (fun z hz => nomatch hz)), hce, hO.vm, hcl, hWs, hall, hf⟩⟩
  refine st1 _ ?_
  show Steps p.tables e below (T1.setTop { method := m, pc := pc + 3, locals := ls, stack := .ref T.heap.size :: rest, locked := none }) _
  jvm_step X₁.here [X₁.here.top, hexec, d3', Value.category]
  exact hsteps
/-- 'throw new E("text")': new; dup; ldc; invokespecial; athrow -/
theorem vx_throwS {cc : ByteArray} {pc : Nat} (hexec : p.tables.exec = Jvm.exec) (hb : c.code = cc) (hl : l.stackTraces = false) {own cls text : String} {names : List String} {ik is ic mc ms sa : Nat} {A : Nat → Prop}
    (hown : s.vm.findClass own = some m.cls) (hcls : Bundle.fit cls = true) (hnames : ∀ n ∈ names, Bundle.fit n = true)
    (hk : (Cond.classLink own ik cls).before args s = true) (hini : (Cond.initialized cls).before args s = true) (hstr : vk_R own is text sa s) (hat : ∀ w ∈ vx_atS own ic cls names, w.before args s = true)
    (hgood : ∀ w ∈ Cond.classLink own ik cls :: Cond.initialized cls :: vx_atS own ic cls names, vx_ot w = true)
    (hU : vx_Zq Bundle.tN "UNASSIGNED_STACK" Bundle.steD A s s.heap) (hN : vx_Zq Bundle.tN "SUPPRESSED_SENTINEL" Bundle.listD A s s.heap) (hS : va_S A s.heap H locs) (hsize : ls.size = c.maxLocals)
    (d0 : decode cc pc = .ok (.new ik, 3)) (d3 : decode cc (pc + 3) = .ok (.dup, 1)) (d4 : decode cc (pc + 4) = .ok (.ldc is, 2)) (d6 : decode cc (pc + 6) = .ok (.invokespecial ic, 3)) (d9 : decode cc (pc + 9) = .ok (.athrow, 1))
    (hout : ∀ x ∈ c.exceptionTable.toList, covers x (pc + 9) = false)
    (hRframes : names.length + 3 < R.frames) (hRlocals : (rest.map fun v => v.category).sum + (13 * (names.length + 1) + 43) ≤ R.locals) (hRcells : cells + 1 ≤ R.cells) (hRslots : slots + 6 ≤ R.slots) (hlocks : meth.locks = false)
    (hx : ∀ t : State, s.vm.Alike t.vm → H.size ≤ t.heap.size → (∀ q : Nat, q < H.size → t.heap[q]? = H[q]?) → t.heap.size ≤ H.size + 1 → TOT t.heap ≤ TOT H + 6 → XC cls s t)
    (hf : ∀ z ∈ locs, free z.base) (hc : cells + 1 ≤ mc) (hs : slots + 6 ≤ ms) :
    W p l e R s m args below meth c H locs cells slots (vx_MQ below Qc XC args s mc ms free) (F0 m pc ls rest) := by
  intro T hT X
  have htr : e.platform.stackTraces = false := (show e.platform.stackTraces = l.stackTraces by rw [X.admits.platform]).trans hl
  have Y := vx_rebase X (R' := { frames := R.frames, locals := R.locals, cells := 1, slots := 6 }) (Nat.le_refl _) (Nat.le_refl _) hRcells hRslots
  obtain ⟨s', hA⟩ : ∃ z, z = (T.setVm s.vm).setFrames (.invoking m args :: below) := ⟨_, rfl⟩
  rw [← hA] at Y
  have hvm : s'.vm = s.vm := by rw [hA]; rfl
  have hhp : s'.heap = H := by rw [hA]; exact hT
  have hW0 : s.WarmedH s'.vm := by rw [hvm]; exact State.WarmedH.refl s
  have hat' : ∀ w ∈ vx_atS own ic cls names, w.before args s' = true := fun w hw => vx_ot_at hW0 hvm.symm (hgood w (List.mem_cons_of_mem _ (List.mem_cons_of_mem _ hw))) (hat w hw)
  have hk' : (Cond.classLink own ik cls).before args s' = true := vx_ot_at hW0 hvm.symm (hgood _ List.mem_cons_self) hk
  have hini' : (Cond.initialized cls).before args s' = true := vx_ot_at hW0 hvm.symm (hgood _ (List.mem_cons_of_mem _ List.mem_cons_self)) hini
  have hU' : vx_Zq Bundle.tN "UNASSIGNED_STACK" Bundle.steD A s' s'.heap := by rw [hhp]; exact vx_Zq.moved hW0.alike (hU.kept hS.2.1)
  have hN' : vx_Zq Bundle.tN "SUPPRESSED_SENTINEL" Bundle.listD A s' s'.heap := by rw [hhp]; exact vx_Zq.moved hW0.alike (hN.kept hS.2.1)
  have h : ∀ w ∈ Bundle.ownAtoms own ic cls names, w.before args s' = true := vx_own hat' (vx_isRefq hU'.1) (vx_isRefq hN'.1) hU'.2.word hN'.2.word
  have hown' : s'.vm.findClass own = some m.cls := by rw [hvm]; exact hown
  have hins : (Cond.instantiable cls 6).before args s' = true := h _ (by simp [Bundle.ownAtoms])
  obtain ⟨vm₁, cX, kX, hfX, hkX, -, -, X₁, st1⟩ := Y.newCold hexec (own := own) (C := cls) (index := ik) (n := 6) hown' hk' hins hini'
    (g := F0 m pc ls rest) rfl (by rw [hb]; exact d0) (Nat.le_refl _) (Nat.le_refl _)
  generalize hT1 : (T.setVm vm₁).pushCell { cls := cX, slots := kX.instanceTypes.map defaultValue, vm := .none } = T1 at X₁ st1
  have hcat : (Value.ref T.heap.size).category = 1 := rfl
  have hcellA : T1.heap[T.heap.size]? = some (freshCell cX kX) := by rw [← hT1]; exact State.heap_pushCell_size _ _
  have d3' : decode c.code (pc + 3) = .ok (.dup, 1) := by rw [hb]; exact d3
  have d4' : decode c.code (pc + 4) = .ok (.ldc is, 2) := by rw [hb]; exact d4
  have hstr' : vk_R own is text sa s' := vk_R.warm hW0 hstr
  obtain ⟨U, hsteps, hrun, hend, hW, hsame, ce, hce, hO⟩ := X₁.ctorThrowS hexec htr (own := own) (cls := cls) (names := names) (ic := ic) hown' hcls hnames h (fun x hx => nomatch hx) hfX hkX hcellA (by rw [hhp, hT]; exact Nat.le_refl _) (msg := .ref sa) rfl
    (g := { method := m, pc := pc + 6, locals := ls, stack := .ref sa :: .ref T.heap.size :: .ref T.heap.size :: rest, locked := none }) rfl hsize rfl rfl (rest := rest) rfl
    (by rw [hb]; exact d6) (by rw [hb]; exact d9) hout hRframes (by simp only [List.map_cons, List.sum_cons, hcat]; omega) hlocks
  obtain ⟨f1, f2⟩ := vx_frame hsame
  rw [hhp] at f1 f2
  have hWs : s.WarmedH U.vm := State.WarmedH.trans hW0 hW
  have hcl : s.vm.findClass cls = some ce.cls := by
    have h9 := hO.cls
    rw [hvm] at h9
    exact h9
  have h29 : (T.setVm s.vm).sameButNew ({ U with vm := s.vm } : State) [] (0 + 1) (0 + 6) := by
    subst hA
    obtain ⟨e1, e2⟩ := hsame
    rw [State.setFrames_setFrames] at e1
    exact ⟨e1, e2⟩
  have hzz : U.heap.size ≤ H.size + 1 := by rw [← hT]; exact h29.2.2.1
  have htt : TOT U.heap ≤ TOT H + 6 := by
    have h8 := tot_le h29
    rw [← hT]
    exact h8
  have hall : s.sameButNew ({ U with vm := s.vm } : State) locs mc ms := by
    subst hA
    obtain ⟨e1, e2⟩ := hsame
    rw [State.setFrames_setFrames] at e1
    have h2 : (T.setVm s.vm).sameButNew ({ U with vm := s.vm } : State) [] (0 + 1) (0 + 6) := ⟨e1, e2⟩
    have h3 := X.same.trans h2
    rw [List.append_nil] at h3
    exact h3.mono hc hs
  refine ⟨U, ?_, .threw T.heap.size, hrun, hend, Or.inr ⟨T.heap.size, rfl, cls, ce, locs, hx U hWs.alike f1 (fun q hq => f2 q hq (fun z hz => nomatch hz)) hzz htt, hce, hO.vm, hcl, hWs, hall, hf⟩⟩
  refine st1 _ ?_
  show Steps p.tables e below (T1.setTop { method := m, pc := pc + 3, locals := ls, stack := .ref T.heap.size :: rest, locked := none }) _
  jvm_step X₁.here [X₁.here.top, hexec, d3', Value.category]
  exact X₁.ldcString hexec (own := own) (text := text) (index := is) (a := sa) hown' hstr'.1 hstr'.2
    (g := { method := m, pc := pc + 4, locals := ls, stack := .ref T.heap.size :: .ref T.heap.size :: rest, locked := none }) rfl d4' _ hsteps
/-- 'throw new E("text")', the text by a wide index -/
theorem vx_throwSW {cc : ByteArray} {pc : Nat} (hexec : p.tables.exec = Jvm.exec) (hb : c.code = cc) (hl : l.stackTraces = false) {own cls text : String} {names : List String} {ik is ic mc ms sa : Nat} {A : Nat → Prop}
    (hown : s.vm.findClass own = some m.cls) (hcls : Bundle.fit cls = true) (hnames : ∀ n ∈ names, Bundle.fit n = true)
    (hk : (Cond.classLink own ik cls).before args s = true) (hini : (Cond.initialized cls).before args s = true) (hstr : vk_R own is text sa s) (hat : ∀ w ∈ vx_atS own ic cls names, w.before args s = true)
    (hgood : ∀ w ∈ Cond.classLink own ik cls :: Cond.initialized cls :: vx_atS own ic cls names, vx_ot w = true)
    (hU : vx_Zq Bundle.tN "UNASSIGNED_STACK" Bundle.steD A s s.heap) (hN : vx_Zq Bundle.tN "SUPPRESSED_SENTINEL" Bundle.listD A s s.heap) (hS : va_S A s.heap H locs) (hsize : ls.size = c.maxLocals)
    (d0 : decode cc pc = .ok (.new ik, 3)) (d3 : decode cc (pc + 3) = .ok (.dup, 1)) (d4 : decode cc (pc + 4) = .ok (.ldc_w is, 3)) (d7 : decode cc (pc + 7) = .ok (.invokespecial ic, 3)) (d10 : decode cc (pc + 10) = .ok (.athrow, 1))
    (hout : ∀ x ∈ c.exceptionTable.toList, covers x (pc + 10) = false)
    (hRframes : names.length + 3 < R.frames) (hRlocals : (rest.map fun v => v.category).sum + (13 * (names.length + 1) + 43) ≤ R.locals) (hRcells : cells + 1 ≤ R.cells) (hRslots : slots + 6 ≤ R.slots) (hlocks : meth.locks = false)
    (hx : ∀ t : State, s.vm.Alike t.vm → H.size ≤ t.heap.size → (∀ q : Nat, q < H.size → t.heap[q]? = H[q]?) → t.heap.size ≤ H.size + 1 → TOT t.heap ≤ TOT H + 6 → XC cls s t)
    (hf : ∀ z ∈ locs, free z.base) (hc : cells + 1 ≤ mc) (hs : slots + 6 ≤ ms) :
    W p l e R s m args below meth c H locs cells slots (vx_MQ below Qc XC args s mc ms free) (F0 m pc ls rest) := by
  intro T hT X
  have htr : e.platform.stackTraces = false := (show e.platform.stackTraces = l.stackTraces by rw [X.admits.platform]).trans hl
  have Y := vx_rebase X (R' := { frames := R.frames, locals := R.locals, cells := 1, slots := 6 }) (Nat.le_refl _) (Nat.le_refl _) hRcells hRslots
  obtain ⟨s', hA⟩ : ∃ z, z = (T.setVm s.vm).setFrames (.invoking m args :: below) := ⟨_, rfl⟩
  rw [← hA] at Y
  have hvm : s'.vm = s.vm := by rw [hA]; rfl
  have hhp : s'.heap = H := by rw [hA]; exact hT
  have hW0 : s.WarmedH s'.vm := by rw [hvm]; exact State.WarmedH.refl s
  have hat' : ∀ w ∈ vx_atS own ic cls names, w.before args s' = true := fun w hw => vx_ot_at hW0 hvm.symm (hgood w (List.mem_cons_of_mem _ (List.mem_cons_of_mem _ hw))) (hat w hw)
  have hk' : (Cond.classLink own ik cls).before args s' = true := vx_ot_at hW0 hvm.symm (hgood _ List.mem_cons_self) hk
  have hini' : (Cond.initialized cls).before args s' = true := vx_ot_at hW0 hvm.symm (hgood _ (List.mem_cons_of_mem _ List.mem_cons_self)) hini
  have hU' : vx_Zq Bundle.tN "UNASSIGNED_STACK" Bundle.steD A s' s'.heap := by rw [hhp]; exact vx_Zq.moved hW0.alike (hU.kept hS.2.1)
  have hN' : vx_Zq Bundle.tN "SUPPRESSED_SENTINEL" Bundle.listD A s' s'.heap := by rw [hhp]; exact vx_Zq.moved hW0.alike (hN.kept hS.2.1)
  have h : ∀ w ∈ Bundle.ownAtoms own ic cls names, w.before args s' = true := vx_own hat' (vx_isRefq hU'.1) (vx_isRefq hN'.1) hU'.2.word hN'.2.word
  have hown' : s'.vm.findClass own = some m.cls := by rw [hvm]; exact hown
  have hins : (Cond.instantiable cls 6).before args s' = true := h _ (by simp [Bundle.ownAtoms])
  obtain ⟨vm₁, cX, kX, hfX, hkX, -, -, X₁, st1⟩ := Y.newCold hexec (own := own) (C := cls) (index := ik) (n := 6) hown' hk' hins hini'
    (g := F0 m pc ls rest) rfl (by rw [hb]; exact d0) (Nat.le_refl _) (Nat.le_refl _)
  generalize hT1 : (T.setVm vm₁).pushCell { cls := cX, slots := kX.instanceTypes.map defaultValue, vm := .none } = T1 at X₁ st1
  have hcat : (Value.ref T.heap.size).category = 1 := rfl
  have hcellA : T1.heap[T.heap.size]? = some (freshCell cX kX) := by rw [← hT1]; exact State.heap_pushCell_size _ _
  have d3' : decode c.code (pc + 3) = .ok (.dup, 1) := by rw [hb]; exact d3
  have d4' : decode c.code (pc + 4) = .ok (.ldc_w is, 3) := by rw [hb]; exact d4
  have hstr' : vk_R own is text sa s' := vk_R.warm hW0 hstr
  obtain ⟨U, hsteps, hrun, hend, hW, hsame, ce, hce, hO⟩ := X₁.ctorThrowS hexec htr (own := own) (cls := cls) (names := names) (ic := ic) hown' hcls hnames h (fun x hx => nomatch hx) hfX hkX hcellA (by rw [hhp, hT]; exact Nat.le_refl _) (msg := .ref sa) rfl
    (g := { method := m, pc := pc + 7, locals := ls, stack := .ref sa :: .ref T.heap.size :: .ref T.heap.size :: rest, locked := none }) rfl hsize rfl rfl (rest := rest) rfl
    (by rw [hb]; exact d7) (by rw [hb]; exact d10) hout hRframes (by simp only [List.map_cons, List.sum_cons, hcat]; omega) hlocks
  obtain ⟨f1, f2⟩ := vx_frame hsame
  rw [hhp] at f1 f2
  have hWs : s.WarmedH U.vm := State.WarmedH.trans hW0 hW
  have hcl : s.vm.findClass cls = some ce.cls := by
    have h9 := hO.cls
    rw [hvm] at h9
    exact h9
  have h29 : (T.setVm s.vm).sameButNew ({ U with vm := s.vm } : State) [] (0 + 1) (0 + 6) := by
    subst hA
    obtain ⟨e1, e2⟩ := hsame
    rw [State.setFrames_setFrames] at e1
    exact ⟨e1, e2⟩
  have hzz : U.heap.size ≤ H.size + 1 := by rw [← hT]; exact h29.2.2.1
  have htt : TOT U.heap ≤ TOT H + 6 := by
    have h8 := tot_le h29
    rw [← hT]
    exact h8
  have hall : s.sameButNew ({ U with vm := s.vm } : State) locs mc ms := by
    subst hA
    obtain ⟨e1, e2⟩ := hsame
    rw [State.setFrames_setFrames] at e1
    have h2 : (T.setVm s.vm).sameButNew ({ U with vm := s.vm } : State) [] (0 + 1) (0 + 6) := ⟨e1, e2⟩
    have h3 := X.same.trans h2
    rw [List.append_nil] at h3
    exact h3.mono hc hs
  refine ⟨U, ?_, .threw T.heap.size, hrun, hend, Or.inr ⟨T.heap.size, rfl, cls, ce, locs, hx U hWs.alike f1 (fun q hq => f2 q hq (fun z hz => nomatch hz)) hzz htt, hce, hO.vm, hcl, hWs, hall, hf⟩⟩
  refine st1 _ ?_
  show Steps p.tables e below (T1.setTop { method := m, pc := pc + 3, locals := ls, stack := .ref T.heap.size :: rest, locked := none }) _
  jvm_step X₁.here [X₁.here.top, hexec, d3', Value.category]
  exact X₁.ldcStringW hexec (own := own) (text := text) (index := is) (a := sa) hown' hstr'.1 hstr'.2
    (g := { method := m, pc := pc + 4, locals := ls, stack := .ref T.heap.size :: .ref T.heap.size :: rest, locked := none }) rfl d4' _ hsteps
end Ends
section Bodies
variable {l : Launch}
theorem vx_ofW {y : MethodName} {ws ws' : List Cond} {rm : Room} {Pc : Array Value → State → Prop} {Qc : Array Value → State → Outcome → State → Prop} {XC : String → State → State → Prop} {mc ms : Nat} {free : Addr → Prop} {cc : ByteArray} {maxL : Nat} {ret : Option FieldType}
    (hy : plainName y.cls = true) (hw : ws = Cond.code y cc maxL ret :: ws')
    (body : ∀ p e s m args below meth c s₁, BodyLoose p l y (headSpec ws rm) cc maxL ret e s m args below meth c s₁ → c.maxLocals = maxL → (∀ x ∈ c.exceptionTable.toList, False) → Pc args s →
      W p l e (headSpec ws rm).room s m args below meth c s.heap [] 0 0 (vx_MQ below Qc XC args s mc ms free) (entryFrame m args maxL)) : vx_Met l y ws rm Pc Qc XC mc ms free := by
  refine MetFree.of_bodyS (code := cc) (maxLocals := maxL) (ret := ret) hy ?_ ?_
  · intro args s m h hn
    obtain ⟨meth, c, h1, h2, h3, h4, h5, h6, -, -⟩ := Cond.code_spec hn (atoms_spec (ws := ws) h _ (by rw [hw]; exact List.mem_cons_self))
    exact ⟨meth, c, h1, h2, h3, h4, h5, h6⟩
  · intro p e s m args below meth c s₁ B hml hP _
    have hh0 : s₁.heap = s.heap := by rw [B.state]; rfl
    have ht : ∀ x ∈ c.exceptionTable.toList, False := by
      obtain ⟨meth9, c9, h1, h2, -, -, -, -, h7, -⟩ := Cond.code_spec B.named (atoms_spec (ws := ws) B.pre _ (by rw [hw]; exact List.mem_cons_self))
      cases Option.some.inj (h1.symm.trans B.method)
      cases Option.some.inj (h2.symm.trans (Stand.of_body B).code)
      intro x hx
      rw [Array.isEmpty_iff.mp h7] at hx
      cases hx
    obtain ⟨t, a1, o, b1, b2, b3⟩ := body p e s m args below meth c s₁ B hml ht hP s₁ hh0 (Stand.of_body B)
    exact ⟨t, o, a1, b1, b2, b3⟩
/-- the table of a body with handlers -/
theorem vx_table {p : Program} {x y : MethodName} {S : Spec} {cc bytes : ByteArray} {maxL maxL' : Nat} {ret ret' : Option FieldType} {e : Env} {s s₁ : State} {m : MethodId} {args : Array Value} {below : List Frame} {meth : Method} {c : Code} {hh : List (Nat × Nat × Nat × Nat)}
    (B : BodyLoose p l y S cc maxL ret e s m args below meth c s₁) (h : (Cond.codeWith y bytes maxL' ret' hh).before args s = true) : c.exceptionTable.toList = tableOf hh := by
  obtain ⟨m9, meth9, c9, hn9, h1, h2, -, -, h6, -⟩ := Cond.codeWith_spec h
  cases Option.some.inj (hn9.symm.trans B.named)
  cases Option.some.inj (h1.symm.trans B.method)
  cases Option.some.inj (h2.symm.trans (Stand.of_body B).code)
  rw [← h6, table_eq]
end Bodies
end VXA
/-! ===== END ===== -/
/-! ===== BEGIN a static call of a method with an exception table ===== -/
section VXS
variable {p : Program} {l : Launch} {e : Env} {R : Room} {s : State} {m : MethodId} {args : Array Value} {below : List Frame} {meth : Method} {c : Code} {T : State} {H : Heap} {locs : List Loc} {cells slots : Nat}
abbrev vx_CSW (R : Room) (s : State) (args : Array Value) (own : String) (index : Nat) (y : MethodName) (bytes : ByteArray) (maxL : Nat) (ret : Option FieldType) (hh : List (Nat × Nat × Nat × Nat)) (ws : List Cond) (rm : Room) (mc ms n : Nat) : Prop :=
  (rm.cells = mc ∧ rm.slots = ms ∧ rm.frames + 1 ≤ R.frames ∧ 8 + (maxL + 11) + rm.locals ≤ R.locals ∧ (∀ w ∈ ws, ∀ (a' : Array Value) (U : State), s.WarmedH U.vm → w.before a' U = true) ∧ Cond.codeWith y bytes maxL ret hh ∈ ws) ∧
  (Cond.codeWith y bytes maxL ret hh).before args s = true ∧ (Cond.initialized y.cls).before args s = true ∧ (y.cls ≠ "java/lang/invoke/MethodHandle" ∧ y.cls ≠ "java/lang/invoke/VarHandle") ∧
  (∀ sig, parseMethodDescriptor y.desc = some sig → n = sig.parameters.length) ∧ (Cond.methodLink own index y).before args s = true ∧ (Cond.static y).before args s = true
theorem vx_cwSW {own : String} {index maxL mc ms : Nat} {y : MethodName} {bytes : ByteArray} {ret : Option FieldType} {hh : List (Nat × Nat × Nat × Nat)} {Ts ws ws' : List Cond} {rm : Room} (n : Nat) (ht : ∀ w ∈ Ts, w.before args s = true) (hT : GoodIn Ts (va_wsS own index y ws)) (hw : ws = Cond.codeWith y bytes maxL ret hh :: ws') (hrc : rm.cells = mc) (hrs : rm.slots = ms)
    (hd : y.cls ≠ "java/lang/invoke/MethodHandle" ∧ y.cls ≠ "java/lang/invoke/VarHandle" ∧ (parseMethodDescriptor y.desc).map (fun d => d.parameters.length) = some n) (hR : rm.frames + 1 ≤ R.frames ∧ 8 + (maxL + 11) + rm.locals ≤ R.locals) :
    vx_CSW R s args own index y bytes maxL ret hh ws rm mc ms n := by
  have ok : ∀ w ∈ va_wsS own index y ws, w.before args s = true := fun w h => ht w (hT w h).1
  have hG : GoodIn Ts ws := fun w h => hT w (by unfold va_wsS; exact List.mem_append_right _ h)
  have hc : Cond.codeWith y bytes maxL ret hh ∈ ws := by rw [hw]; exact List.mem_cons_self
  refine ⟨⟨hrc, hrs, hR.1, hR.2, pay_in ht hG, hc⟩, ht _ (hG _ hc).1, ok _ (by simp [va_wsS]), ⟨hd.1, hd.2.1⟩, fun sig h => ?_, ok _ (by simp [va_wsS]), ok _ (by simp [va_wsS])⟩
  have h2 := hd.2.2
  rw [h] at h2
  exact (Option.some.inj h2).symm
theorem vx_callSW (X : Stand p l e R s m args below meth c T locs cells slots) (hexec : p.tables.exec = Jvm.exec) {own : String} {index : Nat} {y : MethodName} {bytes : ByteArray} {maxL : Nat} {ret : Option FieldType} {hh : List (Nat × Nat × Nat × Nat)}
    (hown : s.vm.findClass own = some m.cls) (hlink : (Cond.methodLink own index y).before args s = true) (hstat : (Cond.static y).before args s = true) (hinit : (Cond.initialized y.cls).before args s = true)
    (hcode : (Cond.codeWith y bytes maxL ret hh).before args s = true) (hy : y.cls ≠ "java/lang/invoke/MethodHandle" ∧ y.cls ≠ "java/lang/invoke/VarHandle")
    {W9 : Nat} {Pre : Pt → Array Value → Prop} {Post : Pt → Array Value → Option Value → Pt → Prop} (hK : Back l R p e below s args y 3 W9 Pre Post)
    {g : JFrame} (hg : g.method = m) (hsize : g.locals.size = c.maxLocals) {argsL rest : List Value} (hlen : ∀ sig, parseMethodDescriptor y.desc = some sig → argsL.length = sig.parameters.length)
    (hstack : g.stack = argsL.reverse ++ rest) (hW : 2 * g.monitorRoom + (rest.map fun v => v.category).sum ≤ W9) (hdg : decode c.code g.pc = .ok (.invokestatic index, 3))
    (hpre : ∀ vm₁, s.WarmedH vm₁ → Pre ⟨T.setVm vm₁, locs, cells, slots⟩ argsL.toArray) :
    ∃ (v : Option Value) (vm₁ : Vm) (B : Pt), s.WarmedH vm₁ ∧ Stand p l e R s m args below meth c B.U B.locs B.cells B.slots ∧ Post ⟨T.setVm vm₁, locs, cells, slots⟩ argsL.toArray v B ∧
      ∀ target, Steps p.tables e below (B.U.setTop { g with pc := g.pc + 3, stack := v.toList ++ rest }) target → Steps p.tables e below (T.setTop g) target := by
  obtain ⟨mk, methM, cM, hnamed, hmethM, -, -, -, -, -, -, hsigM⟩ := Cond.codeWith_spec hcode
  have hstatic : methM.isStatic = true := Cond.static_spec hnamed hmethM hstat
  obtain ⟨kP, hkP, -⟩ := className_of_methodNamed hnamed
  have hinitP : kP.init = .initialized := Cond.initialized_spec (findClass_of_methodNamed hnamed) hkP hinit
  obtain ⟨vm₁, X₁, hstep₁⟩ := X.invokestatic hexec hown hlink hnamed hmethM hstatic hkP hinitP hy (g := g) hg (argsL := argsL) (rest := rest) (hlen _ hsigM) hstack hdg
  obtain ⟨v, B, X', hpost, hsteps⟩ := hK m meth c ⟨T.setVm vm₁, locs, cells, slots⟩ { g with stack := rest } (.invokestatic index) mk argsL.toArray X₁ hg hsize hdg hW (X₁.named hnamed) (hpre vm₁ X₁.warmed)
  exact ⟨v, vm₁, B, X₁.warmed, X', hpost, fun target h => hstep₁ _ fun acts => by rw [doInvoke_state]; exact hsteps.trans h⟩
theorem vx_runSW {y : MethodName} {bytes cc : ByteArray} {maxL nL mc ms n index : Nat} {ret : Option FieldType} {hh : List (Nat × Nat × Nat × Nat)} {ws : List Cond} {rm : Room} {Pc : Array Value → State → Prop} {Qc : Array Value → State → Outcome → State → Prop} {free : Addr → Prop} {Ts : List Cond} {own : String} {As rest : List Value} {g : JFrame}
    (S : CallFix p m c cc nL s args Ts own) (hM : Met l y ws rm Pc Qc mc ms free) (cw : vx_CSW R s args own index y bytes maxL ret hh ws rm mc ms n) (hp : PreS s H Pc As)
    (hg : g.method = m) (hn : As.length = n) (hsize : g.locals.size = nL) (hstack : g.stack = As.reverse ++ rest) (hW : 2 * g.monitorRoom + (rest.map fun v => v.category).sum ≤ 8) (hdg : decode cc g.pc = .ok (.invokestatic index, 3)) (hf : cells + mc ≤ R.cells ∧ slots + ms ≤ R.slots) :
    va_Run p l e R s m args below meth c H locs cells slots mc ms g rest (Qc As.toArray) (free) := by
  obtain ⟨⟨hrc, hrs, hfr, hlo, hws, hcw⟩, hcode, hini, hy, hlen, hl, hstt⟩ := cw
  have hK : Back l R p e below s args y 3 8 (PreOf R mc ms Pc) (PostOf Qc mc ms free) := va_backW (hh := hh) (bytes := bytes) (maxL := maxL) (ret := ret) hM hp.1 hrc hrs hfr hlo hws hcw (fun a' U hW => word_at hW (Or.inl (by first | rfl | simp [Cond.onTables, Cond.keeps, Cond.steady])) hini)
  obtain ⟨hx, hb, hml, ho, -⟩ := S
  intro T hT X
  obtain ⟨v, vm₁, ⟨U', l2, c2, s2⟩, hW₁, X', ⟨g', mk, t, L, e1, e2, hq, h1, hL, h2, h3⟩, st⟩ := vx_callSW X hx (hh := hh) (bytes := bytes) (maxL := maxL) (ret := ret) ho hl hstt hini hcode hy hK hg (hsize.trans hml.symm) (argsL := As) (rest := rest) (fun sig h => hn.trans (hlen sig h)) hstack hW (by rw [hb]; exact hdg)
    (fun vm₁ hW₁ => ⟨hf.1, hf.2, hp.2 (T.setVm vm₁) hT hW₁⟩)
  dsimp only [Pt.U, Pt.locs, Pt.cells, Pt.slots] at X' e1 e2 h1 h2 h3 st
  subst h1; subst h2; subst h3
  exact ⟨v, (T.setVm vm₁).calling g' mk As.toArray, t, U', L, hT, X', hL, e1, e2, hq, st⟩
/-- not caught here, past rows that name other classes: it goes on to the caller -/
theorem vx_outP {p : Program} {l : Launch} {e : Env} {R : Room} {s : State} {m : MethodId} {args : Array Value} {below : List Frame} {meth : Method} {c : Code} {H : Heap} {locs : List Loc} {cells slots : Nat} {free : Addr → Prop} {ls : Array Slot} {rest : List Value} {Qc : Array Value → State → Outcome → State → Prop} {XC : String → State → State → Prop}
    {pc : Nat} {own E : String} {ce : Cell} {q : Addr} {mc ms : Nat} (hown : s.vm.findClass own = some m.cls) (hlocks : meth.locks = false)
    (hpass : ∀ z ∈ c.exceptionTable.toList, covers z pc = false ∨ (z.catchType ≠ 0 ∧ ∃ nm : String, (Cond.classLink own z.catchType nm).before args s = true ∧ va_Nc E nm s)) (hcell : H[q]? = some ce) (hv : ce.vm = .none) (hcl : s.vm.findClass E = some ce.cls)
    (hx : ∀ t : State, t.heap = H → s.vm.Alike t.vm → XC E s t) (hf : ∀ z ∈ locs, free z.base) (hc : cells ≤ mc) (hs : slots ≤ ms) :
    vx_W p l e R s m args below meth c H locs cells slots (vx_MQ below Qc XC args s mc ms free) (F0 m pc ls rest) q := by
  intro T hT X
  have hpl : e.platform.magicAccessors = ({} : Platform).magicAccessors := by rw [X.admits.platform]
  obtain ⟨vm', hW', X', st⟩ := X.outThrough hlocks q (g := F0 m pc ls rest) rfl rfl rfl (cell := ce) (by rw [hT]; exact hcell) (by rw [hv]; rfl)
    (by obtain ⟨k9, h9, -⟩ := Vm.findClass_spec hcl; exact ⟨k9, h9⟩) (fun z hz => by
      rcases hpass z hz with h | ⟨hz0, nm, hl1, hn1⟩
      · exact Or.inl h
      · obtain ⟨c6, hc6, hcl6⟩ := Cond.classLink_spec hown hl1 e.platform hpl
        obtain ⟨a8, b8, h1, h2, h3⟩ := hn1
        cases Option.some.inj (h1.symm.trans hcl)
        cases Option.some.inj (h2.symm.trans hc6)
        exact Or.inr ⟨hz0, _, hcl6, h3⟩)
  obtain ⟨g₀, hfr⟩ := X'.frames_eq
  have hcell9 : ((T.setVm vm').setFrames (.throwing q :: below)).heap[q]? = some ce := by
    show T.heap[q]? = some ce
    rw [hT]; exact hcell
  have hend : Ended ((T.setVm vm').setFrames (.throwing q :: below)) below (.threw q) := State.frames_setFrames _ (State.cur_lt_of_frames hfr)
  refine ⟨(T.setVm vm').setFrames (.throwing q :: below), ?_, .threw q, X'.here.running, hend, Or.inr ⟨q, rfl, E, ce, locs, hx _ hT (X'.ends _).1.alike, hcell9, hv, hcl, (X'.ends _).1, (X'.ends _).2.mono hc hs, hf⟩⟩
  rw [X.pushThrowing_eq]
  exact st
/-- a thing of a world lies in the heap -/
theorem vx_lt {D : va_G} {cl : List vw_C} {ws : va_W} {H1 : Heap} (h : va_P D cl ws H1) {k : Nat} {q : Nat × va_E} (hk : ws[k]? = some q) : q.1 < H1.size := (h k q hk).lt
end VXS
/-! ===== END ===== -/
end
section
def RX0 : String := "GroundProver$ClassSearch"
def TX0 : u_T := fun k => match k with
  | 0 => ("GroundProver$ClassSearch", "theory", "LGroundProver$Theory;", true)
  | 1 => ("GroundProver$ClassSearch", "store", "LGroundProver$TermStore;", true)
  | 2 => ("GroundProver$ClassSearch", "walk", "LGroundProver$Walk;", true)
  | 3 => ("GroundProver$ClassSearch", "grammar", "LGroundProver$Grammar;", true)
  | _ => ("GroundProver$ClassSearch", "counts", "[J", false)
def tyX0 : Nat → FieldType := fun k => match k with
  | 0 => .object "GroundProver$Theory"
  | 1 => .object "GroundProver$TermStore"
  | 2 => .object "GroundProver$Walk"
  | 3 => .object "GroundProver$Grammar"
  | _ => .array .long
abbrev wsX00 : List Cond := u_ws RX0 TX0 5
theorem nmX0 : ∀ a, a < 5 → ∀ b, b < 5 → a ≠ b → (TX0 a).2.1 ≠ (TX0 b).2.1 := by decide +kernel
theorem tyX0_ok : ∀ k, k < 5 → parseFieldDescriptor (TX0 k).2.2.1 = some (tyX0 k) := by decide +kernel
abbrev cX0_init : ByteArray := prog_2_method_1_code
def yX0_init : MethodName := ⟨RX0, "<init>", "(LGroundProver$Theory;LGroundProver$TermStore;LGroundProver$Walk;LGroundProver$Grammar;)V"⟩
def RX1 : String := "GroundProver$Closure"
def TX1 : u_T := fun k => match k with
  | 0 => ("GroundProver$Closure", "store", "LGroundProver$TermStore;", true)
  | 1 => ("GroundProver$Closure", "walk", "LGroundProver$Walk;", true)
  | 2 => ("GroundProver$Closure", "leaders", "LGroundProver$Row;", true)
  | 3 => ("GroundProver$Closure", "nextMembers", "LGroundProver$Row;", true)
  | 4 => ("GroundProver$Closure", "memberCounts", "LGroundProver$Row;", true)
  | 5 => ("GroundProver$Closure", "twins", "LGroundProver$Row;", true)
  | 6 => ("GroundProver$Closure", "signs", "LGroundProver$Row;", true)
  | 7 => ("GroundProver$Closure", "parts", "LGroundProver$Row;", true)
  | 8 => ("GroundProver$Closure", "buckets", "LGroundProver$Row;", true)
  | 9 => ("GroundProver$Closure", "links", "LGroundProver$Row;", true)
  | _ => ("GroundProver$Closure", "bucketCount", "I", false)
def tyX1 : Nat → FieldType := fun k => match k with
  | 0 => .object "GroundProver$TermStore"
  | 1 => .object "GroundProver$Walk"
  | 2 => .object "GroundProver$Row"
  | 3 => .object "GroundProver$Row"
  | 4 => .object "GroundProver$Row"
  | 5 => .object "GroundProver$Row"
  | 6 => .object "GroundProver$Row"
  | 7 => .object "GroundProver$Row"
  | 8 => .object "GroundProver$Row"
  | 9 => .object "GroundProver$Row"
  | _ => .int
abbrev wsX10 : List Cond := u_ws RX1 TX1 11
theorem nmX1 : ∀ a, a < 11 → ∀ b, b < 11 → a ≠ b → (TX1 a).2.1 ≠ (TX1 b).2.1 := by decide +kernel
theorem tyX1_ok : ∀ k, k < 11 → parseFieldDescriptor (TX1 k).2.2.1 = some (tyX1 k) := by decide +kernel
abbrev cX1_init : ByteArray := prog_3_method_1_code
def yX1_init : MethodName := ⟨RX1, "<init>", "(LGroundProver$TermStore;LGroundProver$Walk;)V"⟩
abbrev cX1_start : ByteArray := prog_3_method_2_code
def yX1_start : MethodName := ⟨RX1, "start", "()V"⟩
abbrev cX1_join : ByteArray := prog_3_method_4_code
def yX1_join : MethodName := ⟨RX1, "join", "(II)V"⟩
abbrev cX1_close : ByteArray := prog_3_method_5_code
def yX1_close : MethodName := ⟨RX1, "close", "()V"⟩
abbrev cX1_joinTwins : ByteArray := prog_3_method_6_code
def yX1_joinTwins : MethodName := ⟨RX1, "joinTwins", "()Z"⟩
abbrev cX1_bucketOf : ByteArray := prog_3_method_7_code
def yX1_bucketOf : MethodName := ⟨RX1, "bucketOf", "(I)I"⟩
abbrev cX1_areTwins : ByteArray := prog_3_method_8_code
def yX1_areTwins : MethodName := ⟨RX1, "areTwins", "(II)Z"⟩
abbrev cX1_pourInto : ByteArray := prog_3_method_9_code
def yX1_pourInto : MethodName := ⟨RX1, "pourInto", "(LGroundProver$Grammar;)V"⟩
def RX2 : String := "GroundProver$Grammar"
def TX2 : u_T := fun k => match k with
  | 0 => ("GroundProver$Grammar", "symbols", "LGroundProver$Symbols;", true)
  | 1 => ("GroundProver$Grammar", "owners", "LGroundProver$Row;", true)
  | 2 => ("GroundProver$Grammar", "signs", "LGroundProver$Row;", true)
  | 3 => ("GroundProver$Grammar", "parts", "LGroundProver$Row;", true)
  | 4 => ("GroundProver$Grammar", "waits", "LGroundProver$Row;", true)
  | 5 => ("GroundProver$Grammar", "users", "LGroundProver$Row;", true)
  | 6 => ("GroundProver$Grammar", "nextUsers", "LGroundProver$Row;", true)
  | 7 => ("GroundProver$Grammar", "weights", "LGroundProver$Row;", true)
  | 8 => ("GroundProver$Grammar", "sizes", "LGroundProver$Row;", true)
  | 9 => ("GroundProver$Grammar", "depths", "LGroundProver$Row;", true)
  | 10 => ("GroundProver$Grammar", "heap", "LGroundProver$Row;", true)
  | 11 => ("GroundProver$Grammar", "chosen", "LGroundProver$Row;", true)
  | 12 => ("GroundProver$Grammar", "positions", "LGroundProver$Row;", true)
  | 13 => ("GroundProver$Grammar", "sequence", "LGroundProver$Row;", true)
  | 14 => ("GroundProver$Grammar", "nodes", "LGroundProver$Row;", true)
  | 15 => ("GroundProver$Grammar", "classCount", "I", false)
  | 16 => ("GroundProver$Grammar", "count", "I", false)
  | 17 => ("GroundProver$Grammar", "heapCount", "I", false)
  | 18 => ("GroundProver$Grammar", "sequenceCount", "I", false)
  | _ => ("GroundProver$Grammar", "mode", "I", false)
def tyX2 : Nat → FieldType := fun k => match k with
  | 0 => .object "GroundProver$Symbols"
  | 1 => .object "GroundProver$Row"
  | 2 => .object "GroundProver$Row"
  | 3 => .object "GroundProver$Row"
  | 4 => .object "GroundProver$Row"
  | 5 => .object "GroundProver$Row"
  | 6 => .object "GroundProver$Row"
  | 7 => .object "GroundProver$Row"
  | 8 => .object "GroundProver$Row"
  | 9 => .object "GroundProver$Row"
  | 10 => .object "GroundProver$Row"
  | 11 => .object "GroundProver$Row"
  | 12 => .object "GroundProver$Row"
  | 13 => .object "GroundProver$Row"
  | 14 => .object "GroundProver$Row"
  | 15 => .int
  | 16 => .int
  | 17 => .int
  | 18 => .int
  | _ => .int
abbrev wsX20 : List Cond := u_ws RX2 TX2 20
theorem nmX2 : ∀ a, a < 20 → ∀ b, b < 20 → a ≠ b → (TX2 a).2.1 ≠ (TX2 b).2.1 := by decide +kernel
theorem tyX2_ok : ∀ k, k < 20 → parseFieldDescriptor (TX2 k).2.2.1 = some (tyX2 k) := by decide +kernel
abbrev cX2_init : ByteArray := prog_4_method_1_code
def yX2_init : MethodName := ⟨RX2, "<init>", "(LGroundProver$Symbols;)V"⟩
abbrev cX2_clear : ByteArray := prog_4_method_2_code
def yX2_clear : MethodName := ⟨RX2, "clear", "(I)V"⟩
abbrev cX2_addProduction : ByteArray := prog_4_method_4_code
def yX2_addProduction : MethodName := ⟨RX2, "addProduction", "(II)I"⟩
abbrev cX2_setPart : ByteArray := prog_4_method_5_code
def yX2_setPart : MethodName := ⟨RX2, "setPart", "(III)V"⟩
abbrev cX2_owner : ByteArray := prog_4_method_6_code
def yX2_owner : MethodName := ⟨RX2, "owner", "(I)I"⟩
abbrev cX2_arity : ByteArray := prog_4_method_8_code
def yX2_arity : MethodName := ⟨RX2, "arity", "(I)I"⟩
abbrev cX2_takeTerms : ByteArray := prog_4_method_9_code
def yX2_takeTerms : MethodName := ⟨RX2, "takeTerms", "(LGroundProver$Walk;LGroundProver$TermStore;)V"⟩
abbrev cX2_sequenceCount : ByteArray := prog_4_method_10_code
def yX2_sequenceCount : MethodName := ⟨RX2, "sequenceCount", "()I"⟩
abbrev cX2_ranked : ByteArray := prog_4_method_11_code
def yX2_ranked : MethodName := ⟨RX2, "ranked", "(I)I"⟩
abbrev cX2_position : ByteArray := prog_4_method_12_code
def yX2_position : MethodName := ⟨RX2, "position", "(I)I"⟩
abbrev cX2_choice : ByteArray := prog_4_method_13_code
def yX2_choice : MethodName := ⟨RX2, "choice", "(I)I"⟩
abbrev cX2_termSize : ByteArray := prog_4_method_14_code
def yX2_termSize : MethodName := ⟨RX2, "termSize", "(I)I"⟩
abbrev cX2_termDepth : ByteArray := prog_4_method_15_code
def yX2_termDepth : MethodName := ⟨RX2, "termDepth", "(I)I"⟩
abbrev cX2_rank : ByteArray := prog_4_method_16_code
def yX2_rank : MethodName := ⟨RX2, "rank", "(I)V"⟩
abbrev cX2_isReadyAfter : ByteArray := prog_4_method_17_code
def yX2_isReadyAfter : MethodName := ⟨RX2, "isReadyAfter", "(I)Z"⟩
abbrev cX2_linkUsers : ByteArray := prog_4_method_18_code
def yX2_linkUsers : MethodName := ⟨RX2, "linkUsers", "()V"⟩
abbrev cX2_enter : ByteArray := prog_4_method_19_code
def yX2_enter : MethodName := ⟨RX2, "enter", "(I)V"⟩
abbrev cX2_takeLeast : ByteArray := prog_4_method_20_code
def yX2_takeLeast : MethodName := ⟨RX2, "takeLeast", "()I"⟩
abbrev cX2_isBefore : ByteArray := prog_4_method_21_code
def yX2_isBefore : MethodName := ⟨RX2, "isBefore", "(II)Z"⟩
abbrev cX2_makeTerm : ByteArray := prog_4_method_23_code
def yX2_makeTerm : MethodName := ⟨RX2, "makeTerm", "(ILGroundProver$TermStore;)I"⟩
abbrev cX2_leastTerm : ByteArray := prog_4_method_24_code
def yX2_leastTerm : MethodName := ⟨RX2, "leastTerm", "(I)I"⟩
abbrev cX2_setLeastTerm : ByteArray := prog_4_method_25_code
def yX2_setLeastTerm : MethodName := ⟨RX2, "setLeastTerm", "(II)V"⟩
abbrev cX2_dropNeeds : ByteArray := prog_4_method_26_code
def yX2_dropNeeds : MethodName := ⟨RX2, "dropNeeds", "()V"⟩
abbrev cX2_need : ByteArray := prog_4_method_27_code
def yX2_need : MethodName := ⟨RX2, "need", "(I)V"⟩
abbrev cX2_needParts : ByteArray := prog_4_method_28_code
def yX2_needParts : MethodName := ⟨RX2, "needParts", "(I)V"⟩
abbrev cX2_spreadNeeds : ByteArray := prog_4_method_29_code
def yX2_spreadNeeds : MethodName := ⟨RX2, "spreadNeeds", "()V"⟩
abbrev cX2_isNeeded : ByteArray := prog_4_method_30_code
def yX2_isNeeded : MethodName := ⟨RX2, "isNeeded", "(I)Z"⟩
def RX3 : String := "GroundProver$Matcher"
def TX3 : u_T := fun k => match k with
  | 0 => ("GroundProver$Matcher", "theory", "LGroundProver$Theory;", true)
  | 1 => ("GroundProver$Matcher", "store", "LGroundProver$TermStore;", true)
  | 2 => ("GroundProver$Matcher", "walk", "LGroundProver$Walk;", true)
  | 3 => ("GroundProver$Matcher", "grammar", "LGroundProver$Grammar;", true)
  | 4 => ("GroundProver$Matcher", "found", "LGroundProver$Row;", true)
  | 5 => ("GroundProver$Matcher", "foundCount", "I", false)
  | 6 => ("GroundProver$Matcher", "foundVariables", "I", false)
  | 7 => ("GroundProver$Matcher", "kept", "LGroundProver$Row;", true)
  | 8 => ("GroundProver$Matcher", "keptCount", "I", false)
  | 9 => ("GroundProver$Matcher", "keptVariables", "I", false)
  | 10 => ("GroundProver$Matcher", "bindings", "[I", true)
  | 11 => ("GroundProver$Matcher", "goalPatterns", "[I", true)
  | 12 => ("GroundProver$Matcher", "goalNodes", "[I", true)
  | 13 => ("GroundProver$Matcher", "goalCount", "I", false)
  | _ => ("GroundProver$Matcher", "keys", "[J", true)
def tyX3 : Nat → FieldType := fun k => match k with
  | 0 => .object "GroundProver$Theory"
  | 1 => .object "GroundProver$TermStore"
  | 2 => .object "GroundProver$Walk"
  | 3 => .object "GroundProver$Grammar"
  | 4 => .object "GroundProver$Row"
  | 5 => .int
  | 6 => .int
  | 7 => .object "GroundProver$Row"
  | 8 => .int
  | 9 => .int
  | 10 => .array .int
  | 11 => .array .int
  | 12 => .array .int
  | 13 => .int
  | _ => .array .long
abbrev wsX30 : List Cond := u_ws RX3 TX3 15
theorem nmX3 : ∀ a, a < 15 → ∀ b, b < 15 → a ≠ b → (TX3 a).2.1 ≠ (TX3 b).2.1 := by decide +kernel
theorem tyX3_ok : ∀ k, k < 15 → parseFieldDescriptor (TX3 k).2.2.1 = some (tyX3 k) := by decide +kernel
abbrev cX3_init : ByteArray := prog_5_method_1_code
def yX3_init : MethodName := ⟨RX3, "<init>", "(LGroundProver$Theory;LGroundProver$TermStore;LGroundProver$Walk;LGroundProver$Grammar;)V"⟩
abbrev cX3_assigns : ByteArray := prog_5_method_2_code
def yX3_assigns : MethodName := ⟨RX3, "assigns", "(I)Z"⟩
abbrev cX3_markTerms : ByteArray := prog_5_method_12_code
def yX3_markTerms : MethodName := ⟨RX3, "markTerms", "()V"⟩
def RX4 : String := "GroundProver$Printer"
def TX4 : u_T := fun k => match k with
  | 0 => ("GroundProver$Printer", "symbols", "LGroundProver$Symbols;", true)
  | 1 => ("GroundProver$Printer", "store", "LGroundProver$TermStore;", true)
  | 2 => ("GroundProver$Printer", "walk", "LGroundProver$Walk;", true)
  | 3 => ("GroundProver$Printer", "output", "[B", true)
  | _ => ("GroundProver$Printer", "length", "I", false)
def tyX4 : Nat → FieldType := fun k => match k with
  | 0 => .object "GroundProver$Symbols"
  | 1 => .object "GroundProver$TermStore"
  | 2 => .object "GroundProver$Walk"
  | 3 => .array .byte
  | _ => .int
abbrev wsX40 : List Cond := u_ws RX4 TX4 5
theorem nmX4 : ∀ a, a < 5 → ∀ b, b < 5 → a ≠ b → (TX4 a).2.1 ≠ (TX4 b).2.1 := by decide +kernel
theorem tyX4_ok : ∀ k, k < 5 → parseFieldDescriptor (TX4 k).2.2.1 = some (tyX4 k) := by decide +kernel
abbrev cX4_init : ByteArray := prog_6_method_1_code
def yX4_init : MethodName := ⟨RX4, "<init>", "(LGroundProver$Symbols;LGroundProver$TermStore;LGroundProver$Walk;)V"⟩
def RX5 : String := "GroundProver$Reader"
def TX5 : u_T := fun k => match k with
  | 0 => ("GroundProver$Reader", "symbols", "LGroundProver$Symbols;", true)
  | 1 => ("GroundProver$Reader", "store", "LGroundProver$TermStore;", true)
  | 2 => ("GroundProver$Reader", "input", "[B", true)
  | 3 => ("GroundProver$Reader", "length", "I", false)
  | 4 => ("GroundProver$Reader", "end", "I", false)
  | 5 => ("GroundProver$Reader", "at", "I", false)
  | 6 => ("GroundProver$Reader", "nameStart", "I", false)
  | 7 => ("GroundProver$Reader", "isTheory", "Z", false)
  | 8 => ("GroundProver$Reader", "kind", "I", false)
  | 9 => ("GroundProver$Reader", "position", "I", false)
  | 10 => ("GroundProver$Reader", "openSymbols", "[I", true)
  | 11 => ("GroundProver$Reader", "openStarts", "[I", true)
  | 12 => ("GroundProver$Reader", "openCounts", "[I", true)
  | 13 => ("GroundProver$Reader", "openParts", "[I", true)
  | 14 => ("GroundProver$Reader", "openCount", "I", false)
  | 15 => ("GroundProver$Reader", "lefts", "[I", true)
  | 16 => ("GroundProver$Reader", "rights", "[I", true)
  | 17 => ("GroundProver$Reader", "areEquations", "[Z", true)
  | _ => ("GroundProver$Reader", "statementCount", "I", false)
def tyX5 : Nat → FieldType := fun k => match k with
  | 0 => .object "GroundProver$Symbols"
  | 1 => .object "GroundProver$TermStore"
  | 2 => .array .byte
  | 3 => .int
  | 4 => .int
  | 5 => .int
  | 6 => .int
  | 7 => .boolean
  | 8 => .int
  | 9 => .int
  | 10 => .array .int
  | 11 => .array .int
  | 12 => .array .int
  | 13 => .array .int
  | 14 => .int
  | 15 => .array .int
  | 16 => .array .int
  | 17 => .array .boolean
  | _ => .int
abbrev wsX50 : List Cond := u_ws RX5 TX5 19
theorem nmX5 : ∀ a, a < 19 → ∀ b, b < 19 → a ≠ b → (TX5 a).2.1 ≠ (TX5 b).2.1 := by decide +kernel
theorem tyX5_ok : ∀ k, k < 19 → parseFieldDescriptor (TX5 k).2.2.1 = some (tyX5 k) := by decide +kernel
abbrev cX5_init : ByteArray := prog_7_method_1_code
def yX5_init : MethodName := ⟨RX5, "<init>", "(LGroundProver$Symbols;LGroundProver$TermStore;)V"⟩
abbrev cX5_length : ByteArray := prog_7_method_2_code
def yX5_length : MethodName := ⟨RX5, "length", "()I"⟩
abbrev cX5_bytes : ByteArray := prog_7_method_3_code
def yX5_bytes : MethodName := ⟨RX5, "bytes", "()[B"⟩
abbrev cX5_append : ByteArray := prog_7_method_10_code
def yX5_append : MethodName := ⟨RX5, "append", "(I)V"⟩
abbrev cX5_shorten : ByteArray := prog_7_method_11_code
def yX5_shorten : MethodName := ⟨RX5, "shorten", "(I)V"⟩
abbrev cX5_drain : ByteArray := prog_7_method_12_code
def yX5_drain : MethodName := ⟨RX5, "drain", "()I"⟩
abbrev cX5_holdsName : ByteArray := prog_7_method_13_code
def yX5_holdsName : MethodName := ⟨RX5, "holdsName", "()Z"⟩
abbrev cX5_heldSymbol : ByteArray := prog_7_method_14_code
def yX5_heldSymbol : MethodName := ⟨RX5, "heldSymbol", "()I"⟩
abbrev cX5_isLetter : ByteArray := prog_7_method_29_code
def yX5_isLetter : MethodName := ⟨RX5, "isLetter", "(I)Z"⟩
abbrev cX5_isNamePart : ByteArray := prog_7_method_30_code
def yX5_isNamePart : MethodName := ⟨RX5, "isNamePart", "(I)Z"⟩
def RX6 : String := "GroundProver$Row"
def TX6 : u_T := fun k => match k with
  | _ => ("GroundProver$Row", "blocks", "[[I", true)
def tyX6 : Nat → FieldType := fun k => match k with
  | _ => .array (.array .int)
abbrev wsX60 : List Cond := u_ws RX6 TX6 1
theorem nmX6 : ∀ a, a < 1 → ∀ b, b < 1 → a ≠ b → (TX6 a).2.1 ≠ (TX6 b).2.1 := by decide +kernel
theorem tyX6_ok : ∀ k, k < 1 → parseFieldDescriptor (TX6 k).2.2.1 = some (tyX6 k) := by decide +kernel
abbrev cX6_init : ByteArray := prog_8_method_1_code
def yX6_init : MethodName := ⟨RX6, "<init>", "(I)V"⟩
abbrev cX6_get : ByteArray := prog_8_method_2_code
def yX6_get : MethodName := ⟨RX6, "get", "(I)I"⟩
abbrev cX6_set : ByteArray := prog_8_method_3_code
def yX6_set : MethodName := ⟨RX6, "set", "(II)V"⟩
def RX7 : String := "GroundProver$Symbols"
def TX7 : u_T := fun k => match k with
  | 0 => ("GroundProver$Symbols", "names", "[B", true)
  | 1 => ("GroundProver$Symbols", "lengths", "[I", true)
  | 2 => ("GroundProver$Symbols", "arities", "[I", true)
  | 3 => ("GroundProver$Symbols", "weights", "[I", true)
  | 4 => ("GroundProver$Symbols", "ranks", "[I", true)
  | 5 => ("GroundProver$Symbols", "ordinals", "[I", true)
  | 6 => ("GroundProver$Symbols", "directions", "[Z", true)
  | 7 => ("GroundProver$Symbols", "count", "I", false)
  | 8 => ("GroundProver$Symbols", "variableCount", "I", false)
  | 9 => ("GroundProver$Symbols", "isByWeight", "Z", false)
  | _ => ("GroundProver$Symbols", "isOrderFixed", "Z", false)
def tyX7 : Nat → FieldType := fun k => match k with
  | 0 => .array .byte
  | 1 => .array .int
  | 2 => .array .int
  | 3 => .array .int
  | 4 => .array .int
  | 5 => .array .int
  | 6 => .array .boolean
  | 7 => .int
  | 8 => .int
  | 9 => .boolean
  | _ => .boolean
abbrev wsX70 : List Cond := u_ws RX7 TX7 11
theorem nmX7 : ∀ a, a < 11 → ∀ b, b < 11 → a ≠ b → (TX7 a).2.1 ≠ (TX7 b).2.1 := by decide +kernel
theorem tyX7_ok : ∀ k, k < 11 → parseFieldDescriptor (TX7 k).2.2.1 = some (tyX7 k) := by decide +kernel
abbrev cX7_init : ByteArray := prog_9_method_1_code
def yX7_init : MethodName := ⟨RX7, "<init>", "()V"⟩
abbrev cX7_has : ByteArray := prog_9_method_3_code
def yX7_has : MethodName := ⟨RX7, "has", "(I)Z"⟩
abbrev cX7_isFull : ByteArray := prog_9_method_4_code
def yX7_isFull : MethodName := ⟨RX7, "isFull", "()Z"⟩
abbrev cX7_arity : ByteArray := prog_9_method_6_code
def yX7_arity : MethodName := ⟨RX7, "arity", "(I)I"⟩
abbrev cX7_weight : ByteArray := prog_9_method_7_code
def yX7_weight : MethodName := ⟨RX7, "weight", "(I)I"⟩
abbrev cX7_rank : ByteArray := prog_9_method_8_code
def yX7_rank : MethodName := ⟨RX7, "rank", "(I)I"⟩
abbrev cX7_isFromRight : ByteArray := prog_9_method_9_code
def yX7_isFromRight : MethodName := ⟨RX7, "isFromRight", "(I)Z"⟩
abbrev cX7_variableOrdinal : ByteArray := prog_9_method_10_code
def yX7_variableOrdinal : MethodName := ⟨RX7, "variableOrdinal", "(I)I"⟩
abbrev cX7_nameLength : ByteArray := prog_9_method_11_code
def yX7_nameLength : MethodName := ⟨RX7, "nameLength", "(I)I"⟩
abbrev cX7_nameByte : ByteArray := prog_9_method_12_code
def yX7_nameByte : MethodName := ⟨RX7, "nameByte", "(II)B"⟩
abbrev cX7_add : ByteArray := prog_9_method_13_code
def yX7_add : MethodName := ⟨RX7, "add", "([BIII)I"⟩
abbrev cX7_find : ByteArray := prog_9_method_15_code
def yX7_find : MethodName := ⟨RX7, "find", "([BII)I"⟩
abbrev cX7_isNameAt : ByteArray := prog_9_method_16_code
def yX7_isNameAt : MethodName := ⟨RX7, "isNameAt", "(I[BI)Z"⟩
abbrev cX7_isByWeight : ByteArray := prog_9_method_17_code
def yX7_isByWeight : MethodName := ⟨RX7, "isByWeight", "()Z"⟩
abbrev cX7_orderMode : ByteArray := prog_9_method_18_code
def yX7_orderMode : MethodName := ⟨RX7, "orderMode", "()I"⟩
abbrev cX7_chooseOrder : ByteArray := prog_9_method_19_code
def yX7_chooseOrder : MethodName := ⟨RX7, "chooseOrder", "(Z)V"⟩
abbrev cX7_isOrderFixed : ByteArray := prog_9_method_20_code
def yX7_isOrderFixed : MethodName := ⟨RX7, "isOrderFixed", "()Z"⟩
abbrev cX7_fixOrder : ByteArray := prog_9_method_21_code
def yX7_fixOrder : MethodName := ⟨RX7, "fixOrder", "()V"⟩
abbrev cX7_direct : ByteArray := prog_9_method_22_code
def yX7_direct : MethodName := ⟨RX7, "direct", "(IZ)V"⟩
abbrev cX7_moveTo : ByteArray := prog_9_method_23_code
def yX7_moveTo : MethodName := ⟨RX7, "moveTo", "(II)V"⟩
def RX8 : String := "GroundProver$TermStore"
def TX8 : u_T := fun k => match k with
  | 0 => ("GroundProver$TermStore", "symbols", "LGroundProver$Symbols;", true)
  | 1 => ("GroundProver$TermStore", "signs", "LGroundProver$Row;", true)
  | 2 => ("GroundProver$TermStore", "parts", "LGroundProver$Row;", true)
  | 3 => ("GroundProver$TermStore", "extents", "LGroundProver$Row;", true)
  | 4 => ("GroundProver$TermStore", "numbers", "LGroundProver$Row;", true)
  | 5 => ("GroundProver$TermStore", "links", "LGroundProver$Row;", true)
  | 6 => ("GroundProver$TermStore", "buckets", "LGroundProver$Row;", true)
  | 7 => ("GroundProver$TermStore", "pending", "[I", true)
  | 8 => ("GroundProver$TermStore", "pendingCount", "I", false)
  | 9 => ("GroundProver$TermStore", "top", "I", false)
  | 10 => ("GroundProver$TermStore", "used", "I", false)
  | 11 => ("GroundProver$TermStore", "freeLink", "I", false)
  | _ => ("GroundProver$TermStore", "crowd", "I", false)
def tyX8 : Nat → FieldType := fun k => match k with
  | 0 => .object "GroundProver$Symbols"
  | 1 => .object "GroundProver$Row"
  | 2 => .object "GroundProver$Row"
  | 3 => .object "GroundProver$Row"
  | 4 => .object "GroundProver$Row"
  | 5 => .object "GroundProver$Row"
  | 6 => .object "GroundProver$Row"
  | 7 => .array .int
  | 8 => .int
  | 9 => .int
  | 10 => .int
  | 11 => .int
  | _ => .int
abbrev wsX80 : List Cond := u_ws RX8 TX8 13
theorem nmX8 : ∀ a, a < 13 → ∀ b, b < 13 → a ≠ b → (TX8 a).2.1 ≠ (TX8 b).2.1 := by decide +kernel
theorem tyX8_ok : ∀ k, k < 13 → parseFieldDescriptor (TX8 k).2.2.1 = some (tyX8 k) := by decide +kernel
abbrev cX8_init : ByteArray := prog_10_method_1_code
def yX8_init : MethodName := ⟨RX8, "<init>", "(LGroundProver$Symbols;)V"⟩
abbrev cX8_symbol : ByteArray := prog_10_method_2_code
def yX8_symbol : MethodName := ⟨RX8, "symbol", "(I)I"⟩
abbrev cX8_arity : ByteArray := prog_10_method_3_code
def yX8_arity : MethodName := ⟨RX8, "arity", "(I)I"⟩
abbrev cX8_part : ByteArray := prog_10_method_4_code
def yX8_part : MethodName := ⟨RX8, "part", "(II)I"⟩
abbrev cX8_width : ByteArray := prog_10_method_5_code
def yX8_width : MethodName := ⟨RX8, "width", "(I)I"⟩
abbrev cX8_height : ByteArray := prog_10_method_6_code
def yX8_height : MethodName := ⟨RX8, "height", "(I)I"⟩
abbrev cX8_isGround : ByteArray := prog_10_method_7_code
def yX8_isGround : MethodName := ⟨RX8, "isGround", "(I)Z"⟩
abbrev cX8_isTooLarge : ByteArray := prog_10_method_9_code
def yX8_isTooLarge : MethodName := ⟨RX8, "isTooLarge", "(I)Z"⟩
abbrev cX8_number : ByteArray := prog_10_method_10_code
def yX8_number : MethodName := ⟨RX8, "number", "(I)I"⟩
abbrev cX8_setNumber : ByteArray := prog_10_method_11_code
def yX8_setNumber : MethodName := ⟨RX8, "setNumber", "(II)V"⟩
abbrev cX8_make : ByteArray := prog_10_method_12_code
def yX8_make : MethodName := ⟨RX8, "make", "(IIII)I"⟩
abbrev cX8_bucketOf : ByteArray := prog_10_method_13_code
def yX8_bucketOf : MethodName := ⟨RX8, "bucketOf", "(IIII)I"⟩
abbrev cX8_keep : ByteArray := prog_10_method_14_code
def yX8_keep : MethodName := ⟨RX8, "keep", "(IIIII)I"⟩
abbrev cX8_extentOver : ByteArray := prog_10_method_15_code
def yX8_extentOver : MethodName := ⟨RX8, "extentOver", "(IIII)I"⟩
abbrev cX8_isCrowded : ByteArray := prog_10_method_16_code
def yX8_isCrowded : MethodName := ⟨RX8, "isCrowded", "()Z"⟩
abbrev cX8_mark : ByteArray := prog_10_method_17_code
def yX8_mark : MethodName := ⟨RX8, "mark", "(I)V"⟩
abbrev cX8_markOne : ByteArray := prog_10_method_18_code
def yX8_markOne : MethodName := ⟨RX8, "markOne", "(I)V"⟩
abbrev cX8_dropUnmarked : ByteArray := prog_10_method_19_code
def yX8_dropUnmarked : MethodName := ⟨RX8, "dropUnmarked", "()V"⟩
abbrev cX8_relink : ByteArray := prog_10_method_20_code
def yX8_relink : MethodName := ⟨RX8, "relink", "(I)V"⟩
def RX9 : String := "GroundProver$Theory"
def TX9 : u_T := fun k => match k with
  | 0 => ("GroundProver$Theory", "symbols", "LGroundProver$Symbols;", true)
  | 1 => ("GroundProver$Theory", "store", "LGroundProver$TermStore;", true)
  | 2 => ("GroundProver$Theory", "walk", "LGroundProver$Walk;", true)
  | 3 => ("GroundProver$Theory", "grammar", "LGroundProver$Grammar;", true)
  | 4 => ("GroundProver$Theory", "closure", "LGroundProver$Closure;", true)
  | 5 => ("GroundProver$Theory", "equationLefts", "[I", true)
  | 6 => ("GroundProver$Theory", "equationRights", "[I", true)
  | 7 => ("GroundProver$Theory", "equationCount", "I", false)
  | 8 => ("GroundProver$Theory", "separationLefts", "[I", true)
  | 9 => ("GroundProver$Theory", "separationRights", "[I", true)
  | 10 => ("GroundProver$Theory", "separationCount", "I", false)
  | 11 => ("GroundProver$Theory", "levelEquations", "[I", true)
  | 12 => ("GroundProver$Theory", "levelSeparations", "[I", true)
  | 13 => ("GroundProver$Theory", "levelCount", "I", false)
  | 14 => ("GroundProver$Theory", "ruleLefts", "[I", true)
  | 15 => ("GroundProver$Theory", "ruleRights", "[I", true)
  | 16 => ("GroundProver$Theory", "ruleHints", "LGroundProver$Row;", true)
  | _ => ("GroundProver$Theory", "ruleCount", "I", false)
def tyX9 : Nat → FieldType := fun k => match k with
  | 0 => .object "GroundProver$Symbols"
  | 1 => .object "GroundProver$TermStore"
  | 2 => .object "GroundProver$Walk"
  | 3 => .object "GroundProver$Grammar"
  | 4 => .object "GroundProver$Closure"
  | 5 => .array .int
  | 6 => .array .int
  | 7 => .int
  | 8 => .array .int
  | 9 => .array .int
  | 10 => .int
  | 11 => .array .int
  | 12 => .array .int
  | 13 => .int
  | 14 => .array .int
  | 15 => .array .int
  | 16 => .object "GroundProver$Row"
  | _ => .int
abbrev wsX90 : List Cond := u_ws RX9 TX9 18
theorem nmX9 : ∀ a, a < 18 → ∀ b, b < 18 → a ≠ b → (TX9 a).2.1 ≠ (TX9 b).2.1 := by decide +kernel
theorem tyX9_ok : ∀ k, k < 18 → parseFieldDescriptor (TX9 k).2.2.1 = some (tyX9 k) := by decide +kernel
abbrev cX9_init : ByteArray := prog_11_method_1_code
def yX9_init : MethodName := ⟨RX9, "<init>", "(LGroundProver$Symbols;LGroundProver$TermStore;LGroundProver$Walk;LGroundProver$Grammar;)V"⟩
abbrev cX9_rightSide : ByteArray := prog_11_method_3_code
def yX9_rightSide : MethodName := ⟨RX9, "rightSide", "(I)I"⟩
abbrev cX9_addEquation : ByteArray := prog_11_method_6_code
def yX9_addEquation : MethodName := ⟨RX9, "addEquation", "(II)V"⟩
abbrev cX9_goBack : ByteArray := prog_11_method_7_code
def yX9_goBack : MethodName := ⟨RX9, "goBack", "(II)V"⟩
abbrev cX9_openLevel : ByteArray := prog_11_method_8_code
def yX9_openLevel : MethodName := ⟨RX9, "openLevel", "()V"⟩
abbrev cX9_closeLevel : ByteArray := prog_11_method_9_code
def yX9_closeLevel : MethodName := ⟨RX9, "closeLevel", "()V"⟩
abbrev cX9_complete : ByteArray := prog_11_method_10_code
def yX9_complete : MethodName := ⟨RX9, "complete", "()Z"⟩
abbrev cX9_gather : ByteArray := prog_11_method_11_code
def yX9_gather : MethodName := ⟨RX9, "gather", "(III)V"⟩
abbrev cX9_isTooLargeSide : ByteArray := prog_11_method_12_code
def yX9_isTooLargeSide : MethodName := ⟨RX9, "isTooLargeSide", "(I)Z"⟩
abbrev cX9_takeRules : ByteArray := prog_11_method_13_code
def yX9_takeRules : MethodName := ⟨RX9, "takeRules", "()V"⟩
abbrev cX9_addRule : ByteArray := prog_11_method_14_code
def yX9_addRule : MethodName := ⟨RX9, "addRule", "(II)V"⟩
abbrev cX9_ruleFor : ByteArray := prog_11_method_15_code
def yX9_ruleFor : MethodName := ⟨RX9, "ruleFor", "(I)I"⟩
abbrev cX9_normalize : ByteArray := prog_11_method_16_code
def yX9_normalize : MethodName := ⟨RX9, "normalize", "(I)I"⟩
abbrev cX9_makesEqual : ByteArray := prog_11_method_17_code
def yX9_makesEqual : MethodName := ⟨RX9, "makesEqual", "(II)Z"⟩
abbrev cX9_countSteps : ByteArray := prog_11_method_20_code
def yX9_countSteps : MethodName := ⟨RX9, "countSteps", "(I)I"⟩
abbrev cX9_markTerms : ByteArray := prog_11_method_23_code
def yX9_markTerms : MethodName := ⟨RX9, "markTerms", "()V"⟩
def RX10 : String := "GroundProver$Walk"
def TX10 : u_T := fun k => match k with
  | 0 => ("GroundProver$Walk", "store", "LGroundProver$TermStore;", true)
  | 1 => ("GroundProver$Walk", "slots", "LGroundProver$Row;", true)
  | 2 => ("GroundProver$Walk", "nodes", "LGroundProver$Row;", true)
  | 3 => ("GroundProver$Walk", "values", "LGroundProver$Row;", true)
  | 4 => ("GroundProver$Walk", "tallies", "LGroundProver$Row;", true)
  | 5 => ("GroundProver$Walk", "open", "[I", true)
  | _ => ("GroundProver$Walk", "count", "I", false)
def tyX10 : Nat → FieldType := fun k => match k with
  | 0 => .object "GroundProver$TermStore"
  | 1 => .object "GroundProver$Row"
  | 2 => .object "GroundProver$Row"
  | 3 => .object "GroundProver$Row"
  | 4 => .object "GroundProver$Row"
  | 5 => .array .int
  | _ => .int
abbrev wsX100 : List Cond := u_ws RX10 TX10 7
theorem nmX10 : ∀ a, a < 7 → ∀ b, b < 7 → a ≠ b → (TX10 a).2.1 ≠ (TX10 b).2.1 := by decide +kernel
theorem tyX10_ok : ∀ k, k < 7 → parseFieldDescriptor (TX10 k).2.2.1 = some (tyX10 k) := by decide +kernel
abbrev cX10_init : ByteArray := prog_12_method_1_code
def yX10_init : MethodName := ⟨RX10, "<init>", "(LGroundProver$TermStore;)V"⟩
abbrev cX10_count : ByteArray := prog_12_method_2_code
def yX10_count : MethodName := ⟨RX10, "count", "()I"⟩
abbrev cX10_node : ByteArray := prog_12_method_3_code
def yX10_node : MethodName := ⟨RX10, "node", "(I)I"⟩
abbrev cX10_value : ByteArray := prog_12_method_4_code
def yX10_value : MethodName := ⟨RX10, "value", "(I)I"⟩
abbrev cX10_setValue : ByteArray := prog_12_method_5_code
def yX10_setValue : MethodName := ⟨RX10, "setValue", "(II)V"⟩
abbrev cX10_tally : ByteArray := prog_12_method_6_code
def yX10_tally : MethodName := ⟨RX10, "tally", "(I)I"⟩
abbrev cX10_setTally : ByteArray := prog_12_method_7_code
def yX10_setTally : MethodName := ⟨RX10, "setTally", "(II)V"⟩
abbrev cX10_clear : ByteArray := prog_12_method_8_code
def yX10_clear : MethodName := ⟨RX10, "clear", "()V"⟩
abbrev cX10_indexOf : ByteArray := prog_12_method_9_code
def yX10_indexOf : MethodName := ⟨RX10, "indexOf", "(I)I"⟩
abbrev cX10_partOf : ByteArray := prog_12_method_10_code
def yX10_partOf : MethodName := ⟨RX10, "partOf", "(II)I"⟩
abbrev cX10_add : ByteArray := prog_12_method_11_code
def yX10_add : MethodName := ⟨RX10, "add", "(I)V"⟩
abbrev cX10_firstUnlisted : ByteArray := prog_12_method_12_code
def yX10_firstUnlisted : MethodName := ⟨RX10, "firstUnlisted", "(I)I"⟩
abbrev cX10_append : ByteArray := prog_12_method_13_code
def yX10_append : MethodName := ⟨RX10, "append", "(I)V"⟩
abbrev cX10_sumOfParts : ByteArray := prog_12_method_15_code
def yX10_sumOfParts : MethodName := ⟨RX10, "sumOfParts", "(I)I"⟩
abbrev cX10_rebuild : ByteArray := prog_12_method_17_code
def yX10_rebuild : MethodName := ⟨RX10, "rebuild", "(I)I"⟩
def RX11 : String := "GroundProver"
def TX11 : u_T := fun k => match k with
  | 0 => ("GroundProver", "symbols", "LGroundProver$Symbols;", true)
  | 1 => ("GroundProver", "store", "LGroundProver$TermStore;", true)
  | 2 => ("GroundProver", "walk", "LGroundProver$Walk;", true)
  | 3 => ("GroundProver", "grammar", "LGroundProver$Grammar;", true)
  | 4 => ("GroundProver", "theory", "LGroundProver$Theory;", true)
  | 5 => ("GroundProver", "reader", "LGroundProver$Reader;", true)
  | 6 => ("GroundProver", "printer", "LGroundProver$Printer;", true)
  | 7 => ("GroundProver", "search", "LGroundProver$ClassSearch;", true)
  | 8 => ("GroundProver", "matcher", "LGroundProver$Matcher;", true)
  | 9 => ("GroundProver", "numbered", "LGroundProver$Row;", true)
  | _ => ("GroundProver", "numberedCount", "I", false)
def tyX11 : Nat → FieldType := fun k => match k with
  | 0 => .object "GroundProver$Symbols"
  | 1 => .object "GroundProver$TermStore"
  | 2 => .object "GroundProver$Walk"
  | 3 => .object "GroundProver$Grammar"
  | 4 => .object "GroundProver$Theory"
  | 5 => .object "GroundProver$Reader"
  | 6 => .object "GroundProver$Printer"
  | 7 => .object "GroundProver$ClassSearch"
  | 8 => .object "GroundProver$Matcher"
  | 9 => .object "GroundProver$Row"
  | _ => .int
abbrev wsX110 : List Cond := u_ws RX11 TX11 11
theorem nmX11 : ∀ a, a < 11 → ∀ b, b < 11 → a ≠ b → (TX11 a).2.1 ≠ (TX11 b).2.1 := by decide +kernel
theorem tyX11_ok : ∀ k, k < 11 → parseFieldDescriptor (TX11 k).2.2.1 = some (tyX11 k) := by decide +kernel
abbrev cX11_init : ByteArray := prog_1_method_1_code
def yX11_init : MethodName := ⟨RX11, "<init>", "()V"⟩
abbrev cX11_feed : ByteArray := prog_1_method_2_code
def yX11_feed : MethodName := ⟨RX11, "feed", "(IIIII)I"⟩
abbrev cX11_trim : ByteArray := prog_1_method_3_code
def yX11_trim : MethodName := ⟨RX11, "trim", "(I)I"⟩
abbrev cX11_declare : ByteArray := prog_1_method_4_code
def yX11_declare : MethodName := ⟨RX11, "declare", "(II)I"⟩
abbrev cX11_orderByWeight : ByteArray := prog_1_method_7_code
def yX11_orderByWeight : MethodName := ⟨RX11, "orderByWeight", "(Z)Z"⟩
abbrev cX11_promote : ByteArray := prog_1_method_8_code
def yX11_promote : MethodName := ⟨RX11, "promote", "(II)I"⟩
abbrev cX11_rankOf : ByteArray := prog_1_method_9_code
def yX11_rankOf : MethodName := ⟨RX11, "rankOf", "(I)I"⟩
abbrev cX11_setDirection : ByteArray := prog_1_method_10_code
def yX11_setDirection : MethodName := ⟨RX11, "setDirection", "(IZ)Z"⟩
abbrev cX11_term : ByteArray := prog_1_method_11_code
def yX11_term : MethodName := ⟨RX11, "term", "(IIII)I"⟩
abbrev cX11_size : ByteArray := prog_1_method_18_code
def yX11_size : MethodName := ⟨RX11, "size", "(I)I"⟩
abbrev cX11_compare : ByteArray := prog_1_method_20_code
def yX11_compare : MethodName := ⟨RX11, "compare", "(II)I"⟩
abbrev cX11_equate : ByteArray := prog_1_method_25_code
def yX11_equate : MethodName := ⟨RX11, "equate", "(II)I"⟩
abbrev cX11_equationCount : ByteArray := prog_1_method_28_code
def yX11_equationCount : MethodName := ⟨RX11, "equationCount", "()I"⟩
abbrev cX11_push : ByteArray := prog_1_method_32_code
def yX11_push : MethodName := ⟨RX11, "push", "()I"⟩
abbrev cX11_pop : ByteArray := prog_1_method_33_code
def yX11_pop : MethodName := ⟨RX11, "pop", "()I"⟩
abbrev cX11_normalForm : ByteArray := prog_1_method_37_code
def yX11_normalForm : MethodName := ⟨RX11, "normalForm", "(I)I"⟩
abbrev cX11_areEqual : ByteArray := prog_1_method_38_code
def yX11_areEqual : MethodName := ⟨RX11, "areEqual", "(II)Z"⟩
abbrev cX11_stepCount : ByteArray := prog_1_method_40_code
def yX11_stepCount : MethodName := ⟨RX11, "stepCount", "(I)I"⟩
abbrev cX11_isTerm : ByteArray := prog_1_method_48_code
def yX11_isTerm : MethodName := ⟨RX11, "isTerm", "(I)Z"⟩
abbrev cX11_giveNumber : ByteArray := prog_1_method_49_code
def yX11_giveNumber : MethodName := ⟨RX11, "giveNumber", "(I)I"⟩
abbrev cX11_tidy : ByteArray := prog_1_method_50_code
def yX11_tidy : MethodName := ⟨RX11, "tidy", "()V"⟩
def RX12 : String := "GroundProverModel"
def TX12 : u_T := fun k => match k with
  | _ => ("", "", "", false)
def tyX12 : Nat → FieldType := fun k => match k with
  | _ => .int
abbrev wsX120 : List Cond := u_ws RX12 TX12 0
theorem nmX12 : ∀ a, a < 0 → ∀ b, b < 0 → a ≠ b → (TX12 a).2.1 ≠ (TX12 b).2.1 := by decide +kernel
theorem tyX12_ok : ∀ k, k < 0 → parseFieldDescriptor (TX12 k).2.2.1 = some (tyX12 k) := by decide +kernel
def RJx145de : String := "java/io/Serializable"
def TJx145de : u_T := fun k => match k with
  | _ => ("", "", "", false)
def tyJx145de : Nat → FieldType := fun k => match k with
  | _ => .int
abbrev wsJx145de0 : List Cond := u_ws RJx145de TJx145de 0
theorem nmJx145de : ∀ a, a < 0 → ∀ b, b < 0 → a ≠ b → (TJx145de a).2.1 ≠ (TJx145de b).2.1 := by decide +kernel
theorem tyJx145de_ok : ∀ k, k < 0 → parseFieldDescriptor (TJx145de k).2.2.1 = some (tyJx145de k) := by decide +kernel
def RJ9 : String := "java/lang/Math"
def TJ9 : u_T := fun k => match k with
  | _ => ("", "", "", false)
def tyJ9 : Nat → FieldType := fun k => match k with
  | _ => .int
abbrev wsJ90 : List Cond := u_ws RJ9 TJ9 0
theorem nmJ9 : ∀ a, a < 0 → ∀ b, b < 0 → a ≠ b → (TJ9 a).2.1 ≠ (TJ9 b).2.1 := by decide +kernel
theorem tyJ9_ok : ∀ k, k < 0 → parseFieldDescriptor (TJ9 k).2.2.1 = some (tyJ9 k) := by decide +kernel
abbrev cJ9_max_7cf53 : ByteArray := prog_20_method_65_code
def yJ9_max_7cf53 : MethodName := ⟨RJ9, "max", "(II)I"⟩
abbrev cJ9_min_7cf53 : ByteArray := prog_20_method_69_code
def yJ9_min_7cf53 : MethodName := ⟨RJ9, "min", "(II)I"⟩
def RJ0 : String := "java/lang/String"
def TJ0 : u_T := fun k => match k with
  | 0 => ("java/lang/String", "value", "[B", true)
  | _ => ("java/lang/String", "coder", "B", true)
def tyJ0 : Nat → FieldType := fun k => match k with
  | 0 => .array .byte
  | _ => .byte
abbrev wsJ00 : List Cond := u_ws RJ0 TJ0 2
theorem nmJ0 : ∀ a, a < 2 → ∀ b, b < 2 → a ≠ b → (TJ0 a).2.1 ≠ (TJ0 b).2.1 := by decide +kernel
theorem tyJ0_ok : ∀ k, k < 2 → parseFieldDescriptor (TJ0 k).2.2.1 = some (tyJ0 k) := by decide +kernel
def RL : String := "GroundProverLaw"
abbrev cL_below : ByteArray := method_2_code
def yL_below : MethodName := ⟨RL, "below", "(II)I"⟩
abbrev cL_cell : ByteArray := method_3_code
def yL_cell : MethodName := ⟨RL, "cell", "([II)I"⟩
abbrev cL_declare : ByteArray := method_4_code
def yL_declare : MethodName := ⟨RL, "declare", "(LGroundProver;CII)I"⟩
abbrev cL_setUp : ByteArray := method_5_code
def yL_setUp : MethodName := ⟨RL, "setUp", "(LGroundProver;I)Z"⟩
abbrev cL_build : ByteArray := method_6_code
def yL_build : MethodName := ⟨RL, "build", "(LGroundProver;[II[I[I[I)V"⟩
abbrev cL_equate : ByteArray := method_7_code
def yL_equate : MethodName := ⟨RL, "equate", "(LGroundProver;II)I"⟩
abbrev cL_normal : ByteArray := method_8_code
def yL_normal : MethodName := ⟨RL, "normal", "(LGroundProver;I)I"⟩
abbrev cL_close : ByteArray := method_9_code
def yL_close : MethodName := ⟨RL, "close", "([I[I[I[I[III[I)V"⟩
abbrev cL_unite : ByteArray := method_10_code
def yL_unite : MethodName := ⟨RL, "unite", "([III)V"⟩
abbrev cL_pop : ByteArray := method_11_code
def yL_pop : MethodName := ⟨RL, "pop", "(LGroundProver;)I"⟩
abbrev cL_law : ByteArray := code
def yL_law : MethodName := ⟨RL, "law", "([I)Z"⟩
end
section
section VWd
abbrev g_nm : List String := ["java/lang/RuntimeException", "java/lang/Exception"]
abbrev g_ISE : String := "java/lang/IllegalStateException"
abbrev g_ARE : String := "java/lang/ArithmeticException"
def gW_0 : List Cond := [Cond.selects RX11 yX11_isTerm yX11_isTerm, Cond.selects RX10 yX10_firstUnlisted yX10_firstUnlisted, Cond.selects RX2 yX2_linkUsers yX2_linkUsers, Cond.selects RX2 yX2_enter yX2_enter, Cond.selects RX2 yX2_isBefore yX2_isBefore, Cond.selects RX2 yX2_takeLeast yX2_takeLeast, Cond.selects RX2 yX2_isReadyAfter yX2_isReadyAfter, Cond.selects RX11 yX11_tidy yX11_tidy, Cond.selects RX8 yX8_bucketOf yX8_bucketOf, Cond.selects RX8 yX8_keep yX8_keep, Cond.selects RX8 yX8_extentOver yX8_extentOver, Cond.selects RX9 yX9_ruleFor yX9_ruleFor, Cond.selects RX5 yX5_isLetter yX5_isLetter, Cond.selects RX5 yX5_isNamePart yX5_isNamePart, Cond.selects RX7 yX7_isNameAt yX7_isNameAt, Cond.selects RX11 yX11_giveNumber yX11_giveNumber, Cond.selects RX9 yX9_gather yX9_gather, Cond.selects RX1 yX1_joinTwins yX1_joinTwins, Cond.selects RX1 yX1_bucketOf yX1_bucketOf, Cond.selects RX1 yX1_areTwins yX1_areTwins, Cond.selects RX9 yX9_isTooLargeSide yX9_isTooLargeSide, Cond.selects RX9 yX9_takeRules yX9_takeRules, Cond.selects RX9 yX9_addRule yX9_addRule, Cond.initialized RL, Cond.initialized RX11]
def gW_1 : List Cond := [Cond.initialized RX7, Cond.initialized RX8, Cond.initialized RX6, Cond.initialized "java/lang/Math", Cond.initialized RX10, Cond.initialized RX2, Cond.initialized RX9, Cond.initialized RX1, Cond.initialized RX5, Cond.initialized g_ISE, Cond.initialized g_ARE, Cond.fieldLink RX7 9 "GroundProver$Symbols" "names" "[B", Cond.fieldLink RX7 15 "GroundProver$Symbols" "lengths" "[I", Cond.fieldLink RX7 19 "GroundProver$Symbols" "arities" "[I", Cond.fieldLink RX7 22 "GroundProver$Symbols" "weights" "[I", Cond.fieldLink RX7 25 "GroundProver$Symbols" "ranks" "[I", Cond.fieldLink RX7 28 "GroundProver$Symbols" "ordinals" "[I", Cond.fieldLink RX7 31 "GroundProver$Symbols" "directions" "[Z", Cond.fieldLink RX7 35 "GroundProver$Symbols" "count" "I", Cond.fieldLink RX7 58 "GroundProver$Symbols" "isByWeight" "Z", Cond.fieldLink RX7 62 "GroundProver$Symbols" "isOrderFixed" "Z", Cond.arrayClass .byte, Cond.arrayClass .int, Cond.arrayClass .boolean, Cond.constant RX8 11 524288]
def gW_2 : List Cond := [Cond.static Lib.Math.max.name, Cond.code Lib.Math.max.name Lib.Math.max.code 2 (some .int), Cond.fieldLink RX8 46 "GroundProver$TermStore" "symbols" "LGroundProver$Symbols;", Cond.fieldLink RX8 15 "GroundProver$TermStore" "signs" "LGroundProver$Row;", Cond.fieldLink RX8 22 "GroundProver$TermStore" "parts" "LGroundProver$Row;", Cond.fieldLink RX8 25 "GroundProver$TermStore" "extents" "LGroundProver$Row;", Cond.fieldLink RX8 28 "GroundProver$TermStore" "numbers" "LGroundProver$Row;", Cond.fieldLink RX8 31 "GroundProver$TermStore" "links" "LGroundProver$Row;", Cond.fieldLink RX8 35 "GroundProver$TermStore" "buckets" "LGroundProver$Row;", Cond.fieldLink RX8 76 "GroundProver$TermStore" "top" "I", Cond.fieldLink RX8 88 "GroundProver$TermStore" "used" "I", Cond.fieldLink RX8 85 "GroundProver$TermStore" "freeLink" "I", Cond.fieldLink RX8 42 "GroundProver$TermStore" "crowd" "I", Cond.fieldLink RX10 35 "GroundProver$Walk" "store" "LGroundProver$TermStore;", Cond.fieldLink RX10 15 "GroundProver$Walk" "slots" "LGroundProver$Row;", Cond.fieldLink RX10 22 "GroundProver$Walk" "nodes" "LGroundProver$Row;", Cond.fieldLink RX10 25 "GroundProver$Walk" "values" "LGroundProver$Row;", Cond.fieldLink RX10 28 "GroundProver$Walk" "tallies" "LGroundProver$Row;", Cond.fieldLink RX10 31 "GroundProver$Walk" "open" "[I", Cond.fieldLink RX10 39 "GroundProver$Walk" "count" "I", Cond.fieldLink RX2 61 "GroundProver$Grammar" "symbols" "LGroundProver$Symbols;", Cond.fieldLink RX2 15 "GroundProver$Grammar" "owners" "LGroundProver$Row;", Cond.fieldLink RX2 21 "GroundProver$Grammar" "signs" "LGroundProver$Row;", Cond.fieldLink RX2 25 "GroundProver$Grammar" "parts" "LGroundProver$Row;", Cond.fieldLink RX2 28 "GroundProver$Grammar" "waits" "LGroundProver$Row;"]
def gW_3 : List Cond := [Cond.fieldLink RX2 31 "GroundProver$Grammar" "users" "LGroundProver$Row;", Cond.fieldLink RX2 34 "GroundProver$Grammar" "nextUsers" "LGroundProver$Row;", Cond.fieldLink RX2 37 "GroundProver$Grammar" "weights" "LGroundProver$Row;", Cond.fieldLink RX2 40 "GroundProver$Grammar" "sizes" "LGroundProver$Row;", Cond.fieldLink RX2 43 "GroundProver$Grammar" "depths" "LGroundProver$Row;", Cond.fieldLink RX2 46 "GroundProver$Grammar" "heap" "LGroundProver$Row;", Cond.fieldLink RX2 49 "GroundProver$Grammar" "chosen" "LGroundProver$Row;", Cond.fieldLink RX2 52 "GroundProver$Grammar" "positions" "LGroundProver$Row;", Cond.fieldLink RX2 55 "GroundProver$Grammar" "sequence" "LGroundProver$Row;", Cond.fieldLink RX2 58 "GroundProver$Grammar" "nodes" "LGroundProver$Row;", Cond.fieldLink RX2 65 "GroundProver$Grammar" "classCount" "I", Cond.fieldLink RX2 69 "GroundProver$Grammar" "count" "I", Cond.fieldLink RX2 119 "GroundProver$Grammar" "heapCount" "I", Cond.fieldLink RX2 113 "GroundProver$Grammar" "sequenceCount" "I", Cond.fieldLink RX2 116 "GroundProver$Grammar" "mode" "I", Cond.fieldLink RX1 43 "GroundProver$Closure" "store" "LGroundProver$TermStore;", Cond.fieldLink RX1 47 "GroundProver$Closure" "walk" "LGroundProver$Walk;", Cond.fieldLink RX1 15 "GroundProver$Closure" "leaders" "LGroundProver$Row;", Cond.fieldLink RX1 21 "GroundProver$Closure" "nextMembers" "LGroundProver$Row;", Cond.fieldLink RX1 24 "GroundProver$Closure" "memberCounts" "LGroundProver$Row;", Cond.fieldLink RX1 27 "GroundProver$Closure" "twins" "LGroundProver$Row;", Cond.fieldLink RX1 30 "GroundProver$Closure" "signs" "LGroundProver$Row;", Cond.fieldLink RX1 34 "GroundProver$Closure" "parts" "LGroundProver$Row;", Cond.fieldLink RX1 37 "GroundProver$Closure" "buckets" "LGroundProver$Row;", Cond.fieldLink RX1 40 "GroundProver$Closure" "links" "LGroundProver$Row;"]
def gW_4 : List Cond := [Cond.fieldLink RX1 51 "GroundProver$Closure" "bucketCount" "I", Cond.fieldLink RX9 46 "GroundProver$Theory" "symbols" "LGroundProver$Symbols;", Cond.fieldLink RX9 50 "GroundProver$Theory" "store" "LGroundProver$TermStore;", Cond.fieldLink RX9 54 "GroundProver$Theory" "walk" "LGroundProver$Walk;", Cond.fieldLink RX9 58 "GroundProver$Theory" "grammar" "LGroundProver$Grammar;", Cond.fieldLink RX9 67 "GroundProver$Theory" "closure" "LGroundProver$Closure;", Cond.fieldLink RX9 9 "GroundProver$Theory" "equationLefts" "[I", Cond.fieldLink RX9 15 "GroundProver$Theory" "equationRights" "[I", Cond.fieldLink RX9 71 "GroundProver$Theory" "equationCount" "I", Cond.fieldLink RX11 298 "GroundProver$Theory" "equationCount" "I", Cond.fieldLink RX9 75 "GroundProver$Theory" "separationCount" "I", Cond.fieldLink RX11 309 "GroundProver$Theory" "separationCount" "I", Cond.fieldLink RX9 24 "GroundProver$Theory" "levelEquations" "[I", Cond.fieldLink RX9 27 "GroundProver$Theory" "levelSeparations" "[I", Cond.fieldLink RX9 85 "GroundProver$Theory" "levelCount" "I", Cond.fieldLink RX11 354 "GroundProver$Theory" "levelCount" "I", Cond.fieldLink RX9 30 "GroundProver$Theory" "ruleLefts" "[I", Cond.fieldLink RX9 33 "GroundProver$Theory" "ruleRights" "[I", Cond.fieldLink RX9 42 "GroundProver$Theory" "ruleHints" "LGroundProver$Row;", Cond.fieldLink RX9 168 "GroundProver$Theory" "ruleCount" "I", Cond.fieldLink RX5 42 "GroundProver$Reader" "symbols" "LGroundProver$Symbols;", Cond.fieldLink RX5 9 "GroundProver$Reader" "input" "[B", Cond.fieldLink RX5 50 "GroundProver$Reader" "length" "I", Cond.arrayClass .long, Cond.fieldLink RX11 10 "GroundProver" "symbols" "LGroundProver$Symbols;"]
def gW_5 : List Cond := [Cond.fieldLink RX11 21 "GroundProver" "store" "LGroundProver$TermStore;", Cond.fieldLink RX11 30 "GroundProver" "walk" "LGroundProver$Walk;", Cond.fieldLink RX11 37 "GroundProver" "grammar" "LGroundProver$Grammar;", Cond.fieldLink RX11 46 "GroundProver" "theory" "LGroundProver$Theory;", Cond.fieldLink RX11 55 "GroundProver" "reader" "LGroundProver$Reader;", Cond.fieldLink RX11 90 "GroundProver" "numbered" "LGroundProver$Row;", Cond.fieldLink RX11 231 "GroundProver" "numberedCount" "I", Cond.methodLink RX11 194 yX11_isTerm, Cond.instanceMethod yX11_isTerm, Cond.code yX11_isTerm cX11_isTerm 2 (some .boolean), Cond.methodLink RX11 253 yX10_clear, Cond.instanceMethod yX10_clear, Cond.selects RX10 yX10_clear yX10_clear, Cond.code yX10_clear cX10_clear 1 none, Cond.methodLink RX11 202 yX6_get, Cond.instanceMethod yX6_get, Cond.selects RX6 yX6_get yX6_get, Cond.code yX6_get cX6_get 3 (some .int), Cond.methodLink RX11 256 yX10_add, Cond.instanceMethod yX10_add, Cond.selects RX10 yX10_add yX10_add, Cond.code yX10_add cX10_add 5 none, Cond.methodLink RX10 57 yX10_indexOf, Cond.instanceMethod yX10_indexOf, Cond.selects RX10 yX10_indexOf yX10_indexOf]
def gW_6 : List Cond := [Cond.code yX10_indexOf cX10_indexOf 3 (some .int), Cond.methodLink RX10 43 yX6_get, Cond.constant RX10 60 1048576, Cond.methodLink RX10 61 yX10_firstUnlisted, Cond.instanceMethod yX10_firstUnlisted, Cond.code yX10_firstUnlisted cX10_firstUnlisted 4 (some .int), Cond.methodLink RX10 67 yX8_arity, Cond.instanceMethod yX8_arity, Cond.selects RX8 yX8_arity yX8_arity, Cond.code yX8_arity cX8_arity 2 (some .int), Cond.methodLink RX8 50 yX6_get, Cond.methodLink RX8 54 yX7_arity, Cond.instanceMethod yX7_arity, Cond.selects RX7 yX7_arity yX7_arity, Cond.code yX7_arity cX7_arity 2 (some .int), Cond.methodLink RX10 51 yX8_part, Cond.instanceMethod yX8_part, Cond.selects RX8 yX8_part yX8_part, Cond.code yX8_part cX8_part 3 (some .int), Cond.methodLink RX10 64 yX10_append, Cond.instanceMethod yX10_append, Cond.selects RX10 yX10_append yX10_append, Cond.code yX10_append cX10_append 2 none, Cond.methodLink RX10 47 yX6_set, Cond.instanceMethod yX6_set]
def gW_7 : List Cond := [Cond.selects RX6 yX6_set yX6_set, Cond.code yX6_set cX6_set 4 none, Cond.methodLink RX11 258 yX2_takeTerms, Cond.instanceMethod yX2_takeTerms, Cond.selects RX2 yX2_takeTerms yX2_takeTerms, Cond.code yX2_takeTerms cX2_takeTerms 6 none, Cond.methodLink RX2 85 yX10_count, Cond.instanceMethod yX10_count, Cond.selects RX10 yX10_count yX10_count, Cond.code yX10_count cX10_count 1 (some .int), Cond.methodLink RX2 90 yX2_clear, Cond.instanceMethod yX2_clear, Cond.selects RX2 yX2_clear yX2_clear, Cond.code yX2_clear cX2_clear 2 none, Cond.methodLink RX2 93 yX10_node, Cond.instanceMethod yX10_node, Cond.selects RX10 yX10_node yX10_node, Cond.code yX10_node cX10_node 2 (some .int), Cond.methodLink RX2 96 yX8_symbol, Cond.instanceMethod yX8_symbol, Cond.selects RX8 yX8_symbol yX8_symbol, Cond.code yX8_symbol cX8_symbol 2 (some .int), Cond.methodLink RX2 101 yX2_addProduction, Cond.instanceMethod yX2_addProduction, Cond.selects RX2 yX2_addProduction yX2_addProduction]
def gW_8 : List Cond := [Cond.code yX2_addProduction cX2_addProduction 4 (some .int), Cond.methodLink RX2 72 yX6_set, Cond.methodLink RX2 105 yX2_arity, Cond.instanceMethod yX2_arity, Cond.selects RX2 yX2_arity yX2_arity, Cond.code yX2_arity cX2_arity 2 (some .int), Cond.methodLink RX2 76 yX6_get, Cond.methodLink RX2 80 yX7_arity, Cond.methodLink RX2 106 yX10_partOf, Cond.instanceMethod yX10_partOf, Cond.selects RX10 yX10_partOf yX10_partOf, Cond.code yX10_partOf cX10_partOf 3 (some .int), Cond.methodLink RX2 109 yX2_setPart, Cond.instanceMethod yX2_setPart, Cond.selects RX2 yX2_setPart yX2_setPart, Cond.code yX2_setPart cX2_setPart 4 none, Cond.methodLink RX11 262 yX7_orderMode, Cond.instanceMethod yX7_orderMode, Cond.selects RX7 yX7_orderMode yX7_orderMode, Cond.code yX7_orderMode cX7_orderMode 1 (some .int), Cond.methodLink RX11 265 yX2_rank, Cond.instanceMethod yX2_rank, Cond.selects RX2 yX2_rank yX2_rank, Cond.code yX2_rank cX2_rank 7 none, Cond.methodLink RX2 122 yX2_linkUsers]
def gW_9 : List Cond := [Cond.instanceMethod yX2_linkUsers, Cond.code yX2_linkUsers cX2_linkUsers 5 none, Cond.methodLink RX2 125 yX2_enter, Cond.instanceMethod yX2_enter, Cond.code yX2_enter cX2_enter 8 none, Cond.methodLink RX2 135 yX7_weight, Cond.instanceMethod yX7_weight, Cond.selects RX7 yX7_weight yX7_weight, Cond.code yX7_weight cX7_weight 2 (some .int), Cond.methodLink RX2 138 Lib.Math.max.name, Cond.constant RX2 143 1048575, Cond.methodLink RX2 144 Lib.Math.min.name, Cond.static Lib.Math.min.name, Cond.code Lib.Math.min.name Lib.Math.min.code 2 (some .int), Cond.methodLink RX2 147 yX2_isBefore, Cond.instanceMethod yX2_isBefore, Cond.code yX2_isBefore cX2_isBefore 10 (some .boolean), Cond.methodLink RX2 151 yX7_rank, Cond.instanceMethod yX7_rank, Cond.selects RX7 yX7_rank yX7_rank, Cond.code yX7_rank cX7_rank 2 (some .int), Cond.methodLink RX2 154 yX7_isFromRight, Cond.instanceMethod yX7_isFromRight, Cond.selects RX7 yX7_isFromRight yX7_isFromRight, Cond.code yX7_isFromRight cX7_isFromRight 2 (some .boolean)]
def gW_10 : List Cond := [Cond.methodLink RX2 128 yX2_takeLeast, Cond.instanceMethod yX2_takeLeast, Cond.code yX2_takeLeast cX2_takeLeast 6 (some .int), Cond.methodLink RX2 131 yX2_isReadyAfter, Cond.instanceMethod yX2_isReadyAfter, Cond.code yX2_isReadyAfter cX2_isReadyAfter 3 (some .boolean), Cond.methodLink RX11 267 yX10_indexOf, Cond.methodLink RX11 270 yX2_position, Cond.instanceMethod yX2_position, Cond.selects RX2 yX2_position yX2_position, Cond.code yX2_position cX2_position 2 (some .int), Cond.classLink RX11 98 g_ISE, Cond.methodLink RX11 359 yX9_openLevel, Cond.instanceMethod yX9_openLevel, Cond.selects RX9 yX9_openLevel yX9_openLevel, Cond.code yX9_openLevel cX9_openLevel 1 none, Cond.methodLink RX11 199 yX11_tidy, Cond.instanceMethod yX11_tidy, Cond.code yX11_tidy cX11_tidy 2 none, Cond.methodLink RX11 454 yX8_isCrowded, Cond.instanceMethod yX8_isCrowded, Cond.selects RX8 yX8_isCrowded yX8_isCrowded, Cond.code yX8_isCrowded cX8_isCrowded 1 (some .boolean), Cond.methodLink RX8 68 yX6_set, Cond.methodLink RX8 72 yX8_bucketOf]
def gW_11 : List Cond := [Cond.instanceMethod yX8_bucketOf, Cond.code yX8_bucketOf cX8_bucketOf 6 (some .int), Cond.constant RX8 83 131071, Cond.constant RX8 84 739982445, Cond.methodLink RX11 383 yX9_makesEqual, Cond.instanceMethod yX9_makesEqual, Cond.selects RX9 yX9_makesEqual yX9_makesEqual, Cond.code yX9_makesEqual cX9_makesEqual 3 (some .boolean), Cond.methodLink RX9 217 yX9_normalize, Cond.instanceMethod yX9_normalize, Cond.selects RX9 yX9_normalize yX9_normalize, Cond.code yX9_normalize cX9_normalize 5 (some .int), Cond.methodLink RX9 133 yX10_clear, Cond.methodLink RX9 138 yX10_add, Cond.methodLink RX9 193 yX10_count, Cond.methodLink RX9 196 yX10_rebuild, Cond.instanceMethod yX10_rebuild, Cond.selects RX10 yX10_rebuild yX10_rebuild, Cond.code yX10_rebuild cX10_rebuild 7 (some .int), Cond.methodLink RX10 79 yX10_partOf, Cond.methodLink RX10 85 yX8_symbol, Cond.methodLink RX10 88 yX8_make, Cond.instanceMethod yX8_make, Cond.selects RX8 yX8_make yX8_make, Cond.code yX8_make cX8_make 9 (some .int)]
def gW_12 : List Cond := [Cond.methodLink RX8 79 yX8_keep, Cond.instanceMethod yX8_keep, Cond.code yX8_keep cX8_keep 8 (some .int), Cond.methodLink RX8 59 yX7_variableOrdinal, Cond.instanceMethod yX7_variableOrdinal, Cond.selects RX7 yX7_variableOrdinal yX7_variableOrdinal, Cond.code yX7_variableOrdinal cX7_variableOrdinal 2 (some .int), Cond.methodLink RX8 91 yX8_extentOver, Cond.instanceMethod yX8_extentOver, Cond.code yX8_extentOver cX8_extentOver 8 (some .int), Cond.constant RX8 94 4194303, Cond.methodLink RX8 95 Lib.Math.min.name, Cond.methodLink RX8 101 Lib.Math.max.name, Cond.methodLink RX9 199 yX9_ruleFor, Cond.instanceMethod yX9_ruleFor, Cond.code yX9_ruleFor cX9_ruleFor 3 (some .int), Cond.methodLink RX9 190 yX6_get, Cond.methodLink RX9 202 yX9_rightSide, Cond.instanceMethod yX9_rightSide, Cond.selects RX9 yX9_rightSide yX9_rightSide, Cond.code yX9_rightSide cX9_rightSide 2 (some .int), Cond.methodLink RX9 205 yX10_setValue, Cond.instanceMethod yX10_setValue, Cond.selects RX10 yX10_setValue yX10_setValue, Cond.code yX10_setValue cX10_setValue 3 none]
def gW_13 : List Cond := [Cond.methodLink RX9 208 yX10_sumOfParts, Cond.instanceMethod yX10_sumOfParts, Cond.selects RX10 yX10_sumOfParts yX10_sumOfParts, Cond.code yX10_sumOfParts cX10_sumOfParts 4 (some .int), Cond.methodLink RX9 211 yX10_setTally, Cond.instanceMethod yX10_setTally, Cond.selects RX10 yX10_setTally yX10_setTally, Cond.code yX10_setTally cX10_setTally 3 none, Cond.methodLink RX9 214 yX10_value, Cond.instanceMethod yX10_value, Cond.selects RX10 yX10_value yX10_value, Cond.code yX10_value cX10_value 2 (some .int), Cond.methodLink RX11 393 yX9_countSteps, Cond.instanceMethod yX9_countSteps, Cond.selects RX9 yX9_countSteps yX9_countSteps, Cond.code yX9_countSteps cX9_countSteps 2 (some .int), Cond.methodLink RX9 223 yX10_tally, Cond.instanceMethod yX10_tally, Cond.selects RX10 yX10_tally yX10_tally, Cond.code yX10_tally cX10_tally 2 (some .int), Cond.methodLink RL 23 yL_below, Cond.static yL_below, Cond.code yL_below cL_below 2 (some .int), Cond.constant RL 7 2147483647, Cond.methodLink RL 45 yL_cell]
def gW_14 : List Cond := [Cond.static yL_cell, Cond.code yL_cell cL_cell 2 (some .int), Cond.constant RL 8 790386105, Cond.methodLink RL 28 yL_declare, Cond.static yL_declare, Cond.code yL_declare cL_declare 5 (some .int), Cond.methodLink RL 9 yX11_feed, Cond.instanceMethod yX11_feed, Cond.selects RX11 yX11_feed yX11_feed, Cond.code yX11_feed cX11_feed 6 (some .int), Cond.methodLink RX11 94 yX5_length, Cond.instanceMethod yX5_length, Cond.selects RX5 yX5_length yX5_length, Cond.code yX5_length cX5_length 1 (some .int), Cond.methodLink RX11 105 yX5_append, Cond.instanceMethod yX5_append, Cond.selects RX5 yX5_append yX5_append, Cond.code yX5_append cX5_append 3 none, Cond.methodLink RL 15 yX11_trim, Cond.instanceMethod yX11_trim, Cond.selects RX11 yX11_trim yX11_trim, Cond.code yX11_trim cX11_trim 2 (some .int), Cond.methodLink RX11 113 yX5_shorten, Cond.instanceMethod yX5_shorten, Cond.selects RX5 yX5_shorten yX5_shorten]
def gW_15 : List Cond := [Cond.code yX5_shorten cX5_shorten 2 none, Cond.methodLink RL 19 yX11_declare, Cond.instanceMethod yX11_declare, Cond.selects RX11 yX11_declare yX11_declare, Cond.code yX11_declare cX11_declare 6 (some .int), Cond.methodLink RX11 116 yX5_holdsName, Cond.instanceMethod yX5_holdsName, Cond.selects RX5 yX5_holdsName yX5_holdsName, Cond.code yX5_holdsName cX5_holdsName 2 (some .boolean), Cond.methodLink RX5 59 yX5_isLetter, Cond.instanceMethod yX5_isLetter, Cond.code yX5_isLetter cX5_isLetter 2 (some .boolean), Cond.methodLink RX5 63 yX5_isNamePart, Cond.instanceMethod yX5_isNamePart, Cond.code yX5_isNamePart cX5_isNamePart 2 (some .boolean), Cond.methodLink RX11 120 yX5_heldSymbol, Cond.instanceMethod yX5_heldSymbol, Cond.selects RX5 yX5_heldSymbol yX5_heldSymbol, Cond.code yX5_heldSymbol cX5_heldSymbol 1 (some .int), Cond.methodLink RX5 66 yX7_find, Cond.instanceMethod yX7_find, Cond.selects RX7 yX7_find yX7_find, Cond.code yX7_find cX7_find 5 (some .int), Cond.methodLink RX7 46 yX7_isNameAt, Cond.instanceMethod yX7_isNameAt]
def gW_16 : List Cond := [Cond.code yX7_isNameAt cX7_isNameAt 6 (some .boolean), Cond.methodLink RX7 50 yX7_nameLength, Cond.instanceMethod yX7_nameLength, Cond.selects RX7 yX7_nameLength yX7_nameLength, Cond.code yX7_nameLength cX7_nameLength 2 (some .int), Cond.methodLink RX7 54 yX7_nameByte, Cond.instanceMethod yX7_nameByte, Cond.selects RX7 yX7_nameByte yX7_nameByte, Cond.code yX7_nameByte cX7_nameByte 4 (some .byte), Cond.methodLink RX11 123 yX5_drain, Cond.instanceMethod yX5_drain, Cond.selects RX5 yX5_drain yX5_drain, Cond.code yX5_drain cX5_drain 2 (some .int), Cond.methodLink RX11 128 yX7_isFull, Cond.instanceMethod yX7_isFull, Cond.selects RX7 yX7_isFull yX7_isFull, Cond.code yX7_isFull cX7_isFull 1 (some .boolean), Cond.methodLink RX11 133 yX5_bytes, Cond.instanceMethod yX5_bytes, Cond.selects RX5 yX5_bytes yX5_bytes, Cond.code yX5_bytes cX5_bytes 1 (some (.array .byte)), Cond.methodLink RX11 137 yX7_add, Cond.instanceMethod yX7_add, Cond.selects RX7 yX7_add yX7_add, Cond.code yX7_add cX7_add 7 (some .int)]
def gW_17 : List Cond := [Cond.methodLink RL 31 yX11_orderByWeight, Cond.instanceMethod yX11_orderByWeight, Cond.selects RX11 yX11_orderByWeight yX11_orderByWeight, Cond.code yX11_orderByWeight cX11_orderByWeight 3 (some .boolean), Cond.methodLink RX11 153 yX7_isOrderFixed, Cond.instanceMethod yX7_isOrderFixed, Cond.selects RX7 yX7_isOrderFixed yX7_isOrderFixed, Cond.code yX7_isOrderFixed cX7_isOrderFixed 1 (some .boolean), Cond.methodLink RX11 158 yX7_isByWeight, Cond.instanceMethod yX7_isByWeight, Cond.selects RX7 yX7_isByWeight yX7_isByWeight, Cond.code yX7_isByWeight cX7_isByWeight 1 (some .boolean), Cond.methodLink RX11 161 yX7_chooseOrder, Cond.instanceMethod yX7_chooseOrder, Cond.selects RX7 yX7_chooseOrder yX7_chooseOrder, Cond.code yX7_chooseOrder cX7_chooseOrder 2 none, Cond.methodLink RL 35 yX11_setDirection, Cond.instanceMethod yX11_setDirection, Cond.selects RX11 yX11_setDirection yX11_setDirection, Cond.code yX11_setDirection cX11_setDirection 4 (some .boolean), Cond.methodLink RX11 165 yX7_has, Cond.instanceMethod yX7_has, Cond.selects RX7 yX7_has yX7_has, Cond.code yX7_has cX7_has 2 (some .boolean), Cond.methodLink RX11 184 yX7_isFromRight]
def gW_18 : List Cond := [Cond.methodLink RX11 187 yX7_direct, Cond.instanceMethod yX7_direct, Cond.selects RX7 yX7_direct yX7_direct, Cond.code yX7_direct cX7_direct 3 none, Cond.methodLink RL 39 yX11_promote, Cond.instanceMethod yX11_promote, Cond.selects RX11 yX11_promote yX11_promote, Cond.code yX11_promote cX11_promote 4 (some .int), Cond.methodLink RX11 174 yX7_rank, Cond.methodLink RX11 178 yX7_moveTo, Cond.instanceMethod yX7_moveTo, Cond.selects RX7 yX7_moveTo yX7_moveTo, Cond.code yX7_moveTo cX7_moveTo 5 none, Cond.methodLink RL 42 yX11_rankOf, Cond.instanceMethod yX11_rankOf, Cond.selects RX11 yX11_rankOf yX11_rankOf, Cond.code yX11_rankOf cX11_rankOf 2 (some .int), Cond.methodLink RL 49 Lib.Math.max.name, Cond.methodLink RL 54 yX11_size, Cond.instanceMethod yX11_size, Cond.selects RX11 yX11_size yX11_size, Cond.code yX11_size cX11_size 2 (some .int), Cond.methodLink RX11 247 yX8_width, Cond.instanceMethod yX8_width, Cond.selects RX8 yX8_width yX8_width]
def gW_19 : List Cond := [Cond.code yX8_width cX8_width 2 (some .int), Cond.methodLink RL 57 yX11_term, Cond.instanceMethod yX11_term, Cond.selects RX11 yX11_term yX11_term, Cond.code yX11_term cX11_term 7 (some .int), Cond.methodLink RX11 191 yX7_arity, Cond.methodLink RX11 205 yX8_make, Cond.methodLink RX11 209 yX8_isTooLarge, Cond.instanceMethod yX8_isTooLarge, Cond.selects RX8 yX8_isTooLarge yX8_isTooLarge, Cond.code yX8_isTooLarge cX8_isTooLarge 2 (some .boolean), Cond.methodLink RX8 62 yX8_width, Cond.methodLink RX8 65 yX8_height, Cond.instanceMethod yX8_height, Cond.selects RX8 yX8_height yX8_height, Cond.code yX8_height cX8_height 2 (some .int), Cond.classLink RX11 212 g_ARE, Cond.methodLink RX11 217 yX11_giveNumber, Cond.instanceMethod yX11_giveNumber, Cond.code yX11_giveNumber cX11_giveNumber 3 (some .int), Cond.methodLink RX11 445 yX8_number, Cond.instanceMethod yX8_number, Cond.selects RX8 yX8_number yX8_number, Cond.code yX8_number cX8_number 2 (some .int), Cond.methodLink RX11 448 yX8_setNumber]
def gW_20 : List Cond := [Cond.instanceMethod yX8_setNumber, Cond.selects RX8 yX8_setNumber yX8_setNumber, Cond.code yX8_setNumber cX8_setNumber 3 none, Cond.methodLink RX11 451 yX6_set, Cond.methodLink RX11 343 yX7_fixOrder, Cond.instanceMethod yX7_fixOrder, Cond.selects RX7 yX7_fixOrder yX7_fixOrder, Cond.code yX7_fixOrder cX7_fixOrder 1 none, Cond.classLink RL 64 g_ARE, Cond.classLink RL 66 g_ISE, Cond.methodLink RL 61 yX11_equate, Cond.instanceMethod yX11_equate, Cond.selects RX11 yX11_equate yX11_equate, Cond.code yX11_equate cX11_equate 3 (some .int), Cond.methodLink RX11 293 yX8_isGround, Cond.instanceMethod yX8_isGround, Cond.selects RX8 yX8_isGround yX8_isGround, Cond.code yX8_isGround cX8_isGround 2 (some .boolean), Cond.methodLink RX11 303 yX9_addEquation, Cond.instanceMethod yX9_addEquation, Cond.selects RX9 yX9_addEquation yX9_addEquation, Cond.code yX9_addEquation cX9_addEquation 3 none, Cond.methodLink RX11 306 yX9_complete, Cond.instanceMethod yX9_complete, Cond.selects RX9 yX9_complete yX9_complete]
def gW_21 : List Cond := [Cond.code yX9_complete cX9_complete 4 (some .boolean), Cond.methodLink RX9 91 yX9_gather, Cond.instanceMethod yX9_gather, Cond.code yX9_gather cX9_gather 5 none, Cond.methodLink RX9 141 yX1_start, Cond.instanceMethod yX1_start, Cond.selects RX1 yX1_start yX1_start, Cond.code yX1_start cX1_start 3 none, Cond.methodLink RX1 55 yX10_count, Cond.methodLink RX1 61 yX6_set, Cond.methodLink RX1 65 yX10_node, Cond.methodLink RX1 69 yX8_symbol, Cond.methodLink RX1 74 yX10_partOf, Cond.methodLink RX9 144 yX10_indexOf, Cond.methodLink RX9 147 yX1_join, Cond.instanceMethod yX1_join, Cond.selects RX1 yX1_join yX1_join, Cond.code yX1_join cX1_join 7 none, Cond.methodLink RX1 78 yX6_get, Cond.methodLink RX9 95 yX1_close, Cond.instanceMethod yX1_close, Cond.selects RX1 yX1_close yX1_close, Cond.code yX1_close cX1_close 2 none, Cond.methodLink RX1 81 yX1_joinTwins, Cond.instanceMethod yX1_joinTwins]
def gW_22 : List Cond := [Cond.code yX1_joinTwins cX1_joinTwins 6 (some .boolean), Cond.methodLink RX1 85 yX1_bucketOf, Cond.instanceMethod yX1_bucketOf, Cond.code yX1_bucketOf cX1_bucketOf 4 (some .int), Cond.constant RX1 95 739982445, Cond.methodLink RX1 88 yX1_areTwins, Cond.instanceMethod yX1_areTwins, Cond.code yX1_areTwins cX1_areTwins 5 (some .boolean), Cond.methodLink RX1 92 yX1_join, Cond.methodLink RX9 98 yX1_pourInto, Cond.instanceMethod yX1_pourInto, Cond.selects RX1 yX1_pourInto yX1_pourInto, Cond.code yX1_pourInto cX1_pourInto 5 none, Cond.methodLink RX1 96 yX2_clear, Cond.methodLink RX1 101 yX2_addProduction, Cond.methodLink RX1 104 yX2_arity, Cond.methodLink RX1 107 yX2_setPart, Cond.methodLink RX9 102 yX7_orderMode, Cond.methodLink RX9 108 yX2_rank, Cond.methodLink RX9 113 yX2_sequenceCount, Cond.instanceMethod yX2_sequenceCount, Cond.selects RX2 yX2_sequenceCount yX2_sequenceCount, Cond.code yX2_sequenceCount cX2_sequenceCount 1 (some .int), Cond.methodLink RX9 116 yX2_ranked, Cond.instanceMethod yX2_ranked]
def gW_23 : List Cond := [Cond.selects RX2 yX2_ranked yX2_ranked, Cond.code yX2_ranked cX2_ranked 2 (some .int), Cond.methodLink RX9 120 yX2_owner, Cond.instanceMethod yX2_owner, Cond.selects RX2 yX2_owner yX2_owner, Cond.code yX2_owner cX2_owner 2 (some .int), Cond.methodLink RX9 123 yX2_choice, Cond.instanceMethod yX2_choice, Cond.selects RX2 yX2_choice yX2_choice, Cond.code yX2_choice cX2_choice 2 (some .int), Cond.methodLink RX9 126 yX9_isTooLargeSide, Cond.instanceMethod yX9_isTooLargeSide, Cond.code yX9_isTooLargeSide cX9_isTooLargeSide 2 (some .boolean), Cond.methodLink RX9 150 yX2_termSize, Cond.instanceMethod yX2_termSize, Cond.selects RX2 yX2_termSize yX2_termSize, Cond.code yX2_termSize cX2_termSize 2 (some .int), Cond.methodLink RX9 153 yX2_termDepth, Cond.instanceMethod yX2_termDepth, Cond.selects RX2 yX2_termDepth yX2_termDepth, Cond.code yX2_termDepth cX2_termDepth 2 (some .int), Cond.methodLink RX9 130 yX9_takeRules, Cond.instanceMethod yX9_takeRules, Cond.code yX9_takeRules cX9_takeRules 4 none, Cond.methodLink RX9 156 yX2_dropNeeds]
def gW_24 : List Cond := [Cond.instanceMethod yX2_dropNeeds, Cond.selects RX2 yX2_dropNeeds yX2_dropNeeds, Cond.code yX2_dropNeeds cX2_dropNeeds 2 none, Cond.methodLink RX9 159 yX2_need, Cond.instanceMethod yX2_need, Cond.selects RX2 yX2_need yX2_need, Cond.code yX2_need cX2_need 2 none, Cond.methodLink RX9 162 yX2_needParts, Cond.instanceMethod yX2_needParts, Cond.selects RX2 yX2_needParts yX2_needParts, Cond.code yX2_needParts cX2_needParts 3 none, Cond.methodLink RX9 165 yX2_spreadNeeds, Cond.instanceMethod yX2_spreadNeeds, Cond.selects RX2 yX2_spreadNeeds yX2_spreadNeeds, Cond.code yX2_spreadNeeds cX2_spreadNeeds 3 none, Cond.methodLink RX2 161 yX2_isNeeded, Cond.instanceMethod yX2_isNeeded, Cond.selects RX2 yX2_isNeeded yX2_isNeeded, Cond.code yX2_isNeeded cX2_isNeeded 3 (some .boolean), Cond.methodLink RX2 164 yX2_needParts, Cond.methodLink RX9 171 yX2_isNeeded, Cond.methodLink RX9 174 yX2_makeTerm, Cond.instanceMethod yX2_makeTerm, Cond.selects RX2 yX2_makeTerm yX2_makeTerm, Cond.code yX2_makeTerm cX2_makeTerm 8 (some .int)]
def gW_25 : List Cond := [Cond.methodLink RX2 157 yX8_make, Cond.methodLink RX9 178 yX2_setLeastTerm, Cond.instanceMethod yX2_setLeastTerm, Cond.selects RX2 yX2_setLeastTerm yX2_setLeastTerm, Cond.code yX2_setLeastTerm cX2_setLeastTerm 3 none, Cond.methodLink RX9 181 yX2_leastTerm, Cond.instanceMethod yX2_leastTerm, Cond.selects RX2 yX2_leastTerm yX2_leastTerm, Cond.code yX2_leastTerm cX2_leastTerm 2 (some .int), Cond.methodLink RX9 184 yX9_addRule, Cond.instanceMethod yX9_addRule, Cond.code yX9_addRule cX9_addRule 3 none, Cond.methodLink RX9 187 yX6_set, Cond.methodLink RX11 312 yX9_goBack, Cond.instanceMethod yX9_goBack, Cond.selects RX9 yX9_goBack yX9_goBack, Cond.code yX9_goBack cX9_goBack 3 none, Cond.methodLink RL 68 yX11_normalForm, Cond.instanceMethod yX11_normalForm, Cond.selects RX11 yX11_normalForm yX11_normalForm, Cond.code yX11_normalForm cX11_normalForm 3 (some .int), Cond.methodLink RX11 378 yX9_normalize, Cond.methodLink RL 71 yL_unite, Cond.static yL_unite, Cond.code yL_unite cL_unite 4 none]
def gW_26 : List Cond := [Cond.methodLink RL 75 yX11_pop, Cond.instanceMethod yX11_pop, Cond.selects RX11 yX11_pop yX11_pop, Cond.code yX11_pop cX11_pop 1 (some .int), Cond.methodLink RX11 364 yX9_closeLevel, Cond.instanceMethod yX9_closeLevel, Cond.selects RX9 yX9_closeLevel yX9_closeLevel, Cond.code yX9_closeLevel cX9_closeLevel 1 none, Cond.methodLink RX9 88 yX9_goBack]
def gW : List Cond := gW_0 ++ (gW_1 ++ (gW_2 ++ (gW_3 ++ (gW_4 ++ (gW_5 ++ (gW_6 ++ (gW_7 ++ (gW_8 ++ (gW_9 ++ (gW_10 ++ (gW_11 ++ (gW_12 ++ (gW_13 ++ (gW_14 ++ (gW_15 ++ (gW_16 ++ (gW_17 ++ (gW_18 ++ (gW_19 ++ (gW_20 ++ (gW_21 ++ (gW_22 ++ (gW_23 ++ (gW_24 ++ (gW_25 ++ (gW_26 ++ (wsX00 ++ (wsX10 ++ (wsX20 ++ (wsX30 ++ (wsX40 ++ (wsX50 ++ (wsX60 ++ (wsX70 ++ (wsX80 ++ (wsX90 ++ (wsX100 ++ (wsX110 ++ ((vx_atS RX11 102 g_ISE g_nm).filter goodWord ++ ((vx_atS RX11 216 g_ARE g_nm).filter goodWord))))))))))))))))))))))))))))))))))))))))
theorem mc_0 : ∀ w ∈ gW_0, w ∈ gW := fun _ h => List.mem_append_left _ h
theorem mc_1 : ∀ w ∈ gW_1, w ∈ gW := fun _ h => List.mem_append_right _ (List.mem_append_left _ h)
theorem mc_2 : ∀ w ∈ gW_2, w ∈ gW := fun _ h => List.mem_append_right _ (List.mem_append_right _ (List.mem_append_left _ h))
theorem mc_3 : ∀ w ∈ gW_3, w ∈ gW := fun _ h => List.mem_append_right _ (List.mem_append_right _ (List.mem_append_right _ (List.mem_append_left _ h)))
theorem mc_4 : ∀ w ∈ gW_4, w ∈ gW := fun _ h => List.mem_append_right _ (List.mem_append_right _ (List.mem_append_right _ (List.mem_append_right _ (List.mem_append_left _ h))))
theorem mc_5 : ∀ w ∈ gW_5, w ∈ gW := fun _ h => List.mem_append_right _ (List.mem_append_right _ (List.mem_append_right _ (List.mem_append_right _ (List.mem_append_right _ (List.mem_append_left _ h)))))
theorem mc_6 : ∀ w ∈ gW_6, w ∈ gW := fun _ h => List.mem_append_right _ (List.mem_append_right _ (List.mem_append_right _ (List.mem_append_right _ (List.mem_append_right _ (List.mem_append_right _ (List.mem_append_left _ h))))))
theorem mc_7 : ∀ w ∈ gW_7, w ∈ gW := fun _ h => List.mem_append_right _ (List.mem_append_right _ (List.mem_append_right _ (List.mem_append_right _ (List.mem_append_right _ (List.mem_append_right _ (List.mem_append_right _ (List.mem_append_left _ h)))))))
theorem mc_8 : ∀ w ∈ gW_8, w ∈ gW := fun _ h => List.mem_append_right _ (List.mem_append_right _ (List.mem_append_right _ (List.mem_append_right _ (List.mem_append_right _ (List.mem_append_right _ (List.mem_append_right _ (List.mem_append_right _ (List.mem_append_left _ h))))))))
theorem mc_9 : ∀ w ∈ gW_9, w ∈ gW := fun _ h => List.mem_append_right _ (List.mem_append_right _ (List.mem_append_right _ (List.mem_append_right _ (List.mem_append_right _ (List.mem_append_right _ (List.mem_append_right _ (List.mem_append_right _ (List.mem_append_right _ (List.mem_append_left _ h)))))))))
theorem mc_10 : ∀ w ∈ gW_10, w ∈ gW := fun _ h => List.mem_append_right _ (List.mem_append_right _ (List.mem_append_right _ (List.mem_append_right _ (List.mem_append_right _ (List.mem_append_right _ (List.mem_append_right _ (List.mem_append_right _ (List.mem_append_right _ (List.mem_append_right _ (List.mem_append_left _ h))))))))))
theorem mc_11 : ∀ w ∈ gW_11, w ∈ gW := fun _ h => List.mem_append_right _ (List.mem_append_right _ (List.mem_append_right _ (List.mem_append_right _ (List.mem_append_right _ (List.mem_append_right _ (List.mem_append_right _ (List.mem_append_right _ (List.mem_append_right _ (List.mem_append_right _ (List.mem_append_right _ (List.mem_append_left _ h)))))))))))
theorem mc_12 : ∀ w ∈ gW_12, w ∈ gW := fun _ h => List.mem_append_right _ (List.mem_append_right _ (List.mem_append_right _ (List.mem_append_right _ (List.mem_append_right _ (List.mem_append_right _ (List.mem_append_right _ (List.mem_append_right _ (List.mem_append_right _ (List.mem_append_right _ (List.mem_append_right _ (List.mem_append_right _ (List.mem_append_left _ h))))))))))))
theorem mc_13 : ∀ w ∈ gW_13, w ∈ gW := fun _ h => List.mem_append_right _ (List.mem_append_right _ (List.mem_append_right _ (List.mem_append_right _ (List.mem_append_right _ (List.mem_append_right _ (List.mem_append_right _ (List.mem_append_right _ (List.mem_append_right _ (List.mem_append_right _ (List.mem_append_right _ (List.mem_append_right _ (List.mem_append_right _ (List.mem_append_left _ h)))))))))))))
theorem mc_14 : ∀ w ∈ gW_14, w ∈ gW := fun _ h => List.mem_append_right _ (List.mem_append_right _ (List.mem_append_right _ (List.mem_append_right _ (List.mem_append_right _ (List.mem_append_right _ (List.mem_append_right _ (List.mem_append_right _ (List.mem_append_right _ (List.mem_append_right _ (List.mem_append_right _ (List.mem_append_right _ (List.mem_append_right _ (List.mem_append_right _ (List.mem_append_left _ h))))))))))))))
theorem mc_15 : ∀ w ∈ gW_15, w ∈ gW := fun _ h => List.mem_append_right _ (List.mem_append_right _ (List.mem_append_right _ (List.mem_append_right _ (List.mem_append_right _ (List.mem_append_right _ (List.mem_append_right _ (List.mem_append_right _ (List.mem_append_right _ (List.mem_append_right _ (List.mem_append_right _ (List.mem_append_right _ (List.mem_append_right _ (List.mem_append_right _ (List.mem_append_right _ (List.mem_append_left _ h)))))))))))))))
theorem mc_16 : ∀ w ∈ gW_16, w ∈ gW := fun _ h => List.mem_append_right _ (List.mem_append_right _ (List.mem_append_right _ (List.mem_append_right _ (List.mem_append_right _ (List.mem_append_right _ (List.mem_append_right _ (List.mem_append_right _ (List.mem_append_right _ (List.mem_append_right _ (List.mem_append_right _ (List.mem_append_right _ (List.mem_append_right _ (List.mem_append_right _ (List.mem_append_right _ (List.mem_append_right _ (List.mem_append_left _ h))))))))))))))))
theorem mc_17 : ∀ w ∈ gW_17, w ∈ gW := fun _ h => List.mem_append_right _ (List.mem_append_right _ (List.mem_append_right _ (List.mem_append_right _ (List.mem_append_right _ (List.mem_append_right _ (List.mem_append_right _ (List.mem_append_right _ (List.mem_append_right _ (List.mem_append_right _ (List.mem_append_right _ (List.mem_append_right _ (List.mem_append_right _ (List.mem_append_right _ (List.mem_append_right _ (List.mem_append_right _ (List.mem_append_right _ (List.mem_append_left _ h)))))))))))))))))
theorem mc_18 : ∀ w ∈ gW_18, w ∈ gW := fun _ h => List.mem_append_right _ (List.mem_append_right _ (List.mem_append_right _ (List.mem_append_right _ (List.mem_append_right _ (List.mem_append_right _ (List.mem_append_right _ (List.mem_append_right _ (List.mem_append_right _ (List.mem_append_right _ (List.mem_append_right _ (List.mem_append_right _ (List.mem_append_right _ (List.mem_append_right _ (List.mem_append_right _ (List.mem_append_right _ (List.mem_append_right _ (List.mem_append_right _ (List.mem_append_left _ h))))))))))))))))))
theorem mc_19 : ∀ w ∈ gW_19, w ∈ gW := fun _ h => List.mem_append_right _ (List.mem_append_right _ (List.mem_append_right _ (List.mem_append_right _ (List.mem_append_right _ (List.mem_append_right _ (List.mem_append_right _ (List.mem_append_right _ (List.mem_append_right _ (List.mem_append_right _ (List.mem_append_right _ (List.mem_append_right _ (List.mem_append_right _ (List.mem_append_right _ (List.mem_append_right _ (List.mem_append_right _ (List.mem_append_right _ (List.mem_append_right _ (List.mem_append_right _ (List.mem_append_left _ h)))))))))))))))))))
theorem mc_20 : ∀ w ∈ gW_20, w ∈ gW := fun _ h => List.mem_append_right _ (List.mem_append_right _ (List.mem_append_right _ (List.mem_append_right _ (List.mem_append_right _ (List.mem_append_right _ (List.mem_append_right _ (List.mem_append_right _ (List.mem_append_right _ (List.mem_append_right _ (List.mem_append_right _ (List.mem_append_right _ (List.mem_append_right _ (List.mem_append_right _ (List.mem_append_right _ (List.mem_append_right _ (List.mem_append_right _ (List.mem_append_right _ (List.mem_append_right _ (List.mem_append_right _ (List.mem_append_left _ h))))))))))))))))))))
theorem mc_21 : ∀ w ∈ gW_21, w ∈ gW := fun _ h => List.mem_append_right _ (List.mem_append_right _ (List.mem_append_right _ (List.mem_append_right _ (List.mem_append_right _ (List.mem_append_right _ (List.mem_append_right _ (List.mem_append_right _ (List.mem_append_right _ (List.mem_append_right _ (List.mem_append_right _ (List.mem_append_right _ (List.mem_append_right _ (List.mem_append_right _ (List.mem_append_right _ (List.mem_append_right _ (List.mem_append_right _ (List.mem_append_right _ (List.mem_append_right _ (List.mem_append_right _ (List.mem_append_right _ (List.mem_append_left _ h)))))))))))))))))))))
theorem mc_22 : ∀ w ∈ gW_22, w ∈ gW := fun _ h => List.mem_append_right _ (List.mem_append_right _ (List.mem_append_right _ (List.mem_append_right _ (List.mem_append_right _ (List.mem_append_right _ (List.mem_append_right _ (List.mem_append_right _ (List.mem_append_right _ (List.mem_append_right _ (List.mem_append_right _ (List.mem_append_right _ (List.mem_append_right _ (List.mem_append_right _ (List.mem_append_right _ (List.mem_append_right _ (List.mem_append_right _ (List.mem_append_right _ (List.mem_append_right _ (List.mem_append_right _ (List.mem_append_right _ (List.mem_append_right _ (List.mem_append_left _ h))))))))))))))))))))))
theorem mc_23 : ∀ w ∈ gW_23, w ∈ gW := fun _ h => List.mem_append_right _ (List.mem_append_right _ (List.mem_append_right _ (List.mem_append_right _ (List.mem_append_right _ (List.mem_append_right _ (List.mem_append_right _ (List.mem_append_right _ (List.mem_append_right _ (List.mem_append_right _ (List.mem_append_right _ (List.mem_append_right _ (List.mem_append_right _ (List.mem_append_right _ (List.mem_append_right _ (List.mem_append_right _ (List.mem_append_right _ (List.mem_append_right _ (List.mem_append_right _ (List.mem_append_right _ (List.mem_append_right _ (List.mem_append_right _ (List.mem_append_right _ (List.mem_append_left _ h)))))))))))))))))))))))
theorem mc_24 : ∀ w ∈ gW_24, w ∈ gW := fun _ h => List.mem_append_right _ (List.mem_append_right _ (List.mem_append_right _ (List.mem_append_right _ (List.mem_append_right _ (List.mem_append_right _ (List.mem_append_right _ (List.mem_append_right _ (List.mem_append_right _ (List.mem_append_right _ (List.mem_append_right _ (List.mem_append_right _ (List.mem_append_right _ (List.mem_append_right _ (List.mem_append_right _ (List.mem_append_right _ (List.mem_append_right _ (List.mem_append_right _ (List.mem_append_right _ (List.mem_append_right _ (List.mem_append_right _ (List.mem_append_right _ (List.mem_append_right _ (List.mem_append_right _ (List.mem_append_left _ h))))))))))))))))))))))))
theorem mc_25 : ∀ w ∈ gW_25, w ∈ gW := fun _ h => List.mem_append_right _ (List.mem_append_right _ (List.mem_append_right _ (List.mem_append_right _ (List.mem_append_right _ (List.mem_append_right _ (List.mem_append_right _ (List.mem_append_right _ (List.mem_append_right _ (List.mem_append_right _ (List.mem_append_right _ (List.mem_append_right _ (List.mem_append_right _ (List.mem_append_right _ (List.mem_append_right _ (List.mem_append_right _ (List.mem_append_right _ (List.mem_append_right _ (List.mem_append_right _ (List.mem_append_right _ (List.mem_append_right _ (List.mem_append_right _ (List.mem_append_right _ (List.mem_append_right _ (List.mem_append_right _ (List.mem_append_left _ h)))))))))))))))))))))))))
theorem mc_26 : ∀ w ∈ gW_26, w ∈ gW := fun _ h => List.mem_append_right _ (List.mem_append_right _ (List.mem_append_right _ (List.mem_append_right _ (List.mem_append_right _ (List.mem_append_right _ (List.mem_append_right _ (List.mem_append_right _ (List.mem_append_right _ (List.mem_append_right _ (List.mem_append_right _ (List.mem_append_right _ (List.mem_append_right _ (List.mem_append_right _ (List.mem_append_right _ (List.mem_append_right _ (List.mem_append_right _ (List.mem_append_right _ (List.mem_append_right _ (List.mem_append_right _ (List.mem_append_right _ (List.mem_append_right _ (List.mem_append_right _ (List.mem_append_right _ (List.mem_append_right _ (List.mem_append_right _ (List.mem_append_left _ h))))))))))))))))))))))))))
theorem inW0 : ∀ w ∈ wsX00, w ∈ gW := fun _ h => List.mem_append_right _ (List.mem_append_right _ (List.mem_append_right _ (List.mem_append_right _ (List.mem_append_right _ (List.mem_append_right _ (List.mem_append_right _ (List.mem_append_right _ (List.mem_append_right _ (List.mem_append_right _ (List.mem_append_right _ (List.mem_append_right _ (List.mem_append_right _ (List.mem_append_right _ (List.mem_append_right _ (List.mem_append_right _ (List.mem_append_right _ (List.mem_append_right _ (List.mem_append_right _ (List.mem_append_right _ (List.mem_append_right _ (List.mem_append_right _ (List.mem_append_right _ (List.mem_append_right _ (List.mem_append_right _ (List.mem_append_right _ (List.mem_append_right _ (List.mem_append_left _ h)))))))))))))))))))))))))))
theorem inW1 : ∀ w ∈ wsX10, w ∈ gW := fun _ h => List.mem_append_right _ (List.mem_append_right _ (List.mem_append_right _ (List.mem_append_right _ (List.mem_append_right _ (List.mem_append_right _ (List.mem_append_right _ (List.mem_append_right _ (List.mem_append_right _ (List.mem_append_right _ (List.mem_append_right _ (List.mem_append_right _ (List.mem_append_right _ (List.mem_append_right _ (List.mem_append_right _ (List.mem_append_right _ (List.mem_append_right _ (List.mem_append_right _ (List.mem_append_right _ (List.mem_append_right _ (List.mem_append_right _ (List.mem_append_right _ (List.mem_append_right _ (List.mem_append_right _ (List.mem_append_right _ (List.mem_append_right _ (List.mem_append_right _ (List.mem_append_right _ (List.mem_append_left _ h))))))))))))))))))))))))))))
theorem inW2 : ∀ w ∈ wsX20, w ∈ gW := fun _ h => List.mem_append_right _ (List.mem_append_right _ (List.mem_append_right _ (List.mem_append_right _ (List.mem_append_right _ (List.mem_append_right _ (List.mem_append_right _ (List.mem_append_right _ (List.mem_append_right _ (List.mem_append_right _ (List.mem_append_right _ (List.mem_append_right _ (List.mem_append_right _ (List.mem_append_right _ (List.mem_append_right _ (List.mem_append_right _ (List.mem_append_right _ (List.mem_append_right _ (List.mem_append_right _ (List.mem_append_right _ (List.mem_append_right _ (List.mem_append_right _ (List.mem_append_right _ (List.mem_append_right _ (List.mem_append_right _ (List.mem_append_right _ (List.mem_append_right _ (List.mem_append_right _ (List.mem_append_right _ (List.mem_append_left _ h)))))))))))))))))))))))))))))
theorem inW3 : ∀ w ∈ wsX30, w ∈ gW := fun _ h => List.mem_append_right _ (List.mem_append_right _ (List.mem_append_right _ (List.mem_append_right _ (List.mem_append_right _ (List.mem_append_right _ (List.mem_append_right _ (List.mem_append_right _ (List.mem_append_right _ (List.mem_append_right _ (List.mem_append_right _ (List.mem_append_right _ (List.mem_append_right _ (List.mem_append_right _ (List.mem_append_right _ (List.mem_append_right _ (List.mem_append_right _ (List.mem_append_right _ (List.mem_append_right _ (List.mem_append_right _ (List.mem_append_right _ (List.mem_append_right _ (List.mem_append_right _ (List.mem_append_right _ (List.mem_append_right _ (List.mem_append_right _ (List.mem_append_right _ (List.mem_append_right _ (List.mem_append_right _ (List.mem_append_right _ (List.mem_append_left _ h))))))))))))))))))))))))))))))
theorem inW4 : ∀ w ∈ wsX40, w ∈ gW := fun _ h => List.mem_append_right _ (List.mem_append_right _ (List.mem_append_right _ (List.mem_append_right _ (List.mem_append_right _ (List.mem_append_right _ (List.mem_append_right _ (List.mem_append_right _ (List.mem_append_right _ (List.mem_append_right _ (List.mem_append_right _ (List.mem_append_right _ (List.mem_append_right _ (List.mem_append_right _ (List.mem_append_right _ (List.mem_append_right _ (List.mem_append_right _ (List.mem_append_right _ (List.mem_append_right _ (List.mem_append_right _ (List.mem_append_right _ (List.mem_append_right _ (List.mem_append_right _ (List.mem_append_right _ (List.mem_append_right _ (List.mem_append_right _ (List.mem_append_right _ (List.mem_append_right _ (List.mem_append_right _ (List.mem_append_right _ (List.mem_append_right _ (List.mem_append_left _ h)))))))))))))))))))))))))))))))
theorem inW5 : ∀ w ∈ wsX50, w ∈ gW := fun _ h => List.mem_append_right _ (List.mem_append_right _ (List.mem_append_right _ (List.mem_append_right _ (List.mem_append_right _ (List.mem_append_right _ (List.mem_append_right _ (List.mem_append_right _ (List.mem_append_right _ (List.mem_append_right _ (List.mem_append_right _ (List.mem_append_right _ (List.mem_append_right _ (List.mem_append_right _ (List.mem_append_right _ (List.mem_append_right _ (List.mem_append_right _ (List.mem_append_right _ (List.mem_append_right _ (List.mem_append_right _ (List.mem_append_right _ (List.mem_append_right _ (List.mem_append_right _ (List.mem_append_right _ (List.mem_append_right _ (List.mem_append_right _ (List.mem_append_right _ (List.mem_append_right _ (List.mem_append_right _ (List.mem_append_right _ (List.mem_append_right _ (List.mem_append_right _ (List.mem_append_left _ h))))))))))))))))))))))))))))))))
theorem inW6 : ∀ w ∈ wsX60, w ∈ gW := fun _ h => List.mem_append_right _ (List.mem_append_right _ (List.mem_append_right _ (List.mem_append_right _ (List.mem_append_right _ (List.mem_append_right _ (List.mem_append_right _ (List.mem_append_right _ (List.mem_append_right _ (List.mem_append_right _ (List.mem_append_right _ (List.mem_append_right _ (List.mem_append_right _ (List.mem_append_right _ (List.mem_append_right _ (List.mem_append_right _ (List.mem_append_right _ (List.mem_append_right _ (List.mem_append_right _ (List.mem_append_right _ (List.mem_append_right _ (List.mem_append_right _ (List.mem_append_right _ (List.mem_append_right _ (List.mem_append_right _ (List.mem_append_right _ (List.mem_append_right _ (List.mem_append_right _ (List.mem_append_right _ (List.mem_append_right _ (List.mem_append_right _ (List.mem_append_right _ (List.mem_append_right _ (List.mem_append_left _ h)))))))))))))))))))))))))))))))))
theorem inW7 : ∀ w ∈ wsX70, w ∈ gW := fun _ h => List.mem_append_right _ (List.mem_append_right _ (List.mem_append_right _ (List.mem_append_right _ (List.mem_append_right _ (List.mem_append_right _ (List.mem_append_right _ (List.mem_append_right _ (List.mem_append_right _ (List.mem_append_right _ (List.mem_append_right _ (List.mem_append_right _ (List.mem_append_right _ (List.mem_append_right _ (List.mem_append_right _ (List.mem_append_right _ (List.mem_append_right _ (List.mem_append_right _ (List.mem_append_right _ (List.mem_append_right _ (List.mem_append_right _ (List.mem_append_right _ (List.mem_append_right _ (List.mem_append_right _ (List.mem_append_right _ (List.mem_append_right _ (List.mem_append_right _ (List.mem_append_right _ (List.mem_append_right _ (List.mem_append_right _ (List.mem_append_right _ (List.mem_append_right _ (List.mem_append_right _ (List.mem_append_right _ (List.mem_append_left _ h))))))))))))))))))))))))))))))))))
theorem inW8 : ∀ w ∈ wsX80, w ∈ gW := fun _ h => List.mem_append_right _ (List.mem_append_right _ (List.mem_append_right _ (List.mem_append_right _ (List.mem_append_right _ (List.mem_append_right _ (List.mem_append_right _ (List.mem_append_right _ (List.mem_append_right _ (List.mem_append_right _ (List.mem_append_right _ (List.mem_append_right _ (List.mem_append_right _ (List.mem_append_right _ (List.mem_append_right _ (List.mem_append_right _ (List.mem_append_right _ (List.mem_append_right _ (List.mem_append_right _ (List.mem_append_right _ (List.mem_append_right _ (List.mem_append_right _ (List.mem_append_right _ (List.mem_append_right _ (List.mem_append_right _ (List.mem_append_right _ (List.mem_append_right _ (List.mem_append_right _ (List.mem_append_right _ (List.mem_append_right _ (List.mem_append_right _ (List.mem_append_right _ (List.mem_append_right _ (List.mem_append_right _ (List.mem_append_right _ (List.mem_append_left _ h)))))))))))))))))))))))))))))))))))
theorem inW9 : ∀ w ∈ wsX90, w ∈ gW := fun _ h => List.mem_append_right _ (List.mem_append_right _ (List.mem_append_right _ (List.mem_append_right _ (List.mem_append_right _ (List.mem_append_right _ (List.mem_append_right _ (List.mem_append_right _ (List.mem_append_right _ (List.mem_append_right _ (List.mem_append_right _ (List.mem_append_right _ (List.mem_append_right _ (List.mem_append_right _ (List.mem_append_right _ (List.mem_append_right _ (List.mem_append_right _ (List.mem_append_right _ (List.mem_append_right _ (List.mem_append_right _ (List.mem_append_right _ (List.mem_append_right _ (List.mem_append_right _ (List.mem_append_right _ (List.mem_append_right _ (List.mem_append_right _ (List.mem_append_right _ (List.mem_append_right _ (List.mem_append_right _ (List.mem_append_right _ (List.mem_append_right _ (List.mem_append_right _ (List.mem_append_right _ (List.mem_append_right _ (List.mem_append_right _ (List.mem_append_right _ (List.mem_append_left _ h))))))))))))))))))))))))))))))))))))
theorem inW10 : ∀ w ∈ wsX100, w ∈ gW := fun _ h => List.mem_append_right _ (List.mem_append_right _ (List.mem_append_right _ (List.mem_append_right _ (List.mem_append_right _ (List.mem_append_right _ (List.mem_append_right _ (List.mem_append_right _ (List.mem_append_right _ (List.mem_append_right _ (List.mem_append_right _ (List.mem_append_right _ (List.mem_append_right _ (List.mem_append_right _ (List.mem_append_right _ (List.mem_append_right _ (List.mem_append_right _ (List.mem_append_right _ (List.mem_append_right _ (List.mem_append_right _ (List.mem_append_right _ (List.mem_append_right _ (List.mem_append_right _ (List.mem_append_right _ (List.mem_append_right _ (List.mem_append_right _ (List.mem_append_right _ (List.mem_append_right _ (List.mem_append_right _ (List.mem_append_right _ (List.mem_append_right _ (List.mem_append_right _ (List.mem_append_right _ (List.mem_append_right _ (List.mem_append_right _ (List.mem_append_right _ (List.mem_append_right _ (List.mem_append_left _ h)))))))))))))))))))))))))))))))))))))
theorem inW11 : ∀ w ∈ wsX110, w ∈ gW := fun _ h => List.mem_append_right _ (List.mem_append_right _ (List.mem_append_right _ (List.mem_append_right _ (List.mem_append_right _ (List.mem_append_right _ (List.mem_append_right _ (List.mem_append_right _ (List.mem_append_right _ (List.mem_append_right _ (List.mem_append_right _ (List.mem_append_right _ (List.mem_append_right _ (List.mem_append_right _ (List.mem_append_right _ (List.mem_append_right _ (List.mem_append_right _ (List.mem_append_right _ (List.mem_append_right _ (List.mem_append_right _ (List.mem_append_right _ (List.mem_append_right _ (List.mem_append_right _ (List.mem_append_right _ (List.mem_append_right _ (List.mem_append_right _ (List.mem_append_right _ (List.mem_append_right _ (List.mem_append_right _ (List.mem_append_right _ (List.mem_append_right _ (List.mem_append_right _ (List.mem_append_right _ (List.mem_append_right _ (List.mem_append_right _ (List.mem_append_right _ (List.mem_append_right _ (List.mem_append_right _ (List.mem_append_left _ h))))))))))))))))))))))))))))))))))))))
theorem inE0 : ∀ w ∈ (vx_atS RX11 102 g_ISE g_nm).filter goodWord, w ∈ gW := fun _ h => List.mem_append_right _ (List.mem_append_right _ (List.mem_append_right _ (List.mem_append_right _ (List.mem_append_right _ (List.mem_append_right _ (List.mem_append_right _ (List.mem_append_right _ (List.mem_append_right _ (List.mem_append_right _ (List.mem_append_right _ (List.mem_append_right _ (List.mem_append_right _ (List.mem_append_right _ (List.mem_append_right _ (List.mem_append_right _ (List.mem_append_right _ (List.mem_append_right _ (List.mem_append_right _ (List.mem_append_right _ (List.mem_append_right _ (List.mem_append_right _ (List.mem_append_right _ (List.mem_append_right _ (List.mem_append_right _ (List.mem_append_right _ (List.mem_append_right _ (List.mem_append_right _ (List.mem_append_right _ (List.mem_append_right _ (List.mem_append_right _ (List.mem_append_right _ (List.mem_append_right _ (List.mem_append_right _ (List.mem_append_right _ (List.mem_append_right _ (List.mem_append_right _ (List.mem_append_right _ (List.mem_append_right _ (List.mem_append_left _ h)))))))))))))))))))))))))))))))))))))))
theorem inE1 : ∀ w ∈ (vx_atS RX11 216 g_ARE g_nm).filter goodWord, w ∈ gW := fun _ h => List.mem_append_right _ (List.mem_append_right _ (List.mem_append_right _ (List.mem_append_right _ (List.mem_append_right _ (List.mem_append_right _ (List.mem_append_right _ (List.mem_append_right _ (List.mem_append_right _ (List.mem_append_right _ (List.mem_append_right _ (List.mem_append_right _ (List.mem_append_right _ (List.mem_append_right _ (List.mem_append_right _ (List.mem_append_right _ (List.mem_append_right _ (List.mem_append_right _ (List.mem_append_right _ (List.mem_append_right _ (List.mem_append_right _ (List.mem_append_right _ (List.mem_append_right _ (List.mem_append_right _ (List.mem_append_right _ (List.mem_append_right _ (List.mem_append_right _ (List.mem_append_right _ (List.mem_append_right _ (List.mem_append_right _ (List.mem_append_right _ (List.mem_append_right _ (List.mem_append_right _ (List.mem_append_right _ (List.mem_append_right _ (List.mem_append_right _ (List.mem_append_right _ (List.mem_append_right _ (List.mem_append_right _ (List.mem_append_right _ (h))))))))))))))))))))))))))))))))))))))))
theorem k118 : Cond.selects RX11 yX11_isTerm yX11_isTerm ∈ gW := mc_0 _ (List.mem_of_getElem? (i := 0) rfl)
theorem k241 : Cond.selects RX10 yX10_firstUnlisted yX10_firstUnlisted ∈ gW := mc_0 _ (List.mem_of_getElem? (i := 1) rfl)
theorem k311 : Cond.selects RX2 yX2_linkUsers yX2_linkUsers ∈ gW := mc_0 _ (List.mem_of_getElem? (i := 2) rfl)
theorem k334 : Cond.selects RX2 yX2_enter yX2_enter ∈ gW := mc_0 _ (List.mem_of_getElem? (i := 3) rfl)
theorem k330 : Cond.selects RX2 yX2_isBefore yX2_isBefore ∈ gW := mc_0 _ (List.mem_of_getElem? (i := 4) rfl)
theorem k338 : Cond.selects RX2 yX2_takeLeast yX2_takeLeast ∈ gW := mc_0 _ (List.mem_of_getElem? (i := 5) rfl)
theorem k343 : Cond.selects RX2 yX2_isReadyAfter yX2_isReadyAfter ∈ gW := mc_0 _ (List.mem_of_getElem? (i := 6) rfl)
theorem k130 : Cond.selects RX11 yX11_tidy yX11_tidy ∈ gW := mc_0 _ (List.mem_of_getElem? (i := 7) rfl)
theorem k142 : Cond.selects RX8 yX8_bucketOf yX8_bucketOf ∈ gW := mc_0 _ (List.mem_of_getElem? (i := 8) rfl)
theorem k176 : Cond.selects RX8 yX8_keep yX8_keep ∈ gW := mc_0 _ (List.mem_of_getElem? (i := 9) rfl)
theorem k172 : Cond.selects RX8 yX8_extentOver yX8_extentOver ∈ gW := mc_0 _ (List.mem_of_getElem? (i := 10) rfl)
theorem k550 : Cond.selects RX9 yX9_ruleFor yX9_ruleFor ∈ gW := mc_0 _ (List.mem_of_getElem? (i := 11) rfl)
theorem k19 : Cond.selects RX5 yX5_isLetter yX5_isLetter ∈ gW := mc_0 _ (List.mem_of_getElem? (i := 12) rfl)
theorem k23 : Cond.selects RX5 yX5_isNamePart yX5_isNamePart ∈ gW := mc_0 _ (List.mem_of_getElem? (i := 13) rfl)
theorem k44 : Cond.selects RX7 yX7_isNameAt yX7_isNameAt ∈ gW := mc_0 _ (List.mem_of_getElem? (i := 14) rfl)
theorem k210 : Cond.selects RX11 yX11_giveNumber yX11_giveNumber ∈ gW := mc_0 _ (List.mem_of_getElem? (i := 15) rfl)
theorem k398 : Cond.selects RX9 yX9_gather yX9_gather ∈ gW := mc_0 _ (List.mem_of_getElem? (i := 16) rfl)
theorem k415 : Cond.selects RX1 yX1_joinTwins yX1_joinTwins ∈ gW := mc_0 _ (List.mem_of_getElem? (i := 17) rfl)
theorem k404 : Cond.selects RX1 yX1_bucketOf yX1_bucketOf ∈ gW := mc_0 _ (List.mem_of_getElem? (i := 18) rfl)
theorem k408 : Cond.selects RX1 yX1_areTwins yX1_areTwins ∈ gW := mc_0 _ (List.mem_of_getElem? (i := 19) rfl)
theorem k459 : Cond.selects RX9 yX9_isTooLargeSide yX9_isTooLargeSide ∈ gW := mc_0 _ (List.mem_of_getElem? (i := 20) rfl)
theorem k509 : Cond.selects RX9 yX9_takeRules yX9_takeRules ∈ gW := mc_0 _ (List.mem_of_getElem? (i := 21) rfl)
theorem k501 : Cond.selects RX9 yX9_addRule yX9_addRule ∈ gW := mc_0 _ (List.mem_of_getElem? (i := 22) rfl)
theorem k605 : Cond.initialized RL ∈ gW := mc_0 _ (List.mem_of_getElem? (i := 23) rfl)
theorem k116 : Cond.initialized RX11 ∈ gW := mc_0 _ (List.mem_of_getElem? (i := 24) rfl)
theorem k33 : Cond.initialized RX7 ∈ gW := mc_1 _ (List.mem_of_getElem? (i := 0) rfl)
theorem k124 : Cond.initialized RX8 ∈ gW := mc_1 _ (List.mem_of_getElem? (i := 1) rfl)
theorem k134 : Cond.initialized RX6 ∈ gW := mc_1 _ (List.mem_of_getElem? (i := 2) rfl)
theorem k164 : Cond.initialized "java/lang/Math" ∈ gW := mc_1 _ (List.mem_of_getElem? (i := 3) rfl)
theorem k216 : Cond.initialized RX10 ∈ gW := mc_1 _ (List.mem_of_getElem? (i := 4) rfl)
theorem k260 : Cond.initialized RX2 ∈ gW := mc_1 _ (List.mem_of_getElem? (i := 5) rfl)
theorem k364 : Cond.initialized RX9 ∈ gW := mc_1 _ (List.mem_of_getElem? (i := 6) rfl)
theorem k386 : Cond.initialized RX1 ∈ gW := mc_1 _ (List.mem_of_getElem? (i := 7) rfl)
theorem k4 : Cond.initialized RX5 ∈ gW := mc_1 _ (List.mem_of_getElem? (i := 8) rfl)
theorem k536 : Cond.initialized g_ISE ∈ gW := mc_1 _ (List.mem_of_getElem? (i := 9) rfl)
theorem k521 : Cond.initialized g_ARE ∈ gW := mc_1 _ (List.mem_of_getElem? (i := 10) rfl)
theorem k36 : Cond.fieldLink RX7 9 "GroundProver$Symbols" "names" "[B" ∈ gW := mc_1 _ (List.mem_of_getElem? (i := 11) rfl)
theorem k30 : Cond.fieldLink RX7 15 "GroundProver$Symbols" "lengths" "[I" ∈ gW := mc_1 _ (List.mem_of_getElem? (i := 12) rfl)
theorem k66 : Cond.fieldLink RX7 19 "GroundProver$Symbols" "arities" "[I" ∈ gW := mc_1 _ (List.mem_of_getElem? (i := 13) rfl)
theorem k67 : Cond.fieldLink RX7 22 "GroundProver$Symbols" "weights" "[I" ∈ gW := mc_1 _ (List.mem_of_getElem? (i := 14) rfl)
theorem k68 : Cond.fieldLink RX7 25 "GroundProver$Symbols" "ranks" "[I" ∈ gW := mc_1 _ (List.mem_of_getElem? (i := 15) rfl)
theorem k69 : Cond.fieldLink RX7 28 "GroundProver$Symbols" "ordinals" "[I" ∈ gW := mc_1 _ (List.mem_of_getElem? (i := 16) rfl)
theorem k100 : Cond.fieldLink RX7 31 "GroundProver$Symbols" "directions" "[Z" ∈ gW := mc_1 _ (List.mem_of_getElem? (i := 17) rfl)
theorem k29 : Cond.fieldLink RX7 35 "GroundProver$Symbols" "count" "I" ∈ gW := mc_1 _ (List.mem_of_getElem? (i := 18) rfl)
theorem k79 : Cond.fieldLink RX7 58 "GroundProver$Symbols" "isByWeight" "Z" ∈ gW := mc_1 _ (List.mem_of_getElem? (i := 19) rfl)
theorem k74 : Cond.fieldLink RX7 62 "GroundProver$Symbols" "isOrderFixed" "Z" ∈ gW := mc_1 _ (List.mem_of_getElem? (i := 20) rfl)
theorem k656 : Cond.arrayClass .byte ∈ gW := mc_1 _ (List.mem_of_getElem? (i := 21) rfl)
theorem k655 : Cond.arrayClass .int ∈ gW := mc_1 _ (List.mem_of_getElem? (i := 22) rfl)
theorem k657 : Cond.arrayClass .boolean ∈ gW := mc_1 _ (List.mem_of_getElem? (i := 23) rfl)
theorem k149 : Cond.constant RX8 11 524288 ∈ gW := mc_1 _ (List.mem_of_getElem? (i := 24) rfl)
theorem k167 : Cond.static Lib.Math.max.name ∈ gW := mc_2 _ (List.mem_of_getElem? (i := 0) rfl)
theorem k168 : Cond.code Lib.Math.max.name Lib.Math.max.code 2 (some .int) ∈ gW := mc_2 _ (List.mem_of_getElem? (i := 1) rfl)
theorem k155 : Cond.fieldLink RX8 46 "GroundProver$TermStore" "symbols" "LGroundProver$Symbols;" ∈ gW := mc_2 _ (List.mem_of_getElem? (i := 2) rfl)
theorem k146 : Cond.fieldLink RX8 15 "GroundProver$TermStore" "signs" "LGroundProver$Row;" ∈ gW := mc_2 _ (List.mem_of_getElem? (i := 3) rfl)
theorem k147 : Cond.fieldLink RX8 22 "GroundProver$TermStore" "parts" "LGroundProver$Row;" ∈ gW := mc_2 _ (List.mem_of_getElem? (i := 4) rfl)
theorem k160 : Cond.fieldLink RX8 25 "GroundProver$TermStore" "extents" "LGroundProver$Row;" ∈ gW := mc_2 _ (List.mem_of_getElem? (i := 5) rfl)
theorem k193 : Cond.fieldLink RX8 28 "GroundProver$TermStore" "numbers" "LGroundProver$Row;" ∈ gW := mc_2 _ (List.mem_of_getElem? (i := 6) rfl)
theorem k150 : Cond.fieldLink RX8 31 "GroundProver$TermStore" "links" "LGroundProver$Row;" ∈ gW := mc_2 _ (List.mem_of_getElem? (i := 7) rfl)
theorem k143 : Cond.fieldLink RX8 35 "GroundProver$TermStore" "buckets" "LGroundProver$Row;" ∈ gW := mc_2 _ (List.mem_of_getElem? (i := 8) rfl)
theorem k145 : Cond.fieldLink RX8 76 "GroundProver$TermStore" "top" "I" ∈ gW := mc_2 _ (List.mem_of_getElem? (i := 9) rfl)
theorem k120 : Cond.fieldLink RX8 88 "GroundProver$TermStore" "used" "I" ∈ gW := mc_2 _ (List.mem_of_getElem? (i := 10) rfl)
theorem k148 : Cond.fieldLink RX8 85 "GroundProver$TermStore" "freeLink" "I" ∈ gW := mc_2 _ (List.mem_of_getElem? (i := 11) rfl)
theorem k121 : Cond.fieldLink RX8 42 "GroundProver$TermStore" "crowd" "I" ∈ gW := mc_2 _ (List.mem_of_getElem? (i := 12) rfl)
theorem k228 : Cond.fieldLink RX10 35 "GroundProver$Walk" "store" "LGroundProver$TermStore;" ∈ gW := mc_2 _ (List.mem_of_getElem? (i := 13) rfl)
theorem k219 : Cond.fieldLink RX10 15 "GroundProver$Walk" "slots" "LGroundProver$Row;" ∈ gW := mc_2 _ (List.mem_of_getElem? (i := 14) rfl)
theorem k221 : Cond.fieldLink RX10 22 "GroundProver$Walk" "nodes" "LGroundProver$Row;" ∈ gW := mc_2 _ (List.mem_of_getElem? (i := 15) rfl)
theorem k538 : Cond.fieldLink RX10 25 "GroundProver$Walk" "values" "LGroundProver$Row;" ∈ gW := mc_2 _ (List.mem_of_getElem? (i := 16) rfl)
theorem k563 : Cond.fieldLink RX10 28 "GroundProver$Walk" "tallies" "LGroundProver$Row;" ∈ gW := mc_2 _ (List.mem_of_getElem? (i := 17) rfl)
theorem k226 : Cond.fieldLink RX10 31 "GroundProver$Walk" "open" "[I" ∈ gW := mc_2 _ (List.mem_of_getElem? (i := 18) rfl)
theorem k213 : Cond.fieldLink RX10 39 "GroundProver$Walk" "count" "I" ∈ gW := mc_2 _ (List.mem_of_getElem? (i := 19) rfl)
theorem k278 : Cond.fieldLink RX2 61 "GroundProver$Grammar" "symbols" "LGroundProver$Symbols;" ∈ gW := mc_2 _ (List.mem_of_getElem? (i := 20) rfl)
theorem k271 : Cond.fieldLink RX2 15 "GroundProver$Grammar" "owners" "LGroundProver$Row;" ∈ gW := mc_2 _ (List.mem_of_getElem? (i := 21) rfl)
theorem k273 : Cond.fieldLink RX2 21 "GroundProver$Grammar" "signs" "LGroundProver$Row;" ∈ gW := mc_2 _ (List.mem_of_getElem? (i := 22) rfl)
theorem k289 : Cond.fieldLink RX2 25 "GroundProver$Grammar" "parts" "LGroundProver$Row;" ∈ gW := mc_2 _ (List.mem_of_getElem? (i := 23) rfl)
theorem k312 : Cond.fieldLink RX2 28 "GroundProver$Grammar" "waits" "LGroundProver$Row;" ∈ gW := mc_2 _ (List.mem_of_getElem? (i := 24) rfl)
theorem k305 : Cond.fieldLink RX2 31 "GroundProver$Grammar" "users" "LGroundProver$Row;" ∈ gW := mc_3 _ (List.mem_of_getElem? (i := 0) rfl)
theorem k307 : Cond.fieldLink RX2 34 "GroundProver$Grammar" "nextUsers" "LGroundProver$Row;" ∈ gW := mc_3 _ (List.mem_of_getElem? (i := 1) rfl)
theorem k320 : Cond.fieldLink RX2 37 "GroundProver$Grammar" "weights" "LGroundProver$Row;" ∈ gW := mc_3 _ (List.mem_of_getElem? (i := 2) rfl)
theorem k317 : Cond.fieldLink RX2 40 "GroundProver$Grammar" "sizes" "LGroundProver$Row;" ∈ gW := mc_3 _ (List.mem_of_getElem? (i := 3) rfl)
theorem k318 : Cond.fieldLink RX2 43 "GroundProver$Grammar" "depths" "LGroundProver$Row;" ∈ gW := mc_3 _ (List.mem_of_getElem? (i := 4) rfl)
theorem k323 : Cond.fieldLink RX2 46 "GroundProver$Grammar" "heap" "LGroundProver$Row;" ∈ gW := mc_3 _ (List.mem_of_getElem? (i := 5) rfl)
theorem k306 : Cond.fieldLink RX2 49 "GroundProver$Grammar" "chosen" "LGroundProver$Row;" ∈ gW := mc_3 _ (List.mem_of_getElem? (i := 6) rfl)
theorem k326 : Cond.fieldLink RX2 52 "GroundProver$Grammar" "positions" "LGroundProver$Row;" ∈ gW := mc_3 _ (List.mem_of_getElem? (i := 7) rfl)
theorem k339 : Cond.fieldLink RX2 55 "GroundProver$Grammar" "sequence" "LGroundProver$Row;" ∈ gW := mc_3 _ (List.mem_of_getElem? (i := 8) rfl)
theorem k484 : Cond.fieldLink RX2 58 "GroundProver$Grammar" "nodes" "LGroundProver$Row;" ∈ gW := mc_3 _ (List.mem_of_getElem? (i := 9) rfl)
theorem k256 : Cond.fieldLink RX2 65 "GroundProver$Grammar" "classCount" "I" ∈ gW := mc_3 _ (List.mem_of_getElem? (i := 10) rfl)
theorem k257 : Cond.fieldLink RX2 69 "GroundProver$Grammar" "count" "I" ∈ gW := mc_3 _ (List.mem_of_getElem? (i := 11) rfl)
theorem k303 : Cond.fieldLink RX2 119 "GroundProver$Grammar" "heapCount" "I" ∈ gW := mc_3 _ (List.mem_of_getElem? (i := 12) rfl)
theorem k304 : Cond.fieldLink RX2 113 "GroundProver$Grammar" "sequenceCount" "I" ∈ gW := mc_3 _ (List.mem_of_getElem? (i := 13) rfl)
theorem k302 : Cond.fieldLink RX2 116 "GroundProver$Grammar" "mode" "I" ∈ gW := mc_3 _ (List.mem_of_getElem? (i := 14) rfl)
theorem k379 : Cond.fieldLink RX1 43 "GroundProver$Closure" "store" "LGroundProver$TermStore;" ∈ gW := mc_3 _ (List.mem_of_getElem? (i := 15) rfl)
theorem k372 : Cond.fieldLink RX1 47 "GroundProver$Closure" "walk" "LGroundProver$Walk;" ∈ gW := mc_3 _ (List.mem_of_getElem? (i := 16) rfl)
theorem k374 : Cond.fieldLink RX1 15 "GroundProver$Closure" "leaders" "LGroundProver$Row;" ∈ gW := mc_3 _ (List.mem_of_getElem? (i := 17) rfl)
theorem k376 : Cond.fieldLink RX1 21 "GroundProver$Closure" "nextMembers" "LGroundProver$Row;" ∈ gW := mc_3 _ (List.mem_of_getElem? (i := 18) rfl)
theorem k377 : Cond.fieldLink RX1 24 "GroundProver$Closure" "memberCounts" "LGroundProver$Row;" ∈ gW := mc_3 _ (List.mem_of_getElem? (i := 19) rfl)
theorem k410 : Cond.fieldLink RX1 27 "GroundProver$Closure" "twins" "LGroundProver$Row;" ∈ gW := mc_3 _ (List.mem_of_getElem? (i := 20) rfl)
theorem k378 : Cond.fieldLink RX1 30 "GroundProver$Closure" "signs" "LGroundProver$Row;" ∈ gW := mc_3 _ (List.mem_of_getElem? (i := 21) rfl)
theorem k382 : Cond.fieldLink RX1 34 "GroundProver$Closure" "parts" "LGroundProver$Row;" ∈ gW := mc_3 _ (List.mem_of_getElem? (i := 22) rfl)
theorem k399 : Cond.fieldLink RX1 37 "GroundProver$Closure" "buckets" "LGroundProver$Row;" ∈ gW := mc_3 _ (List.mem_of_getElem? (i := 23) rfl)
theorem k409 : Cond.fieldLink RX1 40 "GroundProver$Closure" "links" "LGroundProver$Row;" ∈ gW := mc_3 _ (List.mem_of_getElem? (i := 24) rfl)
theorem k371 : Cond.fieldLink RX1 51 "GroundProver$Closure" "bucketCount" "I" ∈ gW := mc_4 _ (List.mem_of_getElem? (i := 0) rfl)
theorem k429 : Cond.fieldLink RX9 46 "GroundProver$Theory" "symbols" "LGroundProver$Symbols;" ∈ gW := mc_4 _ (List.mem_of_getElem? (i := 1) rfl)
theorem k483 : Cond.fieldLink RX9 50 "GroundProver$Theory" "store" "LGroundProver$TermStore;" ∈ gW := mc_4 _ (List.mem_of_getElem? (i := 2) rfl)
theorem k367 : Cond.fieldLink RX9 54 "GroundProver$Theory" "walk" "LGroundProver$Walk;" ∈ gW := mc_4 _ (List.mem_of_getElem? (i := 3) rfl)
theorem k420 : Cond.fieldLink RX9 58 "GroundProver$Theory" "grammar" "LGroundProver$Grammar;" ∈ gW := mc_4 _ (List.mem_of_getElem? (i := 4) rfl)
theorem k370 : Cond.fieldLink RX9 67 "GroundProver$Theory" "closure" "LGroundProver$Closure;" ∈ gW := mc_4 _ (List.mem_of_getElem? (i := 5) rfl)
theorem k360 : Cond.fieldLink RX9 9 "GroundProver$Theory" "equationLefts" "[I" ∈ gW := mc_4 _ (List.mem_of_getElem? (i := 6) rfl)
theorem k361 : Cond.fieldLink RX9 15 "GroundProver$Theory" "equationRights" "[I" ∈ gW := mc_4 _ (List.mem_of_getElem? (i := 7) rfl)
theorem k359 : Cond.fieldLink RX9 71 "GroundProver$Theory" "equationCount" "I" ∈ gW := mc_4 _ (List.mem_of_getElem? (i := 8) rfl)
theorem k358 : Cond.fieldLink RX11 298 "GroundProver$Theory" "equationCount" "I" ∈ gW := mc_4 _ (List.mem_of_getElem? (i := 9) rfl)
theorem k515 : Cond.fieldLink RX9 75 "GroundProver$Theory" "separationCount" "I" ∈ gW := mc_4 _ (List.mem_of_getElem? (i := 10) rfl)
theorem k514 : Cond.fieldLink RX11 309 "GroundProver$Theory" "separationCount" "I" ∈ gW := mc_4 _ (List.mem_of_getElem? (i := 11) rfl)
theorem k524 : Cond.fieldLink RX9 24 "GroundProver$Theory" "levelEquations" "[I" ∈ gW := mc_4 _ (List.mem_of_getElem? (i := 12) rfl)
theorem k525 : Cond.fieldLink RX9 27 "GroundProver$Theory" "levelSeparations" "[I" ∈ gW := mc_4 _ (List.mem_of_getElem? (i := 13) rfl)
theorem k523 : Cond.fieldLink RX9 85 "GroundProver$Theory" "levelCount" "I" ∈ gW := mc_4 _ (List.mem_of_getElem? (i := 14) rfl)
theorem k522 : Cond.fieldLink RX11 354 "GroundProver$Theory" "levelCount" "I" ∈ gW := mc_4 _ (List.mem_of_getElem? (i := 15) rfl)
theorem k494 : Cond.fieldLink RX9 30 "GroundProver$Theory" "ruleLefts" "[I" ∈ gW := mc_4 _ (List.mem_of_getElem? (i := 16) rfl)
theorem k495 : Cond.fieldLink RX9 33 "GroundProver$Theory" "ruleRights" "[I" ∈ gW := mc_4 _ (List.mem_of_getElem? (i := 17) rfl)
theorem k496 : Cond.fieldLink RX9 42 "GroundProver$Theory" "ruleHints" "LGroundProver$Row;" ∈ gW := mc_4 _ (List.mem_of_getElem? (i := 18) rfl)
theorem k481 : Cond.fieldLink RX9 168 "GroundProver$Theory" "ruleCount" "I" ∈ gW := mc_4 _ (List.mem_of_getElem? (i := 19) rfl)
theorem k28 : Cond.fieldLink RX5 42 "GroundProver$Reader" "symbols" "LGroundProver$Symbols;" ∈ gW := mc_4 _ (List.mem_of_getElem? (i := 20) rfl)
theorem k7 : Cond.fieldLink RX5 9 "GroundProver$Reader" "input" "[B" ∈ gW := mc_4 _ (List.mem_of_getElem? (i := 21) rfl)
theorem k1 : Cond.fieldLink RX5 50 "GroundProver$Reader" "length" "I" ∈ gW := mc_4 _ (List.mem_of_getElem? (i := 22) rfl)
theorem k658 : Cond.arrayClass .long ∈ gW := mc_4 _ (List.mem_of_getElem? (i := 23) rfl)
theorem k57 : Cond.fieldLink RX11 10 "GroundProver" "symbols" "LGroundProver$Symbols;" ∈ gW := mc_4 _ (List.mem_of_getElem? (i := 24) rfl)
theorem k119 : Cond.fieldLink RX11 21 "GroundProver" "store" "LGroundProver$TermStore;" ∈ gW := mc_5 _ (List.mem_of_getElem? (i := 0) rfl)
theorem k212 : Cond.fieldLink RX11 30 "GroundProver" "walk" "LGroundProver$Walk;" ∈ gW := mc_5 _ (List.mem_of_getElem? (i := 1) rfl)
theorem k251 : Cond.fieldLink RX11 37 "GroundProver" "grammar" "LGroundProver$Grammar;" ∈ gW := mc_5 _ (List.mem_of_getElem? (i := 2) rfl)
theorem k357 : Cond.fieldLink RX11 46 "GroundProver" "theory" "LGroundProver$Theory;" ∈ gW := mc_5 _ (List.mem_of_getElem? (i := 3) rfl)
theorem k0 : Cond.fieldLink RX11 55 "GroundProver" "reader" "LGroundProver$Reader;" ∈ gW := mc_5 _ (List.mem_of_getElem? (i := 4) rfl)
theorem k131 : Cond.fieldLink RX11 90 "GroundProver" "numbered" "LGroundProver$Row;" ∈ gW := mc_5 _ (List.mem_of_getElem? (i := 5) rfl)
theorem k113 : Cond.fieldLink RX11 231 "GroundProver" "numberedCount" "I" ∈ gW := mc_5 _ (List.mem_of_getElem? (i := 6) rfl)
theorem k114 : Cond.methodLink RX11 194 yX11_isTerm ∈ gW := mc_5 _ (List.mem_of_getElem? (i := 7) rfl)
theorem k117 : Cond.instanceMethod yX11_isTerm ∈ gW := mc_5 _ (List.mem_of_getElem? (i := 8) rfl)
theorem k115 : Cond.code yX11_isTerm cX11_isTerm 2 (some .boolean) ∈ gW := mc_5 _ (List.mem_of_getElem? (i := 9) rfl)
theorem k214 : Cond.methodLink RX11 253 yX10_clear ∈ gW := mc_5 _ (List.mem_of_getElem? (i := 10) rfl)
theorem k217 : Cond.instanceMethod yX10_clear ∈ gW := mc_5 _ (List.mem_of_getElem? (i := 11) rfl)
theorem k218 : Cond.selects RX10 yX10_clear yX10_clear ∈ gW := mc_5 _ (List.mem_of_getElem? (i := 12) rfl)
theorem k215 : Cond.code yX10_clear cX10_clear 1 none ∈ gW := mc_5 _ (List.mem_of_getElem? (i := 13) rfl)
theorem k132 : Cond.methodLink RX11 202 yX6_get ∈ gW := mc_5 _ (List.mem_of_getElem? (i := 14) rfl)
theorem k135 : Cond.instanceMethod yX6_get ∈ gW := mc_5 _ (List.mem_of_getElem? (i := 15) rfl)
theorem k136 : Cond.selects RX6 yX6_get yX6_get ∈ gW := mc_5 _ (List.mem_of_getElem? (i := 16) rfl)
theorem k133 : Cond.code yX6_get cX6_get 3 (some .int) ∈ gW := mc_5 _ (List.mem_of_getElem? (i := 17) rfl)
theorem k247 : Cond.methodLink RX11 256 yX10_add ∈ gW := mc_5 _ (List.mem_of_getElem? (i := 18) rfl)
theorem k249 : Cond.instanceMethod yX10_add ∈ gW := mc_5 _ (List.mem_of_getElem? (i := 19) rfl)
theorem k250 : Cond.selects RX10 yX10_add yX10_add ∈ gW := mc_5 _ (List.mem_of_getElem? (i := 20) rfl)
theorem k248 : Cond.code yX10_add cX10_add 5 none ∈ gW := mc_5 _ (List.mem_of_getElem? (i := 21) rfl)
theorem k222 : Cond.methodLink RX10 57 yX10_indexOf ∈ gW := mc_5 _ (List.mem_of_getElem? (i := 22) rfl)
theorem k224 : Cond.instanceMethod yX10_indexOf ∈ gW := mc_5 _ (List.mem_of_getElem? (i := 23) rfl)
theorem k225 : Cond.selects RX10 yX10_indexOf yX10_indexOf ∈ gW := mc_5 _ (List.mem_of_getElem? (i := 24) rfl)
theorem k223 : Cond.code yX10_indexOf cX10_indexOf 3 (some .int) ∈ gW := mc_6 _ (List.mem_of_getElem? (i := 0) rfl)
theorem k220 : Cond.methodLink RX10 43 yX6_get ∈ gW := mc_6 _ (List.mem_of_getElem? (i := 1) rfl)
theorem k227 : Cond.constant RX10 60 1048576 ∈ gW := mc_6 _ (List.mem_of_getElem? (i := 2) rfl)
theorem k238 : Cond.methodLink RX10 61 yX10_firstUnlisted ∈ gW := mc_6 _ (List.mem_of_getElem? (i := 3) rfl)
theorem k240 : Cond.instanceMethod yX10_firstUnlisted ∈ gW := mc_6 _ (List.mem_of_getElem? (i := 4) rfl)
theorem k239 : Cond.code yX10_firstUnlisted cX10_firstUnlisted 4 (some .int) ∈ gW := mc_6 _ (List.mem_of_getElem? (i := 5) rfl)
theorem k230 : Cond.methodLink RX10 67 yX8_arity ∈ gW := mc_6 _ (List.mem_of_getElem? (i := 6) rfl)
theorem k232 : Cond.instanceMethod yX8_arity ∈ gW := mc_6 _ (List.mem_of_getElem? (i := 7) rfl)
theorem k233 : Cond.selects RX8 yX8_arity yX8_arity ∈ gW := mc_6 _ (List.mem_of_getElem? (i := 8) rfl)
theorem k231 : Cond.code yX8_arity cX8_arity 2 (some .int) ∈ gW := mc_6 _ (List.mem_of_getElem? (i := 9) rfl)
theorem k144 : Cond.methodLink RX8 50 yX6_get ∈ gW := mc_6 _ (List.mem_of_getElem? (i := 10) rfl)
theorem k229 : Cond.methodLink RX8 54 yX7_arity ∈ gW := mc_6 _ (List.mem_of_getElem? (i := 11) rfl)
theorem k111 : Cond.instanceMethod yX7_arity ∈ gW := mc_6 _ (List.mem_of_getElem? (i := 12) rfl)
theorem k112 : Cond.selects RX7 yX7_arity yX7_arity ∈ gW := mc_6 _ (List.mem_of_getElem? (i := 13) rfl)
theorem k110 : Cond.code yX7_arity cX7_arity 2 (some .int) ∈ gW := mc_6 _ (List.mem_of_getElem? (i := 14) rfl)
theorem k234 : Cond.methodLink RX10 51 yX8_part ∈ gW := mc_6 _ (List.mem_of_getElem? (i := 15) rfl)
theorem k236 : Cond.instanceMethod yX8_part ∈ gW := mc_6 _ (List.mem_of_getElem? (i := 16) rfl)
theorem k237 : Cond.selects RX8 yX8_part yX8_part ∈ gW := mc_6 _ (List.mem_of_getElem? (i := 17) rfl)
theorem k235 : Cond.code yX8_part cX8_part 3 (some .int) ∈ gW := mc_6 _ (List.mem_of_getElem? (i := 18) rfl)
theorem k243 : Cond.methodLink RX10 64 yX10_append ∈ gW := mc_6 _ (List.mem_of_getElem? (i := 19) rfl)
theorem k245 : Cond.instanceMethod yX10_append ∈ gW := mc_6 _ (List.mem_of_getElem? (i := 20) rfl)
theorem k246 : Cond.selects RX10 yX10_append yX10_append ∈ gW := mc_6 _ (List.mem_of_getElem? (i := 21) rfl)
theorem k244 : Cond.code yX10_append cX10_append 2 none ∈ gW := mc_6 _ (List.mem_of_getElem? (i := 22) rfl)
theorem k242 : Cond.methodLink RX10 47 yX6_set ∈ gW := mc_6 _ (List.mem_of_getElem? (i := 23) rfl)
theorem k153 : Cond.instanceMethod yX6_set ∈ gW := mc_6 _ (List.mem_of_getElem? (i := 24) rfl)
theorem k154 : Cond.selects RX6 yX6_set yX6_set ∈ gW := mc_7 _ (List.mem_of_getElem? (i := 0) rfl)
theorem k152 : Cond.code yX6_set cX6_set 4 none ∈ gW := mc_7 _ (List.mem_of_getElem? (i := 1) rfl)
theorem k294 : Cond.methodLink RX11 258 yX2_takeTerms ∈ gW := mc_7 _ (List.mem_of_getElem? (i := 2) rfl)
theorem k296 : Cond.instanceMethod yX2_takeTerms ∈ gW := mc_7 _ (List.mem_of_getElem? (i := 3) rfl)
theorem k297 : Cond.selects RX2 yX2_takeTerms yX2_takeTerms ∈ gW := mc_7 _ (List.mem_of_getElem? (i := 4) rfl)
theorem k295 : Cond.code yX2_takeTerms cX2_takeTerms 6 none ∈ gW := mc_7 _ (List.mem_of_getElem? (i := 5) rfl)
theorem k252 : Cond.methodLink RX2 85 yX10_count ∈ gW := mc_7 _ (List.mem_of_getElem? (i := 6) rfl)
theorem k254 : Cond.instanceMethod yX10_count ∈ gW := mc_7 _ (List.mem_of_getElem? (i := 7) rfl)
theorem k255 : Cond.selects RX10 yX10_count yX10_count ∈ gW := mc_7 _ (List.mem_of_getElem? (i := 8) rfl)
theorem k253 : Cond.code yX10_count cX10_count 1 (some .int) ∈ gW := mc_7 _ (List.mem_of_getElem? (i := 9) rfl)
theorem k258 : Cond.methodLink RX2 90 yX2_clear ∈ gW := mc_7 _ (List.mem_of_getElem? (i := 10) rfl)
theorem k261 : Cond.instanceMethod yX2_clear ∈ gW := mc_7 _ (List.mem_of_getElem? (i := 11) rfl)
theorem k262 : Cond.selects RX2 yX2_clear yX2_clear ∈ gW := mc_7 _ (List.mem_of_getElem? (i := 12) rfl)
theorem k259 : Cond.code yX2_clear cX2_clear 2 none ∈ gW := mc_7 _ (List.mem_of_getElem? (i := 13) rfl)
theorem k263 : Cond.methodLink RX2 93 yX10_node ∈ gW := mc_7 _ (List.mem_of_getElem? (i := 14) rfl)
theorem k265 : Cond.instanceMethod yX10_node ∈ gW := mc_7 _ (List.mem_of_getElem? (i := 15) rfl)
theorem k266 : Cond.selects RX10 yX10_node yX10_node ∈ gW := mc_7 _ (List.mem_of_getElem? (i := 16) rfl)
theorem k264 : Cond.code yX10_node cX10_node 2 (some .int) ∈ gW := mc_7 _ (List.mem_of_getElem? (i := 17) rfl)
theorem k267 : Cond.methodLink RX2 96 yX8_symbol ∈ gW := mc_7 _ (List.mem_of_getElem? (i := 18) rfl)
theorem k269 : Cond.instanceMethod yX8_symbol ∈ gW := mc_7 _ (List.mem_of_getElem? (i := 19) rfl)
theorem k270 : Cond.selects RX8 yX8_symbol yX8_symbol ∈ gW := mc_7 _ (List.mem_of_getElem? (i := 20) rfl)
theorem k268 : Cond.code yX8_symbol cX8_symbol 2 (some .int) ∈ gW := mc_7 _ (List.mem_of_getElem? (i := 21) rfl)
theorem k274 : Cond.methodLink RX2 101 yX2_addProduction ∈ gW := mc_7 _ (List.mem_of_getElem? (i := 22) rfl)
theorem k276 : Cond.instanceMethod yX2_addProduction ∈ gW := mc_7 _ (List.mem_of_getElem? (i := 23) rfl)
theorem k277 : Cond.selects RX2 yX2_addProduction yX2_addProduction ∈ gW := mc_7 _ (List.mem_of_getElem? (i := 24) rfl)
theorem k275 : Cond.code yX2_addProduction cX2_addProduction 4 (some .int) ∈ gW := mc_8 _ (List.mem_of_getElem? (i := 0) rfl)
theorem k272 : Cond.methodLink RX2 72 yX6_set ∈ gW := mc_8 _ (List.mem_of_getElem? (i := 1) rfl)
theorem k281 : Cond.methodLink RX2 105 yX2_arity ∈ gW := mc_8 _ (List.mem_of_getElem? (i := 2) rfl)
theorem k283 : Cond.instanceMethod yX2_arity ∈ gW := mc_8 _ (List.mem_of_getElem? (i := 3) rfl)
theorem k284 : Cond.selects RX2 yX2_arity yX2_arity ∈ gW := mc_8 _ (List.mem_of_getElem? (i := 4) rfl)
theorem k282 : Cond.code yX2_arity cX2_arity 2 (some .int) ∈ gW := mc_8 _ (List.mem_of_getElem? (i := 5) rfl)
theorem k279 : Cond.methodLink RX2 76 yX6_get ∈ gW := mc_8 _ (List.mem_of_getElem? (i := 6) rfl)
theorem k280 : Cond.methodLink RX2 80 yX7_arity ∈ gW := mc_8 _ (List.mem_of_getElem? (i := 7) rfl)
theorem k285 : Cond.methodLink RX2 106 yX10_partOf ∈ gW := mc_8 _ (List.mem_of_getElem? (i := 8) rfl)
theorem k287 : Cond.instanceMethod yX10_partOf ∈ gW := mc_8 _ (List.mem_of_getElem? (i := 9) rfl)
theorem k288 : Cond.selects RX10 yX10_partOf yX10_partOf ∈ gW := mc_8 _ (List.mem_of_getElem? (i := 10) rfl)
theorem k286 : Cond.code yX10_partOf cX10_partOf 3 (some .int) ∈ gW := mc_8 _ (List.mem_of_getElem? (i := 11) rfl)
theorem k290 : Cond.methodLink RX2 109 yX2_setPart ∈ gW := mc_8 _ (List.mem_of_getElem? (i := 12) rfl)
theorem k292 : Cond.instanceMethod yX2_setPart ∈ gW := mc_8 _ (List.mem_of_getElem? (i := 13) rfl)
theorem k293 : Cond.selects RX2 yX2_setPart yX2_setPart ∈ gW := mc_8 _ (List.mem_of_getElem? (i := 14) rfl)
theorem k291 : Cond.code yX2_setPart cX2_setPart 4 none ∈ gW := mc_8 _ (List.mem_of_getElem? (i := 15) rfl)
theorem k298 : Cond.methodLink RX11 262 yX7_orderMode ∈ gW := mc_8 _ (List.mem_of_getElem? (i := 16) rfl)
theorem k300 : Cond.instanceMethod yX7_orderMode ∈ gW := mc_8 _ (List.mem_of_getElem? (i := 17) rfl)
theorem k301 : Cond.selects RX7 yX7_orderMode yX7_orderMode ∈ gW := mc_8 _ (List.mem_of_getElem? (i := 18) rfl)
theorem k299 : Cond.code yX7_orderMode cX7_orderMode 1 (some .int) ∈ gW := mc_8 _ (List.mem_of_getElem? (i := 19) rfl)
theorem k344 : Cond.methodLink RX11 265 yX2_rank ∈ gW := mc_8 _ (List.mem_of_getElem? (i := 20) rfl)
theorem k346 : Cond.instanceMethod yX2_rank ∈ gW := mc_8 _ (List.mem_of_getElem? (i := 21) rfl)
theorem k347 : Cond.selects RX2 yX2_rank yX2_rank ∈ gW := mc_8 _ (List.mem_of_getElem? (i := 22) rfl)
theorem k345 : Cond.code yX2_rank cX2_rank 7 none ∈ gW := mc_8 _ (List.mem_of_getElem? (i := 23) rfl)
theorem k308 : Cond.methodLink RX2 122 yX2_linkUsers ∈ gW := mc_8 _ (List.mem_of_getElem? (i := 24) rfl)
theorem k310 : Cond.instanceMethod yX2_linkUsers ∈ gW := mc_9 _ (List.mem_of_getElem? (i := 0) rfl)
theorem k309 : Cond.code yX2_linkUsers cX2_linkUsers 5 none ∈ gW := mc_9 _ (List.mem_of_getElem? (i := 1) rfl)
theorem k331 : Cond.methodLink RX2 125 yX2_enter ∈ gW := mc_9 _ (List.mem_of_getElem? (i := 2) rfl)
theorem k333 : Cond.instanceMethod yX2_enter ∈ gW := mc_9 _ (List.mem_of_getElem? (i := 3) rfl)
theorem k332 : Cond.code yX2_enter cX2_enter 8 none ∈ gW := mc_9 _ (List.mem_of_getElem? (i := 4) rfl)
theorem k313 : Cond.methodLink RX2 135 yX7_weight ∈ gW := mc_9 _ (List.mem_of_getElem? (i := 5) rfl)
theorem k315 : Cond.instanceMethod yX7_weight ∈ gW := mc_9 _ (List.mem_of_getElem? (i := 6) rfl)
theorem k316 : Cond.selects RX7 yX7_weight yX7_weight ∈ gW := mc_9 _ (List.mem_of_getElem? (i := 7) rfl)
theorem k314 : Cond.code yX7_weight cX7_weight 2 (some .int) ∈ gW := mc_9 _ (List.mem_of_getElem? (i := 8) rfl)
theorem k319 : Cond.methodLink RX2 138 Lib.Math.max.name ∈ gW := mc_9 _ (List.mem_of_getElem? (i := 9) rfl)
theorem k321 : Cond.constant RX2 143 1048575 ∈ gW := mc_9 _ (List.mem_of_getElem? (i := 10) rfl)
theorem k322 : Cond.methodLink RX2 144 Lib.Math.min.name ∈ gW := mc_9 _ (List.mem_of_getElem? (i := 11) rfl)
theorem k163 : Cond.static Lib.Math.min.name ∈ gW := mc_9 _ (List.mem_of_getElem? (i := 12) rfl)
theorem k165 : Cond.code Lib.Math.min.name Lib.Math.min.code 2 (some .int) ∈ gW := mc_9 _ (List.mem_of_getElem? (i := 13) rfl)
theorem k327 : Cond.methodLink RX2 147 yX2_isBefore ∈ gW := mc_9 _ (List.mem_of_getElem? (i := 14) rfl)
theorem k329 : Cond.instanceMethod yX2_isBefore ∈ gW := mc_9 _ (List.mem_of_getElem? (i := 15) rfl)
theorem k328 : Cond.code yX2_isBefore cX2_isBefore 10 (some .boolean) ∈ gW := mc_9 _ (List.mem_of_getElem? (i := 16) rfl)
theorem k325 : Cond.methodLink RX2 151 yX7_rank ∈ gW := mc_9 _ (List.mem_of_getElem? (i := 17) rfl)
theorem k94 : Cond.instanceMethod yX7_rank ∈ gW := mc_9 _ (List.mem_of_getElem? (i := 18) rfl)
theorem k95 : Cond.selects RX7 yX7_rank yX7_rank ∈ gW := mc_9 _ (List.mem_of_getElem? (i := 19) rfl)
theorem k93 : Cond.code yX7_rank cX7_rank 2 (some .int) ∈ gW := mc_9 _ (List.mem_of_getElem? (i := 20) rfl)
theorem k324 : Cond.methodLink RX2 154 yX7_isFromRight ∈ gW := mc_9 _ (List.mem_of_getElem? (i := 21) rfl)
theorem k103 : Cond.instanceMethod yX7_isFromRight ∈ gW := mc_9 _ (List.mem_of_getElem? (i := 22) rfl)
theorem k104 : Cond.selects RX7 yX7_isFromRight yX7_isFromRight ∈ gW := mc_9 _ (List.mem_of_getElem? (i := 23) rfl)
theorem k102 : Cond.code yX7_isFromRight cX7_isFromRight 2 (some .boolean) ∈ gW := mc_9 _ (List.mem_of_getElem? (i := 24) rfl)
theorem k335 : Cond.methodLink RX2 128 yX2_takeLeast ∈ gW := mc_10 _ (List.mem_of_getElem? (i := 0) rfl)
theorem k337 : Cond.instanceMethod yX2_takeLeast ∈ gW := mc_10 _ (List.mem_of_getElem? (i := 1) rfl)
theorem k336 : Cond.code yX2_takeLeast cX2_takeLeast 6 (some .int) ∈ gW := mc_10 _ (List.mem_of_getElem? (i := 2) rfl)
theorem k340 : Cond.methodLink RX2 131 yX2_isReadyAfter ∈ gW := mc_10 _ (List.mem_of_getElem? (i := 3) rfl)
theorem k342 : Cond.instanceMethod yX2_isReadyAfter ∈ gW := mc_10 _ (List.mem_of_getElem? (i := 4) rfl)
theorem k341 : Cond.code yX2_isReadyAfter cX2_isReadyAfter 3 (some .boolean) ∈ gW := mc_10 _ (List.mem_of_getElem? (i := 5) rfl)
theorem k348 : Cond.methodLink RX11 267 yX10_indexOf ∈ gW := mc_10 _ (List.mem_of_getElem? (i := 6) rfl)
theorem k349 : Cond.methodLink RX11 270 yX2_position ∈ gW := mc_10 _ (List.mem_of_getElem? (i := 7) rfl)
theorem k351 : Cond.instanceMethod yX2_position ∈ gW := mc_10 _ (List.mem_of_getElem? (i := 8) rfl)
theorem k352 : Cond.selects RX2 yX2_position yX2_position ∈ gW := mc_10 _ (List.mem_of_getElem? (i := 9) rfl)
theorem k350 : Cond.code yX2_position cX2_position 2 (some .int) ∈ gW := mc_10 _ (List.mem_of_getElem? (i := 10) rfl)
theorem k535 : Cond.classLink RX11 98 g_ISE ∈ gW := mc_10 _ (List.mem_of_getElem? (i := 11) rfl)
theorem k526 : Cond.methodLink RX11 359 yX9_openLevel ∈ gW := mc_10 _ (List.mem_of_getElem? (i := 12) rfl)
theorem k528 : Cond.instanceMethod yX9_openLevel ∈ gW := mc_10 _ (List.mem_of_getElem? (i := 13) rfl)
theorem k529 : Cond.selects RX9 yX9_openLevel yX9_openLevel ∈ gW := mc_10 _ (List.mem_of_getElem? (i := 14) rfl)
theorem k527 : Cond.code yX9_openLevel cX9_openLevel 1 none ∈ gW := mc_10 _ (List.mem_of_getElem? (i := 15) rfl)
theorem k127 : Cond.methodLink RX11 199 yX11_tidy ∈ gW := mc_10 _ (List.mem_of_getElem? (i := 16) rfl)
theorem k129 : Cond.instanceMethod yX11_tidy ∈ gW := mc_10 _ (List.mem_of_getElem? (i := 17) rfl)
theorem k128 : Cond.code yX11_tidy cX11_tidy 2 none ∈ gW := mc_10 _ (List.mem_of_getElem? (i := 18) rfl)
theorem k122 : Cond.methodLink RX11 454 yX8_isCrowded ∈ gW := mc_10 _ (List.mem_of_getElem? (i := 19) rfl)
theorem k125 : Cond.instanceMethod yX8_isCrowded ∈ gW := mc_10 _ (List.mem_of_getElem? (i := 20) rfl)
theorem k126 : Cond.selects RX8 yX8_isCrowded yX8_isCrowded ∈ gW := mc_10 _ (List.mem_of_getElem? (i := 21) rfl)
theorem k123 : Cond.code yX8_isCrowded cX8_isCrowded 1 (some .boolean) ∈ gW := mc_10 _ (List.mem_of_getElem? (i := 22) rfl)
theorem k151 : Cond.methodLink RX8 68 yX6_set ∈ gW := mc_10 _ (List.mem_of_getElem? (i := 23) rfl)
theorem k139 : Cond.methodLink RX8 72 yX8_bucketOf ∈ gW := mc_10 _ (List.mem_of_getElem? (i := 24) rfl)
theorem k141 : Cond.instanceMethod yX8_bucketOf ∈ gW := mc_11 _ (List.mem_of_getElem? (i := 0) rfl)
theorem k140 : Cond.code yX8_bucketOf cX8_bucketOf 6 (some .int) ∈ gW := mc_11 _ (List.mem_of_getElem? (i := 1) rfl)
theorem k137 : Cond.constant RX8 83 131071 ∈ gW := mc_11 _ (List.mem_of_getElem? (i := 2) rfl)
theorem k138 : Cond.constant RX8 84 739982445 ∈ gW := mc_11 _ (List.mem_of_getElem? (i := 3) rfl)
theorem k577 : Cond.methodLink RX11 383 yX9_makesEqual ∈ gW := mc_11 _ (List.mem_of_getElem? (i := 4) rfl)
theorem k579 : Cond.instanceMethod yX9_makesEqual ∈ gW := mc_11 _ (List.mem_of_getElem? (i := 5) rfl)
theorem k580 : Cond.selects RX9 yX9_makesEqual yX9_makesEqual ∈ gW := mc_11 _ (List.mem_of_getElem? (i := 6) rfl)
theorem k578 : Cond.code yX9_makesEqual cX9_makesEqual 3 (some .boolean) ∈ gW := mc_11 _ (List.mem_of_getElem? (i := 7) rfl)
theorem k576 : Cond.methodLink RX9 217 yX9_normalize ∈ gW := mc_11 _ (List.mem_of_getElem? (i := 8) rfl)
theorem k574 : Cond.instanceMethod yX9_normalize ∈ gW := mc_11 _ (List.mem_of_getElem? (i := 9) rfl)
theorem k575 : Cond.selects RX9 yX9_normalize yX9_normalize ∈ gW := mc_11 _ (List.mem_of_getElem? (i := 10) rfl)
theorem k573 : Cond.code yX9_normalize cX9_normalize 5 (some .int) ∈ gW := mc_11 _ (List.mem_of_getElem? (i := 11) rfl)
theorem k368 : Cond.methodLink RX9 133 yX10_clear ∈ gW := mc_11 _ (List.mem_of_getElem? (i := 12) rfl)
theorem k369 : Cond.methodLink RX9 138 yX10_add ∈ gW := mc_11 _ (List.mem_of_getElem? (i := 13) rfl)
theorem k537 : Cond.methodLink RX9 193 yX10_count ∈ gW := mc_11 _ (List.mem_of_getElem? (i := 14) rfl)
theorem k542 : Cond.methodLink RX9 196 yX10_rebuild ∈ gW := mc_11 _ (List.mem_of_getElem? (i := 15) rfl)
theorem k544 : Cond.instanceMethod yX10_rebuild ∈ gW := mc_11 _ (List.mem_of_getElem? (i := 16) rfl)
theorem k545 : Cond.selects RX10 yX10_rebuild yX10_rebuild ∈ gW := mc_11 _ (List.mem_of_getElem? (i := 17) rfl)
theorem k543 : Cond.code yX10_rebuild cX10_rebuild 7 (some .int) ∈ gW := mc_11 _ (List.mem_of_getElem? (i := 18) rfl)
theorem k539 : Cond.methodLink RX10 79 yX10_partOf ∈ gW := mc_11 _ (List.mem_of_getElem? (i := 19) rfl)
theorem k540 : Cond.methodLink RX10 85 yX8_symbol ∈ gW := mc_11 _ (List.mem_of_getElem? (i := 20) rfl)
theorem k541 : Cond.methodLink RX10 88 yX8_make ∈ gW := mc_11 _ (List.mem_of_getElem? (i := 21) rfl)
theorem k179 : Cond.instanceMethod yX8_make ∈ gW := mc_11 _ (List.mem_of_getElem? (i := 22) rfl)
theorem k180 : Cond.selects RX8 yX8_make yX8_make ∈ gW := mc_11 _ (List.mem_of_getElem? (i := 23) rfl)
theorem k178 : Cond.code yX8_make cX8_make 9 (some .int) ∈ gW := mc_11 _ (List.mem_of_getElem? (i := 24) rfl)
theorem k173 : Cond.methodLink RX8 79 yX8_keep ∈ gW := mc_12 _ (List.mem_of_getElem? (i := 0) rfl)
theorem k175 : Cond.instanceMethod yX8_keep ∈ gW := mc_12 _ (List.mem_of_getElem? (i := 1) rfl)
theorem k174 : Cond.code yX8_keep cX8_keep 8 (some .int) ∈ gW := mc_12 _ (List.mem_of_getElem? (i := 2) rfl)
theorem k156 : Cond.methodLink RX8 59 yX7_variableOrdinal ∈ gW := mc_12 _ (List.mem_of_getElem? (i := 3) rfl)
theorem k158 : Cond.instanceMethod yX7_variableOrdinal ∈ gW := mc_12 _ (List.mem_of_getElem? (i := 4) rfl)
theorem k159 : Cond.selects RX7 yX7_variableOrdinal yX7_variableOrdinal ∈ gW := mc_12 _ (List.mem_of_getElem? (i := 5) rfl)
theorem k157 : Cond.code yX7_variableOrdinal cX7_variableOrdinal 2 (some .int) ∈ gW := mc_12 _ (List.mem_of_getElem? (i := 6) rfl)
theorem k169 : Cond.methodLink RX8 91 yX8_extentOver ∈ gW := mc_12 _ (List.mem_of_getElem? (i := 7) rfl)
theorem k171 : Cond.instanceMethod yX8_extentOver ∈ gW := mc_12 _ (List.mem_of_getElem? (i := 8) rfl)
theorem k170 : Cond.code yX8_extentOver cX8_extentOver 8 (some .int) ∈ gW := mc_12 _ (List.mem_of_getElem? (i := 9) rfl)
theorem k161 : Cond.constant RX8 94 4194303 ∈ gW := mc_12 _ (List.mem_of_getElem? (i := 10) rfl)
theorem k162 : Cond.methodLink RX8 95 Lib.Math.min.name ∈ gW := mc_12 _ (List.mem_of_getElem? (i := 11) rfl)
theorem k166 : Cond.methodLink RX8 101 Lib.Math.max.name ∈ gW := mc_12 _ (List.mem_of_getElem? (i := 12) rfl)
theorem k547 : Cond.methodLink RX9 199 yX9_ruleFor ∈ gW := mc_12 _ (List.mem_of_getElem? (i := 13) rfl)
theorem k549 : Cond.instanceMethod yX9_ruleFor ∈ gW := mc_12 _ (List.mem_of_getElem? (i := 14) rfl)
theorem k548 : Cond.code yX9_ruleFor cX9_ruleFor 3 (some .int) ∈ gW := mc_12 _ (List.mem_of_getElem? (i := 15) rfl)
theorem k546 : Cond.methodLink RX9 190 yX6_get ∈ gW := mc_12 _ (List.mem_of_getElem? (i := 16) rfl)
theorem k551 : Cond.methodLink RX9 202 yX9_rightSide ∈ gW := mc_12 _ (List.mem_of_getElem? (i := 17) rfl)
theorem k553 : Cond.instanceMethod yX9_rightSide ∈ gW := mc_12 _ (List.mem_of_getElem? (i := 18) rfl)
theorem k554 : Cond.selects RX9 yX9_rightSide yX9_rightSide ∈ gW := mc_12 _ (List.mem_of_getElem? (i := 19) rfl)
theorem k552 : Cond.code yX9_rightSide cX9_rightSide 2 (some .int) ∈ gW := mc_12 _ (List.mem_of_getElem? (i := 20) rfl)
theorem k559 : Cond.methodLink RX9 205 yX10_setValue ∈ gW := mc_12 _ (List.mem_of_getElem? (i := 21) rfl)
theorem k561 : Cond.instanceMethod yX10_setValue ∈ gW := mc_12 _ (List.mem_of_getElem? (i := 22) rfl)
theorem k562 : Cond.selects RX10 yX10_setValue yX10_setValue ∈ gW := mc_12 _ (List.mem_of_getElem? (i := 23) rfl)
theorem k560 : Cond.code yX10_setValue cX10_setValue 3 none ∈ gW := mc_12 _ (List.mem_of_getElem? (i := 24) rfl)
theorem k564 : Cond.methodLink RX9 208 yX10_sumOfParts ∈ gW := mc_13 _ (List.mem_of_getElem? (i := 0) rfl)
theorem k566 : Cond.instanceMethod yX10_sumOfParts ∈ gW := mc_13 _ (List.mem_of_getElem? (i := 1) rfl)
theorem k567 : Cond.selects RX10 yX10_sumOfParts yX10_sumOfParts ∈ gW := mc_13 _ (List.mem_of_getElem? (i := 2) rfl)
theorem k565 : Cond.code yX10_sumOfParts cX10_sumOfParts 4 (some .int) ∈ gW := mc_13 _ (List.mem_of_getElem? (i := 3) rfl)
theorem k568 : Cond.methodLink RX9 211 yX10_setTally ∈ gW := mc_13 _ (List.mem_of_getElem? (i := 4) rfl)
theorem k570 : Cond.instanceMethod yX10_setTally ∈ gW := mc_13 _ (List.mem_of_getElem? (i := 5) rfl)
theorem k571 : Cond.selects RX10 yX10_setTally yX10_setTally ∈ gW := mc_13 _ (List.mem_of_getElem? (i := 6) rfl)
theorem k569 : Cond.code yX10_setTally cX10_setTally 3 none ∈ gW := mc_13 _ (List.mem_of_getElem? (i := 7) rfl)
theorem k555 : Cond.methodLink RX9 214 yX10_value ∈ gW := mc_13 _ (List.mem_of_getElem? (i := 8) rfl)
theorem k557 : Cond.instanceMethod yX10_value ∈ gW := mc_13 _ (List.mem_of_getElem? (i := 9) rfl)
theorem k558 : Cond.selects RX10 yX10_value yX10_value ∈ gW := mc_13 _ (List.mem_of_getElem? (i := 10) rfl)
theorem k556 : Cond.code yX10_value cX10_value 2 (some .int) ∈ gW := mc_13 _ (List.mem_of_getElem? (i := 11) rfl)
theorem k585 : Cond.methodLink RX11 393 yX9_countSteps ∈ gW := mc_13 _ (List.mem_of_getElem? (i := 12) rfl)
theorem k587 : Cond.instanceMethod yX9_countSteps ∈ gW := mc_13 _ (List.mem_of_getElem? (i := 13) rfl)
theorem k588 : Cond.selects RX9 yX9_countSteps yX9_countSteps ∈ gW := mc_13 _ (List.mem_of_getElem? (i := 14) rfl)
theorem k586 : Cond.code yX9_countSteps cX9_countSteps 2 (some .int) ∈ gW := mc_13 _ (List.mem_of_getElem? (i := 15) rfl)
theorem k581 : Cond.methodLink RX9 223 yX10_tally ∈ gW := mc_13 _ (List.mem_of_getElem? (i := 16) rfl)
theorem k583 : Cond.instanceMethod yX10_tally ∈ gW := mc_13 _ (List.mem_of_getElem? (i := 17) rfl)
theorem k584 : Cond.selects RX10 yX10_tally yX10_tally ∈ gW := mc_13 _ (List.mem_of_getElem? (i := 18) rfl)
theorem k582 : Cond.code yX10_tally cX10_tally 2 (some .int) ∈ gW := mc_13 _ (List.mem_of_getElem? (i := 19) rfl)
theorem k603 : Cond.methodLink RL 23 yL_below ∈ gW := mc_13 _ (List.mem_of_getElem? (i := 20) rfl)
theorem k606 : Cond.static yL_below ∈ gW := mc_13 _ (List.mem_of_getElem? (i := 21) rfl)
theorem k604 : Cond.code yL_below cL_below 2 (some .int) ∈ gW := mc_13 _ (List.mem_of_getElem? (i := 22) rfl)
theorem k589 : Cond.constant RL 7 2147483647 ∈ gW := mc_13 _ (List.mem_of_getElem? (i := 23) rfl)
theorem k626 : Cond.methodLink RL 45 yL_cell ∈ gW := mc_13 _ (List.mem_of_getElem? (i := 24) rfl)
theorem k628 : Cond.static yL_cell ∈ gW := mc_14 _ (List.mem_of_getElem? (i := 0) rfl)
theorem k627 : Cond.code yL_cell cL_cell 2 (some .int) ∈ gW := mc_14 _ (List.mem_of_getElem? (i := 1) rfl)
theorem k590 : Cond.constant RL 8 790386105 ∈ gW := mc_14 _ (List.mem_of_getElem? (i := 2) rfl)
theorem k607 : Cond.methodLink RL 28 yL_declare ∈ gW := mc_14 _ (List.mem_of_getElem? (i := 3) rfl)
theorem k609 : Cond.static yL_declare ∈ gW := mc_14 _ (List.mem_of_getElem? (i := 4) rfl)
theorem k608 : Cond.code yL_declare cL_declare 5 (some .int) ∈ gW := mc_14 _ (List.mem_of_getElem? (i := 5) rfl)
theorem k591 : Cond.methodLink RL 9 yX11_feed ∈ gW := mc_14 _ (List.mem_of_getElem? (i := 6) rfl)
theorem k593 : Cond.instanceMethod yX11_feed ∈ gW := mc_14 _ (List.mem_of_getElem? (i := 7) rfl)
theorem k594 : Cond.selects RX11 yX11_feed yX11_feed ∈ gW := mc_14 _ (List.mem_of_getElem? (i := 8) rfl)
theorem k592 : Cond.code yX11_feed cX11_feed 6 (some .int) ∈ gW := mc_14 _ (List.mem_of_getElem? (i := 9) rfl)
theorem k2 : Cond.methodLink RX11 94 yX5_length ∈ gW := mc_14 _ (List.mem_of_getElem? (i := 10) rfl)
theorem k5 : Cond.instanceMethod yX5_length ∈ gW := mc_14 _ (List.mem_of_getElem? (i := 11) rfl)
theorem k6 : Cond.selects RX5 yX5_length yX5_length ∈ gW := mc_14 _ (List.mem_of_getElem? (i := 12) rfl)
theorem k3 : Cond.code yX5_length cX5_length 1 (some .int) ∈ gW := mc_14 _ (List.mem_of_getElem? (i := 13) rfl)
theorem k8 : Cond.methodLink RX11 105 yX5_append ∈ gW := mc_14 _ (List.mem_of_getElem? (i := 14) rfl)
theorem k10 : Cond.instanceMethod yX5_append ∈ gW := mc_14 _ (List.mem_of_getElem? (i := 15) rfl)
theorem k11 : Cond.selects RX5 yX5_append yX5_append ∈ gW := mc_14 _ (List.mem_of_getElem? (i := 16) rfl)
theorem k9 : Cond.code yX5_append cX5_append 3 none ∈ gW := mc_14 _ (List.mem_of_getElem? (i := 17) rfl)
theorem k595 : Cond.methodLink RL 15 yX11_trim ∈ gW := mc_14 _ (List.mem_of_getElem? (i := 18) rfl)
theorem k597 : Cond.instanceMethod yX11_trim ∈ gW := mc_14 _ (List.mem_of_getElem? (i := 19) rfl)
theorem k598 : Cond.selects RX11 yX11_trim yX11_trim ∈ gW := mc_14 _ (List.mem_of_getElem? (i := 20) rfl)
theorem k596 : Cond.code yX11_trim cX11_trim 2 (some .int) ∈ gW := mc_14 _ (List.mem_of_getElem? (i := 21) rfl)
theorem k12 : Cond.methodLink RX11 113 yX5_shorten ∈ gW := mc_14 _ (List.mem_of_getElem? (i := 22) rfl)
theorem k14 : Cond.instanceMethod yX5_shorten ∈ gW := mc_14 _ (List.mem_of_getElem? (i := 23) rfl)
theorem k15 : Cond.selects RX5 yX5_shorten yX5_shorten ∈ gW := mc_14 _ (List.mem_of_getElem? (i := 24) rfl)
theorem k13 : Cond.code yX5_shorten cX5_shorten 2 none ∈ gW := mc_15 _ (List.mem_of_getElem? (i := 0) rfl)
theorem k599 : Cond.methodLink RL 19 yX11_declare ∈ gW := mc_15 _ (List.mem_of_getElem? (i := 1) rfl)
theorem k601 : Cond.instanceMethod yX11_declare ∈ gW := mc_15 _ (List.mem_of_getElem? (i := 2) rfl)
theorem k602 : Cond.selects RX11 yX11_declare yX11_declare ∈ gW := mc_15 _ (List.mem_of_getElem? (i := 3) rfl)
theorem k600 : Cond.code yX11_declare cX11_declare 6 (some .int) ∈ gW := mc_15 _ (List.mem_of_getElem? (i := 4) rfl)
theorem k24 : Cond.methodLink RX11 116 yX5_holdsName ∈ gW := mc_15 _ (List.mem_of_getElem? (i := 5) rfl)
theorem k26 : Cond.instanceMethod yX5_holdsName ∈ gW := mc_15 _ (List.mem_of_getElem? (i := 6) rfl)
theorem k27 : Cond.selects RX5 yX5_holdsName yX5_holdsName ∈ gW := mc_15 _ (List.mem_of_getElem? (i := 7) rfl)
theorem k25 : Cond.code yX5_holdsName cX5_holdsName 2 (some .boolean) ∈ gW := mc_15 _ (List.mem_of_getElem? (i := 8) rfl)
theorem k16 : Cond.methodLink RX5 59 yX5_isLetter ∈ gW := mc_15 _ (List.mem_of_getElem? (i := 9) rfl)
theorem k18 : Cond.instanceMethod yX5_isLetter ∈ gW := mc_15 _ (List.mem_of_getElem? (i := 10) rfl)
theorem k17 : Cond.code yX5_isLetter cX5_isLetter 2 (some .boolean) ∈ gW := mc_15 _ (List.mem_of_getElem? (i := 11) rfl)
theorem k20 : Cond.methodLink RX5 63 yX5_isNamePart ∈ gW := mc_15 _ (List.mem_of_getElem? (i := 12) rfl)
theorem k22 : Cond.instanceMethod yX5_isNamePart ∈ gW := mc_15 _ (List.mem_of_getElem? (i := 13) rfl)
theorem k21 : Cond.code yX5_isNamePart cX5_isNamePart 2 (some .boolean) ∈ gW := mc_15 _ (List.mem_of_getElem? (i := 14) rfl)
theorem k49 : Cond.methodLink RX11 120 yX5_heldSymbol ∈ gW := mc_15 _ (List.mem_of_getElem? (i := 15) rfl)
theorem k51 : Cond.instanceMethod yX5_heldSymbol ∈ gW := mc_15 _ (List.mem_of_getElem? (i := 16) rfl)
theorem k52 : Cond.selects RX5 yX5_heldSymbol yX5_heldSymbol ∈ gW := mc_15 _ (List.mem_of_getElem? (i := 17) rfl)
theorem k50 : Cond.code yX5_heldSymbol cX5_heldSymbol 1 (some .int) ∈ gW := mc_15 _ (List.mem_of_getElem? (i := 18) rfl)
theorem k45 : Cond.methodLink RX5 66 yX7_find ∈ gW := mc_15 _ (List.mem_of_getElem? (i := 19) rfl)
theorem k47 : Cond.instanceMethod yX7_find ∈ gW := mc_15 _ (List.mem_of_getElem? (i := 20) rfl)
theorem k48 : Cond.selects RX7 yX7_find yX7_find ∈ gW := mc_15 _ (List.mem_of_getElem? (i := 21) rfl)
theorem k46 : Cond.code yX7_find cX7_find 5 (some .int) ∈ gW := mc_15 _ (List.mem_of_getElem? (i := 22) rfl)
theorem k41 : Cond.methodLink RX7 46 yX7_isNameAt ∈ gW := mc_15 _ (List.mem_of_getElem? (i := 23) rfl)
theorem k43 : Cond.instanceMethod yX7_isNameAt ∈ gW := mc_15 _ (List.mem_of_getElem? (i := 24) rfl)
theorem k42 : Cond.code yX7_isNameAt cX7_isNameAt 6 (some .boolean) ∈ gW := mc_16 _ (List.mem_of_getElem? (i := 0) rfl)
theorem k31 : Cond.methodLink RX7 50 yX7_nameLength ∈ gW := mc_16 _ (List.mem_of_getElem? (i := 1) rfl)
theorem k34 : Cond.instanceMethod yX7_nameLength ∈ gW := mc_16 _ (List.mem_of_getElem? (i := 2) rfl)
theorem k35 : Cond.selects RX7 yX7_nameLength yX7_nameLength ∈ gW := mc_16 _ (List.mem_of_getElem? (i := 3) rfl)
theorem k32 : Cond.code yX7_nameLength cX7_nameLength 2 (some .int) ∈ gW := mc_16 _ (List.mem_of_getElem? (i := 4) rfl)
theorem k37 : Cond.methodLink RX7 54 yX7_nameByte ∈ gW := mc_16 _ (List.mem_of_getElem? (i := 5) rfl)
theorem k39 : Cond.instanceMethod yX7_nameByte ∈ gW := mc_16 _ (List.mem_of_getElem? (i := 6) rfl)
theorem k40 : Cond.selects RX7 yX7_nameByte yX7_nameByte ∈ gW := mc_16 _ (List.mem_of_getElem? (i := 7) rfl)
theorem k38 : Cond.code yX7_nameByte cX7_nameByte 4 (some .byte) ∈ gW := mc_16 _ (List.mem_of_getElem? (i := 8) rfl)
theorem k53 : Cond.methodLink RX11 123 yX5_drain ∈ gW := mc_16 _ (List.mem_of_getElem? (i := 9) rfl)
theorem k55 : Cond.instanceMethod yX5_drain ∈ gW := mc_16 _ (List.mem_of_getElem? (i := 10) rfl)
theorem k56 : Cond.selects RX5 yX5_drain yX5_drain ∈ gW := mc_16 _ (List.mem_of_getElem? (i := 11) rfl)
theorem k54 : Cond.code yX5_drain cX5_drain 2 (some .int) ∈ gW := mc_16 _ (List.mem_of_getElem? (i := 12) rfl)
theorem k58 : Cond.methodLink RX11 128 yX7_isFull ∈ gW := mc_16 _ (List.mem_of_getElem? (i := 13) rfl)
theorem k60 : Cond.instanceMethod yX7_isFull ∈ gW := mc_16 _ (List.mem_of_getElem? (i := 14) rfl)
theorem k61 : Cond.selects RX7 yX7_isFull yX7_isFull ∈ gW := mc_16 _ (List.mem_of_getElem? (i := 15) rfl)
theorem k59 : Cond.code yX7_isFull cX7_isFull 1 (some .boolean) ∈ gW := mc_16 _ (List.mem_of_getElem? (i := 16) rfl)
theorem k65 : Cond.methodLink RX11 133 yX5_bytes ∈ gW := mc_16 _ (List.mem_of_getElem? (i := 17) rfl)
theorem k63 : Cond.instanceMethod yX5_bytes ∈ gW := mc_16 _ (List.mem_of_getElem? (i := 18) rfl)
theorem k64 : Cond.selects RX5 yX5_bytes yX5_bytes ∈ gW := mc_16 _ (List.mem_of_getElem? (i := 19) rfl)
theorem k62 : Cond.code yX5_bytes cX5_bytes 1 (some (.array .byte)) ∈ gW := mc_16 _ (List.mem_of_getElem? (i := 20) rfl)
theorem k70 : Cond.methodLink RX11 137 yX7_add ∈ gW := mc_16 _ (List.mem_of_getElem? (i := 21) rfl)
theorem k72 : Cond.instanceMethod yX7_add ∈ gW := mc_16 _ (List.mem_of_getElem? (i := 22) rfl)
theorem k73 : Cond.selects RX7 yX7_add yX7_add ∈ gW := mc_16 _ (List.mem_of_getElem? (i := 23) rfl)
theorem k71 : Cond.code yX7_add cX7_add 7 (some .int) ∈ gW := mc_16 _ (List.mem_of_getElem? (i := 24) rfl)
theorem k610 : Cond.methodLink RL 31 yX11_orderByWeight ∈ gW := mc_17 _ (List.mem_of_getElem? (i := 0) rfl)
theorem k612 : Cond.instanceMethod yX11_orderByWeight ∈ gW := mc_17 _ (List.mem_of_getElem? (i := 1) rfl)
theorem k613 : Cond.selects RX11 yX11_orderByWeight yX11_orderByWeight ∈ gW := mc_17 _ (List.mem_of_getElem? (i := 2) rfl)
theorem k611 : Cond.code yX11_orderByWeight cX11_orderByWeight 3 (some .boolean) ∈ gW := mc_17 _ (List.mem_of_getElem? (i := 3) rfl)
theorem k75 : Cond.methodLink RX11 153 yX7_isOrderFixed ∈ gW := mc_17 _ (List.mem_of_getElem? (i := 4) rfl)
theorem k77 : Cond.instanceMethod yX7_isOrderFixed ∈ gW := mc_17 _ (List.mem_of_getElem? (i := 5) rfl)
theorem k78 : Cond.selects RX7 yX7_isOrderFixed yX7_isOrderFixed ∈ gW := mc_17 _ (List.mem_of_getElem? (i := 6) rfl)
theorem k76 : Cond.code yX7_isOrderFixed cX7_isOrderFixed 1 (some .boolean) ∈ gW := mc_17 _ (List.mem_of_getElem? (i := 7) rfl)
theorem k80 : Cond.methodLink RX11 158 yX7_isByWeight ∈ gW := mc_17 _ (List.mem_of_getElem? (i := 8) rfl)
theorem k82 : Cond.instanceMethod yX7_isByWeight ∈ gW := mc_17 _ (List.mem_of_getElem? (i := 9) rfl)
theorem k83 : Cond.selects RX7 yX7_isByWeight yX7_isByWeight ∈ gW := mc_17 _ (List.mem_of_getElem? (i := 10) rfl)
theorem k81 : Cond.code yX7_isByWeight cX7_isByWeight 1 (some .boolean) ∈ gW := mc_17 _ (List.mem_of_getElem? (i := 11) rfl)
theorem k84 : Cond.methodLink RX11 161 yX7_chooseOrder ∈ gW := mc_17 _ (List.mem_of_getElem? (i := 12) rfl)
theorem k86 : Cond.instanceMethod yX7_chooseOrder ∈ gW := mc_17 _ (List.mem_of_getElem? (i := 13) rfl)
theorem k87 : Cond.selects RX7 yX7_chooseOrder yX7_chooseOrder ∈ gW := mc_17 _ (List.mem_of_getElem? (i := 14) rfl)
theorem k85 : Cond.code yX7_chooseOrder cX7_chooseOrder 2 none ∈ gW := mc_17 _ (List.mem_of_getElem? (i := 15) rfl)
theorem k614 : Cond.methodLink RL 35 yX11_setDirection ∈ gW := mc_17 _ (List.mem_of_getElem? (i := 16) rfl)
theorem k616 : Cond.instanceMethod yX11_setDirection ∈ gW := mc_17 _ (List.mem_of_getElem? (i := 17) rfl)
theorem k617 : Cond.selects RX11 yX11_setDirection yX11_setDirection ∈ gW := mc_17 _ (List.mem_of_getElem? (i := 18) rfl)
theorem k615 : Cond.code yX11_setDirection cX11_setDirection 4 (some .boolean) ∈ gW := mc_17 _ (List.mem_of_getElem? (i := 19) rfl)
theorem k88 : Cond.methodLink RX11 165 yX7_has ∈ gW := mc_17 _ (List.mem_of_getElem? (i := 20) rfl)
theorem k90 : Cond.instanceMethod yX7_has ∈ gW := mc_17 _ (List.mem_of_getElem? (i := 21) rfl)
theorem k91 : Cond.selects RX7 yX7_has yX7_has ∈ gW := mc_17 _ (List.mem_of_getElem? (i := 22) rfl)
theorem k89 : Cond.code yX7_has cX7_has 2 (some .boolean) ∈ gW := mc_17 _ (List.mem_of_getElem? (i := 23) rfl)
theorem k101 : Cond.methodLink RX11 184 yX7_isFromRight ∈ gW := mc_17 _ (List.mem_of_getElem? (i := 24) rfl)
theorem k105 : Cond.methodLink RX11 187 yX7_direct ∈ gW := mc_18 _ (List.mem_of_getElem? (i := 0) rfl)
theorem k107 : Cond.instanceMethod yX7_direct ∈ gW := mc_18 _ (List.mem_of_getElem? (i := 1) rfl)
theorem k108 : Cond.selects RX7 yX7_direct yX7_direct ∈ gW := mc_18 _ (List.mem_of_getElem? (i := 2) rfl)
theorem k106 : Cond.code yX7_direct cX7_direct 3 none ∈ gW := mc_18 _ (List.mem_of_getElem? (i := 3) rfl)
theorem k618 : Cond.methodLink RL 39 yX11_promote ∈ gW := mc_18 _ (List.mem_of_getElem? (i := 4) rfl)
theorem k620 : Cond.instanceMethod yX11_promote ∈ gW := mc_18 _ (List.mem_of_getElem? (i := 5) rfl)
theorem k621 : Cond.selects RX11 yX11_promote yX11_promote ∈ gW := mc_18 _ (List.mem_of_getElem? (i := 6) rfl)
theorem k619 : Cond.code yX11_promote cX11_promote 4 (some .int) ∈ gW := mc_18 _ (List.mem_of_getElem? (i := 7) rfl)
theorem k92 : Cond.methodLink RX11 174 yX7_rank ∈ gW := mc_18 _ (List.mem_of_getElem? (i := 8) rfl)
theorem k96 : Cond.methodLink RX11 178 yX7_moveTo ∈ gW := mc_18 _ (List.mem_of_getElem? (i := 9) rfl)
theorem k98 : Cond.instanceMethod yX7_moveTo ∈ gW := mc_18 _ (List.mem_of_getElem? (i := 10) rfl)
theorem k99 : Cond.selects RX7 yX7_moveTo yX7_moveTo ∈ gW := mc_18 _ (List.mem_of_getElem? (i := 11) rfl)
theorem k97 : Cond.code yX7_moveTo cX7_moveTo 5 none ∈ gW := mc_18 _ (List.mem_of_getElem? (i := 12) rfl)
theorem k622 : Cond.methodLink RL 42 yX11_rankOf ∈ gW := mc_18 _ (List.mem_of_getElem? (i := 13) rfl)
theorem k624 : Cond.instanceMethod yX11_rankOf ∈ gW := mc_18 _ (List.mem_of_getElem? (i := 14) rfl)
theorem k625 : Cond.selects RX11 yX11_rankOf yX11_rankOf ∈ gW := mc_18 _ (List.mem_of_getElem? (i := 15) rfl)
theorem k623 : Cond.code yX11_rankOf cX11_rankOf 2 (some .int) ∈ gW := mc_18 _ (List.mem_of_getElem? (i := 16) rfl)
theorem k629 : Cond.methodLink RL 49 Lib.Math.max.name ∈ gW := mc_18 _ (List.mem_of_getElem? (i := 17) rfl)
theorem k630 : Cond.methodLink RL 54 yX11_size ∈ gW := mc_18 _ (List.mem_of_getElem? (i := 18) rfl)
theorem k632 : Cond.instanceMethod yX11_size ∈ gW := mc_18 _ (List.mem_of_getElem? (i := 19) rfl)
theorem k633 : Cond.selects RX11 yX11_size yX11_size ∈ gW := mc_18 _ (List.mem_of_getElem? (i := 20) rfl)
theorem k631 : Cond.code yX11_size cX11_size 2 (some .int) ∈ gW := mc_18 _ (List.mem_of_getElem? (i := 21) rfl)
theorem k211 : Cond.methodLink RX11 247 yX8_width ∈ gW := mc_18 _ (List.mem_of_getElem? (i := 22) rfl)
theorem k183 : Cond.instanceMethod yX8_width ∈ gW := mc_18 _ (List.mem_of_getElem? (i := 23) rfl)
theorem k184 : Cond.selects RX8 yX8_width yX8_width ∈ gW := mc_18 _ (List.mem_of_getElem? (i := 24) rfl)
theorem k182 : Cond.code yX8_width cX8_width 2 (some .int) ∈ gW := mc_19 _ (List.mem_of_getElem? (i := 0) rfl)
theorem k634 : Cond.methodLink RL 57 yX11_term ∈ gW := mc_19 _ (List.mem_of_getElem? (i := 1) rfl)
theorem k636 : Cond.instanceMethod yX11_term ∈ gW := mc_19 _ (List.mem_of_getElem? (i := 2) rfl)
theorem k637 : Cond.selects RX11 yX11_term yX11_term ∈ gW := mc_19 _ (List.mem_of_getElem? (i := 3) rfl)
theorem k635 : Cond.code yX11_term cX11_term 7 (some .int) ∈ gW := mc_19 _ (List.mem_of_getElem? (i := 4) rfl)
theorem k109 : Cond.methodLink RX11 191 yX7_arity ∈ gW := mc_19 _ (List.mem_of_getElem? (i := 5) rfl)
theorem k177 : Cond.methodLink RX11 205 yX8_make ∈ gW := mc_19 _ (List.mem_of_getElem? (i := 6) rfl)
theorem k189 : Cond.methodLink RX11 209 yX8_isTooLarge ∈ gW := mc_19 _ (List.mem_of_getElem? (i := 7) rfl)
theorem k191 : Cond.instanceMethod yX8_isTooLarge ∈ gW := mc_19 _ (List.mem_of_getElem? (i := 8) rfl)
theorem k192 : Cond.selects RX8 yX8_isTooLarge yX8_isTooLarge ∈ gW := mc_19 _ (List.mem_of_getElem? (i := 9) rfl)
theorem k190 : Cond.code yX8_isTooLarge cX8_isTooLarge 2 (some .boolean) ∈ gW := mc_19 _ (List.mem_of_getElem? (i := 10) rfl)
theorem k181 : Cond.methodLink RX8 62 yX8_width ∈ gW := mc_19 _ (List.mem_of_getElem? (i := 11) rfl)
theorem k185 : Cond.methodLink RX8 65 yX8_height ∈ gW := mc_19 _ (List.mem_of_getElem? (i := 12) rfl)
theorem k187 : Cond.instanceMethod yX8_height ∈ gW := mc_19 _ (List.mem_of_getElem? (i := 13) rfl)
theorem k188 : Cond.selects RX8 yX8_height yX8_height ∈ gW := mc_19 _ (List.mem_of_getElem? (i := 14) rfl)
theorem k186 : Cond.code yX8_height cX8_height 2 (some .int) ∈ gW := mc_19 _ (List.mem_of_getElem? (i := 15) rfl)
theorem k520 : Cond.classLink RX11 212 g_ARE ∈ gW := mc_19 _ (List.mem_of_getElem? (i := 16) rfl)
theorem k207 : Cond.methodLink RX11 217 yX11_giveNumber ∈ gW := mc_19 _ (List.mem_of_getElem? (i := 17) rfl)
theorem k209 : Cond.instanceMethod yX11_giveNumber ∈ gW := mc_19 _ (List.mem_of_getElem? (i := 18) rfl)
theorem k208 : Cond.code yX11_giveNumber cX11_giveNumber 3 (some .int) ∈ gW := mc_19 _ (List.mem_of_getElem? (i := 19) rfl)
theorem k194 : Cond.methodLink RX11 445 yX8_number ∈ gW := mc_19 _ (List.mem_of_getElem? (i := 20) rfl)
theorem k196 : Cond.instanceMethod yX8_number ∈ gW := mc_19 _ (List.mem_of_getElem? (i := 21) rfl)
theorem k197 : Cond.selects RX8 yX8_number yX8_number ∈ gW := mc_19 _ (List.mem_of_getElem? (i := 22) rfl)
theorem k195 : Cond.code yX8_number cX8_number 2 (some .int) ∈ gW := mc_19 _ (List.mem_of_getElem? (i := 23) rfl)
theorem k198 : Cond.methodLink RX11 448 yX8_setNumber ∈ gW := mc_19 _ (List.mem_of_getElem? (i := 24) rfl)
theorem k200 : Cond.instanceMethod yX8_setNumber ∈ gW := mc_20 _ (List.mem_of_getElem? (i := 0) rfl)
theorem k201 : Cond.selects RX8 yX8_setNumber yX8_setNumber ∈ gW := mc_20 _ (List.mem_of_getElem? (i := 1) rfl)
theorem k199 : Cond.code yX8_setNumber cX8_setNumber 3 none ∈ gW := mc_20 _ (List.mem_of_getElem? (i := 2) rfl)
theorem k202 : Cond.methodLink RX11 451 yX6_set ∈ gW := mc_20 _ (List.mem_of_getElem? (i := 3) rfl)
theorem k203 : Cond.methodLink RX11 343 yX7_fixOrder ∈ gW := mc_20 _ (List.mem_of_getElem? (i := 4) rfl)
theorem k205 : Cond.instanceMethod yX7_fixOrder ∈ gW := mc_20 _ (List.mem_of_getElem? (i := 5) rfl)
theorem k206 : Cond.selects RX7 yX7_fixOrder yX7_fixOrder ∈ gW := mc_20 _ (List.mem_of_getElem? (i := 6) rfl)
theorem k204 : Cond.code yX7_fixOrder cX7_fixOrder 1 none ∈ gW := mc_20 _ (List.mem_of_getElem? (i := 7) rfl)
theorem k642 : Cond.classLink RL 64 g_ARE ∈ gW := mc_20 _ (List.mem_of_getElem? (i := 8) rfl)
theorem k654 : Cond.classLink RL 66 g_ISE ∈ gW := mc_20 _ (List.mem_of_getElem? (i := 9) rfl)
theorem k638 : Cond.methodLink RL 61 yX11_equate ∈ gW := mc_20 _ (List.mem_of_getElem? (i := 10) rfl)
theorem k640 : Cond.instanceMethod yX11_equate ∈ gW := mc_20 _ (List.mem_of_getElem? (i := 11) rfl)
theorem k641 : Cond.selects RX11 yX11_equate yX11_equate ∈ gW := mc_20 _ (List.mem_of_getElem? (i := 12) rfl)
theorem k639 : Cond.code yX11_equate cX11_equate 3 (some .int) ∈ gW := mc_20 _ (List.mem_of_getElem? (i := 13) rfl)
theorem k353 : Cond.methodLink RX11 293 yX8_isGround ∈ gW := mc_20 _ (List.mem_of_getElem? (i := 14) rfl)
theorem k355 : Cond.instanceMethod yX8_isGround ∈ gW := mc_20 _ (List.mem_of_getElem? (i := 15) rfl)
theorem k356 : Cond.selects RX8 yX8_isGround yX8_isGround ∈ gW := mc_20 _ (List.mem_of_getElem? (i := 16) rfl)
theorem k354 : Cond.code yX8_isGround cX8_isGround 2 (some .boolean) ∈ gW := mc_20 _ (List.mem_of_getElem? (i := 17) rfl)
theorem k362 : Cond.methodLink RX11 303 yX9_addEquation ∈ gW := mc_20 _ (List.mem_of_getElem? (i := 18) rfl)
theorem k365 : Cond.instanceMethod yX9_addEquation ∈ gW := mc_20 _ (List.mem_of_getElem? (i := 19) rfl)
theorem k366 : Cond.selects RX9 yX9_addEquation yX9_addEquation ∈ gW := mc_20 _ (List.mem_of_getElem? (i := 20) rfl)
theorem k363 : Cond.code yX9_addEquation cX9_addEquation 3 none ∈ gW := mc_20 _ (List.mem_of_getElem? (i := 21) rfl)
theorem k510 : Cond.methodLink RX11 306 yX9_complete ∈ gW := mc_20 _ (List.mem_of_getElem? (i := 22) rfl)
theorem k512 : Cond.instanceMethod yX9_complete ∈ gW := mc_20 _ (List.mem_of_getElem? (i := 23) rfl)
theorem k513 : Cond.selects RX9 yX9_complete yX9_complete ∈ gW := mc_20 _ (List.mem_of_getElem? (i := 24) rfl)
theorem k511 : Cond.code yX9_complete cX9_complete 4 (some .boolean) ∈ gW := mc_21 _ (List.mem_of_getElem? (i := 0) rfl)
theorem k395 : Cond.methodLink RX9 91 yX9_gather ∈ gW := mc_21 _ (List.mem_of_getElem? (i := 1) rfl)
theorem k397 : Cond.instanceMethod yX9_gather ∈ gW := mc_21 _ (List.mem_of_getElem? (i := 2) rfl)
theorem k396 : Cond.code yX9_gather cX9_gather 5 none ∈ gW := mc_21 _ (List.mem_of_getElem? (i := 3) rfl)
theorem k384 : Cond.methodLink RX9 141 yX1_start ∈ gW := mc_21 _ (List.mem_of_getElem? (i := 4) rfl)
theorem k387 : Cond.instanceMethod yX1_start ∈ gW := mc_21 _ (List.mem_of_getElem? (i := 5) rfl)
theorem k388 : Cond.selects RX1 yX1_start yX1_start ∈ gW := mc_21 _ (List.mem_of_getElem? (i := 6) rfl)
theorem k385 : Cond.code yX1_start cX1_start 3 none ∈ gW := mc_21 _ (List.mem_of_getElem? (i := 7) rfl)
theorem k373 : Cond.methodLink RX1 55 yX10_count ∈ gW := mc_21 _ (List.mem_of_getElem? (i := 8) rfl)
theorem k375 : Cond.methodLink RX1 61 yX6_set ∈ gW := mc_21 _ (List.mem_of_getElem? (i := 9) rfl)
theorem k380 : Cond.methodLink RX1 65 yX10_node ∈ gW := mc_21 _ (List.mem_of_getElem? (i := 10) rfl)
theorem k381 : Cond.methodLink RX1 69 yX8_symbol ∈ gW := mc_21 _ (List.mem_of_getElem? (i := 11) rfl)
theorem k383 : Cond.methodLink RX1 74 yX10_partOf ∈ gW := mc_21 _ (List.mem_of_getElem? (i := 12) rfl)
theorem k389 : Cond.methodLink RX9 144 yX10_indexOf ∈ gW := mc_21 _ (List.mem_of_getElem? (i := 13) rfl)
theorem k391 : Cond.methodLink RX9 147 yX1_join ∈ gW := mc_21 _ (List.mem_of_getElem? (i := 14) rfl)
theorem k393 : Cond.instanceMethod yX1_join ∈ gW := mc_21 _ (List.mem_of_getElem? (i := 15) rfl)
theorem k394 : Cond.selects RX1 yX1_join yX1_join ∈ gW := mc_21 _ (List.mem_of_getElem? (i := 16) rfl)
theorem k392 : Cond.code yX1_join cX1_join 7 none ∈ gW := mc_21 _ (List.mem_of_getElem? (i := 17) rfl)
theorem k390 : Cond.methodLink RX1 78 yX6_get ∈ gW := mc_21 _ (List.mem_of_getElem? (i := 18) rfl)
theorem k416 : Cond.methodLink RX9 95 yX1_close ∈ gW := mc_21 _ (List.mem_of_getElem? (i := 19) rfl)
theorem k418 : Cond.instanceMethod yX1_close ∈ gW := mc_21 _ (List.mem_of_getElem? (i := 20) rfl)
theorem k419 : Cond.selects RX1 yX1_close yX1_close ∈ gW := mc_21 _ (List.mem_of_getElem? (i := 21) rfl)
theorem k417 : Cond.code yX1_close cX1_close 2 none ∈ gW := mc_21 _ (List.mem_of_getElem? (i := 22) rfl)
theorem k412 : Cond.methodLink RX1 81 yX1_joinTwins ∈ gW := mc_21 _ (List.mem_of_getElem? (i := 23) rfl)
theorem k414 : Cond.instanceMethod yX1_joinTwins ∈ gW := mc_21 _ (List.mem_of_getElem? (i := 24) rfl)
theorem k413 : Cond.code yX1_joinTwins cX1_joinTwins 6 (some .boolean) ∈ gW := mc_22 _ (List.mem_of_getElem? (i := 0) rfl)
theorem k401 : Cond.methodLink RX1 85 yX1_bucketOf ∈ gW := mc_22 _ (List.mem_of_getElem? (i := 1) rfl)
theorem k403 : Cond.instanceMethod yX1_bucketOf ∈ gW := mc_22 _ (List.mem_of_getElem? (i := 2) rfl)
theorem k402 : Cond.code yX1_bucketOf cX1_bucketOf 4 (some .int) ∈ gW := mc_22 _ (List.mem_of_getElem? (i := 3) rfl)
theorem k400 : Cond.constant RX1 95 739982445 ∈ gW := mc_22 _ (List.mem_of_getElem? (i := 4) rfl)
theorem k405 : Cond.methodLink RX1 88 yX1_areTwins ∈ gW := mc_22 _ (List.mem_of_getElem? (i := 5) rfl)
theorem k407 : Cond.instanceMethod yX1_areTwins ∈ gW := mc_22 _ (List.mem_of_getElem? (i := 6) rfl)
theorem k406 : Cond.code yX1_areTwins cX1_areTwins 5 (some .boolean) ∈ gW := mc_22 _ (List.mem_of_getElem? (i := 7) rfl)
theorem k411 : Cond.methodLink RX1 92 yX1_join ∈ gW := mc_22 _ (List.mem_of_getElem? (i := 8) rfl)
theorem k425 : Cond.methodLink RX9 98 yX1_pourInto ∈ gW := mc_22 _ (List.mem_of_getElem? (i := 9) rfl)
theorem k427 : Cond.instanceMethod yX1_pourInto ∈ gW := mc_22 _ (List.mem_of_getElem? (i := 10) rfl)
theorem k428 : Cond.selects RX1 yX1_pourInto yX1_pourInto ∈ gW := mc_22 _ (List.mem_of_getElem? (i := 11) rfl)
theorem k426 : Cond.code yX1_pourInto cX1_pourInto 5 none ∈ gW := mc_22 _ (List.mem_of_getElem? (i := 12) rfl)
theorem k421 : Cond.methodLink RX1 96 yX2_clear ∈ gW := mc_22 _ (List.mem_of_getElem? (i := 13) rfl)
theorem k422 : Cond.methodLink RX1 101 yX2_addProduction ∈ gW := mc_22 _ (List.mem_of_getElem? (i := 14) rfl)
theorem k423 : Cond.methodLink RX1 104 yX2_arity ∈ gW := mc_22 _ (List.mem_of_getElem? (i := 15) rfl)
theorem k424 : Cond.methodLink RX1 107 yX2_setPart ∈ gW := mc_22 _ (List.mem_of_getElem? (i := 16) rfl)
theorem k430 : Cond.methodLink RX9 102 yX7_orderMode ∈ gW := mc_22 _ (List.mem_of_getElem? (i := 17) rfl)
theorem k431 : Cond.methodLink RX9 108 yX2_rank ∈ gW := mc_22 _ (List.mem_of_getElem? (i := 18) rfl)
theorem k432 : Cond.methodLink RX9 113 yX2_sequenceCount ∈ gW := mc_22 _ (List.mem_of_getElem? (i := 19) rfl)
theorem k434 : Cond.instanceMethod yX2_sequenceCount ∈ gW := mc_22 _ (List.mem_of_getElem? (i := 20) rfl)
theorem k435 : Cond.selects RX2 yX2_sequenceCount yX2_sequenceCount ∈ gW := mc_22 _ (List.mem_of_getElem? (i := 21) rfl)
theorem k433 : Cond.code yX2_sequenceCount cX2_sequenceCount 1 (some .int) ∈ gW := mc_22 _ (List.mem_of_getElem? (i := 22) rfl)
theorem k436 : Cond.methodLink RX9 116 yX2_ranked ∈ gW := mc_22 _ (List.mem_of_getElem? (i := 23) rfl)
theorem k438 : Cond.instanceMethod yX2_ranked ∈ gW := mc_22 _ (List.mem_of_getElem? (i := 24) rfl)
theorem k439 : Cond.selects RX2 yX2_ranked yX2_ranked ∈ gW := mc_23 _ (List.mem_of_getElem? (i := 0) rfl)
theorem k437 : Cond.code yX2_ranked cX2_ranked 2 (some .int) ∈ gW := mc_23 _ (List.mem_of_getElem? (i := 1) rfl)
theorem k440 : Cond.methodLink RX9 120 yX2_owner ∈ gW := mc_23 _ (List.mem_of_getElem? (i := 2) rfl)
theorem k442 : Cond.instanceMethod yX2_owner ∈ gW := mc_23 _ (List.mem_of_getElem? (i := 3) rfl)
theorem k443 : Cond.selects RX2 yX2_owner yX2_owner ∈ gW := mc_23 _ (List.mem_of_getElem? (i := 4) rfl)
theorem k441 : Cond.code yX2_owner cX2_owner 2 (some .int) ∈ gW := mc_23 _ (List.mem_of_getElem? (i := 5) rfl)
theorem k444 : Cond.methodLink RX9 123 yX2_choice ∈ gW := mc_23 _ (List.mem_of_getElem? (i := 6) rfl)
theorem k446 : Cond.instanceMethod yX2_choice ∈ gW := mc_23 _ (List.mem_of_getElem? (i := 7) rfl)
theorem k447 : Cond.selects RX2 yX2_choice yX2_choice ∈ gW := mc_23 _ (List.mem_of_getElem? (i := 8) rfl)
theorem k445 : Cond.code yX2_choice cX2_choice 2 (some .int) ∈ gW := mc_23 _ (List.mem_of_getElem? (i := 9) rfl)
theorem k456 : Cond.methodLink RX9 126 yX9_isTooLargeSide ∈ gW := mc_23 _ (List.mem_of_getElem? (i := 10) rfl)
theorem k458 : Cond.instanceMethod yX9_isTooLargeSide ∈ gW := mc_23 _ (List.mem_of_getElem? (i := 11) rfl)
theorem k457 : Cond.code yX9_isTooLargeSide cX9_isTooLargeSide 2 (some .boolean) ∈ gW := mc_23 _ (List.mem_of_getElem? (i := 12) rfl)
theorem k448 : Cond.methodLink RX9 150 yX2_termSize ∈ gW := mc_23 _ (List.mem_of_getElem? (i := 13) rfl)
theorem k450 : Cond.instanceMethod yX2_termSize ∈ gW := mc_23 _ (List.mem_of_getElem? (i := 14) rfl)
theorem k451 : Cond.selects RX2 yX2_termSize yX2_termSize ∈ gW := mc_23 _ (List.mem_of_getElem? (i := 15) rfl)
theorem k449 : Cond.code yX2_termSize cX2_termSize 2 (some .int) ∈ gW := mc_23 _ (List.mem_of_getElem? (i := 16) rfl)
theorem k452 : Cond.methodLink RX9 153 yX2_termDepth ∈ gW := mc_23 _ (List.mem_of_getElem? (i := 17) rfl)
theorem k454 : Cond.instanceMethod yX2_termDepth ∈ gW := mc_23 _ (List.mem_of_getElem? (i := 18) rfl)
theorem k455 : Cond.selects RX2 yX2_termDepth yX2_termDepth ∈ gW := mc_23 _ (List.mem_of_getElem? (i := 19) rfl)
theorem k453 : Cond.code yX2_termDepth cX2_termDepth 2 (some .int) ∈ gW := mc_23 _ (List.mem_of_getElem? (i := 20) rfl)
theorem k506 : Cond.methodLink RX9 130 yX9_takeRules ∈ gW := mc_23 _ (List.mem_of_getElem? (i := 21) rfl)
theorem k508 : Cond.instanceMethod yX9_takeRules ∈ gW := mc_23 _ (List.mem_of_getElem? (i := 22) rfl)
theorem k507 : Cond.code yX9_takeRules cX9_takeRules 4 none ∈ gW := mc_23 _ (List.mem_of_getElem? (i := 23) rfl)
theorem k460 : Cond.methodLink RX9 156 yX2_dropNeeds ∈ gW := mc_23 _ (List.mem_of_getElem? (i := 24) rfl)
theorem k462 : Cond.instanceMethod yX2_dropNeeds ∈ gW := mc_24 _ (List.mem_of_getElem? (i := 0) rfl)
theorem k463 : Cond.selects RX2 yX2_dropNeeds yX2_dropNeeds ∈ gW := mc_24 _ (List.mem_of_getElem? (i := 1) rfl)
theorem k461 : Cond.code yX2_dropNeeds cX2_dropNeeds 2 none ∈ gW := mc_24 _ (List.mem_of_getElem? (i := 2) rfl)
theorem k464 : Cond.methodLink RX9 159 yX2_need ∈ gW := mc_24 _ (List.mem_of_getElem? (i := 3) rfl)
theorem k466 : Cond.instanceMethod yX2_need ∈ gW := mc_24 _ (List.mem_of_getElem? (i := 4) rfl)
theorem k467 : Cond.selects RX2 yX2_need yX2_need ∈ gW := mc_24 _ (List.mem_of_getElem? (i := 5) rfl)
theorem k465 : Cond.code yX2_need cX2_need 2 none ∈ gW := mc_24 _ (List.mem_of_getElem? (i := 6) rfl)
theorem k468 : Cond.methodLink RX9 162 yX2_needParts ∈ gW := mc_24 _ (List.mem_of_getElem? (i := 7) rfl)
theorem k470 : Cond.instanceMethod yX2_needParts ∈ gW := mc_24 _ (List.mem_of_getElem? (i := 8) rfl)
theorem k471 : Cond.selects RX2 yX2_needParts yX2_needParts ∈ gW := mc_24 _ (List.mem_of_getElem? (i := 9) rfl)
theorem k469 : Cond.code yX2_needParts cX2_needParts 3 none ∈ gW := mc_24 _ (List.mem_of_getElem? (i := 10) rfl)
theorem k477 : Cond.methodLink RX9 165 yX2_spreadNeeds ∈ gW := mc_24 _ (List.mem_of_getElem? (i := 11) rfl)
theorem k479 : Cond.instanceMethod yX2_spreadNeeds ∈ gW := mc_24 _ (List.mem_of_getElem? (i := 12) rfl)
theorem k480 : Cond.selects RX2 yX2_spreadNeeds yX2_spreadNeeds ∈ gW := mc_24 _ (List.mem_of_getElem? (i := 13) rfl)
theorem k478 : Cond.code yX2_spreadNeeds cX2_spreadNeeds 3 none ∈ gW := mc_24 _ (List.mem_of_getElem? (i := 14) rfl)
theorem k472 : Cond.methodLink RX2 161 yX2_isNeeded ∈ gW := mc_24 _ (List.mem_of_getElem? (i := 15) rfl)
theorem k474 : Cond.instanceMethod yX2_isNeeded ∈ gW := mc_24 _ (List.mem_of_getElem? (i := 16) rfl)
theorem k475 : Cond.selects RX2 yX2_isNeeded yX2_isNeeded ∈ gW := mc_24 _ (List.mem_of_getElem? (i := 17) rfl)
theorem k473 : Cond.code yX2_isNeeded cX2_isNeeded 3 (some .boolean) ∈ gW := mc_24 _ (List.mem_of_getElem? (i := 18) rfl)
theorem k476 : Cond.methodLink RX2 164 yX2_needParts ∈ gW := mc_24 _ (List.mem_of_getElem? (i := 19) rfl)
theorem k482 : Cond.methodLink RX9 171 yX2_isNeeded ∈ gW := mc_24 _ (List.mem_of_getElem? (i := 20) rfl)
theorem k486 : Cond.methodLink RX9 174 yX2_makeTerm ∈ gW := mc_24 _ (List.mem_of_getElem? (i := 21) rfl)
theorem k488 : Cond.instanceMethod yX2_makeTerm ∈ gW := mc_24 _ (List.mem_of_getElem? (i := 22) rfl)
theorem k489 : Cond.selects RX2 yX2_makeTerm yX2_makeTerm ∈ gW := mc_24 _ (List.mem_of_getElem? (i := 23) rfl)
theorem k487 : Cond.code yX2_makeTerm cX2_makeTerm 8 (some .int) ∈ gW := mc_24 _ (List.mem_of_getElem? (i := 24) rfl)
theorem k485 : Cond.methodLink RX2 157 yX8_make ∈ gW := mc_25 _ (List.mem_of_getElem? (i := 0) rfl)
theorem k502 : Cond.methodLink RX9 178 yX2_setLeastTerm ∈ gW := mc_25 _ (List.mem_of_getElem? (i := 1) rfl)
theorem k504 : Cond.instanceMethod yX2_setLeastTerm ∈ gW := mc_25 _ (List.mem_of_getElem? (i := 2) rfl)
theorem k505 : Cond.selects RX2 yX2_setLeastTerm yX2_setLeastTerm ∈ gW := mc_25 _ (List.mem_of_getElem? (i := 3) rfl)
theorem k503 : Cond.code yX2_setLeastTerm cX2_setLeastTerm 3 none ∈ gW := mc_25 _ (List.mem_of_getElem? (i := 4) rfl)
theorem k490 : Cond.methodLink RX9 181 yX2_leastTerm ∈ gW := mc_25 _ (List.mem_of_getElem? (i := 5) rfl)
theorem k492 : Cond.instanceMethod yX2_leastTerm ∈ gW := mc_25 _ (List.mem_of_getElem? (i := 6) rfl)
theorem k493 : Cond.selects RX2 yX2_leastTerm yX2_leastTerm ∈ gW := mc_25 _ (List.mem_of_getElem? (i := 7) rfl)
theorem k491 : Cond.code yX2_leastTerm cX2_leastTerm 2 (some .int) ∈ gW := mc_25 _ (List.mem_of_getElem? (i := 8) rfl)
theorem k498 : Cond.methodLink RX9 184 yX9_addRule ∈ gW := mc_25 _ (List.mem_of_getElem? (i := 9) rfl)
theorem k500 : Cond.instanceMethod yX9_addRule ∈ gW := mc_25 _ (List.mem_of_getElem? (i := 10) rfl)
theorem k499 : Cond.code yX9_addRule cX9_addRule 3 none ∈ gW := mc_25 _ (List.mem_of_getElem? (i := 11) rfl)
theorem k497 : Cond.methodLink RX9 187 yX6_set ∈ gW := mc_25 _ (List.mem_of_getElem? (i := 12) rfl)
theorem k516 : Cond.methodLink RX11 312 yX9_goBack ∈ gW := mc_25 _ (List.mem_of_getElem? (i := 13) rfl)
theorem k518 : Cond.instanceMethod yX9_goBack ∈ gW := mc_25 _ (List.mem_of_getElem? (i := 14) rfl)
theorem k519 : Cond.selects RX9 yX9_goBack yX9_goBack ∈ gW := mc_25 _ (List.mem_of_getElem? (i := 15) rfl)
theorem k517 : Cond.code yX9_goBack cX9_goBack 3 none ∈ gW := mc_25 _ (List.mem_of_getElem? (i := 16) rfl)
theorem k643 : Cond.methodLink RL 68 yX11_normalForm ∈ gW := mc_25 _ (List.mem_of_getElem? (i := 17) rfl)
theorem k645 : Cond.instanceMethod yX11_normalForm ∈ gW := mc_25 _ (List.mem_of_getElem? (i := 18) rfl)
theorem k646 : Cond.selects RX11 yX11_normalForm yX11_normalForm ∈ gW := mc_25 _ (List.mem_of_getElem? (i := 19) rfl)
theorem k644 : Cond.code yX11_normalForm cX11_normalForm 3 (some .int) ∈ gW := mc_25 _ (List.mem_of_getElem? (i := 20) rfl)
theorem k572 : Cond.methodLink RX11 378 yX9_normalize ∈ gW := mc_25 _ (List.mem_of_getElem? (i := 21) rfl)
theorem k647 : Cond.methodLink RL 71 yL_unite ∈ gW := mc_25 _ (List.mem_of_getElem? (i := 22) rfl)
theorem k649 : Cond.static yL_unite ∈ gW := mc_25 _ (List.mem_of_getElem? (i := 23) rfl)
theorem k648 : Cond.code yL_unite cL_unite 4 none ∈ gW := mc_25 _ (List.mem_of_getElem? (i := 24) rfl)
theorem k650 : Cond.methodLink RL 75 yX11_pop ∈ gW := mc_26 _ (List.mem_of_getElem? (i := 0) rfl)
theorem k652 : Cond.instanceMethod yX11_pop ∈ gW := mc_26 _ (List.mem_of_getElem? (i := 1) rfl)
theorem k653 : Cond.selects RX11 yX11_pop yX11_pop ∈ gW := mc_26 _ (List.mem_of_getElem? (i := 2) rfl)
theorem k651 : Cond.code yX11_pop cX11_pop 1 (some .int) ∈ gW := mc_26 _ (List.mem_of_getElem? (i := 3) rfl)
theorem k531 : Cond.methodLink RX11 364 yX9_closeLevel ∈ gW := mc_26 _ (List.mem_of_getElem? (i := 4) rfl)
theorem k533 : Cond.instanceMethod yX9_closeLevel ∈ gW := mc_26 _ (List.mem_of_getElem? (i := 5) rfl)
theorem k534 : Cond.selects RX9 yX9_closeLevel yX9_closeLevel ∈ gW := mc_26 _ (List.mem_of_getElem? (i := 6) rfl)
theorem k532 : Cond.code yX9_closeLevel cX9_closeLevel 1 none ∈ gW := mc_26 _ (List.mem_of_getElem? (i := 7) rfl)
theorem k530 : Cond.methodLink RX9 88 yX9_goBack ∈ gW := mc_26 _ (List.mem_of_getElem? (i := 8) rfl)
theorem ka_int : Cond.arrayClass .int ∈ gW := k655
theorem ka_byte : Cond.arrayClass .byte ∈ gW := k656
theorem ka_boolean : Cond.arrayClass .boolean ∈ gW := k657
theorem ka_long : Cond.arrayClass .long ∈ gW := k658
theorem tk0 : ∀ w ∈ k2_sels lw_privs, w ∈ lw_tbl := fun _ h => List.mem_append_left _ h
theorem tk1 : ∀ w ∈ tables_1_1, w ∈ lw_tbl := fun _ h => List.mem_append_right _ (List.mem_append_left _ h)
theorem tk2 : ∀ w ∈ tables_1_2, w ∈ lw_tbl := fun _ h => List.mem_append_right _ (List.mem_append_right _ (List.mem_append_left _ h))
theorem tk3 : ∀ w ∈ tables_1_3, w ∈ lw_tbl := fun _ h => List.mem_append_right _ (List.mem_append_right _ (List.mem_append_right _ (List.mem_append_left _ h)))
theorem tk4 : ∀ w ∈ tables_1_4, w ∈ lw_tbl := fun _ h => List.mem_append_right _ (List.mem_append_right _ (List.mem_append_right _ (List.mem_append_right _ (List.mem_append_left _ h))))
theorem tk5 : ∀ w ∈ tables_1_5, w ∈ lw_tbl := fun _ h => List.mem_append_right _ (List.mem_append_right _ (List.mem_append_right _ (List.mem_append_right _ (List.mem_append_right _ (List.mem_append_left _ h)))))
theorem tk6 : ∀ w ∈ tables_1_6, w ∈ lw_tbl := fun _ h => List.mem_append_right _ (List.mem_append_right _ (List.mem_append_right _ (List.mem_append_right _ (List.mem_append_right _ (List.mem_append_right _ (h))))))
set_option maxRecDepth 100000 in
theorem tb_0 : ∀ w ∈ gW_0, w ∈ lw_tbl := List.forall_mem_cons.mpr ⟨tk0 _ (List.mem_of_getElem? (i := 0) rfl), List.forall_mem_cons.mpr ⟨tk0 _ (List.mem_of_getElem? (i := 2) rfl), List.forall_mem_cons.mpr ⟨tk0 _ (List.mem_of_getElem? (i := 3) rfl), List.forall_mem_cons.mpr ⟨tk0 _ (List.mem_of_getElem? (i := 4) rfl), List.forall_mem_cons.mpr ⟨tk0 _ (List.mem_of_getElem? (i := 5) rfl), List.forall_mem_cons.mpr ⟨tk0 _ (List.mem_of_getElem? (i := 6) rfl), List.forall_mem_cons.mpr ⟨tk0 _ (List.mem_of_getElem? (i := 7) rfl), List.forall_mem_cons.mpr ⟨tk0 _ (List.mem_of_getElem? (i := 8) rfl), List.forall_mem_cons.mpr ⟨tk0 _ (List.mem_of_getElem? (i := 11) rfl), List.forall_mem_cons.mpr ⟨tk0 _ (List.mem_of_getElem? (i := 12) rfl), List.forall_mem_cons.mpr ⟨tk0 _ (List.mem_of_getElem? (i := 13) rfl), List.forall_mem_cons.mpr ⟨tk0 _ (List.mem_of_getElem? (i := 14) rfl), List.forall_mem_cons.mpr ⟨tk0 _ (List.mem_of_getElem? (i := 15) rfl), List.forall_mem_cons.mpr ⟨tk0 _ (List.mem_of_getElem? (i := 16) rfl), List.forall_mem_cons.mpr ⟨tk0 _ (List.mem_of_getElem? (i := 17) rfl), List.forall_mem_cons.mpr ⟨tk0 _ (List.mem_of_getElem? (i := 18) rfl), List.forall_mem_cons.mpr ⟨tk0 _ (List.mem_of_getElem? (i := 19) rfl), List.forall_mem_cons.mpr ⟨tk0 _ (List.mem_of_getElem? (i := 20) rfl), List.forall_mem_cons.mpr ⟨tk0 _ (List.mem_of_getElem? (i := 21) rfl), List.forall_mem_cons.mpr ⟨tk0 _ (List.mem_of_getElem? (i := 22) rfl), List.forall_mem_cons.mpr ⟨tk0 _ (List.mem_of_getElem? (i := 23) rfl), List.forall_mem_cons.mpr ⟨tk0 _ (List.mem_of_getElem? (i := 24) rfl), List.forall_mem_cons.mpr ⟨tk0 _ (List.mem_of_getElem? (i := 25) rfl), List.forall_mem_cons.mpr ⟨tk1 _ (List.mem_of_getElem? (i := 0) rfl), List.forall_mem_cons.mpr ⟨tk1 _ (List.mem_of_getElem? (i := 1) rfl), fun _ h => absurd h List.not_mem_nil⟩⟩⟩⟩⟩⟩⟩⟩⟩⟩⟩⟩⟩⟩⟩⟩⟩⟩⟩⟩⟩⟩⟩⟩⟩
set_option maxRecDepth 100000 in
theorem tb_1 : ∀ w ∈ gW_1, w ∈ lw_tbl := List.forall_mem_cons.mpr ⟨tk1 _ (List.mem_of_getElem? (i := 2) rfl), List.forall_mem_cons.mpr ⟨tk1 _ (List.mem_of_getElem? (i := 3) rfl), List.forall_mem_cons.mpr ⟨tk1 _ (List.mem_of_getElem? (i := 4) rfl), List.forall_mem_cons.mpr ⟨tk1 _ (List.mem_of_getElem? (i := 5) rfl), List.forall_mem_cons.mpr ⟨tk1 _ (List.mem_of_getElem? (i := 6) rfl), List.forall_mem_cons.mpr ⟨tk1 _ (List.mem_of_getElem? (i := 7) rfl), List.forall_mem_cons.mpr ⟨tk1 _ (List.mem_of_getElem? (i := 8) rfl), List.forall_mem_cons.mpr ⟨tk1 _ (List.mem_of_getElem? (i := 9) rfl), List.forall_mem_cons.mpr ⟨tk1 _ (List.mem_of_getElem? (i := 10) rfl), List.forall_mem_cons.mpr ⟨tk1 _ (List.mem_of_getElem? (i := 17) rfl), List.forall_mem_cons.mpr ⟨tk1 _ (List.mem_of_getElem? (i := 20) rfl), List.forall_mem_cons.mpr ⟨tk1 _ (List.mem_of_getElem? (i := 36) rfl), List.forall_mem_cons.mpr ⟨tk1 _ (List.mem_of_getElem? (i := 37) rfl), List.forall_mem_cons.mpr ⟨tk1 _ (List.mem_of_getElem? (i := 38) rfl), List.forall_mem_cons.mpr ⟨tk1 _ (List.mem_of_getElem? (i := 39) rfl), List.forall_mem_cons.mpr ⟨tk1 _ (List.mem_of_getElem? (i := 40) rfl), List.forall_mem_cons.mpr ⟨tk1 _ (List.mem_of_getElem? (i := 41) rfl), List.forall_mem_cons.mpr ⟨tk1 _ (List.mem_of_getElem? (i := 42) rfl), List.forall_mem_cons.mpr ⟨tk1 _ (List.mem_of_getElem? (i := 43) rfl), List.forall_mem_cons.mpr ⟨tk1 _ (List.mem_of_getElem? (i := 44) rfl), List.forall_mem_cons.mpr ⟨tk1 _ (List.mem_of_getElem? (i := 45) rfl), List.forall_mem_cons.mpr ⟨tk1 _ (List.mem_of_getElem? (i := 69) rfl), List.forall_mem_cons.mpr ⟨tk1 _ (List.mem_of_getElem? (i := 70) rfl), List.forall_mem_cons.mpr ⟨tk1 _ (List.mem_of_getElem? (i := 71) rfl), List.forall_mem_cons.mpr ⟨tk1 _ (List.mem_of_getElem? (i := 80) rfl), fun _ h => absurd h List.not_mem_nil⟩⟩⟩⟩⟩⟩⟩⟩⟩⟩⟩⟩⟩⟩⟩⟩⟩⟩⟩⟩⟩⟩⟩⟩⟩
set_option maxRecDepth 100000 in
theorem tb_2 : ∀ w ∈ gW_2, w ∈ lw_tbl := List.forall_mem_cons.mpr ⟨tk1 _ (List.mem_of_getElem? (i := 86) rfl), List.forall_mem_cons.mpr ⟨tk1 _ (List.mem_of_getElem? (i := 87) rfl), List.forall_mem_cons.mpr ⟨tk1 _ (List.mem_of_getElem? (i := 96) rfl), List.forall_mem_cons.mpr ⟨tk1 _ (List.mem_of_getElem? (i := 97) rfl), List.forall_mem_cons.mpr ⟨tk1 _ (List.mem_of_getElem? (i := 98) rfl), List.forall_mem_cons.mpr ⟨tk1 _ (List.mem_of_getElem? (i := 99) rfl), List.forall_mem_cons.mpr ⟨tk1 _ (List.mem_of_getElem? (i := 100) rfl), List.forall_mem_cons.mpr ⟨tk1 _ (List.mem_of_getElem? (i := 101) rfl), List.forall_mem_cons.mpr ⟨tk1 _ (List.mem_of_getElem? (i := 102) rfl), List.forall_mem_cons.mpr ⟨tk1 _ (List.mem_of_getElem? (i := 105) rfl), List.forall_mem_cons.mpr ⟨tk1 _ (List.mem_of_getElem? (i := 106) rfl), List.forall_mem_cons.mpr ⟨tk1 _ (List.mem_of_getElem? (i := 107) rfl), List.forall_mem_cons.mpr ⟨tk1 _ (List.mem_of_getElem? (i := 108) rfl), List.forall_mem_cons.mpr ⟨tk1 _ (List.mem_of_getElem? (i := 146) rfl), List.forall_mem_cons.mpr ⟨tk1 _ (List.mem_of_getElem? (i := 147) rfl), List.forall_mem_cons.mpr ⟨tk1 _ (List.mem_of_getElem? (i := 148) rfl), List.forall_mem_cons.mpr ⟨tk1 _ (List.mem_of_getElem? (i := 149) rfl), List.forall_mem_cons.mpr ⟨tk1 _ (List.mem_of_getElem? (i := 150) rfl), List.forall_mem_cons.mpr ⟨tk1 _ (List.mem_of_getElem? (i := 151) rfl), List.forall_mem_cons.mpr ⟨tk1 _ (List.mem_of_getElem? (i := 152) rfl), List.forall_mem_cons.mpr ⟨tk1 _ (List.mem_of_getElem? (i := 178) rfl), List.forall_mem_cons.mpr ⟨tk1 _ (List.mem_of_getElem? (i := 179) rfl), List.forall_mem_cons.mpr ⟨tk1 _ (List.mem_of_getElem? (i := 180) rfl), List.forall_mem_cons.mpr ⟨tk1 _ (List.mem_of_getElem? (i := 181) rfl), List.forall_mem_cons.mpr ⟨tk1 _ (List.mem_of_getElem? (i := 182) rfl), fun _ h => absurd h List.not_mem_nil⟩⟩⟩⟩⟩⟩⟩⟩⟩⟩⟩⟩⟩⟩⟩⟩⟩⟩⟩⟩⟩⟩⟩⟩⟩
set_option maxRecDepth 100000 in
theorem tb_3 : ∀ w ∈ gW_3, w ∈ lw_tbl := List.forall_mem_cons.mpr ⟨tk1 _ (List.mem_of_getElem? (i := 183) rfl), List.forall_mem_cons.mpr ⟨tk1 _ (List.mem_of_getElem? (i := 184) rfl), List.forall_mem_cons.mpr ⟨tk1 _ (List.mem_of_getElem? (i := 185) rfl), List.forall_mem_cons.mpr ⟨tk1 _ (List.mem_of_getElem? (i := 186) rfl), List.forall_mem_cons.mpr ⟨tk1 _ (List.mem_of_getElem? (i := 187) rfl), List.forall_mem_cons.mpr ⟨tk1 _ (List.mem_of_getElem? (i := 188) rfl), List.forall_mem_cons.mpr ⟨tk1 _ (List.mem_of_getElem? (i := 189) rfl), List.forall_mem_cons.mpr ⟨tk1 _ (List.mem_of_getElem? (i := 190) rfl), List.forall_mem_cons.mpr ⟨tk1 _ (List.mem_of_getElem? (i := 191) rfl), List.forall_mem_cons.mpr ⟨tk1 _ (List.mem_of_getElem? (i := 192) rfl), List.forall_mem_cons.mpr ⟨tk1 _ (List.mem_of_getElem? (i := 193) rfl), List.forall_mem_cons.mpr ⟨tk1 _ (List.mem_of_getElem? (i := 194) rfl), List.forall_mem_cons.mpr ⟨tk1 _ (List.mem_of_getElem? (i := 195) rfl), List.forall_mem_cons.mpr ⟨tk1 _ (List.mem_of_getElem? (i := 196) rfl), List.forall_mem_cons.mpr ⟨tk1 _ (List.mem_of_getElem? (i := 197) rfl), List.forall_mem_cons.mpr ⟨tk2 _ (List.mem_of_getElem? (i := 18) rfl), List.forall_mem_cons.mpr ⟨tk2 _ (List.mem_of_getElem? (i := 19) rfl), List.forall_mem_cons.mpr ⟨tk2 _ (List.mem_of_getElem? (i := 20) rfl), List.forall_mem_cons.mpr ⟨tk2 _ (List.mem_of_getElem? (i := 21) rfl), List.forall_mem_cons.mpr ⟨tk2 _ (List.mem_of_getElem? (i := 22) rfl), List.forall_mem_cons.mpr ⟨tk2 _ (List.mem_of_getElem? (i := 23) rfl), List.forall_mem_cons.mpr ⟨tk2 _ (List.mem_of_getElem? (i := 24) rfl), List.forall_mem_cons.mpr ⟨tk2 _ (List.mem_of_getElem? (i := 25) rfl), List.forall_mem_cons.mpr ⟨tk2 _ (List.mem_of_getElem? (i := 26) rfl), List.forall_mem_cons.mpr ⟨tk2 _ (List.mem_of_getElem? (i := 27) rfl), fun _ h => absurd h List.not_mem_nil⟩⟩⟩⟩⟩⟩⟩⟩⟩⟩⟩⟩⟩⟩⟩⟩⟩⟩⟩⟩⟩⟩⟩⟩⟩
set_option maxRecDepth 100000 in
theorem tb_4 : ∀ w ∈ gW_4, w ∈ lw_tbl := List.forall_mem_cons.mpr ⟨tk2 _ (List.mem_of_getElem? (i := 28) rfl), List.forall_mem_cons.mpr ⟨tk2 _ (List.mem_of_getElem? (i := 52) rfl), List.forall_mem_cons.mpr ⟨tk2 _ (List.mem_of_getElem? (i := 53) rfl), List.forall_mem_cons.mpr ⟨tk2 _ (List.mem_of_getElem? (i := 54) rfl), List.forall_mem_cons.mpr ⟨tk2 _ (List.mem_of_getElem? (i := 55) rfl), List.forall_mem_cons.mpr ⟨tk2 _ (List.mem_of_getElem? (i := 56) rfl), List.forall_mem_cons.mpr ⟨tk2 _ (List.mem_of_getElem? (i := 57) rfl), List.forall_mem_cons.mpr ⟨tk2 _ (List.mem_of_getElem? (i := 58) rfl), List.forall_mem_cons.mpr ⟨tk2 _ (List.mem_of_getElem? (i := 59) rfl), List.forall_mem_cons.mpr ⟨tk2 _ (List.mem_of_getElem? (i := 60) rfl), List.forall_mem_cons.mpr ⟨tk2 _ (List.mem_of_getElem? (i := 63) rfl), List.forall_mem_cons.mpr ⟨tk2 _ (List.mem_of_getElem? (i := 64) rfl), List.forall_mem_cons.mpr ⟨tk2 _ (List.mem_of_getElem? (i := 65) rfl), List.forall_mem_cons.mpr ⟨tk2 _ (List.mem_of_getElem? (i := 66) rfl), List.forall_mem_cons.mpr ⟨tk2 _ (List.mem_of_getElem? (i := 67) rfl), List.forall_mem_cons.mpr ⟨tk2 _ (List.mem_of_getElem? (i := 68) rfl), List.forall_mem_cons.mpr ⟨tk2 _ (List.mem_of_getElem? (i := 69) rfl), List.forall_mem_cons.mpr ⟨tk2 _ (List.mem_of_getElem? (i := 70) rfl), List.forall_mem_cons.mpr ⟨tk2 _ (List.mem_of_getElem? (i := 71) rfl), List.forall_mem_cons.mpr ⟨tk2 _ (List.mem_of_getElem? (i := 72) rfl), List.forall_mem_cons.mpr ⟨tk2 _ (List.mem_of_getElem? (i := 116) rfl), List.forall_mem_cons.mpr ⟨tk2 _ (List.mem_of_getElem? (i := 118) rfl), List.forall_mem_cons.mpr ⟨tk2 _ (List.mem_of_getElem? (i := 119) rfl), List.forall_mem_cons.mpr ⟨tk2 _ (List.mem_of_getElem? (i := 210) rfl), List.forall_mem_cons.mpr ⟨tk3 _ (List.mem_of_getElem? (i := 25) rfl), fun _ h => absurd h List.not_mem_nil⟩⟩⟩⟩⟩⟩⟩⟩⟩⟩⟩⟩⟩⟩⟩⟩⟩⟩⟩⟩⟩⟩⟩⟩⟩
set_option maxRecDepth 100000 in
theorem tb_5 : ∀ w ∈ gW_5, w ∈ lw_tbl := List.forall_mem_cons.mpr ⟨tk3 _ (List.mem_of_getElem? (i := 26) rfl), List.forall_mem_cons.mpr ⟨tk3 _ (List.mem_of_getElem? (i := 27) rfl), List.forall_mem_cons.mpr ⟨tk3 _ (List.mem_of_getElem? (i := 28) rfl), List.forall_mem_cons.mpr ⟨tk3 _ (List.mem_of_getElem? (i := 29) rfl), List.forall_mem_cons.mpr ⟨tk3 _ (List.mem_of_getElem? (i := 30) rfl), List.forall_mem_cons.mpr ⟨tk3 _ (List.mem_of_getElem? (i := 34) rfl), List.forall_mem_cons.mpr ⟨tk3 _ (List.mem_of_getElem? (i := 35) rfl), List.forall_mem_cons.mpr ⟨tk3 _ (List.mem_of_getElem? (i := 63) rfl), List.forall_mem_cons.mpr ⟨tk3 _ (List.mem_of_getElem? (i := 65) rfl), List.forall_mem_cons.mpr ⟨tk3 _ (List.mem_of_getElem? (i := 66) rfl), List.forall_mem_cons.mpr ⟨tk3 _ (List.mem_of_getElem? (i := 135) rfl), List.forall_mem_cons.mpr ⟨tk3 _ (List.mem_of_getElem? (i := 136) rfl), List.forall_mem_cons.mpr ⟨tk3 _ (List.mem_of_getElem? (i := 137) rfl), List.forall_mem_cons.mpr ⟨tk3 _ (List.mem_of_getElem? (i := 138) rfl), List.forall_mem_cons.mpr ⟨tk3 _ (List.mem_of_getElem? (i := 139) rfl), List.forall_mem_cons.mpr ⟨tk3 _ (List.mem_of_getElem? (i := 140) rfl), List.forall_mem_cons.mpr ⟨tk3 _ (List.mem_of_getElem? (i := 141) rfl), List.forall_mem_cons.mpr ⟨tk3 _ (List.mem_of_getElem? (i := 142) rfl), List.forall_mem_cons.mpr ⟨tk3 _ (List.mem_of_getElem? (i := 143) rfl), List.forall_mem_cons.mpr ⟨tk3 _ (List.mem_of_getElem? (i := 144) rfl), List.forall_mem_cons.mpr ⟨tk3 _ (List.mem_of_getElem? (i := 145) rfl), List.forall_mem_cons.mpr ⟨tk3 _ (List.mem_of_getElem? (i := 146) rfl), List.forall_mem_cons.mpr ⟨tk3 _ (List.mem_of_getElem? (i := 147) rfl), List.forall_mem_cons.mpr ⟨tk3 _ (List.mem_of_getElem? (i := 148) rfl), List.forall_mem_cons.mpr ⟨tk3 _ (List.mem_of_getElem? (i := 149) rfl), fun _ h => absurd h List.not_mem_nil⟩⟩⟩⟩⟩⟩⟩⟩⟩⟩⟩⟩⟩⟩⟩⟩⟩⟩⟩⟩⟩⟩⟩⟩⟩
set_option maxRecDepth 100000 in
theorem tb_6 : ∀ w ∈ gW_6, w ∈ lw_tbl := List.forall_mem_cons.mpr ⟨tk3 _ (List.mem_of_getElem? (i := 150) rfl), List.forall_mem_cons.mpr ⟨tk3 _ (List.mem_of_getElem? (i := 151) rfl), List.forall_mem_cons.mpr ⟨tk3 _ (List.mem_of_getElem? (i := 152) rfl), List.forall_mem_cons.mpr ⟨tk3 _ (List.mem_of_getElem? (i := 153) rfl), List.forall_mem_cons.mpr ⟨tk3 _ (List.mem_of_getElem? (i := 155) rfl), List.forall_mem_cons.mpr ⟨tk3 _ (List.mem_of_getElem? (i := 156) rfl), List.forall_mem_cons.mpr ⟨tk3 _ (List.mem_of_getElem? (i := 157) rfl), List.forall_mem_cons.mpr ⟨tk3 _ (List.mem_of_getElem? (i := 158) rfl), List.forall_mem_cons.mpr ⟨tk3 _ (List.mem_of_getElem? (i := 159) rfl), List.forall_mem_cons.mpr ⟨tk3 _ (List.mem_of_getElem? (i := 160) rfl), List.forall_mem_cons.mpr ⟨tk3 _ (List.mem_of_getElem? (i := 161) rfl), List.forall_mem_cons.mpr ⟨tk3 _ (List.mem_of_getElem? (i := 162) rfl), List.forall_mem_cons.mpr ⟨tk3 _ (List.mem_of_getElem? (i := 163) rfl), List.forall_mem_cons.mpr ⟨tk3 _ (List.mem_of_getElem? (i := 164) rfl), List.forall_mem_cons.mpr ⟨tk3 _ (List.mem_of_getElem? (i := 165) rfl), List.forall_mem_cons.mpr ⟨tk3 _ (List.mem_of_getElem? (i := 166) rfl), List.forall_mem_cons.mpr ⟨tk3 _ (List.mem_of_getElem? (i := 167) rfl), List.forall_mem_cons.mpr ⟨tk3 _ (List.mem_of_getElem? (i := 168) rfl), List.forall_mem_cons.mpr ⟨tk3 _ (List.mem_of_getElem? (i := 169) rfl), List.forall_mem_cons.mpr ⟨tk3 _ (List.mem_of_getElem? (i := 170) rfl), List.forall_mem_cons.mpr ⟨tk3 _ (List.mem_of_getElem? (i := 171) rfl), List.forall_mem_cons.mpr ⟨tk3 _ (List.mem_of_getElem? (i := 172) rfl), List.forall_mem_cons.mpr ⟨tk3 _ (List.mem_of_getElem? (i := 173) rfl), List.forall_mem_cons.mpr ⟨tk3 _ (List.mem_of_getElem? (i := 174) rfl), List.forall_mem_cons.mpr ⟨tk3 _ (List.mem_of_getElem? (i := 175) rfl), fun _ h => absurd h List.not_mem_nil⟩⟩⟩⟩⟩⟩⟩⟩⟩⟩⟩⟩⟩⟩⟩⟩⟩⟩⟩⟩⟩⟩⟩⟩⟩
set_option maxRecDepth 100000 in
theorem tb_7 : ∀ w ∈ gW_7, w ∈ lw_tbl := List.forall_mem_cons.mpr ⟨tk3 _ (List.mem_of_getElem? (i := 176) rfl), List.forall_mem_cons.mpr ⟨tk3 _ (List.mem_of_getElem? (i := 177) rfl), List.forall_mem_cons.mpr ⟨tk3 _ (List.mem_of_getElem? (i := 178) rfl), List.forall_mem_cons.mpr ⟨tk3 _ (List.mem_of_getElem? (i := 179) rfl), List.forall_mem_cons.mpr ⟨tk3 _ (List.mem_of_getElem? (i := 180) rfl), List.forall_mem_cons.mpr ⟨tk3 _ (List.mem_of_getElem? (i := 181) rfl), List.forall_mem_cons.mpr ⟨tk3 _ (List.mem_of_getElem? (i := 182) rfl), List.forall_mem_cons.mpr ⟨tk3 _ (List.mem_of_getElem? (i := 183) rfl), List.forall_mem_cons.mpr ⟨tk3 _ (List.mem_of_getElem? (i := 184) rfl), List.forall_mem_cons.mpr ⟨tk3 _ (List.mem_of_getElem? (i := 185) rfl), List.forall_mem_cons.mpr ⟨tk3 _ (List.mem_of_getElem? (i := 186) rfl), List.forall_mem_cons.mpr ⟨tk3 _ (List.mem_of_getElem? (i := 187) rfl), List.forall_mem_cons.mpr ⟨tk3 _ (List.mem_of_getElem? (i := 188) rfl), List.forall_mem_cons.mpr ⟨tk3 _ (List.mem_of_getElem? (i := 189) rfl), List.forall_mem_cons.mpr ⟨tk3 _ (List.mem_of_getElem? (i := 190) rfl), List.forall_mem_cons.mpr ⟨tk3 _ (List.mem_of_getElem? (i := 191) rfl), List.forall_mem_cons.mpr ⟨tk3 _ (List.mem_of_getElem? (i := 192) rfl), List.forall_mem_cons.mpr ⟨tk3 _ (List.mem_of_getElem? (i := 193) rfl), List.forall_mem_cons.mpr ⟨tk3 _ (List.mem_of_getElem? (i := 194) rfl), List.forall_mem_cons.mpr ⟨tk3 _ (List.mem_of_getElem? (i := 195) rfl), List.forall_mem_cons.mpr ⟨tk3 _ (List.mem_of_getElem? (i := 196) rfl), List.forall_mem_cons.mpr ⟨tk3 _ (List.mem_of_getElem? (i := 197) rfl), List.forall_mem_cons.mpr ⟨tk3 _ (List.mem_of_getElem? (i := 198) rfl), List.forall_mem_cons.mpr ⟨tk3 _ (List.mem_of_getElem? (i := 199) rfl), List.forall_mem_cons.mpr ⟨tk3 _ (List.mem_of_getElem? (i := 200) rfl), fun _ h => absurd h List.not_mem_nil⟩⟩⟩⟩⟩⟩⟩⟩⟩⟩⟩⟩⟩⟩⟩⟩⟩⟩⟩⟩⟩⟩⟩⟩⟩
set_option maxRecDepth 100000 in
theorem tb_8 : ∀ w ∈ gW_8, w ∈ lw_tbl := List.forall_mem_cons.mpr ⟨tk3 _ (List.mem_of_getElem? (i := 201) rfl), List.forall_mem_cons.mpr ⟨tk3 _ (List.mem_of_getElem? (i := 202) rfl), List.forall_mem_cons.mpr ⟨tk3 _ (List.mem_of_getElem? (i := 203) rfl), List.forall_mem_cons.mpr ⟨tk3 _ (List.mem_of_getElem? (i := 204) rfl), List.forall_mem_cons.mpr ⟨tk3 _ (List.mem_of_getElem? (i := 205) rfl), List.forall_mem_cons.mpr ⟨tk3 _ (List.mem_of_getElem? (i := 206) rfl), List.forall_mem_cons.mpr ⟨tk3 _ (List.mem_of_getElem? (i := 207) rfl), List.forall_mem_cons.mpr ⟨tk3 _ (List.mem_of_getElem? (i := 208) rfl), List.forall_mem_cons.mpr ⟨tk3 _ (List.mem_of_getElem? (i := 209) rfl), List.forall_mem_cons.mpr ⟨tk3 _ (List.mem_of_getElem? (i := 210) rfl), List.forall_mem_cons.mpr ⟨tk3 _ (List.mem_of_getElem? (i := 211) rfl), List.forall_mem_cons.mpr ⟨tk3 _ (List.mem_of_getElem? (i := 212) rfl), List.forall_mem_cons.mpr ⟨tk3 _ (List.mem_of_getElem? (i := 213) rfl), List.forall_mem_cons.mpr ⟨tk3 _ (List.mem_of_getElem? (i := 214) rfl), List.forall_mem_cons.mpr ⟨tk3 _ (List.mem_of_getElem? (i := 215) rfl), List.forall_mem_cons.mpr ⟨tk3 _ (List.mem_of_getElem? (i := 216) rfl), List.forall_mem_cons.mpr ⟨tk3 _ (List.mem_of_getElem? (i := 217) rfl), List.forall_mem_cons.mpr ⟨tk3 _ (List.mem_of_getElem? (i := 218) rfl), List.forall_mem_cons.mpr ⟨tk3 _ (List.mem_of_getElem? (i := 219) rfl), List.forall_mem_cons.mpr ⟨tk3 _ (List.mem_of_getElem? (i := 220) rfl), List.forall_mem_cons.mpr ⟨tk3 _ (List.mem_of_getElem? (i := 221) rfl), List.forall_mem_cons.mpr ⟨tk3 _ (List.mem_of_getElem? (i := 222) rfl), List.forall_mem_cons.mpr ⟨tk3 _ (List.mem_of_getElem? (i := 223) rfl), List.forall_mem_cons.mpr ⟨tk3 _ (List.mem_of_getElem? (i := 224) rfl), List.forall_mem_cons.mpr ⟨tk3 _ (List.mem_of_getElem? (i := 225) rfl), fun _ h => absurd h List.not_mem_nil⟩⟩⟩⟩⟩⟩⟩⟩⟩⟩⟩⟩⟩⟩⟩⟩⟩⟩⟩⟩⟩⟩⟩⟩⟩
set_option maxRecDepth 100000 in
theorem tb_9 : ∀ w ∈ gW_9, w ∈ lw_tbl := List.forall_mem_cons.mpr ⟨tk3 _ (List.mem_of_getElem? (i := 227) rfl), List.forall_mem_cons.mpr ⟨tk3 _ (List.mem_of_getElem? (i := 228) rfl), List.forall_mem_cons.mpr ⟨tk3 _ (List.mem_of_getElem? (i := 229) rfl), List.forall_mem_cons.mpr ⟨tk3 _ (List.mem_of_getElem? (i := 231) rfl), List.forall_mem_cons.mpr ⟨tk3 _ (List.mem_of_getElem? (i := 232) rfl), List.forall_mem_cons.mpr ⟨tk3 _ (List.mem_of_getElem? (i := 233) rfl), List.forall_mem_cons.mpr ⟨tk3 _ (List.mem_of_getElem? (i := 234) rfl), List.forall_mem_cons.mpr ⟨tk3 _ (List.mem_of_getElem? (i := 235) rfl), List.forall_mem_cons.mpr ⟨tk3 _ (List.mem_of_getElem? (i := 236) rfl), List.forall_mem_cons.mpr ⟨tk3 _ (List.mem_of_getElem? (i := 237) rfl), List.forall_mem_cons.mpr ⟨tk3 _ (List.mem_of_getElem? (i := 238) rfl), List.forall_mem_cons.mpr ⟨tk3 _ (List.mem_of_getElem? (i := 239) rfl), List.forall_mem_cons.mpr ⟨tk4 _ (List.mem_of_getElem? (i := 0) rfl), List.forall_mem_cons.mpr ⟨tk4 _ (List.mem_of_getElem? (i := 1) rfl), List.forall_mem_cons.mpr ⟨tk4 _ (List.mem_of_getElem? (i := 2) rfl), List.forall_mem_cons.mpr ⟨tk4 _ (List.mem_of_getElem? (i := 4) rfl), List.forall_mem_cons.mpr ⟨tk4 _ (List.mem_of_getElem? (i := 5) rfl), List.forall_mem_cons.mpr ⟨tk4 _ (List.mem_of_getElem? (i := 6) rfl), List.forall_mem_cons.mpr ⟨tk4 _ (List.mem_of_getElem? (i := 7) rfl), List.forall_mem_cons.mpr ⟨tk4 _ (List.mem_of_getElem? (i := 8) rfl), List.forall_mem_cons.mpr ⟨tk4 _ (List.mem_of_getElem? (i := 9) rfl), List.forall_mem_cons.mpr ⟨tk4 _ (List.mem_of_getElem? (i := 10) rfl), List.forall_mem_cons.mpr ⟨tk4 _ (List.mem_of_getElem? (i := 11) rfl), List.forall_mem_cons.mpr ⟨tk4 _ (List.mem_of_getElem? (i := 12) rfl), List.forall_mem_cons.mpr ⟨tk4 _ (List.mem_of_getElem? (i := 13) rfl), fun _ h => absurd h List.not_mem_nil⟩⟩⟩⟩⟩⟩⟩⟩⟩⟩⟩⟩⟩⟩⟩⟩⟩⟩⟩⟩⟩⟩⟩⟩⟩
set_option maxRecDepth 100000 in
theorem tb_10 : ∀ w ∈ gW_10, w ∈ lw_tbl := List.forall_mem_cons.mpr ⟨tk4 _ (List.mem_of_getElem? (i := 14) rfl), List.forall_mem_cons.mpr ⟨tk4 _ (List.mem_of_getElem? (i := 16) rfl), List.forall_mem_cons.mpr ⟨tk4 _ (List.mem_of_getElem? (i := 17) rfl), List.forall_mem_cons.mpr ⟨tk4 _ (List.mem_of_getElem? (i := 18) rfl), List.forall_mem_cons.mpr ⟨tk4 _ (List.mem_of_getElem? (i := 20) rfl), List.forall_mem_cons.mpr ⟨tk4 _ (List.mem_of_getElem? (i := 21) rfl), List.forall_mem_cons.mpr ⟨tk4 _ (List.mem_of_getElem? (i := 22) rfl), List.forall_mem_cons.mpr ⟨tk4 _ (List.mem_of_getElem? (i := 23) rfl), List.forall_mem_cons.mpr ⟨tk4 _ (List.mem_of_getElem? (i := 24) rfl), List.forall_mem_cons.mpr ⟨tk4 _ (List.mem_of_getElem? (i := 25) rfl), List.forall_mem_cons.mpr ⟨tk4 _ (List.mem_of_getElem? (i := 26) rfl), List.forall_mem_cons.mpr ⟨tk4 _ (List.mem_of_getElem? (i := 35) rfl), List.forall_mem_cons.mpr ⟨tk4 _ (List.mem_of_getElem? (i := 51) rfl), List.forall_mem_cons.mpr ⟨tk4 _ (List.mem_of_getElem? (i := 52) rfl), List.forall_mem_cons.mpr ⟨tk4 _ (List.mem_of_getElem? (i := 53) rfl), List.forall_mem_cons.mpr ⟨tk4 _ (List.mem_of_getElem? (i := 54) rfl), List.forall_mem_cons.mpr ⟨tk4 _ (List.mem_of_getElem? (i := 59) rfl), List.forall_mem_cons.mpr ⟨tk4 _ (List.mem_of_getElem? (i := 61) rfl), List.forall_mem_cons.mpr ⟨tk4 _ (List.mem_of_getElem? (i := 62) rfl), List.forall_mem_cons.mpr ⟨tk4 _ (List.mem_of_getElem? (i := 63) rfl), List.forall_mem_cons.mpr ⟨tk4 _ (List.mem_of_getElem? (i := 64) rfl), List.forall_mem_cons.mpr ⟨tk4 _ (List.mem_of_getElem? (i := 65) rfl), List.forall_mem_cons.mpr ⟨tk4 _ (List.mem_of_getElem? (i := 66) rfl), List.forall_mem_cons.mpr ⟨tk4 _ (List.mem_of_getElem? (i := 75) rfl), List.forall_mem_cons.mpr ⟨tk4 _ (List.mem_of_getElem? (i := 100) rfl), fun _ h => absurd h List.not_mem_nil⟩⟩⟩⟩⟩⟩⟩⟩⟩⟩⟩⟩⟩⟩⟩⟩⟩⟩⟩⟩⟩⟩⟩⟩⟩
set_option maxRecDepth 100000 in
theorem tb_11 : ∀ w ∈ gW_11, w ∈ lw_tbl := List.forall_mem_cons.mpr ⟨tk4 _ (List.mem_of_getElem? (i := 102) rfl), List.forall_mem_cons.mpr ⟨tk4 _ (List.mem_of_getElem? (i := 103) rfl), List.forall_mem_cons.mpr ⟨tk4 _ (List.mem_of_getElem? (i := 104) rfl), List.forall_mem_cons.mpr ⟨tk4 _ (List.mem_of_getElem? (i := 105) rfl), List.forall_mem_cons.mpr ⟨tk4 _ (List.mem_of_getElem? (i := 106) rfl), List.forall_mem_cons.mpr ⟨tk4 _ (List.mem_of_getElem? (i := 107) rfl), List.forall_mem_cons.mpr ⟨tk4 _ (List.mem_of_getElem? (i := 108) rfl), List.forall_mem_cons.mpr ⟨tk4 _ (List.mem_of_getElem? (i := 109) rfl), List.forall_mem_cons.mpr ⟨tk4 _ (List.mem_of_getElem? (i := 110) rfl), List.forall_mem_cons.mpr ⟨tk4 _ (List.mem_of_getElem? (i := 111) rfl), List.forall_mem_cons.mpr ⟨tk4 _ (List.mem_of_getElem? (i := 112) rfl), List.forall_mem_cons.mpr ⟨tk4 _ (List.mem_of_getElem? (i := 113) rfl), List.forall_mem_cons.mpr ⟨tk4 _ (List.mem_of_getElem? (i := 114) rfl), List.forall_mem_cons.mpr ⟨tk4 _ (List.mem_of_getElem? (i := 115) rfl), List.forall_mem_cons.mpr ⟨tk4 _ (List.mem_of_getElem? (i := 116) rfl), List.forall_mem_cons.mpr ⟨tk4 _ (List.mem_of_getElem? (i := 117) rfl), List.forall_mem_cons.mpr ⟨tk4 _ (List.mem_of_getElem? (i := 118) rfl), List.forall_mem_cons.mpr ⟨tk4 _ (List.mem_of_getElem? (i := 119) rfl), List.forall_mem_cons.mpr ⟨tk4 _ (List.mem_of_getElem? (i := 120) rfl), List.forall_mem_cons.mpr ⟨tk4 _ (List.mem_of_getElem? (i := 121) rfl), List.forall_mem_cons.mpr ⟨tk4 _ (List.mem_of_getElem? (i := 122) rfl), List.forall_mem_cons.mpr ⟨tk4 _ (List.mem_of_getElem? (i := 123) rfl), List.forall_mem_cons.mpr ⟨tk4 _ (List.mem_of_getElem? (i := 124) rfl), List.forall_mem_cons.mpr ⟨tk4 _ (List.mem_of_getElem? (i := 125) rfl), List.forall_mem_cons.mpr ⟨tk4 _ (List.mem_of_getElem? (i := 126) rfl), fun _ h => absurd h List.not_mem_nil⟩⟩⟩⟩⟩⟩⟩⟩⟩⟩⟩⟩⟩⟩⟩⟩⟩⟩⟩⟩⟩⟩⟩⟩⟩
set_option maxRecDepth 100000 in
theorem tb_12 : ∀ w ∈ gW_12, w ∈ lw_tbl := List.forall_mem_cons.mpr ⟨tk4 _ (List.mem_of_getElem? (i := 127) rfl), List.forall_mem_cons.mpr ⟨tk4 _ (List.mem_of_getElem? (i := 129) rfl), List.forall_mem_cons.mpr ⟨tk4 _ (List.mem_of_getElem? (i := 130) rfl), List.forall_mem_cons.mpr ⟨tk4 _ (List.mem_of_getElem? (i := 131) rfl), List.forall_mem_cons.mpr ⟨tk4 _ (List.mem_of_getElem? (i := 132) rfl), List.forall_mem_cons.mpr ⟨tk4 _ (List.mem_of_getElem? (i := 133) rfl), List.forall_mem_cons.mpr ⟨tk4 _ (List.mem_of_getElem? (i := 134) rfl), List.forall_mem_cons.mpr ⟨tk4 _ (List.mem_of_getElem? (i := 135) rfl), List.forall_mem_cons.mpr ⟨tk4 _ (List.mem_of_getElem? (i := 137) rfl), List.forall_mem_cons.mpr ⟨tk4 _ (List.mem_of_getElem? (i := 138) rfl), List.forall_mem_cons.mpr ⟨tk4 _ (List.mem_of_getElem? (i := 139) rfl), List.forall_mem_cons.mpr ⟨tk4 _ (List.mem_of_getElem? (i := 140) rfl), List.forall_mem_cons.mpr ⟨tk4 _ (List.mem_of_getElem? (i := 141) rfl), List.forall_mem_cons.mpr ⟨tk4 _ (List.mem_of_getElem? (i := 142) rfl), List.forall_mem_cons.mpr ⟨tk4 _ (List.mem_of_getElem? (i := 144) rfl), List.forall_mem_cons.mpr ⟨tk4 _ (List.mem_of_getElem? (i := 145) rfl), List.forall_mem_cons.mpr ⟨tk4 _ (List.mem_of_getElem? (i := 146) rfl), List.forall_mem_cons.mpr ⟨tk4 _ (List.mem_of_getElem? (i := 147) rfl), List.forall_mem_cons.mpr ⟨tk4 _ (List.mem_of_getElem? (i := 148) rfl), List.forall_mem_cons.mpr ⟨tk4 _ (List.mem_of_getElem? (i := 149) rfl), List.forall_mem_cons.mpr ⟨tk4 _ (List.mem_of_getElem? (i := 150) rfl), List.forall_mem_cons.mpr ⟨tk4 _ (List.mem_of_getElem? (i := 151) rfl), List.forall_mem_cons.mpr ⟨tk4 _ (List.mem_of_getElem? (i := 152) rfl), List.forall_mem_cons.mpr ⟨tk4 _ (List.mem_of_getElem? (i := 153) rfl), List.forall_mem_cons.mpr ⟨tk4 _ (List.mem_of_getElem? (i := 154) rfl), fun _ h => absurd h List.not_mem_nil⟩⟩⟩⟩⟩⟩⟩⟩⟩⟩⟩⟩⟩⟩⟩⟩⟩⟩⟩⟩⟩⟩⟩⟩⟩
set_option maxRecDepth 100000 in
theorem tb_13 : ∀ w ∈ gW_13, w ∈ lw_tbl := List.forall_mem_cons.mpr ⟨tk4 _ (List.mem_of_getElem? (i := 155) rfl), List.forall_mem_cons.mpr ⟨tk4 _ (List.mem_of_getElem? (i := 156) rfl), List.forall_mem_cons.mpr ⟨tk4 _ (List.mem_of_getElem? (i := 157) rfl), List.forall_mem_cons.mpr ⟨tk4 _ (List.mem_of_getElem? (i := 158) rfl), List.forall_mem_cons.mpr ⟨tk4 _ (List.mem_of_getElem? (i := 159) rfl), List.forall_mem_cons.mpr ⟨tk4 _ (List.mem_of_getElem? (i := 160) rfl), List.forall_mem_cons.mpr ⟨tk4 _ (List.mem_of_getElem? (i := 161) rfl), List.forall_mem_cons.mpr ⟨tk4 _ (List.mem_of_getElem? (i := 162) rfl), List.forall_mem_cons.mpr ⟨tk4 _ (List.mem_of_getElem? (i := 163) rfl), List.forall_mem_cons.mpr ⟨tk4 _ (List.mem_of_getElem? (i := 164) rfl), List.forall_mem_cons.mpr ⟨tk4 _ (List.mem_of_getElem? (i := 165) rfl), List.forall_mem_cons.mpr ⟨tk4 _ (List.mem_of_getElem? (i := 166) rfl), List.forall_mem_cons.mpr ⟨tk4 _ (List.mem_of_getElem? (i := 171) rfl), List.forall_mem_cons.mpr ⟨tk4 _ (List.mem_of_getElem? (i := 172) rfl), List.forall_mem_cons.mpr ⟨tk4 _ (List.mem_of_getElem? (i := 173) rfl), List.forall_mem_cons.mpr ⟨tk4 _ (List.mem_of_getElem? (i := 174) rfl), List.forall_mem_cons.mpr ⟨tk4 _ (List.mem_of_getElem? (i := 175) rfl), List.forall_mem_cons.mpr ⟨tk4 _ (List.mem_of_getElem? (i := 176) rfl), List.forall_mem_cons.mpr ⟨tk4 _ (List.mem_of_getElem? (i := 177) rfl), List.forall_mem_cons.mpr ⟨tk4 _ (List.mem_of_getElem? (i := 178) rfl), List.forall_mem_cons.mpr ⟨tk4 _ (List.mem_of_getElem? (i := 179) rfl), List.forall_mem_cons.mpr ⟨tk4 _ (List.mem_of_getElem? (i := 180) rfl), List.forall_mem_cons.mpr ⟨tk4 _ (List.mem_of_getElem? (i := 181) rfl), List.forall_mem_cons.mpr ⟨tk4 _ (List.mem_of_getElem? (i := 182) rfl), List.forall_mem_cons.mpr ⟨tk4 _ (List.mem_of_getElem? (i := 183) rfl), fun _ h => absurd h List.not_mem_nil⟩⟩⟩⟩⟩⟩⟩⟩⟩⟩⟩⟩⟩⟩⟩⟩⟩⟩⟩⟩⟩⟩⟩⟩⟩
set_option maxRecDepth 100000 in
theorem tb_14 : ∀ w ∈ gW_14, w ∈ lw_tbl := List.forall_mem_cons.mpr ⟨tk4 _ (List.mem_of_getElem? (i := 184) rfl), List.forall_mem_cons.mpr ⟨tk4 _ (List.mem_of_getElem? (i := 185) rfl), List.forall_mem_cons.mpr ⟨tk4 _ (List.mem_of_getElem? (i := 186) rfl), List.forall_mem_cons.mpr ⟨tk4 _ (List.mem_of_getElem? (i := 190) rfl), List.forall_mem_cons.mpr ⟨tk4 _ (List.mem_of_getElem? (i := 191) rfl), List.forall_mem_cons.mpr ⟨tk4 _ (List.mem_of_getElem? (i := 192) rfl), List.forall_mem_cons.mpr ⟨tk4 _ (List.mem_of_getElem? (i := 193) rfl), List.forall_mem_cons.mpr ⟨tk4 _ (List.mem_of_getElem? (i := 194) rfl), List.forall_mem_cons.mpr ⟨tk4 _ (List.mem_of_getElem? (i := 195) rfl), List.forall_mem_cons.mpr ⟨tk4 _ (List.mem_of_getElem? (i := 196) rfl), List.forall_mem_cons.mpr ⟨tk4 _ (List.mem_of_getElem? (i := 197) rfl), List.forall_mem_cons.mpr ⟨tk4 _ (List.mem_of_getElem? (i := 198) rfl), List.forall_mem_cons.mpr ⟨tk4 _ (List.mem_of_getElem? (i := 199) rfl), List.forall_mem_cons.mpr ⟨tk4 _ (List.mem_of_getElem? (i := 200) rfl), List.forall_mem_cons.mpr ⟨tk4 _ (List.mem_of_getElem? (i := 202) rfl), List.forall_mem_cons.mpr ⟨tk4 _ (List.mem_of_getElem? (i := 203) rfl), List.forall_mem_cons.mpr ⟨tk4 _ (List.mem_of_getElem? (i := 204) rfl), List.forall_mem_cons.mpr ⟨tk4 _ (List.mem_of_getElem? (i := 205) rfl), List.forall_mem_cons.mpr ⟨tk4 _ (List.mem_of_getElem? (i := 206) rfl), List.forall_mem_cons.mpr ⟨tk4 _ (List.mem_of_getElem? (i := 207) rfl), List.forall_mem_cons.mpr ⟨tk4 _ (List.mem_of_getElem? (i := 208) rfl), List.forall_mem_cons.mpr ⟨tk4 _ (List.mem_of_getElem? (i := 209) rfl), List.forall_mem_cons.mpr ⟨tk4 _ (List.mem_of_getElem? (i := 226) rfl), List.forall_mem_cons.mpr ⟨tk4 _ (List.mem_of_getElem? (i := 227) rfl), List.forall_mem_cons.mpr ⟨tk4 _ (List.mem_of_getElem? (i := 228) rfl), fun _ h => absurd h List.not_mem_nil⟩⟩⟩⟩⟩⟩⟩⟩⟩⟩⟩⟩⟩⟩⟩⟩⟩⟩⟩⟩⟩⟩⟩⟩⟩
set_option maxRecDepth 100000 in
theorem tb_15 : ∀ w ∈ gW_15, w ∈ lw_tbl := List.forall_mem_cons.mpr ⟨tk4 _ (List.mem_of_getElem? (i := 229) rfl), List.forall_mem_cons.mpr ⟨tk4 _ (List.mem_of_getElem? (i := 230) rfl), List.forall_mem_cons.mpr ⟨tk4 _ (List.mem_of_getElem? (i := 231) rfl), List.forall_mem_cons.mpr ⟨tk4 _ (List.mem_of_getElem? (i := 232) rfl), List.forall_mem_cons.mpr ⟨tk4 _ (List.mem_of_getElem? (i := 233) rfl), List.forall_mem_cons.mpr ⟨tk4 _ (List.mem_of_getElem? (i := 234) rfl), List.forall_mem_cons.mpr ⟨tk4 _ (List.mem_of_getElem? (i := 235) rfl), List.forall_mem_cons.mpr ⟨tk4 _ (List.mem_of_getElem? (i := 236) rfl), List.forall_mem_cons.mpr ⟨tk4 _ (List.mem_of_getElem? (i := 237) rfl), List.forall_mem_cons.mpr ⟨tk4 _ (List.mem_of_getElem? (i := 238) rfl), List.forall_mem_cons.mpr ⟨tk5 _ (List.mem_of_getElem? (i := 0) rfl), List.forall_mem_cons.mpr ⟨tk5 _ (List.mem_of_getElem? (i := 1) rfl), List.forall_mem_cons.mpr ⟨tk5 _ (List.mem_of_getElem? (i := 2) rfl), List.forall_mem_cons.mpr ⟨tk5 _ (List.mem_of_getElem? (i := 4) rfl), List.forall_mem_cons.mpr ⟨tk5 _ (List.mem_of_getElem? (i := 5) rfl), List.forall_mem_cons.mpr ⟨tk5 _ (List.mem_of_getElem? (i := 6) rfl), List.forall_mem_cons.mpr ⟨tk5 _ (List.mem_of_getElem? (i := 7) rfl), List.forall_mem_cons.mpr ⟨tk5 _ (List.mem_of_getElem? (i := 8) rfl), List.forall_mem_cons.mpr ⟨tk5 _ (List.mem_of_getElem? (i := 9) rfl), List.forall_mem_cons.mpr ⟨tk5 _ (List.mem_of_getElem? (i := 10) rfl), List.forall_mem_cons.mpr ⟨tk5 _ (List.mem_of_getElem? (i := 11) rfl), List.forall_mem_cons.mpr ⟨tk5 _ (List.mem_of_getElem? (i := 12) rfl), List.forall_mem_cons.mpr ⟨tk5 _ (List.mem_of_getElem? (i := 13) rfl), List.forall_mem_cons.mpr ⟨tk5 _ (List.mem_of_getElem? (i := 14) rfl), List.forall_mem_cons.mpr ⟨tk5 _ (List.mem_of_getElem? (i := 16) rfl), fun _ h => absurd h List.not_mem_nil⟩⟩⟩⟩⟩⟩⟩⟩⟩⟩⟩⟩⟩⟩⟩⟩⟩⟩⟩⟩⟩⟩⟩⟩⟩
set_option maxRecDepth 100000 in
theorem tb_16 : ∀ w ∈ gW_16, w ∈ lw_tbl := List.forall_mem_cons.mpr ⟨tk5 _ (List.mem_of_getElem? (i := 17) rfl), List.forall_mem_cons.mpr ⟨tk5 _ (List.mem_of_getElem? (i := 18) rfl), List.forall_mem_cons.mpr ⟨tk5 _ (List.mem_of_getElem? (i := 19) rfl), List.forall_mem_cons.mpr ⟨tk5 _ (List.mem_of_getElem? (i := 20) rfl), List.forall_mem_cons.mpr ⟨tk5 _ (List.mem_of_getElem? (i := 21) rfl), List.forall_mem_cons.mpr ⟨tk5 _ (List.mem_of_getElem? (i := 22) rfl), List.forall_mem_cons.mpr ⟨tk5 _ (List.mem_of_getElem? (i := 23) rfl), List.forall_mem_cons.mpr ⟨tk5 _ (List.mem_of_getElem? (i := 24) rfl), List.forall_mem_cons.mpr ⟨tk5 _ (List.mem_of_getElem? (i := 25) rfl), List.forall_mem_cons.mpr ⟨tk5 _ (List.mem_of_getElem? (i := 26) rfl), List.forall_mem_cons.mpr ⟨tk5 _ (List.mem_of_getElem? (i := 27) rfl), List.forall_mem_cons.mpr ⟨tk5 _ (List.mem_of_getElem? (i := 28) rfl), List.forall_mem_cons.mpr ⟨tk5 _ (List.mem_of_getElem? (i := 29) rfl), List.forall_mem_cons.mpr ⟨tk5 _ (List.mem_of_getElem? (i := 31) rfl), List.forall_mem_cons.mpr ⟨tk5 _ (List.mem_of_getElem? (i := 32) rfl), List.forall_mem_cons.mpr ⟨tk5 _ (List.mem_of_getElem? (i := 33) rfl), List.forall_mem_cons.mpr ⟨tk5 _ (List.mem_of_getElem? (i := 34) rfl), List.forall_mem_cons.mpr ⟨tk5 _ (List.mem_of_getElem? (i := 36) rfl), List.forall_mem_cons.mpr ⟨tk5 _ (List.mem_of_getElem? (i := 37) rfl), List.forall_mem_cons.mpr ⟨tk5 _ (List.mem_of_getElem? (i := 38) rfl), List.forall_mem_cons.mpr ⟨tk5 _ (List.mem_of_getElem? (i := 39) rfl), List.forall_mem_cons.mpr ⟨tk5 _ (List.mem_of_getElem? (i := 40) rfl), List.forall_mem_cons.mpr ⟨tk5 _ (List.mem_of_getElem? (i := 41) rfl), List.forall_mem_cons.mpr ⟨tk5 _ (List.mem_of_getElem? (i := 42) rfl), List.forall_mem_cons.mpr ⟨tk5 _ (List.mem_of_getElem? (i := 43) rfl), fun _ h => absurd h List.not_mem_nil⟩⟩⟩⟩⟩⟩⟩⟩⟩⟩⟩⟩⟩⟩⟩⟩⟩⟩⟩⟩⟩⟩⟩⟩⟩
set_option maxRecDepth 100000 in
theorem tb_17 : ∀ w ∈ gW_17, w ∈ lw_tbl := List.forall_mem_cons.mpr ⟨tk5 _ (List.mem_of_getElem? (i := 44) rfl), List.forall_mem_cons.mpr ⟨tk5 _ (List.mem_of_getElem? (i := 45) rfl), List.forall_mem_cons.mpr ⟨tk5 _ (List.mem_of_getElem? (i := 46) rfl), List.forall_mem_cons.mpr ⟨tk5 _ (List.mem_of_getElem? (i := 47) rfl), List.forall_mem_cons.mpr ⟨tk5 _ (List.mem_of_getElem? (i := 48) rfl), List.forall_mem_cons.mpr ⟨tk5 _ (List.mem_of_getElem? (i := 49) rfl), List.forall_mem_cons.mpr ⟨tk5 _ (List.mem_of_getElem? (i := 50) rfl), List.forall_mem_cons.mpr ⟨tk5 _ (List.mem_of_getElem? (i := 51) rfl), List.forall_mem_cons.mpr ⟨tk5 _ (List.mem_of_getElem? (i := 53) rfl), List.forall_mem_cons.mpr ⟨tk5 _ (List.mem_of_getElem? (i := 54) rfl), List.forall_mem_cons.mpr ⟨tk5 _ (List.mem_of_getElem? (i := 55) rfl), List.forall_mem_cons.mpr ⟨tk5 _ (List.mem_of_getElem? (i := 56) rfl), List.forall_mem_cons.mpr ⟨tk5 _ (List.mem_of_getElem? (i := 57) rfl), List.forall_mem_cons.mpr ⟨tk5 _ (List.mem_of_getElem? (i := 58) rfl), List.forall_mem_cons.mpr ⟨tk5 _ (List.mem_of_getElem? (i := 59) rfl), List.forall_mem_cons.mpr ⟨tk5 _ (List.mem_of_getElem? (i := 60) rfl), List.forall_mem_cons.mpr ⟨tk5 _ (List.mem_of_getElem? (i := 61) rfl), List.forall_mem_cons.mpr ⟨tk5 _ (List.mem_of_getElem? (i := 62) rfl), List.forall_mem_cons.mpr ⟨tk5 _ (List.mem_of_getElem? (i := 63) rfl), List.forall_mem_cons.mpr ⟨tk5 _ (List.mem_of_getElem? (i := 64) rfl), List.forall_mem_cons.mpr ⟨tk5 _ (List.mem_of_getElem? (i := 65) rfl), List.forall_mem_cons.mpr ⟨tk5 _ (List.mem_of_getElem? (i := 66) rfl), List.forall_mem_cons.mpr ⟨tk5 _ (List.mem_of_getElem? (i := 67) rfl), List.forall_mem_cons.mpr ⟨tk5 _ (List.mem_of_getElem? (i := 68) rfl), List.forall_mem_cons.mpr ⟨tk5 _ (List.mem_of_getElem? (i := 70) rfl), fun _ h => absurd h List.not_mem_nil⟩⟩⟩⟩⟩⟩⟩⟩⟩⟩⟩⟩⟩⟩⟩⟩⟩⟩⟩⟩⟩⟩⟩⟩⟩
set_option maxRecDepth 100000 in
theorem tb_18 : ∀ w ∈ gW_18, w ∈ lw_tbl := List.forall_mem_cons.mpr ⟨tk5 _ (List.mem_of_getElem? (i := 71) rfl), List.forall_mem_cons.mpr ⟨tk5 _ (List.mem_of_getElem? (i := 72) rfl), List.forall_mem_cons.mpr ⟨tk5 _ (List.mem_of_getElem? (i := 73) rfl), List.forall_mem_cons.mpr ⟨tk5 _ (List.mem_of_getElem? (i := 74) rfl), List.forall_mem_cons.mpr ⟨tk5 _ (List.mem_of_getElem? (i := 75) rfl), List.forall_mem_cons.mpr ⟨tk5 _ (List.mem_of_getElem? (i := 76) rfl), List.forall_mem_cons.mpr ⟨tk5 _ (List.mem_of_getElem? (i := 77) rfl), List.forall_mem_cons.mpr ⟨tk5 _ (List.mem_of_getElem? (i := 78) rfl), List.forall_mem_cons.mpr ⟨tk5 _ (List.mem_of_getElem? (i := 80) rfl), List.forall_mem_cons.mpr ⟨tk5 _ (List.mem_of_getElem? (i := 81) rfl), List.forall_mem_cons.mpr ⟨tk5 _ (List.mem_of_getElem? (i := 82) rfl), List.forall_mem_cons.mpr ⟨tk5 _ (List.mem_of_getElem? (i := 83) rfl), List.forall_mem_cons.mpr ⟨tk5 _ (List.mem_of_getElem? (i := 84) rfl), List.forall_mem_cons.mpr ⟨tk5 _ (List.mem_of_getElem? (i := 85) rfl), List.forall_mem_cons.mpr ⟨tk5 _ (List.mem_of_getElem? (i := 86) rfl), List.forall_mem_cons.mpr ⟨tk5 _ (List.mem_of_getElem? (i := 87) rfl), List.forall_mem_cons.mpr ⟨tk5 _ (List.mem_of_getElem? (i := 88) rfl), List.forall_mem_cons.mpr ⟨tk5 _ (List.mem_of_getElem? (i := 92) rfl), List.forall_mem_cons.mpr ⟨tk5 _ (List.mem_of_getElem? (i := 93) rfl), List.forall_mem_cons.mpr ⟨tk5 _ (List.mem_of_getElem? (i := 94) rfl), List.forall_mem_cons.mpr ⟨tk5 _ (List.mem_of_getElem? (i := 95) rfl), List.forall_mem_cons.mpr ⟨tk5 _ (List.mem_of_getElem? (i := 96) rfl), List.forall_mem_cons.mpr ⟨tk5 _ (List.mem_of_getElem? (i := 97) rfl), List.forall_mem_cons.mpr ⟨tk5 _ (List.mem_of_getElem? (i := 98) rfl), List.forall_mem_cons.mpr ⟨tk5 _ (List.mem_of_getElem? (i := 99) rfl), fun _ h => absurd h List.not_mem_nil⟩⟩⟩⟩⟩⟩⟩⟩⟩⟩⟩⟩⟩⟩⟩⟩⟩⟩⟩⟩⟩⟩⟩⟩⟩
set_option maxRecDepth 100000 in
theorem tb_19 : ∀ w ∈ gW_19, w ∈ lw_tbl := List.forall_mem_cons.mpr ⟨tk5 _ (List.mem_of_getElem? (i := 100) rfl), List.forall_mem_cons.mpr ⟨tk5 _ (List.mem_of_getElem? (i := 101) rfl), List.forall_mem_cons.mpr ⟨tk5 _ (List.mem_of_getElem? (i := 102) rfl), List.forall_mem_cons.mpr ⟨tk5 _ (List.mem_of_getElem? (i := 103) rfl), List.forall_mem_cons.mpr ⟨tk5 _ (List.mem_of_getElem? (i := 104) rfl), List.forall_mem_cons.mpr ⟨tk5 _ (List.mem_of_getElem? (i := 105) rfl), List.forall_mem_cons.mpr ⟨tk5 _ (List.mem_of_getElem? (i := 107) rfl), List.forall_mem_cons.mpr ⟨tk5 _ (List.mem_of_getElem? (i := 108) rfl), List.forall_mem_cons.mpr ⟨tk5 _ (List.mem_of_getElem? (i := 109) rfl), List.forall_mem_cons.mpr ⟨tk5 _ (List.mem_of_getElem? (i := 110) rfl), List.forall_mem_cons.mpr ⟨tk5 _ (List.mem_of_getElem? (i := 111) rfl), List.forall_mem_cons.mpr ⟨tk5 _ (List.mem_of_getElem? (i := 112) rfl), List.forall_mem_cons.mpr ⟨tk5 _ (List.mem_of_getElem? (i := 113) rfl), List.forall_mem_cons.mpr ⟨tk5 _ (List.mem_of_getElem? (i := 114) rfl), List.forall_mem_cons.mpr ⟨tk5 _ (List.mem_of_getElem? (i := 115) rfl), List.forall_mem_cons.mpr ⟨tk5 _ (List.mem_of_getElem? (i := 116) rfl), List.forall_mem_cons.mpr ⟨tk5 _ (List.mem_of_getElem? (i := 117) rfl), List.forall_mem_cons.mpr ⟨tk5 _ (List.mem_of_getElem? (i := 133) rfl), List.forall_mem_cons.mpr ⟨tk5 _ (List.mem_of_getElem? (i := 135) rfl), List.forall_mem_cons.mpr ⟨tk5 _ (List.mem_of_getElem? (i := 136) rfl), List.forall_mem_cons.mpr ⟨tk5 _ (List.mem_of_getElem? (i := 137) rfl), List.forall_mem_cons.mpr ⟨tk5 _ (List.mem_of_getElem? (i := 138) rfl), List.forall_mem_cons.mpr ⟨tk5 _ (List.mem_of_getElem? (i := 139) rfl), List.forall_mem_cons.mpr ⟨tk5 _ (List.mem_of_getElem? (i := 140) rfl), List.forall_mem_cons.mpr ⟨tk5 _ (List.mem_of_getElem? (i := 141) rfl), fun _ h => absurd h List.not_mem_nil⟩⟩⟩⟩⟩⟩⟩⟩⟩⟩⟩⟩⟩⟩⟩⟩⟩⟩⟩⟩⟩⟩⟩⟩⟩
set_option maxRecDepth 100000 in
theorem tb_20 : ∀ w ∈ gW_20, w ∈ lw_tbl := List.forall_mem_cons.mpr ⟨tk5 _ (List.mem_of_getElem? (i := 142) rfl), List.forall_mem_cons.mpr ⟨tk5 _ (List.mem_of_getElem? (i := 143) rfl), List.forall_mem_cons.mpr ⟨tk5 _ (List.mem_of_getElem? (i := 144) rfl), List.forall_mem_cons.mpr ⟨tk5 _ (List.mem_of_getElem? (i := 145) rfl), List.forall_mem_cons.mpr ⟨tk5 _ (List.mem_of_getElem? (i := 146) rfl), List.forall_mem_cons.mpr ⟨tk5 _ (List.mem_of_getElem? (i := 147) rfl), List.forall_mem_cons.mpr ⟨tk5 _ (List.mem_of_getElem? (i := 148) rfl), List.forall_mem_cons.mpr ⟨tk5 _ (List.mem_of_getElem? (i := 149) rfl), List.forall_mem_cons.mpr ⟨tk5 _ (List.mem_of_getElem? (i := 153) rfl), List.forall_mem_cons.mpr ⟨tk5 _ (List.mem_of_getElem? (i := 159) rfl), List.forall_mem_cons.mpr ⟨tk5 _ (List.mem_of_getElem? (i := 160) rfl), List.forall_mem_cons.mpr ⟨tk5 _ (List.mem_of_getElem? (i := 161) rfl), List.forall_mem_cons.mpr ⟨tk5 _ (List.mem_of_getElem? (i := 162) rfl), List.forall_mem_cons.mpr ⟨tk5 _ (List.mem_of_getElem? (i := 163) rfl), List.forall_mem_cons.mpr ⟨tk5 _ (List.mem_of_getElem? (i := 164) rfl), List.forall_mem_cons.mpr ⟨tk5 _ (List.mem_of_getElem? (i := 165) rfl), List.forall_mem_cons.mpr ⟨tk5 _ (List.mem_of_getElem? (i := 166) rfl), List.forall_mem_cons.mpr ⟨tk5 _ (List.mem_of_getElem? (i := 167) rfl), List.forall_mem_cons.mpr ⟨tk5 _ (List.mem_of_getElem? (i := 170) rfl), List.forall_mem_cons.mpr ⟨tk5 _ (List.mem_of_getElem? (i := 171) rfl), List.forall_mem_cons.mpr ⟨tk5 _ (List.mem_of_getElem? (i := 172) rfl), List.forall_mem_cons.mpr ⟨tk5 _ (List.mem_of_getElem? (i := 173) rfl), List.forall_mem_cons.mpr ⟨tk5 _ (List.mem_of_getElem? (i := 174) rfl), List.forall_mem_cons.mpr ⟨tk5 _ (List.mem_of_getElem? (i := 175) rfl), List.forall_mem_cons.mpr ⟨tk5 _ (List.mem_of_getElem? (i := 176) rfl), fun _ h => absurd h List.not_mem_nil⟩⟩⟩⟩⟩⟩⟩⟩⟩⟩⟩⟩⟩⟩⟩⟩⟩⟩⟩⟩⟩⟩⟩⟩⟩
set_option maxRecDepth 100000 in
theorem tb_21 : ∀ w ∈ gW_21, w ∈ lw_tbl := List.forall_mem_cons.mpr ⟨tk5 _ (List.mem_of_getElem? (i := 177) rfl), List.forall_mem_cons.mpr ⟨tk5 _ (List.mem_of_getElem? (i := 178) rfl), List.forall_mem_cons.mpr ⟨tk5 _ (List.mem_of_getElem? (i := 180) rfl), List.forall_mem_cons.mpr ⟨tk5 _ (List.mem_of_getElem? (i := 181) rfl), List.forall_mem_cons.mpr ⟨tk5 _ (List.mem_of_getElem? (i := 182) rfl), List.forall_mem_cons.mpr ⟨tk5 _ (List.mem_of_getElem? (i := 183) rfl), List.forall_mem_cons.mpr ⟨tk5 _ (List.mem_of_getElem? (i := 184) rfl), List.forall_mem_cons.mpr ⟨tk5 _ (List.mem_of_getElem? (i := 185) rfl), List.forall_mem_cons.mpr ⟨tk5 _ (List.mem_of_getElem? (i := 186) rfl), List.forall_mem_cons.mpr ⟨tk5 _ (List.mem_of_getElem? (i := 187) rfl), List.forall_mem_cons.mpr ⟨tk5 _ (List.mem_of_getElem? (i := 188) rfl), List.forall_mem_cons.mpr ⟨tk5 _ (List.mem_of_getElem? (i := 189) rfl), List.forall_mem_cons.mpr ⟨tk5 _ (List.mem_of_getElem? (i := 190) rfl), List.forall_mem_cons.mpr ⟨tk5 _ (List.mem_of_getElem? (i := 191) rfl), List.forall_mem_cons.mpr ⟨tk5 _ (List.mem_of_getElem? (i := 192) rfl), List.forall_mem_cons.mpr ⟨tk5 _ (List.mem_of_getElem? (i := 193) rfl), List.forall_mem_cons.mpr ⟨tk5 _ (List.mem_of_getElem? (i := 194) rfl), List.forall_mem_cons.mpr ⟨tk5 _ (List.mem_of_getElem? (i := 195) rfl), List.forall_mem_cons.mpr ⟨tk5 _ (List.mem_of_getElem? (i := 196) rfl), List.forall_mem_cons.mpr ⟨tk5 _ (List.mem_of_getElem? (i := 197) rfl), List.forall_mem_cons.mpr ⟨tk5 _ (List.mem_of_getElem? (i := 198) rfl), List.forall_mem_cons.mpr ⟨tk5 _ (List.mem_of_getElem? (i := 199) rfl), List.forall_mem_cons.mpr ⟨tk5 _ (List.mem_of_getElem? (i := 200) rfl), List.forall_mem_cons.mpr ⟨tk5 _ (List.mem_of_getElem? (i := 201) rfl), List.forall_mem_cons.mpr ⟨tk5 _ (List.mem_of_getElem? (i := 203) rfl), fun _ h => absurd h List.not_mem_nil⟩⟩⟩⟩⟩⟩⟩⟩⟩⟩⟩⟩⟩⟩⟩⟩⟩⟩⟩⟩⟩⟩⟩⟩⟩
set_option maxRecDepth 100000 in
theorem tb_22 : ∀ w ∈ gW_22, w ∈ lw_tbl := List.forall_mem_cons.mpr ⟨tk5 _ (List.mem_of_getElem? (i := 204) rfl), List.forall_mem_cons.mpr ⟨tk5 _ (List.mem_of_getElem? (i := 205) rfl), List.forall_mem_cons.mpr ⟨tk5 _ (List.mem_of_getElem? (i := 207) rfl), List.forall_mem_cons.mpr ⟨tk5 _ (List.mem_of_getElem? (i := 208) rfl), List.forall_mem_cons.mpr ⟨tk5 _ (List.mem_of_getElem? (i := 209) rfl), List.forall_mem_cons.mpr ⟨tk5 _ (List.mem_of_getElem? (i := 210) rfl), List.forall_mem_cons.mpr ⟨tk5 _ (List.mem_of_getElem? (i := 212) rfl), List.forall_mem_cons.mpr ⟨tk5 _ (List.mem_of_getElem? (i := 213) rfl), List.forall_mem_cons.mpr ⟨tk5 _ (List.mem_of_getElem? (i := 214) rfl), List.forall_mem_cons.mpr ⟨tk5 _ (List.mem_of_getElem? (i := 215) rfl), List.forall_mem_cons.mpr ⟨tk5 _ (List.mem_of_getElem? (i := 216) rfl), List.forall_mem_cons.mpr ⟨tk5 _ (List.mem_of_getElem? (i := 217) rfl), List.forall_mem_cons.mpr ⟨tk5 _ (List.mem_of_getElem? (i := 218) rfl), List.forall_mem_cons.mpr ⟨tk5 _ (List.mem_of_getElem? (i := 219) rfl), List.forall_mem_cons.mpr ⟨tk5 _ (List.mem_of_getElem? (i := 220) rfl), List.forall_mem_cons.mpr ⟨tk5 _ (List.mem_of_getElem? (i := 221) rfl), List.forall_mem_cons.mpr ⟨tk5 _ (List.mem_of_getElem? (i := 222) rfl), List.forall_mem_cons.mpr ⟨tk5 _ (List.mem_of_getElem? (i := 223) rfl), List.forall_mem_cons.mpr ⟨tk5 _ (List.mem_of_getElem? (i := 224) rfl), List.forall_mem_cons.mpr ⟨tk5 _ (List.mem_of_getElem? (i := 225) rfl), List.forall_mem_cons.mpr ⟨tk5 _ (List.mem_of_getElem? (i := 226) rfl), List.forall_mem_cons.mpr ⟨tk5 _ (List.mem_of_getElem? (i := 227) rfl), List.forall_mem_cons.mpr ⟨tk5 _ (List.mem_of_getElem? (i := 228) rfl), List.forall_mem_cons.mpr ⟨tk5 _ (List.mem_of_getElem? (i := 229) rfl), List.forall_mem_cons.mpr ⟨tk5 _ (List.mem_of_getElem? (i := 230) rfl), fun _ h => absurd h List.not_mem_nil⟩⟩⟩⟩⟩⟩⟩⟩⟩⟩⟩⟩⟩⟩⟩⟩⟩⟩⟩⟩⟩⟩⟩⟩⟩
set_option maxRecDepth 100000 in
theorem tb_23 : ∀ w ∈ gW_23, w ∈ lw_tbl := List.forall_mem_cons.mpr ⟨tk5 _ (List.mem_of_getElem? (i := 231) rfl), List.forall_mem_cons.mpr ⟨tk5 _ (List.mem_of_getElem? (i := 232) rfl), List.forall_mem_cons.mpr ⟨tk5 _ (List.mem_of_getElem? (i := 233) rfl), List.forall_mem_cons.mpr ⟨tk5 _ (List.mem_of_getElem? (i := 234) rfl), List.forall_mem_cons.mpr ⟨tk5 _ (List.mem_of_getElem? (i := 235) rfl), List.forall_mem_cons.mpr ⟨tk5 _ (List.mem_of_getElem? (i := 236) rfl), List.forall_mem_cons.mpr ⟨tk5 _ (List.mem_of_getElem? (i := 237) rfl), List.forall_mem_cons.mpr ⟨tk5 _ (List.mem_of_getElem? (i := 238) rfl), List.forall_mem_cons.mpr ⟨tk5 _ (List.mem_of_getElem? (i := 239) rfl), List.forall_mem_cons.mpr ⟨tk6 _ (List.mem_of_getElem? (i := 0) rfl), List.forall_mem_cons.mpr ⟨tk6 _ (List.mem_of_getElem? (i := 1) rfl), List.forall_mem_cons.mpr ⟨tk6 _ (List.mem_of_getElem? (i := 3) rfl), List.forall_mem_cons.mpr ⟨tk6 _ (List.mem_of_getElem? (i := 4) rfl), List.forall_mem_cons.mpr ⟨tk6 _ (List.mem_of_getElem? (i := 5) rfl), List.forall_mem_cons.mpr ⟨tk6 _ (List.mem_of_getElem? (i := 6) rfl), List.forall_mem_cons.mpr ⟨tk6 _ (List.mem_of_getElem? (i := 7) rfl), List.forall_mem_cons.mpr ⟨tk6 _ (List.mem_of_getElem? (i := 8) rfl), List.forall_mem_cons.mpr ⟨tk6 _ (List.mem_of_getElem? (i := 9) rfl), List.forall_mem_cons.mpr ⟨tk6 _ (List.mem_of_getElem? (i := 10) rfl), List.forall_mem_cons.mpr ⟨tk6 _ (List.mem_of_getElem? (i := 11) rfl), List.forall_mem_cons.mpr ⟨tk6 _ (List.mem_of_getElem? (i := 12) rfl), List.forall_mem_cons.mpr ⟨tk6 _ (List.mem_of_getElem? (i := 13) rfl), List.forall_mem_cons.mpr ⟨tk6 _ (List.mem_of_getElem? (i := 15) rfl), List.forall_mem_cons.mpr ⟨tk6 _ (List.mem_of_getElem? (i := 16) rfl), List.forall_mem_cons.mpr ⟨tk6 _ (List.mem_of_getElem? (i := 17) rfl), fun _ h => absurd h List.not_mem_nil⟩⟩⟩⟩⟩⟩⟩⟩⟩⟩⟩⟩⟩⟩⟩⟩⟩⟩⟩⟩⟩⟩⟩⟩⟩
set_option maxRecDepth 100000 in
theorem tb_24 : ∀ w ∈ gW_24, w ∈ lw_tbl := List.forall_mem_cons.mpr ⟨tk6 _ (List.mem_of_getElem? (i := 18) rfl), List.forall_mem_cons.mpr ⟨tk6 _ (List.mem_of_getElem? (i := 19) rfl), List.forall_mem_cons.mpr ⟨tk6 _ (List.mem_of_getElem? (i := 20) rfl), List.forall_mem_cons.mpr ⟨tk6 _ (List.mem_of_getElem? (i := 21) rfl), List.forall_mem_cons.mpr ⟨tk6 _ (List.mem_of_getElem? (i := 22) rfl), List.forall_mem_cons.mpr ⟨tk6 _ (List.mem_of_getElem? (i := 23) rfl), List.forall_mem_cons.mpr ⟨tk6 _ (List.mem_of_getElem? (i := 24) rfl), List.forall_mem_cons.mpr ⟨tk6 _ (List.mem_of_getElem? (i := 25) rfl), List.forall_mem_cons.mpr ⟨tk6 _ (List.mem_of_getElem? (i := 26) rfl), List.forall_mem_cons.mpr ⟨tk6 _ (List.mem_of_getElem? (i := 27) rfl), List.forall_mem_cons.mpr ⟨tk6 _ (List.mem_of_getElem? (i := 28) rfl), List.forall_mem_cons.mpr ⟨tk6 _ (List.mem_of_getElem? (i := 29) rfl), List.forall_mem_cons.mpr ⟨tk6 _ (List.mem_of_getElem? (i := 30) rfl), List.forall_mem_cons.mpr ⟨tk6 _ (List.mem_of_getElem? (i := 31) rfl), List.forall_mem_cons.mpr ⟨tk6 _ (List.mem_of_getElem? (i := 32) rfl), List.forall_mem_cons.mpr ⟨tk6 _ (List.mem_of_getElem? (i := 33) rfl), List.forall_mem_cons.mpr ⟨tk6 _ (List.mem_of_getElem? (i := 34) rfl), List.forall_mem_cons.mpr ⟨tk6 _ (List.mem_of_getElem? (i := 35) rfl), List.forall_mem_cons.mpr ⟨tk6 _ (List.mem_of_getElem? (i := 36) rfl), List.forall_mem_cons.mpr ⟨tk6 _ (List.mem_of_getElem? (i := 37) rfl), List.forall_mem_cons.mpr ⟨tk6 _ (List.mem_of_getElem? (i := 38) rfl), List.forall_mem_cons.mpr ⟨tk6 _ (List.mem_of_getElem? (i := 39) rfl), List.forall_mem_cons.mpr ⟨tk6 _ (List.mem_of_getElem? (i := 40) rfl), List.forall_mem_cons.mpr ⟨tk6 _ (List.mem_of_getElem? (i := 41) rfl), List.forall_mem_cons.mpr ⟨tk6 _ (List.mem_of_getElem? (i := 42) rfl), fun _ h => absurd h List.not_mem_nil⟩⟩⟩⟩⟩⟩⟩⟩⟩⟩⟩⟩⟩⟩⟩⟩⟩⟩⟩⟩⟩⟩⟩⟩⟩
set_option maxRecDepth 100000 in
theorem tb_25 : ∀ w ∈ gW_25, w ∈ lw_tbl := List.forall_mem_cons.mpr ⟨tk6 _ (List.mem_of_getElem? (i := 43) rfl), List.forall_mem_cons.mpr ⟨tk6 _ (List.mem_of_getElem? (i := 44) rfl), List.forall_mem_cons.mpr ⟨tk6 _ (List.mem_of_getElem? (i := 45) rfl), List.forall_mem_cons.mpr ⟨tk6 _ (List.mem_of_getElem? (i := 46) rfl), List.forall_mem_cons.mpr ⟨tk6 _ (List.mem_of_getElem? (i := 47) rfl), List.forall_mem_cons.mpr ⟨tk6 _ (List.mem_of_getElem? (i := 48) rfl), List.forall_mem_cons.mpr ⟨tk6 _ (List.mem_of_getElem? (i := 49) rfl), List.forall_mem_cons.mpr ⟨tk6 _ (List.mem_of_getElem? (i := 50) rfl), List.forall_mem_cons.mpr ⟨tk6 _ (List.mem_of_getElem? (i := 51) rfl), List.forall_mem_cons.mpr ⟨tk6 _ (List.mem_of_getElem? (i := 52) rfl), List.forall_mem_cons.mpr ⟨tk6 _ (List.mem_of_getElem? (i := 54) rfl), List.forall_mem_cons.mpr ⟨tk6 _ (List.mem_of_getElem? (i := 55) rfl), List.forall_mem_cons.mpr ⟨tk6 _ (List.mem_of_getElem? (i := 56) rfl), List.forall_mem_cons.mpr ⟨tk6 _ (List.mem_of_getElem? (i := 57) rfl), List.forall_mem_cons.mpr ⟨tk6 _ (List.mem_of_getElem? (i := 58) rfl), List.forall_mem_cons.mpr ⟨tk6 _ (List.mem_of_getElem? (i := 59) rfl), List.forall_mem_cons.mpr ⟨tk6 _ (List.mem_of_getElem? (i := 60) rfl), List.forall_mem_cons.mpr ⟨tk6 _ (List.mem_of_getElem? (i := 65) rfl), List.forall_mem_cons.mpr ⟨tk6 _ (List.mem_of_getElem? (i := 66) rfl), List.forall_mem_cons.mpr ⟨tk6 _ (List.mem_of_getElem? (i := 67) rfl), List.forall_mem_cons.mpr ⟨tk6 _ (List.mem_of_getElem? (i := 68) rfl), List.forall_mem_cons.mpr ⟨tk6 _ (List.mem_of_getElem? (i := 69) rfl), List.forall_mem_cons.mpr ⟨tk6 _ (List.mem_of_getElem? (i := 74) rfl), List.forall_mem_cons.mpr ⟨tk6 _ (List.mem_of_getElem? (i := 75) rfl), List.forall_mem_cons.mpr ⟨tk6 _ (List.mem_of_getElem? (i := 76) rfl), fun _ h => absurd h List.not_mem_nil⟩⟩⟩⟩⟩⟩⟩⟩⟩⟩⟩⟩⟩⟩⟩⟩⟩⟩⟩⟩⟩⟩⟩⟩⟩
set_option maxRecDepth 100000 in
theorem tb_26 : ∀ w ∈ gW_26, w ∈ lw_tbl := List.forall_mem_cons.mpr ⟨tk6 _ (List.mem_of_getElem? (i := 80) rfl), List.forall_mem_cons.mpr ⟨tk6 _ (List.mem_of_getElem? (i := 81) rfl), List.forall_mem_cons.mpr ⟨tk6 _ (List.mem_of_getElem? (i := 82) rfl), List.forall_mem_cons.mpr ⟨tk6 _ (List.mem_of_getElem? (i := 83) rfl), List.forall_mem_cons.mpr ⟨tk6 _ (List.mem_of_getElem? (i := 85) rfl), List.forall_mem_cons.mpr ⟨tk6 _ (List.mem_of_getElem? (i := 86) rfl), List.forall_mem_cons.mpr ⟨tk6 _ (List.mem_of_getElem? (i := 87) rfl), List.forall_mem_cons.mpr ⟨tk6 _ (List.mem_of_getElem? (i := 88) rfl), List.forall_mem_cons.mpr ⟨tk6 _ (List.mem_of_getElem? (i := 89) rfl), fun _ h => absurd h List.not_mem_nil⟩⟩⟩⟩⟩⟩⟩⟩⟩
set_option maxRecDepth 100000 in
theorem tbL0 : ∀ j, j < 5 → u_lay RX0 TX0 j ∈ lw_tbl := (lt_s (lt_s (lt_s (lt_s (lt_s lt_0 (tk2 _ (List.mem_of_getElem? (i := 199) rfl))) (tk2 _ (List.mem_of_getElem? (i := 201) rfl))) (tk2 _ (List.mem_of_getElem? (i := 203) rfl))) (tk2 _ (List.mem_of_getElem? (i := 205) rfl))) (tk2 _ (List.mem_of_getElem? (i := 207) rfl)))
theorem tbX0 : ∀ w ∈ wsX00, w ∈ lw_tbl := fun w h => by
  obtain ⟨j, hj, rfl⟩ := List.mem_map.mp h
  exact tbL0 j (List.mem_range.mp hj)
set_option maxRecDepth 100000 in
theorem tbL1 : ∀ j, j < 11 → u_lay RX1 TX1 j ∈ lw_tbl := (lt_s (lt_s (lt_s (lt_s (lt_s (lt_s (lt_s (lt_s (lt_s (lt_s (lt_s lt_0 (tk2 _ (List.mem_of_getElem? (i := 29) rfl))) (tk2 _ (List.mem_of_getElem? (i := 31) rfl))) (tk2 _ (List.mem_of_getElem? (i := 33) rfl))) (tk2 _ (List.mem_of_getElem? (i := 35) rfl))) (tk2 _ (List.mem_of_getElem? (i := 37) rfl))) (tk2 _ (List.mem_of_getElem? (i := 39) rfl))) (tk2 _ (List.mem_of_getElem? (i := 41) rfl))) (tk2 _ (List.mem_of_getElem? (i := 43) rfl))) (tk2 _ (List.mem_of_getElem? (i := 45) rfl))) (tk2 _ (List.mem_of_getElem? (i := 47) rfl))) (tk2 _ (List.mem_of_getElem? (i := 49) rfl)))
theorem tbX1 : ∀ w ∈ wsX10, w ∈ lw_tbl := fun w h => by
  obtain ⟨j, hj, rfl⟩ := List.mem_map.mp h
  exact tbL1 j (List.mem_range.mp hj)
set_option maxRecDepth 100000 in
theorem tbL2 : ∀ j, j < 20 → u_lay RX2 TX2 j ∈ lw_tbl := (lt_s (lt_s (lt_s (lt_s (lt_s (lt_s (lt_s (lt_s (lt_s (lt_s (lt_s (lt_s (lt_s (lt_s (lt_s (lt_s (lt_s (lt_s (lt_s (lt_s lt_0 (tk1 _ (List.mem_of_getElem? (i := 198) rfl))) (tk1 _ (List.mem_of_getElem? (i := 200) rfl))) (tk1 _ (List.mem_of_getElem? (i := 202) rfl))) (tk1 _ (List.mem_of_getElem? (i := 204) rfl))) (tk1 _ (List.mem_of_getElem? (i := 206) rfl))) (tk1 _ (List.mem_of_getElem? (i := 208) rfl))) (tk1 _ (List.mem_of_getElem? (i := 210) rfl))) (tk1 _ (List.mem_of_getElem? (i := 212) rfl))) (tk1 _ (List.mem_of_getElem? (i := 214) rfl))) (tk1 _ (List.mem_of_getElem? (i := 216) rfl))) (tk1 _ (List.mem_of_getElem? (i := 218) rfl))) (tk1 _ (List.mem_of_getElem? (i := 220) rfl))) (tk1 _ (List.mem_of_getElem? (i := 222) rfl))) (tk1 _ (List.mem_of_getElem? (i := 224) rfl))) (tk1 _ (List.mem_of_getElem? (i := 226) rfl))) (tk1 _ (List.mem_of_getElem? (i := 228) rfl))) (tk1 _ (List.mem_of_getElem? (i := 230) rfl))) (tk1 _ (List.mem_of_getElem? (i := 232) rfl))) (tk1 _ (List.mem_of_getElem? (i := 234) rfl))) (tk1 _ (List.mem_of_getElem? (i := 236) rfl)))
theorem tbX2 : ∀ w ∈ wsX20, w ∈ lw_tbl := fun w h => by
  obtain ⟨j, hj, rfl⟩ := List.mem_map.mp h
  exact tbL2 j (List.mem_range.mp hj)
set_option maxRecDepth 100000 in
theorem tbL3 : ∀ j, j < 15 → u_lay RX3 TX3 j ∈ lw_tbl := (lt_s (lt_s (lt_s (lt_s (lt_s (lt_s (lt_s (lt_s (lt_s (lt_s (lt_s (lt_s (lt_s (lt_s (lt_s lt_0 (tk2 _ (List.mem_of_getElem? (i := 231) rfl))) (tk2 _ (List.mem_of_getElem? (i := 233) rfl))) (tk2 _ (List.mem_of_getElem? (i := 235) rfl))) (tk2 _ (List.mem_of_getElem? (i := 237) rfl))) (tk2 _ (List.mem_of_getElem? (i := 239) rfl))) (tk3 _ (List.mem_of_getElem? (i := 1) rfl))) (tk3 _ (List.mem_of_getElem? (i := 3) rfl))) (tk3 _ (List.mem_of_getElem? (i := 5) rfl))) (tk3 _ (List.mem_of_getElem? (i := 7) rfl))) (tk3 _ (List.mem_of_getElem? (i := 9) rfl))) (tk3 _ (List.mem_of_getElem? (i := 11) rfl))) (tk3 _ (List.mem_of_getElem? (i := 13) rfl))) (tk3 _ (List.mem_of_getElem? (i := 15) rfl))) (tk3 _ (List.mem_of_getElem? (i := 17) rfl))) (tk3 _ (List.mem_of_getElem? (i := 19) rfl)))
theorem tbX3 : ∀ w ∈ wsX30, w ∈ lw_tbl := fun w h => by
  obtain ⟨j, hj, rfl⟩ := List.mem_map.mp h
  exact tbL3 j (List.mem_range.mp hj)
set_option maxRecDepth 100000 in
theorem tbL4 : ∀ j, j < 5 → u_lay RX4 TX4 j ∈ lw_tbl := (lt_s (lt_s (lt_s (lt_s (lt_s lt_0 (tk2 _ (List.mem_of_getElem? (i := 177) rfl))) (tk2 _ (List.mem_of_getElem? (i := 179) rfl))) (tk2 _ (List.mem_of_getElem? (i := 181) rfl))) (tk2 _ (List.mem_of_getElem? (i := 183) rfl))) (tk2 _ (List.mem_of_getElem? (i := 185) rfl)))
theorem tbX4 : ∀ w ∈ wsX40, w ∈ lw_tbl := fun w h => by
  obtain ⟨j, hj, rfl⟩ := List.mem_map.mp h
  exact tbL4 j (List.mem_range.mp hj)
set_option maxRecDepth 100000 in
theorem tbL5 : ∀ j, j < 19 → u_lay RX5 TX5 j ∈ lw_tbl := (lt_s (lt_s (lt_s (lt_s (lt_s (lt_s (lt_s (lt_s (lt_s (lt_s (lt_s (lt_s (lt_s (lt_s (lt_s (lt_s (lt_s (lt_s (lt_s lt_0 (tk2 _ (List.mem_of_getElem? (i := 128) rfl))) (tk2 _ (List.mem_of_getElem? (i := 130) rfl))) (tk2 _ (List.mem_of_getElem? (i := 132) rfl))) (tk2 _ (List.mem_of_getElem? (i := 134) rfl))) (tk2 _ (List.mem_of_getElem? (i := 136) rfl))) (tk2 _ (List.mem_of_getElem? (i := 138) rfl))) (tk2 _ (List.mem_of_getElem? (i := 140) rfl))) (tk2 _ (List.mem_of_getElem? (i := 142) rfl))) (tk2 _ (List.mem_of_getElem? (i := 144) rfl))) (tk2 _ (List.mem_of_getElem? (i := 146) rfl))) (tk2 _ (List.mem_of_getElem? (i := 148) rfl))) (tk2 _ (List.mem_of_getElem? (i := 150) rfl))) (tk2 _ (List.mem_of_getElem? (i := 152) rfl))) (tk2 _ (List.mem_of_getElem? (i := 154) rfl))) (tk2 _ (List.mem_of_getElem? (i := 156) rfl))) (tk2 _ (List.mem_of_getElem? (i := 158) rfl))) (tk2 _ (List.mem_of_getElem? (i := 160) rfl))) (tk2 _ (List.mem_of_getElem? (i := 162) rfl))) (tk2 _ (List.mem_of_getElem? (i := 164) rfl)))
theorem tbX5 : ∀ w ∈ wsX50, w ∈ lw_tbl := fun w h => by
  obtain ⟨j, hj, rfl⟩ := List.mem_map.mp h
  exact tbL5 j (List.mem_range.mp hj)
set_option maxRecDepth 100000 in
theorem tbL6 : ∀ j, j < 1 → u_lay RX6 TX6 j ∈ lw_tbl := (lt_s lt_0 (tk1 _ (List.mem_of_getElem? (i := 91) rfl)))
theorem tbX6 : ∀ w ∈ wsX60, w ∈ lw_tbl := fun w h => by
  obtain ⟨j, hj, rfl⟩ := List.mem_map.mp h
  exact tbL6 j (List.mem_range.mp hj)
set_option maxRecDepth 100000 in
theorem tbL7 : ∀ j, j < 11 → u_lay RX7 TX7 j ∈ lw_tbl := (lt_s (lt_s (lt_s (lt_s (lt_s (lt_s (lt_s (lt_s (lt_s (lt_s (lt_s lt_0 (tk1 _ (List.mem_of_getElem? (i := 46) rfl))) (tk1 _ (List.mem_of_getElem? (i := 48) rfl))) (tk1 _ (List.mem_of_getElem? (i := 50) rfl))) (tk1 _ (List.mem_of_getElem? (i := 52) rfl))) (tk1 _ (List.mem_of_getElem? (i := 54) rfl))) (tk1 _ (List.mem_of_getElem? (i := 56) rfl))) (tk1 _ (List.mem_of_getElem? (i := 58) rfl))) (tk1 _ (List.mem_of_getElem? (i := 60) rfl))) (tk1 _ (List.mem_of_getElem? (i := 62) rfl))) (tk1 _ (List.mem_of_getElem? (i := 64) rfl))) (tk1 _ (List.mem_of_getElem? (i := 66) rfl)))
theorem tbX7 : ∀ w ∈ wsX70, w ∈ lw_tbl := fun w h => by
  obtain ⟨j, hj, rfl⟩ := List.mem_map.mp h
  exact tbL7 j (List.mem_range.mp hj)
set_option maxRecDepth 100000 in
theorem tbL8 : ∀ j, j < 13 → u_lay RX8 TX8 j ∈ lw_tbl := (lt_s (lt_s (lt_s (lt_s (lt_s (lt_s (lt_s (lt_s (lt_s (lt_s (lt_s (lt_s (lt_s lt_0 (tk1 _ (List.mem_of_getElem? (i := 109) rfl))) (tk1 _ (List.mem_of_getElem? (i := 111) rfl))) (tk1 _ (List.mem_of_getElem? (i := 113) rfl))) (tk1 _ (List.mem_of_getElem? (i := 115) rfl))) (tk1 _ (List.mem_of_getElem? (i := 117) rfl))) (tk1 _ (List.mem_of_getElem? (i := 119) rfl))) (tk1 _ (List.mem_of_getElem? (i := 121) rfl))) (tk1 _ (List.mem_of_getElem? (i := 123) rfl))) (tk1 _ (List.mem_of_getElem? (i := 125) rfl))) (tk1 _ (List.mem_of_getElem? (i := 127) rfl))) (tk1 _ (List.mem_of_getElem? (i := 129) rfl))) (tk1 _ (List.mem_of_getElem? (i := 131) rfl))) (tk1 _ (List.mem_of_getElem? (i := 133) rfl)))
theorem tbX8 : ∀ w ∈ wsX80, w ∈ lw_tbl := fun w h => by
  obtain ⟨j, hj, rfl⟩ := List.mem_map.mp h
  exact tbL8 j (List.mem_range.mp hj)
set_option maxRecDepth 100000 in
theorem tbL9 : ∀ j, j < 18 → u_lay RX9 TX9 j ∈ lw_tbl := (lt_s (lt_s (lt_s (lt_s (lt_s (lt_s (lt_s (lt_s (lt_s (lt_s (lt_s (lt_s (lt_s (lt_s (lt_s (lt_s (lt_s (lt_s lt_0 (tk2 _ (List.mem_of_getElem? (i := 73) rfl))) (tk2 _ (List.mem_of_getElem? (i := 75) rfl))) (tk2 _ (List.mem_of_getElem? (i := 77) rfl))) (tk2 _ (List.mem_of_getElem? (i := 79) rfl))) (tk2 _ (List.mem_of_getElem? (i := 81) rfl))) (tk2 _ (List.mem_of_getElem? (i := 83) rfl))) (tk2 _ (List.mem_of_getElem? (i := 85) rfl))) (tk2 _ (List.mem_of_getElem? (i := 87) rfl))) (tk2 _ (List.mem_of_getElem? (i := 89) rfl))) (tk2 _ (List.mem_of_getElem? (i := 91) rfl))) (tk2 _ (List.mem_of_getElem? (i := 93) rfl))) (tk2 _ (List.mem_of_getElem? (i := 95) rfl))) (tk2 _ (List.mem_of_getElem? (i := 97) rfl))) (tk2 _ (List.mem_of_getElem? (i := 99) rfl))) (tk2 _ (List.mem_of_getElem? (i := 101) rfl))) (tk2 _ (List.mem_of_getElem? (i := 103) rfl))) (tk2 _ (List.mem_of_getElem? (i := 105) rfl))) (tk2 _ (List.mem_of_getElem? (i := 107) rfl)))
theorem tbX9 : ∀ w ∈ wsX90, w ∈ lw_tbl := fun w h => by
  obtain ⟨j, hj, rfl⟩ := List.mem_map.mp h
  exact tbL9 j (List.mem_range.mp hj)
set_option maxRecDepth 100000 in
theorem tbL10 : ∀ j, j < 7 → u_lay RX10 TX10 j ∈ lw_tbl := (lt_s (lt_s (lt_s (lt_s (lt_s (lt_s (lt_s lt_0 (tk1 _ (List.mem_of_getElem? (i := 153) rfl))) (tk1 _ (List.mem_of_getElem? (i := 155) rfl))) (tk1 _ (List.mem_of_getElem? (i := 157) rfl))) (tk1 _ (List.mem_of_getElem? (i := 159) rfl))) (tk1 _ (List.mem_of_getElem? (i := 161) rfl))) (tk1 _ (List.mem_of_getElem? (i := 163) rfl))) (tk1 _ (List.mem_of_getElem? (i := 165) rfl)))
theorem tbX10 : ∀ w ∈ wsX100, w ∈ lw_tbl := fun w h => by
  obtain ⟨j, hj, rfl⟩ := List.mem_map.mp h
  exact tbL10 j (List.mem_range.mp hj)
set_option maxRecDepth 100000 in
theorem tbL11 : ∀ j, j < 11 → u_lay RX11 TX11 j ∈ lw_tbl := (lt_s (lt_s (lt_s (lt_s (lt_s (lt_s (lt_s (lt_s (lt_s (lt_s (lt_s lt_0 (tk3 _ (List.mem_of_getElem? (i := 36) rfl))) (tk3 _ (List.mem_of_getElem? (i := 38) rfl))) (tk3 _ (List.mem_of_getElem? (i := 40) rfl))) (tk3 _ (List.mem_of_getElem? (i := 42) rfl))) (tk3 _ (List.mem_of_getElem? (i := 44) rfl))) (tk3 _ (List.mem_of_getElem? (i := 46) rfl))) (tk3 _ (List.mem_of_getElem? (i := 48) rfl))) (tk3 _ (List.mem_of_getElem? (i := 50) rfl))) (tk3 _ (List.mem_of_getElem? (i := 52) rfl))) (tk3 _ (List.mem_of_getElem? (i := 54) rfl))) (tk3 _ (List.mem_of_getElem? (i := 56) rfl)))
theorem tbX11 : ∀ w ∈ wsX110, w ∈ lw_tbl := fun w h => by
  obtain ⟨j, hj, rfl⟩ := List.mem_map.mp h
  exact tbL11 j (List.mem_range.mp hj)
theorem tbE0 : ∀ w ∈ (vx_atS RX11 102 g_ISE g_nm).filter goodWord, w ∈ lw_tbl := fun w h => (goodIn_r ((vx_atS RX11 102 g_ISE g_nm).filter goodWord) [40, 595, 604, 609, 612, 614, 596, 597, 54, 55, 598, 603, 610, 630, 585, 631, 587, 632, 589, 599, 601, 591, 626, 627, 629, 591, 792, 793, 794, 620, 620, 621, 622, 623, 623, 624, 625, 626, 791, 782, 784, 608, 785, 786, 787, 788, 594, 593, 789] (by decide +kernel) (by decide +kernel) w h).1
theorem tbE1 : ∀ w ∈ (vx_atS RX11 216 g_ARE g_nm).filter goodWord, w ∈ lw_tbl := fun w h => (goodIn_r ((vx_atS RX11 216 g_ARE g_nm).filter goodWord) [40, 595, 604, 609, 612, 614, 596, 597, 54, 55, 598, 603, 610, 630, 585, 631, 587, 632, 589, 599, 601, 591, 626, 627, 629, 591, 1114, 1115, 1116, 620, 620, 621, 622, 623, 623, 624, 625, 626, 1113, 1104, 1106, 606, 1107, 1108, 1109, 1110, 594, 593, 1111] (by decide +kernel) (by decide +kernel) w h).1
theorem gW_in : ∀ w ∈ gW, w ∈ lw_tbl := List.forall_mem_append.mpr ⟨tb_0, List.forall_mem_append.mpr ⟨tb_1, List.forall_mem_append.mpr ⟨tb_2, List.forall_mem_append.mpr ⟨tb_3, List.forall_mem_append.mpr ⟨tb_4, List.forall_mem_append.mpr ⟨tb_5, List.forall_mem_append.mpr ⟨tb_6, List.forall_mem_append.mpr ⟨tb_7, List.forall_mem_append.mpr ⟨tb_8, List.forall_mem_append.mpr ⟨tb_9, List.forall_mem_append.mpr ⟨tb_10, List.forall_mem_append.mpr ⟨tb_11, List.forall_mem_append.mpr ⟨tb_12, List.forall_mem_append.mpr ⟨tb_13, List.forall_mem_append.mpr ⟨tb_14, List.forall_mem_append.mpr ⟨tb_15, List.forall_mem_append.mpr ⟨tb_16, List.forall_mem_append.mpr ⟨tb_17, List.forall_mem_append.mpr ⟨tb_18, List.forall_mem_append.mpr ⟨tb_19, List.forall_mem_append.mpr ⟨tb_20, List.forall_mem_append.mpr ⟨tb_21, List.forall_mem_append.mpr ⟨tb_22, List.forall_mem_append.mpr ⟨tb_23, List.forall_mem_append.mpr ⟨tb_24, List.forall_mem_append.mpr ⟨tb_25, List.forall_mem_append.mpr ⟨tb_26, List.forall_mem_append.mpr ⟨tbX0, List.forall_mem_append.mpr ⟨tbX1, List.forall_mem_append.mpr ⟨tbX2, List.forall_mem_append.mpr ⟨tbX3, List.forall_mem_append.mpr ⟨tbX4, List.forall_mem_append.mpr ⟨tbX5, List.forall_mem_append.mpr ⟨tbX6, List.forall_mem_append.mpr ⟨tbX7, List.forall_mem_append.mpr ⟨tbX8, List.forall_mem_append.mpr ⟨tbX9, List.forall_mem_append.mpr ⟨tbX10, List.forall_mem_append.mpr ⟨tbX11, List.forall_mem_append.mpr ⟨tbE0, tbE1⟩⟩⟩⟩⟩⟩⟩⟩⟩⟩⟩⟩⟩⟩⟩⟩⟩⟩⟩⟩⟩⟩⟩⟩⟩⟩⟩⟩⟩⟩⟩⟩⟩⟩⟩⟩⟩⟩⟩⟩
end VWd
end
section
/-! The forms of this claim's contracts, and a row for each instruction over one judgement V: 'from here, in any heap that holds the world ws, with the locals lv, the goal is reached'. -/
section VB
abbrev g_T : Type := List (ClassId × FieldType)
abbrev gCl : List vw_C := [(RX0, TX0, 5), (RX1, TX1, 11), (RX2, TX2, 20), (RX3, TX3, 15), (RX4, TX4, 5), (RX5, TX5, 19), (RX6, TX6, 1), (RX7, TX7, 11), (RX8, TX8, 13), (RX9, TX9, 18), (RX10, TX10, 7), (RX11, TX11, 11)]
abbrev g_ty (d : Nat → ClassId) : g_T := [(d 0, .int), (d 1, .byte), (d 2, .boolean), (d 3, .long), (d 4, .array .int)]
abbrev g_S : Type := (Nat → Nat) × (Nat → Nat → Int32) × (Nat → Nat → Value)
def g_wd (y : MethodName) (b : ByteArray) (n : Nat) (r : Option FieldType) : List Cond := Cond.code y b n r :: gW
def g_wh (y : MethodName) (b : ByteArray) (n : Nat) (r : Option FieldType) (hh : List (Nat × Nat × Nat × Nat)) : List Cond := Cond.codeWith y b n r hh :: gW
theorem g_all : gW.all goodWord = true := by decide +kernel
theorem g_good : GoodIn gW gW := fun w h => ⟨h, good_of_word (List.all_eq_true.mp g_all w h)⟩
theorem g_goodC {w0 : Cond} (h0 : w0 ∈ gW) : GoodIn gW (w0 :: gW) := fun w h => (List.mem_cons.mp h).elim (fun e => by rw [e]; exact g_good _ h0) (fun h => g_good w h)
theorem g_goodA {a b : List Cond} (ha : ∀ w ∈ a, w ∈ gW) (hb : GoodIn gW b) : GoodIn gW (a ++ b) := fun w h => (List.mem_append.mp h).elim (fun h => g_good w (ha w h)) (fun h => hb w h)
-- exceptions: what is not among the good words, the texts of the class's own throws
def gB : List Cond := [.declares (Bundle.initS "java/lang/RuntimeException"), .declares (Bundle.initS "java/lang/Exception"), .declares (Bundle.initS "java/lang/Throwable"), .castable g_ISE g_ISE, .castable g_ARE g_ARE, .methodLinkNest RX11 9 yX7_init "GroundProver"]
def gTx : List (Nat × String) := [(100, "the input buffer would be too long"), (110, "the input buffer has not so many bytes"), (126, "arity, weight or name"), (131, "the name is taken, or there are too many symbols"), (156, "the order is fixed"), (171, "no such symbol or rank"), (182, "no such symbol"), (197, "no such symbol or term"), (214, "the term is too large"), (235, "no such term"), (296, "a term is not ground"), (301, "there are too many equations"), (315, "a rule would be too large"), (357, "there are too many levels"), (362, "there is no level"), (381, "the normal form is too large")]
def g_AO (U : State) : Prop := (Cond.arrayOver (.array .int)).before #[] U = true
theorem g_AO.moved {u U : State} (hvm : u.vm.Alike U.vm) (h : g_AO u) : g_AO U := by
  obtain ⟨comp, c, k, h1, h2, h3, h4, h5⟩ := arrayOverA_spec h
  obtain ⟨k', hk', he⟩ := hvm.2.2 _ _ h3
  have e1 := va_idx_bare U.vm comp
  have e2 := va_idx_bare u.vm comp
  have e3 : U.vm.bare = u.vm.bare := by first | exact hvm.bare_eq | exact hvm.bare_eq.symm
  rw [e3] at e1
  have hi := (e1.symm.trans e2).trans h2
  have hkind : k'.kind = .array comp (.array .int) := by rw [he]; exact h4
  have f1 : U.vm.findClass (FieldType.array .int).toString = some comp := by rw [hvm.findClass]; exact h1
  have f2 : U.vm.findClass ("[" ++ (FieldType.array .int).toString) = some c := by rw [hvm.findClass]; exact h5
  unfold g_AO Cond.before Cond.holds
  simp only [Cond.value]
  rw [f1, Option.bind_some]
  refine (congrArg (fun o : Option Nat => (o.bind (fun c => (U.vm.classes[c]?).map fun (k : Class) => match k.kind with | .array _ ty => decide (ty = FieldType.array .int) && decide (U.vm.findClass ("[" ++ (FieldType.array .int).toString) = some c) | _ => false) == some true)) hi).trans ?_
  simp [hk', hkind, f2]
def g_ex (A : Nat → Prop) (U : State) : Prop := vx_Zq Bundle.tN "UNASSIGNED_STACK" Bundle.steD A U U.heap ∧ vx_Zq Bundle.tN "SUPPRESSED_SENTINEL" Bundle.listD A U U.heap ∧ ∀ q ∈ gTx, ∃ sa : Nat, vk_R RX11 q.1 q.2 sa U
theorem gB_warm {s U : State} (hW : s.WarmedH U.vm) (h : ∀ w ∈ gB, va_Nw w s) : ∀ w ∈ gB, va_Nw w U := by
  have h' : ∀ w ∈ gB, (∃ x, w = .declares x) ∨ (∃ a b, w = .castable a b) ∨ ∃ a i x h, w = .methodLinkNest a i x h := by
    intro w hw
    simp only [gB, List.mem_cons, List.not_mem_nil, or_false] at hw
    rcases hw with rfl | rfl | rfl | rfl | rfl | rfl <;> first | exact Or.inl ⟨_, rfl⟩ | exact Or.inr (Or.inl ⟨_, _, rfl⟩) | exact Or.inr (Or.inr ⟨_, _, _, _, rfl⟩)
  intro w hw
  rcases h' w hw with ⟨x, rfl⟩ | ⟨a, b, rfl⟩ | ⟨a, i, x, h0, rfl⟩
  · exact (h _ hw).warmD hW
  · exact (h _ hw).warmC hW
  · exact (h _ hw).warmM hW
theorem gB_same {s U : State} (hv : s.vm = U.vm) (h : ∀ w ∈ gB, va_Nw w s) : ∀ w ∈ gB, va_Nw w U := by
  have h' : ∀ w ∈ gB, w.onTables = true := by decide +kernel
  exact fun w hw => (h w hw).same (h' w hw) hv
theorem g_ex.to {A B : Nat → Prop} {s U : State} {H : Heap} {locs : List Loc} (hS : va_S A s.heap H locs) (hU : U.heap = H) (hW : s.WarmedH U.vm) (hAB : ∀ q, B q → A q) (h : g_ex A s) : g_ex B U := by
  subst hU
  obtain ⟨h1, h2, h4⟩ := h
  exact ⟨((h1.kept hS.2.1).moved hW.alike).narrow hAB, ((h2.kept hS.2.1).moved hW.alike).narrow hAB, fun q hq => (h4 q hq).imp fun sa h => h.warm hW⟩
theorem g_ex.same {A : Nat → Prop} {s U : State} (hU : U.heap = s.heap) (hv : s.vm = U.vm) (h : g_ex A s) : g_ex A U := by
  obtain ⟨h1, h2, h4⟩ := h
  have ha : s.vm.Alike U.vm := by rw [hv]; exact Vm.Alike.refl _
  refine ⟨?_, ?_, fun q hq => (h4 q hq).imp fun sa h => vk_R.same hv.symm h⟩
  · rw [hU]; exact h1.moved ha
  · rw [hU]; exact h2.moved ha
def g_pr (E : Bool) (D : va_G) (d : Nat → ClassId) (W : va_W) (sz : Nat) (U : State) : Prop := U.heap.size = sz ∧ va_P D gCl W U.heap ∧ va_K D gCl (g_ty d) U ∧ va_D (fun _ => True) W ∧ g_AO U ∧ (∀ w ∈ gB, va_Nw w U) ∧ (E = true → g_ex (va_A W sz) U)
def g_po (D : va_G) (A : Nat → Prop) {S : Type} (w1 : S → va_W) : S → State → Prop := fun u t => va_P D gCl (w1 u) t.heap ∧ va_D A (w1 u)
abbrev q_v (D : va_G) {S : Type} (w1 : S → va_W) (A : Nat → Prop) := va_Qv (fun _ : S => True) (g_po D A w1) A
abbrev q_i (D : va_G) (K : Int32) {S : Type} (w1 : S → va_W) (A : Nat → Prop) := va_Qi (fun (r : Int32) (_ : S) => r = K) (g_po D A w1) A
abbrev q_l (D : va_G) (K : Int64) {S : Type} (w1 : S → va_W) (A : Nat → Prop) := va_Ql (fun (r : Int64) (_ : S) => r = K) (g_po D A w1) A
abbrev q_ni (A : Nat → Prop) := va_Qi (fun (_ : Int32) (_ : Unit) => False) (fun _ _ => True) A
abbrev q_nl (A : Nat → Prop) := va_Ql (fun (_ : Int64) (_ : Unit) => False) (fun _ _ => True) A
abbrev g_XC (E : String) (A : Nat → Prop) : String → State → State → Prop := vx_X (fun _ : Unit => True) (fun E' _ _ => E' = E) A
theorem pr_blind {E : Bool} {D : va_G} {d : Nat → ClassId} {W : va_W} {sz : Nat} {av : List Value} : FrameBlind (va_Pc av (g_pr E D d W sz)) := fun a U g mk q => by
  obtain ⟨q0, q1, q2, q3, q4, q5, q7, q6⟩ := q
  exact ⟨q0, q1, q2, va_K.moved (u := U) (U := U.calling g mk a) (Vm.Alike.refl U.vm) q3, q4, q5.moved (u := U) (U := U.calling g mk a) (Vm.Alike.refl U.vm), gB_same (s := U) (U := U.calling g mk a) rfl q7, fun h => (q6 h).same rfl rfl⟩
def V (p : Program) (l : Launch) (e : Env) (R : Room) (s : State) (m : MethodId) (args : Array Value) (below : List Frame) (meth : Method) (c : Code) (Q : State → Prop) (D : va_G) (A : Nat → Prop) (nL : Nat) (ws : va_W) (lv : List (Nat × Value)) (ck sl pc : Nat) (st : List Value) : Prop :=
  ∀ (H : Heap) (locs : List Loc) (ls : Array Slot), va_P D gCl ws H → va_D A ws → va_S A s.heap H locs → lv_has ls nL lv → W p l e R s m args below meth c H locs ck sl Q (F0 m pc ls st)
def VC (p : Program) (s : State) (m : MethodId) (args : Array Value) (c : Code) (D : va_G) (d : Nat → ClassId) (A : Nat → Prop) (cc : ByteArray) (nL : Nat) (own : String) : Prop :=
  p.tables.exec = Jvm.exec ∧ c.code = cc ∧ c.maxLocals = nL ∧ s.vm.findClass own = some m.cls ∧ (∀ w ∈ gW, w.before args s = true) ∧ va_K D gCl (g_ty d) s ∧ (∀ q : Nat, s.heap.size ≤ q → A q) ∧ g_AO s ∧ ∀ w ∈ gB, va_Nw w s
def g_cf (C : String) (T : u_T) (N : Nat) (ty : Nat → FieldType) : Prop := (∀ w ∈ u_ws C T N, w ∈ gW) ∧ (∀ k, k < N → parseFieldDescriptor (T k).2.2.1 = some (ty k)) ∧ ∀ a, a < N → ∀ b, b < N → a ≠ b → (T a).2.1 ≠ (T b).2.1
def g_mf (y : MethodName) (b : ByteArray) (n : Nat) (r : Option FieldType) (k : Nat) : Prop := Cond.code y b n r ∈ gW ∧ Cond.initialized y.cls ∈ gW ∧ (y.cls ≠ "java/lang/invoke/MethodHandle" ∧ y.cls ≠ "java/lang/invoke/VarHandle" ∧ (parseMethodDescriptor y.desc).map (fun d => d.parameters.length) = some k)
def g_mv (y : MethodName) : Prop := Cond.instanceMethod y ∈ gW ∧ Cond.selects y.cls y y ∈ gW
def g_rm (n mc ms : Nat) : Room := { frames := 10 + n, cells := mc, slots := ms, locals := 150 + 50 * n }

theorem fm_of {α β : Type} {f : α → Option β} : ∀ {is : List α} {l : List β}, is.map f = l.map some → is.filterMap f = l
  | [], [], _ => rfl
  | [], _ :: _, h => by simp at h
  | _ :: _, [], h => by simp at h
  | i :: is, x :: l, h => by
    simp only [List.map_cons, List.cons.injEq] at h
    rw [List.filterMap_cons_some h.1, fm_of h.2]
theorem g_AO.use {U : State} {A' : Array Value} (h : g_AO U) : (Cond.arrayOver (.array .int)).before A' U = true := h
variable {p : Program} {l : Launch} {e : Env} {R : Room} {s : State} {m : MethodId} {args : Array Value} {below : List Frame} {meth : Method} {c : Code} {Q : State → Prop} {D : va_G} {d : Nat → ClassId} {A : Nat → Prop} {cc : ByteArray} {nL : Nat} {own : String} {ws : va_W} {lv : List (Nat × Value)} {ck sl pc : Nat} {st : List Value}

theorem v_eq {ws' : va_W} (h : ws = ws') (k : V p l e R s m args below meth c Q D A nL ws' lv ck sl pc st) : V p l e R s m args below meth c Q D A nL ws lv ck sl pc st := h ▸ k
theorem v_sub {ws' : va_W} (is : List Nat) (hn : va_nd is = true) (hs : is.map (fun i => ws[i]?) = ws'.map some) (k : V p l e R s m args below meth c Q D A nL ws' lv ck sl pc st) : V p l e R s m args below meth c Q D A nL ws lv ck sl pc st := fun H locs ls hP hD hS hl => k H locs ls (hP.sub is (fm_of hs)) (hD.sub is hn hs) hS hl
theorem v_wide {k n : Nat} (h1 : ck ≤ k) (h2 : sl ≤ n) (kk : V p l e R s m args below meth c Q D A nL ws lv k n pc st) : V p l e R s m args below meth c Q D A nL ws lv ck sl pc st := fun H locs ls hP hD hS hl => W.widen h1 h2 (kk H locs ls hP hD hS hl)
theorem v_iconst (C : VC p s m args c D d A cc nL own) {n : Int} {v : Int32} (dg : decode cc pc = .ok (.iconst n, 1)) (hv : Int32.ofInt n = v) (k : V p l e R s m args below meth c Q D A nL ws lv ck sl (pc + 1) (.int v :: st)) : V p l e R s m args below meth c Q D A nL ws lv ck sl pc st := fun H locs ls hP hD hS hl => lv_iconst C.1 C.2.1 dg hv (k H locs ls hP hD hS hl)
theorem v_bipush (C : VC p s m args c D d A cc nL own) {n : Int} {v : Int32} (dg : decode cc pc = .ok (.bipush n, 2)) (hv : (Int8.ofInt n).toInt32 = v) (k : V p l e R s m args below meth c Q D A nL ws lv ck sl (pc + 2) (.int v :: st)) : V p l e R s m args below meth c Q D A nL ws lv ck sl pc st := fun H locs ls hP hD hS hl => lv_bipush C.1 C.2.1 dg hv (k H locs ls hP hD hS hl)
theorem v_sipush (C : VC p s m args c D d A cc nL own) {n : Int} {v : Int32} (dg : decode cc pc = .ok (.sipush n, 3)) (hv : (Int16.ofInt n).toInt32 = v) (k : V p l e R s m args below meth c Q D A nL ws lv ck sl (pc + 3) (.int v :: st)) : V p l e R s m args below meth c Q D A nL ws lv ck sl pc st := fun H locs ls hP hD hS hl => lv_sipush C.1 C.2.1 dg hv (k H locs ls hP hD hS hl)
theorem v_lconst (C : VC p s m args c D d A cc nL own) {n : Fin 2} {v : Int64} (dg : decode cc pc = .ok (.lconst n, 1)) (hv : Int64.ofNat (n : Nat) = v) (k : V p l e R s m args below meth c Q D A nL ws lv ck sl (pc + 1) (.long v :: st)) : V p l e R s m args below meth c Q D A nL ws lv ck sl pc st := fun H locs ls hP hD hS hl => lv_lconst C.1 C.2.1 dg hv (k H locs ls hP hD hS hl)
theorem v_ldc (C : VC p s m args c D d A cc nL own) {i : Nat} {v : Int32} (dg : decode cc pc = .ok (.ldc i, 2)) (hc : Cond.constant own i v ∈ gW) (k : V p l e R s m args below meth c Q D A nL ws lv ck sl (pc + 2) (.int v :: st)) : V p l e R s m args below meth c Q D A nL ws lv ck sl pc st := fun H locs ls hP hD hS hl => lv_ldc C.1 C.2.1 C.2.2.2.1 (C.2.2.2.2.1 _ hc) dg (k H locs ls hP hD hS hl)
theorem v_ldc2 (C : VC p s m args c D d A cc nL own) {i : Nat} {v : Int64} (dg : decode cc pc = .ok (.ldc2_w i, 3)) (hc : Cond.constantLong own i v ∈ gW) (k : V p l e R s m args below meth c Q D A nL ws lv ck sl (pc + 3) (.long v :: st)) : V p l e R s m args below meth c Q D A nL ws lv ck sl pc st := fun H locs ls hP hD hS hl => lv_ldc2 C.1 C.2.1 C.2.2.2.1 (C.2.2.2.2.1 _ hc) dg (k H locs ls hP hD hS hl)
theorem v_iload_n (C : VC p s m args c D d A cc nL own) {j : Fin 4} {i : Nat} {x : Int32} (dg : decode cc pc = .ok (.iload_n j, 1)) (hi : (j : Nat) = i) (q : Nat) (hq : lv[q]? = some (i, .int x)) (k : V p l e R s m args below meth c Q D A nL ws lv ck sl (pc + 1) (.int x :: st)) : V p l e R s m args below meth c Q D A nL ws lv ck sl pc st := fun H locs ls hP hD hS hl => lv_iload_n C.1 C.2.1 dg hi (lv_at hl q hq) (k H locs ls hP hD hS hl)
theorem v_iload (C : VC p s m args c D d A cc nL own) {i : Nat} {x : Int32} (dg : decode cc pc = .ok (.iload i, 2)) (q : Nat) (hq : lv[q]? = some (i, .int x)) (k : V p l e R s m args below meth c Q D A nL ws lv ck sl (pc + 2) (.int x :: st)) : V p l e R s m args below meth c Q D A nL ws lv ck sl pc st := fun H locs ls hP hD hS hl => lv_iload C.1 C.2.1 dg (lv_at hl q hq) (k H locs ls hP hD hS hl)
theorem v_aload_n (C : VC p s m args c D d A cc nL own) {j : Fin 4} {i : Nat} {x : Nat} (dg : decode cc pc = .ok (.aload_n j, 1)) (hi : (j : Nat) = i) (q : Nat) (hq : lv[q]? = some (i, .ref x)) (k : V p l e R s m args below meth c Q D A nL ws lv ck sl (pc + 1) (.ref x :: st)) : V p l e R s m args below meth c Q D A nL ws lv ck sl pc st := fun H locs ls hP hD hS hl => lv_aload_n C.1 C.2.1 dg hi (lv_at hl q hq) (k H locs ls hP hD hS hl)
theorem v_aload (C : VC p s m args c D d A cc nL own) {i : Nat} {x : Nat} (dg : decode cc pc = .ok (.aload i, 2)) (q : Nat) (hq : lv[q]? = some (i, .ref x)) (k : V p l e R s m args below meth c Q D A nL ws lv ck sl (pc + 2) (.ref x :: st)) : V p l e R s m args below meth c Q D A nL ws lv ck sl pc st := fun H locs ls hP hD hS hl => lv_aload C.1 C.2.1 dg (lv_at hl q hq) (k H locs ls hP hD hS hl)
theorem v_lload_n (C : VC p s m args c D d A cc nL own) {j : Fin 4} {i : Nat} {x : Int64} (dg : decode cc pc = .ok (.lload_n j, 1)) (hi : (j : Nat) = i) (q : Nat) (hq : lv[q]? = some (i, .long x)) (k : V p l e R s m args below meth c Q D A nL ws lv ck sl (pc + 1) (.long x :: st)) : V p l e R s m args below meth c Q D A nL ws lv ck sl pc st := fun H locs ls hP hD hS hl => lv_lload_n C.1 C.2.1 dg hi (lv_at hl q hq) (k H locs ls hP hD hS hl)
theorem v_lload (C : VC p s m args c D d A cc nL own) {i : Nat} {x : Int64} (dg : decode cc pc = .ok (.lload i, 2)) (q : Nat) (hq : lv[q]? = some (i, .long x)) (k : V p l e R s m args below meth c Q D A nL ws lv ck sl (pc + 2) (.long x :: st)) : V p l e R s m args below meth c Q D A nL ws lv ck sl pc st := fun H locs ls hP hD hS hl => lv_lload C.1 C.2.1 dg (lv_at hl q hq) (k H locs ls hP hD hS hl)
theorem v_istore_n (C : VC p s m args c D d A cc nL own) {j : Fin 4} {i : Nat} {x : Int32} (dg : decode cc pc = .ok (.istore_n j, 1)) (hi : (j : Nat) = i) (hn : i < nL) (lv' : List (Nat × Value)) (he : (i, Value.int x) :: lv.filter (fun q => !(q.1 == i) && !(q.1 + 1 == i && q.2.category == 2)) = lv') (k : V p l e R s m args below meth c Q D A nL ws lv' ck sl (pc + 1) st) : V p l e R s m args below meth c Q D A nL ws lv ck sl pc (.int x :: st) := fun H locs ls hP hD hS hl => lv_istore_n C.1 C.2.1 dg hi hl hn he (fun ls' hl' => k H locs ls' hP hD hS hl')
theorem v_istore (C : VC p s m args c D d A cc nL own) {i : Nat} {x : Int32} (dg : decode cc pc = .ok (.istore i, 2)) (hn : i < nL) (lv' : List (Nat × Value)) (he : (i, Value.int x) :: lv.filter (fun q => !(q.1 == i) && !(q.1 + 1 == i && q.2.category == 2)) = lv') (k : V p l e R s m args below meth c Q D A nL ws lv' ck sl (pc + 2) st) : V p l e R s m args below meth c Q D A nL ws lv ck sl pc (.int x :: st) := fun H locs ls hP hD hS hl => lv_istore C.1 C.2.1 dg hl hn he (fun ls' hl' => k H locs ls' hP hD hS hl')
theorem v_astore_n (C : VC p s m args c D d A cc nL own) {j : Fin 4} {i : Nat} {x : Nat} (dg : decode cc pc = .ok (.astore_n j, 1)) (hi : (j : Nat) = i) (hn : i < nL) (lv' : List (Nat × Value)) (he : (i, Value.ref x) :: lv.filter (fun q => !(q.1 == i) && !(q.1 + 1 == i && q.2.category == 2)) = lv') (k : V p l e R s m args below meth c Q D A nL ws lv' ck sl (pc + 1) st) : V p l e R s m args below meth c Q D A nL ws lv ck sl pc (.ref x :: st) := fun H locs ls hP hD hS hl => lv_astore_n C.1 C.2.1 dg hi hl hn he (fun ls' hl' => k H locs ls' hP hD hS hl')
theorem v_astore (C : VC p s m args c D d A cc nL own) {i : Nat} {x : Nat} (dg : decode cc pc = .ok (.astore i, 2)) (hn : i < nL) (lv' : List (Nat × Value)) (he : (i, Value.ref x) :: lv.filter (fun q => !(q.1 == i) && !(q.1 + 1 == i && q.2.category == 2)) = lv') (k : V p l e R s m args below meth c Q D A nL ws lv' ck sl (pc + 2) st) : V p l e R s m args below meth c Q D A nL ws lv ck sl pc (.ref x :: st) := fun H locs ls hP hD hS hl => lv_astore C.1 C.2.1 dg hl hn he (fun ls' hl' => k H locs ls' hP hD hS hl')
theorem v_lstore_n (C : VC p s m args c D d A cc nL own) {j : Fin 4} {i : Nat} {x : Int64} (dg : decode cc pc = .ok (.lstore_n j, 1)) (hi : (j : Nat) = i) (hn : i + 1 < nL) (lv' : List (Nat × Value)) (he : (i, Value.long x) :: lv.filter (fun q => !(q.1 == i) && (!(q.1 == i + 1) && !(q.1 + 1 == i && q.2.category == 2))) = lv') (k : V p l e R s m args below meth c Q D A nL ws lv' ck sl (pc + 1) st) : V p l e R s m args below meth c Q D A nL ws lv ck sl pc (.long x :: st) := fun H locs ls hP hD hS hl => lv_lstore_n C.1 C.2.1 dg hi hl hn he (fun ls' hl' => k H locs ls' hP hD hS hl')
theorem v_lstore (C : VC p s m args c D d A cc nL own) {i : Nat} {x : Int64} (dg : decode cc pc = .ok (.lstore i, 2)) (hn : i + 1 < nL) (lv' : List (Nat × Value)) (he : (i, Value.long x) :: lv.filter (fun q => !(q.1 == i) && (!(q.1 == i + 1) && !(q.1 + 1 == i && q.2.category == 2))) = lv') (k : V p l e R s m args below meth c Q D A nL ws lv' ck sl (pc + 2) st) : V p l e R s m args below meth c Q D A nL ws lv ck sl pc (.long x :: st) := fun H locs ls hP hD hS hl => lv_lstore C.1 C.2.1 dg hl hn he (fun ls' hl' => k H locs ls' hP hD hS hl')
theorem v_iinc (C : VC p s m args c D d A cc nL own) {i : Nat} {n : Int} {x : Int32} (v : Int32) (dg : decode cc pc = .ok (.iinc i n, 3)) (q : Nat) (hq : lv[q]? = some (i, .int x)) (hv : x + Int32.ofInt n = v) (hn : i < nL) (lv' : List (Nat × Value)) (he : (i, Value.int v) :: lv.filter (fun q => !(q.1 == i) && !(q.1 + 1 == i && q.2.category == 2)) = lv') (k : V p l e R s m args below meth c Q D A nL ws lv' ck sl (pc + 3) st) : V p l e R s m args below meth c Q D A nL ws lv ck sl pc st := fun H locs ls hP hD hS hl => lv_iinc C.1 C.2.1 dg hl (k := q) hq hv hn he (fun ls' hl' => k H locs ls' hP hD hS hl')
theorem v_iadd (C : VC p s m args c D d A cc nL own) {x y : Int32} (v : Int32) (dg : decode cc pc = .ok (.iadd, 1)) (hv : x + y = v) (k : V p l e R s m args below meth c Q D A nL ws lv ck sl (pc + 1) (.int v :: st)) : V p l e R s m args below meth c Q D A nL ws lv ck sl pc (.int y :: .int x :: st) := fun H locs ls hP hD hS hl => by subst hv; exact lv_iadd C.1 C.2.1 dg (k H locs ls hP hD hS hl)
theorem v_iadd_s (C : VC p s m args c D d A cc nL own) {x y : Int32} (dg : decode cc pc = .ok (.iadd, 1)) (k : ∀ v : Int32, V p l e R s m args below meth c Q D A nL ws lv ck sl (pc + 1) (.int v :: st)) : V p l e R s m args below meth c Q D A nL ws lv ck sl pc (.int y :: .int x :: st) := v_iadd C _ dg rfl (k _)
theorem v_isub (C : VC p s m args c D d A cc nL own) {x y : Int32} (v : Int32) (dg : decode cc pc = .ok (.isub, 1)) (hv : x - y = v) (k : V p l e R s m args below meth c Q D A nL ws lv ck sl (pc + 1) (.int v :: st)) : V p l e R s m args below meth c Q D A nL ws lv ck sl pc (.int y :: .int x :: st) := fun H locs ls hP hD hS hl => by subst hv; exact lv_isub C.1 C.2.1 dg (k H locs ls hP hD hS hl)
theorem v_isub_s (C : VC p s m args c D d A cc nL own) {x y : Int32} (dg : decode cc pc = .ok (.isub, 1)) (k : ∀ v : Int32, V p l e R s m args below meth c Q D A nL ws lv ck sl (pc + 1) (.int v :: st)) : V p l e R s m args below meth c Q D A nL ws lv ck sl pc (.int y :: .int x :: st) := v_isub C _ dg rfl (k _)
theorem v_imul (C : VC p s m args c D d A cc nL own) {x y : Int32} (v : Int32) (dg : decode cc pc = .ok (.imul, 1)) (hv : x * y = v) (k : V p l e R s m args below meth c Q D A nL ws lv ck sl (pc + 1) (.int v :: st)) : V p l e R s m args below meth c Q D A nL ws lv ck sl pc (.int y :: .int x :: st) := fun H locs ls hP hD hS hl => by subst hv; exact lv_imul C.1 C.2.1 dg (k H locs ls hP hD hS hl)
theorem v_imul_s (C : VC p s m args c D d A cc nL own) {x y : Int32} (dg : decode cc pc = .ok (.imul, 1)) (k : ∀ v : Int32, V p l e R s m args below meth c Q D A nL ws lv ck sl (pc + 1) (.int v :: st)) : V p l e R s m args below meth c Q D A nL ws lv ck sl pc (.int y :: .int x :: st) := v_imul C _ dg rfl (k _)
theorem v_iand (C : VC p s m args c D d A cc nL own) {x y : Int32} (v : Int32) (dg : decode cc pc = .ok (.iand, 1)) (hv : x &&& y = v) (k : V p l e R s m args below meth c Q D A nL ws lv ck sl (pc + 1) (.int v :: st)) : V p l e R s m args below meth c Q D A nL ws lv ck sl pc (.int y :: .int x :: st) := fun H locs ls hP hD hS hl => by subst hv; exact lv_iand C.1 C.2.1 dg (k H locs ls hP hD hS hl)
theorem v_iand_s (C : VC p s m args c D d A cc nL own) {x y : Int32} (dg : decode cc pc = .ok (.iand, 1)) (k : ∀ v : Int32, V p l e R s m args below meth c Q D A nL ws lv ck sl (pc + 1) (.int v :: st)) : V p l e R s m args below meth c Q D A nL ws lv ck sl pc (.int y :: .int x :: st) := v_iand C _ dg rfl (k _)
theorem v_ior (C : VC p s m args c D d A cc nL own) {x y : Int32} (v : Int32) (dg : decode cc pc = .ok (.ior, 1)) (hv : x ||| y = v) (k : V p l e R s m args below meth c Q D A nL ws lv ck sl (pc + 1) (.int v :: st)) : V p l e R s m args below meth c Q D A nL ws lv ck sl pc (.int y :: .int x :: st) := fun H locs ls hP hD hS hl => by subst hv; exact lv_ior C.1 C.2.1 dg (k H locs ls hP hD hS hl)
theorem v_ior_s (C : VC p s m args c D d A cc nL own) {x y : Int32} (dg : decode cc pc = .ok (.ior, 1)) (k : ∀ v : Int32, V p l e R s m args below meth c Q D A nL ws lv ck sl (pc + 1) (.int v :: st)) : V p l e R s m args below meth c Q D A nL ws lv ck sl pc (.int y :: .int x :: st) := v_ior C _ dg rfl (k _)
theorem v_ishr (C : VC p s m args c D d A cc nL own) {x y : Int32} (v : Int32) (dg : decode cc pc = .ok (.ishr, 1)) (hv : x >>> (y &&& 31) = v) (k : V p l e R s m args below meth c Q D A nL ws lv ck sl (pc + 1) (.int v :: st)) : V p l e R s m args below meth c Q D A nL ws lv ck sl pc (.int y :: .int x :: st) := fun H locs ls hP hD hS hl => by subst hv; exact lv_ishr C.1 C.2.1 dg (k H locs ls hP hD hS hl)
theorem v_ishr_s (C : VC p s m args c D d A cc nL own) {x y : Int32} (dg : decode cc pc = .ok (.ishr, 1)) (k : ∀ v : Int32, V p l e R s m args below meth c Q D A nL ws lv ck sl (pc + 1) (.int v :: st)) : V p l e R s m args below meth c Q D A nL ws lv ck sl pc (.int y :: .int x :: st) := v_ishr C _ dg rfl (k _)
theorem v_ladd (C : VC p s m args c D d A cc nL own) {x y : Int64} (v : Int64) (dg : decode cc pc = .ok (.ladd, 1)) (hv : x + y = v) (k : V p l e R s m args below meth c Q D A nL ws lv ck sl (pc + 1) (.long v :: st)) : V p l e R s m args below meth c Q D A nL ws lv ck sl pc (.long y :: .long x :: st) := fun H locs ls hP hD hS hl => by subst hv; exact lv_ladd C.1 C.2.1 dg (k H locs ls hP hD hS hl)
theorem v_lmul (C : VC p s m args c D d A cc nL own) {x y : Int64} (v : Int64) (dg : decode cc pc = .ok (.lmul, 1)) (hv : x * y = v) (k : V p l e R s m args below meth c Q D A nL ws lv ck sl (pc + 1) (.long v :: st)) : V p l e R s m args below meth c Q D A nL ws lv ck sl pc (.long y :: .long x :: st) := fun H locs ls hP hD hS hl => by subst hv; exact lv_lmul C.1 C.2.1 dg (k H locs ls hP hD hS hl)
theorem v_i2l (C : VC p s m args c D d A cc nL own) {x : Int32} (v : Int64) (dg : decode cc pc = .ok (.i2l, 1)) (hv : x.toInt64 = v) (k : V p l e R s m args below meth c Q D A nL ws lv ck sl (pc + 1) (.long v :: st)) : V p l e R s m args below meth c Q D A nL ws lv ck sl pc (.int x :: st) := fun H locs ls hP hD hS hl => lv_i2l C.1 C.2.1 dg hv (k H locs ls hP hD hS hl)
theorem v_i2b_s (C : VC p s m args c D d A cc nL own) {x : Int32} (dg : decode cc pc = .ok (.i2b, 1)) (k : ∀ v : Int32, V p l e R s m args below meth c Q D A nL ws lv ck sl (pc + 1) (.int v :: st)) : V p l e R s m args below meth c Q D A nL ws lv ck sl pc (.int x :: st) := fun H locs ls hP hD hS hl => lv_i2b C.1 C.2.1 dg rfl (k _ H locs ls hP hD hS hl)
theorem v_lcmp (C : VC p s m args c D d A cc nL own) {x y : Int64} (v : Int32) (dg : decode cc pc = .ok (.lcmp, 1)) (hv : lg_cmp x y = v) (k : V p l e R s m args below meth c Q D A nL ws lv ck sl (pc + 1) (.int v :: st)) : V p l e R s m args below meth c Q D A nL ws lv ck sl pc (.long y :: .long x :: st) := fun H locs ls hP hD hS hl => by subst hv; exact W.lcmp C.1 C.2.1 dg (k H locs ls hP hD hS hl)
theorem v_dup (C : VC p s m args c D d A cc nL own) {va : Value} (dg : decode cc pc = .ok (.dup, 1)) (hva : va.category = 1) (k : V p l e R s m args below meth c Q D A nL ws lv ck sl (pc + 1) (va :: va :: st)) : V p l e R s m args below meth c Q D A nL ws lv ck sl pc (va :: st) := fun H locs ls hP hD hS hl => lv_dup C.1 C.2.1 dg hva (k H locs ls hP hD hS hl)
theorem v_pop (C : VC p s m args c D d A cc nL own) {va : Value} (dg : decode cc pc = .ok (.pop, 1)) (hva : va.category = 1) (k : V p l e R s m args below meth c Q D A nL ws lv ck sl (pc + 1) st) : V p l e R s m args below meth c Q D A nL ws lv ck sl pc (va :: st) := fun H locs ls hP hD hS hl => lv_pop C.1 C.2.1 dg hva (k H locs ls hP hD hS hl)
theorem v_goto (C : VC p s m args c D d A cc nL own) {off : Int} (tgt : Nat) (dg : decode cc pc = .ok (.goto off, 3)) (ht : (pc : Int) + off = (tgt : Int)) (k : V p l e R s m args below meth c Q D A nL ws lv ck sl tgt st) : V p l e R s m args below meth c Q D A nL ws lv ck sl pc st := fun H locs ls hP hD hS hl => lv_goto C.1 C.2.1 dg ht (k H locs ls hP hD hS hl)
theorem v_icmp_eq_c (C : VC p s m args c D d A cc nL own) {x y : Int32} {off : Int} (tgt : Nat) (dg : decode cc pc = .ok (.if_icmp .eq off, 3)) (ht : (pc : Int) + off = (tgt : Int)) (kt : x = y → V p l e R s m args below meth c Q D A nL ws lv ck sl tgt st) (kf : ¬ (x = y) → V p l e R s m args below meth c Q D A nL ws lv ck sl (pc + 3) st) : V p l e R s m args below meth c Q D A nL ws lv ck sl pc (.int y :: .int x :: st) := fun H locs ls hP hD hS hl => lv_icmp_eq C.1 C.2.1 dg ht (fun h => kt h H locs ls hP hD hS hl) (fun h => kf h H locs ls hP hD hS hl)
theorem v_icmp_eq_t (C : VC p s m args c D d A cc nL own) {x y : Int32} {off : Int} (tgt : Nat) (dg : decode cc pc = .ok (.if_icmp .eq off, 3)) (ht : (pc : Int) + off = (tgt : Int)) (h : x = y) (kt : V p l e R s m args below meth c Q D A nL ws lv ck sl tgt st) : V p l e R s m args below meth c Q D A nL ws lv ck sl pc (.int y :: .int x :: st) := v_icmp_eq_c C tgt dg ht (fun _ => kt) (fun h9 => absurd h h9)
theorem v_icmp_eq_f (C : VC p s m args c D d A cc nL own) {x y : Int32} {off : Int} (tgt : Nat) (dg : decode cc pc = .ok (.if_icmp .eq off, 3)) (ht : (pc : Int) + off = (tgt : Int)) (h : ¬ (x = y)) (kf : V p l e R s m args below meth c Q D A nL ws lv ck sl (pc + 3) st) : V p l e R s m args below meth c Q D A nL ws lv ck sl pc (.int y :: .int x :: st) := v_icmp_eq_c C tgt dg ht (fun h9 => absurd h9 h) (fun _ => kf)
theorem v_if_eq_c (C : VC p s m args c D d A cc nL own) {x : Int32} {off : Int} (tgt : Nat) (dg : decode cc pc = .ok (.ifCond .eq off, 3)) (ht : (pc : Int) + off = (tgt : Int)) (kt : x = 0 → V p l e R s m args below meth c Q D A nL ws lv ck sl tgt st) (kf : ¬ (x = 0) → V p l e R s m args below meth c Q D A nL ws lv ck sl (pc + 3) st) : V p l e R s m args below meth c Q D A nL ws lv ck sl pc (.int x :: st) := fun H locs ls hP hD hS hl => lv_if_eq C.1 C.2.1 dg ht (fun h => kt h H locs ls hP hD hS hl) (fun h => kf h H locs ls hP hD hS hl)
theorem v_if_eq_t (C : VC p s m args c D d A cc nL own) {x : Int32} {off : Int} (tgt : Nat) (dg : decode cc pc = .ok (.ifCond .eq off, 3)) (ht : (pc : Int) + off = (tgt : Int)) (h : x = 0) (kt : V p l e R s m args below meth c Q D A nL ws lv ck sl tgt st) : V p l e R s m args below meth c Q D A nL ws lv ck sl pc (.int x :: st) := v_if_eq_c C tgt dg ht (fun _ => kt) (fun h9 => absurd h h9)
theorem v_if_eq_f (C : VC p s m args c D d A cc nL own) {x : Int32} {off : Int} (tgt : Nat) (dg : decode cc pc = .ok (.ifCond .eq off, 3)) (ht : (pc : Int) + off = (tgt : Int)) (h : ¬ (x = 0)) (kf : V p l e R s m args below meth c Q D A nL ws lv ck sl (pc + 3) st) : V p l e R s m args below meth c Q D A nL ws lv ck sl pc (.int x :: st) := v_if_eq_c C tgt dg ht (fun h9 => absurd h9 h) (fun _ => kf)
theorem v_icmp_ne_c (C : VC p s m args c D d A cc nL own) {x y : Int32} {off : Int} (tgt : Nat) (dg : decode cc pc = .ok (.if_icmp .ne off, 3)) (ht : (pc : Int) + off = (tgt : Int)) (kt : ¬ x = y → V p l e R s m args below meth c Q D A nL ws lv ck sl tgt st) (kf : ¬ (¬ x = y) → V p l e R s m args below meth c Q D A nL ws lv ck sl (pc + 3) st) : V p l e R s m args below meth c Q D A nL ws lv ck sl pc (.int y :: .int x :: st) := fun H locs ls hP hD hS hl => lv_icmp_ne C.1 C.2.1 dg ht (fun h => kt h H locs ls hP hD hS hl) (fun h => kf (fun n => n h) H locs ls hP hD hS hl)
theorem v_icmp_ne_t (C : VC p s m args c D d A cc nL own) {x y : Int32} {off : Int} (tgt : Nat) (dg : decode cc pc = .ok (.if_icmp .ne off, 3)) (ht : (pc : Int) + off = (tgt : Int)) (h : ¬ x = y) (kt : V p l e R s m args below meth c Q D A nL ws lv ck sl tgt st) : V p l e R s m args below meth c Q D A nL ws lv ck sl pc (.int y :: .int x :: st) := v_icmp_ne_c C tgt dg ht (fun _ => kt) (fun h9 => absurd h h9)
theorem v_icmp_ne_f (C : VC p s m args c D d A cc nL own) {x y : Int32} {off : Int} (tgt : Nat) (dg : decode cc pc = .ok (.if_icmp .ne off, 3)) (ht : (pc : Int) + off = (tgt : Int)) (h : ¬ (¬ x = y)) (kf : V p l e R s m args below meth c Q D A nL ws lv ck sl (pc + 3) st) : V p l e R s m args below meth c Q D A nL ws lv ck sl pc (.int y :: .int x :: st) := v_icmp_ne_c C tgt dg ht (fun h9 => absurd h9 h) (fun _ => kf)
theorem v_if_ne_c (C : VC p s m args c D d A cc nL own) {x : Int32} {off : Int} (tgt : Nat) (dg : decode cc pc = .ok (.ifCond .ne off, 3)) (ht : (pc : Int) + off = (tgt : Int)) (kt : ¬ x = 0 → V p l e R s m args below meth c Q D A nL ws lv ck sl tgt st) (kf : ¬ (¬ x = 0) → V p l e R s m args below meth c Q D A nL ws lv ck sl (pc + 3) st) : V p l e R s m args below meth c Q D A nL ws lv ck sl pc (.int x :: st) := fun H locs ls hP hD hS hl => lv_if_ne C.1 C.2.1 dg ht (fun h => kt h H locs ls hP hD hS hl) (fun h => kf (fun n => n h) H locs ls hP hD hS hl)
theorem v_if_ne_t (C : VC p s m args c D d A cc nL own) {x : Int32} {off : Int} (tgt : Nat) (dg : decode cc pc = .ok (.ifCond .ne off, 3)) (ht : (pc : Int) + off = (tgt : Int)) (h : ¬ x = 0) (kt : V p l e R s m args below meth c Q D A nL ws lv ck sl tgt st) : V p l e R s m args below meth c Q D A nL ws lv ck sl pc (.int x :: st) := v_if_ne_c C tgt dg ht (fun _ => kt) (fun h9 => absurd h h9)
theorem v_if_ne_f (C : VC p s m args c D d A cc nL own) {x : Int32} {off : Int} (tgt : Nat) (dg : decode cc pc = .ok (.ifCond .ne off, 3)) (ht : (pc : Int) + off = (tgt : Int)) (h : ¬ (¬ x = 0)) (kf : V p l e R s m args below meth c Q D A nL ws lv ck sl (pc + 3) st) : V p l e R s m args below meth c Q D A nL ws lv ck sl pc (.int x :: st) := v_if_ne_c C tgt dg ht (fun h9 => absurd h9 h) (fun _ => kf)
theorem v_icmp_lt_c (C : VC p s m args c D d A cc nL own) {x y : Int32} {off : Int} (tgt : Nat) (dg : decode cc pc = .ok (.if_icmp .lt off, 3)) (ht : (pc : Int) + off = (tgt : Int)) (kt : x < y → V p l e R s m args below meth c Q D A nL ws lv ck sl tgt st) (kf : ¬ (x < y) → V p l e R s m args below meth c Q D A nL ws lv ck sl (pc + 3) st) : V p l e R s m args below meth c Q D A nL ws lv ck sl pc (.int y :: .int x :: st) := fun H locs ls hP hD hS hl => lv_icmp_lt C.1 C.2.1 dg ht (fun h => kt h H locs ls hP hD hS hl) (fun h => kf h H locs ls hP hD hS hl)
theorem v_icmp_lt_t (C : VC p s m args c D d A cc nL own) {x y : Int32} {off : Int} (tgt : Nat) (dg : decode cc pc = .ok (.if_icmp .lt off, 3)) (ht : (pc : Int) + off = (tgt : Int)) (h : x < y) (kt : V p l e R s m args below meth c Q D A nL ws lv ck sl tgt st) : V p l e R s m args below meth c Q D A nL ws lv ck sl pc (.int y :: .int x :: st) := v_icmp_lt_c C tgt dg ht (fun _ => kt) (fun h9 => absurd h h9)
theorem v_icmp_lt_f (C : VC p s m args c D d A cc nL own) {x y : Int32} {off : Int} (tgt : Nat) (dg : decode cc pc = .ok (.if_icmp .lt off, 3)) (ht : (pc : Int) + off = (tgt : Int)) (h : ¬ (x < y)) (kf : V p l e R s m args below meth c Q D A nL ws lv ck sl (pc + 3) st) : V p l e R s m args below meth c Q D A nL ws lv ck sl pc (.int y :: .int x :: st) := v_icmp_lt_c C tgt dg ht (fun h9 => absurd h9 h) (fun _ => kf)
theorem v_if_lt_c (C : VC p s m args c D d A cc nL own) {x : Int32} {off : Int} (tgt : Nat) (dg : decode cc pc = .ok (.ifCond .lt off, 3)) (ht : (pc : Int) + off = (tgt : Int)) (kt : x < 0 → V p l e R s m args below meth c Q D A nL ws lv ck sl tgt st) (kf : ¬ (x < 0) → V p l e R s m args below meth c Q D A nL ws lv ck sl (pc + 3) st) : V p l e R s m args below meth c Q D A nL ws lv ck sl pc (.int x :: st) := fun H locs ls hP hD hS hl => lv_if_lt C.1 C.2.1 dg ht (fun h => kt h H locs ls hP hD hS hl) (fun h => kf h H locs ls hP hD hS hl)
theorem v_if_lt_t (C : VC p s m args c D d A cc nL own) {x : Int32} {off : Int} (tgt : Nat) (dg : decode cc pc = .ok (.ifCond .lt off, 3)) (ht : (pc : Int) + off = (tgt : Int)) (h : x < 0) (kt : V p l e R s m args below meth c Q D A nL ws lv ck sl tgt st) : V p l e R s m args below meth c Q D A nL ws lv ck sl pc (.int x :: st) := v_if_lt_c C tgt dg ht (fun _ => kt) (fun h9 => absurd h h9)
theorem v_if_lt_f (C : VC p s m args c D d A cc nL own) {x : Int32} {off : Int} (tgt : Nat) (dg : decode cc pc = .ok (.ifCond .lt off, 3)) (ht : (pc : Int) + off = (tgt : Int)) (h : ¬ (x < 0)) (kf : V p l e R s m args below meth c Q D A nL ws lv ck sl (pc + 3) st) : V p l e R s m args below meth c Q D A nL ws lv ck sl pc (.int x :: st) := v_if_lt_c C tgt dg ht (fun h9 => absurd h9 h) (fun _ => kf)
theorem v_icmp_ge_c (C : VC p s m args c D d A cc nL own) {x y : Int32} {off : Int} (tgt : Nat) (dg : decode cc pc = .ok (.if_icmp .ge off, 3)) (ht : (pc : Int) + off = (tgt : Int)) (kt : y ≤ x → V p l e R s m args below meth c Q D A nL ws lv ck sl tgt st) (kf : ¬ (y ≤ x) → V p l e R s m args below meth c Q D A nL ws lv ck sl (pc + 3) st) : V p l e R s m args below meth c Q D A nL ws lv ck sl pc (.int y :: .int x :: st) := fun H locs ls hP hD hS hl => lv_icmp_ge C.1 C.2.1 dg ht (fun h => kt h H locs ls hP hD hS hl) (fun h => kf h H locs ls hP hD hS hl)
theorem v_icmp_ge_t (C : VC p s m args c D d A cc nL own) {x y : Int32} {off : Int} (tgt : Nat) (dg : decode cc pc = .ok (.if_icmp .ge off, 3)) (ht : (pc : Int) + off = (tgt : Int)) (h : y ≤ x) (kt : V p l e R s m args below meth c Q D A nL ws lv ck sl tgt st) : V p l e R s m args below meth c Q D A nL ws lv ck sl pc (.int y :: .int x :: st) := v_icmp_ge_c C tgt dg ht (fun _ => kt) (fun h9 => absurd h h9)
theorem v_icmp_ge_f (C : VC p s m args c D d A cc nL own) {x y : Int32} {off : Int} (tgt : Nat) (dg : decode cc pc = .ok (.if_icmp .ge off, 3)) (ht : (pc : Int) + off = (tgt : Int)) (h : ¬ (y ≤ x)) (kf : V p l e R s m args below meth c Q D A nL ws lv ck sl (pc + 3) st) : V p l e R s m args below meth c Q D A nL ws lv ck sl pc (.int y :: .int x :: st) := v_icmp_ge_c C tgt dg ht (fun h9 => absurd h9 h) (fun _ => kf)
theorem v_if_ge_c (C : VC p s m args c D d A cc nL own) {x : Int32} {off : Int} (tgt : Nat) (dg : decode cc pc = .ok (.ifCond .ge off, 3)) (ht : (pc : Int) + off = (tgt : Int)) (kt : 0 ≤ x → V p l e R s m args below meth c Q D A nL ws lv ck sl tgt st) (kf : ¬ (0 ≤ x) → V p l e R s m args below meth c Q D A nL ws lv ck sl (pc + 3) st) : V p l e R s m args below meth c Q D A nL ws lv ck sl pc (.int x :: st) := fun H locs ls hP hD hS hl => lv_if_ge C.1 C.2.1 dg ht (fun h => kt h H locs ls hP hD hS hl) (fun h => kf h H locs ls hP hD hS hl)
theorem v_if_ge_t (C : VC p s m args c D d A cc nL own) {x : Int32} {off : Int} (tgt : Nat) (dg : decode cc pc = .ok (.ifCond .ge off, 3)) (ht : (pc : Int) + off = (tgt : Int)) (h : 0 ≤ x) (kt : V p l e R s m args below meth c Q D A nL ws lv ck sl tgt st) : V p l e R s m args below meth c Q D A nL ws lv ck sl pc (.int x :: st) := v_if_ge_c C tgt dg ht (fun _ => kt) (fun h9 => absurd h h9)
theorem v_if_ge_f (C : VC p s m args c D d A cc nL own) {x : Int32} {off : Int} (tgt : Nat) (dg : decode cc pc = .ok (.ifCond .ge off, 3)) (ht : (pc : Int) + off = (tgt : Int)) (h : ¬ (0 ≤ x)) (kf : V p l e R s m args below meth c Q D A nL ws lv ck sl (pc + 3) st) : V p l e R s m args below meth c Q D A nL ws lv ck sl pc (.int x :: st) := v_if_ge_c C tgt dg ht (fun h9 => absurd h9 h) (fun _ => kf)
theorem v_icmp_gt_c (C : VC p s m args c D d A cc nL own) {x y : Int32} {off : Int} (tgt : Nat) (dg : decode cc pc = .ok (.if_icmp .gt off, 3)) (ht : (pc : Int) + off = (tgt : Int)) (kt : y < x → V p l e R s m args below meth c Q D A nL ws lv ck sl tgt st) (kf : ¬ (y < x) → V p l e R s m args below meth c Q D A nL ws lv ck sl (pc + 3) st) : V p l e R s m args below meth c Q D A nL ws lv ck sl pc (.int y :: .int x :: st) := fun H locs ls hP hD hS hl => lv_icmp_gt C.1 C.2.1 dg ht (fun h => kt h H locs ls hP hD hS hl) (fun h => kf h H locs ls hP hD hS hl)
theorem v_icmp_gt_t (C : VC p s m args c D d A cc nL own) {x y : Int32} {off : Int} (tgt : Nat) (dg : decode cc pc = .ok (.if_icmp .gt off, 3)) (ht : (pc : Int) + off = (tgt : Int)) (h : y < x) (kt : V p l e R s m args below meth c Q D A nL ws lv ck sl tgt st) : V p l e R s m args below meth c Q D A nL ws lv ck sl pc (.int y :: .int x :: st) := v_icmp_gt_c C tgt dg ht (fun _ => kt) (fun h9 => absurd h h9)
theorem v_icmp_gt_f (C : VC p s m args c D d A cc nL own) {x y : Int32} {off : Int} (tgt : Nat) (dg : decode cc pc = .ok (.if_icmp .gt off, 3)) (ht : (pc : Int) + off = (tgt : Int)) (h : ¬ (y < x)) (kf : V p l e R s m args below meth c Q D A nL ws lv ck sl (pc + 3) st) : V p l e R s m args below meth c Q D A nL ws lv ck sl pc (.int y :: .int x :: st) := v_icmp_gt_c C tgt dg ht (fun h9 => absurd h9 h) (fun _ => kf)
theorem v_if_gt_c (C : VC p s m args c D d A cc nL own) {x : Int32} {off : Int} (tgt : Nat) (dg : decode cc pc = .ok (.ifCond .gt off, 3)) (ht : (pc : Int) + off = (tgt : Int)) (kt : 0 < x → V p l e R s m args below meth c Q D A nL ws lv ck sl tgt st) (kf : ¬ (0 < x) → V p l e R s m args below meth c Q D A nL ws lv ck sl (pc + 3) st) : V p l e R s m args below meth c Q D A nL ws lv ck sl pc (.int x :: st) := fun H locs ls hP hD hS hl => lv_if_gt C.1 C.2.1 dg ht (fun h => kt h H locs ls hP hD hS hl) (fun h => kf h H locs ls hP hD hS hl)
theorem v_if_gt_t (C : VC p s m args c D d A cc nL own) {x : Int32} {off : Int} (tgt : Nat) (dg : decode cc pc = .ok (.ifCond .gt off, 3)) (ht : (pc : Int) + off = (tgt : Int)) (h : 0 < x) (kt : V p l e R s m args below meth c Q D A nL ws lv ck sl tgt st) : V p l e R s m args below meth c Q D A nL ws lv ck sl pc (.int x :: st) := v_if_gt_c C tgt dg ht (fun _ => kt) (fun h9 => absurd h h9)
theorem v_if_gt_f (C : VC p s m args c D d A cc nL own) {x : Int32} {off : Int} (tgt : Nat) (dg : decode cc pc = .ok (.ifCond .gt off, 3)) (ht : (pc : Int) + off = (tgt : Int)) (h : ¬ (0 < x)) (kf : V p l e R s m args below meth c Q D A nL ws lv ck sl (pc + 3) st) : V p l e R s m args below meth c Q D A nL ws lv ck sl pc (.int x :: st) := v_if_gt_c C tgt dg ht (fun h9 => absurd h9 h) (fun _ => kf)
theorem v_icmp_le_c (C : VC p s m args c D d A cc nL own) {x y : Int32} {off : Int} (tgt : Nat) (dg : decode cc pc = .ok (.if_icmp .le off, 3)) (ht : (pc : Int) + off = (tgt : Int)) (kt : x ≤ y → V p l e R s m args below meth c Q D A nL ws lv ck sl tgt st) (kf : ¬ (x ≤ y) → V p l e R s m args below meth c Q D A nL ws lv ck sl (pc + 3) st) : V p l e R s m args below meth c Q D A nL ws lv ck sl pc (.int y :: .int x :: st) := fun H locs ls hP hD hS hl => lv_icmp_le C.1 C.2.1 dg ht (fun h => kt h H locs ls hP hD hS hl) (fun h => kf h H locs ls hP hD hS hl)
theorem v_icmp_le_t (C : VC p s m args c D d A cc nL own) {x y : Int32} {off : Int} (tgt : Nat) (dg : decode cc pc = .ok (.if_icmp .le off, 3)) (ht : (pc : Int) + off = (tgt : Int)) (h : x ≤ y) (kt : V p l e R s m args below meth c Q D A nL ws lv ck sl tgt st) : V p l e R s m args below meth c Q D A nL ws lv ck sl pc (.int y :: .int x :: st) := v_icmp_le_c C tgt dg ht (fun _ => kt) (fun h9 => absurd h h9)
theorem v_icmp_le_f (C : VC p s m args c D d A cc nL own) {x y : Int32} {off : Int} (tgt : Nat) (dg : decode cc pc = .ok (.if_icmp .le off, 3)) (ht : (pc : Int) + off = (tgt : Int)) (h : ¬ (x ≤ y)) (kf : V p l e R s m args below meth c Q D A nL ws lv ck sl (pc + 3) st) : V p l e R s m args below meth c Q D A nL ws lv ck sl pc (.int y :: .int x :: st) := v_icmp_le_c C tgt dg ht (fun h9 => absurd h9 h) (fun _ => kf)
theorem v_if_le_c (C : VC p s m args c D d A cc nL own) {x : Int32} {off : Int} (tgt : Nat) (dg : decode cc pc = .ok (.ifCond .le off, 3)) (ht : (pc : Int) + off = (tgt : Int)) (kt : x ≤ 0 → V p l e R s m args below meth c Q D A nL ws lv ck sl tgt st) (kf : ¬ (x ≤ 0) → V p l e R s m args below meth c Q D A nL ws lv ck sl (pc + 3) st) : V p l e R s m args below meth c Q D A nL ws lv ck sl pc (.int x :: st) := fun H locs ls hP hD hS hl => lv_if_le C.1 C.2.1 dg ht (fun h => kt h H locs ls hP hD hS hl) (fun h => kf h H locs ls hP hD hS hl)
theorem v_if_le_t (C : VC p s m args c D d A cc nL own) {x : Int32} {off : Int} (tgt : Nat) (dg : decode cc pc = .ok (.ifCond .le off, 3)) (ht : (pc : Int) + off = (tgt : Int)) (h : x ≤ 0) (kt : V p l e R s m args below meth c Q D A nL ws lv ck sl tgt st) : V p l e R s m args below meth c Q D A nL ws lv ck sl pc (.int x :: st) := v_if_le_c C tgt dg ht (fun _ => kt) (fun h9 => absurd h h9)
theorem v_if_le_f (C : VC p s m args c D d A cc nL own) {x : Int32} {off : Int} (tgt : Nat) (dg : decode cc pc = .ok (.ifCond .le off, 3)) (ht : (pc : Int) + off = (tgt : Int)) (h : ¬ (x ≤ 0)) (kf : V p l e R s m args below meth c Q D A nL ws lv ck sl (pc + 3) st) : V p l e R s m args below meth c Q D A nL ws lv ck sl pc (.int x :: st) := v_if_le_c C tgt dg ht (fun h9 => absurd h9 h) (fun _ => kf)
theorem v_tableIn (C : VC p s m args c D d A cc nL own) {dflt lo hi : Int} {offs : Array Int} {len : Nat} {x : Int32} {off : Int} (tgt : Nat) (dg : decode cc pc = .ok (.tableswitch dflt lo hi offs, len)) (h1 : ¬ x.toInt < lo) (h2 : ¬ hi < x.toInt) (ho : offs[(x.toInt - lo).toNat]? = some off) (ht : (pc : Int) + off = (tgt : Int)) (k : V p l e R s m args below meth c Q D A nL ws lv ck sl tgt st) : V p l e R s m args below meth c Q D A nL ws lv ck sl pc (.int x :: st) := fun H locs ls hP hD hS hl => lv_tableIn C.1 C.2.1 dg h1 h2 ho ht (k H locs ls hP hD hS hl)
theorem v_tableOut (C : VC p s m args c D d A cc nL own) {dflt lo hi : Int} {offs : Array Int} {len : Nat} {x : Int32} (tgt : Nat) (dg : decode cc pc = .ok (.tableswitch dflt lo hi offs, len)) (h : x.toInt < lo ∨ hi < x.toInt) (ht : (pc : Int) + dflt = (tgt : Int)) (k : V p l e R s m args below meth c Q D A nL ws lv ck sl tgt st) : V p l e R s m args below meth c Q D A nL ws lv ck sl pc (.int x :: st) := fun H locs ls hP hD hS hl => lv_tableOut C.1 C.2.1 dg h ht (k H locs ls hP hD hS hl)
theorem v_get (C : VC p s m args c D d A cc nL own) {Cn : String} {T : u_T} {N ci index a : Nat} {ty : Nat → FieldType} (F : g_cf Cn T N ty) (q0 : Nat) {fs : List Value} (he : ws[q0]? = some (a, .inr (ci, fs))) (hc : gCl[ci]? = some (Cn, T, N)) (j : Nat) (hj : j < N) (hlink : Cond.fieldLink own index (T j).1 (T j).2.1 (T j).2.2.1 ∈ gW) {v : Value} (hv : fs[j]? = some v) (dg : decode cc pc = .ok (.getfield index, 3)) (k : V p l e R s m args below meth c Q D A nL ws lv ck sl (pc + 3) (v :: st)) : V p l e R s m args below meth c Q D A nL ws lv ck sl pc (.ref a :: st) := fun H locs ls hP hD hS hl => va_get (cl := gCl) C.1 C.2.1 C.2.2.2.2.1 F.1 C.2.2.2.1 C.2.2.2.2.2.1 hP q0 he hc j hj (C.2.2.2.2.1 _ hlink) (fun _ h => h) hv dg (k H locs ls hP hD hS hl)
theorem v_put (C : VC p s m args c D d A cc nL own) {Cn : String} {T : u_T} {N ci index a : Nat} {ty : Nat → FieldType} (F : g_cf Cn T N ty) (q0 : Nat) {fs : List Value} (he : ws[q0]? = some (a, .inr (ci, fs))) (hc : gCl[ci]? = some (Cn, T, N)) (j : Nat) (hj : j < N) (hlink : Cond.fieldLink own index (T j).1 (T j).2.1 (T j).2.2.1 ∈ gW) (hfin : (T j).2.2.2 = false) {v : Value} (hn : narrow (ty j) v = v) (hfit : fits (ty j) v = true) (hl0 : j < fs.length) (ws' : va_W) (hw : ws.set q0 (a, .inr (ci, fs.set j v)) = ws') (dg : decode cc pc = .ok (.putfield index, 3)) (k : V p l e R s m args below meth c Q D A nL ws' lv ck sl (pc + 3) st) : V p l e R s m args below meth c Q D A nL ws lv ck sl pc (v :: .ref a :: st) := fun H locs ls hP hD hS hl => va_put (cl := gCl) C.1 C.2.1 C.2.2.2.2.1 F.1 ty F.2.1 F.2.2 C.2.2.2.1 C.2.2.2.2.2.1 hP hD hS q0 he hc j hj (C.2.2.2.2.1 _ hlink) (fun _ h => h) hfin (F.2.1 j hj) hn hfit hl0 dg (fun H1 locs1 hP1 hD1 hS1 => k H1 locs1 ls (hw ▸ hP1) (hw ▸ hD1) hS1 hl)
theorem v_putF (C : VC p s m args c D d A cc nL own) (hin : meth.name = "<init>") {Cn : String} {T : u_T} {N ci index a : Nat} {ty : Nat → FieldType} (F : g_cf Cn T N ty) (q0 : Nat) {fs : List Value} (he : ws[q0]? = some (a, .inr (ci, fs))) (hc : gCl[ci]? = some (Cn, T, N)) (j : Nat) (hj : j < N) (hlink : Cond.fieldLink own index (T j).1 (T j).2.1 (T j).2.2.1 ∈ gW) (hfin : (T j).2.2.2 = true) {v : Value} (hn : narrow (ty j) v = v) (hfit : fits (ty j) v = true) (hdecl : (T j).1 = own) (hl0 : j < fs.length) (ws' : va_W) (hw : ws.set q0 (a, .inr (ci, fs.set j v)) = ws') (dg : decode cc pc = .ok (.putfield index, 3)) (k : V p l e R s m args below meth c Q D A nL ws' lv ck sl (pc + 3) st) : V p l e R s m args below meth c Q D A nL ws lv ck sl pc (v :: .ref a :: st) := fun H locs ls hP hD hS hl => va_putF (cl := gCl) C.1 C.2.1 C.2.2.2.2.1 F.1 ty F.2.1 F.2.2 C.2.2.2.1 C.2.2.2.2.2.1 hP hD hS q0 he hc j hj (C.2.2.2.2.1 _ hlink) (fun _ h => h) hfin hin hdecl (F.2.1 j hj) hn hfit hl0 dg (fun H1 locs1 hP1 hD1 hS1 => k H1 locs1 ls (hw ▸ hP1) (hw ▸ hD1) hS1 hl)
theorem v_new (C : VC p s m args c D d A cc nL own) {Cn : String} {T : u_T} {N ci index : Nat} {ty : Nat → FieldType} (F : g_cf Cn T N ty) (hc : gCl[ci]? = some (Cn, T, N)) (fs : List Value) (hfs : ∀ j, j < N → defaultValue (ty j) = vp_V fs j) (hcl : Cond.classLink own index Cn ∈ gW) (hinst : Cond.instantiable Cn N ∈ gW) (hini : Cond.initialized Cn ∈ gW) (hcells : ck + 1 ≤ R.cells) (hslots : sl + N ≤ R.slots) (ws' : Nat → va_W) (hw : ∀ q, ws ++ [(q, .inr (ci, fs))] = ws' q) (dg : decode cc pc = .ok (.new index, 3)) (k : ∀ q : Nat, V p l e R s m args below meth c Q D A nL (ws' q) lv (ck + 1) (sl + N) (pc + 3) (.ref q :: st)) : V p l e R s m args below meth c Q D A nL ws lv ck sl pc st := fun H locs ls hP hD hS hl => va_new (cl := gCl) C.1 C.2.1 C.2.2.2.2.1 F.1 ty F.2.1 C.2.2.2.1 (C.2.2.2.2.1 _ hcl) (C.2.2.2.2.1 _ hinst) (C.2.2.2.2.1 _ hini) C.2.2.2.2.2.1 hP hD hS C.2.2.2.2.2.2.1 hc hfs hcells hslots dg (fun q H1 hP1 hD1 hS1 => k q H1 locs ls (hw q ▸ hP1) (hw q ▸ hD1) hS1 hl)
theorem v_newa (C : VC p s m args c D d A cc nL own) {atype : ArrayType} (t0 : Nat) {ty : FieldType} (hty : newarray.typeOf atype = ty) (ht : (g_ty d)[t0]? = some (d t0, ty)) (harr : Cond.arrayClass ty ∈ gW) {x : Int32} (N' : Nat) (a0 : vp_A) (ha : ∀ cA : ClassId, vp_cell cA a0 = arrV cA N' (fun _ => defaultValue ty)) (hn : ¬ x < 0) (hN : x.toNatClampNeg = N') (hbytes : N' * componentBytes ty ≤ 536870912) (hcells : ck + 1 ≤ R.cells) (hslots : sl + N' ≤ R.slots) (ws' : Nat → va_W) (hw : ∀ q, ws ++ [(q, .inl (d t0, a0))] = ws' q) (dg : decode cc pc = .ok (.newarray atype, 2)) (k : ∀ q : Nat, V p l e R s m args below meth c Q D A nL (ws' q) lv (ck + 1) (sl + N') (pc + 2) (.ref q :: st)) : V p l e R s m args below meth c Q D A nL ws lv ck sl pc (.int x :: st) := fun H locs ls hP hD hS hl => by
  refine va_newa (cl := gCl) C.1 C.2.1 (by rw [hty]; exact C.2.2.2.2.1 _ harr) hty C.2.2.2.2.2.1 hP hD hS C.2.2.2.2.2.2.1 ha hn hN hbytes hcells hslots dg (fun q cA H1 hK1 hP1 hD1 hS1 => ?_)
  have h1 := (hK1.2 (g_ty d).length (cA, ty) (by simp)).2
  have h2 := (C.2.2.2.2.2.1.2 t0 _ ht).2
  have hA : cA = d t0 := by
    subst hty
    cases atype <;> exact Option.some.inj (h1.symm.trans h2)
  subst hA
  exact k q H1 locs ls (hw q ▸ hP1) (hw q ▸ hD1) hS1 hl
theorem va_P_left {D : va_G} {cl : List vw_C} {a b : va_W} {H : Heap} (h : va_P D cl (a ++ b) H) : va_P D cl a H := fun i x hx => h i x (by rw [List.getElem?_append_left (List.getElem?_eq_some_iff.mp hx).1]; exact hx)
theorem va_D_left {A : Nat → Prop} {a b : va_W} (h : va_D A (a ++ b)) : va_D A a := ⟨fun i j p q hp hq => h.1 i j p q (by rw [List.getElem?_append_left (List.getElem?_eq_some_iff.mp hp).1]; exact hp) (by rw [List.getElem?_append_left (List.getElem?_eq_some_iff.mp hq).1]; exact hq), fun i x hx => h.2 i x (by rw [List.getElem?_append_left (List.getElem?_eq_some_iff.mp hx).1]; exact hx)⟩
theorem v_newaD (C : VC p s m args c D d A cc nL own) {atype : ArrayType} (t0 : Nat) {ty : FieldType} (hty : newarray.typeOf atype = ty) (ht : (g_ty d)[t0]? = some (d t0, ty)) (harr : Cond.arrayClass ty ∈ gW) {x : Int32} (N' : Nat) (a0 : vp_A) (ha : ∀ cA : ClassId, vp_cell cA a0 = arrV cA N' (fun _ => defaultValue ty)) (hn : ¬ x < 0) (hN : x.toNatClampNeg = N') (hbytes : N' * componentBytes ty ≤ 536870912) (hcells : ck + 1 ≤ R.cells) (hslots : sl + N' ≤ R.slots) (dg : decode cc pc = .ok (.newarray atype, 2)) (k : ∀ q : Nat, V p l e R s m args below meth c Q D A nL ws lv (ck + 1) (sl + N') (pc + 2) (.ref q :: st)) : V p l e R s m args below meth c Q D A nL ws lv ck sl pc (.int x :: st) := v_newa C t0 hty ht harr N' a0 ha hn hN hbytes hcells hslots (fun q => ws ++ [(q, .inl (d t0, a0))]) (fun _ => rfl) dg (fun q H locs ls hP hD hS hl => k q H locs ls (va_P_left hP) (va_D_left hD) hS hl)
theorem v_anewI (C : VC p s m args c D d A cc nL own) {x : Int32} {index : Nat} (N' : Nat) (hlink : Cond.classLink own index "[I" ∈ gW) (hn : ¬ x < 0) (hN : x.toNatClampNeg = N') (hbytes : N' * 4 ≤ 536870912) (hcells : ck + 1 ≤ R.cells) (hslots : sl + N' ≤ R.slots) (dg : decode cc pc = .ok (.anewarray index, 3)) (k : ∀ q : Nat, V p l e R s m args below meth c Q D A nL ws lv (ck + 1) (sl + N') (pc + 3) (.ref q :: st)) : V p l e R s m args below meth c Q D A nL ws lv ck sl pc (.int x :: st) := fun H locs ls hP hD hS hl => by
  subst hN
  refine W.anewA (t := .int) C.1 C.2.1 C.2.2.2.1 (C.2.2.2.2.1 _ hlink) (g_AO.use C.2.2.2.2.2.2.2.1) rfl dg rfl hn hbytes hcells hslots (fun cA kA comp _ _ _ _ => ?_)
  generalize hH1 : H.push ({ cls := cA, slots := Array.replicate x.toNatClampNeg .null, vm := .none } : Cell) = H1
  have z1 : H1.size = H.size + 1 := by rw [← hH1, Array.size_push]
  have o1 : ∀ q : Nat, q < H.size → H1[q]? = H[q]? := fun q hq => by rw [← hH1, Array.getElem?_push, if_neg (Nat.ne_of_lt hq)]
  have hk : ∀ (k : Nat) (x : Nat × va_E), ws[k]? = some x → H1[x.1]? = H[x.1]? := fun k x hx => o1 x.1 ((hP k x hx).lt)
  exact k H.size H1 locs ls (hP.kept hk) hD ⟨Nat.le_trans hS.1 (by omega), fun x h1 h2 => (o1 x (Nat.lt_of_lt_of_le h1 hS.1)).trans (hS.2.1 x h1 h2), hS.2.2⟩ hl
theorem v_objInit (C : VC p s m args c D d A cc nL own) {a idx : Nat} (hlink : Cond.methodLink own idx Lib.objectInit ∈ gW) (hinst : Cond.instanceMethod Lib.objectInit ∈ gW) (hcode : Cond.code Lib.objectInit ⟨#[0xb1]⟩ 1 none ∈ gW) (dg : decode cc pc = .ok (.invokespecial idx, 3)) (hfr : 1 ≤ R.frames) (hlo : 2 * 0 + (st.map fun v => v.category).sum + 12 ≤ R.locals) (k : V p l e R s m args below meth c Q D A nL ws lv ck sl (pc + 3) st) : V p l e R s m args below meth c Q D A nL ws lv ck sl pc (.ref a :: st) := fun H locs ls hP hD hS hl => W.objInit C.1 C.2.1 C.2.2.2.1 (C.2.2.2.2.1 _ hlink) (C.2.2.2.2.1 _ hinst) (C.2.2.2.2.1 _ hcode) rfl (hl.1.trans C.2.2.1.symm) rfl dg hfr hlo (k H locs ls hP hD hS hl)
theorem v_mmax (C : VC p s m args c D d A cc nL own) {index : Nat} {x y : Int32} (v : Int32) (hlink : Cond.methodLink own index Lib.Math.max.name ∈ gW) (hstat : Cond.static Lib.Math.max.name ∈ gW) (hini : Cond.initialized "java/lang/Math" ∈ gW) (hcode : Cond.code Lib.Math.max.name Lib.Math.max.code 2 (some .int) ∈ gW) (hfr : 1 ≤ R.frames) (hlo : (st.map fun v => v.category).sum + 13 ≤ R.locals) (h1 : ck ≤ R.cells) (h2 : sl ≤ R.slots) (dg : decode cc pc = .ok (.invokestatic index, 3)) (hv : (if x < y then y else x) = v) (k : V p l e R s m args below meth c Q D A nL ws lv ck sl (pc + 3) (.int v :: st)) : V p l e R s m args below meth c Q D A nL ws lv ck sl pc (.int y :: .int x :: st) := fun H locs ls hP hD hS hl => by
  subst hv
  exact va_mmax C.1 C.2.1 (C.2.2.1.trans hl.1.symm) C.2.2.2.1 (C.2.2.2.2.1 _ hlink) (C.2.2.2.2.1 _ hstat) (C.2.2.2.2.1 _ hini) (C.2.2.2.2.1 _ hcode) hfr hlo h1 h2 dg (k H locs ls hP hD hS hl)
theorem v_alen (C : VC p s m args c D d A cc nL own) {a : Nat} (q0 t0 : Nat) {cA : ClassId} {x : vp_A} (ha : ws[q0]? = some (a, .inl (cA, x))) {ty : FieldType} (ht : (g_ty d)[t0]? = some (cA, ty)) (v : Int32) (hv : Int32.ofNat x.1 = v) (dg : decode cc pc = .ok (.arraylength, 1)) (k : V p l e R s m args below meth c Q D A nL ws lv ck sl (pc + 1) (.int v :: st)) : V p l e R s m args below meth c Q D A nL ws lv ck sl pc (.ref a :: st) := fun H locs ls hP hD hS hl => va_alen (cl := gCl) C.1 C.2.1 C.2.2.2.2.2.1 hP q0 t0 ha ht hv dg (k H locs ls hP hD hS hl)
theorem v_iast (C : VC p s m args c D d A cc nL own) {a : Nat} (q0 t0 : Nat) {cA : ClassId} {n : Nat} {f : Nat → Int32} (ha : ws[q0]? = some (a, .inl (cA, n, .inl f))) (ht : (g_ty d)[t0]? = some (cA, .int)) {i x : Int32} (hin : vp_in i n) (ws' : (Nat → Int32) → va_W) (hw : ∀ g, ws.set q0 (a, .inl (cA, n, .inl g)) = ws' g) (dg : decode cc pc = .ok (.iastore, 1)) (k : ∀ g : Nat → Int32, V p l e R s m args below meth c Q D A nL (ws' g) lv ck sl (pc + 1) st) : V p l e R s m args below meth c Q D A nL ws lv ck sl pc (.int x :: .int i :: .ref a :: st) := fun H locs ls hP hD hS hl => va_iast (cl := gCl) C.1 C.2.1 C.2.2.2.2.2.1 hP hD hS q0 t0 ha ht hin dg (fun H1 locs1 hP1 hD1 hS1 => k _ H1 locs1 ls (hw _ ▸ hP1) (hw _ ▸ hD1) hS1 hl)
theorem v_bast (C : VC p s m args c D d A cc nL own) {a : Nat} (q0 t0 : Nat) {cA : ClassId} {n : Nat} {f : Nat → Int32} (ha : ws[q0]? = some (a, .inl (cA, n, .inl f))) (ht : (g_ty d)[t0]? = some (cA, .byte)) {i x : Int32} (hin : vp_in i n) (ws' : (Nat → Int32) → va_W) (hw : ∀ g, ws.set q0 (a, .inl (cA, n, .inl g)) = ws' g) (dg : decode cc pc = .ok (.bastore, 1)) (k : ∀ g : Nat → Int32, V p l e R s m args below meth c Q D A nL (ws' g) lv ck sl (pc + 1) st) : V p l e R s m args below meth c Q D A nL ws lv ck sl pc (.int x :: .int i :: .ref a :: st) := fun H locs ls hP hD hS hl => va_bast (cl := gCl) C.1 C.2.1 C.2.2.2.2.2.1 hP hD hS q0 t0 ha ht hin dg (fun H1 locs1 hP1 hD1 hS1 => k _ H1 locs1 ls (hw _ ▸ hP1) (hw _ ▸ hD1) hS1 hl)
theorem v_last (C : VC p s m args c D d A cc nL own) {a : Nat} (q0 t0 : Nat) {cA : ClassId} {n : Nat} {f : Nat → Int64} (ha : ws[q0]? = some (a, .inl (cA, n, .inr (.inl f)))) (ht : (g_ty d)[t0]? = some (cA, .long)) {i : Int32} {x : Int64} (hin : vp_in i n) (ws' : va_W) (hw : ws.set q0 (a, .inl (cA, n, .inr (.inl (vp_updL f i.toNatClampNeg x)))) = ws') (dg : decode cc pc = .ok (.lastore, 1)) (k : V p l e R s m args below meth c Q D A nL ws' lv ck sl (pc + 1) st) : V p l e R s m args below meth c Q D A nL ws lv ck sl pc (.long x :: .int i :: .ref a :: st) := fun H locs ls hP hD hS hl => va_last (cl := gCl) C.1 C.2.1 C.2.2.2.2.2.1 hP hD hS q0 t0 ha ht hin dg (fun H1 locs1 hP1 hD1 hS1 => k H1 locs1 ls (hw ▸ hP1) (hw ▸ hD1) hS1 hl)
theorem v_lald (C : VC p s m args c D d A cc nL own) {a : Nat} (q0 t0 : Nat) {cA : ClassId} {n : Nat} {f : Nat → Int64} (ha : ws[q0]? = some (a, .inl (cA, n, .inr (.inl f)))) (ht : (g_ty d)[t0]? = some (cA, .long)) {i : Int32} (v : Int64) (hin : vp_in i n) (hv : f i.toNatClampNeg = v) (dg : decode cc pc = .ok (.laload, 1)) (k : V p l e R s m args below meth c Q D A nL ws lv ck sl (pc + 1) (.long v :: st)) : V p l e R s m args below meth c Q D A nL ws lv ck sl pc (.int i :: .ref a :: st) := fun H locs ls hP hD hS hl => by
  subst hv
  exact va_lald (cl := gCl) C.1 C.2.1 C.2.2.2.2.2.1 hP q0 t0 ha ht hin dg (k H locs ls hP hD hS hl)
theorem v_sld (C : VC p s m args c D d A cc nL own) {b L : Nat} {xs : Nat → Int32} (hX : va_X b L xs s s.heap) (hbl : b < s.heap.size) (hbA : ¬ A b) {i : Int32} (v : Int32) (hin : vp_in i L) (hv : xs i.toNatClampNeg = v) (dg : decode cc pc = .ok (.iaload, 1)) (k : V p l e R s m args below meth c Q D A nL ws lv ck sl (pc + 1) (.int v :: st)) : V p l e R s m args below meth c Q D A nL ws lv ck sl pc (.int i :: .ref b :: st) := fun H locs ls hP hD hS hl => by
  subst hv
  exact va_sld C.1 C.2.1 hX hbl hbA hS hin dg (k H locs ls hP hD hS hl)
theorem v_slen (C : VC p s m args c D d A cc nL own) {b L : Nat} {xs : Nat → Int32} (hX : va_X b L xs s s.heap) (hbl : b < s.heap.size) (hbA : ¬ A b) (dg : decode cc pc = .ok (.arraylength, 1)) (k : V p l e R s m args below meth c Q D A nL ws lv ck sl (pc + 1) (.int (Int32.ofNat L) :: st)) : V p l e R s m args below meth c Q D A nL ws lv ck sl pc (.ref b :: st) := fun H locs ls hP hD hS hl => va_slen C.1 C.2.1 hX hbl hbA hS dg (k H locs ls hP hD hS hl)
theorem v_callVv (C : VC p s m args c D d A cc nL own) {y : MethodName} {bb : ByteArray} {nY nA index : Nat} {ret : Option FieldType} {rm : Room} {mc ms : Nat} (F : g_mf y bb nY ret nA) (G : g_mv y) (hlink : Cond.methodLink own index y ∈ gW) {b : Nat} {S : Type} {w1 : S → va_W} {E : Bool} {wc wr : va_W} {As rest : List Value} (hM : ∀ sz, Met l y (g_wd y bb nY ret) rm (va_Pc (.ref b :: As) (g_pr E D d wc sz)) (q_v D w1 (va_A wc sz)) mc ms (va_A wc sz)) (hE : E = true → g_ex A s) (q0 : Nat) {ci : Nat} {T : u_T} {N : Nat} {fs : List Value} (he : ws[q0]? = some (b, .inr (ci, fs))) (hci : gCl[ci]? = some (y.cls, T, N)) (isC isR : List Nat) (hC : isC.map (fun i => ws[i]?) = wc.map some) (hR : isR.map (fun i => ws[i]?) = wr.map some) (hnC : va_nd isC = true) (hnR : va_nd isR = true) (hdis : ∀ i ∈ isR, i ∉ isC) (hrm : rm.cells = mc ∧ rm.slots = ms) (hfl : rm.frames + 1 ≤ R.frames ∧ 8 + (nY + 11) + rm.locals ≤ R.locals) (hcap : ck + mc ≤ R.cells ∧ sl + ms ≤ R.slots) (hrest : (rest.map fun v => v.category).sum ≤ 8) {st0 : List Value} (hst : st0 = As.reverse ++ .ref b :: rest) (hlen : As.length = nA) (ws' : S → va_W) (hw : ∀ u, wr ++ w1 u = ws' u) (dg : decode cc pc = .ok (.invokevirtual index, 3)) (k : ∀ u : S, V p l e R s m args below meth c Q D A nL (ws' u) lv (ck + mc) (sl + ms) (pc + 3) rest) : V p l e R s m args below meth c Q D A nL ws lv ck sl pc st0 := fun H locs ls hP hD hS hl => by
  have cw : CallW R s args own y.cls index y bb nY ret (g_wd y bb nY ret) rm mc ms nA := ⟨callB_of nA C.2.2.2.2.1 (g_goodC F.1) rfl hrm.1 hrm.2 (C.2.2.2.2.1 _ F.2.1) (C.2.2.2.2.1 _ hlink) F.2.2 hfl, C.2.2.2.2.1 _ G.1, C.2.2.2.2.1 _ G.2⟩
  refine va_callv (va_runV (Ts := gW) ⟨C.1, C.2.1, C.2.2.1, C.2.2.2.1, C.2.2.2.2.1⟩ (hM H.size) cw ⟨pr_blind, va_recv C.2.2.2.2.2.1 hP hci he, fun U hU hW => ⟨rfl, by rw [hU], by rw [hU]; exact hP.sub isC (fm_of hC), va_K.moved hW.alike C.2.2.2.2.2.1, (hD.sub isC hnC hC).weaken (fun _ _ _ _ => trivial), C.2.2.2.2.2.2.2.1.moved hW.alike, gB_warm hW C.2.2.2.2.2.2.2.2, fun h => (hE h).to hS hU hW (va_free hD hS C.2.2.2.2.2.2.1 isC hC)⟩⟩ rfl hlen hl.1 hst (lv_room hrest) dg hcap) hS (fun q _ h => va_free hD hS C.2.2.2.2.2.2.1 isC hC q h) (va_free hD hS C.2.2.2.2.2.2.1 isC hC) (fun u t H1 locs1 ht hvm hw9 hB hz1 hk1 hS1 => ?_)
  obtain ⟨hP1, hD1⟩ := hB
  rw [ht] at hP1
  obtain ⟨hP2, hD2⟩ := va_join hP hD isC isR hC hR hnR hdis hk1 (va_free hD hS C.2.2.2.2.2.2.1 isC hC) hP1 hD1
  exact k u H1 locs1 ls (hw u ▸ hP2) (hw u ▸ hD2) hS1 hl
theorem v_callSv (C : VC p s m args c D d A cc nL own) {y : MethodName} {bb : ByteArray} {nY nA index : Nat} {ret : Option FieldType} {rm : Room} {mc ms : Nat} (F : g_mf y bb nY ret nA) (hstat : Cond.static y ∈ gW) (hlink : Cond.methodLink own index y ∈ gW) {S : Type} {w1 : S → va_W} {E : Bool} {wc wr : va_W} {As rest : List Value} (hM : ∀ sz, Met l y (g_wd y bb nY ret) rm (va_Pc As (g_pr E D d wc sz)) (q_v D w1 (va_A wc sz)) mc ms (va_A wc sz)) (hE : E = true → g_ex A s) (isC isR : List Nat) (hC : isC.map (fun i => ws[i]?) = wc.map some) (hR : isR.map (fun i => ws[i]?) = wr.map some) (hnC : va_nd isC = true) (hnR : va_nd isR = true) (hdis : ∀ i ∈ isR, i ∉ isC) (hrm : rm.cells = mc ∧ rm.slots = ms) (hfl : rm.frames + 1 ≤ R.frames ∧ 8 + (nY + 11) + rm.locals ≤ R.locals) (hcap : ck + mc ≤ R.cells ∧ sl + ms ≤ R.slots) (hrest : (rest.map fun v => v.category).sum ≤ 8) {st0 : List Value} (hst : st0 = As.reverse ++ rest) (hlen : As.length = nA) (ws' : S → va_W) (hw : ∀ u, wr ++ w1 u = ws' u) (dg : decode cc pc = .ok (.invokestatic index, 3)) (k : ∀ u : S, V p l e R s m args below meth c Q D A nL (ws' u) lv (ck + mc) (sl + ms) (pc + 3) rest) : V p l e R s m args below meth c Q D A nL ws lv ck sl pc st0 := fun H locs ls hP hD hS hl => by
  have cw : CallB R s args own index y bb nY ret (g_wd y bb nY ret) rm mc ms nA ∧ (Cond.static y).before args s = true := ⟨callB_of nA C.2.2.2.2.1 (g_goodC F.1) rfl hrm.1 hrm.2 (C.2.2.2.2.1 _ F.2.1) (C.2.2.2.2.1 _ hlink) F.2.2 hfl, C.2.2.2.2.1 _ hstat⟩
  refine va_callv (va_runS (Ts := gW) ⟨C.1, C.2.1, C.2.2.1, C.2.2.2.1, C.2.2.2.2.1⟩ (hM H.size) cw ⟨pr_blind, fun U hU hW => ⟨rfl, by rw [hU], by rw [hU]; exact hP.sub isC (fm_of hC), va_K.moved hW.alike C.2.2.2.2.2.1, (hD.sub isC hnC hC).weaken (fun _ _ _ _ => trivial), C.2.2.2.2.2.2.2.1.moved hW.alike, gB_warm hW C.2.2.2.2.2.2.2.2, fun h => (hE h).to hS hU hW (va_free hD hS C.2.2.2.2.2.2.1 isC hC)⟩⟩ rfl hlen hl.1 hst (lv_room hrest) dg hcap) hS (fun q _ h => va_free hD hS C.2.2.2.2.2.2.1 isC hC q h) (va_free hD hS C.2.2.2.2.2.2.1 isC hC) (fun u t H1 locs1 ht hvm hw9 hB hz1 hk1 hS1 => ?_)
  obtain ⟨hP1, hD1⟩ := hB
  rw [ht] at hP1
  obtain ⟨hP2, hD2⟩ := va_join hP hD isC isR hC hR hnR hdis hk1 (va_free hD hS C.2.2.2.2.2.2.1 isC hC) hP1 hD1
  exact k u H1 locs1 ls (hw u ▸ hP2) (hw u ▸ hD2) hS1 hl
theorem v_callI (C : VC p s m args c D d A cc nL own) {y : MethodName} {bb : ByteArray} {nY nA index : Nat} {rm : Room} {mc ms : Nat} (F : g_mf y bb nY none nA) (hinst : Cond.instanceMethod y ∈ gW) (hy : y.name = "<init>") (hlink : Cond.methodLink own index y ∈ gW) {b : Nat} {S : Type} {w1 : S → va_W} {E : Bool} {wc wr : va_W} {As rest : List Value} (hM : ∀ sz, Met l y (g_wd y bb nY none) rm (va_Pc (.ref b :: As) (g_pr E D d wc sz)) (q_v D w1 (va_A wc sz)) mc ms (va_A wc sz)) (hE : E = true → g_ex A s) (isC isR : List Nat) (hC : isC.map (fun i => ws[i]?) = wc.map some) (hR : isR.map (fun i => ws[i]?) = wr.map some) (hnC : va_nd isC = true) (hnR : va_nd isR = true) (hdis : ∀ i ∈ isR, i ∉ isC) (hrm : rm.cells = mc ∧ rm.slots = ms) (hfl : rm.frames + 1 ≤ R.frames ∧ 8 + (nY + 11) + rm.locals ≤ R.locals) (hcap : ck + mc ≤ R.cells ∧ sl + ms ≤ R.slots) (hrest : (rest.map fun v => v.category).sum ≤ 8) {st0 : List Value} (hst : st0 = As.reverse ++ .ref b :: rest) (hlen : As.length = nA) (ws' : S → va_W) (hw : ∀ u, wr ++ w1 u = ws' u) (dg : decode cc pc = .ok (.invokespecial index, 3)) (k : ∀ u : S, V p l e R s m args below meth c Q D A nL (ws' u) lv (ck + mc) (sl + ms) (pc + 3) rest) : V p l e R s m args below meth c Q D A nL ws lv ck sl pc st0 := fun H locs ls hP hD hS hl => by
  have cw : CallB R s args own index y bb nY none (g_wd y bb nY none) rm mc ms nA ∧ y.name = "<init>" ∧ (Cond.instanceMethod y).before args s = true := ⟨callB_of nA C.2.2.2.2.1 (g_goodC F.1) rfl hrm.1 hrm.2 (C.2.2.2.2.1 _ F.2.1) (C.2.2.2.2.1 _ hlink) F.2.2 hfl, hy, C.2.2.2.2.1 _ hinst⟩
  refine va_callv (va_runI (Ts := gW) ⟨C.1, C.2.1, C.2.2.1, C.2.2.2.1, C.2.2.2.2.1⟩ (hM H.size) cw ⟨pr_blind, fun U hU hW => ⟨rfl, by rw [hU], by rw [hU]; exact hP.sub isC (fm_of hC), va_K.moved hW.alike C.2.2.2.2.2.1, (hD.sub isC hnC hC).weaken (fun _ _ _ _ => trivial), C.2.2.2.2.2.2.2.1.moved hW.alike, gB_warm hW C.2.2.2.2.2.2.2.2, fun h => (hE h).to hS hU hW (va_free hD hS C.2.2.2.2.2.2.1 isC hC)⟩⟩ rfl hlen hl.1 hst (lv_room hrest) dg hcap) hS (fun q _ h => va_free hD hS C.2.2.2.2.2.2.1 isC hC q h) (va_free hD hS C.2.2.2.2.2.2.1 isC hC) (fun u t H1 locs1 ht hvm hw9 hB hz1 hk1 hS1 => ?_)
  obtain ⟨hP1, hD1⟩ := hB
  rw [ht] at hP1
  obtain ⟨hP2, hD2⟩ := va_join hP hD isC isR hC hR hnR hdis hk1 (va_free hD hS C.2.2.2.2.2.2.1 isC hC) hP1 hD1
  exact k u H1 locs1 ls (hw u ▸ hP2) (hw u ▸ hD2) hS1 hl
theorem v_callIN (C : VC p s m args c D d A cc nL own) {y : MethodName} {bb : ByteArray} {nY nA index : Nat} {rm : Room} {mc ms : Nat} (F : g_mf y bb nY none nA) (hinst : Cond.instanceMethod y ∈ gW) (hy : y.name = "<init>") {host : String} (hlink : Cond.methodLinkNest own index y host ∈ gB) {b : Nat} {S : Type} {w1 : S → va_W} {E : Bool} {wc wr : va_W} {As rest : List Value} (hM : ∀ sz, Met l y (g_wd y bb nY none) rm (va_Pc (.ref b :: As) (g_pr E D d wc sz)) (q_v D w1 (va_A wc sz)) mc ms (va_A wc sz)) (hE : E = true → g_ex A s) (isC isR : List Nat) (hC : isC.map (fun i => ws[i]?) = wc.map some) (hR : isR.map (fun i => ws[i]?) = wr.map some) (hnC : va_nd isC = true) (hnR : va_nd isR = true) (hdis : ∀ i ∈ isR, i ∉ isC) (hrm : rm.cells = mc ∧ rm.slots = ms) (hfl : rm.frames + 1 ≤ R.frames ∧ 8 + (nY + 11) + rm.locals ≤ R.locals) (hcap : ck + mc ≤ R.cells ∧ sl + ms ≤ R.slots) (hrest : (rest.map fun v => v.category).sum ≤ 8) {st0 : List Value} (hst : st0 = As.reverse ++ .ref b :: rest) (hlen : As.length = nA) (ws' : S → va_W) (hw : ∀ u, wr ++ w1 u = ws' u) (dg : decode cc pc = .ok (.invokespecial index, 3)) (k : ∀ u : S, V p l e R s m args below meth c Q D A nL (ws' u) lv (ck + mc) (sl + ms) (pc + 3) rest) : V p l e R s m args below meth c Q D A nL ws lv ck sl pc st0 := fun H locs ls hP hD hS hl => by
  have cw : va_CN R s args own index y host bb nY none (g_wd y bb nY none) rm mc ms nA ∧ y.name = "<init>" ∧ (Cond.instanceMethod y).before args s = true := ⟨va_cnB nA C.2.2.2.2.1 (g_goodC F.1) rfl hrm.1 hrm.2 (C.2.2.2.2.2.2.2.2 _ hlink) (C.2.2.2.2.1 _ F.2.1) F.2.2 hfl, hy, C.2.2.2.2.1 _ hinst⟩
  refine va_callv (va_runIN (Ts := gW) ⟨C.1, C.2.1, C.2.2.1, C.2.2.2.1, C.2.2.2.2.1⟩ (hM H.size) cw ⟨pr_blind, fun U hU hW => ⟨rfl, by rw [hU], by rw [hU]; exact hP.sub isC (fm_of hC), va_K.moved hW.alike C.2.2.2.2.2.1, (hD.sub isC hnC hC).weaken (fun _ _ _ _ => trivial), C.2.2.2.2.2.2.2.1.moved hW.alike, gB_warm hW C.2.2.2.2.2.2.2.2, fun h => (hE h).to hS hU hW (va_free hD hS C.2.2.2.2.2.2.1 isC hC)⟩⟩ rfl hlen hl.1 hst (lv_room hrest) dg hcap) hS (fun q _ h => va_free hD hS C.2.2.2.2.2.2.1 isC hC q h) (va_free hD hS C.2.2.2.2.2.2.1 isC hC) (fun u t H1 locs1 ht hvm hw9 hB hz1 hk1 hS1 => ?_)
  obtain ⟨hP1, hD1⟩ := hB
  rw [ht] at hP1
  obtain ⟨hP2, hD2⟩ := va_join hP hD isC isR hC hR hnR hdis hk1 (va_free hD hS C.2.2.2.2.2.2.1 isC hC) hP1 hD1
  exact k u H1 locs1 ls (hw u ▸ hP2) (hw u ▸ hD2) hS1 hl
theorem v_callVi (C : VC p s m args c D d A cc nL own) {y : MethodName} {bb : ByteArray} {nY nA index : Nat} {ret : Option FieldType} {rm : Room} {mc ms : Nat} (F : g_mf y bb nY ret nA) (G : g_mv y) (hlink : Cond.methodLink own index y ∈ gW) {b : Nat} {S : Type} {w1 : S → va_W} {K : Int32} {E : Bool} {wc wr : va_W} {As rest : List Value} (hM : ∀ sz, Met l y (g_wd y bb nY ret) rm (va_Pc (.ref b :: As) (g_pr E D d wc sz)) (q_i D K w1 (va_A wc sz)) mc ms (va_A wc sz)) (hE : E = true → g_ex A s) (q0 : Nat) {ci : Nat} {T : u_T} {N : Nat} {fs : List Value} (he : ws[q0]? = some (b, .inr (ci, fs))) (hci : gCl[ci]? = some (y.cls, T, N)) (isC isR : List Nat) (hC : isC.map (fun i => ws[i]?) = wc.map some) (hR : isR.map (fun i => ws[i]?) = wr.map some) (hnC : va_nd isC = true) (hnR : va_nd isR = true) (hdis : ∀ i ∈ isR, i ∉ isC) (hrm : rm.cells = mc ∧ rm.slots = ms) (hfl : rm.frames + 1 ≤ R.frames ∧ 8 + (nY + 11) + rm.locals ≤ R.locals) (hcap : ck + mc ≤ R.cells ∧ sl + ms ≤ R.slots) (hrest : (rest.map fun v => v.category).sum ≤ 8) {st0 : List Value} (hst : st0 = As.reverse ++ .ref b :: rest) (hlen : As.length = nA) (ws' : S → va_W) (hw : ∀ u, wr ++ w1 u = ws' u) (dg : decode cc pc = .ok (.invokevirtual index, 3)) (k : ∀ u : S, V p l e R s m args below meth c Q D A nL (ws' u) lv (ck + mc) (sl + ms) (pc + 3) (.int K :: rest)) : V p l e R s m args below meth c Q D A nL ws lv ck sl pc st0 := fun H locs ls hP hD hS hl => by
  have cw : CallW R s args own y.cls index y bb nY ret (g_wd y bb nY ret) rm mc ms nA := ⟨callB_of nA C.2.2.2.2.1 (g_goodC F.1) rfl hrm.1 hrm.2 (C.2.2.2.2.1 _ F.2.1) (C.2.2.2.2.1 _ hlink) F.2.2 hfl, C.2.2.2.2.1 _ G.1, C.2.2.2.2.1 _ G.2⟩
  refine va_calli (va_runV (Ts := gW) ⟨C.1, C.2.1, C.2.2.1, C.2.2.2.1, C.2.2.2.2.1⟩ (hM H.size) cw ⟨pr_blind, va_recv C.2.2.2.2.2.1 hP hci he, fun U hU hW => ⟨rfl, by rw [hU], by rw [hU]; exact hP.sub isC (fm_of hC), va_K.moved hW.alike C.2.2.2.2.2.1, (hD.sub isC hnC hC).weaken (fun _ _ _ _ => trivial), C.2.2.2.2.2.2.2.1.moved hW.alike, gB_warm hW C.2.2.2.2.2.2.2.2, fun h => (hE h).to hS hU hW (va_free hD hS C.2.2.2.2.2.2.1 isC hC)⟩⟩ rfl hlen hl.1 hst (lv_room hrest) dg hcap) hS (fun q _ h => va_free hD hS C.2.2.2.2.2.2.1 isC hC q h) (va_free hD hS C.2.2.2.2.2.2.1 isC hC) (fun r u t H1 locs1 ht hvm hw9 hB hz1 hk1 hS1 => ?_)
  obtain ⟨hP1, hD1⟩ := hB
  rw [ht] at hP1
  subst hw9
  obtain ⟨hP2, hD2⟩ := va_join hP hD isC isR hC hR hnR hdis hk1 (va_free hD hS C.2.2.2.2.2.2.1 isC hC) hP1 hD1
  exact k u H1 locs1 ls (hw u ▸ hP2) (hw u ▸ hD2) hS1 hl
theorem v_callSi (C : VC p s m args c D d A cc nL own) {y : MethodName} {bb : ByteArray} {nY nA index : Nat} {ret : Option FieldType} {rm : Room} {mc ms : Nat} (F : g_mf y bb nY ret nA) (hstat : Cond.static y ∈ gW) (hlink : Cond.methodLink own index y ∈ gW) {S : Type} {w1 : S → va_W} {K : Int32} {E : Bool} {wc wr : va_W} {As rest : List Value} (hM : ∀ sz, Met l y (g_wd y bb nY ret) rm (va_Pc As (g_pr E D d wc sz)) (q_i D K w1 (va_A wc sz)) mc ms (va_A wc sz)) (hE : E = true → g_ex A s) (isC isR : List Nat) (hC : isC.map (fun i => ws[i]?) = wc.map some) (hR : isR.map (fun i => ws[i]?) = wr.map some) (hnC : va_nd isC = true) (hnR : va_nd isR = true) (hdis : ∀ i ∈ isR, i ∉ isC) (hrm : rm.cells = mc ∧ rm.slots = ms) (hfl : rm.frames + 1 ≤ R.frames ∧ 8 + (nY + 11) + rm.locals ≤ R.locals) (hcap : ck + mc ≤ R.cells ∧ sl + ms ≤ R.slots) (hrest : (rest.map fun v => v.category).sum ≤ 8) {st0 : List Value} (hst : st0 = As.reverse ++ rest) (hlen : As.length = nA) (ws' : S → va_W) (hw : ∀ u, wr ++ w1 u = ws' u) (dg : decode cc pc = .ok (.invokestatic index, 3)) (k : ∀ u : S, V p l e R s m args below meth c Q D A nL (ws' u) lv (ck + mc) (sl + ms) (pc + 3) (.int K :: rest)) : V p l e R s m args below meth c Q D A nL ws lv ck sl pc st0 := fun H locs ls hP hD hS hl => by
  have cw : CallB R s args own index y bb nY ret (g_wd y bb nY ret) rm mc ms nA ∧ (Cond.static y).before args s = true := ⟨callB_of nA C.2.2.2.2.1 (g_goodC F.1) rfl hrm.1 hrm.2 (C.2.2.2.2.1 _ F.2.1) (C.2.2.2.2.1 _ hlink) F.2.2 hfl, C.2.2.2.2.1 _ hstat⟩
  refine va_calli (va_runS (Ts := gW) ⟨C.1, C.2.1, C.2.2.1, C.2.2.2.1, C.2.2.2.2.1⟩ (hM H.size) cw ⟨pr_blind, fun U hU hW => ⟨rfl, by rw [hU], by rw [hU]; exact hP.sub isC (fm_of hC), va_K.moved hW.alike C.2.2.2.2.2.1, (hD.sub isC hnC hC).weaken (fun _ _ _ _ => trivial), C.2.2.2.2.2.2.2.1.moved hW.alike, gB_warm hW C.2.2.2.2.2.2.2.2, fun h => (hE h).to hS hU hW (va_free hD hS C.2.2.2.2.2.2.1 isC hC)⟩⟩ rfl hlen hl.1 hst (lv_room hrest) dg hcap) hS (fun q _ h => va_free hD hS C.2.2.2.2.2.2.1 isC hC q h) (va_free hD hS C.2.2.2.2.2.2.1 isC hC) (fun r u t H1 locs1 ht hvm hw9 hB hz1 hk1 hS1 => ?_)
  obtain ⟨hP1, hD1⟩ := hB
  rw [ht] at hP1
  subst hw9
  obtain ⟨hP2, hD2⟩ := va_join hP hD isC isR hC hR hnR hdis hk1 (va_free hD hS C.2.2.2.2.2.2.1 isC hC) hP1 hD1
  exact k u H1 locs1 ls (hw u ▸ hP2) (hw u ▸ hD2) hS1 hl
theorem v_callSWi (C : VC p s m args c D d A cc nL own) {y : MethodName} {bb : ByteArray} {nY nA index : Nat} {ret : Option FieldType} {hh : List (Nat × Nat × Nat × Nat)} {rm : Room} {mc ms : Nat} (F : Cond.codeWith y bb nY ret hh ∈ gW ∧ Cond.initialized y.cls ∈ gW ∧ (y.cls ≠ "java/lang/invoke/MethodHandle" ∧ y.cls ≠ "java/lang/invoke/VarHandle" ∧ (parseMethodDescriptor y.desc).map (fun d => d.parameters.length) = some nA)) (hstat : Cond.static y ∈ gW) (hlink : Cond.methodLink own index y ∈ gW) {S : Type} {w1 : S → va_W} {K : Int32} {E : Bool} {wc wr : va_W} {As rest : List Value} (hM : ∀ sz, Met l y (g_wh y bb nY ret hh) rm (va_Pc As (g_pr E D d wc sz)) (q_i D K w1 (va_A wc sz)) mc ms (va_A wc sz)) (hE : E = true → g_ex A s) (isC isR : List Nat) (hC : isC.map (fun i => ws[i]?) = wc.map some) (hR : isR.map (fun i => ws[i]?) = wr.map some) (hnC : va_nd isC = true) (hnR : va_nd isR = true) (hdis : ∀ i ∈ isR, i ∉ isC) (hrm : rm.cells = mc ∧ rm.slots = ms) (hfl : rm.frames + 1 ≤ R.frames ∧ 8 + (nY + 11) + rm.locals ≤ R.locals) (hcap : ck + mc ≤ R.cells ∧ sl + ms ≤ R.slots) (hrest : (rest.map fun v => v.category).sum ≤ 8) {st0 : List Value} (hst : st0 = As.reverse ++ rest) (hlen : As.length = nA) (ws' : S → va_W) (hw : ∀ u, wr ++ w1 u = ws' u) (dg : decode cc pc = .ok (.invokestatic index, 3)) (k : ∀ u : S, V p l e R s m args below meth c Q D A nL (ws' u) lv (ck + mc) (sl + ms) (pc + 3) (.int K :: rest)) : V p l e R s m args below meth c Q D A nL ws lv ck sl pc st0 := fun H locs ls hP hD hS hl => by
  have hG9 : GoodIn gW (va_wsS own index y (g_wh y bb nY ret hh)) := g_goodA (a := [.methodLink own index y, .static y, .initialized y.cls]) (fun w hw => (List.mem_cons.mp hw).elim (fun e => by rw [e]; exact hlink) (fun hw => (List.mem_cons.mp hw).elim (fun e => by rw [e]; exact hstat) (fun hw => (List.mem_cons.mp hw).elim (fun e => by rw [e]; exact F.2.1) (fun hw => nomatch hw)))) (g_goodC F.1)
  have cw : vx_CSW R s args own index y bb nY ret hh (g_wh y bb nY ret hh) rm mc ms nA := vx_cwSW nA C.2.2.2.2.1 hG9 rfl hrm.1 hrm.2 F.2.2 hfl
  refine va_calli (vx_runSW (Ts := gW) ⟨C.1, C.2.1, C.2.2.1, C.2.2.2.1, C.2.2.2.2.1⟩ (hM H.size) cw ⟨pr_blind, fun U hU hW => ⟨rfl, by rw [hU], by rw [hU]; exact hP.sub isC (fm_of hC), va_K.moved hW.alike C.2.2.2.2.2.1, (hD.sub isC hnC hC).weaken (fun _ _ _ _ => trivial), C.2.2.2.2.2.2.2.1.moved hW.alike, gB_warm hW C.2.2.2.2.2.2.2.2, fun h => (hE h).to hS hU hW (va_free hD hS C.2.2.2.2.2.2.1 isC hC)⟩⟩ rfl hlen hl.1 hst (lv_room hrest) dg hcap) hS (fun q _ h => va_free hD hS C.2.2.2.2.2.2.1 isC hC q h) (va_free hD hS C.2.2.2.2.2.2.1 isC hC) (fun r u t H1 locs1 ht hvm hw9 hB hz1 hk1 hS1 => ?_)
  obtain ⟨hP1, hD1⟩ := hB
  rw [ht] at hP1
  subst hw9
  obtain ⟨hP2, hD2⟩ := va_join hP hD isC isR hC hR hnR hdis hk1 (va_free hD hS C.2.2.2.2.2.2.1 isC hC) hP1 hD1
  exact k u H1 locs1 ls (hw u ▸ hP2) (hw u ▸ hD2) hS1 hl
theorem v_callVl (C : VC p s m args c D d A cc nL own) {y : MethodName} {bb : ByteArray} {nY nA index : Nat} {ret : Option FieldType} {rm : Room} {mc ms : Nat} (F : g_mf y bb nY ret nA) (G : g_mv y) (hlink : Cond.methodLink own index y ∈ gW) {b : Nat} {S : Type} {w1 : S → va_W} {K : Int64} {E : Bool} {wc wr : va_W} {As rest : List Value} (hM : ∀ sz, Met l y (g_wd y bb nY ret) rm (va_Pc (.ref b :: As) (g_pr E D d wc sz)) (q_l D K w1 (va_A wc sz)) mc ms (va_A wc sz)) (hE : E = true → g_ex A s) (q0 : Nat) {ci : Nat} {T : u_T} {N : Nat} {fs : List Value} (he : ws[q0]? = some (b, .inr (ci, fs))) (hci : gCl[ci]? = some (y.cls, T, N)) (isC isR : List Nat) (hC : isC.map (fun i => ws[i]?) = wc.map some) (hR : isR.map (fun i => ws[i]?) = wr.map some) (hnC : va_nd isC = true) (hnR : va_nd isR = true) (hdis : ∀ i ∈ isR, i ∉ isC) (hrm : rm.cells = mc ∧ rm.slots = ms) (hfl : rm.frames + 1 ≤ R.frames ∧ 8 + (nY + 11) + rm.locals ≤ R.locals) (hcap : ck + mc ≤ R.cells ∧ sl + ms ≤ R.slots) (hrest : (rest.map fun v => v.category).sum ≤ 8) {st0 : List Value} (hst : st0 = As.reverse ++ .ref b :: rest) (hlen : As.length = nA) (ws' : S → va_W) (hw : ∀ u, wr ++ w1 u = ws' u) (dg : decode cc pc = .ok (.invokevirtual index, 3)) (k : ∀ u : S, V p l e R s m args below meth c Q D A nL (ws' u) lv (ck + mc) (sl + ms) (pc + 3) (.long K :: rest)) : V p l e R s m args below meth c Q D A nL ws lv ck sl pc st0 := fun H locs ls hP hD hS hl => by
  have cw : CallW R s args own y.cls index y bb nY ret (g_wd y bb nY ret) rm mc ms nA := ⟨callB_of nA C.2.2.2.2.1 (g_goodC F.1) rfl hrm.1 hrm.2 (C.2.2.2.2.1 _ F.2.1) (C.2.2.2.2.1 _ hlink) F.2.2 hfl, C.2.2.2.2.1 _ G.1, C.2.2.2.2.1 _ G.2⟩
  refine va_calll (va_runV (Ts := gW) ⟨C.1, C.2.1, C.2.2.1, C.2.2.2.1, C.2.2.2.2.1⟩ (hM H.size) cw ⟨pr_blind, va_recv C.2.2.2.2.2.1 hP hci he, fun U hU hW => ⟨rfl, by rw [hU], by rw [hU]; exact hP.sub isC (fm_of hC), va_K.moved hW.alike C.2.2.2.2.2.1, (hD.sub isC hnC hC).weaken (fun _ _ _ _ => trivial), C.2.2.2.2.2.2.2.1.moved hW.alike, gB_warm hW C.2.2.2.2.2.2.2.2, fun h => (hE h).to hS hU hW (va_free hD hS C.2.2.2.2.2.2.1 isC hC)⟩⟩ rfl hlen hl.1 hst (lv_room hrest) dg hcap) hS (fun q _ h => va_free hD hS C.2.2.2.2.2.2.1 isC hC q h) (va_free hD hS C.2.2.2.2.2.2.1 isC hC) (fun r u t H1 locs1 ht hvm hw9 hB hz1 hk1 hS1 => ?_)
  obtain ⟨hP1, hD1⟩ := hB
  rw [ht] at hP1
  subst hw9
  obtain ⟨hP2, hD2⟩ := va_join hP hD isC isR hC hR hnR hdis hk1 (va_free hD hS C.2.2.2.2.2.2.1 isC hC) hP1 hD1
  exact k u H1 locs1 ls (hw u ▸ hP2) (hw u ▸ hD2) hS1 hl
theorem v_callSl (C : VC p s m args c D d A cc nL own) {y : MethodName} {bb : ByteArray} {nY nA index : Nat} {ret : Option FieldType} {rm : Room} {mc ms : Nat} (F : g_mf y bb nY ret nA) (hstat : Cond.static y ∈ gW) (hlink : Cond.methodLink own index y ∈ gW) {S : Type} {w1 : S → va_W} {K : Int64} {E : Bool} {wc wr : va_W} {As rest : List Value} (hM : ∀ sz, Met l y (g_wd y bb nY ret) rm (va_Pc As (g_pr E D d wc sz)) (q_l D K w1 (va_A wc sz)) mc ms (va_A wc sz)) (hE : E = true → g_ex A s) (isC isR : List Nat) (hC : isC.map (fun i => ws[i]?) = wc.map some) (hR : isR.map (fun i => ws[i]?) = wr.map some) (hnC : va_nd isC = true) (hnR : va_nd isR = true) (hdis : ∀ i ∈ isR, i ∉ isC) (hrm : rm.cells = mc ∧ rm.slots = ms) (hfl : rm.frames + 1 ≤ R.frames ∧ 8 + (nY + 11) + rm.locals ≤ R.locals) (hcap : ck + mc ≤ R.cells ∧ sl + ms ≤ R.slots) (hrest : (rest.map fun v => v.category).sum ≤ 8) {st0 : List Value} (hst : st0 = As.reverse ++ rest) (hlen : As.length = nA) (ws' : S → va_W) (hw : ∀ u, wr ++ w1 u = ws' u) (dg : decode cc pc = .ok (.invokestatic index, 3)) (k : ∀ u : S, V p l e R s m args below meth c Q D A nL (ws' u) lv (ck + mc) (sl + ms) (pc + 3) (.long K :: rest)) : V p l e R s m args below meth c Q D A nL ws lv ck sl pc st0 := fun H locs ls hP hD hS hl => by
  have cw : CallB R s args own index y bb nY ret (g_wd y bb nY ret) rm mc ms nA ∧ (Cond.static y).before args s = true := ⟨callB_of nA C.2.2.2.2.1 (g_goodC F.1) rfl hrm.1 hrm.2 (C.2.2.2.2.1 _ F.2.1) (C.2.2.2.2.1 _ hlink) F.2.2 hfl, C.2.2.2.2.1 _ hstat⟩
  refine va_calll (va_runS (Ts := gW) ⟨C.1, C.2.1, C.2.2.1, C.2.2.2.1, C.2.2.2.2.1⟩ (hM H.size) cw ⟨pr_blind, fun U hU hW => ⟨rfl, by rw [hU], by rw [hU]; exact hP.sub isC (fm_of hC), va_K.moved hW.alike C.2.2.2.2.2.1, (hD.sub isC hnC hC).weaken (fun _ _ _ _ => trivial), C.2.2.2.2.2.2.2.1.moved hW.alike, gB_warm hW C.2.2.2.2.2.2.2.2, fun h => (hE h).to hS hU hW (va_free hD hS C.2.2.2.2.2.2.1 isC hC)⟩⟩ rfl hlen hl.1 hst (lv_room hrest) dg hcap) hS (fun q _ h => va_free hD hS C.2.2.2.2.2.2.1 isC hC q h) (va_free hD hS C.2.2.2.2.2.2.1 isC hC) (fun r u t H1 locs1 ht hvm hw9 hB hz1 hk1 hS1 => ?_)
  obtain ⟨hP1, hD1⟩ := hB
  rw [ht] at hP1
  subst hw9
  obtain ⟨hP2, hD2⟩ := va_join hP hD isC isR hC hR hnR hdis hk1 (va_free hD hS C.2.2.2.2.2.2.1 isC hC) hP1 hD1
  exact k u H1 locs1 ls (hw u ▸ hP2) (hw u ▸ hD2) hS1 hl
theorem v_callXi (C : VC p s m args c D d A cc nL own) {y : MethodName} {bb : ByteArray} {nY nA index : Nat} {ret : Option FieldType} {rm : Room} {mc ms : Nat} (F : g_mf y bb nY ret nA) (G : g_mv y) (hlink : Cond.methodLink own index y ∈ gW) {b : Nat} {E : Bool} {EX : String} {wc wr : va_W} {As rest : List Value} (hM : ∀ sz, vx_Met l y (g_wd y bb nY ret) rm (va_Pc (.ref b :: As) (g_pr E D d wc sz)) (q_ni (va_A wc sz)) (g_XC EX (va_A wc sz)) mc ms (va_A wc sz)) (hE : E = true → g_ex A s) (q0 : Nat) {ci : Nat} {T : u_T} {N : Nat} {fs : List Value} (he : ws[q0]? = some (b, .inr (ci, fs))) (hci : gCl[ci]? = some (y.cls, T, N)) (isC isR : List Nat) (hC : isC.map (fun i => ws[i]?) = wc.map some) (hR : isR.map (fun i => ws[i]?) = wr.map some) (hnC : va_nd isC = true) (hnR : va_nd isR = true) (hdis : ∀ i ∈ isR, i ∉ isC) (hrm : rm.cells = mc ∧ rm.slots = ms) (hfl : rm.frames + 1 ≤ R.frames ∧ 8 + (nY + 11) + rm.locals ≤ R.locals) (hcap : ck + mc ≤ R.cells ∧ sl + ms ≤ R.slots) (hrest : (rest.map fun v => v.category).sum ≤ 8) {st0 : List Value} (hst : st0 = As.reverse ++ .ref b :: rest) (hlen : As.length = nA) (x : ExceptionTableEntry) (suf : List ExceptionTableEntry) (hsplit : c.exceptionTable.toList = x :: suf) (hx : covers x pc = true) (h0 : x.catchType ≠ 0) (hcl : Cond.classLink own x.catchType EX ∈ gW) (hcast : Cond.castable EX EX ∈ gB) (dg : decode cc pc = .ok (.invokevirtual index, 3)) (k : ∀ q : Nat, V p l e R s m args below meth c Q D A nL wr lv (ck + mc) (sl + ms) x.handlerPc [.ref q]) : V p l e R s m args below meth c Q D A nL ws lv ck sl pc st0 := fun H locs ls hP hD hS hl => by
  have cw : CallW R s args own y.cls index y bb nY ret (g_wd y bb nY ret) rm mc ms nA := ⟨callB_of nA C.2.2.2.2.1 (g_goodC F.1) rfl hrm.1 hrm.2 (C.2.2.2.2.1 _ F.2.1) (C.2.2.2.2.1 _ hlink) F.2.2 hfl, C.2.2.2.2.1 _ G.1, C.2.2.2.2.1 _ G.2⟩
  have hFc := va_free hD hS C.2.2.2.2.2.2.1 isC hC
  refine vx_calli (vx_runV (Ts := gW) ⟨C.1, C.2.1, C.2.2.1, C.2.2.2.1, C.2.2.2.2.1⟩ (hM H.size) cw ⟨pr_blind, va_recv C.2.2.2.2.2.1 hP hci he, fun U hU hW => ⟨rfl, by rw [hU], by rw [hU]; exact hP.sub isC (fm_of hC), va_K.moved hW.alike C.2.2.2.2.2.1, (hD.sub isC hnC hC).weaken (fun _ _ _ _ => trivial), C.2.2.2.2.2.2.2.1.moved hW.alike, gB_warm hW C.2.2.2.2.2.2.2.2, fun h => (hE h).to hS hU hW (va_free hD hS C.2.2.2.2.2.2.1 isC hC)⟩⟩ rfl hlen hl.1 hst (lv_room hrest) dg hcap) hS (fun q _ h => hFc q h) hFc (fun q _ h => hFc q h) (fun E' ce q9 u t H1 locs1 ht hvm hpx hBX hz1 hk1 hS1 hce hcv hcls => ?_) (fun r u t H1 locs1 ht hvm hw hB hz1 hk1 hS1 => hw.elim)
  subst hBX
  have hP0 : va_P D gCl [] H1 := fun k q h => by simp at h
  have hD0 : va_D (va_A wc H.size) [] := ⟨fun i j p q h => by simp at h, fun k q h => by simp at h⟩
  obtain ⟨hP2, hD2⟩ := va_join hP hD isC isR hC hR hnR hdis hk1 hFc hP0 hD0
  rw [List.append_nil] at hP2 hD2
  exact vx_catch C.2.2.2.1 [] x suf hsplit (fun z hz => by cases hz) hx h0 (C.2.2.2.2.1 _ hcl) ((C.2.2.2.2.2.2.2.2 _ hcast).use rfl) hce hcv hcls (k q9 H1 locs1 ls hP2 hD2 hS1 hl)
theorem v_callXl (C : VC p s m args c D d A cc nL own) {y : MethodName} {bb : ByteArray} {nY nA index : Nat} {ret : Option FieldType} {rm : Room} {mc ms : Nat} (F : g_mf y bb nY ret nA) (G : g_mv y) (hlink : Cond.methodLink own index y ∈ gW) {b : Nat} {E : Bool} {EX : String} {wc wr : va_W} {As rest : List Value} (hM : ∀ sz, vx_Met l y (g_wd y bb nY ret) rm (va_Pc (.ref b :: As) (g_pr E D d wc sz)) (q_nl (va_A wc sz)) (g_XC EX (va_A wc sz)) mc ms (va_A wc sz)) (hE : E = true → g_ex A s) (q0 : Nat) {ci : Nat} {T : u_T} {N : Nat} {fs : List Value} (he : ws[q0]? = some (b, .inr (ci, fs))) (hci : gCl[ci]? = some (y.cls, T, N)) (isC isR : List Nat) (hC : isC.map (fun i => ws[i]?) = wc.map some) (hR : isR.map (fun i => ws[i]?) = wr.map some) (hnC : va_nd isC = true) (hnR : va_nd isR = true) (hdis : ∀ i ∈ isR, i ∉ isC) (hrm : rm.cells = mc ∧ rm.slots = ms) (hfl : rm.frames + 1 ≤ R.frames ∧ 8 + (nY + 11) + rm.locals ≤ R.locals) (hcap : ck + mc ≤ R.cells ∧ sl + ms ≤ R.slots) (hrest : (rest.map fun v => v.category).sum ≤ 8) {st0 : List Value} (hst : st0 = As.reverse ++ .ref b :: rest) (hlen : As.length = nA) (x : ExceptionTableEntry) (suf : List ExceptionTableEntry) (hsplit : c.exceptionTable.toList = x :: suf) (hx : covers x pc = true) (h0 : x.catchType ≠ 0) (hcl : Cond.classLink own x.catchType EX ∈ gW) (hcast : Cond.castable EX EX ∈ gB) (dg : decode cc pc = .ok (.invokevirtual index, 3)) (k : ∀ q : Nat, V p l e R s m args below meth c Q D A nL wr lv (ck + mc) (sl + ms) x.handlerPc [.ref q]) : V p l e R s m args below meth c Q D A nL ws lv ck sl pc st0 := fun H locs ls hP hD hS hl => by
  have cw : CallW R s args own y.cls index y bb nY ret (g_wd y bb nY ret) rm mc ms nA := ⟨callB_of nA C.2.2.2.2.1 (g_goodC F.1) rfl hrm.1 hrm.2 (C.2.2.2.2.1 _ F.2.1) (C.2.2.2.2.1 _ hlink) F.2.2 hfl, C.2.2.2.2.1 _ G.1, C.2.2.2.2.1 _ G.2⟩
  have hFc := va_free hD hS C.2.2.2.2.2.2.1 isC hC
  refine vx_calll (vx_runV (Ts := gW) ⟨C.1, C.2.1, C.2.2.1, C.2.2.2.1, C.2.2.2.2.1⟩ (hM H.size) cw ⟨pr_blind, va_recv C.2.2.2.2.2.1 hP hci he, fun U hU hW => ⟨rfl, by rw [hU], by rw [hU]; exact hP.sub isC (fm_of hC), va_K.moved hW.alike C.2.2.2.2.2.1, (hD.sub isC hnC hC).weaken (fun _ _ _ _ => trivial), C.2.2.2.2.2.2.2.1.moved hW.alike, gB_warm hW C.2.2.2.2.2.2.2.2, fun h => (hE h).to hS hU hW (va_free hD hS C.2.2.2.2.2.2.1 isC hC)⟩⟩ rfl hlen hl.1 hst (lv_room hrest) dg hcap) hS (fun q _ h => hFc q h) hFc (fun q _ h => hFc q h) (fun E' ce q9 u t H1 locs1 ht hvm hpx hBX hz1 hk1 hS1 hce hcv hcls => ?_) (fun r u t H1 locs1 ht hvm hw hB hz1 hk1 hS1 => hw.elim)
  subst hBX
  have hP0 : va_P D gCl [] H1 := fun k q h => by simp at h
  have hD0 : va_D (va_A wc H.size) [] := ⟨fun i j p q h => by simp at h, fun k q h => by simp at h⟩
  obtain ⟨hP2, hD2⟩ := va_join hP hD isC isR hC hR hnR hdis hk1 hFc hP0 hD0
  rw [List.append_nil] at hP2 hD2
  exact vx_catch C.2.2.2.1 [] x suf hsplit (fun z hz => by cases hz) hx h0 (C.2.2.2.2.1 _ hcl) ((C.2.2.2.2.2.2.2.2 _ hcast).use rfl) hce hcv hcls (k q9 H1 locs1 ls hP2 hD2 hS1 hl)
theorem v_return (C : VC p s m args c D d A cc nL own) {S : Type} {w1 : S → va_W} {mc ms : Nat} (u : S) (hr : meth.sig.returnType = none) (hlocks : meth.locks = false) (is : List Nat) (hn : va_nd is = true) (hsub : is.map (fun i => ws[i]?) = (w1 u).map some) (hc : ck ≤ mc) (hs : sl ≤ ms) (dg : decode cc pc = .ok (.return_, 1)) : V p l e R s m args below meth c (MQ below (q_v D w1 A) args s mc ms A) D A nL ws lv ck sl pc [] := fun H locs ls hP hD hS hl => W.widen hc hs (W.vret C.1 C.2.1 hr (fun t ht hW => ⟨⟨u, rfl, trivial, by rw [ht]; exact hP.sub is (fm_of hsub), hD.sub is hn hsub⟩, hS.F ht⟩) hS.2.2 dg hlocks)
theorem v_ireturn (C : VC p s m args c D d A cc nL own) {S : Type} {w1 : S → va_W} {mc ms : Nat} (u : S) {K : Int32} (hr : meth.sig.returnType = some .int) (hlocks : meth.locks = false) (is : List Nat) (hn : va_nd is = true) (hsub : is.map (fun i => ws[i]?) = (w1 u).map some) (hc : ck ≤ mc) (hs : sl ≤ ms) (dg : decode cc pc = .ok (.ireturn, 1)) : V p l e R s m args below meth c (MQ below (q_i D K w1 A) args s mc ms A) D A nL ws lv ck sl pc [.int K] := fun H locs ls hP hD hS hl => W.widen hc hs (W.iret C.1 C.2.1 hr (fun t ht hW => ⟨⟨K, u, rfl, rfl, by rw [ht]; exact hP.sub is (fm_of hsub), hD.sub is hn hsub⟩, hS.F ht⟩) hS.2.2 dg hlocks)
theorem v_zreturn (C : VC p s m args c D d A cc nL own) {S : Type} {w1 : S → va_W} {mc ms : Nat} (u : S) {K : Int32} {ty : FieldType} (hr : meth.sig.returnType = some ty) (hnar : narrow ty (.int K) = .int K) (hlocks : meth.locks = false) (is : List Nat) (hn : va_nd is = true) (hsub : is.map (fun i => ws[i]?) = (w1 u).map some) (hc : ck ≤ mc) (hs : sl ≤ ms) (dg : decode cc pc = .ok (.ireturn, 1)) : V p l e R s m args below meth c (MQ below (q_i D K w1 A) args s mc ms A) D A nL ws lv ck sl pc [.int K] := fun H locs ls hP hD hS hl => W.widen hc hs (W.zret C.1 C.2.1 hr hnar (fun t ht hW => ⟨⟨K, u, rfl, rfl, by rw [ht]; exact hP.sub is (fm_of hsub), hD.sub is hn hsub⟩, hS.F ht⟩) hS.2.2 dg hlocks)
theorem v_lreturn (C : VC p s m args c D d A cc nL own) {S : Type} {w1 : S → va_W} {mc ms : Nat} (u : S) {K : Int64} (hr : meth.sig.returnType = some .long) (hlocks : meth.locks = false) (is : List Nat) (hn : va_nd is = true) (hsub : is.map (fun i => ws[i]?) = (w1 u).map some) (hc : ck ≤ mc) (hs : sl ≤ ms) (dg : decode cc pc = .ok (.lreturn, 1)) : V p l e R s m args below meth c (MQ below (q_l D K w1 A) args s mc ms A) D A nL ws lv ck sl pc [.long K] := fun H locs ls hP hD hS hl => W.widen hc hs (W.lret C.1 C.2.1 hr (fun t ht hW => ⟨⟨K, u, rfl, rfl, by rw [ht]; exact hP.sub is (fm_of hsub), hD.sub is hn hsub⟩, hS.F ht⟩) hS.2.2 dg hlocks)
theorem gB_tab : ∀ w ∈ gB, w.onTables = true := by decide +kernel
def g_xf (ic : Nat) (EX : String) : Prop := Bundle.fit EX = true ∧ (∀ n ∈ g_nm, Bundle.fit n = true) ∧ (∀ w ∈ (vx_atS RX11 ic EX g_nm).filter goodWord, w ∈ gW) ∧ (∀ w ∈ (vx_atS RX11 ic EX g_nm).filter (fun w => !goodWord w), w ∈ gB) ∧ ∀ w ∈ vx_atS RX11 ic EX g_nm, vx_ot w = true
theorem v_throwS (C : VC p s m args c D d A cc nL RX11) {Qc : Array Value → State → Outcome → State → Prop} {mc ms ik is ic : Nat} {EX text : String} (hlf : l.stackTraces = false) (hex : g_ex A s) (X : g_xf ic EX) (hk : Cond.classLink RX11 ik EX ∈ gW) (hini : Cond.initialized EX ∈ gW) (htx : (is, text) ∈ gTx) (hlocks : meth.locks = false) (hout : ∀ x ∈ c.exceptionTable.toList, False) (d0 : decode cc pc = .ok (.new ik, 3)) (d3 : decode cc (pc + 3) = .ok (.dup, 1)) (d4 : decode cc (pc + 4) = .ok (.ldc is, 2)) (d6 : decode cc (pc + 6) = .ok (.invokespecial ic, 3)) (d9 : decode cc (pc + 9) = .ok (.athrow, 1)) (hfr : 5 < R.frames) (hlo : (st.map fun v => v.category).sum + 82 ≤ R.locals) (hcap : ck + 1 ≤ R.cells ∧ sl + 6 ≤ R.slots) (hc : ck + 1 ≤ mc) (hs : sl + 6 ≤ ms) : V p l e R s m args below meth c (vx_MQ below Qc (g_XC EX A) args s mc ms A) D A nL ws lv ck sl pc st := fun H locs ls hP hD hS hl => by
  obtain ⟨h1, h2, h4⟩ := hex
  obtain ⟨sa, hsa⟩ := h4 _ htx
  have hat : ∀ w ∈ vx_atS RX11 ic EX g_nm, w.before args s = true := vx_hat (B := gB) (fun w hw => C.2.2.2.2.1 w (X.2.2.1 w hw)) X.2.2.2.1 (fun w hw => (C.2.2.2.2.2.2.2.2 w hw).use (gB_tab w hw))
  exact vx_throwS (names := g_nm) C.1 C.2.1 hlf C.2.2.2.1 X.1 X.2.1 (C.2.2.2.2.1 _ hk) (C.2.2.2.2.1 _ hini) hsa hat (fun w hw => (List.mem_cons.mp hw).elim (fun e => by rw [e]; rfl) (fun hw => (List.mem_cons.mp hw).elim (fun e => by rw [e]; rfl) (X.2.2.2.2 w))) h1 h2 hS (hl.1.trans C.2.2.1.symm) d0 d3 d4 d6 d9 (fun x hx => (hout x hx).elim) (by show 2 + 3 < R.frames; exact hfr) (by show _ + (13 * (2 + 1) + 43) ≤ _; exact hlo) hcap.1 hcap.2 hlocks (fun t hvm hz ho _ _ => ⟨(), trivial, rfl, ⟨Nat.le_trans hS.1 hz, fun q h1 h2 => (ho q (Nat.lt_of_lt_of_le h1 hS.1)).trans (hS.2.1 q h1 h2)⟩⟩) hS.2.2 hc hs
theorem v_throwSW (C : VC p s m args c D d A cc nL RX11) {Qc : Array Value → State → Outcome → State → Prop} {mc ms ik is ic : Nat} {EX text : String} (hlf : l.stackTraces = false) (hex : g_ex A s) (X : g_xf ic EX) (hk : Cond.classLink RX11 ik EX ∈ gW) (hini : Cond.initialized EX ∈ gW) (htx : (is, text) ∈ gTx) (hlocks : meth.locks = false) (hout : ∀ x ∈ c.exceptionTable.toList, False) (d0 : decode cc pc = .ok (.new ik, 3)) (d3 : decode cc (pc + 3) = .ok (.dup, 1)) (d4 : decode cc (pc + 4) = .ok (.ldc_w is, 3)) (d6 : decode cc (pc + 7) = .ok (.invokespecial ic, 3)) (d9 : decode cc (pc + 10) = .ok (.athrow, 1)) (hfr : 5 < R.frames) (hlo : (st.map fun v => v.category).sum + 82 ≤ R.locals) (hcap : ck + 1 ≤ R.cells ∧ sl + 6 ≤ R.slots) (hc : ck + 1 ≤ mc) (hs : sl + 6 ≤ ms) : V p l e R s m args below meth c (vx_MQ below Qc (g_XC EX A) args s mc ms A) D A nL ws lv ck sl pc st := fun H locs ls hP hD hS hl => by
  obtain ⟨h1, h2, h4⟩ := hex
  obtain ⟨sa, hsa⟩ := h4 _ htx
  have hat : ∀ w ∈ vx_atS RX11 ic EX g_nm, w.before args s = true := vx_hat (B := gB) (fun w hw => C.2.2.2.2.1 w (X.2.2.1 w hw)) X.2.2.2.1 (fun w hw => (C.2.2.2.2.2.2.2.2 w hw).use (gB_tab w hw))
  exact vx_throwSW (names := g_nm) C.1 C.2.1 hlf C.2.2.2.1 X.1 X.2.1 (C.2.2.2.2.1 _ hk) (C.2.2.2.2.1 _ hini) hsa hat (fun w hw => (List.mem_cons.mp hw).elim (fun e => by rw [e]; rfl) (fun hw => (List.mem_cons.mp hw).elim (fun e => by rw [e]; rfl) (X.2.2.2.2 w))) h1 h2 hS (hl.1.trans C.2.2.1.symm) d0 d3 d4 d6 d9 (fun x hx => (hout x hx).elim) (by show 2 + 3 < R.frames; exact hfr) (by show _ + (13 * (2 + 1) + 43) ≤ _; exact hlo) hcap.1 hcap.2 hlocks (fun t hvm hz ho _ _ => ⟨(), trivial, rfl, ⟨Nat.le_trans hS.1 hz, fun q h1 h2 => (ho q (Nat.lt_of_lt_of_le h1 hS.1)).trans (hS.2.1 q h1 h2)⟩⟩) hS.2.2 hc hs
end VB
section VM
variable {l : Launch} {D : va_G} {d : Nat → ClassId} {y : MethodName} {rm : Room} {av : List Value} {W0 : va_W} {mc ms : Nat} {cc : ByteArray} {maxL : Nat} {ret : Option FieldType} {E : Bool}
theorem s_met {Qf : (Nat → Prop) → Array Value → State → Outcome → State → Prop} (hy : plainName y.cls = true) (hlen : (lg_sl av).length ≤ maxL) (lv0 : List (Nat × Value)) (hlv : lv_args 0 av = lv0)
    (body : ∀ (p : Program) (e : Env) (s : State) (m : MethodId) (below : List Frame) (meth : Method) (c : Code) (A : Nat → Prop), VC p s m av.toArray c D d A cc maxL y.cls → meth.sig.returnType = ret → meth.locks = false → meth.name = y.name → (E = true → g_ex A s) → V p l e rm s m av.toArray below meth c (MQ below (Qf A) av.toArray s mc ms A) D A maxL W0 lv0 0 0 0 []) :
    ∀ sz, Met l y (g_wd y cc maxL ret) rm (va_Pc av (g_pr E D d W0 sz)) (Qf (va_A W0 sz)) mc ms (va_A W0 sz) := by
  intro sz
  refine Met.ofW (cc := cc) (maxL := maxL) (ret := ret) hy rfl ?_
  intro p e s m args below meth c s₁ B hml hv
  obtain ⟨rfl, hsz, hP, hK, hD0, hO, hB, hE⟩ := hv
  subst hsz
  rw [lg_entry_eq]
  have hts := atoms_spec (ws := g_wd y cc maxL ret) B.pre
  exact body p e s m below meth c (va_A W0 s.heap.size) ⟨B.exec, B.bytes, hml, findClass_of_methodNamed B.named, fun w hw => hts w (List.mem_cons_of_mem _ hw), hK, fun q h => Or.inr h, hO, hB⟩ B.returns B.notSynchronized (name_of_methodNamed B.named B.method).1 hE s.heap [] _ hP hD0.self va_S.rf (hlv ▸ lv_entry av hlen)
/-- a body that throws -/
theorem s_metX {Qf : (Nat → Prop) → Array Value → State → Outcome → State → Prop} {XF : (Nat → Prop) → String → State → State → Prop} (hy : plainName y.cls = true) (hlen : (lg_sl av).length ≤ maxL) (lv0 : List (Nat × Value)) (hlv : lv_args 0 av = lv0)
    (body : ∀ (p : Program) (e : Env) (s : State) (m : MethodId) (below : List Frame) (meth : Method) (c : Code) (A : Nat → Prop), VC p s m av.toArray c D d A cc maxL y.cls → meth.sig.returnType = ret → meth.locks = false → (∀ x ∈ c.exceptionTable.toList, False) → (E = true → g_ex A s) → V p l e rm s m av.toArray below meth c (vx_MQ below (Qf A) (XF A) av.toArray s mc ms A) D A maxL W0 lv0 0 0 0 []) :
    ∀ sz, vx_Met l y (g_wd y cc maxL ret) rm (va_Pc av (g_pr E D d W0 sz)) (Qf (va_A W0 sz)) (XF (va_A W0 sz)) mc ms (va_A W0 sz) := by
  intro sz
  refine vx_ofW (cc := cc) (maxL := maxL) (ret := ret) hy rfl ?_
  intro p e s m args below meth c s₁ B hml hno hv
  obtain ⟨rfl, hsz, hP, hK, hD0, hO, hB, hE⟩ := hv
  subst hsz
  rw [lg_entry_eq]
  have hts := atoms_spec (ws := g_wd y cc maxL ret) B.pre
  exact body p e s m below meth c (va_A W0 s.heap.size) ⟨B.exec, B.bytes, hml, findClass_of_methodNamed B.named, fun w hw => hts w (List.mem_cons_of_mem _ hw), hK, fun q h => Or.inr h, hO, hB⟩ B.returns B.notSynchronized hno hE s.heap [] _ hP hD0.self va_S.rf (hlv ▸ lv_entry av hlen)
/-- a body with a table that returns -/
theorem s_metH {hh : List (Nat × Nat × Nat × Nat)} {Qf : (Nat → Prop) → Array Value → State → Outcome → State → Prop} (hy : plainName y.cls = true) (hlen : (lg_sl av).length ≤ maxL) (lv0 : List (Nat × Value)) (hlv : lv_args 0 av = lv0)
    (body : ∀ (p : Program) (e : Env) (s : State) (m : MethodId) (below : List Frame) (meth : Method) (c : Code) (A : Nat → Prop), VC p s m av.toArray c D d A cc maxL y.cls → meth.sig.returnType = ret → meth.locks = false → c.exceptionTable.toList = tableOf hh → (E = true → g_ex A s) → V p l e rm s m av.toArray below meth c (MQ below (Qf A) av.toArray s mc ms A) D A maxL W0 lv0 0 0 0 []) :
    ∀ sz, Met l y (g_wh y cc maxL ret hh) rm (va_Pc av (g_pr E D d W0 sz)) (Qf (va_A W0 sz)) mc ms (va_A W0 sz) := by
  intro sz
  refine MetFree.of_bodyS (code := cc) (maxLocals := maxL) (ret := ret) hy ?_ ?_
  · intro args s m h hn
    obtain ⟨m9, meth, c, hn9, h1, h2, h3, h4, -, h5, h6, -⟩ := Cond.codeWith_spec (atoms_spec (ws := g_wh y cc maxL ret hh) h _ List.mem_cons_self)
    cases hn.symm.trans hn9
    exact ⟨meth, c, h1, h2, h3, h4, h5, h6⟩
  · intro p e s m args below meth c s₁ B hml hP _
    obtain ⟨rfl, hsz, hP, hK, hD0, hO, hB, hE⟩ := hP
    subst hsz
    have hh0 : s₁.heap = s.heap := by rw [B.state]; rfl
    have hts := atoms_spec (ws := g_wh y cc maxL ret hh) B.pre
    have htab := vx_table (x := y) B (hts _ List.mem_cons_self)
    have K := body p e s m below meth c (va_A W0 s.heap.size) ⟨B.exec, B.bytes, hml, findClass_of_methodNamed B.named, fun w hw => hts w (List.mem_cons_of_mem _ hw), hK, fun q h => Or.inr h, hO, hB⟩ B.returns B.notSynchronized htab hE s.heap [] _ hP hD0.self va_S.rf (hlv ▸ lv_entry av hlen)
    rw [← lg_entry_eq] at K
    obtain ⟨t, a1, o, b1, b2, b3, b4⟩ := K s₁ hh0 (Stand.of_body B)
    exact ⟨t, o, a1, b1, b2, b3, b4⟩
end VM
end
section
section XA
abbrev iv (x : Int) : Value := .int (Int32.ofInt x)
def fo0 (K : Nat → Nat) (m : Nat → Int) : List Value := [.ref (K 1), .ref (K 2), .ref (K 3), .ref (K 4), .ref (K 5), .ref (K 6), .ref (K 100), .ref (K 101), .ref (K 102), .ref (K 89), iv (m 10)]
def fo1 (K : Nat → Nat) (m : Nat → Int) : List Value := [.ref (K 8), .ref (K 9), .ref (K 10), .ref (K 11), .ref (K 12), .ref (K 13), .ref (K 14), iv (m 7), iv (m 8), iv (m 9), iv (m 10)]
def fo2 (K : Nat → Nat) (m : Nat → Int) : List Value := [.ref (K 1), .ref (K 23), .ref (K 25), .ref (K 27), .ref (K 29), .ref (K 31), .ref (K 33), .ref (K 103), iv (m 8), iv (m 9), iv (m 10), iv (m 11), iv (m 12)]
def fo3 (K : Nat → Nat) (m : Nat → Int) : List Value := [.ref (K 2), .ref (K 35), .ref (K 37), .ref (K 39), .ref (K 41), .ref (K 21), iv (m 6)]
def fo4 (K : Nat → Nat) (m : Nat → Int) : List Value := [.ref (K 1), .ref (K 43), .ref (K 45), .ref (K 47), .ref (K 49), .ref (K 51), .ref (K 53), .ref (K 55), .ref (K 57), .ref (K 59), .ref (K 61), .ref (K 63), .ref (K 65), .ref (K 67), .ref (K 69), iv (m 15), iv (m 16), iv (m 17), iv (m 18), iv (m 19)]
def fo5 (K : Nat → Nat) (m : Nat → Int) : List Value := [.ref (K 1), .ref (K 2), .ref (K 3), .ref (K 4), .ref (K 7), .ref (K 15), .ref (K 16), iv (m 7), .ref (K 104), .ref (K 105), iv (m 10), .ref (K 17), .ref (K 18), iv (m 13), .ref (K 19), .ref (K 20), .ref (K 87), iv (m 17)]
def fo6 (K : Nat → Nat) (m : Nat → Int) : List Value := [.ref (K 1), .ref (K 2), .ref (K 22), iv (m 3), iv (m 4), iv (m 5), iv (m 6), iv (m 7), iv (m 8), iv (m 9), .ref (K 106), .ref (K 107), .ref (K 108), .ref (K 109), iv (m 14), .ref (K 110), .ref (K 111), .ref (K 112), iv (m 18)]
def fo7 (K : Nat → Nat) (m : Nat → Int) : List Value := [.ref (K 2), .ref (K 3), .ref (K 71), .ref (K 73), .ref (K 75), .ref (K 77), .ref (K 79), .ref (K 81), .ref (K 83), .ref (K 85), iv (m 10)]
def nbR (r : Nat) : Nat := [513, 1537, 513, 513, 513, 33, 513, 129, 129, 129, 129, 129, 385, 129, 129, 385, 129, 129, 129, 129, 129, 129, 129, 129, 129, 129, 129, 129, 129, 385, 17, 129, 513, 129].getD r 0
def we (K : Nat → Nat) (d : Nat → ClassId) (B : Nat → Nat → Option Nat) (m : Nat → Int) : Nat → va_E
  | 0 => .inr (11, fo0 K m)
  | 1 => .inr (7, fo1 K m)
  | 2 => .inr (8, fo2 K m)
  | 3 => .inr (10, fo3 K m)
  | 4 => .inr (2, fo4 K m)
  | 5 => .inr (9, fo5 K m)
  | 6 => .inr (5, fo6 K m)
  | 7 => .inr (1, fo7 K m)
  | 8 => .inl (d 1, 192, .inl (fun i => Int32.ofInt (m i)))
  | 9 => .inl (d 0, 24, .inl (fun i => Int32.ofInt (m i)))
  | 10 => .inl (d 0, 24, .inl (fun i => Int32.ofInt (m i)))
  | 11 => .inl (d 0, 24, .inl (fun i => Int32.ofInt (m i)))
  | 12 => .inl (d 0, 24, .inl (fun i => Int32.ofInt (m i)))
  | 13 => .inl (d 0, 24, .inl (fun i => Int32.ofInt (m i)))
  | 14 => .inl (d 2, 24, .inl (fun i => Int32.ofInt (m i)))
  | 15 => .inl (d 0, 30, .inl (fun i => Int32.ofInt (m i)))
  | 16 => .inl (d 0, 30, .inl (fun i => Int32.ofInt (m i)))
  | 17 => .inl (d 0, 8, .inl (fun i => Int32.ofInt (m i)))
  | 18 => .inl (d 0, 8, .inl (fun i => Int32.ofInt (m i)))
  | 19 => .inl (d 0, 30, .inl (fun i => Int32.ofInt (m i)))
  | 20 => .inl (d 0, 30, .inl (fun i => Int32.ofInt (m i)))
  | 21 => .inl (d 0, 256, .inl (fun i => Int32.ofInt (m i)))
  | 22 => .inl (d 1, 400, .inl (fun i => Int32.ofInt (m i)))
  | j + 23 => if j % 2 = 0 then .inr (6, [.ref (K (j + 24))]) else .inl (d 4, nbR (j / 2), .inr (.inr (.inr (.inr (B (j / 2))))))
def BA (LB : g_B) (r b : Nat) : Option Nat := (LB.find? (fun q => q.1 == r && q.2.1 == b)).map (fun q => q.2.2)
def bl (d : Nat → ClassId) (M : g_M) (LB : g_B) : va_W := LB.map (fun q => (q.2.2, .inl (d 0, 1024, .inl (fun i => Int32.ofInt (M q.1 (1024 * q.2.1 + i))))))
def fx (K : Nat → Nat) (d : Nat → ClassId) (M : g_M) (LB : g_B) : va_W := (List.range 91).map (fun j => (K j, we K d (BA LB) (M (40 + j)) j))
def wd (K : Nat → Nat) (d : Nat → ClassId) (L : va_W) (M : g_M) (LB : g_B) : va_W := fx K d M LB ++ (L ++ bl d M LB)
def g_wf (M : g_M) (LB : g_B) : Prop := (∀ q ∈ LB, q.1 < 34 ∧ q.2.1 < capB q.1) ∧ (LB.map (fun q => 64 * q.1 + q.2.1)).Nodup ∧ (∀ r i, r < 34 → BA LB r (i / 1024) = none → M r i = 0) ∧ 0 ≤ M 99 0 ∧ M 99 0 ≤ 1000
def nC (M : g_M) (LB : g_B) : Int := LB.length + M 99 0
def nS (M : g_M) (LB : g_B) : Int := 1024 * LB.length + 6 * M 99 0
def cC (M : g_M) (LB : g_B) : Nat := (3176 - nC M LB).toNat
def cS (M : g_M) (LB : g_B) : Nat := (2234224 - nS M LB).toNat
theorem nodup_len : ∀ (n : Nat) (l : List Nat), l.Nodup → (∀ x ∈ l, x < n) → l.length ≤ n
  | 0, [], _, _ => Nat.le_refl _
  | 0, x :: l, _, h => absurd (h x List.mem_cons_self) (Nat.not_lt_zero _)
  | n + 1, l, hn, h => by
    have h1 := nodup_len n (l.erase n) (hn.erase n) (fun x hx => by
      have h2 := (List.Nodup.mem_erase_iff hn).mp hx
      have h3 := h x h2.2
      have h4 := h2.1
      omega)
    rw [List.length_erase] at h1
    split at h1 <;> omega
theorem capB_le (r : Nat) : capB r ≤ 64 := by
  unfold capB
  split
  · decide
  · split <;> decide
theorem g_wf.len {M : g_M} {LB : g_B} (h : g_wf M LB) : LB.length ≤ 2176 := by
  have h1 := nodup_len 2176 _ h.2.1 (fun x hx => by
    obtain ⟨q, hq, rfl⟩ := List.mem_map.mp hx
    have h2 := h.1 q hq
    have h3 := capB_le q.1
    omega)
  simpa using h1
theorem g_wf.cap {M : g_M} {LB : g_B} (h : g_wf M LB) : 0 ≤ nC M LB ∧ nC M LB ≤ 3176 ∧ 0 ≤ nS M LB ∧ nS M LB ≤ 2234224 := by
  have h1 := h.len
  have h2 := h.2.2.2
  unfold nC nS
  omega
theorem fx_at (K : Nat → Nat) (d : Nat → ClassId) (L : va_W) (M : g_M) (LB : g_B) {j : Nat} (hj : j < 91) : (wd K d L M LB)[j]? = some (K j, we K d (BA LB) (M (40 + j)) j) := by
  unfold wd fx
  rw [List.getElem?_append_left (by simpa using hj), List.getElem?_map, List.getElem?_range hj]
  rfl
theorem fx_len (K : Nat → Nat) (d : Nat → ClassId) (M : g_M) (LB : g_B) : (fx K d M LB).length = 91 := by simp [fx]
theorem L_at (K : Nat → Nat) (d : Nat → ClassId) (L : va_W) (M : g_M) (LB : g_B) {j : Nat} (hj : j < L.length) : (wd K d L M LB)[91 + j]? = L[j]? := by
  unfold wd
  rw [List.getElem?_append_right (by rw [fx_len]; omega), fx_len, Nat.add_sub_cancel_left, List.getElem?_append_left hj]
theorem bl_at (K : Nat → Nat) (d : Nat → ClassId) (L : va_W) (M : g_M) (LB : g_B) (i : Nat) : (wd K d L M LB)[91 + (L.length + i)]? = (bl d M LB)[i]? := by
  unfold wd
  rw [List.getElem?_append_right (by rw [fx_len]; omega), fx_len, Nat.add_sub_cancel_left, List.getElem?_append_right (by omega), Nat.add_sub_cancel_left]
theorem we_row {K : Nat → Nat} {d : Nat → ClassId} {B : Nat → Nat → Option Nat} {m : Nat → Int} {r : Nat} : we K d B m (23 + 2 * r) = .inr (6, [.ref (K (24 + 2 * r))]) := by
  rw [show 23 + 2 * r = 2 * r + 23 by omega]
  show (if (2 * r) % 2 = 0 then _ else _) = _
  rw [if_pos (by omega), show 2 * r + 24 = 24 + 2 * r by omega]
theorem we_out {K : Nat → Nat} {d : Nat → ClassId} {B : Nat → Nat → Option Nat} {m : Nat → Int} {r : Nat} : we K d B m (24 + 2 * r) = .inl (d 4, nbR r, .inr (.inr (.inr (.inr (B r))))) := by
  rw [show 24 + 2 * r = (2 * r + 1) + 23 by omega]
  show (if (2 * r + 1) % 2 = 0 then _ else _) = _
  rw [if_neg (by omega), show (2 * r + 1) / 2 = r by omega]
/-- a cell of the fixed part is set anew -/
theorem wd_set {K : Nat → Nat} {d : Nat → ClassId} {L : va_W} {M M' : g_M} {LB : g_B} {j : Nat} {x : va_E} (hj : j < 91) (hx : we K d (BA LB) (M' (40 + j)) j = x) (ho : ∀ a, a ≠ 40 + j → M' a = M a) (hb : ∀ q ∈ LB, q.1 < 34) : (wd K d L M LB).set j (K j, x) = wd K d L M' LB := by
  unfold wd
  rw [List.set_append_left _ _ (by rw [fx_len]; exact hj)]
  have h1 : (fx K d M LB).set j (K j, x) = fx K d M' LB := by
    refine List.ext_getElem? (fun i => ?_)
    by_cases hi : i < 91
    · have e0 : ∀ N : g_M, (fx K d N LB)[i]? = some (K i, we K d (BA LB) (N (40 + i)) i) := fun N => by
        unfold fx
        rw [List.getElem?_map, List.getElem?_range hi]
        rfl
      by_cases hij : i = j
      · subst hij
        rw [List.getElem?_set_self (by rw [fx_len]; exact hi), e0, hx]
      · rw [List.getElem?_set_ne (Ne.symm hij), e0, e0, ho (40 + i) (by omega)]
    · rw [List.getElem?_eq_none (by rw [List.length_set, fx_len]; omega), List.getElem?_eq_none (by rw [fx_len]; omega)]
  have h2 : bl d M LB = bl d M' LB := by
    unfold bl
    refine List.map_congr_left (fun q hq => ?_)
    have h3 := hb q hq
    rw [ho q.1 (by omega)]
  rw [h1, h2]
theorem up_self (M : g_M) (a i : Nat) (v : Int) : up M a i v a i = v := by simp [up]
theorem up_ne {M : g_M} {a i b : Nat} {v : Int} (h : b ≠ a) : up M a i v b = M b := by
  funext j
  simp [up, h]
theorem up_row (M : g_M) (a i : Nat) (v : Int) : up M a i v a = fun j => if j = i then v else M a j := by
  funext j
  simp [up]
theorem ofInt_toInt (x : Int32) : Int32.ofInt x.toInt = x := Int32.ofInt_toInt x
theorem toInt_ofInt (x : Int) : (Int32.ofInt x).toInt = bm x := Int32.toInt_ofInt
theorem i_eq (x y : Int) : Int32.ofInt x = Int32.ofInt y ↔ bm x = bm y := by rw [← Int32.toInt_inj, toInt_ofInt, toInt_ofInt]
theorem i_lt (x y : Int) : Int32.ofInt x < Int32.ofInt y ↔ bm x < bm y := by rw [Int32.lt_iff_toInt_lt, toInt_ofInt, toInt_ofInt]
theorem i_ge (x y : Int) : Int32.ofInt y ≤ Int32.ofInt x ↔ ¬ bm x < bm y := by rw [Int32.le_iff_toInt_le, toInt_ofInt, toInt_ofInt]; omega
theorem i_zero : (0 : Int32) = Int32.ofInt 0 := by decide
theorem bm_zero : bm 0 = 0 := by decide
theorem bm_lt (x : Int) : -2147483648 ≤ bm x ∧ bm x < 2147483648 := by
  unfold bm
  have h1 := Int.le_bmod (x := x) (m := 4294967296) (by decide)
  have h2 := Int.bmod_lt (x := x) (m := 4294967296) (by decide)
  omega
theorem i_in {i : Int} {n : Nat} (h : inI i n) : vp_in (Int32.ofInt i) n := by
  unfold vp_in
  have h1 := h.1
  have h2 := h.2
  intro hh
  rcases hh with hh | hh
  · rw [i_zero, i_lt, bm_zero] at hh
    omega
  · rw [show (Int32.ofInt i).toNatClampNeg = (bm i).toNat by rw [← toInt_ofInt]; rfl] at hh
    omega
theorem i_nat (i : Int) : (Int32.ofInt i).toNatClampNeg = (bm i).toNat := by rw [← toInt_ofInt]; rfl
theorem i_bool {v : Int} (h : isB v) : narrow .boolean (iv v) = iv v ∧ fits .boolean (iv v) = true := by
  rcases h with rfl | rfl <;> exact ⟨by decide +kernel, by decide +kernel⟩
theorem i_byte {v : Int} (h : isY v) : narrow .byte (iv v) = iv v := by
  show Value.int (Int32.ofInt v).toInt8.toInt32 = Value.int (Int32.ofInt v)
  congr 1
  rw [← Int32.toInt_inj, Int8.toInt_toInt32, Int32.toInt_toInt8, toInt_ofInt]
  have h1 : bm v = v := by unfold bm; exact Int.bmod_eq_of_le (by have := h.1; omega) (by have := h.2; omega)
  rw [h1]
  exact Int.bmod_eq_of_le (by have := h.1; omega) (by have := h.2; omega)
end XA
section XB
def XH (D : va_G) (d : Nat → ClassId) (K : Nat → Nat) (A : Nat → Prop) (s : State) (zc zs : Int) (L : va_W) (M : g_M) (LB : g_B) (H : Heap) (locs : List Loc) : Prop :=
  g_wf M LB ∧ va_P D gCl (wd K d L M LB) H ∧ va_D A (wd K d L M LB) ∧ va_S A s.heap H locs ∧ (H.size : Int) ≤ zc + nC M LB ∧ (TOT H : Int) ≤ zs + nS M LB
def X (p : Program) (l : Launch) (e : Env) (R : Room) (s : State) (m : MethodId) (args : Array Value) (below : List Frame) (meth : Method) (c : Code) (Q : State → Prop) (D : va_G) (d : Nat → ClassId) (K : Nat → Nat) (A : Nat → Prop) (nL : Nat) (zc zs : Int) (L : va_W) (M : g_M) (lv : List (Nat × Value)) (pc : Nat) (st : List Value) : Prop :=
  ∀ (H : Heap) (locs : List Loc) (ls : Array Slot) (LB : g_B), XH D d K A s zc zs L M LB H locs → lv_has ls nL lv → W p l e R s m args below meth c H locs R.cells R.slots Q (F0 m pc ls st)
def XC (p : Program) (R : Room) (s : State) (m : MethodId) (args : Array Value) (c : Code) (D : va_G) (d : Nat → ClassId) (A : Nat → Prop) (cc : ByteArray) (nL : Nat) (own : String) (lvl : Nat) (zc zs : Int) : Prop :=
  VC p s m args c D d A cc nL own ∧ g_ex A s ∧ lvl + 6 ≤ R.frames ∧ 150 + 50 * lvl ≤ R.locals ∧ zc + 3176 - s.heap.size ≤ R.cells ∧ zs + 2234224 - TOT s.heap ≤ R.slots
variable {p : Program} {l : Launch} {e : Env} {R : Room} {s : State} {m : MethodId} {args : Array Value} {below : List Frame} {meth : Method} {c : Code} {Q : State → Prop} {D : va_G} {d : Nat → ClassId} {K : Nat → Nat} {A : Nat → Prop} {cc : ByteArray} {nL lvl : Nat} {own : String} {zc zs : Int} {L : va_W} {M : g_M} {lv : List (Nat × Value)} {pc : Nat} {st : List Value}

theorem x_lv {lv' : List (Nat × Value)} (ks : List Nat) (h : lv_pick lv ks = lv') (k : X p l e R s m args below meth c Q D d K A nL zc zs L M lv' pc st) : X p l e R s m args below meth c Q D d K A nL zc zs L M lv pc st := fun H locs ls LB hh hl => k H locs ls LB hh (lv_sub hl ks h)
theorem x_iconst (C : XC p R s m args c D d A cc nL own lvl zc zs) {n : Int} (dg : decode cc pc = .ok (.iconst n, 1)) (k : X p l e R s m args below meth c Q D d K A nL zc zs L M lv (pc + 1) (iv n :: st)) : X p l e R s m args below meth c Q D d K A nL zc zs L M lv pc st := fun H locs ls LB hh hl => lv_iconst C.1.1 C.1.2.1 dg rfl (k H locs ls LB hh hl)
theorem x_bipush (C : XC p R s m args c D d A cc nL own lvl zc zs) {n : Int} (h1 : -128 ≤ n) (h2 : n ≤ 127) (dg : decode cc pc = .ok (.bipush n, 2)) (k : X p l e R s m args below meth c Q D d K A nL zc zs L M lv (pc + 2) (iv n :: st)) : X p l e R s m args below meth c Q D d K A nL zc zs L M lv pc st := fun H locs ls LB hh hl => lv_bipush C.1.1 C.1.2.1 dg (by
  rw [← Int32.toInt_inj, Int8.toInt_toInt32, Int8.toInt_ofInt, toInt_ofInt]
  unfold bm
  rw [Int.bmod_eq_of_le (by simp only [Int8.size, Int16.size]; omega) (by simp only [Int8.size, Int16.size]; omega)]
  exact (Int.bmod_eq_of_le (by omega) (by omega)).symm) (k H locs ls LB hh hl)
theorem x_sipush (C : XC p R s m args c D d A cc nL own lvl zc zs) {n : Int} (h1 : -32768 ≤ n) (h2 : n ≤ 32767) (dg : decode cc pc = .ok (.sipush n, 3)) (k : X p l e R s m args below meth c Q D d K A nL zc zs L M lv (pc + 3) (iv n :: st)) : X p l e R s m args below meth c Q D d K A nL zc zs L M lv pc st := fun H locs ls LB hh hl => lv_sipush C.1.1 C.1.2.1 dg (by
  rw [← Int32.toInt_inj, Int16.toInt_toInt32, Int16.toInt_ofInt, toInt_ofInt]
  unfold bm
  rw [Int.bmod_eq_of_le (by simp only [Int8.size, Int16.size]; omega) (by simp only [Int8.size, Int16.size]; omega)]
  exact (Int.bmod_eq_of_le (by omega) (by omega)).symm) (k H locs ls LB hh hl)
theorem x_ldc (C : XC p R s m args c D d A cc nL own lvl zc zs) {n : Int} {i : Nat} (hc : Cond.constant own i (Int32.ofInt n) ∈ gW) (dg : decode cc pc = .ok (.ldc i, 2)) (k : X p l e R s m args below meth c Q D d K A nL zc zs L M lv (pc + 2) (iv n :: st)) : X p l e R s m args below meth c Q D d K A nL zc zs L M lv pc st := fun H locs ls LB hh hl => lv_ldc C.1.1 C.1.2.1 C.1.2.2.2.1 (C.1.2.2.2.2.1 _ hc) dg (k H locs ls LB hh hl)
theorem x_iload_n (C : XC p R s m args c D d A cc nL own lvl zc zs) {j : Fin 4} {i : Nat} {x : Int32} (dg : decode cc pc = .ok (.iload_n j, 1)) (hi : (j : Nat) = i) (q : Nat) (hq : lv[q]? = some (i, .int x)) (k : X p l e R s m args below meth c Q D d K A nL zc zs L M lv (pc + 1) (.int x :: st)) : X p l e R s m args below meth c Q D d K A nL zc zs L M lv pc st := fun H locs ls LB hh hl => lv_iload_n C.1.1 C.1.2.1 dg hi (lv_at hl q hq) (k H locs ls LB hh hl)
theorem x_iload (C : XC p R s m args c D d A cc nL own lvl zc zs) {i : Nat} {x : Int32} (dg : decode cc pc = .ok (.iload i, 2)) (q : Nat) (hq : lv[q]? = some (i, .int x)) (k : X p l e R s m args below meth c Q D d K A nL zc zs L M lv (pc + 2) (.int x :: st)) : X p l e R s m args below meth c Q D d K A nL zc zs L M lv pc st := fun H locs ls LB hh hl => lv_iload C.1.1 C.1.2.1 dg (lv_at hl q hq) (k H locs ls LB hh hl)
theorem x_aload_n (C : XC p R s m args c D d A cc nL own lvl zc zs) {j : Fin 4} {i : Nat} {x : Nat} (dg : decode cc pc = .ok (.aload_n j, 1)) (hi : (j : Nat) = i) (q : Nat) (hq : lv[q]? = some (i, .ref x)) (k : X p l e R s m args below meth c Q D d K A nL zc zs L M lv (pc + 1) (.ref x :: st)) : X p l e R s m args below meth c Q D d K A nL zc zs L M lv pc st := fun H locs ls LB hh hl => lv_aload_n C.1.1 C.1.2.1 dg hi (lv_at hl q hq) (k H locs ls LB hh hl)
theorem x_aload (C : XC p R s m args c D d A cc nL own lvl zc zs) {i : Nat} {x : Nat} (dg : decode cc pc = .ok (.aload i, 2)) (q : Nat) (hq : lv[q]? = some (i, .ref x)) (k : X p l e R s m args below meth c Q D d K A nL zc zs L M lv (pc + 2) (.ref x :: st)) : X p l e R s m args below meth c Q D d K A nL zc zs L M lv pc st := fun H locs ls LB hh hl => lv_aload C.1.1 C.1.2.1 dg (lv_at hl q hq) (k H locs ls LB hh hl)
theorem x_istore_n (C : XC p R s m args c D d A cc nL own lvl zc zs) {j : Fin 4} {i : Nat} {x : Int32} (dg : decode cc pc = .ok (.istore_n j, 1)) (hi : (j : Nat) = i) (hn : i < nL) (lv' : List (Nat × Value)) (he : (i, Value.int x) :: lv.filter (fun q => !(q.1 == i) && !(q.1 + 1 == i && q.2.category == 2)) = lv') (k : X p l e R s m args below meth c Q D d K A nL zc zs L M lv' (pc + 1) st) : X p l e R s m args below meth c Q D d K A nL zc zs L M lv pc (.int x :: st) := fun H locs ls LB hh hl => lv_istore_n C.1.1 C.1.2.1 dg hi hl hn he (fun ls' hl' => k H locs ls' LB hh hl')
theorem x_istore (C : XC p R s m args c D d A cc nL own lvl zc zs) {i : Nat} {x : Int32} (dg : decode cc pc = .ok (.istore i, 2)) (hn : i < nL) (lv' : List (Nat × Value)) (he : (i, Value.int x) :: lv.filter (fun q => !(q.1 == i) && !(q.1 + 1 == i && q.2.category == 2)) = lv') (k : X p l e R s m args below meth c Q D d K A nL zc zs L M lv' (pc + 2) st) : X p l e R s m args below meth c Q D d K A nL zc zs L M lv pc (.int x :: st) := fun H locs ls LB hh hl => lv_istore C.1.1 C.1.2.1 dg hl hn he (fun ls' hl' => k H locs ls' LB hh hl')
theorem x_astore_n (C : XC p R s m args c D d A cc nL own lvl zc zs) {j : Fin 4} {i : Nat} {x : Nat} (dg : decode cc pc = .ok (.astore_n j, 1)) (hi : (j : Nat) = i) (hn : i < nL) (lv' : List (Nat × Value)) (he : (i, Value.ref x) :: lv.filter (fun q => !(q.1 == i) && !(q.1 + 1 == i && q.2.category == 2)) = lv') (k : X p l e R s m args below meth c Q D d K A nL zc zs L M lv' (pc + 1) st) : X p l e R s m args below meth c Q D d K A nL zc zs L M lv pc (.ref x :: st) := fun H locs ls LB hh hl => lv_astore_n C.1.1 C.1.2.1 dg hi hl hn he (fun ls' hl' => k H locs ls' LB hh hl')
theorem x_astore (C : XC p R s m args c D d A cc nL own lvl zc zs) {i : Nat} {x : Nat} (dg : decode cc pc = .ok (.astore i, 2)) (hn : i < nL) (lv' : List (Nat × Value)) (he : (i, Value.ref x) :: lv.filter (fun q => !(q.1 == i) && !(q.1 + 1 == i && q.2.category == 2)) = lv') (k : X p l e R s m args below meth c Q D d K A nL zc zs L M lv' (pc + 2) st) : X p l e R s m args below meth c Q D d K A nL zc zs L M lv pc (.ref x :: st) := fun H locs ls LB hh hl => lv_astore C.1.1 C.1.2.1 dg hl hn he (fun ls' hl' => k H locs ls' LB hh hl')
theorem x_iinc (C : XC p R s m args c D d A cc nL own lvl zc zs) {i : Nat} {n x : Int} (dg : decode cc pc = .ok (.iinc i n, 3)) (q : Nat) (hq : lv[q]? = some (i, iv x)) (hn : i < nL) (lv' : List (Nat × Value)) (he : (i, iv (x + n)) :: lv.filter (fun q => !(q.1 == i) && !(q.1 + 1 == i && q.2.category == 2)) = lv') (k : X p l e R s m args below meth c Q D d K A nL zc zs L M lv' (pc + 3) st) : X p l e R s m args below meth c Q D d K A nL zc zs L M lv pc st := fun H locs ls LB hh hl => lv_iinc C.1.1 C.1.2.1 dg hl (k := q) hq (Int32.ofInt_add x n).symm hn he (fun ls' hl' => k H locs ls' LB hh hl')
theorem x_iadd (C : XC p R s m args c D d A cc nL own lvl zc zs) {x y : Int} (dg : decode cc pc = .ok (.iadd, 1)) (k : X p l e R s m args below meth c Q D d K A nL zc zs L M lv (pc + 1) (iv (x + y) :: st)) : X p l e R s m args below meth c Q D d K A nL zc zs L M lv pc (iv y :: iv x :: st) := fun H locs ls LB hh hl => lv_iadd C.1.1 C.1.2.1 dg (by have h := k H locs ls LB hh hl; unfold iv at h; rw [Int32.ofInt_add x y] at h; exact h)
theorem x_isub (C : XC p R s m args c D d A cc nL own lvl zc zs) {x y : Int} (dg : decode cc pc = .ok (.isub, 1)) (k : X p l e R s m args below meth c Q D d K A nL zc zs L M lv (pc + 1) (iv (x - y) :: st)) : X p l e R s m args below meth c Q D d K A nL zc zs L M lv pc (iv y :: iv x :: st) := fun H locs ls LB hh hl => lv_isub C.1.1 C.1.2.1 dg (by have h := k H locs ls LB hh hl; unfold iv at h; rw [Int32.ofInt_sub x y] at h; exact h)
theorem x_imul (C : XC p R s m args c D d A cc nL own lvl zc zs) {x y : Int} (dg : decode cc pc = .ok (.imul, 1)) (k : X p l e R s m args below meth c Q D d K A nL zc zs L M lv (pc + 1) (iv (x * y) :: st)) : X p l e R s m args below meth c Q D d K A nL zc zs L M lv pc (iv y :: iv x :: st) := fun H locs ls LB hh hl => lv_imul C.1.1 C.1.2.1 dg (by have h := k H locs ls LB hh hl; unfold iv at h; rw [Int32.ofInt_mul x y] at h; exact h)
theorem x_iand (C : XC p R s m args c D d A cc nL own lvl zc zs) {x y : Int} (dg : decode cc pc = .ok (.iand, 1)) (k : X p l e R s m args below meth c Q D d K A nL zc zs L M lv (pc + 1) (iv (iand x y) :: st)) : X p l e R s m args below meth c Q D d K A nL zc zs L M lv pc (iv y :: iv x :: st) := fun H locs ls LB hh hl => lv_iand C.1.1 C.1.2.1 dg (by have h := k H locs ls LB hh hl; unfold iv iand at h; rw [ofInt_toInt] at h; exact h)
theorem x_ior (C : XC p R s m args c D d A cc nL own lvl zc zs) {x y : Int} (dg : decode cc pc = .ok (.ior, 1)) (k : X p l e R s m args below meth c Q D d K A nL zc zs L M lv (pc + 1) (iv (ior x y) :: st)) : X p l e R s m args below meth c Q D d K A nL zc zs L M lv pc (iv y :: iv x :: st) := fun H locs ls LB hh hl => lv_ior C.1.1 C.1.2.1 dg (by have h := k H locs ls LB hh hl; unfold iv ior at h; rw [ofInt_toInt] at h; exact h)
theorem x_ixor (C : XC p R s m args c D d A cc nL own lvl zc zs) {x y : Int} (dg : decode cc pc = .ok (.ixor, 1)) (k : X p l e R s m args below meth c Q D d K A nL zc zs L M lv (pc + 1) (iv (ixor x y) :: st)) : X p l e R s m args below meth c Q D d K A nL zc zs L M lv pc (iv y :: iv x :: st) := fun H locs ls LB hh hl => lv_ixor C.1.1 C.1.2.1 dg (by have h := k H locs ls LB hh hl; unfold iv ixor at h; rw [ofInt_toInt] at h; exact h)
theorem x_ishl (C : XC p R s m args c D d A cc nL own lvl zc zs) {x y : Int} (dg : decode cc pc = .ok (.ishl, 1)) (k : X p l e R s m args below meth c Q D d K A nL zc zs L M lv (pc + 1) (iv (ishl x y) :: st)) : X p l e R s m args below meth c Q D d K A nL zc zs L M lv pc (iv y :: iv x :: st) := fun H locs ls LB hh hl => lv_ishl C.1.1 C.1.2.1 dg (by have h := k H locs ls LB hh hl; unfold iv ishl at h; rw [ofInt_toInt] at h; exact h)
theorem x_ishr (C : XC p R s m args c D d A cc nL own lvl zc zs) {x y : Int} (dg : decode cc pc = .ok (.ishr, 1)) (k : X p l e R s m args below meth c Q D d K A nL zc zs L M lv (pc + 1) (iv (ishr x y) :: st)) : X p l e R s m args below meth c Q D d K A nL zc zs L M lv pc (iv y :: iv x :: st) := fun H locs ls LB hh hl => lv_ishr C.1.1 C.1.2.1 dg (by have h := k H locs ls LB hh hl; unfold iv ishr at h; rw [ofInt_toInt] at h; exact h)
theorem x_iushr (C : XC p R s m args c D d A cc nL own lvl zc zs) {x y : Int} (dg : decode cc pc = .ok (.iushr, 1)) (k : X p l e R s m args below meth c Q D d K A nL zc zs L M lv (pc + 1) (iv (iushr x y) :: st)) : X p l e R s m args below meth c Q D d K A nL zc zs L M lv pc (iv y :: iv x :: st) := fun H locs ls LB hh hl => lv_iushr C.1.1 C.1.2.1 dg rfl (by have h := k H locs ls LB hh hl; unfold iv iushr at h; rw [ofInt_toInt] at h; exact h)
theorem x_idiv (C : XC p R s m args c D d A cc nL own lvl zc zs) {x y : Int} (dg : decode cc pc = .ok (.idiv, 1)) (hn : bm y ≠ 0) (k : X p l e R s m args below meth c Q D d K A nL zc zs L M lv (pc + 1) (iv (idiv x y) :: st)) : X p l e R s m args below meth c Q D d K A nL zc zs L M lv pc (iv y :: iv x :: st) := fun H locs ls LB hh hl => lv_idiv C.1.1 C.1.2.1 dg (fun h => hn (by rw [← bm_zero, ← i_eq]; exact h)) (by have h := k H locs ls LB hh hl; unfold iv idiv at h; rw [ofInt_toInt] at h; exact h)
theorem x_irem (C : XC p R s m args c D d A cc nL own lvl zc zs) {x y : Int} (dg : decode cc pc = .ok (.irem, 1)) (hn : bm y ≠ 0) (k : X p l e R s m args below meth c Q D d K A nL zc zs L M lv (pc + 1) (iv (irem x y) :: st)) : X p l e R s m args below meth c Q D d K A nL zc zs L M lv pc (iv y :: iv x :: st) := fun H locs ls LB hh hl => lv_irem C.1.1 C.1.2.1 dg (fun h => hn (by rw [← bm_zero, ← i_eq]; exact h)) (by have h := k H locs ls LB hh hl; unfold iv irem at h; rw [ofInt_toInt] at h; exact h)
theorem x_i2b (C : XC p R s m args c D d A cc nL own lvl zc zs) {x : Int} (dg : decode cc pc = .ok (.i2b, 1)) (k : X p l e R s m args below meth c Q D d K A nL zc zs L M lv (pc + 1) (iv (i2b x) :: st)) : X p l e R s m args below meth c Q D d K A nL zc zs L M lv pc (iv x :: st) := fun H locs ls LB hh hl => lv_i2b C.1.1 C.1.2.1 dg rfl (by have h := k H locs ls LB hh hl; unfold iv i2b at h; rw [ofInt_toInt] at h; exact h)
theorem x_dup (C : XC p R s m args c D d A cc nL own lvl zc zs) {va : Value} (dg : decode cc pc = .ok (.dup, 1)) (hva : va.category = 1) (k : X p l e R s m args below meth c Q D d K A nL zc zs L M lv (pc + 1) (va :: va :: st)) : X p l e R s m args below meth c Q D d K A nL zc zs L M lv pc (va :: st) := fun H locs ls LB hh hl => lv_dup C.1.1 C.1.2.1 dg hva (k H locs ls LB hh hl)
theorem x_dup2 (C : XC p R s m args c D d A cc nL own lvl zc zs) {va vb : Value} (dg : decode cc pc = .ok (.dup2, 1)) (hva : va.category = 1) (hvb : vb.category = 1) (k : X p l e R s m args below meth c Q D d K A nL zc zs L M lv (pc + 1) (va :: vb :: va :: vb :: st)) : X p l e R s m args below meth c Q D d K A nL zc zs L M lv pc (va :: vb :: st) := fun H locs ls LB hh hl => lv_dup2_11 C.1.1 C.1.2.1 dg hva hvb (k H locs ls LB hh hl)
theorem x_pop (C : XC p R s m args c D d A cc nL own lvl zc zs) {va : Value} (dg : decode cc pc = .ok (.pop, 1)) (hva : va.category = 1) (k : X p l e R s m args below meth c Q D d K A nL zc zs L M lv (pc + 1) st) : X p l e R s m args below meth c Q D d K A nL zc zs L M lv pc (va :: st) := fun H locs ls LB hh hl => lv_pop C.1.1 C.1.2.1 dg hva (k H locs ls LB hh hl)
theorem x_goto (C : XC p R s m args c D d A cc nL own lvl zc zs) {off : Int} (tgt : Nat) (dg : decode cc pc = .ok (.goto off, 3)) (ht : (pc : Int) + off = (tgt : Int)) (k : X p l e R s m args below meth c Q D d K A nL zc zs L M lv tgt st) : X p l e R s m args below meth c Q D d K A nL zc zs L M lv pc st := fun H locs ls LB hh hl => lv_goto C.1.1 C.1.2.1 dg ht (k H locs ls LB hh hl)
theorem x_if_eq (C : XC p R s m args c D d A cc nL own lvl zc zs) {x : Int} {off : Int} (tgt : Nat) (dg : decode cc pc = .ok (.ifCond .eq off, 3)) (ht : (pc : Int) + off = (tgt : Int)) (k1 : bm x = 0 → X p l e R s m args below meth c Q D d K A nL zc zs L M lv tgt st) (k2 : ¬ bm x = 0 → X p l e R s m args below meth c Q D d K A nL zc zs L M lv (pc + 3) st) : X p l e R s m args below meth c Q D d K A nL zc zs L M lv pc (iv x :: st) := by
  intro H locs ls LB hh hl
  refine lv_if_eq C.1.1 C.1.2.1 dg ht (fun h => ?_) (fun h => ?_)
  · exact k1 (by
    have h9 := (i_eq x 0)
    rw [bm_zero] at h9
    rw [i_zero] at h
    exact h9.mp h) H locs ls LB hh hl
  · exact k2 (by
    have h9 := (i_eq x 0)
    rw [bm_zero] at h9
    rw [i_zero] at h
    exact fun q => h (h9.mpr q)) H locs ls LB hh hl
theorem x_icmp_eq (C : XC p R s m args c D d A cc nL own lvl zc zs) {x y : Int} {off : Int} (tgt : Nat) (dg : decode cc pc = .ok (.if_icmp .eq off, 3)) (ht : (pc : Int) + off = (tgt : Int)) (k1 : bm x = bm y → X p l e R s m args below meth c Q D d K A nL zc zs L M lv tgt st) (k2 : ¬ bm x = bm y → X p l e R s m args below meth c Q D d K A nL zc zs L M lv (pc + 3) st) : X p l e R s m args below meth c Q D d K A nL zc zs L M lv pc (iv y :: iv x :: st) := by
  intro H locs ls LB hh hl
  refine lv_icmp_eq C.1.1 C.1.2.1 dg ht (fun h => ?_) (fun h => ?_)
  · exact k1 (by
    have h9 := (i_eq x y)
    exact h9.mp h) H locs ls LB hh hl
  · exact k2 (by
    have h9 := (i_eq x y)
    exact fun q => h (h9.mpr q)) H locs ls LB hh hl
theorem x_if_ne (C : XC p R s m args c D d A cc nL own lvl zc zs) {x : Int} {off : Int} (tgt : Nat) (dg : decode cc pc = .ok (.ifCond .ne off, 3)) (ht : (pc : Int) + off = (tgt : Int)) (k1 : bm x = 0 → X p l e R s m args below meth c Q D d K A nL zc zs L M lv (pc + 3) st) (k2 : ¬ bm x = 0 → X p l e R s m args below meth c Q D d K A nL zc zs L M lv tgt st) : X p l e R s m args below meth c Q D d K A nL zc zs L M lv pc (iv x :: st) := by
  intro H locs ls LB hh hl
  refine lv_if_ne C.1.1 C.1.2.1 dg ht (fun h => ?_) (fun h => ?_)
  · exact k2 (by
    have h9 := (i_eq x 0)
    rw [bm_zero] at h9
    rw [i_zero] at h
    exact fun q => h (h9.mpr q)) H locs ls LB hh hl
  · exact k1 (by
    have h9 := (i_eq x 0)
    rw [bm_zero] at h9
    rw [i_zero] at h
    exact Classical.byContradiction (fun q => by first | exact h (fun q2 => q (h9.mp q2)) | exact q (h9.mp h) | exact absurd h (fun q2 => q (h9.mp q2)))) H locs ls LB hh hl
theorem x_icmp_ne (C : XC p R s m args c D d A cc nL own lvl zc zs) {x y : Int} {off : Int} (tgt : Nat) (dg : decode cc pc = .ok (.if_icmp .ne off, 3)) (ht : (pc : Int) + off = (tgt : Int)) (k1 : bm x = bm y → X p l e R s m args below meth c Q D d K A nL zc zs L M lv (pc + 3) st) (k2 : ¬ bm x = bm y → X p l e R s m args below meth c Q D d K A nL zc zs L M lv tgt st) : X p l e R s m args below meth c Q D d K A nL zc zs L M lv pc (iv y :: iv x :: st) := by
  intro H locs ls LB hh hl
  refine lv_icmp_ne C.1.1 C.1.2.1 dg ht (fun h => ?_) (fun h => ?_)
  · exact k2 (by
    have h9 := (i_eq x y)
    exact fun q => h (h9.mpr q)) H locs ls LB hh hl
  · exact k1 (by
    have h9 := (i_eq x y)
    exact Classical.byContradiction (fun q => by first | exact h (fun q2 => q (h9.mp q2)) | exact q (h9.mp h) | exact absurd h (fun q2 => q (h9.mp q2)))) H locs ls LB hh hl
theorem x_if_lt (C : XC p R s m args c D d A cc nL own lvl zc zs) {x : Int} {off : Int} (tgt : Nat) (dg : decode cc pc = .ok (.ifCond .lt off, 3)) (ht : (pc : Int) + off = (tgt : Int)) (k1 : bm x < 0 → X p l e R s m args below meth c Q D d K A nL zc zs L M lv tgt st) (k2 : ¬ bm x < 0 → X p l e R s m args below meth c Q D d K A nL zc zs L M lv (pc + 3) st) : X p l e R s m args below meth c Q D d K A nL zc zs L M lv pc (iv x :: st) := by
  intro H locs ls LB hh hl
  refine lv_if_lt C.1.1 C.1.2.1 dg ht (fun h => ?_) (fun h => ?_)
  · exact k1 (by
    have h9 := (i_lt x 0)
    rw [bm_zero] at h9
    rw [i_zero] at h
    exact h9.mp h) H locs ls LB hh hl
  · exact k2 (by
    have h9 := (i_lt x 0)
    rw [bm_zero] at h9
    rw [i_zero] at h
    exact fun q => h (h9.mpr q)) H locs ls LB hh hl
theorem x_icmp_lt (C : XC p R s m args c D d A cc nL own lvl zc zs) {x y : Int} {off : Int} (tgt : Nat) (dg : decode cc pc = .ok (.if_icmp .lt off, 3)) (ht : (pc : Int) + off = (tgt : Int)) (k1 : bm x < bm y → X p l e R s m args below meth c Q D d K A nL zc zs L M lv tgt st) (k2 : ¬ bm x < bm y → X p l e R s m args below meth c Q D d K A nL zc zs L M lv (pc + 3) st) : X p l e R s m args below meth c Q D d K A nL zc zs L M lv pc (iv y :: iv x :: st) := by
  intro H locs ls LB hh hl
  refine lv_icmp_lt C.1.1 C.1.2.1 dg ht (fun h => ?_) (fun h => ?_)
  · exact k1 (by
    have h9 := (i_lt x y)
    exact h9.mp h) H locs ls LB hh hl
  · exact k2 (by
    have h9 := (i_lt x y)
    exact fun q => h (h9.mpr q)) H locs ls LB hh hl
theorem x_if_ge (C : XC p R s m args c D d A cc nL own lvl zc zs) {x : Int} {off : Int} (tgt : Nat) (dg : decode cc pc = .ok (.ifCond .ge off, 3)) (ht : (pc : Int) + off = (tgt : Int)) (k1 : bm x < 0 → X p l e R s m args below meth c Q D d K A nL zc zs L M lv (pc + 3) st) (k2 : ¬ bm x < 0 → X p l e R s m args below meth c Q D d K A nL zc zs L M lv tgt st) : X p l e R s m args below meth c Q D d K A nL zc zs L M lv pc (iv x :: st) := by
  intro H locs ls LB hh hl
  refine lv_if_ge C.1.1 C.1.2.1 dg ht (fun h => ?_) (fun h => ?_)
  · exact k2 (by
    have h9 := (i_ge x 0)
    rw [bm_zero] at h9
    rw [i_zero] at h
    exact h9.mp h) H locs ls LB hh hl
  · exact k1 (by
    have h9 := (i_ge x 0)
    rw [bm_zero] at h9
    rw [i_zero] at h
    exact Classical.byContradiction (fun q => h (h9.mpr q))) H locs ls LB hh hl
theorem x_icmp_ge (C : XC p R s m args c D d A cc nL own lvl zc zs) {x y : Int} {off : Int} (tgt : Nat) (dg : decode cc pc = .ok (.if_icmp .ge off, 3)) (ht : (pc : Int) + off = (tgt : Int)) (k1 : bm x < bm y → X p l e R s m args below meth c Q D d K A nL zc zs L M lv (pc + 3) st) (k2 : ¬ bm x < bm y → X p l e R s m args below meth c Q D d K A nL zc zs L M lv tgt st) : X p l e R s m args below meth c Q D d K A nL zc zs L M lv pc (iv y :: iv x :: st) := by
  intro H locs ls LB hh hl
  refine lv_icmp_ge C.1.1 C.1.2.1 dg ht (fun h => ?_) (fun h => ?_)
  · exact k2 (by
    have h9 := (i_ge x y)
    exact h9.mp h) H locs ls LB hh hl
  · exact k1 (by
    have h9 := (i_ge x y)
    exact Classical.byContradiction (fun q => h (h9.mpr q))) H locs ls LB hh hl
theorem x_if_gt (C : XC p R s m args c D d A cc nL own lvl zc zs) {x : Int} {off : Int} (tgt : Nat) (dg : decode cc pc = .ok (.ifCond .gt off, 3)) (ht : (pc : Int) + off = (tgt : Int)) (k1 : 0 < bm x → X p l e R s m args below meth c Q D d K A nL zc zs L M lv tgt st) (k2 : ¬ 0 < bm x → X p l e R s m args below meth c Q D d K A nL zc zs L M lv (pc + 3) st) : X p l e R s m args below meth c Q D d K A nL zc zs L M lv pc (iv x :: st) := by
  intro H locs ls LB hh hl
  refine lv_if_gt C.1.1 C.1.2.1 dg ht (fun h => ?_) (fun h => ?_)
  · exact k1 (by
    have h9 := (i_lt 0 x)
    rw [bm_zero] at h9
    rw [i_zero] at h
    exact h9.mp h) H locs ls LB hh hl
  · exact k2 (by
    have h9 := (i_lt 0 x)
    rw [bm_zero] at h9
    rw [i_zero] at h
    exact fun q => h (h9.mpr q)) H locs ls LB hh hl
theorem x_icmp_gt (C : XC p R s m args c D d A cc nL own lvl zc zs) {x y : Int} {off : Int} (tgt : Nat) (dg : decode cc pc = .ok (.if_icmp .gt off, 3)) (ht : (pc : Int) + off = (tgt : Int)) (k1 : bm y < bm x → X p l e R s m args below meth c Q D d K A nL zc zs L M lv tgt st) (k2 : ¬ bm y < bm x → X p l e R s m args below meth c Q D d K A nL zc zs L M lv (pc + 3) st) : X p l e R s m args below meth c Q D d K A nL zc zs L M lv pc (iv y :: iv x :: st) := by
  intro H locs ls LB hh hl
  refine lv_icmp_gt C.1.1 C.1.2.1 dg ht (fun h => ?_) (fun h => ?_)
  · exact k1 (by
    have h9 := (i_lt y x)
    exact h9.mp h) H locs ls LB hh hl
  · exact k2 (by
    have h9 := (i_lt y x)
    exact fun q => h (h9.mpr q)) H locs ls LB hh hl
theorem x_if_le (C : XC p R s m args c D d A cc nL own lvl zc zs) {x : Int} {off : Int} (tgt : Nat) (dg : decode cc pc = .ok (.ifCond .le off, 3)) (ht : (pc : Int) + off = (tgt : Int)) (k1 : 0 < bm x → X p l e R s m args below meth c Q D d K A nL zc zs L M lv (pc + 3) st) (k2 : ¬ 0 < bm x → X p l e R s m args below meth c Q D d K A nL zc zs L M lv tgt st) : X p l e R s m args below meth c Q D d K A nL zc zs L M lv pc (iv x :: st) := by
  intro H locs ls LB hh hl
  refine lv_if_le C.1.1 C.1.2.1 dg ht (fun h => ?_) (fun h => ?_)
  · exact k2 (by
    have h9 := (i_ge 0 x)
    rw [bm_zero] at h9
    rw [i_zero] at h
    exact h9.mp h) H locs ls LB hh hl
  · exact k1 (by
    have h9 := (i_ge 0 x)
    rw [bm_zero] at h9
    rw [i_zero] at h
    exact Classical.byContradiction (fun q => h (h9.mpr q))) H locs ls LB hh hl
theorem x_icmp_le (C : XC p R s m args c D d A cc nL own lvl zc zs) {x y : Int} {off : Int} (tgt : Nat) (dg : decode cc pc = .ok (.if_icmp .le off, 3)) (ht : (pc : Int) + off = (tgt : Int)) (k1 : bm y < bm x → X p l e R s m args below meth c Q D d K A nL zc zs L M lv (pc + 3) st) (k2 : ¬ bm y < bm x → X p l e R s m args below meth c Q D d K A nL zc zs L M lv tgt st) : X p l e R s m args below meth c Q D d K A nL zc zs L M lv pc (iv y :: iv x :: st) := by
  intro H locs ls LB hh hl
  refine lv_icmp_le C.1.1 C.1.2.1 dg ht (fun h => ?_) (fun h => ?_)
  · exact k2 (by
    have h9 := (i_ge y x)
    exact h9.mp h) H locs ls LB hh hl
  · exact k1 (by
    have h9 := (i_ge y x)
    exact Classical.byContradiction (fun q => h (h9.mpr q))) H locs ls LB hh hl
end XB
end
section
section XD
variable {p : Program} {l : Launch} {e : Env} {R : Room} {s : State} {m : MethodId} {args : Array Value} {below : List Frame} {meth : Method} {c : Code} {Q : State → Prop} {D : va_G} {d : Nat → ClassId} {K : Nat → Nat} {A : Nat → Prop} {cc : ByteArray} {nL lvl : Nat} {own : String} {zc zs : Int} {L : va_W} {M : g_M} {lv : List (Nat × Value)} {pc : Nat} {st : List Value}

theorem x_get (C : XC p R s m args c D d A cc nL own lvl zc zs) {Cn : String} {T : u_T} {N ci index : Nat} {ty : Nat → FieldType} (F : g_cf Cn T N ty) (j0 : Nat) (hj0 : j0 < 91) {fs : List Value} (he : ∀ B, we K d B (M (40 + j0)) j0 = .inr (ci, fs)) (hc : gCl[ci]? = some (Cn, T, N)) (j : Nat) (hj : j < N) (hlink : Cond.fieldLink own index (T j).1 (T j).2.1 (T j).2.2.1 ∈ gW) {v : Value} (hv : fs[j]? = some v) (dg : decode cc pc = .ok (.getfield index, 3)) (k : X p l e R s m args below meth c Q D d K A nL zc zs L M lv (pc + 3) (v :: st)) : X p l e R s m args below meth c Q D d K A nL zc zs L M lv pc (.ref (K j0) :: st) := fun H locs ls LB hh hl => va_get (cl := gCl) C.1.1 C.1.2.1 C.1.2.2.2.2.1 F.1 C.1.2.2.2.1 C.1.2.2.2.2.2.1 hh.2.1 j0 ((fx_at K d L M LB hj0).trans (by rw [he])) hc j hj (C.1.2.2.2.2.1 _ hlink) (fun _ h => h) hv dg (k H locs ls LB hh hl)
theorem setSlot_size (c : Cell) (i : Nat) (v : Value) : (c.setSlot i v).slots.size = c.slots.size := by simp [Cell.setSlot]
/-- a field is set: the heap's size and its slots stay -/
theorem k_put {cl : List vw_C} {tys : List (ClassId × FieldType)} {H : Heap} {locs : List Loc} {cells slots a : Nat} {ls : Array Slot} {rest : List Value} {ws : va_W} {H0 : Heap} (hexec : p.tables.exec = Jvm.exec) (hb : c.code = cc) {own ref C : String} {T : u_T} {N ci index : Nat} {Ts : List Cond} (hts : ∀ w ∈ Ts, w.before args s = true) (hin : ∀ w ∈ u_ws C T N, w ∈ Ts) (ty0 : Nat → FieldType) (hty : ∀ k, k < N → parseFieldDescriptor (T k).2.2.1 = some (ty0 k)) (hnm : ∀ a, a < N → ∀ b, b < N → a ≠ b → (T a).2.1 ≠ (T b).2.1) (hown : s.vm.findClass own = some m.cls) (hK : va_K D cl tys s) (hP : va_P D cl ws H) (hD : va_D A ws) (hS0 : va_S A H0 H locs) (q0 : Nat) {fs : List Value} (he : ws[q0]? = some (a, .inr (ci, fs))) (hc : cl[ci]? = some (C, T, N)) (k : Nat) (hk : k < N) (hlink : (Cond.fieldLink own index ref (T k).2.1 (T k).2.2.1).before args s = true) (hsame : ∀ x, s.fieldFound? (T k).1 (T k).2.1 (T k).2.2.1 = some x → s.fieldFound? ref (T k).2.1 (T k).2.2.1 = some x) (hfin : (T k).2.2.2 = false) {ty : FieldType} {v : Value} (hd : parseFieldDescriptor (T k).2.2.1 = some ty) (hn : narrow ty v = v) (hfit : fits ty v = true) (hl : k < fs.length)
    (hdg : decode cc pc = .ok (.putfield index, 3)) (kk : ∀ (H1 : Heap) (locs1 : List Loc), va_P D cl (ws.set q0 (a, .inr (ci, fs.set k v))) H1 → va_D A (ws.set q0 (a, .inr (ci, fs.set k v))) → va_S A H0 H1 locs1 → H1.size = H.size → TOT H1 = TOT H → W p l e R s m args below meth c H1 locs1 cells slots Q (F0 m (pc + 3) ls rest)) : W p l e R s m args below meth c H locs cells slots Q (F0 m pc ls (v :: .ref a :: rest)) := by
  have hap := va_apart (own := own) hts hin ty0 hty hnm hK hc
  obtain ⟨r, h1, cell, q1, q2, q3, q4⟩ := hP q0 _ he
  have hr : r = (C, T, N) := Option.some.inj (h1.symm.trans hc)
  subst hr
  obtain ⟨hS, hfc, kC, hkC, hkind⟩ := hK.1 ci _ hc
  obtain ⟨cf, kf, fi, f, hi, hsl⟩ := hS k hk
  have hlay := hts _ (hin _ (u_in_lay hk))
  unfold u_lay at hlay
  rw [if_neg (by rw [hfin]; decide)] at hlay
  have hst := (u_facts hfc hkC (u_lays hts hin hk) hi).1
  have h6 := u_store hfc hkC hkind hlay hi hd hn hfit
  refine W.putK hexec hb (f := f) ⟨hown, hlink, ⟨_, _, _, hsame _ hi⟩, hst⟩ (by rw [q2]; exact h6) q1 q3 (by rw [hsl]; exact k2_hasslot (q4 k hk)) rfl rfl hdg fun H' e1 e2 e3 => ?_
  have ht := tot_put e2 e3 q1 e1 (setSlot_size _ _ _)
  rw [hsl] at e1 ⊢
  exact kk H' _ (hP.set hD he ⟨_, hc, t_OB.to (V := updV (vp_V fs) k v) ⟨_, e1, q2, q3, t_set q4 hap hk v⟩ (fun j _ => vp_updV_set hl v j)⟩ e3) (hD.set he) (hS0.put e2 e3 (hD.2 q0 _ he)) e2 ht
theorem wf_up {M : g_M} {LB : g_B} {a i : Nat} {v : Int} (h : g_wf M LB) (ha : 34 ≤ a) (hb : a ≠ 99) : g_wf (up M a i v) LB := by
  refine ⟨h.1, h.2.1, fun r j hr hn => ?_, ?_⟩
  · rw [up_ne (by omega)]
    exact h.2.2.1 r j hr hn
  · rw [up_ne (Ne.symm hb)]
    exact h.2.2.2
theorem nC_up {M : g_M} {LB : g_B} {a i : Nat} {v : Int} (hb : a ≠ 99) : nC (up M a i v) LB = nC M LB ∧ nS (up M a i v) LB = nS M LB := by
  unfold nC nS
  rw [up_ne (Ne.symm hb)]
  exact ⟨rfl, rfl⟩
theorem x_put (C : XC p R s m args c D d A cc nL own lvl zc zs) {Cn : String} {T : u_T} {N ci index : Nat} {ty : Nat → FieldType} (F : g_cf Cn T N ty) (j0 : Nat) (hj0 : j0 < 23) {fs : List Value} (he : ∀ B, we K d B (M (40 + j0)) j0 = .inr (ci, fs)) (hc : gCl[ci]? = some (Cn, T, N)) (j : Nat) (hj : j < N) (hlink : Cond.fieldLink own index (T j).1 (T j).2.1 (T j).2.2.1 ∈ gW) (hfin : (T j).2.2.2 = false) {x : Int} (hn : narrow (ty j) (iv x) = iv x) (hfit : fits (ty j) (iv x) = true) (hl0 : j < fs.length) (hx : ∀ B, we K d B (up M (40 + j0) j x (40 + j0)) j0 = .inr (ci, fs.set j (iv x))) (dg : decode cc pc = .ok (.putfield index, 3)) (k : X p l e R s m args below meth c Q D d K A nL zc zs L (up M (40 + j0) j x) lv (pc + 3) st) : X p l e R s m args below meth c Q D d K A nL zc zs L M lv pc (iv x :: .ref (K j0) :: st) := by
  intro H locs ls LB hh hl
  refine k_put (cl := gCl) C.1.1 C.1.2.1 C.1.2.2.2.2.1 F.1 ty F.2.1 F.2.2 C.1.2.2.2.1 C.1.2.2.2.2.2.1 hh.2.1 hh.2.2.1 hh.2.2.2.1 j0 ((fx_at K d L M LB (by omega)).trans (by rw [he])) hc j hj (C.1.2.2.2.2.1 _ hlink) (fun _ h => h) hfin (F.2.1 j hj) hn hfit hl0 dg (fun H1 locs1 hP1 hD1 hS1 hz ht => ?_)
  rw [wd_set (M' := up M (40 + j0) j x) (by omega) (hx _) (fun a ha => up_ne ha) (fun q hq => (hh.1.1 q hq).1)] at hP1 hD1
  refine k H1 locs1 ls LB ⟨wf_up hh.1 (by omega) (by omega), hP1, hD1, hS1, ?_, ?_⟩ hl
  · rw [(nC_up (by omega)).1, hz]
    exact hh.2.2.2.2.1
  · rw [(nC_up (by omega)).2, ht]
    exact hh.2.2.2.2.2
theorem x_iald (C : XC p R s m args c D d A cc nL own lvl zc zs) (j0 n : Nat) (hj0 : j0 < 23) (he : ∀ B, we K d B (M (40 + j0)) j0 = .inl (d 0, n, .inl (fun i => Int32.ofInt (M (40 + j0) i)))) {x : Int} (hin : inI x n) (dg : decode cc pc = .ok (.iaload, 1)) (k : X p l e R s m args below meth c Q D d K A nL zc zs L M lv (pc + 1) (iv (M (40 + j0) (bm x).toNat) :: st)) : X p l e R s m args below meth c Q D d K A nL zc zs L M lv pc (iv x :: .ref (K j0) :: st) := by
  intro H locs ls LB hh hl
  refine va_iald (cl := gCl) C.1.1 C.1.2.1 C.1.2.2.2.2.2.1 hh.2.1 j0 0 ((fx_at K d L M LB (by omega)).trans (by rw [he])) rfl (i_in hin) dg ?_
  rw [i_nat]
  exact k H locs ls LB hh hl
theorem k_iast {cl : List vw_C} {tys : List (ClassId × FieldType)} {H : Heap} {locs : List Loc} {cells slots a : Nat} {ls : Array Slot} {rest : List Value} {ws : va_W} {H0 : Heap} (hexec : p.tables.exec = Jvm.exec) (hb : c.code = cc) (hK : va_K D cl tys s) (hP : va_P D cl ws H) (hD : va_D A ws) (hS : va_S A H0 H locs) (q0 t0 : Nat) {cA : ClassId} {n : Nat} {f : Nat → Int32} (ha : ws[q0]? = some (a, .inl (cA, n, .inl f))) (ht : tys[t0]? = some (cA, .int)) {i : Int32} {x : Int32} (hin : vp_in i n) (y : Int32) (hy : (.int x) = Value.int y) (hdg : decode cc pc = .ok (.iastore, 1))
    (kk : ∀ (H1 : Heap) (locs1 : List Loc), va_P D cl (ws.set q0 (a, .inl (cA, n, .inl (upd f i.toNatClampNeg y)))) H1 → va_D A (ws.set q0 (a, .inl (cA, n, .inl (upd f i.toNatClampNeg y)))) → va_S A H0 H1 locs1 → H1.size = H.size → TOT H1 = TOT H → W p l e R s m args below meth c H1 locs1 cells slots Q (F0 m (pc + 1) ls rest)) : W p l e R s m args below meth c H locs cells slots Q (F0 m pc ls (.int x :: .int i :: .ref a :: rest)) := by
  refine W.iast hexec hb (hP q0 _ ha) ((hK.2 t0 _ ht).1 n (fun j => .int (f j))) (fun q => by cases q) (by show ¬ (i < 0 ∨ (arrV _ _ _).slots.size ≤ _); rw [arrV_size]; exact hin) rfl rfl hdg fun H1 e z oq => ?_
  refine kk H1 _ (hP.set hD ha ?_ oq) (hD.set ha) (hS.put z oq (hD.2 q0 _ ha)) z (tot_put z oq (hP q0 _ ha) e (setSlot_size _ _ _))
  show H1[a]? = some (vp_cell _ _)
  rw [e]
  cases hy
  rw [vp_cell_i, vp_cell_i, arrV_store]
  congr 2
  funext q
  by_cases hq : q = i.toNatClampNeg
  · subst hq
    simp [updV, upd]
  · simp [updV, upd, hq]
theorem x_bald (C : XC p R s m args c D d A cc nL own lvl zc zs) (j0 n : Nat) (hj0 : j0 < 23) (he : ∀ B, we K d B (M (40 + j0)) j0 = .inl (d 1, n, .inl (fun i => Int32.ofInt (M (40 + j0) i)))) {x : Int} (hin : inI x n) (dg : decode cc pc = .ok (.baload, 1)) (k : X p l e R s m args below meth c Q D d K A nL zc zs L M lv (pc + 1) (iv (M (40 + j0) (bm x).toNat) :: st)) : X p l e R s m args below meth c Q D d K A nL zc zs L M lv pc (iv x :: .ref (K j0) :: st) := by
  intro H locs ls LB hh hl
  refine va_bald (cl := gCl) C.1.1 C.1.2.1 C.1.2.2.2.2.2.1 hh.2.1 j0 1 ((fx_at K d L M LB (by omega)).trans (by rw [he])) rfl (i_in hin) dg ?_
  rw [i_nat]
  exact k H locs ls LB hh hl
theorem k_bast {cl : List vw_C} {tys : List (ClassId × FieldType)} {H : Heap} {locs : List Loc} {cells slots a : Nat} {ls : Array Slot} {rest : List Value} {ws : va_W} {H0 : Heap} (hexec : p.tables.exec = Jvm.exec) (hb : c.code = cc) (hK : va_K D cl tys s) (hP : va_P D cl ws H) (hD : va_D A ws) (hS : va_S A H0 H locs) (q0 t0 : Nat) {cA : ClassId} {n : Nat} {f : Nat → Int32} (ha : ws[q0]? = some (a, .inl (cA, n, .inl f))) (ht : tys[t0]? = some (cA, .byte)) {i : Int32} {x : Int32} (hin : vp_in i n) (y : Int32) (hy : (narrow .byte (.int x)) = Value.int y) (hdg : decode cc pc = .ok (.bastore, 1))
    (kk : ∀ (H1 : Heap) (locs1 : List Loc), va_P D cl (ws.set q0 (a, .inl (cA, n, .inl (upd f i.toNatClampNeg y)))) H1 → va_D A (ws.set q0 (a, .inl (cA, n, .inl (upd f i.toNatClampNeg y)))) → va_S A H0 H1 locs1 → H1.size = H.size → TOT H1 = TOT H → W p l e R s m args below meth c H1 locs1 cells slots Q (F0 m (pc + 1) ls rest)) : W p l e R s m args below meth c H locs cells slots Q (F0 m pc ls (.int x :: .int i :: .ref a :: rest)) := by
  refine W.bast hexec hb (hP q0 _ ha) ((hK.2 t0 _ ht).1 n (fun j => .int (f j))) (fun q => by cases q) (by show ¬ (i < 0 ∨ (arrV _ _ _).slots.size ≤ _); rw [arrV_size]; exact hin) rfl rfl hdg fun H1 e z oq => ?_
  refine kk H1 _ (hP.set hD ha ?_ oq) (hD.set ha) (hS.put z oq (hD.2 q0 _ ha)) z (tot_put z oq (hP q0 _ ha) e (setSlot_size _ _ _))
  show H1[a]? = some (vp_cell _ _)
  rw [e]
  rw [hy]
  rw [vp_cell_i, vp_cell_i, arrV_store]
  congr 2
  funext q
  by_cases hq : q = i.toNatClampNeg
  · subst hq
    simp [updV, upd]
  · simp [updV, upd, hq]
theorem x_zald (C : XC p R s m args c D d A cc nL own lvl zc zs) (j0 n : Nat) (hj0 : j0 < 23) (he : ∀ B, we K d B (M (40 + j0)) j0 = .inl (d 2, n, .inl (fun i => Int32.ofInt (M (40 + j0) i)))) {x : Int} (hin : inI x n) (dg : decode cc pc = .ok (.baload, 1)) (k : X p l e R s m args below meth c Q D d K A nL zc zs L M lv (pc + 1) (iv (M (40 + j0) (bm x).toNat) :: st)) : X p l e R s m args below meth c Q D d K A nL zc zs L M lv pc (iv x :: .ref (K j0) :: st) := by
  intro H locs ls LB hh hl
  refine va_zald (cl := gCl) C.1.1 C.1.2.1 C.1.2.2.2.2.2.1 hh.2.1 j0 2 ((fx_at K d L M LB (by omega)).trans (by rw [he])) rfl (i_in hin) dg ?_
  rw [i_nat]
  exact k H locs ls LB hh hl
theorem k_zast {cl : List vw_C} {tys : List (ClassId × FieldType)} {H : Heap} {locs : List Loc} {cells slots a : Nat} {ls : Array Slot} {rest : List Value} {ws : va_W} {H0 : Heap} (hexec : p.tables.exec = Jvm.exec) (hb : c.code = cc) (hK : va_K D cl tys s) (hP : va_P D cl ws H) (hD : va_D A ws) (hS : va_S A H0 H locs) (q0 t0 : Nat) {cA : ClassId} {n : Nat} {f : Nat → Int32} (ha : ws[q0]? = some (a, .inl (cA, n, .inl f))) (ht : tys[t0]? = some (cA, .boolean)) {i : Int32} {x : Int32} (hin : vp_in i n) (y : Int32) (hy : (narrow .boolean (.int x)) = Value.int y) (hdg : decode cc pc = .ok (.bastore, 1))
    (kk : ∀ (H1 : Heap) (locs1 : List Loc), va_P D cl (ws.set q0 (a, .inl (cA, n, .inl (upd f i.toNatClampNeg y)))) H1 → va_D A (ws.set q0 (a, .inl (cA, n, .inl (upd f i.toNatClampNeg y)))) → va_S A H0 H1 locs1 → H1.size = H.size → TOT H1 = TOT H → W p l e R s m args below meth c H1 locs1 cells slots Q (F0 m (pc + 1) ls rest)) : W p l e R s m args below meth c H locs cells slots Q (F0 m pc ls (.int x :: .int i :: .ref a :: rest)) := by
  refine W.zast hexec hb (hP q0 _ ha) ((hK.2 t0 _ ht).1 n (fun j => .int (f j))) (fun q => by cases q) (by show ¬ (i < 0 ∨ (arrV _ _ _).slots.size ≤ _); rw [arrV_size]; exact hin) rfl rfl hdg fun H1 e z oq => ?_
  refine kk H1 _ (hP.set hD ha ?_ oq) (hD.set ha) (hS.put z oq (hD.2 q0 _ ha)) z (tot_put z oq (hP q0 _ ha) e (setSlot_size _ _ _))
  show H1[a]? = some (vp_cell _ _)
  rw [e]
  rw [hy]
  rw [vp_cell_i, vp_cell_i, arrV_store]
  congr 2
  funext q
  by_cases hq : q = i.toNatClampNeg
  · subst hq
    simp [updV, upd]
  · simp [updV, upd, hq]
theorem upd_up (M : g_M) (a i : Nat) (v : Int) : upd (fun j => Int32.ofInt (M a j)) i (Int32.ofInt v) = fun j => Int32.ofInt (up M a i v a j) := by
  funext j
  rw [up_row]
  by_cases h : j = i
  · simp [upd, h]
  · simp [upd, h]
theorem x_iast (C : XC p R s m args c D d A cc nL own lvl zc zs) (j0 n : Nat) (hj0 : j0 < 23) (he : ∀ (B : Nat → Nat → Option Nat) (mm : Nat → Int), we K d B mm j0 = .inl (d 0, n, .inl (fun i => Int32.ofInt (mm i)))) {x v : Int} (hin : inI x n) (dg : decode cc pc = .ok (.iastore, 1)) (k : X p l e R s m args below meth c Q D d K A nL zc zs L (up M (40 + j0) (bm x).toNat v) lv (pc + 1) st) : X p l e R s m args below meth c Q D d K A nL zc zs L M lv pc (iv v :: iv x :: .ref (K j0) :: st) := by
  intro H locs ls LB hh hl
  refine k_iast (cl := gCl) C.1.1 C.1.2.1 C.1.2.2.2.2.2.1 hh.2.1 hh.2.2.1 hh.2.2.2.1 j0 0 ((fx_at K d L M LB (by omega)).trans (by rw [he])) rfl (i_in hin) (Int32.ofInt v) rfl dg (fun H1 locs1 hP1 hD1 hS1 hz ht => ?_)
  rw [i_nat, upd_up] at hP1 hD1
  rw [wd_set (M' := up M (40 + j0) (bm x).toNat v) (by omega) (he _ _) (fun a ha => up_ne ha) (fun q hq => (hh.1.1 q hq).1)] at hP1 hD1
  refine k H1 locs1 ls LB ⟨wf_up hh.1 (by omega) (by omega), hP1, hD1, hS1, ?_, ?_⟩ hl
  · rw [(nC_up (by omega)).1, hz]
    exact hh.2.2.2.2.1
  · rw [(nC_up (by omega)).2, ht]
    exact hh.2.2.2.2.2
theorem x_bast (C : XC p R s m args c D d A cc nL own lvl zc zs) (j0 n : Nat) (hj0 : j0 < 23) (he : ∀ (B : Nat → Nat → Option Nat) (mm : Nat → Int), we K d B mm j0 = .inl (d 1, n, .inl (fun i => Int32.ofInt (mm i)))) {x v : Int} (hin : inI x n) (dg : decode cc pc = .ok (.bastore, 1)) (k : X p l e R s m args below meth c Q D d K A nL zc zs L (up M (40 + j0) (bm x).toNat (i2b v)) lv (pc + 1) st) : X p l e R s m args below meth c Q D d K A nL zc zs L M lv pc (iv v :: iv x :: .ref (K j0) :: st) := by
  intro H locs ls LB hh hl
  refine k_bast (cl := gCl) C.1.1 C.1.2.1 C.1.2.2.2.2.2.1 hh.2.1 hh.2.2.1 hh.2.2.2.1 j0 1 ((fx_at K d L M LB (by omega)).trans (by rw [he])) rfl (i_in hin) (Int32.ofInt (i2b v)) (by show Value.int _ = _; unfold i2b; rw [ofInt_toInt]) dg (fun H1 locs1 hP1 hD1 hS1 hz ht => ?_)
  rw [i_nat, upd_up] at hP1 hD1
  rw [wd_set (M' := up M (40 + j0) (bm x).toNat (i2b v)) (by omega) (he _ _) (fun a ha => up_ne ha) (fun q hq => (hh.1.1 q hq).1)] at hP1 hD1
  refine k H1 locs1 ls LB ⟨wf_up hh.1 (by omega) (by omega), hP1, hD1, hS1, ?_, ?_⟩ hl
  · rw [(nC_up (by omega)).1, hz]
    exact hh.2.2.2.2.1
  · rw [(nC_up (by omega)).2, ht]
    exact hh.2.2.2.2.2
theorem x_zast (C : XC p R s m args c D d A cc nL own lvl zc zs) (j0 n : Nat) (hj0 : j0 < 23) (he : ∀ (B : Nat → Nat → Option Nat) (mm : Nat → Int), we K d B mm j0 = .inl (d 2, n, .inl (fun i => Int32.ofInt (mm i)))) {x v : Int} (hin : inI x n) (hb : isB v) (dg : decode cc pc = .ok (.bastore, 1)) (k : X p l e R s m args below meth c Q D d K A nL zc zs L (up M (40 + j0) (bm x).toNat v) lv (pc + 1) st) : X p l e R s m args below meth c Q D d K A nL zc zs L M lv pc (iv v :: iv x :: .ref (K j0) :: st) := by
  intro H locs ls LB hh hl
  refine k_zast (cl := gCl) C.1.1 C.1.2.1 C.1.2.2.2.2.2.1 hh.2.1 hh.2.2.1 hh.2.2.2.1 j0 2 ((fx_at K d L M LB (by omega)).trans (by rw [he])) rfl (i_in hin) (Int32.ofInt v) ((i_bool hb).1) dg (fun H1 locs1 hP1 hD1 hS1 hz ht => ?_)
  rw [i_nat, upd_up] at hP1 hD1
  rw [wd_set (M' := up M (40 + j0) (bm x).toNat v) (by omega) (he _ _) (fun a ha => up_ne ha) (fun q hq => (hh.1.1 q hq).1)] at hP1 hD1
  refine k H1 locs1 ls LB ⟨wf_up hh.1 (by omega) (by omega), hP1, hD1, hS1, ?_, ?_⟩ hl
  · rw [(nC_up (by omega)).1, hz]
    exact hh.2.2.2.2.1
  · rw [(nC_up (by omega)).2, ht]
    exact hh.2.2.2.2.2
theorem x_alen (C : XC p R s m args c D d A cc nL own lvl zc zs) (j0 n ti : Nat) (hj0 : j0 < 23) {x : vp_A} (he : ∀ B, we K d B (M (40 + j0)) j0 = .inl (d ti, x)) {ty : FieldType} (ht : (g_ty d)[ti]? = some (d ti, ty)) (hv : Int32.ofNat x.1 = Int32.ofInt n) (dg : decode cc pc = .ok (.arraylength, 1)) (k : X p l e R s m args below meth c Q D d K A nL zc zs L M lv (pc + 1) (iv n :: st)) : X p l e R s m args below meth c Q D d K A nL zc zs L M lv pc (.ref (K j0) :: st) := fun H locs ls LB hh hl => va_alen (cl := gCl) C.1.1 C.1.2.1 C.1.2.2.2.2.2.1 hh.2.1 j0 ti ((fx_at K d L M LB (by omega)).trans (by rw [he])) ht hv dg (k H locs ls LB hh hl)
theorem x_mmax (C : XC p R s m args c D d A cc nL own lvl zc zs) {index : Nat} {x y : Int} (hlink : Cond.methodLink own index Lib.Math.max.name ∈ gW) (hstat : Cond.static Lib.Math.max.name ∈ gW) (hini : Cond.initialized "java/lang/Math" ∈ gW) (hcode : Cond.code Lib.Math.max.name Lib.Math.max.code 2 (some .int) ∈ gW) (hlo : (st.map fun v => v.category).sum + 13 ≤ 150) (dg : decode cc pc = .ok (.invokestatic index, 3)) (k : X p l e R s m args below meth c Q D d K A nL zc zs L M lv (pc + 3) (iv (imax x y) :: st)) : X p l e R s m args below meth c Q D d K A nL zc zs L M lv pc (iv y :: iv x :: st) := by
  intro H locs ls LB hh hl
  refine va_mmax C.1.1 C.1.2.1 (C.1.2.2.1.trans hl.1.symm) C.1.2.2.2.1 (C.1.2.2.2.2.1 _ hlink) (C.1.2.2.2.2.1 _ hstat) (C.1.2.2.2.2.1 _ hini) (C.1.2.2.2.2.1 _ hcode) (by have := C.2.2.1; omega) (by have := C.2.2.2.1; omega) (Nat.le_refl _) (Nat.le_refl _) dg ?_
  have h9 := k H locs ls LB hh hl
  have e : Int32.ofInt (imax x y) = if Int32.ofInt x < Int32.ofInt y then Int32.ofInt y else Int32.ofInt x := by
    unfold imax
    by_cases h : bm x < bm y
    · rw [if_pos h, if_pos ((i_lt _ _).mpr h)]
    · rw [if_neg h, if_neg (fun q => h ((i_lt _ _).mp q))]
  unfold iv at h9
  rw [e] at h9
  exact h9
theorem x_mmin (C : XC p R s m args c D d A cc nL own lvl zc zs) {index : Nat} {x y : Int} (hlink : Cond.methodLink own index Lib.Math.min.name ∈ gW) (hstat : Cond.static Lib.Math.min.name ∈ gW) (hini : Cond.initialized "java/lang/Math" ∈ gW) (hcode : Cond.code Lib.Math.min.name Lib.Math.min.code 2 (some .int) ∈ gW) (hlo : (st.map fun v => v.category).sum + 13 ≤ 150) (dg : decode cc pc = .ok (.invokestatic index, 3)) (k : X p l e R s m args below meth c Q D d K A nL zc zs L M lv (pc + 3) (iv (imin x y) :: st)) : X p l e R s m args below meth c Q D d K A nL zc zs L M lv pc (iv y :: iv x :: st) := by
  intro H locs ls LB hh hl
  refine va_mmin C.1.1 C.1.2.1 (C.1.2.2.1.trans hl.1.symm) C.1.2.2.2.1 (C.1.2.2.2.2.1 _ hlink) (C.1.2.2.2.2.1 _ hstat) (C.1.2.2.2.2.1 _ hini) (C.1.2.2.2.2.1 _ hcode) (by have := C.2.2.1; omega) (by have := C.2.2.2.1; omega) (Nat.le_refl _) (Nat.le_refl _) dg ?_
  have h9 := k H locs ls LB hh hl
  have e : Int32.ofInt (imin x y) = if Int32.ofInt y < Int32.ofInt x then Int32.ofInt y else Int32.ofInt x := by
    unfold imin
    by_cases h : bm y < bm x
    · rw [if_pos h, if_pos ((i_lt _ _).mpr h)]
    · rw [if_neg h, if_neg (fun q => h ((i_lt _ _).mp q))]
  unfold iv at h9
  rw [e] at h9
  exact h9
theorem W.tight {H : Heap} {locs : List Loc} {ck sl k n : Nat} {g : JFrame} (h1 : H.size ≤ s.heap.size + k) (h2 : TOT H ≤ TOT s.heap + n) (kk : W p l e R s m args below meth c H locs k n Q g) : W p l e R s m args below meth c H locs ck sl Q g := by
  intro T hT Y
  refine kk T hT { Y with same := ?_ }
  obtain ⟨a1, a2, a3, a4, a5, a6⟩ := Y.same
  have h0 := tot_same Y.same
  refine ⟨a1, a2, ?_, a4, ?_, a6⟩
  · show T.heap.size ≤ _
    rw [hT]
    exact h1
  · have h3 : TOT (T.setVm s.vm).heap = TOT H := by show TOT T.heap = _; rw [hT]
    omega
theorem va_free0 {A0 : Nat → Prop} {ws : va_W} {H0 H : Heap} {locs : List Loc} (hD : va_D A0 ws) (hS : va_S A0 H0 H locs) (hA : ∀ q, H0.size ≤ q → A0 q) : ∀ q, va_A ws H.size q → A0 q := fun q h => h.elim (fun ⟨k, e, h⟩ => hD.2 k (q, e) h) (fun h => hA q (Nat.le_trans hS.1 h))
def kP (D : va_G) (d : Nat → ClassId) (K : Nat → Nat) (L : va_W) (M : g_M) (LB : g_B) (sz tz : Nat) (U : State) : Prop := U.heap.size = sz ∧ TOT U.heap = tz ∧ g_wf M LB ∧ va_P D gCl (wd K d L M LB) U.heap ∧ va_K D gCl (g_ty d) U ∧ va_D (fun _ => True) (wd K d L M LB) ∧ g_AO U ∧ (∀ w ∈ gB, va_Nw w U) ∧ g_ex (va_A (wd K d L M LB) sz) U
def kB (D : va_G) (d : Nat → ClassId) (K : Nat → Nat) (L : va_W) (nc ns : Int) (sz tz : Nat) (A : Nat → Prop) : g_M × g_B → State → Prop := fun u t => g_wf u.1 u.2 ∧ va_P D gCl (wd K d L u.1 u.2) t.heap ∧ va_D A (wd K d L u.1 u.2) ∧ (t.heap.size : Int) + nc ≤ sz + nC u.1 u.2 ∧ (TOT t.heap : Int) + ns ≤ tz + nS u.1 u.2
abbrev qI (D : va_G) (d : Nat → ClassId) (K : Nat → Nat) (L : va_W) (nc ns : Int) (sz tz : Nat) (Q : Int → g_M → Prop) (A : Nat → Prop) := va_Qi (fun (r : Int32) (u : Int × g_M × g_B) => r = Int32.ofInt u.1 ∧ Q u.1 u.2.1) (fun u t => kB D d K L nc ns sz tz A u.2 t) A
abbrev qV (D : va_G) (d : Nat → ClassId) (K : Nat → Nat) (L : va_W) (nc ns : Int) (sz tz : Nat) (Q : g_M → Prop) (A : Nat → Prop) := va_Qv (fun (u : g_M × g_B) => Q u.1) (fun u t => kB D d K L nc ns sz tz A u t) A
abbrev qX (D : va_G) (d : Nat → ClassId) (K : Nat → Nat) (L : va_W) (nc ns : Int) (sz tz : Nat) (EX : String) (QE : g_M → Prop) (A : Nat → Prop) := vx_X (fun (u : g_M × g_B) => QE u.1) (fun E' u t => E' = EX ∧ kB D d K L nc ns sz tz A u t) A
def g_rmx (n : Nat) (M : g_M) (LB : g_B) : Room := { frames := n + 6, cells := cC M LB, slots := cS M LB, locals := 150 + 50 * n }
def MI (l : Launch) (D : va_G) (d : Nat → ClassId) (K : Nat → Nat) (y : MethodName) (bb : ByteArray) (nY : Nat) (ret : Option FieldType) (n : Nat) (av : List Value) (F : (Int → g_M → Prop) → g_M → Prop) : Prop := ∀ (L : va_W) (M : g_M) (LB : g_B) (sz tz : Nat) (Q : Int → g_M → Prop), F Q M → Met l y (g_wd y bb nY ret) (g_rmx n M LB) (va_Pc av (kP D d K L M LB sz tz)) (qI D d K L (nC M LB) (nS M LB) sz tz Q (va_A (wd K d L M LB) sz)) (cC M LB) (cS M LB) (va_A (wd K d L M LB) sz)
def MV (l : Launch) (D : va_G) (d : Nat → ClassId) (K : Nat → Nat) (y : MethodName) (bb : ByteArray) (nY : Nat) (ret : Option FieldType) (n : Nat) (av : List Value) (F : (g_M → Prop) → g_M → Prop) : Prop := ∀ (L : va_W) (M : g_M) (LB : g_B) (sz tz : Nat) (Q : g_M → Prop), F Q M → Met l y (g_wd y bb nY ret) (g_rmx n M LB) (va_Pc av (kP D d K L M LB sz tz)) (qV D d K L (nC M LB) (nS M LB) sz tz Q (va_A (wd K d L M LB) sz)) (cC M LB) (cS M LB) (va_A (wd K d L M LB) sz)
def MX (l : Launch) (D : va_G) (d : Nat → ClassId) (K : Nat → Nat) (y : MethodName) (bb : ByteArray) (nY : Nat) (ret : Option FieldType) (n : Nat) (av : List Value) (EX : String) (F : (Int → g_M → Prop) → (g_M → Prop) → g_M → Prop) : Prop := ∀ (L : va_W) (M : g_M) (LB : g_B) (sz tz : Nat) (Q : Int → g_M → Prop) (QE : g_M → Prop), F Q QE M → vx_Met l y (g_wd y bb nY ret) (g_rmx n M LB) (va_Pc av (kP D d K L M LB sz tz)) (qI D d K L (nC M LB) (nS M LB) sz tz Q (va_A (wd K d L M LB) sz)) (qX D d K L (nC M LB) (nS M LB) sz tz EX QE (va_A (wd K d L M LB) sz)) (cC M LB) (cS M LB) (va_A (wd K d L M LB) sz)
def MH (l : Launch) (D : va_G) (d : Nat → ClassId) (K : Nat → Nat) (y : MethodName) (bb : ByteArray) (nY : Nat) (ret : Option FieldType) (hh : List (Nat × Nat × Nat × Nat)) (n : Nat) (av : List Value) (F : (Int → g_M → Prop) → g_M → Prop) : Prop := ∀ (L : va_W) (M : g_M) (LB : g_B) (sz tz : Nat) (Q : Int → g_M → Prop), F Q M → Met l y (g_wh y bb nY ret hh) (g_rmx n M LB) (va_Pc av (kP D d K L M LB sz tz)) (qI D d K L (nC M LB) (nS M LB) sz tz Q (va_A (wd K d L M LB) sz)) (cC M LB) (cS M LB) (va_A (wd K d L M LB) sz)
theorem kp_blind {LB : g_B} {sz tz : Nat} {av : List Value} : FrameBlind (va_Pc av (kP D d K L M LB sz tz)) := fun a U g mk q => by
  obtain ⟨q0, q1, q2, q3, q4, q5, q6, q7, q8, q9⟩ := q
  exact ⟨q0, q1, q2, q3, q4, va_K.moved (u := U) (U := U.calling g mk a) (Vm.Alike.refl U.vm) q5, q6, q7.moved (u := U) (U := U.calling g mk a) (Vm.Alike.refl U.vm), gB_same (s := U) (U := U.calling g mk a) rfl q8, q9.same rfl rfl⟩
theorem kp_pre (C : XC p R s m args c D d A cc nL own lvl zc zs) {H : Heap} {locs : List Loc} {LB : g_B} (hh : XH D d K A s zc zs L M LB H locs) {U : State} (hU : U.heap = H) (hW : s.WarmedH U.vm) : kP D d K L M LB H.size (TOT H) U :=
  ⟨by rw [hU], by rw [hU], hh.1, by rw [hU]; exact hh.2.1, va_K.moved hW.alike C.1.2.2.2.2.2.1, hh.2.2.1.weaken (fun _ _ _ _ => trivial), C.1.2.2.2.2.2.2.2.1.moved hW.alike, gB_warm hW C.1.2.2.2.2.2.2.2.2, C.2.1.to hh.2.2.2.1 hU hW (va_free0 hh.2.2.1 hh.2.2.2.1 C.1.2.2.2.2.2.2.1)⟩
theorem kb_post (C : XC p R s m args c D d A cc nL own lvl zc zs) {H H1 : Heap} {locs locs1 : List Loc} {LB : g_B} {L' : va_W} (hh : XH D d K A s zc zs L M LB H locs) {t : State} (ht : t.heap = H1) {u : g_M × g_B} (hB : kB D d K L' (nC M LB) (nS M LB) H.size (TOT H) (va_A (wd K d L M LB) H.size) u t) (hS1 : va_S A s.heap H1 locs1) : XH D d K A s zc zs L' u.1 u.2 H1 locs1 := by
  obtain ⟨b1, b2, b3, b4, b5⟩ := hB
  rw [ht] at b2 b4 b5
  obtain ⟨h1, h2, h3, h4, h5, h6⟩ := hh
  exact ⟨b1, b2, b3.weaken (fun k q _ h => va_free0 h3 h4 C.1.2.2.2.2.2.2.1 _ h), hS1, by omega, by omega⟩
theorem W.grow {H : Heap} {locs : List Loc} {ck sl : Nat} {g : JFrame} (kk : TOT s.heap ≤ TOT H → W p l e R s m args below meth c H locs ck sl Q g) : W p l e R s m args below meth c H locs ck sl Q g := by
  intro T hT Y
  have h0 := tot_same Y.same
  have h3 : TOT (T.setVm s.vm).heap = TOT H := by show TOT T.heap = _; rw [hT]
  exact kk (by omega) T hT Y
theorem xroom (C : XC p R s m args c D d A cc nL own lvl zc zs) {H : Heap} {locs : List Loc} {LB : g_B} (hh : XH D d K A s zc zs L M LB H locs) (hwt : TOT s.heap ≤ TOT H) : H.size - s.heap.size + cC M LB ≤ R.cells ∧ TOT H - TOT s.heap + cS M LB ≤ R.slots := by
  obtain ⟨h1, h2, h3, h4, h5, h6⟩ := hh
  have hc := h1.cap
  have hz := h4.1
  obtain ⟨-, -, -, -, c1, c2⟩ := C
  unfold cC cS
  omega
theorem x_callVi (C : XC p R s m args c D d A cc nL own lvl zc zs) {y : MethodName} {bb : ByteArray} {nY nA index : Nat} {ret : Option FieldType} {n : Nat} (F : g_mf y bb nY ret nA) (G : g_mv y) (hlink : Cond.methodLink own index y ∈ gW) {j0 : Nat} {As rest : List Value} {FF : (Int → g_M → Prop) → g_M → Prop} {Q1 : Int → g_M → Prop} (hM : MI l D d K y bb nY ret n (.ref (K j0) :: As) FF) (h : FF Q1 M) (hj0 : j0 < 91) {ci : Nat} {T : u_T} {N : Nat} {fs : List Value} (he : ∀ B, we K d B (M (40 + j0)) j0 = .inr (ci, fs)) (hci : gCl[ci]? = some (y.cls, T, N)) (hn : n + 1 ≤ lvl) (hnY : nY ≤ 31) (hrest : (rest.map fun v => v.category).sum ≤ 8) {st0 : List Value} (hst : st0 = As.reverse ++ .ref (K j0) :: rest) (hlen : As.length = nA) (dg : decode cc pc = .ok (.invokevirtual index, 3)) (k : ∀ (v : Int) (M1 : g_M), Q1 v M1 → X p l e R s m args below meth c Q D d K A nL zc zs L M1 lv (pc + 3) (iv v :: rest)) : X p l e R s m args below meth c Q D d K A nL zc zs L M lv pc st0 := by
  intro H locs ls LB hh hl
  refine W.grow (fun hwt => ?_)
  have hr := xroom C hh hwt
  have hwz := hh.2.2.2.1.1
  refine W.tight (k := H.size - s.heap.size) (n := TOT H - TOT s.heap) (by omega) (by omega) ?_
  have cw : CallW R s args own y.cls index y bb nY ret (g_wd y bb nY ret) (g_rmx n M LB) (cC M LB) (cS M LB) nA := ⟨callB_of nA C.1.2.2.2.2.1 (g_goodC F.1) rfl rfl rfl (C.1.2.2.2.2.1 _ F.2.1) (C.1.2.2.2.2.1 _ hlink) F.2.2 ⟨by show n + 6 + 1 ≤ _; have := C.2.2.1; omega, by show 8 + (nY + 11) + (150 + 50 * n) ≤ _; have := C.2.2.2.1; omega⟩, C.1.2.2.2.2.1 _ G.1, C.1.2.2.2.2.1 _ G.2⟩
  refine va_calli (va_runV (Ts := gW) ⟨C.1.1, C.1.2.1, C.1.2.2.1, C.1.2.2.2.1, C.1.2.2.2.2.1⟩ (hM L M LB H.size (TOT H) Q1 h) cw ⟨kp_blind, va_recv C.1.2.2.2.2.2.1 hh.2.1 hci ((fx_at K d L M LB hj0).trans (by rw [he])), fun U hU hW => ⟨rfl, kp_pre C hh hU hW⟩⟩ rfl hlen hl.1 hst (lv_room hrest) dg hr) hh.2.2.2.1 (fun q _ h => va_free0 hh.2.2.1 hh.2.2.2.1 C.1.2.2.2.2.2.2.1 q h) (va_free0 hh.2.2.1 hh.2.2.2.1 C.1.2.2.2.2.2.2.1) (fun r u t H1 locs1 ht hvm hw9 hB hz1 hk1 hS1 => ?_)
  obtain ⟨rfl, hq⟩ := hw9
  exact W.widen hr.1 hr.2 (k u.1 u.2.1 hq H1 locs1 ls u.2.2 (kb_post C hh ht hB hS1) hl)
theorem x_callVv (C : XC p R s m args c D d A cc nL own lvl zc zs) {y : MethodName} {bb : ByteArray} {nY nA index : Nat} {ret : Option FieldType} {n : Nat} (F : g_mf y bb nY ret nA) (G : g_mv y) (hlink : Cond.methodLink own index y ∈ gW) {j0 : Nat} {As rest : List Value} {FF : (g_M → Prop) → g_M → Prop} {Q1 : g_M → Prop} (hM : MV l D d K y bb nY ret n (.ref (K j0) :: As) FF) (h : FF Q1 M) (hj0 : j0 < 91) {ci : Nat} {T : u_T} {N : Nat} {fs : List Value} (he : ∀ B, we K d B (M (40 + j0)) j0 = .inr (ci, fs)) (hci : gCl[ci]? = some (y.cls, T, N)) (hn : n + 1 ≤ lvl) (hnY : nY ≤ 31) (hrest : (rest.map fun v => v.category).sum ≤ 8) {st0 : List Value} (hst : st0 = As.reverse ++ .ref (K j0) :: rest) (hlen : As.length = nA) (dg : decode cc pc = .ok (.invokevirtual index, 3)) (k : ∀ M1 : g_M, Q1 M1 → X p l e R s m args below meth c Q D d K A nL zc zs L M1 lv (pc + 3) rest) : X p l e R s m args below meth c Q D d K A nL zc zs L M lv pc st0 := by
  intro H locs ls LB hh hl
  refine W.grow (fun hwt => ?_)
  have hr := xroom C hh hwt
  have hwz := hh.2.2.2.1.1
  refine W.tight (k := H.size - s.heap.size) (n := TOT H - TOT s.heap) (by omega) (by omega) ?_
  have cw : CallW R s args own y.cls index y bb nY ret (g_wd y bb nY ret) (g_rmx n M LB) (cC M LB) (cS M LB) nA := ⟨callB_of nA C.1.2.2.2.2.1 (g_goodC F.1) rfl rfl rfl (C.1.2.2.2.2.1 _ F.2.1) (C.1.2.2.2.2.1 _ hlink) F.2.2 ⟨by show n + 6 + 1 ≤ _; have := C.2.2.1; omega, by show 8 + (nY + 11) + (150 + 50 * n) ≤ _; have := C.2.2.2.1; omega⟩, C.1.2.2.2.2.1 _ G.1, C.1.2.2.2.2.1 _ G.2⟩
  refine va_callv (va_runV (Ts := gW) ⟨C.1.1, C.1.2.1, C.1.2.2.1, C.1.2.2.2.1, C.1.2.2.2.2.1⟩ (hM L M LB H.size (TOT H) Q1 h) cw ⟨kp_blind, va_recv C.1.2.2.2.2.2.1 hh.2.1 hci ((fx_at K d L M LB hj0).trans (by rw [he])), fun U hU hW => ⟨rfl, kp_pre C hh hU hW⟩⟩ rfl hlen hl.1 hst (lv_room hrest) dg hr) hh.2.2.2.1 (fun q _ h => va_free0 hh.2.2.1 hh.2.2.2.1 C.1.2.2.2.2.2.2.1 q h) (va_free0 hh.2.2.1 hh.2.2.2.1 C.1.2.2.2.2.2.2.1) (fun u t H1 locs1 ht hvm hw9 hB hz1 hk1 hS1 => ?_)
  exact W.widen hr.1 hr.2 (k u.1 hw9 H1 locs1 ls u.2 (kb_post C hh ht hB hS1) hl)
theorem x_callSi (C : XC p R s m args c D d A cc nL own lvl zc zs) {y : MethodName} {bb : ByteArray} {nY nA index : Nat} {ret : Option FieldType} {n : Nat} (F : g_mf y bb nY ret nA) (hstat : Cond.static y ∈ gW) (hlink : Cond.methodLink own index y ∈ gW) {As rest : List Value} {FF : (Int → g_M → Prop) → g_M → Prop} {Q1 : Int → g_M → Prop} (hM : MI l D d K y bb nY ret n As FF) (h : FF Q1 M) (hn : n + 1 ≤ lvl) (hnY : nY ≤ 31) (hrest : (rest.map fun v => v.category).sum ≤ 8) {st0 : List Value} (hst : st0 = As.reverse ++ rest) (hlen : As.length = nA) (dg : decode cc pc = .ok (.invokestatic index, 3)) (k : ∀ (v : Int) (M1 : g_M), Q1 v M1 → X p l e R s m args below meth c Q D d K A nL zc zs L M1 lv (pc + 3) (iv v :: rest)) : X p l e R s m args below meth c Q D d K A nL zc zs L M lv pc st0 := by
  intro H locs ls LB hh hl
  refine W.grow (fun hwt => ?_)
  have hr := xroom C hh hwt
  have hwz := hh.2.2.2.1.1
  refine W.tight (k := H.size - s.heap.size) (n := TOT H - TOT s.heap) (by omega) (by omega) ?_
  have cw : CallB R s args own index y bb nY ret (g_wd y bb nY ret) (g_rmx n M LB) (cC M LB) (cS M LB) nA ∧ (Cond.static y).before args s = true := ⟨callB_of nA C.1.2.2.2.2.1 (g_goodC F.1) rfl rfl rfl (C.1.2.2.2.2.1 _ F.2.1) (C.1.2.2.2.2.1 _ hlink) F.2.2 ⟨by show n + 6 + 1 ≤ _; have := C.2.2.1; omega, by show 8 + (nY + 11) + (150 + 50 * n) ≤ _; have := C.2.2.2.1; omega⟩, C.1.2.2.2.2.1 _ hstat⟩
  refine va_calli (va_runS (Ts := gW) ⟨C.1.1, C.1.2.1, C.1.2.2.1, C.1.2.2.2.1, C.1.2.2.2.2.1⟩ (hM L M LB H.size (TOT H) Q1 h) cw ⟨kp_blind, fun U hU hW => ⟨rfl, kp_pre C hh hU hW⟩⟩ rfl hlen hl.1 hst (lv_room hrest) dg hr) hh.2.2.2.1 (fun q _ h => va_free0 hh.2.2.1 hh.2.2.2.1 C.1.2.2.2.2.2.2.1 q h) (va_free0 hh.2.2.1 hh.2.2.2.1 C.1.2.2.2.2.2.2.1) (fun r u t H1 locs1 ht hvm hw9 hB hz1 hk1 hS1 => ?_)
  obtain ⟨rfl, hq⟩ := hw9
  exact W.widen hr.1 hr.2 (k u.1 u.2.1 hq H1 locs1 ls u.2.2 (kb_post C hh ht hB hS1) hl)
theorem x_callSv (C : XC p R s m args c D d A cc nL own lvl zc zs) {y : MethodName} {bb : ByteArray} {nY nA index : Nat} {ret : Option FieldType} {n : Nat} (F : g_mf y bb nY ret nA) (hstat : Cond.static y ∈ gW) (hlink : Cond.methodLink own index y ∈ gW) {As rest : List Value} {FF : (g_M → Prop) → g_M → Prop} {Q1 : g_M → Prop} (hM : MV l D d K y bb nY ret n As FF) (h : FF Q1 M) (hn : n + 1 ≤ lvl) (hnY : nY ≤ 31) (hrest : (rest.map fun v => v.category).sum ≤ 8) {st0 : List Value} (hst : st0 = As.reverse ++ rest) (hlen : As.length = nA) (dg : decode cc pc = .ok (.invokestatic index, 3)) (k : ∀ M1 : g_M, Q1 M1 → X p l e R s m args below meth c Q D d K A nL zc zs L M1 lv (pc + 3) rest) : X p l e R s m args below meth c Q D d K A nL zc zs L M lv pc st0 := by
  intro H locs ls LB hh hl
  refine W.grow (fun hwt => ?_)
  have hr := xroom C hh hwt
  have hwz := hh.2.2.2.1.1
  refine W.tight (k := H.size - s.heap.size) (n := TOT H - TOT s.heap) (by omega) (by omega) ?_
  have cw : CallB R s args own index y bb nY ret (g_wd y bb nY ret) (g_rmx n M LB) (cC M LB) (cS M LB) nA ∧ (Cond.static y).before args s = true := ⟨callB_of nA C.1.2.2.2.2.1 (g_goodC F.1) rfl rfl rfl (C.1.2.2.2.2.1 _ F.2.1) (C.1.2.2.2.2.1 _ hlink) F.2.2 ⟨by show n + 6 + 1 ≤ _; have := C.2.2.1; omega, by show 8 + (nY + 11) + (150 + 50 * n) ≤ _; have := C.2.2.2.1; omega⟩, C.1.2.2.2.2.1 _ hstat⟩
  refine va_callv (va_runS (Ts := gW) ⟨C.1.1, C.1.2.1, C.1.2.2.1, C.1.2.2.2.1, C.1.2.2.2.2.1⟩ (hM L M LB H.size (TOT H) Q1 h) cw ⟨kp_blind, fun U hU hW => ⟨rfl, kp_pre C hh hU hW⟩⟩ rfl hlen hl.1 hst (lv_room hrest) dg hr) hh.2.2.2.1 (fun q _ h => va_free0 hh.2.2.1 hh.2.2.2.1 C.1.2.2.2.2.2.2.1 q h) (va_free0 hh.2.2.1 hh.2.2.2.1 C.1.2.2.2.2.2.2.1) (fun u t H1 locs1 ht hvm hw9 hB hz1 hk1 hS1 => ?_)
  exact W.widen hr.1 hr.2 (k u.1 hw9 H1 locs1 ls u.2 (kb_post C hh ht hB hS1) hl)
theorem x_callWi (C : XC p R s m args c D d A cc nL own lvl zc zs) {y : MethodName} {bb : ByteArray} {nY nA index : Nat} {ret : Option FieldType} {n : Nat} {th : List (Nat × Nat × Nat × Nat)} (F : Cond.codeWith y bb nY ret th ∈ gW ∧ Cond.initialized y.cls ∈ gW ∧ (y.cls ≠ "java/lang/invoke/MethodHandle" ∧ y.cls ≠ "java/lang/invoke/VarHandle" ∧ (parseMethodDescriptor y.desc).map (fun d => d.parameters.length) = some nA)) (hstat : Cond.static y ∈ gW) (hlink : Cond.methodLink own index y ∈ gW) {As rest : List Value} {FF : (Int → g_M → Prop) → g_M → Prop} {Q1 : Int → g_M → Prop} (hM : MH l D d K y bb nY ret th n As FF) (h : FF Q1 M) (hn : n + 1 ≤ lvl) (hnY : nY ≤ 31) (hrest : (rest.map fun v => v.category).sum ≤ 8) {st0 : List Value} (hst : st0 = As.reverse ++ rest) (hlen : As.length = nA) (dg : decode cc pc = .ok (.invokestatic index, 3)) (k : ∀ (v : Int) (M1 : g_M), Q1 v M1 → X p l e R s m args below meth c Q D d K A nL zc zs L M1 lv (pc + 3) (iv v :: rest)) : X p l e R s m args below meth c Q D d K A nL zc zs L M lv pc st0 := by
  intro H locs ls LB hh hl
  refine W.grow (fun hwt => ?_)
  have hr := xroom C hh hwt
  have hwz := hh.2.2.2.1.1
  refine W.tight (k := H.size - s.heap.size) (n := TOT H - TOT s.heap) (by omega) (by omega) ?_
  have hG9 : GoodIn gW (va_wsS own index y (g_wh y bb nY ret th)) := g_goodA (a := [.methodLink own index y, .static y, .initialized y.cls]) (fun w hw => (List.mem_cons.mp hw).elim (fun e => by rw [e]; exact hlink) (fun hw => (List.mem_cons.mp hw).elim (fun e => by rw [e]; exact hstat) (fun hw => (List.mem_cons.mp hw).elim (fun e => by rw [e]; exact F.2.1) (fun hw => nomatch hw)))) (g_goodC F.1)
  have cw : vx_CSW R s args own index y bb nY ret th (g_wh y bb nY ret th) (g_rmx n M LB) (cC M LB) (cS M LB) nA := vx_cwSW nA C.1.2.2.2.2.1 hG9 rfl rfl rfl F.2.2 ⟨by show n + 6 + 1 ≤ _; have := C.2.2.1; omega, by show 8 + (nY + 11) + (150 + 50 * n) ≤ _; have := C.2.2.2.1; omega⟩
  refine va_calli (vx_runSW (Ts := gW) ⟨C.1.1, C.1.2.1, C.1.2.2.1, C.1.2.2.2.1, C.1.2.2.2.2.1⟩ (hM L M LB H.size (TOT H) Q1 h) cw ⟨kp_blind, fun U hU hW => ⟨rfl, kp_pre C hh hU hW⟩⟩ rfl hlen hl.1 hst (lv_room hrest) dg hr) hh.2.2.2.1 (fun q _ h => va_free0 hh.2.2.1 hh.2.2.2.1 C.1.2.2.2.2.2.2.1 q h) (va_free0 hh.2.2.1 hh.2.2.2.1 C.1.2.2.2.2.2.2.1) (fun r u t H1 locs1 ht hvm hw9 hB hz1 hk1 hS1 => ?_)
  obtain ⟨rfl, hq⟩ := hw9
  exact W.widen hr.1 hr.2 (k u.1 u.2.1 hq H1 locs1 ls u.2.2 (kb_post C hh ht hB hS1) hl)
theorem x_callXi (C : XC p R s m args c D d A cc nL own lvl zc zs) {y : MethodName} {bb : ByteArray} {nY nA index : Nat} {ret : Option FieldType} {n : Nat} (F : g_mf y bb nY ret nA) (G : g_mv y) {j0 : Nat} (hlink : Cond.methodLink own index y ∈ gW) {As rest : List Value} {EX : String} {FF : (Int → g_M → Prop) → (g_M → Prop) → g_M → Prop} {Q1 : Int → g_M → Prop} {QE1 : g_M → Prop} (hM : MX l D d K y bb nY ret n (.ref (K j0) :: As) EX FF) (h : FF Q1 QE1 M) (hj0 : j0 < 91) {ci : Nat} {T : u_T} {N : Nat} {fs : List Value} (he : ∀ B, we K d B (M (40 + j0)) j0 = .inr (ci, fs)) (hci : gCl[ci]? = some (y.cls, T, N)) (hn : n + 1 ≤ lvl) (hnY : nY ≤ 31) (hrest : (rest.map fun v => v.category).sum ≤ 8) {st0 : List Value} (hst : st0 = As.reverse ++ .ref (K j0) :: rest) (hlen : As.length = nA) (x : ExceptionTableEntry) (suf : List ExceptionTableEntry) (hsplit : c.exceptionTable.toList = x :: suf) (hx : covers x pc = true) (h0 : x.catchType ≠ 0) (hcl : Cond.classLink own x.catchType EX ∈ gW) (hcast : Cond.castable EX EX ∈ gB) (dg : decode cc pc = .ok (.invokevirtual index, 3)) (k : ∀ (v : Int) (M1 : g_M), Q1 v M1 → X p l e R s m args below meth c Q D d K A nL zc zs L M1 lv (pc + 3) (iv v :: rest)) (kx : ∀ (q9 : Nat) (M1 : g_M), QE1 M1 → X p l e R s m args below meth c Q D d K A nL zc zs L M1 lv x.handlerPc [.ref q9]) : X p l e R s m args below meth c Q D d K A nL zc zs L M lv pc st0 := by
  intro H locs ls LB hh hl
  refine W.grow (fun hwt => ?_)
  have hr := xroom C hh hwt
  have hwz := hh.2.2.2.1.1
  refine W.tight (k := H.size - s.heap.size) (n := TOT H - TOT s.heap) (by omega) (by omega) ?_
  have cw : CallW R s args own y.cls index y bb nY ret (g_wd y bb nY ret) (g_rmx n M LB) (cC M LB) (cS M LB) nA := ⟨callB_of nA C.1.2.2.2.2.1 (g_goodC F.1) rfl rfl rfl (C.1.2.2.2.2.1 _ F.2.1) (C.1.2.2.2.2.1 _ hlink) F.2.2 ⟨by show n + 6 + 1 ≤ _; have := C.2.2.1; omega, by show 8 + (nY + 11) + (150 + 50 * n) ≤ _; have := C.2.2.2.1; omega⟩, C.1.2.2.2.2.1 _ G.1, C.1.2.2.2.2.1 _ G.2⟩
  have hFc := va_free0 hh.2.2.1 hh.2.2.2.1 C.1.2.2.2.2.2.2.1
  refine vx_calli (vx_runV (Ts := gW) ⟨C.1.1, C.1.2.1, C.1.2.2.1, C.1.2.2.2.1, C.1.2.2.2.2.1⟩ (hM L M LB H.size (TOT H) Q1 QE1 h) cw ⟨kp_blind, va_recv C.1.2.2.2.2.2.1 hh.2.1 hci ((fx_at K d L M LB hj0).trans (by rw [he])), fun U hU hW => ⟨rfl, kp_pre C hh hU hW⟩⟩ rfl hlen hl.1 hst (lv_room hrest) dg hr) hh.2.2.2.1 (fun q _ h => hFc q h) hFc (fun q _ h => hFc q h) (fun E' ce q9 u t H1 locs1 ht hvm hpx hBX hz1 hk1 hS1 hce hcv hcls => ?_) (fun r u t H1 locs1 ht hvm hw9 hB hz1 hk1 hS1 => ?_)
  · obtain ⟨rfl, hB⟩ := hBX
    refine vx_widen hr.1 hr.2 ?_
    exact vx_catch C.1.2.2.2.1 [] x suf hsplit (fun z hz => by cases hz) hx h0 (C.1.2.2.2.2.1 _ hcl) ((C.1.2.2.2.2.2.2.2.2 _ hcast).use rfl) hce hcv hcls (kx q9 u.1 hpx H1 locs1 ls u.2 (kb_post C hh ht hB hS1) hl)
  · obtain ⟨rfl, hq⟩ := hw9
    exact W.widen hr.1 hr.2 (k u.1 u.2.1 hq H1 locs1 ls u.2.2 (kb_post C hh ht hB hS1) hl)
def RTI (p : Program) (l : Launch) (e : Env) (R : Room) (s : State) (m : MethodId) (args : Array Value) (below : List Frame) (meth : Method) (c : Code) (Q : State → Prop) (D : va_G) (d : Nat → ClassId) (K : Nat → Nat) (A : Nat → Prop) (nL : Nat) (zc zs : Int) (L : va_W) (cc : ByteArray) (Q1 : Int → g_M → Prop) : Prop := ∀ (r : Int) (M : g_M) (lv : List (Nat × Value)) (pc : Nat), decode cc pc = .ok (.ireturn, 1) → Q1 r M → X p l e R s m args below meth c Q D d K A nL zc zs L M lv pc [iv r]
def RTZ (p : Program) (l : Launch) (e : Env) (R : Room) (s : State) (m : MethodId) (args : Array Value) (below : List Frame) (meth : Method) (c : Code) (Q : State → Prop) (D : va_G) (d : Nat → ClassId) (K : Nat → Nat) (A : Nat → Prop) (nL : Nat) (zc zs : Int) (L : va_W) (cc : ByteArray) (Q1 : Int → g_M → Prop) : Prop := ∀ (r : Int) (M : g_M) (lv : List (Nat × Value)) (pc : Nat), decode cc pc = .ok (.ireturn, 1) → isB r → Q1 r M → X p l e R s m args below meth c Q D d K A nL zc zs L M lv pc [iv r]
def RTY (p : Program) (l : Launch) (e : Env) (R : Room) (s : State) (m : MethodId) (args : Array Value) (below : List Frame) (meth : Method) (c : Code) (Q : State → Prop) (D : va_G) (d : Nat → ClassId) (K : Nat → Nat) (A : Nat → Prop) (nL : Nat) (zc zs : Int) (L : va_W) (cc : ByteArray) (Q1 : Int → g_M → Prop) : Prop := ∀ (r : Int) (M : g_M) (lv : List (Nat × Value)) (pc : Nat), decode cc pc = .ok (.ireturn, 1) → isY r → Q1 r M → X p l e R s m args below meth c Q D d K A nL zc zs L M lv pc [iv r]
def RTV (p : Program) (l : Launch) (e : Env) (R : Room) (s : State) (m : MethodId) (args : Array Value) (below : List Frame) (meth : Method) (c : Code) (Q : State → Prop) (D : va_G) (d : Nat → ClassId) (K : Nat → Nat) (A : Nat → Prop) (nL : Nat) (zc zs : Int) (L : va_W) (cc : ByteArray) (Q1 : g_M → Prop) : Prop := ∀ (M : g_M) (lv : List (Nat × Value)) (pc : Nat), decode cc pc = .ok (.return_, 1) → Q1 M → X p l e R s m args below meth c Q D d K A nL zc zs L M lv pc []
def HTW (p : Program) (l : Launch) (e : Env) (R : Room) (s : State) (m : MethodId) (args : Array Value) (below : List Frame) (meth : Method) (c : Code) (Q : State → Prop) (D : va_G) (d : Nat → ClassId) (K : Nat → Nat) (A : Nat → Prop) (nL : Nat) (zc zs : Int) (L : va_W) (cc : ByteArray) (ln ic : Nat) (ld : Nat → Instr) (EX : String) (QE : g_M → Prop) : Prop := ∀ (M : g_M) {lv : List (Nat × Value)} {pc ik is : Nat} {text : String}, M 99 0 < 1000 → QE (up M 99 0 (M 99 0 + 1)) → Cond.classLink RX11 ik EX ∈ gW → Cond.initialized EX ∈ gW → (is, text) ∈ gTx → decode cc pc = .ok (.new ik, 3) → decode cc (pc + 3) = .ok (.dup, 1) → decode cc (pc + 4) = .ok (ld is, ln) → decode cc (pc + (4 + ln)) = .ok (.invokespecial ic, 3) → decode cc (pc + (7 + ln)) = .ok (.athrow, 1) → X p l e R s m args below meth c Q D d K A nL zc zs L M lv pc []
end XD
section XM
variable {l : Launch} {D : va_G} {d : Nat → ClassId} {K : Nat → Nat} {y : MethodName} {av : List Value} {cc : ByteArray} {maxL n : Nat} {ret : Option FieldType}
theorem xc_start {p : Program} {s : State} {m : MethodId} {args : Array Value} {c : Code} {L : va_W} {M : g_M} {LB : g_B} {sz tz : Nat} (hx : p.tables.exec = Jvm.exec) (hb : c.code = cc) (hml : c.maxLocals = maxL) (hown : s.vm.findClass y.cls = some m.cls) (hts : ∀ w ∈ gW, w.before args s = true) (hv : kP D d K L M LB sz tz s) : XC p (g_rmx n M LB) s m args c D d (va_A (wd K d L M LB) sz) cc maxL y.cls n (s.heap.size - nC M LB) (TOT s.heap - nS M LB) ∧ XH D d K (va_A (wd K d L M LB) sz) s (s.heap.size - nC M LB) (TOT s.heap - nS M LB) L M LB s.heap [] := by
  obtain ⟨hsz, htz, hwf, hP, hK, hD0, hO, hB, hE⟩ := hv
  subst hsz
  have hc := hwf.cap
  refine ⟨⟨⟨hx, hb, hml, hown, hts, hK, fun q h => Or.inr h, hO, hB⟩, hE, Nat.le_refl _, Nat.le_refl _, ?_, ?_⟩, hwf, hP, hD0.self, va_S.rf, ?_, ?_⟩
  · show _ ≤ ((cC M LB : Nat) : Int)
    unfold cC
    omega
  · show _ ≤ ((cS M LB : Nat) : Int)
    unfold cS
    omega
  · omega
  · omega
theorem s_mi (hy : plainName y.cls = true) (hlen : (lg_sl av).length ≤ maxL) (lv0 : List (Nat × Value)) (hlv : lv_args 0 av = lv0) (hrt : ret = some .int) {F : (Int → g_M → Prop) → g_M → Prop}
    (body : ∀ (p : Program) (e : Env) (R : Room) (s : State) (m : MethodId) (args : Array Value) (below : List Frame) (meth : Method) (c : Code) (A : Nat → Prop) (L : va_W) (M : g_M) (zc zs : Int) (Q : Int → g_M → Prop) (Qg : State → Prop), XC p R s m args c D d A cc maxL y.cls n zc zs → RTI p l e R s m args below meth c Qg D d K A maxL zc zs L cc Q → F Q M → X p l e R s m args below meth c Qg D d K A maxL zc zs L M lv0 0 []) : MI l D d K y cc maxL ret n av F := by
  intro L M LB sz tz Q hF
  refine Met.ofW (cc := cc) (maxL := maxL) (ret := ret) hy rfl ?_
  intro p e s m args below meth c s₁ B hml hv
  obtain ⟨rfl, hv⟩ := hv
  rw [lg_entry_eq]
  have hts := atoms_spec (ws := g_wd y cc maxL ret) B.pre
  have hR := B.returns
  have hlk := B.notSynchronized
  obtain ⟨C, h0⟩ := xc_start (n := n) B.exec B.bytes hml (findClass_of_methodNamed B.named) (fun w hw => hts w (List.mem_cons_of_mem _ hw)) hv
  have K9 : X p l e (g_rmx n M LB) s m av.toArray below meth c (MQ below (qI D d K L (nC M LB) (nS M LB) sz tz Q (va_A (wd K d L M LB) sz)) av.toArray s (cC M LB) (cS M LB) (va_A (wd K d L M LB) sz)) D d K (va_A (wd K d L M LB) sz) maxL (s.heap.size - nC M LB) (TOT s.heap - nS M LB) L M lv0 0 [] := by
    have hret : RTI p l e (g_rmx n M LB) s m av.toArray below meth c (MQ below (qI D d K L (nC M LB) (nS M LB) sz tz Q (va_A (wd K d L M LB) sz)) av.toArray s (cC M LB) (cS M LB) (va_A (wd K d L M LB) sz)) D d K (va_A (wd K d L M LB) sz) maxL (s.heap.size - nC M LB) (TOT s.heap - nS M LB) L cc Q := by
      intro r M1 lv1 pc1 dg hq H locs ls LB1 h1 hl
      refine W.iret C.1.1 C.1.2.1 (hR.trans hrt) (fun t ht hW => ⟨⟨Int32.ofInt r, (r, M1, LB1), rfl, ⟨rfl, hq⟩, ?_⟩, h1.2.2.2.1.F ht⟩) h1.2.2.2.1.2.2 dg hlk
      refine ⟨h1.1, by rw [ht]; exact h1.2.1, h1.2.2.1, ?_, ?_⟩
      · rw [ht]
        have := h1.2.2.2.2.1
        have := hv.1
        dsimp only
        omega
      · rw [ht]
        have := h1.2.2.2.2.2
        have := hv.2.1
        dsimp only
        omega
    exact body _ _ _ _ _ _ _ _ _ _ _ _ _ _ _ _ C hret hF
  exact W.widen (Nat.zero_le _) (Nat.zero_le _) (K9 s.heap [] _ LB h0 (hlv ▸ lv_entry av hlen))
theorem s_mz (hy : plainName y.cls = true) (hlen : (lg_sl av).length ≤ maxL) (lv0 : List (Nat × Value)) (hlv : lv_args 0 av = lv0) (hrt : ret = some .boolean) {F : (Int → g_M → Prop) → g_M → Prop}
    (body : ∀ (p : Program) (e : Env) (R : Room) (s : State) (m : MethodId) (args : Array Value) (below : List Frame) (meth : Method) (c : Code) (A : Nat → Prop) (L : va_W) (M : g_M) (zc zs : Int) (Q : Int → g_M → Prop) (Qg : State → Prop), XC p R s m args c D d A cc maxL y.cls n zc zs → RTZ p l e R s m args below meth c Qg D d K A maxL zc zs L cc Q → F Q M → X p l e R s m args below meth c Qg D d K A maxL zc zs L M lv0 0 []) : MI l D d K y cc maxL ret n av F := by
  intro L M LB sz tz Q hF
  refine Met.ofW (cc := cc) (maxL := maxL) (ret := ret) hy rfl ?_
  intro p e s m args below meth c s₁ B hml hv
  obtain ⟨rfl, hv⟩ := hv
  rw [lg_entry_eq]
  have hts := atoms_spec (ws := g_wd y cc maxL ret) B.pre
  have hR := B.returns
  have hlk := B.notSynchronized
  obtain ⟨C, h0⟩ := xc_start (n := n) B.exec B.bytes hml (findClass_of_methodNamed B.named) (fun w hw => hts w (List.mem_cons_of_mem _ hw)) hv
  have K9 : X p l e (g_rmx n M LB) s m av.toArray below meth c (MQ below (qI D d K L (nC M LB) (nS M LB) sz tz Q (va_A (wd K d L M LB) sz)) av.toArray s (cC M LB) (cS M LB) (va_A (wd K d L M LB) sz)) D d K (va_A (wd K d L M LB) sz) maxL (s.heap.size - nC M LB) (TOT s.heap - nS M LB) L M lv0 0 [] := by
    have hret : RTZ p l e (g_rmx n M LB) s m av.toArray below meth c (MQ below (qI D d K L (nC M LB) (nS M LB) sz tz Q (va_A (wd K d L M LB) sz)) av.toArray s (cC M LB) (cS M LB) (va_A (wd K d L M LB) sz)) D d K (va_A (wd K d L M LB) sz) maxL (s.heap.size - nC M LB) (TOT s.heap - nS M LB) L cc Q := by
      intro r M1 lv1 pc1 dg hb9 hq H locs ls LB1 h1 hl
      refine W.zret C.1.1 C.1.2.1 (hR.trans hrt) (i_bool hb9).1 (fun t ht hW => ⟨⟨Int32.ofInt r, (r, M1, LB1), rfl, ⟨rfl, hq⟩, ?_⟩, h1.2.2.2.1.F ht⟩) h1.2.2.2.1.2.2 dg hlk
      refine ⟨h1.1, by rw [ht]; exact h1.2.1, h1.2.2.1, ?_, ?_⟩
      · rw [ht]
        have := h1.2.2.2.2.1
        have := hv.1
        dsimp only
        omega
      · rw [ht]
        have := h1.2.2.2.2.2
        have := hv.2.1
        dsimp only
        omega
    exact body _ _ _ _ _ _ _ _ _ _ _ _ _ _ _ _ C hret hF
  exact W.widen (Nat.zero_le _) (Nat.zero_le _) (K9 s.heap [] _ LB h0 (hlv ▸ lv_entry av hlen))
theorem s_my (hy : plainName y.cls = true) (hlen : (lg_sl av).length ≤ maxL) (lv0 : List (Nat × Value)) (hlv : lv_args 0 av = lv0) (hrt : ret = some .byte) {F : (Int → g_M → Prop) → g_M → Prop}
    (body : ∀ (p : Program) (e : Env) (R : Room) (s : State) (m : MethodId) (args : Array Value) (below : List Frame) (meth : Method) (c : Code) (A : Nat → Prop) (L : va_W) (M : g_M) (zc zs : Int) (Q : Int → g_M → Prop) (Qg : State → Prop), XC p R s m args c D d A cc maxL y.cls n zc zs → RTY p l e R s m args below meth c Qg D d K A maxL zc zs L cc Q → F Q M → X p l e R s m args below meth c Qg D d K A maxL zc zs L M lv0 0 []) : MI l D d K y cc maxL ret n av F := by
  intro L M LB sz tz Q hF
  refine Met.ofW (cc := cc) (maxL := maxL) (ret := ret) hy rfl ?_
  intro p e s m args below meth c s₁ B hml hv
  obtain ⟨rfl, hv⟩ := hv
  rw [lg_entry_eq]
  have hts := atoms_spec (ws := g_wd y cc maxL ret) B.pre
  have hR := B.returns
  have hlk := B.notSynchronized
  obtain ⟨C, h0⟩ := xc_start (n := n) B.exec B.bytes hml (findClass_of_methodNamed B.named) (fun w hw => hts w (List.mem_cons_of_mem _ hw)) hv
  have K9 : X p l e (g_rmx n M LB) s m av.toArray below meth c (MQ below (qI D d K L (nC M LB) (nS M LB) sz tz Q (va_A (wd K d L M LB) sz)) av.toArray s (cC M LB) (cS M LB) (va_A (wd K d L M LB) sz)) D d K (va_A (wd K d L M LB) sz) maxL (s.heap.size - nC M LB) (TOT s.heap - nS M LB) L M lv0 0 [] := by
    have hret : RTY p l e (g_rmx n M LB) s m av.toArray below meth c (MQ below (qI D d K L (nC M LB) (nS M LB) sz tz Q (va_A (wd K d L M LB) sz)) av.toArray s (cC M LB) (cS M LB) (va_A (wd K d L M LB) sz)) D d K (va_A (wd K d L M LB) sz) maxL (s.heap.size - nC M LB) (TOT s.heap - nS M LB) L cc Q := by
      intro r M1 lv1 pc1 dg hb9 hq H locs ls LB1 h1 hl
      refine W.zret C.1.1 C.1.2.1 (hR.trans hrt) (i_byte hb9) (fun t ht hW => ⟨⟨Int32.ofInt r, (r, M1, LB1), rfl, ⟨rfl, hq⟩, ?_⟩, h1.2.2.2.1.F ht⟩) h1.2.2.2.1.2.2 dg hlk
      refine ⟨h1.1, by rw [ht]; exact h1.2.1, h1.2.2.1, ?_, ?_⟩
      · rw [ht]
        have := h1.2.2.2.2.1
        have := hv.1
        dsimp only
        omega
      · rw [ht]
        have := h1.2.2.2.2.2
        have := hv.2.1
        dsimp only
        omega
    exact body _ _ _ _ _ _ _ _ _ _ _ _ _ _ _ _ C hret hF
  exact W.widen (Nat.zero_le _) (Nat.zero_le _) (K9 s.heap [] _ LB h0 (hlv ▸ lv_entry av hlen))
theorem s_mv (hy : plainName y.cls = true) (hlen : (lg_sl av).length ≤ maxL) (lv0 : List (Nat × Value)) (hlv : lv_args 0 av = lv0) (hrt : ret = none) {F : (g_M → Prop) → g_M → Prop}
    (body : ∀ (p : Program) (e : Env) (R : Room) (s : State) (m : MethodId) (args : Array Value) (below : List Frame) (meth : Method) (c : Code) (A : Nat → Prop) (L : va_W) (M : g_M) (zc zs : Int) (Q : g_M → Prop) (Qg : State → Prop), XC p R s m args c D d A cc maxL y.cls n zc zs → RTV p l e R s m args below meth c Qg D d K A maxL zc zs L cc Q → F Q M → X p l e R s m args below meth c Qg D d K A maxL zc zs L M lv0 0 []) : MV l D d K y cc maxL ret n av F := by
  intro L M LB sz tz Q hF
  refine Met.ofW (cc := cc) (maxL := maxL) (ret := ret) hy rfl ?_
  intro p e s m args below meth c s₁ B hml hv
  obtain ⟨rfl, hv⟩ := hv
  rw [lg_entry_eq]
  have hts := atoms_spec (ws := g_wd y cc maxL ret) B.pre
  have hR := B.returns
  have hlk := B.notSynchronized
  obtain ⟨C, h0⟩ := xc_start (n := n) B.exec B.bytes hml (findClass_of_methodNamed B.named) (fun w hw => hts w (List.mem_cons_of_mem _ hw)) hv
  have K9 : X p l e (g_rmx n M LB) s m av.toArray below meth c (MQ below (qV D d K L (nC M LB) (nS M LB) sz tz Q (va_A (wd K d L M LB) sz)) av.toArray s (cC M LB) (cS M LB) (va_A (wd K d L M LB) sz)) D d K (va_A (wd K d L M LB) sz) maxL (s.heap.size - nC M LB) (TOT s.heap - nS M LB) L M lv0 0 [] := by
    have hret : RTV p l e (g_rmx n M LB) s m av.toArray below meth c (MQ below (qV D d K L (nC M LB) (nS M LB) sz tz Q (va_A (wd K d L M LB) sz)) av.toArray s (cC M LB) (cS M LB) (va_A (wd K d L M LB) sz)) D d K (va_A (wd K d L M LB) sz) maxL (s.heap.size - nC M LB) (TOT s.heap - nS M LB) L cc Q := by
      intro M1 lv1 pc1 dg hq H locs ls LB1 h1 hl
      refine W.vret C.1.1 C.1.2.1 (hR.trans hrt) (fun t ht hW => ⟨⟨(M1, LB1), rfl, hq, ?_⟩, h1.2.2.2.1.F ht⟩) h1.2.2.2.1.2.2 dg hlk
      refine ⟨h1.1, by rw [ht]; exact h1.2.1, h1.2.2.1, ?_, ?_⟩
      · rw [ht]
        have := h1.2.2.2.2.1
        have := hv.1
        dsimp only
        omega
      · rw [ht]
        have := h1.2.2.2.2.2
        have := hv.2.1
        dsimp only
        omega
    exact body _ _ _ _ _ _ _ _ _ _ _ _ _ _ _ _ C hret hF
  exact W.widen (Nat.zero_le _) (Nat.zero_le _) (K9 s.heap [] _ LB h0 (hlv ▸ lv_entry av hlen))
theorem s_mh {hh : List (Nat × Nat × Nat × Nat)} (hy : plainName y.cls = true) (hlen : (lg_sl av).length ≤ maxL) (lv0 : List (Nat × Value)) (hlv : lv_args 0 av = lv0) (hrt : ret = some .int) {F : (Int → g_M → Prop) → g_M → Prop}
    (body : ∀ (p : Program) (e : Env) (R : Room) (s : State) (m : MethodId) (args : Array Value) (below : List Frame) (meth : Method) (c : Code) (A : Nat → Prop) (L : va_W) (M : g_M) (zc zs : Int) (Q : Int → g_M → Prop) (Qg : State → Prop), XC p R s m args c D d A cc maxL y.cls n zc zs → c.exceptionTable.toList = tableOf hh → RTI p l e R s m args below meth c Qg D d K A maxL zc zs L cc Q → F Q M → X p l e R s m args below meth c Qg D d K A maxL zc zs L M lv0 0 []) : MH l D d K y cc maxL ret hh n av F := by
  intro L M LB sz tz Q hF
  refine MetFree.of_bodyS (code := cc) (maxLocals := maxL) (ret := ret) hy ?_ ?_
  · intro args s m h hn
    obtain ⟨m9, meth, c, hn9, h1, h2, h3, h4, -, h5, h6, -⟩ := Cond.codeWith_spec (atoms_spec (ws := g_wh y cc maxL ret hh) h _ List.mem_cons_self)
    cases hn.symm.trans hn9
    exact ⟨meth, c, h1, h2, h3, h4, h5, h6⟩
  · intro p e s m args below meth c s₁ B hml hv _
    obtain ⟨rfl, hv⟩ := hv
    have hh0 : s₁.heap = s.heap := by rw [B.state]; rfl
    have hts := atoms_spec (ws := g_wh y cc maxL ret hh) B.pre
    have htab := vx_table (x := y) B (hts _ List.mem_cons_self)
    have hR := B.returns
    have hlk := B.notSynchronized
    obtain ⟨C, h0⟩ := xc_start (n := n) B.exec B.bytes hml (findClass_of_methodNamed B.named) (fun w hw => hts w (List.mem_cons_of_mem _ hw)) hv
    have hret : RTI p l e (g_rmx n M LB) s m av.toArray below meth c (MQ below (qI D d K L (nC M LB) (nS M LB) sz tz Q (va_A (wd K d L M LB) sz)) av.toArray s (cC M LB) (cS M LB) (va_A (wd K d L M LB) sz)) D d K (va_A (wd K d L M LB) sz) maxL (s.heap.size - nC M LB) (TOT s.heap - nS M LB) L cc Q := by
      intro r M1 lv1 pc1 dg hq H locs ls LB1 h1 hl
      refine W.iret C.1.1 C.1.2.1 (hR.trans hrt) (fun t ht hW => ⟨⟨Int32.ofInt r, (r, M1, LB1), rfl, ⟨rfl, hq⟩, ?_⟩, h1.2.2.2.1.F ht⟩) h1.2.2.2.1.2.2 dg hlk
      refine ⟨h1.1, by rw [ht]; exact h1.2.1, h1.2.2.1, ?_, ?_⟩
      · rw [ht]
        have := h1.2.2.2.2.1
        have := hv.1
        dsimp only
        omega
      · rw [ht]
        have := h1.2.2.2.2.2
        have := hv.2.1
        dsimp only
        omega
    have K9 := W.widen (Nat.zero_le _) (Nat.zero_le _) (body _ _ _ _ _ _ _ _ _ _ _ _ _ _ _ _ C htab hret hF s.heap [] _ LB h0 (hlv ▸ lv_entry av hlen))
    rw [← lg_entry_eq] at K9
    obtain ⟨t, a1, o, b1, b2, b3, b4⟩ := K9 s₁ hh0 (Stand.of_body B)
    exact ⟨t, o, a1, b1, b2, b3, b4⟩
end XM
end
