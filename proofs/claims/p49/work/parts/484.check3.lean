section Y3
variable {Ls : Nat} {xs : Nat → Int32} {k81 : Int → Int → Int → g_M → g_M → Prop} {k284 : Int → Int → Int → Int → Int → g_M → g_M → Prop} {x9 x10 x11 x12 : Int} {M N : g_M} {n m n0 r ec lv nb q : Nat} {S uf : Nat → Nat}
/-- the law's classes are the least congruence with the equations -/
def HLW (N : g_M) (ec : Nat) : Prop := ELAW N ec (fun i j => cl N i = cl N j) ∧ (∀ E, ELAW N ec E → SUB N E) ∧ CLS N
theorem CKS.same {i j z z2 kx ky : Nat} (h : CKS M N n m n0 r ec lv nb q S uf) (hL : HLW N ec) (hb : nb + n0 ≤ 880) (hi : i < 14) (hj : j < 14) (hN : NF M n r (uf i) z kx) (hN2 : NF M n r (uf j) z2 ky) : cl N i = cl N j ↔ z = z2 := by
  obtain ⟨hO, hU, hUQ, hP, h99⟩ := h
  have hle := hP.le
  have hn0 := hO.1.2.2.1
  obtain ⟨-, -, -, -, hx⟩ := hU.1 i hi
  obtain ⟨-, -, -, -, hy⟩ := hU.1 j hj
  constructor
  · exact fun e => NFcomplete hO.wf hO.rsk (by omega) hx hy (fun E hC hQ => ENL.least hU hO.wf hn0 hUQ hL.2.1 hC hQ i j hi hj e) hN hN2
  · intro e
    rw [← e] at hN2
    have := NFsound hO.wf hO.rsk (ENL.cge hU hO.wf hn0 hL.1) (ENL.eqs hUQ hL.1) hx hy hN hN2
    exact (ENL.iff hU hO.wf.nu hL.1 hi hj).1 this
theorem r_law343 {i j z z2 kx ky is : Nat} {v w : Int} (h : CKS M N n m n0 r ec lv nb q S uf) (hL : HLW N ec) (hb : nb + n0 ≤ 880) (hm : m < 16000) (hi : i < 14) (hj : j < 14) (hN : NF M n r (uf i) z kx) (hN2 : NF M n r (uf j) z2 ky) (hv : RSN M m z v) (hw : RSN M m z2 w) (his : is = 1 ∧ cl N i = cl N j ∨ is = 0 ∧ cl N i ≠ cl N j)
    (kk : ∀ (n' : Nat) (M' : g_M), CKS M' N n' m n0 r ec lv nb q S uf → F_L_law_463 Ls xs k81 k284 x9 x10 x11 x12 i M' N) : F_L_law_343 Ls xs k81 k284 x9 x10 x11 x12 i v j w is M N := by
  have h' := h
  obtain ⟨hO, hU, hUQ, hP, h99⟩ := h'
  have hle := hP.le
  have hn0 := hO.1.2.2.1
  obtain ⟨p, p1, p2, p3, hx⟩ := hU.1 i hi
  obtain ⟨s, s1, s2, s3, hy⟩ := hU.1 j hj
  have hz := NF_lt hO.wf.st hO.rsk.1.1 (by omega) hN
  have hz2 := NF_lt hO.wf.st hO.rsk.1.1 (by omega) hN2
  have hcc := h.same hL hb hi hj hN hN2
  unfold F_L_law_343
  rw [bq (x := (i : Int)) (by omega) (by omega), bq (x := (j : Int)) (by omega) (by omega), Int.toNat_natCast, Int.toNat_natCast, p2, s2]
  refine ⟨ink i rfl hi (by omega), ink j rfl hj (by omega), ?_⟩
  refine r_areEqual hO (by omega) hm hP (by omega) p s (uf i) (uf j) p1 s1 p3 s3 hx hy (fun v27 n' M' g1 g2 g3 g4 g5 g6 g7 g8 g9 => ?_)
  have hNx := NF_ext hO.wf.st g1.wf.st g2 g3 (g8.sr r) _ _ _ (by omega) hN
  have hNy := NF_ext hO.wf.st g1.wf.st g2 g3 (g8.sr r) _ _ _ (by omega) hN2
  have hC' : CKS M' N n' m n0 r ec lv nb q S uf := h.next g1 g3 g4 g5 g6 g8
  have hv' : RSN M' m z v := hv.ext g3 hz (Nat.le_refl _) (fun i _ => by rw [g5])
  have hw' : RSN M' m z2 w := hw.ext g3 hz2 (Nat.le_refl _) (fun i _ => by rw [g5])
  have det := fun a b c d e f g => NF_det g1.wf.st g1.rsk.1.1 a b c d e f g
  have h27 : v27 = 1 ∧ z = z2 ∨ v27 = 0 ∧ z ≠ z2 := by
    rcases g9 with ⟨e1, e2⟩ | ⟨e1, -, a, ka, b, kb, f1, f2, f3⟩
    · refine Or.inl ⟨e1, ?_⟩
      rcases e2 with e2 | ⟨a, ka, kb, f1, f2⟩
      · rw [← e2] at hNy
        exact (det _ _ _ _ _ (by omega) hNx hNy).1
      · have q1 := (det _ _ _ _ _ (by omega) hNx f1).1
        have q2 := (det _ _ _ _ _ (by omega) hNy f2).1
        omega
    · have q1 := (det _ _ _ _ _ (by omega) hNx f1).1
      have q2 := (det _ _ _ _ _ (by omega) hNy f2).1
      exact Or.inr ⟨e1, by omega⟩
  have hvis : v27 = is := by
    rcases his with ⟨e1, e2⟩ | ⟨e1, e2⟩ <;> rcases h27 with ⟨f1, f2⟩ | ⟨f1, f2⟩
    · rw [e1, f1]
    · exact absurd (hcc.1 e2) f2
    · exact absurd (hcc.2 f2) e2
    · rw [e1, f1]
  subst hvis
  have k389 : F_L_law_389 Ls xs k81 k284 x9 x10 x11 x12 i v j v27 M' N := by
    refine r_law389 hC' hb hm hi hj hNx hv' ?_ kk
    rcases h27 with ⟨e1, e2⟩ | ⟨e1, -⟩
    · rw [← e2] at hNy
      exact Or.inr ⟨e1, ky, hNy⟩
    · exact Or.inl e1
  refine ⟨fun _ => ?_, fun c => absurd rfl c⟩
  rw [hv'.bm (by omega), hw'.bm (by omega)]
  refine ⟨fun _ => k389, fun hvn => ⟨fun _ => k389, fun hwn => ?_⟩⟩
  have hnum : v = w ↔ z = z2 := by
    rcases hv' with ⟨a, a1, a2, a3, -⟩ | ⟨hv', -⟩
    · rcases hw' with ⟨b, b1, b2, b3, -⟩ | ⟨hw', -⟩
      · constructor
        · intro e
          have : a = b := by omega
          rw [this, b3] at a3
          exact (Int.ofNat.inj a3).symm
        · intro e
          rw [e] at a3
          rw [a1, b1, g1.wf.nu.inj a2 b2 a3 b3]
      · omega
    · omega
  have k384 : ∀ t0 : Int, t0 = (v27 : Int) → F_L_law_384 Ls xs k81 k284 x9 x10 x11 x12 i v j v27 t0 M' N := fun t0 ht => by
    unfold F_L_law_384
    rw [ht]
    exact ⟨fun _ => k389, fun c => absurd rfl c⟩
  refine ⟨fun e => k384 1 ?_, fun e => k384 0 ?_⟩
  · rcases h27 with ⟨e1, -⟩ | ⟨-, e2⟩
    · rw [e1]
      rfl
    · exact absurd (hnum.1 e) e2
  · rcases h27 with ⟨-, e2⟩ | ⟨e1, -⟩
    · exact absurd (hnum.2 e2) e
    · rw [e1]
      rfl
theorem r_normalL {Q : Int → g_M → Prop} {i : Nat} (h : CKS M N n m n0 r ec lv nb q S uf) (hb : nb + n0 ≤ 880) (hm : m < 16000) (hq : q < 1000) (hi : i < 14)
    (k : ∀ (v : Int) (z kx n' m' q' : Nat) (M' : g_M), CKS M' N n' m' n0 r ec lv nb q' S uf → n ≤ n' → EX n M M' → FRM M M' → (∀ i, i < m → M' 33 i = M 33 i) → m ≤ m' → m' ≤ m + 1 → q' ≤ q + 1 → NF M' n' r (uf i) z kx → RSN M' m' z v → Q v M') : F_L_normal Q (N 0 i) M := by
  obtain ⟨hO, hU, hUQ, hP, h99⟩ := h
  have hle := hP.le
  have hn0 := hO.1.2.2.1
  obtain ⟨p, p1, p2, p3, hx⟩ := hU.1 i hi
  unfold F_L_normal
  rw [p2]
  refine r_normalForm hO (by omega) hm hP p (uf i) p1 p3 hx h99 hq (fun j m' n' z kk M' g1 g2 g3 g4 g5 g6 g7 g8 g9 g10 g11 g12 g13 g14 g15 g16 => ?_) (fun n' z kk M' g1 g2 g3 g4 g5 g6 g7 g8 g9 g10 g11 => ?_)
  · exact k j z kk n' m' q M' ⟨g1, hU.ext g3 hn0 g5 g13, hUQ.ext g16, g4, by rw [g14, h99]⟩ g2 g3 g16 g13 g5 g6 (by omega) g12 (Or.inl ⟨j, rfl, g7, g8, g10, g11⟩)
  · exact k (-1) z kk n' m (q + 1) M' ⟨g1, hU.ext g3 hn0 (Nat.le_refl _) (fun i _ => by rw [g8]), hUQ.ext g11, g4, g9⟩ g2 g3 g11 (fun i _ => by rw [g8]) (Nat.le_refl _) (by omega) (Nat.le_refl _) g7 (Or.inr ⟨rfl, g6⟩)
theorem r_law284 {m0 q0 : Nat} (hL : HLW N ec) (hb : nb + n0 ≤ 880) (hm0 : m0 + 28 < 16000) (hq0 : q0 + 28 ≤ 1000)
    (kk : ∀ (n' m' q' : Nat) (M' : g_M), CKS M' N n' m' n0 r ec lv nb q' S uf → m' ≤ m0 + 28 → q' ≤ q0 + 28 → k81 x9 x10 (x11 + 1) M' N) :
    ∀ (f i n m q : Nat) (M : g_M), i ≤ 14 → 14 - i < f → CKS M N n m n0 r ec lv nb q S uf → m ≤ m0 + 2 * i → q ≤ q0 + 2 * i → F_L_law_284 Ls xs k81 f x9 x10 x11 x12 i M N := by
  intro f
  induction f with
  | zero => intros; omega
  | succ f ih =>
    intro i n m q M h1 h2 h hm hq
    have bi : bm (i : Int) = (i : Int) := bq (by omega) (by omega)
    unfold F_L_law_284
    rw [bi, show bm 14 = 14 by decide, Int.toNat_natCast]
    refine ⟨fun c9 => ⟨ink i rfl (by omega) (by omega), ?_⟩, fun c9 => ?_⟩
    · refine r_normalL h hb (by omega) (by omega) (by omega) (fun v z kx n1 m1 q1 M1 a1 a2 a3 a4 a5 a6 a7 a8 a9 a10 => ?_)
      refine r_below 14 (by omega) (by omega) (fun j hj => ?_)
      have bj : bm (j : Int) = (j : Int) := bq (by omega) (by omega)
      rw [bj, Int.toNat_natCast]
      refine ⟨ink j rfl hj (by omega), ?_⟩
      refine r_normalL a1 hb (by omega) (by omega) hj (fun w z2 ky n2 m2 q2 M2 b1 b2 b3 b4 b5 b6 b7 b8 b9 b10 => ?_)
      have hO1 := a1.1
      have hz := NF_lt hO1.wf.st hO1.rsk.1.1 (by have := (a1.2.1.1 i (by omega)).choose_spec.2.2.2; have := hO1.1.2.2.1; omega) a9
      have hNx := NF_ext hO1.wf.st b1.1.wf.st b2 b3 (b4.sr r) _ _ _ (by have := (a1.2.1.1 i (by omega)).choose_spec.2.2.2; have := hO1.1.2.2.1; omega) a9
      have hv2 := a10.ext b3 hz b6 b5
      have go : ∀ is : Nat, (is = 1 ∧ cl N i = cl N j ∨ is = 0 ∧ cl N i ≠ cl N j) → F_L_law_343 Ls xs k81 (F_L_law_284 Ls xs k81 f) x9 x10 x11 x12 i v j w is M2 N := fun is his => by
        refine r_law343 b1 hL hb (by omega) (by omega) hj hNx b9 hv2 b10 his (fun n' M' hC => ?_)
        unfold F_L_law_463
        rw [show (i : Int) + 1 = ((i + 1 : Nat) : Int) by omega]
        exact ih (i + 1) n' m2 q2 M' (by omega) (by omega) hC (by omega) (by omega)
      have ci := hL.2.2 i (by omega)
      have cj := hL.2.2 j hj
      rw [ci.1, cj.1, bq (x := ((cl N i : Nat) : Int)) (by omega) (by omega), bq (x := ((cl N j : Nat) : Int)) (by omega) (by omega)]
      refine ⟨ink i rfl (by omega) (by omega), ink j rfl hj (by omega), fun e => ?_, fun e => ?_⟩
      · exact go 1 (Or.inl ⟨rfl, Int.ofNat.inj e⟩)
      · exact go 0 (Or.inr ⟨rfl, fun e' => e (by rw [e'])⟩)
    · have hi14 : i = 14 := by omega
      subst hi14
      exact kk n m q M h (by omega) (by omega)
end Y3
