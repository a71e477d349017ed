section Y2
variable {Ls : Nat} {xs : Nat → Int32} {k81 : Int → Int → Int → g_M → g_M → Prop} {k284 : Int → Int → Int → Int → Int → g_M → g_M → Prop} {x9 x10 x11 x12 : Int} {M N : g_M} {n m n0 r ec lv nb q : Nat} {S uf : Nat → Nat}
theorem NU.inj {a b x : Nat} (hNU : NU M n m) (ha : a < m) (hb : b < m) (ea : M 33 a = (x : Int)) (eb : M 33 b = (x : Int)) : a = b := by
  have e1 := (hNU.2.1 a ha).2.2
  have e2 := (hNU.2.1 b hb).2.2
  rw [ea] at e1
  rw [eb] at e2
  omega
theorem CKS.next {M' : g_M} {n' : Nat} (h : CKS M N n m n0 r ec lv nb q S uf) (hO : OB M' n' m n0 r ec lv S) (hE : EX n M M') (hP : PT M' n' r nb n0) (h33 : M' 33 = M 33) (h99 : M' 99 = M 99) (hF : FRM M M') : CKS M' N n' m n0 r ec lv nb q S uf :=
  ⟨hO, h.2.1.ext hE h.1.1.2.2.1 (Nat.le_refl _) (fun i _ => by rw [h33]), h.2.2.1.ext hF, hP, by rw [h99]; exact h.2.2.2.2⟩
theorem r_law414 {i z kx : Nat} {v : Int} (h : CKS M N n m n0 r ec lv nb q S uf) (hb : nb + n0 ≤ 880) (hm : m < 16000) (hi : i < 14) (hN : NF M n r (uf i) z kx) (hv : RSN M m z v)
    (kk : ∀ (n' : Nat) (M' : g_M), CKS M' N n' m n0 r ec lv nb q S uf → F_L_law_463 Ls xs k81 k284 x9 x10 x11 x12 i M' N) : F_L_law_414 Ls xs k81 k284 x9 x10 x11 x12 i v M N := by
  have h' := h
  obtain ⟨hO, hU, hUQ, hP, h99⟩ := h'
  have hle := hP.le
  have hn0 := hO.1.2.2.1
  obtain ⟨p, p1, p2, p3, hx⟩ := hU.1 i hi
  have hH := hO.1.2.2.2 (uf i) hx
  have hzn := NF_lt hO.wf.st hO.rsk.1.1 (by omega) hN
  have bi : bm (i : Int) = (i : Int) := bq (by omega) (by omega)
  unfold F_L_law_414
  rw [bi, Int.toNat_natCast, p2]
  refine ⟨ink i rfl hi (by omega), ?_⟩
  refine r_stepCount hO (by omega) hm hP p (uf i) p1 p3 (by omega) hH.2 hH.1 (Or.inl hx) (fun z' k' n' M' g1 g2 g3 g4 g5 g6 g7 g8 g9 g10 => ?_)
  have hN' := NF_ext hO.wf.st g1.wf.st g2 g3 (g10.sr r) _ _ _ (by omega) hN
  obtain ⟨ez, ek⟩ := NF_det g1.wf.st g1.rsk.1.1 _ _ _ _ _ (by omega) g5 hN'
  have hC' : CKS M' N n' m n0 r ec lv nb q S uf := h.next g1 g3 g4 g7 g8 g10
  have hv' : RSN M' m z v := hv.ext g3 hzn (Nat.le_refl _) (fun i _ => by rw [g7])
  have hiff : (k' = 0) ↔ v = (p : Int) := by
    rw [ek]
    have hzx : kx = 0 ↔ z = uf i := ⟨fun e => NFzero g1.wf _ _ (by omega) (by rw [e] at hN'; exact hN'), fun e => NFself g1.wf g1.rsk (x := uf i) (by omega) (by rw [e] at hN'; exact hN')⟩
    rw [hzx]
    rcases hv with ⟨j, j1, j2, j3, -⟩ | ⟨hv, hbig⟩
    · constructor
      · intro e
        rw [e] at j3
        rw [j1, hO.wf.nu.inj j2 p1 j3 p3]
      · intro e
        have : j = p := by omega
        rw [this, p3] at j3
        exact (Int.ofNat.inj j3).symm
    · constructor
      · intro e
        rw [e] at hbig
        omega
      · intro e
        omega
  have b37 : bm ((k' : Nat) : Int) = (k' : Int) := bq (by omega) (by omega)
  have bp : bm ((p : Nat) : Int) = (p : Int) := bq (by omega) (by omega)
  have k444 : ∀ t, F_L_law_444 Ls xs k81 k284 x9 x10 x11 x12 i v t t M' N := fun t => r_law444 hC' hb hm hx hN' hv' kk
  have k430 : ∀ t0 : Int, (t0 = 1 ∧ k' = 0 ∨ t0 = 0 ∧ k' ≠ 0) → F_L_law_430 Ls xs k81 k284 x9 x10 x11 x12 i v t0 M' N := fun t0 ht => by
    unfold F_L_law_430
    rw [bi, Int.toNat_natCast, p2, hv'.bm (by omega), bp]
    refine ⟨ink i rfl hi (by omega), fun e => ?_, fun e => ?_⟩
    · rcases ht with ⟨rfl, -⟩ | ⟨-, ht⟩
      · exact k444 1
      · exact absurd (hiff.2 e) ht
    · rcases ht with ⟨-, ht⟩ | ⟨rfl, -⟩
      · exact absurd (hiff.1 ht) e
      · exact k444 0
  show (bm ((k' : Nat) : Int) = 0 → F_L_law_430 Ls xs k81 k284 x9 x10 x11 x12 i v 1 M' N) ∧ (¬ bm ((k' : Nat) : Int) = 0 → F_L_law_430 Ls xs k81 k284 x9 x10 x11 x12 i v 0 M' N)
  rw [b37]
  exact ⟨fun e => k430 1 (Or.inl ⟨rfl, Int.ofNat.inj e⟩), fun e => k430 0 (Or.inr ⟨rfl, fun e' => e (by rw [e']; rfl)⟩)⟩
theorem r_law389 {i j z kx is : Nat} {v : Int} (h : CKS M N n m n0 r ec lv nb q S uf) (hb : nb + n0 ≤ 880) (hm : m < 16000) (hi : i < 14) (hj : j < 14) (hN : NF M n r (uf i) z kx) (hv : RSN M m z v) (his : is = 0 ∨ is = 1 ∧ ∃ ky, NF M n r (uf j) z ky)
    (kk : ∀ (n' : Nat) (M' : g_M), CKS M' N n' m n0 r ec lv nb q S uf → F_L_law_463 Ls xs k81 k284 x9 x10 x11 x12 i M' N) : F_L_law_389 Ls xs k81 k284 x9 x10 x11 x12 i v j is M N := by
  have h' := h
  obtain ⟨hO, hU, hUQ, hP, h99⟩ := h'
  have hle := hP.le
  have hn0 := hO.1.2.2.1
  have k414 := r_law414 (Ls := Ls) (xs := xs) (k81 := k81) (k284 := k284) (x9 := x9) (x10 := x10) (x11 := x11) (x12 := x12) h hb hm hi hN hv kk
  unfold F_L_law_389
  rw [hv.bm (by omega)]
  refine ⟨fun _ => k414, fun hnn => ?_⟩
  refine ⟨fun _ => k414, fun hne => ?_⟩
  have hx := (hU.1 i hi).choose_spec.2.2.2
  obtain ⟨p, p1, p2, p3, hy⟩ := hU.1 j hj
  have hHy := hO.1.2.2.2 (uf j) hy
  have hzn := NF_lt hO.wf.st hO.rsk.1.1 (by omega) hN
  rcases his with his | ⟨his, ky, hNy⟩
  · rw [his] at hne
    exact absurd (by decide) hne
  · rcases hv with ⟨a, a1, a2, a3, a4, a5⟩ | ⟨hv, -⟩
    · rw [bq (x := (j : Int)) (by omega) (by omega), Int.toNat_natCast, p2, a1]
      rw [a1] at k414
      refine ⟨ink j rfl hj (by omega), ?_⟩
      have hlt : p ≠ a → LT M z (uf j) := fun hne => by
        rcases NFle hO.wf hO.rsk _ _ _ (by omega) hNy with e | e
        · rw [← e] at p3
          exact absurd (hO.wf.nu.inj p1 a2 p3 a3) hne
        · exact e
      refine r_compare hO.wf hm (by omega) p a (uf j) z p1 a2 p3 a3 hHy.1 a5 (fun _ => ⟨fun c => absurd c (by decide), fun _ => k414⟩) (fun _ _ M' g1 g2 => ⟨fun c => absurd c (by decide), fun _ => ?_⟩) hlt
      have hE : EX n M M' := EX.of (g2 0 (by decide)) (g2 1 (by decide)) (g2 2 (by decide))
      have hF : FRM M M' := FRM.of g2 (by decide)
      have hO' : OB M' n m n0 r ec lv S := hO.ext g1 (Nat.le_refl _) hE (by rw [g2 41 (by decide)]) (fun b hb => g2 b (by
        revert b
        decide))
      have hP' : PT M' n r nb n0 := hP.ext hn0 hO.wf.st g1.st (Nat.le_refl _) (Nat.le_refl _) hE (hF.sr r)
      refine r_law414 (h.next hO' hE hP' (g2 33 (by decide)) (g2 99 (by decide)) hF) hb hm hi (NF_ext hO.wf.st g1.st (Nat.le_refl _) hE (hF.sr r) _ _ _ (by omega) hN) ?_ kk
      refine RSN.ext (n := n) (Or.inl ⟨a, rfl, a2, a3, a4, a5⟩) hE hzn (Nat.le_refl _) (fun i _ => by rw [g2 33 (by decide)])
    · omega
end Y2
