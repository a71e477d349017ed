section X1
/-- the object's state in the law -/
def OB (M : g_M) (n m n0 r ec lv : Nat) (S : Nat → Nat) : Prop :=
  (WF M n m ∧ n0 ≤ 14 ∧ n0 ≤ n ∧ HT M n0) ∧ (RSK M n n0 r ec ∧ (ec = 0 ∨ OKC M n0 ec)) ∧ (M 45 13 = (lv : Int) ∧ lv ≤ 8 ∧ M 45 10 = 0) ∧
  ∀ l, l < lv → M 57 l = ((S l : Nat) : Int) ∧ M 58 l = 0 ∧ S l ≤ ec ∧ (∀ l', l' < l → S l' ≤ S l) ∧ (S l = 0 ∨ OKC M n0 (S l))
theorem OB.wf {M : g_M} {n m n0 r ec lv : Nat} {S : Nat → Nat} (h : OB M n m n0 r ec lv S) : WF M n m := h.1.1
theorem OB.rsk {M : g_M} {n m n0 r ec lv : Nat} {S : Nat → Nat} (h : OB M n m n0 r ec lv S) : RSK M n n0 r ec := h.2.1.1
theorem OB.eqo {M : g_M} {n m n0 r ec lv : Nat} {S : Nat → Nat} (h : OB M n m n0 r ec lv S) : EQO M n0 ec := ⟨h.rsk.1.2.2.2.1, h.rsk.1.2.2.1, h.rsk.1.2.2.2.2⟩
theorem OB.ext2 {M M' : g_M} {n n' m m' n0 r ec lv : Nat} {S : Nat → Nat} (h : OB M n m n0 r ec lv S) (hW : WF M' n' m') (hn : n ≤ n') (hE : EX n M M') (h41 : M' 41 9 = M 41 9) (hd : ∀ a ∈ [32, 45, 51, 52, 54, 57, 58, 59, 60], M' a = M a) (h5 : ∀ e, e < ec → M' 55 e = M 55 e ∧ M' 56 e = M 56 e) : OB M' n' m' n0 r ec lv S := by
  obtain ⟨⟨a1, a2, a3, a4⟩, ⟨b1, b2⟩, ⟨c1, c2, c3⟩, d⟩ := h
  have hO : ORD M M' := ⟨h41, hd 51 (by decide), hd 52 (by decide), hd 54 (by decide)⟩
  have hOK : ∀ e, e ≤ ec → OKC M n0 e → OKC M' n0 e := fun e hle he => he.ext (hE.mono a3) hO (fun q hq => h5 q (by omega))
  have hRU : RUL M' n' r := b1.1.1.cong hn (by rw [hd 45 (by decide)]) (hd 59 (by decide)) (hd 60 (by decide)) (hd 32 (by decide))
  refine ⟨⟨hW, a2, by omega, fun x hx => ?_⟩, ⟨b1.ext a1.st hW.st hE hn hO hRU (fun i _ => by rw [hd 59 (by decide), hd 60 (by decide)]; exact ⟨rfl, rfl⟩) (by rw [hd 45 (by decide)]) h5, b2.imp id (hOK _ (Nat.le_refl _))⟩, by rw [hd 45 (by decide)]; exact ⟨c1, c2, c3⟩, fun l hl => ?_⟩
  · rw [(hE x (by omega)).2.2.2.2]
    exact a4 x hx
  · obtain ⟨e1, e2, e3, e4, e5⟩ := d l hl
    rw [hd 57 (by decide), hd 58 (by decide)]
    exact ⟨e1, e2, e3, e4, e5.imp id (hOK _ e3)⟩
theorem OB.ext {M M' : g_M} {n n' m m' n0 r ec lv : Nat} {S : Nat → Nat} (h : OB M n m n0 r ec lv S) (hW : WF M' n' m') (hn : n ≤ n') (hE : EX n M M') (h41 : M' 41 9 = M 41 9) (hd : ∀ a ∈ [32, 45, 51, 52, 54, 55, 56, 57, 58, 59, 60], M' a = M a) : OB M' n' m' n0 r ec lv S :=
  h.ext2 hW hn hE h41 (fun a ha => hd a (by
    revert a
    decide)) (fun e _ => by rw [hd 55 (by decide), hd 56 (by decide)]; exact ⟨rfl, rfl⟩)
/-- the rows of equations and rules stay -/
def FRM (M M' : g_M) : Prop := M' 55 = M 55 ∧ M' 56 = M 56 ∧ M' 59 = M 59 ∧ M' 60 = M 60
theorem FRM.of {M M' : g_M} {S : List Nat} (h : SM S M M') (hd : ∀ a ∈ [55, 56, 59, 60], a ∉ S) : FRM M M' := ⟨h _ (hd _ (by decide)), h _ (hd _ (by decide)), h _ (hd _ (by decide)), h _ (hd _ (by decide))⟩
theorem FRM.tr {M M' M'' : g_M} (h : FRM M M') (h' : FRM M' M'') : FRM M M'' := ⟨h'.1.trans h.1, h'.2.1.trans h.2.1, h'.2.2.1.trans h.2.2.1, h'.2.2.2.trans h.2.2.2⟩
theorem FRM.rf (M : g_M) : FRM M M := ⟨rfl, rfl, rfl, rfl⟩
theorem FRM.sr {M M' : g_M} (h : FRM M M') (r : Nat) : SR M M' r := fun i _ => by
  rw [h.2.2.1, h.2.2.2]
  exact ⟨rfl, rfl⟩
theorem up99 {M : g_M} {v : Int} : SM [99] M (up M 99 0 v) := (SM.rf _ _).u (by decide)
theorem r_normalForm {M : g_M} {Q : Int → g_M → Prop} {QE : g_M → Prop} {n m n0 r ec lv nb q : Nat} {S : Nat → Nat} (h : OB M n m n0 r ec lv S) (hn : n ≤ 1400) (hm : m < 16000) (hPT : PT M n r nb n0) (i x : Nat) (hi : i < m) (ex : M 33 i = (x : Int)) (hx : x < n0) (h99 : M 99 0 = (q : Int)) (hq : q < 1000)
    (k1 : ∀ (j m' n' z kk : Nat) (M' : g_M), OB M' n' m' n0 r ec lv S → n ≤ n' → EX n M M' → PT M' n' r nb n0 → m ≤ m' → m' ≤ m + 1 → j < m' → M' 33 j = (z : Int) → z < n' → M' 2 z / 512 ≤ 1000 → M' 2 z % 512 / 2 ≤ 60 → NF M' n' r x z kk → (∀ i, i < m → M' 33 i = M 33 i) → M' 99 = M 99 → M' 41 9 = M 41 9 → FRM M M' → Q j M')
    (k2 : ∀ (n' z kk : Nat) (M' : g_M), OB M' n' m n0 r ec lv S → n ≤ n' → EX n M M' → PT M' n' r nb n0 → z < n' → (1000 < M' 2 z / 512 ∨ 60 < M' 2 z % 512 / 2) → NF M' n' r x z kk → M' 33 = M 33 → M' 99 0 = ((q + 1 : Nat) : Int) → M' 41 9 = M 41 9 → FRM M M' → QE M') : F_X11_normalForm Q QE i M := by
  have hW := h.wf
  have hn0 := h.1.2.2.1
  have hH := h.1.2.2.2 x hx
  unfold F_X11_normalForm
  refine r_isTerm hW.nu hm i hi ⟨fun c => absurd c (by decide), fun _ => ?_⟩
  refine r_tidy hW.st ?_
  rw [rgn i (by omega), ex]
  refine r_nf hW h.rsk.1.1 hn x (by omega) hH.2 hH.1 hn0 hPT (Or.inl hx) (fun z kk c n' M1 g1 g2 g3 g4 g5 g6 g7 g8 g9 g10 g11 g12 g13 => ?_)
  have hOB1 : OB M1 n' m n0 r ec lv S := h.ext g1 g4 g3 (by rw [g8 41 (by decide)]) (fun a ha => g8 a (by
    revert a
    decide))
  refine r_isTooLarge g1.st z g7 (fun hbig => ⟨fun c => absurd c (by decide), fun _ => ?_⟩) (fun s1 s2 => ⟨fun _ => ?_, fun c => absurd rfl c⟩)
  · have e99 : M1 99 0 = (q : Int) := by rw [g8 99 (by decide), h99]
    refine ⟨by omega, ?_⟩
    generalize hM2 : up M1 99 0 (M1 99 0 + 1) = M2
    have hS2 : SM [99] M1 M2 := by
      rw [← hM2]
      exact up99
    have hR2 : RG M2 := by
      rw [← hM2]
      exact g1.rg.u (by omega) (by omega)
    have hW2 : WF M2 n' m := g1.cong hR2 hS2 (by decide)
    have hE2 : EX n' M1 M2 := EX.of (hS2 0 (by decide)) (hS2 1 (by decide)) (hS2 2 (by decide))
    have hSR : SR M1 M2 r := fun i _ => by
      rw [hS2 59 (by decide), hS2 60 (by decide)]
      exact ⟨rfl, rfl⟩
    refine k2 n' z kk M2 (hOB1.ext hW2 (Nat.le_refl _) hE2 (by rw [hS2 41 (by decide)]) (fun a ha => hS2 a (by
      revert a
      decide))) g4 (g3.tr hE2 g4) (g5.ext (by omega) g1.st hW2.st (Nat.le_refl _) (Nat.le_refl _) hE2 hSR) g7 (by rw [hS2 2 (by decide)]; exact hbig) (NF_ext g1.st hW2.st (Nat.le_refl _) hE2 hSR _ _ _ (by omega) g6) (by rw [hS2 33 (by decide), g8 33 (by decide)]) ?_ (by rw [hS2 41 (by decide), g8 41 (by decide)]) ((FRM.of g8 (by decide)).tr (FRM.of hS2 (by decide)))
    rw [← hM2, up1, e99]
    omega
  · refine r_giveNumber g1 hm z g7 (fun j m' M2 f1 f2 f3 f4 f5 f6 f7 f8 => ?_)
    have hE2 : EX n' M1 M2 := EX.of (f7 0 (by decide)) (f7 1 (by decide)) (f7 2 (by decide))
    have hSR : SR M1 M2 r := fun i _ => by
      rw [f7 59 (by decide), f7 60 (by decide)]
      exact ⟨rfl, rfl⟩
    refine k1 j m' n' z kk M2 (hOB1.ext f1 (Nat.le_refl _) hE2 f8 (fun a ha => f7 a (by
      revert a
      decide))) g4 (g3.tr hE2 g4) (g5.ext (by omega) g1.st f1.st (Nat.le_refl _) (Nat.le_refl _) hE2 hSR) f2 f3 f4 f5 g7 (by rw [f7 2 (by decide)]; exact s1) (by rw [f7 2 (by decide)]; exact s2) (NF_ext g1.st f1.st (Nat.le_refl _) hE2 hSR _ _ _ (by omega) g6) (fun i hi => by rw [f6 i hi, g8 33 (by decide)]) (by rw [f7 99 (by decide), g8 99 (by decide)]) (by rw [f8, g8 41 (by decide)]) ((FRM.of g8 (by decide)).tr (FRM.of f7 (by decide)))
end X1
