section X2
theorem r_nfO {M : g_M} {Q : Int → g_M → Prop} {n m n0 r ec lv nb : Nat} {S : Nat → Nat} (h : OB M n m n0 r ec lv S) (hn : n ≤ 1400) (hPT : PT M n r nb n0) (x : Nat) (hx : x < n) (hw : M 2 x / 512 ≤ 1000) (hh : M 2 x % 512 / 2 ≤ 60) (hD : x < n0 ∨ ∃ z k, NF M n r x z k)
    (k : ∀ (z kk c n' : Nat) (M' : g_M), OB M' n' m n0 r ec lv S → n ≤ n' → EX n M M' → PT M' n' r nb n0 → z < n' → NF M' n' r x z kk → SM [0, 1, 2, 4, 5, 6, 7, 8, 9, 42, 43, 61] M M' → M' 43 6 = (c : Int) → 0 < c → c ≤ 1400 → M' 9 (c - 1) = (kk : Int) → kk ≤ 1000 → Q z M') : F_X9_normalize Q x M :=
  r_nf h.wf h.rsk.1.1 hn x hx hw hh h.1.2.2.1 hPT hD (fun z kk c n' M1 g1 g2 g3 g4 g5 g6 g7 g8 g9 g10 g11 g12 g13 => k z kk c n' M1 (h.ext g1 g4 g3 (by rw [g8 41 (by decide)]) (fun a ha => g8 a (by
    revert a
    decide))) g4 g3 g5 g7 g6 g8 g9 g10 g11 g12 g13)
theorem r_stepCount {M : g_M} {Q : Int → g_M → Prop} {n m n0 r ec lv nb : Nat} {S : Nat → Nat} (h : OB M n m n0 r ec lv S) (hn : n ≤ 1400) (hm : m < 16000) (hPT : PT M n r nb n0) (i x : Nat) (hi : i < m) (ex : M 33 i = (x : Int)) (hx : x < n) (hw : M 2 x / 512 ≤ 1000) (hh : M 2 x % 512 / 2 ≤ 60) (hD : x < n0 ∨ ∃ z k, NF M n r x z k)
    (k : ∀ (z kk n' : Nat) (M' : g_M), OB M' n' m n0 r ec lv S → n ≤ n' → EX n M M' → PT M' n' r nb n0 → NF M' n' r x z kk → kk ≤ 1000 → M' 33 = M 33 → M' 99 = M 99 → M' 41 9 = M 41 9 → FRM M M' → Q kk M') : F_X11_stepCount Q i M := by
  have hW := h.wf
  unfold F_X11_stepCount
  refine r_isTerm hW.nu hm i hi ⟨fun c => absurd c (by decide), fun _ => ?_⟩
  refine r_tidy hW.st ?_
  rw [rgn i (by omega), ex]
  unfold F_X9_countSteps
  refine r_nfO h hn hPT x hx hw hh hD (fun z kk c n' M1 g1 g2 g3 g4 g5 g6 g7 g8 g9 g10 g11 g12 => ?_)
  refine r_count g8 ?_
  unfold F_X10_tally
  rw [show (c : Int) - 1 = ((c - 1 : Nat) : Int) by omega, rgn (c - 1) (by omega), g11]
  exact k z kk n' M1 g1 g2 g3 g4 g6 g12 (g7 33 (by decide)) (g7 99 (by decide)) (by rw [g7 41 (by decide)]) (FRM.of g7 (by decide))
theorem r_areEqual {M : g_M} {Q : Int → g_M → Prop} {n m n0 r ec lv nb : Nat} {S : Nat → Nat} (h : OB M n m n0 r ec lv S) (hn : n ≤ 1300) (hm : m < 16000) (hPT : PT M n r nb n0) (hnb : nb + n0 ≤ 1300) (i j x y : Nat) (hi : i < m) (hj : j < m) (ex : M 33 i = (x : Int)) (ey : M 33 j = (y : Int)) (hx : x < n0) (hy : y < n0)
    (k : ∀ (v n' : Nat) (M' : g_M), OB M' n' m n0 r ec lv S → n ≤ n' → EX n M M' → PT M' n' r nb n0 → M' 33 = M 33 → M' 99 = M 99 → M' 41 9 = M 41 9 → FRM M M' → (v = 1 ∧ (x = y ∨ ∃ z kx ky, NF M' n' r x z kx ∧ NF M' n' r y z ky) ∨ v = 0 ∧ x ≠ y ∧ ∃ z kx z' ky, NF M' n' r x z kx ∧ NF M' n' r y z' ky ∧ z ≠ z') → Q v M') : F_X11_areEqual Q i j M := by
  have hW := h.wf
  have hn0 := h.1.2.2.1
  have hHx := h.1.2.2.2 x hx
  have hHy := h.1.2.2.2 y hy
  unfold F_X11_areEqual
  refine r_isTerm hW.nu hm i hi ⟨fun c => absurd c (by decide), fun _ => ?_⟩
  refine r_isTerm hW.nu hm j hj ⟨fun c => absurd c (by decide), fun _ => ?_⟩
  refine r_tidy hW.st ?_
  rw [rgn i (by omega), ex, rgn j (by omega), ey]
  unfold F_X9_makesEqual
  rw [bq (x := (x : Int)) (by omega) (by omega), bq (x := (y : Int)) (by omega) (by omega)]
  refine ⟨fun e => ⟨Or.inr rfl, ?_⟩, fun e => ?_⟩
  · exact k 1 n M h (Nat.le_refl _) (EX.rf _ _) hPT rfl rfl rfl (FRM.rf _) (Or.inl ⟨rfl, Or.inl (by omega)⟩)
  · refine r_nfO h (by omega) hPT x (by omega) hHx.2 hHx.1 (Or.inl hx) (fun z kx c n1 M1 g1 g2 g3 g4 g5 g6 g7 _ _ _ _ _ => ?_)
    have hHy1 := g1.1.2.2.2 y hy
    have hle := g4.le
    refine r_nfO g1 (by omega) g4 y (by omega) hHy1.2 hHy1.1 (Or.inl hy) (fun z' ky c' n2 M2 f1 f2 f3 f4 f5 f6 f7 _ _ _ _ _ => ?_)
    have hE := g3.tr f3 g2
    have hSR : SR M1 M2 r := fun i _ => by
      rw [f7 59 (by decide), f7 60 (by decide)]
      exact ⟨rfl, rfl⟩
    have hNx := NF_ext g1.wf.st f1.wf.st f2 f3 hSR _ _ _ (by omega) g6
    have hn1 := g1.wf.st.1.2.2.2.2
    have hn2 := f1.wf.st.1.2.2.2.2
    rw [bq (x := (z : Int)) (by omega) (by omega), bq (x := (z' : Int)) (by omega) (by omega)]
    have kk := fun v hv => k v n2 M2 f1 (by omega) hE f4 (by rw [f7 33 (by decide), g7 33 (by decide)]) (by rw [f7 99 (by decide), g7 99 (by decide)]) (by rw [f7 41 (by decide), g7 41 (by decide)]) ((FRM.of g7 (by decide)).tr (FRM.of f7 (by decide))) hv
    refine ⟨fun e2 => ⟨Or.inr rfl, kk 1 (Or.inl ⟨rfl, Or.inr ⟨z, kx, ky, hNx, ?_⟩⟩)⟩, fun e2 => ⟨Or.inl rfl, kk 0 (Or.inr ⟨rfl, fun e3 => e (by rw [e3]), z, kx, z', ky, hNx, f6, fun e3 => e2 (by rw [e3])⟩)⟩⟩
    rw [show z = z' by omega]
    exact f6
end X2
