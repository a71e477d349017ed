section S9
theorem r_normalize_17 {M0 : g_M} {Q : Int → g_M → Prop} {n0 m c r : Nat} (hn3 : n0 + c < 3000) (hc : 0 < c)
    (k : ∀ (n : Nat) (M : g_M), NI M0 M n0 n m c r c → Q (M 8 (c - 1)) M) :
    ∀ (f a n : Nat) (M : g_M), a ≤ c → c - a < f → NI M0 M n0 n m c r a → F_X9_normalize_17 Q f a M := by
  intro f
  induction f with
  | zero => intros; omega
  | succ f ih =>
    intro a n M h1 h2 hI
    have hI' := hI
    obtain ⟨⟨hW, hK, hRU⟩, i1, i2, i3, ⟨i4, i5, i6, i7⟩, i8⟩ := hI'
    unfold F_X9_normalize_17
    refine r_count hK.1 ?_
    rw [bq (x := (a : Int)) (by omega) (by omega), bq (x := (c : Int)) (by omega) (by omega)]
    refine ⟨fun c9 => ?_, fun c9 => ?_⟩
    · have ha : a < c := by omega
      obtain ⟨x, x1, x2, -⟩ := hK.2.2 a ha
      refine r_rebuild hW (by omega) hK a x ha x1 x2 i2 (fun y n1 M1 g1 g2 g3 g4 g5 g6 g7 g8 g9 => ?_)
      have hK1 : WK M1 n1 c := hK.cong hW.st g2 g7 (g9 6 (by decide)) (g9 7 (by decide)) (by rw [g9 43 (by decide)])
      have hRU1 : RUL M1 n1 r := hRU.cong g2 (by rw [g9 45 (by decide)]) (g9 59 (by decide)) (g9 60 (by decide)) (g9 32 (by decide))
      have go : ∀ (v w : Int) (x4 : Int), (0 ≤ v ∧ v < (n1 : Int)) → (w = 0 ∨ w = 1) → ((∃ i, i < r ∧ M 59 i = (y : Int) ∧ v = M 60 i ∧ w = 1) ∨ (∀ i, i < r → M 59 i ≠ (y : Int)) ∧ v = (y : Int) ∧ w = 0) → (bm x4 = bm (-1) → w = 0) → (¬ bm x4 = bm (-1) → w = 1) → F_X9_normalize_65 Q (F_X9_normalize_17 Q f) a x4 a v M1 := fun v w x4 hv hw hr e1 e2 => by
        obtain ⟨es, hN⟩ := NI.step hI hn3 ha x2 x1 g1 g2 g3 g4 g7 g8 g9 hv hw hr
        unfold F_X9_normalize_65 F_X10_setValue
        have han : a ≤ 3000 := by
          clear hr
          omega
        refine ⟨okk a rfl (by show a < 65536; clear hr; omega), ?_⟩
        rw [rsk a rfl (by clear hr; omega)]
        have hSv : SM [8] M1 (up M1 8 a v) := (SM.rf _ _).u (by decide)
        have b1 : -2147483648 ≤ v ∧ v ≤ 2147483647 := by
          clear hr
          have := g1.st.1.2.2.2.2
          omega
        have hWv : WF (up M1 8 a v) n1 m := g1.cong (g1.rg.u b1.1 b1.2) hSv (by decide)
        have hKv : WK (up M1 8 a v) n1 c := hK1.cong g1.st (Nat.le_refl _) (EX.of (hSv 0 (by decide)) (hSv 1 (by decide)) (hSv 2 (by decide))) (hSv 6 (by decide)) (hSv 7 (by decide)) (by rw [hSv 43 (by decide)])
        have xv : up M1 8 a v 7 a = (x : Int) := by rw [hSv 7 (by decide), g9 7 (by decide), x2]
        refine r_sumOfParts hWv hKv a x ha (Nat.lt_of_lt_of_le x1 g2) xv ?_
        rw [es]
        have tail : F_X9_normalize_92 Q (F_X9_normalize_17 Q f) a a (sT M x (ax M x)) w (up M1 8 a v) := by
          unfold F_X9_normalize_92 F_X10_setTally
          refine ⟨okk a rfl (by show a < 65536; clear hr; omega), ?_⟩
          rw [rsk a rfl (by clear hr; omega), show (a : Int) + 1 = ((a + 1 : Nat) : Int) by clear hr; omega]
          exact ih (a + 1) n1 _ (by clear hr; omega) (by clear hr; omega) hN
        refine ⟨fun e => ?_, fun e => ?_⟩
        · rw [e1 e] at tail
          exact tail
        · rw [e2 e] at tail
          exact tail
      have hy3 : y ≤ 3000 := by
        have := g1.st.1.2.2.2.2
        omega
      have e59 : M1 59 = M 59 := g9 59 (by decide)
      have e60 : M1 60 = M 60 := g9 60 (by decide)
      refine r_ruleFor g1.rg hRU1 y hy3 (fun i hi e => ⟨fun c8 => ?_, fun c8 => ?_⟩) (fun hno => ⟨fun _ => ?_, fun c8 => absurd rfl c8⟩)
      · rw [bq (x := (i : Int)) (by omega) (by have := hRU.2.1; omega), show bm (-1) = -1 by decide] at c8
        omega
      · refine r_rightSide hRU1 i hi ?_
        obtain ⟨l, v, l1, v1, l2, v2, -⟩ := hRU1.2.2 i hi
        exact go (M1 60 i) 1 i (by omega) (Or.inr rfl) (Or.inl ⟨i, hi, by rw [← e59]; exact e, by rw [e60], rfl⟩) (fun e9 => absurd e9 c8) (fun _ => rfl)
      · exact go y 0 (-1) (by omega) (Or.inl rfl) (Or.inr ⟨fun i hi => by rw [← e59]; exact hno i hi, rfl, rfl⟩) (fun _ => rfl) (fun e9 => absurd rfl e9)
    · have hac : a = c := by omega
      subst hac
      refine r_count hK.1 ?_
      rw [show (a : Int) - 1 = ((a - 1 : Nat) : Int) by omega]
      refine r_value (a - 1) (by omega) ?_
      exact k n M hI
end S9
