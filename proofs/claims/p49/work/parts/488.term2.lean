section Y7
theorem r_term2_136 {M : g_M} {n m : Nat} {Q : Int → g_M → Prop} (hW : WF M n m) (hn : n < 3000) (hm : m < 16000) (s : Nat) (hs : s < 5) (a b : Int) (ha : okp n (arN s) 0 a) (hb : okp n (arN s) 1 b)
    (hsz : ∀ (M' : g_M) (n' x : Nat), ST M' n' → EX n M M' → x < n' → NO M' x s a b (-1) → M' 2 x / 512 ≤ 1000 ∧ M' 2 x % 512 / 2 ≤ 60)
    (k : ∀ (j n' m' x : Nat) (M' : g_M), WF M' n' m' → n ≤ n' → n' ≤ n + 1 → m ≤ m' → m' ≤ m + 1 → j < m' → x < n' → (n < n' → x = n) → M' 33 j = (x : Int) → NO M' x s a b (-1) → (∀ i, i < m → M' 33 i = M 33 i) → EX n M M' → SM [0, 1, 2, 3, 4, 5, 33, 40, 41, 42] M M' → M' 41 9 = M 41 9 → Q j M') : F_X11_term_136 Q s a b (-1) M := by
  unfold F_X11_term_136
  refine r_makeW hW hn s hs a b (-1) ha hb ⟨fun h => by have := arN_le s; omega, fun _ => rfl⟩ (fun x n' M1 g1 g2 g3 g4 g5 g6 g7 g8 g9 => ?_)
  obtain ⟨z1, z2⟩ := hsz M1 n' x g1.st g7 g4 g8
  refine r_isTooLarge g1.st x g4 (fun h => absurd h (by omega)) (fun _ _ => ⟨fun _ => ?_, fun c => absurd rfl c⟩)
  refine r_giveNumber g1 hm x g4 (fun j m' M2 f1 f2 f3 f4 f5 f6 f7 f8 => ?_)
  have e12 : EX n' M1 M2 := EX.of (f7 0 (by decide)) (f7 1 (by decide)) (f7 2 (by decide))
  refine k j n' m' x M2 f1 g2 g3 f2 f3 f4 g4 (fun h => (g6 h).1) f5 ?_ (fun i hi => ?_) (g7.tr e12 g2) ?_ ?_
  · obtain ⟨b1, b2, b3, b4, -⟩ := e12 x g4
    exact ⟨b1.trans g8.1, b2.trans g8.2.1, b3.trans g8.2.2.1, b4.trans g8.2.2.2⟩
  · rw [f6 i hi, g9 33 (by decide)]
  · exact (g9.mono (by decide)).tr (f7.mono (by decide))
  · rw [f8, g9 41 (by decide)]
theorem r_term2 {M : g_M} {n m : Nat} {Q : Int → g_M → Prop} (hW : WF M n m) (hn : n < 3000) (hm : m < 16000) (s : Nat) (hs : s < 5) (p1 p2 : Int) (a b : Int) (h1 : 0 < arN s → ∃ i : Nat, i < m ∧ p1 = (i : Int) ∧ a = M 33 i) (h1' : arN s = 0 → a = -1) (h2 : 1 < arN s → ∃ i : Nat, i < m ∧ p2 = (i : Int) ∧ b = M 33 i) (h2' : ¬ 1 < arN s → b = -1)
    (hsz : ∀ (M' : g_M) (n' x : Nat), ST M' n' → EX n M M' → x < n' → NO M' x s a b (-1) → M' 2 x / 512 ≤ 1000 ∧ M' 2 x % 512 / 2 ≤ 60)
    (k : ∀ (j n' m' x : Nat) (M' : g_M), WF M' n' m' → n ≤ n' → n' ≤ n + 1 → m ≤ m' → m' ≤ m + 1 → j < m' → x < n' → (n < n' → x = n) → M' 33 j = (x : Int) → NO M' x s a b (-1) → (∀ i, i < m → M' 33 i = M 33 i) → EX n M M' → SM [0, 1, 2, 3, 4, 5, 33, 40, 41, 42] M M' → M' 41 9 = M 41 9 → Q j M') : F_X11_term Q s p1 p2 0 M := by
  have ha : okp n (arN s) 0 a := ⟨fun h => by
    obtain ⟨i, hi, -, e⟩ := h1 h
    obtain ⟨a1, a2, a3⟩ := hW.nu.2.1 i hi
    rw [e]
    exact ⟨a1, a2⟩, fun h => h1' (by omega)⟩
  have hb : okp n (arN s) 1 b := ⟨fun h => by
    obtain ⟨i, hi, -, e⟩ := h2 h
    obtain ⟨a1, a2, a3⟩ := hW.nu.2.1 i hi
    rw [e]
    exact ⟨a1, a2⟩, fun h => h2' h⟩
  have hr := arN_le s
  have fin := r_term2_136 hW hn hm s hs a b ha hb hsz k
  unfold F_X11_term
  refine r_arity hW.sy s hs ?_
  unfold F_X7_has
  rw [hW.sy.1, bq (x := (s : Int)) (by omega) (by omega), show bm 5 = 5 by decide]
  refine ⟨fun c => by omega, fun _ => ⟨fun _ => ⟨fun c => absurd c (by decide), fun _ => ?_⟩, fun c => by omega⟩⟩
  have hbr : bm (arN s : Int) = (arN s : Int) := bq (by omega) (by omega)
  rw [hbr]
  have r3 : F_X11_term_73 Q s p1 p2 0 (arN s : Int) M := by
    unfold F_X11_term_73
    refine r_tidy hW.st ?_
    rw [hbr]
    have r5 : ∀ t2, t2 = b → F_X11_term_117 Q 0 (arN s : Int) s a t2 M := fun t2 ht => by
      subst ht
      unfold F_X11_term_117
      rw [hbr, show bm 2 = 2 by decide]
      exact ⟨fun c => by omega, fun _ => fin⟩
    have r4 : ∀ t1, t1 = a → F_X11_term_99 Q p2 0 (arN s : Int) s t1 M := fun t1 ht => by
      subst ht
      unfold F_X11_term_99
      rw [hbr, show bm 1 = 1 by decide]
      refine ⟨fun c => ?_, fun c => r5 _ (h2' (by omega)).symm⟩
      obtain ⟨i, hi, e1, e2⟩ := h2 (by omega)
      refine r5 _ ?_
      rw [e1, e2, rgn i (by omega)]
    refine ⟨fun c => ?_, fun c => r4 _ (h1' (by omega)).symm⟩
    obtain ⟨i, hi, e1, e2⟩ := h1 (by omega)
    refine r4 _ ?_
    rw [e1, e2, rgn i (by omega)]
  have r2 : F_X11_term_34 Q s p1 p2 0 (arN s : Int) M := by
    unfold F_X11_term_34
    have r2' : F_X11_term_48 Q s p1 p2 0 (arN s : Int) M := by
      unfold F_X11_term_48
      rw [hbr, show bm 2 = 2 by decide]
      exact ⟨fun c => by omega, fun _ => r3⟩
    rw [hbr, show bm 1 = 1 by decide]
    refine ⟨fun c => ?_, fun _ => r2'⟩
    obtain ⟨i, hi, e1, e2⟩ := h2 (by omega)
    rw [e1]
    rw [e1] at r2'
    exact r_isTerm hW.nu hm i hi ⟨fun c => absurd c (by decide), fun _ => r2'⟩
  refine ⟨fun c => ?_, fun _ => r2⟩
  obtain ⟨i, hi, e1, e2⟩ := h1 (by omega)
  rw [e1]
  rw [e1] at r2
  exact r_isTerm hW.nu hm i hi ⟨fun c => absurd c (by decide), fun _ => r2⟩
/-- a small node -/
def SMN (M : g_M) (x : Nat) (b : Int) : Prop := 1 ≤ M 2 x / 512 ∧ M 2 x % 512 / 2 ≤ M 2 x / 512 ∧ M 2 x / 512 ≤ b
theorem new_size {M M' : g_M} {n n' x s : Nat} {a b : Int} (hn : n ≤ 3000) (hST : ST M' n') (hE : EX n M M') (hx : x < n') (hN : NO M' x s a b (-1)) (ha : a = -1 ∨ ∃ p : Nat, p < n ∧ a = (p : Int) ∧ SMN M p 6) (hb : b = -1 ∨ ∃ p : Nat, p < n ∧ b = (p : Int) ∧ SMN M p 6) : SMN M' x 13 := by
  obtain ⟨h1, h2, h3, h4, h5⟩ := hST.2.2.2.2.2.2 x hx
  rw [hN.2.1, hN.2.2.1, hN.2.2.2, rgm] at h4 h5
  have rd : ∀ v : Int, (v = -1 ∨ ∃ p : Nat, p < n ∧ v = (p : Int) ∧ SMN M p 6) → ∃ e : Int, rg M' 2 v = e ∧ (e = 0 ∨ 1 ≤ e / 512 ∧ e % 512 / 2 ≤ e / 512 ∧ e / 512 ≤ 6) := fun v hv => by
    rcases hv with rfl | ⟨p, p1, p2, p3⟩
    · exact ⟨0, rgm, Or.inl rfl⟩
    · rw [p2, rgn p (by omega), (hE p p1).2.2.2.2]
      exact ⟨_, rfl, Or.inr p3⟩
  obtain ⟨ea, a1, a2⟩ := rd a ha
  obtain ⟨eb, b1, b2⟩ := rd b hb
  rw [a1, b1] at h4 h5
  unfold SMN
  clear ha hb rd
  omega
end Y7
