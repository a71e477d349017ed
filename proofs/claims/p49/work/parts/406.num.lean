section P6
/-- the numbering -/
def NU (M : g_M) (n m : Nat) : Prop := M 40 10 = (m : Int) ∧ (∀ i, i < m → 0 ≤ M 33 i ∧ M 33 i < (n : Int) ∧ M 3 (M 33 i).toNat = (i : Int) + 1) ∧ (∀ x : Nat, M 3 x = 0 ∨ 1 ≤ M 3 x ∧ M 3 x ≤ (m : Int) ∧ M 33 (M 3 x - 1).toNat = (x : Int))
theorem NU.cong {M M' : g_M} {n n' m : Nat} (h : NU M n m) (hn : n ≤ n') (h40 : M' 40 10 = M 40 10) (h33 : M' 33 = M 33) (h3 : M' 3 = M 3) : NU M' n' m := by
  unfold NU
  rw [h40, h33, h3]
  refine ⟨h.1, fun i hi => ?_, h.2.2⟩
  obtain ⟨a, b, c⟩ := h.2.1 i hi
  exact ⟨a, by omega, c⟩
def WF (M : g_M) (n m : Nat) : Prop := RG M ∧ SY M ∧ ST M n ∧ NU M n m
theorem WF.rg {M : g_M} {n m : Nat} (h : WF M n m) : RG M := h.1
theorem WF.sy {M : g_M} {n m : Nat} (h : WF M n m) : SY M := h.2.1
theorem WF.st {M : g_M} {n m : Nat} (h : WF M n m) : ST M n := h.2.2.1
theorem WF.nu {M : g_M} {n m : Nat} (h : WF M n m) : NU M n m := h.2.2.2
theorem WF.cong {M M' : g_M} {n m : Nat} {S : List Nat} (h : WF M n m) (hR : RG M') (hS : SM S M M') (hd : ∀ a ∈ [0, 1, 2, 3, 4, 5, 33, 40, 41, 42, 50, 51, 52, 53, 54], a ∉ S) : WF M' n m := by
  have e : ∀ a, a ∈ [0, 1, 2, 3, 4, 5, 33, 40, 41, 42, 50, 51, 52, 53, 54] → M' a = M a := fun a ha => hS a (hd a ha)
  refine ⟨hR, ?_, ?_, ?_⟩
  · exact h.sy.cong (by rw [e 41 (by decide)]) (by rw [e 41 (by decide)]) (e 50 (by decide)) (e 51 (by decide)) (e 52 (by decide)) (e 53 (by decide)) (e 54 (by decide))
  · exact h.st.cong (e 0 (by decide)) (e 1 (by decide)) (e 2 (by decide)) (e 4 (by decide)) (e 5 (by decide)) (e 42 (by decide))
  · exact h.nu.cong (Nat.le_refl _) (by rw [e 40 (by decide)]) (e 33 (by decide)) (e 3 (by decide))
theorem r_makeW {M : g_M} {n m : Nat} {Q : Int → g_M → Prop} (hW : WF M n m) (hn : n < 3000) (s : Nat) (hs : s < 5) (a b c : Int) (ha : okp n (arN s) 0 a) (hb : okp n (arN s) 1 b) (hc : okp n (arN s) 2 c)
    (k : ∀ (x n' : Nat) (M' : g_M), WF M' n' m → n ≤ n' → n' ≤ n + 1 → x < n' → (n' = n → M' = M) → (n < n' → x = n ∧ ∀ z, z < n → ¬ NO M z s a b c) → EX n M M' → NO M' x s a b c → SM [0, 1, 2, 4, 5, 42] M M' → Q x M') : F_X8_make Q s a b c M := by
  refine r_make1 hW.rg hW.sy hW.st hn s hs a b c ha hb hc (fun x n' M' g1 g2 g3 g4 g5 g6 g7 g8 g9 g10 => k x n' M' ⟨g1, ?_, g2, ?_⟩ g3 g4 g5 g6 g7 g8 g9 g10)
  · exact hW.sy.cong (by rw [g10 41 (by decide)]) (by rw [g10 41 (by decide)]) (g10 50 (by decide)) (g10 51 (by decide)) (g10 52 (by decide)) (g10 53 (by decide)) (g10 54 (by decide))
  · exact hW.nu.cong g3 (by rw [g10 40 (by decide)]) (g10 33 (by decide)) (g10 3 (by decide))
theorem r_isTerm {M : g_M} {n m : Nat} {Q : Int → g_M → Prop} (h : NU M n m) (hm : m < 16000) (i : Nat) (hi : i < m) (k : Q 1 M) : F_X11_isTerm Q i M := by
  unfold F_X11_isTerm
  rw [h.1, bq (x := (i : Int)) (by omega) (by omega), bq (x := (m : Int)) (by omega) (by omega)]
  exact ⟨fun c => by omega, fun _ => ⟨fun _ => k, fun c => by omega⟩⟩
theorem r_number {M : g_M} {Q : Int → g_M → Prop} (x : Nat) (hx : x ≤ 3000) (k : Q (M 3 x - 1) M) : F_X8_number Q x M := by
  unfold F_X8_number
  rw [rgn x (by omega)]
  exact k
theorem r_giveNumber {M : g_M} {n m : Nat} {Q : Int → g_M → Prop} (hW : WF M n m) (hm : m < 16000) (x : Nat) (hx : x < n)
    (k : ∀ (j m' : Nat) (M' : g_M), WF M' n m' → m ≤ m' → m' ≤ m + 1 → j < m' → M' 33 j = (x : Int) → (∀ i, i < m → M' 33 i = M 33 i) → SM [3, 33, 40, 41] M M' → M' 41 9 = M 41 9 → Q j M') : F_X11_giveNumber Q x M := by
  have hNU := hW.nu
  obtain ⟨n1, n2, n3⟩ := hNU
  have t5 := hW.st.1.2.2.2.2
  have hR3 := hW.rg 3 x
  unfold F_X11_giveNumber
  refine r_number x (by omega) ?_
  have h3 := n3 x
  rw [show bm (-1) = -1 by decide]
  refine ⟨fun c9 => ?_, fun c9 => ?_⟩
  · have hx0 : M 3 x = 0 := by
      rcases h3 with h3 | h3
      · exact h3
      · rw [bq (by omega) (by omega)] at c9
        omega
    unfold F_X8_setNumber
    refine ⟨okk x rfl (by show x < 65536; omega), ?_⟩
    rw [n1, rsk x rfl (by omega)]
    refine ⟨okk m rfl (by show m < 65536; omega), ?_⟩
    rw [rsk m rfl (by omega)]
    unfold F_X7_fixOrder F_X11_giveNumber_54
    have e40 : up (up M 3 x ((m : Int) + 1)) 33 m (x : Int) 40 10 = (m : Int) := by
      rw [up3 (by decide), up3 (by decide), n1]
    rw [e40]
    generalize hM' : up (up (up (up M 3 x ((m : Int) + 1)) 33 m (x : Int)) 40 10 ((m : Int) + 1)) 41 10 1 = M'
    have u : ∀ r j, M' r j = if r = 41 ∧ j = 10 then 1 else if r = 40 ∧ j = 10 then (m : Int) + 1 else if r = 33 ∧ j = m then (x : Int) else if r = 3 ∧ j = x then (m : Int) + 1 else M r j := fun r j => by rw [← hM']; rfl
    have hR : RG M' := by
      rw [← hM']
      exact (((hW.rg.u (by omega) (by omega)).u (by omega) (by omega)).u (by omega) (by omega)).u (by omega) (by omega)
    have hSM : SM [3, 33, 40, 41] M M' := by
      intro r hr
      funext j
      simp only [List.mem_cons, List.not_mem_nil, or_false, not_or] at hr
      rw [u]
      simp [hr]
    have v3 : ∀ y, M' 3 y = if y = x then (m : Int) + 1 else M 3 y := fun y => by rw [u]; simp
    have v33 : ∀ y, M' 33 y = if y = m then (x : Int) else M 33 y := fun y => by rw [u]; simp
    have v41 : ∀ y, y ≠ 10 → M' 41 y = M 41 y := fun y hy => by rw [u]; simp [hy]
    refine k m (m + 1) M' ⟨hR, ?_, ?_, ?_, fun i hi => ?_, fun y => ?_⟩ (by omega) (Nat.le_refl _) (by omega) ?_ (fun i hi => ?_) hSM (v41 9 (by decide))
    · exact hW.sy.cong (v41 7 (by decide)) (v41 9 (by decide)) (hSM 50 (by decide)) (hSM 51 (by decide)) (hSM 52 (by decide)) (hSM 53 (by decide)) (hSM 54 (by decide))
    · exact hW.st.cong (hSM 0 (by decide)) (hSM 1 (by decide)) (hSM 2 (by decide)) (hSM 4 (by decide)) (hSM 5 (by decide)) (hSM 42 (by decide))
    · rw [u]
      simp
    · rw [v33]
      by_cases him : i = m
      · rw [if_pos him]
        refine ⟨by omega, by omega, ?_⟩
        rw [Int.toNat_natCast, v3, if_pos rfl, him]
      · rw [if_neg him]
        obtain ⟨a1, a2, a3⟩ := n2 i (by omega)
        refine ⟨a1, a2, ?_⟩
        rw [v3, if_neg (fun e => ?_)]
        · exact a3
        · rw [e] at a3
          omega
    · rw [v3]
      by_cases hyx : y = x
      · rw [if_pos hyx]
        refine Or.inr ⟨by omega, by omega, ?_⟩
        rw [v33, if_pos (by omega), hyx]
      · rw [if_neg hyx]
        rcases n3 y with h | ⟨h1, h2, h4⟩
        · exact Or.inl h
        · refine Or.inr ⟨h1, by omega, ?_⟩
          rw [v33, if_neg (by omega), h4]
    · rw [v33, if_pos rfl]
    · rw [v33, if_neg (by omega)]
  · rcases h3 with h3 | ⟨p1, p2, p3⟩
    · exfalso
      rw [h3] at c9
      exact c9 (by decide)
    · unfold F_X11_giveNumber_54
      rw [show M 3 x - 1 = (((M 3 x - 1).toNat : Nat) : Int) by omega]
      refine k (M 3 x - 1).toNat m M hW (Nat.le_refl _) (by omega) (by omega) ?_ (fun _ _ => rfl) (SM.rf _ _) rfl
      exact p3
theorem r_size {M : g_M} {n m : Nat} {Q : Int → g_M → Prop} (hW : WF M n m) (hm : m < 16000) (i : Nat) (hi : i < m) (k : ∀ x : Nat, x < n → M 33 i = (x : Int) → Q (M 2 x / 512) M) : F_X11_size Q i M := by
  obtain ⟨a1, a2, a3⟩ := hW.nu.2.1 i hi
  unfold F_X11_size
  refine r_isTerm hW.nu hm i hi ⟨fun c => absurd c (by decide), fun _ => ?_⟩
  rw [rgn i (by omega), show M 33 i = (((M 33 i).toNat : Nat) : Int) by omega]
  exact r_width hW.st _ (by omega) (k _ (by omega) (by omega))
theorem r_term_136 {M : g_M} {n m : Nat} {Q : Int → g_M → Prop} (hW : WF M n m) (hn : n < 3000) (hm : m < 16000) (s : Nat) (hs : s < 5) (a b : Int) (ha : okp n (arN s) 0 a) (hb : okp n (arN s) 1 b)
    (hsz : ∀ (M' : g_M) (n' x : Nat), ST M' n' → EX n M M' → x < n' → NO M' x s a b (-1) → M' 2 x / 512 ≤ 1000 ∧ M' 2 x % 512 / 2 ≤ 60)
    (k : ∀ (j n' m' x : Nat) (M' : g_M), WF M' n' m' → n ≤ n' → n' ≤ n + 1 → m ≤ m' → m' ≤ m + 1 → j < m' → x < n' → M' 33 j = (x : Int) → NO M' x s a b (-1) → (∀ i, i < m → M' 33 i = M 33 i) → EX n M M' → SM [0, 1, 2, 3, 4, 5, 33, 40, 41, 42] M M' → M' 41 9 = M 41 9 → Q j M') : F_X11_term_136 Q s a b (-1) M := by
  unfold F_X11_term_136
  refine r_makeW hW hn s hs a b (-1) ha hb ⟨fun h => by have := arN_le s; omega, fun _ => rfl⟩ (fun x n' M1 g1 g2 g3 g4 g5 g6 g7 g8 g9 => ?_)
  obtain ⟨z1, z2⟩ := hsz M1 n' x g1.st g7 g4 g8
  refine r_isTooLarge g1.st x g4 (fun h => absurd h (by omega)) (fun _ _ => ⟨fun _ => ?_, fun c => absurd rfl c⟩)
  refine r_giveNumber g1 hm x g4 (fun j m' M2 f1 f2 f3 f4 f5 f6 f7 f8 => ?_)
  have e12 : EX n' M1 M2 := EX.of (f7 0 (by decide)) (f7 1 (by decide)) (f7 2 (by decide))
  refine k j n' m' x M2 f1 g2 g3 f2 f3 f4 g4 f5 ?_ (fun i hi => ?_) (g7.tr e12 g2) ?_ ?_
  · obtain ⟨b1, b2, b3, b4, -⟩ := e12 x g4
    exact ⟨b1.trans g8.1, b2.trans g8.2.1, b3.trans g8.2.2.1, b4.trans g8.2.2.2⟩
  · rw [f6 i hi, g9 33 (by decide)]
  · exact (g9.mono (by decide)).tr (f7.mono (by decide))
  · rw [f8, g9 41 (by decide)]
theorem r_term {M : g_M} {n m : Nat} {Q : Int → g_M → Prop} (hW : WF M n m) (hn : n < 3000) (hm : m < 16000) (s : Nat) (hs : s < 5) (p1 p2 : Int) (a b : Int) (h1 : 0 < arN s → ∃ i : Nat, i < m ∧ p1 = (i : Int) ∧ a = M 33 i) (h1' : arN s = 0 → a = -1) (h2 : 1 < arN s → ∃ i : Nat, i < m ∧ p2 = (i : Int) ∧ b = M 33 i) (h2' : ¬ 1 < arN s → b = -1)
    (hsz : ∀ (M' : g_M) (n' x : Nat), ST M' n' → EX n M M' → x < n' → NO M' x s a b (-1) → M' 2 x / 512 ≤ 1000 ∧ M' 2 x % 512 / 2 ≤ 60)
    (k : ∀ (j n' m' x : Nat) (M' : g_M), WF M' n' m' → n ≤ n' → n' ≤ n + 1 → m ≤ m' → m' ≤ m + 1 → j < m' → x < n' → M' 33 j = (x : Int) → NO M' x s a b (-1) → (∀ i, i < m → M' 33 i = M 33 i) → EX n M M' → SM [0, 1, 2, 3, 4, 5, 33, 40, 41, 42] M M' → M' 41 9 = M 41 9 → Q j M') : F_X11_term Q s p1 p2 0 M := by
  have ha : okp n (arN s) 0 a := ⟨fun h => by
    obtain ⟨i, hi, -, e⟩ := h1 h
    obtain ⟨a1, a2, a3⟩ := hW.nu.2.1 i hi
    rw [e]
    exact ⟨a1, a2⟩, fun h => h1' (by omega)⟩
  have hb : okp n (arN s) 1 b := ⟨fun h => by
    obtain ⟨i, hi, -, e⟩ := h2 h
    obtain ⟨a1, a2, a3⟩ := hW.nu.2.1 i hi
    rw [e]
    exact ⟨a1, a2⟩, fun h => h2' h⟩
  have hr := arN_le s
  have fin := r_term_136 hW hn hm s hs a b ha hb hsz k
  unfold F_X11_term
  refine r_arity hW.sy s hs ?_
  unfold F_X7_has
  rw [hW.sy.1, bq (x := (s : Int)) (by omega) (by omega), show bm 5 = 5 by decide]
  refine ⟨fun c => by omega, fun _ => ⟨fun _ => ⟨fun c => absurd c (by decide), fun _ => ?_⟩, fun c => by omega⟩⟩
  have hbr : bm (arN s : Int) = (arN s : Int) := bq (by omega) (by omega)
  rw [hbr]
  have r3 : F_X11_term_73 Q s p1 p2 0 (arN s : Int) M := by
    unfold F_X11_term_73
    refine r_tidy hW.st ?_
    rw [hbr]
    have r5 : ∀ t2, t2 = b → F_X11_term_117 Q 0 (arN s : Int) s a t2 M := fun t2 ht => by
      subst ht
      unfold F_X11_term_117
      rw [hbr, show bm 2 = 2 by decide]
      exact ⟨fun c => by omega, fun _ => fin⟩
    have r4 : ∀ t1, t1 = a → F_X11_term_99 Q p2 0 (arN s : Int) s t1 M := fun t1 ht => by
      subst ht
      unfold F_X11_term_99
      rw [hbr, show bm 1 = 1 by decide]
      refine ⟨fun c => ?_, fun c => r5 _ (h2' (by omega)).symm⟩
      obtain ⟨i, hi, e1, e2⟩ := h2 (by omega)
      refine r5 _ ?_
      rw [e1, e2, rgn i (by omega)]
    refine ⟨fun c => ?_, fun c => r4 _ (h1' (by omega)).symm⟩
    obtain ⟨i, hi, e1, e2⟩ := h1 (by omega)
    refine r4 _ ?_
    rw [e1, e2, rgn i (by omega)]
  have r2 : F_X11_term_34 Q s p1 p2 0 (arN s : Int) M := by
    unfold F_X11_term_34
    have r2' : F_X11_term_48 Q s p1 p2 0 (arN s : Int) M := by
      unfold F_X11_term_48
      rw [hbr, show bm 2 = 2 by decide]
      exact ⟨fun c => by omega, fun _ => r3⟩
    rw [hbr, show bm 1 = 1 by decide]
    refine ⟨fun c => ?_, fun _ => r2'⟩
    obtain ⟨i, hi, e1, e2⟩ := h2 (by omega)
    rw [e1]
    rw [e1] at r2'
    exact r_isTerm hW.nu hm i hi ⟨fun c => absurd c (by decide), fun _ => r2'⟩
  refine ⟨fun c => ?_, fun _ => r2⟩
  obtain ⟨i, hi, e1, e2⟩ := h1 (by omega)
  rw [e1]
  rw [e1] at r2
  exact r_isTerm hW.nu hm i hi ⟨fun c => absurd c (by decide), fun _ => r2⟩
end P6
