section P5
theorem okp_r {n r i : Nat} {v : Int} (h : okp n r i v) (hn : n ≤ 3000) : -2147483648 ≤ v ∧ v ≤ 2147483647 := by
  rcases okp_to h with h | ⟨k, hk, h⟩ <;> omega
theorem r_make_27 {M : g_M} {n : Nat} {Q : Int → g_M → Prop} (hRG : RG M) (hSY : SY M) (hST : ST M n) (hn : n < 3000) (s : Nat) (hs : s < 5) (a b c : Int) (ha : okp n (arN s) 0 a) (hb : okp n (arN s) 1 b) (hc : okp n (arN s) 2 c)
    (k1 : ∀ x : Nat, x < n → NO M x s a b c → Q x M)
    (k2 : (∀ x, x < n → ¬ NO M x s a b c) → ∀ M' : g_M, RG M' → ST M' (n + 1) → EX n M M' → NO M' n s a b c → SM [0, 1, 2, 4, 5, 42] M M' → Q n M') :
    ∀ (f : Nat) (cur : Int) (i : Nat), -1 ≤ cur → cur < f → cur + 1 + i ≤ n → (0 ≤ cur → HH M cur.toNat = hbx s a b c) → (∀ z : Nat, z < n → NO M z s a b c → (z : Int) ≤ cur) → F_X8_make_27 Q (f + 1) s a b c (hbx s a b c) cur i M := by
  have hS := hST
  obtain ⟨⟨t1, t2, t3, t4, t5⟩, s6, s7, s8, s9, s10, s11⟩ := hS
  have kk : ∀ i : Nat, (∀ z : Nat, z < n → ¬ NO M z s a b c) → F_X8_make_126 Q s a b c (hbx s a b c) M := fun i hno => by
    unfold F_X8_make_126
    refine r_keep hRG hSY hST hn s hs a b c ha hb hc hno (fun M' g1 g2 g3 g4 g5 => k2 hno M' g1 g2 g3 g4 g5)
  intro f
  induction f with
  | zero =>
    intro cur i h1 h2 h3 h4 h5
    have hno : ∀ z : Nat, z < n → ¬ NO M z s a b c := fun z hz hN => by
      have := h5 z hz hN
      omega
    unfold F_X8_make_27
    refine ⟨fun _ => ⟨fun _ => kk i hno, fun c9 => ?_⟩, fun _ => kk i hno⟩
    rw [bq (by omega) (by omega)] at c9
    omega
  | succ f ih =>
    intro cur i h1 h2 h3 h4 h5
    by_cases hc0 : cur < 0
    · have hno : ∀ z : Nat, z < n → ¬ NO M z s a b c := fun z hz hN => by
        have := h5 z hz hN
        omega
      unfold F_X8_make_27
      refine ⟨fun _ => ⟨fun _ => kk i hno, fun c9 => ?_⟩, fun _ => kk i hno⟩
      rw [bq (by omega) (by omega)] at c9
      omega
    · obtain ⟨x, rfl⟩ : ∃ x : Nat, cur = (x : Int) := ⟨cur.toNat, by omega⟩
      have hx : x < n := by omega
      have h4' := h4 (by omega)
      rw [Int.toNat_natCast] at h4'
      have hnext : ¬ NO M x s a b c → F_X8_make_107 Q (F_X8_make_27 Q (f + 1)) s a b c (hbx s a b c) x i M := fun hno => by
        obtain ⟨p1, p2, p3, p4⟩ := s10 x hx
        unfold F_X8_make_107
        rw [rgn x (by omega), show (i : Int) + 1 = ((i + 1 : Nat) : Int) by omega]
        refine ih (M 4 x - 1) (i + 1) (by omega) (by omega) (by omega) (fun hq => ?_) (fun z hz hN => ?_)
        · rw [show (M 4 x - 1).toNat = (M 4 x).toNat - 1 by omega, p3 (by omega), h4']
        · have hzx : (z : Int) ≤ (x : Int) := h5 z hz hN
          have hzn : z ≠ x := fun e => hno (e ▸ hN)
          have hHz : HH M z = HH M x := by
            rw [h4']
            unfold HH
            rw [hN.1, hN.2.1, hN.2.2.1, hN.2.2.2]
          have := p4 z (by omega) hHz
          omega
      have ra := okp_r ha (by omega)
      have rb := okp_r hb (by omega)
      have rc := okp_r hc (by omega)
      unfold F_X8_make_27
      refine ⟨fun _ => ⟨fun c9 => ?_, fun _ => ?_⟩, fun c9 => ?_⟩
      · rw [bq (by omega) (by omega)] at c9
        omega
      · rw [rgn x (by omega), rgk (i := 3 * (x : Int)) (3 * x) (by omega) (by omega), rgk (i := 3 * (x : Int) + 1) (3 * x + 1) (by omega) (by omega), rgk (i := 3 * (x : Int) + 2) (3 * x + 2) (by omega) (by omega), hRG.b, hRG.b, hRG.b, hRG.b, bq ra.1 ra.2, bq rb.1 rb.2, bq rc.1 rc.2, bq (x := (s : Int)) (by omega) (by omega)]
        refine ⟨fun e0 => ⟨fun e1 => ⟨fun e2 => ⟨fun e3 => k1 x hx ⟨e0, e1, e2, e3⟩, fun e3 => hnext (fun hN => e3 hN.2.2.2)⟩, fun e2 => hnext (fun hN => e2 hN.2.2.1)⟩, fun e1 => hnext (fun hN => e1 hN.2.1)⟩, fun e0 => hnext (fun hN => e0 hN.1)⟩
      · exfalso
        rw [t1, bq (by omega) (by omega), bq (by omega) (by omega)] at c9
        omega
theorem r_make {M : g_M} {n : Nat} {Q : Int → g_M → Prop} (hRG : RG M) (hSY : SY M) (hST : ST M n) (hn : n < 3000) (s : Nat) (hs : s < 5) (a b c : Int) (ha : okp n (arN s) 0 a) (hb : okp n (arN s) 1 b) (hc : okp n (arN s) 2 c)
    (k1 : ∀ x : Nat, x < n → NO M x s a b c → Q x M)
    (k2 : (∀ x, x < n → ¬ NO M x s a b c) → ∀ M' : g_M, RG M' → ST M' (n + 1) → EX n M M' → NO M' n s a b c → SM [0, 1, 2, 4, 5, 42] M M' → Q n M') : F_X8_make Q s a b c M := by
  unfold F_X8_make F_X8_bucketOf
  obtain ⟨bk, hbk, ebk⟩ := hbx_in (s : Int) a b c
  obtain ⟨p1, p2, p3, p4⟩ := hST.2.2.2.2.1 bk hbk
  have h := r_make_27 hRG hSY hST hn s hs a b c ha hb hc k1 k2 n (M 5 bk - 1) 0 (by omega) (by omega) (by omega) (fun hq => by
    rw [show (M 5 bk - 1).toNat = (M 5 bk).toNat - 1 by omega, p3 (by omega), ebk]) (fun z hz hN => by
    have hHz : HH M z = (bk : Int) := by
      rw [← ebk]
      unfold HH
      rw [hN.1, hN.2.1, hN.2.2.1, hN.2.2.2]
    have := p4 z hz hHz
    omega)
  refine ⟨n + 1, ?_⟩
  rw [← rgn (M := M) (r := 5) bk (by omega), ← ebk] at h
  exact h
/-- what make leaves: a node x of the store with that symbol and those parts -/
theorem r_make1 {M : g_M} {n : Nat} {Q : Int → g_M → Prop} (hRG : RG M) (hSY : SY M) (hST : ST M n) (hn : n < 3000) (s : Nat) (hs : s < 5) (a b c : Int) (ha : okp n (arN s) 0 a) (hb : okp n (arN s) 1 b) (hc : okp n (arN s) 2 c)
    (k : ∀ (x n' : Nat) (M' : g_M), RG M' → ST M' n' → n ≤ n' → n' ≤ n + 1 → x < n' → (n' = n → M' = M) → (n < n' → x = n ∧ ∀ z, z < n → ¬ NO M z s a b c) → EX n M M' → NO M' x s a b c → SM [0, 1, 2, 4, 5, 42] M M' → Q x M') : F_X8_make Q s a b c M := by
  refine r_make hRG hSY hST hn s hs a b c ha hb hc (fun x hx hN => ?_) (fun hno M' g1 g2 g3 g4 g5 => ?_)
  · exact k x n M hRG hST (Nat.le_refl _) (by omega) hx (fun _ => rfl) (fun h => absurd h (by omega)) (EX.rf _ _) hN (SM.rf _ _)
  · exact k n (n + 1) M' g1 g2 (by omega) (Nat.le_refl _) (by omega) (fun h => absurd h (by omega)) (fun _ => ⟨rfl, hno⟩) g3 g4 g5
theorem r_tidy {M : g_M} {n : Nat} {Q : g_M → Prop} (hST : ST M n) (k : Q M) : F_X11_tidy Q M := by
  obtain ⟨⟨t1, t2, t3, t4, t5⟩, -⟩ := hST
  unfold F_X11_tidy F_X8_isCrowded
  rw [t2, t4, bq (x := (n : Int)) (by omega) (by omega), show bm 4096 = 4096 by decide]
  exact ⟨fun c9 => by omega, fun _ => ⟨fun _ => k, fun c9 => absurd (show bm 0 = 0 by decide) c9⟩⟩
theorem r_width {M : g_M} {n : Nat} {Q : Int → g_M → Prop} (hST : ST M n) (x : Nat) (hx : x < n) (k : Q (M 2 x / 512) M) : F_X8_width Q x M := by
  obtain ⟨h1, h2, -⟩ := hST.2.2.2.2.2.2 x hx
  have t5 := hST.1.2.2.2.2
  have e : M 2 x = ((M 2 x).toNat : Int) := by omega
  unfold F_X8_width
  rw [rgn x (by omega), e, iushr9 _ (by omega)]
  rw [e] at k
  exact k
theorem r_height {M : g_M} {n : Nat} {Q : Int → g_M → Prop} (hST : ST M n) (x : Nat) (hx : x < n) (k : Q (M 2 x % 512 / 2) M) : F_X8_height Q x M := by
  obtain ⟨h1, h2, -⟩ := hST.2.2.2.2.2.2 x hx
  have t5 := hST.1.2.2.2.2
  have e : M 2 x = ((M 2 x).toNat : Int) := by omega
  unfold F_X8_height
  rw [rgn x (by omega), e, iushr1 _ (by omega), iand255 _ (by omega)]
  rw [e] at k
  rw [show (((M 2 x).toNat / 2 % 256 : Nat) : Int) = ((M 2 x).toNat : Int) % 512 / 2 by omega]
  exact k
theorem r_isTooLarge {M : g_M} {n : Nat} {Q : Int → g_M → Prop} (hST : ST M n) (x : Nat) (hx : x < n) (k1 : 1000 < M 2 x / 512 ∨ 60 < M 2 x % 512 / 2 → Q 1 M) (k2 : M 2 x / 512 ≤ 1000 → M 2 x % 512 / 2 ≤ 60 → Q 0 M) : F_X8_isTooLarge Q x M := by
  obtain ⟨h1, h2, -⟩ := hST.2.2.2.2.2.2 x hx
  unfold F_X8_isTooLarge
  refine r_width hST x hx ?_
  rw [bq (x := M 2 x / 512) (by omega) (by omega), show bm 1000 = 1000 by decide]
  refine ⟨fun c9 => k1 (Or.inl c9), fun c8 => ?_⟩
  refine r_height hST x hx ?_
  rw [bq (x := M 2 x % 512 / 2) (by omega) (by omega), show bm 60 = 60 by decide]
  exact ⟨fun c9 => k1 (Or.inr c9), fun c9 => k2 (by omega) (by omega)⟩
end P5
