section V1
/-- the store is no larger than what was there, and a node for each done member of U -/
def PT (M : g_M) (n r nb b0 : Nat) : Prop := ∃ L : List Nat, L.Nodup ∧ (∀ x, x ∈ L → x < b0 ∧ ∃ z k, NF M n r x z k) ∧ n ≤ nb + L.length
theorem PT.le {M : g_M} {n r nb b0 : Nat} (h : PT M n r nb b0) : n ≤ nb + b0 := by
  obtain ⟨L, h1, h2, h3⟩ := h
  have := nd_len b0 L h1 (fun x hx => (h2 x hx).1)
  omega
theorem PT.new {M : g_M} {n r b0 : Nat} : PT M n r n b0 := ⟨[], List.nodup_nil, fun x h => absurd h List.not_mem_nil, Nat.le_refl _⟩
theorem PT.ext {M M' : g_M} {n n' r nb b0 : Nat} (h : PT M n r nb b0) (hb : b0 ≤ n) (hST : ST M n) (hST' : ST M' n') (hn : n ≤ n') (hn' : n' ≤ n) (hE : EX n M M') (hq : ∀ i, i < r → M' 59 i = M 59 i ∧ M' 60 i = M 60 i) : PT M' n' r nb b0 := by
  obtain ⟨L, h1, h2, h3⟩ := h
  refine ⟨L, h1, fun x hx => ?_, by omega⟩
  obtain ⟨a1, z, k, a2⟩ := h2 x hx
  exact ⟨a1, z, k, NF_ext hST hST' hn hE hq x z k (by omega) a2⟩
/-- what has a normal form already needs no new node -/
theorem NI.done {M0 M : g_M} {n0 n m c r a x z k : Nat} (h : NI M0 M n0 n m c r a) (ha : a < c) (ex : M 7 a = (x : Int)) (hx : x < n) (hN : NF M n r x z k) : ∃ y, y < n ∧ NO M y (sg M x) (vA M x) (vB M x) (-1) := by
  have hI := h
  obtain ⟨⟨hW, hK, hRU⟩, h1, h2, h3, -⟩ := h
  obtain ⟨w, s, y, e, a1, a2, a3, a4, a5⟩ := (NF_eq hW.st.plt hx).1 hN
  have hw : ∀ j, j < ax M x → vv M (pn M x j) = ((w j : Nat) : Int) := fun j hj => by
    obtain ⟨i', i1, i2, i3⟩ := hK.idx ha ex hj
    have e1 : nd M i' = pn M x j := by
      unfold nd pn
      rw [i2]
    have e2 : vv M (pn M x j) = M 8 i' := by
      unfold vv
      rw [i3, Int.toNat_natCast]
    have n1 := hI.nf (by omega) i' (by omega)
    rw [e1] at n1
    have hpl := hW.st.plt x hx j hj
    have := (NF_det hW.st hRU _ _ _ _ _ (by omega) n1 (a1 j hj)).1
    have := (h2 i' (by omega)).1
    omega
  refine ⟨y, a2, ?_⟩
  have e0 : ivx (ax M x) w 0 = vA M x := by
    unfold ivx vA
    by_cases h : 0 < ax M x
    · rw [if_pos h, if_pos h, hw 0 h]
    · rw [if_neg h, if_neg h]
  have e1 : ivx (ax M x) w 1 = vB M x := by
    unfold ivx vB
    by_cases h : 1 < ax M x
    · rw [if_pos h, if_pos h, hw 1 h]
    · rw [if_neg h, if_neg h]
  rw [e0, e1] at a3
  exact a3
theorem PT.step {M0 M M2 : g_M} {n0 n n1 m c r a x nb b0 : Nat} (hp : PT M n r nb b0) (h : NI M0 M n0 n m c r a) (h2 : NI M0 M2 n0 n1 m c r (a + 1)) (ha : a < c) (ex : M 7 a = (x : Int)) (hx : x < n) (hb : b0 ≤ n) (hn : n ≤ n1) (hn1 : n1 ≤ n + 1) (hE : EX n M M2) (hno : n < n1 → ∀ z, z < n → ¬ NO M z (sg M x) (vA M x) (vB M x) (-1)) (hD : x < b0 ∨ ∃ z k, NF M n r x z k) : PT M2 n1 r nb b0 := by
  have hS := h.2.2.2.2.1.2.2.2
  have hS2 := h2.2.2.2.2.1.2.2.2
  have hq : ∀ i, i < r → M2 59 i = M 59 i ∧ M2 60 i = M 60 i := fun i _ => by
    rw [hS2 59 (by decide), hS2 60 (by decide), hS 59 (by decide), hS 60 (by decide)]
    exact ⟨rfl, rfl⟩
  have hST := h.1.1.st
  have hST2 := h2.1.1.st
  by_cases hd : ∃ z k, NF M n r x z k
  · obtain ⟨z, k, hd⟩ := hd
    obtain ⟨y, y1, y2⟩ := h.done ha ex hx hd
    have : n1 = n := by
      by_cases hlt : n < n1
      · exact absurd y2 (hno hlt y y1)
      · omega
    exact hp.ext hb hST hST2 hn (by omega) hE hq
  · obtain ⟨L, l1, l2, l3⟩ := hp
    have hxb : x < b0 := by
      rcases hD with hD | hD
      · exact hD
      · exact absurd hD hd
    have hxL : x ∉ L := fun hm => hd (l2 x hm).2
    have hN := h2.nf (by omega) a (by omega)
    rw [show nd M2 a = x by unfold nd; rw [hS2 7 (by decide), ← hS 7 (by decide), ex, Int.toNat_natCast]] at hN
    refine ⟨x :: L, List.nodup_cons.2 ⟨hxL, l1⟩, fun q hq' => ?_, ?_⟩
    · rcases List.mem_cons.1 hq' with e | hm
      · rw [e]
        exact ⟨hxb, _, _, hN⟩
      · obtain ⟨q1, z, k, q2⟩ := l2 q hm
        exact ⟨q1, z, k, NF_ext hST hST2 hn hE hq q z k (by omega) q2⟩
    · rw [List.length_cons]
      omega
theorem r_norm_17 {M0 : g_M} {Q : Int → g_M → Prop} {n0 m c r nb b0 : Nat} (hn3 : n0 + c < 3000) (hc : 0 < c) (hb : b0 ≤ n0) (hD : ∀ i, i < c → nd M0 i < b0 ∨ ∃ z k, NF M0 n0 r (nd M0 i) z k)
    (k : ∀ (n : Nat) (M : g_M), NI M0 M n0 n m c r c → PT M n r nb b0 → Q (M 8 (c - 1)) M) :
    ∀ (f a n : Nat) (M : g_M), a ≤ c → c - a < f → ST M0 n0 → NI M0 M n0 n m c r a → PT M n r nb b0 → F_X9_normalize_17 Q f a M := by
  intro f
  induction f with
  | zero => intros; omega
  | succ f ih =>
    intro a n M h1 h2 hST0 hI hPT
    have hI' := hI
    obtain ⟨⟨hW, hK, hRU⟩, i1, i2, i3, ⟨i4, i5, i6, i7⟩, i8⟩ := hI'
    unfold F_X9_normalize_17
    refine r_count hK.1 ?_
    rw [bq (x := (a : Int)) (by omega) (by omega), bq (x := (c : Int)) (by omega) (by omega)]
    refine ⟨fun c9 => ?_, fun c9 => ?_⟩
    · have ha : a < c := by omega
      obtain ⟨x, x1, x2, -⟩ := hK.2.2 a ha
      have hnd0 : nd M0 a = x := by
        unfold nd
        rw [← i7 7 (by decide), x2, Int.toNat_natCast]
      have hxn0 : x < n0 := by
        have := (i8 a ha).1
        rw [show nd M a = x by unfold nd; omega] at this
        exact this
      have hDx : x < b0 ∨ ∃ z k, NF M n r x z k := by
        have h9 := hD a ha
        rw [hnd0] at h9
        rcases h9 with h9 | ⟨z, kk, h9⟩
        · exact Or.inl h9
        · exact Or.inr ⟨z, kk, NF_ext hST0 hW.st i5 i4 (fun i _ => by rw [i7 59 (by decide), i7 60 (by decide)]; exact ⟨rfl, rfl⟩) x z kk hxn0 h9⟩
      refine r_rebuild hW (by omega) hK a x ha x1 x2 i2 (fun y n1 M1 g1 g2 g3 g4 g5 g6 g7 g8 g9 => ?_)
      have hK1 : WK M1 n1 c := hK.cong hW.st g2 g7 (g9 6 (by decide)) (g9 7 (by decide)) (by rw [g9 43 (by decide)])
      have hRU1 : RUL M1 n1 r := hRU.cong g2 (by rw [g9 45 (by decide)]) (g9 59 (by decide)) (g9 60 (by decide)) (g9 32 (by decide))
      have go : ∀ (v w : Int) (x4 : Int), (0 ≤ v ∧ v < (n1 : Int)) → (w = 0 ∨ w = 1) → ((∃ i, i < r ∧ M 59 i = (y : Int) ∧ v = M 60 i ∧ w = 1) ∨ (∀ i, i < r → M 59 i ≠ (y : Int)) ∧ v = (y : Int) ∧ w = 0) → (bm x4 = bm (-1) → w = 0) → (¬ bm x4 = bm (-1) → w = 1) → F_X9_normalize_65 Q (F_X9_normalize_17 Q f) a x4 a v M1 := fun v w x4 hv hw hr e1 e2 => by
        obtain ⟨es, hN⟩ := NI.step hI hn3 ha x2 x1 g1 g2 g3 g4 g7 g8 g9 hv hw hr
        have hE2 : EX n M (up (up M1 8 a v) 9 a (sT M x (ax M x) + w)) := g7.tr (EX.of (by rw [up_ne (by decide), up_ne (by decide)]) (by rw [up_ne (by decide), up_ne (by decide)]) (by rw [up_ne (by decide), up_ne (by decide)])) g2
        have hPT2 := hPT.step hI hN ha x2 x1 (Nat.le_trans hb i5) g2 g3 hE2 (fun h => (g6 h).2) hDx
        unfold F_X9_normalize_65 F_X10_setValue
        have han : a ≤ 3000 := by
          clear hr
          omega
        refine ⟨okk a rfl (by show a < 65536; clear hr; omega), ?_⟩
        rw [rsk a rfl (by clear hr; omega)]
        have hSv : SM [8] M1 (up M1 8 a v) := (SM.rf _ _).u (by decide)
        have b1 : -2147483648 ≤ v ∧ v ≤ 2147483647 := by
          clear hr
          have := g1.st.1.2.2.2.2
          omega
        have hWv : WF (up M1 8 a v) n1 m := g1.cong (g1.rg.u b1.1 b1.2) hSv (by decide)
        have hKv : WK (up M1 8 a v) n1 c := hK1.cong g1.st (Nat.le_refl _) (EX.of (hSv 0 (by decide)) (hSv 1 (by decide)) (hSv 2 (by decide))) (hSv 6 (by decide)) (hSv 7 (by decide)) (by rw [hSv 43 (by decide)])
        have xv : up M1 8 a v 7 a = (x : Int) := by rw [hSv 7 (by decide), g9 7 (by decide), x2]
        refine r_sumOfParts hWv hKv a x ha (Nat.lt_of_lt_of_le x1 g2) xv ?_
        rw [es]
        have tail : F_X9_normalize_92 Q (F_X9_normalize_17 Q f) a a (sT M x (ax M x)) w (up M1 8 a v) := by
          unfold F_X9_normalize_92 F_X10_setTally
          refine ⟨okk a rfl (by show a < 65536; clear hr; omega), ?_⟩
          rw [rsk a rfl (by clear hr; omega), show (a : Int) + 1 = ((a + 1 : Nat) : Int) by clear hr; omega]
          exact ih (a + 1) n1 _ (by clear hr; omega) (by clear hr; omega) hST0 hN hPT2
        refine ⟨fun e => ?_, fun e => ?_⟩
        · rw [e1 e] at tail
          exact tail
        · rw [e2 e] at tail
          exact tail
      have hy3 : y ≤ 3000 := by
        have := g1.st.1.2.2.2.2
        omega
      have e59 : M1 59 = M 59 := g9 59 (by decide)
      have e60 : M1 60 = M 60 := g9 60 (by decide)
      refine r_ruleFor g1.rg hRU1 y hy3 (fun i hi e => ⟨fun c8 => ?_, fun c8 => ?_⟩) (fun hno => ⟨fun _ => ?_, fun c8 => absurd rfl c8⟩)
      · rw [bq (x := (i : Int)) (by omega) (by have := hRU.2.1; omega), show bm (-1) = -1 by decide] at c8
        omega
      · refine r_rightSide hRU1 i hi ?_
        obtain ⟨l, v, l1, v1, l2, v2, -⟩ := hRU1.2.2 i hi
        exact go (M1 60 i) 1 i (by omega) (Or.inr rfl) (Or.inl ⟨i, hi, by rw [← e59]; exact e, by rw [e60], rfl⟩) (fun e9 => absurd e9 c8) (fun _ => rfl)
      · exact go y 0 (-1) (by omega) (Or.inl rfl) (Or.inr ⟨fun i hi => by rw [← e59]; exact hno i hi, rfl, rfl⟩) (fun _ => rfl) (fun e9 => absurd rfl e9)
    · have hac : a = c := by omega
      subst hac
      refine r_count hK.1 ?_
      rw [show (a : Int) - 1 = ((a - 1 : Nat) : Int) by omega]
      refine r_value (a - 1) (by omega) ?_
      exact k n M hI hPT
end V1
