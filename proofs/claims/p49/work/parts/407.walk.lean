section P7
theorem pigeon : ∀ (n c : Nat) (f : Nat → Nat), (∀ i, i < c → f i < n) → (∀ i j, i < c → j < c → f i = f j → i = j) → c ≤ n
  | 0, c, f, h, _ => by
    rcases Nat.eq_zero_or_pos c with h0 | h0
    · omega
    · exact absurd (h 0 h0) (by omega)
  | n + 1, c, f, h, hi => by
    by_cases he : ∃ i0, i0 < c ∧ f i0 = n
    · obtain ⟨i0, h0, e0⟩ := he
      have := pigeon n (c - 1) (fun i => if i = i0 then f (c - 1) else f i) (fun i hic => by
        show (if i = i0 then f (c - 1) else f i) < n
        by_cases hii : i = i0
        · rw [if_pos hii]
          have h1 := h (c - 1) (by omega)
          have h2 : f (c - 1) ≠ n := fun e => by
            have := hi (c - 1) i0 (by omega) h0 (e.trans e0.symm)
            omega
          omega
        · rw [if_neg hii]
          have h1 := h i (by omega)
          have h2 : f i ≠ n := fun e => hii (hi i i0 (by omega) h0 (e.trans e0.symm))
          omega) (fun i j hic hjc e => by
        replace e : (if i = i0 then f (c - 1) else f i) = (if j = i0 then f (c - 1) else f j) := e
        by_cases hii : i = i0
        · by_cases hjj : j = i0
          · omega
          · rw [if_pos hii, if_neg hjj] at e
            have := hi _ _ (by omega) (by omega) e
            omega
        · by_cases hjj : j = i0
          · rw [if_neg hii, if_pos hjj] at e
            have := hi _ _ (by omega) (by omega) e
            omega
          · rw [if_neg hii, if_neg hjj] at e
            exact hi _ _ (by omega) (by omega) e)
      omega
    · have := pigeon n c f (fun i hic => by
        have h1 := h i hic
        have h2 : f i ≠ n := fun e => he ⟨i, hic, e⟩
        omega) hi
      omega
/-- a node's parts -/
theorem ST.pt {M : g_M} {n x j : Nat} (h : ST M n) (hx : x < n) (hj : j < arN (sg M x)) : ∃ p : Nat, p < x ∧ M 1 (3 * x + j) = (p : Int) ∧ (M 2 x % 512 / 2 < 255 → M 2 p % 512 / 2 < M 2 x % 512 / 2) := by
  obtain ⟨o1, o2, o3⟩ := h.2.2.1 x hx
  obtain ⟨e1, e2, e3, e4, e5⟩ := h.2.2.2.2.2.2 x hx
  have hr := arN_le (sg M x)
  have t5 := h.1.2.2.2.2
  have main : ∀ v : Int, (0 ≤ v ∧ v < (x : Int)) → (rg M 2 v % 512 / 2 ≤ max (max (rg M 2 (M 1 (3 * x)) % 512 / 2) (rg M 2 (M 1 (3 * x + 1)) % 512 / 2)) (rg M 2 (M 1 (3 * x + 2)) % 512 / 2)) → ∃ p : Nat, p < x ∧ v = (p : Int) ∧ (M 2 x % 512 / 2 < 255 → M 2 p % 512 / 2 < M 2 x % 512 / 2) := fun v hv hm => by
    refine ⟨v.toNat, by omega, by omega, fun h2 => ?_⟩
    rw [show v = ((v.toNat : Nat) : Int) by omega, rgn v.toNat (by omega)] at hm
    rw [e5] at h2 ⊢
    omega
  rcases Nat.lt_or_ge j 1 with hj0 | hj0
  · have : j = 0 := by omega
    subst this
    exact main (M 1 (3 * x)) (o1.1 hj) (by omega)
  · have : j = 1 := by omega
    subst this
    exact main (M 1 (3 * x + 1)) (o2.1 hj) (by omega)
theorem r_nodeArity {M : g_M} {n : Nat} {Q : Int → g_M → Prop} (hSY : SY M) (hST : ST M n) (x : Nat) (hx : x < n) (k : Q (arN (sg M x)) M) : F_X8_arity Q x M := by
  have h0 := hST.2.1 x hx
  have t5 := hST.1.2.2.2.2
  unfold F_X8_arity
  rw [rgn x (by omega), show M 0 x = ((sg M x : Nat) : Int) by unfold sg; omega]
  exact r_arity hSY (sg M x) (by unfold sg; omega) k
theorem r_part {M : g_M} {Q : Int → g_M → Prop} (x j : Nat) (hx : x ≤ 3000) (hj : j ≤ 2) (k : Q (M 1 (3 * x + j)) M) : F_X8_part Q x j M := by
  unfold F_X8_part
  rw [bq (x := (x : Int)) (by omega) (by omega), rgk (i := 3 * (x : Int) + (j : Int)) (3 * x + j) (by omega) (by omega)]
  exact ⟨fun c => by omega, fun _ => k⟩
def inW (M : g_M) (c : Nat) (v : Int) : Prop := ∃ i, i < c ∧ M 7 i = v
/-- the walk's list holds its own parts -/
def WK (M : g_M) (n c : Nat) : Prop := M 43 6 = (c : Int) ∧ c ≤ n ∧ ∀ i, i < c → ∃ x : Nat, x < n ∧ M 7 i = (x : Int) ∧ M 6 x = (i : Int) ∧ ∀ j, j < arN (sg M x) → inW M i (M 1 (3 * x + j))
theorem WK.cong {M M' : g_M} {n n' c : Nat} (h : WK M n c) (hST : ST M n) (hn : n ≤ n') (hE : EX n M M') (h6 : M' 6 = M 6) (h7 : M' 7 = M 7) (h43 : M' 43 6 = M 43 6) : WK M' n' c := by
  refine ⟨h43.trans h.1, by have := h.2.1; omega, fun i hi => ?_⟩
  obtain ⟨x, h1, h2, h3, h4⟩ := h.2.2 i hi
  obtain ⟨e1, e2, e3, -⟩ := hE x h1
  have hs : sg M' x = sg M x := by unfold sg; rw [e1]
  refine ⟨x, by omega, by rw [h7, h2], by rw [h6, h3], fun j hj => ?_⟩
  rw [hs] at hj
  have hr := arN_le (sg M x)
  have hp : M' 1 (3 * x + j) = M 1 (3 * x + j) := by
    rcases Nat.lt_or_ge j 1 with hj0 | hj0
    · rw [show j = 0 by omega]; exact e2
    · rw [show j = 1 by omega]; exact e3
  rw [hp]
  unfold inW
  rw [h7]
  exact h4 j hj
theorem r_indexOf {M : g_M} {n c : Nat} {Q : Int → g_M → Prop} (hRG : RG M) (hK : WK M n c) (hn : n ≤ 3000) (x : Nat) (hx : x ≤ 3000) (k1 : ∀ i : Nat, i < c → M 7 i = (x : Int) → Q i M) (k2 : ¬ inW M c x → Q (-1) M) : F_X10_indexOf Q x M := by
  have hc := hK.2.1
  have h6 := hRG 6 x
  have hW : ∀ i : Nat, i < c → M 7 i = (x : Int) → M 6 x = (i : Int) := fun i hi e => by
    obtain ⟨y, y1, y2, y3, -⟩ := hK.2.2 i hi
    have : y = x := by omega
    rw [← this, y3]
  unfold F_X10_indexOf
  rw [bq (x := (x : Int)) (by omega) (by omega), rgn x (by omega)]
  refine ⟨fun c9 => by omega, fun _ => ?_⟩
  unfold F_X10_indexOf_16
  rw [hRG.b, hK.1, bq (x := (c : Int)) (by omega) (by omega), bq (x := (x : Int)) (by omega) (by omega)]
  refine ⟨fun c9 => k2 ?_, fun c9 => ⟨fun c8 => ?_, fun c8 => k2 ?_⟩⟩
  · rintro ⟨i, hi, e⟩
    have := hW i hi e
    omega
  · obtain ⟨t, ht⟩ : ∃ t : Nat, M 6 x = (t : Int) := ⟨(M 6 x).toNat, by omega⟩
    rw [ht] at c8 ⊢
    rw [rgn t (by omega), hRG.b]
    refine ⟨fun c7 => k1 t (by omega) c7, fun c7 => k2 ?_⟩
    rintro ⟨i, hi, e⟩
    have := hW i hi e
    rw [show t = i by omega] at c7
    exact c7 e
  · rintro ⟨i, hi, e⟩
    have := hW i hi e
    omega
theorem r_firstUnlisted {M : g_M} {n m c : Nat} {Q : Int → g_M → Prop} (hW : WF M n m) (hK : WK M n c) (x : Nat) (hx : x < n) (k1 : (∀ j, j < arN (sg M x) → inW M c (M 1 (3 * x + j))) → Q (-1) M) (k2 : ∀ j p : Nat, j < arN (sg M x) → p < x → M 1 (3 * x + j) = (p : Int) → (∀ j', j' < j → inW M c (M 1 (3 * x + j'))) → ¬ inW M c p → Q p M) : F_X10_firstUnlisted Q x M := by
  have hr := arN_le (sg M x)
  have t5 := hW.st.1.2.2.2.2
  have main : ∀ (f j : Nat), j ≤ arN (sg M x) → arN (sg M x) - j < f → (∀ j', j' < j → inW M c (M 1 (3 * x + j'))) → F_X10_firstUnlisted_2 Q f x j M := by
    intro f
    induction f with
    | zero => intro j h1 h2; omega
    | succ f ih =>
      intro j h1 h2 h3
      unfold F_X10_firstUnlisted_2
      refine r_nodeArity hW.sy hW.st x hx ?_
      rw [bq (x := (j : Int)) (by omega) (by omega), bq (x := (arN (sg M x) : Int)) (by omega) (by omega)]
      refine ⟨fun c9 => ?_, fun c9 => k1 (fun j' hj' => h3 j' (by omega))⟩
      refine r_part x j (by omega) (by omega) ?_
      obtain ⟨p, p1, p2, -⟩ := hW.st.pt hx (show j < arN (sg M x) by omega)
      rw [p2]
      refine r_indexOf hW.rg hK t5 p (by omega) (fun i hi e => ?_) (fun hno => ?_)
      · rw [bq (x := (i : Int)) (by omega) (by have := hK.2.1; omega), show bm (-1) = -1 by decide]
        refine ⟨fun c8 => by omega, fun _ => ?_⟩
        rw [show (j : Int) + 1 = ((j + 1 : Nat) : Int) by omega]
        refine ih (j + 1) (by omega) (by omega) (fun j' hj' => ?_)
        by_cases hjj : j' = j
        · subst hjj
          exact ⟨i, hi, e.trans p2.symm⟩
        · exact h3 j' (by omega)
      · exact ⟨fun _ => k2 j p (by omega) p1 p2 h3 hno, fun c8 => absurd rfl c8⟩
  exact ⟨4, main 4 0 (Nat.zero_le _) (by omega) (fun j' h => by omega)⟩
theorem r_append {M : g_M} {n m c : Nat} {Q : g_M → Prop} (hW : WF M n m) (hK : WK M n c) (x : Nat) (hx : x < n) (hp : ∀ j, j < arN (sg M x) → inW M c (M 1 (3 * x + j))) (k1 : inW M c x → Q M) (k2 : ¬ inW M c x → ∀ M', RG M' → WK M' n (c + 1) → (∀ i, i < c → M' 7 i = M 7 i) → M' 7 c = (x : Int) → SM [6, 7, 43] M M' → Q M') : F_X10_append Q x M := by
  have t5 := hW.st.1.2.2.2.2
  have hc := hK.2.1
  unfold F_X10_append
  rw [bq (x := (x : Int)) (by omega) (by omega)]
  refine ⟨fun c9 => by omega, fun _ => ?_⟩
  refine r_indexOf hW.rg hK t5 x (by omega) (fun i hi e => ?_) (fun hno => ?_)
  · rw [bq (x := (i : Int)) (by omega) (by omega), show bm (-1) = -1 by decide]
    exact ⟨fun c8 => by omega, fun _ => k1 ⟨i, hi, e⟩⟩
  · refine ⟨fun _ => ⟨okk x rfl (by show x < 65536; omega), ?_⟩, fun c8 => absurd rfl c8⟩
    rw [rsk x rfl (by omega), hK.1]
    have e1 : up M 6 x (c : Int) 43 6 = (c : Int) := by rw [up3 (by decide), hK.1]
    rw [e1]
    refine ⟨okk c rfl (by show c < 65536; omega), ?_⟩
    rw [rsk c rfl (by omega)]
    have e2 : up (up M 6 x (c : Int)) 7 c (x : Int) 43 6 = (c : Int) := by rw [up3 (by decide), e1]
    rw [e2]
    generalize hM' : up (up (up M 6 x (c : Int)) 7 c (x : Int)) 43 6 ((c : Int) + 1) = M'
    have u : ∀ r j, M' r j = if r = 43 ∧ j = 6 then (c : Int) + 1 else if r = 7 ∧ j = c then (x : Int) else if r = 6 ∧ j = x then (c : Int) else M r j := fun r j => by rw [← hM']; rfl
    have hR : RG M' := by
      rw [← hM']
      exact ((hW.rg.u (by omega) (by omega)).u (by omega) (by omega)).u (by omega) (by omega)
    have hSM : SM [6, 7, 43] M M' := by
      intro r hr
      funext j
      simp only [List.mem_cons, List.not_mem_nil, or_false, not_or] at hr
      rw [u]
      simp [hr]
    have v7 : ∀ y, M' 7 y = if y = c then (x : Int) else M 7 y := fun y => by rw [u]; simp
    have v6 : ∀ y, M' 6 y = if y = x then (c : Int) else M 6 y := fun y => by rw [u]; simp
    have hsg : ∀ y, sg M' y = sg M y := fun y => by unfold sg; rw [hSM 0 (by decide)]
    have hin : ∀ i v, i ≤ c → inW M i v → inW M' i v := fun i v hi ⟨i', h1, h2⟩ => ⟨i', h1, by rw [v7, if_neg (by omega), h2]⟩
    have all : ∀ i, i < c + 1 → ∃ y : Nat, y < n ∧ M' 7 i = (y : Int) ∧ M' 6 y = (i : Int) ∧ ∀ j, j < arN (sg M' y) → inW M' i (M' 1 (3 * y + j)) := fun i hi => by
      by_cases hic : i = c
      · subst hic
        refine ⟨x, hx, by rw [v7, if_pos rfl], by rw [v6, if_pos rfl], fun j hj => ?_⟩
        rw [hsg] at hj
        rw [hSM 1 (by decide)]
        exact hin _ _ (Nat.le_refl _) (hp j hj)
      · obtain ⟨y, y1, y2, y3, y4⟩ := hK.2.2 i (by omega)
        refine ⟨y, y1, by rw [v7, if_neg hic, y2], ?_, fun j hj => ?_⟩
        · rw [v6, if_neg (fun e => hno ⟨i, by omega, by rw [y2, e]⟩), y3]
        · rw [hsg] at hj
          rw [hSM 1 (by decide)]
          exact hin _ _ (by omega) (y4 j hj)
    refine k2 hno M' hR ⟨by rw [u]; simp, ?_, all⟩ (fun i hi => by rw [v7, if_neg (by omega)]) (by rw [v7, if_pos rfl]) hSM
    refine pigeon n (c + 1) (fun i => (M' 7 i).toNat) (fun i hi => ?_) (fun i j hi hj e => ?_)
    · obtain ⟨y, y1, y2, -⟩ := all i hi
      show (M' 7 i).toNat < n
      omega
    · replace e : (M' 7 i).toNat = (M' 7 j).toNat := e
      obtain ⟨y, y1, y2, y3, -⟩ := all i hi
      obtain ⟨z, z1, z2, z3, -⟩ := all j hj
      have : y = z := by omega
      subst this
      omega
end P7
