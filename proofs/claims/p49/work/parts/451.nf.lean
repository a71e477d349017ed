section V0
def ivx (a : Nat) (w : Nat → Nat) (j : Nat) : Int := if j < a then ((w j : Nat) : Int) else -1
def sv (s : Nat → Nat) : Nat → Nat
  | 0 => 0
  | j + 1 => sv s j + s j
theorem ivx_cong {a : Nat} {w w' : Nat → Nat} (h : ∀ j, j < a → w j = w' j) (i : Nat) : ivx a w i = ivx a w' i := by
  unfold ivx
  by_cases hi : i < a
  · rw [if_pos hi, if_pos hi, h i hi]
  · rw [if_neg hi, if_neg hi]
theorem sv_cong {s s' : Nat → Nat} : ∀ a, (∀ j, j < a → s j = s' j) → sv s a = sv s' a
  | 0, _ => rfl
  | a + 1, h => by
    show sv s a + s a = sv s' a + s' a
    rw [sv_cong a (fun j hj => h j (by omega)), h a (by omega)]
/-- the rule at a node, if there is one -/
def RLS (M : g_M) (r y z e : Nat) : Prop := (∃ i, i < r ∧ M 59 i = (y : Int) ∧ M 60 i = (z : Int) ∧ e = 1) ∨ (∀ i, i < r → M 59 i ≠ (y : Int)) ∧ z = y ∧ e = 0
theorem RLS.det {M : g_M} {n r y z z' e e' : Nat} (hR : RUL M n r) (h : RLS M r y z e) (h' : RLS M r y z' e') : z = z' ∧ e = e' := by
  rcases h with ⟨i, i1, i2, i3, i4⟩ | ⟨i1, i2, i3⟩ <;> rcases h' with ⟨i', j1, j2, j3, j4⟩ | ⟨j1, j2, j3⟩
  · obtain ⟨l, v, -, -, a1, -, a3⟩ := hR.2.2 i i1
    obtain ⟨l', v', -, -, b1, -, b3⟩ := hR.2.2 i' j1
    have : l = l' := by omega
    subst this
    have : i = i' := by omega
    subst this
    omega
  · exact absurd i2 (j1 i i1)
  · exact absurd j2 (i1 i' j1)
  · omega
theorem RLS.ext {M M' : g_M} {r y z e : Nat} (h : RLS M r y z e) (hq : ∀ i, i < r → M' 59 i = M 59 i ∧ M' 60 i = M 60 i) : RLS M' r y z e := by
  rcases h with ⟨i, i1, i2, i3, i4⟩ | ⟨i1, i2⟩
  · exact Or.inl ⟨i, i1, by rw [(hq i i1).1, i2], by rw [(hq i i1).2, i3], i4⟩
  · exact Or.inr ⟨fun i hi => by rw [(hq i hi).1]; exact i1 i hi, i2⟩
theorem RLS.lt {M : g_M} {n r y z e : Nat} (hR : RUL M n r) (hy : y < n) (h : RLS M r y z e) : z < n := by
  rcases h with ⟨i, i1, i2, i3, i4⟩ | ⟨i1, i2, i3⟩
  · obtain ⟨l, v, -, a0, a1, a2, a3⟩ := hR.2.2 i i1
    omega
  · omega
theorem NO_uni {M : g_M} {n y y' : Nat} {s a b c : Int} (hST : ST M n) (hy : y < n) (hy' : y' < n) (h : NO M y s a b c) (h' : NO M y' s a b c) : y = y' :=
  hST.2.2.2.1 y y' hy hy' (h.1.trans h'.1.symm) (h.2.1.trans h'.2.1.symm) (h.2.2.1.trans h'.2.2.1.symm) (h.2.2.2.trans h'.2.2.2.symm)
theorem NO.ext {M M' : g_M} {n y : Nat} {s a b c : Int} (h : NO M y s a b c) (hy : y < n) (hE : EX n M M') : NO M' y s a b c := by
  obtain ⟨b1, b2, b3, b4, -⟩ := hE y hy
  exact ⟨b1.trans h.1, b2.trans h.2.1, b3.trans h.2.2.1, b4.trans h.2.2.2⟩
theorem EX.node {M M' : g_M} {n x : Nat} (hE : EX n M M') (hx : x < n) : sg M' x = sg M x ∧ ax M' x = ax M x ∧ ∀ j, j < 2 → pn M' x j = pn M x j := by
  obtain ⟨e0, e1, e2, -⟩ := hE x hx
  have es : sg M' x = sg M x := by unfold sg; rw [e0]
  refine ⟨es, by unfold ax; rw [es], fun j hj => ?_⟩
  unfold pn
  rcases Nat.lt_or_ge j 1 with h | h
  · rw [show j = 0 by omega]
    exact congrArg Int.toNat e1
  · rw [show j = 1 by omega]
    exact congrArg Int.toNat e2
theorem ax_le (M : g_M) (x : Nat) : ax M x ≤ 2 := arN_le _
/-- x has the normal form z, by k steps -/
def NFF (M : g_M) (n r : Nat) : Nat → Nat → Nat → Nat → Prop
  | 0 => fun _ _ _ => False
  | f + 1 => fun x z k => ∃ (w s : Nat → Nat) (y e : Nat), (∀ j, j < ax M x → NFF M n r f (pn M x j) (w j) (s j)) ∧ y < n ∧ NO M y (sg M x) (ivx (ax M x) w 0) (ivx (ax M x) w 1) (-1) ∧ RLS M r y z e ∧ k = sv s (ax M x) + e
def NF (M : g_M) (n r x z k : Nat) : Prop := NFF M n r (x + 1) x z k
theorem NFF_eq {M : g_M} {n r : Nat} (hp : PLt M n) : ∀ f f' x z k, x < n → x < f → x < f' → NFF M n r f x z k → NFF M n r f' x z k := by
  intro f
  induction f with
  | zero => intros; omega
  | succ f ih =>
    intro f' x z k hx h1 h2
    cases f' with
    | zero => omega
    | succ f' =>
      rintro ⟨w, s, y, e, a1, a2⟩
      exact ⟨w, s, y, e, fun j hj => ih f' _ _ _ (by have := hp x hx j hj; omega) (by have := hp x hx j hj; omega) (by have := hp x hx j hj; omega) (a1 j hj), a2⟩
theorem NF_eq {M : g_M} {n r x z k : Nat} (hp : PLt M n) (hx : x < n) : NF M n r x z k ↔ ∃ (w s : Nat → Nat) (y e : Nat), (∀ j, j < ax M x → NF M n r (pn M x j) (w j) (s j)) ∧ y < n ∧ NO M y (sg M x) (ivx (ax M x) w 0) (ivx (ax M x) w 1) (-1) ∧ RLS M r y z e ∧ k = sv s (ax M x) + e := by
  constructor
  · rintro ⟨w, s, y, e, a1, a2⟩
    exact ⟨w, s, y, e, fun j hj => NFF_eq hp _ _ _ _ _ (by have := hp x hx j hj; omega) (by have := hp x hx j hj; omega) (by omega) (a1 j hj), a2⟩
  · rintro ⟨w, s, y, e, a1, a2⟩
    exact ⟨w, s, y, e, fun j hj => NFF_eq hp _ _ _ _ _ (by have := hp x hx j hj; omega) (by omega) (by have := hp x hx j hj; omega) (a1 j hj), a2⟩
theorem NF_det {M : g_M} {n r : Nat} (hST : ST M n) (hR : RUL M n r) : ∀ x z k z' k', x < n → NF M n r x z k → NF M n r x z' k' → z = z' ∧ k = k' := by
  intro x
  induction x using Nat.strongRecOn with
  | _ x ih =>
    intro z k z' k' hx h h'
    have hp := hST.plt
    obtain ⟨w, s, y, e, a1, a2, a3, a4, a5⟩ := (NF_eq hp hx).1 h
    obtain ⟨w', s', y', e', b1, b2, b3, b4, b5⟩ := (NF_eq hp hx).1 h'
    have hw : ∀ j, j < ax M x → w j = w' j ∧ s j = s' j := fun j hj => ih _ (hp x hx j hj) _ _ _ _ (by have := hp x hx j hj; omega) (a1 j hj) (b1 j hj)
    have hs := sv_cong (ax M x) (fun j hj => (hw j hj).2)
    have hv := fun i => ivx_cong (fun j hj => (hw j hj).1) i
    rw [← hv, ← hv] at b3
    have : y = y' := NO_uni hST a2 b2 a3 b3
    subst this
    obtain ⟨c1, c2⟩ := a4.det hR b4
    exact ⟨c1, by omega⟩
theorem NF_ext {M M' : g_M} {n n' r : Nat} (hST : ST M n) (hST' : ST M' n') (hn : n ≤ n') (hE : EX n M M') (hq : ∀ i, i < r → M' 59 i = M 59 i ∧ M' 60 i = M 60 i) : ∀ x z k, x < n → NF M n r x z k → NF M' n' r x z k := by
  intro x
  induction x using Nat.strongRecOn with
  | _ x ih =>
    intro z k hx h
    have hp := hST.plt
    obtain ⟨w, s, y, e, a1, a2, a3, a4, a5⟩ := (NF_eq hp hx).1 h
    obtain ⟨e1, e2, e3⟩ := hE.node hx
    have hr := ax_le M x
    refine (NF_eq hST'.plt (by omega)).2 ⟨w, s, y, e, fun j hj => ?_, by omega, ?_, a4.ext hq, by rw [e2]; exact a5⟩
    · rw [e2] at hj
      rw [e3 j (by omega)]
      exact ih _ (hp x hx j hj) _ _ (by have := hp x hx j hj; omega) (a1 j hj)
    · rw [e1, e2]
      exact a3.ext a2 hE
theorem NF_lt {M : g_M} {n r x z k : Nat} (hST : ST M n) (hR : RUL M n r) (hx : x < n) (h : NF M n r x z k) : z < n := by
  obtain ⟨w, s, y, e, a1, a2, a3, a4, a5⟩ := (NF_eq hST.plt hx).1 h
  exact a4.lt hR a2
/-- the walk's values are normal forms -/
theorem NI.nf {M0 M : g_M} {n0 n m c r a : Nat} (h : NI M0 M n0 n m c r a) (hac : a ≤ c) : ∀ i, i < a → NF M n r (nd M i) (M 8 i).toNat (M 9 i).toNat := by
  obtain ⟨⟨hW, hK, hRU⟩, h1, h2, h3, -⟩ := h
  intro i
  induction i using Nat.strongRecOn with
  | _ i ih =>
    intro hi
    obtain ⟨x, y, x1, y1, ex, hN, hv⟩ := h1 i hi
    have hnd : nd M i = x := by unfold nd; omega
    have hr := ax_le M x
    rw [hnd]
    have part : ∀ j, j < ax M x → ∃ i', i' < i ∧ nd M i' = pn M x j ∧ vv M (pn M x j) = M 8 i' ∧ tl M (pn M x j) = M 9 i' := fun j hj => by
      obtain ⟨i', i1, i2, i3⟩ := hK.idx (by omega) ex hj
      refine ⟨i', i1, ?_, ?_, ?_⟩
      · unfold nd pn
        rw [i2]
      · unfold vv
        rw [i3, Int.toNat_natCast]
      · unfold tl
        rw [i3, Int.toNat_natCast]
    have pv : ∀ j, j < ax M x → 0 ≤ vv M (pn M x j) ∧ 0 ≤ tl M (pn M x j) := fun j hj => by
      obtain ⟨i', i1, i2, i3, i4⟩ := part j hj
      rw [i3, i4]
      exact ⟨(h2 i' (by omega)).1, (h3 i' (by omega)).1⟩
    have sT_sv : ∀ q, q ≤ ax M x → sT M x q = ((sv (fun j => (tl M (pn M x j)).toNat) q : Nat) : Int) := by
      intro q
      induction q with
      | zero => intro _; rfl
      | succ q ihq =>
        intro hq
        show sT M x q + tl M (pn M x q) = ((sv (fun j => (tl M (pn M x j)).toNat) q + (tl M (pn M x q)).toNat : Nat) : Int)
        have := (pv q (by omega)).2
        rw [ihq (by omega)]
        omega
    have e0 : ivx (ax M x) (fun j => (vv M (pn M x j)).toNat) 0 = vA M x := by
      unfold ivx vA
      by_cases h : 0 < ax M x
      · rw [if_pos h, if_pos h]
        exact Int.toNat_of_nonneg (pv 0 h).1
      · rw [if_neg h, if_neg h]
    have e1 : ivx (ax M x) (fun j => (vv M (pn M x j)).toNat) 1 = vB M x := by
      unfold ivx vB
      by_cases h : 1 < ax M x
      · rw [if_pos h, if_pos h]
        exact Int.toNat_of_nonneg (pv 1 h).1
      · rw [if_neg h, if_neg h]
    have hT := sT_sv _ (Nat.le_refl _)
    have hrr : ∃ e, RLS M r y (M 8 i).toNat e ∧ (M 9 i).toNat = sv (fun j => (tl M (pn M x j)).toNat) (ax M x) + e := by
      have q8 := h2 i hi
      rcases hv with ⟨q, q1, q2, q3, q4⟩ | ⟨q1, q2, q3⟩
      · refine ⟨1, Or.inl ⟨q, q1, q2, by omega, rfl⟩, by omega⟩
      · refine ⟨0, Or.inr ⟨q1, by omega, rfl⟩, by omega⟩
    obtain ⟨e, r1, r2⟩ := hrr
    refine (NF_eq hW.st.plt x1).2 ⟨fun j => (vv M (pn M x j)).toNat, fun j => (tl M (pn M x j)).toNat, y, e, fun j hj => ?_, y1, ?_, r1, r2⟩
    · obtain ⟨i', i1, i2, i3, i4⟩ := part j hj
      have := ih i' i1 (by omega)
      rw [i2, ← i3, ← i4] at this
      exact this
    · rw [e0, e1]
      exact hN
end V0
