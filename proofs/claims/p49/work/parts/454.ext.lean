section V3
/-- the rows that the order reads beside the nodes -/
def ORD (M M' : g_M) : Prop := M' 41 9 = M 41 9 ∧ M' 51 = M 51 ∧ M' 52 = M 52 ∧ M' 54 = M 54
theorem ORD.rf (M : g_M) : ORD M M := ⟨rfl, rfl, rfl, rfl⟩
theorem ORD.tr {M M' M'' : g_M} (h : ORD M M') (h' : ORD M' M'') : ORD M M'' := ⟨h'.1.trans h.1, h'.2.1.trans h.2.1, h'.2.2.1.trans h.2.2.1, h'.2.2.2.trans h.2.2.2⟩
theorem wt_ext {M M' : g_M} {n : Nat} (hp : PLt M n) (hE : EX n M M') (hO : ORD M M') : ∀ f x, x < n → wtF M' f x = wtF M f x := by
  intro f
  induction f with
  | zero => intros; rfl
  | succ f ih =>
    intro x hx
    obtain ⟨e1, e2, e3⟩ := hE.node hx
    have hr := ax_le M x
    have hs : ∀ r, r ≤ ax M x → sP (wtF M' f) M' x r = sP (wtF M f) M x r := by
      intro r
      induction r with
      | zero => intro _; rfl
      | succ r ihr =>
        intro hr'
        show sP (wtF M' f) M' x r + wtF M' f (pn M' x r) = sP (wtF M f) M x r + wtF M f (pn M x r)
        have := hp x hx r hr'
        rw [ihr (by omega), e3 r (by omega), ih _ (by omega)]
    show (if M' 41 9 = 1 then min ((M' 51 (sg M' x)).toNat + sP (wtF M' f) M' x (ax M' x)) 1048575 else 0) = (if M 41 9 = 1 then min ((M 51 (sg M x)).toNat + sP (wtF M f) M x (ax M x)) 1048575 else 0)
    rw [hO.1, hO.2.1, e1, e2, hs _ (Nat.le_refl _)]
theorem Wt_ext {M M' : g_M} {n : Nat} (hp : PLt M n) (hE : EX n M M') (hO : ORD M M') {x : Nat} (hx : x < n) : Wt M' x = Wt M x := wt_ext hp hE hO _ x hx
theorem KL_ext {M M' : g_M} {n : Nat} (hp : PLt M n) (hE : EX n M M') (hO : ORD M M') {R R' : Nat → Nat → Prop} {x y : Nat} (hx : x < n) (hy : y < n) (h : ∀ i j, i < ax M x → j < ax M y → (R' (pn M x i) (pn M y j) ↔ R (pn M x i) (pn M y j))) : KL M' R' x y ↔ KL M R x y := by
  obtain ⟨e1, e2, e3⟩ := hE.node hx
  obtain ⟨f1, f2, f3⟩ := hE.node hy
  have hr := ax_le M x
  have ei1 : i1 M' x = i1 M x := by unfold i1; rw [e2, e1, hO.2.2.2]
  have ei2 : i2 M' x = i2 M x := by unfold i2; rw [e1, hO.2.2.2]
  have lex : sg M x = sg M y → (LEX M' R' x y ↔ LEX M R x y) := fun hs => by
    have ha : ax M y = ax M x := by unfold ax; rw [hs]
    unfold LEX
    rw [ei1, ei2, e2]
    constructor
    · rintro ⟨h0, h1⟩
      have l1 := i1_lt h0
      refine ⟨h0, ?_⟩
      rw [e3 _ (by omega), f3 _ (by omega)] at h1
      rcases h1 with h1 | ⟨h1, h2, h3⟩
      · exact Or.inl ((h _ _ l1 (by omega)).1 h1)
      · have l2 := i2_lt h2
        rw [e3 _ (by omega), f3 _ (by omega)] at h3
        exact Or.inr ⟨h1, h2, (h _ _ l2 (by omega)).1 h3⟩
    · rintro ⟨h0, h1⟩
      have l1 := i1_lt h0
      refine ⟨h0, ?_⟩
      rw [e3 _ (by omega), f3 _ (by omega)]
      rcases h1 with h1 | ⟨h1, h2, h3⟩
      · exact Or.inl ((h _ _ l1 (by omega)).2 h1)
      · have l2 := i2_lt h2
        rw [e3 _ (by omega), f3 _ (by omega)]
        exact Or.inr ⟨h1, h2, (h _ _ l2 (by omega)).2 h3⟩
  have er : rk M' x = rk M x := by unfold rk; rw [e1, hO.2.2.1]
  have fr : rk M' y = rk M y := by unfold rk; rw [f1, hO.2.2.1]
  unfold KL
  rw [Wt_ext hp hE hO hx, Wt_ext hp hE hO hy, er, fr, e1, f1]
  constructor
  · rintro (h1 | ⟨h1, h2 | ⟨h2, h3⟩⟩)
    · exact Or.inl h1
    · exact Or.inr ⟨h1, Or.inl h2⟩
    · exact Or.inr ⟨h1, Or.inr ⟨h2, (lex h2).1 h3⟩⟩
  · rintro (h1 | ⟨h1, h2 | ⟨h2, h3⟩⟩)
    · exact Or.inl h1
    · exact Or.inr ⟨h1, Or.inl h2⟩
    · exact Or.inr ⟨h1, Or.inr ⟨h2, (lex h2).2 h3⟩⟩
theorem LTF_ext {M M' : g_M} {n : Nat} (hp : PLt M n) (hE : EX n M M') (hO : ORD M M') : ∀ f x y, x < n → y < n → (LTF M' f x y ↔ LTF M f x y) := by
  intro f
  induction f with
  | zero => intros; exact Iff.rfl
  | succ f ih =>
    intro x y hx hy
    obtain ⟨e1, e2, e3⟩ := hE.node hx
    obtain ⟨f1, f2, f3⟩ := hE.node hy
    have hrx := ax_le M x
    have hry := ax_le M y
    have px : ∀ j, j < ax M x → pn M x j < n := fun j hj => by have := hp x hx j hj; omega
    have py : ∀ j, j < ax M y → pn M y j < n := fun j hj => by have := hp y hy j hj; omega
    have hk := KL_ext hp hE hO (R := LTF M f) (R' := LTF M' f) hx hy (fun i j hi hj => ih _ _ (px i hi) (py j hj))
    show ((∃ j, j < ax M' y ∧ (pn M' y j = x ∨ LTF M' f x (pn M' y j))) ∨ KL M' (LTF M' f) x y ∧ ∀ j, j < ax M' x → LTF M' f (pn M' x j) y) ↔ ((∃ j, j < ax M y ∧ (pn M y j = x ∨ LTF M f x (pn M y j))) ∨ KL M (LTF M f) x y ∧ ∀ j, j < ax M x → LTF M f (pn M x j) y)
    rw [hk, e2, f2]
    constructor
    · rintro (⟨j, hj, h⟩ | ⟨h1, h2⟩)
      · rw [f3 j (by omega)] at h
        refine Or.inl ⟨j, hj, ?_⟩
        rcases h with h | h
        · exact Or.inl h
        · exact Or.inr ((ih _ _ hx (py j hj)).1 h)
      · refine Or.inr ⟨h1, fun j hj => ?_⟩
        have := h2 j hj
        rw [e3 j (by omega)] at this
        exact (ih _ _ (px j hj) hy).1 this
    · rintro (⟨j, hj, h⟩ | ⟨h1, h2⟩)
      · refine Or.inl ⟨j, hj, ?_⟩
        rw [f3 j (by omega)]
        rcases h with h | h
        · exact Or.inl h
        · exact Or.inr ((ih _ _ hx (py j hj)).2 h)
      · refine Or.inr ⟨h1, fun j hj => ?_⟩
        rw [e3 j (by omega)]
        exact (ih _ _ (px j hj) hy).2 (h2 j hj)
theorem LT_ext {M M' : g_M} {n : Nat} (hp : PLt M n) (hE : EX n M M') (hO : ORD M M') {x y : Nat} (hx : x < n) (hy : y < n) : LT M' x y ↔ LT M x y := LTF_ext hp hE hO _ x y hx hy
/-- a node and its own parts -/
theorem ST.NO {M : g_M} {n x : Nat} (hST : ST M n) (hx : x < n) : NO M x (sg M x) (ivx (ax M x) (pn M x) 0) (ivx (ax M x) (pn M x) 1) (-1) := by
  obtain ⟨o1, o2, o3⟩ := hST.2.2.1 x hx
  have h0 := hST.2.1 x hx
  have hr := ax_le M x
  refine ⟨by unfold sg; omega, ?_, ?_, ?_⟩
  · unfold ivx
    by_cases h : 0 < ax M x
    · rw [if_pos h]
      have := o1.1 h
      show M 1 (3 * x) = (((M 1 (3 * x)).toNat : Nat) : Int)
      omega
    · rw [if_neg h]
      exact o1.2 h
  · unfold ivx
    by_cases h : 1 < ax M x
    · rw [if_pos h]
      have := o2.1 h
      show M 1 (3 * x + 1) = (((M 1 (3 * x + 1)).toNat : Nat) : Int)
      omega
    · rw [if_neg h]
      exact o2.2 h
  · exact o3.2 (fun h => by have : ax M x = arN (sg M x) := rfl; omega)
theorem NO.parts {M : g_M} {y s : Nat} {w : Nat → Nat} (h : NO M y s (ivx (arN s) w 0) (ivx (arN s) w 1) (-1)) : sg M y = s ∧ ax M y = arN s ∧ ∀ j, j < arN s → pn M y j = w j := by
  obtain ⟨h0, h1, h2, -⟩ := h
  have hr := arN_le s
  have es : sg M y = s := by unfold sg; rw [h0]; rfl
  refine ⟨es, by unfold ax; rw [es], fun j hj => ?_⟩
  unfold pn
  rcases Nat.lt_or_ge j 1 with h | h
  · have : j = 0 := by omega
    subst this
    show (M 1 (3 * y)).toNat = _
    rw [h1]
    unfold ivx
    rw [if_pos hj]
    rfl
  · have : j = 1 := by omega
    subst this
    rw [h2]
    unfold ivx
    rw [if_pos hj]
    rfl
end V3
