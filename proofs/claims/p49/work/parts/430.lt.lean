section S0
def sP (h : Nat → Nat) (M : g_M) (x : Nat) : Nat → Nat
  | 0 => 0
  | j + 1 => sP h M x j + h (pn M x j)
def wtF (M : g_M) : Nat → Nat → Nat
  | 0 => fun _ => 0
  | f + 1 => fun x => if M 41 9 = 1 then min ((M 51 (sg M x)).toNat + sP (wtF M f) M x (ax M x)) 1048575 else 0
def Wt (M : g_M) (x : Nat) : Nat := wtF M (x + 1) x
theorem sP_eq {h h' : Nat → Nat} {M : g_M} {x : Nat} : ∀ r, (∀ j, j < r → h (pn M x j) = h' (pn M x j)) → sP h M x r = sP h' M x r
  | 0, _ => rfl
  | r + 1, e => by
    show sP h M x r + h (pn M x r) = sP h' M x r + h' (pn M x r)
    rw [sP_eq r (fun j hj => e j (by omega)), e r (by omega)]
theorem wtF_eq {M : g_M} {n : Nat} (hp : PLt M n) : ∀ f f' x, x < n → x < f → x < f' → wtF M f x = wtF M f' x := by
  intro f
  induction f with
  | zero => intros; omega
  | succ f ih =>
    intro f' x hx h1 h2
    obtain ⟨g, rfl⟩ : ∃ g, f' = g + 1 := ⟨f' - 1, by omega⟩
    show (if M 41 9 = 1 then min ((M 51 (sg M x)).toNat + sP (wtF M f) M x (ax M x)) 1048575 else 0) = (if M 41 9 = 1 then min ((M 51 (sg M x)).toNat + sP (wtF M g) M x (ax M x)) 1048575 else 0)
    rw [sP_eq (h := wtF M f) (h' := wtF M g) (ax M x) (fun j hj => by
      have := hp x hx j hj
      exact ih g _ (by omega) (by omega) (by omega))]
theorem Wt_eq {M : g_M} {n : Nat} (hp : PLt M n) {x : Nat} (hx : x < n) : Wt M x = if M 41 9 = 1 then min ((M 51 (sg M x)).toNat + sP (Wt M) M x (ax M x)) 1048575 else 0 := by
  show (if M 41 9 = 1 then min ((M 51 (sg M x)).toNat + sP (wtF M x) M x (ax M x)) 1048575 else 0) = _
  rw [sP_eq (h := wtF M x) (h' := Wt M) (ax M x) (fun j hj => by
    have := hp x hx j hj
    exact wtF_eq hp _ _ _ (by omega) (by omega) (by omega))]
theorem sP_le {h : Nat → Nat} {M : g_M} {x : Nat} : ∀ r j, j < r → h (pn M x j) ≤ sP h M x r
  | 0, j, hj => absurd hj (by omega)
  | r + 1, j, hj => by
    show h (pn M x j) ≤ sP h M x r + h (pn M x r)
    by_cases e : j = r
    · rw [e]
      omega
    · have := sP_le (h := h) (M := M) (x := x) r j (by omega)
      omega
theorem sP_mono {h : Nat → Nat} {M : g_M} {x y : Nat} : ∀ r, (∀ j, j < r → h (pn M x j) ≤ h (pn M y j)) → sP h M x r ≤ sP h M y r
  | 0, _ => Nat.le_refl _
  | r + 1, e => by
    have h1 := sP_mono r (fun j hj => e j (by omega))
    have h2 := e r (by omega)
    show sP h M x r + h (pn M x r) ≤ sP h M y r + h (pn M y r)
    omega
theorem Wt_cap {M : g_M} (x : Nat) : Wt M x ≤ 1048575 := by
  show (if M 41 9 = 1 then min _ 1048575 else 0) ≤ 1048575
  split <;> omega
theorem Wt_part {M : g_M} {n : Nat} (hp : PLt M n) {x j : Nat} (hx : x < n) (hj : j < ax M x) : Wt M (pn M x j) ≤ Wt M x := by
  have h1 := hp x hx j hj
  rw [Wt_eq hp hx]
  have h2 := sP_le (h := Wt M) (M := M) (x := x) (ax M x) j hj
  have h3 := Wt_cap (M := M) (pn M x j)
  by_cases hm : M 41 9 = 1
  · rw [if_pos hm]
    omega
  · rw [if_neg hm, Wt_eq hp (show pn M x j < n by omega), if_neg hm]
    exact Nat.le_refl _
/-- the places in the order in which they are compared -/
def i1 (M : g_M) (x : Nat) : Nat := if ax M x = 2 ∧ M 54 (sg M x) ≠ 0 then 1 else 0
def i2 (M : g_M) (x : Nat) : Nat := if M 54 (sg M x) = 0 then 1 else 0
def rk (M : g_M) (x : Nat) : Nat := (M 52 (sg M x)).toNat
def LEX (M : g_M) (R : Nat → Nat → Prop) (x y : Nat) : Prop := 0 < ax M x ∧ (R (pn M x (i1 M x)) (pn M y (i1 M x)) ∨ pn M x (i1 M x) = pn M y (i1 M x) ∧ 1 < ax M x ∧ R (pn M x (i2 M x)) (pn M y (i2 M x)))
def KL (M : g_M) (R : Nat → Nat → Prop) (x y : Nat) : Prop := Wt M x < Wt M y ∨ Wt M x = Wt M y ∧ (rk M x < rk M y ∨ sg M x = sg M y ∧ LEX M R x y)
def LTF (M : g_M) : Nat → Nat → Nat → Prop
  | 0 => fun _ _ => False
  | f + 1 => fun x y => (∃ j, j < ax M y ∧ (pn M y j = x ∨ LTF M f x (pn M y j))) ∨ KL M (LTF M f) x y ∧ ∀ j, j < ax M x → LTF M f (pn M x j) y
def LT (M : g_M) (x y : Nat) : Prop := LTF M (x + y + 1) x y
theorem i1_lt {M : g_M} {x : Nat} (h : 0 < ax M x) : i1 M x < ax M x := by
  unfold i1
  split
  · omega
  · omega
theorem i2_lt {M : g_M} {x : Nat} (h : 1 < ax M x) : i2 M x < ax M x := by
  unfold i2
  split <;> omega
theorem KL_eq {M : g_M} {R R' : Nat → Nat → Prop} {x y : Nat} (h : ∀ i j, i < ax M x → j < ax M y → (R (pn M x i) (pn M y j) ↔ R' (pn M x i) (pn M y j))) : KL M R x y ↔ KL M R' x y := by
  unfold KL
  by_cases hs : sg M x = sg M y
  · have ha : ax M x = ax M y := by unfold ax; rw [hs]
    have hl : LEX M R x y ↔ LEX M R' x y := by
      unfold LEX
      constructor
      · rintro ⟨h0, h1 | ⟨h1, h2, h3⟩⟩
        · exact ⟨h0, Or.inl ((h _ _ (i1_lt h0) (by rw [← ha]; exact i1_lt h0)).1 h1)⟩
        · exact ⟨h0, Or.inr ⟨h1, h2, (h _ _ (i2_lt h2) (by rw [← ha]; exact i2_lt h2)).1 h3⟩⟩
      · rintro ⟨h0, h1 | ⟨h1, h2, h3⟩⟩
        · exact ⟨h0, Or.inl ((h _ _ (i1_lt h0) (by rw [← ha]; exact i1_lt h0)).2 h1)⟩
        · exact ⟨h0, Or.inr ⟨h1, h2, (h _ _ (i2_lt h2) (by rw [← ha]; exact i2_lt h2)).2 h3⟩⟩
    rw [hl]
  · have e1 : (sg M x = sg M y ∧ LEX M R x y) ↔ (sg M x = sg M y ∧ LEX M R' x y) := ⟨fun h => absurd h.1 hs, fun h => absurd h.1 hs⟩
    rw [e1]
theorem LTF_eq {M : g_M} {n : Nat} (hp : PLt M n) : ∀ f f' x y, x < n → y < n → x + y < f → x + y < f' → (LTF M f x y ↔ LTF M f' x y) := by
  intro f
  induction f with
  | zero => intros; omega
  | succ f ih =>
    intro f' x y hx hy h1 h2
    obtain ⟨g, rfl⟩ : ∃ g, f' = g + 1 := ⟨f' - 1, by omega⟩
    have py := hp y hy
    have px := hp x hx
    show ((∃ j, j < ax M y ∧ (pn M y j = x ∨ LTF M f x (pn M y j))) ∨ KL M (LTF M f) x y ∧ ∀ j, j < ax M x → LTF M f (pn M x j) y) ↔ ((∃ j, j < ax M y ∧ (pn M y j = x ∨ LTF M g x (pn M y j))) ∨ KL M (LTF M g) x y ∧ ∀ j, j < ax M x → LTF M g (pn M x j) y)
    have eK : KL M (LTF M f) x y ↔ KL M (LTF M g) x y := KL_eq (fun i j hi hj => by
      have := px i hi
      have := py j hj
      exact ih g _ _ (by omega) (by omega) (by omega) (by omega))
    have e1 : ∀ j, j < ax M y → (LTF M f x (pn M y j) ↔ LTF M g x (pn M y j)) := fun j hj => by
      have := py j hj
      exact ih g _ _ (by omega) (by omega) (by omega) (by omega)
    have e2 : ∀ j, j < ax M x → (LTF M f (pn M x j) y ↔ LTF M g (pn M x j) y) := fun j hj => by
      have := px j hj
      exact ih g _ _ (by omega) (by omega) (by omega) (by omega)
    rw [eK]
    constructor
    · rintro (⟨j, hj, h⟩ | ⟨h, h'⟩)
      · exact Or.inl ⟨j, hj, h.imp id (e1 j hj).1⟩
      · exact Or.inr ⟨h, fun j hj => (e2 j hj).1 (h' j hj)⟩
    · rintro (⟨j, hj, h⟩ | ⟨h, h'⟩)
      · exact Or.inl ⟨j, hj, h.imp id (e1 j hj).2⟩
      · exact Or.inr ⟨h, fun j hj => (e2 j hj).2 (h' j hj)⟩
/-- the order, unfolded -/
theorem LT_eq {M : g_M} {n : Nat} (hp : PLt M n) {x y : Nat} (hx : x < n) (hy : y < n) : LT M x y ↔ (∃ j, j < ax M y ∧ (pn M y j = x ∨ LT M x (pn M y j))) ∨ KL M (LT M) x y ∧ ∀ j, j < ax M x → LT M (pn M x j) y := by
  have py := hp y hy
  have px := hp x hx
  show ((∃ j, j < ax M y ∧ (pn M y j = x ∨ LTF M (x + y) x (pn M y j))) ∨ KL M (LTF M (x + y)) x y ∧ ∀ j, j < ax M x → LTF M (x + y) (pn M x j) y) ↔ _
  have eK : KL M (LTF M (x + y)) x y ↔ KL M (LT M) x y := KL_eq (fun i j hi hj => by
    have := px i hi
    have := py j hj
    exact LTF_eq hp _ _ _ _ (by omega) (by omega) (by omega) (by omega))
  have e1 : ∀ j, j < ax M y → (LTF M (x + y) x (pn M y j) ↔ LT M x (pn M y j)) := fun j hj => by
    have := py j hj
    exact LTF_eq hp _ _ _ _ (by omega) (by omega) (by omega) (by omega)
  have e2 : ∀ j, j < ax M x → (LTF M (x + y) (pn M x j) y ↔ LT M (pn M x j) y) := fun j hj => by
    have := px j hj
    exact LTF_eq hp _ _ _ _ (by omega) (by omega) (by omega) (by omega)
  rw [eK]
  constructor
  · rintro (⟨j, hj, h⟩ | ⟨h, h'⟩)
    · exact Or.inl ⟨j, hj, h.imp id (e1 j hj).1⟩
    · exact Or.inr ⟨h, fun j hj => (e2 j hj).1 (h' j hj)⟩
  · rintro (⟨j, hj, h⟩ | ⟨h, h'⟩)
    · exact Or.inl ⟨j, hj, h.imp id (e1 j hj).2⟩
    · exact Or.inr ⟨h, fun j hj => (e2 j hj).2 (h' j hj)⟩
theorem LT_wt {M : g_M} {n : Nat} (hp : PLt M n) : ∀ N x y, x + y ≤ N → x < n → y < n → LT M x y → Wt M x ≤ Wt M y := by
  intro N
  induction N with
  | zero =>
    intro x y h hx hy hl
    have : x = y := by omega
    rw [this]
    exact Nat.le_refl _
  | succ N ih =>
    intro x y h hx hy hl
    rcases (LT_eq hp hx hy).1 hl with ⟨j, hj, h1⟩ | ⟨h1, -⟩
    · have h2 := hp y hy j hj
      have h3 := Wt_part hp hy hj
      rcases h1 with h1 | h1
      · rw [← h1]
        exact h3
      · exact Nat.le_trans (ih x _ (by omega) hx (by omega) h1) h3
    · rcases h1 with h1 | ⟨h1, -⟩ <;> omega
theorem LT_trans {M : g_M} {n : Nat} (hp : PLt M n) : ∀ N x y z, x + y + z ≤ N → x < n → y < n → z < n → LT M x y → LT M y z → LT M x z := by
  intro N
  induction N with
  | zero =>
    intro x y z h hx hy hz h1 h2
    have e1 : x = y := by omega
    rw [e1]
    exact h2
  | succ N ih =>
    intro x y z h hx hy hz h1 h2
    have px := hp x hx
    have py := hp y hy
    have pz := hp z hz
    rcases (LT_eq hp hy hz).1 h2 with ⟨j, hj, e⟩ | ⟨k2, d2⟩
    · have hjz := pz j hj
      refine (LT_eq hp hx hz).2 (Or.inl ⟨j, hj, Or.inr ?_⟩)
      rcases e with e | e
      · rw [e]
        exact h1
      · exact ih x y _ (by omega) hx hy (by omega) h1 e
    · rcases (LT_eq hp hx hy).1 h1 with ⟨j, hj, e⟩ | ⟨k1, d1⟩
      · have hjy := py j hj
        rcases e with e | e
        · rw [← e]
          exact d2 j hj
        · exact ih x _ z (by omega) hx (by omega) hz e (d2 j hj)
      · refine (LT_eq hp hx hz).2 (Or.inr ⟨?_, fun j hj => ?_⟩)
        · unfold KL at k1 k2 ⊢
          rcases k1 with k1 | ⟨w1, k1⟩
          · rcases k2 with k2 | ⟨w2, k2⟩
            · exact Or.inl (by omega)
            · exact Or.inl (by omega)
          · rcases k2 with k2 | ⟨w2, k2⟩
            · exact Or.inl (by omega)
            · refine Or.inr ⟨by omega, ?_⟩
              rcases k1 with k1 | ⟨s1, l1⟩
              · rcases k2 with k2 | ⟨s2, l2⟩
                · exact Or.inl (by omega)
                · refine Or.inl ?_
                  have : rk M y = rk M z := by unfold rk; rw [s2]
                  omega
              · rcases k2 with k2 | ⟨s2, l2⟩
                · refine Or.inl ?_
                  have : rk M x = rk M y := by unfold rk; rw [s1]
                  omega
                · refine Or.inr ⟨s1.trans s2, ?_⟩
                  have a1 : ax M x = ax M y := by unfold ax; rw [s1]
                  have a2 : ax M y = ax M z := by unfold ax; rw [s2]
                  have f1 : i1 M y = i1 M x := by unfold i1; rw [← a1, ← s1]
                  have f2 : i2 M y = i2 M x := by unfold i2; rw [← s1]
                  unfold LEX at l1 l2 ⊢
                  rw [f1, f2] at l2
                  obtain ⟨h0, l1⟩ := l1
                  obtain ⟨-, l2⟩ := l2
                  refine ⟨h0, ?_⟩
                  have b1 := i1_lt h0
                  have x1 := px _ b1
                  have y1 := py (i1 M x) (by omega)
                  have z1 := pz (i1 M x) (by omega)
                  rcases l1 with l1 | ⟨q1, r1, l1⟩
                  · rcases l2 with l2 | ⟨q2, r2, l2⟩
                    · exact Or.inl (ih _ _ _ (by omega) (by omega) (by omega) (by omega) l1 l2)
                    · rw [← q2]
                      exact Or.inl l1
                  · rcases l2 with l2 | ⟨q2, r2, l2⟩
                    · rw [q1]
                      exact Or.inl l2
                    · have b2 := i2_lt r1
                      have x2 := px _ b2
                      have y2 := py (i2 M x) (by omega)
                      have z2 := pz (i2 M x) (by omega)
                      exact Or.inr ⟨q1.trans q2, r1, ih _ _ _ (by omega) (by omega) (by omega) (by omega) l1 l2⟩
        · have hjx := px j hj
          exact ih _ y z (by omega) (by omega) hy hz (d1 j hj) h2
/-- what has lesser parts is less -/
theorem LT_mono {M : g_M} {n : Nat} (hp : PLt M n) {x y : Nat} (hx : x < n) (hy : y < n) (hs : sg M x = sg M y) (hj : ∀ j, j < ax M x → pn M x j = pn M y j ∨ LT M (pn M x j) (pn M y j)) (hne : ∃ j, j < ax M x ∧ pn M x j ≠ pn M y j) (hr : ax M x ≤ 2) (hd : isB (M 54 (sg M x))) : LT M x y := by
  have px := hp x hx
  have py := hp y hy
  have ha : ax M x = ax M y := by unfold ax; rw [hs]
  refine (LT_eq hp hx hy).2 (Or.inr ⟨?_, fun j hjx => (LT_eq hp (by have := px j hjx; omega) hy).2 (Or.inl ⟨j, by omega, ?_⟩)⟩)
  · have hw : Wt M x ≤ Wt M y := by
      rw [Wt_eq hp hx, Wt_eq hp hy, hs, ha]
      have := sP_mono (h := Wt M) (M := M) (x := x) (y := y) (ax M y) (fun j hjy => by
        have h1 := px j (by omega)
        have h2 := py j hjy
        rcases hj j (by omega) with h | h
        · rw [h]
          exact Nat.le_refl _
        · exact LT_wt hp _ _ _ (Nat.le_refl _) (by omega) (by omega) h)
      split <;> omega
    unfold KL
    rcases Nat.lt_or_ge (Wt M x) (Wt M y) with h | h
    · exact Or.inl h
    · refine Or.inr ⟨by omega, Or.inr ⟨hs, ?_⟩⟩
      obtain ⟨j0, j1, j2⟩ := hne
      have h0 : 0 < ax M x := by omega
      refine ⟨h0, ?_⟩
      rcases hj _ (i1_lt h0) with h1 | h1
      · refine Or.inr ⟨h1, ?_⟩
        have hne1 : j0 ≠ i1 M x := fun e => j2 (by rw [e]; exact h1)
        have h2 : 1 < ax M x := by
          have := i1_lt h0
          omega
        have e2 : j0 = i2 M x := by
          unfold i1 at hne1
          unfold i2
          rcases hd with h | h
          · rw [h] at hne1 ⊢
            simp at hne1 ⊢
            omega
          · rw [h] at hne1 ⊢
            simp at hne1 ⊢
            rw [if_pos (by omega)] at hne1
            omega
        refine ⟨h2, ?_⟩
        rcases hj _ (i2_lt h2) with h3 | h3
        · exact absurd (by rw [e2]; exact h3) j2
        · exact h3
      · exact Or.inl h1
  · rcases hj j hjx with h | h
    · exact Or.inl h.symm
    · exact Or.inr h
end S0
