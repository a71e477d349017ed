section Y8
variable {Ls : Nat} {xs : Nat → Int32}
/-- k terms are built -/
def BD (Mi M N : g_M) (k n m : Nat) (uf : Nat → Nat) : Prop :=
  (WF M n m ∧ n ≤ k ∧ m ≤ k ∧ SM [0, 1, 2, 3, 4, 5, 33, 40, 41, 42] Mi M) ∧
  (∀ i, i < k → ∃ j : Nat, j < m ∧ N 0 i = (j : Int) ∧ M 33 j = ((uf i : Nat) : Int) ∧ uf i < n) ∧ (∀ x, x < n → ∃ i, i < k ∧ uf i = x) ∧ (∀ i, i < k → i < 3 → sg M (uf i) = i) ∧
  (∀ i, 3 ≤ i → i < k → ∃ a : Nat, a < i ∧ N 1 i = (a : Int) ∧ pn M (uf i) 0 = uf a ∧ (N 2 i = -1 ∧ sg M (uf i) = 3 ∨ ∃ b : Nat, b < i ∧ N 2 i = (b : Int) ∧ sg M (uf i) = 4 ∧ pn M (uf i) 1 = uf b)) ∧
  (∀ i, i < k → i < 3 → SMN M (uf i) 1) ∧ ∀ x, x < n → SMN M x 13
theorem BD.step {Mi M M' N N' : g_M} {k n m n' m' j x : Nat} {uf : Nat → Nat} {va vb : Int} (h : BD Mi M N k n m uf) (hk : k < 14) (hW : WF M' n' m') (h1 : n ≤ n') (h2 : n' ≤ n + 1) (h3 : m ≤ m') (h4 : m' ≤ m + 1) (hj : j < m') (hx : x < n') (hnew : n < n' → x = n) (h33 : M' 33 j = (x : Int)) (h33' : ∀ i, i < m → M' 33 i = M 33 i) (hE : EX n M M') (hS : SM [0, 1, 2, 3, 4, 5, 33, 40, 41, 42] M M') (hz : SMN M' x 13)
    (hN : ∀ i, (N' 0 i = if i = k then (j : Int) else N 0 i) ∧ (N' 1 i = if i = k then va else N 1 i) ∧ N' 2 i = if i = k then vb else N 2 i)
    (hd : (k < 3 → sg M' x = k ∧ SMN M' x 1) ∧ (3 ≤ k → ∃ a : Nat, a < k ∧ va = (a : Int) ∧ pn M' x 0 = uf a ∧ (vb = -1 ∧ sg M' x = 3 ∨ ∃ b : Nat, b < k ∧ vb = (b : Int) ∧ sg M' x = 4 ∧ pn M' x 1 = uf b))) : BD Mi M' N' (k + 1) n' m' (fun i => if i = k then x else uf i) := by
  obtain ⟨⟨b1, b2, b3, b4⟩, c1, c2, c3, c4, c5, c6⟩ := h
  have u0 : ∀ i, i ≠ k → (if i = k then x else uf i) = uf i := fun i hi => if_neg hi
  have u1 : (if k = k then x else uf k) = x := if_pos rfl
  have smn : ∀ y b, y < n → SMN M y b → SMN M' y b := fun y b hy h => by
    unfold SMN at h ⊢
    rw [(hE y hy).2.2.2.2]
    exact h
  refine ⟨⟨hW, by omega, by omega, b4.tr hS⟩, fun i hi => ?_, fun y hy => ?_, fun i hi hi3 => ?_, fun i hi3 hi => ?_, fun i hi hi3 => ?_, fun y hy => ?_⟩
  · show ∃ j' : Nat, j' < m' ∧ N' 0 i = (j' : Int) ∧ M' 33 j' = (((if i = k then x else uf i) : Nat) : Int) ∧ (if i = k then x else uf i) < n'
    by_cases e : i = k
    · rw [e, u1]
      exact ⟨j, hj, by rw [(hN k).1, if_pos rfl], h33, hx⟩
    · rw [u0 i e]
      obtain ⟨p, p1, p2, p3, p4⟩ := c1 i (by omega)
      exact ⟨p, by omega, by rw [(hN i).1, if_neg e, p2], by rw [h33' p p1, p3], by omega⟩
  · by_cases hyn : y < n
    · obtain ⟨i, i1, i2⟩ := c2 y hyn
      exact ⟨i, by omega, by show (if i = k then x else uf i) = y; rw [u0 i (by omega), i2]⟩
    · exact ⟨k, by omega, by show (if k = k then x else uf k) = y; rw [u1, hnew (by omega)]; omega⟩
  · show sg M' (if i = k then x else uf i) = i
    by_cases e : i = k
    · rw [e, u1]
      exact (hd.1 (by omega)).1
    · rw [u0 i e]
      obtain ⟨p, p1, p2, p3, p4⟩ := c1 i (by omega)
      rw [(hE.node p4).1]
      exact c3 i (by omega) hi3
  · show ∃ a : Nat, a < i ∧ N' 1 i = (a : Int) ∧ pn M' (if i = k then x else uf i) 0 = (if a = k then x else uf a) ∧ (N' 2 i = -1 ∧ sg M' (if i = k then x else uf i) = 3 ∨ ∃ b : Nat, b < i ∧ N' 2 i = (b : Int) ∧ sg M' (if i = k then x else uf i) = 4 ∧ pn M' (if i = k then x else uf i) 1 = (if b = k then x else uf b))
    by_cases e : i = k
    · subst e
      obtain ⟨a, a1, a2, a3, a4⟩ := hd.2 hi3
      rw [u1, (hN i).2.1, (hN i).2.2, if_pos rfl, if_pos rfl]
      refine ⟨a, a1, a2, by rw [u0 a (by omega), a3], ?_⟩
      rcases a4 with a4 | ⟨b, d1, d2, d3, d4⟩
      · exact Or.inl a4
      · exact Or.inr ⟨b, d1, d2, d3, by rw [u0 b (by omega), d4]⟩
    · obtain ⟨a, a1, a2, a3, a4⟩ := c4 i hi3 (by omega)
      obtain ⟨p, p1, p2, p3, p4⟩ := c1 i (by omega)
      obtain ⟨e1, e2, e3⟩ := hE.node p4
      rw [u0 i e, (hN i).2.1, (hN i).2.2, if_neg e, if_neg e, e1, e3 0 (by omega), e3 1 (by omega)]
      refine ⟨a, a1, a2, by rw [u0 a (by omega), a3], ?_⟩
      rcases a4 with a4 | ⟨b, d1, d2, d3, d4⟩
      · exact Or.inl a4
      · exact Or.inr ⟨b, d1, d2, d3, by rw [u0 b (by omega), d4]⟩
  · show SMN M' (if i = k then x else uf i) 1
    by_cases e : i = k
    · rw [e, u1]
      exact (hd.1 (by omega)).2
    · rw [u0 i e]
      obtain ⟨p, p1, p2, p3, p4⟩ := c1 i (by omega)
      exact smn _ _ p4 (c5 i (by omega) hi3)
  · by_cases hyn : y < n
    · exact smn _ _ hyn (c6 y hyn)
    · have : y = x := by
        have := hnew (by omega)
        omega
      rw [this]
      exact hz
/-- the size of a term that was built -/
theorem BD.size {Mi M N : g_M} {k n m i : Nat} {uf : Nat → Nat} {Q : Int → g_M → Prop} (h : BD Mi M N k n m uf) (hk : k ≤ 14) (hi : i < k) (kk : ∀ w : Nat, (w : Int) = M 2 (uf i) / 512 → w ≤ 13 → Q w M) : F_X11_size Q (N 0 i) M := by
  obtain ⟨⟨b1, b2, b3, b4⟩, c1, c2, c3, c4, c5, c6⟩ := h
  obtain ⟨j, j1, j2, j3, j4⟩ := c1 i hi
  rw [j2]
  refine r_size b1 (by omega) j j1 (fun x hx e => ?_)
  have : x = uf i := by omega
  subst this
  have hs := c6 _ hx
  unfold SMN at hs
  have := kk (M 2 (uf i) / 512).toNat (by omega) (by omega)
  rw [show (((M 2 (uf i) / 512).toNat : Nat) : Int) = M 2 (uf i) / 512 by omega] at this
  exact this
theorem r_build171 {Mi M N N1 : g_M} {Q : g_M → g_M → Prop} {k3 : Int → Int → g_M → g_M → Prop} {k n m a b s : Nat} {uf : Nat → Nat} {vb : Int} (h : BD Mi M N k n m uf) (hk3 : 3 ≤ k) (hk : k < 14) (ha : a < k) (hb : b < k) (sa : SMN M (uf a) 6) (sb : SMN M (uf b) 6)
    (hs : s = 3 ∧ vb = -1 ∨ s = 4 ∧ vb = (b : Int)) (hN : ∀ i, N1 0 i = N 0 i ∧ (N1 1 i = if i = k then (a : Int) else N 1 i) ∧ N1 2 i = if i = k then vb else N 2 i)
    (kk : ∀ (n' m' : Nat) (M' N' : g_M) (uf' : Nat → Nat), BD Mi M' N' (k + 1) n' m' uf' → k3 1 ((k + 1 : Nat) : Int) M' N') : F_L_build_171 Ls xs Q k3 1 k a b k s M N1 := by
  have h' := h
  obtain ⟨⟨b1, b2, b3, b4⟩, c1, c2, c3, c4, c5, c6⟩ := h'
  obtain ⟨ja, ja1, ja2, ja3, ja4⟩ := c1 a ha
  obtain ⟨jb, jb1, jb2, jb3, jb4⟩ := c1 b hb
  unfold F_L_build_171
  rw [bq (x := (a : Int)) (by omega) (by omega), bq (x := (b : Int)) (by omega) (by omega), Int.toNat_natCast, Int.toNat_natCast, (hN a).1, (hN b).1, ja2, jb2]
  refine ⟨ink a rfl (by omega) (by omega), ink b rfl (by omega) (by omega), ?_⟩
  have hs5 : s < 5 := by rcases hs with ⟨h, -⟩ | ⟨h, -⟩ <;> omega
  have ar3 : arN 3 = 1 := rfl
  have ar4 : arN 4 = 2 := rfl
  have hB : ∃ vB : Int, (s = 3 → vB = -1) ∧ (s = 4 → vB = ((uf b : Nat) : Int)) := by
    rcases hs with ⟨h, -⟩ | ⟨h, -⟩
    · exact ⟨-1, fun _ => rfl, fun h' => by omega⟩
    · exact ⟨((uf b : Nat) : Int), fun h' => by omega, fun _ => rfl⟩
  obtain ⟨vB, hB3, hB4⟩ := hB
  have szB : vB = -1 ∨ ∃ p : Nat, p < n ∧ vB = (p : Int) ∧ SMN M p 6 := by
    rcases hs with ⟨h, -⟩ | ⟨h, -⟩
    · exact Or.inl (hB3 h)
    · exact Or.inr ⟨uf b, jb4, hB4 h, sb⟩
  have szA : ((uf a : Nat) : Int) = -1 ∨ ∃ p : Nat, p < n ∧ ((uf a : Nat) : Int) = (p : Int) ∧ SMN M p 6 := Or.inr ⟨uf a, ja4, rfl, sa⟩
  refine r_term2 b1 (by omega) (by omega) s hs5 ja jb ((uf a : Nat) : Int) vB (fun _ => ⟨ja, ja1, rfl, ja3.symm⟩) (fun h0 => ?_) (fun h1 => ?_) (fun h1 => ?_) (fun M' n' x e1 e2 e3 e4 => ?_) (fun j n' m' x M' g1 g2 g3 g4 g5 g6 g7 gn g8 g9 g10 g11 g12 g13 => ?_)
  · exfalso
    rcases hs with ⟨h, -⟩ | ⟨h, -⟩ <;> rw [h] at h0 <;> omega
  · rcases hs with ⟨h, -⟩ | ⟨h, -⟩
    · rw [h] at h1
      omega
    · exact ⟨jb, jb1, rfl, by rw [hB4 h, jb3]⟩
  · rcases hs with ⟨h, -⟩ | ⟨h, -⟩
    · exact hB3 h
    · rw [h] at h1
      omega
  · have := new_size (by omega) e1 e2 e3 e4 szA szB
    unfold SMN at this
    omega
  · have hz := new_size (by omega) g1.st g11 g7 g9 szA szB
    have hsg : sg M' x = s := by
      unfold sg
      rw [g9.1]
      rfl
    have hp0 : pn M' x 0 = uf a := by
      unfold pn
      rw [show 3 * x + 0 = 3 * x from rfl, g9.2.1]
      rfl
    have hp1 : s = 4 → pn M' x 1 = uf b := fun h => by
      unfold pn
      rw [g9.2.2.1, hB4 h]
      rfl
    unfold F_L_build_183
    refine ⟨ink k rfl hk (by omega), ?_⟩
    rw [bq (x := (k : Int)) (by omega) (by omega), Int.toNat_natCast, show (k : Int) + 1 = ((k + 1 : Nat) : Int) by omega]
    refine kk n' m' M' _ _ (h.step hk g1 g2 g3 g4 g5 g6 g7 gn g8 g10 g11 g12 hz (va := (a : Int)) (vb := vb) (fun i => ⟨?_, ?_, ?_⟩) ⟨fun h => absurd h (by omega), fun _ => ⟨a, ha, rfl, hp0, ?_⟩⟩)
    · rw [upi, (hN i).1]
      simp
    · rw [upi, (hN i).2.1]
      simp
    · rw [upi, (hN i).2.2]
      simp
    · rcases hs with ⟨h, h9⟩ | ⟨h, h9⟩
      · exact Or.inl ⟨h9, by rw [hsg, h]⟩
      · exact Or.inr ⟨b, hb, h9, by rw [hsg, h], hp1 h⟩
end Y8
