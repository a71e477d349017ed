section S2
variable {M : g_M} {n c t : Nat} {U : Nat → Bool}
theorem TR.q (h : TR M n c t U) {a : Nat} (ha : a < c) : q1 M a = (if ax M (nd M a) = 0 then 0 else ps M (gp M a (i1 M (nd M a)))) ∧ q2 M a = if ax M (nd M a) = 2 then ps M (gp M a (i2 M (nd M a))) else 0 := by
  obtain ⟨e1, e2, e3, e4, e5⟩ := h.ent ha
  have hr := arN_le (sg M (nd M a))
  unfold q1 q2 i1 i2 ps ax
  rw [e4]
  by_cases h0 : arN (sg M (nd M a)) = 0
  · simp [h0]
  · by_cases h1 : arN (sg M (nd M a)) = 1
    · simp [h1]
    · have h2 : arN (sg M (nd M a)) = 2 := by omega
      by_cases hd : M 54 (sg M (nd M a)) = 0 <;> simp [h2, hd]
theorem TR.po (h : TR M n c t U) {a : Nat} (ha : a < c) : PO M a ∧ gs M a < 5 := by
  obtain ⟨-, -, -, -, hEN⟩ := h.pos ha
  refine ⟨(h.1.2.2.1.2.2.2.1 a hEN).2, ?_⟩
  have h11 := (h.1.1.2.2.1.2.2 a ha).2.1
  unfold gs
  omega
theorem TR.keys (h : TR M n c t U) (hp : PLt M n) {a b : Nat} (ha : a < c) (hb : b < c) : KY M a < KY M b ↔ Wt M (nd M a) < Wt M (nd M b) ∨ Wt M (nd M a) = Wt M (nd M b) ∧ (rk M (nd M a) < rk M (nd M b) ∨ sg M (nd M a) = sg M (nd M b) ∧ (q1 M a < q1 M b ∨ q1 M a = q1 M b ∧ q2 M a < q2 M b)) := by
  obtain ⟨pa, ga⟩ := h.po ha
  obtain ⟨pb, gb⟩ := h.po hb
  have hSY := h.1.1.2.1
  obtain ⟨-, -, -, ea, -⟩ := h.ent ha
  obtain ⟨-, -, -, eb, -⟩ := h.ent hb
  rw [KY_lt hSY pa pb ga gb, (h.weight hp a ha).1, (h.weight hp b hb).1]
  rw [ea] at ga
  rw [eb] at gb
  rw [ea, eb]
  have hi := hSY.2.2.2.2.1 _ _ ga gb
  have ra := hSY.2.2.2.1 _ ga
  have rb := hSY.2.2.2.1 _ gb
  have es : (M 52 (sg M (nd M a))).toNat = (M 52 (sg M (nd M b))).toNat ↔ sg M (nd M a) = sg M (nd M b) := ⟨fun e => hi (by omega), fun e => by rw [e]⟩
  rw [es]
  exact Iff.rfl
theorem TR.eqk (h : TR M n c t U) (hp : PLt M n) (hST : ST M n) {a b : Nat} (ha : a < c) (hb : b < c) (e : KY M a = KY M b) : a = b := by
  have n1 : ¬ KY M a < KY M b := by omega
  have n2 : ¬ KY M b < KY M a := by omega
  rw [h.keys hp ha hb] at n1
  rw [h.keys hp hb ha] at n2
  obtain ⟨a1, a2, a3, a4, a5⟩ := h.ent ha
  obtain ⟨b1, b2, b3, b4, b5⟩ := h.ent hb
  have hSY := h.1.1.2.1
  have ga := (h.po ha).2
  have gb := (h.po hb).2
  rw [a4] at ga
  rw [b4] at gb
  have hi := hSY.2.2.2.2.1 _ _ ga gb
  have ra := hSY.2.2.2.1 _ ga
  have rb := hSY.2.2.2.1 _ gb
  have hw : Wt M (nd M a) = Wt M (nd M b) := by omega
  have hrk : rk M (nd M a) = rk M (nd M b) := by omega
  have hs : sg M (nd M a) = sg M (nd M b) := by
    unfold rk at hrk
    exact hi (by omega)
  have hq : q1 M a = q1 M b ∧ q2 M a = q2 M b := by omega
  obtain ⟨qa1, qa2⟩ := h.q ha
  obtain ⟨qb1, qb2⟩ := h.q hb
  have hax : ax M (nd M a) = ax M (nd M b) := by unfold ax; rw [hs]
  have hi1 : i1 M (nd M a) = i1 M (nd M b) := by unfold i1; rw [hax, hs]
  have hi2 : i2 M (nd M a) = i2 M (nd M b) := by unfold i2; rw [hs]
  have hr := arN_le (sg M (nd M b))
  have hr' : ax M (nd M b) ≤ 2 := hr
  have part : ∀ j, j < ax M (nd M b) → ps M (gp M a j) = ps M (gp M b j) → pn M (nd M a) j = pn M (nd M b) j := fun j hj e => by
    obtain ⟨f1, f2, f3⟩ := a5 j (by omega)
    obtain ⟨g1, g2, g3⟩ := b5 j hj
    have := h.inj (by omega) (by omega) e
    rw [← f3, ← g3, this]
  have parts : ∀ j, j < ax M (nd M b) → pn M (nd M a) j = pn M (nd M b) j := fun j hj => by
    obtain ⟨h1, h2⟩ := hq
    rw [qa1, qb1, hax, hi1, if_neg (by omega), if_neg (by omega)] at h1
    have p1 := part _ (i1_lt (show 0 < ax M (nd M b) by omega)) h1
    by_cases hj1 : j = i1 M (nd M b)
    · rw [hj1]
      exact p1
    · have l1 := i1_lt (show 0 < ax M (nd M b) by omega)
      have h22 : ax M (nd M b) = 2 := by omega
      rw [qa2, qb2, hax, hi2, if_pos h22, if_pos h22] at h2
      have p2 := part _ (i2_lt (show 1 < ax M (nd M b) by omega)) h2
      have : j = i2 M (nd M b) := by
        have hd := hSY.2.2.2.2.2.2.1 _ gb
        unfold i1 at hj1
        unfold i2
        rcases hd with hd | hd
        · rw [hd] at hj1 ⊢
          simp at hj1 ⊢
          omega
        · rw [hd] at hj1 ⊢
          simp [h22] at hj1 ⊢
          omega
      rw [this]
      exact p2
  have hnode : nd M a = nd M b := by
    have sa := hST.2.1 _ a1
    have sb := hST.2.1 _ b1
    obtain ⟨oa1, oa2, oa3⟩ := hST.2.2.1 _ a1
    obtain ⟨ob1, ob2, ob3⟩ := hST.2.2.1 _ b1
    rw [hs] at oa1 oa2 oa3
    have key : ∀ i : Nat, ∀ va vb : Int, okp (nd M a) (arN (sg M (nd M b))) i va → okp (nd M b) (arN (sg M (nd M b))) i vb → (i < arN (sg M (nd M b)) → va.toNat = vb.toNat) → va = vb := fun i va vb h1 h2 h3 => by
      by_cases hi : i < arN (sg M (nd M b))
      · have := h1.1 hi
        have := h2.1 hi
        have := h3 hi
        omega
      · rw [h1.2 hi, h2.2 hi]
    have e0 : M 0 (nd M a) = M 0 (nd M b) := by
      unfold sg at hs
      omega
    exact hST.2.2.2.1 _ _ a1 b1 e0 (key 0 _ _ oa1 ob1 (fun hi => parts 0 hi)) (key 1 _ _ oa2 ob2 (fun hi => parts 1 hi)) (key 2 _ _ oa3 ob3 (fun hi => absurd hi (by omega)))
  have h6a := h.2.2.2.2 a ha
  have h6b := h.2.2.2.2 b hb
  rw [hnode] at h6a
  omega
/-- in a ranking of the walk's own terms the places are those of the order -/
theorem TR.order (h : TR M n c t U) (hp : PLt M n) (hST : ST M n) : ∀ N a b, nd M a + nd M b ≤ N → a < c → b < c → (ps M a < ps M b ↔ LT M (nd M a) (nd M b)) := by
  intro N
  induction N using Nat.strongRecOn with
  | _ N ih =>
    intro a b hN ha hb
    obtain ⟨a1, a2, a3, a4, a5⟩ := h.ent ha
    obtain ⟨b1, b2, b3, b4, b5⟩ := h.ent hb
    obtain ⟨u1, u2, u3, u4, u5⟩ := h.pos ha
    obtain ⟨v1, v2, v3, v4, v5⟩ := h.pos hb
    have hRI := h.1
    obtain ⟨-, -, -, ⟨d1, d2⟩, -, -, -, kmin⟩ := h.1
    have pa := hp _ a1
    have pb := hp _ b1
    have sqa : sq M (ps M a) = a := by unfold sq; omega
    have sqb : sq M (ps M b) = b := by unfold sq; omega
    -- a key's comparison is the order's, by the parts
    have keyLT : KY M a < KY M b ↔ KL M (LT M) (nd M a) (nd M b) := by
      rw [h.keys hp ha hb]
      unfold KL
      have inner : sg M (nd M a) = sg M (nd M b) → ((q1 M a < q1 M b ∨ q1 M a = q1 M b ∧ q2 M a < q2 M b) ↔ LEX M (LT M) (nd M a) (nd M b)) := fun hs => by
        obtain ⟨qa1, qa2⟩ := h.q ha
        obtain ⟨qb1, qb2⟩ := h.q hb
        have hax : ax M (nd M b) = ax M (nd M a) := by unfold ax; rw [hs]
        have hi1 : i1 M (nd M b) = i1 M (nd M a) := by unfold i1; rw [hax, hs]
        have hi2 : i2 M (nd M b) = i2 M (nd M a) := by unfold i2; rw [hs]
        have hr' : ax M (nd M a) ≤ 2 := arN_le _
        rw [qa1, qa2, qb1, qb2, hax, hi1, hi2]
        unfold LEX
        have lt : ∀ j, j < ax M (nd M a) → (ps M (gp M a j) < ps M (gp M b j) ↔ LT M (pn M (nd M a) j) (pn M (nd M b) j)) ∧ (ps M (gp M a j) = ps M (gp M b j) ↔ pn M (nd M a) j = pn M (nd M b) j) := fun j hj => by
          obtain ⟨f1, f2, f3⟩ := a5 j hj
          obtain ⟨g1, g2, g3⟩ := b5 j (by omega)
          have l1 := pa j hj
          have l2 := pb j (by omega)
          have := ih (nd M (gp M a j) + nd M (gp M b j)) (by rw [f3, g3]; omega) (gp M a j) (gp M b j) (Nat.le_refl _) (by omega) (by omega)
          rw [f3, g3] at this
          refine ⟨this, fun e => by rw [← f3, ← g3, h.inj (by omega) (by omega) e], fun e => ?_⟩
          have k1 := h.2.2.2.2 (gp M a j) (by omega)
          have k2 := h.2.2.2.2 (gp M b j) (by omega)
          rw [f3, e] at k1
          rw [g3] at k2
          rw [show gp M a j = gp M b j by omega]
        by_cases h0 : ax M (nd M a) = 0
        · simp [h0]
        · obtain ⟨x1, x2⟩ := lt _ (i1_lt (show 0 < ax M (nd M a) by omega))
          rw [if_neg h0, if_neg h0, x1, x2]
          by_cases h2 : ax M (nd M a) = 2
          · obtain ⟨y1, y2⟩ := lt _ (i2_lt (show 1 < ax M (nd M a) by omega))
            rw [if_pos h2, if_pos h2, y1]
            exact ⟨fun h => ⟨by omega, h.imp id (fun h => ⟨h.1, by omega, h.2⟩)⟩, fun h => h.2.imp id (fun h => ⟨h.1, h.2.2⟩)⟩
          · rw [if_neg h2, if_neg h2]
            exact ⟨fun h => by
              rcases h with h | h
              · exact ⟨by omega, Or.inl h⟩
              · exact absurd h.2 (by omega), fun h => by
              rcases h.2 with h | h
              · exact Or.inl h
              · exact absurd h.2.1 (by omega)⟩
      by_cases hs : sg M (nd M a) = sg M (nd M b)
      · rw [inner hs]
      · exact ⟨fun h => h.imp id (fun h => ⟨h.1, h.2.imp id (fun h => absurd h.1 hs)⟩), fun h => h.imp id (fun h => ⟨h.1, h.2.imp id (fun h => absurd h.1 hs)⟩)⟩
    have early : ∀ x, x < c → ∀ j, j < ax M (nd M x) → ps M (gp M x j) < ps M x := fun x hx j hj => by
      obtain ⟨w1, w2, w3, w4, w5⟩ := h.pos hx
      obtain ⟨-, -, -, x4, x5⟩ := h.ent hx
      have hsx : sq M (ps M x) = x := by unfold sq; omega
      have h9 := (kmin (ps M x) w1).1 j (by rw [hsx, x4]; exact hj)
      rw [hsx] at h9
      obtain ⟨f1, -, -⟩ := x5 j hj
      have := (h.pos (show gp M x j < c by omega)).2.1
      omega
    have ready : ∀ x y, x < c → y < c → ps M x ≤ ps M y → (∀ j, j < ax M (nd M y) → ps M (gp M y j) < ps M x) → KY M x ≤ KY M y := fun x y hx hy hxy hd => by
      obtain ⟨w1, w2, w3, w4, w5⟩ := h.pos hx
      obtain ⟨-, -, -, y4, y5⟩ := h.ent hy
      have hsx : sq M (ps M x) = x := by unfold sq; omega
      have h9 := (kmin (ps M x) w1).2 y ⟨hy, fun j hj => ?_⟩ (fun i' hi' e => ?_)
      · rw [hsx] at h9
        exact h9
      · rw [y4] at hj
        obtain ⟨f1, -, -⟩ := y5 j hj
        obtain ⟨z1, z2, z3, z4, z5⟩ := h.pos (show gp M y j < c by omega)
        have := hd j hj
        rw [z4]
        omega
      · obtain ⟨z1, z2, z3, z4, z5⟩ := h.pos hy
        have := d2 i' (ps M y) (by omega) z1 (by rw [e, z3])
        omega
    constructor
    · intro hlt
      by_cases hex : ∃ j, j < ax M (nd M b) ∧ ps M a ≤ ps M (gp M b j)
      · obtain ⟨j, hj, hle⟩ := hex
        obtain ⟨g1, g2, g3⟩ := b5 j hj
        have l2 := pb j hj
        refine (LT_eq hp a1 b1).2 (Or.inl ⟨j, hj, ?_⟩)
        rw [← g3]
        rcases Nat.lt_or_ge (ps M a) (ps M (gp M b j)) with h1 | h1
        · exact Or.inr ((ih (nd M a + nd M (gp M b j)) (by rw [g3]; omega) a (gp M b j) (Nat.le_refl _) ha (by omega)).1 h1)
        · exact Or.inl (by rw [h.inj ha (show gp M b j < c by omega) (by omega)])
      · have hall : ∀ j, j < ax M (nd M b) → ps M (gp M b j) < ps M a := fun j hj => by
          rcases Nat.lt_or_ge (ps M (gp M b j)) (ps M a) with h1 | h1
          · exact h1
          · exact absurd ⟨j, hj, h1⟩ hex
        have hle := ready a b ha hb (by omega) hall
        have hne : KY M a ≠ KY M b := fun e => by
          have := h.eqk hp hST ha hb e
          rw [this] at hlt
          omega
        refine (LT_eq hp a1 b1).2 (Or.inr ⟨keyLT.1 (by omega), fun j hj => ?_⟩)
        obtain ⟨f1, f2, f3⟩ := a5 j hj
        have l1 := pa j hj
        have := early a ha j hj
        rw [← f3]
        exact (ih (nd M (gp M a j) + nd M b) (by rw [f3]; omega) (gp M a j) b (Nat.le_refl _) (by omega) hb).1 (by omega)
    · intro hlt
      rcases (LT_eq hp a1 b1).1 hlt with ⟨j, hj, e⟩ | ⟨hk, hd⟩
      · obtain ⟨g1, g2, g3⟩ := b5 j hj
        have l2 := pb j hj
        have he := early b hb j hj
        rw [← g3] at e
        rcases e with e | e
        · have k1 := h.2.2.2.2 a ha
          have k2 := h.2.2.2.2 (gp M b j) (by omega)
          rw [e] at k2
          rw [show a = gp M b j by omega]
          exact he
        · have := (ih (nd M a + nd M (gp M b j)) (by rw [g3]; omega) a (gp M b j) (Nat.le_refl _) ha (by omega)).2 e
          omega
      · rcases Nat.lt_or_ge (ps M a) (ps M b) with h1 | h1
        · exact h1
        · exfalso
          have hK := keyLT.2 hk
          have hle := ready b a hb ha h1 (fun j hj => by
            obtain ⟨f1, f2, f3⟩ := a5 j hj
            have l1 := pa j hj
            have := hd j hj
            rw [← f3] at this
            exact (ih (nd M (gp M a j) + nd M b) (by rw [f3]; omega) (gp M a j) b (Nat.le_refl _) (by omega) hb).2 this)
          omega
end S2
