section X9
variable {M : g_M} {N : g_M} {n m n0 ec : Nat} {uf : Nat → Nat}
/-- the law's terms: place i is the node uf i -/
def US (M N : g_M) (m n0 : Nat) (uf : Nat → Nat) : Prop :=
  (∀ i, i < 14 → ∃ j : Nat, j < m ∧ N 0 i = (j : Int) ∧ M 33 j = ((uf i : Nat) : Int) ∧ uf i < n0) ∧ (∀ x, x < n0 → ∃ i, i < 14 ∧ uf i = x) ∧ (∀ i, i < 3 → sg M (uf i) = i) ∧
  ∀ i, 3 ≤ i → i < 14 → ∃ a : Nat, a < i ∧ N 1 i = (a : Int) ∧ pn M (uf i) 0 = uf a ∧ (N 2 i = -1 ∧ sg M (uf i) = 3 ∨ ∃ b : Nat, b < i ∧ N 2 i = (b : Int) ∧ sg M (uf i) = 4 ∧ pn M (uf i) 1 = uf b)
/-- the law's equations are the theory's -/
def UQ (M N : g_M) (ec : Nat) (uf : Nat → Nat) : Prop := ∀ e, e < ec → ∃ i j : Nat, i < 14 ∧ j < 14 ∧ N 4 e = (i : Int) ∧ N 5 e = (j : Int) ∧ M 55 e = ((uf i : Nat) : Int) ∧ M 56 e = ((uf j : Nat) : Int)
theorem US.num (h : US M N m n0 uf) (hNU : NU M n m) {i j : Nat} (hi : i < 14) (hj : j < 14) : N 0 i = N 0 j ↔ uf i = uf j := by
  obtain ⟨p, p1, p2, p3, -⟩ := h.1 i hi
  obtain ⟨q, q1, q2, q3, -⟩ := h.1 j hj
  have e1 := (hNU.2.1 p p1).2.2
  have e2 := (hNU.2.1 q q1).2.2
  rw [p3, Int.toNat_natCast] at e1
  rw [q3, Int.toNat_natCast] at e2
  constructor
  · intro e
    have : p = q := by omega
    subst this
    omega
  · intro e
    rw [e] at e1
    omega
theorem US.ts (h : US M N m n0 uf) (hm : m ≤ 16000) (hq : UQ M N ec uf) (he : ec ≤ 30) : TS N ec := by
  refine ⟨fun i hi => ?_, fun i h3 hi => ?_, he, fun e h => ?_⟩
  · obtain ⟨p, p1, p2, -⟩ := h.1 i hi
    omega
  · obtain ⟨a, a1, a2, -, a3⟩ := h.2.2.2 i h3 hi
    rcases a3 with ⟨a3, -⟩ | ⟨b, b1, b2, -⟩
    · omega
    · omega
  · obtain ⟨i, j, i1, j1, e1, e2, -⟩ := hq e h
    omega
/-- the congruence of the law's classes, on nodes -/
def ENL (N : g_M) (uf : Nat → Nat) (u v : Nat) : Prop := ∃ i j, i < 14 ∧ j < 14 ∧ uf i = u ∧ uf j = v ∧ cl N i = cl N j
theorem ENL.iff (h : US M N m n0 uf) (hNU : NU M n m) (hL : ELAW N ec (fun i j => cl N i = cl N j)) {i j : Nat} (hi : i < 14) (hj : j < 14) : ENL N uf (uf i) (uf j) ↔ cl N i = cl N j := by
  constructor
  · rintro ⟨a, b, a1, b1, e1, e2, e3⟩
    have q1 := hL.2.2.1 a i a1 hi ((h.num hNU a1 hi).2 e1)
    have q2 := hL.2.2.1 b j b1 hj ((h.num hNU b1 hj).2 e2)
    replace q1 : cl N a = cl N i := q1
    replace q2 : cl N b = cl N j := q2
    rw [← q1, ← q2]
    exact e3
  · exact fun e => ⟨i, j, hi, hj, rfl, rfl, e⟩
theorem US.sgn (h : US M N m n0 uf) {i : Nat} (hi : i < 14) : (i < 3 → ax M (uf i) = 0) ∧ (3 ≤ i → 0 < ax M (uf i) ∧ (N 2 i < 0 ↔ sg M (uf i) = 3)) := by
  refine ⟨fun h3 => ?_, fun h3 => ?_⟩
  · unfold ax
    rw [h.2.2.1 i h3]
    unfold arN
    rw [if_neg (by omega), if_neg (by omega)]
  · obtain ⟨a, a1, a2, a3, a4⟩ := h.2.2.2 i h3 hi
    unfold ax
    rcases a4 with ⟨a4, a5⟩ | ⟨b, b1, b2, b3, b4⟩
    · rw [a5]
      exact ⟨by decide, fun _ => rfl, fun _ => by omega⟩
    · rw [b3]
      exact ⟨by decide, fun h => by omega, fun h => by omega⟩
theorem ENL.cge (h : US M N m n0 uf) (hW : WF M n m) (hn0 : n0 ≤ n) (hL : ELAW N ec (fun i j => cl N i = cl N j)) : CGE M n0 (ENL N uf) := by
  have hNU := hW.nu
  refine ⟨fun u v ⟨i, j, a1, a2, a3, a4, a5⟩ => ⟨j, i, a2, a1, a4, a3, a5.symm⟩, fun u v w ⟨i, j, a1, a2, a3, a4, a5⟩ ⟨j', k, b1, b2, b3, b4, b5⟩ => ⟨i, k, a1, b2, a3, b4, ?_⟩, fun u v hu hv hs hp => ?_⟩
  · have q := hL.2.2.1 j j' a2 b1 ((h.num hNU a2 b1).2 (a4.trans b3.symm))
    exact a5.trans (Eq.trans q b5)
  · obtain ⟨i, i1, rfl⟩ := h.2.1 u hu
    obtain ⟨k, k1, rfl⟩ := h.2.1 v hv
    refine ⟨i, k, i1, k1, rfl, rfl, ?_⟩
    have hax : ax M (uf i) = ax M (uf k) := by unfold ax; rw [hs]
    obtain ⟨si1, si2⟩ := h.sgn i1
    obtain ⟨sk1, sk2⟩ := h.sgn k1
    by_cases h3 : i < 3
    · have h0 := si1 h3
      have hx := hW.st.NO (x := uf i) (by omega)
      have hy := hW.st.NO (x := uf k) (by omega)
      rw [← hax, ← hs] at hy
      have e : uf i = uf k := NO_uni hW.st (by omega) (by omega) hx (by
        have e0 : ∀ q, ivx (ax M (uf i)) (pn M (uf k)) q = ivx (ax M (uf i)) (pn M (uf i)) q := fun q => ivx_cong (fun j hj => by omega) q
        rw [e0, e0] at hy
        exact hy)
      exact hL.2.2.1 i k i1 k1 ((h.num hNU i1 k1).2 e)
    · have hk3 : 3 ≤ k := by
        by_cases hk : k < 3
        · have := sk1 hk
          have := (si2 (by omega)).1
          omega
        · omega
      obtain ⟨p0, p1⟩ := si2 (by omega)
      obtain ⟨q0, q1⟩ := sk2 hk3
      obtain ⟨a, a1, a2, a3, a4⟩ := h.2.2.2 i (by omega) i1
      obtain ⟨b, b1, b2, b3, b4⟩ := h.2.2.2 k hk3 k1
      have toCl : ∀ c d, c < 14 → d < 14 → ENL N uf (uf c) (uf d) → cl N c = cl N d := fun c d hc hd he => (ENL.iff h hNU hL hc hd).1 he
      have e1 : xv N i = a := by unfold xv; omega
      have e2 : xv N k = b := by unfold xv; omega
      refine hL.2.2.2.2 i k (by omega) hk3 i1 k1 (by rw [p1, q1, hs]) ?_ (fun hneg => ?_)
      · show cl N (xv N i) = cl N (xv N k)
        rw [e1, e2]
        refine toCl a b (by omega) (by omega) ?_
        have := hp 0 p0
        rw [a3, b3] at this
        exact this
      · show cl N (yv N i) = cl N (yv N k)
        have hs3 : sg M (uf i) ≠ 3 := fun e => hneg (p1.2 e)
        rcases a4 with ⟨-, a5⟩ | ⟨c, c1, c2, c3, c4⟩
        · exact absurd a5 hs3
        · rcases b4 with ⟨-, b5⟩ | ⟨d, d1, d2, d3, d4⟩
          · rw [hs] at hs3
            exact absurd b5 hs3
          · have e3 : yv N i = c := by unfold yv; omega
            have e4 : yv N k = d := by unfold yv; omega
            rw [e3, e4]
            refine toCl c d (by omega) (by omega) ?_
            have := hp 1 (by unfold ax; rw [c3]; decide)
            rw [c4, d4] at this
            exact this
theorem ENL.eqs (hq : UQ M N ec uf) (hL : ELAW N ec (fun i j => cl N i = cl N j)) : EQS M ec (ENL N uf) := fun e he => by
  obtain ⟨i, j, i1, j1, e1, e2, e3, e4⟩ := hq e he
  refine ⟨i, j, i1, j1, ?_, ?_, ?_⟩
  · unfold eL
    rw [e3]
    rfl
  · unfold eR
    rw [e4]
    rfl
  · have := hL.2.2.2.1 e he
    unfold lf rt at this
    rw [e1, e2] at this
    exact this
/-- the least one -/
theorem ENL.least (h : US M N m n0 uf) (hW : WF M n m) (hn0 : n0 ≤ n) (hq : UQ M N ec uf) {N' : g_M} (hmin : ∀ E, ELAW N ec E → SUB N' E) {E : Nat → Nat → Prop} (hC : CGE M n0 E) (hQ : EQS M ec E) : ∀ i j, i < 14 → j < 14 → cl N' i = cl N' j → E (uf i) (uf j) := by
  refine hmin (fun i j => E (uf i) (uf j)) ⟨fun i j => hC.1 _ _, fun i j k => hC.2.1 _ _ _, fun i j hi hj e => ?_, fun e he => ?_, fun i k h3 h3' hi hk hs hx hy => ?_⟩
  · have e' := (h.num hW.nu hi hj).1 e
    show E (uf i) (uf j)
    rw [e']
    obtain ⟨p, -, -, -, hlt⟩ := h.1 j hj
    exact hC.rf hW.st.plt hn0 _ hlt
  · obtain ⟨i, j, i1, j1, e1, e2, e3, e4⟩ := hq e he
    have := hQ e he
    unfold eL eR at this
    rw [e3, e4] at this
    unfold lf rt
    rw [e1, e2]
    exact this
  · obtain ⟨p0, p1⟩ := (h.sgn hi).2 h3
    obtain ⟨q0, q1⟩ := (h.sgn hk).2 h3'
    obtain ⟨pi, -, -, -, li⟩ := h.1 i hi
    obtain ⟨pk, -, -, -, lk⟩ := h.1 k hk
    obtain ⟨a, a1, a2, a3, a4⟩ := h.2.2.2 i h3 hi
    obtain ⟨b, b1, b2, b3, b4⟩ := h.2.2.2 k h3' hk
    have e1 : xv N i = a := by unfold xv; omega
    have e2 : xv N k = b := by unfold xv; omega
    replace hx : E (uf (xv N i)) (uf (xv N k)) := hx
    rw [e1, e2] at hx
    rcases a4 with ⟨a4, a5⟩ | ⟨c, c1, c2, c3, c4⟩
    · have s3 : sg M (uf k) = 3 := q1.1 (hs.1 (by omega))
      refine hC.2.2 _ _ li lk (by rw [a5, s3]) (fun j hj => ?_)
      have : ax M (uf i) = 1 := by unfold ax; rw [a5]; rfl
      have : j = 0 := by omega
      subst this
      rw [a3, b3]
      exact hx
    · have hneg : ¬ N 2 i < 0 := by omega
      have hneg' : ¬ N 2 k < 0 := fun h => hneg (hs.2 h)
      rcases b4 with ⟨b4, -⟩ | ⟨d, d1, d2, d3, d4⟩
      · exact absurd (by omega) hneg'
      · have e3 : yv N i = c := by unfold yv; omega
        have e4 : yv N k = d := by unfold yv; omega
        have hy' : E (uf (yv N i)) (uf (yv N k)) := hy hneg
        rw [e3, e4] at hy'
        refine hC.2.2 _ _ li lk (by rw [c3, d3]) (fun j hj => ?_)
        have : ax M (uf i) = 2 := by unfold ax; rw [c3]; rfl
        rcases (show j = 0 ∨ j = 1 by omega) with rfl | rfl
        · rw [a3, b3]
          exact hx
        · rw [c4, d4]
          exact hy'
end X9
