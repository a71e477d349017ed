section W4
variable {M M1 M' M2 : g_M} {n n1 n2 m m' n0 c ec G t r : Nat} {P Y : Nat → Nat} {U : Nat → Bool} {md : Nat → Prop}
/-- z is the least term of place i, in the store M2 -/
def LNF (M M2 : g_M) (n2 : Nat) : Nat → Nat → Nat → Prop
  | 0 => fun _ _ => False
  | f + 1 => fun i z => ∃ w : Nat → Nat, (∀ j, j < arN (zs M i) → LNF M M2 n2 f (zc M i j) (w j)) ∧ z < n2 ∧ NO M2 z (zs M i) (ivx (arN (zs M i)) w 0) (ivx (arN (zs M i)) w 1) (-1)
def LN (M M2 : g_M) (n2 i z : Nat) : Prop := LNF M M2 n2 (i + 1) i z
theorem LNF_eq (h : CERT M n m n0 c ec G t P U) : ∀ f f' i z, i < t → i < f → i < f' → LNF M M2 n2 f i z → LNF M M2 n2 f' i z := by
  intro f
  induction f with
  | zero => intros; omega
  | succ f ih =>
    intro f' i z hi h1 h2
    cases f' with
    | zero => omega
    | succ f' =>
      rintro ⟨w, a1, a2⟩
      exact ⟨w, fun j hj => ih f' _ _ (by have := (h.zcp hi hj).1; omega) (by have := (h.zcp hi hj).1; omega) (by have := (h.zcp hi hj).1; omega) (a1 j hj), a2⟩
theorem LN_eq (h : CERT M n m n0 c ec G t P U) {i z : Nat} (hi : i < t) : LN M M2 n2 i z ↔ ∃ w : Nat → Nat, (∀ j, j < arN (zs M i) → LN M M2 n2 (zc M i j) (w j)) ∧ z < n2 ∧ NO M2 z (zs M i) (ivx (arN (zs M i)) w 0) (ivx (arN (zs M i)) w 1) (-1) := by
  constructor
  · rintro ⟨w, a1, a2⟩
    exact ⟨w, fun j hj => LNF_eq h _ _ _ _ (by have := (h.zcp hi hj).1; omega) (by have := (h.zcp hi hj).1; omega) (by omega) (a1 j hj), a2⟩
  · rintro ⟨w, a1, a2⟩
    exact ⟨w, fun j hj => LNF_eq h _ _ _ _ (by have := (h.zcp hi hj).1; omega) (by omega) (by have := (h.zcp hi hj).1; omega) (a1 j hj), a2⟩
theorem LN_det (h : CERT M n m n0 c ec G t P U) (hST : ST M2 n2) : ∀ i z z', i < t → LN M M2 n2 i z → LN M M2 n2 i z' → z = z' := by
  intro i
  induction i using Nat.strongRecOn with
  | _ i ih =>
    intro z z' hi h1 h2
    obtain ⟨w, a1, a2, a3⟩ := (LN_eq h hi).1 h1
    obtain ⟨w', b1, b2, b3⟩ := (LN_eq h hi).1 h2
    have hw : ∀ j, j < arN (zs M i) → w j = w' j := fun j hj => by
      have := (h.zcp hi hj).1
      exact ih _ this _ _ (by omega) (a1 j hj) (b1 j hj)
    rw [ivx_cong hw, ivx_cong hw] at a3
    exact NO_uni hST a2 b2 a3 b3
theorem LN_inj (h : CERT M n m n0 c ec G t P U) (h29 : n0 ≤ 29) : ∀ i i' z, i < t → i' < t → LN M M2 n2 i z → LN M M2 n2 i' z → i = i' := by
  intro i
  induction i using Nat.strongRecOn with
  | _ i ih =>
    intro i' z hi hi' h1 h2
    obtain ⟨w, a1, a2, a3⟩ := (LN_eq h hi).1 h1
    obtain ⟨w', b1, b2, b3⟩ := (LN_eq h hi').1 h2
    obtain ⟨p1, p2, p3⟩ := a3.parts
    obtain ⟨q1, q2, q3⟩ := b3.parts
    have hs : zs M i = zs M i' := p1.symm.trans q1
    refine h.zinj h29 hi hi' hs (fun j hj => ?_)
    have hj' : j < arN (zs M i') := by rw [← hs]; exact hj
    have c1 := (h.zcp hi hj).1
    have c2 := (h.zcp hi' hj').1
    have hw : w j = w' j := by rw [← p3 j hj, ← q3 j hj']
    have := b1 j hj'
    rw [← hw] at this
    exact ih _ c1 _ _ (by omega) (by omega) (a1 j hj) this
theorem YS.ln (h : CERT M n m n0 c ec G t P U) (hY : YS M M' n1 r t Y md) (hE : EX n1 M' M2) (hn : n1 ≤ n2) : ∀ i, i < t → md i → LN M M2 n2 i (Y i) := by
  intro i
  induction i using Nat.strongRecOn with
  | _ i ih =>
    intro hi hm
    obtain ⟨a1, a2⟩ := hY.2.2.1 i hi hm
    exact (LN_eq h hi).2 ⟨fun j => Y (zc M i j), fun j hj => ih _ (h.zcp hi hj).1 (by have := (h.zcp hi hj).1; omega) (hY.1 i hi hm j hj), by omega, a2.ext a1 hE⟩
/-- the normal form of an entry is the least of its class -/
theorem YS.nf (h : CERT M n m n0 c ec G t P U) (h29 : n0 ≤ 29) (hY : YS M M' n1 r t Y md) (hE0 : EX n M M2) (hE : EX n1 M' M2) (hn : n1 ≤ n2) (hnn : n ≤ n2) (hST : ST M2 n2) (hSR : SR M' M2 r) {ix : Nat → Nat} (hix : ∀ q, q < c → ix q < t ∧ zs M (ix q) = sg M (nd M q) ∧ ∀ j, j < ax M (nd M q) → ∃ k, k < q ∧ nd M k = pn M (nd M q) j ∧ zf M (ix k) = zc M (ix q) j) : ∀ q z k, q < c → NF M2 n2 r (nd M q) z k → LN M M2 n2 (zf M (ix q)) z := by
  intro q
  induction q using Nat.strongRecOn with
  | _ q ih =>
    intro z k hq hN
    obtain ⟨i1, i2, i3⟩ := hix q hq
    have hU := h.1.2.2.1 q hq
    have hx : nd M q < n := by
      obtain ⟨x, x1, x2, -⟩ := h.1.2.1.2.2 q hq
      unfold nd
      omega
    obtain ⟨e1, e2, e3⟩ := hE0.node hx
    have hr := ax_le M (nd M q)
    obtain ⟨w, s, y, e, a1, a2, a3, a4, a5⟩ := (NF_eq hST.plt (x := nd M q) (by omega)).1 hN
    have hax : ax M (nd M q) = arN (zs M (ix q)) := by rw [i2]; rfl
    rw [e2, e1] at a3
    rw [e2] at a1
    have hy : LN M M2 n2 (ix q) y := (LN_eq h i1).2 ⟨w, fun j hj => by
      rw [← hax] at hj
      obtain ⟨k', k1, k2, k3⟩ := i3 j hj
      have := a1 j hj
      rw [e3 j (by omega), ← k2] at this
      rw [← k3]
      exact ih k' k1 _ _ (by omega) this, a2, by rw [← hax, i2]; exact a3⟩
    rcases a4 with ⟨p, p1, p2, p3, -⟩ | ⟨p1, p2, -⟩
    · obtain ⟨i, j1, j2, j3, j4⟩ := hY.2.2.2.2.1 p p1
      rw [(hSR p p1).1, j3] at p2
      rw [(hSR p p1).2, j4] at p3
      have hyY : Y i = y := Int.ofNat.inj p2
      have hzY : Y (zf M i) = z := Int.ofNat.inj p3
      obtain ⟨m1, m2⟩ := hY.2.1 i j1 j2
      have l1 := hY.ln h hE hn i j1 m1
      rw [hyY] at l1
      have : i = ix q := LN_inj h h29 _ _ _ j1 i1 l1 hy
      subst this
      have l2 := hY.ln h hE hn _ (by have := (h.zfp i1).1; omega) m2
      rw [hzY] at l2
      exact l2
    · rw [p2]
      by_cases hz : zf M (ix q) = ix q
      · rw [hz]
        exact hy
      · exfalso
        obtain ⟨m1, m2⟩ := hY.2.1 _ i1 hz
        obtain ⟨p, q1, q2, q3⟩ := hY.2.2.2.2.2 _ i1 hz
        have l1 := hY.ln h hE hn _ i1 m1
        have : Y (ix q) = y := LN_det h hST _ _ _ i1 l1 hy
        refine p1 p q1 ?_
        rw [(hSR p q1).1, q2, this]
/-- a rule's right side is normal -/
theorem YS.norm (h : CERT M n m n0 c ec G t P U) (hW' : WF M' n1 m') (hY : YS M M' n1 r t Y md) : ∀ i, i < t → md i → zf M i = i → NF M' n1 r (Y i) (Y i) 0 := by
  intro i
  induction i using Nat.strongRecOn with
  | _ i ih =>
    intro hi hm hz
    obtain ⟨a1, a2⟩ := hY.2.2.1 i hi hm
    obtain ⟨p1, p2, p3⟩ := a2.parts
    have hz0 : ∀ a, sv (fun _ => 0) a = 0 := fun a => by
      induction a with
      | zero => rfl
      | succ a iha => show sv (fun _ => 0) a + 0 = 0; omega
    refine (NF_eq hW'.st.plt a1).2 ⟨fun j => Y (zc M i j), fun _ => 0, Y i, 0, fun j hj => ?_, a1, by rw [p1, p2]; exact a2, Or.inr ⟨fun q hq e => ?_, rfl, rfl⟩, by rw [hz0]⟩
    · rw [p2] at hj
      rw [p3 j hj]
      obtain ⟨b1, b2, -, -⟩ := h.zcp hi hj
      exact ih _ b1 (by omega) (hY.1 i hi hm j hj) b2
    · obtain ⟨i', j1, j2, j3, j4⟩ := hY.2.2.2.2.1 q hq
      rw [j3] at e
      have := hY.2.2.2.1 i' i j1 hi (hY.2.1 i' j1 j2).1 hm (Int.ofNat.inj e)
      subst this
      exact j2 hz
end W4
