section V6
variable {M : g_M} {n m n0 r ec : Nat}
/-- the normal form is not greater -/
theorem NFle (hW : WF M n m) (hR : RSK M n n0 r ec) : ∀ x z k, x < n → NF M n r x z k → z = x ∨ LT M z x := by
  have hST := hW.st
  have hp := hST.plt
  intro x
  induction x using Nat.strongRecOn with
  | _ x ih =>
    intro z k hx h
    obtain ⟨w, s, y, e, a1, a2, a3, a4, a5⟩ := (NF_eq hp hx).1 h
    obtain ⟨p1, p2, p3⟩ := a3.parts
    have hwl : ∀ j, j < ax M x → w j = pn M x j ∨ LT M (w j) (pn M x j) := fun j hj => ih _ (hp x hx j hj) _ _ (by have := hp x hx j hj; omega) (a1 j hj)
    have hy : y = x ∨ LT M y x := by
      by_cases hall : ∃ j, j < ax M x ∧ w j ≠ pn M x j
      · obtain ⟨j, hj, hne⟩ := hall
        refine Or.inr (LT_mono hp a2 hx p1 (fun j hj => ?_) ⟨j, by rw [p2]; exact hj, by rw [p3 j hj]; exact hne⟩ (ax_le M y) (hW.sy.2.2.2.2.2.2.1 _ ?_))
        · rw [p2] at hj
          rw [p3 j hj]
          exact hwl j hj
        · have := hST.2.1 y a2
          unfold sg
          omega
      · left
        have e : ∀ j, j < ax M x → w j = pn M x j := fun j hj => Classical.byContradiction fun hne => hall ⟨j, hj, hne⟩
        have := hST.NO hx
        rw [← ivx_cong e, ← ivx_cong e] at this
        exact NO_uni hST a2 hx a3 this
    rcases a4 with ⟨i, i1, i2, i3, -⟩ | ⟨-, q, -⟩
    · have hlt := hR.2.1 i i1
      obtain ⟨x1, x2, x3, x4⟩ := hR.1.1.at i1
      rw [show rv M i = z by omega, show rl M i = y by omega] at hlt
      rcases hy with hy | hy
      · rw [hy] at hlt
        exact Or.inr hlt
      · exact Or.inr (LT_trans hp _ z y x (Nat.le_refl _) (by omega) a2 hx hlt hy)
    · rw [q]
      exact hy
/-- a normal form is its own -/
theorem NFnorm (hW : WF M n m) (hR : RSK M n n0 r ec) : ∀ x z k, x < n → NF M n r x z k → NF M n r z z 0 := by
  have hST := hW.st
  have hp := hST.plt
  intro x
  induction x using Nat.strongRecOn with
  | _ x ih =>
    intro z k hx h
    obtain ⟨w, s, y, e, a1, a2, a3, a4, a5⟩ := (NF_eq hp hx).1 h
    obtain ⟨p1, p2, p3⟩ := a3.parts
    rcases a4 with ⟨i, i1, i2, i3, -⟩ | ⟨q1, q, -⟩
    · have hn := hR.2.2.1 i i1
      obtain ⟨x1, x2, x3, x4⟩ := hR.1.1.at i1
      rw [show rv M i = z by omega] at hn
      exact hn
    · subst q
      have hz : ∀ a, sv (fun _ => 0) a = 0 := fun a => by
        induction a with
        | zero => rfl
        | succ a iha => show sv (fun _ => 0) a + 0 = 0; omega
      have hax : ax M z = ax M x := by unfold ax; rw [p1]
      refine (NF_eq hp a2).2 ⟨w, fun _ => 0, z, 0, fun j hj => ?_, a2, ?_, Or.inr ⟨q1, rfl, rfl⟩, by rw [hz]⟩
      · rw [hax] at hj
        rw [p3 j hj]
        exact ih _ (hp x hx j hj) _ _ (by have := hp x hx j hj; omega) (a1 j hj)
      · rw [hax, p1]
        exact a3
theorem NFself (hW : WF M n m) (hR : RSK M n n0 r ec) {x k : Nat} (hx : x < n) (h : NF M n r x x k) : k = 0 :=
  (NF_det hW.st hR.1.1 _ _ _ _ _ hx h (NFnorm hW hR _ _ _ hx h)).2
theorem sv_zero {s : Nat → Nat} : ∀ a, sv s a = 0 → ∀ j, j < a → s j = 0
  | 0, _, j, hj => absurd hj (by omega)
  | a + 1, h, j, hj => by
    have h : sv s a + s a = 0 := h
    by_cases e : j = a
    · rw [e]
      omega
    · exact sv_zero a (by omega) j (by omega)
theorem NFzero (hW : WF M n m) : ∀ x z, x < n → NF M n r x z 0 → z = x := by
  have hST := hW.st
  have hp := hST.plt
  intro x
  induction x using Nat.strongRecOn with
  | _ x ih =>
    intro z hx h
    obtain ⟨w, s, y, e, a1, a2, a3, a4, a5⟩ := (NF_eq hp hx).1 h
    have hs := sv_zero (s := s) (ax M x) (by omega)
    have e' : ∀ j, j < ax M x → w j = pn M x j := fun j hj => by
      have := a1 j hj
      rw [hs j hj] at this
      exact ih _ (hp x hx j hj) _ (by have := hp x hx j hj; omega) this
    have hN := hST.NO hx
    rw [← ivx_cong e', ← ivx_cong e'] at hN
    have hyx : y = x := NO_uni hST a2 hx a3 hN
    rcases a4 with ⟨i, i1, i2, i3, i4⟩ | ⟨-, q, -⟩
    · omega
    · omega
theorem NFrep {E : Nat → Nat → Prop} (hW : WF M n m) (hR : RSK M n n0 r ec) (hC : CGE M n0 E) (hQ : EQS M ec E) : ∀ x z k u, x < n → NF M n r x z k → REP M n0 E x u → REP M n0 E z u := by
  have hST := hW.st
  have hp := hST.plt
  intro x
  induction x using Nat.strongRecOn with
  | _ x ih =>
    intro z k u hx h hu
    obtain ⟨w, s, y, e, a1, a2, a3, a4, a5⟩ := (NF_eq hp hx).1 h
    obtain ⟨p1, p2, p3⟩ := a3.parts
    have hax : ax M y = ax M x := by unfold ax; rw [p1]
    obtain ⟨u0, b1, b2, b3, b4⟩ := (REP_eq hp hx).1 hu
    have hy : REP M n0 E y u := (REP_eq hp a2).2 ⟨u0, b1, b2, by rw [b3, p1], fun j hj => by
      rw [hax] at hj
      rw [p3 j hj]
      exact ih _ (hp x hx j hj) _ _ _ (by have := hp x hx j hj; omega) (a1 j hj) (b4 j hj)⟩
    rcases a4 with ⟨i, i1, i2, i3, i4⟩ | ⟨-, q, -⟩
    · obtain ⟨x1, x2, x3, x4⟩ := hR.1.1.at i1
      obtain ⟨u', c1, c2⟩ := hR.2.2.2.1 E hC hQ i i1
      rw [show rl M i = y by omega] at c1
      rw [show rv M i = z by omega] at c2
      exact REP_E hC c2 (REP_det hp hC y u' u a2 c1 hy)
    · rw [q]
      exact hy
/-- the same normal form: in every congruence that holds the equations -/
theorem NFsound {E : Nat → Nat → Prop} (hW : WF M n m) (hR : RSK M n n0 r ec) (hC : CGE M n0 E) (hQ : EQS M ec E) {u v z k k' : Nat} (hu : u < n0) (hv : v < n0) (h : NF M n r u z k) (h' : NF M n r v z k') : E u v := by
  have hp := hW.st.plt
  have hn := hR.1.2.1
  have r1 := NFrep hW hR hC hQ u z k u (by omega) h (REP_self hp hC hn u hu)
  have r2 := NFrep hW hR hC hQ v z k' v (by omega) h' (REP_self hp hC hn v hv)
  exact REP_det hp hC z u v (NF_lt hW.st hR.1.1 (by omega) h) r1 r2
/-- what every congruence with the equations holds has the same normal form -/
theorem NFcomplete (hW : WF M n m) (hR : RSK M n n0 r ec) (hn : n + n0 < 3000) {u v z z' k k' : Nat} (hu : u < n0) (hv : v < n0) (hE : ∀ E, CGE M n0 E → EQS M ec E → E u v) (h : NF M n r u z k) (h' : NF M n r v z' k') : z = z' := by
  obtain ⟨⟨hRU, hn0, c1, c2, c3⟩, -, -, -, hB⟩ := hR
  obtain ⟨M', n', hW', hR', g1, g2, g3, g4, g5⟩ := allDone hW hRU hn0 hn n0 (Nat.le_refl _)
  have hq : SR M M' r := fun i _ => by
    rw [g4 59 (by decide), g4 60 (by decide)]
    exact ⟨rfl, rfl⟩
  have hp' := hW'.st.plt
  have hC' : CGE M' n0 (fun a b => (a < n0 ∧ b < n0) ∧ ∃ z k k', NF M' n' r a z k ∧ NF M' n' r b z k') := by
    refine ⟨fun a b ⟨⟨h1, h2⟩, z, k, k', h3, h4⟩ => ⟨⟨h2, h1⟩, z, k', k, h4, h3⟩, fun a b c ⟨⟨h1, h2⟩, z, k, k', h3, h4⟩ ⟨⟨i1, i2⟩, z', l, l', i3, i4⟩ => ⟨⟨h1, i2⟩, z, k, l', h3, ?_⟩, fun a b ha hb hs hj => ⟨⟨ha, hb⟩, ?_⟩⟩
    · rw [(NF_det hW'.st hR' b z k' z' l (by omega) h4 i3).1]
      exact i4
    · obtain ⟨z1, k1, f1⟩ := g5 a ha
      obtain ⟨z2, k2, f2⟩ := g5 b hb
      obtain ⟨w, s, y, e, a1, a2, a3, a4, a5⟩ := (NF_eq hp' (x := a) (by omega)).1 f1
      obtain ⟨w', s', y', e', b1, b2, b3, b4, b5⟩ := (NF_eq hp' (x := b) (by omega)).1 f2
      have hax : ax M' b = ax M' a := by unfold ax; rw [hs]
      have hw : ∀ j, j < ax M' a → w j = w' j := fun j hj2 => by
        obtain ⟨-, z, k, k', h3, h4⟩ := hj j hj2
        have q1 := (NF_det hW'.st hR' _ _ _ _ _ (by have := hp' a (by omega) j hj2; omega) h3 (a1 j hj2)).1
        have q2 := (NF_det hW'.st hR' _ _ _ _ _ (by have := hp' b (by omega) j (by omega); omega) h4 (b1 j (by omega))).1
        omega
      rw [ivx_cong hw, ivx_cong hw] at a3
      rw [hax, ← hs] at b3
      have : y = y' := NO_uni hW'.st a2 b2 a3 b3
      subst this
      obtain ⟨q1, -⟩ := a4.det hR' b4
      subst q1
      exact ⟨z1, k1, k2, f1, f2⟩
  have hCM := hC'.ext g3 hn0
  obtain ⟨-, z2, l, l', f1, f2⟩ := hE _ hCM (fun e he => by
    obtain ⟨-, -, x1, x2⟩ := c3 e he
    obtain ⟨z1, k1, f1⟩ := g5 _ x1
    obtain ⟨z2, k2, f2⟩ := g5 _ x2
    have := hB M' n' hW'.st g3 g1 hq e z1 k1 z2 k2 he f1 f2
    subst this
    exact ⟨⟨x1, x2⟩, z1, k1, k2, f1, f2⟩)
  have q1 := NF_det hW'.st hR' _ _ _ _ _ (by omega) f1 (NF_ext hW.st hW'.st g1 g3 hq u z k (by omega) h)
  have q2 := NF_det hW'.st hR' _ _ _ _ _ (by omega) f2 (NF_ext hW.st hW'.st g1 g3 hq v z' k' (by omega) h')
  omega
end V6
