section W1
variable {M : g_M} {n m n0 c ec G t : Nat} {P : Nat → Nat} {U : Nat → Bool}
theorem CERT.sqn (h : CERT M n m n0 c ec G t P U) {i : Nat} (hi : i < t) : M 22 i = ((sq M i : Nat) : Int) ∧ sq M i < G := by
  obtain ⟨a1, a2⟩ := h.2.2.2.2.2.1.2.2.2.1.1 i hi
  exact ⟨a1, a2.1⟩
theorem CERT.cls (h : CERT M n m n0 c ec G t P U) {i : Nat} (hi : i < t) : M 10 (sq M i) = ((ow M (sq M i) : Nat) : Int) ∧ ow M (sq M i) < c := by
  have := (h.2.2.2.2.1.1.2.2 _ (h.sqn hi).2).1
  unfold ow
  omega
/-- a class of the sequence: its choice comes first -/
theorem CERT.first (h : CERT M n m n0 c ec G t P U) {i : Nat} (hi : i < t) : ∃ i', i' ≤ i ∧ M 20 (ow M (sq M i)) = ((sq M i' : Nat) : Int) ∧ ow M (sq M i') = ow M (sq M i) ∧ M 21 (ow M (sq M i)) = (i' : Int) ∧ cho M i' := by
  obtain ⟨a1, a2⟩ := h.cls hi
  rcases h.2.2.2.2.2.1.2.2.2.2.2.2.1 _ a2 with ⟨-, h9⟩ | ⟨i', b1, b2, b3, b4, b5⟩
  · exact absurd a1 (h9 i hi)
  · have hle : i' ≤ i := by
      rcases Nat.lt_or_ge i i' with hlt | hge
      · exact absurd a1 (b5 i hlt)
      · exact hge
    have ho : ow M (sq M i') = ow M (sq M i) := by
      have := (h.cls b1).1
      omega
    have hs := (h.sqn b1).1
    refine ⟨i', hle, by rw [b2, hs], ho, b4, ?_⟩
    unfold cho
    rw [ho, b2, hs]
/-- the part's class is chosen before -/
theorem CERT.before (h : CERT M n m n0 c ec G t P U) {i j : Nat} (hi : i < t) (hj : j < arN (gs M (sq M i))) : ∃ i', i' < i ∧ cho M i' ∧ ow M (sq M i') = gp M (sq M i) j ∧ M 21 (gp M (sq M i) j) = (i' : Int) ∧ M 20 (gp M (sq M i) j) = ((sq M i' : Nat) : Int) := by
  have hRI := h.2.2.2.2.2.1
  have hE := (hRI.2.2.2.1.1 i hi).2
  have hne := hRI.parts h.2.2.2.2.2.2.1 hE hj
  have hb := (h.2.2.2.2.1.1.2.2 _ (h.sqn hi).2).2.2 j hj
  have hcl : gp M (sq M i) j < c := by unfold gp; omega
  obtain ⟨i', b1, b2, b3, b4⟩ := CH.out (hRI.2.2.2.2.2.2.1 _ hcl) hne
  have hlt := (hRI.2.2.2.2.2.2.2 i hi).1 j hj
  have hs := (h.sqn b1).1
  have ho : ow M (sq M i') = gp M (sq M i) j := by
    have := (h.cls b1).1
    omega
  refine ⟨i', by omega, ?_, ho, b4, by rw [b2, hs]⟩
  unfold cho
  rw [ho, b2, hs]
theorem CERT.rk (h : CERT M n m n0 c ec G t P U) (h29 : n0 ≤ 29) : RK M c G t := by
  have hRI := h.2.2.2.2.2.1
  obtain ⟨hG, hP, hGc⟩ := h.2.2.2.2.1
  have hc := h.1.2.2.2.2
  have htG := hRI.cnt
  refine ⟨⟨h.1.1.sy, hG, by omega, by omega, by omega, hRI.1.2.2.2.2.2.2, fun i hi => h.sqn hi⟩, by omega, fun i i' hi hi' e => ?_, fun i hi j hj => ?_, fun i hi => ?_, fun i i' hi hi' h1 h2 e => ?_, fun p q hp hq hs hj => ?_⟩
  · refine hRI.2.2.2.1.2 i i' hi hi' ?_
    rw [(h.sqn hi).1, (h.sqn hi').1, e]
  · obtain ⟨i', b1, b2, b3, -⟩ := h.before hi hj
    exact ⟨i', b1, b2, b3⟩
  · obtain ⟨i', b1, -, b3, -, b5⟩ := h.first hi
    exact ⟨i', b1, b5, b3⟩
  · unfold cho at h1 h2
    rw [e, h2] at h1
    refine hRI.2.2.2.1.2 i i' hi hi' ?_
    rw [(h.sqn hi).1, (h.sqn hi').1, h1]
  · obtain ⟨b1, b2, b3, b4, b5⟩ := hP.1 p hp
    obtain ⟨d1, d2, d3, d4, d5⟩ := hP.1 q hq
    obtain ⟨e1, e2, e3⟩ := h.entry b1
    obtain ⟨f1, f2, f3⟩ := h.entry d1
    have g1 := (hG.2.2 p hp).2
    have g2 := (hG.2.2 q hq).2
    have h28 : M 28 (P p) = M 28 (P q) := by
      unfold gs at hs
      omega
    have hsg : sg M (nd M (P p)) = sg M (nd M (P q)) := by omega
    have hax : ax M (nd M (P p)) = ax M (nd M (P q)) := by unfold ax; rw [hsg]
    have hgs : gs M p = sg M (nd M (P p)) := by unfold gs; rw [b4, e1]; rfl
    have ht : tw M (P p) (P q) := ⟨h28, fun j hj3 => by
      by_cases hj' : j < ax M (nd M (P p))
      · have x1 := b5 j (by rw [e1]; exact hj')
        have x2 := d5 j (by rw [f1, ← hsg]; exact hj')
        rw [lp_pl h b1 (by rw [e1]; exact hj')] at x1
        rw [lp_pl h d1 (by rw [f1, ← hsg]; exact hj')] at x2
        have x3 := hj j (by rw [hgs]; exact hj')
        have y1 := g1.2 j (by rw [hgs]; exact hj')
        have y2 := g2.2 j (by rw [← hs, hgs]; exact hj')
        unfold gp at x3
        omega
      · have x1 := (e3 j hj3).2 hj'
        have x2 := (f3 j hj3).2 (by rw [← hax]; exact hj')
        unfold lp
        rw [x1, x2]⟩
    have hPP := h.2.1.2.2.2.2.2.1 (P p) (P q) b1 d1 b2 d2 ht
    rcases Nat.lt_trichotomy p q with hlt | heq | hgt
    · have := hP.2.1 p q hlt hq
      omega
    · exact heq
    · have := hP.2.1 q p hgt hp
      omega
/-- no side of a rule is too large -/
def TOO (M : g_M) (p : Nat) : Prop := 300 < M 17 p ∨ 40 < M 18 p
def SMA (M : g_M) (i : Nat) : Prop := ¬ cho M i → ¬ TOO M (sq M i) ∧ ¬ TOO M (M 20 (ow M (sq M i))).toNat
theorem r_tooLarge {M : g_M} {Q : Int → g_M → Prop} (hR : RG M) (p : Nat) (hp : p ≤ 3000) (k1 : TOO M p → Q 1 M) (k2 : ¬ TOO M p → Q 0 M) : F_X9_isTooLargeSide Q p M := by
  unfold F_X9_isTooLargeSide F_X2_termSize F_X2_termDepth
  rw [rgn p (by omega)]
  show (bm 300 < bm (M 17 p) → Q 1 M) ∧ (¬ bm 300 < bm (M 17 p) → ((bm 40 < bm (rg M 18 (p : Int)) → Q 1 M) ∧ (¬ bm 40 < bm (rg M 18 (p : Int)) → Q 0 M)))
  rw [rgn p (by omega), hR.b, hR.b, show bm 300 = 300 by decide, show bm 40 = 40 by decide]
  exact ⟨fun h => k1 (Or.inl h), fun h => ⟨fun h' => k1 (Or.inr h'), fun h' => k2 (fun h9 => by rcases h9 with h9 | h9 <;> contradiction)⟩⟩
theorem r_complete_41 {Q : Int → g_M → Prop} (h : CERT M n m n0 c ec G t P U) (h29 : n0 ≤ 29) (k1 : (∀ i, i < t → SMA M i) → F_X9_takeRules (fun M' => Q 1 M') M) (k2 : (¬ ∀ i, i < t → SMA M i) → Q 0 M) :
    ∀ (f i : Nat), i ≤ t → t - i < f → (∀ i', i' < i → SMA M i') → F_X9_complete_41 Q f i M := by
  have hRI := h.2.2.2.2.2.1
  have hc := h.1.2.2.2.2
  have hGc := h.2.2.2.2.1.2.2
  have htG := hRI.cnt
  have hR := h.1.1.rg
  intro f
  induction f with
  | zero => intros; omega
  | succ f ih =>
    intro i h1 h2 hs
    unfold F_X9_complete_41
    refine r_seqCount hRI.1.2.2.2.2.2.2 ?_
    rw [bq (x := (i : Int)) (by omega) (by omega), bq (x := (t : Int)) (by omega) (by omega)]
    refine ⟨fun c9 => ?_, fun c9 => ?_⟩
    · have hi : i < t := by omega
      obtain ⟨s1, s2⟩ := h.sqn hi
      obtain ⟨o1, o2⟩ := h.cls hi
      refine r_ranked i (by omega) ?_
      rw [s1]
      refine r_owner (sq M i) (by omega) ?_
      rw [o1]
      refine r_choice (ow M (sq M i)) (by omega) ?_
      obtain ⟨i', b1, b2, b3, b4, b5⟩ := h.first hi
      have hi' : i' < t := by omega
      have s2' := (h.sqn hi').2
      rw [hR.b, bq (x := ((sq M i : Nat) : Int)) (by omega) (by omega)]
      unfold F_X9_complete_100
      rw [show (i : Int) + 1 = ((i + 1 : Nat) : Int) by omega]
      refine ⟨fun hcho => ?_, fun hcho => ?_⟩
      · refine ih (i + 1) (by omega) (by omega) (fun q hq => ?_)
        by_cases e : q = i
        · subst e
          exact fun hn => absurd hcho.symm hn
        · exact hs q (by omega)
      · refine r_tooLarge hR (sq M i) (by omega) (fun hT => ⟨fun c8 => absurd c8 (by decide), fun _ => k2 (fun hall => (hall i hi (fun e => hcho e.symm)).1 hT)⟩) (fun hT => ⟨fun _ => ?_, fun c8 => absurd rfl c8⟩)
        rw [b2]
        refine r_tooLarge hR (sq M i') (by omega) (fun hT' => ⟨fun c8 => absurd c8 (by decide), fun _ => k2 (fun hall => (hall i hi (fun e => hcho e.symm)).2 (by rw [b2]; exact hT'))⟩) (fun hT' => ⟨fun _ => ?_, fun c8 => absurd rfl c8⟩)
        refine ih (i + 1) (by omega) (by omega) (fun q hq => ?_)
        by_cases e : q = i
        · subst e
          exact fun _ => ⟨hT, by rw [b2]; exact hT'⟩
        · exact hs q (by omega)
    · have hit : i = t := by omega
      exact k1 (fun q hq => hs q (by omega))
end W1
