section R2
theorem r_rank_158 {M0 : g_M} {Q : g_M → Prop} {k63 : Int → g_M → Prop} {C G t c : Nat} (hG1 : G ≤ 900) (hC : C ≤ 900) (ht : t < G) (hc : c < C)
    (kk : ∀ (M' : g_M) (n' : Nat) (U' : Nat → Bool), RI M' C G n' (t + 1) U' → LU M' G U' c (-1) → SM [13, 16, 17, 18, 19, 44] M0 M' → (∀ j, j ≠ 17 → M' 44 j = M0 44 j) → k63 ((t + 1 : Nat) : Int) M') :
    ∀ (f : Nat) (x5 : Int) (i n : Nat) (U : Nat → Bool) (M : g_M), RI M C G n (t + 1) U → LU M G U c x5 → M 20 c ≠ -1 → M 21 c = (t : Int) → (x5 = -1 ∨ ∃ s : Nat, x5 = (s : Int) ∧ vs M G s ∧ M 12 s = (c : Int)) → x5 + 1 < f → (i : Int) + x5 + 1 ≤ 3 * G → SM [13, 16, 17, 18, 19, 44] M0 M → (∀ j, j ≠ 17 → M 44 j = M0 44 j) → F_X2_rank_158 Q k63 f t x5 i M := by
  intro f
  induction f with
  | zero =>
    intro x5 i n U M _ _ _ _ hx5 hf
    rcases hx5 with h | ⟨s, h, -⟩ <;> omega
  | succ f ih =>
    intro x5 i n U M hRI hU h20 h21 hx5 hf hi hS h44
    have h' := hRI
    obtain ⟨⟨a1, a2, a3, a4, a5, a6, a7⟩, b, -⟩ := h'
    have fin : x5 = -1 → F_X2_rank_210 Q k63 t M := fun e => by
      subst e
      unfold F_X2_rank_210
      rw [show (t : Int) + 1 = ((t + 1 : Nat) : Int) by omega]
      exact kk M n U hRI hU hS h44
    unfold F_X2_rank_158
    rcases hx5 with e | ⟨s, rfl, hv, hs⟩
    · subst e
      exact ⟨fun _ => fin rfl, fun c9 => absurd (by decide) c9⟩
    · have hsG : s < 3 * G := by have := hv.1; omega
      rw [bq (x := (s : Int)) (by omega) (by omega)]
      refine ⟨fun c9 => absurd c9 (by omega), fun _ => ?_⟩
      rw [a3.2.1, bq (x := (i : Int)) (by omega) (by omega), bq (x := 3 * (G : Int)) (by omega) (by omega)]
      refine ⟨fun _ => ?_, fun c9 => absurd c9 (by omega)⟩
      obtain ⟨q, hq⟩ : ∃ q, q = s / 3 := ⟨_, rfl⟩
      have eq3 : idiv (s : Int) 3 = (q : Int) := by rw [hq]; exact idivk s 3 (by omega) (by omega) (by omega)
      have hqG : q < G := by rw [hq]; exact hv.1
      have hj : s % 3 < arN (gs M q) := by rw [hq]; exact hv.2
      have hr := arN_le (gs M q)
      have es : 3 * q + s % 3 = s := by omega
      have hUs : U s = true := (hU s hv).2 (Or.inr ⟨hs, Int.le_refl _⟩)
      obtain ⟨U', hU'⟩ : ∃ U' : Nat → Bool, ∀ z, U' z = (U z && decide (z ≠ s)) := ⟨_, fun _ => rfl⟩
      have hU's : U' s = false := by rw [hU']; simp
      have hU'z : ∀ z, z ≠ s → U' z = U z := fun z hz => by rw [hU']; simp [hz]
      have hdrop : ucn U q (arN (gs M q)) = ucn U' q (arN (gs M q)) + 1 := ucn_drop (j0 := s % 3) (by rw [es]; exact hUs) (by rw [es]; exact hU's) _ hj (fun j _ hne => hU'z _ (by omega))
      have hoth : ∀ p, p ≠ q → ucn U' p (arN (gs M p)) = ucn U p (arN (gs M p)) := fun p hp => ucn_same _ (fun j hj' => hU'z _ (by have := arN_le (gs M p); omega))
      have hle := ucn_le (U := U) (q := q) (arN (gs M q))
      have e13 := b q hqG
      unfold F_X2_isReadyAfter
      rw [eq3, rgn (M := M) (r := 13) q (by omega), e13, hdrop, show (((ucn U' q (arN (gs M q)) + 1 : Nat)) : Int) - 1 = ((ucn U' q (arN (gs M q)) : Nat) : Int) by omega, rsk q rfl (by omega)]
      refine ⟨okk q rfl (by show q < 65536; omega), ?_⟩
      rw [rgn q (by omega), up1, bq (x := ((ucn U' q (arN (gs M q)) : Nat) : Int)) (by omega) (by omega)]
      generalize hM1 : up M 13 q ((ucn U' q (arN (gs M q)) : Nat) : Int) = M1
      have hS1 : SM [13] M M1 := by
        rw [← hM1]
        exact (SM.rf _ _).u (by decide)
      have hR1 : RG M1 := by
        rw [← hM1]
        exact a1.u (by omega) (by omega)
      have v13 : ∀ p, M1 13 p = if p = q then ((ucn U' q (arN (gs M q)) : Nat) : Int) else M 13 p := fun p => by rw [← hM1, upi]; simp
      have hw : ∀ p, p < G → M1 13 p = ((ucn U' p (arN (gs M p)) : Nat) : Int) := fun p hp => by
        rw [v13]
        by_cases hpq : p = q
        · rw [if_pos hpq, hpq]
        · rw [if_neg hpq, b p hp, hoth p hpq]
      have hnE : ¬ EN M G q := fun h => by
        have := h.2
        rw [e13, hdrop] at this
        omega
      obtain ⟨L1, L2, L3, L4⟩ := a4.2 s hsG hv
      have evs : ∀ z, vs M1 G z ↔ vs M G z := fun z => by unfold vs gs; rw [hS1 11 (by decide)]
      have hcn : (M 12 s).toNat = c := by omega
      have hLU : LU M1 G U' c (M 15 s - 1) := fun z hz => by
        rw [evs] at hz
        rw [hS1 12 (by decide), hS1 20 (by decide)]
        have h9 := hU z hz
        by_cases hzs : z = s
        · rw [hzs, hU's, hcn]
          refine ⟨fun h => absurd h (by decide), fun h => ?_⟩
          rcases h with h | ⟨-, h⟩
          · exact absurd h h20
          · omega
        · rw [hU'z z hzs, h9]
          constructor
          · rintro (h | ⟨h1, h2⟩)
            · exact Or.inl h
            · exact Or.inr ⟨h1, by have := L4 z (by omega) hz (by rw [h1, hs]); omega⟩
          · rintro (h | ⟨h1, h2⟩)
            · exact Or.inl h
            · exact Or.inr ⟨h1, by omega⟩
      have next : ∀ (M2 : g_M) (n2 : Nat), RI M2 C G n2 (t + 1) U' → LU M2 G U' c (M 15 s - 1) → SM [13, 16, 17, 18, 19, 44] M M2 → (∀ j, j ≠ 17 → M2 44 j = M 44 j) → F_X2_rank_191 Q k63 (F_X2_rank_158 Q k63 f) t s i M2 := fun M2 n2 g1 g2 g3 g4 => by
        unfold F_X2_rank_191
        rw [rgn s (by omega), g3 15 (by decide), show (i : Int) + 1 = ((i + 1 : Nat) : Int) by omega]
        have evs2 : ∀ z, vs M2 G z ↔ vs M G z := fun z => by unfold vs gs; rw [g3 11 (by decide)]
        refine ih (M 15 s - 1) (i + 1) n2 U' M2 g1 g2 (by rw [g3 20 (by decide)]; exact h20) (by rw [g3 21 (by decide)]; exact h21) ?_ (by omega) (by omega) (hS.tr g3) (fun j hj' => by rw [g4 j hj']; exact h44 j hj')
        rcases Int.lt_or_le 0 (M 15 s) with hp | hp
        · obtain ⟨l1, l2⟩ := L3 hp
          refine Or.inr ⟨(M 15 s - 1).toNat, by omega, (evs2 _).2 l1, ?_⟩
          rw [g3 12 (by decide), l2, hs]
        · exact Or.inl (by omega)
      refine ⟨fun h0 => ⟨fun c8 => absurd c8 (by decide), fun _ => ?_⟩, fun h0 => ⟨fun _ => ?_, fun c8 => absurd rfl c8⟩⟩
      · try rw [eq3]
        refine r_enterRI hG1 hC (by omega) hRI hU (fun i' hi' z hz hzc _ => ?_) hqG hnE hR1 hS1 hw (fun p => ?_) hLU (fun M2 g1 g2 g3 g4 => next M2 _ g1 g2 g3 g4)
        · rw [hzc, Int.toNat_natCast, h21]
          omega
        · unfold EN
          rw [v13]
          by_cases hpq : p = q
          · rw [if_pos hpq]
            exact ⟨fun _ => Or.inr hpq, fun _ => ⟨by omega, h0⟩⟩
          · rw [if_neg hpq]
            exact ⟨fun h => Or.inl h, fun h => by
              rcases h with h | h
              · exact h
              · exact absurd h hpq⟩
      · refine next M1 n (hRI.dec hR1 hS1 hw (fun p => ?_)) hLU (hS1.mono (by decide)) (fun j _ => by rw [hS1 44 (by decide)])
        unfold EN
        rw [v13]
        by_cases hpq : p = q
        · rw [if_pos hpq, hpq]
          exact ⟨fun h => absurd h.2 h0, fun h => absurd h hnE⟩
        · rw [if_neg hpq]
end R2
