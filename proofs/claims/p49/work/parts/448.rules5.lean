section T8
theorem YI.add {M0 M : g_M} {n r0 r i y : Nat} {Y : Nat → Nat} (hY : YI M0 M n r0 i Y) (hr : r0 ≤ r) (hy : y < n) (hN : NO M y (gs M0 (sq M0 i)) (mA M (sq M0 i)) (mB M (sq M0 i)) (-1)) (hnew : ∀ a, a < i → mad M0 a → Y a ≠ y) (hc : cho M0 i → M 23 (ow M0 (sq M0 i)) = (y : Int)) (hn : ¬ cho M0 i → ∃ q, q < r ∧ M 59 q = (y : Int) ∧ M 60 q = M 23 (ow M0 (sq M0 i))) (hq : ∀ q, r0 ≤ q → q < r → ¬ cho M0 i ∧ M 59 q = (y : Int) ∧ M 60 q = M 23 (ow M0 (sq M0 i))) : YI M0 M n r (i + 1) (fun a => if a = i then y else Y a) := by
  obtain ⟨y1, y2, y3⟩ := hY
  have s1 : ∀ a, a ≠ i → (if a = i then y else Y a) = Y a := fun a h => if_neg h
  have s2 : (if i = i then y else Y i) = y := if_pos rfl
  refine ⟨fun a ha hma => ?_, fun a b ha hb h1 h2 e => ?_, fun q hqr => ?_⟩
  · show (if a = i then y else Y a) < n ∧ NO M (if a = i then y else Y a) _ _ _ _ ∧ (cho M0 a → M 23 (ow M0 (sq M0 a)) = (((if a = i then y else Y a) : Nat) : Int)) ∧ (¬ cho M0 a → ∃ q, q < r ∧ M 59 q = (((if a = i then y else Y a) : Nat) : Int) ∧ M 60 q = M 23 (ow M0 (sq M0 a)))
    by_cases e : a = i
    · subst e
      rw [s2]
      exact ⟨hy, hN, hc, hn⟩
    · rw [s1 a e]
      obtain ⟨b1, b2, b3, b4⟩ := y1 a (by omega) hma
      refine ⟨b1, b2, b3, fun h => ?_⟩
      obtain ⟨q, q1, q2⟩ := b4 h
      exact ⟨q, by omega, q2⟩
  · replace e : (if a = i then y else Y a) = (if b = i then y else Y b) := e
    by_cases ea : a = i
    · by_cases eb : b = i
      · omega
      · rw [ea, s2, s1 b eb] at e
        exact absurd e.symm (hnew b (by omega) h2)
    · by_cases eb : b = i
      · rw [eb, s2, s1 a ea] at e
        exact absurd e (hnew a (by omega) h1)
      · rw [s1 a ea, s1 b eb] at e
        exact y2 a b (by omega) (by omega) h1 h2 e
  · show ∃ a, a < i + 1 ∧ ¬ cho M0 a ∧ M 59 q = (((if a = i then y else Y a) : Nat) : Int) ∧ M 60 q = M 23 (ow M0 (sq M0 a))
    rcases Nat.lt_or_ge q r0 with h | h
    · obtain ⟨a, a1, a2, a3, a4⟩ := y3 q h
      exact ⟨a, by omega, a2, by rw [s1 a (by omega)]; exact a3, a4⟩
    · obtain ⟨h1, h2, h3⟩ := hq q h hqr
      exact ⟨i, by omega, h1, by rw [s2]; exact h2, h3⟩
end T8
