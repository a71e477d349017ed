section T5
/-- the production is made into a term: a needed choice, or no choice -/
def cho (M : g_M) (i : Nat) : Prop := M 20 (ow M (sq M i)) = ((sq M i : Nat) : Int)
def mad (M : g_M) (i : Nat) : Prop := ¬ cho M i ∨ M 13 (ow M (sq M i)) = 1
/-- what the rules need of a ranking: choices are first, productions differ -/
def RK (M : g_M) (C G t : Nat) : Prop := GF M C G t ∧ t ≤ 29 ∧ (∀ i i', i < t → i' < t → sq M i = sq M i' → i = i') ∧
  (∀ i, i < t → ∀ j, j < arN (gs M (sq M i)) → ∃ i', i' < i ∧ cho M i' ∧ ow M (sq M i') = gp M (sq M i) j) ∧
  (∀ i, i < t → ∃ i', i' ≤ i ∧ cho M i' ∧ ow M (sq M i') = ow M (sq M i)) ∧
  (∀ i i', i < t → i' < t → cho M i → cho M i' → ow M (sq M i) = ow M (sq M i') → i = i') ∧
  ∀ p q, p < G → q < G → gs M p = gs M q → (∀ j, j < arN (gs M p) → gp M p j = gp M q j) → p = q
/-- the terms made so far: Y i is the node of the production at i -/
def YI (M0 M : g_M) (n r i : Nat) (Y : Nat → Nat) : Prop :=
  (∀ a, a < i → mad M0 a → Y a < n ∧ NO M (Y a) (gs M0 (sq M0 a)) (mA M (sq M0 a)) (mB M (sq M0 a)) (-1) ∧ (cho M0 a → M 23 (ow M0 (sq M0 a)) = ((Y a : Nat) : Int)) ∧ (¬ cho M0 a → ∃ q, q < r ∧ M 59 q = ((Y a : Nat) : Int) ∧ M 60 q = M 23 (ow M0 (sq M0 a)))) ∧
  (∀ a b, a < i → b < i → mad M0 a → mad M0 b → Y a = Y b → a = b) ∧
  ∀ q, q < r → ∃ a, a < i ∧ ¬ cho M0 a ∧ M 59 q = ((Y a : Nat) : Int) ∧ M 60 q = M 23 (ow M0 (sq M0 a))
end T5
