section R0
def ucn (U : Nat → Bool) (q : Nat) : Nat → Nat
  | 0 => 0
  | j + 1 => ucn U q j + if U (3 * q + j) = true then 1 else 0
theorem ucn_zero {U : Nat → Bool} {q : Nat} : ∀ r, ucn U q r = 0 ↔ ∀ j, j < r → U (3 * q + j) = false
  | 0 => ⟨fun _ j h => absurd h (by omega), fun _ => rfl⟩
  | r + 1 => by
    have h := ucn_zero (U := U) (q := q) r
    show ucn U q r + (if U (3 * q + r) = true then 1 else 0) = 0 ↔ _
    cases hu : U (3 * q + r)
    · rw [if_neg (by decide)]
      refine ⟨fun h1 j hj => ?_, fun h1 => ?_⟩
      · by_cases hjr : j = r
        · rw [hjr]
          exact hu
        · exact h.1 (by omega) j (by omega)
      · have := h.2 (fun j hj => h1 j (by omega))
        omega
    · rw [if_pos rfl]
      refine ⟨fun h1 => absurd h1 (by omega), fun h1 => ?_⟩
      have := h1 r (by omega)
      rw [hu] at this
      exact absurd this (by decide)
theorem ucn_same {U U' : Nat → Bool} {q : Nat} : ∀ r, (∀ j, j < r → U' (3 * q + j) = U (3 * q + j)) → ucn U' q r = ucn U q r
  | 0, _ => rfl
  | r + 1, h => by
    have h1 := ucn_same r (fun j hj => h j (by omega))
    show ucn U' q r + (if U' (3 * q + r) = true then 1 else 0) = ucn U q r + (if U (3 * q + r) = true then 1 else 0)
    rw [h1, h r (by omega)]
theorem ucn_drop {U U' : Nat → Bool} {q j0 : Nat} (h0 : U (3 * q + j0) = true) (h1 : U' (3 * q + j0) = false) : ∀ r, j0 < r → (∀ j, j < r → j ≠ j0 → U' (3 * q + j) = U (3 * q + j)) → ucn U q r = ucn U' q r + 1
  | 0, h, _ => absurd h (by omega)
  | r + 1, h, h2 => by
    show ucn U q r + (if U (3 * q + r) = true then 1 else 0) = ucn U' q r + (if U' (3 * q + r) = true then 1 else 0) + 1
    by_cases hr : j0 = r
    · subst hr
      rw [ucn_same (U := U) (U' := U') j0 (fun j hj => h2 j (by omega) (by omega)), h0, h1]
      rfl
    · rw [ucn_drop h0 h1 r (by omega) (fun j hj => h2 j (by omega)), h2 r (by omega) (fun e => hr e.symm)]
      omega
theorem ucn_le {U : Nat → Bool} {q : Nat} : ∀ r, ucn U q r ≤ r
  | 0 => Nat.le_refl _
  | r + 1 => by
    have := ucn_le (U := U) (q := q) r
    show ucn U q r + (if U (3 * q + r) = true then 1 else 0) ≤ r + 1
    split <;> omega
def sq (M : g_M) (i : Nat) : Nat := (M 22 i).toNat
def outM (M : g_M) (t q : Nat) : Prop := ∃ i, i < t ∧ M 22 i = (q : Int)
def EN (M : g_M) (G q : Nat) : Prop := q < G ∧ M 13 q = 0
def WQ (M : g_M) (q : Nat) : Prop := (M 16 q = wS M q ∧ M 17 q = zS M q ∧ M 18 q = dS M q) ∧ in20 (M 16 q) ∧ in20 (M 17 q) ∧ in20 (M 18 q)
/-- the class's least production -/
def CH (M : g_M) (t c : Nat) : Prop := (M 20 c = -1 ∧ ∀ i, i < t → M 10 (sq M i) ≠ (c : Int)) ∨ ∃ i, i < t ∧ M 20 c = M 22 i ∧ M 10 (sq M i) = (c : Int) ∧ M 21 c = (i : Int) ∧ ∀ i', i' < i → M 10 (sq M i') ≠ (c : Int)
def rdy (M : g_M) (G q i : Nat) : Prop := q < G ∧ ∀ j, j < arN (gs M q) → M 20 (gp M q j) ≠ -1 ∧ M 21 (gp M q j) < (i : Int)
def RI (M : g_M) (C G n t : Nat) (U : Nat → Bool) : Prop :=
  (RG M ∧ SY M ∧ GS M C G ∧ LK M C G (3 * G) ∧ (M 44 19 = 0 ∨ M 44 19 = 1) ∧ M 44 17 = (n : Int) ∧ M 44 18 = (t : Int)) ∧
  (∀ q, q < G → M 13 q = ((ucn U q (arN (gs M q)) : Nat) : Int)) ∧
  (HO (KY M) (EN M G) M n ∧ CM M (EN M G) C G) ∧
  ((∀ i, i < t → M 22 i = ((sq M i : Nat) : Int) ∧ EN M G (sq M i)) ∧ (∀ i j, i < t → j < t → M 22 i = M 22 j → i = j)) ∧
  ((∀ q, EN M G q ↔ inH M n q ∨ outM M t q) ∧ ∀ q, inH M n q → ¬ outM M t q) ∧
  (∀ q, EN M G q → WQ M q) ∧
  (∀ c, c < C → CH M t c) ∧
  ∀ i, i < t → (∀ j, j < arN (gs M (sq M i)) → M 21 (gp M (sq M i) j) < (i : Int)) ∧ ∀ q, rdy M G q i → (∀ i', i' < i → M 22 i' ≠ (q : Int)) → KY M (sq M i) ≤ KY M q
/-- slots that wait -/
def LU (M : g_M) (G : Nat) (U : Nat → Bool) (c x : Int) : Prop := ∀ s, vs M G s → (U s = true ↔ M 20 (M 12 s).toNat = -1 ∨ M 12 s = c ∧ (s : Int) ≤ x)
theorem vs_mk {M : g_M} {G q j : Nat} (hq : q < G) (hj : j < arN (gs M q)) : vs M G (3 * q + j) := by
  have hr := arN_le (gs M q)
  refine ⟨by omega, ?_⟩
  rw [show (3 * q + j) / 3 = q by omega, show (3 * q + j) % 3 = j by omega]
  exact hj
theorem KY.cong' {M M' : g_M} {k : Nat} (h11 : M' 11 = M 11) (h12 : M' 12 = M 12) (h52 : M' 52 = M 52) (h54 : M' 54 = M 54) (h16 : M' 16 k = M 16 k) (h21 : ∀ j, j < arN (gs M k) → M' 21 (gp M k j) = M 21 (gp M k j)) : KY M' k = KY M k := by
  have egs : gs M' k = gs M k := by unfold gs; rw [h11]
  have egp : ∀ j, gp M' k j = gp M k j := fun j => by unfold gp; rw [h12]
  have hr := arN_le (gs M k)
  have e1 : q1 M' k = q1 M k := by
    unfold q1
    rw [egs, egp, egp, h54]
    by_cases a0 : arN (gs M k) = 0
    · rw [if_pos a0, if_pos a0]
    · rw [if_neg a0, if_neg a0, h21 0 (by omega)]
      by_cases a1 : arN (gs M k) = 1
      · rw [if_pos a1, if_pos a1]
      · rw [if_neg a1, if_neg a1, h21 1 (by omega)]
  have e2 : q2 M' k = q2 M k := by
    unfold q2
    rw [egs, egp, egp, h54]
    by_cases a0 : arN (gs M k) = 0
    · rw [if_pos a0, if_pos a0]
    · rw [if_neg a0, if_neg a0, h21 0 (by omega)]
      by_cases a1 : arN (gs M k) = 1
      · rw [if_pos a1, if_pos a1]
      · rw [if_neg a1, if_neg a1, h21 1 (by omega)]
  unfold KY
  rw [e1, e2, h16, egs, h52]
theorem sS_cong {M M' : g_M} {r k : Nat} (h12 : M' 12 = M 12) : ∀ j, (∀ j', j' < j → M' 20 (gp M k j') = M 20 (gp M k j') ∧ M' r (pk M k j') = M r (pk M k j')) → sS M' r k j = sS M r k j
  | 0, _ => rfl
  | j + 1, h => by
    have h1 := sS_cong h12 j (fun j' hj' => h j' (by omega))
    obtain ⟨h2, h3⟩ := h j (by omega)
    have e : pk M' k j = pk M k j := by unfold pk; rw [show gp M' k j = gp M k j by unfold gp; rw [h12], h2]
    show sS M' r k j + M' r (pk M' k j) = sS M r k j + M r (pk M k j)
    rw [h1, e, h3]
theorem sD_cong {M M' : g_M} {k : Nat} (h12 : M' 12 = M 12) : ∀ j, (∀ j', j' < j → M' 20 (gp M k j') = M 20 (gp M k j') ∧ M' 18 (pk M k j') = M 18 (pk M k j')) → sD M' k j = sD M k j
  | 0, _ => rfl
  | j + 1, h => by
    have h1 := sD_cong h12 j (fun j' hj' => h j' (by omega))
    obtain ⟨h2, h3⟩ := h j (by omega)
    have e : pk M' k j = pk M k j := by unfold pk; rw [show gp M' k j = gp M k j by unfold gp; rw [h12], h2]
    show max (sD M' k j) (M' 18 (pk M' k j)) = max (sD M k j) (M 18 (pk M k j))
    rw [h1, e, h3]
theorem w_cong {M M' : g_M} {k : Nat} (h11 : M' 11 = M 11) (h12 : M' 12 = M 12) (h51 : M' 51 = M 51) (h44 : M' 44 19 = M 44 19) (h : ∀ j, j < arN (gs M k) → M' 20 (gp M k j) = M 20 (gp M k j) ∧ M' 16 (pk M k j) = M 16 (pk M k j) ∧ M' 17 (pk M k j) = M 17 (pk M k j) ∧ M' 18 (pk M k j) = M 18 (pk M k j)) : wS M' k = wS M k ∧ zS M' k = zS M k ∧ dS M' k = dS M k := by
  have egs : gs M' k = gs M k := by unfold gs; rw [h11]
  unfold wS zS dS
  rw [egs, h51, h44, sS_cong h12 _ (fun j hj => ⟨(h j hj).1, (h j hj).2.1⟩), sS_cong h12 _ (fun j hj => ⟨(h j hj).1, (h j hj).2.2.1⟩), sD_cong h12 _ (fun j hj => ⟨(h j hj).1, (h j hj).2.2.2⟩)]
  exact ⟨rfl, rfl, rfl⟩
theorem WQ.cong {M M' : g_M} {k : Nat} (hw : WQ M k) (h11 : M' 11 = M 11) (h12 : M' 12 = M 12) (h51 : M' 51 = M 51) (h44 : M' 44 19 = M 44 19) (hk : M' 16 k = M 16 k ∧ M' 17 k = M 17 k ∧ M' 18 k = M 18 k) (h : ∀ j, j < arN (gs M k) → M' 20 (gp M k j) = M 20 (gp M k j) ∧ M' 16 (pk M k j) = M 16 (pk M k j) ∧ M' 17 (pk M k j) = M 17 (pk M k j) ∧ M' 18 (pk M k j) = M 18 (pk M k j)) : WQ M' k := by
  obtain ⟨e1, e2, e3⟩ := w_cong h11 h12 h51 h44 h
  obtain ⟨k1, k2, k3⟩ := hk
  unfold WQ
  rw [e1, e2, e3, k1, k2, k3]
  exact hw
theorem w_in {M : g_M} {G k : Nat} (hSY : SY M) (hs : gs M k < 5) (hq : PQ M G k) : in20 (wS M k) ∧ in20 (zS M k) ∧ in20 (dS M k) := by
  have r16 := sS_in (M := M) (r := 16) (k := k) (arN (gs M k)) (fun j' hj' => (hq j' hj').2.2.1)
  have r17 := sS_in (M := M) (r := 17) (k := k) (arN (gs M k)) (fun j' hj' => (hq j' hj').2.2.2.1)
  have r18 := sD_in (M := M) (k := k) (arN (gs M k)) (fun j' hj' => (hq j' hj').2.2.2.2)
  have hw9 := hSY.2.2.1 (gs M k) hs
  unfold wS zS dS in20 at *
  refine ⟨?_, by omega, by omega⟩
  split <;> omega
/-- a chosen class's production is out -/
theorem CH.out {M : g_M} {t c : Nat} (h : CH M t c) (hc : M 20 c ≠ -1) : ∃ i, i < t ∧ M 20 c = M 22 i ∧ M 10 (sq M i) = (c : Int) ∧ M 21 c = (i : Int) := by
  rcases h with h | ⟨i, h1, h2, h3, h4, -⟩
  · exact absurd h.1 hc
  · exact ⟨i, h1, h2, h3, h4⟩
/-- an entered production's parts are chosen -/
theorem RI.parts {M : g_M} {C G n t : Nat} {U : Nat → Bool} {c x : Int} (h : RI M C G n t U) (hU : LU M G U c x) {q j : Nat} (hq : EN M G q) (hj : j < arN (gs M q)) : M 20 (gp M q j) ≠ -1 := by
  obtain ⟨-, hw, -⟩ := h
  have e := hw q hq.1
  rw [hq.2] at e
  have h0 := (ucn_zero (U := U) (q := q) (arN (gs M q))).1 (by omega) j hj
  have h1 := hU (3 * q + j) (vs_mk hq.1 hj)
  rw [h0] at h1
  intro h9
  exact absurd (h1.2 (Or.inl h9)) (by decide)
end R0
