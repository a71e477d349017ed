section R6
def TQ (M0 M : g_M) (n a : Nat) : Prop := ∃ x : Nat, x < n ∧ M0 7 a = (x : Int) ∧ M 10 a = (a : Int) ∧ M 11 a = M0 0 x ∧ ∀ j, j < arN (sg M0 x) → ∃ i' : Nat, i' < a ∧ M 12 (3 * a + j) = (i' : Int) ∧ M0 7 i' = M0 1 (3 * x + j)
theorem r_take_37 {Q : g_M → Prop} {k10 : Int → g_M → Prop} {n m c i x : Nat} {M0 : g_M} (hc : c ≤ 1000) (hW : WF M0 n m) (hK : WK M0 n c) (hi : i < c) (hx : x < n) (ex : M0 7 i = (x : Int)) :
    ∀ (f j : Nat) (M : g_M), j ≤ arN (sg M0 x) → arN (sg M0 x) - j < f → RG M → SM [10, 11, 12, 44] M0 M → M 11 i = M0 0 x → (∀ j', j' < j → ∃ i' : Nat, i' < i ∧ M 12 (3 * i + j') = (i' : Int) ∧ M0 7 i' = M0 1 (3 * x + j')) →
    (∀ M', RG M' → SM [12] M M' → (∀ z, z < 3 * i → M' 12 z = M 12 z) → (∀ j', j' < arN (sg M0 x) → ∃ i' : Nat, i' < i ∧ M' 12 (3 * i + j') = (i' : Int) ∧ M0 7 i' = M0 1 (3 * x + j')) → k10 ((i + 1 : Nat) : Int) M') → F_X2_takeTerms_37 Q k10 f i i j M := by
  have hr := arN_le (sg M0 x)
  have h0x := hW.st.2.1 x hx
  intro f
  induction f with
  | zero => intros; omega
  | succ f ih =>
    intro j M h1 h2 hR hS h11 hp k
    have hW' := hW.cong hR hS (by decide)
    have hK' : WK M n c := hK.cong hW.st (Nat.le_refl _) (EX.of (hS 0 (by decide)) (hS 1 (by decide)) (hS 2 (by decide))) (hS 6 (by decide)) (hS 7 (by decide)) (by rw [hS 43 (by decide)])
    unfold F_X2_takeTerms_37
    refine r_gArity' hW'.sy i (by omega) (by rw [h11]; exact h0x) ?_
    have egs : gs M i = sg M0 x := by unfold gs sg; rw [h11]
    have esg : sg M x = sg M0 x := by unfold sg; rw [hS 0 (by decide)]
    rw [egs, bq (x := (j : Int)) (by omega) (by omega), bq (x := (arN (sg M0 x) : Int)) (by omega) (by omega)]
    have b1 : j < arN (sg M0 x) → j + 1 ≤ arN (sg M0 x) ∧ arN (sg M0 x) - (j + 1) < f := fun h => by omega
    refine ⟨fun c9 => ?_, fun c9 => ?_⟩
    · have hj : j < arN (sg M0 x) := by omega
      refine r_partOf hW' hK' i x j hi (by rw [hS 7 (by decide)]; exact ex) (by rw [esg]; exact hj) (fun i' hi' e => ?_)
      rw [hS 7 (by decide), hS 1 (by decide)] at e
      refine r_setPart (by omega) (by omega) ?_
      rw [show (j : Int) + 1 = ((j + 1 : Nat) : Int) by omega]
      have hS1 : SM [12] M (up M 12 (3 * i + j) (i' : Int)) := (SM.rf _ _).u (by decide)
      have v12 : ∀ y, up M 12 (3 * i + j) (i' : Int) 12 y = if y = 3 * i + j then (i' : Int) else M 12 y := fun y => by rw [upi]; simp
      refine ih (j + 1) _ (b1 hj).1 (b1 hj).2 (hR.u (by omega) (by omega)) (hS.tr (hS1.mono (by decide))) (by rw [hS1 11 (by decide)]; exact h11) (fun j' hj' => ?_) (fun M' g1 g2 g3 g4 => k M' g1 (hS1.tr g2) (fun y hy => ?_) g4)
      · rw [v12]
        by_cases hjj : j' = j
        · subst hjj
          rw [if_pos rfl]
          exact ⟨i', hi', rfl, e⟩
        · rw [if_neg (fun h => hjj (Nat.add_left_cancel h))]
          exact hp j' (by omega)
      · rw [g3 y hy, v12, if_neg (by omega)]
    · rw [show (i : Int) + 1 = ((i + 1 : Nat) : Int) by omega]
      have hj : j = arN (sg M0 x) := by omega
      rw [hj] at hp
      exact k M hR (SM.rf _ _) (fun _ _ => rfl) hp
theorem r_take_10 {Q : g_M → Prop} {n m c : Nat} {M0 : g_M} (hc : c ≤ 1000) (hW : WF M0 n m) (hK : WK M0 n c)
    (k : ∀ M' : g_M, RG M' → SM [10, 11, 12, 44] M0 M' → (∀ j, M' 44 j = if j = 16 then (c : Int) else if j = 15 then (c : Int) else M0 44 j) → (∀ a, a < c → TQ M0 M' n a) → Q M') :
    ∀ (f i : Nat) (M : g_M), i ≤ c → c - i < f → RG M → SM [10, 11, 12, 44] M0 M → (∀ j, M 44 j = if j = 16 then (i : Int) else if j = 15 then (c : Int) else M0 44 j) → (∀ a, a < i → TQ M0 M n a) → F_X2_takeTerms_10 Q f i M := by
  intro f
  induction f with
  | zero => intros; omega
  | succ f ih =>
    intro i M h1 h2 hR hS h44 hP
    have t5 := hW.st.1.2.2.2.2
    have hcn := hK.2.1
    unfold F_X2_takeTerms_10
    refine r_count (c := c) (by rw [hS 43 (by decide)]; exact hK.1) ?_
    rw [bq (x := (i : Int)) (by omega) (by omega), bq (x := (c : Int)) (by omega) (by omega)]
    refine ⟨fun c9 => ?_, fun c9 => ?_⟩
    · have hi : i < c := by omega
      obtain ⟨x, x1, x2, -⟩ := hK.2.2 i hi
      have h0x := hW.st.2.1 x x1
      refine r_node i (by omega) ?_
      rw [hS 7 (by decide), x2]
      refine r_symbol x (by omega) ?_
      rw [hS 0 (by decide)]
      refine r_addProduction (g := i) (by omega) (by rw [h44, if_pos rfl]) (by omega) (by omega) hR (fun M1 g1 g2 g3 g4 g5 => ⟨4, ?_⟩)
      refine r_take_37 hc hW hK hi x1 x2 4 0 M1 (by omega) (by have := arN_le (sg M0 x); omega) g1 (hS.tr (g2.mono (by decide))) (by rw [g4, if_pos rfl]) (fun j' h => absurd h (by omega)) (fun M2 p1 p2 p3 p4 => ?_)
      refine ih (i + 1) M2 (by omega) (by omega) p1 ((hS.tr (g2.mono (by decide))).tr (p2.mono (by decide))) (fun j => ?_) (fun a ha => ?_)
      · rw [p2 44 (by decide), g5, h44]
        by_cases hj : j = 16
        · rw [if_pos hj, if_pos hj]
        · rw [if_neg hj, if_neg hj, if_neg hj]
      · by_cases hai : a = i
        · subst hai
          exact ⟨x, x1, x2, by rw [p2 10 (by decide), g3, if_pos rfl], by rw [p2 11 (by decide), g4, if_pos rfl], p4⟩
        · obtain ⟨y, y1, y2, y3, y4, y5⟩ := hP a (by omega)
          refine ⟨y, y1, y2, by rw [p2 10 (by decide), g3, if_neg hai, y3], by rw [p2 11 (by decide), g4, if_neg hai, y4], fun j hj => ?_⟩
          have hr := arN_le (sg M0 y)
          rw [p3 _ (by omega), g2 12 (by decide)]
          exact y5 j hj
    · have hic : i = c := by omega
      subst hic
      exact k M hR hS h44 hP
/-- the walk's own terms as a grammar -/
theorem r_takeTerms {Q : g_M → Prop} {n m c : Nat} {M : g_M} (hc : c ≤ 1000) (hW : WF M n m) (hK : WK M n c)
    (k : ∀ M' : g_M, RG M' → SM [10, 11, 12, 44] M M' → (∀ j, j ≠ 15 → j ≠ 16 → M' 44 j = M 44 j) → GS M' c c → (∀ a, a < c → TQ M M' n a) → Q M') : F_X2_takeTerms Q M := by
  unfold F_X2_takeTerms
  refine r_count hK.1 (r_clearG ⟨c + 1, ?_⟩)
  have t5 := hW.st.1.2.2.2.2
  have hcn := hK.2.1
  have hS1 : SM [44] M (up (up M 44 15 (c : Int)) 44 16 0) := ((SM.rf _ _).u (by decide)).u (by decide)
  refine r_take_10 hc hW hK (fun M' g1 g2 g3 g4 => k M' g1 g2 (fun j h15 h16 => by rw [g3, if_neg h16, if_neg h15]) ⟨by rw [g3]; simp, by rw [g3]; simp, fun q hq => ?_⟩ g4) (c + 1) 0 _ (by omega) (by omega) ((hW.rg.u (by omega) (by omega)).u (by omega) (by omega)) (hS1.mono (by decide)) (fun j => ?_) (fun a h => absurd h (by omega))
  · obtain ⟨x, x1, x2, x3, x4, x5⟩ := g4 q hq
    have h0x := hW.st.2.1 x x1
    rw [x3, x4]
    refine ⟨by clear x5; omega, h0x, fun j hj => ?_⟩
    have egs : gs M' q = sg M x := by unfold gs sg; rw [x4]
    rw [egs] at hj
    obtain ⟨i', i1, i2, -⟩ := x5 j hj
    rw [i2]
    clear x5
    omega
  · rw [upi, upi]
    by_cases hj : j = 16
    · rw [if_pos ⟨rfl, hj⟩, if_pos hj]
      rfl
    · rw [if_neg (fun e => hj e.2), if_neg hj]
      by_cases hj2 : j = 15
      · rw [if_pos ⟨rfl, hj2⟩, if_pos hj2]
      · rw [if_neg (fun e => hj2 e.2), if_neg hj2]
end R6
