section S5
/-- the value of a node of the walk -/
def vv (M : g_M) (z : Nat) : Int := M 8 (M 6 z).toNat
def vA (M : g_M) (x : Nat) : Int := if 0 < ax M x then vv M (pn M x 0) else -1
def vB (M : g_M) (x : Nat) : Int := if 1 < ax M x then vv M (pn M x 1) else -1
theorem r_rebuild {M : g_M} {Q : Int → g_M → Prop} {n m c : Nat} (hW : WF M n m) (hn : n < 3000) (hK : WK M n c) (a x : Nat) (ha : a < c) (hx : x < n) (ex : M 7 a = (x : Int)) (hv : ∀ i, i < a → 0 ≤ M 8 i ∧ M 8 i < (n : Int))
    (k : ∀ (y n' : Nat) (M' : g_M), WF M' n' m → n ≤ n' → n' ≤ n + 1 → y < n' → (n' = n → M' = M) → (n < n' → y = n ∧ ∀ z, z < n → ¬ NO M z (sg M x) (vA M x) (vB M x) (-1)) → EX n M M' → NO M' y (sg M x) (vA M x) (vB M x) (-1) → SM [0, 1, 2, 4, 5, 42] M M' → Q y M') : F_X10_rebuild Q a M := by
  have hr : ax M x ≤ 2 := arN_le _
  have hcn := hK.2.1
  have h0x := hW.st.2.1 x hx
  have hs5 : sg M x < 5 := by unfold sg; omega
  have es : M 0 x = ((sg M x : Nat) : Int) := by unfold sg; omega
  have val : ∀ i' j, i' < a → M 7 i' = M 1 (3 * x + j) → j < ax M x → M 8 i' = vv M (pn M x j) := fun i' j h1 h2 h3 => by
    obtain ⟨z, z1, z2, z3, -⟩ := hK.2.2 i' (by omega)
    have e : pn M x j = z := by unfold pn; omega
    unfold vv
    rw [e, z3, Int.toNat_natCast]
  have rng : ∀ j, j < ax M x → 0 ≤ vv M (pn M x j) ∧ vv M (pn M x j) < (n : Int) := fun j hj => by
    obtain ⟨y, y1, y2, y3, y4⟩ := hK.2.2 a ha
    have : y = x := by omega
    subst this
    obtain ⟨i', h1, h2⟩ := y4 j hj
    rw [← val i' j h1 h2 hj]
    exact hv i' h1
  have okA : okp n (arN (sg M x)) 0 (vA M x) := ⟨fun h => by unfold vA; rw [if_pos (show 0 < ax M x from h)]; exact rng 0 h, fun h => by unfold vA; rw [if_neg (show ¬ 0 < ax M x from h)]⟩
  have okB : okp n (arN (sg M x)) 1 (vB M x) := ⟨fun h => by unfold vB; rw [if_pos (show 1 < ax M x from h)]; exact rng 1 h, fun h => by unfold vB; rw [if_neg (show ¬ 1 < ax M x from h)]⟩
  have fin : F_X10_rebuild_87 Q x (vA M x) (vB M x) (-1) M := by
    unfold F_X10_rebuild_87
    refine r_symbol x (by omega) ?_
    rw [es]
    refine r_makeW hW hn (sg M x) hs5 _ _ _ okA okB ⟨fun h => by have : ax M x = arN (sg M x) := rfl; omega, fun _ => rfl⟩ (fun y n' M' g1 g2 g3 g4 g5 g6 g7 g8 g9 => k y n' M' g1 g2 g3 g4 g5 g6 g7 g8 g9)
  have hbr : bm (ax M x : Int) = (ax M x : Int) := bq (by omega) (by omega)
  have s63 : ∀ t0, t0 = vB M x → F_X10_rebuild_63 Q a x (ax M x) (vA M x) t0 M := fun t0 ht => by
    subst ht
    unfold F_X10_rebuild_63
    rw [hbr, show bm 2 = 2 by decide]
    exact ⟨fun c9 => absurd c9 (by omega), fun _ => fin⟩
  have s39 : ∀ t0, t0 = vA M x → F_X10_rebuild_39 Q a x (ax M x) t0 M := fun t0 ht => by
    subst ht
    unfold F_X10_rebuild_39
    rw [hbr, show bm 1 = 1 by decide]
    refine ⟨fun c9 => ?_, fun c9 => s63 _ ?_⟩
    · refine r_partOf hW hK a x 1 ha ex (show 1 < ax M x by omega) (fun i' h1 h2 => s63 _ ?_)
      rw [rgn i' (by omega), val i' 1 h1 h2 (by omega)]
      unfold vB
      rw [if_pos (by omega)]
    · unfold vB
      rw [if_neg (by omega)]
  unfold F_X10_rebuild
  rw [rgn a (by omega), ex]
  refine r_nodeArity hW.sy hW.st x hx ?_
  rw [show arN (sg M x) = ax M x from rfl, hbr]
  refine ⟨fun c9 => ?_, fun c9 => s39 _ ?_⟩
  · refine r_partOf hW hK a x 0 ha ex (show 0 < ax M x by omega) (fun i' h1 h2 => s39 _ ?_)
    rw [rgn i' (by omega), val i' 0 h1 h2 (by omega)]
    unfold vA
    rw [if_pos (by omega)]
  · unfold vA
    rw [if_neg (by omega)]
/-- the sum of the parts' tallies -/
def tl (M : g_M) (z : Nat) : Int := M 9 (M 6 z).toNat
def sT (M : g_M) (x : Nat) : Nat → Int
  | 0 => 0
  | j + 1 => sT M x j + tl M (pn M x j)
theorem r_sumOfParts {M : g_M} {Q : Int → g_M → Prop} {n m c : Nat} (hW : WF M n m) (hK : WK M n c) (a x : Nat) (ha : a < c) (hx : x < n) (ex : M 7 a = (x : Int)) (k : Q (sT M x (ax M x)) M) : F_X10_sumOfParts Q a M := by
  have hr : ax M x ≤ 2 := arN_le _
  have hcn := hK.2.1
  have t5 := hW.st.1.2.2.2.2
  have loop : ∀ f j, j ≤ ax M x → ax M x - j < f → F_X10_sumOfParts_4 Q f a (sT M x j) j M := by
    intro f
    induction f with
    | zero => intros; omega
    | succ f ih =>
      intro j h1 h2
      unfold F_X10_sumOfParts_4
      rw [rgn a (by omega), ex]
      refine r_nodeArity hW.sy hW.st x hx ?_
      rw [show arN (sg M x) = ax M x from rfl, bq (x := (j : Int)) (by omega) (by omega), bq (x := (ax M x : Int)) (by omega) (by omega)]
      refine ⟨fun c9 => ?_, fun c9 => ?_⟩
      · refine r_partOf hW hK a x j ha ex (show j < ax M x by omega) (fun i' e1 e2 => ?_)
        obtain ⟨z, z1, z2, z3, -⟩ := hK.2.2 i' (by omega)
        have e : pn M x j = z := by unfold pn; omega
        have et : M 9 i' = tl M (pn M x j) := by unfold tl; rw [e, z3, Int.toNat_natCast]
        rw [rgn i' (by omega), et, show (j : Int) + 1 = ((j + 1 : Nat) : Int) by omega]
        exact ih (j + 1) (by omega) (by omega)
      · rw [show j = ax M x by omega]
        exact k
  unfold F_X10_sumOfParts
  exact ⟨4, loop 4 0 (by omega) (by omega)⟩
end S5
