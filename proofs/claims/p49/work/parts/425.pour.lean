section R5
theorem r_gArity' {M : g_M} {Q : Int → g_M → Prop} (hSY : SY M) (k : Nat) (hk : k ≤ 1000) (h : 0 ≤ M 11 k ∧ M 11 k < 5) (kk : Q (arN (gs M k)) M) : F_X2_arity Q k M := by
  unfold F_X2_arity
  rw [rgn k (by omega), show M 11 k = ((gs M k : Nat) : Int) by unfold gs; omega]
  exact r_arity hSY (gs M k) (by unfold gs; omega) kk
theorem r_clearG {M : g_M} {Q : g_M → Prop} {c : Nat} (k : Q (up (up M 44 15 c) 44 16 0)) : F_X2_clear Q c M := by
  unfold F_X2_clear
  exact k
theorem r_addProduction {M : g_M} {Q : Int → g_M → Prop} {g : Nat} {o s : Int} (hg : g ≤ 1000) (h16 : M 44 16 = (g : Int)) (ho : -2147483648 ≤ o ∧ o ≤ 2147483647) (hs : -2147483648 ≤ s ∧ s ≤ 2147483647) (hR : RG M)
    (k : ∀ M', RG M' → SM [10, 11, 44] M M' → (∀ q, M' 10 q = if q = g then o else M 10 q) → (∀ q, M' 11 q = if q = g then s else M 11 q) → (∀ j, M' 44 j = if j = 16 then ((g + 1 : Nat) : Int) else M 44 j) → Q g M') : F_X2_addProduction Q o s M := by
  unfold F_X2_addProduction
  rw [h16]
  refine ⟨okk g rfl (by show g < 65536; omega), okk g rfl (by show g < 65536; omega), ?_⟩
  rw [rsk (M := M) g rfl (by omega), rsk g rfl (by omega), up3 (by decide), up3 (by decide), h16, show (g : Int) + 1 = ((g + 1 : Nat) : Int) by omega]
  refine k _ (((hR.u ho.1 ho.2).u hs.1 hs.2).u (by omega) (by omega)) ((((SM.rf _ _).u (by decide)).u (by decide)).u (by decide)) (fun q => ?_) (fun q => ?_) (fun j => ?_)
  · rw [upi, upi, upi]
    simp
  · rw [upi, upi, upi]
    simp
  · rw [upi, upi, upi]
    simp
theorem r_setPart {M : g_M} {Q : g_M → Prop} {g j : Nat} {v : Int} (hg : g ≤ 1000) (hj : j ≤ 2) (k : Q (up M 12 (3 * g + j) v)) : F_X2_setPart Q g j v M := by
  unfold F_X2_setPart
  refine ⟨okk (3 * g + j) (by omega) (by show 3 * g + j < 65536; omega), ?_⟩
  rw [rsk (i := 3 * (g : Int) + (j : Int)) (3 * g + j) (by omega) (by omega)]
  exact k
/-- production g of an entry q: owner, symbol, parts -/
def GQ (M : g_M) (g : Nat) (o s : Int) (pt : Nat → Int) : Prop := M 10 g = o ∧ M 11 g = s ∧ ∀ j, j < arN s.toNat → M 12 (3 * g + j) = pt j
def pl (M0 : g_M) (q j : Nat) : Int := M0 24 (M0 29 (3 * q + j)).toNat
def PG (M0 M : g_M) (P : Nat → Nat) (g i : Nat) : Prop := (∀ a, a < g → P a < i ∧ M0 27 (P a) = 0 ∧ GQ M a (M0 24 (P a)) (M0 28 (P a)) (pl M0 (P a))) ∧ (∀ a b, a < b → b < g → P a < P b) ∧ ∀ q, q < i → M0 27 q = 0 → ∃ a, a < g ∧ P a = q
theorem r_pour_66 {Q : g_M → Prop} {k13 : Int → g_M → Prop} {c i g : Nat} {M0 : g_M} (hc : c ≤ 1000) (hSY : SY M0) (hX : CX M0 c) (hL : CL M0 c) (hi : i < c) (hg : g ≤ i) :
    ∀ (f j : Nat) (M : g_M), j ≤ arN (M0 28 i).toNat → arN (M0 28 i).toNat - j < f → RG M → SM [10, 11, 12, 44] M0 M → M 11 g = M0 28 i → (∀ j', j' < j → M 12 (3 * g + j') = pl M0 i j') →
    (∀ M', RG M' → SM [12] M M' → (∀ z, z < 3 * g → M' 12 z = M 12 z) → (∀ j', j' < arN (M0 28 i).toNat → M' 12 (3 * g + j') = pl M0 i j') → k13 ((i + 1 : Nat) : Int) M') → F_X1_pourInto_66 Q k13 f i g j M := by
  obtain ⟨x0, x1⟩ := hX.2.2 i hi
  have hr := arN_le (M0 28 i).toNat
  intro f
  induction f with
  | zero => intros; omega
  | succ f ih =>
    intro j M h1 h2 hR hS h11 hp k
    have hSY' := hSY.cong (M' := M) (by rw [hS 41 (by decide)]) (by rw [hS 41 (by decide)]) (hS 50 (by decide)) (hS 51 (by decide)) (hS 52 (by decide)) (hS 53 (by decide)) (hS 54 (by decide))
    unfold F_X1_pourInto_66
    refine r_gArity' hSY' g (by omega) (by rw [h11]; exact x0) ?_
    have egs : gs M g = (M0 28 i).toNat := by unfold gs; rw [h11]
    rw [egs, bq (x := (j : Int)) (by omega) (by omega), bq (x := (arN (M0 28 i).toNat : Int)) (by omega) (by omega)]
    refine ⟨fun c9 => ?_, fun c9 => ?_⟩
    · obtain ⟨z, z1, z2⟩ := (x1 j (by omega)).1 (by omega)
      obtain ⟨l, l1, l2, -⟩ := hL z (by omega)
      rw [rgk (i := 3 * (i : Int) + (j : Int)) (3 * i + j) (by omega) (by omega), hS 29 (by decide), z2, rgn z (by omega), hS 24 (by decide)]
      have epl : pl M0 i j = M0 24 z := by unfold pl; rw [z2, Int.toNat_natCast]
      have hR24 := hR 24 z
      rw [hS 24 (by decide)] at hR24
      refine r_setPart (by omega) (by omega) ?_
      rw [show (j : Int) + 1 = ((j + 1 : Nat) : Int) by omega]
      have hS1 : SM [12] M (up M 12 (3 * g + j) (M0 24 z)) := (SM.rf _ _).u (by decide)
      have v12 : ∀ y, up M 12 (3 * g + j) (M0 24 z) 12 y = if y = 3 * g + j then M0 24 z else M 12 y := fun y => by rw [upi]; simp
      refine ih (j + 1) _ (by omega) (by omega) (hR.u hR24.1 hR24.2) (hS.tr (hS1.mono (by decide))) (by rw [hS1 11 (by decide)]; exact h11) (fun j' hj' => ?_) (fun M' g1 g2 g3 g4 => k M' g1 (hS1.tr g2) (fun y hy => ?_) g4)
      · rw [v12]
        by_cases hjj : j' = j
        · rw [if_pos (by omega), hjj, epl]
        · rw [if_neg (by omega)]
          exact hp j' (by omega)
      · rw [g3 y hy, v12, if_neg (by omega)]
    · unfold F_X1_pourInto_109
      rw [show (i : Int) + 1 = ((i + 1 : Nat) : Int) by omega]
      exact k M hR (SM.rf _ _) (fun _ _ => rfl) (fun j' hj' => hp j' (by omega))
theorem r_pour_13 {Q : g_M → Prop} {n m c : Nat} {M0 : g_M} (hc : c ≤ 1000) (hW : WF M0 n m) (hK : WK M0 n c) (hX : CX M0 c) (hL : CL M0 c) (hF : ∀ q, q < c → M0 27 q = 0 ∨ M0 27 q = 1) (h28 : ∀ q, q < c → ∀ x : Nat, M0 7 q = (x : Int) → M0 28 q = M0 0 x)
    (k : ∀ (M' : g_M) (G : Nat) (P : Nat → Nat), RG M' → SM [10, 11, 12, 44] M0 M' → (∀ j, M' 44 j = if j = 16 then (G : Int) else if j = 15 then (c : Int) else M0 44 j) → G ≤ c → PG M0 M' P G c → Q M') :
    ∀ (f i g : Nat) (P : Nat → Nat) (M : g_M), i ≤ c → c - i < f → g ≤ i → RG M → SM [10, 11, 12, 44] M0 M → (∀ j, M 44 j = if j = 16 then (g : Int) else if j = 15 then (c : Int) else M0 44 j) → PG M0 M P g i → F_X1_pourInto_13 Q f i M := by
  intro f
  induction f with
  | zero => intros; omega
  | succ f ih =>
    intro i g P M h1 h2 hg hR hS h44 hP
    have t5 := hW.st.1.2.2.2.2
    have hcn := hK.2.1
    unfold F_X1_pourInto_13
    refine r_count (c := c) (by rw [hS 43 (by decide)]; exact hK.1) ?_
    rw [bq (x := (i : Int)) (by omega) (by omega), bq (x := (c : Int)) (by omega) (by omega)]
    refine ⟨fun c9 => ?_, fun c9 => ?_⟩
    · have hi : i < c := by omega
      rw [rgn i (by omega), hS 27 (by decide), show bm (M0 27 i) = M0 27 i by rcases hF i hi with h | h <;> rw [h] <;> decide]
      refine ⟨fun h0 => ?_, fun h0 => ?_⟩
      · obtain ⟨x, x1, x2, -⟩ := hK.2.2 i hi
        obtain ⟨l, l1, l2, -⟩ := hL i hi
        have e28 := h28 i hi x x2
        have h28r := (hX.2.2 i hi).1
        refine r_node i (by omega) ?_
        rw [hS 7 (by decide), x2]
        refine r_symbol x (by omega) ?_
        rw [hS 0 (by decide), ← e28, rgn i (by omega), hS 24 (by decide)]
        refine r_addProduction (g := g) (by omega) (by rw [h44, if_pos rfl]) (by omega) (by omega) hR (fun M1 g1 g2 g3 g4 g5 => ⟨4, ?_⟩)
        refine r_pour_66 hc hW.sy hX hL hi hg 4 0 M1 (by omega) (by have := arN_le (M0 28 i).toNat; omega) g1 (hS.tr (g2.mono (by decide))) (by rw [g4, if_pos rfl]) (fun j' h => absurd h (by omega)) (fun M2 p1 p2 p3 p4 => ?_)
        refine ih (i + 1) (g + 1) (fun z => if z = g then i else P z) M2 (by omega) (by omega) (by omega) p1 ((hS.tr (g2.mono (by decide))).tr (p2.mono (by decide))) (fun j => ?_) ⟨fun a ha => ?_, fun a b hab hb => ?_, fun q hq hq0 => ?_⟩
        · rw [p2 44 (by decide), g5, h44]
          by_cases hj : j = 16
          · rw [if_pos hj, if_pos hj]
          · rw [if_neg hj, if_neg hj, if_neg hj]
        · show (if a = g then i else P a) < i + 1 ∧ M0 27 (if a = g then i else P a) = 0 ∧ GQ M2 a (M0 24 (if a = g then i else P a)) (M0 28 (if a = g then i else P a)) (pl M0 (if a = g then i else P a))
          by_cases hag : a = g
          · rw [if_pos hag]
            refine ⟨by omega, h0, ?_, ?_, fun j hj => ?_⟩
            · rw [p2 10 (by decide), g3, if_pos hag]
            · rw [p2 11 (by decide), g4, if_pos hag]
            · rw [hag]
              exact p4 j hj
          · rw [if_neg hag]
            obtain ⟨b1, b2, b3, b4, b5⟩ := hP.1 a (by omega)
            refine ⟨by omega, b2, ?_, ?_, fun j hj => ?_⟩
            · rw [p2 10 (by decide), g3, if_neg hag, b3]
            · rw [p2 11 (by decide), g4, if_neg hag, b4]
            · have := arN_le (M0 28 (P a)).toNat
              rw [p3 _ (by omega), g2 12 (by decide)]
              exact b5 j hj
        · show (if a = g then i else P a) < (if b = g then i else P b)
          rw [if_neg (by omega)]
          by_cases hbg : b = g
          · rw [if_pos hbg]
            exact (hP.1 a (by omega)).1
          · rw [if_neg hbg]
            exact hP.2.1 a b hab (by omega)
        · by_cases hqi : q = i
          · exact ⟨g, by omega, by show (if g = g then i else P g) = q; rw [if_pos rfl, hqi]⟩
          · obtain ⟨a, a1, a2⟩ := hP.2.2 q (by omega) hq0
            exact ⟨a, by omega, by show (if a = g then i else P a) = q; rw [if_neg (by omega), a2]⟩
      · unfold F_X1_pourInto_109
        rw [show (i : Int) + 1 = ((i + 1 : Nat) : Int) by omega]
        refine ih (i + 1) g P M (by omega) (by omega) (by omega) hR hS h44 ⟨fun a ha => ?_, hP.2.1, fun q hq hq0 => ?_⟩
        · obtain ⟨b1, b2⟩ := hP.1 a ha
          exact ⟨by omega, b2⟩
        · by_cases hqi : q = i
          · rw [hqi] at hq0
            exact absurd hq0 h0
          · exact hP.2.2 q (by omega) hq0
    · have hic : i = c := by omega
      subst hic
      exact k M g P hR hS h44 hg hP
/-- the closure's grammar -/
theorem r_pourInto {Q : g_M → Prop} {n m c : Nat} {M : g_M} (hc : c ≤ 1000) (hW : WF M n m) (hK : WK M n c) (hX : CX M c) (hL : CL M c) (hF : ∀ q, q < c → M 27 q = 0 ∨ M 27 q = 1) (h28 : ∀ q, q < c → ∀ x : Nat, M 7 q = (x : Int) → M 28 q = M 0 x)
    (k : ∀ (M' : g_M) (G : Nat) (P : Nat → Nat), RG M' → SM [10, 11, 12, 44] M M' → (∀ j, j ≠ 15 → j ≠ 16 → M' 44 j = M 44 j) → G ≤ c → GS M' c G → PG M M' P G c → Q M') : F_X1_pourInto Q M := by
  unfold F_X1_pourInto
  refine r_count hK.1 (r_clearG ⟨c + 1, ?_⟩)
  have t5 := hW.st.1.2.2.2.2
  have hcn := hK.2.1
  have hS1 : SM [44] M (up (up M 44 15 (c : Int)) 44 16 0) := ((SM.rf _ _).u (by decide)).u (by decide)
  refine r_pour_13 hc hW hK hX hL hF h28 (fun M' G P g1 g2 g3 g4 g5 => k M' G P g1 g2 (fun j h15 h16 => by rw [g3, if_neg h16, if_neg h15]) g4 ⟨by rw [g3]; simp, by rw [g3]; simp, fun q hq => ?_⟩ g5) (c + 1) 0 0 (fun z => z) _ (by omega) (by omega) (Nat.le_refl _) ((hW.rg.u (by omega) (by omega)).u (by omega) (by omega)) (hS1.mono (by decide)) (fun j => ?_) ⟨fun a h => absurd h (by omega), fun a b _ h => absurd h (by omega), fun q h => absurd h (by omega)⟩
  · obtain ⟨b1, b2, b3, b4, b5⟩ := g5.1 q hq
    obtain ⟨l, l1, l2, -⟩ := hL (P q) b1
    obtain ⟨x0, x1⟩ := hX.2.2 (P q) b1
    rw [b3, b4]
    refine ⟨by omega, x0, fun j hj => ?_⟩
    have egs : gs M' q = (M 28 (P q)).toNat := by unfold gs; rw [b4]
    rw [egs] at hj
    have hr := arN_le (M 28 (P q)).toNat
    obtain ⟨z, z1, z2⟩ := (x1 j (by omega)).1 hj
    obtain ⟨l', l1', l2', -⟩ := hL z (by omega)
    rw [b5 j hj]
    unfold pl
    rw [z2, Int.toNat_natCast]
    omega
  · rw [upi, upi]
    by_cases hj : j = 16
    · rw [if_pos ⟨rfl, hj⟩, if_pos hj]
      rfl
    · rw [if_neg (fun e => hj e.2), if_neg hj]
      by_cases hj2 : j = 15
      · rw [if_pos ⟨rfl, hj2⟩, if_pos hj2]
      · rw [if_neg (fun e => hj2 e.2), if_neg hj2]
end R5
