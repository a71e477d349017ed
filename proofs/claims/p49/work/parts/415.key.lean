section Q5
/-- a grammar of G productions over C classes -/
def gs (M : g_M) (k : Nat) : Nat := (M 11 k).toNat
def gp (M : g_M) (k j : Nat) : Nat := (M 12 (3 * k + j)).toNat
def GS (M : g_M) (C G : Nat) : Prop := M 44 15 = (C : Int) ∧ M 44 16 = (G : Int) ∧ ∀ k, k < G → (0 ≤ M 10 k ∧ M 10 k < (C : Int)) ∧ (0 ≤ M 11 k ∧ M 11 k < 5) ∧ ∀ j, j < arN (gs M k) → 0 ≤ M 12 (3 * k + j) ∧ M 12 (3 * k + j) < (C : Int)
theorem GS.cong {M M' : g_M} {C G : Nat} (h : GS M C G) (h10 : M' 10 = M 10) (h11 : M' 11 = M 11) (h12 : M' 12 = M 12) (h15 : M' 44 15 = M 44 15) (h16 : M' 44 16 = M 44 16) : GS M' C G := by
  unfold GS gs
  rw [h10, h11, h12, h15, h16]
  exact h
def q1 (M : g_M) (k : Nat) : Nat := if arN (gs M k) = 0 then 0 else if arN (gs M k) = 1 then (M 21 (gp M k 0)).toNat else if M 54 (gs M k) = 0 then (M 21 (gp M k 0)).toNat else (M 21 (gp M k 1)).toNat
def q2 (M : g_M) (k : Nat) : Nat := if arN (gs M k) = 0 then 0 else if arN (gs M k) = 1 then 0 else if M 54 (gs M k) = 0 then (M 21 (gp M k 1)).toNat else (M 21 (gp M k 0)).toNat
def KY (M : g_M) (k : Nat) : Nat := (((M 16 k).toNat * 5 + (M 52 (gs M k)).toNat) * 1000 + q1 M k) * 1000 + q2 M k
theorem KY.cong {M M' : g_M} (h11 : M' 11 = M 11) (h12 : M' 12 = M 12) (h16 : M' 16 = M 16) (h21 : M' 21 = M 21) (h52 : M' 52 = M 52) (h54 : M' 54 = M 54) (k : Nat) : KY M' k = KY M k := by
  unfold KY q1 q2 gs gp
  rw [h11, h12, h16, h21, h52, h54]
/-- a production whose parts have their places -/
def PO (M : g_M) (k : Nat) : Prop := 0 ≤ M 16 k ∧ ∀ j, j < arN (gs M k) → 0 ≤ M 21 (gp M k j) ∧ M 21 (gp M k j) < 1000
theorem q_lt {M : g_M} {k : Nat} (h : PO M k) : q1 M k < 1000 ∧ q2 M k < 1000 := by
  have hr := arN_le (gs M k)
  have h0 := h.2 0
  have h1 := h.2 1
  unfold q1 q2
  by_cases e0 : arN (gs M k) = 0
  · simp [e0]
  · by_cases e1 : arN (gs M k) = 1
    · simp [e1]
      omega
    · rw [if_neg e0, if_neg e1, if_neg e0, if_neg e1]
      split <;> omega
theorem r_gArity {M : g_M} {Q : Int → g_M → Prop} {C G : Nat} (hSY : SY M) (hG : GS M C G) (hG1 : G ≤ 1000) (k : Nat) (hk : k < G) (kk : Q (arN (gs M k)) M) : F_X2_arity Q k M := by
  obtain ⟨-, h, -⟩ := hG.2.2 k hk
  unfold F_X2_arity
  rw [rgn k (by omega), show M 11 k = ((gs M k : Nat) : Int) by unfold gs; omega]
  exact r_arity hSY (gs M k) (by unfold gs; omega) kk
/-- the comparison of two productions -/
theorem r_isBefore {M : g_M} {Q : Int → g_M → Prop} {C G : Nat} (hRG : RG M) (hSY : SY M) (hG : GS M C G) (hG1 : G ≤ 1000) (hC : C ≤ 1000) (a b : Nat) (ha : a < G) (hb : b < G) (pa : PO M a) (pb : PO M b)
    (hinj : ∀ i j, i < arN (gs M a) → j < arN (gs M b) → M 21 (gp M a i) = M 21 (gp M b j) → M 12 (3 * a + i) = M 12 (3 * b + j))
    (k1 : KY M a < KY M b → Q 1 M) (k2 : ¬ KY M a < KY M b → Q 0 M) : F_X2_isBefore Q a b M := by
  obtain ⟨-, ha11, ha12⟩ := hG.2.2 a ha
  obtain ⟨-, hb11, hb12⟩ := hG.2.2 b hb
  have ea : M 11 a = ((gs M a : Nat) : Int) := by unfold gs; omega
  have eb : M 11 b = ((gs M b : Nat) : Int) := by unfold gs; omega
  have la : gs M a < 5 := by omega
  have lb : gs M b < 5 := by omega
  obtain ⟨qa1, qa2⟩ := q_lt pa
  obtain ⟨qb1, qb2⟩ := q_lt pb
  have wa := pa.1
  have wb := pb.1
  have ra := hSY.2.2.2.1 (gs M a) la
  have rb := hSY.2.2.2.1 (gs M b) lb
  unfold F_X2_isBefore
  rw [rgn a (by omega), rgn b (by omega), rgn a (by omega), rgn b (by omega), hRG.b, hRG.b, hRG.b, hRG.b]
  refine ⟨fun hw => ⟨fun hs => ?_, fun hs => ?_⟩, fun hw => ⟨fun hl => k1 ?_, fun hl => k2 ?_⟩⟩
  · have hgs : gs M a = gs M b := by omega
    rw [ea]
    refine r_arity hSY (gs M a) la ?_
    try rw [rgn a (by omega), ea]
    refine r_isFromRight hSY (gs M a) la ?_
    have hd := hSY.2.2.2.2.2.2.1 (gs M a) la
    have hr := arN_le (gs M a)
    have hpa := pa.2
    have hpb := pb.2
    rw [← hgs] at hb12 hpb hinj
    have part : ∀ i, i < arN (gs M a) → ∀ (D : Prop) (N : Int → Prop), ((M 21 (gp M a i)).toNat = (M 21 (gp M b i)).toNat → D) → ((M 21 (gp M a i)).toNat < (M 21 (gp M b i)).toNat → Q 1 M) → ((M 21 (gp M b i)).toNat < (M 21 (gp M a i)).toNat → Q 0 M) → ((bm (rg M 12 ((3 * (a : Int)) + (i : Int))) = bm (rg M 12 ((3 * (b : Int)) + (i : Int))) → D) ∧ (¬ bm (rg M 12 ((3 * (a : Int)) + (i : Int))) = bm (rg M 12 ((3 * (b : Int)) + (i : Int))) → (((bm (rg M 21 (rg M 12 ((3 * (a : Int)) + (i : Int)))) < bm (rg M 21 (rg M 12 ((3 * (b : Int)) + (i : Int)))) → (Q 1 M)) ∧ (¬ bm (rg M 21 (rg M 12 ((3 * (a : Int)) + (i : Int)))) < bm (rg M 21 (rg M 12 ((3 * (b : Int)) + (i : Int)))) → (Q 0 M)))))) := fun i hi D N c1 c2 c3 => by
      have x1 := ha12 i hi
      have x2 := hb12 i hi
      have y1 := hpa i hi
      have y2 := hpb i hi
      have z1 : M 12 (3 * a + i) = ((gp M a i : Nat) : Int) := by unfold gp; omega
      have z2 : M 12 (3 * b + i) = ((gp M b i : Nat) : Int) := by unfold gp; omega
      rw [rgk (i := 3 * (a : Int) + (i : Int)) (3 * a + i) (by omega) (by omega), rgk (i := 3 * (b : Int) + (i : Int)) (3 * b + i) (by omega) (by omega), hRG.b, hRG.b, z1, z2, rgn (gp M a i) (by omega), rgn (gp M b i) (by omega), hRG.b, hRG.b]
      refine ⟨fun e => c1 (by rw [show gp M a i = gp M b i by omega]), fun e => ⟨fun l => c2 (by omega), fun l => ?_⟩⟩
      by_cases he : M 21 (gp M a i) = M 21 (gp M b i)
      · have := hinj i i hi hi he
        omega
      · exact c3 (by omega)
    have kye : KY M a = (((M 16 b).toNat * 5 + (M 52 (gs M a)).toNat) * 1000 + q1 M a) * 1000 + q2 M a := by unfold KY; rw [hw]
    have kyb : KY M b = (((M 16 b).toNat * 5 + (M 52 (gs M a)).toNat) * 1000 + q1 M b) * 1000 + q2 M b := by unfold KY; rw [hgs]
    rw [kye, kyb] at k1 k2
    have fin : ∀ f (x6 : Nat) (dd : Int), arN (gs M a) ≤ x6 → x6 ≤ 3 → Q 0 M → F_X2_isBefore_120 Q (f + 1) a b (arN (gs M a)) dd x6 M := fun f x6 dd h1 h2 h3 => by
      unfold F_X2_isBefore_120
      rw [bq (x := (x6 : Int)) (by omega) (by omega), bq (x := (arN (gs M a) : Int)) (by omega) (by omega)]
      exact ⟨fun c => absurd c (by omega), fun _ => h3⟩
    refine ⟨4, ?_⟩
    rcases (show arN (gs M a) = 0 ∨ arN (gs M a) = 1 ∨ arN (gs M a) = 2 by omega) with h0 | h0 | h0
    · refine fin 3 0 _ (by omega) (by omega) (k2 ?_)
      unfold q1 q2
      rw [← hgs]
      simp [h0]
    · have p0 := part 0 (by omega) (F_X2_isBefore_120 Q 3 a b (arN (gs M a)) (M 54 (gs M a)) ((1 : Nat) : Int) M) (fun _ => True)
      have e1 : q1 M a = (M 21 (gp M a 0)).toNat ∧ q2 M a = 0 ∧ q1 M b = (M 21 (gp M b 0)).toNat ∧ q2 M b = 0 := by
        unfold q1 q2
        rw [← hgs]
        simp [h0]
      obtain ⟨e1, e2, e3, e4⟩ := e1
      rw [e1, e2, e3, e4] at k1 k2
      have p9 := p0 (fun he => fin 2 1 _ (by omega) (by omega) (k2 (by rw [he]; omega))) (fun hl => k1 (by omega)) (fun hl => k2 (by omega))
      unfold F_X2_isBefore_120
      rw [isB_b hd, bq (x := (arN (gs M a) : Int)) (by omega) (by omega), h0]
      rw [h0] at p9
      refine ⟨fun _ => ⟨fun _ => ?_, fun _ => ?_⟩, fun c => absurd (by decide) c⟩
      · unfold F_X2_isBefore_144
        rw [show (0 : Int) + 1 = ((1 : Nat) : Int) from rfl]
        exact p9
      · unfold F_X2_isBefore_144
        rw [show (0 : Int) + 1 = ((1 : Nat) : Int) from rfl]
        exact p9
    · by_cases hdd : M 54 (gs M a) = 0
      · have e1 : q1 M a = (M 21 (gp M a 0)).toNat ∧ q2 M a = (M 21 (gp M a 1)).toNat ∧ q1 M b = (M 21 (gp M b 0)).toNat ∧ q2 M b = (M 21 (gp M b 1)).toNat := by
          unfold q1 q2
          rw [← hgs]
          simp [h0, hdd]
        obtain ⟨e1, e2, e3, e4⟩ := e1
        rw [e1, e2, e3, e4] at k1 k2
        rw [e1] at qa1; rw [e2] at qa2; rw [e3] at qb1; rw [e4] at qb2
        have p1 := fun (he : (M 21 (gp M a 0)).toNat = (M 21 (gp M b 0)).toNat) => part 1 (by omega) (F_X2_isBefore_120 Q 2 a b (arN (gs M a)) (M 54 (gs M a)) ((2 : Nat) : Int) M) (fun _ => True) (fun he1 => fin 1 2 _ (by omega) (by omega) (k2 (by rw [he, he1]; omega))) (fun hl => k1 (by rw [he]; omega)) (fun hl => k2 (by rw [he]; omega))
        have p0 := part 0 (by omega) (F_X2_isBefore_120 Q 3 a b (arN (gs M a)) (M 54 (gs M a)) ((1 : Nat) : Int) M) (fun _ => True) (fun he => by
          have p1 := p1 he
          unfold F_X2_isBefore_120
          rw [isB_b hd, bq (x := (arN (gs M a) : Int)) (by omega) (by omega), h0]
          rw [h0] at p1
          refine ⟨fun _ => ⟨fun _ => ?_, fun c => absurd hdd c⟩, fun c => absurd (by decide) c⟩
          unfold F_X2_isBefore_144
          rw [show ((1 : Nat) : Int) + 1 = ((2 : Nat) : Int) from rfl]
          exact p1) (fun hl => k1 (by omega)) (fun hl => k2 (by omega))
        unfold F_X2_isBefore_120
        rw [isB_b hd, bq (x := (arN (gs M a) : Int)) (by omega) (by omega), h0]
        rw [h0] at p0
        refine ⟨fun _ => ⟨fun _ => ?_, fun c => absurd hdd c⟩, fun c => absurd (by decide) c⟩
        unfold F_X2_isBefore_144
        rw [show (0 : Int) + 1 = ((1 : Nat) : Int) from rfl]
        exact p0
      · have e1 : q1 M a = (M 21 (gp M a 1)).toNat ∧ q2 M a = (M 21 (gp M a 0)).toNat ∧ q1 M b = (M 21 (gp M b 1)).toNat ∧ q2 M b = (M 21 (gp M b 0)).toNat := by
          unfold q1 q2
          rw [← hgs]
          simp [h0, hdd]
        obtain ⟨e1, e2, e3, e4⟩ := e1
        rw [e1, e2, e3, e4] at k1 k2
        rw [e1] at qa1; rw [e2] at qa2; rw [e3] at qb1; rw [e4] at qb2
        have p1 := fun (he : (M 21 (gp M a 1)).toNat = (M 21 (gp M b 1)).toNat) => part 0 (by omega) (F_X2_isBefore_120 Q 2 a b (arN (gs M a)) (M 54 (gs M a)) ((2 : Nat) : Int) M) (fun _ => True) (fun he1 => fin 1 2 _ (by omega) (by omega) (k2 (by rw [he, he1]; omega))) (fun hl => k1 (by rw [he]; omega)) (fun hl => k2 (by rw [he]; omega))
        have p0 := part 1 (by omega) (F_X2_isBefore_120 Q 3 a b (arN (gs M a)) (M 54 (gs M a)) ((1 : Nat) : Int) M) (fun _ => True) (fun he => by
          have p1 := p1 he
          unfold F_X2_isBefore_120
          rw [isB_b hd, bq (x := (arN (gs M a) : Int)) (by omega) (by omega), h0]
          rw [h0] at p1
          refine ⟨fun _ => ⟨fun c => absurd c hdd, fun _ => ?_⟩, fun c => absurd (by decide) c⟩
          unfold F_X2_isBefore_144
          rw [show (((2 : Nat) : Int) - 1) - ((1 : Nat) : Int) = ((0 : Nat) : Int) from rfl, show ((1 : Nat) : Int) + 1 = ((2 : Nat) : Int) from rfl]
          exact p1) (fun hl => k1 (by omega)) (fun hl => k2 (by omega))
        unfold F_X2_isBefore_120
        rw [isB_b hd, bq (x := (arN (gs M a) : Int)) (by omega) (by omega), h0]
        rw [h0] at p0
        refine ⟨fun _ => ⟨fun c => absurd c hdd, fun _ => ?_⟩, fun c => absurd (by decide) c⟩
        unfold F_X2_isBefore_144
        rw [show (((2 : Nat) : Int) - 1) - 0 = ((1 : Nat) : Int) from rfl, show (0 : Int) + 1 = ((1 : Nat) : Int) from rfl]
        exact p0
  · rw [ea]
    refine r_rank hSY (gs M a) la ?_
    try rw [rgn b (by omega)]
    rw [eb]
    refine r_rank hSY (gs M b) lb ?_
    rw [hRG.b, hRG.b]
    have hne : M 52 (gs M a) ≠ M 52 (gs M b) := fun e => hs (by rw [ea, eb, hSY.2.2.2.2.1 _ _ la lb e])
    refine ⟨fun hl => k1 ?_, fun hl => k2 ?_⟩
    · unfold KY
      rw [hw]
      omega
    · unfold KY
      rw [hw]
      omega
  · unfold KY
    omega
  · unfold KY
    omega
end Q5
