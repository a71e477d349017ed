section Q8
def pk (M : g_M) (k j : Nat) : Nat := (M 20 (gp M k j)).toNat
def sS (M : g_M) (r k : Nat) : Nat → Int
  | 0 => 0
  | j + 1 => sS M r k j + M r (pk M k j)
def sD (M : g_M) (k : Nat) : Nat → Int
  | 0 => 0
  | j + 1 => max (sD M k j) (M 18 (pk M k j))
def wS (M : g_M) (k : Nat) : Int := if M 44 19 = 1 then min (M 51 (gs M k) + sS M 16 k (arN (gs M k))) 1048575 else 0
def zS (M : g_M) (k : Nat) : Int := min (1 + sS M 17 k (arN (gs M k))) 1048575
def dS (M : g_M) (k : Nat) : Int := min (sD M k (arN (gs M k)) + 1) 1048575
def in20 (v : Int) : Prop := 0 ≤ v ∧ v ≤ 1048575
/-- the parts' least productions stand -/
def PQ (M : g_M) (G k : Nat) : Prop := ∀ j, j < arN (gs M k) → pk M k j < G ∧ M 20 (gp M k j) = ((pk M k j : Nat) : Int) ∧ in20 (M 16 (pk M k j)) ∧ in20 (M 17 (pk M k j)) ∧ in20 (M 18 (pk M k j))
theorem sS_in {M : g_M} {r k : Nat} : ∀ j, (∀ j', j' < j → in20 (M r (pk M k j'))) → 0 ≤ sS M r k j ∧ sS M r k j ≤ 1048575 * (j : Int)
  | 0, _ => by
    show 0 ≤ (0 : Int) ∧ (0 : Int) ≤ 1048575 * ((0 : Nat) : Int)
    omega
  | j + 1, h => by
    have h1 := sS_in j (fun j' hj' => h j' (by omega))
    have h2 := h j (by omega)
    unfold in20 at h2
    show 0 ≤ sS M r k j + M r (pk M k j) ∧ sS M r k j + M r (pk M k j) ≤ 1048575 * ((j + 1 : Nat) : Int)
    omega
theorem sD_in {M : g_M} {k : Nat} : ∀ j, (∀ j', j' < j → in20 (M 18 (pk M k j'))) → in20 (sD M k j)
  | 0, _ => ⟨Int.le_refl _, show (0 : Int) ≤ 1048575 by decide⟩
  | j + 1, h => by
    have h1 := sD_in j (fun j' hj' => h j' (by omega))
    have h2 := h j (by omega)
    unfold in20 at h1 h2
    show 0 ≤ max (sD M k j) (M 18 (pk M k j)) ∧ max (sD M k j) (M 18 (pk M k j)) ≤ 1048575
    omega
theorem HO.cong {K K' : Nat → Nat} {En En' : Nat → Prop} {M M' : g_M} {n : Nat} (h : HO K En M n) (h19 : M' 19 = M 19) (hE : ∀ q, En q → En' q ∧ K' q = K q) : HO K' En' M' n := by
  obtain ⟨a1, a2, a3⟩ := h
  unfold HO hv at *
  rw [h19]
  refine ⟨fun i hi => ⟨(a1 i hi).1, (hE _ (a1 i hi).2).1⟩, a2, fun i h0 hi => ?_⟩
  rw [(hE _ (a1 i hi).2).2, (hE _ (a1 ((i - 1) / 2) (by omega)).2).2]
  exact a3 i h0 hi
theorem r_enter {M : g_M} {Q : g_M → Prop} {En En' : Nat → Prop} {C G n : Nat} (hR : RG M) (hSY : SY M) (hCM : CM M En C G) (hG1 : G ≤ 1000) (hC : C ≤ 1000) (hn : n + 1 ≤ 1000) (h17 : M 44 17 = (n : Int)) (hmd : M 44 19 = 0 ∨ M 44 19 = 1) (hH : HO (KY M) En M n) (k : Nat) (hk : k < G) (hnk : ¬ En k) (hEn : ∀ q, En' q ↔ En q ∨ q = k) (hq : PQ M G k)
    (hpos : ∀ j, j < arN (gs M k) → 0 ≤ M 21 (gp M k j) ∧ M 21 (gp M k j) < 1000)
    (hinj : ∀ a b, En' a → En' b → ∀ i j, i < arN (gs M a) → j < arN (gs M b) → M 21 (gp M a i) = M 21 (gp M b j) → M 12 (3 * a + i) = M 12 (3 * b + j))
    (kk : ∀ M' : g_M, RG M' → SM [16, 17, 18, 19, 44] M M' → M' 44 17 = ((n + 1 : Nat) : Int) → (∀ j, j ≠ 17 → M' 44 j = M 44 j) → (∀ q, M' 16 q = if q = k then wS M k else M 16 q) → (∀ q, M' 17 q = if q = k then zS M k else M 17 q) → (∀ q, M' 18 q = if q = k then dS M k else M 18 q) → CM M' En' C G → HO (KY M') En' M' (n + 1) → (∀ q, inH M' (n + 1) q ↔ inH M n q ∨ q = k) → Q M') : F_X2_enter Q k M := by
  have hr := arN_le (gs M k)
  obtain ⟨-, hG, hP, -⟩ := hCM
  obtain ⟨-, g11, g12⟩ := hG.2.2 k hk
  have ek : M 11 k = ((gs M k : Nat) : Int) := by unfold gs; omega
  have lk : gs M k < 5 := by omega
  have hw9 := hSY.2.2.1 (gs M k) lk
  have b16 := fun j (h : j ≤ arN (gs M k)) => sS_in (M := M) (r := 16) (k := k) j (fun j' hj' => (hq j' (by omega)).2.2.1)
  have b17 := fun j (h : j ≤ arN (gs M k)) => sS_in (M := M) (r := 17) (k := k) j (fun j' hj' => (hq j' (by omega)).2.2.2.1)
  have b18 := fun j (h : j ≤ arN (gs M k)) => sD_in (M := M) (k := k) j (fun j' hj' => (hq j' (by omega)).2.2.2.2)
  have r16 := b16 _ (Nat.le_refl _)
  have r17 := b17 _ (Nat.le_refl _)
  have r18 := b18 _ (Nat.le_refl _)
  have wS0 : in20 (wS M k) := by
    unfold wS in20
    split <;> omega
  have zS0 : in20 (zS M k) := by
    unfold zS in20
    omega
  have dS0 : in20 (dS M k) := by
    unfold dS in20
    unfold in20 at r18
    omega
  unfold in20 at wS0 zS0 dS0
  have fin : F_X2_enter_168 Q k k (wS M k) (up (up M 17 k (zS M k)) 18 k (dS M k)) := by
    unfold F_X2_enter_168
    refine ⟨okk k rfl (by show k < 65536; omega), ?_⟩
    rw [rsk k rfl (by omega)]
    have e17 : up (up (up M 17 k (zS M k)) 18 k (dS M k)) 16 k (wS M k) 44 17 = (n : Int) := by
      rw [up3 (by decide), up3 (by decide), up3 (by decide), h17]
    rw [e17, show (n : Int) + 1 = ((n + 1 : Nat) : Int) by omega]
    generalize hM1 : up (up (up (up M 17 k (zS M k)) 18 k (dS M k)) 16 k (wS M k)) 44 17 ((n + 1 : Nat) : Int) = M1
    have u : ∀ r j, M1 r j = if r = 44 ∧ j = 17 then ((n + 1 : Nat) : Int) else if r = 16 ∧ j = k then wS M k else if r = 18 ∧ j = k then dS M k else if r = 17 ∧ j = k then zS M k else M r j := fun r j => by rw [← hM1]; rfl
    have hR1 : RG M1 := by
      rw [← hM1]
      exact (((hR.u (by omega) (by omega)).u (by omega) (by omega)).u (by omega) (by omega)).u (by omega) (by omega)
    have hS1 : SM [16, 17, 18, 44] M M1 := by
      intro r hr
      funext j
      simp only [List.mem_cons, List.not_mem_nil, or_false, not_or] at hr
      rw [u]
      simp [hr]
    have v16 : ∀ q, M1 16 q = if q = k then wS M k else M 16 q := fun q => by rw [u]; simp
    have v17 : ∀ q, M1 17 q = if q = k then zS M k else M 17 q := fun q => by rw [u]; simp
    have v18 : ∀ q, M1 18 q = if q = k then dS M k else M 18 q := fun q => by rw [u]; simp
    have v44 : ∀ j, M1 44 j = if j = 17 then ((n + 1 : Nat) : Int) else M 44 j := fun j => by rw [u]; simp
    have egs : ∀ q, gs M1 q = gs M q := fun q => by unfold gs; rw [hS1 11 (by decide)]
    have egp : ∀ q j, gp M1 q j = gp M q j := fun q j => by unfold gp; rw [hS1 12 (by decide)]
    have m21 : M1 21 = M 21 := hS1 21 (by decide)
    have m12 : M1 12 = M 12 := hS1 12 (by decide)
    have eK : ∀ q, En q → KY M1 q = KY M q := fun q hq => by
      have hqk : q ≠ k := fun e => hnk (e ▸ hq)
      unfold KY q1 q2 gp gs
      rw [v16, if_neg hqk, m21, m12, hS1 11 (by decide), hS1 52 (by decide), hS1 54 (by decide)]
    have hCM1 : CM M1 En' C G := by
      refine ⟨hSY.cong (by rw [hS1 41 (by decide)]) (by rw [hS1 41 (by decide)]) (hS1 50 (by decide)) (hS1 51 (by decide)) (hS1 52 (by decide)) (hS1 53 (by decide)) (hS1 54 (by decide)), hG.cong (hS1 10 (by decide)) (hS1 11 (by decide)) (hS1 12 (by decide)) (by rw [v44, if_neg (by decide)]) (by rw [v44, if_neg (by decide)]), fun q hq => ?_, fun a b ha hb i j hi hj e => ?_⟩
      · unfold PO
        rw [v16, egs]
        rcases (hEn q).1 hq with h | h
        · have hqk : q ≠ k := fun e => hnk (e ▸ h)
          refine ⟨(hP q h).1, by rw [if_neg hqk]; exact (hP q h).2.1, fun j hj => ?_⟩
          rw [egp, m21]
          exact (hP q h).2.2 j hj
        · refine ⟨by omega, by rw [if_pos h]; exact wS0.1, fun j hj => ?_⟩
          rw [egp, m21, h]
          rw [h] at hj
          exact hpos j hj
      · rw [egs] at hi hj
        rw [egp, egp, m21] at e
        rw [m12]
        exact hinj a b ha hb i j hi hj e
    have hH1 : HO (KY M1) En M1 n := hH.cong (hS1 19 (by decide)) (fun q hq => ⟨hq, eK q hq⟩)
    have hH2 : HO (KY M1) En' M1 n := hH.cong (hS1 19 (by decide)) (fun q hq => ⟨(hEn q).2 (Or.inl hq), eK q hq⟩)
    refine ⟨n + 1, ?_⟩
    refine r_enter_190 (mem := fun q => inH M n q) hCM1 hG1 hC hn (by rw [v44, if_pos rfl]) ((hEn k).2 (Or.inr rfl)) (fun M' g1 g2 g3 g4 => ?_) (n + 1) n 0 M1 (by omega) (by omega) (by omega) hR1 (SM.rf _ _) ⟨fun i hi hin => ?_, fun i j hi hj hin hjn e => hH2.2.1 i j (by omega) (by omega) e, fun i h0 hi hin hp => hH2.2.2 i h0 (by omega), fun q => ⟨fun ⟨i, hi, hin, e⟩ => ⟨i, by omega, by rw [← hS1 19 (by decide)]; exact e⟩, fun ⟨i, hi, e⟩ => ⟨i, by omega, by omega, by rw [hS1 19 (by decide)]; exact e⟩⟩⟩ (fun j j0 jn jp => absurd jp (by omega))
    · have eK' : KY M' = KY M1 := funext (fun q => KY.cong (g2 11 (by decide)) (g2 12 (by decide)) (g2 16 (by decide)) (g2 21 (by decide)) (g2 52 (by decide)) (g2 54 (by decide)) q)
      refine kk M' g1 ((hS1.mono (by decide)).tr (g2.mono (by decide))) ?_ (fun j hj => ?_) ?_ ?_ ?_ ?_ (by rw [eK']; exact g3) g4
      · rw [g2 44 (by decide), v44, if_pos rfl]
      · rw [g2 44 (by decide), v44, if_neg hj]
      · rw [g2 16 (by decide)]
        exact v16
      · rw [g2 17 (by decide)]
        exact v17
      · rw [g2 18 (by decide)]
        exact v18
      · exact hCM1.cong (g2.mono (by decide)) (by rw [g2 44 (by decide)]) (by rw [g2 44 (by decide)])
    · obtain ⟨c1, c2⟩ := hH1.1 i (by omega)
      refine ⟨c1, (hEn _).2 (Or.inl c2), fun e => hnk ?_⟩
      have : hv M1 i = k := by unfold hv; omega
      rw [← this]
      exact c2
  have loop : ∀ (f j : Nat), j ≤ arN (gs M k) → arN (gs M k) - j < f → F_X2_enter_24 Q f k (1 + sS M 17 k j) (sD M k j) (M 51 (gs M k) + sS M 16 k j) j M := by
    intro f
    induction f with
    | zero => intro j h1 h2; omega
    | succ f ih =>
      intro j h1 h2
      unfold F_X2_enter_24
      refine r_gArity hSY hG hG1 k hk ?_
      rw [bq (x := (j : Int)) (by omega) (by omega), bq (x := (arN (gs M k) : Int)) (by omega) (by omega)]
      refine ⟨fun c9 => ?_, fun c9 => ?_⟩
      · obtain ⟨p1, p2, p3, p4, p5⟩ := hq j (by omega)
        have x1 := g12 j (by omega)
        have y1 := b18 j h1
        unfold in20 at p3 p4 p5 y1
        have eg : M 12 (3 * k + j) = ((gp M k j : Nat) : Int) := by unfold gp; omega
        rw [rgk (i := 3 * (k : Int) + (j : Int)) (3 * k + j) (by omega) (by omega), eg, rgn (gp M k j) (by omega), p2, rgn (pk M k j) (by omega), rgn (pk M k j) (by omega), rgn (pk M k j) (by omega), imaxk (by omega) (by omega) (by omega) (by omega), show (j : Int) + 1 = ((j + 1 : Nat) : Int) by omega]
        have := ih (j + 1) (by omega) (by omega)
        rw [show 1 + sS M 17 k (j + 1) = 1 + sS M 17 k j + M 17 (pk M k j) by show 1 + (sS M 17 k j + M 17 (pk M k j)) = _; omega, show M 51 (gs M k) + sS M 16 k (j + 1) = M 51 (gs M k) + sS M 16 k j + M 16 (pk M k j) by show M 51 (gs M k) + (sS M 16 k j + M 16 (pk M k j)) = _; omega] at this
        exact this
      · have hj : j = arN (gs M k) := by omega
        subst hj
        unfold in20 at r18
        rw [imink (a := 1 + sS M 17 k (arN (gs M k))) (by omega) (by omega) (by omega) (by omega), imink (a := sD M k (arN (gs M k)) + 1) (by omega) (by omega) (by omega) (by omega), imink (a := M 51 (gs M k) + sS M 16 k (arN (gs M k))) (by omega) (by omega) (by omega) (by omega), rsk (M := M) k rfl (by omega), rsk k rfl (by omega)]
        refine ⟨okk k rfl (by show k < 65536; omega), okk k rfl (by show k < 65536; omega), ?_⟩
        rw [up3 (by decide), up3 (by decide)]
        rcases hmd with hm | hm
        · rw [hm]
          refine ⟨fun c => absurd c (by decide), fun _ => ⟨fun c => absurd c (by decide), fun _ => ?_⟩⟩
          have e : wS M k = 0 := by unfold wS; rw [hm, if_neg (by decide)]
          rw [e] at fin
          exact fin
        · rw [hm]
          refine ⟨fun _ => ?_, fun c => absurd rfl c⟩
          have e : wS M k = min (M 51 (gs M k) + sS M 16 k (arN (gs M k))) 1048575 := by unfold wS; rw [hm, if_pos rfl]
          rw [e] at fin
          exact fin
  unfold F_X2_enter
  rw [rgn k (by omega), ek]
  refine r_weight hSY (gs M k) lk ⟨4, ?_⟩
  have := loop 4 0 (by omega) (by omega)
  rw [show 1 + sS M 17 k 0 = 1 from rfl, show M 51 (gs M k) + sS M 16 k 0 = M 51 (gs M k) by show _ + (0 : Int) = _; omega] at this
  exact this
end Q8
