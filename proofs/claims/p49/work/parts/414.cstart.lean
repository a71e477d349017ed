section Q4
theorem r_node {M : g_M} {Q : Int → g_M → Prop} (i : Nat) (hi : i ≤ 3000) (k : Q (M 7 i) M) : F_X10_node Q i M := by
  unfold F_X10_node
  rw [rgn i (by omega)]
  exact k
theorem r_symbol {M : g_M} {Q : Int → g_M → Prop} (i : Nat) (hi : i ≤ 3000) (k : Q (M 0 i) M) : F_X8_symbol Q i M := by
  unfold F_X8_symbol
  rw [rgn i (by omega)]
  exact k
/-- an entry's part, also where there is none -/
theorem r_partOf3 {M : g_M} {n m c : Nat} {Q : Int → g_M → Prop} (hW : WF M n m) (hK : WK M n c) (i x p : Nat) (hi : i < c) (hx : x < n) (ex : M 7 i = (x : Int)) (hp : p < 3) (k1 : p < arN (sg M x) → ∀ i' : Nat, i' < i → M 7 i' = M 1 (3 * x + p) → Q i' M) (k2 : ¬ p < arN (sg M x) → Q (-1) M) : F_X10_partOf Q i p M := by
  by_cases h : p < arN (sg M x)
  · exact r_partOf hW hK i x p hi ex h (k1 h)
  · have t5 := hW.st.1.2.2.2.2
    have hc := hK.2.1
    obtain ⟨o1, o2, o3⟩ := hW.st.2.2.1 x hx
    have e : M 1 (3 * x + p) = -1 := by
      rcases Nat.lt_or_ge p 1 with h0 | h0
      · have : p = 0 := by omega
        subst this
        exact o1.2 h
      · rcases Nat.lt_or_ge p 2 with h1 | h1
        · have : p = 1 := by omega
          subst this
          exact o2.2 h
        · have : p = 2 := by omega
          subst this
          exact o3.2 h
    unfold F_X10_partOf
    rw [rgn i (by omega), ex]
    refine r_part x p (by omega) (by omega) ?_
    rw [e]
    unfold F_X10_indexOf F_X10_indexOf_16
    exact ⟨fun _ => ⟨fun _ => k2 h, fun c => absurd (by decide) c⟩, fun c => absurd (by decide) c⟩
def PR (M0 M : g_M) (x q p : Nat) : Prop := (p < arN (sg M0 x) → ∃ i' : Nat, i' < q ∧ M 29 (3 * q + p) = (i' : Int) ∧ M0 7 i' = M0 1 (3 * x + p)) ∧ (¬ p < arN (sg M0 x) → M 29 (3 * q + p) = -1)
def ST1 (M0 M : g_M) (n q : Nat) : Prop := ∃ x : Nat, x < n ∧ M0 7 q = (x : Int) ∧ (M 24 q = (q : Int) ∧ M 25 q = (q : Int) ∧ M 26 q = 1 ∧ M 28 q = M0 0 x) ∧ ∀ p, p < 3 → PR M0 M x q p
theorem r_start_71 {M0 : g_M} {n m c i x : Nat} {Q : g_M → Prop} {k8 : Int → g_M → Prop} (hc : c ≤ 60) (hW : WF M0 n m) (hK : WK M0 n c) (hi : i < c) (hx : x < n) (ex : M0 7 i = (x : Int))
    (k : ∀ M' : g_M, RG M' → SM [24, 25, 26, 28, 29, 47] M0 M' → M' 47 10 = 64 → (∀ q, q < i + 1 → ST1 M0 M' n q) → k8 ((i + 1 : Nat) : Int) M') :
    ∀ (f p : Nat) (M : g_M), p ≤ 3 → 3 - p < f → RG M → SM [24, 25, 26, 28, 29, 47] M0 M → M 47 10 = 64 → (∀ q, q < i → ST1 M0 M n q) → (M 24 i = (i : Int) ∧ M 25 i = (i : Int) ∧ M 26 i = 1 ∧ M 28 i = M0 0 x) → (∀ p', p' < p → PR M0 M x i p') → F_X1_start_71 Q k8 f i p M := by
  intro f
  induction f with
  | zero => intros; omega
  | succ f ih =>
    intro p M h1 h2 hR hS h47 hq hi4 hp
    have hW' := hW.cong hR hS (by decide)
    have hK' : WK M n c := hK.cong hW.st (Nat.le_refl _) (EX.of (hS 0 (by decide)) (hS 1 (by decide)) (hS 2 (by decide))) (hS 6 (by decide)) (hS 7 (by decide)) (by rw [hS 43 (by decide)])
    unfold F_X1_start_71
    rw [bq (x := (p : Int)) (by omega) (by omega), show bm 3 = 3 by decide]
    refine ⟨fun c9 => ?_, fun c9 => ?_⟩
    · have hsg : sg M x = sg M0 x := by unfold sg; rw [hS 0 (by decide)]
      have hr := arN_le (sg M0 x)
      have b1 : p + 1 ≤ 3 := by omega
      have b2 : 3 - (p + 1) < f := by omega
      have step : ∀ v : Int, -1 ≤ v → v < i → ((p < arN (sg M0 x) → ∃ i' : Nat, i' < i ∧ v = (i' : Int) ∧ M0 7 i' = M0 1 (3 * x + p)) ∧ (¬ p < arN (sg M0 x) → v = -1)) → okI 29 ((3 * (i : Int)) + (p : Int)) ∧ F_X1_start_71 Q k8 f i ((p : Int) + 1) (rs M 29 ((3 * (i : Int)) + (p : Int)) v) := fun v hv1 hv2 hv => by
        have w1 : -2147483648 ≤ v ∧ v ≤ 2147483647 := by
          clear hv hq hp hi4
          omega
        refine ⟨okk (3 * i + p) (by omega) (by show 3 * i + p < 65536; omega), ?_⟩
        rw [rsk (i := 3 * (i : Int) + (p : Int)) (3 * i + p) (by omega) (by omega), show (p : Int) + 1 = ((p + 1 : Nat) : Int) by omega]
        have hS1 : SM [29] M (up M 29 (3 * i + p) v) := (SM.rf _ _).u (by decide)
        have v29 : ∀ y, up M 29 (3 * i + p) v 29 y = if y = 3 * i + p then v else M 29 y := fun y => by rw [upi]; simp
        refine ih (p + 1) _ b1 b2 (hR.u w1.1 w1.2) (hS.tr (hS1.mono (by decide))) (by rw [hS1 47 (by decide)]; exact h47) (fun q hqi => ?_) (by rw [hS1 24 (by decide), hS1 25 (by decide), hS1 26 (by decide), hS1 28 (by decide)]; exact hi4) (fun p' hp' => ?_)
        · obtain ⟨y, y1, y2, y3, y4⟩ := hq q hqi
          refine ⟨y, y1, y2, by rw [hS1 24 (by decide), hS1 25 (by decide), hS1 26 (by decide), hS1 28 (by decide)]; exact y3, fun p' hp' => ?_⟩
          unfold PR
          rw [v29, if_neg (by omega)]
          exact y4 p' hp'
        · unfold PR
          rw [v29]
          by_cases hpp : p' = p
          · subst hpp
            rw [if_pos rfl]
            exact hv
          · rw [if_neg (by omega)]
            exact hp p' (by omega)
      refine r_partOf3 hW' hK' i x p hi hx (by rw [hS 7 (by decide)]; exact ex) (by omega) (fun hpa i' hi' e => ?_) (fun hpa => ?_)
      · rw [hsg] at hpa
        rw [hS 7 (by decide), hS 1 (by decide)] at e
        exact step i' (by omega) (by omega) ⟨fun _ => ⟨i', hi', rfl, e⟩, fun h => absurd hpa h⟩
      · rw [hsg] at hpa
        exact step (-1) (by omega) (by omega) ⟨fun h => absurd h hpa, fun _ => rfl⟩
    · rw [h47, bq (x := (i : Int)) (by omega) (by omega), show bm 64 = 64 by decide]
      refine ⟨fun c8 => absurd c8 (by omega), fun _ => ?_⟩
      unfold F_X1_start_131
      rw [show (i : Int) + 1 = ((i + 1 : Nat) : Int) by omega]
      refine k M hR hS h47 (fun q hqi => ?_)
      by_cases hqq : q = i
      · subst hqq
        exact ⟨x, hx, ex, hi4, fun p' hp' => hp p' (by omega)⟩
      · exact hq q (by omega)
theorem r_start_8 {M0 : g_M} {n m c : Nat} {Q : g_M → Prop} (hc : c ≤ 60) (hW : WF M0 n m) (hK : WK M0 n c)
    (k : ∀ M' : g_M, RG M' → SM [24, 25, 26, 28, 29, 47] M0 M' → M' 47 10 = 64 → (∀ q, q < c → ST1 M0 M' n q) → Q M') :
    ∀ (f i : Nat) (M : g_M), i ≤ c → c - i < f → RG M → SM [24, 25, 26, 28, 29, 47] M0 M → M 47 10 = 64 → (∀ q, q < i → ST1 M0 M n q) → F_X1_start_8 Q f i M := by
  intro f
  induction f with
  | zero => intros; omega
  | succ f ih =>
    intro i M h1 h2 hR hS h47 hq
    unfold F_X1_start_8
    refine r_count (c := c) (by rw [hS 43 (by decide)]; exact hK.1) ?_
    rw [bq (x := (i : Int)) (by omega) (by omega), bq (x := (c : Int)) (by omega) (by omega)]
    refine ⟨fun c9 => ?_, fun c9 => ?_⟩
    · have hic : i < c := by omega
      refine ⟨okk i rfl (by show i < 65536; omega), okk i rfl (by show i < 65536; omega), okk i rfl (by show i < 65536; omega), ?_⟩
      rw [rsk (M := M) (r := 24) i rfl (by omega), rsk i rfl (by omega), rsk i rfl (by omega)]
      obtain ⟨x, x1, x2, x3, x4⟩ := hK.2.2 i hic
      have t5 := hW.st.1.2.2.2.2
      refine r_node i (by omega) ?_
      rw [up3 (by decide), up3 (by decide), up3 (by decide), hS 7 (by decide), x2]
      refine r_symbol x (by omega) ?_
      rw [up3 (by decide), up3 (by decide), up3 (by decide), hS 0 (by decide)]
      refine ⟨okk i rfl (by show i < 65536; omega), 4, ?_⟩
      rw [rsk i rfl (by omega)]
      generalize hM1 : up (up (up (up M 24 i (i : Int)) 25 i (i : Int)) 26 i 1) 28 i (M0 0 x) = M1
      have u : ∀ r j, M1 r j = if r = 28 ∧ j = i then M0 0 x else if r = 26 ∧ j = i then 1 else if r = 25 ∧ j = i then (i : Int) else if r = 24 ∧ j = i then (i : Int) else M r j := fun r j => by rw [← hM1]; rfl
      have hR1 : RG M1 := by
        rw [← hM1]
        exact (((hR.u (by omega) (by omega)).u (by omega) (by omega)).u (by omega) (by omega)).u (hW.rg 0 x).1 (hW.rg 0 x).2
      have hS1 : SM [24, 25, 26, 28] M M1 := by
        intro r hr
        funext j
        simp only [List.mem_cons, List.not_mem_nil, or_false, not_or] at hr
        rw [u]
        simp [hr]
      refine r_start_71 hc hW hK hic x1 x2 (fun M' g1 g2 g3 g4 => ih (i + 1) M' (by omega) (by omega) g1 g2 g3 g4) 4 0 M1 (by omega) (by omega) hR1 (hS.tr (hS1.mono (by decide))) (by rw [hS1 47 (by decide)]; exact h47) (fun q hqi => ?_) ⟨by rw [u]; simp, by rw [u]; simp, by rw [u]; simp, by rw [u]; simp⟩ (fun p' h => absurd h (by omega))
      obtain ⟨y, y1, y2, ⟨y3, y4, y5, y6⟩, y7⟩ := hq q hqi
      have hne : q ≠ i := by omega
      refine ⟨y, y1, y2, ⟨by rw [u]; simp [hne, y3], by rw [u]; simp [hne, y4], by rw [u]; simp [hne, y5], by rw [u]; simp [hne, y6]⟩, fun p' hp' => ?_⟩
      unfold PR
      rw [hS1 29 (by decide)]
      exact y7 p' hp'
    · exact k M hR hS h47 (fun q hqc => hq q (by omega))
/-- the closure's start -/
theorem r_cstart {M : g_M} {n m c : Nat} {Q : g_M → Prop} (hc : c ≤ 60) (hW : WF M n m) (hK : WK M n c)
    (k : ∀ M' : g_M, RG M' → SM [24, 25, 26, 28, 29, 47] M M' → CL M' c → CX M' c → (∀ q, q < c → ST1 M M' n q) → Q M') : F_X1_start Q M := by
  unfold F_X1_start
  have hS1 : SM [24, 25, 26, 28, 29, 47] M (up M 47 10 64) := (SM.rf _ _).u (by decide)
  refine ⟨c + 1, r_start_8 hc hW hK (fun M' hR hS h47 hq => k M' hR hS (fun i hi => ?_) ⟨?_, h47, fun i hi => ?_⟩ hq) (c + 1) 0 _ (by omega) (by omega) (hW.rg.u (by omega) (by omega)) hS1 (up1 _ _ _ _) (fun q h => absurd h (by omega))⟩
  · obtain ⟨x, x1, x2, ⟨x3, x4, x5, x6⟩, x7⟩ := hq i hi
    refine ⟨i, hi, x3, i, [], x3, x4, rfl, by rw [x5]; rfl, by simp, fun q => ?_⟩
    constructor
    · intro h
      have : q = i := by simpa using h
      subst this
      exact ⟨hi, x3⟩
    · rintro ⟨h1, h2⟩
      obtain ⟨y, y1, y2, ⟨y3, -⟩, -⟩ := hq q h1
      have : q = i := by omega
      simp [this]
  · rw [hS 43 (by decide)]
    exact hK.1
  · obtain ⟨x, x1, x2, ⟨x3, x4, x5, x6⟩, x7⟩ := hq i hi
    rw [x6]
    refine ⟨hW.st.2.1 x x1, fun p hp => ?_⟩
    obtain ⟨p1, p2⟩ := x7 p hp
    exact ⟨fun h => by
      obtain ⟨i', q1, q2, -⟩ := p1 h
      exact ⟨i', q1, q2⟩, p2⟩
end Q4
