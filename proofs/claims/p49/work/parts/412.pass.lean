section Q2
def FU (M : g_M) (i : Nat) : Prop :=
  (∀ q, q < i → M 27 q = 0 ∨ M 27 q = 1) ∧
  (∀ b : Nat, b < 64 → (0 < M 30 b → hb M (M 30 b - 1).toNat = (b : Int)) ∧ ∀ q : Nat, q < i → M 27 q = 0 → hb M q = (b : Int) → (q : Int) < M 30 b) ∧
  (∀ q : Nat, q < i → M 27 q = 0 → (0 < M 31 q → hb M (M 31 q - 1).toNat = hb M q) ∧ ∀ z : Nat, z < q → M 27 z = 0 → hb M z = hb M q → (z : Int) < M 31 q) ∧
  (∀ q r, q < i → r < i → M 27 q = 0 → M 27 r = 0 → tw M q r → q = r) ∧
  (∀ q, q < i → M 27 q = 1 → ∃ r, r < q ∧ M 27 r = 0 ∧ tw M q r ∧ M 24 q = M 24 r)
def PI (M0 M : g_M) (c i : Nat) (x1 : Int) : Prop :=
  (RG M ∧ CL M c ∧ SM [24, 25, 26, 27, 30, 31] M0 M) ∧ (∀ E, EC E M0 c → SO E M0 c → SO E M c) ∧ (∀ a b, a < c → b < c → M0 24 a = M0 24 b → M 24 a = M 24 b) ∧ (x1 = 1 ∧ rts (M 24) c < rts (M0 24) c ∨ x1 = 0 ∧ M 24 = M0 24 ∧ FU M i) ∧
  (∀ b, b < 64 → 0 ≤ M 30 b ∧ M 30 b ≤ (i : Int) ∧ (0 < M 30 b → M 27 (M 30 b - 1).toNat = 0)) ∧
  (∀ q : Nat, q < i → M 27 q = 0 → 0 ≤ M 31 q ∧ M 31 q ≤ (q : Int) ∧ (0 < M 31 q → M 27 (M 31 q - 1).toNat = 0))
theorem r_joinTwins_107 {M0 M : g_M} {Q : Int → g_M → Prop} {k29 : Int → Int → g_M → Prop} {c i bk : Nat} {x1 x4 : Int} (hc : c ≤ 1000) (hX : CX M0 c) (hP : PI M0 M c i x1) (hi : i < c) (hbk : bk < 64) (ebk : hb M i = (bk : Int))
    (hx4 : x4 = -1 ∨ ∃ r : Nat, r < i ∧ x4 = (r : Int) ∧ M 27 r = 0 ∧ tw M i r) (hno : x1 = 0 → x4 = -1 → ∀ z, z < i → M 27 z = 0 → ¬ tw M i z)
    (k : ∀ (M' : g_M) (x1' : Int), PI M0 M' c (i + 1) x1' → k29 x1' ((i + 1 : Nat) : Int) M') : F_X1_joinTwins_107 Q k29 x1 i bk x4 M := by
  obtain ⟨⟨hR, hL, hS⟩, hsnd, hmon, hx1, hB1, hB2⟩ := hP
  have m28 : M 28 = M0 28 := hS 28 (by decide)
  have m29 : M 29 = M0 29 := hS 29 (by decide)
  have hXM : CX M c := hX.cong (hS 43 (by decide)) (hS 47 (by decide)) m28 m29
  unfold F_X1_joinTwins_107
  rcases hx4 with rfl | ⟨r, hr, rfl, hr27, hrt⟩
  · refine ⟨fun _ => ?_, fun c9 => absurd (by decide) c9⟩
    unfold F_X1_joinTwins_122
    obtain ⟨b1, b2, b3⟩ := hB1 bk hbk
    refine ⟨okk i rfl (by show i < 65536; omega), fun _ => ⟨okk i rfl (by show i < 65536; omega), okk bk rfl (by show bk < 16384; omega), ?_⟩, fun c9 => absurd (by decide) c9⟩
    unfold F_X1_joinTwins_189
    rw [rsk (M := M) (r := 27) i rfl (by omega), rgn bk (by omega), up3 (by decide), rsk i rfl (by omega), rsk bk rfl (by omega), show (i : Int) + 1 = ((i + 1 : Nat) : Int) by omega]
    generalize hM' : up (up (up M 27 i 0) 31 i (M 30 bk)) 30 bk ((i + 1 : Nat) : Int) = M'
    have u : ∀ r j, M' r j = if r = 30 ∧ j = bk then ((i + 1 : Nat) : Int) else if r = 31 ∧ j = i then M 30 bk else if r = 27 ∧ j = i then 0 else M r j := fun r j => by rw [← hM']; rfl
    have hR' : RG M' := by
      rw [← hM']
      exact ((hR.u (by omega) (by omega)).u (by omega) (by omega)).u (by omega) (by omega)
    have hS' : SM [27, 30, 31] M M' := by
      intro r hr
      funext j
      simp only [List.mem_cons, List.not_mem_nil, or_false, not_or] at hr
      rw [u]
      simp [hr]
    have v27 : ∀ q, M' 27 q = if q = i then 0 else M 27 q := fun q => by rw [u]; simp
    have v30 : ∀ q, M' 30 q = if q = bk then ((i + 1 : Nat) : Int) else M 30 q := fun q => by rw [u]; simp
    have v31 : ∀ q, M' 31 q = if q = i then M 30 bk else M 31 q := fun q => by rw [u]; simp
    have e24 : M' 24 = M 24 := hS' 24 (by decide)
    have ehb : ∀ q, hb M' q = hb M q := fun q => hb.cong e24 (hS' 28 (by decide)) (hS' 29 (by decide)) q
    have etw : ∀ q r, tw M' q r ↔ tw M q r := fun q r => tw.cong e24 (hS' 28 (by decide)) (hS' 29 (by decide)) q r
    refine k M' x1 ⟨⟨hR', hL.cong e24 (hS' 25 (by decide)) (hS' 26 (by decide)), hS.tr (hS'.mono (by decide))⟩, fun E g1 g2 => ?_, fun a b ha hb' e => ?_, ?_, fun b hb' => ?_, fun q hq h27 => ?_⟩
    · unfold SO
      rw [e24]
      exact hsnd E g1 g2
    · rw [e24]
      exact hmon a b ha hb' e
    · rw [e24]
      rcases hx1 with h | ⟨h1, h2, f1, f2, f3, f4, f5⟩
      · exact Or.inl h
      · refine Or.inr ⟨h1, h2, fun q hq => ?_, fun b hb' => ⟨fun hp => ?_, fun q hq h27 hh => ?_⟩, fun q hq h27 => ⟨fun hp => ?_, fun z hz hz27 hh => ?_⟩, fun q r hq hr hq27 hr27 ht => ?_, fun q hq h27 => ?_⟩
        · rw [v27]
          by_cases hqi : q = i
          · rw [if_pos hqi]
            exact Or.inl rfl
          · rw [if_neg hqi]
            exact f1 q (by omega)
        · rw [ehb]
          rw [v30] at hp ⊢
          by_cases hbb : b = bk
          · rw [if_pos hbb, show (((i + 1 : Nat) : Int) - 1).toNat = i by omega, ebk, hbb]
          · rw [if_neg hbb] at hp ⊢
            exact (f2 b hb').1 hp
        · rw [ehb] at hh
          rw [v30]
          by_cases hbb : b = bk
          · rw [if_pos hbb]
            omega
          · rw [if_neg hbb]
            by_cases hqi : q = i
            · rw [hqi, ebk] at hh
              omega
            · rw [v27, if_neg hqi] at h27
              exact (f2 b hb').2 q (by omega) h27 hh
        · rw [ehb, ehb]
          rw [v31] at hp ⊢
          by_cases hqi : q = i
          · rw [if_pos hqi] at hp ⊢
            rw [hqi, ebk]
            exact (f2 bk hbk).1 hp
          · rw [if_neg hqi] at hp ⊢
            rw [v27, if_neg hqi] at h27
            exact (f3 q (by omega) h27).1 hp
        · rw [ehb, ehb] at hh
          rw [v27, if_neg (by omega)] at hz27
          rw [v31]
          by_cases hqi : q = i
          · rw [if_pos hqi]
            rw [hqi, ebk] at hh
            exact (f2 bk hbk).2 z (by omega) hz27 hh
          · rw [if_neg hqi]
            rw [v27, if_neg hqi] at h27
            exact (f3 q (by omega) h27).2 z hz hz27 hh
        · rw [etw] at ht
          by_cases hqi : q = i
          · by_cases hri : r = i
            · omega
            · rw [v27, if_neg hri] at hr27
              rw [hqi] at ht
              exact absurd ht (hno h1 rfl r (by omega) hr27)
          · by_cases hri : r = i
            · rw [v27, if_neg hqi] at hq27
              rw [hri] at ht
              exact absurd ht.sy (hno h1 rfl q (by omega) hq27)
            · rw [v27, if_neg hqi] at hq27
              rw [v27, if_neg hri] at hr27
              exact f4 q r (by omega) (by omega) hq27 hr27 ht
        · rw [v27] at h27
          by_cases hqi : q = i
          · rw [if_pos hqi] at h27
            omega
          · rw [if_neg hqi] at h27
            obtain ⟨r, r1, r2, r3, r4⟩ := f5 q (by omega) h27
            exact ⟨r, r1, by rw [v27, if_neg (by omega)]; exact r2, (etw q r).2 r3, by rw [e24]; exact r4⟩
    · rw [v30]
      by_cases hbb : b = bk
      · rw [if_pos hbb]
        refine ⟨by omega, by omega, fun _ => ?_⟩
        rw [v27, if_pos (by omega)]
      · rw [if_neg hbb]
        obtain ⟨p1, p2, p3⟩ := hB1 b hb'
        refine ⟨p1, by omega, fun hp => ?_⟩
        rw [v27, if_neg (by omega)]
        exact p3 hp
    · rw [v31]
      by_cases hqi : q = i
      · rw [if_pos hqi]
        refine ⟨b1, by omega, fun hp => ?_⟩
        rw [v27, if_neg (by omega)]
        exact b3 hp
      · rw [if_neg hqi]
        rw [v27, if_neg hqi] at h27
        obtain ⟨p1, p2, p3⟩ := hB2 q (by omega) h27
        refine ⟨p1, p2, fun hp => ?_⟩
        rw [v27, if_neg (by omega)]
        exact p3 hp
  · have hbr : bm (r : Int) = (r : Int) := bq (by omega) (by omega)
    refine ⟨fun c9 => absurd c9 (by rw [hbr]; omega), fun _ => ?_⟩
    unfold F_X1_joinTwins_122
    refine ⟨okk i rfl (by show i < 65536; omega), fun c9 => absurd c9 (by rw [hbr]; omega), fun _ => ?_⟩
    rw [rsk i rfl (by omega)]
    generalize hM1 : up M 27 i 1 = M1
    have hS1 : SM [27] M M1 := by
      rw [← hM1]
      exact (SM.rf _ _).u (by decide)
    have hR1 : RG M1 := by
      rw [← hM1]
      exact hR.u (by omega) (by omega)
    have v27 : ∀ q, M1 27 q = if q = i then 1 else M 27 q := fun q => by rw [← hM1, upi]; simp
    have e24 : M1 24 = M 24 := hS1 24 (by decide)
    have e30 : M1 30 = M 30 := hS1 30 (by decide)
    have e31 : M1 31 = M 31 := hS1 31 (by decide)
    have hL1 : CL M1 c := hL.cong e24 (hS1 25 (by decide)) (hS1 26 (by decide))
    have ehb : ∀ q, hb M1 q = hb M q := fun q => hb.cong e24 (hS1 28 (by decide)) (hS1 29 (by decide)) q
    have etw : ∀ q r, tw M1 q r ↔ tw M q r := fun q r => tw.cong e24 (hS1 28 (by decide)) (hS1 29 (by decide)) q r
    have nB1 : ∀ b, b < 64 → 0 ≤ M 30 b ∧ M 30 b ≤ ((i + 1 : Nat) : Int) ∧ (0 < M 30 b → M1 27 (M 30 b - 1).toNat = 0) := fun b hb' => by
      obtain ⟨p1, p2, p3⟩ := hB1 b hb'
      refine ⟨p1, by omega, fun hp => ?_⟩
      rw [v27, if_neg (by omega)]
      exact p3 hp
    have nB2 : ∀ q : Nat, q < i + 1 → M1 27 q = 0 → 0 ≤ M 31 q ∧ M 31 q ≤ (q : Int) ∧ (0 < M 31 q → M1 27 (M 31 q - 1).toNat = 0) := fun q hq h27 => by
      rw [v27] at h27
      by_cases hqi : q = i
      · rw [if_pos hqi] at h27
        omega
      · rw [if_neg hqi] at h27
        obtain ⟨p1, p2, p3⟩ := hB2 q (by omega) h27
        refine ⟨p1, p2, fun hp => ?_⟩
        rw [v27, if_neg (by omega)]
        exact p3 hp
    rw [rgn r (by omega), rgn i (by omega), hR1.b, hR1.b, e24]
    unfold F_X1_joinTwins_189
    rw [show (i : Int) + 1 = ((i + 1 : Nat) : Int) by omega]
    refine ⟨fun he => ?_, fun hne => ?_⟩
    · refine k M1 x1 ⟨⟨hR1, hL1, hS.tr (hS1.mono (by decide))⟩, fun E g1 g2 => ?_, fun a b ha hb' e => ?_, ?_, ?_, ?_⟩
      · unfold SO
        rw [e24]
        exact hsnd E g1 g2
      · rw [e24]
        exact hmon a b ha hb' e
      · rw [e24]
        rcases hx1 with h | ⟨h1, h2, f1, f2, f3, f4, f5⟩
        · exact Or.inl h
        · refine Or.inr ⟨h1, h2, fun q hq => ?_, fun b hb' => ⟨fun hp => ?_, fun q hq h27 hh => ?_⟩, fun q hq h27 => ⟨fun hp => ?_, fun z hz hz27 hh => ?_⟩, fun q r hq hr hq27 hr27 ht => ?_, fun q hq h27 => ?_⟩
          · rw [v27]
            by_cases hqi : q = i
            · rw [if_pos hqi]
              exact Or.inr rfl
            · rw [if_neg hqi]
              exact f1 q (by omega)
          · rw [ehb]
            rw [e30] at hp ⊢
            exact (f2 b hb').1 hp
          · rw [ehb] at hh
            rw [e30]
            rw [v27] at h27
            by_cases hqi : q = i
            · rw [if_pos hqi] at h27
              omega
            · rw [if_neg hqi] at h27
              exact (f2 b hb').2 q (by omega) h27 hh
          · rw [ehb, ehb]
            rw [e31] at hp ⊢
            rw [v27] at h27
            by_cases hqi : q = i
            · rw [if_pos hqi] at h27
              omega
            · rw [if_neg hqi] at h27
              exact (f3 q (by omega) h27).1 hp
          · rw [ehb, ehb] at hh
            rw [e31]
            rw [v27] at h27
            by_cases hqi : q = i
            · rw [if_pos hqi] at h27
              omega
            · rw [if_neg hqi] at h27
              rw [v27, if_neg (by omega)] at hz27
              exact (f3 q (by omega) h27).2 z hz hz27 hh
          · rw [etw] at ht
            rw [v27] at hq27 hr27
            by_cases hqi : q = i
            · rw [if_pos hqi] at hq27
              omega
            · by_cases hri : r = i
              · rw [if_pos hri] at hr27
                omega
              · rw [if_neg hqi] at hq27
                rw [if_neg hri] at hr27
                exact f4 q r (by omega) (by omega) hq27 hr27 ht
          · by_cases hqi : q = i
            · subst hqi
              exact ⟨r, hr, by rw [v27, if_neg (by omega)]; exact hr27, (etw q r).2 hrt, by rw [e24]; exact he.symm⟩
            · rw [v27, if_neg hqi] at h27
              obtain ⟨s, r1, r2, r3, r4⟩ := f5 q (by omega) h27
              exact ⟨s, r1, by rw [v27, if_neg (by omega)]; exact r2, (etw q s).2 r3, by rw [e24]; exact r4⟩
      · rw [e30]
        exact nB1
      · rw [e31]
        exact nB2
    · refine r_join hR1 hc hL1 r i (by omega) hi (fun e => absurd (by rw [← e24]; exact e) hne) (fun _ M2 g1 g2 g3 g4 => ?_)
      have j27 : M2 27 = M1 27 := g3 27 (by decide)
      have j30 : M2 30 = M 30 := (g3 30 (by decide)).trans e30
      have j31 : M2 31 = M 31 := (g3 31 (by decide)).trans e31
      refine k M2 1 ⟨⟨g1, g2, (hS.tr (hS1.mono (by decide))).tr (g3.mono (by decide))⟩, fun E q1 q2 => ?_, fun a b ha hb' e => ?_, Or.inl ⟨rfl, ?_⟩, ?_, ?_⟩
      · have hSO : SO E M c := hsnd E q1 q2
        have hEC : EC E M c := q1.cong m28 m29
        have hE : E r i := hEC.1 _ _ (hEC.tw hXM hc hSO hi (by omega) hrt)
        exact g4.sound (by omega) hi q1.1 q1.2.1 (fun a b ha hb' e => hSO a b ha hb' (by rw [← e24]; exact e)) hE
      · exact g4.keep ha hb' (by rw [e24]; exact hmon a b ha hb' e)
      · have h1 := g4.rts
        rw [e24] at h1
        rcases hx1 with ⟨-, h⟩ | ⟨-, h, -⟩
        · omega
        · rw [← h]
          exact h1
      · rw [j30, j27]
        exact nB1
      · rw [j31, j27]
        exact nB2
end Q2
