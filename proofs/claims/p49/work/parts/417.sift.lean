section Q7
theorem r_enter_190 {M0 : g_M} {Q : g_M → Prop} {En mem : Nat → Prop} {C G n x : Nat} (hCM : CM M0 En C G) (hG1 : G ≤ 1000) (hC : C ≤ 1000) (hn : n ≤ 1000) (h17 : M0 44 17 = (n : Int)) (hx : En x)
    (k : ∀ M' : g_M, RG M' → SM [19] M0 M' → HO (KY M0) En M' n → (∀ k, inH M' n k ↔ mem k ∨ k = x) → Q M') :
    ∀ (f p i : Nat) (M : g_M), p < f → p < n → i + p < n → RG M → SM [19] M0 M → HH0 (KY M0) En mem M n p x → (∀ j, 0 < j → j < n → (j - 1) / 2 = p → KY M0 x ≤ KY M0 (hv M j) ∧ (0 < p → KY M0 (hv M ((p - 1) / 2)) ≤ KY M0 (hv M j))) → F_X2_enter_190 Q f x p i M := by
  intro f
  induction f with
  | zero => intros; omega
  | succ f ih =>
    intro p i M h1 h2 h3 hR hS hH hd
    have hxG := (hCM.2.2.1 x hx).1
    have put : (0 < p → KY M0 (hv M ((p - 1) / 2)) ≤ KY M0 x) → F_X2_enter_260 Q x p M := fun hp => by
      unfold F_X2_enter_260
      refine ⟨okk p rfl (by show p < 65536; omega), ?_⟩
      rw [rsk p rfl (by omega)]
      obtain ⟨g1, g2⟩ := hH.put h2 hx hp (fun j j0 jn jp => (hd j j0 jn jp).1)
      exact k _ (hR.u (by omega) (by omega)) (hS.u (by decide)) g1 g2
    unfold F_X2_enter_190
    rw [hS 44 (by decide), h17, bq (x := (i : Int)) (by omega) (by omega), bq (x := (n : Int)) (by omega) (by omega), bq (x := (p : Int)) (by omega) (by omega)]
    refine ⟨fun _ => ⟨fun c9 => ?_, fun c9 => put (fun h => absurd c9 (by omega))⟩, fun c9 => absurd c9 (by omega)⟩
    obtain ⟨r, hr⟩ : ∃ r, r = (p - 1) / 2 := ⟨_, rfl⟩
    have er : idiv ((p : Int) - 1) 2 = (r : Int) := by
      rw [show (p : Int) - 1 = ((p - 1 : Nat) : Int) by omega]
      rw [hr]
      exact idivk (p - 1) 2 (by omega) (by omega) (by omega)
    obtain ⟨b1, b2, b3⟩ := hH.1 r (by omega) (by omega)
    have ehv : M 19 r = ((hv M r : Nat) : Int) := by unfold hv; omega
    have hvG := (hCM.2.2.1 _ b2).1
    rw [er, rgn r (by omega), ehv]
    refine r_cmp hCM hR hS hG1 hC x (hv M r) hx b2 (fun hlt => ⟨fun c8 => absurd c8 (by decide), fun _ => ⟨okk p rfl (by show p < 65536; omega), ?_⟩⟩) (fun hlt => ⟨fun _ => put (fun _ => by rw [← hr]; omega), fun c8 => absurd rfl c8⟩)
    rw [rgn r (by omega), rsk p rfl (by omega), show (i : Int) + 1 = ((i + 1 : Nat) : Int) by omega]
    have c3 := hH.2.2.1
    have w : ∀ i, hv (up M 19 p (M 19 r)) i = if i = p then hv M r else hv M i := fun i => by
      unfold hv
      rw [upi]
      by_cases hip : i = p
      · rw [if_pos ⟨rfl, hip⟩, if_pos hip]
      · rw [if_neg (fun h => hip h.2), if_neg hip]
    refine ih r (i + 1) _ (by omega) (by omega) (by omega) (hR.u (by omega) (by omega)) (hS.u (by decide)) (hH.move h2 (by omega) (by omega) (fun j j0 jn jr jpr => ⟨fun e => absurd (by rw [e, hr] : (j - 1) / 2 = r) jpr, fun jp e => by have := (hd j j0 jn e).2 (by omega); rw [← hr] at this; exact this⟩)) (fun j j0 jn jr => ?_)
    have up1 : 0 < r → KY M0 (hv M ((r - 1) / 2)) ≤ KY M0 (hv M r) := fun h => c3 r h (by omega) (by omega) (by omega)
    rw [w, w, if_neg (show (r - 1) / 2 ≠ p by omega)]
    by_cases hjp : j = p
    · rw [if_pos hjp]
      exact ⟨by omega, up1⟩
    · rw [if_neg hjp]
      have h9 := c3 j j0 jn hjp (by omega)
      rw [jr] at h9
      exact ⟨by omega, fun h => Nat.le_trans (up1 h) h9⟩
theorem r_takeLeast_36 {M0 : g_M} {Q : Int → g_M → Prop} {En mem : Nat → Prop} {C G n x : Nat} {x1 : Int} (hCM : CM M0 En C G) (hG1 : G ≤ 1000) (hC : C ≤ 1000) (hn : n ≤ 1000) (h17 : M0 44 17 = (n : Int)) (hx : En x)
    (k : ∀ M' : g_M, RG M' → SM [19] M0 M' → HO (KY M0) En M' n → (∀ k, inH M' n k ↔ mem k ∨ k = x) → Q x1 M') :
    ∀ (f p i : Nat) (M : g_M), n - p < f → p < n → i ≤ p → RG M → SM [19] M0 M → HH0 (KY M0) En mem M n p x → (0 < p → KY M0 (hv M ((p - 1) / 2)) ≤ KY M0 x ∧ ∀ j, 0 < j → j < n → (j - 1) / 2 = p → KY M0 (hv M ((p - 1) / 2)) ≤ KY M0 (hv M j)) → F_X2_takeLeast_36 Q f x1 x p i M := by
  intro f
  induction f with
  | zero => intros; omega
  | succ f ih =>
    intro p i M h1 h2 h3 hR hS hH hd
    have hxG := (hCM.2.2.1 x hx).1
    have put : (∀ j, 0 < j → j < n → (j - 1) / 2 = p → KY M0 x ≤ KY M0 (hv M j)) → F_X2_takeLeast_151 Q x1 x p M := fun hp => by
      unfold F_X2_takeLeast_151
      refine ⟨okk p rfl (by show p < 65536; omega), ?_⟩
      rw [rsk p rfl (by omega)]
      obtain ⟨g1, g2⟩ := hH.put h2 hx (fun h => (hd h).1) hp
      exact k _ (hR.u (by omega) (by omega)) (hS.u (by decide)) g1 g2
    have el : ∀ j, j < n → j ≠ p → M 19 j = ((hv M j : Nat) : Int) ∧ En (hv M j) ∧ hv M j < G := fun j hj hjp => by
      obtain ⟨b1, b2, b3⟩ := hH.1 j hj hjp
      exact ⟨by unfold hv; omega, b2, (hCM.2.2.1 _ b2).1⟩
    have c3 := hH.2.2.1
    have go : ∀ r : Nat, r < n → (r = 2 * p + 1 ∨ r = 2 * p + 2) → (∀ j, 0 < j → j < n → (j - 1) / 2 = p → KY M0 (hv M r) ≤ KY M0 (hv M j)) → F_X2_takeLeast_105 Q (F_X2_takeLeast_36 Q f) x1 x p i r M := fun r hr hrp hmin => by
      obtain ⟨b1, b2, b3⟩ := el r hr (by omega)
      unfold F_X2_takeLeast_105
      rw [rgn r (by omega), b1]
      refine r_cmp hCM hR hS hG1 hC (hv M r) x b2 hx (fun hlt => ⟨fun c8 => absurd c8 (by decide), fun _ => ⟨okk p rfl (by show p < 65536; omega), ?_⟩⟩) (fun hlt => ⟨fun _ => put (fun j j0 jn jp => by have := hmin j j0 jn jp; omega), fun c8 => absurd rfl c8⟩)
      rw [rgn r (by omega), rsk p rfl (by omega), show (i : Int) + 1 = ((i + 1 : Nat) : Int) by omega]
      have w : ∀ i, hv (up M 19 p (M 19 r)) i = if i = p then hv M r else hv M i := fun i => by
        unfold hv
        rw [upi]
        by_cases hip : i = p
        · rw [if_pos ⟨rfl, hip⟩, if_pos hip]
        · rw [if_neg (fun h => hip h.2), if_neg hip]
      refine ih r (i + 1) _ (by omega) hr (by omega) (hR.u (by omega) (by omega)) (hS.u (by decide)) (hH.move h2 hr (by omega) (fun j j0 jn jr jpr => ⟨fun e => (hd (by omega)).2 r (by omega) hr (by omega), fun jp e => hmin j j0 jn e⟩)) (fun _ => ?_)
      have hpr : (r - 1) / 2 = p := by omega
      rw [hpr, w, if_pos rfl]
      refine ⟨by omega, fun j j0 jn jr => ?_⟩
      rw [w, if_neg (by omega)]
      have h9 := c3 j j0 jn (by omega) (by omega)
      rw [jr] at h9
      exact h9
    unfold F_X2_takeLeast_36
    rw [hS 44 (by decide), h17, bq (x := (i : Int)) (by omega) (by omega), bq (x := (n : Int)) (by omega) (by omega), bq (x := 2 * (p : Int) + 1) (by omega) (by omega), bq (x := 2 * (p : Int) + 1 + 1) (by omega) (by omega)]
    refine ⟨fun _ => ⟨fun c9 => ⟨fun c8 => ?_, fun c8 => ?_⟩, fun c9 => put (fun j j0 jn jp => absurd jn (by omega))⟩, fun c9 => absurd c9 (by omega)⟩
    · rw [show 2 * (p : Int) + 1 + 1 = ((2 * p + 2 : Nat) : Int) by omega, show 2 * (p : Int) + 1 = ((2 * p + 1 : Nat) : Int) by omega]
      obtain ⟨b1, b2, b3⟩ := el (2 * p + 1) (by omega) (by omega)
      obtain ⟨d1, d2, d3⟩ := el (2 * p + 2) (by omega) (by omega)
      rw [rgn (2 * p + 2) (by omega), rgn (2 * p + 1) (by omega), b1, d1]
      have two : ∀ j, 0 < j → (j - 1) / 2 = p → j = 2 * p + 1 ∨ j = 2 * p + 2 := fun j j0 jp => by omega
      refine r_cmp hCM hR hS hG1 hC _ _ d2 b2 (fun hlt => ⟨fun c8 => absurd c8 (by decide), fun _ => go (2 * p + 2) (by omega) (Or.inr rfl) (fun j j0 jn jp => ?_)⟩) (fun hlt => ⟨fun _ => go (2 * p + 1) (by omega) (Or.inl rfl) (fun j j0 jn jp => ?_), fun c8 => absurd rfl c8⟩)
      · rcases two j j0 jp with e | e
        · rw [e]
          omega
        · rw [e]
          exact Nat.le_refl _
      · rcases two j j0 jp with e | e
        · rw [e]
          exact Nat.le_refl _
        · rw [e]
          omega
    · rw [show 2 * (p : Int) + 1 = ((2 * p + 1 : Nat) : Int) by omega]
      refine go (2 * p + 1) (by omega) (Or.inl rfl) (fun j j0 jn jp => ?_)
      rw [show j = 2 * p + 1 by omega]
      exact Nat.le_refl _
/-- the least of the heap is taken -/
theorem r_takeLeast {M : g_M} {Q : Int → g_M → Prop} {En : Nat → Prop} {C G n : Nat} (hCM : CM M En C G) (hG1 : G ≤ 1000) (hC : C ≤ 1000) (hn : n + 1 ≤ 1000) (hR : RG M) (h17 : M 44 17 = ((n + 1 : Nat) : Int)) (hH : HO (KY M) En M (n + 1))
    (k : ∀ (x : Nat) (M' : g_M), En x → inH M (n + 1) x → (∀ k', inH M (n + 1) k' → KY M x ≤ KY M k') → RG M' → SM [19, 44] M M' → M' 44 17 = (n : Int) → (∀ j, j ≠ 17 → M' 44 j = M 44 j) → HO (KY M) En M' n → (∀ k', inH M' n k' ↔ inH M (n + 1) k' ∧ k' ≠ x) → Q x M') : F_X2_takeLeast Q M := by
  obtain ⟨a1, a2, a3⟩ := hH
  obtain ⟨z1, z2⟩ := a1 0 (by omega)
  obtain ⟨y1, y2⟩ := a1 n (by omega)
  have e0 : M 19 0 = ((hv M 0 : Nat) : Int) := by unfold hv; omega
  have en : M 19 n = ((hv M n : Nat) : Int) := by unfold hv; omega
  have hl := HO.least ⟨a1, a2, a3⟩
  have z3 := (hCM.2.2.1 _ z2).1
  have y3 := (hCM.2.2.1 _ y2).1
  have least : ∀ k', inH M (n + 1) k' → KY M (hv M 0) ≤ KY M k' := fun k' ⟨i, hi, e⟩ => by
    have h1 := hl i hi
    have h2 : hv M i = k' := by unfold hv; omega
    rw [h2] at h1
    exact h1
  have in0 : inH M (n + 1) (hv M 0) := ⟨0, by omega, e0⟩
  unfold F_X2_takeLeast
  rw [h17, show ((n + 1 : Nat) : Int) - 1 = (n : Int) by omega, rgk (M := M) (r := 19) (i := 0) 0 (by omega) (by omega), up1, rgn n (by omega), up3 (by decide), e0, en]
  generalize hM1 : up M 44 17 (n : Int) = M1
  have hS1 : SM [44] M M1 := by
    rw [← hM1]
    exact (SM.rf _ _).u (by decide)
  have hR1 : RG M1 := by
    rw [← hM1]
    exact hR.u (by omega) (by omega)
  have v44 : ∀ j, M1 44 j = if j = 17 then (n : Int) else M 44 j := fun j => by rw [← hM1, upi]; simp
  have m19 : M1 19 = M 19 := hS1 19 (by decide)
  have hCM1 : CM M1 En C G := hCM.cong (hS1.mono (by decide)) (by rw [v44, if_neg (by decide)]) (by rw [v44, if_neg (by decide)])
  have eK : ∀ k, KY M1 k = KY M k := fun k => KY.cong (hS1 11 (by decide)) (hS1 12 (by decide)) (hS1 16 (by decide)) (hS1 21 (by decide)) (hS1 52 (by decide)) (hS1 54 (by decide)) k
  have eKf : KY M1 = KY M := funext eK
  have ehv : ∀ i, hv M1 i = hv M i := fun i => by unfold hv; rw [m19]
  rcases Nat.eq_zero_or_pos n with hn0 | hn0
  · subst hn0
    refine ⟨1, ?_⟩
    unfold F_X2_takeLeast_36
    rw [v44, if_pos rfl]
    refine ⟨fun c => absurd (show bm 0 < bm 0 from c) (by decide), fun _ => ?_⟩
    unfold F_X2_takeLeast_151
    refine ⟨okk 0 rfl (by show 0 < 65536; omega), ?_⟩
    rw [rsk (i := 0) 0 rfl (by omega)]
    refine k (hv M 0) _ z2 in0 least (hR1.u (by omega) (by omega)) (((hS1.mono (by decide)).tr (SM.rf _ _)).u (by decide)) ?_ (fun j hj => ?_) ⟨fun i hi => absurd hi (by omega), fun i j hi => absurd hi (by omega), fun i h0 hi => absurd hi (by omega)⟩ (fun k' => ⟨fun ⟨i, hi, _⟩ => absurd hi (by omega), fun ⟨⟨i, hi, e⟩, h2⟩ => ?_⟩)
    · rw [up3 (by decide), v44, if_pos rfl]
    · rw [up3 (by decide), v44, if_neg hj]
    · have : i = 0 := by omega
      subst this
      omega
  · refine ⟨n + 1, ?_⟩
    refine r_takeLeast_36 (x := hv M n) (mem := fun k' => inH M (n + 1) k' ∧ k' ≠ hv M 0 ∧ k' ≠ hv M n) hCM1 hG1 hC (by omega) (by rw [v44, if_pos rfl]) y2 (fun M' g1 g2 g3 g4 => ?_) (n + 1) 0 0 M1 (by omega) hn0 (Nat.le_refl _) hR1 (SM.rf _ _) ⟨fun i hi h0 => ?_, fun i j hi hj _ _ e => ?_, fun i h0 hi _ hp => ?_, fun k' => ⟨fun ⟨i, hi, h0, e⟩ => ?_, fun ⟨⟨i, hi, e⟩, h2, h3⟩ => ?_⟩⟩ (fun h => absurd h (by omega))
    · rw [eKf] at g3
      refine k (hv M 0) M' z2 in0 least g1 ((hS1.mono (by decide)).tr (g2.mono (by decide))) ?_ (fun j hj => ?_) g3 (fun k' => ?_)
      · rw [g2 44 (by decide), v44, if_pos rfl]
      · rw [g2 44 (by decide), v44, if_neg hj]
      · rw [g4 k']
        constructor
        · rintro (⟨h1, h2, h3⟩ | h)
          · exact ⟨h1, h2⟩
          · refine ⟨⟨n, by omega, by rw [h, en]⟩, fun e => ?_⟩
            have := a2 0 n (by omega) (by omega) (by rw [e0, en]; omega)
            omega
        · rintro ⟨h1, h2⟩
          by_cases hkn : k' = hv M n
          · exact Or.inr hkn
          · exact Or.inl ⟨h1, h2, hkn⟩
    · rw [m19, ehv]
      refine ⟨(a1 i (by omega)).1, (a1 i (by omega)).2, fun e => ?_⟩
      have := a2 i n (by omega) (by omega) (by rw [e, en])
      omega
    · rw [m19] at e
      exact a2 i j (by omega) (by omega) e
    · rw [ehv, ehv, eK, eK]
      exact a3 i h0 (by omega)
    · rw [m19] at e
      refine ⟨⟨i, by omega, e⟩, fun h => h0 (a2 i 0 (by omega) (by omega) (by rw [e, e0, h])), fun h => ?_⟩
      have := a2 i n (by omega) (by omega) (by rw [e, en, h])
      omega
    · refine ⟨i, ?_, fun h => h2 ?_, by rw [m19, e]⟩
      · by_cases hin : i = n
        · rw [hin, en] at e
          omega
        · omega
      · rw [h, e0] at e
        omega
end Q7
