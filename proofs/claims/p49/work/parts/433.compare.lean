section S3
theorem sP_fun {M M' : g_M} {h : Nat → Nat} {x : Nat} (h1 : M' 1 = M 1) : ∀ r, sP h M' x r = sP h M x r
  | 0 => rfl
  | r + 1 => by
    show sP h M' x r + h (pn M' x r) = sP h M x r + h (pn M x r)
    rw [sP_fun h1 r, show pn M' x r = pn M x r by unfold pn; rw [h1]]
theorem Wt_fun {M M' : g_M} (h0 : M' 0 = M 0) (h1 : M' 1 = M 1) (h41 : M' 41 9 = M 41 9) (h51 : M' 51 = M 51) : ∀ f, wtF M' f = wtF M f
  | 0 => rfl
  | f + 1 => by
    funext x
    show (if M' 41 9 = 1 then min ((M' 51 (sg M' x)).toNat + sP (wtF M' f) M' x (ax M' x)) 1048575 else 0) = (if M 41 9 = 1 then min ((M 51 (sg M x)).toNat + sP (wtF M f) M x (ax M x)) 1048575 else 0)
    have e : sg M' x = sg M x := by unfold sg; rw [h0]
    have e2 : ax M' x = ax M x := by unfold ax; rw [e]
    rw [h41, h51, e, e2, Wt_fun h0 h1 h41 h51 f, sP_fun h1]
theorem LT_fun {M M' : g_M} (h0 : M' 0 = M 0) (h1 : M' 1 = M 1) (h41 : M' 41 9 = M 41 9) (h51 : M' 51 = M 51) (h52 : M' 52 = M 52) (h54 : M' 54 = M 54) : ∀ f, LTF M' f = LTF M f
  | 0 => rfl
  | f + 1 => by
    have e : ∀ x, sg M' x = sg M x := fun x => by unfold sg; rw [h0]
    have e2 : ∀ x, ax M' x = ax M x := fun x => by unfold ax; rw [e]
    have e3 : ∀ x j, pn M' x j = pn M x j := fun x j => by unfold pn; rw [h1]
    have e4 : ∀ x, Wt M' x = Wt M x := fun x => by unfold Wt; rw [Wt_fun h0 h1 h41 h51]
    have e5 : ∀ x, i1 M' x = i1 M x := fun x => by unfold i1; rw [e2, e, h54]
    have e6 : ∀ x, i2 M' x = i2 M x := fun x => by unfold i2; rw [e, h54]
    have e7 : ∀ x, rk M' x = rk M x := fun x => by unfold rk; rw [e, h52]
    funext x y
    show ((∃ j, j < ax M' y ∧ (pn M' y j = x ∨ LTF M' f x (pn M' y j))) ∨ KL M' (LTF M' f) x y ∧ ∀ j, j < ax M' x → LTF M' f (pn M' x j) y) = ((∃ j, j < ax M y ∧ (pn M y j = x ∨ LTF M f x (pn M y j))) ∨ KL M (LTF M f) x y ∧ ∀ j, j < ax M x → LTF M f (pn M x j) y)
    unfold KL LEX
    simp only [LT_fun h0 h1 h41 h51 h52 h54 f, e, e2, e3, e4, e5, e6, e7]
theorem LT_same {M M' : g_M} (h0 : M' 0 = M 0) (h1 : M' 1 = M 1) (h41 : M' 41 9 = M 41 9) (h51 : M' 51 = M 51) (h52 : M' 52 = M 52) (h54 : M' 54 = M 54) (x y : Nat) : LT M' x y ↔ LT M x y := by
  unfold LT
  rw [LT_fun h0 h1 h41 h51 h52 h54]
theorem r_clearW {M : g_M} {Q : g_M → Prop} {n m : Nat} (hW : WF M n m) (k : ∀ M', WF M' n m → WK M' n 0 → SM [43] M M' → Q M') : F_X10_clear Q M := by
  unfold F_X10_clear
  have hS : SM [43] M (up M 43 6 0) := (SM.rf _ _).u (by decide)
  exact k _ (hW.cong (hW.rg.u (by omega) (by omega)) hS (by decide)) ⟨up1 _ _ _ _, Nat.zero_le _, fun i h => absurd h (by omega)⟩ hS
theorem r_position {M : g_M} {Q : Int → g_M → Prop} (a : Nat) (ha : a ≤ 3000) (k : Q (M 21 a) M) : F_X2_position Q a M := by
  unfold F_X2_position
  rw [rgn a (by omega)]
  exact k
/-- compare: what is before by the order comes out so -/
theorem r_compare {M : g_M} {Q : Int → g_M → Prop} {n m : Nat} (hW : WF M n m) (hm : m < 16000) (hn : n ≤ 900) (i j x y : Nat) (hi : i < m) (hj : j < m) (ex : M 33 i = (x : Int)) (ey : M 33 j = (y : Int)) (hx : M 2 x % 512 / 2 ≤ 60) (hy : M 2 y % 512 / 2 ≤ 60)
    (k1 : i = j → Q 0 M) (k2 : i ≠ j → LT M y x → ∀ M', WF M' n m → SM [6, 7, 10, 11, 12, 13, 14, 15, 16, 17, 18, 19, 20, 21, 22, 43, 44, 61] M M' → Q 1 M') (hlt : i ≠ j → LT M y x) : F_X11_compare Q i j M := by
  have hxn : x < n := by have := hW.nu.2.1 i hi; omega
  have hyn : y < n := by have := hW.nu.2.1 j hj; omega
  unfold F_X11_compare
  refine r_isTerm hW.nu hm i hi ⟨fun c => absurd c (by decide), fun _ => ?_⟩
  refine r_isTerm hW.nu hm j hj ⟨fun c => absurd c (by decide), fun _ => ?_⟩
  rw [bq (x := (i : Int)) (by omega) (by omega), bq (x := (j : Int)) (by omega) (by omega)]
  refine ⟨fun e => k1 (by omega), fun hne => ?_⟩
  have hne' : i ≠ j := fun e => hne (by rw [e])
  refine r_clearW hW (fun M1 hW1 hK1 hS1 => ?_)
  rw [rgn i (by omega), hS1 33 (by decide), ex]
  refine r_add (fun _ => True) hW1 hK1 x hxn (by rw [hS1 2 (by decide)]; exact hx) trivial (fun _ _ _ _ _ _ _ => trivial) (fun c2 M2 hR2 hK2 _ _ hin2 _ hS2 _ => ?_)
  have hW2 := hW1.cong hR2 hS2 (by decide)
  rw [rgn j (by omega), hS2 33 (by decide), hS1 33 (by decide), ey]
  refine r_add (fun _ => True) hW2 hK2 y hyn (by rw [hS2 2 (by decide), hS1 2 (by decide)]; exact hy) trivial (fun _ _ _ _ _ _ _ => trivial) (fun c3 M3 hR3 hK3 hc23 hsame3 hin3 _ hS3 _ => ?_)
  have hW3 := hW2.cong hR3 hS3 (by decide)
  have hc3 := hK3.2.1
  refine r_takeTerms (by omega) hW3 hK3 (fun M4 hR4 hS4 h44 hG4 hTQ => ?_)
  have hW4 := hW3.cong hR4 hS4 (by decide)
  refine r_orderMode hW4.sy ?_
  have hmd := hW4.sy.2.2.2.2.2.2.2
  refine r_ranking (by omega) (by omega) hR4 hW4.sy hG4 hmd (fun M5 t U hRI hLU hS5 _ h19 => ?_)
  have hR5 : RG M5 := hRI.1.1
  have hW5 := hW4.cong hR5 hS5 (by decide)
  have hS35 : SM [10, 11, 12, 13, 14, 15, 16, 17, 18, 19, 20, 21, 22, 44] M3 M5 := (hS4.mono (by decide)).tr (hS5.mono (by decide))
  have hK5 : WK M5 n c3 := hK3.cong hW3.st (Nat.le_refl _) (EX.of (hS35 0 (by decide)) (hS35 1 (by decide)) (hS35 2 (by decide))) (hS35 6 (by decide)) (hS35 7 (by decide)) (by rw [hS35 43 (by decide)])
  have hTR : TR M5 n c3 t U := ⟨hRI, hLU, by rw [h19, hS5 41 (by decide)], fun a ha => by
    obtain ⟨z, z1, z2, z3, z4, z5⟩ := hTQ a ha
    unfold TQ sg at *
    rw [hS35 0 (by decide), hS35 1 (by decide), hS35 7 (by decide), hS5 10 (by decide), hS5 11 (by decide), hS5 12 (by decide)]
    exact ⟨z, z1, z2, z3, z4, z5⟩, fun a ha => by
    obtain ⟨z, z1, z2, z3, -⟩ := hK5.2.2 a ha
    rw [show nd M5 a = z by unfold nd; omega]
    exact z3⟩
  have e33 : M5 33 = M 33 := by rw [hS35 33 (by decide), hS3 33 (by decide), hS2 33 (by decide), hS1 33 (by decide)]
  have hp5 : PLt M5 n := hW5.st.plt
  have all : ∀ a, a ∈ [0, 1, 41, 51, 52, 54] → M5 a = M a := fun a ha => by
    have q : ∀ b ∈ [0, 1, 41, 51, 52, 54], b ∉ [6, 7, 10, 11, 12, 13, 14, 15, 16, 17, 18, 19, 20, 21, 22, 43, 44, 61] := by decide
    have hq := q a ha
    have hSA : SM [6, 7, 10, 11, 12, 13, 14, 15, 16, 17, 18, 19, 20, 21, 22, 43, 44, 61] M M5 := (((hS1.mono (by decide)).tr (hS2.mono (by decide))).tr (hS3.mono (by decide))).tr (hS35.mono (by decide))
    exact hSA a hq
  have hLT : LT M5 y x := (LT_same (all 0 (by decide)) (all 1 (by decide)) (by rw [all 41 (by decide)]) (all 51 (by decide)) (all 52 (by decide)) (all 54 (by decide)) y x).2 (hlt hne')
  rw [rgn i (by omega), e33, ex]
  refine r_indexOf hR5 hK5 (by omega) x (by omega) (fun a ha ea => ?_) (fun hno => ?_)
  · refine r_position a (by omega) ?_
    rw [rgn j (by omega), e33, ey]
    refine r_indexOf hR5 hK5 (by omega) y (by omega) (fun b hb eb => ?_) (fun hno => ?_)
    · refine r_position b (by omega) ?_
      rw [hR5.b, hR5.b]
      have na : nd M5 a = x := by unfold nd; omega
      have nb : nd M5 b = y := by unfold nd; omega
      have ho := (hTR.order hp5 hW5.st _ b a (Nat.le_refl _) hb ha).2 (by rw [na, nb]; exact hLT)
      have pa := (hTR.pos ha).2.1
      have pb := (hTR.pos hb).2.1
      refine ⟨fun _ => k2 hne' (hlt hne') M5 hW5 ((((hS1.mono (by decide)).tr (hS2.mono (by decide))).tr (hS3.mono (by decide))).tr (hS35.mono (by decide))), fun c9 => absurd c9 (by omega)⟩
    · refine absurd ?_ hno
      unfold inW at hin3 ⊢
      rw [hS35 7 (by decide)]
      exact hin3
  · refine absurd ?_ hno
    obtain ⟨q, q1, q2⟩ := hin2
    refine ⟨q, by omega, ?_⟩
    rw [hS35 7 (by decide), hsame3 q q1, q2]
end S3
