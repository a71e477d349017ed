section P4
theorem okp_to {n r i : Nat} {v : Int} (h : okp n r i v) : v = -1 ∨ ∃ k : Nat, k < n ∧ v = (k : Int) := by
  by_cases hi : i < r
  · have h1 := h.1 hi
    exact Or.inr ⟨v.toNat, by omega, by omega⟩
  · exact Or.inl (h.2 hi)
theorem rg2_lt {M : g_M} {n : Nat} (hST : ST M n) {v : Int} (h : v = -1 ∨ ∃ k : Nat, k < n ∧ v = (k : Int)) : ∃ e : Nat, e < 2 ^ 31 ∧ e % 2 = 0 ∧ rg M 2 v = (e : Int) := by
  rcases h with rfl | ⟨k, hk, rfl⟩
  · exact ⟨0, by omega, rfl, rgm⟩
  · have h5 := hST.1.2.2.2.2
    obtain ⟨h1, h2, h3, -⟩ := hST.2.2.2.2.2.2 k hk
    exact ⟨(M 2 k).toNat, by omega, by omega, by rw [rgn k (by omega)]; omega⟩
theorem rg_ex {n : Nat} {M M' : g_M} (h : EX n M M') (hn : n ≤ 3000) {v : Int} (hv : v = -1 ∨ ∃ k : Nat, k < n ∧ v = (k : Int)) : rg M' 2 v = rg M 2 v := by
  rcases hv with rfl | ⟨k, hk, rfl⟩
  · rw [rgm, rgm]
  · rw [rgn k (by omega), rgn k (by omega), (h k hk).2.2.2.2]
theorem r_extentOver {M : g_M} {Q : Int → g_M → Prop} (e1 e2 e3 : Nat) (h1 : e1 % 2 = 0) (h2 : e2 % 2 = 0) (h3 : e3 % 2 = 0) (l1 : e1 < 2 ^ 31) (l2 : e2 < 2 ^ 31) (l3 : e3 < 2 ^ 31) (k : ∀ w h : Nat, 1 ≤ w → w < 4194304 → h < 256 → (w : Int) = min (1 + (e1 : Int) / 512 + (e2 : Int) / 512 + (e3 : Int) / 512) 4194303 → (h : Int) = min (1 + max (max ((e1 : Int) % 512 / 2) ((e2 : Int) % 512 / 2)) ((e3 : Int) % 512 / 2)) 255 → Q ((512 * w + 2 * h : Nat) : Int) M) : F_X8_extentOver Q 0 e1 e2 e3 M := by
  unfold F_X8_extentOver
  rw [iushr9 e1 l1, iushr9 e2 l2, iushr9 e3 l3, iushr1 e1 l1, iushr1 e2 l2, iushr1 e3 l3, iand255 (e1 / 2) (by omega), iand255 (e2 / 2) (by omega), iand255 (e3 / 2) (by omega)]
  rw [imaxk (a := ((e1 / 2 % 256 : Nat) : Int)) (b := ((e2 / 2 % 256 : Nat) : Int)) (by omega) (by omega) (by omega) (by omega)]
  rw [imaxk (b := ((e3 / 2 % 256 : Nat) : Int)) (by omega) (by omega) (by omega) (by omega)]
  rw [imink (by omega) (by omega) (by omega) (by omega), imink (by omega) (by omega) (by omega) (by omega)]
  have hw : ∃ w : Nat, min (1 + ((e1 / 512 : Nat) : Int) + ((e2 / 512 : Nat) : Int) + ((e3 / 512 : Nat) : Int)) 4194303 = (w : Int) := ⟨(min (1 + ((e1 / 512 : Nat) : Int) + ((e2 / 512 : Nat) : Int) + ((e3 / 512 : Nat) : Int)) 4194303).toNat, by omega⟩
  have hh : ∃ h : Nat, min (1 + max (max ((e1 / 2 % 256 : Nat) : Int) ((e2 / 2 % 256 : Nat) : Int)) ((e3 / 2 % 256 : Nat) : Int)) 255 = (h : Int) := ⟨(min (1 + max (max ((e1 / 2 % 256 : Nat) : Int) ((e2 / 2 % 256 : Nat) : Int)) ((e3 / 2 % 256 : Nat) : Int)) 255).toNat, by omega⟩
  obtain ⟨w, hw⟩ := hw
  obtain ⟨h, hh⟩ := hh
  rw [hw, hh, ext_pack w h e1 e2 e3 (by omega) (by omega) h1 h2 h3 l1 l2 l3]
  exact k w h (by omega) (by omega) (by omega) (by omega) (by omega)
/-- a new node -/
theorem r_keep {M : g_M} {n : Nat} {Q : Int → g_M → Prop} (hRG : RG M) (hSY : SY M) (hST : ST M n) (hn : n < 3000) (s : Nat) (hs : s < 5) (a b c : Int) (ha : okp n (arN s) 0 a) (hb : okp n (arN s) 1 b) (hc : okp n (arN s) 2 c) (hno : ∀ x, x < n → ¬ NO M x s a b c)
    (k : ∀ M' : g_M, RG M' → ST M' (n + 1) → EX n M M' → NO M' n s a b c → SM [0, 1, 2, 4, 5, 42] M M' → Q n M') : F_X8_keep Q s a b c (hbx s a b c) M := by
  have hS := hST
  obtain ⟨⟨t1, t2, t3, t4, t5⟩, s6, s7, s8, s9, s10, s11⟩ := hS
  obtain ⟨bk, hbk, ebk⟩ := hbx_in (s : Int) a b c
  have ka := okp_to ha
  have kb := okp_to hb
  have kc := okp_to hc
  unfold F_X8_keep
  rw [t3, t1, ebk]
  refine ⟨fun _ => ⟨fun _ => ?_, fun c9 => ?_⟩, fun c9 => absurd (show bm ((0 : Int) - 1) < 0 by decide) c9⟩
  rotate_left
  · exfalso
    rw [bq (x := (n : Int)) (by omega) (by omega), show bm 524288 = 524288 by decide] at c9
    omega
  unfold F_X8_keep_59
  refine ⟨okk n rfl (by show n < 65536; omega), okk (3 * n) (by omega) (by show 3 * n < 65536; omega), okk (3 * n + 1) (by omega) (by show 3 * n + 1 < 65536; omega), okk (3 * n + 2) (by omega) (by show 3 * n + 2 < 65536; omega), ?_⟩
  rw [rsk n rfl (by omega), rsk (i := 3 * (n : Int)) (3 * n) (by omega) (by omega), rsk (i := 3 * (n : Int) + 1) (3 * n + 1) (by omega) (by omega), rsk (i := 3 * (n : Int) + 2) (3 * n + 2) (by omega) (by omega), up2 (by decide), t2]
  generalize hM1 : up (up (up (up (up (up M 42 9 ((n : Int) + 1)) 42 10 ((n : Int) + 1)) 0 n (s : Int)) 1 (3 * n) a) 1 (3 * n + 1) b) 1 (3 * n + 2) c = M1
  have u : ∀ r j, M1 r j = if r = 1 ∧ j = 3 * n + 2 then c else if r = 1 ∧ j = 3 * n + 1 then b else if r = 1 ∧ j = 3 * n then a else if r = 0 ∧ j = n then (s : Int) else if r = 42 ∧ j = 10 then (n : Int) + 1 else if r = 42 ∧ j = 9 then (n : Int) + 1 else M r j := fun r j => by rw [← hM1]; rfl
  have hSY1 : SY M1 := by
    refine hSY.cong ?_ ?_ ?_ ?_ ?_ ?_ ?_
    · rw [u]; simp
    · rw [u]; simp
    all_goals (funext j; rw [u]; simp)
  refine r_ordinal hSY1 s hs ?_
  refine ⟨fun _ => ?_, fun c9 => absurd rfl c9⟩
  unfold F_X8_keep_137
  have e2 : ∀ v, rg M1 2 v = rg M 2 v := fun v => by
    unfold rg
    rw [u]
    simp
  obtain ⟨x1, l1, m1, q1⟩ := rg2_lt hST ka
  obtain ⟨x2, l2, m2, q2⟩ := rg2_lt hST kb
  obtain ⟨x3, l3, m3, q3⟩ := rg2_lt hST kc
  rw [e2, e2, e2, q1, q2, q3]
  refine r_extentOver x1 x2 x3 m1 m2 m3 l1 l2 l3 (fun w h hw1 hw hh hwe hhe => ?_)
  refine ⟨okk n rfl (by show n < 65536; omega), okk n rfl (by show n < 65536; omega), okk bk rfl (by show bk < 32768; omega), ?_⟩
  rw [rsk n rfl (by omega), rsk n rfl (by omega), rsk bk rfl (by omega), rgn bk (by omega)]
  have hb5 : up M1 2 n ((512 * w + 2 * h : Nat) : Int) 5 bk = M 5 bk := by
    rw [up3 (by decide), u]
    simp
  rw [hb5]
  generalize hM2 : up (up (up M1 2 n ((512 * w + 2 * h : Nat) : Int)) 4 n (M 5 bk)) 5 bk ((n : Int) + 1) = M2
  have v : ∀ r j, M2 r j = if r = 5 ∧ j = bk then (n : Int) + 1 else if r = 4 ∧ j = n then M 5 bk else if r = 2 ∧ j = n then ((512 * w + 2 * h : Nat) : Int) else M1 r j := fun r j => by rw [← hM2]; rfl
  have b9 := s9 bk hbk
  have hEX : EX n M M2 := by
    intro x hx
    refine ⟨?_, ?_, ?_, ?_, ?_⟩ <;> rw [v, u] <;> simp <;> omega
  have hNO : NO M2 n s a b c := by
    refine ⟨?_, ?_, ?_, ?_⟩ <;> rw [v, u] <;> simp
  have hHn : HH M2 n = (bk : Int) := by
    unfold HH
    rw [hNO.1, hNO.2.1, hNO.2.2.1, hNO.2.2.2, ebk]
  have hHx : ∀ x, x < n → HH M2 x = HH M x := fun x hx => hEX.hh hx
  have hRG2 : RG M2 := by
    have h5 := hRG 5 bk
    have bnd : ∀ {v : Int}, (v = -1 ∨ ∃ k : Nat, k < n ∧ v = (k : Int)) → -2147483648 ≤ v ∧ v ≤ 2147483647 := fun h => by
      rcases h with h | ⟨_, _, h⟩ <;> omega
    have ba := bnd ka
    have bb := bnd kb
    have bc := bnd kc
    have hR1 : RG M1 := by
      rw [← hM1]
      exact (((((hRG.u (by omega) (by omega)).u (by omega) (by omega)).u (by omega) (by omega)).u ba.1 ba.2).u bb.1 bb.2).u bc.1 bc.2
    rw [← hM2]
    exact ((hR1.u (by omega) (by omega)).u h5.1 h5.2).u (by omega) (by omega)
  have hSM : SM [0, 1, 2, 4, 5, 42] M M2 := by
    intro r hr
    funext j
    simp only [List.mem_cons, List.not_mem_nil, or_false, not_or] at hr
    rw [v, u]
    simp [hr]
  refine k M2 hRG2 ⟨?_, ?_, ?_, ?_, ?_, ?_, ?_⟩ hEX hNO hSM
  · refine ⟨?_, ?_, ?_, ?_, by omega⟩
    · rw [v, u]; simp
    · rw [v, u]; simp
    · rw [v, u]; simpa using t3
    · rw [v, u]; simpa using t4
  · intro x hx
    by_cases hxn : x = n
    · subst hxn
      rw [hNO.1]
      omega
    · rw [(hEX x (by omega)).1]
      exact s6 x (by omega)
  · intro x hx
    by_cases hxn : x = n
    · subst hxn
      unfold sg
      rw [hNO.1, hNO.2.1, hNO.2.2.1, hNO.2.2.2, Int.toNat_natCast]
      exact ⟨ha, hb, hc⟩
    · obtain ⟨f1, f2, f3, f4, -⟩ := hEX x (by omega)
      unfold sg
      rw [f1, f2, f3, f4]
      exact s7 x (by omega)
  · intro x y hx hy g1 g2 g3 g4
    by_cases hxn : x = n
    · by_cases hyn : y = n
      · omega
      · exfalso
        subst hxn
        obtain ⟨f1, f2, f3, f4, -⟩ := hEX y (by omega)
        rw [f1, hNO.1] at g1
        rw [f2, hNO.2.1] at g2
        rw [f3, hNO.2.2.1] at g3
        rw [f4, hNO.2.2.2] at g4
        exact hno y (by omega) ⟨g1.symm, g2.symm, g3.symm, g4.symm⟩
    · by_cases hyn : y = n
      · exfalso
        subst hyn
        obtain ⟨f1, f2, f3, f4, -⟩ := hEX x (by omega)
        rw [f1, hNO.1] at g1
        rw [f2, hNO.2.1] at g2
        rw [f3, hNO.2.2.1] at g3
        rw [f4, hNO.2.2.2] at g4
        exact hno x (by omega) ⟨g1, g2, g3, g4⟩
      · obtain ⟨f1, f2, f3, f4, -⟩ := hEX x (by omega)
        obtain ⟨i1, i2, i3, i4, -⟩ := hEX y (by omega)
        rw [f1, i1] at g1
        rw [f2, i2] at g2
        rw [f3, i3] at g3
        rw [f4, i4] at g4
        exact s8 x y (by omega) (by omega) g1 g2 g3 g4
  · intro b2 hb2
    have v5 : M2 5 b2 = if b2 = bk then (n : Int) + 1 else M 5 b2 := by
      rw [v, u]
      simp
    rw [v5]
    by_cases hbb : b2 = bk
    · subst hbb
      rw [if_pos rfl]
      refine ⟨by omega, by omega, fun _ => ?_, fun z hz _ => by omega⟩
      rw [show ((n : Int) + 1).toNat - 1 = n by omega]
      exact hHn
    · rw [if_neg hbb]
      obtain ⟨p1, p2, p3, p4⟩ := s9 b2 hb2
      refine ⟨p1, by omega, fun hp => ?_, fun z hz hzb => ?_⟩
      · rw [hHx _ (by omega)]
        exact p3 hp
      · by_cases hzn : z = n
        · rw [hzn, hHn] at hzb
          exact absurd (Int.ofNat.inj hzb).symm hbb
        · rw [hHx z (by omega)] at hzb
          exact p4 z (by omega) hzb
  · intro x hx
    have v4 : M2 4 x = if x = n then M 5 bk else M 4 x := by
      rw [v, u]
      simp
    rw [v4]
    by_cases hxn : x = n
    · subst hxn
      rw [if_pos rfl, hHn]
      obtain ⟨p1, p2, p3, p4⟩ := b9
      refine ⟨p1, p2, fun hp => ?_, fun z hz hzb => ?_⟩
      · rw [hHx _ (by omega)]
        exact p3 hp
      · rw [hHx z hz] at hzb
        exact p4 z hz hzb
    · rw [if_neg hxn]
      obtain ⟨p1, p2, p3, p4⟩ := s10 x (by omega)
      rw [hHx x (by omega)]
      refine ⟨p1, p2, fun hp => ?_, fun z hz hzb => ?_⟩
      · rw [hHx _ (by omega)]
        exact p3 hp
      · rw [hHx z (by omega)] at hzb
        exact p4 z hz hzb
  · intro x hx
    by_cases hxn : x = n
    · subst hxn
      have v2 : M2 2 x = ((512 * w + 2 * h : Nat) : Int) := by
        rw [v, u]
        simp
      rw [v2, hNO.2.1, hNO.2.2.1, hNO.2.2.2]
      unfold ext
      rw [rg_ex hEX t5 ka, rg_ex hEX t5 kb, rg_ex hEX t5 kc, q1, q2, q3]
      refine ⟨by omega, by omega, by omega, ?_, ?_⟩
      · rw [← hwe]
        omega
      · rw [← hhe]
        omega
    · obtain ⟨f1, f2, f3, f4, f5⟩ := hEX x (by omega)
      obtain ⟨p1, p2, p3, p4⟩ := s11 x (by omega)
      obtain ⟨o1, o2, o3⟩ := s7 x (by omega)
      have w1 : ∀ {r i : Nat} {v : Int}, okp x r i v → v = -1 ∨ ∃ k : Nat, k < n ∧ v = (k : Int) := fun ho => by
        rcases okp_to ho with h | ⟨k, hk, h⟩
        · exact Or.inl h
        · exact Or.inr ⟨k, by omega, h⟩
      rw [f2, f3, f4, f5]
      unfold ext
      rw [rg_ex hEX t5 (w1 o1), rg_ex hEX t5 (w1 o2), rg_ex hEX t5 (w1 o3)]
      exact ⟨p1, p2, p3, p4⟩
end P4
