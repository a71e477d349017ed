section Y5
def lt (k : Nat) : Int := if k = 0 then 97 else if k = 1 then 98 else if k = 2 then 99 else if k = 3 then 102 else 103
theorem lt_b (k : Nat) : 97 ≤ lt k ∧ lt k ≤ 103 := by
  unfold lt
  split
  · omega
  · split
    · omega
    · split
      · omega
      · split <;> omega
theorem lt_inj {j k : Nat} (hj : j < 5) (hk : k < 5) (h : lt j = lt k) : j = k := by
  unfold lt at h
  rcases (show j = 0 ∨ j = 1 ∨ j = 2 ∨ j = 3 ∨ j = 4 by omega) with rfl | rfl | rfl | rfl | rfl <;> rcases (show k = 0 ∨ k = 1 ∨ k = 2 ∨ k = 3 ∨ k = 4 by omega) with rfl | rfl | rfl | rfl | rfl <;> first | rfl | exact absurd h (by decide)
theorem i2b_b (v : Int) : -2147483648 ≤ i2b v ∧ i2b v ≤ 2147483647 := by
  unfold i2b
  have h1 := Int32.le_toInt (Int32.ofInt v).toInt8.toInt32
  have h2 := Int32.toInt_lt (Int32.ofInt v).toInt8.toInt32
  omega
theorem lt_byte {k : Nat} : i2b (i2b (ishr (ishl (lt k) 24) 24)) = lt k := by
  unfold lt
  split
  · decide +kernel
  · split
    · decide +kernel
    · split
      · decide +kernel
      · split <;> decide +kernel
theorem lt_b2 {k : Nat} : i2b (lt k) = lt k := by
  unfold lt
  split
  · decide +kernel
  · split
    · decide +kernel
    · split
      · decide +kernel
      · split <;> decide +kernel
/-- four bytes more in the input -/
theorem r_appendB {M : g_M} {Q : g_M → Prop} {L : Nat} {x1 : Int} (hR : RG M) (hL : M 46 3 = (L : Int)) (h4 : L + 4 ≤ 400)
    (k : ∀ M', RG M' → SM [46, 62] M M' → M' 46 3 = ((L + 4 : Nat) : Int) → (∀ j, j < L → M' 62 j = M 62 j) → M' 62 L = i2b (i2b (ishr x1 24)) → Q M') : F_X5_append Q x1 M := by
  have loop : ∀ (f t : Nat) (M1 : g_M), t ≤ 4 → t < f → RG M1 → SM [46, 62] M M1 → M1 46 3 = (L : Int) + (4 - (t : Int)) → (∀ j, j < L → M1 62 j = M 62 j) → (t < 4 → M1 62 L = i2b (i2b (ishr x1 24))) → F_X5_append_3 Q f x1 (8 * (t : Int) - 8) M1 := by
    intro f
    induction f with
    | zero => intros; omega
    | succ f ih =>
      intro t M1 h1 h2 hR1 hS h46 h62 hb
      unfold F_X5_append_3
      rw [bq (x := 8 * (t : Int) - 8) (by omega) (by omega), h46, bq (x := (L : Int) + (4 - (t : Int))) (by omega) (by omega), show bm 400 = 400 by decide]
      refine ⟨fun c => ?_, fun c => ⟨fun c' => absurd c' (by omega), fun _ => ⟨fun _ => ?_, fun c' => absurd c' (by omega)⟩⟩⟩
      · have : t = 0 := by omega
        subst this
        exact k M1 hR1 hS (by omega) h62 (hb (by omega))
      · refine ⟨ink (L + (4 - t)) (by omega) (by omega) (by omega), ?_⟩
        rw [show ((L : Int) + (4 - (t : Int))).toNat = L + (4 - t) by omega, up3 (by decide), h46]
        unfold F_X5_append_47
        have bb := i2b_b (i2b (ishr x1 (8 * (t : Int) - 8)))
        have := ih (t - 1) (up (up M1 62 (L + (4 - t)) (i2b (i2b (ishr x1 (8 * (t : Int) - 8))))) 46 3 ((L : Int) + (4 - (t : Int)) + 1)) (by omega) (by omega) ((hR1.u bb.1 bb.2).u (by omega) (by omega)) ((hS.u (by decide)).u (by decide)) (by rw [up1]; omega) (fun j hj => by rw [up3 (by decide), up2 (by omega), h62 j hj]) (fun ht => ?_)
        · rw [show 8 * (((t - 1 : Nat)) : Int) - 8 = 8 * (t : Int) - 8 + (-8) by omega] at this
          exact this
        · rw [up3 (by decide)]
          by_cases h9 : t = 4
          · subst h9
            rw [show L + (4 - 4) = L by omega, up1]
            rfl
          · rw [up2 (by omega)]
            exact hb (by omega)
  unfold F_X5_append
  exact ⟨5, loop 5 4 M (by omega) (by omega) hR (SM.rf _ _) (by omega) (fun _ _ => rfl) (fun h => absurd h (by omega))⟩
/-- k symbols are declared -/
def DC (M : g_M) (k : Nat) : Prop := RG M ∧ SM [41, 46, 48, 49, 50, 51, 52, 53, 62] M0 M ∧ (M 41 7 = (k : Int) ∧ M 41 9 = 0 ∧ M 41 10 = 0 ∧ M 46 3 = 0) ∧ ∀ j, j < k → M 48 (8 * j) = lt j ∧ M 49 j = 1 ∧ M 50 j = (arN j : Int) ∧ (1 ≤ M 51 j ∧ M 51 j ≤ 9) ∧ M 52 j = (j : Int) ∧ M 53 j = -1
theorem r_isLetter {M : g_M} {Q : Int → g_M → Prop} {k : Nat} (kk : Q 1 M) : F_X5_isLetter Q (lt k) M := by
  have h := lt_b k
  unfold F_X5_isLetter
  rw [bq (x := lt k) (by omega) (by omega), show bm 97 = 97 by decide, show bm 122 = 122 by decide]
  exact ⟨fun c => absurd c (by omega), fun _ => ⟨fun c => absurd c (by omega), fun _ => kk⟩⟩
theorem r_holdsName {M : g_M} {Q : Int → g_M → Prop} {k : Nat} (h3 : M 46 3 = 1) (h62 : M 62 0 = lt k) (kk : Q 1 M) : F_X5_holdsName Q M := by
  unfold F_X5_holdsName
  rw [h3, show bm 1 = 1 by decide, show bm 8 = 8 by decide, show (bm 0).toNat = 0 by decide, h62]
  refine ⟨fun c => absurd c (by decide), fun _ => ⟨fun c => absurd c (by decide), fun _ => ⟨ink 0 rfl (by omega) (by omega), r_isLetter ⟨fun c => absurd c (by decide), fun _ => ⟨1, ?_⟩⟩⟩⟩⟩
  unfold F_X5_holdsName_34
  rw [h3]
  exact ⟨fun c => absurd c (by decide), fun _ => kk⟩
theorem r_find {M : g_M} {Q : Int → g_M → Prop} {k : Nat} (hk : k < 5) (hR : RG M) (h7 : M 41 7 = (k : Int)) (hn : ∀ j, j < k → M 48 (8 * j) = lt j ∧ M 49 j = 1) (h62 : M 62 0 = lt k) (kk : Q (-1) M) : F_X7_find Q 0 1 M := by
  unfold F_X7_find
  rw [show bm 0 = 0 by decide, show bm 1 = 1 by decide, show bm 8 = 8 by decide, show bm 400 = 400 by decide, show bm (0 + 1) = 1 by decide]
  refine ⟨fun c => absurd c (by decide), fun _ => ⟨fun c => absurd c (by decide), fun _ => ⟨fun c => absurd c (by decide), fun _ => ⟨fun c => absurd c (by decide), fun _ => ⟨k + 1, ?_⟩⟩⟩⟩⟩
  have hb := lt_b k
  have loop : ∀ (f i : Nat), i ≤ k → k - i < f → F_X7_find_28 Q f 0 1 i M := by
    intro f
    induction f with
    | zero => intros; omega
    | succ f ih =>
      intro i h1 h2
      unfold F_X7_find_28
      rw [bq (x := (i : Int)) (by omega) (by omega), h7, bq (x := (k : Int)) (by omega) (by omega)]
      refine ⟨fun c => ⟨ink i rfl (by omega) (by omega), ?_⟩, fun _ => kk⟩
      have hi : i < k := by omega
      obtain ⟨n1, n2⟩ := hn i hi
      have hbi := lt_b i
      rw [Int.toNat_natCast, n2]
      refine ⟨fun _ => ?_, fun c' => absurd rfl c'⟩
      unfold F_X7_isNameAt
      refine ⟨1, ?_⟩
      unfold F_X7_isNameAt_3 F_X7_nameLength
      rw [bq (x := (i : Int)) (by omega) (by omega), h7, bq (x := (k : Int)) (by omega) (by omega), Int.toNat_natCast, n2]
      refine ⟨fun c' => absurd c' (by omega), fun _ => ⟨fun _ => ⟨ink i rfl (by omega) (by omega), ?_⟩, fun c' => absurd c' (by omega)⟩⟩
      refine ⟨fun _ => ⟨fun c' => absurd c' (by decide), fun _ => ⟨fun _ => ⟨ink 0 rfl (by omega) (by omega), ?_⟩, fun c' => absurd (by decide) c'⟩⟩, fun c' => absurd (by decide) c'⟩
      unfold F_X7_nameByte
      rw [bq (x := (i : Int)) (by omega) (by omega), h7, bq (x := (k : Int)) (by omega) (by omega), Int.toNat_natCast, n2]
      refine ⟨fun c' => absurd c' (by omega), fun _ => ⟨fun _ => ⟨fun c' => absurd c' (by decide), fun _ => ⟨ink i rfl (by omega) (by omega), fun _ => ?_, fun c' => absurd (by decide) c'⟩⟩, fun c' => absurd c' (by omega)⟩⟩
      unfold F_X7_nameByte_31
      refine ⟨fun c' => absurd c' (by decide), fun _ => ⟨ink (8 * i) (by omega) (by omega) (by omega), ?_⟩⟩
      rw [bnat (i := (i : Int) * 8 + 0) (8 * i) (by omega) (by omega), n1, show (bm (0 + 0)).toNat = 0 by decide, h62]
      refine ⟨⟨by omega, by omega⟩, ?_⟩
      dsimp only
      rw [bq (x := lt i) (by omega) (by omega), bq (x := lt k) (by omega) (by omega)]
      refine ⟨fun e => ?_, fun e => ⟨fun _ => ?_, fun c' => absurd (show bm 0 = 0 by decide) c'⟩⟩
      · have := lt_inj hk (by omega) e
        omega
      · unfold F_X7_find_62
        rw [show (i : Int) + 1 = ((i + 1 : Nat) : Int) by omega]
        exact ih (i + 1) (by omega) (by omega)
  exact loop (k + 1) 0 (by omega) (by omega)
theorem r_declareL {M : g_M} {Q : Int → g_M → Prop} {k : Nat} {w : Int} (h : DC M k) (hk : k < 5) (hw : 1 ≤ w ∧ w ≤ 9) (kk : ∀ M', DC M' (k + 1) → Q k M') : F_L_declare Q (lt k) (arN k) w M := by
  obtain ⟨hR, hS, ⟨a1, a2, a3, a4⟩, hT⟩ := h
  have har := arN_le k
  have hlb := lt_b k
  have q1 : -2147483648 ≤ lt k ∧ lt k ≤ 2147483647 := by omega
  have q2 : -2147483648 ≤ (arN k : Int) ∧ (arN k : Int) ≤ 2147483647 := by omega
  have q3 : -2147483648 ≤ w ∧ w ≤ 2147483647 := by omega
  have q4 : -2147483648 ≤ (k : Int) ∧ (k : Int) ≤ 2147483647 := by omega
  have q5 : -2147483648 ≤ (k : Int) + 1 ∧ (k : Int) + 1 ≤ 2147483647 := by omega
  have f1 : ¬ (arN k : Int) < 0 := by omega
  have f2 : ¬ (3 : Int) < (arN k : Int) := by omega
  have f3 : ¬ w < 1 := by omega
  have f4 : ¬ (9 : Int) < w := by omega
  unfold F_L_declare F_X11_feed F_X5_length
  rw [a4]
  dsimp only
  rw [ show bm (0 + 20) = 20 by decide, show bm 400 = 400 by decide]
  refine ⟨fun c => absurd c (by decide), fun _ => ?_⟩
  refine r_appendB (L := 0) hR a4 (by omega) (fun M1 r1 s1 l1 o1 b1 => ?_)
  refine r_appendB (L := 4) r1 l1 (by omega) (fun M2 r2 s2 l2 o2 _ => ?_)
  refine r_appendB (L := 8) r2 l2 (by omega) (fun M3 r3 s3 l3 o3 _ => ?_)
  refine r_appendB (L := 12) r3 l3 (by omega) (fun M4 r4 s4 l4 o4 _ => ?_)
  refine r_appendB (L := 16) r4 l4 (by omega) (fun M5 r5 s5 l5 o5 _ => ?_)
  have s05 : SM [46, 62] M M5 := (((s1.tr s2).tr s3).tr s4).tr s5
  have h62 : M5 62 0 = lt k := by
    rw [o5 0 (by omega), o4 0 (by omega), o3 0 (by omega), o2 0 (by omega), b1, lt_byte]
  have l5' : M5 46 3 = 20 := l5
  rw [l5']
  refine ⟨fun _ => ?_, fun c => absurd rfl c⟩
  unfold F_X11_trim F_X5_length F_X5_shorten
  rw [l5']
  refine ⟨fun c => absurd c (by decide), fun _ => ⟨fun c => absurd c (by decide), fun _ => ⟨fun _ => ?_, fun c => absurd rfl c⟩⟩⟩
  generalize hM6 : up M5 46 3 1 = M6
  have s6 : SM [46] M5 M6 := by
    rw [← hM6]
    exact (SM.rf _ _).u (by decide)
  have s06 : SM [46, 62] M M6 := s05.tr (s6.mono (by decide))
  have r6 : RG M6 := by
    rw [← hM6]
    exact r5.u (by omega) (by omega)
  have l6 : M6 46 3 = 1 := by rw [← hM6, up1]
  have h62' : M6 62 0 = lt k := by rw [s6 62 (by decide), h62]
  have e41 : M6 41 = M 41 := s06 41 (by decide)
  unfold F_X11_declare
  refine r_holdsName (k := k) l6 h62' ?_
  unfold F_X5_heldSymbol
  rw [l6]
  refine r_find hk r6 (by rw [e41, a1]) (fun j hj => by rw [s06 48 (by decide), s06 49 (by decide)]; exact ⟨(hT j hj).1, (hT j hj).2.1⟩) h62' ?_
  unfold F_X5_drain
  dsimp only
  rw [l6]
  have b50 : bm (arN k : Int) = (arN k : Int) := bq q2.1 q2.2
  rw [b50, bq (x := w) q3.1 q3.2, show bm 3 = 3 by decide, show bm 1 = 1 by decide, show bm 9 = 9 by decide]
  refine ⟨fun c => absurd c f1, fun _ => ⟨fun c => absurd c f2, fun _ => ⟨fun c => absurd c f3, fun _ => ⟨fun c => absurd c f4, fun _ => ⟨fun c => absurd c (by decide), fun _ => ⟨fun _ => ?_, fun c => absurd rfl c⟩⟩⟩⟩⟩⟩
  generalize hM7 : up M6 46 3 0 = M7
  have s7 : SM [46] M6 M7 := by
    rw [← hM7]
    exact (SM.rf _ _).u (by decide)
  have s07 : SM [46, 62] M M7 := s06.tr (s7.mono (by decide))
  have r7 : RG M7 := by
    rw [← hM7]
    exact r6.u (by omega) (by omega)
  have l7 : M7 46 3 = 0 := by rw [← hM7, up1]
  have h62'' : M7 62 0 = lt k := by rw [s7 62 (by decide), h62']
  have e41' : M7 41 = M 41 := s07 41 (by decide)
  unfold F_X7_isFull
  rw [e41', a1, bq (x := (k : Int)) (by omega) (by omega), show bm 24 = 24 by decide]
  refine ⟨fun _ => ⟨fun _ => ?_, fun c => absurd (show bm 0 = 0 by decide) c⟩, fun c => absurd c (by omega)⟩
  unfold F_X7_add
  rw [e41', a1, bq (x := (k : Int)) (by omega) (by omega), show bm 24 = 24 by decide]
  refine ⟨fun _ => ⟨fun c => absurd c (by decide), fun _ => ⟨fun c => absurd c (by decide), fun _ => ⟨2, ?_⟩⟩⟩, fun c => absurd c (by omega)⟩
  unfold F_X7_add_32
  refine ⟨fun _ => ⟨ink 0 rfl (by omega) (by omega), ink (8 * k) (by omega) (by omega) (by omega), ?_⟩, fun c => absurd (by decide) c⟩
  rw [bnat (i := (k : Int) * 8 + 0) (8 * k) (by omega) (by omega), show (bm 0).toNat = 0 by decide, h62'', lt_b2]
  unfold F_X7_add_32
  refine ⟨fun c => absurd c (by decide), fun _ => ⟨ink k rfl (by omega) (by omega), ink k rfl (by omega) (by omega), ink k rfl (by omega) (by omega), ink k rfl (by omega) (by omega), ink k rfl (by omega) (by omega), ?_⟩⟩
  rw [bq (x := (k : Int)) (by omega) (by omega), Int.toNat_natCast, up3 (by decide), up3 (by decide), up3 (by decide), up3 (by decide), up3 (by decide), up3 (by decide), e41', a1]
  generalize hM8 : up (up (up (up (up (up (up M7 48 (8 * k) (lt k)) 49 k 1) 50 k (arN k : Int)) 51 k w) 52 k (k : Int)) 53 k (-1)) 41 7 ((k : Int) + 1) = M8
  have u : ∀ a b, M8 a b = if a = 41 ∧ b = 7 then (k : Int) + 1 else if a = 53 ∧ b = k then -1 else if a = 52 ∧ b = k then (k : Int) else if a = 51 ∧ b = k then w else if a = 50 ∧ b = k then (arN k : Int) else if a = 49 ∧ b = k then 1 else if a = 48 ∧ b = 8 * k then lt k else M7 a b := fun a b => by rw [← hM8]; rfl
  have hS8 : SM [41, 48, 49, 50, 51, 52, 53] M7 M8 := by
    rw [← hM8]
    exact (((((((SM.rf _ _).u (by decide)).u (by decide)).u (by decide)).u (by decide)).u (by decide)).u (by decide)).u (by decide)
  have hR8 : RG M8 := by
    rw [← hM8]
    exact ((((((r7.u q1.1 q1.2).u (by decide) (by decide)).u q2.1 q2.2).u q3.1 q3.2).u q4.1 q4.2).u (by decide) (by decide)).u q5.1 q5.2
  refine kk M8 ⟨hR8, (hS.tr (s07.mono (by decide))).tr (hS8.mono (by decide)), ⟨by rw [u]; simp, by rw [u]; simp [e41', a2], by rw [u]; simp [e41', a3], by rw [u]; simp [l7]⟩, fun j hj => ?_⟩
  have old : ∀ a, a ∈ [48, 49, 50, 51, 52, 53] → M7 a = M a := fun a ha => s07 a (by
    revert a
    decide)
  by_cases hjk : j = k
  · subst hjk
    rw [u, u, u, u, u, u]
    simp
    exact hw
  · obtain ⟨t1, t2, t3, t4, t5, t6⟩ := hT j (by omega)
    have hne : ¬ 8 * j = 8 * k := by omega
    rw [u, u, u, u, u, u, old 48 (by decide), old 49 (by decide), old 50 (by decide), old 51 (by decide), old 52 (by decide), old 53 (by decide)]
    simp [hjk, t1, t2, t3, t4, t5, t6]
    exact fun e => absurd e hne
end Y5
