section V2
/-- normalize: the normal form, the steps, no more nodes than members of U that weren't done -/
theorem r_nf {M : g_M} {Q : Int → g_M → Prop} {n m r nb b0 : Nat} (hW : WF M n m) (hR : RUL M n r) (hn : n ≤ 1400) (x : Nat) (hx : x < n) (hw : M 2 x / 512 ≤ 1000) (hh : M 2 x % 512 / 2 ≤ 60) (hb : b0 ≤ n) (hPT : PT M n r nb b0) (hD : x < b0 ∨ ∃ z k, NF M n r x z k)
    (k : ∀ (z kk c n' : Nat) (M' : g_M), WF M' n' m → RUL M' n' r → EX n M M' → n ≤ n' → PT M' n' r nb b0 → NF M' n' r x z kk → z < n' → SM [0, 1, 2, 4, 5, 6, 7, 8, 9, 42, 43, 61] M M' → M' 43 6 = (c : Int) → 0 < c → c ≤ 1400 → M' 9 (c - 1) = (kk : Int) → kk ≤ 1000 → Q z M') : F_X9_normalize Q x M := by
  have hp := hW.st.plt
  unfold F_X9_normalize
  refine r_clearW hW (fun Ma hWa hKa hSa => ?_)
  have e0 : Ma 0 = M 0 := hSa 0 (by decide)
  have e1 : Ma 1 = M 1 := hSa 1 (by decide)
  have e2 : Ma 2 = M 2 := hSa 2 (by decide)
  refine r_add (fun z => (z < n ∧ Ma 2 z / 512 ≤ 1000) ∧ (z < b0 ∨ ∃ z' k, NF M n r z z' k)) hWa hKa x hx (by rw [e2]; exact hh) ⟨⟨hx, by rw [e2]; exact hw⟩, hD⟩ (fun z hz hpz j hj p hpp => ⟨wid_part hWa.st hz hj hpp hpz.1.2, ?_⟩) (fun c M1 hR1 hK1 _ _ hin hP hS1 hwl => ?_)
  · have hj' : j < ax M z := by
      unfold ax sg
      rw [← e0]
      exact hj
    have hpp' : p = pn M z j := by
      unfold pn
      rw [← e1, hpp, Int.toNat_natCast]
    have hlt := hp z hz j hj'
    rcases hpz.2 with h | ⟨z', k', h⟩
    · exact Or.inl (by omega)
    · obtain ⟨w, s, y, e, a1, -⟩ := (NF_eq hp hz).1 h
      exact Or.inr ⟨w j, s j, by rw [hpp']; exact a1 j hj'⟩
  have hW1 := hWa.cong hR1 hS1 (by decide)
  have hcn := hK1.2.1
  have hwl' : wl M1 c = post M [] x := by
    rw [hwl, post_fun e0 e1]
    rfl
  obtain ⟨K, hKe⟩ := post_end hW.st.plt hx
  obtain ⟨hc0, hlast⟩ := wl_end (hwl'.trans hKe)
  have hl7 : nd M1 (c - 1) = x := hlast
  have hSM : SM [6, 7, 43, 61] M M1 := (hSa.mono (by decide)).tr hS1
  have hE1 : EX n M M1 := EX.of (hSM 0 (by decide)) (hSM 1 (by decide)) (hSM 2 (by decide))
  have hq1 : ∀ i, i < r → M1 59 i = M 59 i ∧ M1 60 i = M 60 i := fun i _ => by
    rw [hSM 59 (by decide), hSM 60 (by decide)]
    exact ⟨rfl, rfl⟩
  have ent : ∀ i, i < c → ∃ y : Nat, nd M1 i = y ∧ ((y < n ∧ Ma 2 y / 512 ≤ 1000) ∧ (y < b0 ∨ ∃ z' k, NF M n r y z' k)) := fun i hi => by
    obtain ⟨y, y1, y2⟩ := hP i hi (by omega)
    exact ⟨y, by unfold nd; omega, y2⟩
  refine ⟨c + 1, r_norm_17 (M0 := M1) (n0 := n) (m := m) (c := c) (r := r) (nb := nb) (b0 := b0) (by omega) hc0 hb (fun i hi => ?_) (fun n' M' hN hPT' => ?_) (c + 1) 0 n M1 (by omega) (by omega) hW1.st ⟨⟨hW1, hK1, hR.cong (Nat.le_refl _) (by rw [hSM 45 (by decide)]) (hSM 59 (by decide)) (hSM 60 (by decide)) (hSM 32 (by decide))⟩, fun i h => absurd h (by omega), fun i h => absurd h (by omega), fun i h => absurd h (by omega), ⟨EX.rf _ _, Nat.le_refl _, by omega, SM.rf _ _⟩, fun i hi => ?_⟩ (hPT.ext hb hW.st hW1.st (Nat.le_refl _) (Nat.le_refl _) hE1 hq1)⟩
  · obtain ⟨y, y1, y2, y3⟩ := ent i hi
    rw [y1]
    rcases y3 with h | ⟨z', k', h⟩
    · exact Or.inl h
    · exact Or.inr ⟨z', k', NF_ext hW.st hW1.st (Nat.le_refl _) hE1 hq1 y z' k' y2.1 h⟩
  · have hNf := hN.nf (Nat.le_refl _) (c - 1) (by omega)
    obtain ⟨⟨hW', hK', hRU'⟩, n1, n2, n3, ⟨n4, n5, n6, n7⟩, n8⟩ := hN
    have hnd' : nd M' (c - 1) = x := by
      unfold nd
      rw [n7 7 (by decide)]
      exact hl7
    rw [hnd'] at hNf
    have v8 := n2 (c - 1) (by omega)
    have v9 := n3 (c - 1) (by omega)
    have wx := (n8 (c - 1) (by omega)).2
    rw [show M' 8 (c - 1) = (((M' 8 (c - 1)).toNat : Nat) : Int) by omega]
    exact k _ _ c n' M' hW' hRU' (hE1.tr n4 (Nat.le_refl _)) n5 hPT' hNf (by omega) ((hSM.mono (by decide)).tr (n7.mono (by decide))) hK'.1 hc0 (by omega) (by omega) (by omega)
  · obtain ⟨y, y1, y2, y3⟩ := ent i hi
    rw [y1]
    rw [hS1 2 (by decide)]
    exact y2
end V2
