section T0
theorem wid_part {M : g_M} {n z j p : Nat} (hST : ST M n) (hz : z < n) (hj : j < arN (sg M z)) (hp : M 1 (3 * z + j) = (p : Int)) (hw : M 2 z / 512 ≤ 1000) : p < n ∧ M 2 p / 512 ≤ 1000 := by
  obtain ⟨q, q1, q2, -⟩ := hST.pt hz hj
  have hpq : q = p := by omega
  subst hpq
  have t5 := hST.1.2.2.2.2
  have hr := arN_le (sg M z)
  obtain ⟨w1, w2, w3, w4, -⟩ := hST.2.2.2.2.2.2 z hz
  obtain ⟨o1, o2, o3⟩ := hST.2.2.1 z hz
  have nn : ∀ (i : Nat) (v : Int), okp z (arN (sg M z)) i v → 0 ≤ rg M 2 v := fun i v h => by
    rcases okp_to h with h | ⟨q, q1, q2⟩
    · rw [h, rgm]
      exact Int.le_refl _
    · rw [q2, rgn q (by omega)]
      have := (hST.2.2.2.2.2.2 q (by omega)).1
      omega
  have n1 := nn 0 _ o1
  have n2 := nn 1 _ o2
  have n3 := nn 2 _ o3
  have e : rg M 2 (M 1 (3 * z + j)) = M 2 q := by rw [hp, rgn q (by omega)]
  refine ⟨by omega, ?_⟩
  rcases Nat.lt_or_ge j 1 with h | h
  · have : j = 0 := by omega
    subst this
    rw [show M 1 (3 * z + 0) = M 1 (3 * z) from rfl] at e
    omega
  · have : j = 1 := by omega
    subst this
    omega
theorem r_normalize {M : g_M} {Q : Int → g_M → Prop} {n m r : Nat} (hW : WF M n m) (hR : RUL M n r) (hn : n ≤ 1400) (x : Nat) (hx : x < n) (hw : M 2 x / 512 ≤ 1000) (hh : M 2 x % 512 / 2 ≤ 60)
    (k : ∀ (c n' : Nat) (M1 M' : g_M), WF M1 n m → WK M1 n c → wl M1 c = post M [] x → SM [6, 7, 43, 61] M M1 → 0 < c → M1 7 (c - 1) = (x : Int) → NI M1 M' n n' m c r c → Q (M' 8 (c - 1)) M') : F_X9_normalize Q x M := by
  unfold F_X9_normalize
  refine r_clearW hW (fun Ma hWa hKa hSa => ?_)
  have e0 : Ma 0 = M 0 := hSa 0 (by decide)
  have e1 : Ma 1 = M 1 := hSa 1 (by decide)
  have e2 : Ma 2 = M 2 := hSa 2 (by decide)
  refine r_add (fun z => z < n ∧ Ma 2 z / 512 ≤ 1000) hWa hKa x hx (by rw [e2]; exact hh) ⟨hx, by rw [e2]; exact hw⟩ (fun z hz hp j hj p hpp => wid_part hWa.st hz hj hpp hp.2) (fun c M1 hR1 hK1 _ _ hin hP hS1 hwl => ?_)
  have hW1 := hWa.cong hR1 hS1 (by decide)
  have hcn := hK1.2.1
  have hwl' : wl M1 c = post M [] x := by
    rw [hwl, post_fun e0 e1]
    rfl
  obtain ⟨K, hKe⟩ := post_end hW.st.plt hx
  obtain ⟨hc0, hlast⟩ := wl_end (hwl'.trans hKe)
  have hl7 : M1 7 (c - 1) = (x : Int) := by
    obtain ⟨z, z1, z2, -⟩ := hK1.2.2 (c - 1) (by omega)
    omega
  have hSM : SM [6, 7, 43, 61] M M1 := (hSa.mono (by decide)).tr hS1
  refine ⟨c + 1, r_normalize_17 (M0 := M1) (n0 := n) (m := m) (c := c) (r := r) (by omega) hc0 (fun n' M' hN => k c n' M1 M' hW1 hK1 hwl' hSM hc0 hl7 hN) (c + 1) 0 n M1 (by omega) (by omega) ⟨⟨hW1, hK1, hR.cong (Nat.le_refl _) (by rw [hSM 45 (by decide)]) (hSM 59 (by decide)) (hSM 60 (by decide)) (hSM 32 (by decide))⟩, fun i h => absurd h (by omega), fun i h => absurd h (by omega), fun i h => absurd h (by omega), ⟨EX.rf _ _, Nat.le_refl _, by omega, SM.rf _ _⟩, fun i hi => ?_⟩⟩
  obtain ⟨y, y1, y2, y3⟩ := hP i hi (by omega)
  rw [show nd M1 i = y by unfold nd; omega, hS1 2 (by decide)]
  exact ⟨y2, y3⟩
end T0
