section P1
def arN (s : Nat) : Nat := if s = 3 then 1 else if s = 4 then 2 else 0
theorem arN_le (s : Nat) : arN s ≤ 2 := by
  unfold arN
  split
  · omega
  · split <;> omega
/-- the symbols stand -/
def SY (M : g_M) : Prop := M 41 7 = 5 ∧ (∀ s, s < 5 → M 50 s = (arN s : Int)) ∧ (∀ s, s < 5 → 1 ≤ M 51 s ∧ M 51 s ≤ 9) ∧ (∀ s, s < 5 → 0 ≤ M 52 s ∧ M 52 s < 5) ∧ (∀ s t, s < 5 → t < 5 → M 52 s = M 52 t → s = t) ∧ (∀ s, s < 5 → M 53 s = -1) ∧ (∀ s, s < 5 → isB (M 54 s)) ∧ isB (M 41 9)
theorem SY.cong {M M' : g_M} (h : SY M) (h1 : M' 41 7 = M 41 7) (h2 : M' 41 9 = M 41 9) (h0 : M' 50 = M 50) (h3 : M' 51 = M 51) (h4 : M' 52 = M 52) (h5 : M' 53 = M 53) (h6 : M' 54 = M 54) : SY M' := by
  unfold SY
  rw [h1, h2, h0, h3, h4, h5, h6]
  exact h
theorem isB_b {v : Int} (h : isB v) : bm v = v := by
  rcases h with rfl | rfl <;> decide
theorem r_arity {M : g_M} {Q : Int → g_M → Prop} (h : SY M) (s : Nat) (hs : s < 5) (k : Q (arN s) M) : F_X7_arity Q (s : Int) M := by
  unfold F_X7_arity
  rw [bq (x := (s : Int)) (by omega) (by omega), h.1, show bm 5 = 5 by decide]
  refine ⟨fun c => by omega, fun _ => ⟨fun _ => ⟨ink s rfl (by omega) (by omega), ?_⟩, fun c => by omega⟩⟩
  rw [Int.toNat_natCast, h.2.1 s hs]
  exact k
theorem r_weight {M : g_M} {Q : Int → g_M → Prop} (h : SY M) (s : Nat) (hs : s < 5) (k : Q (M 51 s) M) : F_X7_weight Q (s : Int) M := by
  unfold F_X7_weight
  rw [bq (x := (s : Int)) (by omega) (by omega), h.1, show bm 5 = 5 by decide]
  refine ⟨fun c => by omega, fun _ => ⟨fun _ => ⟨ink s rfl (by omega) (by omega), ?_⟩, fun c => by omega⟩⟩
  rw [Int.toNat_natCast]
  exact k
theorem r_rank {M : g_M} {Q : Int → g_M → Prop} (h : SY M) (s : Nat) (hs : s < 5) (k : Q (M 52 s) M) : F_X7_rank Q (s : Int) M := by
  unfold F_X7_rank
  rw [bq (x := (s : Int)) (by omega) (by omega), h.1, show bm 5 = 5 by decide]
  refine ⟨fun c => by omega, fun _ => ⟨fun _ => ⟨ink s rfl (by omega) (by omega), ?_⟩, fun c => by omega⟩⟩
  rw [Int.toNat_natCast]
  exact k
theorem r_ordinal {M : g_M} {Q : Int → g_M → Prop} (h : SY M) (s : Nat) (hs : s < 5) (k : Q (-1) M) : F_X7_variableOrdinal Q (s : Int) M := by
  unfold F_X7_variableOrdinal
  rw [bq (x := (s : Int)) (by omega) (by omega), h.1, show bm 5 = 5 by decide]
  refine ⟨fun c => by omega, fun _ => ⟨fun _ => ⟨ink s rfl (by omega) (by omega), ?_⟩, fun c => by omega⟩⟩
  rw [Int.toNat_natCast, h.2.2.2.2.2.1 s hs]
  exact k
theorem r_isFromRight {M : g_M} {Q : Int → g_M → Prop} (h : SY M) (s : Nat) (hs : s < 5) (k : Q (M 54 s) M) : F_X7_isFromRight Q (s : Int) M := by
  unfold F_X7_isFromRight
  rw [bq (x := (s : Int)) (by omega) (by omega), h.1, show bm 5 = 5 by decide]
  have hb := h.2.2.2.2.2.2.1 s hs
  refine ⟨fun c => by omega, fun _ => ⟨fun _ => ⟨ink s rfl (by omega) (by omega), ?_⟩, fun c => by omega⟩⟩
  rw [Int.toNat_natCast, isB_b hb]
  rcases hb with hb | hb <;> rw [hb] at k ⊢
  · exact ⟨fun _ => k, fun c => absurd rfl c⟩
  · exact ⟨fun c => by omega, fun _ => k⟩
theorem r_orderMode {M : g_M} {Q : Int → g_M → Prop} (h : SY M) (k : Q (M 41 9) M) : F_X7_orderMode Q M := by
  unfold F_X7_orderMode
  have hb := h.2.2.2.2.2.2.2
  rw [isB_b hb]
  rcases hb with hb | hb <;> rw [hb] at k ⊢
  · exact ⟨fun _ => k, fun c => absurd rfl c⟩
  · exact ⟨fun c => by omega, fun _ => k⟩
end P1
