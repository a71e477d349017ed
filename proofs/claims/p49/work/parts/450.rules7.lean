section U0
theorem cho_cong {M M' : g_M} (h10 : M' 10 = M 10) (h20 : M' 20 = M 20) (h22 : M' 22 = M 22) (i : Nat) : cho M' i ↔ cho M i := by
  unfold cho ow sq
  rw [h10, h20, h22]
theorem RK.cg {M M' : g_M} {C G t : Nat} (h : RK M C G t) (hSY : SY M') (h10 : M' 10 = M 10) (h11 : M' 11 = M 11) (h12 : M' 12 = M 12) (h20 : M' 20 = M 20) (h22 : M' 22 = M 22) (h44 : M' 44 = M 44) : RK M' C G t := by
  obtain ⟨a1, a2, a3, a4, a5, a6, a7⟩ := h
  have egs : ∀ q, gs M' q = gs M q := fun q => by unfold gs; rw [h11]
  have egp : ∀ q j, gp M' q j = gp M q j := fun q j => by unfold gp; rw [h12]
  have eow : ∀ q, ow M' q = ow M q := fun q => by unfold ow; rw [h10]
  have esq : ∀ i, sq M' i = sq M i := fun i => by unfold sq; rw [h22]
  refine ⟨a1.cg hSY h10 h11 h12 h22 h44, a2, fun i i' h1 h2 e => a3 i i' h1 h2 (by rw [← esq, ← esq]; exact e), fun i hi j hj => ?_, fun i hi => ?_, fun i i' h1 h2 c1 c2 e => ?_, fun p q h1 h2 e1 e2 => ?_⟩
  · rw [esq, egs] at hj
    obtain ⟨i', b1, b2, b3⟩ := a4 i hi j hj
    exact ⟨i', b1, (cho_cong h10 h20 h22 i').2 b2, by rw [eow, esq, egp, esq]; exact b3⟩
  · obtain ⟨i', b1, b2, b3⟩ := a5 i hi
    exact ⟨i', b1, (cho_cong h10 h20 h22 i').2 b2, by rw [eow, esq, eow, esq]; exact b3⟩
  · rw [eow, esq, eow, esq] at e
    exact a6 i i' h1 h2 ((cho_cong h10 h20 h22 i).1 c1) ((cho_cong h10 h20 h22 i').1 c2) e
  · rw [egs, egs] at e1
    refine a7 p q h1 h2 e1 (fun j hj => ?_)
    have := e2 j (by rw [egs]; exact hj)
    rw [egp, egp] at this
    exact this
theorem r_takeRules {M : g_M} {Q : g_M → Prop} {C G t n m : Nat} (h : RK M C G t) (hW : WF M n m) (hn : n + t < 2900)
    (k : ∀ (n' r : Nat) (M1 M' : g_M) (Y : Nat → Nat), SM [13, 45] M M1 → RK M1 C G t → (∀ i, i < t → N2 M1 M1 i) → (∀ i, i < t → N3 M1 M1 i) → TI M1 M' n n' m r t Y → (∀ j, j ≠ 17 → M1 45 j = M 45 j) → Q M') : F_X9_takeRules Q M := by
  refine r_takeRules0 h.1 hW.rg (fun i hi j hj i' hi' e hc => ?_) (fun M' hR' hS' hN2 hN3 => ?_)
  · obtain ⟨i2, b1, b2, b3⟩ := h.2.2.2.1 i hi j hj
    have := h.2.2.2.2.2.1 i' i2 hi' (by omega) hc b2 (e.trans b3.symm)
    omega
  · generalize hM1 : up M' 45 17 0 = M1
    have hS1 : SM [45] M' M1 := by
      rw [← hM1]
      exact (SM.rf _ _).u (by decide)
    have hSM : SM [13, 45] M M1 := (hS'.mono (by decide)).tr (hS1.mono (by decide))
    have hR1 : RG M1 := by
      rw [← hM1]
      exact hR'.u (by omega) (by omega)
    have hW1 : WF M1 n m := hW.cong hR1 hSM (by decide)
    have e13 : M1 13 = M' 13 := hS1 13 (by decide)
    have e10 : M1 10 = M 10 := hSM 10 (by decide)
    have e11 : M1 11 = M 11 := hSM 11 (by decide)
    have e12 : M1 12 = M 12 := hSM 12 (by decide)
    have e20 : M1 20 = M 20 := hSM 20 (by decide)
    have e22 : M1 22 = M 22 := hSM 22 (by decide)
    have egs : ∀ q, gs M1 q = gs M q := fun q => by unfold gs; rw [e11]
    have egp : ∀ q j, gp M1 q j = gp M q j := fun q j => by unfold gp; rw [e12]
    have eow : ∀ q, ow M1 q = ow M q := fun q => by unfold ow; rw [e10]
    have esq : ∀ i, sq M1 i = sq M i := fun i => by unfold sq; rw [e22]
    have h1 : RK M1 C G t := h.cg hW1.sy e10 e11 e12 e20 e22 (hSM 44 (by decide))
    have n2 : ∀ i, i < t → N2 M1 M1 i := fun i hi hne => by
      rw [e20, eow, esq] at hne
      obtain ⟨x1, x2⟩ := hN2 i hi hne
      refine ⟨by rw [e13, eow, esq]; exact x1, fun j hj => ?_⟩
      rw [egs, esq] at hj
      rw [e13, egp, esq]
      exact x2 j hj
    have n3 : ∀ i, i < t → N3 M1 M1 i := fun i hi hc h13 j hj => by
      rw [e20, eow, esq] at hc
      rw [e13, eow, esq] at h13
      rw [egs, esq] at hj
      rw [e13, egp, esq]
      exact hN3 i hi hc h13 j hj
    refine ⟨t + 1, r_takeRules_91 h1 n2 n3 hn (fun n' r M2 Y hT => k n' r M1 M2 Y hSM h1 n2 n3 hT (fun j hj => ?_)) (t + 1) 0 n 0 M1 (fun _ => 0) (by omega) (by omega) ⟨⟨hW1, ⟨by rw [← hM1, up1]; rfl, by omega, fun i hi => absurd hi (by omega)⟩, ⟨fun a ha => absurd ha (by omega), fun a b ha => absurd ha (by omega), fun q hq => absurd hq (by omega)⟩⟩, ⟨EX.rf _ _, Nat.le_refl _, by omega, by omega⟩, SM.rf _ _, fun _ _ => rfl⟩⟩
    rw [← hM1, up2 hj, hS' 45 (by decide)]
end U0
