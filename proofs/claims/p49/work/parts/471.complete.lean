section X0
/-- complete succeeds for these equations -/
def OKC (M : g_M) (n0 ec : Nat) : Prop := ∃ (A : g_M) (n m c G t : Nat) (P : Nat → Nat) (U : Nat → Bool), CERT A n m n0 c ec G t P U ∧ (∀ i, i < t → SMA A i) ∧ n0 ≤ n ∧ TWO A M n0 ec
theorem OKC.ext {M M' : g_M} {n0 ec : Nat} (h : OKC M n0 ec) (hE : EX n0 M M') (hO : ORD M M') (hq : ∀ e, e < ec → M' 55 e = M 55 e ∧ M' 56 e = M 56 e) : OKC M' n0 ec := by
  obtain ⟨A, n, m, c, G, t, P, U, h1, h2, h3, h4, h5, h6⟩ := h
  refine ⟨A, n, m, c, G, t, P, U, h1, h2, h3, h4.tr hE (Nat.le_refl _), h5.tr hO, fun e he => ?_⟩
  obtain ⟨⟨a1, a2⟩, a3⟩ := h6 e he
  refine ⟨⟨?_, ?_⟩, a3⟩
  · rw [← a1]
    unfold eL
    rw [(hq e he).1]
  · rw [← a2]
    unfold eR
    rw [(hq e he).2]
theorem ORD.of {M M' : g_M} {S : List Nat} (h : SM S M M') (hd : ∀ a ∈ [41, 51, 52, 54], a ∉ S) : ORD M M' := by
  refine ⟨by rw [h 41 (hd _ (by decide))], h 51 (hd _ (by decide)), h 52 (hd _ (by decide)), h 54 (hd _ (by decide))⟩
theorem EX.mono {M M' : g_M} {n n' : Nat} (h : EX n M M') (hn : n' ≤ n) : EX n' M M' := fun x hx => h x (by omega)
theorem r_complete {M : g_M} {Q : Int → g_M → Prop} {n m n0 ec : Nat} (hW : WF M n m) (hn : n ≤ 2800) (h29 : n0 ≤ 29) (hn0 : n0 ≤ n) (hH : HT M n0) (hQ : EQO M n0 ec)
    (k1 : OKC M n0 ec → ∀ (n' r : Nat) (M' : g_M), WF M' n' m → n ≤ n' → n' ≤ n + n0 → EX n M M' → RSK M' n' n0 r ec → SM [0, 1, 2, 4, 5, 6, 7, 10, 11, 12, 13, 14, 15, 16, 17, 18, 19, 20, 21, 22, 23, 24, 25, 26, 27, 28, 29, 30, 31, 32, 42, 43, 44, 45, 47, 59, 60, 61] M M' → (∀ j, j ≠ 17 → M' 45 j = M 45 j) → Q 1 M')
    (k2 : ec ≠ 0 → ¬ OKC M n0 ec → ∀ M' : g_M, WF M' n m → SM [6, 7, 10, 11, 12, 13, 14, 15, 16, 17, 18, 19, 20, 21, 22, 24, 25, 26, 27, 28, 29, 30, 31, 43, 44, 47, 61] M M' → Q 0 M') : F_X9_complete Q M := by
  refine r_completeA hW (by omega) (by omega) hn0 hH hQ (fun c G t P U A hS hA => ⟨t + 1, ?_⟩)
  have hEA : EX n M A := EX.of (hS 0 (by decide)) (hS 1 (by decide)) (hS 2 (by decide))
  have hOA : ORD M A := ORD.of hS (by decide)
  have hT : TWO A M n0 ec := ⟨fun x hx => by
    obtain ⟨a1, a2, a3, a4, a5⟩ := hEA x (by omega)
    exact ⟨a1.symm, a2.symm, a3.symm, a4.symm, a5.symm⟩, ⟨hOA.1.symm, hOA.2.1.symm, hOA.2.2.1.symm, hOA.2.2.2.symm⟩, fun e he => by
    have := hQ.2.2 e he
    unfold eL eR at this ⊢
    rw [hS 55 (by decide), hS 56 (by decide)]
    exact ⟨⟨rfl, rfl⟩, this.2.2⟩⟩
  have hQA : EQO A n0 ec := by
    unfold EQO eL eR
    rw [hS 45 (by decide), hS 55 (by decide), hS 56 (by decide)]
    exact hQ
  have htc : t ≤ n0 := by
    have h1 := hA.2.2.2.2.2.1.cnt
    have h2 := hA.2.2.2.2.1.2.2
    have h3 := hA.1.2.2.2.2
    omega
  refine r_complete_41 hA h29 (fun hsm => ?_) (fun hsm => k2 (fun h0 => hsm (fun i hi => ?_)) (fun hOK => hsm ?_) A hA.1.1 hS) (t + 1) 0 (by omega) (by omega) (fun i h => absurd h (by omega))
  · have hK := hA.rk h29
    refine r_takeRules hK hA.1.1 (by omega) (fun n' r M1 M' Y s1 k1' n2 n3 hTI h45 => ?_)
    have hY := hA.ys s1 k1' n2 n3 hTI
    obtain ⟨⟨hW', hRU, -⟩, ⟨e1, e2, e3, e4⟩, hS', h45'⟩ := hTI
    have hE1 : EX n A M1 := EX.of (s1 0 (by decide)) (s1 1 (by decide)) (s1 2 (by decide))
    have hEA' : EX n A M' := hE1.tr e1 (Nat.le_refl _)
    have hSA' : SM [0, 1, 2, 4, 5, 13, 23, 32, 42, 45, 59, 60] A M' := (s1.mono (by decide)).tr (hS'.mono (by decide))
    have hOA' : ORD A M' := ORD.of hSA' (by decide)
    have j45 : ∀ j, j ≠ 17 → M' 45 j = M 45 j := fun j hj => by rw [h45' j hj, h45 j hj, hS 45 (by decide)]
    have hR := hA.rsk h29 hn0 hQA hY hW' hRU hEA' e2 hOA' (by rw [h45' 7 (by decide), h45 7 (by decide)]) (hSA' 55 (by decide)) (hSA' 56 (by decide))
    exact k1 ⟨A, n, m, c, G, t, P, U, hA, hsm, hn0, hT⟩ n' r M' hW' e2 (by omega) (hEA.tr hEA' (Nat.le_refl _)) hR ((hS.mono (by decide)).tr (hSA'.mono (by decide))) j45
  · exfalso
    have h9 := hA.1.2.2.2.1
    rw [h0] at h9
    have h2 := hA.2.2.2.2.1.2.2
    have h3 := hA.2.2.2.2.2.1.cnt
    have hc0 : c = 0 := by
      cases c with
      | zero => rfl
      | succ c =>
        have h9 : wl A c ++ [(A 7 c).toNat] = [] := h9
        have := congrArg List.length h9
        simp at this
    omega
  · obtain ⟨B, n2, m2, c2, G2, t2, P2, U2, hB, hsB, hn2, hT2⟩ := hOK
    have hTT : TWO B A n0 ec := by
      have := hT.sy
      refine ⟨hT2.1.tr this.1 (Nat.le_refl _), hT2.2.1.tr this.2.1, fun e he => ?_⟩
      obtain ⟨⟨a1, a2⟩, a3, a4⟩ := hT2.2.2 e he
      obtain ⟨⟨b1, b2⟩, -⟩ := this.2.2 e he
      exact ⟨⟨b1.trans a1, b2.trans a2⟩, a3, a4⟩
    exact hTT.small h29 hn2 hn0 hB hA hsB
end X0
