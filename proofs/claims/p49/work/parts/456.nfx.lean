section V5
theorem kif {c A B G : Prop} (h : (c → A) ∧ (¬ c → B)) (ha : A → G) (hb : B → G) : G := by
  by_cases hc : c
  · exact ha (h.1 hc)
  · exact hb (h.2 hc)
theorem c_ordinal {Q : Int → g_M → Prop} {G : Prop} {a : Int} {M : g_M} (hQ : ∀ v M', Q v M' → G) (h : F_X7_variableOrdinal Q a M) : G :=
  kif h (hQ _ _) (fun h => kif h (fun h => hQ _ _ h.2) (hQ _ _))
theorem c_keep_59 {G : Prop} {x1 x2 x3 x4 x5 x6 : Int} {M : g_M} (h : F_X8_keep_59 (fun _ _ => G) x1 x2 x3 x4 x5 x6 M) : G :=
  c_ordinal (fun _ _ h => kif h (fun h => h.2.2.2) (fun h => h.2.2.2)) h.2.2.2.2
theorem c_keep {G : Prop} {x1 x2 x3 x4 x5 : Int} {M : g_M} (h : F_X8_keep (fun _ _ => G) x1 x2 x3 x4 x5 M) : G :=
  kif h (fun h => kif h c_keep_59 (fun h => h)) c_keep_59
theorem c_make_27 {G : Prop} : ∀ (f : Nat) {x1 x2 x3 x4 x5 x6 x7 : Int} {M : g_M}, F_X8_make_27 (fun _ _ => G) f x1 x2 x3 x4 x5 x6 x7 M → G := by
  intro f
  induction f with
  | zero => intro _ _ _ _ _ _ _ _ h; exact False.elim h
  | succ f ih =>
    intro x1 x2 x3 x4 x5 x6 x7 M h
    exact kif h (fun h => kif h c_keep (fun h => kif h (fun h => kif h (fun h => kif h (fun h => kif h (fun h => h) ih) ih) ih) ih)) c_keep
theorem c_make {G : Prop} {a b c d : Int} {M : g_M} (h : F_X8_make (fun _ _ => G) a b c d M) : G := by
  obtain ⟨f, h⟩ := h
  exact c_make_27 f h
/-- the store can always be made larger -/
theorem mkExt {M : g_M} {n m s : Nat} {a b : Int} (hW : WF M n m) (hn : n < 3000) (hs : s < 5) (ha : okp n (arN s) 0 a) (hb : okp n (arN s) 1 b) : ∃ (M' : g_M) (n' x : Nat), WF M' n' m ∧ n ≤ n' ∧ n' ≤ n + 1 ∧ x < n' ∧ EX n M M' ∧ NO M' x s a b (-1) ∧ SM [0, 1, 2, 4, 5, 42] M M' :=
  c_make (r_makeW hW hn s hs a b (-1) ha hb ⟨fun h => absurd h (by have := arN_le s; omega), fun _ => rfl⟩ (fun x n' M' g1 g2 g3 g4 _ _ g7 g8 g9 => ⟨M', n', x, g1, g2, g3, g4, g7, g8, g9⟩))
theorem RLS.ex {M : g_M} {n r y : Nat} (hR : RUL M n r) : ∃ z e, RLS M r y z e := by
  by_cases h : ∃ i, i < r ∧ M 59 i = (y : Int)
  · obtain ⟨i, i1, i2⟩ := h
    exact ⟨rv M i, 1, Or.inl ⟨i, i1, i2, (hR.at i1).2.1, rfl⟩⟩
  · exact ⟨y, 0, Or.inr ⟨fun i hi e => h ⟨i, hi, e⟩, rfl, rfl⟩⟩
theorem allDone {M : g_M} {n m n0 r : Nat} (hW : WF M n m) (hR : RUL M n r) (hn0 : n0 ≤ n) (hn : n + n0 < 3000) : ∀ u, u ≤ n0 → ∃ (M' : g_M) (n' : Nat), WF M' n' m ∧ RUL M' n' r ∧ n ≤ n' ∧ n' ≤ n + u ∧ EX n M M' ∧ SM [0, 1, 2, 4, 5, 42] M M' ∧ ∀ v, v < u → ∃ z k, NF M' n' r v z k := by
  intro u
  induction u with
  | zero => intro _; exact ⟨M, n, hW, hR, Nat.le_refl _, by omega, EX.rf _ _, SM.rf _ _, fun v h => absurd h (by omega)⟩
  | succ u ih =>
    intro hu
    obtain ⟨M1, n1, h1, h2, h3, h4, h5, h6, h7⟩ := ih (by omega)
    have hp := h1.st.plt
    have hun : u < n1 := by omega
    have hr := ax_le M1 u
    have ch : ∀ j, ∃ p : Nat × Nat, j < ax M1 u → NF M1 n1 r (pn M1 u j) p.1 p.2 := fun j => by
      by_cases hj : j < ax M1 u
      · obtain ⟨z, k, h⟩ := h7 _ (hp u hun j hj)
        exact ⟨(z, k), fun _ => h⟩
      · exact ⟨(0, 0), fun h => absurd h hj⟩
    obtain ⟨w, hw⟩ := Classical.axiomOfChoice ch
    have hlt : ∀ j, j < ax M1 u → (w j).1 < n1 := fun j hj => NF_lt h1.st h2 (by have := hp u hun j hj; omega) (hw j hj)
    have h0 := h1.st.2.1 u hun
    obtain ⟨M2, n2, y, g1, g2, g3, g4, g5, g6, g7⟩ := mkExt (a := ivx (ax M1 u) (fun j => (w j).1) 0) (b := ivx (ax M1 u) (fun j => (w j).1) 1) h1 (by omega) (show sg M1 u < 5 by unfold sg; omega) ⟨fun h => by unfold ivx; rw [if_pos (show 0 < ax M1 u from h)]; exact ⟨Int.natCast_nonneg _, Int.ofNat_lt.2 (hlt 0 h)⟩, fun h => by unfold ivx; rw [if_neg (show ¬ 0 < ax M1 u from h)]⟩ ⟨fun h => by unfold ivx; rw [if_pos (show 1 < ax M1 u from h)]; exact ⟨Int.natCast_nonneg _, Int.ofNat_lt.2 (hlt 1 h)⟩, fun h => by unfold ivx; rw [if_neg (show ¬ 1 < ax M1 u from h)]⟩
    have hR2 : RUL M2 n2 r := h2.cong g2 (by rw [g7 45 (by decide)]) (g7 59 (by decide)) (g7 60 (by decide)) (g7 32 (by decide))
    have hq : SR M1 M2 r := fun i _ => by
      rw [g7 59 (by decide), g7 60 (by decide)]
      exact ⟨rfl, rfl⟩
    refine ⟨M2, n2, g1, hR2, by omega, by omega, h5.tr g5 h3, h6.tr g7, fun v hv => ?_⟩
    by_cases e : v = u
    · subst e
      obtain ⟨z, e, hz⟩ := RLS.ex (y := y) hR2
      obtain ⟨e1, e2, e3⟩ := g5.node hun
      refine ⟨z, sv (fun j => (w j).2) (ax M2 v) + e, (NF_eq g1.st.plt (by omega)).2 ⟨fun j => (w j).1, fun j => (w j).2, y, e, fun j hj => ?_, g4, ?_, hz, rfl⟩⟩
      · rw [e2] at hj
        rw [e3 j (by omega)]
        exact NF_ext h1.st g1.st g2 g5 hq _ _ _ (by have := hp v hun j hj; omega) (hw j hj)
      · rw [e1, e2]
        exact g6
    · obtain ⟨z, k, h⟩ := h7 v (by omega)
      exact ⟨z, k, NF_ext h1.st g1.st g2 g5 hq _ _ _ (by omega) h⟩
end V5
