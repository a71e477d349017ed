section Y0
variable {Ls : Nat} {xs : Nat → Int32} {k81 : Int → Int → Int → g_M → g_M → Prop} {k284 : Int → Int → Int → Int → Int → g_M → g_M → Prop} {x9 x10 x11 x12 : Int} {M N : g_M} {n m n0 r ec lv nb q : Nat} {S uf : Nat → Nat}
/-- the state between the law's checks -/
def CKS (M N : g_M) (n m n0 r ec lv nb q : Nat) (S uf : Nat → Nat) : Prop := OB M n m n0 r ec lv S ∧ US M N m n0 uf ∧ UQ M N ec uf ∧ PT M n r nb n0 ∧ M 99 0 = (q : Int)
theorem US.ext {M' : g_M} {m' : Nat} (h : US M N m n0 uf) (hE : EX n M M') (hn : n0 ≤ n) (hm : m ≤ m') (h33 : ∀ i, i < m → M' 33 i = M 33 i) : US M' N m' n0 uf := by
  refine ⟨fun i hi => ?_, h.2.1, fun i hi => ?_, fun i h3 hi => ?_⟩
  · obtain ⟨j, j1, j2, j3, j4⟩ := h.1 i hi
    exact ⟨j, by omega, j2, by rw [h33 j j1, j3], j4⟩
  · obtain ⟨j, j1, j2, j3, j4⟩ := h.1 i (by omega)
    rw [(hE.node (x := uf i) (by omega)).1]
    exact h.2.2.1 i hi
  · obtain ⟨j, j1, j2, j3, j4⟩ := h.1 i hi
    obtain ⟨e1, e2, e3⟩ := hE.node (x := uf i) (by omega)
    obtain ⟨a, a1, a2, a3, a4⟩ := h.2.2.2 i h3 hi
    rw [e1, e3 0 (by omega), e3 1 (by omega)]
    exact ⟨a, a1, a2, a3, a4⟩
theorem UQ.ext {M' : g_M} (h : UQ M N ec uf) (h5 : FRM M M') : UQ M' N ec uf := by
  unfold UQ
  rw [h5.1, h5.2.1]
  exact h
/-- a normal form that was asked for: its number, or -1 -/
def RSN (M : g_M) (m z : Nat) (v : Int) : Prop := (∃ j : Nat, v = (j : Int) ∧ j < m ∧ M 33 j = (z : Int) ∧ M 2 z / 512 ≤ 1000 ∧ M 2 z % 512 / 2 ≤ 60) ∨ v = -1 ∧ (1000 < M 2 z / 512 ∨ 60 < M 2 z % 512 / 2)
theorem RSN.ext {M' : g_M} {m' z : Nat} {v : Int} (h : RSN M m z v) (hE : EX n M M') (hz : z < n) (hm : m ≤ m') (h33 : ∀ i, i < m → M' 33 i = M 33 i) : RSN M' m' z v := by
  unfold RSN
  rw [(hE z hz).2.2.2.2]
  rcases h with ⟨j, j1, j2, j3, j4⟩ | h
  · exact Or.inl ⟨j, j1, by omega, by rw [h33 j j2, j3], j4⟩
  · exact Or.inr h
theorem RSN.bm {z : Nat} {v : Int} (h : RSN M m z v) (hm : m ≤ 16000) : bm v = v := by
  rcases h with ⟨j, j1, j2, -⟩ | ⟨h, -⟩
  · rw [j1, bq (by omega) (by omega)]
  · rw [h]
    decide
theorem r_law444 {x z kx : Nat} {v t : Int} {i : Int} (h : CKS M N n m n0 r ec lv nb q S uf) (hb : nb + n0 ≤ 880) (hm : m < 16000) (hx : x < n0) (hN : NF M n r x z kx) (hv : RSN M m z v)
    (kk : ∀ (n' : Nat) (M' : g_M), CKS M' N n' m n0 r ec lv nb q S uf → F_L_law_463 Ls xs k81 k284 x9 x10 x11 x12 i M' N) : F_L_law_444 Ls xs k81 k284 x9 x10 x11 x12 i v t t M N := by
  have h' := h
  obtain ⟨hO, hU, hUQ, hP, h99⟩ := h'
  have hle := hP.le
  have hn0 := hO.1.2.2.1
  unfold F_L_law_444
  refine ⟨fun _ => ⟨fun _ => kk n M h, fun hc => ?_⟩, fun c => absurd rfl c⟩
  rw [hv.bm (by omega)] at hc
  rcases hv with ⟨j, j1, j2, j3, j4, j5⟩ | ⟨hv, -⟩
  · rw [j1]
    have hzn := NF_lt hO.wf.st hO.rsk.1.1 (by omega) hN
    have hNz := NFnorm hO.wf hO.rsk x z kx (by omega) hN
    refine r_stepCount hO (by omega) (by omega) hP j z j2 j3 hzn j4 j5 (Or.inr ⟨z, 0, hNz⟩) (fun z' kk' n' M' g1 g2 g3 g4 g5 g6 g7 g8 g9 g10 => ⟨fun _ => ?_, fun c => ?_⟩)
    · exact kk n' M' ⟨g1, hU.ext g3 hn0 (Nat.le_refl _) (fun i _ => by rw [g7]), hUQ.ext g10, g4, by rw [g8, h99]⟩
    · have := (NF_det g1.wf.st g1.rsk.1.1 _ _ _ _ _ (by omega) g5 (NF_ext hO.wf.st g1.wf.st g2 g3 (g10.sr r) _ _ _ hzn hNz)).2
      rw [this] at c
      exact c (by decide)
  · omega
end Y0
