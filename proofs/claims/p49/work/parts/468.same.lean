section W7
variable {A B : g_M} {n n' m m' n0 c c' ec G G' t t' : Nat} {P P' : Nat → Nat} {U U' : Nat → Bool}
theorem post_ext (hp : PLt A n0) (hE : EX n0 A B) : ∀ x, x < n0 → ∀ L, post B L x = post A L x := by
  have hp' : PLt B n0 := fun x hx j hj => by
    obtain ⟨e1, e2, e3⟩ := hE.node hx
    have hr := ax_le A x
    rw [e2] at hj
    rw [e3 j (by omega)]
    exact hp x hx j hj
  intro x
  induction x using Nat.strongRecOn with
  | _ x ih =>
    intro hx L
    by_cases hm : x ∈ L
    · rw [post_in hm, post_in hm]
    · rw [post_out hp' hx hm, post_out hp hx hm]
      obtain ⟨e1, e2, e3⟩ := hE.node hx
      have hr := ax_le A x
      have hq : ∀ r, r ≤ ax A x → ppF (post B) B L x r = ppF (post A) A L x r := by
        intro r
        induction r with
        | zero => intro _; rfl
        | succ r ihr =>
          intro hr'
          show post B (ppF (post B) B L x r) (pn B x r) = post A (ppF (post A) A L x r) (pn A x r)
          rw [ihr (by omega), e3 r (by omega)]
          have := hp x hx r (by omega)
          exact ih _ this (by omega) _
      rw [e2, hq _ (Nat.le_refl _)]
theorem wl_inj : ∀ (c c' : Nat), wl A c = wl B c' → c = c' ∧ ∀ i, i < c → nd A i = nd B i
  | 0, 0, _ => ⟨rfl, fun i h => absurd h (by omega)⟩
  | 0, c' + 1, h => by
    have h : [] = wl B c' ++ [nd B c'] := h
    have := congrArg List.length h
    simp at this
  | c + 1, 0, h => by
    have h : wl A c ++ [nd A c] = [] := h
    have := congrArg List.length h
    simp at this
  | c + 1, c' + 1, h => by
    have h : wl A c ++ [nd A c] = wl B c' ++ [nd B c'] := h
    obtain ⟨h1, h2⟩ := List.append_inj' h rfl
    obtain ⟨e1, e2⟩ := wl_inj c c' h1
    have h3 : nd A c = nd B c' := by simpa using h2
    refine ⟨by omega, fun i hi => ?_⟩
    by_cases e : i = c
    · rw [e, h3, e1]
    · exact e2 i (by omega)
/-- what two runs over the same equations have in common -/
def TWO (A B : g_M) (n0 ec : Nat) : Prop := EX n0 A B ∧ ORD A B ∧ ∀ e, e < ec → (eL B e = eL A e ∧ eR B e = eR A e) ∧ eL A e < n0 ∧ eR A e < n0
theorem TWO.wle (h : TWO A B n0 ec) (hp : PLt A n0) : ∀ e, e ≤ ec → wlE B e = wlE A e := by
  intro e
  induction e with
  | zero => intro _; rfl
  | succ e ih =>
    intro he
    obtain ⟨⟨h1, h2⟩, h3, h4⟩ := h.2.2 e (by omega)
    show post B (post B (wlE B e) (eL B e)) (eR B e) = post A (post A (wlE A e) (eL A e)) (eR A e)
    rw [ih (by omega), h1, h2, post_ext hp h.1 _ h3, post_ext hp h.1 _ h4]
theorem TWO.nodes (h : TWO A B n0 ec) (hn : n0 ≤ n) (hA : CERT A n m n0 c ec G t P U) (hB : CERT B n' m' n0 c' ec G' t' P' U') : c' = c ∧ ∀ i, i < c → nd B i = nd A i := by
  have hp : PLt A n0 := fun x hx j hj => hA.1.1.st.plt x (by omega) j hj
  have := hB.1.2.2.2.1
  rw [h.wle hp ec (Nat.le_refl _), ← hA.1.2.2.2.1] at this
  obtain ⟨e1, e2⟩ := wl_inj _ _ this
  exact ⟨e1, fun i hi => e2 i (by omega)⟩
theorem TWO.ent (h : TWO A B n0 ec) (hn : n0 ≤ n) (hA : CERT A n m n0 c ec G t P U) (hB : CERT B n' m' n0 c ec G' t' P' U') {q : Nat} (hq : q < c) : B 28 q = A 28 q ∧ ax B (nd B q) = ax A (nd A q) ∧ sg B (nd B q) = sg A (nd A q) ∧ (∀ j, j < ax A (nd A q) → pn B (nd B q) j = pn A (nd A q) j) ∧ ∀ j, j < 3 → B 29 (3 * q + j) = A 29 (3 * q + j) := by
  obtain ⟨-, hnd⟩ := h.nodes hn hA hB
  obtain ⟨e1, e2, e3⟩ := hA.entry hq
  obtain ⟨f1, f2, f3⟩ := hB.entry hq
  have hU := hA.1.2.2.1 q hq
  obtain ⟨g1, g2, g3⟩ := h.1.node hU
  have hr := ax_le A (nd A q)
  rw [hnd q hq] at f1 f2 f3 ⊢
  refine ⟨by rw [e1, f1, g1], g2, g1, fun j hj => g3 j (by omega), fun j hj => ?_⟩
  by_cases hj' : j < ax A (nd A q)
  · obtain ⟨k, k1, k2, k3⟩ := (e3 j hj).1 hj'
    obtain ⟨l, l1, l2, l3⟩ := (f3 j hj).1 (by rw [g2]; exact hj')
    rw [g3 j (by omega), hnd l (by omega), ← k3] at l3
    have := hA.1.2.1.inj (show l < c by omega) (show k < c by omega) l3
    rw [k2, l2, this]
  · rw [(e3 j hj).2 hj', (f3 j hj).2 (by rw [g2]; exact hj')]
/-- one run's classes are in the other's -/
theorem TWO.half (h : TWO A B n0 ec) (h29 : n0 ≤ 29) (hn : n0 ≤ n) (hA : CERT A n m n0 c ec G t P U) (hB : CERT B n' m' n0 c ec G' t' P' U') : ∀ a b, a < c → b < c → A 24 a = A 24 b → B 24 a = B 24 b := by
  obtain ⟨-, hnd⟩ := h.nodes hn hA hB
  have hc : c ≤ 1000 := by
    have := hA.1.2.2.2.2
    omega
  intro a b ha hb e
  refine hA.2.2.2.1.1 (fun a b => B 24 a = B 24 b) ⟨fun _ _ h => h.symm, fun _ _ _ h h' => h.trans h', fun i j hi hj h28 hp => ?_⟩ (fun e he a b ha hb h1 h2 => ?_) a b ha hb e
  · obtain ⟨p1, p2, p3, p4, p5⟩ := h.ent hn hA hB hi
    obtain ⟨q1, q2, q3, q4, q5⟩ := h.ent hn hA hB hj
    have hr := arN_le (B 28 i).toNat
    refine hB.2.1.2.2.closed' hB.2.1.2.1 hi hj hc (by rw [p1, q1, h28]) (fun p a b hp' ha hb => ?_)
    rw [p1] at hp' hr
    exact hp p a b hp' (by rw [← p5 p (by omega)]; exact ha) (by rw [← q5 p (by omega)]; exact hb)
  · obtain ⟨⟨x1, x2⟩, -⟩ := h.2.2 e he
    exact hB.2.2.2.1.2.1 e he a b ha hb (by rw [hnd a ha, x1, h1]) (by rw [hnd b hb, x2, h2])
end W7
