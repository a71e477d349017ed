section V4
/-- a congruence on the first n0 nodes -/
def CGE (M : g_M) (n0 : Nat) (E : Nat → Nat → Prop) : Prop := (∀ u v, E u v → E v u) ∧ (∀ u v w, E u v → E v w → E u w) ∧ ∀ u v, u < n0 → v < n0 → sg M u = sg M v → (∀ j, j < ax M u → E (pn M u j) (pn M v j)) → E u v
theorem CGE.rf {M : g_M} {n n0 : Nat} {E : Nat → Nat → Prop} (h : CGE M n0 E) (hp : PLt M n) (hn : n0 ≤ n) : ∀ u, u < n0 → E u u := by
  intro u
  induction u using Nat.strongRecOn with
  | _ u ih =>
    intro hu
    exact h.2.2 u u hu hu rfl (fun j hj => ih _ (hp u (by omega) j hj) (by have := hp u (by omega) j hj; omega))
theorem CGE.ext {M M' : g_M} {n n0 : Nat} {E : Nat → Nat → Prop} (h : CGE M' n0 E) (hE : EX n M M') (hn : n0 ≤ n) : CGE M n0 E := by
  refine ⟨h.1, h.2.1, fun u v hu hv hs hj => ?_⟩
  obtain ⟨e1, e2, e3⟩ := hE.node (x := u) (by omega)
  obtain ⟨f1, f2, f3⟩ := hE.node (x := v) (by omega)
  have hr := ax_le M u
  refine h.2.2 u v hu hv (by rw [e1, f1, hs]) (fun j hj' => ?_)
  rw [e2] at hj'
  rw [e3 j (by omega), f3 j (by omega)]
  exact hj j hj'
/-- x stands for the class of u -/
def REPF (M : g_M) (n0 : Nat) (E : Nat → Nat → Prop) : Nat → Nat → Nat → Prop
  | 0 => fun _ _ => False
  | f + 1 => fun x u => ∃ u0, u0 < n0 ∧ E u0 u ∧ sg M u0 = sg M x ∧ ∀ j, j < ax M x → REPF M n0 E f (pn M x j) (pn M u0 j)
def REP (M : g_M) (n0 : Nat) (E : Nat → Nat → Prop) (x u : Nat) : Prop := REPF M n0 E (x + 1) x u
theorem REPF_eq {M : g_M} {n n0 : Nat} {E : Nat → Nat → Prop} (hp : PLt M n) : ∀ f f' x u, x < n → x < f → x < f' → REPF M n0 E f x u → REPF M n0 E f' x u := by
  intro f
  induction f with
  | zero => intros; omega
  | succ f ih =>
    intro f' x u hx h1 h2
    cases f' with
    | zero => omega
    | succ f' =>
      rintro ⟨u0, a1, a2, a3, a4⟩
      exact ⟨u0, a1, a2, a3, fun j hj => ih f' _ _ (by have := hp x hx j hj; omega) (by have := hp x hx j hj; omega) (by have := hp x hx j hj; omega) (a4 j hj)⟩
theorem REP_eq {M : g_M} {n n0 : Nat} {E : Nat → Nat → Prop} (hp : PLt M n) {x u : Nat} (hx : x < n) : REP M n0 E x u ↔ ∃ u0, u0 < n0 ∧ E u0 u ∧ sg M u0 = sg M x ∧ ∀ j, j < ax M x → REP M n0 E (pn M x j) (pn M u0 j) := by
  constructor
  · rintro ⟨u0, a1, a2, a3, a4⟩
    exact ⟨u0, a1, a2, a3, fun j hj => REPF_eq hp _ _ _ _ (by have := hp x hx j hj; omega) (by have := hp x hx j hj; omega) (by omega) (a4 j hj)⟩
  · rintro ⟨u0, a1, a2, a3, a4⟩
    exact ⟨u0, a1, a2, a3, fun j hj => REPF_eq hp _ _ _ _ (by have := hp x hx j hj; omega) (by omega) (by have := hp x hx j hj; omega) (a4 j hj)⟩
theorem REP_E {M : g_M} {n0 : Nat} {E : Nat → Nat → Prop} (hC : CGE M n0 E) {x u v : Nat} (h : REP M n0 E x u) (he : E u v) : REP M n0 E x v := by
  obtain ⟨u0, a1, a2, a3, a4⟩ := h
  exact ⟨u0, a1, hC.2.1 _ _ _ a2 he, a3, a4⟩
theorem REP_det {M : g_M} {n n0 : Nat} {E : Nat → Nat → Prop} (hp : PLt M n) (hC : CGE M n0 E) : ∀ x u v, x < n → REP M n0 E x u → REP M n0 E x v → E u v := by
  intro x
  induction x using Nat.strongRecOn with
  | _ x ih =>
    intro u v hx h h'
    obtain ⟨u0, a1, a2, a3, a4⟩ := (REP_eq hp hx).1 h
    obtain ⟨v0, b1, b2, b3, b4⟩ := (REP_eq hp hx).1 h'
    have ha : ax M u0 = ax M x := by unfold ax; rw [a3]
    have : E u0 v0 := hC.2.2 u0 v0 a1 b1 (a3.trans b3.symm) (fun j hj => ih _ (hp x hx j (by omega)) _ _ (by have := hp x hx j (by omega); omega) (a4 j (by omega)) (b4 j (by omega)))
    exact hC.2.1 _ _ _ (hC.1 _ _ a2) (hC.2.1 _ _ _ this b2)
theorem REP_self {M : g_M} {n n0 : Nat} {E : Nat → Nat → Prop} (hp : PLt M n) (hC : CGE M n0 E) (hn : n0 ≤ n) : ∀ u, u < n0 → REP M n0 E u u := by
  intro u
  induction u using Nat.strongRecOn with
  | _ u ih =>
    intro hu
    exact (REP_eq hp (by omega)).2 ⟨u, hu, hC.rf hp hn u hu, rfl, fun j hj => ih _ (hp u (by omega) j hj) (by have := hp u (by omega) j hj; omega)⟩
theorem REP_ext {M M' : g_M} {n n' n0 : Nat} {E : Nat → Nat → Prop} (hp : PLt M n) (hp' : PLt M' n') (hE : EX n M M') (hn : n ≤ n') (hn0 : n0 ≤ n) : ∀ x u, x < n → REP M n0 E x u → REP M' n0 E x u := by
  intro x
  induction x using Nat.strongRecOn with
  | _ x ih =>
    intro u hx h
    obtain ⟨u0, a1, a2, a3, a4⟩ := (REP_eq hp hx).1 h
    obtain ⟨e1, e2, e3⟩ := hE.node hx
    obtain ⟨f1, f2, f3⟩ := hE.node (x := u0) (by omega)
    have hr := ax_le M x
    refine (REP_eq hp' (by omega)).2 ⟨u0, a1, a2, by rw [e1, f1, a3], fun j hj => ?_⟩
    rw [e2] at hj
    rw [e3 j (by omega), f3 j (by omega)]
    exact ih _ (hp x hx j hj) _ (by have := hp x hx j hj; omega) (a4 j hj)
/-- what the rules are good for -/
def eL (M : g_M) (e : Nat) : Nat := (M 55 e).toNat
def eR (M : g_M) (e : Nat) : Nat := (M 56 e).toNat
def EQS (M : g_M) (ec : Nat) (E : Nat → Nat → Prop) : Prop := ∀ e, e < ec → E (eL M e) (eR M e)
def SR (M M' : g_M) (r : Nat) : Prop := ∀ i, i < r → M' 59 i = M 59 i ∧ M' 60 i = M 60 i
def rl (M : g_M) (i : Nat) : Nat := (M 59 i).toNat
def rv (M : g_M) (i : Nat) : Nat := (M 60 i).toNat
def RSK (M : g_M) (n n0 r ec : Nat) : Prop :=
  (RUL M n r ∧ n0 ≤ n ∧ ec ≤ 30 ∧ M 45 7 = (ec : Int) ∧ ∀ e, e < ec → 0 ≤ M 55 e ∧ 0 ≤ M 56 e ∧ eL M e < n0 ∧ eR M e < n0) ∧
  (∀ i, i < r → LT M (rv M i) (rl M i)) ∧ (∀ i, i < r → NF M n r (rv M i) (rv M i) 0) ∧
  (∀ E, CGE M n0 E → EQS M ec E → ∀ i, i < r → ∃ u, REP M n0 E (rl M i) u ∧ REP M n0 E (rv M i) u) ∧
  ∀ (M' : g_M) (n' : Nat), ST M' n' → EX n M M' → n ≤ n' → SR M M' r → ∀ e z k z' k', e < ec → NF M' n' r (eL M e) z k → NF M' n' r (eR M e) z' k' → z = z'
theorem RUL.at {M : g_M} {n r i : Nat} (h : RUL M n r) (hi : i < r) : M 59 i = ((rl M i : Nat) : Int) ∧ M 60 i = ((rv M i : Nat) : Int) ∧ rl M i < n ∧ rv M i < n := by
  obtain ⟨l, v, a1, a2, a3, a4, -⟩ := h.2.2 i hi
  unfold rl rv
  omega
theorem RSK.ext {M M' : g_M} {n n' n0 r ec : Nat} (h : RSK M n n0 r ec) (hST : ST M n) (hST' : ST M' n') (hE : EX n M M') (hn : n ≤ n') (hO : ORD M M') (hR : RUL M' n' r) (hS : SR M M' r) (h45 : M' 45 7 = M 45 7) (h5 : ∀ e, e < ec → M' 55 e = M 55 e ∧ M' 56 e = M 56 e) : RSK M' n' n0 r ec := by
  obtain ⟨⟨a1, a2, a3, a4, a5⟩, b, c, d, e⟩ := h
  have hp := hST.plt
  have el : ∀ i, i < r → rl M' i = rl M i ∧ rv M' i = rv M i := fun i hi => by
    unfold rl rv
    rw [(hS i hi).1, (hS i hi).2]
    exact ⟨rfl, rfl⟩
  have eeL : ∀ q, q < ec → eL M' q = eL M q := fun q hq => by unfold eL; rw [(h5 q hq).1]
  have eeR : ∀ q, q < ec → eR M' q = eR M q := fun q hq => by unfold eR; rw [(h5 q hq).2]
  refine ⟨⟨hR, by omega, a3, h45.trans a4, fun q hq => ?_⟩, fun i hi => ?_, fun i hi => ?_, fun E hC hQ i hi => ?_, fun M2 n2 s1 s2 s3 s4 q z k z' k' hq h1 h2 => ?_⟩
  · rw [(h5 q hq).1, (h5 q hq).2, eeL q hq, eeR q hq]
    exact a5 q hq
  · obtain ⟨-, -, x1, x2⟩ := a1.at hi
    rw [(el i hi).1, (el i hi).2]
    exact (LT_ext hp hE hO x2 x1).2 (b i hi)
  · obtain ⟨-, -, x1, x2⟩ := a1.at hi
    rw [(el i hi).2]
    exact NF_ext hST hST' hn hE hS _ _ _ x2 (c i hi)
  · obtain ⟨-, -, x1, x2⟩ := a1.at hi
    rw [(el i hi).1, (el i hi).2]
    obtain ⟨u, u1, u2⟩ := d E (hC.ext hE a2) (fun q hq => by have := hQ q hq; rw [eeL q hq, eeR q hq] at this; exact this) i hi
    exact ⟨u, REP_ext hp hST'.plt hE hn a2 _ _ x1 u1, REP_ext hp hST'.plt hE hn a2 _ _ x2 u2⟩
  · rw [eeL q hq] at h1
    rw [eeR q hq] at h2
    exact e M2 n2 s1 (hE.tr s2 hn) (by omega) (fun i hi => ⟨(s4 i hi).1.trans (hS i hi).1, (s4 i hi).2.trans (hS i hi).2⟩) q z k z' k' hq h1 h2
end V4
