section X5
/-- the law's classes: each is named by one of its places -/
def cl (N : g_M) (i : Nat) : Nat := (N 3 i).toNat
def CLS (N : g_M) : Prop := ∀ i, i < 14 → N 3 i = ((cl N i : Nat) : Int) ∧ cl N i < 14 ∧ cl N (cl N i) = cl N i
def SUB (N : g_M) (E : Nat → Nat → Prop) : Prop := ∀ i j, i < 14 → j < 14 → cl N i = cl N j → E i j
/-- what unite does -/
def UNI (N N' : g_M) (a b : Nat) : Prop := ∀ i, i < 14 → N' 3 i = if cl N i = b then (a : Int) else N 3 i
theorem UNI.val {N N' : g_M} {a b : Nat} (hC : CLS N) (h : UNI N N' a b) {i : Nat} (hi : i < 14) : cl N' i = if cl N i = b then a else cl N i := by
  have := h i hi
  unfold cl at this ⊢
  rw [this]
  split
  · rfl
  · rfl
theorem UNI.cls {N N' : g_M} {a b : Nat} (hC : CLS N) (h : UNI N N' a b) (ha : a < 14) (haa : cl N a = a) : CLS N' := by
  intro i hi
  obtain ⟨c1, c2, c3⟩ := hC i hi
  have e := h.val hC hi
  by_cases hb : cl N i = b
  · rw [if_pos hb] at e
    refine ⟨by rw [h i hi, if_pos hb, e], by omega, ?_⟩
    rw [e, h.val hC ha, haa]
    split <;> rfl
  · rw [if_neg hb] at e
    refine ⟨by rw [h i hi, if_neg hb, e]; exact c1, by omega, ?_⟩
    rw [e, h.val hC c2, c3, if_neg hb]
theorem UNI.keep {N N' : g_M} {a b : Nat} (hC : CLS N) (h : UNI N N' a b) {i j : Nat} (hi : i < 14) (hj : j < 14) (e : cl N i = cl N j) : cl N' i = cl N' j := by
  rw [h.val hC hi, h.val hC hj, e]
theorem UNI.eq {N N' : g_M} {p q : Nat} (hC : CLS N) (hp : p < 14) (hq : q < 14) (h : UNI N N' (cl N p) (cl N q)) : cl N' p = cl N' q := by
  rw [h.val hC hp, h.val hC hq, if_pos rfl]
  split <;> rfl
theorem UNI.sub {N N' : g_M} {p q : Nat} (hC : CLS N) (hp : p < 14) (hq : q < 14) (h : UNI N N' (cl N p) (cl N q)) {E : Nat → Nat → Prop} (hs : ∀ i j, E i j → E j i) (ht : ∀ i j k, E i j → E j k → E i k) (hE : SUB N E) (he : E p q) : SUB N' E := by
  have to : ∀ i, i < 14 → cl N' i = cl N p → E i p := fun i hi e => by
    rw [h.val hC hi] at e
    by_cases hb : cl N i = cl N q
    · exact ht _ _ _ (hE i q hi hq hb) (hs _ _ he)
    · rw [if_neg hb] at e
      exact hE i p hi hp e
  intro i j hi hj e
  by_cases hi1 : cl N' i = cl N p
  · exact ht _ _ _ (to i hi hi1) (hs _ _ (to j hj (by rw [← e]; exact hi1)))
  · have hj1 : cl N' j ≠ cl N p := by rw [← e]; exact hi1
    rw [h.val hC hi] at e hi1
    rw [h.val hC hj] at e hj1
    by_cases bi : cl N i = cl N q
    · rw [if_pos bi] at hi1
      exact absurd rfl hi1
    · by_cases bj : cl N j = cl N q
      · rw [if_pos bj] at hj1
        exact absurd rfl hj1
      · rw [if_neg bi, if_neg bj] at e
        exact hE i j hi hj e
theorem UNI.rts {N N' : g_M} {p q : Nat} (hC : CLS N) (hp : p < 14) (hq : q < 14) (hne : cl N p ≠ cl N q) (h : UNI N N' (cl N p) (cl N q)) : rts (N' 3) 14 < rts (N 3) 14 := by
  obtain ⟨-, p2, p3⟩ := hC p hp
  obtain ⟨q1, q2, q3⟩ := hC q hq
  refine rts_lt 14 (fun i hi e => ?_) ⟨cl N q, q2, ?_, ?_⟩
  · obtain ⟨i1, i2, i3⟩ := hC i hi
    rw [h i hi] at e
    by_cases hb : cl N i = cl N q
    · rw [if_pos hb] at e
      have : i = cl N p := by omega
      rw [this, p3] at hb
      exact absurd hb hne
    · rw [if_neg hb] at e
      exact e
  · rw [(hC _ q2).1, q3]
  · rw [h _ q2, q3, if_pos rfl]
    omega
theorem r_unite {Q : g_M → g_M → Prop} {M N : g_M} {a b : Nat} (hC : CLS N) (ha : a < 14) (hb : b < 14) (haa : cl N a = a) (k : ∀ N', SM [3] N N' → UNI N N' a b → Q M N') : F_L_unite Q a b M N := by
  have loop : ∀ (f i : Nat) (N1 : g_M), i ≤ 14 → 14 - i < f → SM [3] N N1 → (∀ j, j < 14 → N1 3 j = if j < i ∧ cl N j = b then (a : Int) else N 3 j) → F_L_unite_2 Q f a b i M N1 := by
    intro f
    induction f with
    | zero => intros; omega
    | succ f ih =>
      intro i N1 h1 h2 hS hv
      unfold F_L_unite_2
      rw [bq (x := (i : Int)) (by omega) (by omega), show bm 14 = 14 by decide]
      refine ⟨fun c9 => ⟨ink i rfl (by omega) (by omega), ?_⟩, fun c9 => k N1 hS (fun j hj => ?_)⟩
      · have hi : i < 14 := by omega
        obtain ⟨c1, c2, c3⟩ := hC i hi
        have e := hv i hi
        rw [if_neg (by omega)] at e
        unfold F_L_unite_19
        rw [Int.toNat_natCast, e, c1, bq (x := ((cl N i : Nat) : Int)) (by omega) (by omega), bq (x := (b : Int)) (by omega) (by omega), show (i : Int) + 1 = ((i + 1 : Nat) : Int) by omega]
        refine ⟨fun hb' => ⟨ink i rfl (by omega) (by omega), ih (i + 1) _ (by omega) (by omega) (hS.u (by decide)) (fun j hj => ?_)⟩, fun hb' => ih (i + 1) N1 (by omega) (by omega) hS (fun j hj => ?_)⟩
        · rw [upi]
          by_cases hji : j = i
          · subst hji
            rw [if_pos ⟨rfl, rfl⟩, if_pos ⟨by omega, by omega⟩]
          · rw [if_neg (fun h => hji h.2), hv j hj]
            by_cases hjb : j < i ∧ cl N j = b
            · rw [if_pos hjb, if_pos ⟨by omega, hjb.2⟩]
            · rw [if_neg hjb, if_neg (fun h => hjb ⟨by omega, h.2⟩)]
        · rw [hv j hj]
          by_cases hjb : j < i ∧ cl N j = b
          · rw [if_pos hjb, if_pos ⟨by omega, hjb.2⟩]
          · rw [if_neg hjb, if_neg (fun h => by
              by_cases hji : j = i
              · subst hji
                exact hb' (by rw [h.2])
              · exact hjb ⟨by omega, h.2⟩)]
      · rw [hv j hj]
        by_cases hjb : cl N j = b
        · rw [if_pos ⟨by omega, hjb⟩, if_pos hjb]
        · rw [if_neg (fun h => hjb h.2), if_neg hjb]
  unfold F_L_unite
  exact ⟨15, loop 15 0 N (by omega) (by omega) (SM.rf _ _) (fun j _ => by rw [if_neg (by omega)])⟩
end X5
