section V7
/-- the equations that stand -/
def EQO (M : g_M) (n0 ec : Nat) : Prop := M 45 7 = (ec : Int) ∧ ec ≤ 30 ∧ ∀ e, e < ec → 0 ≤ M 55 e ∧ 0 ≤ M 56 e ∧ eL M e < n0 ∧ eR M e < n0
/-- the walk's list over the equations' sides -/
def wlE (M : g_M) : Nat → List Nat
  | 0 => []
  | e + 1 => post M (post M (wlE M e) (eL M e)) (eR M e)
theorem r_addNone {M : g_M} {Q : g_M → Prop} (k : Q M) : F_X10_add Q (-1) M := by
  unfold F_X10_add
  refine ⟨fun _ => ⟨1, ?_⟩, fun c => absurd (show bm (-1) < 0 by decide) c⟩
  exact ⟨fun _ => ⟨fun _ => k, fun c => absurd (show bm (-1) < 0 by decide) c⟩, fun c => absurd (show bm 0 < bm 1048576 by decide) c⟩
def HT (M : g_M) (n0 : Nat) : Prop := ∀ x, x < n0 → M 2 x % 512 / 2 ≤ 60 ∧ M 2 x / 512 ≤ 1000
/-- the walk's entries are members of U -/
def UE (M : g_M) (n0 c : Nat) : Prop := ∀ i, i < c → nd M i < n0
theorem inW_mono {M M' : g_M} {c c' : Nat} {v : Int} (h : inW M c v) (hc : c ≤ c') (h7 : ∀ i, i < c → M' 7 i = M 7 i) : inW M' c' v := by
  obtain ⟨i, i1, i2⟩ := h
  exact ⟨i, by omega, by rw [h7 i i1, i2]⟩
theorem r_addU {M : g_M} {Q : g_M → Prop} {n m n0 c : Nat} (hW : WF M n m) (hn0 : n0 ≤ n) (hH : HT M n0) (hK : WK M n c) (hU : UE M n0 c) (x : Nat) (hx : x < n0)
    (k : ∀ (c' : Nat) (M' : g_M), WF M' n m → WK M' n c' → UE M' n0 c' → c ≤ c' → (∀ i, i < c → M' 7 i = M 7 i) → inW M' c' x → SM [6, 7, 43, 61] M M' → wl M' c' = post M (wl M c) x → Q M') : F_X10_add Q x M := by
  refine r_add (fun z => z < n0) hW hK x (by omega) (hH x hx).1 hx (fun z hz hzn j hj p hp => ?_) (fun c' M' g1 g2 g3 g4 g5 g6 g7 g8 => k c' M' (hW.cong g1 g7 (by decide)) g2 (fun i hi => ?_) g3 g4 g5 g7 g8)
  · obtain ⟨q, q1, q2, -⟩ := hW.st.pt hz hj
    omega
  · by_cases hic : i < c
    · have := hU i hic
      unfold nd at this ⊢
      rw [g4 i hic]
      exact this
    · obtain ⟨y, y1, y2⟩ := g6 i hi (by omega)
      unfold nd
      rw [y1]
      exact y2
theorem r_gather_10 {M0 : g_M} {Q : g_M → Prop} {n m n0 ec : Nat} (hn0 : n0 ≤ n) (hH : HT M0 n0) (hQ : EQO M0 n0 ec)
    (k : ∀ (c : Nat) (M' : g_M), WF M' n m → WK M' n c → UE M' n0 c → wl M' c = wlE M0 ec → (∀ e, e < ec → inW M' c (eL M0 e) ∧ inW M' c (eR M0 e)) → SM [6, 7, 43, 61] M0 M' → F_X9_gather_66 Q (-1) (-1) (-1) M') :
    ∀ (f e c : Nat) (M : g_M), e ≤ ec → ec - e < f → WF M n m → WK M n c → UE M n0 c → wl M c = wlE M0 e → (∀ e', e' < e → inW M c (eL M0 e') ∧ inW M c (eR M0 e')) → SM [6, 7, 43, 61] M0 M → F_X9_gather_10 Q f (-1) (-1) (-1) e M := by
  obtain ⟨q1, q2, q3⟩ := hQ
  intro f
  induction f with
  | zero => intros; omega
  | succ f ih =>
    intro e c M h1 h2 hW hK hU hL hI hS
    unfold F_X9_gather_10
    rw [hS 45 (by decide), q1, bq (x := (e : Int)) (by omega) (by omega), bq (x := (ec : Int)) (by omega) (by omega), show bm 30 = 30 by decide, show bm (-1) = -1 by decide]
    refine ⟨fun c9 => ⟨fun _ => ⟨fun c8 => absurd c8 (by omega), fun _ => ⟨ink e rfl (by omega) (by omega), ?_⟩⟩, fun c8 => absurd c8 (by omega)⟩, fun c9 => ?_⟩
    · obtain ⟨p1, p2, p3, p4⟩ := q3 e (by omega)
      rw [Int.toNat_natCast, hS 55 (by decide), show M0 55 e = ((eL M0 e : Nat) : Int) by unfold eL; omega]
      have hH1 : HT M n0 := fun x hx => by rw [hS 2 (by decide)]; exact hH x hx
      refine r_addU hW hn0 hH1 hK hU (eL M0 e) p3 (fun c1 M1 w1 k1 u1 l1 s1 i1 m1 o1 => ⟨ink e rfl (by omega) (by omega), ?_⟩)
      rw [m1 56 (by decide), hS 56 (by decide), show M0 56 e = ((eR M0 e : Nat) : Int) by unfold eR; omega]
      have hH2 : HT M1 n0 := fun x hx => by rw [m1 2 (by decide)]; exact hH1 x hx
      refine r_addU w1 hn0 hH2 k1 u1 (eR M0 e) p4 (fun c2 M2 w2 k2 u2 l2 s2 i2 m2 o2 => ?_)
      unfold F_X9_gather_60
      rw [show (e : Int) + 1 = ((e + 1 : Nat) : Int) by omega]
      refine ih (e + 1) c2 M2 (by omega) (by omega) w2 k2 u2 ?_ (fun e' he' => ?_) ((hS.tr m1).tr m2)
      · have hS1 : SM [6, 7, 43, 61] M0 M1 := hS.tr m1
        rw [o2, o1, hL, post_fun (hS1 0 (by decide)) (hS1 1 (by decide)), post_fun (hS 0 (by decide)) (hS 1 (by decide))]
        rfl
      · by_cases he : e' = e
        · subst he
          exact ⟨inW_mono i1 l2 s2, i2⟩
        · obtain ⟨x1, x2⟩ := hI e' (by omega)
          exact ⟨inW_mono (inW_mono x1 l1 s1) l2 s2, inW_mono (inW_mono x2 l1 s1) l2 s2⟩
    · have he : e = ec := by omega
      subst he
      exact k c M hW hK hU hL hI hS
theorem WK.inj {M : g_M} {n c i j : Nat} (hK : WK M n c) (hi : i < c) (hj : j < c) (e : nd M i = nd M j) : i = j := by
  obtain ⟨x, x1, x2, x3, -⟩ := hK.2.2 i hi
  obtain ⟨y, y1, y2, y3, -⟩ := hK.2.2 j hj
  unfold nd at e
  have : x = y := by omega
  subst this
  omega
theorem UE.le {M : g_M} {n n0 c : Nat} (hU : UE M n0 c) (hK : WK M n c) : c ≤ n0 := pigeon n0 c (nd M) hU (fun _ _ hi hj e => hK.inj hi hj e)
end V7
