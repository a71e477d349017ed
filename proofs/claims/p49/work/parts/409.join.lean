section P9
theorem nd_len : ∀ (n : Nat) (L : List Nat), L.Nodup → (∀ x, x ∈ L → x < n) → L.length ≤ n
  | 0, L, _, h => by
    cases L with
    | nil => exact Nat.le_refl _
    | cons x xs => exact absurd (h x (by simp)) (by omega)
  | n + 1, L, hd, h => by
    by_cases hm : n ∈ L
    · have h1 := nd_len n (L.erase n) (hd.erase n) (fun x hx => by
        have h2 := (hd.mem_erase_iff).1 hx
        have h3 := h x h2.2
        have h4 := h2.1
        omega)
      have h5 := List.length_erase_of_mem hm
      omega
    · have h1 := nd_len n L hd (fun x hx => by
        have h3 := h x hx
        have h4 : x ≠ n := fun e => hm (e ▸ hx)
        omega)
      omega
/-- a path along the members, up to l -/
def PA (g : Nat → Int) : Nat → List Nat → Nat → Prop
  | f, [], l => f = l
  | f, x :: xs, l => f ≠ l ∧ g f = (x : Int) ∧ PA g x xs l
theorem PA.mem {g : Nat → Int} : ∀ {f l : Nat} {R : List Nat}, PA g f R l → l ∈ f :: R
  | f, l, [], h => by
    have h : f = l := h
    simp [h]
  | f, l, x :: xs, h => List.mem_cons_of_mem _ (PA.mem h.2.2)
theorem PA.cong {g g' : Nat → Int} : ∀ {f l : Nat} {R : List Nat}, PA g f R l → (∀ y, y ∈ f :: R → y ≠ l → g' y = g y) → PA g' f R l
  | f, l, [], h, _ => h
  | f, l, x :: xs, h, hc => ⟨h.1, (hc f (by simp) h.1).trans h.2.1, PA.cong h.2.2 (fun y hy hl => hc y (List.mem_cons_of_mem _ hy) hl)⟩
theorem PA.app {g : Nat → Int} {l l' f' : Nat} {R' : List Nat} (hl : g l = (f' : Int)) (hll : l ≠ l') (h' : PA g f' R' l') : ∀ {f : Nat} {R : List Nat}, PA g f R l → (∀ y, y ∈ f :: R → y ≠ l') → PA g f (R ++ f' :: R') l'
  | f, [], h, _ => by
    have h : f = l := h
    subst h
    exact ⟨hll, hl, h'⟩
  | f, x :: xs, h, hc => ⟨hc f (by simp), h.2.1, PA.app hl hll h' h.2.2 (fun y hy => hc y (List.mem_cons_of_mem _ hy))⟩
/-- the class of leader l -/
def CY (M : g_M) (c l : Nat) : Prop := ∃ (f : Nat) (R : List Nat), M 24 l = (l : Int) ∧ M 25 l = (f : Int) ∧ PA (M 25) f R l ∧ M 26 l = (R.length : Int) + 1 ∧ (f :: R).Nodup ∧ ∀ q : Nat, q ∈ f :: R ↔ q < c ∧ M 24 q = (l : Int)
def CL (M : g_M) (c : Nat) : Prop := ∀ i, i < c → ∃ l : Nat, l < c ∧ M 24 i = (l : Int) ∧ CY M c l
theorem CL.cong {M M' : g_M} {c : Nat} (h : CL M c) (h1 : M' 24 = M 24) (h2 : M' 25 = M 25) (h3 : M' 26 = M 26) : CL M' c := by
  unfold CL CY
  rw [h1, h2, h3]
  exact h
/-- the leaders that are left -/
def rts (g : Nat → Int) : Nat → Nat
  | 0 => 0
  | c + 1 => rts g c + if g c = (c : Int) then 1 else 0
theorem rts_le {g g' : Nat → Int} : ∀ c : Nat, (∀ i, i < c → g' i = (i : Int) → g i = (i : Int)) → rts g' c ≤ rts g c
  | 0, _ => Nat.le_refl _
  | c + 1, h => by
    have h1 := rts_le c (fun i hi => h i (by omega))
    have h2 := h c (by omega)
    unfold rts
    by_cases he : g' c = (c : Int)
    · rw [if_pos he, if_pos (h2 he)]
      omega
    · rw [if_neg he]
      omega
theorem rts_lt {g g' : Nat → Int} : ∀ c : Nat, (∀ i, i < c → g' i = (i : Int) → g i = (i : Int)) → (∃ i, i < c ∧ g i = (i : Int) ∧ g' i ≠ (i : Int)) → rts g' c < rts g c
  | 0, _, h => by
    obtain ⟨i, hi, -⟩ := h
    omega
  | c + 1, h, hx => by
    obtain ⟨i, hi, hg, hg'⟩ := hx
    by_cases hic : i = c
    · subst hic
      have h1 := rts_le i (fun j hj => h j (by omega))
      unfold rts
      rw [if_pos hg, if_neg hg']
      omega
    · have h1 := rts_lt c (fun j hj => h j (by omega)) ⟨i, by omega, hg, hg'⟩
      have h2 := h c (by omega)
      unfold rts
      by_cases he : g' c = (c : Int)
      · rw [if_pos he, if_pos (h2 he)]
        omega
      · rw [if_neg he]
        omega
theorem rts_c (g : Nat → Int) : ∀ c, rts g c ≤ c
  | 0 => Nat.le_refl _
  | c + 1 => by
    have := rts_c g c
    unfold rts
    split <;> omega
theorem r_join_66 {Q : g_M → Prop} {c l3 l4 cnt : Nat} (hc : c ≤ 3000) (h3 : l3 < c) (h4 : l4 < c) (hcnt : cnt ≤ 3000) : ∀ (R : List Nat) (x5 : Nat) (M : g_M) (i fu : Nat), RG M → PA (M 25) x5 R l4 → (∀ q, q ∈ x5 :: R → q < c) → M 26 l4 = (cnt : Int) → i + R.length = cnt →
    (∀ M' : g_M, RG M' → SM [24] M M' → (∀ q, M' 24 q = if q ∈ x5 :: R ∧ q ≠ l4 then (l3 : Int) else M 24 q) → F_X1_join_66 Q (fu + 1) l3 l4 l4 cnt M') → (x5 :: R).Nodup → F_X1_join_66 Q (fu + 1 + R.length) l3 l4 x5 i M
  | [], x5, M, i, fu, hR, hp, hq, h26, hi, k, _ => by
    have hp : x5 = l4 := hp
    subst hp
    have := k M hR (SM.rf _ _) (fun q => by
      rw [if_neg]
      rintro ⟨a, b⟩
      simp at a
      exact b a)
    have hi : i = cnt := by simpa using hi
    rw [hi]
    exact this
  | x :: xs, x5, M, i, fu, hR, hp, hq, h26, hi, k, hnd => by
    have hi : i + (xs.length + 1) = cnt := by simpa using hi
    obtain ⟨p1, p2, p3⟩ := hp
    have hx5 := hq x5 (by simp)
    have hx := hq x (by simp)
    show F_X1_join_66 Q (fu + 1 + xs.length + 1) l3 l4 x5 i M
    unfold F_X1_join_66
    rw [rgn l4 (by omega), h26, bq (x := (i : Int)) (by omega) (by omega), bq (x := (cnt : Int)) (by omega) (by omega)]
    refine ⟨fun _ => ⟨okk x5 rfl (by show x5 < 65536; omega), ?_⟩, fun c9 => by omega⟩
    have hS : SM [24] M (up M 24 x5 (l3 : Int)) := (SM.rf _ _).u (by decide)
    rw [rsk x5 rfl (by omega), rgn x5 (by omega), hS 25 (by decide), p2, show (i : Int) + 1 = ((i + 1 : Nat) : Int) by omega]
    have hnx : x5 ∉ x :: xs := (List.nodup_cons.1 hnd).1
    refine r_join_66 hc h3 h4 hcnt xs x _ (i + 1) fu (hR.u (by omega) (by omega)) (by rw [hS 25 (by decide)]; exact p3) (fun q hq' => hq q (List.mem_cons_of_mem _ hq')) (by rw [hS 26 (by decide)]; exact h26) (by omega) (fun M' g1 g2 g3 => k M' g1 (hS.tr g2) (fun q => ?_)) (List.nodup_cons.1 hnd).2
    rw [g3 q]
    by_cases hqx : q ∈ x :: xs ∧ q ≠ l4
    · rw [if_pos hqx, if_pos ⟨List.mem_cons_of_mem _ hqx.1, hqx.2⟩]
    · rw [if_neg hqx, upi]
      by_cases hq5 : q = x5
      · subst hq5
        rw [if_pos ⟨rfl, rfl⟩, if_pos ⟨by simp, p1⟩]
      · rw [if_neg (fun e => hq5 e.2), if_neg]
        rintro ⟨a, b⟩
        rcases List.mem_cons.1 a with a | a
        · exact hq5 a
        · exact hqx ⟨a, b⟩
end P9
