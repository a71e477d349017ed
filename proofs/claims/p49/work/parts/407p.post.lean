section P7p
/-- a node's parts, arity, weight -/
def pn (M : g_M) (x j : Nat) : Nat := (M 1 (3 * x + j)).toNat
def ax (M : g_M) (x : Nat) : Nat := arN (sg M x)
def PLt (M : g_M) (n : Nat) : Prop := ∀ x, x < n → ∀ j, j < ax M x → pn M x j < x
theorem ST.plt {M : g_M} {n : Nat} (h : ST M n) : PLt M n := fun x hx j hj => by
  obtain ⟨p, p1, p2, -⟩ := h.pt hx hj
  unfold pn
  omega
/-- the walk's list after a node: its parts first -/
def ppF (g : List Nat → Nat → List Nat) (M : g_M) (L : List Nat) (x : Nat) : Nat → List Nat
  | 0 => L
  | j + 1 => g (ppF g M L x j) (pn M x j)
def poF (M : g_M) : Nat → List Nat → Nat → List Nat
  | 0 => fun L _ => L
  | f + 1 => fun L x => if x ∈ L then L else ppF (poF M f) M L x (ax M x) ++ [x]
def post (M : g_M) (L : List Nat) (x : Nat) : List Nat := poF M (x + 1) L x
theorem ppF_eq {g h : List Nat → Nat → List Nat} {M : g_M} {L : List Nat} {x : Nat} : ∀ r, (∀ j, j < r → ∀ K, g K (pn M x j) = h K (pn M x j)) → ppF g M L x r = ppF h M L x r
  | 0, _ => rfl
  | r + 1, e => by
    show g (ppF g M L x r) (pn M x r) = h (ppF h M L x r) (pn M x r)
    rw [ppF_eq r (fun j hj => e j (by omega)), e r (by omega)]
theorem poF_eq {M : g_M} {n : Nat} (hp : PLt M n) : ∀ f f' x L, x < n → x < f → x < f' → poF M f L x = poF M f' L x := by
  intro f
  induction f with
  | zero => intros; omega
  | succ f ih =>
    intro f' x L hx h1 h2
    obtain ⟨g, rfl⟩ : ∃ g, f' = g + 1 := ⟨f' - 1, by omega⟩
    show (if x ∈ L then L else ppF (poF M f) M L x (ax M x) ++ [x]) = (if x ∈ L then L else ppF (poF M g) M L x (ax M x) ++ [x])
    rw [ppF_eq (g := poF M f) (h := poF M g) (ax M x) (fun j hj K => by
      have := hp x hx j hj
      exact ih g _ K (by omega) (by omega) (by omega))]
theorem post_in {M : g_M} {L : List Nat} {x : Nat} (h : x ∈ L) : post M L x = L := if_pos h
theorem post_out {M : g_M} {n : Nat} (hp : PLt M n) {L : List Nat} {x : Nat} (hx : x < n) (h : x ∉ L) : post M L x = ppF (post M) M L x (ax M x) ++ [x] := by
  show (if x ∈ L then L else ppF (poF M x) M L x (ax M x) ++ [x]) = _
  rw [if_neg h, ppF_eq (g := poF M x) (h := post M) (ax M x) (fun j hj K => by
    have := hp x hx j hj
    exact poF_eq hp _ _ _ K (by omega) (by omega) (by omega))]
theorem post_sub {M : g_M} {n : Nat} (hp : PLt M n) : ∀ x, x < n → ∀ L z, z ∈ post M L x → z ∈ L ∨ z ≤ x := by
  intro x
  induction x using Nat.strongRecOn with
  | _ x ih =>
    intro hx L z hz
    by_cases h : x ∈ L
    · rw [post_in h] at hz
      exact Or.inl hz
    · rw [post_out hp hx h, List.mem_append] at hz
      have sub : ∀ r, r ≤ ax M x → z ∈ ppF (post M) M L x r → z ∈ L ∨ z ≤ x := by
        intro r
        induction r with
        | zero => intro _ h9; exact Or.inl h9
        | succ r ihr =>
          intro hr h9
          have hl := hp x hx r (by omega)
          rcases ih (pn M x r) hl (by omega) (ppF (post M) M L x r) z h9 with h1 | h1
          · exact ihr (by omega) h1
          · exact Or.inr (by omega)
      rcases hz with hz | hz
      · exact sub _ (Nat.le_refl _) hz
      · exact Or.inr (by rw [List.mem_singleton.1 hz]; exact Nat.le_refl _)
/-- the list is the same where a first part is put in before -/
theorem post_push {M : g_M} {n : Nat} (hp : PLt M n) {L : List Nat} {y j : Nat} (hy : y < n) (hj : j < ax M y) (hn : y ∉ L) (hf : ∀ i, i < j → pn M y i ∈ L) : post M (post M L (pn M y j)) y = post M L y := by
  have hl := hp y hy j hj
  have hn' : y ∉ post M L (pn M y j) := fun h => by
    rcases post_sub hp _ (by omega) L y h with h1 | h1
    · exact hn h1
    · omega
  rw [post_out hp hy hn', post_out hp hy hn]
  have keep : ∀ x L, x < n → ∀ z, z ∈ L → z ∈ post M L x := by
    intro x
    induction x using Nat.strongRecOn with
    | _ x ih =>
      intro L hx z hz
      by_cases h : x ∈ L
      · rw [post_in h]
        exact hz
      · rw [post_out hp hx h]
        refine List.mem_append.2 (Or.inl ?_)
        have sub : ∀ r, r ≤ ax M x → z ∈ ppF (post M) M L x r := by
          intro r
          induction r with
          | zero => intro _; exact hz
          | succ r ihr =>
            intro hr
            have hl := hp x hx r (by omega)
            exact ih (pn M x r) hl _ (by omega) z (ihr (by omega))
        exact sub _ (Nat.le_refl _)
  have self : ∀ x L, x < n → x ∈ post M L x := fun x L hx => by
    by_cases h : x ∈ L
    · rw [post_in h]
      exact h
    · rw [post_out hp hx h]
      simp
  have low : ∀ r, r ≤ j → ppF (post M) M L y r = L := by
    intro r
    induction r with
    | zero => intro _; rfl
    | succ r ihr =>
      intro hr
      show post M (ppF (post M) M L y r) (pn M y r) = L
      rw [ihr (by omega), post_in (hf r (by omega))]
  have low' : ∀ r, r ≤ j → ppF (post M) M (post M L (pn M y j)) y r = post M L (pn M y j) := by
    intro r
    induction r with
    | zero => intro _; rfl
    | succ r ihr =>
      intro hr
      show post M (ppF (post M) M (post M L (pn M y j)) y r) (pn M y r) = _
      rw [ihr (by omega), post_in (keep _ L (by omega) _ (hf r (by omega)))]
  have high : ∀ r, j < r → ppF (post M) M (post M L (pn M y j)) y r = ppF (post M) M L y r := by
    intro r
    induction r with
    | zero => intro h; omega
    | succ r ihr =>
      intro hr
      show post M (ppF (post M) M (post M L (pn M y j)) y r) (pn M y r) = post M (ppF (post M) M L y r) (pn M y r)
      by_cases h : j < r
      · rw [ihr h]
      · have : r = j := by omega
        subst this
        rw [low' r (Nat.le_refl _), low r (Nat.le_refl _), post_in (self _ L (by omega))]
  rw [high _ hj]
/-- where all the parts stand -/
theorem post_last {M : g_M} {n : Nat} (hp : PLt M n) {L : List Nat} {y : Nat} (hy : y < n) (hn : y ∉ L) (hf : ∀ i, i < ax M y → pn M y i ∈ L) : post M L y = L ++ [y] := by
  rw [post_out hp hy hn]
  have low : ∀ r, r ≤ ax M y → ppF (post M) M L y r = L := by
    intro r
    induction r with
    | zero => intro _; rfl
    | succ r ihr =>
      intro hr
      show post M (ppF (post M) M L y r) (pn M y r) = L
      rw [ihr (by omega), post_in (hf r (by omega))]
  rw [low _ (Nat.le_refl _)]
/-- the walk's list -/
def wl (M : g_M) : Nat → List Nat
  | 0 => []
  | c + 1 => wl M c ++ [(M 7 c).toNat]
theorem wl_mem {M : g_M} {z : Nat} : ∀ c, z ∈ wl M c ↔ ∃ i, i < c ∧ (M 7 i).toNat = z
  | 0 => ⟨fun h => absurd h (by simp [wl]), fun ⟨i, h, _⟩ => absurd h (by omega)⟩
  | c + 1 => by
    show z ∈ wl M c ++ [(M 7 c).toNat] ↔ _
    rw [List.mem_append, wl_mem c, List.mem_singleton]
    constructor
    · rintro (⟨i, h1, h2⟩ | h)
      · exact ⟨i, by omega, h2⟩
      · exact ⟨c, by omega, h.symm⟩
    · rintro ⟨i, h1, h2⟩
      by_cases e : i = c
      · exact Or.inr (by rw [← h2, e])
      · exact Or.inl ⟨i, by omega, h2⟩
theorem wl_same {M M' : g_M} : ∀ c, (∀ i, i < c → M' 7 i = M 7 i) → wl M' c = wl M c
  | 0, _ => rfl
  | c + 1, h => by
    show wl M' c ++ [(M' 7 c).toNat] = wl M c ++ [(M 7 c).toNat]
    rw [wl_same c (fun i hi => h i (by omega)), h c (by omega)]
/-- what the stack still asks for -/
def stF (M : g_M) : Nat → List Nat → List Nat
  | 0 => fun L => L
  | D + 1 => fun L => stF M D (post M L (M 61 D).toNat)
theorem poF_fun {M M' : g_M} (h0 : M' 0 = M 0) (h1 : M' 1 = M 1) : ∀ f, poF M' f = poF M f
  | 0 => rfl
  | f + 1 => by
    have e : ∀ x, ax M' x = ax M x := fun x => by unfold ax sg; rw [h0]
    have e2 : ∀ g L x r, ppF g M' L x r = ppF g M L x r := fun g L x r => by
      induction r with
      | zero => rfl
      | succ r ih =>
        show g (ppF g M' L x r) (pn M' x r) = g (ppF g M L x r) (pn M x r)
        rw [ih, show pn M' x r = pn M x r by unfold pn; rw [h1]]
    funext L x
    show (if x ∈ L then L else ppF (poF M' f) M' L x (ax M' x) ++ [x]) = (if x ∈ L then L else ppF (poF M f) M L x (ax M x) ++ [x])
    rw [e, e2, poF_fun h0 h1 f]
theorem post_fun {M M' : g_M} (h0 : M' 0 = M 0) (h1 : M' 1 = M 1) (L : List Nat) (x : Nat) : post M' L x = post M L x := by
  unfold post
  rw [poF_fun h0 h1]
theorem stF_fun {M M' : g_M} (h0 : M' 0 = M 0) (h1 : M' 1 = M 1) : ∀ D, (∀ i, i < D → M' 61 i = M 61 i) → ∀ L, stF M' D L = stF M D L
  | 0, _, _ => rfl
  | D + 1, h, L => by
    show stF M' D (post M' L (M' 61 D).toNat) = stF M D (post M L (M 61 D).toNat)
    rw [h D (by omega), post_fun h0 h1, stF_fun h0 h1 D (fun i hi => h i (by omega))]
end P7p
