section P0
theorem bq {x : Int} (h1 : -2147483648 ≤ x) (h2 : x ≤ 2147483647) : bm x = x := bm_id h1 h2
def RG (M : g_M) : Prop := ∀ r i, -2147483648 ≤ M r i ∧ M r i ≤ 2147483647
theorem RG.b {M : g_M} (h : RG M) (r i : Nat) : bm (M r i) = M r i := bq (h r i).1 (h r i).2
theorem RG.u {M : g_M} (h : RG M) {a i : Nat} {v : Int} (h1 : -2147483648 ≤ v) (h2 : v ≤ 2147483647) : RG (up M a i v) := by
  intro r j
  unfold up
  split
  · exact ⟨h1, h2⟩
  · exact h r j
theorem rgk {M : g_M} {r : Nat} {i : Int} (k : Nat) (h : i = k) (hk : k ≤ 2147483647) : rg M r i = M r k := by
  subst h
  unfold rg
  rw [bq (by omega) (by omega), if_neg (by omega), Int.toNat_natCast]
theorem rgn {M : g_M} {r : Nat} (k : Nat) (hk : k ≤ 2147483647) : rg M r (k : Int) = M r k := rgk k rfl hk
theorem rgm {M : g_M} {r : Nat} : rg M r (-1) = 0 := by
  unfold rg
  rw [bq (by omega) (by omega), if_pos (by omega)]
theorem RG.r {M : g_M} (h : RG M) (r : Nat) (i : Int) : -2147483648 ≤ rg M r i ∧ rg M r i ≤ 2147483647 := by
  unfold rg
  split
  · omega
  · exact h _ _
theorem RG.br {M : g_M} (h : RG M) (r : Nat) (i : Int) : bm (rg M r i) = rg M r i := bq (h.r r i).1 (h.r r i).2
theorem rsk {M : g_M} {r : Nat} {i v : Int} (k : Nat) (h : i = k) (hk : k ≤ 2147483647) : rs M r i v = up M r k v := by
  subst h
  unfold rs
  rw [bq (by omega) (by omega), Int.toNat_natCast]
theorem bnat {i : Int} (k : Nat) (h : i = k) (hk : k ≤ 2147483647) : (bm i).toNat = k := by
  subst h
  rw [bq (by omega) (by omega), Int.toNat_natCast]
theorem okk {r : Nat} {i : Int} (k : Nat) (h : i = k) (hk : k < 1024 * capB r) : okI r i := by
  have := capB_le r
  subst h
  unfold okI
  rw [bq (by omega) (by omega)]
  omega
theorem ink {n : Nat} {i : Int} (k : Nat) (h : i = k) (hk : k < n) (hn : n ≤ 2147483647) : inI i n := by
  subst h
  unfold inI
  rw [bq (by omega) (by omega)]
  omega
theorem up1 (M : g_M) (a i : Nat) (v : Int) : up M a i v a i = v := up_self M a i v
theorem up2 {M : g_M} {a i j : Nat} {v : Int} (h : j ≠ i) : up M a i v a j = M a j := by simp [up, h]
theorem up3 {M : g_M} {a i b j : Nat} {v : Int} (h : b ≠ a) : up M a i v b j = M b j := by simp [up, h]
theorem upi (M : g_M) (a i b j : Nat) (v : Int) : up M a i v b j = if b = a ∧ j = i then v else M b j := rfl
/-- the memory is the same but at the listed ids -/
def SM (S : List Nat) (M M' : g_M) : Prop := ∀ a, a ∉ S → M' a = M a
theorem SM.rf (S : List Nat) (M : g_M) : SM S M M := fun _ _ => rfl
theorem SM.tr {S : List Nat} {M M' M'' : g_M} (h : SM S M M') (h' : SM S M' M'') : SM S M M'' := fun a ha => (h' a ha).trans (h a ha)
theorem SM.u {S : List Nat} {M M' : g_M} {a i : Nat} {v : Int} (h : SM S M M') (ha : a ∈ S) : SM S M (up M' a i v) := fun b hb => by
  rw [up_ne (fun e => hb (by rw [e]; exact ha))]
  exact h b hb
theorem SM.mono {S T : List Nat} {M M' : g_M} (h : SM S M M') (hs : ∀ a ∈ S, a ∈ T) : SM T M M' := fun a ha => h a (fun q => ha (hs a q))
end P0
