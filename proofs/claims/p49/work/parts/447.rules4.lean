section T7
theorem YI.keep {M0 M M' : g_M} {C G t n n' r i : Nat} {Y : Nat → Nat} (h : RK M0 C G t) (hY : YI M0 M n r i Y) (hi : i ≤ t) (hn : n ≤ n') (hE : EX n M M') (h11 : M' 11 = M 11) (h12 : M' 12 = M 12) (h11' : M 11 = M0 11) (h12' : M 12 = M0 12) (h59 : M' 59 = M 59) (h60 : M' 60 = M 60) (h23 : ∀ a, a < i → cho M0 a → M' 23 (ow M0 (sq M0 a)) = M 23 (ow M0 (sq M0 a))) : YI M0 M' n' r i Y := by
  obtain ⟨y1, y2, y3⟩ := hY
  have egs : ∀ q, gs M q = gs M0 q := fun q => by unfold gs; rw [h11']
  have egp : ∀ q j, gp M q j = gp M0 q j := fun q j => by unfold gp; rw [h12']
  have own : ∀ a, a < i → M' 23 (ow M0 (sq M0 a)) = M 23 (ow M0 (sq M0 a)) := fun a ha => by
    obtain ⟨a', q1, q2, q3⟩ := h.2.2.2.2.1 a (by omega)
    rw [← q3]
    exact h23 a' (by omega) q2
  have hm : ∀ a, a < i → mA M' (sq M0 a) = mA M (sq M0 a) ∧ mB M' (sq M0 a) = mB M (sq M0 a) := fun a ha => mA_cong h11 h12 (fun j hj => by
    rw [egs] at hj
    obtain ⟨a', q1, q2, q3⟩ := h.2.2.2.1 a (by omega) j hj
    rw [egp, ← q3]
    exact h23 a' (by omega) q2)
  refine ⟨fun a ha hma => ?_, y2, fun q hq => ?_⟩
  · obtain ⟨b1, b2, b3, b4⟩ := y1 a ha hma
    obtain ⟨e1, e2, e3, e4, -⟩ := hE _ b1
    refine ⟨by omega, ?_, fun hc => by rw [own a ha]; exact b3 hc, fun hc => by rw [own a ha, h59, h60]; exact b4 hc⟩
    rw [(hm a ha).1, (hm a ha).2]
    exact ⟨e1.trans b2.1, e2.trans b2.2.1, e3.trans b2.2.2.1, e4.trans b2.2.2.2⟩
  · obtain ⟨a, a1, a2, a3, a4⟩ := y3 q hq
    exact ⟨a, a1, a2, by rw [h59]; exact a3, by rw [h60, own a a1]; exact a4⟩
/-- an entry that isn't made -/
theorem YI.skip {M0 M : g_M} {n r i : Nat} {Y : Nat → Nat} (hY : YI M0 M n r i Y) (hm : ¬ mad M0 i) : YI M0 M n r (i + 1) Y := by
  obtain ⟨y1, y2, y3⟩ := hY
  have lt : ∀ a, a < i + 1 → mad M0 a → a < i := fun a ha hma => by
    by_cases e : a = i
    · exact absurd (e ▸ hma) hm
    · omega
  refine ⟨fun a ha hma => y1 a (lt a ha hma) hma, fun a b ha hb h1 h2 => y2 a b (lt a ha h1) (lt b hb h2) h1 h2, fun q hq => ?_⟩
  obtain ⟨a, a1, a2⟩ := y3 q hq
  exact ⟨a, by omega, a2⟩
end T7
