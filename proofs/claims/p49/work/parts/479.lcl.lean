section X8
/-- the law's closure: the least congruence on places with the equations -/
theorem r_lclose {Q : g_M → g_M → Prop} {M N : g_M} {many : Nat} (hT : TS N many)
    (kk : ∀ N', SM [3] N N' → CLS N' → (∀ E, ELAW N many E → SUB N' E) → ELAW N many (fun i j => cl N' i = cl N' j) → Q M N') : F_L_close Q many (-1) M N := by
  unfold F_L_close
  refine ⟨15, r_close_7 hT (fun N1 g1 g2 => ⟨many + 1, ?_⟩) 15 0 N (by omega) (by omega) (SM.rf _ _) ⟨fun j h => absurd h (by omega), fun i j h => absurd h (by omega)⟩⟩
  have hT1 := hT.sm g1
  have hback : ∀ E, ELAW N1 many E ↔ ELAW N many E := fun E => by
    unfold ELAW lf rt xv yv
    rw [g1 0 (by decide), g1 1 (by decide), g1 2 (by decide), g1 4 (by decide), g1 5 (by decide)]
  refine r_close_67 hT1 (fun N2 h2 => ⟨20, ?_⟩) (many + 1) 0 N1 (by omega) (by omega) ⟨SM.rf _ _, g2.cls, fun E hE => g2.sub hE, fun i j hi hj e => ?_, fun e' h => absurd h (by omega)⟩
  · refine r_close_110 hT1 (fun N' a1 a2 a3 a4 => kk N' (g1.tr a1) a2 (fun E hE => a3 E ((hback E).2 hE)) ((hback _).1 a4)) 20 N2 1 h2 (by omega) (fun _ => ?_) (fun h => by omega) (Or.inr rfl)
    have := rts_c (N2 3) 14
    omega
  · have := g2.2 i j hi hj e
    unfold cl
    rw [this]
end X8
