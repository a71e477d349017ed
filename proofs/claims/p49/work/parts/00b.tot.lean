def TOT (H : Heap) : Nat := (H.toList.map (fun c : Cell => c.slots.size)).sum
theorem tot_list : ∀ (l l0 : List Cell), (∀ (i : Nat) (c : Cell), l0[i]? = some c → ∃ c', l[i]? = some c' ∧ c'.slots.size = c.slots.size) → (l.map (fun c : Cell => c.slots.size)).sum = (l0.map (fun c : Cell => c.slots.size)).sum + ((l.drop l0.length).map (fun c : Cell => c.slots.size)).sum
  | l, [], _ => by simp
  | [], c :: l0, h => by
    obtain ⟨c', h1, -⟩ := h 0 c rfl
    simp at h1
  | x :: l, c :: l0, h => by
    obtain ⟨c', h1, h2⟩ := h 0 c rfl
    have h1 : x = c' := by simpa using h1
    subst h1
    have ih := tot_list l l0 (fun i c hi => h (i + 1) c (by simpa using hi))
    simp only [List.map_cons, List.sum_cons, List.length_cons, List.drop_succ_cons]
    omega
theorem tot_same {s s' : State} {locs : List Loc} {c n : Nat} (h : s.sameButNew s' locs c n) : TOT s'.heap = TOT s.heap + ((s'.heap.toList.drop s.heap.size).map (·.slots.size)).sum := by
  obtain ⟨-, -, -, -, -, h6⟩ := h
  refine tot_list s'.heap.toList s.heap.toList (fun i c hi => ?_)
  rw [Array.getElem?_toList] at hi
  obtain ⟨c', h1, -, h2, -⟩ := h6 i c hi
  exact ⟨c', by rw [Array.getElem?_toList]; exact h1, h2⟩
theorem tot_le {s s' : State} {locs : List Loc} {c n : Nat} (h : s.sameButNew s' locs c n) : TOT s'.heap ≤ TOT s.heap + n := by
  have h1 := tot_same h
  obtain ⟨-, -, -, -, h5, -⟩ := h
  omega
theorem tot_put {H H1 : Heap} {a : Nat} {c c1 : Cell} (hz : H1.size = H.size) (ho : ∀ q : Nat, q ≠ a → H1[q]? = H[q]?) (hc : H[a]? = some c) (hc1 : H1[a]? = some c1) (hs : c1.slots.size = c.slots.size) : TOT H1 = TOT H := by
  have h := tot_list H1.toList H.toList (fun i x hi => by
    rw [Array.getElem?_toList] at hi
    by_cases e : i = a
    · subst e
      rw [hc] at hi
      cases hi
      exact ⟨c1, by rw [Array.getElem?_toList]; exact hc1, hs⟩
    · exact ⟨x, by rw [Array.getElem?_toList, ho i e]; exact hi, rfl⟩)
  have e : H1.toList.drop H.toList.length = [] := List.drop_eq_nil_of_le (by rw [Array.length_toList, Array.length_toList]; omega)
  rw [e] at h
  simpa [TOT] using h
theorem tot_push (H : Heap) (c : Cell) : TOT (H.push c) = TOT H + c.slots.size := by
  unfold TOT
  simp [Array.toList_push]
