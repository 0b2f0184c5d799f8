/-! the ghost layer: locals that are no longer wanted -/
theorem g_drop {μ : gμ} {R : Room} {Q : gθ} {k q pc : Nat} {lv : List (Option Value)} {st : List Value} {M : gM} {n : Nat} (j : Nat) (kk : GW μ R Q k q pc (lv.set j none) st M n) : GW μ R Q k q pc lv st M n := by
  intro p l e s m args below meth c D cy b H locs ls hC hP hS hl
  refine kk p l e s m args below meth c D cy b H locs ls hC hP hS ⟨hl.1, hl.2.1, fun i v h => hl.2.2 i v ?_⟩
  rw [List.getElem?_set] at h
  split at h
  · split at h <;> cases h
  · exact h
