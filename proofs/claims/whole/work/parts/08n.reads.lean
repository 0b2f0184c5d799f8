/-! the class: public methods that read it -/
theorem isN_pl {len : Nat} {x : Int32} (h : isN len x) : pl x < len := by have h1 := h.2; have h0 := h.1; unfold pl; omega
theorem isN_nI {len : Nat} {x : Int32} (h : isN len x) : x = nI (pl x) := pl_eq h.1
theorem j_getX (M : gM) (n l d len : Nat) (x : Int32) (E : Nat → Nat) (h : aL M l d len E) (hx : isN len x) : GM μJx4a65c_get_915e3 2 43 0 0 [.ref l, .int x] M n (fun r M1 n1 => r = some (.ref (E (pl x))) ∧ M1 = M ∧ n1 = n) := by
  have h1 := j_get M n l d len (pl x) E h (isN_pl hx)
  rw [← isN_nI hx] at h1
  exact h1
theorem c_lowX (M : gM) (n a : Nat) (k : Int32) (X : List Sp) (h : cS M a X) (h0 : 0 ≤ k.toInt) (hk : pl k < X.length) : GM μX3_low 0 0 0 0 [.ref a, .int k] M n (fun r M1 n1 => r = some (.int (iZ (X.getD (pl k) (0, 0)).1)) ∧ M1 = M ∧ n1 = n) := by
  have h1 := c_low M n a (pl k) X h hk
  rw [← pl_eq h0] at h1
  exact h1
theorem c_highX (M : gM) (n a : Nat) (k : Int32) (X : List Sp) (h : cS M a X) (h0 : 0 ≤ k.toInt) (hk : pl k < X.length) : GM μX3_high 0 0 0 0 [.ref a, .int k] M n (fun r M1 n1 => r = some (.int (iZ (X.getD (pl k) (0, 0)).2)) ∧ M1 = M ∧ n1 = n) := by
  have h1 := c_high M n a (pl k) X h hk
  rw [← pl_eq h0] at h1
  exact h1
theorem td_v {σ : MS} {x : Int32} (h : 0 ≤ x.toInt ∧ x.toInt ≤ 4) (hs : ¬ zR σ = false) : tdZ σ x = (0, if x.toInt = 0 then (runA (zP σ) (zF σ)).2.1 else if x.toInt = 1 then aW (zA σ) else if x.toInt = 3 then (runA (zP σ) (zF σ)).2.2 else if x.toInt = 2 then cntK (aR (zA σ)) (zP σ).length else cntK (isHd (zP σ)) (zP σ).length) := by
  unfold tdZ
  rw [if_neg (fun q => q h), if_neg hs]
  simp only [i_eq, show (0 : Int32).toInt = 0 from rfl, show (1 : Int32).toInt = 1 from rfl, show (2 : Int32).toInt = 2 from rfl, show (3 : Int32).toInt = 3 from rfl]
theorem th_v {σ : MS} {T : List Int} (h : tok T (thA (zP σ))) {k : Int32} (hk : 0 ≤ k.toInt ∧ k.toInt < (T.length : Int)) : thZ σ k = (0, gi T (pl k)) := by
  obtain ⟨h1, h2⟩ := tok_least h
  unfold thZ
  rw [if_neg (by rw [i_lt, t_0]; omega), ← h2, thI_get h (pl k) 0 h1, if_pos (by unfold pl; omega), Nat.zero_add]
theorem th_no {σ : MS} {T : List Int} (h : tok T (thA (zP σ))) {k : Int32} (hk : ¬ (0 ≤ k.toInt ∧ k.toInt < (T.length : Int))) : thZ σ k = (1, 0) := by
  obtain ⟨h1, h2⟩ := tok_least h
  unfold thZ
  by_cases c : k < 0
  · rw [if_pos c]
  · rw [if_neg c]
    rw [i_lt, t_0] at c
    rw [← h2, thI_get h (pl k) 0 h1, if_neg (by unfold pl; omega)]
theorem cQ.tr {M M1 : gM} {w d : Nat} {E : Nat → Nat} {σ : MS} {z : Int32} {nw : Nat → Int32} (h : cQ M w σ d E) (ho : Off M M1 (fQ (w + 43))) (hz : mI M1 (w + 43) 3 = z) (hn : ∀ p, p < 8 → mI M1 (w + 44) p = nw p) : cQ M1 w (zP σ, zF σ, zR σ, z, nw) d E := by
  obtain ⟨v1, q2, q3, q4, q5, q6, q7, q8, q9, q10, q11⟩ := h
  have hS : ∀ i k, fQ (w + 43) i k → w + 43 ≤ i ∧ i ≤ w + 44 := fun i k z => by unfold fQ at z; omega
  refine ⟨v1.off ho, q2.off ho, q3, ?_, hz, hn, q7.off ho (fun i k h1 h2 z => by have := hS _ _ z; omega), q8.offG ho (fun i k z => by have := hS _ _ z; omega), ?_, q10, q11⟩
  · rw [ho.i (fun z => by have := hS _ _ z; omega)]; exact q4
  · intro hb'
    obtain ⟨⟨st, r1⟩, r2, r3, r4⟩ := q9 hb'
    refine ⟨⟨st, r1.off ho (fun j i k hj z h1 h2 => by have := hS _ _ z; have := q8.2.2.2.2.2.2.2.2.2.1 j hj; omega)⟩, ?_, ?_, ?_⟩
    · rw [ho.i (fun z => by have := hS _ _ z; omega)]; exact r2
    · rw [ho.i (fun z => by have := hS _ _ z; omega)]; exact r3
    · rw [ho.i (fun z => by have := hS _ _ z; omega)]; exact r4
