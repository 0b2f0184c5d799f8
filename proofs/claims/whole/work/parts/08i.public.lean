/-! the class: its public methods; what they leave -/
/-- a method returns: its answer, its code 0, the class in its new state; the reference's cells are the same -/
def yO (M : gM) (n w : Nat) (σ1 : MS) (c : Nat) (v : Value) : gPo := fun r M1 n1 => r = some v ∧ c = 0 ∧ n ≤ n1 ∧ kW M1 w σ1 ∧ Rw M M1 (w + 45) (w + 57)
/-- it throws: nothing has changed -/
def yX (M : gM) (n : Nat) (c : Nat) (A B C : String) : gPx := fun E M1 n1 => M1 = M ∧ n ≤ n1 ∧ (c = 1 ∧ E = A ∨ c = 2 ∧ E = B ∨ c = 3 ∧ E = C)
theorem Rw.rf {M : gM} {lo hi : Nat} : Rw M M lo hi := fun i _ _ => ⟨rfl, rfl, rfl, rfl, rfl⟩
theorem Rw.off {M M1 : gM} {S : Nat → Nat → Prop} {lo hi : Nat} (ho : Off M M1 S) (hS : ∀ i k, lo ≤ i → i ≤ hi → ¬ S i k) : Rw M M1 lo hi := fun i h1 h2 => ⟨by rw [ho.1], by rw [ho.2.1], funext (fun k => ho.i (hS i k h1 h2)), funext (fun k => ho.j (hS i k h1 h2)), by rw [ho.2.2.1]⟩
theorem wS.offG {M M1 : gM} {p u d bs : Nat} {E : Nat → Nat} {P : List St} {S : Nat → Nat → Prop} (h : wS M p u d bs E P) (ho : Off M M1 S) (hS : ∀ i k, S i k → i < bs ∧ i ≠ p + 1 ∧ i ≠ p + 11 ∧ i ≠ p + 12) : wS M1 p u d bs E P := by
  obtain ⟨q1, q2, q3, q4, ⟨T, q5⟩, q6, q7, q8, q9, q10, q11⟩ := h
  refine ⟨q1.off ho, q2.off ho, q3.off ho (fun z => by have := hS _ _ z; omega), q4.off ho, ⟨T, q5.off ho (fun i k z y => by have := hS _ _ y; unfold fT2 at z; omega)⟩, q6, fun k hk => ⟨(q7 k hk).1.off ho (fun j _ z => by have := hS _ _ z; have := q10 k hk; omega), ?_⟩, q8, q9, q10, q11⟩
  rw [ho.i (fun z => by have := hS _ _ z; have := q10 k hk; omega)]
  exact (q7 k hk).2
theorem cQ.off {M M1 : gM} {w d : Nat} {E : Nat → Nat} {σ : MS} {S : Nat → Nat → Prop} {b : Bool} (h : cQ M w σ d E) (ho : Off M M1 S) (hS : ∀ i k, S i k → (i = w ∧ k = 3) ∨ (w + 15 ≤ i ∧ i ≤ w + 42) ∨ (w + 45 ≤ i ∧ i ≤ w + 57)) (hb : mI M1 w 3 = bI b) (hr : b = true → zR σ = true) : cQ M1 w (zP σ, zF σ, b, zH σ, zN σ) d E := by
  obtain ⟨⟨v1, v2, v3, v4⟩, q2, q3, q4, q5, q6, q7, q8, q9, q10, q11⟩ := h
  refine ⟨⟨by rw [ho.1]; exact v1, by rw [ho.2.2.1]; exact v2, by rw [ho.2.2.1]; exact v3, by rw [ho.2.2.1]; exact v4⟩, q2.off ho, q3, hb, ?_, ?_, q7.off ho (fun i k h1 h2 z => by have := hS _ _ z; omega), q8.offG ho (fun i k z => by have := hS _ _ z; omega), ?_, q10, q11⟩
  · rw [ho.i (fun z => by have := hS _ _ z; omega)]; exact q5
  · intro p hp; rw [ho.i (fun z => by have := hS _ _ z; omega)]; exact q6 p hp
  · intro hb'
    obtain ⟨⟨st, r1⟩, r2, r3, r4⟩ := q9 (hr hb')
    refine ⟨⟨st, r1.off ho (fun j i k hj z h1 h2 => by have := hS _ _ z; have := q8.2.2.2.2.2.2.2.2.2.1 j hj; omega)⟩, ?_, ?_, ?_⟩
    · rw [ho.i (fun z => by have := hS _ _ z; omega)]; exact r2
    · rw [ho.i (fun z => by have := hS _ _ z; omega)]; exact r3
    · rw [ho.i (fun z => by have := hS _ _ z; omega)]; exact r4
theorem kW.offR {M M1 : gM} {w : Nat} {σ : MS} {S : Nat → Nat → Prop} (h : kW M w σ) (ho : Off M M1 S) (hS : ∀ i k, S i k → (w + 15 ≤ i ∧ i ≤ w + 42) ∨ (w + 45 ≤ i ∧ i ≤ w + 57)) : kW M1 w σ := by
  obtain ⟨d, E, h⟩ := h
  exact ⟨d, E, h.off ho (fun i k z => Or.inr (hS i k z)) (b := zR σ) (by rw [ho.i (fun z => by have := hS _ _ z; omega)]; exact h.2.2.2.1) (fun q => q)⟩
theorem cQ.fr {M M1 : gM} {w d d1 : Nat} {E E1 : Nat → Nat} {σ : MS} {P1 : List St} {F1 : Ev} (h : cQ M w σ d E) (a1 : mK M1 w = mK M w) (a5 : mR M1 w = mR M w) (h3 : mI M1 w 3 = bI false) (r3 : Rw M M1 (w + 43) (w + 44)) (hF : sE M1 (w + 3) F1) (hok : ∀ p, p < 8 → okX (F1 p) ∧ (F1 p).length = 1) (hW : wS M1 (w + 1) (w + 14) d1 (w + 58) E1 P1) (hd : d1 = 0 ∨ w + 58 ≤ d1) : cQ M1 w (P1, F1, false, zH σ, zN σ) d1 E1 := by
  obtain ⟨⟨v1, v2, v3, v4⟩, q2, q3, q4, q5, q6, q7, q8, q9, q10, q11⟩ := h
  refine ⟨⟨by rw [a1]; exact v1, by rw [a5]; exact v2, by rw [a5]; exact v3, by rw [a5]; exact v4⟩, q2.rw r3 (Nat.le_refl _) (Nat.le_refl _), ⟨hW.2.2.2.2.2.1, hok⟩, h3, ?_, ?_, hF, hW, fun q => (by cases q), hd, q11⟩
  · rw [(r3 (w + 43) (Nat.le_refl _) (by omega)).2.2.1]; exact q5
  · intro p hp; rw [(r3 (w + 44) (by omega) (Nat.le_refl _)).2.2.1]; exact q6 p hp
theorem narK_aW (P : List St) (first : Ev) (A : RA) (w : Nat) : ∀ s, aW (narK P first A w s).1 = aW A
  | 0 => rfl
  | s + 1 => by
    show aW (nar1 P first (narK P first A w s).1 (narK P first A w s).2 s).1 = aW A
    unfold nar1
    split
    · unfold meetA
      split
      · exact narK_aW P first A w s
      · split
        · exact narK_aW P first A w s
        · exact narK_aW P first A w s
    · exact narK_aW P first A w s
theorem runA_aW (P : List St) (first : Ev) : aW (runA P first).1 = aW (fin P (iniA P first) 1000000).1 := by
  unfold runA
  dsimp only
  unfold narA
  rw [narK_aW, narK_aW]
set_option maxHeartbeats 4000000 in
set_option maxRecDepth 100000 in
theorem p_pl39 {M : gM} {n : Nat} {k a b c : Int32} : GW μX8_placesAreThere (gRm 1 20 0 0) (gTh (fun r M1 n1 => r = some (.int (bI (decide (¬ op1 k.toInt a.toInt b.toInt c.toInt)))) ∧ M1 = M ∧ n1 = n) 0 0) 0 0 39 [some (.int k), some (.int a), some (.int b), some (.int c), some (.int (bI (decide (0 ≤ k.toInt ∧ k.toInt ≤ 17)))), some (.int (bI (decide (opD k.toInt))))] [] M n := by
  refine g_iload dX8_placesAreThere_39 rfl ?_
  refine g_if_eq (tgt := 51) dX8_placesAreThere_41 (by decide) (fun c_41 => ?_) (fun c_41 => ?_)
  · skip
    refine g_iload dX8_placesAreThere_51 rfl ?_
    refine g_if_eq (tgt := 63) dX8_placesAreThere_53 (by decide) (fun c_53 => ?_) (fun c_53 => ?_)
    · skip
      refine g_iload_n dX8_placesAreThere_63 rfl ?_
      refine g_callS dX8_placesAreThere_64 sX8_namesTwoOperands (c_two M n k) tX8_namesTwoOperands (iw_7 12 rfl) rfl rfl (Nat.le_of_ble_eq_true rfl) (Nat.le_of_ble_eq_true rfl) (Nat.le_of_ble_eq_true rfl) (Nat.le_of_ble_eq_true rfl) (Nat.le_of_ble_eq_true rfl) ?_
      intro r9 M9 n9 h9
      obtain ⟨h91, h92, h93⟩ := h9
      rw [h91, h92, h93]
      clear h91 h92 h93 r9 M9 n9
      refine g_if_eq (tgt := 77) dX8_placesAreThere_67 (by decide) (fun c_67 => ?_) (fun c_67 => ?_)
      · skip
        refine g_iconst (v := nI 1) dX8_placesAreThere_77 rfl ?_
        refine g_goto (tgt := 82) dX8_placesAreThere_78 (by decide) ?_
        exact g_iret dX8_placesAreThere_82 (Or.inr ⟨rfl, by first | exact Or.inl rfl | exact Or.inr rfl⟩) (Nat.le_of_ble_eq_true rfl) (Nat.le_of_ble_eq_true rfl) (by
          refine ⟨?_, rfl, rfl⟩
          (try simp only [bI_eq0, decide_eq_false_iff_not, decide_eq_true_eq, Bool.not_eq_false] at c_41)
          (try simp only [bI_eq0, decide_eq_false_iff_not, decide_eq_true_eq, Bool.not_eq_false] at c_48)
          (try simp only [bI_eq0, decide_eq_false_iff_not, decide_eq_true_eq, Bool.not_eq_false] at c_53)
          (try simp only [bI_eq0, decide_eq_false_iff_not, decide_eq_true_eq, Bool.not_eq_false] at c_60)
          (try simp only [bI_eq0, decide_eq_false_iff_not, decide_eq_true_eq, Bool.not_eq_false] at c_67)
          (try simp only [bI_eq0, decide_eq_false_iff_not, decide_eq_true_eq, Bool.not_eq_false] at c_74)
          first | (rw [decide_eq_true (by omega)]; rfl) | (rw [decide_eq_false (by omega)]; rfl))
      · skip
        refine g_iload_n dX8_placesAreThere_70 rfl ?_
        refine g_callS dX8_placesAreThere_71 sX8_isPlace (c_isPlace M n c) tX8_isPlace (iw_7 9 rfl) rfl rfl (Nat.le_of_ble_eq_true rfl) (Nat.le_of_ble_eq_true rfl) (Nat.le_of_ble_eq_true rfl) (Nat.le_of_ble_eq_true rfl) (Nat.le_of_ble_eq_true rfl) ?_
        intro r9 M9 n9 h9
        obtain ⟨h91, h92, h93⟩ := h9
        rw [h91, h92, h93]
        clear h91 h92 h93 r9 M9 n9
        refine g_if_eq (tgt := 81) dX8_placesAreThere_74 (by decide) (fun c_74 => ?_) (fun c_74 => ?_)
        · skip
          refine g_iconst (v := nI 0) dX8_placesAreThere_81 rfl ?_
          exact g_iret dX8_placesAreThere_82 (Or.inr ⟨rfl, by first | exact Or.inl rfl | exact Or.inr rfl⟩) (Nat.le_of_ble_eq_true rfl) (Nat.le_of_ble_eq_true rfl) (by
            refine ⟨?_, rfl, rfl⟩
            (try simp only [bI_eq0, decide_eq_false_iff_not, decide_eq_true_eq, Bool.not_eq_false] at c_41)
            (try simp only [bI_eq0, decide_eq_false_iff_not, decide_eq_true_eq, Bool.not_eq_false] at c_48)
            (try simp only [bI_eq0, decide_eq_false_iff_not, decide_eq_true_eq, Bool.not_eq_false] at c_53)
            (try simp only [bI_eq0, decide_eq_false_iff_not, decide_eq_true_eq, Bool.not_eq_false] at c_60)
            (try simp only [bI_eq0, decide_eq_false_iff_not, decide_eq_true_eq, Bool.not_eq_false] at c_67)
            (try simp only [bI_eq0, decide_eq_false_iff_not, decide_eq_true_eq, Bool.not_eq_false] at c_74)
            first | (rw [decide_eq_true (by omega)]; rfl) | (rw [decide_eq_false (by omega)]; rfl))
        · skip
          refine g_iconst (v := nI 1) dX8_placesAreThere_77 rfl ?_
          refine g_goto (tgt := 82) dX8_placesAreThere_78 (by decide) ?_
          exact g_iret dX8_placesAreThere_82 (Or.inr ⟨rfl, by first | exact Or.inl rfl | exact Or.inr rfl⟩) (Nat.le_of_ble_eq_true rfl) (Nat.le_of_ble_eq_true rfl) (by
            refine ⟨?_, rfl, rfl⟩
            (try simp only [bI_eq0, decide_eq_false_iff_not, decide_eq_true_eq, Bool.not_eq_false] at c_41)
            (try simp only [bI_eq0, decide_eq_false_iff_not, decide_eq_true_eq, Bool.not_eq_false] at c_48)
            (try simp only [bI_eq0, decide_eq_false_iff_not, decide_eq_true_eq, Bool.not_eq_false] at c_53)
            (try simp only [bI_eq0, decide_eq_false_iff_not, decide_eq_true_eq, Bool.not_eq_false] at c_60)
            (try simp only [bI_eq0, decide_eq_false_iff_not, decide_eq_true_eq, Bool.not_eq_false] at c_67)
            (try simp only [bI_eq0, decide_eq_false_iff_not, decide_eq_true_eq, Bool.not_eq_false] at c_74)
            first | (rw [decide_eq_true (by omega)]; rfl) | (rw [decide_eq_false (by omega)]; rfl))
    · skip
      refine g_iload_n dX8_placesAreThere_56 rfl ?_
      refine g_callS dX8_placesAreThere_57 sX8_isPlace (c_isPlace M n b) tX8_isPlace (iw_7 9 rfl) rfl rfl (Nat.le_of_ble_eq_true rfl) (Nat.le_of_ble_eq_true rfl) (Nat.le_of_ble_eq_true rfl) (Nat.le_of_ble_eq_true rfl) (Nat.le_of_ble_eq_true rfl) ?_
      intro r9 M9 n9 h9
      obtain ⟨h91, h92, h93⟩ := h9
      rw [h91, h92, h93]
      clear h91 h92 h93 r9 M9 n9
      refine g_if_eq (tgt := 81) dX8_placesAreThere_60 (by decide) (fun c_60 => ?_) (fun c_60 => ?_)
      · skip
        refine g_iconst (v := nI 0) dX8_placesAreThere_81 rfl ?_
        exact g_iret dX8_placesAreThere_82 (Or.inr ⟨rfl, by first | exact Or.inl rfl | exact Or.inr rfl⟩) (Nat.le_of_ble_eq_true rfl) (Nat.le_of_ble_eq_true rfl) (by
          refine ⟨?_, rfl, rfl⟩
          (try simp only [bI_eq0, decide_eq_false_iff_not, decide_eq_true_eq, Bool.not_eq_false] at c_41)
          (try simp only [bI_eq0, decide_eq_false_iff_not, decide_eq_true_eq, Bool.not_eq_false] at c_48)
          (try simp only [bI_eq0, decide_eq_false_iff_not, decide_eq_true_eq, Bool.not_eq_false] at c_53)
          (try simp only [bI_eq0, decide_eq_false_iff_not, decide_eq_true_eq, Bool.not_eq_false] at c_60)
          (try simp only [bI_eq0, decide_eq_false_iff_not, decide_eq_true_eq, Bool.not_eq_false] at c_67)
          (try simp only [bI_eq0, decide_eq_false_iff_not, decide_eq_true_eq, Bool.not_eq_false] at c_74)
          first | (rw [decide_eq_true (by omega)]; rfl) | (rw [decide_eq_false (by omega)]; rfl))
      · skip
        refine g_iload_n dX8_placesAreThere_63 rfl ?_
        refine g_callS dX8_placesAreThere_64 sX8_namesTwoOperands (c_two M n k) tX8_namesTwoOperands (iw_7 12 rfl) rfl rfl (Nat.le_of_ble_eq_true rfl) (Nat.le_of_ble_eq_true rfl) (Nat.le_of_ble_eq_true rfl) (Nat.le_of_ble_eq_true rfl) (Nat.le_of_ble_eq_true rfl) ?_
        intro r9 M9 n9 h9
        obtain ⟨h91, h92, h93⟩ := h9
        rw [h91, h92, h93]
        clear h91 h92 h93 r9 M9 n9
        refine g_if_eq (tgt := 77) dX8_placesAreThere_67 (by decide) (fun c_67 => ?_) (fun c_67 => ?_)
        · skip
          refine g_iconst (v := nI 1) dX8_placesAreThere_77 rfl ?_
          refine g_goto (tgt := 82) dX8_placesAreThere_78 (by decide) ?_
          exact g_iret dX8_placesAreThere_82 (Or.inr ⟨rfl, by first | exact Or.inl rfl | exact Or.inr rfl⟩) (Nat.le_of_ble_eq_true rfl) (Nat.le_of_ble_eq_true rfl) (by
            refine ⟨?_, rfl, rfl⟩
            (try simp only [bI_eq0, decide_eq_false_iff_not, decide_eq_true_eq, Bool.not_eq_false] at c_41)
            (try simp only [bI_eq0, decide_eq_false_iff_not, decide_eq_true_eq, Bool.not_eq_false] at c_48)
            (try simp only [bI_eq0, decide_eq_false_iff_not, decide_eq_true_eq, Bool.not_eq_false] at c_53)
            (try simp only [bI_eq0, decide_eq_false_iff_not, decide_eq_true_eq, Bool.not_eq_false] at c_60)
            (try simp only [bI_eq0, decide_eq_false_iff_not, decide_eq_true_eq, Bool.not_eq_false] at c_67)
            (try simp only [bI_eq0, decide_eq_false_iff_not, decide_eq_true_eq, Bool.not_eq_false] at c_74)
            first | (rw [decide_eq_true (by omega)]; rfl) | (rw [decide_eq_false (by omega)]; rfl))
        · skip
          refine g_iload_n dX8_placesAreThere_70 rfl ?_
          refine g_callS dX8_placesAreThere_71 sX8_isPlace (c_isPlace M n c) tX8_isPlace (iw_7 9 rfl) rfl rfl (Nat.le_of_ble_eq_true rfl) (Nat.le_of_ble_eq_true rfl) (Nat.le_of_ble_eq_true rfl) (Nat.le_of_ble_eq_true rfl) (Nat.le_of_ble_eq_true rfl) ?_
          intro r9 M9 n9 h9
          obtain ⟨h91, h92, h93⟩ := h9
          rw [h91, h92, h93]
          clear h91 h92 h93 r9 M9 n9
          refine g_if_eq (tgt := 81) dX8_placesAreThere_74 (by decide) (fun c_74 => ?_) (fun c_74 => ?_)
          · skip
            refine g_iconst (v := nI 0) dX8_placesAreThere_81 rfl ?_
            exact g_iret dX8_placesAreThere_82 (Or.inr ⟨rfl, by first | exact Or.inl rfl | exact Or.inr rfl⟩) (Nat.le_of_ble_eq_true rfl) (Nat.le_of_ble_eq_true rfl) (by
              refine ⟨?_, rfl, rfl⟩
              (try simp only [bI_eq0, decide_eq_false_iff_not, decide_eq_true_eq, Bool.not_eq_false] at c_41)
              (try simp only [bI_eq0, decide_eq_false_iff_not, decide_eq_true_eq, Bool.not_eq_false] at c_48)
              (try simp only [bI_eq0, decide_eq_false_iff_not, decide_eq_true_eq, Bool.not_eq_false] at c_53)
              (try simp only [bI_eq0, decide_eq_false_iff_not, decide_eq_true_eq, Bool.not_eq_false] at c_60)
              (try simp only [bI_eq0, decide_eq_false_iff_not, decide_eq_true_eq, Bool.not_eq_false] at c_67)
              (try simp only [bI_eq0, decide_eq_false_iff_not, decide_eq_true_eq, Bool.not_eq_false] at c_74)
              first | (rw [decide_eq_true (by omega)]; rfl) | (rw [decide_eq_false (by omega)]; rfl))
          · skip
            refine g_iconst (v := nI 1) dX8_placesAreThere_77 rfl ?_
            refine g_goto (tgt := 82) dX8_placesAreThere_78 (by decide) ?_
            exact g_iret dX8_placesAreThere_82 (Or.inr ⟨rfl, by first | exact Or.inl rfl | exact Or.inr rfl⟩) (Nat.le_of_ble_eq_true rfl) (Nat.le_of_ble_eq_true rfl) (by
              refine ⟨?_, rfl, rfl⟩
              (try simp only [bI_eq0, decide_eq_false_iff_not, decide_eq_true_eq, Bool.not_eq_false] at c_41)
              (try simp only [bI_eq0, decide_eq_false_iff_not, decide_eq_true_eq, Bool.not_eq_false] at c_48)
              (try simp only [bI_eq0, decide_eq_false_iff_not, decide_eq_true_eq, Bool.not_eq_false] at c_53)
              (try simp only [bI_eq0, decide_eq_false_iff_not, decide_eq_true_eq, Bool.not_eq_false] at c_60)
              (try simp only [bI_eq0, decide_eq_false_iff_not, decide_eq_true_eq, Bool.not_eq_false] at c_67)
              (try simp only [bI_eq0, decide_eq_false_iff_not, decide_eq_true_eq, Bool.not_eq_false] at c_74)
              first | (rw [decide_eq_true (by omega)]; rfl) | (rw [decide_eq_false (by omega)]; rfl))
  · skip
    refine g_iload_n dX8_placesAreThere_44 rfl ?_
    refine g_callS dX8_placesAreThere_45 sX8_isPlace (c_isPlace M n a) tX8_isPlace (iw_7 9 rfl) rfl rfl (Nat.le_of_ble_eq_true rfl) (Nat.le_of_ble_eq_true rfl) (Nat.le_of_ble_eq_true rfl) (Nat.le_of_ble_eq_true rfl) (Nat.le_of_ble_eq_true rfl) ?_
    intro r9 M9 n9 h9
    obtain ⟨h91, h92, h93⟩ := h9
    rw [h91, h92, h93]
    clear h91 h92 h93 r9 M9 n9
    refine g_if_eq (tgt := 81) dX8_placesAreThere_48 (by decide) (fun c_48 => ?_) (fun c_48 => ?_)
    · skip
      refine g_iconst (v := nI 0) dX8_placesAreThere_81 rfl ?_
      exact g_iret dX8_placesAreThere_82 (Or.inr ⟨rfl, by first | exact Or.inl rfl | exact Or.inr rfl⟩) (Nat.le_of_ble_eq_true rfl) (Nat.le_of_ble_eq_true rfl) (by
        refine ⟨?_, rfl, rfl⟩
        (try simp only [bI_eq0, decide_eq_false_iff_not, decide_eq_true_eq, Bool.not_eq_false] at c_41)
        (try simp only [bI_eq0, decide_eq_false_iff_not, decide_eq_true_eq, Bool.not_eq_false] at c_48)
        (try simp only [bI_eq0, decide_eq_false_iff_not, decide_eq_true_eq, Bool.not_eq_false] at c_53)
        (try simp only [bI_eq0, decide_eq_false_iff_not, decide_eq_true_eq, Bool.not_eq_false] at c_60)
        (try simp only [bI_eq0, decide_eq_false_iff_not, decide_eq_true_eq, Bool.not_eq_false] at c_67)
        (try simp only [bI_eq0, decide_eq_false_iff_not, decide_eq_true_eq, Bool.not_eq_false] at c_74)
        first | (rw [decide_eq_true (by omega)]; rfl) | (rw [decide_eq_false (by omega)]; rfl))
    · skip
      refine g_iload dX8_placesAreThere_51 rfl ?_
      refine g_if_eq (tgt := 63) dX8_placesAreThere_53 (by decide) (fun c_53 => ?_) (fun c_53 => ?_)
      · skip
        refine g_iload_n dX8_placesAreThere_63 rfl ?_
        refine g_callS dX8_placesAreThere_64 sX8_namesTwoOperands (c_two M n k) tX8_namesTwoOperands (iw_7 12 rfl) rfl rfl (Nat.le_of_ble_eq_true rfl) (Nat.le_of_ble_eq_true rfl) (Nat.le_of_ble_eq_true rfl) (Nat.le_of_ble_eq_true rfl) (Nat.le_of_ble_eq_true rfl) ?_
        intro r9 M9 n9 h9
        obtain ⟨h91, h92, h93⟩ := h9
        rw [h91, h92, h93]
        clear h91 h92 h93 r9 M9 n9
        refine g_if_eq (tgt := 77) dX8_placesAreThere_67 (by decide) (fun c_67 => ?_) (fun c_67 => ?_)
        · skip
          refine g_iconst (v := nI 1) dX8_placesAreThere_77 rfl ?_
          refine g_goto (tgt := 82) dX8_placesAreThere_78 (by decide) ?_
          exact g_iret dX8_placesAreThere_82 (Or.inr ⟨rfl, by first | exact Or.inl rfl | exact Or.inr rfl⟩) (Nat.le_of_ble_eq_true rfl) (Nat.le_of_ble_eq_true rfl) (by
            refine ⟨?_, rfl, rfl⟩
            (try simp only [bI_eq0, decide_eq_false_iff_not, decide_eq_true_eq, Bool.not_eq_false] at c_41)
            (try simp only [bI_eq0, decide_eq_false_iff_not, decide_eq_true_eq, Bool.not_eq_false] at c_48)
            (try simp only [bI_eq0, decide_eq_false_iff_not, decide_eq_true_eq, Bool.not_eq_false] at c_53)
            (try simp only [bI_eq0, decide_eq_false_iff_not, decide_eq_true_eq, Bool.not_eq_false] at c_60)
            (try simp only [bI_eq0, decide_eq_false_iff_not, decide_eq_true_eq, Bool.not_eq_false] at c_67)
            (try simp only [bI_eq0, decide_eq_false_iff_not, decide_eq_true_eq, Bool.not_eq_false] at c_74)
            first | (rw [decide_eq_true (by omega)]; rfl) | (rw [decide_eq_false (by omega)]; rfl))
        · skip
          refine g_iload_n dX8_placesAreThere_70 rfl ?_
          refine g_callS dX8_placesAreThere_71 sX8_isPlace (c_isPlace M n c) tX8_isPlace (iw_7 9 rfl) rfl rfl (Nat.le_of_ble_eq_true rfl) (Nat.le_of_ble_eq_true rfl) (Nat.le_of_ble_eq_true rfl) (Nat.le_of_ble_eq_true rfl) (Nat.le_of_ble_eq_true rfl) ?_
          intro r9 M9 n9 h9
          obtain ⟨h91, h92, h93⟩ := h9
          rw [h91, h92, h93]
          clear h91 h92 h93 r9 M9 n9
          refine g_if_eq (tgt := 81) dX8_placesAreThere_74 (by decide) (fun c_74 => ?_) (fun c_74 => ?_)
          · skip
            refine g_iconst (v := nI 0) dX8_placesAreThere_81 rfl ?_
            exact g_iret dX8_placesAreThere_82 (Or.inr ⟨rfl, by first | exact Or.inl rfl | exact Or.inr rfl⟩) (Nat.le_of_ble_eq_true rfl) (Nat.le_of_ble_eq_true rfl) (by
              refine ⟨?_, rfl, rfl⟩
              (try simp only [bI_eq0, decide_eq_false_iff_not, decide_eq_true_eq, Bool.not_eq_false] at c_41)
              (try simp only [bI_eq0, decide_eq_false_iff_not, decide_eq_true_eq, Bool.not_eq_false] at c_48)
              (try simp only [bI_eq0, decide_eq_false_iff_not, decide_eq_true_eq, Bool.not_eq_false] at c_53)
              (try simp only [bI_eq0, decide_eq_false_iff_not, decide_eq_true_eq, Bool.not_eq_false] at c_60)
              (try simp only [bI_eq0, decide_eq_false_iff_not, decide_eq_true_eq, Bool.not_eq_false] at c_67)
              (try simp only [bI_eq0, decide_eq_false_iff_not, decide_eq_true_eq, Bool.not_eq_false] at c_74)
              first | (rw [decide_eq_true (by omega)]; rfl) | (rw [decide_eq_false (by omega)]; rfl))
          · skip
            refine g_iconst (v := nI 1) dX8_placesAreThere_77 rfl ?_
            refine g_goto (tgt := 82) dX8_placesAreThere_78 (by decide) ?_
            exact g_iret dX8_placesAreThere_82 (Or.inr ⟨rfl, by first | exact Or.inl rfl | exact Or.inr rfl⟩) (Nat.le_of_ble_eq_true rfl) (Nat.le_of_ble_eq_true rfl) (by
              refine ⟨?_, rfl, rfl⟩
              (try simp only [bI_eq0, decide_eq_false_iff_not, decide_eq_true_eq, Bool.not_eq_false] at c_41)
              (try simp only [bI_eq0, decide_eq_false_iff_not, decide_eq_true_eq, Bool.not_eq_false] at c_48)
              (try simp only [bI_eq0, decide_eq_false_iff_not, decide_eq_true_eq, Bool.not_eq_false] at c_53)
              (try simp only [bI_eq0, decide_eq_false_iff_not, decide_eq_true_eq, Bool.not_eq_false] at c_60)
              (try simp only [bI_eq0, decide_eq_false_iff_not, decide_eq_true_eq, Bool.not_eq_false] at c_67)
              (try simp only [bI_eq0, decide_eq_false_iff_not, decide_eq_true_eq, Bool.not_eq_false] at c_74)
              first | (rw [decide_eq_true (by omega)]; rfl) | (rw [decide_eq_false (by omega)]; rfl))
      · skip
        refine g_iload_n dX8_placesAreThere_56 rfl ?_
        refine g_callS dX8_placesAreThere_57 sX8_isPlace (c_isPlace M n b) tX8_isPlace (iw_7 9 rfl) rfl rfl (Nat.le_of_ble_eq_true rfl) (Nat.le_of_ble_eq_true rfl) (Nat.le_of_ble_eq_true rfl) (Nat.le_of_ble_eq_true rfl) (Nat.le_of_ble_eq_true rfl) ?_
        intro r9 M9 n9 h9
        obtain ⟨h91, h92, h93⟩ := h9
        rw [h91, h92, h93]
        clear h91 h92 h93 r9 M9 n9
        refine g_if_eq (tgt := 81) dX8_placesAreThere_60 (by decide) (fun c_60 => ?_) (fun c_60 => ?_)
        · skip
          refine g_iconst (v := nI 0) dX8_placesAreThere_81 rfl ?_
          exact g_iret dX8_placesAreThere_82 (Or.inr ⟨rfl, by first | exact Or.inl rfl | exact Or.inr rfl⟩) (Nat.le_of_ble_eq_true rfl) (Nat.le_of_ble_eq_true rfl) (by
            refine ⟨?_, rfl, rfl⟩
            (try simp only [bI_eq0, decide_eq_false_iff_not, decide_eq_true_eq, Bool.not_eq_false] at c_41)
            (try simp only [bI_eq0, decide_eq_false_iff_not, decide_eq_true_eq, Bool.not_eq_false] at c_48)
            (try simp only [bI_eq0, decide_eq_false_iff_not, decide_eq_true_eq, Bool.not_eq_false] at c_53)
            (try simp only [bI_eq0, decide_eq_false_iff_not, decide_eq_true_eq, Bool.not_eq_false] at c_60)
            (try simp only [bI_eq0, decide_eq_false_iff_not, decide_eq_true_eq, Bool.not_eq_false] at c_67)
            (try simp only [bI_eq0, decide_eq_false_iff_not, decide_eq_true_eq, Bool.not_eq_false] at c_74)
            first | (rw [decide_eq_true (by omega)]; rfl) | (rw [decide_eq_false (by omega)]; rfl))
        · skip
          refine g_iload_n dX8_placesAreThere_63 rfl ?_
          refine g_callS dX8_placesAreThere_64 sX8_namesTwoOperands (c_two M n k) tX8_namesTwoOperands (iw_7 12 rfl) rfl rfl (Nat.le_of_ble_eq_true rfl) (Nat.le_of_ble_eq_true rfl) (Nat.le_of_ble_eq_true rfl) (Nat.le_of_ble_eq_true rfl) (Nat.le_of_ble_eq_true rfl) ?_
          intro r9 M9 n9 h9
          obtain ⟨h91, h92, h93⟩ := h9
          rw [h91, h92, h93]
          clear h91 h92 h93 r9 M9 n9
          refine g_if_eq (tgt := 77) dX8_placesAreThere_67 (by decide) (fun c_67 => ?_) (fun c_67 => ?_)
          · skip
            refine g_iconst (v := nI 1) dX8_placesAreThere_77 rfl ?_
            refine g_goto (tgt := 82) dX8_placesAreThere_78 (by decide) ?_
            exact g_iret dX8_placesAreThere_82 (Or.inr ⟨rfl, by first | exact Or.inl rfl | exact Or.inr rfl⟩) (Nat.le_of_ble_eq_true rfl) (Nat.le_of_ble_eq_true rfl) (by
              refine ⟨?_, rfl, rfl⟩
              (try simp only [bI_eq0, decide_eq_false_iff_not, decide_eq_true_eq, Bool.not_eq_false] at c_41)
              (try simp only [bI_eq0, decide_eq_false_iff_not, decide_eq_true_eq, Bool.not_eq_false] at c_48)
              (try simp only [bI_eq0, decide_eq_false_iff_not, decide_eq_true_eq, Bool.not_eq_false] at c_53)
              (try simp only [bI_eq0, decide_eq_false_iff_not, decide_eq_true_eq, Bool.not_eq_false] at c_60)
              (try simp only [bI_eq0, decide_eq_false_iff_not, decide_eq_true_eq, Bool.not_eq_false] at c_67)
              (try simp only [bI_eq0, decide_eq_false_iff_not, decide_eq_true_eq, Bool.not_eq_false] at c_74)
              first | (rw [decide_eq_true (by omega)]; rfl) | (rw [decide_eq_false (by omega)]; rfl))
          · skip
            refine g_iload_n dX8_placesAreThere_70 rfl ?_
            refine g_callS dX8_placesAreThere_71 sX8_isPlace (c_isPlace M n c) tX8_isPlace (iw_7 9 rfl) rfl rfl (Nat.le_of_ble_eq_true rfl) (Nat.le_of_ble_eq_true rfl) (Nat.le_of_ble_eq_true rfl) (Nat.le_of_ble_eq_true rfl) (Nat.le_of_ble_eq_true rfl) ?_
            intro r9 M9 n9 h9
            obtain ⟨h91, h92, h93⟩ := h9
            rw [h91, h92, h93]
            clear h91 h92 h93 r9 M9 n9
            refine g_if_eq (tgt := 81) dX8_placesAreThere_74 (by decide) (fun c_74 => ?_) (fun c_74 => ?_)
            · skip
              refine g_iconst (v := nI 0) dX8_placesAreThere_81 rfl ?_
              exact g_iret dX8_placesAreThere_82 (Or.inr ⟨rfl, by first | exact Or.inl rfl | exact Or.inr rfl⟩) (Nat.le_of_ble_eq_true rfl) (Nat.le_of_ble_eq_true rfl) (by
                refine ⟨?_, rfl, rfl⟩
                (try simp only [bI_eq0, decide_eq_false_iff_not, decide_eq_true_eq, Bool.not_eq_false] at c_41)
                (try simp only [bI_eq0, decide_eq_false_iff_not, decide_eq_true_eq, Bool.not_eq_false] at c_48)
                (try simp only [bI_eq0, decide_eq_false_iff_not, decide_eq_true_eq, Bool.not_eq_false] at c_53)
                (try simp only [bI_eq0, decide_eq_false_iff_not, decide_eq_true_eq, Bool.not_eq_false] at c_60)
                (try simp only [bI_eq0, decide_eq_false_iff_not, decide_eq_true_eq, Bool.not_eq_false] at c_67)
                (try simp only [bI_eq0, decide_eq_false_iff_not, decide_eq_true_eq, Bool.not_eq_false] at c_74)
                first | (rw [decide_eq_true (by omega)]; rfl) | (rw [decide_eq_false (by omega)]; rfl))
            · skip
              refine g_iconst (v := nI 1) dX8_placesAreThere_77 rfl ?_
              refine g_goto (tgt := 82) dX8_placesAreThere_78 (by decide) ?_
              exact g_iret dX8_placesAreThere_82 (Or.inr ⟨rfl, by first | exact Or.inl rfl | exact Or.inr rfl⟩) (Nat.le_of_ble_eq_true rfl) (Nat.le_of_ble_eq_true rfl) (by
                refine ⟨?_, rfl, rfl⟩
                (try simp only [bI_eq0, decide_eq_false_iff_not, decide_eq_true_eq, Bool.not_eq_false] at c_41)
                (try simp only [bI_eq0, decide_eq_false_iff_not, decide_eq_true_eq, Bool.not_eq_false] at c_48)
                (try simp only [bI_eq0, decide_eq_false_iff_not, decide_eq_true_eq, Bool.not_eq_false] at c_53)
                (try simp only [bI_eq0, decide_eq_false_iff_not, decide_eq_true_eq, Bool.not_eq_false] at c_60)
                (try simp only [bI_eq0, decide_eq_false_iff_not, decide_eq_true_eq, Bool.not_eq_false] at c_67)
                (try simp only [bI_eq0, decide_eq_false_iff_not, decide_eq_true_eq, Bool.not_eq_false] at c_74)
                first | (rw [decide_eq_true (by omega)]; rfl) | (rw [decide_eq_false (by omega)]; rfl))

set_option maxHeartbeats 4000000 in
set_option maxRecDepth 100000 in
theorem p_pl17 {M : gM} {n : Nat} {k a b c : Int32} : GW μX8_placesAreThere (gRm 1 20 0 0) (gTh (fun r M1 n1 => r = some (.int (bI (decide (¬ op1 k.toInt a.toInt b.toInt c.toInt)))) ∧ M1 = M ∧ n1 = n) 0 0) 0 0 17 [some (.int k), some (.int a), some (.int b), some (.int c), some (.int (bI (decide (0 ≤ k.toInt ∧ k.toInt ≤ 17)))), none] [] M n := by
  refine g_iload dX8_placesAreThere_17 rfl ?_
  refine g_if_eq (tgt := 36) dX8_placesAreThere_19 (by decide) (fun c_19 => ?_) (fun c_19 => ?_)
  · skip
    refine g_iconst (v := nI 0) dX8_placesAreThere_36 rfl ?_
    refine g_istore dX8_placesAreThere_37 (Nat.le_of_ble_eq_true rfl) ?_
    (try simp only [bI_eq0, decide_eq_false_iff_not, decide_eq_true_eq, Bool.not_eq_false] at c_19)
    (try rw [i_eq, t_0] at c_23)
    (try rw [i_eq, show (nI 10).toInt = 10 from rfl] at c_29)
    have h := p_pl39 (M := M) (n := n) (k := k) (a := a) (b := b) (c := c)
    first
    | (rw [decide_eq_true (p := opD k.toInt) (by omega)] at h; exact h)
    | (rw [decide_eq_false (p := opD k.toInt) (by omega)] at h; exact h)
  · skip
    refine g_iload_n dX8_placesAreThere_22 rfl ?_
    refine g_if_eq (tgt := 36) dX8_placesAreThere_23 (by decide) (fun c_23 => ?_) (fun c_23 => ?_)
    · skip
      refine g_iconst (v := nI 0) dX8_placesAreThere_36 rfl ?_
      refine g_istore dX8_placesAreThere_37 (Nat.le_of_ble_eq_true rfl) ?_
      (try simp only [bI_eq0, decide_eq_false_iff_not, decide_eq_true_eq, Bool.not_eq_false] at c_19)
      (try rw [i_eq, t_0] at c_23)
      (try rw [i_eq, show (nI 10).toInt = 10 from rfl] at c_29)
      have h := p_pl39 (M := M) (n := n) (k := k) (a := a) (b := b) (c := c)
      first
      | (rw [decide_eq_true (p := opD k.toInt) (by omega)] at h; exact h)
      | (rw [decide_eq_false (p := opD k.toInt) (by omega)] at h; exact h)
    · skip
      refine g_iload_n dX8_placesAreThere_26 rfl ?_
      refine g_bipush (v := nI 10) dX8_placesAreThere_27 rfl ?_
      refine g_icmp_eq (tgt := 36) dX8_placesAreThere_29 (by decide) (fun c_29 => ?_) (fun c_29 => ?_)
      · skip
        refine g_iconst (v := nI 0) dX8_placesAreThere_36 rfl ?_
        refine g_istore dX8_placesAreThere_37 (Nat.le_of_ble_eq_true rfl) ?_
        (try simp only [bI_eq0, decide_eq_false_iff_not, decide_eq_true_eq, Bool.not_eq_false] at c_19)
        (try rw [i_eq, t_0] at c_23)
        (try rw [i_eq, show (nI 10).toInt = 10 from rfl] at c_29)
        have h := p_pl39 (M := M) (n := n) (k := k) (a := a) (b := b) (c := c)
        first
        | (rw [decide_eq_true (p := opD k.toInt) (by omega)] at h; exact h)
        | (rw [decide_eq_false (p := opD k.toInt) (by omega)] at h; exact h)
      · skip
        refine g_iconst (v := nI 1) dX8_placesAreThere_32 rfl ?_
        refine g_goto (tgt := 37) dX8_placesAreThere_33 (by decide) ?_
        refine g_istore dX8_placesAreThere_37 (Nat.le_of_ble_eq_true rfl) ?_
        (try simp only [bI_eq0, decide_eq_false_iff_not, decide_eq_true_eq, Bool.not_eq_false] at c_19)
        (try rw [i_eq, t_0] at c_23)
        (try rw [i_eq, show (nI 10).toInt = 10 from rfl] at c_29)
        have h := p_pl39 (M := M) (n := n) (k := k) (a := a) (b := b) (c := c)
        first
        | (rw [decide_eq_true (p := opD k.toInt) (by omega)] at h; exact h)
        | (rw [decide_eq_false (p := opD k.toInt) (by omega)] at h; exact h)

set_option maxHeartbeats 4000000 in
set_option maxRecDepth 100000 in
theorem c_places (M : gM) (n : Nat) (k a b c : Int32) : GM μX8_placesAreThere 1 20 0 0 [.int k, .int a, .int b, .int c] M n (fun r M1 n1 => r = some (.int (bI (decide (¬ op1 k.toInt a.toInt b.toInt c.toInt)))) ∧ M1 = M ∧ n1 = n) := by
  refine GM.ofW (by decide) rfl (Nat.le_of_ble_eq_true rfl) rfl ?_
  refine g_iload_n dX8_placesAreThere_0 rfl ?_
  refine g_if_lt (tgt := 14) dX8_placesAreThere_1 (by decide) (fun c_1 => ?_) (fun c_1 => ?_)
  · skip
    refine g_iconst (v := nI 0) dX8_placesAreThere_14 rfl ?_
    refine g_istore dX8_placesAreThere_15 (Nat.le_of_ble_eq_true rfl) ?_
    (try rw [i_lt, t_0] at c_1)
    (try rw [i_le, show (nI 18).toInt = 18 from rfl] at c_7)
    have h := p_pl17 (M := M) (n := n) (k := k) (a := a) (b := b) (c := c)
    first
    | (rw [decide_eq_true (p := 0 ≤ k.toInt ∧ k.toInt ≤ 17) (by omega)] at h; exact h)
    | (rw [decide_eq_false (p := 0 ≤ k.toInt ∧ k.toInt ≤ 17) (by omega)] at h; exact h)
  · skip
    refine g_iload_n dX8_placesAreThere_4 rfl ?_
    refine g_bipush (v := nI 18) dX8_placesAreThere_5 rfl ?_
    refine g_icmp_ge (tgt := 14) dX8_placesAreThere_7 (by decide) (fun c_7 => ?_) (fun c_7 => ?_)
    · skip
      refine g_iconst (v := nI 0) dX8_placesAreThere_14 rfl ?_
      refine g_istore dX8_placesAreThere_15 (Nat.le_of_ble_eq_true rfl) ?_
      (try rw [i_lt, t_0] at c_1)
      (try rw [i_le, show (nI 18).toInt = 18 from rfl] at c_7)
      have h := p_pl17 (M := M) (n := n) (k := k) (a := a) (b := b) (c := c)
      first
      | (rw [decide_eq_true (p := 0 ≤ k.toInt ∧ k.toInt ≤ 17) (by omega)] at h; exact h)
      | (rw [decide_eq_false (p := 0 ≤ k.toInt ∧ k.toInt ≤ 17) (by omega)] at h; exact h)
    · skip
      refine g_iconst (v := nI 1) dX8_placesAreThere_10 rfl ?_
      refine g_goto (tgt := 15) dX8_placesAreThere_11 (by decide) ?_
      refine g_istore dX8_placesAreThere_15 (Nat.le_of_ble_eq_true rfl) ?_
      (try rw [i_lt, t_0] at c_1)
      (try rw [i_le, show (nI 18).toInt = 18 from rfl] at c_7)
      have h := p_pl17 (M := M) (n := n) (k := k) (a := a) (b := b) (c := c)
      first
      | (rw [decide_eq_true (p := 0 ≤ k.toInt ∧ k.toInt ≤ 17) (by omega)] at h; exact h)
      | (rw [decide_eq_false (p := 0 ≤ k.toInt ∧ k.toInt ≤ 17) (by omega)] at h; exact h)

set_option maxHeartbeats 4000000 in
set_option maxRecDepth 100000 in
theorem c_numbers (M : gM) (n : Nat) (k a b c : Int32) : GM μX8_numbersAreSo 1 20 0 0 [.int k, .int a, .int b, .int c] M n (fun r M1 n1 => r = some (.int (bI (decide (opR k.toInt a.toInt b.toInt c.toInt)))) ∧ M1 = M ∧ n1 = n) := by
  refine GM.ofW (by decide) rfl (Nat.le_of_ble_eq_true rfl) rfl ?_
  refine g_iload_n dX8_numbersAreSo_0 rfl ?_
  refine g_callS dX8_numbersAreSo_1 sX8_isCondition (c_isCondX M n k) tX8_isCondition (iw_7 18 rfl) rfl rfl (Nat.le_of_ble_eq_true rfl) (Nat.le_of_ble_eq_true rfl) (Nat.le_of_ble_eq_true rfl) (Nat.le_of_ble_eq_true rfl) (Nat.le_of_ble_eq_true rfl) ?_
  intro r9 M9 n9 h9
  obtain ⟨h91, h92, h93⟩ := h9
  rw [h91, h92, h93]
  clear h91 h92 h93 r9 M9 n9
  refine g_if_eq (tgt := 12) dX8_numbersAreSo_4 (by decide) (fun c_4 => ?_) (fun c_4 => ?_)
  · skip
    refine g_iload_n dX8_numbersAreSo_12 rfl ?_
    by_cases t_13_5 : k.toInt = 5
    · skip
      refine g_tableIn (off := 71) (tgt := 84) dX8_numbersAreSo_13 (by omega) (by omega) (by rw [t_13_5]; rfl) (by decide) ?_
      refine g_iload_n dX8_numbersAreSo_84 rfl ?_
      refine g_if_lt (tgt := 92) dX8_numbersAreSo_85 (by decide) (fun c_85 => ?_) (fun c_85 => ?_)
      · skip
        refine g_iconst (v := nI 0) dX8_numbersAreSo_92 rfl ?_
        exact g_iret dX8_numbersAreSo_93 (Or.inr ⟨rfl, by first | exact Or.inl rfl | exact Or.inr rfl⟩) (Nat.le_of_ble_eq_true rfl) (Nat.le_of_ble_eq_true rfl) (by
          refine ⟨?_, rfl, rfl⟩
          (try rw [i_lt, t_0] at c_85)
          (try rw [i_lt, t_0] at c_95)
          (try rw [i_lt, show (nI 31).toInt = 31 from rfl] at c_101)
          (try rw [i_lt, t_0] at c_111)
          (try rw [i_lt, show (nI 2).toInt = 2 from rfl] at c_116)
          (try rw [i_lt] at c_127)
          (try rw [i_lt, t_0] at c_142)
          (try rw [i_lt, show (nI 19).toInt = 19 from rfl] at c_148)
          (try simp only [bI_eq0, decide_eq_false_iff_not, decide_eq_true_eq, Bool.not_eq_false] at c_4)
          first | (rw [decide_eq_true (p := opR _ _ _ _) (by omega)]; rfl) | (rw [decide_eq_false (p := opR _ _ _ _) (by omega)]; rfl))
      · skip
        refine g_iconst (v := nI 1) dX8_numbersAreSo_88 rfl ?_
        refine g_goto (tgt := 93) dX8_numbersAreSo_89 (by decide) ?_
        exact g_iret dX8_numbersAreSo_93 (Or.inr ⟨rfl, by first | exact Or.inl rfl | exact Or.inr rfl⟩) (Nat.le_of_ble_eq_true rfl) (Nat.le_of_ble_eq_true rfl) (by
          refine ⟨?_, rfl, rfl⟩
          (try rw [i_lt, t_0] at c_85)
          (try rw [i_lt, t_0] at c_95)
          (try rw [i_lt, show (nI 31).toInt = 31 from rfl] at c_101)
          (try rw [i_lt, t_0] at c_111)
          (try rw [i_lt, show (nI 2).toInt = 2 from rfl] at c_116)
          (try rw [i_lt] at c_127)
          (try rw [i_lt, t_0] at c_142)
          (try rw [i_lt, show (nI 19).toInt = 19 from rfl] at c_148)
          (try simp only [bI_eq0, decide_eq_false_iff_not, decide_eq_true_eq, Bool.not_eq_false] at c_4)
          first | (rw [decide_eq_true (p := opR _ _ _ _) (by omega)]; rfl) | (rw [decide_eq_false (p := opR _ _ _ _) (by omega)]; rfl))
    · skip
      by_cases t_13_6 : k.toInt = 6
      · skip
        refine g_tableIn (off := 81) (tgt := 94) dX8_numbersAreSo_13 (by omega) (by omega) (by rw [t_13_6]; rfl) (by decide) ?_
        refine g_iload_n dX8_numbersAreSo_94 rfl ?_
        refine g_if_lt (tgt := 108) dX8_numbersAreSo_95 (by decide) (fun c_95 => ?_) (fun c_95 => ?_)
        · skip
          refine g_iconst (v := nI 0) dX8_numbersAreSo_108 rfl ?_
          exact g_iret dX8_numbersAreSo_109 (Or.inr ⟨rfl, by first | exact Or.inl rfl | exact Or.inr rfl⟩) (Nat.le_of_ble_eq_true rfl) (Nat.le_of_ble_eq_true rfl) (by
            refine ⟨?_, rfl, rfl⟩
            (try rw [i_lt, t_0] at c_85)
            (try rw [i_lt, t_0] at c_95)
            (try rw [i_lt, show (nI 31).toInt = 31 from rfl] at c_101)
            (try rw [i_lt, t_0] at c_111)
            (try rw [i_lt, show (nI 2).toInt = 2 from rfl] at c_116)
            (try rw [i_lt] at c_127)
            (try rw [i_lt, t_0] at c_142)
            (try rw [i_lt, show (nI 19).toInt = 19 from rfl] at c_148)
            (try simp only [bI_eq0, decide_eq_false_iff_not, decide_eq_true_eq, Bool.not_eq_false] at c_4)
            first | (rw [decide_eq_true (p := opR _ _ _ _) (by omega)]; rfl) | (rw [decide_eq_false (p := opR _ _ _ _) (by omega)]; rfl))
        · skip
          refine g_iload_n dX8_numbersAreSo_98 rfl ?_
          refine g_bipush (v := nI 31) dX8_numbersAreSo_99 rfl ?_
          refine g_icmp_gt (tgt := 108) dX8_numbersAreSo_101 (by decide) (fun c_101 => ?_) (fun c_101 => ?_)
          · skip
            refine g_iconst (v := nI 0) dX8_numbersAreSo_108 rfl ?_
            exact g_iret dX8_numbersAreSo_109 (Or.inr ⟨rfl, by first | exact Or.inl rfl | exact Or.inr rfl⟩) (Nat.le_of_ble_eq_true rfl) (Nat.le_of_ble_eq_true rfl) (by
              refine ⟨?_, rfl, rfl⟩
              (try rw [i_lt, t_0] at c_85)
              (try rw [i_lt, t_0] at c_95)
              (try rw [i_lt, show (nI 31).toInt = 31 from rfl] at c_101)
              (try rw [i_lt, t_0] at c_111)
              (try rw [i_lt, show (nI 2).toInt = 2 from rfl] at c_116)
              (try rw [i_lt] at c_127)
              (try rw [i_lt, t_0] at c_142)
              (try rw [i_lt, show (nI 19).toInt = 19 from rfl] at c_148)
              (try simp only [bI_eq0, decide_eq_false_iff_not, decide_eq_true_eq, Bool.not_eq_false] at c_4)
              first | (rw [decide_eq_true (p := opR _ _ _ _) (by omega)]; rfl) | (rw [decide_eq_false (p := opR _ _ _ _) (by omega)]; rfl))
          · skip
            refine g_iconst (v := nI 1) dX8_numbersAreSo_104 rfl ?_
            refine g_goto (tgt := 109) dX8_numbersAreSo_105 (by decide) ?_
            exact g_iret dX8_numbersAreSo_109 (Or.inr ⟨rfl, by first | exact Or.inl rfl | exact Or.inr rfl⟩) (Nat.le_of_ble_eq_true rfl) (Nat.le_of_ble_eq_true rfl) (by
              refine ⟨?_, rfl, rfl⟩
              (try rw [i_lt, t_0] at c_85)
              (try rw [i_lt, t_0] at c_95)
              (try rw [i_lt, show (nI 31).toInt = 31 from rfl] at c_101)
              (try rw [i_lt, t_0] at c_111)
              (try rw [i_lt, show (nI 2).toInt = 2 from rfl] at c_116)
              (try rw [i_lt] at c_127)
              (try rw [i_lt, t_0] at c_142)
              (try rw [i_lt, show (nI 19).toInt = 19 from rfl] at c_148)
              (try simp only [bI_eq0, decide_eq_false_iff_not, decide_eq_true_eq, Bool.not_eq_false] at c_4)
              first | (rw [decide_eq_true (p := opR _ _ _ _) (by omega)]; rfl) | (rw [decide_eq_false (p := opR _ _ _ _) (by omega)]; rfl))
      · skip
        by_cases t_13_7 : k.toInt = 7 ∨ k.toInt = 8 ∨ k.toInt = 11 ∨ k.toInt = 12 ∨ k.toInt = 13 ∨ k.toInt = 14 ∨ k.toInt = 15 ∨ k.toInt = 16 ∨ k.toInt = 17
        · skip
          refine g_tableIn (off := 128) (tgt := 141) dX8_numbersAreSo_13 (by omega) (by omega) (by rcases t_13_7 with h9 | h9 | h9 | h9 | h9 | h9 | h9 | h9 | h9 <;> rw [h9] <;> rfl) (by decide) ?_
          refine g_iload_n dX8_numbersAreSo_141 rfl ?_
          refine g_if_lt (tgt := 155) dX8_numbersAreSo_142 (by decide) (fun c_142 => ?_) (fun c_142 => ?_)
          · skip
            refine g_iconst (v := nI 0) dX8_numbersAreSo_155 rfl ?_
            exact g_iret dX8_numbersAreSo_156 (Or.inr ⟨rfl, by first | exact Or.inl rfl | exact Or.inr rfl⟩) (Nat.le_of_ble_eq_true rfl) (Nat.le_of_ble_eq_true rfl) (by
              refine ⟨?_, rfl, rfl⟩
              (try rw [i_lt, t_0] at c_85)
              (try rw [i_lt, t_0] at c_95)
              (try rw [i_lt, show (nI 31).toInt = 31 from rfl] at c_101)
              (try rw [i_lt, t_0] at c_111)
              (try rw [i_lt, show (nI 2).toInt = 2 from rfl] at c_116)
              (try rw [i_lt] at c_127)
              (try rw [i_lt, t_0] at c_142)
              (try rw [i_lt, show (nI 19).toInt = 19 from rfl] at c_148)
              (try simp only [bI_eq0, decide_eq_false_iff_not, decide_eq_true_eq, Bool.not_eq_false] at c_4)
              first | (rw [decide_eq_true (p := opR _ _ _ _) (by omega)]; rfl) | (rw [decide_eq_false (p := opR _ _ _ _) (by omega)]; rfl))
          · skip
            refine g_iload_n dX8_numbersAreSo_145 rfl ?_
            refine g_bipush (v := nI 19) dX8_numbersAreSo_146 rfl ?_
            refine g_icmp_gt (tgt := 155) dX8_numbersAreSo_148 (by decide) (fun c_148 => ?_) (fun c_148 => ?_)
            · skip
              refine g_iconst (v := nI 0) dX8_numbersAreSo_155 rfl ?_
              exact g_iret dX8_numbersAreSo_156 (Or.inr ⟨rfl, by first | exact Or.inl rfl | exact Or.inr rfl⟩) (Nat.le_of_ble_eq_true rfl) (Nat.le_of_ble_eq_true rfl) (by
                refine ⟨?_, rfl, rfl⟩
                (try rw [i_lt, t_0] at c_85)
                (try rw [i_lt, t_0] at c_95)
                (try rw [i_lt, show (nI 31).toInt = 31 from rfl] at c_101)
                (try rw [i_lt, t_0] at c_111)
                (try rw [i_lt, show (nI 2).toInt = 2 from rfl] at c_116)
                (try rw [i_lt] at c_127)
                (try rw [i_lt, t_0] at c_142)
                (try rw [i_lt, show (nI 19).toInt = 19 from rfl] at c_148)
                (try simp only [bI_eq0, decide_eq_false_iff_not, decide_eq_true_eq, Bool.not_eq_false] at c_4)
                first | (rw [decide_eq_true (p := opR _ _ _ _) (by omega)]; rfl) | (rw [decide_eq_false (p := opR _ _ _ _) (by omega)]; rfl))
            · skip
              refine g_iconst (v := nI 1) dX8_numbersAreSo_151 rfl ?_
              refine g_goto (tgt := 156) dX8_numbersAreSo_152 (by decide) ?_
              exact g_iret dX8_numbersAreSo_156 (Or.inr ⟨rfl, by first | exact Or.inl rfl | exact Or.inr rfl⟩) (Nat.le_of_ble_eq_true rfl) (Nat.le_of_ble_eq_true rfl) (by
                refine ⟨?_, rfl, rfl⟩
                (try rw [i_lt, t_0] at c_85)
                (try rw [i_lt, t_0] at c_95)
                (try rw [i_lt, show (nI 31).toInt = 31 from rfl] at c_101)
                (try rw [i_lt, t_0] at c_111)
                (try rw [i_lt, show (nI 2).toInt = 2 from rfl] at c_116)
                (try rw [i_lt] at c_127)
                (try rw [i_lt, t_0] at c_142)
                (try rw [i_lt, show (nI 19).toInt = 19 from rfl] at c_148)
                (try simp only [bI_eq0, decide_eq_false_iff_not, decide_eq_true_eq, Bool.not_eq_false] at c_4)
                first | (rw [decide_eq_true (p := opR _ _ _ _) (by omega)]; rfl) | (rw [decide_eq_false (p := opR _ _ _ _) (by omega)]; rfl))
        · skip
          by_cases t_13_9 : k.toInt = 9
          · skip
            refine g_tableIn (off := 97) (tgt := 110) dX8_numbersAreSo_13 (by omega) (by omega) (by rw [t_13_9]; rfl) (by decide) ?_
            refine g_iload_n dX8_numbersAreSo_110 rfl ?_
            refine g_if_lt (tgt := 123) dX8_numbersAreSo_111 (by decide) (fun c_111 => ?_) (fun c_111 => ?_)
            · skip
              refine g_iconst (v := nI 0) dX8_numbersAreSo_123 rfl ?_
              exact g_iret dX8_numbersAreSo_124 (Or.inr ⟨rfl, by first | exact Or.inl rfl | exact Or.inr rfl⟩) (Nat.le_of_ble_eq_true rfl) (Nat.le_of_ble_eq_true rfl) (by
                refine ⟨?_, rfl, rfl⟩
                (try rw [i_lt, t_0] at c_85)
                (try rw [i_lt, t_0] at c_95)
                (try rw [i_lt, show (nI 31).toInt = 31 from rfl] at c_101)
                (try rw [i_lt, t_0] at c_111)
                (try rw [i_lt, show (nI 2).toInt = 2 from rfl] at c_116)
                (try rw [i_lt] at c_127)
                (try rw [i_lt, t_0] at c_142)
                (try rw [i_lt, show (nI 19).toInt = 19 from rfl] at c_148)
                (try simp only [bI_eq0, decide_eq_false_iff_not, decide_eq_true_eq, Bool.not_eq_false] at c_4)
                first | (rw [decide_eq_true (p := opR _ _ _ _) (by omega)]; rfl) | (rw [decide_eq_false (p := opR _ _ _ _) (by omega)]; rfl))
            · skip
              refine g_iload_n dX8_numbersAreSo_114 rfl ?_
              refine g_iconst (v := nI 2) dX8_numbersAreSo_115 rfl ?_
              refine g_icmp_gt (tgt := 123) dX8_numbersAreSo_116 (by decide) (fun c_116 => ?_) (fun c_116 => ?_)
              · skip
                refine g_iconst (v := nI 0) dX8_numbersAreSo_123 rfl ?_
                exact g_iret dX8_numbersAreSo_124 (Or.inr ⟨rfl, by first | exact Or.inl rfl | exact Or.inr rfl⟩) (Nat.le_of_ble_eq_true rfl) (Nat.le_of_ble_eq_true rfl) (by
                  refine ⟨?_, rfl, rfl⟩
                  (try rw [i_lt, t_0] at c_85)
                  (try rw [i_lt, t_0] at c_95)
                  (try rw [i_lt, show (nI 31).toInt = 31 from rfl] at c_101)
                  (try rw [i_lt, t_0] at c_111)
                  (try rw [i_lt, show (nI 2).toInt = 2 from rfl] at c_116)
                  (try rw [i_lt] at c_127)
                  (try rw [i_lt, t_0] at c_142)
                  (try rw [i_lt, show (nI 19).toInt = 19 from rfl] at c_148)
                  (try simp only [bI_eq0, decide_eq_false_iff_not, decide_eq_true_eq, Bool.not_eq_false] at c_4)
                  first | (rw [decide_eq_true (p := opR _ _ _ _) (by omega)]; rfl) | (rw [decide_eq_false (p := opR _ _ _ _) (by omega)]; rfl))
              · skip
                refine g_iconst (v := nI 1) dX8_numbersAreSo_119 rfl ?_
                refine g_goto (tgt := 124) dX8_numbersAreSo_120 (by decide) ?_
                exact g_iret dX8_numbersAreSo_124 (Or.inr ⟨rfl, by first | exact Or.inl rfl | exact Or.inr rfl⟩) (Nat.le_of_ble_eq_true rfl) (Nat.le_of_ble_eq_true rfl) (by
                  refine ⟨?_, rfl, rfl⟩
                  (try rw [i_lt, t_0] at c_85)
                  (try rw [i_lt, t_0] at c_95)
                  (try rw [i_lt, show (nI 31).toInt = 31 from rfl] at c_101)
                  (try rw [i_lt, t_0] at c_111)
                  (try rw [i_lt, show (nI 2).toInt = 2 from rfl] at c_116)
                  (try rw [i_lt] at c_127)
                  (try rw [i_lt, t_0] at c_142)
                  (try rw [i_lt, show (nI 19).toInt = 19 from rfl] at c_148)
                  (try simp only [bI_eq0, decide_eq_false_iff_not, decide_eq_true_eq, Bool.not_eq_false] at c_4)
                  first | (rw [decide_eq_true (p := opR _ _ _ _) (by omega)]; rfl) | (rw [decide_eq_false (p := opR _ _ _ _) (by omega)]; rfl))
          · skip
            by_cases t_13_10 : k.toInt = 10
            · skip
              refine g_tableIn (off := 112) (tgt := 125) dX8_numbersAreSo_13 (by omega) (by omega) (by rw [t_13_10]; rfl) (by decide) ?_
              refine g_iload_n dX8_numbersAreSo_125 rfl ?_
              refine g_iload_n dX8_numbersAreSo_126 rfl ?_
              refine g_icmp_gt (tgt := 134) dX8_numbersAreSo_127 (by decide) (fun c_127 => ?_) (fun c_127 => ?_)
              · skip
                refine g_iconst (v := nI 0) dX8_numbersAreSo_134 rfl ?_
                exact g_iret dX8_numbersAreSo_135 (Or.inr ⟨rfl, by first | exact Or.inl rfl | exact Or.inr rfl⟩) (Nat.le_of_ble_eq_true rfl) (Nat.le_of_ble_eq_true rfl) (by
                  refine ⟨?_, rfl, rfl⟩
                  (try rw [i_lt, t_0] at c_85)
                  (try rw [i_lt, t_0] at c_95)
                  (try rw [i_lt, show (nI 31).toInt = 31 from rfl] at c_101)
                  (try rw [i_lt, t_0] at c_111)
                  (try rw [i_lt, show (nI 2).toInt = 2 from rfl] at c_116)
                  (try rw [i_lt] at c_127)
                  (try rw [i_lt, t_0] at c_142)
                  (try rw [i_lt, show (nI 19).toInt = 19 from rfl] at c_148)
                  (try simp only [bI_eq0, decide_eq_false_iff_not, decide_eq_true_eq, Bool.not_eq_false] at c_4)
                  first | (rw [decide_eq_true (p := opR _ _ _ _) (by omega)]; rfl) | (rw [decide_eq_false (p := opR _ _ _ _) (by omega)]; rfl))
              · skip
                refine g_iconst (v := nI 1) dX8_numbersAreSo_130 rfl ?_
                refine g_goto (tgt := 135) dX8_numbersAreSo_131 (by decide) ?_
                exact g_iret dX8_numbersAreSo_135 (Or.inr ⟨rfl, by first | exact Or.inl rfl | exact Or.inr rfl⟩) (Nat.le_of_ble_eq_true rfl) (Nat.le_of_ble_eq_true rfl) (by
                  refine ⟨?_, rfl, rfl⟩
                  (try rw [i_lt, t_0] at c_85)
                  (try rw [i_lt, t_0] at c_95)
                  (try rw [i_lt, show (nI 31).toInt = 31 from rfl] at c_101)
                  (try rw [i_lt, t_0] at c_111)
                  (try rw [i_lt, show (nI 2).toInt = 2 from rfl] at c_116)
                  (try rw [i_lt] at c_127)
                  (try rw [i_lt, t_0] at c_142)
                  (try rw [i_lt, show (nI 19).toInt = 19 from rfl] at c_148)
                  (try simp only [bI_eq0, decide_eq_false_iff_not, decide_eq_true_eq, Bool.not_eq_false] at c_4)
                  first | (rw [decide_eq_true (p := opR _ _ _ _) (by omega)]; rfl) | (rw [decide_eq_false (p := opR _ _ _ _) (by omega)]; rfl))
            · skip
              by_cases t_13_18 : k.toInt = 18
              · skip
                refine g_tableIn (off := 123) (tgt := 136) dX8_numbersAreSo_13 (by omega) (by omega) (by rw [t_13_18]; rfl) (by decide) ?_
                refine g_iload_n dX8_numbersAreSo_136 rfl ?_
                refine g_callS dX8_numbersAreSo_137 sX8_mayBeNext (c_mayBe M n a) tX8_mayBeNext (iw_7 21 rfl) rfl rfl (Nat.le_of_ble_eq_true rfl) (Nat.le_of_ble_eq_true rfl) (Nat.le_of_ble_eq_true rfl) (Nat.le_of_ble_eq_true rfl) (Nat.le_of_ble_eq_true rfl) ?_
                intro r9 M9 n9 h9
                obtain ⟨h91, h92, h93⟩ := h9
                rw [h91, h92, h93]
                clear h91 h92 h93 r9 M9 n9
                exact g_iret dX8_numbersAreSo_140 (Or.inr ⟨rfl, bI_01 _⟩) (Nat.le_of_ble_eq_true rfl) (Nat.le_of_ble_eq_true rfl) (by
                  refine ⟨?_, rfl, rfl⟩
                  (try simp only [bI_eq0, decide_eq_false_iff_not, decide_eq_true_eq, Bool.not_eq_false] at c_4)
                  congr 3; apply decide_eq_decide.mpr; constructor <;> intro h9 <;> omega)
              · skip
                refine g_tableOut (tgt := 141) dX8_numbersAreSo_13 (by omega) (by decide) ?_
                refine g_iload_n dX8_numbersAreSo_141 rfl ?_
                refine g_if_lt (tgt := 155) dX8_numbersAreSo_142 (by decide) (fun c_142 => ?_) (fun c_142 => ?_)
                · skip
                  refine g_iconst (v := nI 0) dX8_numbersAreSo_155 rfl ?_
                  exact g_iret dX8_numbersAreSo_156 (Or.inr ⟨rfl, by first | exact Or.inl rfl | exact Or.inr rfl⟩) (Nat.le_of_ble_eq_true rfl) (Nat.le_of_ble_eq_true rfl) (by
                    refine ⟨?_, rfl, rfl⟩
                    (try rw [i_lt, t_0] at c_85)
                    (try rw [i_lt, t_0] at c_95)
                    (try rw [i_lt, show (nI 31).toInt = 31 from rfl] at c_101)
                    (try rw [i_lt, t_0] at c_111)
                    (try rw [i_lt, show (nI 2).toInt = 2 from rfl] at c_116)
                    (try rw [i_lt] at c_127)
                    (try rw [i_lt, t_0] at c_142)
                    (try rw [i_lt, show (nI 19).toInt = 19 from rfl] at c_148)
                    (try simp only [bI_eq0, decide_eq_false_iff_not, decide_eq_true_eq, Bool.not_eq_false] at c_4)
                    first | (rw [decide_eq_true (p := opR _ _ _ _) (by omega)]; rfl) | (rw [decide_eq_false (p := opR _ _ _ _) (by omega)]; rfl))
                · skip
                  refine g_iload_n dX8_numbersAreSo_145 rfl ?_
                  refine g_bipush (v := nI 19) dX8_numbersAreSo_146 rfl ?_
                  refine g_icmp_gt (tgt := 155) dX8_numbersAreSo_148 (by decide) (fun c_148 => ?_) (fun c_148 => ?_)
                  · skip
                    refine g_iconst (v := nI 0) dX8_numbersAreSo_155 rfl ?_
                    exact g_iret dX8_numbersAreSo_156 (Or.inr ⟨rfl, by first | exact Or.inl rfl | exact Or.inr rfl⟩) (Nat.le_of_ble_eq_true rfl) (Nat.le_of_ble_eq_true rfl) (by
                      refine ⟨?_, rfl, rfl⟩
                      (try rw [i_lt, t_0] at c_85)
                      (try rw [i_lt, t_0] at c_95)
                      (try rw [i_lt, show (nI 31).toInt = 31 from rfl] at c_101)
                      (try rw [i_lt, t_0] at c_111)
                      (try rw [i_lt, show (nI 2).toInt = 2 from rfl] at c_116)
                      (try rw [i_lt] at c_127)
                      (try rw [i_lt, t_0] at c_142)
                      (try rw [i_lt, show (nI 19).toInt = 19 from rfl] at c_148)
                      (try simp only [bI_eq0, decide_eq_false_iff_not, decide_eq_true_eq, Bool.not_eq_false] at c_4)
                      first | (rw [decide_eq_true (p := opR _ _ _ _) (by omega)]; rfl) | (rw [decide_eq_false (p := opR _ _ _ _) (by omega)]; rfl))
                  · skip
                    refine g_iconst (v := nI 1) dX8_numbersAreSo_151 rfl ?_
                    refine g_goto (tgt := 156) dX8_numbersAreSo_152 (by decide) ?_
                    exact g_iret dX8_numbersAreSo_156 (Or.inr ⟨rfl, by first | exact Or.inl rfl | exact Or.inr rfl⟩) (Nat.le_of_ble_eq_true rfl) (Nat.le_of_ble_eq_true rfl) (by
                      refine ⟨?_, rfl, rfl⟩
                      (try rw [i_lt, t_0] at c_85)
                      (try rw [i_lt, t_0] at c_95)
                      (try rw [i_lt, show (nI 31).toInt = 31 from rfl] at c_101)
                      (try rw [i_lt, t_0] at c_111)
                      (try rw [i_lt, show (nI 2).toInt = 2 from rfl] at c_116)
                      (try rw [i_lt] at c_127)
                      (try rw [i_lt, t_0] at c_142)
                      (try rw [i_lt, show (nI 19).toInt = 19 from rfl] at c_148)
                      (try simp only [bI_eq0, decide_eq_false_iff_not, decide_eq_true_eq, Bool.not_eq_false] at c_4)
                      first | (rw [decide_eq_true (p := opR _ _ _ _) (by omega)]; rfl) | (rw [decide_eq_false (p := opR _ _ _ _) (by omega)]; rfl))
  · skip
    refine g_iload_n dX8_numbersAreSo_7 rfl ?_
    refine g_callS dX8_numbersAreSo_8 sX8_mayBeNext (c_mayBe M n c) tX8_mayBeNext (iw_7 21 rfl) rfl rfl (Nat.le_of_ble_eq_true rfl) (Nat.le_of_ble_eq_true rfl) (Nat.le_of_ble_eq_true rfl) (Nat.le_of_ble_eq_true rfl) (Nat.le_of_ble_eq_true rfl) ?_
    intro r9 M9 n9 h9
    obtain ⟨h91, h92, h93⟩ := h9
    rw [h91, h92, h93]
    clear h91 h92 h93 r9 M9 n9
    exact g_iret dX8_numbersAreSo_11 (Or.inr ⟨rfl, bI_01 _⟩) (Nat.le_of_ble_eq_true rfl) (Nat.le_of_ble_eq_true rfl) (by
      refine ⟨?_, rfl, rfl⟩
      (try simp only [bI_eq0, decide_eq_false_iff_not, decide_eq_true_eq, Bool.not_eq_false] at c_4)
      congr 3; apply decide_eq_decide.mpr; constructor <;> intro h9 <;> omega)

