/-! the program is told a statement, is forgotten, is counted -/
/-- a program on the way: its thresholds K, its heads h -/
def wX (M : gM) (p u d bs : Nat) (E : Nat → Nat) (P : List St) (K : List Int) (h : Nat → Bool) : Prop := pR M p ∧ uR M u p ∧ aL M (p + 1) d P.length E ∧ sA M (p + 2) ∧ (∃ T, tH M (p + 11) T K) ∧ (∀ k, k < P.length → sQ M (E k) (P.getD k st0) ∧ mI M (E k) 5 = bI (h k)) ∧ p + 12 < u ∧ u + 28 < bs ∧ (∀ k, k < P.length → bs ≤ E k) ∧ ∀ j k, j < k → k < P.length → E j + 10 ≤ E k
theorem wX.thr {M M1 : gM} {p u d bs : Nat} {E : Nat → Nat} {P : List St} {K K1 : List Int} {h : Nat → Bool} (q : wX M p u d bs E P K h) (ho : Off M M1 (fT2 (p + 11))) (ht : ∃ T, tH M1 (p + 11) T K1) : wX M1 p u d bs E P K1 h := by
  obtain ⟨q1, q2, q3, q4, q5, q6, q7, q8, q9, q10⟩ := q
  refine ⟨q1.off ho, q2.off ho, q3.off ho (by unfold fT2; omega), q4.off ho, ht, fun k hk => ⟨(q6 k hk).1.off ho (fun j _ => by have := q9 k hk; unfold fT2; omega), ?_⟩, q7, q8, q9, q10⟩
  rw [ho.i (by have := q9 k hk; unfold fT2; omega)]
  exact (q6 k hk).2
theorem wX.ap {M : gM} {p u d bs : Nat} {E : Nat → Nat} {P : List St} {K : List Int} {h : Nat → Bool} (q : wX M p u d bs E P K h) {j k : Nat} (hj : j < P.length) (hk : k < P.length) (hne : j ≠ k) : E j + 10 ≤ E k ∨ E k + 10 ≤ E j := by
  rcases Nat.lt_or_gt_of_ne hne with c | c
  · exact Or.inl (q.2.2.2.2.2.2.2.2.2 j k c hk)
  · exact Or.inr (q.2.2.2.2.2.2.2.2.2 k j c hj)
theorem wX.hd {M : gM} {p u d bs t : Nat} {E : Nat → Nat} {P : List St} {K : List Int} {h : Nat → Bool} (q : wX M p u d bs E P K h) (ht : t < P.length) : wX (stI M (E t) 5 1) p u d bs E P K (up1 h t true) := by
  have q' := q
  obtain ⟨q1, q2, q3, q4, ⟨T, q5⟩, q6, q7, q8, q9, q10⟩ := q
  have ho : Off M (stI M (E t) 5 1) (fun i k => i = E t ∧ k = 5) := Off.rf.stI ⟨rfl, rfl⟩
  have hb := q9 t ht
  refine ⟨q1.off ho, q2.off ho, q3.off ho (by omega), q4.off ho, ⟨T, q5.off ho (fun i k z => by unfold fT2 at z; omega)⟩, fun k hk => ⟨(q6 k hk).1.off ho (fun j _ => by omega), ?_⟩, q7, q8, q9, q10⟩
  by_cases c : k = t
  · rw [c, up1_eq]; exact up2_eq _ _ _ _
  · rw [up1_ne _ _ c, ho.i (by have := wX.ap q' hk ht c; omega)]
    exact (q6 k hk).2
theorem sQ.kn {M : gM} {e : Nat} {s : St} (h : sQ M e s) {i : Nat} (h1 : e ≤ i) (h2 : i ≤ e + 9) : mK M i ≠ 15 ∧ mK M i ≤ 15 := by
  have g := h.2.2.2.2.2.2
  by_cases c : i = e
  · rw [c, h.1]; exact ⟨by decide, by decide⟩
  · by_cases c2 : i = e + 1
    · rw [c2, g.1]; exact ⟨by decide, by decide⟩
    · have := (g.2.2 (i - (e + 2)) (by omega)).2
      rw [show e + 1 + 1 + (i - (e + 2)) = i by omega] at this
      rw [this]; exact ⟨by decide, by decide⟩
theorem wS.lt {M : gM} {n p u d bs : Nat} {E : Nat → Nat} {P : List St} (h : wS M p u d bs E P) (hw : gW0 M n) {k : Nat} (hk : k < P.length) : E k + 9 < n := hw.lt ((h.2.2.2.2.2.2.1 k hk).1.kn (by omega) (by omega)).2
theorem sn_l {P : List St} {s : St} {k : Nat} (h : k < P.length) : (P ++ [s]).getD k st0 = P.getD k st0 := by
  rw [List.getD_eq_getElem?_getD, List.getElem?_append_left h, List.getD_eq_getElem?_getD]
theorem sn_r {P : List St} {s : St} : (P ++ [s]).getD P.length st0 = s := by
  rw [List.getD_eq_getElem?_getD, List.getElem?_append_right (Nat.le_refl _)]; simp
theorem wS.push {M M2 M3 : gM} {n p u d d1 bs : Nat} {E : Nat → Nat} {P : List St} {s : St} (h : wS M p u d bs E P) (hw : gW0 M n) (hb : bs ≤ n) (hp : 1 ≤ p) (hd : d = 0 ∨ bs ≤ d) (f2 : Fr n nF M M2) (hs : sQ M2 n s) (h5 : mI M2 n 5 = 0) (hl : aL M3 (p + 1) d1 (P.length + 1) (up1 E P.length n)) (f3 : Fr (n + 10) (fun i => i = p + 1 ∨ i = d) M2 M3) : wX M3 p u d1 bs (up1 E P.length n) (P ++ [s]) (thA P) (isHd P) := by
  have hdn : d < n := hw.lt (by rw [h.2.2.1.2.2.2.1]; decide)
  have h15 : mK M d = 15 := h.2.2.1.2.2.2.1
  have hlt : ∀ k, k < P.length → E k + 9 < n := fun k hk => h.lt hw hk
  obtain ⟨q1, q2, q3, q4, ⟨T, q5⟩, q6, q7, q8, q9, q10, q11⟩ := h
  have rw1 : ∀ lo hi, hi < bs → 1 ≤ lo → (hi < p + 1 ∨ p + 1 < lo) → Rw M M3 lo hi := fun lo hi h1 h2 h3 => (f2.n0 (by omega)).trans (f3.rw (by omega) (fun i a b z => by omega))
  have rwE : ∀ k, k < P.length → Rw M M3 (E k) (E k + 9) := fun k hk => (f2.n0 (hlt k hk)).trans (f3.rw (by have := hlt k hk; omega) (fun i a b z => by
    rcases z with z | z
    · have := q10 k hk; omega
    · exact ((q7 k hk).1.kn a b).1 (by rw [z]; exact h15)))
  have rwn : Rw M2 M3 n (n + 9) := f3.rw (by omega) (fun i a b z => by omega)
  refine ⟨q1.rw (rw1 p p (by omega) hp (by omega)) (Nat.le_refl _) (Nat.le_refl _), q2.rw (rw1 u (u + 28) (by omega) (by omega) (by omega)) (Nat.le_refl _) (Nat.le_refl _), by rw [List.length_append]; exact hl, q4.rw (rw1 (p + 2) (p + 10) (by omega) (by omega) (by omega)) (Nat.le_refl _) (Nat.le_refl _), ⟨T, q5.rw (rw1 (p + 11) (p + 12) (by omega) (by omega) (by omega)) (Nat.le_refl _) (Nat.le_refl _)⟩, fun k hk => ?_, q8, q9, fun k hk => ?_, fun j k hj hk => ?_⟩
  · rw [List.length_append, List.length_singleton] at hk
    by_cases c : k = P.length
    · rw [c, up1_eq, sn_r, isHd_out (Nat.le_refl _)]
      exact ⟨hs.rw rwn (Nat.le_refl _) (Nat.le_refl _), by rw [(rwn n (Nat.le_refl _) (by omega)).2.2.1]; exact h5⟩
    · have hk2 : k < P.length := by omega
      rw [up1_ne _ _ c, sn_l hk2]
      exact ⟨(q7 k hk2).1.rw (rwE k hk2) (Nat.le_refl _) (Nat.le_refl _), by rw [(rwE k hk2 (E k) (Nat.le_refl _) (by omega)).2.2.1]; exact (q7 k hk2).2⟩
  · rw [List.length_append, List.length_singleton] at hk
    by_cases c : k = P.length
    · rw [c, up1_eq]; exact hb
    · rw [up1_ne _ _ c]; exact q10 k (by omega)
  · rw [List.length_append, List.length_singleton] at hk
    rw [up1_ne _ _ (show j ≠ P.length by omega)]
    by_cases c : k = P.length
    · rw [c, up1_eq]; have := hlt j (by omega); omega
    · rw [up1_ne _ _ c]; exact q11 j k hj (by omega)
theorem tH.cong {M : gM} {h : Nat} {T K K1 : List Int} (q : tH M h T K) (e : ∀ v, v ∈ K ↔ v ∈ K1) : tH M h T K1 := ⟨q.1, ⟨q.2.1.1, fun v => (q.2.1.2 v).trans (e v)⟩, q.2.2.1, q.2.2.2.1, q.2.2.2.2.1, fun v hv => q.2.2.2.2.2.1 v ((e v).mpr hv), (e _).mp q.2.2.2.2.2.2.1, (e _).mp q.2.2.2.2.2.2.2⟩
theorem vP_snoc {P : List St} {s : St} (h : vP P) (hl : P.length < 40) (hs : vS s) : vP (P ++ [s]) := by
  refine ⟨by rw [List.length_append, List.length_singleton]; omega, fun a ha => ?_⟩
  rw [List.length_append, List.length_singleton] at ha
  by_cases c : a = P.length
  · rw [c, sn_r]; exact hs
  · rw [sn_l (by omega)]; exact h.2 a (by omega)
theorem wX.wS {M : gM} {p u d bs : Nat} {E : Nat → Nat} {P : List St} {s : St} {h : Nat → Bool} (q : wX M p u d bs E (P ++ [s]) (thA P ++ tS s) h) (hv : vP (P ++ [s])) (hh : ∀ k, k < P.length + 1 → h k = isHd (P ++ [s]) k) : Jvm.Pilot.CWholeSpansLaw_law_r3418_190b4e.wS M p u d bs E (P ++ [s]) := by
  obtain ⟨q1, q2, q3, q4, ⟨T, q5⟩, q6, q7, q8, q9, q10⟩ := q
  exact ⟨q1, q2, q3, q4, ⟨T, q5.cong (thA_snoc P s)⟩, hv, fun k hk => ⟨(q6 k hk).1, by rw [← hh k (by rw [List.length_append, List.length_singleton] at hk; exact hk)]; exact (q6 k hk).2⟩, q7, q8, q9, q10⟩
def fC (p d bs : Nat) : Nat → Prop := fun i => i = p + 1 ∨ i = p + 11 ∨ i = p + 12 ∨ i = d ∨ bs ≤ i
theorem nmI_neg {s : St} (hv : vS s) (h : nmI s < 0) : nmO s = 40 := by
  have : ¬ (11 ≤ s.1 ∧ s.1 ≤ 18) := fun q => by
    rw [nmI_O hv q, i_lt, nI_t (by have := nmO_le hv; omega), t_0] at h
    omega
  unfold nmO
  rw [if_neg (by omega), if_neg (by omega)]
theorem nmI_pos {s : St} (hv : vS s) (h : ¬ nmI s < 0) : nmI s = nI (nmO s) := by
  refine nmI_O hv (Classical.byContradiction fun q => ?_)
  rw [(nmI_no hv).mpr q] at h
  exact h (by decide)
theorem c_taddX (M : gM) (n h : Nat) (T K : List Int) (x : Int32) (hq : tH M h T K) (hl : K.length < 82) : GM μX6_add 1 22 0 0 [.ref h, .int x] M n (fun r M1 n1 => r = none ∧ n1 = n ∧ Off M M1 (fT2 h) ∧ ∃ T1, tH M1 h T1 (K ++ [x.toInt])) := by
  have := c_tadd M n h T K x.toInt hq (i_rng x) hl
  rw [← iZ_of x] at this
  exact this
theorem thA_ln9 {P : List St} (h : P.length < 40) : (thA P).length ≤ 80 := by
  unfold thA
  rw [List.length_append]
  have := thr_len P
  simp only [List.length_cons, List.length_nil]
  omega
/-- what tell brings -/
def tlO (M M1 : gM) (n p u d bs : Nat) (P : List St) (s : St) : Prop := (∃ d1 E1, wS M1 p u d1 bs E1 (P ++ [s]) ∧ (d1 = 0 ∨ bs ≤ d1)) ∧ Fr n (fC p d bs) M M1
theorem sn_len (P : List St) (s : St) : (P ++ [s]).length = P.length + 1 := by rw [List.length_append, List.length_singleton]
set_option maxHeartbeats 4000000 in
set_option maxRecDepth 100000 in
theorem p_t71 {M M3 : gM} {n n3 p u d d1 bs : Nat} {E1 : Nat → Nat} {P : List St} {s : St} (hnn : n ≤ n3) (hvP : vP P) (hs : vS s) (hl : P.length < 40) (hEn : E1 P.length = n) (hd1 : d1 = 0 ∨ bs ≤ d1) (hF : Fr n (fC p d bs) M M3) (hX : wX M3 p u d1 bs E1 (P ++ [s]) (thA P ++ tS s) (isHd P)) : GW μX1_tell (gRm 7 179 11 257) (gTh (fun r M1 n1 => r = some (.int (nI P.length)) ∧ n ≤ n1 ∧ tlO M M1 n p u d bs P s) 11 257) 11 257 71 [some (.ref p), some (.int (nI s.1)), some (.int s.2.1), some (.int s.2.2.1), some (.int s.2.2.2), some (.int (nI P.length)), some (.ref n), none] [] M3 n3 := by
  have hQn : sQ M3 n s := by have := (hX.2.2.2.2.2.1 P.length (by rw [sn_len]; omega)).1; rw [hEn, sn_r] at this; exact this
  refine g_aload dX1_tell_71 rfl ?_
  refine g_callV dX1_tell_73 sX4_named (c_named M3 n3 n s hQn hs) cl5 hQn.1 iX4_named vX4_named (iw_11 11 rfl) rfl rfl (Nat.le_of_ble_eq_true rfl) (Nat.le_of_ble_eq_true rfl) (Nat.le_of_ble_eq_true rfl) (Nat.le_of_ble_eq_true rfl) (Nat.le_of_ble_eq_true rfl) ?_
  intro r9 M9 n9 h9
  obtain ⟨h91, h92, h93⟩ := h9
  rw [h91, h92, h93]
  clear h91 h92 h93 r9 M9 n9
  refine g_istore dX1_tell_76 (Nat.le_of_ble_eq_true rfl) ?_
  refine g_iload dX1_tell_78 rfl ?_
  refine g_if_lt (tgt := 106) dX1_tell_80 (by decide) (fun c_80 => ?_) (fun c_80 => ?_)
  · skip
    refine g_iload dX1_tell_106 rfl ?_
    exact g_iret dX1_tell_108 (Or.inl rfl) (Nat.le_of_ble_eq_true rfl) (Nat.le_of_ble_eq_true rfl) (by
      refine ⟨rfl, hnn, ?_⟩
      first
      | (have q9 := h9
         refine ⟨⟨d1, E1, (hX.hd (t := nmO s) (by rw [sn_len]; exact h9)).wS (vP_snoc hvP hl hs) (fun k hk => ?_), hd1⟩, hF.stI (Or.inr (Or.inr (Or.inr (Or.inr (hX.2.2.2.2.2.2.2.2.1 _ (by rw [sn_len]; exact h9))))))⟩
         rw [isHd_snoc]
         by_cases c : k = nmO s
         · rw [c, up1_eq, decide_eq_true ⟨by omega, rfl⟩, Bool.or_true]
         · rw [up1_ne _ _ c, decide_eq_false (fun z => c z.2.symm), Bool.or_false])
      | (have h9 : nmO s > P.length := by
           first
           | (have q9 := e7
              rw [i_lt, nI_t (by omega), nI_t (by omega)] at c_87; omega)
           | (have := nmI_neg hs c_80; omega)
         refine ⟨⟨d1, E1, hX.wS (vP_snoc hvP hl hs) (fun k hk => ?_), hd1⟩, hF⟩
         rw [isHd_snoc, decide_eq_false (fun z => by omega), Bool.or_false]))
  · skip
    have e7 := nmI_pos hs c_80
    have o7 := nmO_le hs
    rw [e7]
    refine g_iload dX1_tell_83 rfl ?_
    refine g_iload dX1_tell_85 rfl ?_
    refine g_icmp_gt (tgt := 106) dX1_tell_87 (by decide) (fun c_87 => ?_) (fun c_87 => ?_)
    · skip
      refine g_iload dX1_tell_106 rfl ?_
      exact g_iret dX1_tell_108 (Or.inl rfl) (Nat.le_of_ble_eq_true rfl) (Nat.le_of_ble_eq_true rfl) (by
        refine ⟨rfl, hnn, ?_⟩
        first
        | (have q9 := h9
           refine ⟨⟨d1, E1, (hX.hd (t := nmO s) (by rw [sn_len]; exact h9)).wS (vP_snoc hvP hl hs) (fun k hk => ?_), hd1⟩, hF.stI (Or.inr (Or.inr (Or.inr (Or.inr (hX.2.2.2.2.2.2.2.2.1 _ (by rw [sn_len]; exact h9))))))⟩
           rw [isHd_snoc]
           by_cases c : k = nmO s
           · rw [c, up1_eq, decide_eq_true ⟨by omega, rfl⟩, Bool.or_true]
           · rw [up1_ne _ _ c, decide_eq_false (fun z => c z.2.symm), Bool.or_false])
        | (have h9 : nmO s > P.length := by
             first
             | (have q9 := e7
                rw [i_lt, nI_t (by omega), nI_t (by omega)] at c_87; omega)
             | (have := nmI_neg hs c_80; omega)
           refine ⟨⟨d1, E1, hX.wS (vP_snoc hvP hl hs) (fun k hk => ?_), hd1⟩, hF⟩
           rw [isHd_snoc, decide_eq_false (fun z => by omega), Bool.or_false]))
    · skip
      have h9 : nmO s < P.length + 1 := by rw [i_lt, nI_t (by omega), nI_t (by omega)] at c_87; omega
      refine g_aload_n dX1_tell_90 rfl ?_
      refine g_getR (f := 0) dX1_tell_91 cl2 hX.1.1 (by decide) (Or.inl (iw_2 8 rfl)) (Or.inl rfl) rfl hX.1.2.1 ?_
      refine g_iload dX1_tell_94 rfl ?_
      refine g_callV dX1_tell_96 sJx4a65c_get_915e3 (j_get M3 n3 (p + 1) d1 (P ++ [s]).length (nmO s) E1 hX.2.2.1 (by rw [sn_len]; exact h9)) cl0 hX.2.2.1.1 iJx4a65c_get_915e3 vJx4a65c_get_915e3 (iw_11 15 rfl) rfl rfl (Nat.le_of_ble_eq_true rfl) (Nat.le_of_ble_eq_true rfl) (Nat.le_of_ble_eq_true rfl) (Nat.le_of_ble_eq_true rfl) (Nat.le_of_ble_eq_true rfl) ?_
      intro r9 M9 n9 h9
      obtain ⟨h91, h92, h93⟩ := h9
      rw [h91, h92, h93]
      clear h91 h92 h93 r9 M9 n9
      refine g_castSt dX1_tell_99 (iw_8 12 rfl) (hX.2.2.1.2.2.2.2.2.2 _ (by rw [sn_len]; exact h9)).2 ?_
      refine g_iconst (v := nI 1) dX1_tell_102 rfl ?_
      refine g_putI (f := 5) dX1_tell_103 cl5 (hX.2.2.1.2.2.2.2.2.2 _ (by rw [sn_len]; exact h9)).2 (by decide) (Or.inr (List.mem_of_getElem? (i := 15) rfl)) (Or.inl rfl) (Or.inl rfl) (Or.inr ⟨rfl, (Or.inr rfl)⟩) ?_
      refine g_iload dX1_tell_106 rfl ?_
      exact g_iret dX1_tell_108 (Or.inl rfl) (Nat.le_of_ble_eq_true rfl) (Nat.le_of_ble_eq_true rfl) (by
        refine ⟨rfl, hnn, ?_⟩
        first
        | (have q9 := h9
           refine ⟨⟨d1, E1, (hX.hd (t := nmO s) (by rw [sn_len]; exact h9)).wS (vP_snoc hvP hl hs) (fun k hk => ?_), hd1⟩, hF.stI (Or.inr (Or.inr (Or.inr (Or.inr (hX.2.2.2.2.2.2.2.2.1 _ (by rw [sn_len]; exact h9))))))⟩
           rw [isHd_snoc]
           by_cases c : k = nmO s
           · rw [c, up1_eq, decide_eq_true ⟨by omega, rfl⟩, Bool.or_true]
           · rw [up1_ne _ _ c, decide_eq_false (fun z => c z.2.symm), Bool.or_false])
        | (have h9 : nmO s > P.length := by
             first
             | (have q9 := e7
                rw [i_lt, nI_t (by omega), nI_t (by omega)] at c_87; omega)
             | (have := nmI_neg hs c_80; omega)
           refine ⟨⟨d1, E1, hX.wS (vP_snoc hvP hl hs) (fun k hk => ?_), hd1⟩, hF⟩
           rw [isHd_snoc, decide_eq_false (fun z => by omega), Bool.or_false]))

set_option maxHeartbeats 4000000 in
set_option maxRecDepth 100000 in
theorem p_t51 {M M3 : gM} {n n3 p u d d1 bs : Nat} {E1 : Nat → Nat} {P : List St} {s : St} (hnn : n ≤ n3) (hvP : vP P) (hs : vS s) (hl : P.length < 40) (hEn : E1 P.length = n) (hd1 : d1 = 0 ∨ bs ≤ d1) (hF : Fr n (fC p d bs) M M3) (hX : wX M3 p u d1 bs E1 (P ++ [s]) (thA P ++ (if s.1 = 0 ∨ s.1 = 10 then [s.2.2.1.toInt] else [])) (isHd P)) : GW μX1_tell (gRm 7 179 11 257) (gTh (fun r M1 n1 => r = some (.int (nI P.length)) ∧ n ≤ n1 ∧ tlO M M1 n p u d bs P s) 11 257) 11 257 51 [some (.ref p), some (.int (nI s.1)), some (.int s.2.1), some (.int s.2.2.1), some (.int s.2.2.2), some (.int (nI P.length)), some (.ref n), none] [] M3 n3 := by
  have hs19 := hs.1
  have hK := thA_ln9 hl
  have hK2 : (thA P ++ (if s.1 = 0 ∨ s.1 = 10 then [s.2.2.1.toInt] else [])).length < 82 := by rw [List.length_append]; split <;> simp only [List.length_cons, List.length_nil] <;> omega
  obtain ⟨T, hT⟩ := hX.2.2.2.2.1
  refine g_iload_n dX1_tell_51 rfl ?_
  refine g_iconst (v := nI 5) dX1_tell_52 rfl ?_
  refine g_icmp_eq (tgt := 62) dX1_tell_53 (by decide) (fun c_53 => ?_) (fun c_53 => ?_)
  · skip
    refine g_aload_n dX1_tell_62 rfl ?_
    refine g_getR (f := 2) dX1_tell_63 cl2 hX.1.1 (by decide) (Or.inl (iw_2 13 rfl)) (Or.inl rfl) rfl hX.1.2.2.2 ?_
    refine g_iload dX1_tell_66 rfl ?_
    refine g_callV dX1_tell_68 sX6_add (c_taddX M3 n3 (p + 11) T _ s.2.2.2 hT hK2) cl7 hT.1.1 iX6_add vX6_add (iw_11 3 rfl) rfl rfl (Nat.le_of_ble_eq_true rfl) (Nat.le_of_ble_eq_true rfl) (Nat.le_of_ble_eq_true rfl) (Nat.le_of_ble_eq_true rfl) (Nat.le_of_ble_eq_true rfl) ?_
    intro r9 M4 n9 h9
    obtain ⟨h91, h93, hO4, hT4⟩ := h9
    rw [h91, h93]
    clear h91 h93 r9 n9
    first
    | (have q9 := hO4
       have hc : s.1 = 10 ∨ s.1 = 5 := by
         first
         | (rw [show (10 : Int32) = nI 10 from rfl, nI_inj (by omega) (by omega)] at c_59; omega)
         | (have z := c_53; rw [show (5 : Int32) = nI 5 from rfl, nI_inj (by omega) (by omega)] at z; omega)
         | (rw [nI_inj (by omega) (by omega)] at c_59; omega)
         | (rw [nI_inj (by omega) (by omega)] at c_53; omega)
       refine p_t71 hnn hvP hs hl hEn hd1 (hF.trans (Fr.off (n := n) hO4 (fun i k z => by unfold fT2 at z; unfold fC; omega)) (Nat.le_refl _)) ?_
       have hX4 := hX.thr hO4 hT4
       rw [List.append_assoc] at hX4
       unfold tS
       rw [if_pos (c := s.1 = 10 ∨ s.1 = 5) hc]
       exact hX4)
    | (have hc : ¬ (s.1 = 10 ∨ s.1 = 5) := by
         rw [nI_inj (by omega) (by omega)] at c_53 c_59; omega
       refine p_t71 hnn hvP hs hl hEn hd1 hF ?_
       unfold tS
       rw [if_neg (c := s.1 = 10 ∨ s.1 = 5) hc, List.append_nil]
       exact hX)
  · skip
    refine g_iload_n dX1_tell_56 rfl ?_
    refine g_bipush (v := nI 10) dX1_tell_57 rfl ?_
    refine g_icmp_ne (tgt := 71) dX1_tell_59 (by decide) (fun c_59 => ?_) (fun c_59 => ?_)
    · skip
      first
      | (have q9 := hO4
         have hc : s.1 = 10 ∨ s.1 = 5 := by
           first
           | (rw [show (10 : Int32) = nI 10 from rfl, nI_inj (by omega) (by omega)] at c_59; omega)
           | (have z := c_53; rw [show (5 : Int32) = nI 5 from rfl, nI_inj (by omega) (by omega)] at z; omega)
           | (rw [nI_inj (by omega) (by omega)] at c_59; omega)
           | (rw [nI_inj (by omega) (by omega)] at c_53; omega)
         refine p_t71 hnn hvP hs hl hEn hd1 (hF.trans (Fr.off (n := n) hO4 (fun i k z => by unfold fT2 at z; unfold fC; omega)) (Nat.le_refl _)) ?_
         have hX4 := hX.thr hO4 hT4
         rw [List.append_assoc] at hX4
         unfold tS
         rw [if_pos (c := s.1 = 10 ∨ s.1 = 5) hc]
         exact hX4)
      | (have hc : ¬ (s.1 = 10 ∨ s.1 = 5) := by
           rw [nI_inj (by omega) (by omega)] at c_53 c_59; omega
         refine p_t71 hnn hvP hs hl hEn hd1 hF ?_
         unfold tS
         rw [if_neg (c := s.1 = 10 ∨ s.1 = 5) hc, List.append_nil]
         exact hX)
    · skip
      refine g_aload_n dX1_tell_62 rfl ?_
      refine g_getR (f := 2) dX1_tell_63 cl2 hX.1.1 (by decide) (Or.inl (iw_2 13 rfl)) (Or.inl rfl) rfl hX.1.2.2.2 ?_
      refine g_iload dX1_tell_66 rfl ?_
      refine g_callV dX1_tell_68 sX6_add (c_taddX M3 n3 (p + 11) T _ s.2.2.2 hT hK2) cl7 hT.1.1 iX6_add vX6_add (iw_11 3 rfl) rfl rfl (Nat.le_of_ble_eq_true rfl) (Nat.le_of_ble_eq_true rfl) (Nat.le_of_ble_eq_true rfl) (Nat.le_of_ble_eq_true rfl) (Nat.le_of_ble_eq_true rfl) ?_
      intro r9 M4 n9 h9
      obtain ⟨h91, h93, hO4, hT4⟩ := h9
      rw [h91, h93]
      clear h91 h93 r9 n9
      first
      | (have q9 := hO4
         have hc : s.1 = 10 ∨ s.1 = 5 := by
           first
           | (rw [show (10 : Int32) = nI 10 from rfl, nI_inj (by omega) (by omega)] at c_59; omega)
           | (have z := c_53; rw [show (5 : Int32) = nI 5 from rfl, nI_inj (by omega) (by omega)] at z; omega)
           | (rw [nI_inj (by omega) (by omega)] at c_59; omega)
           | (rw [nI_inj (by omega) (by omega)] at c_53; omega)
         refine p_t71 hnn hvP hs hl hEn hd1 (hF.trans (Fr.off (n := n) hO4 (fun i k z => by unfold fT2 at z; unfold fC; omega)) (Nat.le_refl _)) ?_
         have hX4 := hX.thr hO4 hT4
         rw [List.append_assoc] at hX4
         unfold tS
         rw [if_pos (c := s.1 = 10 ∨ s.1 = 5) hc]
         exact hX4)
      | (have hc : ¬ (s.1 = 10 ∨ s.1 = 5) := by
           rw [nI_inj (by omega) (by omega)] at c_53 c_59; omega
         refine p_t71 hnn hvP hs hl hEn hd1 hF ?_
         unfold tS
         rw [if_neg (c := s.1 = 10 ∨ s.1 = 5) hc, List.append_nil]
         exact hX)

set_option maxHeartbeats 4000000 in
set_option maxRecDepth 100000 in
theorem c_tell (M : gM) (n p u d bs : Nat) (E : Nat → Nat) (P : List St) (s : St) (hW : wS M p u d bs E P) (hs : vS s) (hl : P.length < 40) (hb : bs ≤ n) (hp1 : 1 ≤ p) (hd : d = 0 ∨ bs ≤ d) : GM μX1_tell 7 179 11 257 [.ref p, .int (nI s.1), .int s.2.1, .int s.2.2.1, .int s.2.2.2] M n (fun r M1 n1 => r = some (.int (nI P.length)) ∧ n ≤ n1 ∧ tlO M M1 n p u d bs P s) := by
  refine GM.ofW (by decide) rfl (Nat.le_of_ble_eq_true rfl) rfl ?_
  refine g_facts (fun hw => ?_)
  have hs19 := hs.1
  have hL := hW.2.2.1
  refine g_aload_n dX1_tell_0 rfl ?_
  refine g_getR (f := 0) dX1_tell_1 cl2 hW.1.1 (by decide) (Or.inl (iw_2 8 rfl)) (Or.inl rfl) rfl hW.1.2.1 ?_
  refine g_callV dX1_tell_4 sJx4a65c_size_8abf5 (j_size M n (p + 1) d P.length E hL) cl0 hL.1 iJx4a65c_size_8abf5 vJx4a65c_size_8abf5 (iw_8 13 rfl) rfl rfl (Nat.le_of_ble_eq_true rfl) (Nat.le_of_ble_eq_true rfl) (Nat.le_of_ble_eq_true rfl) (Nat.le_of_ble_eq_true rfl) (Nat.le_of_ble_eq_true rfl) ?_
  intro r9 M9 n9 h9
  obtain ⟨h91, h92, h93⟩ := h9
  rw [h91, h92, h93]
  clear h91 h92 h93 r9 M9 n9
  refine g_istore dX1_tell_7 (Nat.le_of_ble_eq_true rfl) ?_
  refine g_new dX1_tell_9 cl5 (iw_8 12 rfl) (iw_8 10 rfl) (iw_8 11 rfl) (Nat.le_of_ble_eq_true rfl) (Nat.le_of_ble_eq_true rfl) ?_
  have k1 : mK (stN M n 5 0) n = 5 := stN_Ks M n 5 0
  have z1 : mI (stN M n 5 0) n = fun _ => 0 := stN_Is M n 5 0
  have f1 : Fr n nF M (stN M n 5 0) := Fr.rf.stN (Nat.le_refl _)
  generalize stN M n 5 0 = M1 at k1 z1 f1 ⊢
  refine g_dup dX1_tell_12 rfl ?_
  refine g_iload_n dX1_tell_13 rfl ?_
  refine g_iload_n dX1_tell_14 rfl ?_
  refine g_iload_n dX1_tell_15 rfl ?_
  refine g_iload dX1_tell_16 rfl ?_
  refine g_callI dX1_tell_18 sX4_init (i_stat M1 (n + 1) n s k1 z1 rfl) rfl rfl iX4_init (iw_8 14 rfl) rfl rfl (Nat.le_of_ble_eq_true rfl) (Nat.le_of_ble_eq_true rfl) (Nat.le_of_ble_eq_true rfl) (Nat.le_of_ble_eq_true rfl) (Nat.le_of_ble_eq_true rfl) ?_
  intro r9 M2 n9 h9
  obtain ⟨h91, h93, hs2, h52, hf2⟩ := h9
  rw [h91, h93]
  clear h91 h93 r9 n9
  have f12 := f1.trans hf2 (Nat.le_refl _)
  have hdn : d < n := hw.lt (by rw [hL.2.2.2.1]; decide)
  have rp := f12.n0 (lo := p) (hi := p + 1) (by have := hW.2.2.2.2.2.2.2.1; have := hW.2.2.2.2.2.2.2.2.1; omega)
  have hp2 : pR M2 p := hW.1.rw rp (Nat.le_refl _) (by omega)
  have hL2 : aL M2 (p + 1) d P.length E := hL.rw (fun i a b => rp i (by omega) (by omega)) (f12.n0 hdn) (fun k hk => (f12.1 _ (by have := hW.lt hw hk; omega)).1)
  refine g_astore dX1_tell_21 (Nat.le_of_ble_eq_true rfl) ?_
  refine g_aload_n dX1_tell_23 rfl ?_
  refine g_getR (f := 0) dX1_tell_24 cl2 hp2.1 (by decide) (Or.inl (iw_2 8 rfl)) (Or.inl rfl) rfl hp2.2.1 ?_
  refine g_aload dX1_tell_27 rfl ?_
  refine g_callV dX1_tell_29 sJx4a65c_add_9ea2d (j_add M2 (n + 10) (p + 1) d P.length n E hL2 hl hs2.1) cl0 hL2.1 iJx4a65c_add_9ea2d vJx4a65c_add_9ea2d (iw_8 23 rfl) rfl rfl (Nat.le_of_ble_eq_true rfl) (Nat.le_of_ble_eq_true rfl) (Nat.le_of_ble_eq_true rfl) (Nat.le_of_ble_eq_true rfl) (Nat.le_of_ble_eq_true rfl) ?_
  intro r9 M3 n9 h9
  obtain ⟨h91, d1, hL3, hn3, hf3⟩ := h9
  rw [h91]
  clear h91 r9
  obtain ⟨T, hT⟩ : ∃ T, tH M3 (p + 11) T (thA P) := (hW.push hw hb hp1 hd f12 hs2 h52 hL3 hf3).2.2.2.2.1
  have hX := hW.push hw hb hp1 hd f12 hs2 h52 hL3 hf3
  have hn3' : n ≤ n9 := by omega
  have hd1 : d1 = 0 ∨ bs ≤ d1 := by omega
  have hF : Fr n (fC p d bs) M M3 := (f12.mono (fun i z => absurd z (fun q => q))).trans ((hf3.mono (fun i z => by unfold fC; omega)).less (by omega)) (Nat.le_refl _)
  refine g_pop dX1_tell_32 rfl ?_
  refine g_iload_n dX1_tell_33 rfl ?_
  refine g_if_eq (tgt := 43) dX1_tell_34 (by decide) (fun c_34 => ?_) (fun c_34 => ?_)
  · skip
    refine g_aload_n dX1_tell_43 rfl ?_
    refine g_getR (f := 2) dX1_tell_44 cl2 hX.1.1 (by decide) (Or.inl (iw_2 13 rfl)) (Or.inl rfl) rfl hX.1.2.2.2 ?_
    refine g_iload_n dX1_tell_47 rfl ?_
    refine g_callV dX1_tell_48 sX6_add (c_taddX M3 n9 (p + 11) T _ s.2.2.1 hT (by have := thA_ln9 hl; omega)) cl7 hT.1.1 iX6_add vX6_add (iw_11 3 rfl) rfl rfl (Nat.le_of_ble_eq_true rfl) (Nat.le_of_ble_eq_true rfl) (Nat.le_of_ble_eq_true rfl) (Nat.le_of_ble_eq_true rfl) (Nat.le_of_ble_eq_true rfl) ?_
    intro r9 M4 n9 h9
    obtain ⟨h91, h93, hO4, hT4⟩ := h9
    rw [h91, h93]
    clear h91 h93 r9 n9
    first
    | (have q9 := hO4
       have hc : s.1 = 0 ∨ s.1 = 10 := by
         first
         | (rw [nI_inj (by omega) (by omega)] at c_40; omega)
         | (rw [show (0 : Int32) = nI 0 from rfl, nI_inj (by omega) (by omega)] at c_34; omega)
       refine p_t51 (E1 := up1 E P.length n) hn3' hW.2.2.2.2.2.1 hs hl (up1_eq _ _ _) hd1 (hF.trans (Fr.off (n := n) hO4 (fun i k z => by unfold fT2 at z; unfold fC; omega)) (Nat.le_refl _)) ?_
       rw [if_pos hc]
       exact hX.thr hO4 hT4)
    | (have hc : ¬ (s.1 = 0 ∨ s.1 = 10) := by
         rw [nI_inj (by omega) (by omega)] at c_40
         rw [show (0 : Int32) = nI 0 from rfl, nI_inj (by omega) (by omega)] at c_34; omega
       refine p_t51 (E1 := up1 E P.length n) hn3' hW.2.2.2.2.2.1 hs hl (up1_eq _ _ _) hd1 hF ?_
       rw [if_neg hc, List.append_nil]
       exact hX)
  · skip
    refine g_iload_n dX1_tell_37 rfl ?_
    refine g_bipush (v := nI 10) dX1_tell_38 rfl ?_
    refine g_icmp_ne (tgt := 51) dX1_tell_40 (by decide) (fun c_40 => ?_) (fun c_40 => ?_)
    · skip
      first
      | (have q9 := hO4
         have hc : s.1 = 0 ∨ s.1 = 10 := by
           first
           | (rw [nI_inj (by omega) (by omega)] at c_40; omega)
           | (rw [show (0 : Int32) = nI 0 from rfl, nI_inj (by omega) (by omega)] at c_34; omega)
         refine p_t51 (E1 := up1 E P.length n) hn3' hW.2.2.2.2.2.1 hs hl (up1_eq _ _ _) hd1 (hF.trans (Fr.off (n := n) hO4 (fun i k z => by unfold fT2 at z; unfold fC; omega)) (Nat.le_refl _)) ?_
         rw [if_pos hc]
         exact hX.thr hO4 hT4)
      | (have hc : ¬ (s.1 = 0 ∨ s.1 = 10) := by
           rw [nI_inj (by omega) (by omega)] at c_40
           rw [show (0 : Int32) = nI 0 from rfl, nI_inj (by omega) (by omega)] at c_34; omega
         refine p_t51 (E1 := up1 E P.length n) hn3' hW.2.2.2.2.2.1 hs hl (up1_eq _ _ _) hd1 hF ?_
         rw [if_neg hc, List.append_nil]
         exact hX)
    · skip
      refine g_aload_n dX1_tell_43 rfl ?_
      refine g_getR (f := 2) dX1_tell_44 cl2 hX.1.1 (by decide) (Or.inl (iw_2 13 rfl)) (Or.inl rfl) rfl hX.1.2.2.2 ?_
      refine g_iload_n dX1_tell_47 rfl ?_
      refine g_callV dX1_tell_48 sX6_add (c_taddX M3 n9 (p + 11) T _ s.2.2.1 hT (by have := thA_ln9 hl; omega)) cl7 hT.1.1 iX6_add vX6_add (iw_11 3 rfl) rfl rfl (Nat.le_of_ble_eq_true rfl) (Nat.le_of_ble_eq_true rfl) (Nat.le_of_ble_eq_true rfl) (Nat.le_of_ble_eq_true rfl) (Nat.le_of_ble_eq_true rfl) ?_
      intro r9 M4 n9 h9
      obtain ⟨h91, h93, hO4, hT4⟩ := h9
      rw [h91, h93]
      clear h91 h93 r9 n9
      first
      | (have q9 := hO4
         have hc : s.1 = 0 ∨ s.1 = 10 := by
           first
           | (rw [nI_inj (by omega) (by omega)] at c_40; omega)
           | (rw [show (0 : Int32) = nI 0 from rfl, nI_inj (by omega) (by omega)] at c_34; omega)
         refine p_t51 (E1 := up1 E P.length n) hn3' hW.2.2.2.2.2.1 hs hl (up1_eq _ _ _) hd1 (hF.trans (Fr.off (n := n) hO4 (fun i k z => by unfold fT2 at z; unfold fC; omega)) (Nat.le_refl _)) ?_
         rw [if_pos hc]
         exact hX.thr hO4 hT4)
      | (have hc : ¬ (s.1 = 0 ∨ s.1 = 10) := by
           rw [nI_inj (by omega) (by omega)] at c_40
           rw [show (0 : Int32) = nI 0 from rfl, nI_inj (by omega) (by omega)] at c_34; omega
         refine p_t51 (E1 := up1 E P.length n) hn3' hW.2.2.2.2.2.1 hs hl (up1_eq _ _ _) hd1 hF ?_
         rw [if_neg hc, List.append_nil]
         exact hX)

