/-! the reference as a whole: its state; run -/
/-- cells of the reference -/
def fX (m : Nat) : Nat → Nat → Prop := fun i _ => m ≤ i ∧ i ≤ m + 11
theorem fU_X {m i k : Nat} (h : fU m i k) : fX m i k := by unfold fU fA at h; unfold fX; omega
theorem fA_X {m i k : Nat} (h : fA m i k) : fX m i k := fU_X (fA_U h)
/-- program, first sets, run since then, how the trial ended, its numbers -/
abbrev MS : Type := List St × Ev × Bool × Int32 × (Nat → Int32)
def zP (σ : MS) : List St := σ.1
def zF (σ : MS) : Ev := σ.2.1
def zR (σ : MS) : Bool := σ.2.2.1
def zH (σ : MS) : Int32 := σ.2.2.2.1
def zN (σ : MS) : Nat → Int32 := σ.2.2.2.2
/-- what is sound of the state itself -/
def okZ (σ : MS) : Prop := vP (zP σ) ∧ ∀ p, p < 8 → okX (zF σ p) ∧ (zF σ p).length = 1
theorem okZ.gd {σ : MS} (h : okZ σ) : gdF (zF σ) := fun p hp => ⟨(h.2 p hp).1, fun q => by have := (h.2 p hp).2; rw [q] at this; cases this⟩
def rQ (M : gM) (m : Nat) (σ : MS) (S : Nat → List Sp) : Prop := rS M m S ∧ rP M m (zP σ) ∧ okZ σ ∧ (∀ p, p < 8 → S (320 + p) = zF σ p) ∧ mI M m 11 = bI (zR σ) ∧ mI M m 19 = zH σ ∧ (∀ p, p < 8 → mI M (m + 11) p = zN σ p) ∧ (zR σ = true → rA M m (runA (zP σ) (zF σ)).1 S ∧ mI M m 13 = nI (runA (zP σ) (zF σ)).2.1 ∧ mI M m 15 = nI (runA (zP σ) (zF σ)).2.2)
def rM (M : gM) (m : Nat) (σ : MS) : Prop := ∃ S, rQ M m σ S
theorem fin_facts {P : List St} {first : Ev} (hP : vP P) (hf : gdF first) : gdA P (runA P first).1 ∧ gdA P (fin P (iniA P first) 1000000).1 := by
  have hd := iniA_gd (P := P) hf
  have key : ∀ k A, gdA P A → gdA P (fin P A k).1 := by
    intro k
    induction k with
    | zero => intro A h; exact h
    | succ k ih =>
      intro A h
      unfold fin
      have h1 := (swp_facts hP h P.length (Nat.le_refl _)).1
      split
      · exact ih _ h1
      · exact h1
  have h0 := key 1000000 _ hd
  exact ⟨narK_gd hP hf (narK_gd hP hf h0 0 _ (Nat.le_refl _)) _ _ (Nat.le_refl _), h0⟩
theorem ter_run {P : List St} {first : Ev} (hP : vP P) (hf : gdF first) : Ter P (iniA P first) 422722 ∧ fin P (iniA P first) 1000000 = fin P (iniA P first) 422722 := by
  have h := ter_of hP 211360 (iniA P first) (iniA_gd hf) (phi_le hP.1 _)
  exact ⟨h, fin_up 1000000 h (by omega)⟩
set_option maxHeartbeats 4000000 in
set_option maxRecDepth 100000 in
theorem l_rn22 {M : gM} {n m : Nat} {Q : gθ} (hm : gMod M m) (hk : ∀ M1, Off M M1 (fun i k => i = m + 9 ∨ i = m + 10) → (∀ t, t < 40 → mI M1 (m + 9) t = 0 ∧ mI M1 (m + 10) t = 0) → GW μX9_run (gRm 8 199 0 0) Q 0 0 48 [some (.ref m), none, none] [] M1 n) : ∀ (d : Nat) (s : Nat) (M1 : gM), 40 - s < d → s ≤ 40 → Off M M1 (fun i k => i = m + 9 ∨ i = m + 10) → (∀ t, t < s → mI M1 (m + 9) t = 0 ∧ mI M1 (m + 10) t = 0) → GW μX9_run (gRm 8 199 0 0) Q 0 0 22 [some (.ref m), some (.int (nI s)), none] [] M1 n := by
  intro d
  induction d with
  | zero =>
    intro s M1 hd hs hO hZ
    omega
  | succ d ih =>
    intro s M1 hd hs hO hZ
    have hm1 : gMod M1 m := hm.off hO
    refine g_iload_n dX9_run_22 rfl ?_
    refine g_bipush (v := nI 40) dX9_run_23 rfl ?_
    refine g_icmp_ge (tgt := 48) dX9_run_25 (by decide) (fun c_25 => ?_) (fun c_25 => ?_)
    · skip
      rw [nI_leI (by omega) (by omega)] at c_25
      have e : s = 40 := by omega
      subst e
      refine g_drop 1 ?_
      exact hk M1 hO hZ
    · skip
      rw [nI_leI (by omega) (by omega)] at c_25
      refine g_aload_n dX9_run_28 rfl ?_
      refine g_getR (f := 12) dX9_run_29 cl10 hm1.1 (by decide) (Or.inl (iw_6 5 rfl)) (Or.inl rfl) rfl hm1.r_reached ?_
      refine g_iload_n dX9_run_32 rfl ?_
      refine g_iconst (v := nI 0) dX9_run_33 rfl ?_
      refine g_bastore dX9_run_34 (j := s) hm1.k_reached hm1.n_reached rfl (by omega) (by decide) (Or.inl rfl) ?_
      refine g_aload_n dX9_run_35 rfl ?_
      refine g_getR (f := 16) dX9_run_36 cl10 hm1.1 (by decide) (Or.inl (iw_6 6 rfl)) (Or.inl rfl) rfl hm1.r_changes ?_
      refine g_iload_n dX9_run_39 rfl ?_
      refine g_iconst (v := nI 0) dX9_run_40 rfl ?_
      refine g_iastore dX9_run_41 (j := s) hm1.k_changes hm1.n_changes rfl (by omega) (by decide) ?_
      refine g_iinc dX9_run_42 rfl (nI_1 s) (Nat.le_of_ble_eq_true rfl) ?_
      refine g_goto (tgt := 22) dX9_run_45 (by decide) ?_
      refine ih (s + 1) _ (by omega) (by omega) ((hO.stI (Or.inl rfl)).stI (Or.inr rfl)) (fun t ht => ?_)
      rw [mI_st, mI_st, mI_st, mI_st]
      by_cases e : t = s
      · subst e
        rw [if_neg (by omega), if_pos ⟨rfl, rfl⟩, if_pos ⟨rfl, rfl⟩]
        exact ⟨rfl, rfl⟩
      · rw [if_neg (by omega), if_neg (by omega), if_neg (by omega), if_neg (by omega)]
        exact hZ t (by omega)

set_option maxHeartbeats 4000000 in
set_option maxRecDepth 100000 in
theorem l_rn68 {M : gM} {n m : Nat} {S : Nat → List Sp} {Q : gθ} (hk : ∀ M1, Off M M1 (fA m) → rS M1 m (blk S 0 320 8) → GW μX9_run (gRm 8 199 0 0) Q 0 0 95 [some (.ref m), none, none] [] M1 n) : ∀ (d : Nat) (j : Nat) (M1 : gM), 8 - j < d → j ≤ 8 → Off M M1 (fA m) → rS M1 m (blk S 0 320 j) → GW μX9_run (gRm 8 199 0 0) Q 0 0 68 [some (.ref m), some (.int (nI j)), none] [] M1 n := by
  intro d
  induction d with
  | zero =>
    intro j M1 hd hj hO hG1
    omega
  | succ d ih =>
    intro j M1 hd hj hO hG1
    refine g_iload_n dX9_run_68 rfl ?_
    refine g_bipush (v := nI 8) dX9_run_69 rfl ?_
    refine g_icmp_ge (tgt := 95) dX9_run_71 (by decide) (fun c_71 => ?_) (fun c_71 => ?_)
    · skip
      rw [nI_leI (by omega) (by omega)] at c_71
      have e8 : j = 8 := by omega
      subst e8
      refine g_drop 1 ?_
      exact hk M1 hO hG1
    · skip
      rw [nI_leI (by omega) (by omega)] at c_71
      refine g_aload_n dX9_run_74 rfl ?_
      refine g_aload_n dX9_run_75 rfl ?_
      refine g_iconst (v := nI 0) dX9_run_76 rfl ?_
      refine g_iload_n dX9_run_77 rfl ?_
      refine g_callV dX9_run_78 sX9_fact (m_fact M1 n m 0 j) cl10 hG1.1.1 iX9_fact vX9_fact (iw_24 23 rfl) rfl rfl (Nat.le_of_ble_eq_true rfl) (Nat.le_of_ble_eq_true rfl) (Nat.le_of_ble_eq_true rfl) (Nat.le_of_ble_eq_true rfl) (Nat.le_of_ble_eq_true rfl) ?_
      intro r9 M9 n9 h9
      obtain ⟨h91, h92, h93⟩ := h9
      rw [h91, h92, h93]
      clear h91 h92 h93 r9 M9 n9
      refine g_sipush (v := nI 320) dX9_run_81 rfl ?_
      refine g_iload_n dX9_run_84 rfl ?_
      refine g_iadd dX9_run_85 ?_
      rw [nI_add]
      refine g_callV dX9_run_86 sX9_copy (s_copy M1 n m (8 * 0 + j) (320 + j) _ hG1 (by omega) (by omega)) cl10 hG1.1.1 iX9_copy vX9_copy (iw_25 3 rfl) rfl rfl (Nat.le_of_ble_eq_true rfl) (Nat.le_of_ble_eq_true rfl) (Nat.le_of_ble_eq_true rfl) (Nat.le_of_ble_eq_true rfl) (Nat.le_of_ble_eq_true rfl) ?_
      intro r9 M2 n9 h9
      obtain ⟨h91, h93, hO2, hG2⟩ := h9
      rw [h91, h93]
      clear h91 h93 r9 n9
      rw [show 8 * 0 + j = 0 + j by omega, blk_1 (by omega)] at hG2
      refine g_iinc dX9_run_89 rfl (nI_1 j) (Nat.le_of_ble_eq_true rfl) ?_
      refine g_goto (tgt := 68) dX9_run_92 (by decide) ?_
      exact ih (j + 1) M2 (by omega) (by omega) (hO.trans hO2) hG2

set_option maxHeartbeats 4000000 in
set_option maxRecDepth 100000 in
theorem p_rn66 {M M2 : gM} {n m : Nat} {σ : MS} {S : Nat → List Sp} {v : Int32} (hG : rS M m S) (hP : rP M m (zP σ)) (hz : okZ σ) (h320 : ∀ p, p < 8 → S (320 + p) = zF σ p) (h19 : mI M m 19 = zH σ) (h11b : ∀ p, p < 8 → mI M (m + 11) p = zN σ p) (hO2 : Off M M2 (fU m)) (hG2 : rS M2 m S) (q0 : mI M2 m 0 = 0) (q13 : mI M2 m 13 = nI 0) (q14 : mI M2 m 14 = nI 0) (q15 : mI M2 m 15 = nI 0) (hZ : ∀ t, t < 40 → mI M2 (m + 9) t = 0 ∧ mI M2 (m + 10) t = 0) (hv : v = bI (decide (0 < (zP σ).length))) : GW μX9_run (gRm 8 199 0 0) (gTh (fun r M1 n1 => r = some (.int (nI (runA (zP σ) (zF σ)).2.1)) ∧ n1 = n ∧ Off M M1 (fX m) ∧ rM M1 m (zP σ, zF σ, true, zH σ, zN σ) ∧ mI M1 m 0 = 0) 0 0) 0 0 66 [some (.ref m), none, none] [] (stI M2 (m + 9) 0 v) n := by
  subst hv
  have l40 := hP.2.1
  have hvP := hz.1
  have hf := hz.gd
  have ht := ter_run (first := zF σ) hvP hf
  have hgd := fin_facts (first := zF σ) hvP hf
  have hO3 : Off M (stI M2 (m + 9) 0 (bI (decide (0 < (zP σ).length)))) (fU m) := hO2.stI (Or.inr (Or.inr (Or.inl rfl)))
  have hG3 : rS (stI M2 (m + 9) 0 (bI (decide (0 < (zP σ).length)))) m S := hG2.offI (Q := fun i k => i = m + 9) (Off.rf.stI rfl) (fun i k h => by unfold fA; omega)
  have h9 : ∀ t, t < 40 → mI (stI M2 (m + 9) 0 (bI (decide (0 < (zP σ).length)))) (m + 9) t = bI (aR (iniA (zP σ) (zF σ)) t) := fun t ht => by
    show _ = bI (decide (t = 0 ∧ 0 < (zP σ).length))
    rw [mI_st]
    by_cases e : t = 0
    · subst e; rw [if_pos ⟨rfl, rfl⟩]; simp
    · rw [if_neg (by omega), (hZ t ht).1, decide_eq_false (fun h => e h.1)]; rfl
  have h10 : ∀ t, t < 40 → mI (stI M2 (m + 9) 0 (bI (decide (0 < (zP σ).length)))) (m + 10) t = nI (aC (iniA (zP σ) (zF σ)) t) := fun t ht => by
    rw [mI_st, if_neg (by omega), (hZ t ht).2]; rfl
  have r0 : mI (stI M2 (m + 9) 0 (bI (decide (0 < (zP σ).length)))) m 0 = 0 := by rw [mI_st, if_neg (by omega)]; exact q0
  have r13 : mI (stI M2 (m + 9) 0 (bI (decide (0 < (zP σ).length)))) m 13 = nI 0 := by rw [mI_st, if_neg (by omega)]; exact q13
  have r14 : mI (stI M2 (m + 9) 0 (bI (decide (0 < (zP σ).length)))) m 14 = nI 0 := by rw [mI_st, if_neg (by omega)]; exact q14
  have r15 : mI (stI M2 (m + 9) 0 (bI (decide (0 < (zP σ).length)))) m 15 = nI 0 := by rw [mI_st, if_neg (by omega)]; exact q15
  generalize stI M2 (m + 9) 0 (bI (decide (0 < (zP σ).length))) = M3 at hO3 hG3 h9 h10 r0 r13 r14 r15 ⊢
  refine g_iconst (v := nI 0) dX9_run_66 rfl ?_
  refine g_istore_n dX9_run_67 (Nat.le_of_ble_eq_true rfl) ?_
  refine l_rn68 (S := S) (fun M4 hO4 hG4 => ?_) 9 0 M3 (by omega) (by omega) Off.rf (by rw [blk_0]; exact hG3)
  have hI4 : rnI M M4 m (zF σ) (iniA (zP σ) (zF σ)) 0 (blk S 0 320 8) := by
    refine ⟨hO3.trans (hO4.mono (fun i k h => fA_U h)), hG4, ⟨fun t ht => (hO4.i (by unfold fA; omega)).trans (h9 t ht), fun t ht => (hO4.i (by unfold fA; omega)).trans (h10 t ht), (hO4.i (by unfold fA; omega)).trans r14, fun t ht hr p hp => ?_⟩, fun p hp => ?_, (hO4.i (by unfold fA; omega)).trans r13, (hO4.i (by unfold fA; omega)).trans r15, (hO4.i (by unfold fA; omega)).trans r0⟩
    · have h' : decide (t = 0 ∧ 0 < (zP σ).length) = true := hr
      rw [decide_eq_true_eq] at h'
      show _ = (if t = 0 then cut8 (zF σ) else fun _ => []) p
      rw [if_pos h'.1, cut8_lt hp, h'.1]
      unfold blk
      rw [if_pos (by omega), show 8 * 0 + p - 0 = p by omega]
      exact h320 p hp
    · unfold blk; rw [if_neg (by omega)]; exact h320 p hp
  have r0' : mI M4 m 0 = 0 := (hO4.i (by unfold fA; omega)).trans r0
  clear r0 r13 r14 r15 h9 h10 q0 q13 q14 q15 hZ
  refine g_iconst (v := nI 1) dX9_run_95 rfl ?_
  refine g_istore_n dX9_run_96 (Nat.le_of_ble_eq_true rfl) ?_
  refine l_rn97 (M := M) (first := zF σ) hvP hP 422722 (iniA (zP σ) (zF σ)) 0 M4 _ ht.1 (iniA_gd hf) (fun u => Nat.le_refl _) (by omega) hI4 (fun M5 S5 hI5 => ?_)
  rw [← ht.2, Nat.zero_add] at hI5
  refine g_aload_n dX9_run_210 rfl ?_
  refine g_callV dX9_run_211 sX9_narrow (s_narrow M5 n m S5 (zP σ) (fin (zP σ) (iniA (zP σ) (zF σ)) 1000000).1 0 (zF σ) hI5.2.1 hvP hf (hP.offU hI5.1) hgd.2 hI5.2.2.1 hI5.2.2.2.2.2.1 hI5.2.2.2.1) cl10 hI5.2.1.1.1 iX9_narrow vX9_narrow (iw_30 17 rfl) rfl rfl (Nat.le_of_ble_eq_true rfl) (Nat.le_of_ble_eq_true rfl) (Nat.le_of_ble_eq_true rfl) (Nat.le_of_ble_eq_true rfl) (Nat.le_of_ble_eq_true rfl) ?_
  intro r9 M6 n9 h9
  obtain ⟨h91, h93, S6, hI6⟩ := h9
  rw [h91, h93]
  clear h91 h93 r9 n9
  refine g_aload_n dX9_run_214 rfl ?_
  refine g_callV dX9_run_215 sX9_narrow (s_narrow M6 n m S6 (zP σ) _ _ (zF σ) hI6.2.1 hvP hf ((hP.offU hI5.1).offN hI6.1) (narK_gd hvP hf hgd.2 0 _ (Nat.le_refl _)) hI6.2.2.1 hI6.2.2.2.1 hI6.2.2.2.2) cl10 hI6.2.1.1.1 iX9_narrow vX9_narrow (iw_30 17 rfl) rfl rfl (Nat.le_of_ble_eq_true rfl) (Nat.le_of_ble_eq_true rfl) (Nat.le_of_ble_eq_true rfl) (Nat.le_of_ble_eq_true rfl) (Nat.le_of_ble_eq_true rfl) ?_
  intro r9 M7 n9 h9
  obtain ⟨h91, h93, S7, hI7⟩ := h9
  rw [h91, h93]
  clear h91 h93 r9 n9
  refine g_aload_n dX9_run_218 rfl ?_
  refine g_iconst (v := nI 1) dX9_run_219 rfl ?_
  refine g_putI (f := 11) dX9_run_220 cl10 hI7.2.1.1.1 (by decide) (Or.inl (iw_12 21 rfl)) (Or.inl rfl) (Or.inl rfl) (Or.inr ⟨rfl, (Or.inr rfl)⟩) ?_
  refine g_aload_n dX9_run_223 rfl ?_
  refine g_getI (f := 13) dX9_run_224 cl10 hI7.2.1.1.1 (by decide) (Or.inl (iw_24 20 rfl)) (Or.inl rfl) (Or.inl rfl) ?_
  rw [show mI (stI M7 m 11 (nI 1)) m 13 = nI (fin (zP σ) (iniA (zP σ) (zF σ)) 1000000).2 by rw [mI_st, if_neg (by omega), hI7.1.i (by unfold fN fA; omega), hI6.1.i (by unfold fN fA; omega)]; exact hI5.2.2.2.2.1]
  exact g_iret dX9_run_227 (Or.inl rfl) (Nat.le_of_ble_eq_true rfl) (Nat.le_of_ble_eq_true rfl) (by
    have hO7 : Off M (stI M7 m 11 (nI 1)) (fU m) := ((hI5.1.trans (hI6.1.mono (fun i k h => fN_U h))).trans (hI7.1.mono (fun i k h => fN_U h))).stI (Or.inr (Or.inl ⟨rfl, by omega⟩))
    have hG8 : rS (stI M7 m 11 (nI 1)) m S7 := hI7.2.1.offI (Q := fun i k => i = m ∧ k = 11) (Off.rf.stI ⟨rfl, rfl⟩) (fun i k h => by unfold fA; omega)
    refine ⟨rfl, rfl, hO7.mono (fun i k h => fU_X h), ⟨S7, hG8, hP.offU hO7, hz, hI7.2.2.2.2, by rw [mI_st, if_pos ⟨rfl, rfl⟩]; rfl, ?_, fun p hp => ?_, fun _ => ⟨?_, ?_, ?_⟩⟩, by rw [mI_st, if_neg (by omega), hI7.1.i (by unfold fN fA; omega), hI6.1.i (by unfold fN fA; omega)]; exact hI5.2.2.2.2.2.2⟩
    · rw [hO7.i (by unfold fU fA; omega)]; exact h19
    · rw [hO7.i (by unfold fU fA; omega)]; exact h11b p hp
    · have hA := hI7.2.2.1
      refine ⟨fun t ht => ?_, fun t ht => ?_, ?_, hA.2.2.2⟩
      · rw [mI_st, if_neg (by omega)]; exact hA.1 t ht
      · rw [mI_st, if_neg (by omega)]; exact hA.2.1 t ht
      · rw [mI_st, if_neg (by omega)]; exact hA.2.2.1
    · rw [mI_st, if_neg (by omega), hI7.1.i (by unfold fN fA; omega), hI6.1.i (by unfold fN fA; omega)]; exact hI5.2.2.2.2.1
    · rw [mI_st, if_neg (by omega)]; exact hI7.2.2.2.1)

set_option maxHeartbeats 4000000 in
set_option maxRecDepth 100000 in
theorem s_run (M : gM) (n m : Nat) (σ : MS) (hQ : rM M m σ) : GM μX9_run 8 199 0 0 [.ref m] M n (fun r M1 n1 => r = some (.int (nI (runA (zP σ) (zF σ)).2.1)) ∧ n1 = n ∧ Off M M1 (fX m) ∧ rM M1 m (zP σ, zF σ, true, zH σ, zN σ) ∧ mI M1 m 0 = 0) := by
  refine GM.ofW (by decide) rfl (Nat.le_of_ble_eq_true rfl) rfl ?_
  obtain ⟨S, hG, hP, hz, h320, h11, h19, h11b, -⟩ := hQ
  have l40 := hP.2.1
  have hvP := hz.1
  have hf := hz.gd
  have ht := ter_run (first := zF σ) hvP hf
  have hgd := fin_facts (first := zF σ) hvP hf
  refine g_aload_n dX9_run_0 rfl ?_
  refine g_iconst (v := nI 0) dX9_run_1 rfl ?_
  refine g_putI (f := 0) dX9_run_2 cl10 hG.1.1 (by decide) (Or.inl (iw_12 11 rfl)) (Or.inl rfl) (Or.inl rfl) (Or.inl rfl) ?_
  refine g_aload_n dX9_run_5 rfl ?_
  refine g_iconst (v := nI 0) dX9_run_6 rfl ?_
  refine g_putI (f := 13) dX9_run_7 cl10 hG.1.1 (by decide) (Or.inl (iw_24 20 rfl)) (Or.inl rfl) (Or.inl rfl) (Or.inl rfl) ?_
  refine g_aload_n dX9_run_10 rfl ?_
  refine g_iconst (v := nI 0) dX9_run_11 rfl ?_
  refine g_putI (f := 14) dX9_run_12 cl10 hG.1.1 (by decide) (Or.inl (iw_24 21 rfl)) (Or.inl rfl) (Or.inl rfl) (Or.inl rfl) ?_
  refine g_aload_n dX9_run_15 rfl ?_
  refine g_iconst (v := nI 0) dX9_run_16 rfl ?_
  refine g_putI (f := 15) dX9_run_17 cl10 hG.1.1 (by decide) (Or.inl (iw_24 22 rfl)) (Or.inl rfl) (Or.inl rfl) (Or.inl rfl) ?_
  have hO1 : Off M (stI (stI (stI (stI M m 0 (nI 0)) m 13 (nI 0)) m 14 (nI 0)) m 15 (nI 0)) (fun i k => i = m ∧ (k = 0 ∨ k = 13 ∨ k = 14 ∨ k = 15)) := (((Off.rf.stI ⟨rfl, by omega⟩).stI ⟨rfl, by omega⟩).stI ⟨rfl, by omega⟩).stI ⟨rfl, by omega⟩
  have q0 : mI (stI (stI (stI (stI M m 0 (nI 0)) m 13 (nI 0)) m 14 (nI 0)) m 15 (nI 0)) m 0 = 0 := by simp [mI_st]; rfl
  have q13 : mI (stI (stI (stI (stI M m 0 (nI 0)) m 13 (nI 0)) m 14 (nI 0)) m 15 (nI 0)) m 13 = nI 0 := by simp [mI_st]
  have q14 : mI (stI (stI (stI (stI M m 0 (nI 0)) m 13 (nI 0)) m 14 (nI 0)) m 15 (nI 0)) m 14 = nI 0 := by simp [mI_st]
  have q15 : mI (stI (stI (stI (stI M m 0 (nI 0)) m 13 (nI 0)) m 14 (nI 0)) m 15 (nI 0)) m 15 = nI 0 := by simp [mI_st]
  have hG1 := hG.offI hO1 (fun i k h => by unfold fA; omega)
  generalize stI (stI (stI (stI M m 0 (nI 0)) m 13 (nI 0)) m 14 (nI 0)) m 15 (nI 0) = M1 at hO1 q0 q13 q14 q15 hG1 ⊢
  refine g_iconst (v := nI 0) dX9_run_20 rfl ?_
  refine g_istore_n dX9_run_21 (Nat.le_of_ble_eq_true rfl) ?_
  refine l_rn22 hG1.1 (fun M2 hO2 hZ => ?_) 41 0 M1 (by omega) (by omega) Off.rf (fun t ht => by omega)
  have hG2 := hG1.offI hO2 (fun i k h => by unfold fA; omega)
  have hO2' : Off M M2 (fU m) := (hO1.mono (fun i k h => Or.inr (Or.inl ⟨h.1, by omega⟩))).trans (hO2.mono (fun i k h => Or.inr (Or.inr h)))
  refine g_aload_n dX9_run_48 rfl ?_
  refine g_getR (f := 12) dX9_run_49 cl10 hG2.1.1 (by decide) (Or.inl (iw_6 5 rfl)) (Or.inl rfl) rfl hG2.1.r_reached ?_
  refine g_iconst (v := nI 0) dX9_run_52 rfl ?_
  refine g_aload_n dX9_run_53 rfl ?_
  refine g_getI (f := 6) dX9_run_54 cl10 hG2.1.1 (by decide) (Or.inl (iw_12 20 rfl)) (Or.inl rfl) (Or.inl rfl) ?_
  rw [(hP.offU hO2').1]
  have z0 : (0 : Int32) = nI 0 := rfl
  refine g_if_le (tgt := 64) dX9_run_57 (by decide) (fun c_57 => ?_) (fun c_57 => ?_)
  · skip
    rw [z0, nI_leI (by omega) (by omega)] at c_57
    refine g_iconst (v := nI 0) dX9_run_64 rfl ?_
    refine g_bastore dX9_run_65 (j := 0) hG2.1.k_reached hG2.1.n_reached rfl (by omega) (by decide) (by first | exact Or.inl rfl | exact Or.inr rfl) ?_
    exact p_rn66 hG hP hz h320 h19 h11b hO2' hG2 (by rw [hO2.i (by omega)]; exact q0) (by rw [hO2.i (by omega)]; exact q13) (by rw [hO2.i (by omega)]; exact q14) (by rw [hO2.i (by omega)]; exact q15) hZ (by first | (rw [decide_eq_true (by omega)]; rfl) | (rw [decide_eq_false (by omega)]; rfl))
  · skip
    rw [z0, nI_leI (by omega) (by omega)] at c_57
    refine g_iconst (v := nI 1) dX9_run_60 rfl ?_
    refine g_goto (tgt := 65) dX9_run_61 (by decide) ?_
    refine g_bastore dX9_run_65 (j := 0) hG2.1.k_reached hG2.1.n_reached rfl (by omega) (by decide) (by first | exact Or.inl rfl | exact Or.inr rfl) ?_
    exact p_rn66 hG hP hz h320 h19 h11b hO2' hG2 (by rw [hO2.i (by omega)]; exact q0) (by rw [hO2.i (by omega)]; exact q13) (by rw [hO2.i (by omega)]; exact q14) (by rw [hO2.i (by omega)]; exact q15) hZ (by first | (rw [decide_eq_true (by omega)]; rfl) | (rw [decide_eq_false (by omega)]; rfl))

