/-! the reference: its store of sets as one; acts on it -/
def fA (m : Nat) : Nat → Nat → Prop := fun i k => i = m + 1 ∨ i = m + 2 ∨ (i = m ∧ k = 3) ∨ i = m + 3 ∨ i = m + 4
/-- the reference at m: its 360 sets are S, and nothing is laid -/
def rS (M : gM) (m : Nat) (S : Nat → List Sp) : Prop := gMod M m ∧ (∀ s, s < 360 → iS M m s (S s) ∧ okX (S s)) ∧ iL M m [] ∧ ∀ s, 360 ≤ s → S s = []
theorem fS_A {m s i k : Nat} (h : fS m s i k) : fA m i k := by unfold fS at h; unfold fA; omega
theorem fM_A {m s i k : Nat} (h : fM m s i k) : fA m i k := by unfold fM fS fL at h; unfold fA; omega
theorem fS_ne {m s t i k : Nat} (hne : s ≠ t) (h : fS m s i k) : ¬ fM m t i k := by unfold fS at h; unfold fM fS fL; omega
theorem fS_ne2 {m s t i k : Nat} (hne : s ≠ t) (h : fS m s i k) : ¬ fS m t i k := by unfold fS at h; unfold fS; omega
theorem rS.up {M M1 : gM} {m s : Nat} {S : Nat → List Sp} {X : List Sp} (h : rS M m S) (hs : s < 360) (ho : Off M M1 (fM m s)) (hI : iL M1 m []) (hX : iS M1 m s X) (oX : okX X) : Off M M1 (fA m) ∧ rS M1 m (up1 S s X) := by
  refine ⟨ho.mono (fun i k => fM_A), h.1.off ho, fun t ht => ?_, hI, fun t ht => by rw [up1_ne _ _ (by omega)]; exact h.2.2.2 t ht⟩
  by_cases e : t = s
  · subst e; rw [up1_eq]; exact ⟨hX, oX⟩
  · rw [up1_ne _ _ e]; exact ⟨(h.2.1 t ht).1.off ho (fun i k => fS_ne e), (h.2.1 t ht).2⟩
theorem rS.upS {M M1 : gM} {m s : Nat} {S : Nat → List Sp} {X : List Sp} (h : rS M m S) (hs : s < 360) (ho : Off M M1 (fS m s)) (hX : iS M1 m s X) (oX : okX X) : Off M M1 (fA m) ∧ rS M1 m (up1 S s X) :=
  h.up hs (ho.mono (fun i k h => Or.inr h)) (h.2.2.1.off ho (fun i k h1 h2 => by unfold fL at h1; unfold fS at h2; omega)) hX oX
theorem rS.ok {M : gM} {m : Nat} {S : Nat → List Sp} (h : rS M m S) (s : Nat) : okX (S s) := by
  by_cases hs : s < 360
  · exact (h.2.1 s hs).2
  · rw [h.2.2.2 s (by omega)]; exact ⟨trivial, by simp, fun p hp => absurd hp (by simp)⟩
theorem sT.offA {M M1 : gM} {m a : Nat} {s : St} (h : sT M m a s) (ho : Off M M1 (fA m)) : sT M1 m a s := h.off ho (fun i k h1 h2 => by unfold fA; omega)
theorem GW.post {μ : gμ} {R : Room} {mc ms k q pc : Nat} {lv : List (Option Value)} {st : List Value} {M : gM} {n : Nat} {post post2 : gPo} (hi : ∀ r M1 n1, post r M1 n1 → post2 r M1 n1) (h : GW μ R (gTh post mc ms) k q pc lv st M n) : GW μ R (gTh post2 mc ms) k q pc lv st M n := by
  intro p l e s m args below meth c D cy b H locs ls hC hP hS hl T hT X
  obtain ⟨t, hs, o, q1, q2, ⟨⟨r, M1, n1, e1, hp, hP1⟩, hF⟩, q5⟩ := h p l e s m args below meth c D cy b H locs ls hC hP hS hl T hT X
  exact ⟨t, hs, o, q1, q2, ⟨⟨r, M1, n1, e1, hi r M1 n1 hp, hP1⟩, hF⟩, q5⟩
theorem up1_self {α : Type} (f : Nat → α) (i : Nat) : up1 f i (f i) = f := by
  funext j
  unfold up1
  split
  · rename_i h; rw [h]
  · rfl
/-- a set's least and greatest number -/
def lo1 (X : List Sp) : Int := (X.getD 0 (0, 0)).1
def hi1 (X : List Sp) : Int := (X.getD (X.length - 1) (0, 0)).2
theorem lo1_r {X : List Sp} (h : okX X) (h0 : X ≠ []) : r5 (lo1 X) := (r5_getD h.2.2 (List.length_pos_iff.mpr h0)).1
theorem hi1_r {X : List Sp} (h : okX X) (h0 : X ≠ []) : r5 (hi1 X) := (r5_getD h.2.2 (by have := List.length_pos_iff.mpr h0; omega)).2
theorem s_copy (M : gM) (n m to fr : Nat) (S : Nat → List Sp) (hG : rS M m S) (ht : to < 360) (hf : fr < 360) : GM μX9_copy 0 0 0 0 [.ref m, .int (nI to), .int (nI fr)] M n (fun r M1 n1 => r = none ∧ n1 = n ∧ Off M M1 (fA m) ∧ rS M1 m (up1 S to (S fr))) := GM.imp (m_copy M n m to fr hG.1 ht hf) (fun r M1 n1 h => ⟨h.1, h.2.1, hG.upS ht h.2.2.1 (h.2.2.2 _ (hG.2.1 fr hf).1) (hG.2.1 fr hf).2⟩)

theorem s_one (M : gM) (n m s : Nat) (S : Nat → List Sp) (a b : Int) (hG : rS M m S) (hs : s < 360) (ha : r6 a) (hb : r6 b) (hab : a ≤ b → r5 a ∧ r5 b) : GM μX9_one 0 0 0 0 [.ref m, .int (nI s), .long (jI a), .long (jI b)] M n (fun r M1 n1 => r = none ∧ n1 = n ∧ Off M M1 (fA m) ∧ rS M1 m (up1 S s (if a ≤ b then [(a, b)] else []))) := GM.imp (m_one M n m s a b hG.1 hs ha hb) (fun r M1 n1 h => ⟨h.1, h.2.1, hG.upS hs h.2.2.1 h.2.2.2 (by
  by_cases e : a ≤ b
  · rw [if_pos e]; exact ⟨e, by simp, fun p hp => by simp at hp; rw [hp]; exact hab e⟩
  · rw [if_neg e]; exact ⟨trivial, by simp, fun p hp => absurd hp (by simp)⟩)⟩)

theorem s_join (M : gM) (n m s a b : Nat) (S : Nat → List Sp) (hG : rS M m S) (hs : s < 360) (ha : a < 360) (hb : b < 360) : GM μX9_join 3 74 0 0 [.ref m, .int (nI s), .int (nI a), .int (nI b)] M n (fun r M1 n1 => r = none ∧ n1 = n ∧ Off M M1 (fA m) ∧ rS M1 m (up1 S s (mkS (S a ++ S b)))) := GM.imp (m_join M n m s a b (S a) (S b) hG.1 hs ha hb hG.2.2.1 (hG.2.1 a ha).1 (hG.2.1 b hb).1 (hG.2.1 a ha).2 (hG.2.1 b hb).2) (fun r M1 n1 h => ⟨h.1, h.2.1, hG.up hs h.2.2.1 h.2.2.2.1 h.2.2.2.2.1 h.2.2.2.2.2⟩)

theorem s_common (M : gM) (n m s a b : Nat) (S : Nat → List Sp) (hG : rS M m S) (hs : s < 360) (ha : a < 360) (hb : b < 360) : GM μX9_common 3 74 0 0 [.ref m, .int (nI s), .int (nI a), .int (nI b)] M n (fun r M1 n1 => r = none ∧ n1 = n ∧ Off M M1 (fA m) ∧ rS M1 m (up1 S s (mkS (cmL (S a) (S b))))) := GM.imp (m_common M n m s a b (S a) (S b) hG.1 hs ha hb hG.2.2.1 (hG.2.1 a ha).1 (hG.2.1 b hb).1 (hG.2.1 a ha).2 (hG.2.1 b hb).2) (fun r M1 n1 h => ⟨h.1, h.2.1, hG.up hs h.2.2.1 h.2.2.2.1 h.2.2.2.2.1 h.2.2.2.2.2⟩)

theorem s_same (M : gM) (n m a b : Nat) (S : Nat → List Sp) (hG : rS M m S) (ha : a < 360) (hb : b < 360) : GM μX9_same 1 22 0 0 [.ref m, .int (nI a), .int (nI b)] M n (fun r M1 n1 => r = some (.int (bI (decide (S a = S b)))) ∧ M1 = M ∧ n1 = n) := GM.imp (m_same M n m a b (S a) (S b) hG.1 ha hb (hG.2.1 a ha).1 (hG.2.1 b hb).1 (hG.2.1 a ha).2 (hG.2.1 b hb).2) (fun r M1 n1 h => h)

theorem s_alone (M : gM) (n m a : Nat) (S : Nat → List Sp) (hG : rS M m S) (ha : a < 360) : GM μX9_isAlone 1 22 0 0 [.ref m, .int (nI a)] M n (fun r M1 n1 => r = some (.int (bI (aloB (S a)))) ∧ M1 = M ∧ n1 = n) := GM.imp (m_isAlone M n m a (S a) hG.1 ha (hG.2.1 a ha).1 (hG.2.1 a ha).2) (fun r M1 n1 h => h)

theorem s_least (M : gM) (n m a : Nat) (S : Nat → List Sp) (hG : rS M m S) (ha : a < 360) (h0 : S a ≠ []) : GM μX9_least 1 22 0 0 [.ref m, .int (nI a)] M n (fun r M1 n1 => r = some (.long (jI (lo1 (S a)))) ∧ M1 = M ∧ n1 = n) := GM.imp (m_leX M n m a (S a) hG.1 ha (hG.2.1 a ha).1 (List.length_pos_iff.mpr h0)) (fun r M1 n1 h => h)

theorem s_most (M : gM) (n m a : Nat) (S : Nat → List Sp) (hG : rS M m S) (ha : a < 360) (h0 : S a ≠ []) : GM μX9_most 1 22 0 0 [.ref m, .int (nI a)] M n (fun r M1 n1 => r = some (.long (jI (hi1 (S a)))) ∧ M1 = M ∧ n1 = n) := GM.imp (m_most M n m a (S a) hG.1 ha (hG.2.1 a ha).1 (List.length_pos_iff.mpr h0)) (fun r M1 n1 h => h)

set_option maxHeartbeats 4000000 in
set_option maxRecDepth 100000 in
theorem p_mk64 {M : gM} {n m a b c : Nat} {s : St} {S : Nat → List Sp} (hG : rS M m S) (ha : a < 40) (hT : sT M m a s) (hv : vS s) (hk : s.1 ≤ 10) (hb : b < 360) (hc : c < 360) (eb : isP s.2.2.1 → b = 8 * a + pl s.2.2.1) (ec : isP s.2.2.2 → c = 8 * a + pl s.2.2.2) : GW μX9_make (gRm 4 111 0 0) (gTh (fun r M1 n1 => r = none ∧ n1 = n ∧ Off M M1 (fM m 346) ∧ iL M1 m [] ∧ iS M1 m 346 (mkS (makL s (fun p => S (8 * a + p)))) ∧ okX (mkS (makL s (fun p => S (8 * a + p))))) 0 0) 0 0 64 [some (.ref m), some (.int (nI a)), some (.int (nI s.1)), some (.int (nI b)), some (.int (nI c)), none, none, none, none, none, none] [] M n := by
  have hb5 := i_rng s.2.2.1
  have hc5 := i_rng s.2.2.2
  have z0 : (0 : Int32) = nI 0 := rfl
  refine g_iload_n dX9_make_64 rfl ?_
  refine g_if_ne (tgt := 89) dX9_make_65 (by decide) (fun c_65 => ?_) (fun c_65 => ?_)
  · skip
    rw [z0, nI_inj (by omega) (by omega)] at c_65
    refine g_iload_n dX9_make_89 rfl ?_
    refine g_bipush (v := nI 10) dX9_make_90 rfl ?_
    refine g_icmp_ne (tgt := 116) dX9_make_92 (by decide) (fun c_92 => ?_) (fun c_92 => ?_)
    · skip
      rw [nI_inj (by omega) (by omega)] at c_92
      refine g_iload_n dX9_make_116 rfl ?_
      refine g_iconst (v := nI 1) dX9_make_117 rfl ?_
      refine g_icmp_ne (tgt := 129) dX9_make_118 (by decide) (fun c_118 => ?_) (fun c_118 => ?_)
      · skip
        rw [nI_inj (by omega) (by omega)] at c_118
        refine g_iconst (v := nI 0) dX9_make_129 rfl ?_
        refine g_istore dX9_make_130 (Nat.le_of_ble_eq_true rfl) ?_
        have ib := hv.2.2.1 (by omega)
        have lc : isP s.2.2.2 → okX (S (8 * a + pl s.2.2.2)) := fun h => by rw [← ec h]; exact (hG.2.1 c hc).2
        refine l_mk1 (X := S b) (Y := S c) hG.1 ha hT hv hb (hG.2.1 b hb).1 (hG.2.1 b hb).2 (by rw [eb ib]) hc (hG.2.1 c hc).1 (hG.2.1 c hc).2 (fun h => by rw [ec (hv.2.2.2.1 h)]) ?_ (fun h => lc (hv.2.2.2.1 (by omega))) c_65 c_92 c_118 hk ((S b).length + 1) 0 M (by omega) (by omega) Off.rf (by simpa using hG.2.2.1)
        exact (hG.ok _).2.1
      · skip
        rw [nI_inj (by omega) (by omega)] at c_118
        refine g_aload_n dX9_make_121 rfl ?_
        refine g_iload_n dX9_make_122 rfl ?_
        refine g_callV dX9_make_123 sX9_layAll (m_layAll M n m b (S b) [] hG.1 hb (hG.2.1 b hb).1 (hG.2.1 b hb).2.2.2 (cn_okL (hG.2.1 b hb).2.1) hG.2.2.1 (by have := (hG.2.1 b hb).2.2.1; simp; omega)) cl10 hG.1.1 iX9_layAll vX9_layAll (iw_25 20 rfl) rfl rfl (Nat.le_of_ble_eq_true rfl) (Nat.le_of_ble_eq_true rfl) (Nat.le_of_ble_eq_true rfl) (Nat.le_of_ble_eq_true rfl) (Nat.le_of_ble_eq_true rfl) ?_
        intro r9 M2 n9 h9
        obtain ⟨h91, h93, hO2, hI2⟩ := h9
        rw [h91, h93]
        clear h91 h93 r9 n9
        refine g_goto (tgt := 309) dX9_make_126 (by decide) ?_
        refine g_msk [true, false, false, false, false, false, false, false, false, false, false] ?_
        refine p_mk309 hG.1 hO2 hI2 ?_ ?_ ?_
        · first
            | (unfold makL; rw [if_pos c_65]; rfl)
            | (unfold makL; rw [if_neg c_65, if_pos c_92]; rfl)
            | (unfold makL; rw [if_neg c_65, if_neg c_92, if_pos c_118, eb (hv.2.2.1 (by omega))]; rfl)
        · first
            | exact wl_one (Int.le_refl _) hb5 hb5
            | exact wl_one (hv.2.2.2.2.2.2.2.1 c_92) hb5 hc5
            | exact (hG.2.1 b hb).2.wl
        · first
            | (have := (hG.2.1 b hb).2.2.1; simp; omega)
            | simp
    · skip
      rw [nI_inj (by omega) (by omega)] at c_92
      refine g_aload_n dX9_make_95 rfl ?_
      refine g_aload_n dX9_make_96 rfl ?_
      refine g_getR (f := 9) dX9_make_97 cl10 hG.1.1 (by decide) (Or.inl (iw_6 2 rfl)) (Or.inl rfl) rfl hG.1.r_argB ?_
      refine g_iload_n dX9_make_100 rfl ?_
      refine g_iaload dX9_make_101 (j := a) hG.1.k_argB hG.1.n_argB rfl (by omega) (by decide) ?_
      rw [hT.2.2.1]
      refine g_i2l dX9_make_102 ?_
      rw [i_j]
      refine g_aload_n dX9_make_103 rfl ?_
      refine g_getR (f := 10) dX9_make_104 cl10 hG.1.1 (by decide) (Or.inl (iw_6 3 rfl)) (Or.inl rfl) rfl hG.1.r_argC ?_
      refine g_iload_n dX9_make_107 rfl ?_
      refine g_iaload dX9_make_108 (j := a) hG.1.k_argC hG.1.n_argC rfl (by omega) (by decide) ?_
      rw [hT.2.2.2]
      refine g_i2l dX9_make_109 ?_
      rw [i_j]
      refine g_callV dX9_make_110 sX9_lay (m_lay1 M n m (s.2.2.1.toInt) (s.2.2.2.toInt) [] hG.1 hG.2.2.1 (by decide) (by constructor <;> omega) (by constructor <;> omega) (hv.2.2.2.2.2.2.2.1 c_92)) cl10 hG.1.1 iX9_lay vX9_lay (iw_25 15 rfl) rfl rfl (Nat.le_of_ble_eq_true rfl) (Nat.le_of_ble_eq_true rfl) (Nat.le_of_ble_eq_true rfl) (Nat.le_of_ble_eq_true rfl) (Nat.le_of_ble_eq_true rfl) ?_
      intro r9 M2 n9 h9
      obtain ⟨h91, h93, hO2, hI2⟩ := h9
      rw [h91, h93]
      clear h91 h93 r9 n9
      refine g_goto (tgt := 309) dX9_make_113 (by decide) ?_
      refine g_msk [true, false, false, false, false, false, false, false, false, false, false] ?_
      refine p_mk309 hG.1 hO2 hI2 ?_ ?_ ?_
      · first
          | (unfold makL; rw [if_pos c_65]; rfl)
          | (unfold makL; rw [if_neg c_65, if_pos c_92]; rfl)
          | (unfold makL; rw [if_neg c_65, if_neg c_92, if_pos c_118, eb (hv.2.2.1 (by omega))]; rfl)
      · first
          | exact wl_one (Int.le_refl _) hb5 hb5
          | exact wl_one (hv.2.2.2.2.2.2.2.1 c_92) hb5 hc5
          | exact (hG.2.1 b hb).2.wl
      · first
          | (have := (hG.2.1 b hb).2.2.1; simp; omega)
          | simp
  · skip
    rw [z0, nI_inj (by omega) (by omega)] at c_65
    refine g_aload_n dX9_make_68 rfl ?_
    refine g_aload_n dX9_make_69 rfl ?_
    refine g_getR (f := 9) dX9_make_70 cl10 hG.1.1 (by decide) (Or.inl (iw_6 2 rfl)) (Or.inl rfl) rfl hG.1.r_argB ?_
    refine g_iload_n dX9_make_73 rfl ?_
    refine g_iaload dX9_make_74 (j := a) hG.1.k_argB hG.1.n_argB rfl (by omega) (by decide) ?_
    rw [hT.2.2.1]
    refine g_i2l dX9_make_75 ?_
    rw [i_j]
    refine g_aload_n dX9_make_76 rfl ?_
    refine g_getR (f := 9) dX9_make_77 cl10 hG.1.1 (by decide) (Or.inl (iw_6 2 rfl)) (Or.inl rfl) rfl hG.1.r_argB ?_
    refine g_iload_n dX9_make_80 rfl ?_
    refine g_iaload dX9_make_81 (j := a) hG.1.k_argB hG.1.n_argB rfl (by omega) (by decide) ?_
    rw [hT.2.2.1]
    refine g_i2l dX9_make_82 ?_
    rw [i_j]
    refine g_callV dX9_make_83 sX9_lay (m_lay1 M n m (s.2.2.1.toInt) (s.2.2.1.toInt) [] hG.1 hG.2.2.1 (by decide) (by constructor <;> omega) (by constructor <;> omega) (by omega)) cl10 hG.1.1 iX9_lay vX9_lay (iw_25 15 rfl) rfl rfl (Nat.le_of_ble_eq_true rfl) (Nat.le_of_ble_eq_true rfl) (Nat.le_of_ble_eq_true rfl) (Nat.le_of_ble_eq_true rfl) (Nat.le_of_ble_eq_true rfl) ?_
    intro r9 M2 n9 h9
    obtain ⟨h91, h93, hO2, hI2⟩ := h9
    rw [h91, h93]
    clear h91 h93 r9 n9
    refine g_goto (tgt := 309) dX9_make_86 (by decide) ?_
    refine g_msk [true, false, false, false, false, false, false, false, false, false, false] ?_
    refine p_mk309 hG.1 hO2 hI2 ?_ ?_ ?_
    · first
        | (unfold makL; rw [if_pos c_65]; rfl)
        | (unfold makL; rw [if_neg c_65, if_pos c_92]; rfl)
        | (unfold makL; rw [if_neg c_65, if_neg c_92, if_pos c_118, eb (hv.2.2.1 (by omega))]; rfl)
    · first
        | exact wl_one (Int.le_refl _) hb5 hb5
        | exact wl_one (hv.2.2.2.2.2.2.2.1 c_92) hb5 hc5
        | exact (hG.2.1 b hb).2.wl
    · first
        | (have := (hG.2.1 b hb).2.2.1; simp; omega)
        | simp

set_option maxHeartbeats 4000000 in
set_option maxRecDepth 100000 in
theorem s_make (M : gM) (n m a : Nat) (s : St) (S : Nat → List Sp) (hG : rS M m S) (ha : a < 40) (hT : sT M m a s) (hv : vS s) (hk : s.1 ≤ 10) : GM μX9_make 4 111 0 0 [.ref m, .int (nI a)] M n (fun r M1 n1 => r = none ∧ n1 = n ∧ Off M M1 (fA m) ∧ rS M1 m (up1 S 346 (mkS (makL s (fun p => S (8 * a + p)))))) := by
  refine GM.ofW (by decide) rfl (Nat.le_of_ble_eq_true rfl) rfl ?_
  refine g_aload_n dX9_make_0 rfl ?_
  refine g_getR (f := 7) dX9_make_1 cl10 hG.1.1 (by decide) (Or.inl (iw_6 0 rfl)) (Or.inl rfl) rfl hG.1.r_kind ?_
  refine g_iload_n dX9_make_4 rfl ?_
  refine g_iaload dX9_make_5 (j := a) hG.1.k_kind hG.1.n_kind rfl (by omega) (by decide) ?_
  rw [hT.1]
  refine g_istore_n dX9_make_6 (Nat.le_of_ble_eq_true rfl) ?_
  refine g_aload_n dX9_make_7 rfl ?_
  refine g_getR (f := 9) dX9_make_8 cl10 hG.1.1 (by decide) (Or.inl (iw_6 2 rfl)) (Or.inl rfl) rfl hG.1.r_argB ?_
  refine g_iload_n dX9_make_11 rfl ?_
  refine g_iaload dX9_make_12 (j := a) hG.1.k_argB hG.1.n_argB rfl (by omega) (by decide) ?_
  rw [hT.2.2.1]
  refine g_callS dX9_make_13 sX9_isPlace (m_isPlace M n s.2.2.1) tX9_isPlace (iw_13 1 rfl) rfl rfl (Nat.le_of_ble_eq_true rfl) (Nat.le_of_ble_eq_true rfl) (Nat.le_of_ble_eq_true rfl) (Nat.le_of_ble_eq_true rfl) (Nat.le_of_ble_eq_true rfl) ?_
  intro r9 M9 n9 h9
  obtain ⟨h91, h92, h93⟩ := h9
  rw [h91, h92, h93]
  clear h91 h92 h93 r9 M9 n9
  refine g_if_eq (tgt := 33) dX9_make_16 (by decide) (fun c_16 => ?_) (fun c_16 => ?_)
  · skip
    rw [bI_eq0, decide_eq_false_iff_not] at c_16
    refine g_iconst (v := nI 0) dX9_make_33 rfl ?_
    refine g_istore_n dX9_make_34 (Nat.le_of_ble_eq_true rfl) ?_
    refine g_aload_n dX9_make_35 rfl ?_
    refine g_getR (f := 10) dX9_make_36 cl10 hG.1.1 (by decide) (Or.inl (iw_6 3 rfl)) (Or.inl rfl) rfl hG.1.r_argC ?_
    refine g_iload_n dX9_make_39 rfl ?_
    refine g_iaload dX9_make_40 (j := a) hG.1.k_argC hG.1.n_argC rfl (by omega) (by decide) ?_
    rw [hT.2.2.2]
    refine g_callS dX9_make_41 sX9_isPlace (m_isPlace M n s.2.2.2) tX9_isPlace (iw_13 1 rfl) rfl rfl (Nat.le_of_ble_eq_true rfl) (Nat.le_of_ble_eq_true rfl) (Nat.le_of_ble_eq_true rfl) (Nat.le_of_ble_eq_true rfl) (Nat.le_of_ble_eq_true rfl) ?_
    intro r9 M9 n9 h9
    obtain ⟨h91, h92, h93⟩ := h9
    rw [h91, h92, h93]
    clear h91 h92 h93 r9 M9 n9
    refine g_if_eq (tgt := 61) dX9_make_44 (by decide) (fun c_44 => ?_) (fun c_44 => ?_)
    · skip
      rw [bI_eq0, decide_eq_false_iff_not] at c_44
      refine g_iconst (v := nI 0) dX9_make_61 rfl ?_
      refine g_istore dX9_make_62 (Nat.le_of_ble_eq_true rfl) ?_
      refine GW.post ?_ (p_mk64 (a := a) (s := s) (S := S) hG ha hT hv hk (by first | (have := c_16.lt; omega) | omega) (by first | (have := c_44.lt; omega) | omega) (fun h => by first | rfl | exact absurd h c_16) (fun h => by first | rfl | exact absurd h c_44))
      intro r M1 n1 h
      exact ⟨h.1, h.2.1, hG.up (by omega) h.2.2.1 h.2.2.2.1 h.2.2.2.2.1 h.2.2.2.2.2⟩
    · skip
      rw [bI_eq0, decide_eq_false_iff_not, Classical.not_not] at c_44
      refine g_aload_n dX9_make_47 rfl ?_
      refine g_iload_n dX9_make_48 rfl ?_
      refine g_aload_n dX9_make_49 rfl ?_
      refine g_getR (f := 10) dX9_make_50 cl10 hG.1.1 (by decide) (Or.inl (iw_6 3 rfl)) (Or.inl rfl) rfl hG.1.r_argC ?_
      refine g_iload_n dX9_make_53 rfl ?_
      refine g_iaload dX9_make_54 (j := a) hG.1.k_argC hG.1.n_argC rfl (by omega) (by decide) ?_
      rw [hT.2.2.2, c_44.eq]
      refine g_callV dX9_make_55 sX9_fact (m_fact M n m a (pl s.2.2.2)) cl10 hG.1.1 iX9_fact vX9_fact (iw_24 23 rfl) rfl rfl (Nat.le_of_ble_eq_true rfl) (Nat.le_of_ble_eq_true rfl) (Nat.le_of_ble_eq_true rfl) (Nat.le_of_ble_eq_true rfl) (Nat.le_of_ble_eq_true rfl) ?_
      intro r9 M9 n9 h9
      obtain ⟨h91, h92, h93⟩ := h9
      rw [h91, h92, h93]
      clear h91 h92 h93 r9 M9 n9
      refine g_goto (tgt := 62) dX9_make_58 (by decide) ?_
      refine g_istore dX9_make_62 (Nat.le_of_ble_eq_true rfl) ?_
      refine GW.post ?_ (p_mk64 (a := a) (s := s) (S := S) hG ha hT hv hk (by first | (have := c_16.lt; omega) | omega) (by first | (have := c_44.lt; omega) | omega) (fun h => by first | rfl | exact absurd h c_16) (fun h => by first | rfl | exact absurd h c_44))
      intro r M1 n1 h
      exact ⟨h.1, h.2.1, hG.up (by omega) h.2.2.1 h.2.2.2.1 h.2.2.2.2.1 h.2.2.2.2.2⟩
  · skip
    rw [bI_eq0, decide_eq_false_iff_not, Classical.not_not] at c_16
    refine g_aload_n dX9_make_19 rfl ?_
    refine g_iload_n dX9_make_20 rfl ?_
    refine g_aload_n dX9_make_21 rfl ?_
    refine g_getR (f := 9) dX9_make_22 cl10 hG.1.1 (by decide) (Or.inl (iw_6 2 rfl)) (Or.inl rfl) rfl hG.1.r_argB ?_
    refine g_iload_n dX9_make_25 rfl ?_
    refine g_iaload dX9_make_26 (j := a) hG.1.k_argB hG.1.n_argB rfl (by omega) (by decide) ?_
    rw [hT.2.2.1, c_16.eq]
    refine g_callV dX9_make_27 sX9_fact (m_fact M n m a (pl s.2.2.1)) cl10 hG.1.1 iX9_fact vX9_fact (iw_24 23 rfl) rfl rfl (Nat.le_of_ble_eq_true rfl) (Nat.le_of_ble_eq_true rfl) (Nat.le_of_ble_eq_true rfl) (Nat.le_of_ble_eq_true rfl) (Nat.le_of_ble_eq_true rfl) ?_
    intro r9 M9 n9 h9
    obtain ⟨h91, h92, h93⟩ := h9
    rw [h91, h92, h93]
    clear h91 h92 h93 r9 M9 n9
    refine g_goto (tgt := 34) dX9_make_30 (by decide) ?_
    refine g_istore_n dX9_make_34 (Nat.le_of_ble_eq_true rfl) ?_
    refine g_aload_n dX9_make_35 rfl ?_
    refine g_getR (f := 10) dX9_make_36 cl10 hG.1.1 (by decide) (Or.inl (iw_6 3 rfl)) (Or.inl rfl) rfl hG.1.r_argC ?_
    refine g_iload_n dX9_make_39 rfl ?_
    refine g_iaload dX9_make_40 (j := a) hG.1.k_argC hG.1.n_argC rfl (by omega) (by decide) ?_
    rw [hT.2.2.2]
    refine g_callS dX9_make_41 sX9_isPlace (m_isPlace M n s.2.2.2) tX9_isPlace (iw_13 1 rfl) rfl rfl (Nat.le_of_ble_eq_true rfl) (Nat.le_of_ble_eq_true rfl) (Nat.le_of_ble_eq_true rfl) (Nat.le_of_ble_eq_true rfl) (Nat.le_of_ble_eq_true rfl) ?_
    intro r9 M9 n9 h9
    obtain ⟨h91, h92, h93⟩ := h9
    rw [h91, h92, h93]
    clear h91 h92 h93 r9 M9 n9
    refine g_if_eq (tgt := 61) dX9_make_44 (by decide) (fun c_44 => ?_) (fun c_44 => ?_)
    · skip
      rw [bI_eq0, decide_eq_false_iff_not] at c_44
      refine g_iconst (v := nI 0) dX9_make_61 rfl ?_
      refine g_istore dX9_make_62 (Nat.le_of_ble_eq_true rfl) ?_
      refine GW.post ?_ (p_mk64 (a := a) (s := s) (S := S) hG ha hT hv hk (by first | (have := c_16.lt; omega) | omega) (by first | (have := c_44.lt; omega) | omega) (fun h => by first | rfl | exact absurd h c_16) (fun h => by first | rfl | exact absurd h c_44))
      intro r M1 n1 h
      exact ⟨h.1, h.2.1, hG.up (by omega) h.2.2.1 h.2.2.2.1 h.2.2.2.2.1 h.2.2.2.2.2⟩
    · skip
      rw [bI_eq0, decide_eq_false_iff_not, Classical.not_not] at c_44
      refine g_aload_n dX9_make_47 rfl ?_
      refine g_iload_n dX9_make_48 rfl ?_
      refine g_aload_n dX9_make_49 rfl ?_
      refine g_getR (f := 10) dX9_make_50 cl10 hG.1.1 (by decide) (Or.inl (iw_6 3 rfl)) (Or.inl rfl) rfl hG.1.r_argC ?_
      refine g_iload_n dX9_make_53 rfl ?_
      refine g_iaload dX9_make_54 (j := a) hG.1.k_argC hG.1.n_argC rfl (by omega) (by decide) ?_
      rw [hT.2.2.2, c_44.eq]
      refine g_callV dX9_make_55 sX9_fact (m_fact M n m a (pl s.2.2.2)) cl10 hG.1.1 iX9_fact vX9_fact (iw_24 23 rfl) rfl rfl (Nat.le_of_ble_eq_true rfl) (Nat.le_of_ble_eq_true rfl) (Nat.le_of_ble_eq_true rfl) (Nat.le_of_ble_eq_true rfl) (Nat.le_of_ble_eq_true rfl) ?_
      intro r9 M9 n9 h9
      obtain ⟨h91, h92, h93⟩ := h9
      rw [h91, h92, h93]
      clear h91 h92 h93 r9 M9 n9
      refine g_goto (tgt := 62) dX9_make_58 (by decide) ?_
      refine g_istore dX9_make_62 (Nat.le_of_ble_eq_true rfl) ?_
      refine GW.post ?_ (p_mk64 (a := a) (s := s) (S := S) hG ha hT hv hk (by first | (have := c_16.lt; omega) | omega) (by first | (have := c_44.lt; omega) | omega) (fun h => by first | rfl | exact absurd h c_16) (fun h => by first | rfl | exact absurd h c_44))
      intro r M1 n1 h
      exact ⟨h.1, h.2.1, hG.up (by omega) h.2.2.1 h.2.2.2.1 h.2.2.2.2.1 h.2.2.2.2.2⟩

