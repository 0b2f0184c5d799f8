/-! the reference: what a statement gives -/
/-- a row of sets moved to another place, its first j -/
def blk (S : Nat → List Sp) (d s j : Nat) : Nat → List Sp := fun t => if d ≤ t ∧ t < d + j then S (s + (t - d)) else S t
theorem blk_0 (S : Nat → List Sp) (d s : Nat) : blk S d s 0 = S := by
  funext t
  unfold blk
  rw [if_neg (by omega)]
theorem blk_1 {S : Nat → List Sp} {d s j : Nat} (h : s + j < d ∨ d + j ≤ s + j) : up1 (blk S d s j) (d + j) (blk S d s j (s + j)) = blk S d s (j + 1) := by
  funext t
  unfold up1
  by_cases e : t = d + j
  · rw [if_pos e]
    unfold blk
    rw [if_neg (by omega), if_pos (by omega), e, show d + j - d = j by omega]
  · rw [if_neg e]
    unfold blk
    by_cases c : d ≤ t ∧ t < d + j
    · rw [if_pos c, if_pos (by omega)]
    · rw [if_neg c, if_neg (by omega)]
/-- the relation of a condition -/
def eqR (r : Nat) : Bool := decide (r = 1 ∨ r = 2 ∨ r = 4)
/-- what a statement gives to the one that it names, or to the one behind it -/
def gvn (s : St) (F : Nat → List Sp) (nm : Bool) : Option (Nat → List Sp) :=
  if s.1 = 19 then none else if s.1 = 18 then (if nm then some F else none) else if s.1 < 11 then (if nm then none else if mkS (makL s F) = [] then none else some (up1 F (pl s.2.1) (mkS (makL s F))))
  else if s.2.1 = s.2.2.1 then (if nm = eqR (s.1 - 11) then some F else none)
  else if (shp (if nm then s.1 - 11 else notR (s.1 - 11)) (F (pl s.2.1)) (F (pl s.2.2.1))).1 ≠ [] ∧ (shp (if nm then s.1 - 11 else notR (s.1 - 11)) (F (pl s.2.1)) (F (pl s.2.2.1))).2 ≠ [] then some (up1 (up1 F (pl s.2.1) (shp (if nm then s.1 - 11 else notR (s.1 - 11)) (F (pl s.2.1)) (F (pl s.2.2.1))).1) (pl s.2.2.1) (shp (if nm then s.1 - 11 else notR (s.1 - 11)) (F (pl s.2.1)) (F (pl s.2.2.1))).2) else none
theorem oneP_congr {s : St} {F F1 : Nat → List Sp} (hv : vS s) (hk : s.1 ≠ 0 ∧ s.1 ≠ 10 ∧ s.1 ≠ 1 ∧ s.1 ≤ 10) (h : ∀ p, p < 8 → F1 p = F p) (x : Sp) : oneP s F1 x = oneP s F x := by
  unfold oneP
  by_cases c : s.1 = 2 ∨ s.1 = 3 ∨ s.1 = 4 ∨ s.1 = 7 ∨ s.1 = 8
  · rw [h _ (hv.2.2.2.1 c).lt]
  · by_cases c5 : s.1 = 5
    · rw [if_pos c5, if_pos c5]
    · by_cases c6 : s.1 = 6
      · rw [if_neg c5, if_neg c5, if_pos c6, if_pos c6]
      · rw [if_neg c5, if_neg c5, if_neg c6, if_neg c6, if_pos (by omega), if_pos (by omega)]
theorem makL_congr {s : St} {F F1 : Nat → List Sp} (hv : vS s) (hk : s.1 ≤ 10) (h : ∀ p, p < 8 → F1 p = F p) : makL s F1 = makL s F := by
  unfold makL
  by_cases c0 : s.1 = 0
  · rw [if_pos c0, if_pos c0]
  · by_cases c1 : s.1 = 10
    · rw [if_neg c0, if_neg c0, if_pos c1, if_pos c1]
    · rw [h _ (hv.2.2.1 (by omega)).lt]
      by_cases c2 : s.1 = 1
      · rw [if_neg c0, if_neg c0, if_neg c1, if_neg c1, if_pos c2, if_pos c2]
      · rw [if_neg c0, if_neg c0, if_neg c1, if_neg c1, if_neg c2, if_neg c2]
        rw [show oneP s F1 = oneP s F from funext (oneP_congr hv (by omega) h)]
/-- what is written as a statement gives -/
def gvP (t : Nat) : Prop := (328 ≤ t ∧ t < 336) ∨ (344 ≤ t ∧ t ≤ 347)
set_option maxHeartbeats 4000000 in
set_option maxRecDepth 100000 in
theorem l_goes {M : gM} {n m a : Nat} {s : St} {S : Nat → List Sp} {nm : Bool} {Q : gθ} (hG : rS M m S) (ha : a < 40) (hT : sT M m a s) (hv : vS s) (hn : ∀ p, p < 8 → S (8 * a + p) ≠ []) (hk : ∀ M1, Off M M1 (fA m) → rS M1 m (blk S 328 (8 * a) 8) → GW μX9_goes (gRm 6 150 0 0) Q 0 0 40 [some (.ref m), some (.int (nI a)), some (.int (bI nm)), some (.int (nI s.1)), none, none, none, none] [] M1 n) : ∀ (d : Nat) (j : Nat) (M1 : gM), 8 - j < d → j ≤ 8 → Off M M1 (fA m) → rS M1 m (blk S 328 (8 * a) j) → GW μX9_goes (gRm 6 150 0 0) Q 0 0 10 [some (.ref m), some (.int (nI a)), some (.int (bI nm)), some (.int (nI s.1)), some (.int (nI j)), none, none, none] [] M1 n := by
  intro d
  induction d with
  | zero =>
    intro j M1 hd hj hO hG1
    omega
  | succ d ih =>
    intro j M1 hd hj hO hG1
    refine g_iload dX9_goes_10 rfl ?_
    refine g_bipush (v := nI 8) dX9_goes_12 rfl ?_
    refine g_icmp_ge (tgt := 40) dX9_goes_14 (by decide) (fun c_14 => ?_) (fun c_14 => ?_)
    · skip
      rw [nI_leI (by omega) (by omega)] at c_14
      have e8 : j = 8 := by omega
      subst e8
      refine g_msk [true, true, true, true, false, false, false, false] ?_
      exact hk M1 hO hG1
    · skip
      rw [nI_leI (by omega) (by omega)] at c_14
      refine g_aload_n dX9_goes_17 rfl ?_
      refine g_sipush (v := nI 328) dX9_goes_18 rfl ?_
      refine g_iload dX9_goes_21 rfl ?_
      refine g_iadd dX9_goes_23 ?_
      rw [nI_add]
      refine g_aload_n dX9_goes_24 rfl ?_
      refine g_iload_n dX9_goes_25 rfl ?_
      refine g_iload dX9_goes_26 rfl ?_
      refine g_callV dX9_goes_28 sX9_fact (m_fact M1 n m a j) cl10 hG1.1.1 iX9_fact vX9_fact (iw_24 23 rfl) rfl rfl (Nat.le_of_ble_eq_true rfl) (Nat.le_of_ble_eq_true rfl) (Nat.le_of_ble_eq_true rfl) (Nat.le_of_ble_eq_true rfl) (Nat.le_of_ble_eq_true rfl) ?_
      intro r9 M9 n9 h9
      obtain ⟨h91, h92, h93⟩ := h9
      rw [h91, h92, h93]
      clear h91 h92 h93 r9 M9 n9
      refine g_callV dX9_goes_31 sX9_copy (s_copy M1 n m (328 + j) (8 * a + j) _ hG1 (by omega) (by omega)) cl10 hG1.1.1 iX9_copy vX9_copy (iw_25 3 rfl) rfl rfl (Nat.le_of_ble_eq_true rfl) (Nat.le_of_ble_eq_true rfl) (Nat.le_of_ble_eq_true rfl) (Nat.le_of_ble_eq_true rfl) (Nat.le_of_ble_eq_true rfl) ?_
      intro r9 M2 n9 h9
      obtain ⟨h91, h93, hO2, hG2⟩ := h9
      rw [h91, h93]
      clear h91 h93 r9 n9
      refine g_iinc dX9_goes_34 rfl (nI_1 j) (Nat.le_of_ble_eq_true rfl) ?_
      refine g_goto (tgt := 10) dX9_goes_37 (by decide) ?_
      rw [blk_1 (by omega)] at hG2
      exact ih (j + 1) M2 (by omega) (by omega) (hO.trans hO2) hG2

theorem blk_low {S : Nat → List Sp} {a t : Nat} (h : t < 328 ∨ 336 ≤ t) : blk S 328 (8 * a) 8 t = S t := by
  unfold blk
  rw [if_neg (by omega)]
theorem blk_giv {S : Nat → List Sp} {a p : Nat} (h : p < 8) : blk S 328 (8 * a) 8 (328 + p) = S (8 * a + p) := by
  unfold blk
  rw [if_pos (by omega), show 328 + p - 328 = p by omega]
set_option maxHeartbeats 4000000 in
set_option maxRecDepth 100000 in
theorem p_go169 {M M1 : gM} {n m a : Nat} {s : St} {S : Nat → List Sp} {nm : Bool} {x y : Int32} (ha : a < 40) (hT : sT M1 m a s) (hv : vS s) (hn : ∀ p, p < 8 → S (8 * a + p) ≠ []) (hO : Off M M1 (fA m)) (hG : rS M1 m (blk S 328 (8 * a) 8)) (c_43 : ¬ s.1 = 19) (c_51 : ¬ s.1 = 18) (c_59 : 11 ≤ s.1) (c_133 : ¬ s.2.1 = s.2.2.1) (ex : x = nI (pl s.2.1)) (ey : y = nI (pl s.2.2.1)) : GW μX9_goes (gRm 6 150 0 0) (gTh (fun r M1 n1 => r = some (.int (bI (gvn s (fun p => S (8 * a + p)) nm).isSome)) ∧ n1 = n ∧ Off M M1 (fA m) ∧ ∃ S1, rS M1 m S1 ∧ (∀ G, gvn s (fun p => S (8 * a + p)) nm = some G → ∀ p, p < 8 → S1 (328 + p) = G p) ∧ agr S S1 gvP) 0 0) 0 0 169 [some (.ref m), some (.int (nI a)), some (.int (bI nm)), some (.int (nI s.1)), some (.int (nI (s.1 - 11))), some (.int x), some (.int y), none] [] M1 n := by
  subst ex
  subst ey
  have hk19 := hv.1
  have pa := hv.2.1 (by omega)
  have pb := hv.2.2.1 (by omega)
  have la := pa.lt
  have lb := pb.lt
  have hne : pl s.2.1 ≠ pl s.2.2.1 := fun h => c_133 (by rw [pa.eq, pb.eq, h])
  refine g_aload_n dX9_goes_169 rfl ?_
  refine g_sipush (v := nI 344) dX9_goes_170 rfl ?_
  refine g_aload_n dX9_goes_173 rfl ?_
  refine g_iload_n dX9_goes_174 rfl ?_
  refine g_iload dX9_goes_175 rfl ?_
  refine g_callV dX9_goes_177 sX9_fact (m_fact M1 n m a (pl s.2.1)) cl10 hG.1.1 iX9_fact vX9_fact (iw_24 23 rfl) rfl rfl (Nat.le_of_ble_eq_true rfl) (Nat.le_of_ble_eq_true rfl) (Nat.le_of_ble_eq_true rfl) (Nat.le_of_ble_eq_true rfl) (Nat.le_of_ble_eq_true rfl) ?_
  intro r9 M9 n9 h9
  obtain ⟨h91, h92, h93⟩ := h9
  rw [h91, h92, h93]
  clear h91 h92 h93 r9 M9 n9
  refine g_callV dX9_goes_180 sX9_copy (s_copy M1 n m 344 (8 * a + pl s.2.1) _ hG (by omega) (by omega)) cl10 hG.1.1 iX9_copy vX9_copy (iw_25 3 rfl) rfl rfl (Nat.le_of_ble_eq_true rfl) (Nat.le_of_ble_eq_true rfl) (Nat.le_of_ble_eq_true rfl) (Nat.le_of_ble_eq_true rfl) (Nat.le_of_ble_eq_true rfl) ?_
  intro r9 M2 n9 h9
  obtain ⟨h91, h93, hO2, hG2⟩ := h9
  rw [h91, h93]
  clear h91 h93 r9 n9
  refine g_aload_n dX9_goes_183 rfl ?_
  refine g_sipush (v := nI 345) dX9_goes_184 rfl ?_
  refine g_aload_n dX9_goes_187 rfl ?_
  refine g_iload_n dX9_goes_188 rfl ?_
  refine g_iload dX9_goes_189 rfl ?_
  refine g_callV dX9_goes_191 sX9_fact (m_fact M2 n m a (pl s.2.2.1)) cl10 hG2.1.1 iX9_fact vX9_fact (iw_24 23 rfl) rfl rfl (Nat.le_of_ble_eq_true rfl) (Nat.le_of_ble_eq_true rfl) (Nat.le_of_ble_eq_true rfl) (Nat.le_of_ble_eq_true rfl) (Nat.le_of_ble_eq_true rfl) ?_
  intro r9 M9 n9 h9
  obtain ⟨h91, h92, h93⟩ := h9
  rw [h91, h92, h93]
  clear h91 h92 h93 r9 M9 n9
  refine g_callV dX9_goes_194 sX9_copy (s_copy M2 n m 345 (8 * a + pl s.2.2.1) _ hG2 (by omega) (by omega)) cl10 hG2.1.1 iX9_copy vX9_copy (iw_25 3 rfl) rfl rfl (Nat.le_of_ble_eq_true rfl) (Nat.le_of_ble_eq_true rfl) (Nat.le_of_ble_eq_true rfl) (Nat.le_of_ble_eq_true rfl) (Nat.le_of_ble_eq_true rfl) ?_
  intro r9 M3 n9 h9
  obtain ⟨h91, h93, hO3, hG3⟩ := h9
  rw [h91, h93]
  clear h91 h93 r9 n9
  rw [up1_ne _ _ (show 8 * a + pl s.2.2.1 ≠ 344 by omega), blk_low (by omega), blk_low (by omega)] at hG3
  refine g_aload_n dX9_goes_197 rfl ?_
  refine g_iload_n dX9_goes_198 rfl ?_
  refine g_if_eq (tgt := 207) dX9_goes_199 (by decide) (fun c_199 => ?_) (fun c_199 => ?_)
  · skip
    rw [bI_eq0] at c_199
    refine g_iload dX9_goes_207 rfl ?_
    refine g_callS dX9_goes_209 sX9_not (m_not M3 n (s.1 - 11) (by omega)) tX9_not (iw_28 10 rfl) rfl rfl (Nat.le_of_ble_eq_true rfl) (Nat.le_of_ble_eq_true rfl) (Nat.le_of_ble_eq_true rfl) (Nat.le_of_ble_eq_true rfl) (Nat.le_of_ble_eq_true rfl) ?_
    intro r9 M9 n9 h9
    obtain ⟨h91, h92, h93⟩ := h9
    rw [h91, h92, h93]
    clear h91 h92 h93 r9 M9 n9
    first
      | rw [show nI (s.1 - 11) = nI (if nm = true then s.1 - 11 else notR (s.1 - 11)) by rw [c_199]; rfl]
      | rw [show nI (notR (s.1 - 11)) = nI (if nm = true then s.1 - 11 else notR (s.1 - 11)) by rw [c_199]; rfl]
    refine g_callV dX9_goes_212 sX9_sharpen (s_sharpen M3 n m (if nm = true then s.1 - 11 else notR (s.1 - 11)) _ hG3 (by unfold notR; split <;> (try split) <;> (try split) <;> (try split) <;> (try split) <;> (try split) <;> (try split) <;> omega) (by rw [up1_ne _ _ (by omega), up1_eq]; exact hn _ la) (by rw [up1_eq]; exact hn _ lb)) cl10 hG3.1.1 iX9_sharpen vX9_sharpen (iw_28 13 rfl) rfl rfl (Nat.le_of_ble_eq_true rfl) (Nat.le_of_ble_eq_true rfl) (Nat.le_of_ble_eq_true rfl) (Nat.le_of_ble_eq_true rfl) (Nat.le_of_ble_eq_true rfl) ?_
    intro r9 M4 n9 h9
    obtain ⟨h91, h93, hO4, S4, hG4, e1, e2, e3⟩ := h9
    rw [h91, h93]
    clear h91 h93 r9 n9
    rw [up1_ne _ _ (show (344 : Nat) ≠ 345 by decide), up1_eq, up1_eq] at e1 e2 ⊢
    refine g_istore dX9_goes_215 (Nat.le_of_ble_eq_true rfl) ?_
    refine g_aload_n dX9_goes_217 rfl ?_
    refine g_sipush (v := nI 328) dX9_goes_218 rfl ?_
    refine g_iload dX9_goes_221 rfl ?_
    refine g_iadd dX9_goes_223 ?_
    rw [nI_add]
    refine g_sipush (v := nI 344) dX9_goes_224 rfl ?_
    refine g_callV dX9_goes_227 sX9_copy (s_copy M4 n m (328 + pl s.2.1) 344 _ hG4 (by omega) (by omega)) cl10 hG4.1.1 iX9_copy vX9_copy (iw_25 3 rfl) rfl rfl (Nat.le_of_ble_eq_true rfl) (Nat.le_of_ble_eq_true rfl) (Nat.le_of_ble_eq_true rfl) (Nat.le_of_ble_eq_true rfl) (Nat.le_of_ble_eq_true rfl) ?_
    intro r9 M5 n9 h9
    obtain ⟨h91, h93, hO5, hG5⟩ := h9
    rw [h91, h93]
    clear h91 h93 r9 n9
    refine g_aload_n dX9_goes_230 rfl ?_
    refine g_sipush (v := nI 328) dX9_goes_231 rfl ?_
    refine g_iload dX9_goes_234 rfl ?_
    refine g_iadd dX9_goes_236 ?_
    rw [nI_add]
    refine g_sipush (v := nI 345) dX9_goes_237 rfl ?_
    refine g_callV dX9_goes_240 sX9_copy (s_copy M5 n m (328 + pl s.2.2.1) 345 _ hG5 (by omega) (by omega)) cl10 hG5.1.1 iX9_copy vX9_copy (iw_25 3 rfl) rfl rfl (Nat.le_of_ble_eq_true rfl) (Nat.le_of_ble_eq_true rfl) (Nat.le_of_ble_eq_true rfl) (Nat.le_of_ble_eq_true rfl) (Nat.le_of_ble_eq_true rfl) ?_
    intro r9 M6 n9 h9
    obtain ⟨h91, h93, hO6, hG6⟩ := h9
    rw [h91, h93]
    clear h91 h93 r9 n9
    refine g_iload dX9_goes_243 rfl ?_
    exact g_iret dX9_goes_245 (Or.inr ⟨rfl, bI_01 _⟩) (Nat.le_of_ble_eq_true rfl) (Nat.le_of_ble_eq_true rfl) (by
      have ag : agr S (up1 (up1 S4 (328 + pl s.2.1) (S4 344)) (328 + pl s.2.2.1) (up1 S4 (328 + pl s.2.1) (S4 344) 345)) gvP := by
        intro t ht
        unfold gvP at ht
        rw [up1_ne _ _ (by omega), up1_ne _ _ (by omega), e3 t (by omega), up1_ne _ _ (by omega), up1_ne _ _ (by omega)]
        exact blk_low (by omega)
      have gv : ∀ p, p < 8 → up1 (up1 S4 (328 + pl s.2.1) (S4 344)) (328 + pl s.2.2.1) (up1 S4 (328 + pl s.2.1) (S4 344) 345) (328 + p) = up1 (up1 (fun p => S (8 * a + p)) (pl s.2.1) (shp (if nm = true then s.1 - 11 else notR (s.1 - 11)) (S (8 * a + pl s.2.1)) (S (8 * a + pl s.2.2.1))).1) (pl s.2.2.1) (shp (if nm = true then s.1 - 11 else notR (s.1 - 11)) (S (8 * a + pl s.2.1)) (S (8 * a + pl s.2.2.1))).2 p := by
        intro p hp
        by_cases q1 : p = pl s.2.2.1
        · subst q1; rw [up1_eq, up1_eq, up1_ne _ _ (by omega), e2]
        · rw [up1_ne _ _ (by omega), up1_ne _ _ q1]
          by_cases q2 : p = pl s.2.1
          · subst q2; rw [up1_eq, up1_eq, e1]
          · rw [up1_ne _ _ (by omega), up1_ne _ _ q2, e3 _ (by omega), up1_ne _ _ (by omega), up1_ne _ _ (by omega)]
            exact blk_giv hp
      by_cases c : (shp (if nm = true then s.1 - 11 else notR (s.1 - 11)) (S (8 * a + pl s.2.1)) (S (8 * a + pl s.2.2.1))).1 ≠ [] ∧ (shp (if nm = true then s.1 - 11 else notR (s.1 - 11)) (S (8 * a + pl s.2.1)) (S (8 * a + pl s.2.2.1))).2 ≠ []
      · have hg : gvn s (fun p => S (8 * a + p)) nm = some (up1 (up1 (fun p => S (8 * a + p)) (pl s.2.1) (shp (if nm = true then s.1 - 11 else notR (s.1 - 11)) (S (8 * a + pl s.2.1)) (S (8 * a + pl s.2.2.1))).1) (pl s.2.2.1) (shp (if nm = true then s.1 - 11 else notR (s.1 - 11)) (S (8 * a + pl s.2.1)) (S (8 * a + pl s.2.2.1))).2) := by
          unfold gvn
          rw [if_neg c_43, if_neg c_51, if_neg (by omega), if_neg c_133, if_pos c]
        exact ⟨by rw [hg, decide_eq_true c]; rfl, rfl, ((((hO.trans hO2).trans hO3).trans hO4).trans hO5).trans hO6, _, hG6, fun G h p hp => by rw [hg] at h; cases h; exact gv p hp, ag⟩
      · have hg : gvn s (fun p => S (8 * a + p)) nm = none := by
          unfold gvn
          rw [if_neg c_43, if_neg c_51, if_neg (by omega), if_neg c_133, if_neg c]
        exact ⟨by rw [hg, decide_eq_false c]; rfl, rfl, ((((hO.trans hO2).trans hO3).trans hO4).trans hO5).trans hO6, _, hG6, fun G h p hp => (by rw [hg] at h; cases h), ag⟩)
  · skip
    rw [bI_eq0, Bool.not_eq_false] at c_199
    refine g_iload dX9_goes_202 rfl ?_
    refine g_goto (tgt := 212) dX9_goes_204 (by decide) ?_
    first
      | rw [show nI (s.1 - 11) = nI (if nm = true then s.1 - 11 else notR (s.1 - 11)) by rw [c_199]; rfl]
      | rw [show nI (notR (s.1 - 11)) = nI (if nm = true then s.1 - 11 else notR (s.1 - 11)) by rw [c_199]; rfl]
    refine g_callV dX9_goes_212 sX9_sharpen (s_sharpen M3 n m (if nm = true then s.1 - 11 else notR (s.1 - 11)) _ hG3 (by unfold notR; split <;> (try split) <;> (try split) <;> (try split) <;> (try split) <;> (try split) <;> (try split) <;> omega) (by rw [up1_ne _ _ (by omega), up1_eq]; exact hn _ la) (by rw [up1_eq]; exact hn _ lb)) cl10 hG3.1.1 iX9_sharpen vX9_sharpen (iw_28 13 rfl) rfl rfl (Nat.le_of_ble_eq_true rfl) (Nat.le_of_ble_eq_true rfl) (Nat.le_of_ble_eq_true rfl) (Nat.le_of_ble_eq_true rfl) (Nat.le_of_ble_eq_true rfl) ?_
    intro r9 M4 n9 h9
    obtain ⟨h91, h93, hO4, S4, hG4, e1, e2, e3⟩ := h9
    rw [h91, h93]
    clear h91 h93 r9 n9
    rw [up1_ne _ _ (show (344 : Nat) ≠ 345 by decide), up1_eq, up1_eq] at e1 e2 ⊢
    refine g_istore dX9_goes_215 (Nat.le_of_ble_eq_true rfl) ?_
    refine g_aload_n dX9_goes_217 rfl ?_
    refine g_sipush (v := nI 328) dX9_goes_218 rfl ?_
    refine g_iload dX9_goes_221 rfl ?_
    refine g_iadd dX9_goes_223 ?_
    rw [nI_add]
    refine g_sipush (v := nI 344) dX9_goes_224 rfl ?_
    refine g_callV dX9_goes_227 sX9_copy (s_copy M4 n m (328 + pl s.2.1) 344 _ hG4 (by omega) (by omega)) cl10 hG4.1.1 iX9_copy vX9_copy (iw_25 3 rfl) rfl rfl (Nat.le_of_ble_eq_true rfl) (Nat.le_of_ble_eq_true rfl) (Nat.le_of_ble_eq_true rfl) (Nat.le_of_ble_eq_true rfl) (Nat.le_of_ble_eq_true rfl) ?_
    intro r9 M5 n9 h9
    obtain ⟨h91, h93, hO5, hG5⟩ := h9
    rw [h91, h93]
    clear h91 h93 r9 n9
    refine g_aload_n dX9_goes_230 rfl ?_
    refine g_sipush (v := nI 328) dX9_goes_231 rfl ?_
    refine g_iload dX9_goes_234 rfl ?_
    refine g_iadd dX9_goes_236 ?_
    rw [nI_add]
    refine g_sipush (v := nI 345) dX9_goes_237 rfl ?_
    refine g_callV dX9_goes_240 sX9_copy (s_copy M5 n m (328 + pl s.2.2.1) 345 _ hG5 (by omega) (by omega)) cl10 hG5.1.1 iX9_copy vX9_copy (iw_25 3 rfl) rfl rfl (Nat.le_of_ble_eq_true rfl) (Nat.le_of_ble_eq_true rfl) (Nat.le_of_ble_eq_true rfl) (Nat.le_of_ble_eq_true rfl) (Nat.le_of_ble_eq_true rfl) ?_
    intro r9 M6 n9 h9
    obtain ⟨h91, h93, hO6, hG6⟩ := h9
    rw [h91, h93]
    clear h91 h93 r9 n9
    refine g_iload dX9_goes_243 rfl ?_
    exact g_iret dX9_goes_245 (Or.inr ⟨rfl, bI_01 _⟩) (Nat.le_of_ble_eq_true rfl) (Nat.le_of_ble_eq_true rfl) (by
      have ag : agr S (up1 (up1 S4 (328 + pl s.2.1) (S4 344)) (328 + pl s.2.2.1) (up1 S4 (328 + pl s.2.1) (S4 344) 345)) gvP := by
        intro t ht
        unfold gvP at ht
        rw [up1_ne _ _ (by omega), up1_ne _ _ (by omega), e3 t (by omega), up1_ne _ _ (by omega), up1_ne _ _ (by omega)]
        exact blk_low (by omega)
      have gv : ∀ p, p < 8 → up1 (up1 S4 (328 + pl s.2.1) (S4 344)) (328 + pl s.2.2.1) (up1 S4 (328 + pl s.2.1) (S4 344) 345) (328 + p) = up1 (up1 (fun p => S (8 * a + p)) (pl s.2.1) (shp (if nm = true then s.1 - 11 else notR (s.1 - 11)) (S (8 * a + pl s.2.1)) (S (8 * a + pl s.2.2.1))).1) (pl s.2.2.1) (shp (if nm = true then s.1 - 11 else notR (s.1 - 11)) (S (8 * a + pl s.2.1)) (S (8 * a + pl s.2.2.1))).2 p := by
        intro p hp
        by_cases q1 : p = pl s.2.2.1
        · subst q1; rw [up1_eq, up1_eq, up1_ne _ _ (by omega), e2]
        · rw [up1_ne _ _ (by omega), up1_ne _ _ q1]
          by_cases q2 : p = pl s.2.1
          · subst q2; rw [up1_eq, up1_eq, e1]
          · rw [up1_ne _ _ (by omega), up1_ne _ _ q2, e3 _ (by omega), up1_ne _ _ (by omega), up1_ne _ _ (by omega)]
            exact blk_giv hp
      by_cases c : (shp (if nm = true then s.1 - 11 else notR (s.1 - 11)) (S (8 * a + pl s.2.1)) (S (8 * a + pl s.2.2.1))).1 ≠ [] ∧ (shp (if nm = true then s.1 - 11 else notR (s.1 - 11)) (S (8 * a + pl s.2.1)) (S (8 * a + pl s.2.2.1))).2 ≠ []
      · have hg : gvn s (fun p => S (8 * a + p)) nm = some (up1 (up1 (fun p => S (8 * a + p)) (pl s.2.1) (shp (if nm = true then s.1 - 11 else notR (s.1 - 11)) (S (8 * a + pl s.2.1)) (S (8 * a + pl s.2.2.1))).1) (pl s.2.2.1) (shp (if nm = true then s.1 - 11 else notR (s.1 - 11)) (S (8 * a + pl s.2.1)) (S (8 * a + pl s.2.2.1))).2) := by
          unfold gvn
          rw [if_neg c_43, if_neg c_51, if_neg (by omega), if_neg c_133, if_pos c]
        exact ⟨by rw [hg, decide_eq_true c]; rfl, rfl, ((((hO.trans hO2).trans hO3).trans hO4).trans hO5).trans hO6, _, hG6, fun G h p hp => by rw [hg] at h; cases h; exact gv p hp, ag⟩
      · have hg : gvn s (fun p => S (8 * a + p)) nm = none := by
          unfold gvn
          rw [if_neg c_43, if_neg c_51, if_neg (by omega), if_neg c_133, if_neg c]
        exact ⟨by rw [hg, decide_eq_false c]; rfl, rfl, ((((hO.trans hO2).trans hO3).trans hO4).trans hO5).trans hO6, _, hG6, fun G h p hp => (by rw [hg] at h; cases h), ag⟩)

set_option maxHeartbeats 4000000 in
set_option maxRecDepth 100000 in
theorem p_go40 {M M1 : gM} {n m a : Nat} {s : St} {S : Nat → List Sp} {nm : Bool} (ha : a < 40) (hT : sT M1 m a s) (hv : vS s) (hn : ∀ p, p < 8 → S (8 * a + p) ≠ []) (hO : Off M M1 (fA m)) (hG : rS M1 m (blk S 328 (8 * a) 8)) : GW μX9_goes (gRm 6 150 0 0) (gTh (fun r M1 n1 => r = some (.int (bI (gvn s (fun p => S (8 * a + p)) nm).isSome)) ∧ n1 = n ∧ Off M M1 (fA m) ∧ ∃ S1, rS M1 m S1 ∧ (∀ G, gvn s (fun p => S (8 * a + p)) nm = some G → ∀ p, p < 8 → S1 (328 + p) = G p) ∧ agr S S1 gvP) 0 0) 0 0 40 [some (.ref m), some (.int (nI a)), some (.int (bI nm)), some (.int (nI s.1)), none, none, none, none] [] M1 n := by
  have hk19 := hv.1
  have z0 : (0 : Int32) = nI 0 := rfl
  refine g_iload_n dX9_goes_40 rfl ?_
  refine g_bipush (v := nI 19) dX9_goes_41 rfl ?_
  refine g_icmp_ne (tgt := 48) dX9_goes_43 (by decide) (fun c_43 => ?_) (fun c_43 => ?_)
  · skip
    rw [nI_inj (by omega) (by omega)] at c_43
    refine g_iload_n dX9_goes_48 rfl ?_
    refine g_bipush (v := nI 18) dX9_goes_49 rfl ?_
    refine g_icmp_ne (tgt := 56) dX9_goes_51 (by decide) (fun c_51 => ?_) (fun c_51 => ?_)
    · skip
      rw [nI_inj (by omega) (by omega)] at c_51
      refine g_iload_n dX9_goes_56 rfl ?_
      refine g_bipush (v := nI 11) dX9_goes_57 rfl ?_
      refine g_icmp_ge (tgt := 107) dX9_goes_59 (by decide) (fun c_59 => ?_) (fun c_59 => ?_)
      · skip
        rw [nI_leI (by omega) (by omega)] at c_59
        refine g_iload_n dX9_goes_107 rfl ?_
        refine g_bipush (v := nI 11) dX9_goes_108 rfl ?_
        refine g_isub dX9_goes_110 ?_
        rw [pk_sub (by omega)]
        refine g_istore dX9_goes_111 (Nat.le_of_ble_eq_true rfl) ?_
        refine g_aload_n dX9_goes_113 rfl ?_
        refine g_getR (f := 8) dX9_goes_114 cl10 hG.1.1 (by decide) (Or.inl (iw_6 1 rfl)) (Or.inl rfl) rfl hG.1.r_argA ?_
        refine g_iload_n dX9_goes_117 rfl ?_
        refine g_iaload dX9_goes_118 (j := a) hG.1.k_argA hG.1.n_argA rfl (by omega) (by decide) ?_
        rw [hT.2.1]
        refine g_istore dX9_goes_119 (Nat.le_of_ble_eq_true rfl) ?_
        refine g_aload_n dX9_goes_121 rfl ?_
        refine g_getR (f := 9) dX9_goes_122 cl10 hG.1.1 (by decide) (Or.inl (iw_6 2 rfl)) (Or.inl rfl) rfl hG.1.r_argB ?_
        refine g_iload_n dX9_goes_125 rfl ?_
        refine g_iaload dX9_goes_126 (j := a) hG.1.k_argB hG.1.n_argB rfl (by omega) (by decide) ?_
        rw [hT.2.2.1]
        refine g_istore dX9_goes_127 (Nat.le_of_ble_eq_true rfl) ?_
        refine g_iload dX9_goes_129 rfl ?_
        refine g_iload dX9_goes_131 rfl ?_
        refine g_icmp_ne (tgt := 169) dX9_goes_133 (by decide) (fun c_133 => ?_) (fun c_133 => ?_)
        · skip
          have pa := hv.2.1 (by omega)
          have pb := hv.2.2.1 (by omega)
          exact p_go169 ha hT hv hn hO hG c_43 c_51 (by omega) c_133 pa.eq pb.eq
        · skip
          refine g_iload_n dX9_goes_136 rfl ?_
          refine g_iload dX9_goes_137 rfl ?_
          refine g_iconst (v := nI 1) dX9_goes_139 rfl ?_
          refine g_icmp_eq (tgt := 155) dX9_goes_140 (by decide) (fun c_140 => ?_) (fun c_140 => ?_)
          · skip
            try rw [nI_inj (by omega) (by omega)] at c_140
            try rw [nI_inj (by omega) (by omega)] at c_146
            try rw [nI_inj (by omega) (by omega)] at c_152
            refine g_iconst (v := nI 1) dX9_goes_155 rfl ?_
            refine g_goto (tgt := 160) dX9_goes_156 (by decide) ?_
            refine g_icmp_ne (tgt := 167) dX9_goes_160 (by decide) (fun c_160 => ?_) (fun c_160 => ?_)
            · skip
              refine g_iconst (v := nI 0) dX9_goes_167 rfl ?_
              exact g_iret dX9_goes_168 (Or.inr ⟨rfl, by first | exact Or.inl rfl | exact Or.inr rfl⟩) (Nat.le_of_ble_eq_true rfl) (Nat.le_of_ble_eq_true rfl) (by
                first
                  | (have he : eqR (s.1 - 11) = true := by unfold eqR; exact decide_eq_true (by omega)
                     cases nm
                     · first
                         | exact absurd c_160 (by decide)
                         | exact absurd rfl c_160
                         | (have hg : gvn s (fun p => S (8 * a + p)) false = none := by unfold gvn; rw [if_neg c_43, if_neg c_51, if_neg (by omega), if_pos c_133, he]; rfl
                            exact ⟨by rw [hg]; rfl, rfl, hO, _, hG, (fun G h => by rw [hg] at h; cases h), (fun t ht => by unfold gvP at ht; exact blk_low (by omega))⟩)
                     · first
                         | exact absurd c_160 (by decide)
                         | exact absurd rfl c_160
                         | (have hg : gvn s (fun p => S (8 * a + p)) true = some (fun p => S (8 * a + p)) := by unfold gvn; rw [if_neg c_43, if_neg c_51, if_neg (by omega), if_pos c_133, he]; rfl
                            exact ⟨by rw [hg]; rfl, rfl, hO, _, hG, (fun G h p hp => by rw [hg] at h; cases h; exact blk_giv hp), (fun t ht => by unfold gvP at ht; exact blk_low (by omega))⟩))
                  | (have he : eqR (s.1 - 11) = false := by unfold eqR; exact decide_eq_false (by omega)
                     cases nm
                     · first
                         | exact absurd c_160 (by decide)
                         | exact absurd rfl c_160
                         | (have hg : gvn s (fun p => S (8 * a + p)) false = some (fun p => S (8 * a + p)) := by unfold gvn; rw [if_neg c_43, if_neg c_51, if_neg (by omega), if_pos c_133, he]; rfl
                            exact ⟨by rw [hg]; rfl, rfl, hO, _, hG, (fun G h p hp => by rw [hg] at h; cases h; exact blk_giv hp), (fun t ht => by unfold gvP at ht; exact blk_low (by omega))⟩)
                     · first
                         | exact absurd c_160 (by decide)
                         | exact absurd rfl c_160
                         | (have hg : gvn s (fun p => S (8 * a + p)) true = none := by unfold gvn; rw [if_neg c_43, if_neg c_51, if_neg (by omega), if_pos c_133, he]; rfl
                            exact ⟨by rw [hg]; rfl, rfl, hO, _, hG, (fun G h => by rw [hg] at h; cases h), (fun t ht => by unfold gvP at ht; exact blk_low (by omega))⟩)))
            · skip
              refine g_iconst (v := nI 1) dX9_goes_163 rfl ?_
              refine g_goto (tgt := 168) dX9_goes_164 (by decide) ?_
              exact g_iret dX9_goes_168 (Or.inr ⟨rfl, by first | exact Or.inl rfl | exact Or.inr rfl⟩) (Nat.le_of_ble_eq_true rfl) (Nat.le_of_ble_eq_true rfl) (by
                first
                  | (have he : eqR (s.1 - 11) = true := by unfold eqR; exact decide_eq_true (by omega)
                     cases nm
                     · first
                         | exact absurd c_160 (by decide)
                         | exact absurd rfl c_160
                         | (have hg : gvn s (fun p => S (8 * a + p)) false = none := by unfold gvn; rw [if_neg c_43, if_neg c_51, if_neg (by omega), if_pos c_133, he]; rfl
                            exact ⟨by rw [hg]; rfl, rfl, hO, _, hG, (fun G h => by rw [hg] at h; cases h), (fun t ht => by unfold gvP at ht; exact blk_low (by omega))⟩)
                     · first
                         | exact absurd c_160 (by decide)
                         | exact absurd rfl c_160
                         | (have hg : gvn s (fun p => S (8 * a + p)) true = some (fun p => S (8 * a + p)) := by unfold gvn; rw [if_neg c_43, if_neg c_51, if_neg (by omega), if_pos c_133, he]; rfl
                            exact ⟨by rw [hg]; rfl, rfl, hO, _, hG, (fun G h p hp => by rw [hg] at h; cases h; exact blk_giv hp), (fun t ht => by unfold gvP at ht; exact blk_low (by omega))⟩))
                  | (have he : eqR (s.1 - 11) = false := by unfold eqR; exact decide_eq_false (by omega)
                     cases nm
                     · first
                         | exact absurd c_160 (by decide)
                         | exact absurd rfl c_160
                         | (have hg : gvn s (fun p => S (8 * a + p)) false = some (fun p => S (8 * a + p)) := by unfold gvn; rw [if_neg c_43, if_neg c_51, if_neg (by omega), if_pos c_133, he]; rfl
                            exact ⟨by rw [hg]; rfl, rfl, hO, _, hG, (fun G h p hp => by rw [hg] at h; cases h; exact blk_giv hp), (fun t ht => by unfold gvP at ht; exact blk_low (by omega))⟩)
                     · first
                         | exact absurd c_160 (by decide)
                         | exact absurd rfl c_160
                         | (have hg : gvn s (fun p => S (8 * a + p)) true = none := by unfold gvn; rw [if_neg c_43, if_neg c_51, if_neg (by omega), if_pos c_133, he]; rfl
                            exact ⟨by rw [hg]; rfl, rfl, hO, _, hG, (fun G h => by rw [hg] at h; cases h), (fun t ht => by unfold gvP at ht; exact blk_low (by omega))⟩)))
          · skip
            refine g_iload dX9_goes_143 rfl ?_
            refine g_iconst (v := nI 2) dX9_goes_145 rfl ?_
            refine g_icmp_eq (tgt := 155) dX9_goes_146 (by decide) (fun c_146 => ?_) (fun c_146 => ?_)
            · skip
              try rw [nI_inj (by omega) (by omega)] at c_140
              try rw [nI_inj (by omega) (by omega)] at c_146
              try rw [nI_inj (by omega) (by omega)] at c_152
              refine g_iconst (v := nI 1) dX9_goes_155 rfl ?_
              refine g_goto (tgt := 160) dX9_goes_156 (by decide) ?_
              refine g_icmp_ne (tgt := 167) dX9_goes_160 (by decide) (fun c_160 => ?_) (fun c_160 => ?_)
              · skip
                refine g_iconst (v := nI 0) dX9_goes_167 rfl ?_
                exact g_iret dX9_goes_168 (Or.inr ⟨rfl, by first | exact Or.inl rfl | exact Or.inr rfl⟩) (Nat.le_of_ble_eq_true rfl) (Nat.le_of_ble_eq_true rfl) (by
                  first
                    | (have he : eqR (s.1 - 11) = true := by unfold eqR; exact decide_eq_true (by omega)
                       cases nm
                       · first
                           | exact absurd c_160 (by decide)
                           | exact absurd rfl c_160
                           | (have hg : gvn s (fun p => S (8 * a + p)) false = none := by unfold gvn; rw [if_neg c_43, if_neg c_51, if_neg (by omega), if_pos c_133, he]; rfl
                              exact ⟨by rw [hg]; rfl, rfl, hO, _, hG, (fun G h => by rw [hg] at h; cases h), (fun t ht => by unfold gvP at ht; exact blk_low (by omega))⟩)
                       · first
                           | exact absurd c_160 (by decide)
                           | exact absurd rfl c_160
                           | (have hg : gvn s (fun p => S (8 * a + p)) true = some (fun p => S (8 * a + p)) := by unfold gvn; rw [if_neg c_43, if_neg c_51, if_neg (by omega), if_pos c_133, he]; rfl
                              exact ⟨by rw [hg]; rfl, rfl, hO, _, hG, (fun G h p hp => by rw [hg] at h; cases h; exact blk_giv hp), (fun t ht => by unfold gvP at ht; exact blk_low (by omega))⟩))
                    | (have he : eqR (s.1 - 11) = false := by unfold eqR; exact decide_eq_false (by omega)
                       cases nm
                       · first
                           | exact absurd c_160 (by decide)
                           | exact absurd rfl c_160
                           | (have hg : gvn s (fun p => S (8 * a + p)) false = some (fun p => S (8 * a + p)) := by unfold gvn; rw [if_neg c_43, if_neg c_51, if_neg (by omega), if_pos c_133, he]; rfl
                              exact ⟨by rw [hg]; rfl, rfl, hO, _, hG, (fun G h p hp => by rw [hg] at h; cases h; exact blk_giv hp), (fun t ht => by unfold gvP at ht; exact blk_low (by omega))⟩)
                       · first
                           | exact absurd c_160 (by decide)
                           | exact absurd rfl c_160
                           | (have hg : gvn s (fun p => S (8 * a + p)) true = none := by unfold gvn; rw [if_neg c_43, if_neg c_51, if_neg (by omega), if_pos c_133, he]; rfl
                              exact ⟨by rw [hg]; rfl, rfl, hO, _, hG, (fun G h => by rw [hg] at h; cases h), (fun t ht => by unfold gvP at ht; exact blk_low (by omega))⟩)))
              · skip
                refine g_iconst (v := nI 1) dX9_goes_163 rfl ?_
                refine g_goto (tgt := 168) dX9_goes_164 (by decide) ?_
                exact g_iret dX9_goes_168 (Or.inr ⟨rfl, by first | exact Or.inl rfl | exact Or.inr rfl⟩) (Nat.le_of_ble_eq_true rfl) (Nat.le_of_ble_eq_true rfl) (by
                  first
                    | (have he : eqR (s.1 - 11) = true := by unfold eqR; exact decide_eq_true (by omega)
                       cases nm
                       · first
                           | exact absurd c_160 (by decide)
                           | exact absurd rfl c_160
                           | (have hg : gvn s (fun p => S (8 * a + p)) false = none := by unfold gvn; rw [if_neg c_43, if_neg c_51, if_neg (by omega), if_pos c_133, he]; rfl
                              exact ⟨by rw [hg]; rfl, rfl, hO, _, hG, (fun G h => by rw [hg] at h; cases h), (fun t ht => by unfold gvP at ht; exact blk_low (by omega))⟩)
                       · first
                           | exact absurd c_160 (by decide)
                           | exact absurd rfl c_160
                           | (have hg : gvn s (fun p => S (8 * a + p)) true = some (fun p => S (8 * a + p)) := by unfold gvn; rw [if_neg c_43, if_neg c_51, if_neg (by omega), if_pos c_133, he]; rfl
                              exact ⟨by rw [hg]; rfl, rfl, hO, _, hG, (fun G h p hp => by rw [hg] at h; cases h; exact blk_giv hp), (fun t ht => by unfold gvP at ht; exact blk_low (by omega))⟩))
                    | (have he : eqR (s.1 - 11) = false := by unfold eqR; exact decide_eq_false (by omega)
                       cases nm
                       · first
                           | exact absurd c_160 (by decide)
                           | exact absurd rfl c_160
                           | (have hg : gvn s (fun p => S (8 * a + p)) false = some (fun p => S (8 * a + p)) := by unfold gvn; rw [if_neg c_43, if_neg c_51, if_neg (by omega), if_pos c_133, he]; rfl
                              exact ⟨by rw [hg]; rfl, rfl, hO, _, hG, (fun G h p hp => by rw [hg] at h; cases h; exact blk_giv hp), (fun t ht => by unfold gvP at ht; exact blk_low (by omega))⟩)
                       · first
                           | exact absurd c_160 (by decide)
                           | exact absurd rfl c_160
                           | (have hg : gvn s (fun p => S (8 * a + p)) true = none := by unfold gvn; rw [if_neg c_43, if_neg c_51, if_neg (by omega), if_pos c_133, he]; rfl
                              exact ⟨by rw [hg]; rfl, rfl, hO, _, hG, (fun G h => by rw [hg] at h; cases h), (fun t ht => by unfold gvP at ht; exact blk_low (by omega))⟩)))
            · skip
              refine g_iload dX9_goes_149 rfl ?_
              refine g_iconst (v := nI 4) dX9_goes_151 rfl ?_
              refine g_icmp_ne (tgt := 159) dX9_goes_152 (by decide) (fun c_152 => ?_) (fun c_152 => ?_)
              · skip
                rw [nI_inj (by omega) (by omega)] at c_140
                rw [nI_inj (by omega) (by omega)] at c_146
                rw [nI_inj (by omega) (by omega)] at c_152
                refine g_iconst (v := nI 0) dX9_goes_159 rfl ?_
                refine g_icmp_ne (tgt := 167) dX9_goes_160 (by decide) (fun c_160 => ?_) (fun c_160 => ?_)
                · skip
                  refine g_iconst (v := nI 0) dX9_goes_167 rfl ?_
                  exact g_iret dX9_goes_168 (Or.inr ⟨rfl, by first | exact Or.inl rfl | exact Or.inr rfl⟩) (Nat.le_of_ble_eq_true rfl) (Nat.le_of_ble_eq_true rfl) (by
                    first
                      | (have he : eqR (s.1 - 11) = true := by unfold eqR; exact decide_eq_true (by omega)
                         cases nm
                         · first
                             | exact absurd c_160 (by decide)
                             | exact absurd rfl c_160
                             | (have hg : gvn s (fun p => S (8 * a + p)) false = none := by unfold gvn; rw [if_neg c_43, if_neg c_51, if_neg (by omega), if_pos c_133, he]; rfl
                                exact ⟨by rw [hg]; rfl, rfl, hO, _, hG, (fun G h => by rw [hg] at h; cases h), (fun t ht => by unfold gvP at ht; exact blk_low (by omega))⟩)
                         · first
                             | exact absurd c_160 (by decide)
                             | exact absurd rfl c_160
                             | (have hg : gvn s (fun p => S (8 * a + p)) true = some (fun p => S (8 * a + p)) := by unfold gvn; rw [if_neg c_43, if_neg c_51, if_neg (by omega), if_pos c_133, he]; rfl
                                exact ⟨by rw [hg]; rfl, rfl, hO, _, hG, (fun G h p hp => by rw [hg] at h; cases h; exact blk_giv hp), (fun t ht => by unfold gvP at ht; exact blk_low (by omega))⟩))
                      | (have he : eqR (s.1 - 11) = false := by unfold eqR; exact decide_eq_false (by omega)
                         cases nm
                         · first
                             | exact absurd c_160 (by decide)
                             | exact absurd rfl c_160
                             | (have hg : gvn s (fun p => S (8 * a + p)) false = some (fun p => S (8 * a + p)) := by unfold gvn; rw [if_neg c_43, if_neg c_51, if_neg (by omega), if_pos c_133, he]; rfl
                                exact ⟨by rw [hg]; rfl, rfl, hO, _, hG, (fun G h p hp => by rw [hg] at h; cases h; exact blk_giv hp), (fun t ht => by unfold gvP at ht; exact blk_low (by omega))⟩)
                         · first
                             | exact absurd c_160 (by decide)
                             | exact absurd rfl c_160
                             | (have hg : gvn s (fun p => S (8 * a + p)) true = none := by unfold gvn; rw [if_neg c_43, if_neg c_51, if_neg (by omega), if_pos c_133, he]; rfl
                                exact ⟨by rw [hg]; rfl, rfl, hO, _, hG, (fun G h => by rw [hg] at h; cases h), (fun t ht => by unfold gvP at ht; exact blk_low (by omega))⟩)))
                · skip
                  refine g_iconst (v := nI 1) dX9_goes_163 rfl ?_
                  refine g_goto (tgt := 168) dX9_goes_164 (by decide) ?_
                  exact g_iret dX9_goes_168 (Or.inr ⟨rfl, by first | exact Or.inl rfl | exact Or.inr rfl⟩) (Nat.le_of_ble_eq_true rfl) (Nat.le_of_ble_eq_true rfl) (by
                    first
                      | (have he : eqR (s.1 - 11) = true := by unfold eqR; exact decide_eq_true (by omega)
                         cases nm
                         · first
                             | exact absurd c_160 (by decide)
                             | exact absurd rfl c_160
                             | (have hg : gvn s (fun p => S (8 * a + p)) false = none := by unfold gvn; rw [if_neg c_43, if_neg c_51, if_neg (by omega), if_pos c_133, he]; rfl
                                exact ⟨by rw [hg]; rfl, rfl, hO, _, hG, (fun G h => by rw [hg] at h; cases h), (fun t ht => by unfold gvP at ht; exact blk_low (by omega))⟩)
                         · first
                             | exact absurd c_160 (by decide)
                             | exact absurd rfl c_160
                             | (have hg : gvn s (fun p => S (8 * a + p)) true = some (fun p => S (8 * a + p)) := by unfold gvn; rw [if_neg c_43, if_neg c_51, if_neg (by omega), if_pos c_133, he]; rfl
                                exact ⟨by rw [hg]; rfl, rfl, hO, _, hG, (fun G h p hp => by rw [hg] at h; cases h; exact blk_giv hp), (fun t ht => by unfold gvP at ht; exact blk_low (by omega))⟩))
                      | (have he : eqR (s.1 - 11) = false := by unfold eqR; exact decide_eq_false (by omega)
                         cases nm
                         · first
                             | exact absurd c_160 (by decide)
                             | exact absurd rfl c_160
                             | (have hg : gvn s (fun p => S (8 * a + p)) false = some (fun p => S (8 * a + p)) := by unfold gvn; rw [if_neg c_43, if_neg c_51, if_neg (by omega), if_pos c_133, he]; rfl
                                exact ⟨by rw [hg]; rfl, rfl, hO, _, hG, (fun G h p hp => by rw [hg] at h; cases h; exact blk_giv hp), (fun t ht => by unfold gvP at ht; exact blk_low (by omega))⟩)
                         · first
                             | exact absurd c_160 (by decide)
                             | exact absurd rfl c_160
                             | (have hg : gvn s (fun p => S (8 * a + p)) true = none := by unfold gvn; rw [if_neg c_43, if_neg c_51, if_neg (by omega), if_pos c_133, he]; rfl
                                exact ⟨by rw [hg]; rfl, rfl, hO, _, hG, (fun G h => by rw [hg] at h; cases h), (fun t ht => by unfold gvP at ht; exact blk_low (by omega))⟩)))
              · skip
                try rw [nI_inj (by omega) (by omega)] at c_140
                try rw [nI_inj (by omega) (by omega)] at c_146
                try rw [nI_inj (by omega) (by omega)] at c_152
                refine g_iconst (v := nI 1) dX9_goes_155 rfl ?_
                refine g_goto (tgt := 160) dX9_goes_156 (by decide) ?_
                refine g_icmp_ne (tgt := 167) dX9_goes_160 (by decide) (fun c_160 => ?_) (fun c_160 => ?_)
                · skip
                  refine g_iconst (v := nI 0) dX9_goes_167 rfl ?_
                  exact g_iret dX9_goes_168 (Or.inr ⟨rfl, by first | exact Or.inl rfl | exact Or.inr rfl⟩) (Nat.le_of_ble_eq_true rfl) (Nat.le_of_ble_eq_true rfl) (by
                    first
                      | (have he : eqR (s.1 - 11) = true := by unfold eqR; exact decide_eq_true (by omega)
                         cases nm
                         · first
                             | exact absurd c_160 (by decide)
                             | exact absurd rfl c_160
                             | (have hg : gvn s (fun p => S (8 * a + p)) false = none := by unfold gvn; rw [if_neg c_43, if_neg c_51, if_neg (by omega), if_pos c_133, he]; rfl
                                exact ⟨by rw [hg]; rfl, rfl, hO, _, hG, (fun G h => by rw [hg] at h; cases h), (fun t ht => by unfold gvP at ht; exact blk_low (by omega))⟩)
                         · first
                             | exact absurd c_160 (by decide)
                             | exact absurd rfl c_160
                             | (have hg : gvn s (fun p => S (8 * a + p)) true = some (fun p => S (8 * a + p)) := by unfold gvn; rw [if_neg c_43, if_neg c_51, if_neg (by omega), if_pos c_133, he]; rfl
                                exact ⟨by rw [hg]; rfl, rfl, hO, _, hG, (fun G h p hp => by rw [hg] at h; cases h; exact blk_giv hp), (fun t ht => by unfold gvP at ht; exact blk_low (by omega))⟩))
                      | (have he : eqR (s.1 - 11) = false := by unfold eqR; exact decide_eq_false (by omega)
                         cases nm
                         · first
                             | exact absurd c_160 (by decide)
                             | exact absurd rfl c_160
                             | (have hg : gvn s (fun p => S (8 * a + p)) false = some (fun p => S (8 * a + p)) := by unfold gvn; rw [if_neg c_43, if_neg c_51, if_neg (by omega), if_pos c_133, he]; rfl
                                exact ⟨by rw [hg]; rfl, rfl, hO, _, hG, (fun G h p hp => by rw [hg] at h; cases h; exact blk_giv hp), (fun t ht => by unfold gvP at ht; exact blk_low (by omega))⟩)
                         · first
                             | exact absurd c_160 (by decide)
                             | exact absurd rfl c_160
                             | (have hg : gvn s (fun p => S (8 * a + p)) true = none := by unfold gvn; rw [if_neg c_43, if_neg c_51, if_neg (by omega), if_pos c_133, he]; rfl
                                exact ⟨by rw [hg]; rfl, rfl, hO, _, hG, (fun G h => by rw [hg] at h; cases h), (fun t ht => by unfold gvP at ht; exact blk_low (by omega))⟩)))
                · skip
                  refine g_iconst (v := nI 1) dX9_goes_163 rfl ?_
                  refine g_goto (tgt := 168) dX9_goes_164 (by decide) ?_
                  exact g_iret dX9_goes_168 (Or.inr ⟨rfl, by first | exact Or.inl rfl | exact Or.inr rfl⟩) (Nat.le_of_ble_eq_true rfl) (Nat.le_of_ble_eq_true rfl) (by
                    first
                      | (have he : eqR (s.1 - 11) = true := by unfold eqR; exact decide_eq_true (by omega)
                         cases nm
                         · first
                             | exact absurd c_160 (by decide)
                             | exact absurd rfl c_160
                             | (have hg : gvn s (fun p => S (8 * a + p)) false = none := by unfold gvn; rw [if_neg c_43, if_neg c_51, if_neg (by omega), if_pos c_133, he]; rfl
                                exact ⟨by rw [hg]; rfl, rfl, hO, _, hG, (fun G h => by rw [hg] at h; cases h), (fun t ht => by unfold gvP at ht; exact blk_low (by omega))⟩)
                         · first
                             | exact absurd c_160 (by decide)
                             | exact absurd rfl c_160
                             | (have hg : gvn s (fun p => S (8 * a + p)) true = some (fun p => S (8 * a + p)) := by unfold gvn; rw [if_neg c_43, if_neg c_51, if_neg (by omega), if_pos c_133, he]; rfl
                                exact ⟨by rw [hg]; rfl, rfl, hO, _, hG, (fun G h p hp => by rw [hg] at h; cases h; exact blk_giv hp), (fun t ht => by unfold gvP at ht; exact blk_low (by omega))⟩))
                      | (have he : eqR (s.1 - 11) = false := by unfold eqR; exact decide_eq_false (by omega)
                         cases nm
                         · first
                             | exact absurd c_160 (by decide)
                             | exact absurd rfl c_160
                             | (have hg : gvn s (fun p => S (8 * a + p)) false = some (fun p => S (8 * a + p)) := by unfold gvn; rw [if_neg c_43, if_neg c_51, if_neg (by omega), if_pos c_133, he]; rfl
                                exact ⟨by rw [hg]; rfl, rfl, hO, _, hG, (fun G h p hp => by rw [hg] at h; cases h; exact blk_giv hp), (fun t ht => by unfold gvP at ht; exact blk_low (by omega))⟩)
                         · first
                             | exact absurd c_160 (by decide)
                             | exact absurd rfl c_160
                             | (have hg : gvn s (fun p => S (8 * a + p)) true = none := by unfold gvn; rw [if_neg c_43, if_neg c_51, if_neg (by omega), if_pos c_133, he]; rfl
                                exact ⟨by rw [hg]; rfl, rfl, hO, _, hG, (fun G h => by rw [hg] at h; cases h), (fun t ht => by unfold gvP at ht; exact blk_low (by omega))⟩)))
      · skip
        rw [nI_leI (by omega) (by omega)] at c_59
        refine g_iload_n dX9_goes_62 rfl ?_
        refine g_if_eq (tgt := 68) dX9_goes_63 (by decide) (fun c_63 => ?_) (fun c_63 => ?_)
        · skip
          rw [bI_eq0] at c_63
          refine g_aload_n dX9_goes_68 rfl ?_
          refine g_iload_n dX9_goes_69 rfl ?_
          refine g_callV dX9_goes_70 sX9_make (s_make M1 n m a s _ hG ha hT hv (by omega)) cl10 hG.1.1 iX9_make vX9_make (iw_25 11 rfl) rfl rfl (Nat.le_of_ble_eq_true rfl) (Nat.le_of_ble_eq_true rfl) (Nat.le_of_ble_eq_true rfl) (Nat.le_of_ble_eq_true rfl) (Nat.le_of_ble_eq_true rfl) ?_
          intro r9 M2 n9 h9
          obtain ⟨h91, h93, hO2, hG2⟩ := h9
          rw [h91, h93]
          clear h91 h93 r9 n9
          have hT2 := hT.offA hO2
          have pa := hv.2.1 (by omega)
          refine g_aload_n dX9_goes_73 rfl ?_
          refine g_sipush (v := nI 328) dX9_goes_74 rfl ?_
          refine g_aload_n dX9_goes_77 rfl ?_
          refine g_getR (f := 8) dX9_goes_78 cl10 hG2.1.1 (by decide) (Or.inl (iw_6 1 rfl)) (Or.inl rfl) rfl hG2.1.r_argA ?_
          refine g_iload_n dX9_goes_81 rfl ?_
          refine g_iaload dX9_goes_82 (j := a) hG2.1.k_argA hG2.1.n_argA rfl (by omega) (by decide) ?_
          rw [show mI M2 (m + 6) a = nI (pl s.2.1) from hT2.2.1.trans pa.eq]
          refine g_iadd dX9_goes_83 ?_
          rw [nI_add]
          refine g_sipush (v := nI 346) dX9_goes_84 rfl ?_
          refine g_callV dX9_goes_87 sX9_copy (s_copy M2 n m (328 + pl s.2.1) 346 _ hG2 (by have := pa.lt; omega) (by omega)) cl10 hG2.1.1 iX9_copy vX9_copy (iw_25 3 rfl) rfl rfl (Nat.le_of_ble_eq_true rfl) (Nat.le_of_ble_eq_true rfl) (Nat.le_of_ble_eq_true rfl) (Nat.le_of_ble_eq_true rfl) (Nat.le_of_ble_eq_true rfl) ?_
          intro r9 M3 n9 h9
          obtain ⟨h91, h93, hO3, hG3⟩ := h9
          rw [h91, h93]
          clear h91 h93 r9 n9
          refine g_aload_n dX9_goes_90 rfl ?_
          refine g_getR (f := 1) dX9_goes_91 cl10 hG3.1.1 (by decide) (Or.inl (iw_5 20 rfl)) (Or.inl rfl) rfl hG3.1.r_many ?_
          refine g_sipush (v := nI 346) dX9_goes_94 rfl ?_
          refine g_iaload dX9_goes_97 (j := 346) hG3.1.k_many hG3.1.n_many rfl (by omega) (by decide) ?_
          rw [(hG3.2.1 346 (by omega)).1.2.1]
          refine g_if_le (tgt := 105) dX9_goes_98 (by decide) (fun c_98 => ?_) (fun c_98 => ?_)
          · skip
            rw [z0, nI_leI (by have := (hG3.ok 346).2.1; omega) (by omega)] at c_98
            refine g_iconst (v := nI 0) dX9_goes_105 rfl ?_
            exact g_iret dX9_goes_106 (Or.inr ⟨rfl, by first | exact Or.inl rfl | exact Or.inr rfl⟩) (Nat.le_of_ble_eq_true rfl) (Nat.le_of_ble_eq_true rfl) (by
              have hmk := makL_congr (F := (fun p => S (8 * a + p))) (F1 := fun p => blk S 328 (8 * a) 8 (8 * a + p)) hv (by omega) (fun p hp => blk_low (by omega))
              have lp := pa.lt
              have e6 : up1 (up1 (blk S 328 (8 * a) 8) 346 (mkS (makL s (fun p => blk S 328 (8 * a) 8 (8 * a + p))))) (328 + pl s.2.1) (up1 (blk S 328 (8 * a) 8) 346 (mkS (makL s (fun p => blk S 328 (8 * a) 8 (8 * a + p)))) 346) 346 = mkS (makL s (fun p => S (8 * a + p))) := by
                rw [up1_ne _ _ (by omega), up1_eq, hmk]
              rw [e6] at c_98
              first
                | (have hg : gvn s (fun p => S (8 * a + p)) nm = some (up1 (fun p => S (8 * a + p)) (pl s.2.1) (mkS (makL s (fun p => S (8 * a + p))))) := by
                     unfold gvn
                     rw [if_neg c_43, if_neg c_51, if_pos (by omega), c_63, if_neg (by decide), if_neg (fun h => by rw [h] at c_98; exact c_98 (Nat.le_refl _))]
                   refine ⟨by rw [hg]; rfl, rfl, (hO.trans hO2).trans hO3, _, hG3, fun G h p hp => ?_, fun t ht => ?_⟩
                   · rw [hg] at h
                     cases h
                     by_cases e : p = pl s.2.1
                     · subst e; rw [up1_eq, up1_eq, up1_eq, hmk]
                     · rw [up1_ne _ _ (by omega), up1_ne _ _ (by omega), up1_ne _ _ e]; exact blk_giv hp
                   · unfold gvP at ht
                     rw [up1_ne _ _ (by omega), up1_ne _ _ (by omega)]; exact blk_low (by omega))
                | (have hg : gvn s (fun p => S (8 * a + p)) nm = none := by
                     unfold gvn
                     rw [if_neg c_43, if_neg c_51, if_pos (by omega), c_63, if_neg (by decide), if_pos (List.eq_nil_of_length_eq_zero (by omega))]
                   refine ⟨by rw [hg]; rfl, rfl, (hO.trans hO2).trans hO3, _, hG3, fun G h p hp => (by rw [hg] at h; cases h), fun t ht => ?_⟩
                   unfold gvP at ht
                   rw [up1_ne _ _ (by omega), up1_ne _ _ (by omega)]; exact blk_low (by omega)))
          · skip
            rw [z0, nI_leI (by have := (hG3.ok 346).2.1; omega) (by omega)] at c_98
            refine g_iconst (v := nI 1) dX9_goes_101 rfl ?_
            refine g_goto (tgt := 106) dX9_goes_102 (by decide) ?_
            exact g_iret dX9_goes_106 (Or.inr ⟨rfl, by first | exact Or.inl rfl | exact Or.inr rfl⟩) (Nat.le_of_ble_eq_true rfl) (Nat.le_of_ble_eq_true rfl) (by
              have hmk := makL_congr (F := (fun p => S (8 * a + p))) (F1 := fun p => blk S 328 (8 * a) 8 (8 * a + p)) hv (by omega) (fun p hp => blk_low (by omega))
              have lp := pa.lt
              have e6 : up1 (up1 (blk S 328 (8 * a) 8) 346 (mkS (makL s (fun p => blk S 328 (8 * a) 8 (8 * a + p))))) (328 + pl s.2.1) (up1 (blk S 328 (8 * a) 8) 346 (mkS (makL s (fun p => blk S 328 (8 * a) 8 (8 * a + p)))) 346) 346 = mkS (makL s (fun p => S (8 * a + p))) := by
                rw [up1_ne _ _ (by omega), up1_eq, hmk]
              rw [e6] at c_98
              first
                | (have hg : gvn s (fun p => S (8 * a + p)) nm = some (up1 (fun p => S (8 * a + p)) (pl s.2.1) (mkS (makL s (fun p => S (8 * a + p))))) := by
                     unfold gvn
                     rw [if_neg c_43, if_neg c_51, if_pos (by omega), c_63, if_neg (by decide), if_neg (fun h => by rw [h] at c_98; exact c_98 (Nat.le_refl _))]
                   refine ⟨by rw [hg]; rfl, rfl, (hO.trans hO2).trans hO3, _, hG3, fun G h p hp => ?_, fun t ht => ?_⟩
                   · rw [hg] at h
                     cases h
                     by_cases e : p = pl s.2.1
                     · subst e; rw [up1_eq, up1_eq, up1_eq, hmk]
                     · rw [up1_ne _ _ (by omega), up1_ne _ _ (by omega), up1_ne _ _ e]; exact blk_giv hp
                   · unfold gvP at ht
                     rw [up1_ne _ _ (by omega), up1_ne _ _ (by omega)]; exact blk_low (by omega))
                | (have hg : gvn s (fun p => S (8 * a + p)) nm = none := by
                     unfold gvn
                     rw [if_neg c_43, if_neg c_51, if_pos (by omega), c_63, if_neg (by decide), if_pos (List.eq_nil_of_length_eq_zero (by omega))]
                   refine ⟨by rw [hg]; rfl, rfl, (hO.trans hO2).trans hO3, _, hG3, fun G h p hp => (by rw [hg] at h; cases h), fun t ht => ?_⟩
                   unfold gvP at ht
                   rw [up1_ne _ _ (by omega), up1_ne _ _ (by omega)]; exact blk_low (by omega)))
        · skip
          rw [bI_eq0, Bool.not_eq_false] at c_63
          refine g_iconst (v := nI 0) dX9_goes_66 rfl ?_
          exact g_iret dX9_goes_67 (Or.inr ⟨rfl, by first | exact Or.inl rfl | exact Or.inr rfl⟩) (Nat.le_of_ble_eq_true rfl) (Nat.le_of_ble_eq_true rfl) (by
            have hg : gvn s (fun p => S (8 * a + p)) nm = none := by unfold gvn; rw [if_neg c_43, if_neg c_51, if_pos (by omega), c_63]; rfl
            exact ⟨by rw [hg]; rfl, rfl, hO, _, hG, (fun G h => by rw [hg] at h; cases h), (fun t ht => by unfold gvP at ht; exact blk_low (by omega))⟩)
    · skip
      rw [nI_inj (by omega) (by omega)] at c_51
      refine g_iload_n dX9_goes_54 rfl ?_
      exact g_iret dX9_goes_55 (Or.inr ⟨rfl, bI_01 _⟩) (Nat.le_of_ble_eq_true rfl) (Nat.le_of_ble_eq_true rfl) (by
        cases nm
        · have hg : gvn s (fun p => S (8 * a + p)) false = none := by unfold gvn; rw [if_neg c_43, if_pos c_51]; rfl
          exact ⟨by rw [hg]; rfl, rfl, hO, _, hG, (fun G h => by rw [hg] at h; cases h), (fun t ht => by unfold gvP at ht; exact blk_low (by omega))⟩
        · have hg : gvn s (fun p => S (8 * a + p)) true = some (fun p => S (8 * a + p)) := by unfold gvn; rw [if_neg c_43, if_pos c_51]; rfl
          exact ⟨by rw [hg]; rfl, rfl, hO, _, hG, (fun G h p hp => by rw [hg] at h; cases h; exact blk_giv hp), (fun t ht => by unfold gvP at ht; exact blk_low (by omega))⟩)
  · skip
    rw [nI_inj (by omega) (by omega)] at c_43
    refine g_iconst (v := nI 0) dX9_goes_46 rfl ?_
    exact g_iret dX9_goes_47 (Or.inr ⟨rfl, by first | exact Or.inl rfl | exact Or.inr rfl⟩) (Nat.le_of_ble_eq_true rfl) (Nat.le_of_ble_eq_true rfl) (by
      have hg : gvn s (fun p => S (8 * a + p)) nm = none := by unfold gvn; rw [if_pos c_43]
      exact ⟨by rw [hg]; rfl, rfl, hO, _, hG, (fun G h => by rw [hg] at h; cases h), (fun t ht => by unfold gvP at ht; exact blk_low (by omega))⟩)

set_option maxHeartbeats 4000000 in
set_option maxRecDepth 100000 in
theorem s_goes (M : gM) (n m a : Nat) (s : St) (S : Nat → List Sp) (nm : Bool) (hG : rS M m S) (ha : a < 40) (hT : sT M m a s) (hv : vS s) (hn : ∀ p, p < 8 → S (8 * a + p) ≠ []) : GM μX9_goes 6 150 0 0 [.ref m, .int (nI a), .int (bI nm)] M n (fun r M1 n1 => r = some (.int (bI (gvn s (fun p => S (8 * a + p)) nm).isSome)) ∧ n1 = n ∧ Off M M1 (fA m) ∧ ∃ S1, rS M1 m S1 ∧ (∀ G, gvn s (fun p => S (8 * a + p)) nm = some G → ∀ p, p < 8 → S1 (328 + p) = G p) ∧ agr S S1 gvP) := by
  refine GM.ofW (by decide) rfl (Nat.le_of_ble_eq_true rfl) rfl ?_
  refine g_aload_n dX9_goes_0 rfl ?_
  refine g_getR (f := 7) dX9_goes_1 cl10 hG.1.1 (by decide) (Or.inl (iw_6 0 rfl)) (Or.inl rfl) rfl hG.1.r_kind ?_
  refine g_iload_n dX9_goes_4 rfl ?_
  refine g_iaload dX9_goes_5 (j := a) hG.1.k_kind hG.1.n_kind rfl (by omega) (by decide) ?_
  rw [hT.1]
  refine g_istore_n dX9_goes_6 (Nat.le_of_ble_eq_true rfl) ?_
  refine g_iconst (v := nI 0) dX9_goes_7 rfl ?_
  refine g_istore dX9_goes_8 (Nat.le_of_ble_eq_true rfl) ?_
  refine l_goes hG ha hT hv hn (fun M1 hO1 hG1 => ?_) 9 0 M (by omega) (by omega) Off.rf (by rw [blk_0]; exact hG)
  exact p_go40 ha (hT.offA hO1) hv hn hO1 hG1

