/-! ROUNDS as a picture: what is reached, the facts, the changes, the widenings -/
abbrev RA : Type := (Nat → Bool) × (Nat → Nat → List Sp) × (Nat → Nat) × Nat
def aR (A : RA) : Nat → Bool := A.1
def aF (A : RA) : Nat → Nat → List Sp := A.2.1
def aC (A : RA) : Nat → Nat := A.2.2.1
def aW (A : RA) : Nat := A.2.2.2
/-- of the sets, those of the 8 places -/
def cut8 (G : Nat → List Sp) : Nat → List Sp := fun p => if p < 8 then G p else []
theorem cut8_lt {G : Nat → List Sp} {p : Nat} (h : p < 8) : cut8 G p = G p := if_pos h
theorem cut8_congr {G H : Nat → List Sp} (h : ∀ p, p < 8 → G p = H p) : cut8 G = cut8 H := by
  funext p
  unfold cut8
  by_cases c : p < 8
  · rw [if_pos c, if_pos c, h p c]
  · rw [if_neg c, if_neg c]
theorem cut8_2 (G : Nat → List Sp) : cut8 (cut8 G) = cut8 G := cut8_congr (fun p hp => cut8_lt hp)
def jn (F G : Nat → List Sp) : Nat → List Sp := fun p => mkS (F p ++ G p)
def chK (F G : Nat → List Sp) : Nat → Bool
  | 0 => false
  | j + 1 => chK F G j || decide (jn F G j ≠ F j)
def wdn (P : List St) (X Y : List Sp) : List Sp := [(if lo1 Y < lo1 X then nxt P (lo1 Y) false else lo1 Y, if hi1 X < hi1 Y then nxt P (hi1 Y) true else hi1 Y)]
def grw (P : List St) (wd : Bool) (X Y : List Sp) : List Sp := if wd = true ∧ X ≠ Y then wdn P X Y else Y
def cwK (wd : Bool) (F N : Nat → List Sp) : Nat → Nat
  | 0 => 0
  | j + 1 => cwK wd F N j + (if wd = true ∧ F j ≠ N j then 1 else 0)
def giveB (P : List St) (A : RA) (t : Nat) (G : Nat → List Sp) : RA × Bool :=
  if P.length ≤ t then (A, false) else if aR A t = false then ((up1 (aR A) t true, up1 (aF A) t G, aC A, aW A), true)
  else if chK (aF A t) G 8 = false then (A, false)
  else ((aR A, up1 (aF A) t (cut8 (fun p => grw P (isHd P t && decide (4 ≤ aC A t + 1)) (aF A t p) (jn (aF A t) G p))), up1 (aC A) t (aC A t + 1), aW A + cwK (isHd P t && decide (4 ≤ aC A t + 1)) (aF A t) (jn (aF A t) G) 8), true)
def giveA (P : List St) (A : RA) (t : Nat) (G : Nat → List Sp) : RA × Bool := giveB P A t (cut8 G)
theorem giveA_congr {P : List St} {A : RA} {t : Nat} {G H : Nat → List Sp} (h : ∀ p, p < 8 → G p = H p) : giveA P A t G = giveA P A t H := by
  unfold giveA; rw [cut8_congr h]
theorem chK_congr {F F1 G G1 : Nat → List Sp} (h : ∀ p, p < 8 → F1 p = F p) (h2 : ∀ p, p < 8 → G1 p = G p) : ∀ j, j ≤ 8 → chK F1 G1 j = chK F G j
  | 0, _ => rfl
  | j + 1, hj => by
    unfold chK jn
    rw [chK_congr h h2 j (by omega), h j (by omega), h2 j (by omega)]
theorem cwK_congr {wd : Bool} {F F1 N N1 : Nat → List Sp} (h : ∀ p, p < 8 → F1 p = F p) (h2 : ∀ p, p < 8 → N1 p = N p) : ∀ j, j ≤ 8 → cwK wd F1 N1 j = cwK wd F N j
  | 0, _ => rfl
  | j + 1, hj => by
    unfold cwK
    rw [cwK_congr h h2 j (by omega), h j (by omega), h2 j (by omega)]
-- sets: not empty
theorem rdF_ne : ∀ (f : Nat) (N : List Sp), N ≠ [] → rdF f N ≠ []
  | 0, N, h => h
  | f + 1, N, h => by
    unfold rdF
    split
    · exact h
    · rename_i c
      have hb := bst_lt N (N.length - 1) (by omega)
      refine rdF_ne f _ (fun q => ?_)
      have := uni_len N (bst N (N.length - 1)) (by omega)
      rw [q] at this
      simp at this
      omega
theorem nrm_ne {L : List Sp} (hL : okL L) (h : L ≠ []) : nrm L ≠ [] := by
  intro q
  obtain ⟨p, l, rfl⟩ := List.exists_cons_of_ne_nil h
  have := (nrm_in (p :: l) hL p.1).mpr (inL_cons.mpr (Or.inl ⟨Int.le_refl _, hL p List.mem_cons_self⟩))
  rw [q] at this
  exact inL_nil this
theorem mkS_ne {L : List Sp} (hL : okL L) (h : L ≠ []) : mkS L ≠ [] := rdF_ne _ _ (nrm_ne hL h)
theorem mkS_ok {L : List Sp} (h : wl L) : okX (mkS L) := by
  have hc := nrm_cn L h.1
  have h1 := rdF_le (nrm L).length (nrm L) (by omega) hc
  refine ⟨h1.1, h1.2, rdF_r5 _ _ hc ?_⟩
  intro p hp
  have o := cn_okL hc p hp
  have i1 := (nrm_in L h.1 p.1).mp ⟨p, hp, Int.le_refl _, o⟩
  have i2 := (nrm_in L h.1 p.2).mp ⟨p, hp, o, Int.le_refl _⟩
  obtain ⟨q1, m1, a1⟩ := i1
  obtain ⟨q2, m2, a2⟩ := i2
  have r1 := h.2 q1 m1
  have r2 := h.2 q2 m2
  constructor <;> constructor <;> omega
theorem jn_ok {F G : Nat → List Sp} {p : Nat} (h1 : okX (F p)) (h2 : okX (G p)) : okX (jn F G p) := mkS_ok (wl_app h1.wl h2.wl)
theorem jn_ne {F G : Nat → List Sp} {p : Nat} (h1 : okX (F p)) (h2 : okX (G p)) (h : F p ≠ []) : jn F G p ≠ [] := mkS_ne (wl_app h1.wl h2.wl).1 (by simp [h])
theorem lo_hi {X : List Sp} (h : okX X) (h0 : X ≠ []) : lo1 X ≤ hi1 X := by
  obtain ⟨hc, hl, -⟩ := h
  unfold lo1 hi1
  match X, hc, hl, h0 with
  | [p], hc, _, _ => exact hc
  | [p, r], hc, _, _ =>
    have := hc.1
    have := hc.2.1
    have := cn_head hc.2.2
    simp
    omega
theorem nx_dn : ∀ (L : List Int) (v best : Int), best ≤ v → L.foldl (nx1 false v) best ≤ v
  | [], _, _, h => h
  | t :: l, v, best, h => nx_dn l v _ (by unfold nx1; simp only [Bool.false_eq_true, if_false]; split <;> omega)
theorem nx_up : ∀ (L : List Int) (v best : Int), v ≤ best → v ≤ L.foldl (nx1 true v) best
  | [], _, _, h => h
  | t :: l, v, best, h => nx_up l v _ (by unfold nx1; simp only [if_true]; split <;> omega)
theorem nxt_dn (P : List St) {v : Int} (h : -2147483648 ≤ v) : nxt P v false ≤ v := nx_dn _ _ _ (by simpa using h)
theorem nxt_up (P : List St) {v : Int} (h : v ≤ 2147483647) : v ≤ nxt P v true := nx_up _ _ _ (by simpa using h)
theorem wdn_ok (P : List St) {X Y : List Sp} (hY : okX Y) (h0 : Y ≠ []) : okX (wdn P X Y) ∧ wdn P X Y ≠ [] ∧ lo1 (wdn P X Y) ≤ lo1 Y ∧ hi1 Y ≤ hi1 (wdn P X Y) := by
  have h1 := lo1_r hY h0
  have h2 := hi1_r hY h0
  have h3 := lo_hi hY h0
  have h4 := nxt_dn P h1.1
  have h5 := nxt_up P h2.2
  have h6 := nxt_r P (lo1 Y) false
  have h7 := nxt_r P (hi1 Y) true
  have ea : (if lo1 Y < lo1 X then nxt P (lo1 Y) false else lo1 Y) ≤ lo1 Y ∧ r5 (if lo1 Y < lo1 X then nxt P (lo1 Y) false else lo1 Y) := by
    split
    · exact ⟨h4, h6⟩
    · exact ⟨Int.le_refl _, h1⟩
  have eb : hi1 Y ≤ (if hi1 X < hi1 Y then nxt P (hi1 Y) true else hi1 Y) ∧ r5 (if hi1 X < hi1 Y then nxt P (hi1 Y) true else hi1 Y) := by
    split
    · exact ⟨h5, h7⟩
    · exact ⟨Int.le_refl _, h2⟩
  refine ⟨⟨?_, by unfold wdn; simp, fun p hp => ?_⟩, by unfold wdn; simp, ?_, ?_⟩
  · show _ ≤ _
    simp only
    omega
  · unfold wdn at hp
    simp only [List.mem_singleton] at hp
    rw [hp]
    exact ⟨ea.2, eb.2⟩
  · exact ea.1
  · exact eb.1
theorem grw_ok (P : List St) (wd : Bool) {X Y : List Sp} (hY : okX Y) (h0 : Y ≠ []) : okX (grw P wd X Y) ∧ grw P wd X Y ≠ [] := by
  unfold grw
  split
  · exact ⟨(wdn_ok P hY h0).1, (wdn_ok P hY h0).2.1⟩
  · exact ⟨hY, h0⟩
