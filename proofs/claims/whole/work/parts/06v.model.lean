/-! NARROWING as a picture -/
abbrev Ev : Type := Nat → List Sp
def addE (tog : Option Ev) (G : Ev) : Ev := match tog with
  | none => G
  | some T => fun p => mkS (T p ++ G p)
def addG (tog : Option Ev) (G : Ev) : Option Ev := some (cut8 (addE tog G))
theorem addG_congr {tog : Option Ev} {G H : Ev} (h : ∀ p, p < 8 → G p = H p) : addG tog G = addG tog H := by
  unfold addG
  congr 1
  refine cut8_congr (fun p hp => ?_)
  unfold addE
  cases tog with
  | none => exact h p hp
  | some T => simp only; rw [h p hp]
def mtN (F T : Ev) : Ev := fun p => mkS (cmL (F p) (T p))
def stK (N : Ev) : Nat → Bool
  | 0 => true
  | j + 1 => stK N j && decide (N j ≠ [])
def ctK (F N : Ev) : Nat → Nat
  | 0 => 0
  | j + 1 => ctK F N j + (if N j = F j then 0 else 1)
theorem stK_s (N : Ev) (j : Nat) : stK N (j + 1) = (stK N j && decide (N j ≠ [])) := rfl
theorem ctK_s (F N : Ev) (j : Nat) : ctK F N (j + 1) = ctK F N j + (if N j = F j then 0 else 1) := rfl
theorem stK_congr {N N1 : Ev} (h : ∀ p, p < 8 → N1 p = N p) : ∀ j, j ≤ 8 → stK N1 j = stK N j
  | 0, _ => rfl
  | j + 1, hj => by rw [stK_s, stK_s, stK_congr h j (by omega), h j (by omega)]
theorem ctK_congr {F F1 N N1 : Ev} (h2 : ∀ p, p < 8 → F1 p = F p) (h : ∀ p, p < 8 → N1 p = N p) : ∀ j, j ≤ 8 → ctK F1 N1 j = ctK F N j
  | 0, _ => rfl
  | j + 1, hj => by rw [ctK_s, ctK_s, ctK_congr h2 h j (by omega), h j (by omega), h2 j (by omega)]
theorem stK_all {N : Ev} : ∀ {j : Nat}, stK N j = true → ∀ p, p < j → N p ≠ []
  | 0, _, p, hp => by omega
  | j + 1, h, p, hp => by
    rw [stK_s, Bool.and_eq_true, decide_eq_true_eq] at h
    by_cases e : p = j
    · rw [e]; exact h.2
    · exact stK_all h.1 p (by omega)
theorem stK_no {N : Ev} : ∀ {j k : Nat}, stK N j = false → j ≤ k → stK N k = false
  | j, 0, h, hk => by rw [show (0 : Nat) = j by omega]; exact h
  | j, k + 1, h, hk => by
    by_cases e : j = k + 1
    · rw [← e]; exact h
    · rw [stK_s, stK_no h (by omega)]; rfl
def meetA (A : RA) (w s : Nat) (tog : Option Ev) : RA × Nat := match tog with
  | none => ((up1 (aR A) s false, aF A, aC A, aW A), w)
  | some T => if stK (mtN (aF A s) T) 8 = true then ((aR A, up1 (aF A) s (cut8 (mtN (aF A s) T)), aC A, aW A), w + ctK (aF A s) (mtN (aF A s) T) 8) else ((up1 (aR A) s false, aF A, aC A, aW A), w)
def gth1 (P : List St) (A : RA) (s t : Nat) (g : Option Ev) (nm : Bool) (c : Bool) : Option Ev := if c = true then (match gvn (P.getD t st0) (aF A t) nm with | some G => addG g G | none => g) else g
def gthA (P : List St) (A : RA) (first : Ev) (s : Nat) : Nat → Option Ev
  | 0 => if s = 0 then some (cut8 first) else none
  | t + 1 => gth1 P A s t (gth1 P A s t (gthA P A first s t) true (aR A t && decide (nmA P t = s))) false (aR A t && decide (t + 1 = s))
def nar1 (P : List St) (first : Ev) (A : RA) (w s : Nat) : RA × Nat := if aR A s = true then meetA A w s (gthA P A first s P.length) else (A, w)
def narK (P : List St) (first : Ev) (A : RA) (w : Nat) : Nat → RA × Nat
  | 0 => (A, w)
  | s + 1 => nar1 P first (narK P first A w s).1 (narK P first A w s).2 s
def narA (P : List St) (first : Ev) (A : RA) (w : Nat) : RA × Nat := narK P first A w P.length
-- good sets stay good
def gdO (g : Option Ev) : Prop := ∀ T, g = some T → gdF T
theorem addG_ok {g : Option Ev} {G : Ev} (h : gdO g) (hG : gdF G) : gdO (addG g G) := by
  intro T hT
  unfold addG at hT
  cases hT
  intro p hp
  rw [cut8_lt hp]
  unfold addE
  cases g with
  | none => exact hG p hp
  | some T => 
    have h1 := h T rfl p hp
    have h2 := hG p hp
    exact ⟨mkS_ok (wl_app h1.1.wl h2.1.wl), mkS_ne (wl_app h1.1.wl h2.1.wl).1 (by simp [h1.2])⟩
theorem gth1_ok {P : List St} (hP : vP P) {A : RA} (hd : gdA P A) {s t : Nat} (ht : t < P.length) {g : Option Ev} (h : gdO g) (nm : Bool) (b : Bool) : gdO (gth1 P A s t g nm (aR A t && b)) := by
  unfold gth1
  split
  · rename_i c
    rw [Bool.and_eq_true] at c
    cases hg : gvn (P.getD t st0) (aF A t) nm with
    | none => exact h
    | some G => exact addG_ok h (gvn_ok (hP.2 t ht) (hd t ht c.1) hg)
  · exact h
theorem gthA_ok {P : List St} (hP : vP P) {A : RA} (hd : gdA P A) {first : Ev} (hf : gdF first) (s : Nat) : ∀ t, t ≤ P.length → gdO (gthA P A first s t)
  | 0, _ => by
    unfold gthA
    split
    · intro T hT; cases hT; intro p hp; rw [cut8_lt hp]; exact hf p hp
    · intro T hT; cases hT
  | t + 1, ht => gth1_ok hP hd (by omega) (gth1_ok hP hd (by omega) (gthA_ok hP hd hf s t (by omega)) _ _) _ _
theorem meetA_gd {P : List St} {A : RA} (hd : gdA P A) {w s : Nat} {g : Option Ev} (hg : gdO g) (hs : s < P.length) (hR : aR A s = true) : gdA P (meetA A w s g).1 := by
  have off : gdA P (up1 (aR A) s false, aF A, aC A, aW A) := by
    intro u hu h
    have h' : up1 (aR A) s false u = true := h
    by_cases e : u = s
    · rw [e, up1_eq] at h'; cases h'
    · rw [up1_ne _ _ e] at h'; exact hd u hu h'
  unfold meetA
  cases g with
  | none => exact off
  | some T =>
    dsimp only
    split
    · rename_i c
      intro u hu h
      show gdF (up1 (aF A) s _ u)
      by_cases e : u = s
      · subst e
        rw [up1_eq]
        intro p hp
        rw [cut8_lt hp]
        exact ⟨mkS_ok (cmL_wl (hd u hu hR p hp).1.wl (hg T rfl p hp).1.wl), stK_all c p hp⟩
      · rw [up1_ne _ _ e]; exact hd u hu h
    · exact off
theorem nar1_gd {P : List St} (hP : vP P) {first : Ev} (hf : gdF first) {A : RA} (hd : gdA P A) (w : Nat) {s : Nat} (hs : s < P.length) : gdA P (nar1 P first A w s).1 := by
  unfold nar1
  split
  · rename_i c; exact meetA_gd hd (gthA_ok hP hd hf s _ (Nat.le_refl _)) hs c
  · exact hd
theorem narK_gd {P : List St} (hP : vP P) {first : Ev} (hf : gdF first) {A : RA} (hd : gdA P A) (w : Nat) : ∀ s, s ≤ P.length → gdA P (narK P first A w s).1
  | 0, _ => hd
  | s + 1, hs => nar1_gd hP hf (narK_gd hP hf hd w s (by omega)) _ (by omega)
/-- ROUNDS begin -/
def iniA (P : List St) (first : Ev) : RA := (fun t => decide (t = 0 ∧ 0 < P.length), fun t => if t = 0 then cut8 first else fun _ => [], fun _ => 0, 0)
theorem iniA_gd {P : List St} {first : Ev} (hf : gdF first) : gdA P (iniA P first) := by
  intro t ht h p hp
  have h' : decide (t = 0 ∧ 0 < P.length) = true := h
  rw [decide_eq_true_eq] at h'
  show okX ((if t = 0 then cut8 first else fun _ => []) p) ∧ (if t = 0 then cut8 first else fun _ => []) p ≠ []
  rw [if_pos h'.1, cut8_lt hp]
  exact hf p hp
/-- after run: the facts, how many ROUNDS, how many narrowed -/
def runA (P : List St) (first : Ev) : RA × Nat × Nat :=
  let a := fin P (iniA P first) 1000000
  let b := narA P first a.1 0
  let c := narA P first b.1 b.2
  (c.1, a.2, c.2)
