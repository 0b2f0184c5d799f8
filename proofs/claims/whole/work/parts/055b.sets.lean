/-! SPANS and SETS: lists of pairs of whole numbers -/
abbrev Sp : Type := Int × Int
/-- the number lies in one of the spans -/
def inL (L : List Sp) (z : Int) : Prop := ∃ p ∈ L, p.1 ≤ z ∧ z ≤ p.2
/-- rising, none empty, no two touch -/
def cn : List Sp → Prop
  | [] => True
  | [p] => p.1 ≤ p.2
  | p :: r :: l => p.1 ≤ p.2 ∧ p.2 + 2 ≤ r.1 ∧ cn (r :: l)
theorem cn_head {p : Sp} {l : List Sp} (h : cn (p :: l)) : p.1 ≤ p.2 := by
  cases l with
  | nil => exact h
  | cons r l => exact h.1
theorem cn_tail {p : Sp} {l : List Sp} (h : cn (p :: l)) : cn l := by
  cases l with
  | nil => trivial
  | cons r l => exact h.2.2
theorem cn_far {p : Sp} {l : List Sp} (h : cn (p :: l)) : ∀ r ∈ l, p.2 + 2 ≤ r.1 := by
  induction l generalizing p with
  | nil => intro r hr; cases hr
  | cons a l ih =>
    intro r hr
    obtain ⟨h1, h2, h3⟩ := h
    rcases List.mem_cons.mp hr with rfl | hr
    · exact h2
    · have := ih h3 r hr
      have := cn_head h3
      omega
theorem cn_cons {p : Sp} {l : List Sp} (hp : p.1 ≤ p.2) (hf : ∀ r ∈ l, p.2 + 2 ≤ r.1) (h : cn l) : cn (p :: l) := by
  cases l with
  | nil => exact hp
  | cons r l => exact ⟨hp, hf r List.mem_cons_self, h⟩
theorem inL_cons {p : Sp} {l : List Sp} {z : Int} : inL (p :: l) z ↔ (p.1 ≤ z ∧ z ≤ p.2) ∨ inL l z := by
  simp [inL]
theorem inL_nil {z : Int} : ¬ inL [] z := by simp [inL]
theorem inL_app {a l : List Sp} {z : Int} : inL (a ++ l) z ↔ inL a z ∨ inL l z := by
  simp only [inL, List.mem_append]
  constructor
  · rintro ⟨p, h | h, q⟩
    · exact Or.inl ⟨p, h, q⟩
    · exact Or.inr ⟨p, h, q⟩
  · rintro (⟨p, h, q⟩ | ⟨p, h, q⟩)
    · exact ⟨p, Or.inl h, q⟩
    · exact ⟨p, Or.inr h, q⟩
/-- a rising list is known by its numbers -/
theorem cn_unique : ∀ (a l : List Sp), cn a → cn l → (∀ z, inL a z ↔ inL l z) → a = l
  | [], [], _, _, _ => rfl
  | [], p :: l, _, h, e => by
    have := (e p.1).mpr (inL_cons.mpr (Or.inl ⟨Int.le_refl _, cn_head h⟩))
    exact absurd this inL_nil
  | p :: l, [], h, _, e => by
    have := (e p.1).mp (inL_cons.mpr (Or.inl ⟨Int.le_refl _, cn_head h⟩))
    exact absurd this inL_nil
  | p :: a, r :: l, h1, h2, e => by
    have hp := cn_head h1
    have hr := cn_head h2
    have f1 := cn_far h1
    have f2 := cn_far h2
    have low : ∀ {x : Sp} {m : List Sp} {z : Int}, (∀ y ∈ m, x.2 + 2 ≤ y.1) → x.1 ≤ x.2 → inL (x :: m) z → x.1 ≤ z := by
      intro x m z hf hx hz
      rcases inL_cons.mp hz with h | ⟨y, hy, h, -⟩
      · exact h.1
      · have := hf y hy; omega
    have e1 : p.1 = r.1 := by
      have a1 := low f2 hr ((e p.1).mp (inL_cons.mpr (Or.inl ⟨Int.le_refl _, hp⟩)))
      have a2 := low f1 hp ((e r.1).mpr (inL_cons.mpr (Or.inl ⟨Int.le_refl _, hr⟩)))
      omega
    have none1 : ¬ inL (p :: a) (p.2 + 1) := by
      intro h
      rcases inL_cons.mp h with h | ⟨y, hy, h, -⟩
      · omega
      · have := f1 y hy; omega
    have none2 : ¬ inL (r :: l) (r.2 + 1) := by
      intro h
      rcases inL_cons.mp h with h | ⟨y, hy, h, -⟩
      · omega
      · have := f2 y hy; omega
    have e2 : p.2 = r.2 := by
      rcases Int.lt_trichotomy p.2 r.2 with h | h | h
      · exact absurd ((e (p.2 + 1)).mpr (inL_cons.mpr (Or.inl ⟨by omega, by omega⟩))) none1
      · exact h
      · exact absurd ((e (r.2 + 1)).mp (inL_cons.mpr (Or.inl ⟨by omega, by omega⟩))) none2
    have e3 : p = r := Prod.ext e1 e2
    subst e3
    have e4 : a = l := cn_unique a l (cn_tail h1) (cn_tail h2) (fun z => by
      have hz := e z
      rw [inL_cons, inL_cons] at hz
      have g1 : inL a z → p.2 < z := fun ⟨y, hy, h, _⟩ => by have := f1 y hy; omega
      have g2 : inL l z → p.2 < z := fun ⟨y, hy, h, _⟩ => by have := f2 y hy; omega
      constructor
      · intro h
        rcases hz.mp (Or.inr h) with q | q
        · have := g1 h; omega
        · exact q
      · intro h
        rcases hz.mpr (Or.inr h) with q | q
        · have := g2 h; omega
        · exact q)
    rw [e4]
/-- a span put into a rising list -/
def ins (p : Sp) : List Sp → List Sp
  | [] => [p]
  | r :: l => if p.2 + 1 < r.1 then p :: r :: l else if r.2 + 1 < p.1 then r :: ins p l else ins (min p.1 r.1, max p.2 r.2) l
theorem ins_in : ∀ (l : List Sp) (p : Sp), p.1 ≤ p.2 → cn l → ∀ z, inL (ins p l) z ↔ (p.1 ≤ z ∧ z ≤ p.2) ∨ inL l z
  | [], p, _, _, z => by simp [ins, inL]
  | r :: l, p, hp, h, z => by
    unfold ins
    have hr := cn_head h
    split
    · rw [inL_cons]
    · split
      · rw [inL_cons, ins_in l p hp (cn_tail h) z, inL_cons]
        constructor <;> (rintro (h | h | h) <;> simp [h])
      · rw [ins_in l _ (by simp only; omega) (cn_tail h) z, inL_cons]
        simp only
        constructor
        · rintro (⟨a, b⟩ | h)
          · by_cases q : p.1 ≤ z ∧ z ≤ p.2
            · exact Or.inl q
            · refine Or.inr (Or.inl ?_); omega
          · exact Or.inr (Or.inr h)
        · rintro (⟨a, b⟩ | ⟨a, b⟩ | h)
          · exact Or.inl ⟨by omega, by omega⟩
          · exact Or.inl ⟨by omega, by omega⟩
          · exact Or.inr h
theorem ins_far : ∀ (l : List Sp) (p : Sp) (b : Int), b ≤ p.1 → (∀ r ∈ l, b ≤ r.1) → ∀ r ∈ ins p l, b ≤ r.1
  | [], p, b, hp, _, r, hr => by simp [ins] at hr; rw [hr]; exact hp
  | q :: l, p, b, hp, h, r, hr => by
    unfold ins at hr
    split at hr
    · rcases List.mem_cons.mp hr with rfl | hr
      · exact hp
      · exact h r hr
    · split at hr
      · rcases List.mem_cons.mp hr with rfl | hr
        · exact h _ List.mem_cons_self
        · exact ins_far l p b hp (fun r hr => h r (List.mem_cons_of_mem _ hr)) r hr
      · refine ins_far l _ b ?_ (fun r hr => h r (List.mem_cons_of_mem _ hr)) r hr
        have := h q List.mem_cons_self
        simp only
        omega
theorem ins_cn : ∀ (l : List Sp) (p : Sp), p.1 ≤ p.2 → cn l → cn (ins p l)
  | [], p, hp, _ => hp
  | r :: l, p, hp, h => by
    unfold ins
    have hr := cn_head h
    split
    · exact ⟨hp, by omega, h⟩
    · split
      · exact cn_cons hr (ins_far l p _ (by omega) (cn_far h)) (ins_cn l p hp (cn_tail h))
      · exact ins_cn l _ (by simp only; omega) (cn_tail h)
/-- touching and common ones are one -/
def nrm : List Sp → List Sp
  | [] => []
  | p :: l => ins p (nrm l)
def okL (L : List Sp) : Prop := ∀ p ∈ L, p.1 ≤ p.2
theorem nrm_cn : ∀ (L : List Sp), okL L → cn (nrm L)
  | [], _ => trivial
  | p :: l, h => ins_cn _ p (h p List.mem_cons_self) (nrm_cn l (fun r hr => h r (List.mem_cons_of_mem _ hr)))
theorem nrm_in : ∀ (L : List Sp), okL L → ∀ z, inL (nrm L) z ↔ inL L z
  | [], _, z => Iff.rfl
  | p :: l, h, z => by
    have h2 : okL l := fun r hr => h r (List.mem_cons_of_mem _ hr)
    show inL (ins p (nrm l)) z ↔ _
    rw [ins_in _ p (h p List.mem_cons_self) (nrm_cn l h2), nrm_in l h2, inL_cons]
theorem nrm_of {N L : List Sp} (hN : cn N) (hL : okL L) (h : ∀ z, inL N z ↔ inL L z) : N = nrm L :=
  cn_unique N (nrm L) hN (nrm_cn L hL) (fun z => (h z).trans (nrm_in L hL z).symm)
theorem nrm_eq {L K : List Sp} (hL : okL L) (hK : okL K) (h : ∀ z, inL L z ↔ inL K z) : nrm L = nrm K :=
  nrm_of (nrm_cn L hL) hK (fun z => (nrm_in L hL z).trans (h z))
/-- how many lie between the two next to one another from the i-th on -/
def gp (N : List Sp) (i : Nat) : Int := (N.getD (i + 1) (0, 0)).1 - (N.getD i (0, 0)).2
/-- the first place below k with the fewest between -/
def bst (N : List Sp) : Nat → Nat
  | 0 => 0
  | k + 1 => if gp N k < gp N (bst N k) then k else bst N k
/-- the i-th and the next become one -/
def uni : List Sp → Nat → List Sp
  | p :: r :: l, 0 => (p.1, r.2) :: l
  | p :: l, i + 1 => p :: uni l i
  | l, _ => l
def rdF : Nat → List Sp → List Sp
  | 0, N => N
  | f + 1, N => if N.length ≤ 2 then N else rdF f (uni N (bst N (N.length - 1)))
/-- a SET MADE of spans -/
def mkS (L : List Sp) : List Sp := rdF (nrm L).length (nrm L)
theorem mkS_eq {L K : List Sp} (hL : okL L) (hK : okL K) (h : ∀ z, inL L z ↔ inL K z) : mkS L = mkS K := by
  unfold mkS
  rw [nrm_eq hL hK h]
