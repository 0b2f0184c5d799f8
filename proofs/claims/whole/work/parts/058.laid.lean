/-! what is laid: the spans in common, wrapped, cut -/
def okp (p : Sp) : Bool := decide (p.1 ≤ p.2)
def cmp2 (x y : Sp) : Sp := (max x.1 y.1, min x.2 y.2)
/-- what the spans of two sets have in common, each with each -/
def cmL (X Y : List Sp) : List Sp := (X.flatMap fun x => Y.map (cmp2 x)).filter okp
def layP (L : List Sp) (p : Sp) : List Sp := if p.1 ≤ p.2 then L ++ [p] else L
theorem filter_one (L : List Sp) (p : Sp) : L ++ [p].filter okp = layP L p := by
  unfold layP okp
  by_cases h : p.1 ≤ p.2 <;> simp [h]
theorem take_one {X : List Sp} {k : Nat} (h : k < X.length) : X.take (k + 1) = X.take k ++ [X.getD k (0, 0)] := by
  rw [List.take_succ, List.getD_eq_getElem?_getD, List.getElem?_eq_getElem h]
  rfl
theorem okL_app {L K : List Sp} : okL (L ++ K) ↔ okL L ∧ okL K := by
  simp only [okL, List.mem_append]
  exact ⟨fun h => ⟨fun p hp => h p (Or.inl hp), fun p hp => h p (Or.inr hp)⟩, fun h p hp => hp.elim (h.1 p) (h.2 p)⟩
theorem r5L_app {L K : List Sp} : r5L (L ++ K) ↔ r5L L ∧ r5L K := by
  simp only [r5L, List.mem_append]
  exact ⟨fun h => ⟨fun p hp => h p (Or.inl hp), fun p hp => h p (Or.inr hp)⟩, fun h p hp => hp.elim (h.1 p) (h.2 p)⟩
theorem cmL_ok (X Y : List Sp) : okL (cmL X Y) := by
  intro p hp
  have := (List.mem_filter.mp hp).2
  simpa [okp] using this
theorem cmL_r5 {X Y : List Sp} (hX : r5L X) (hY : r5L Y) : r5L (cmL X Y) := by
  intro p hp
  obtain ⟨h1, -⟩ := List.mem_filter.mp hp
  obtain ⟨x, hx, h2⟩ := List.mem_flatMap.mp h1
  obtain ⟨y, hy, rfl⟩ := List.mem_map.mp h2
  have a := hX x hx
  have c := hY y hy
  unfold cmp2
  simp only
  constructor <;> constructor <;> omega
theorem cmL_in (X Y : List Sp) (z : Int) : inL (cmL X Y) z ↔ inL X z ∧ inL Y z := by
  unfold inL cmL
  constructor
  · rintro ⟨p, hp, h⟩
    obtain ⟨h1, -⟩ := List.mem_filter.mp hp
    obtain ⟨x, hx, h2⟩ := List.mem_flatMap.mp h1
    obtain ⟨y, hy, rfl⟩ := List.mem_map.mp h2
    unfold cmp2 at h
    simp only at h
    exact ⟨⟨x, hx, by omega⟩, ⟨y, hy, by omega⟩⟩
  · rintro ⟨⟨x, hx, h1⟩, ⟨y, hy, h2⟩⟩
    refine ⟨cmp2 x y, List.mem_filter.mpr ⟨List.mem_flatMap.mpr ⟨x, hx, List.mem_map.mpr ⟨y, hy, rfl⟩⟩, ?_⟩, ?_⟩
    · unfold okp cmp2; simp only; rw [decide_eq_true_eq]; omega
    · unfold cmp2; simp only; omega
theorem cmL_len {X Y : List Sp} (hX : X.length ≤ 2) (hY : Y.length ≤ 2) : (cmL X Y).length ≤ 4 := by
  refine Nat.le_trans (List.length_filter_le _ _) ?_
  match X, hX with
  | [], _ => simp
  | [a], _ => simp; omega
  | [a, b], _ => simp; omega
/-- a number that goes round in 32 bits -/
def wrp (z : Int) : Int := (iZ z).toInt
theorem wrp_r5 (z : Int) : r5 (wrp z) := i_rng _
theorem wrp_id {z : Int} (h : r5 z) : wrp z = z := iZ_t h.1 h.2
def wrW (lo hi : Int) : List Sp := if 4294967295 ≤ hi - lo then [(-2147483648, 2147483647)] else if wrp lo ≤ wrp hi then [(wrp lo, wrp hi)] else [(-2147483648, wrp hi), (wrp lo, 2147483647)]
theorem wrW_ok (lo hi : Int) : okL (wrW lo hi) := by
  have h1 := wrp_r5 lo
  have h2 := wrp_r5 hi
  unfold wrW okL
  split
  · intro p hp; simp at hp; rw [hp]; simp
  · split
    · intro p hp; simp at hp; rw [hp]; simp; omega
    · intro p hp
      simp at hp
      rcases hp with rfl | rfl <;> simp <;> omega
theorem wrW_r5 (lo hi : Int) : r5L (wrW lo hi) := by
  have h1 := wrp_r5 lo
  have h2 := wrp_r5 hi
  unfold wrW r5L
  split
  · intro p hp; simp at hp; rw [hp]; simp [r5]
  · split
    · intro p hp; simp at hp; rw [hp]; exact ⟨h1, h2⟩
    · intro p hp
      simp at hp
      rcases hp with rfl | rfl
      · exact ⟨by simp [r5], h2⟩
      · exact ⟨h1, by simp [r5]⟩
theorem wrW_len (lo hi : Int) : (wrW lo hi).length ≤ 2 := by
  unfold wrW
  split
  · simp
  · split <;> simp
theorem jI_wrp (z : Int) : ((jI z).toInt32).toInt64 = jI (wrp z) := by
  rw [jI_i]; exact i_j _
