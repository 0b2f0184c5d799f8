/-! what stays: memory but for some places; the reference's sets and laid spans -/
def Off (M M1 : gM) (S : Nat → Nat → Prop) : Prop := mK M1 = mK M ∧ mN M1 = mN M ∧ mR M1 = mR M ∧ ∀ i k, ¬ S i k → mI M1 i k = mI M i k ∧ mJ M1 i k = mJ M i k
theorem Off.rf {M : gM} {S : Nat → Nat → Prop} : Off M M S := ⟨rfl, rfl, rfl, fun _ _ _ => ⟨rfl, rfl⟩⟩
theorem Off.trans {M M1 M2 : gM} {S : Nat → Nat → Prop} (h : Off M M1 S) (h2 : Off M1 M2 S) : Off M M2 S := ⟨h2.1.trans h.1, h2.2.1.trans h.2.1, h2.2.2.1.trans h.2.2.1, fun i k hs => ⟨(h2.2.2.2 i k hs).1.trans (h.2.2.2 i k hs).1, (h2.2.2.2 i k hs).2.trans (h.2.2.2 i k hs).2⟩⟩
theorem Off.mono {M M1 : gM} {S S2 : Nat → Nat → Prop} (h : Off M M1 S) (hs : ∀ i k, S i k → S2 i k) : Off M M1 S2 := ⟨h.1, h.2.1, h.2.2.1, fun i k hk => h.2.2.2 i k (fun z => hk (hs i k z))⟩
theorem Off.i {M M1 : gM} {S : Nat → Nat → Prop} (h : Off M M1 S) {i k : Nat} (hs : ¬ S i k) : mI M1 i k = mI M i k := (h.2.2.2 i k hs).1
theorem Off.j {M M1 : gM} {S : Nat → Nat → Prop} (h : Off M M1 S) {i k : Nat} (hs : ¬ S i k) : mJ M1 i k = mJ M i k := (h.2.2.2 i k hs).2
theorem Off.stI {M M1 : gM} {S : Nat → Nat → Prop} (h : Off M M1 S) {i k : Nat} {v : Int32} (hs : S i k) : Off M (stI M1 i k v) S := ⟨h.1, h.2.1, h.2.2.1, fun a c ha => ⟨(up2_ne (mI M1) v (fun z => ha (by rw [z.1, z.2]; exact hs))).trans (h.2.2.2 a c ha).1, (h.2.2.2 a c ha).2⟩⟩
theorem Off.stJ {M M1 : gM} {S : Nat → Nat → Prop} (h : Off M M1 S) {i k : Nat} {v : Int64} (hs : S i k) : Off M (stJ M1 i k v) S := ⟨h.1, h.2.1, h.2.2.1, fun a c ha => ⟨(h.2.2.2 a c ha).1, (up2_ne (mJ M1) v (fun z => ha (by rw [z.1, z.2]; exact hs))).trans (h.2.2.2 a c ha).2⟩⟩
theorem mI_st (M : gM) (i k : Nat) (v : Int32) (a c : Nat) : mI (stI M i k v) a c = if a = i ∧ c = k then v else mI M a c := rfl
theorem mJ_st (M : gM) (i k : Nat) (v : Int64) (a c : Nat) : mJ (stJ M i k v) a c = if a = i ∧ c = k then v else mJ M a c := rfl
theorem mI_sJ (M : gM) (i k : Nat) (v : Int64) (a c : Nat) : mI (stJ M i k v) a c = mI M a c := rfl
theorem mJ_sI (M : gM) (i k : Nat) (v : Int32) (a c : Nat) : mJ (stI M i k v) a c = mJ M a c := rfl
def fL (m : Nat) : Nat → Nat → Prop := fun i k => (i = m ∧ k = 3) ∨ i = m + 3 ∨ i = m + 4
def fS (m s : Nat) : Nat → Nat → Prop := fun i k => (i = m + 1 ∧ k = s) ∨ (i = m + 2 ∧ 4 * s ≤ k ∧ k < 4 * s + 4)
/-- the reference's set s holds X -/
def iS (M : gM) (m s : Nat) (X : List Sp) : Prop := X.length ≤ 2 ∧ mI M (m + 1) s = nI X.length ∧ ∀ k, k < X.length → mJ M (m + 2) (4 * s + 2 * k) = jI (X.getD k (0, 0)).1 ∧ mJ M (m + 2) (4 * s + 2 * k + 1) = jI (X.getD k (0, 0)).2
/-- the spans that the reference has laid -/
def iL (M : gM) (m : Nat) (L : List Sp) : Prop := mI M m 3 = nI L.length ∧ ∀ k, k < L.length → mJ M (m + 3) k = jI (L.getD k (0, 0)).1 ∧ mJ M (m + 4) k = jI (L.getD k (0, 0)).2
def okX (X : List Sp) : Prop := cn X ∧ X.length ≤ 2 ∧ ∀ p ∈ X, r5 p.1 ∧ r5 p.2
def r5L (L : List Sp) : Prop := ∀ p ∈ L, r5 p.1 ∧ r5 p.2
theorem iS.off {M M1 : gM} {m s : Nat} {X : List Sp} {S : Nat → Nat → Prop} (h : iS M m s X) (ho : Off M M1 S) (hs : ∀ i k, fS m s i k → ¬ S i k) : iS M1 m s X := by
  obtain ⟨h1, h2, h3⟩ := h
  refine ⟨h1, (ho.i (hs _ _ (Or.inl ⟨rfl, rfl⟩))).trans h2, fun k hk => ?_⟩
  rw [ho.j (hs _ _ (Or.inr ⟨rfl, by omega, by omega⟩)), ho.j (hs _ _ (Or.inr ⟨rfl, by omega, by omega⟩))]
  exact h3 k hk
theorem iL.off {M M1 : gM} {m : Nat} {L : List Sp} {S : Nat → Nat → Prop} (h : iL M m L) (ho : Off M M1 S) (hs : ∀ i k, fL m i k → ¬ S i k) : iL M1 m L := by
  obtain ⟨h2, h3⟩ := h
  refine ⟨(ho.i (hs _ _ (Or.inl ⟨rfl, rfl⟩))).trans h2, fun k hk => ?_⟩
  rw [ho.j (hs _ _ (Or.inr (Or.inl rfl))), ho.j (hs _ _ (Or.inr (Or.inr rfl)))]
  exact h3 k hk
theorem getD_mem {L : List Sp} {k : Nat} (h : k < L.length) : L.getD k (0, 0) ∈ L := by
  rw [List.getD_eq_getElem?_getD, List.getElem?_eq_getElem h]
  exact List.getElem_mem h
theorem getD_app {L : List Sp} {p : Sp} {k : Nat} (h : k < L.length) : (L ++ [p]).getD k (0, 0) = L.getD k (0, 0) := by
  rw [List.getD_eq_getElem?_getD, List.getD_eq_getElem?_getD, List.getElem?_append_left h]
theorem getD_last {L : List Sp} {p : Sp} : (L ++ [p]).getD L.length (0, 0) = p := by
  rw [List.getD_eq_getElem?_getD, List.getElem?_append_right (Nat.le_refl _)]
  simp
