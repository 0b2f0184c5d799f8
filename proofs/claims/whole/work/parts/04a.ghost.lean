/-! THE GHOST LAYER: memory as five functions of cell numbers; the machine's addresses are the numbers moved by b.1 (number 0: the empty array that ArrayList keeps, at b.2) -/
abbrev gM : Type := (Nat → Nat) × (Nat → Nat) × (Nat → Nat → Int32) × (Nat → Nat → Int64) × (Nat → Nat → Option Nat)
def mK (M : gM) : Nat → Nat := M.1
def mN (M : gM) : Nat → Nat := M.2.1
def mI (M : gM) : Nat → Nat → Int32 := M.2.2.1
def mJ (M : gM) : Nat → Nat → Int64 := M.2.2.2.1
def mR (M : gM) : Nat → Nat → Option Nat := M.2.2.2.2
def up1 {α : Type} (f : Nat → α) (i : Nat) (v : α) : Nat → α := fun a => if a = i then v else f a
def up2 {α : Type} (f : Nat → Nat → α) (i k : Nat) (v : α) : Nat → Nat → α := fun a c => if a = i ∧ c = k then v else f a c
def stI (M : gM) (i k : Nat) (v : Int32) : gM := (mK M, mN M, up2 (mI M) i k v, mJ M, mR M)
def stJ (M : gM) (i k : Nat) (v : Int64) : gM := (mK M, mN M, mI M, up2 (mJ M) i k v, mR M)
def stR (M : gM) (i k : Nat) (v : Option Nat) : gM := (mK M, mN M, mI M, mJ M, up2 (mR M) i k v)
/-- a new cell of kind k, with n places, blank -/
def stN (M : gM) (i k n : Nat) : gM := (up1 (mK M) i k, up1 (mN M) i n, up1 (mI M) i (fun _ => 0), up1 (mJ M) i (fun _ => 0), up1 (mR M) i (fun _ => none))
theorem up2_eq {α : Type} (f : Nat → Nat → α) (i k : Nat) (v : α) : up2 f i k v i k = v := by simp [up2]
theorem up2_ne {α : Type} (f : Nat → Nat → α) {i k a c : Nat} (v : α) (h : ¬ (a = i ∧ c = k)) : up2 f i k v a c = f a c := by simp only [up2, if_neg h]
theorem up2_row {α : Type} (f : Nat → Nat → α) {i k a : Nat} (v : α) (h : a ≠ i) : up2 f i k v a = f a := by
  funext c
  exact up2_ne f v (fun q => h q.1)
theorem up1_eq {α : Type} (f : Nat → α) (i : Nat) (v : α) : up1 f i v i = v := by simp [up1]
theorem up1_ne {α : Type} (f : Nat → α) {i a : Nat} (v : α) (h : a ≠ i) : up1 f i v a = f a := by simp only [up1, if_neg h]
-- addresses, values
abbrev gB : Type := Nat × Nat × Nat
def gA (b : gB) (i : Nat) : Nat := if i = 0 then b.2.1 else if i = 1 then b.2.2 else b.1 + (i - 2)
def gV (b : gB) (v : Value) : Value := match v with
  | .ref i => .ref (gA b i)
  | .int x => .int x
  | .long x => .long x
  | .float x => .float x
  | .double x => .double x
  | .null => .null
  | .retAddr x => .ref x
theorem gV_cat (b : gB) (v : Value) : (gV b v).category = v.category := by cases v <;> rfl
theorem gA_inj {b : gB} (hb : b.2.1 < b.1) {i j : Nat} (hi : 2 ≤ i) (hj : j ≠ 1) (h : gA b j = gA b i) : j = i := by
  unfold gA at h
  rw [if_neg (by omega : ¬ i = 0), if_neg (by omega : ¬ i = 1)] at h
  split at h
  · omega
  · first | omega | (rw [if_neg hj] at h; omega)
theorem gA_big {b : gB} {i : Nat} (hi : 2 ≤ i) : b.1 ≤ gA b i := by
  unfold gA
  rw [if_neg (by omega : ¬ i = 0), if_neg (by omega : ¬ i = 1)]
  omega
def gO (b : gB) (r : Option Nat) : Option Nat := r.map (gA b)
def gRf (r : Option Nat) : Value := match r with
  | none => .null
  | some i => .ref i
theorem gV_rf (b : gB) (r : Option Nat) : gV b (gRf r) = va_rf (gO b r) := by cases r <;> rfl
-- kinds: 0 to 10 the classes of vwCl, 11 int[], 12 long[], 13 boolean[], 14 SpanSet[], 15 Object[]
def gTy (c : Nat) : Nat → FieldType := match c with
  | 0 => tyJx4a65c
  | 1 => tyX0
  | 2 => tyX1
  | 3 => tyX2
  | 4 => tyX3
  | 5 => tyX4
  | 6 => tyX5
  | 7 => tyX6
  | 8 => tyX7
  | 9 => tyX8
  | _ => tyX9
def gNf (c : Nat) : Nat := match c with
  | 0 => 3
  | 1 => 3
  | 2 => 3
  | 3 => 8
  | 4 => 5
  | 5 => 9
  | 6 => 4
  | 7 => 2
  | 8 => 4
  | 9 => 4
  | _ => 21
/-- what a field of this type holds -/
def gfv (b : gB) (fI : Nat → Int32) (fJ : Nat → Int64) (fR : Nat → Option Nat) (k : Nat) (ty : FieldType) : Value := match ty with
  | .long => .long (fJ k)
  | .object _ => va_rf (gO b (fR k))
  | .array _ => va_rf (gO b (fR k))
  | _ => .int (fI k)
/-- the cell at the address a: of kind kd, with ln places, holding these -/
def gCell (D : va_G) (cy : Nat → ClassId) (b : gB) (a kd ln : Nat) (fI : Nat → Int32) (fJ : Nat → Int64) (fR : Nat → Option Nat) (H : Heap) : Prop :=
  if kd ≤ 10 then t_OB a (D.1 kd) (gNf kd) (D.2 kd) H (fun k => gfv b fI fJ fR k (gTy kd k))
  else if kd = 11 then H[a]? = some (arrV (cy 11) ln (fun j => .int (fI j)))
  else if kd = 12 then H[a]? = some (arrV (cy 12) ln (fun j => .long (fJ j)))
  else if kd = 13 then H[a]? = some (arrV (cy 13) ln (fun j => .int (fI j)))
  else if kd = 14 then H[a]? = some (arrV (cy 14) ln (fun j => va_rf (gO b (fR j))))
  else if kd = 15 then (H[a]? = some (arrV (cy 15) ln (fun j => va_rf (gO b (fR j)))) ∨ (ln = 0 ∧ ∃ cell : Cell, H[a]? = some cell ∧ cell.cls = cy 15 ∧ cell.slots.size = 0 ∧ cell.vm.isStatics = false ∧ cell.vm ≠ .unknown))
  else True
theorem gCell.kept {D : va_G} {cy : Nat → ClassId} {b : gB} {a kd ln : Nat} {fI : Nat → Int32} {fJ : Nat → Int64} {fR : Nat → Option Nat} {H H1 : Heap} (h : gCell D cy b a kd ln fI fJ fR H) (hq : H1[a]? = H[a]?) : gCell D cy b a kd ln fI fJ fR H1 := by
  unfold gCell at h ⊢
  split
  · rename_i c; rw [if_pos c] at h; exact h.kept hq
  · rename_i c; rw [if_neg c] at h
    rw [hq]; exact h
theorem gCell.lt {D : va_G} {cy : Nat → ClassId} {b : gB} {a kd ln : Nat} {fI : Nat → Int32} {fJ : Nat → Int64} {fR : Nat → Option Nat} {H : Heap} (h : gCell D cy b a kd ln fI fJ fR H) (hk : kd ≤ 15) : a < H.size := by
  have key : ∀ {x : Cell}, H[a]? = some x → a < H.size := fun q => (Array.getElem?_eq_some_iff.mp q).1
  unfold gCell at h
  split at h
  · obtain ⟨cell, q, -⟩ := h; exact key q
  · split at h
    · exact key h
    · split at h
      · exact key h
      · split at h
        · exact key h
        · split at h
          · exact key h
          · split at h
            · rcases h with h | ⟨-, cell, h, -⟩
              · exact key h
              · exact key h
            · omega
theorem gCell.big {D : va_G} {cy : Nat → ClassId} {b : gB} {a kd ln : Nat} {fI : Nat → Int32} {fJ : Nat → Int64} {fR : Nat → Option Nat} {H : Heap} (h : 15 < kd) : gCell D cy b a kd ln fI fJ fR H := by
  unfold gCell
  rw [if_neg (by omega), if_neg (by omega), if_neg (by omega), if_neg (by omega), if_neg (by omega), if_neg (by omega)]
  trivial
abbrev gAt (D : va_G) (cy : Nat → ClassId) (b : gB) (M : gM) (i : Nat) (H : Heap) : Prop := gCell D cy b (gA b i) (mK M i) (mN M i) (mI M i) (mJ M i) (mR M i) H
def gP (D : va_G) (cy : Nat → ClassId) (b : gB) (M : gM) (n : Nat) (H : Heap) : Prop := H.size = b.1 + (n - 2) ∧ b.2.1 < b.1 ∧ 2 ≤ n ∧ (∀ i, n ≤ i → 15 < mK M i) ∧ (15 < mK M 1 ∧ mK M 0 = 15 ∧ mN M 0 = 0) ∧ ∀ i, gAt D cy b M i H
def gTys (cy : Nat → ClassId) : List (ClassId × FieldType) := [(cy 11, .int), (cy 12, .long), (cy 13, .boolean), (cy 14, .object RX3), (cy 15, .object "java/lang/Object")]
abbrev gK (D : va_G) (cy : Nat → ClassId) (U : State) : Prop := va_K D vwCl (gTys cy) U
abbrev gAf (b : gB) : Nat → Prop := fun z => b.1 ≤ z
def gEx : List String := ["java/lang/IndexOutOfBoundsException", "java/lang/IllegalArgumentException", "java/lang/UnsupportedOperationException", "java/lang/IllegalStateException"]
def gNc : List (String × String) := [("java/lang/IllegalArgumentException", "java/lang/IndexOutOfBoundsException"), ("java/lang/UnsupportedOperationException", "java/lang/IndexOutOfBoundsException"), ("java/lang/UnsupportedOperationException", "java/lang/IllegalArgumentException"), ("java/lang/IllegalStateException", "java/lang/IndexOutOfBoundsException"), ("java/lang/IllegalStateException", "java/lang/IllegalArgumentException")]
def gBd : List MethodName := [⟨"java/lang/RuntimeException", "<init>", "(Ljava/lang/String;)V"⟩, ⟨"java/lang/Exception", "<init>", "(Ljava/lang/String;)V"⟩, ⟨"java/lang/Throwable", "<init>", "(Ljava/lang/String;)V"⟩]
/-- what throwing and catching read -/
def gZx (U : State) : Prop := (∀ E ∈ gEx, va_Nw (.castable E E) U) ∧ (∀ x ∈ gBd, va_Nw (.declares x) U) ∧ ∀ q ∈ gNc, va_Nc q.1 q.2 U
/-- what is read of the machine's other cells and tables, outside of what is written -/
def gZ (b : gB) (U : State) (H : Heap) : Prop := (vx_Zq Bundle.tN "UNASSIGNED_STACK" Bundle.steD (gAf b) U H ∧ gZx U) ∧ vx_Zq Bundle.tN "SUPPRESSED_SENTINEL" Bundle.listD (gAf b) U H ∧ va_Z "java/util/ArrayList" "DEFAULTCAPACITY_EMPTY_ELEMENTDATA" "[Ljava/lang/Object;" (.ref b.2.1) (gAf b) U H ∧ va_AO RX3 U ∧ va_AO "java/lang/Object" U ∧ va_Nw (.castable RX4 RX4) U ∧ va_Nw (.castable RX4 "java/lang/Object") U ∧ (∀ q ∈ gStr, ∃ sa, vk_R RX8 q.1 q.2 sa U) ∧ va_Mi "[Ljava/lang/Object;" b.2.2 U ∧ va_Dc U ∧ (∀ w ∈ gNF, va_Nw (.fieldLinkNest w.1 w.2.1 w.2.2.1 w.2.2.2.1 w.2.2.2.2 "WholeSpans") U) ∧ (∀ w ∈ gNM, va_Nw (.methodLinkNest w.1 w.2.1 w.2.2 "WholeSpans") U)
theorem gZ.to {b : gB} {s U : State} {H : Heap} {locs : List Loc} (h : gZ b s s.heap) (hW : s.WarmedH U.vm) (hS : va_S (gAf b) s.heap H locs) (hU : U.heap = H) : gZ b U U.heap := by
  obtain ⟨h1, h2, h3, h4, h5, h6, h7, h8, h9, h10, h11, h12⟩ := h
  rw [hU]
  exact ⟨⟨vx_Zq.moved hW.alike (h1.1.kept hS.2.1), fun E hE => va_Nw.warmC hW (h1.2.1 E hE), fun x hx => va_Nw.warmD hW (h1.2.2.1 x hx), fun q hq => va_Nc.moved hW.alike (h1.2.2.2 q hq)⟩, vx_Zq.moved hW.alike (h2.kept hS.2.1), va_Z.moved hW.alike (h3.kept hS.2.1), h4.moved hW.alike, h5.moved hW.alike, va_Nw.warmC hW h6, va_Nw.warmC hW h7, fun q hq => by obtain ⟨sa, h⟩ := h8 q hq; exact ⟨sa, vk_R.warm hW h⟩, h9.moved hW.alike, h10.moved hW.alike, fun w hw => va_Nw.warmF hW (h11 w hw), fun w hw => va_Nw.warmM hW (h12 w hw)⟩
theorem gZ.calls {b : gB} {U : State} (g : JFrame) (mk : MethodId) (a : Array Value) (h : gZ b U U.heap) : gZ b (U.calling g mk a) (U.calling g mk a).heap := by
  obtain ⟨h1, h2, h3, h4, h5, h6, h7, h8, h9, h10, h11, h12⟩ := h
  have hv : U.vm.Alike (U.calling g mk a).vm := Vm.Alike.refl U.vm
  exact ⟨⟨vx_Zq.moved hv h1.1, fun E hE => va_Nw.same rfl rfl (h1.2.1 E hE), fun x hx => va_Nw.same rfl rfl (h1.2.2.1 x hx), fun q hq => va_Nc.moved hv (h1.2.2.2 q hq)⟩, vx_Zq.moved hv h2, va_Z.moved hv h3, h4.moved hv, h5.moved hv, va_Nw.same rfl rfl h6, va_Nw.same rfl rfl h7, fun q hq => by obtain ⟨sa, h⟩ := h8 q hq; exact ⟨sa, vk_R.same rfl h⟩, h9.moved hv, h10.moved hv, fun w hw => va_Nw.same rfl rfl (h11 w hw), fun w hw => va_Nw.same rfl rfl (h12 w hw)⟩
-- locals
def gLs (b : gB) (ls : Array Slot) (nL : Nat) (lv : List (Option Value)) : Prop := ls.size = nL ∧ lv_wf ls ∧ ∀ (i : Nat) (v : Value), lv[i]? = some (some v) → ls[i]? = some (.val (gV b v))
def gc2 (w : Option Value) : Bool := match w with
  | some (.long _) => true
  | some (.double _) => true
  | _ => false
/-- storing a value of one slot -/
def gSt (lv : List (Option Value)) (i : Nat) (v : Value) : List (Option Value) := match lv, i with
  | [], _ => []
  | _ :: r, 0 => some v :: r
  | w :: r, 1 => (if gc2 w then none else w) :: gSt r 0 v
  | w :: r, i + 2 => w :: gSt r (i + 1) v
/-- storing a value of two slots -/
def gSu (lv : List (Option Value)) (i : Nat) (v : Value) : List (Option Value) := match lv, i with
  | [], _ => []
  | [_], 0 => [some v]
  | _ :: _ :: r, 0 => some v :: none :: r
  | w :: r, 1 => (if gc2 w then none else w) :: gSu r 0 v
  | w :: r, i + 2 => w :: gSu r (i + 1) v
theorem gc2_iff (w : Option Value) : gc2 w = true ↔ ∃ v, w = some v ∧ v.category = 2 := by
  cases w with
  | none => simp [gc2]
  | some v => cases v <;> simp [gc2, Value.category]
theorem gSt_get : ∀ (lv : List (Option Value)) (i : Nat) (v : Value) (j : Nat) (w : Value), (gSt lv i v)[j]? = some (some w) → (j = i ∧ w = v) ∨ (j ≠ i ∧ lv[j]? = some (some w) ∧ ¬ (j + 1 = i ∧ w.category = 2))
  | [], i, v, j, w, h => by simp [gSt] at h
  | w0 :: r, 0, v, j, w, h => by
    cases j with
    | zero => simp [gSt] at h; exact Or.inl ⟨rfl, h.symm⟩
    | succ j => simp [gSt] at h; exact Or.inr ⟨by omega, by simpa using h, by omega⟩
  | w0 :: r, 1, v, j, w, h => by
    cases j with
    | zero =>
      simp only [gSt, List.getElem?_cons_zero, Option.some.injEq] at h
      split at h
      · cases h
      · rename_i hc
        refine Or.inr ⟨by omega, by simpa using h, fun q => hc ((gc2_iff w0).mpr ⟨w, h, q.2⟩)⟩
    | succ j =>
      simp only [gSt, List.getElem?_cons_succ] at h
      rcases gSt_get r 0 v j w h with ⟨h1, h2⟩ | ⟨h1, h2, h3⟩
      · exact Or.inl ⟨by omega, h2⟩
      · exact Or.inr ⟨by omega, by simpa using h2, fun q => by omega⟩
  | w0 :: r, i + 2, v, j, w, h => by
    cases j with
    | zero => simp only [gSt, List.getElem?_cons_zero, Option.some.injEq] at h; exact Or.inr ⟨by omega, by simpa using h, by omega⟩
    | succ j =>
      simp only [gSt, List.getElem?_cons_succ] at h
      rcases gSt_get r (i + 1) v j w h with ⟨h1, h2⟩ | ⟨h1, h2, h3⟩
      · exact Or.inl ⟨by omega, h2⟩
      · exact Or.inr ⟨by omega, by simpa using h2, fun q => h3 ⟨by omega, q.2⟩⟩
theorem gSu_get : ∀ (lv : List (Option Value)) (i : Nat) (v : Value) (j : Nat) (w : Value), (gSu lv i v)[j]? = some (some w) → (j = i ∧ w = v) ∨ (j ≠ i ∧ j ≠ i + 1 ∧ lv[j]? = some (some w) ∧ ¬ (j + 1 = i ∧ w.category = 2))
  | [], i, v, j, w, h => by simp [gSu] at h
  | [w0], 0, v, j, w, h => by
    cases j with
    | zero => simp [gSu] at h; exact Or.inl ⟨rfl, h.symm⟩
    | succ j => simp [gSu] at h
  | w0 :: w1 :: r, 0, v, j, w, h => by
    cases j with
    | zero => simp [gSu] at h; exact Or.inl ⟨rfl, h.symm⟩
    | succ j =>
      cases j with
      | zero => simp [gSu] at h
      | succ j => simp [gSu] at h; exact Or.inr ⟨by omega, by omega, by simpa using h, by omega⟩
  | w0 :: r, 1, v, j, w, h => by
    cases j with
    | zero =>
      simp only [gSu, List.getElem?_cons_zero, Option.some.injEq] at h
      split at h
      · cases h
      · rename_i hc
        refine Or.inr ⟨by omega, by omega, by simpa using h, fun q => hc ((gc2_iff w0).mpr ⟨w, h, q.2⟩)⟩
    | succ j =>
      simp only [gSu, List.getElem?_cons_succ] at h
      rcases gSu_get r 0 v j w h with ⟨h1, h2⟩ | ⟨h1, h1', h2, h3⟩
      · exact Or.inl ⟨by omega, h2⟩
      · exact Or.inr ⟨by omega, by omega, by simpa using h2, fun q => by omega⟩
  | w0 :: r, i + 2, v, j, w, h => by
    cases j with
    | zero => simp only [gSu, List.getElem?_cons_zero, Option.some.injEq] at h; exact Or.inr ⟨by omega, by omega, by simpa using h, by omega⟩
    | succ j =>
      simp only [gSu, List.getElem?_cons_succ] at h
      rcases gSu_get r (i + 1) v j w h with ⟨h1, h2⟩ | ⟨h1, h1', h2, h3⟩
      · exact Or.inl ⟨by omega, h2⟩
      · exact Or.inr ⟨by omega, by omega, by simpa using h2, fun q => h3 ⟨by omega, q.2⟩⟩
/-- the listed locals, as the kit's rows want them -/
def gLl (b : gB) (lv : List (Option Value)) : List (Nat × Value) := (List.range lv.length).filterMap (fun i => match lv[i]? with | some (some v) => some (i, gV b v) | _ => none)
theorem gLl_mem {b : gB} {lv : List (Option Value)} {q : Nat × Value} : q ∈ gLl b lv ↔ ∃ v, lv[q.1]? = some (some v) ∧ q.2 = gV b v := by
  unfold gLl
  rw [List.mem_filterMap]
  constructor
  · rintro ⟨i, hi, h⟩
    cases hv : lv[i]? with
    | none => simp [hv] at h
    | some w =>
      cases w with
      | none => simp [hv] at h
      | some v =>
        simp only [hv, Option.some.injEq] at h
        subst h
        exact ⟨v, hv, rfl⟩
  · rintro ⟨v, hv, h⟩
    have hl : q.1 < lv.length := (List.getElem?_eq_some_iff.mp hv).1
    refine ⟨q.1, List.mem_range.mpr hl, ?_⟩
    simp only [hv, Option.some.injEq]
    rw [← h]
theorem gLs.has {b : gB} {ls : Array Slot} {nL : Nat} {lv : List (Option Value)} (h : gLs b ls nL lv) : lv_has ls nL (gLl b lv) := by
  refine ⟨h.1, h.2.1, fun q hq => ?_⟩
  obtain ⟨v, hv, e⟩ := gLl_mem.mp hq
  rw [e]
  exact h.2.2 _ _ hv
theorem gLs.st {b : gB} {ls : Array Slot} {nL : Nat} {lv : List (Option Value)} (i : Nat) (v : Value) (h : lv_has ls nL ((i, gV b v) :: (gLl b lv).filter (fun q => !(q.1 == i) && !(q.1 + 1 == i && q.2.category == 2)))) : gLs b ls nL (gSt lv i v) := by
  refine ⟨h.1, h.2.1, fun j w hj => ?_⟩
  rcases gSt_get lv i v j w hj with ⟨rfl, rfl⟩ | ⟨h1, h2, h3⟩
  · exact h.2.2 _ List.mem_cons_self
  · refine h.2.2 (j, gV b w) (List.mem_cons_of_mem _ (List.mem_filter.mpr ⟨gLl_mem.mpr ⟨w, h2, rfl⟩, ?_⟩))
    simp only [gV_cat, Bool.and_eq_true, Bool.not_eq_true', beq_eq_false_iff_ne, ne_eq, Bool.and_eq_false_iff]
    refine ⟨h1, ?_⟩
    by_cases q1 : j + 1 = i
    · exact Or.inr (fun q2 => h3 ⟨q1, q2⟩)
    · exact Or.inl q1
theorem gLs.su {b : gB} {ls : Array Slot} {nL : Nat} {lv : List (Option Value)} (i : Nat) (v : Value) (h : lv_has ls nL ((i, gV b v) :: (gLl b lv).filter (fun q => !(q.1 == i) && (!(q.1 == i + 1) && !(q.1 + 1 == i && q.2.category == 2))))) : gLs b ls nL (gSu lv i v) := by
  refine ⟨h.1, h.2.1, fun j w hj => ?_⟩
  rcases gSu_get lv i v j w hj with ⟨rfl, rfl⟩ | ⟨h1, h1', h2, h3⟩
  · exact h.2.2 _ List.mem_cons_self
  · refine h.2.2 (j, gV b w) (List.mem_cons_of_mem _ (List.mem_filter.mpr ⟨gLl_mem.mpr ⟨w, h2, rfl⟩, ?_⟩))
    simp only [gV_cat, Bool.and_eq_true, Bool.not_eq_true', beq_eq_false_iff_ne, ne_eq, Bool.and_eq_false_iff]
    refine ⟨h1, h1', ?_⟩
    by_cases q1 : j + 1 = i
    · exact Or.inr (fun q2 => h3 ⟨q1, q2⟩)
    · exact Or.inl q1
/-- the arguments, slot by slot -/
def gArgs (vs : List Value) : List (Option Value) := match vs with
  | [] => []
  | v :: r => if v.category = 2 then some v :: none :: gArgs r else some v :: gArgs r
theorem gArgs_get : ∀ (vs : List Value) (o : Nat) (b : gB) (i : Nat) (v : Value), (gArgs vs)[i]? = some (some v) → (o + i, gV b v) ∈ lv_args o (vs.map (gV b))
  | [], o, b, i, v, h => by simp [gArgs] at h
  | w :: r, o, b, i, v, h => by
    unfold gArgs at h
    by_cases hc : w.category = 2
    · rw [if_pos hc] at h
      match i, h with
      | 0, h =>
        simp at h
        subst h
        simp [lv_args]
      | 1, h => simp at h
      | i + 2, h =>
        simp at h
        have := gArgs_get r (o + 2) b i v h
        have e : o + (i + 2) = o + 2 + i := by omega
        rw [e]
        simp only [List.map_cons, lv_args, gV_cat, hc]
        simp [this]
    · rw [if_neg hc] at h
      match i, h with
      | 0, h =>
        simp at h
        subst h
        simp [lv_args]
      | i + 1, h =>
        simp at h
        have := gArgs_get r (o + 1) b i v h
        have e : o + (i + 1) = o + 1 + i := by omega
        rw [e]
        simp only [List.map_cons, lv_args, gV_cat, hc]
        simp [this]
