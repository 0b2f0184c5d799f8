/-! the start: what the Statement gives, as the ghost layer wants it -/
theorem len2 {args : Array Value} {first s : State} {o : Option Outcome} {idx : List Nat} {t : Term} {v : Value} (h : (Term.length t).eval args first o idx s = some v) : ∃ a cell, t.eval args first o idx s = some (.ref a) ∧ s.arrayAt? a = some cell ∧ cell.slots.size < 2147483648 ∧ v = .int cell.slots.size.toInt32 := by
  simp only [Term.eval, Option.bind_eq_bind] at h
  cases ht : t.eval args first o idx s with
  | none => simp [ht] at h
  | some x =>
    cases x <;> simp [ht] at h
    case ref a =>
      obtain ⟨cell, hcell, h⟩ := Option.bind_eq_some_iff.mp h
      by_cases hn : cell.slots.size < 2147483648
      · rw [if_pos hn] at h; cases h; exact ⟨a, cell, rfl, hcell, hn, rfl⟩
      · rw [if_neg hn] at h; cases h
theorem len0 {args : Array Value} {s : State} {t : Term} (h : (Cond.eq (.length t) (.int 0)).before args s = true) : ∃ a cell, t.eval args s none [] s = some (.ref a) ∧ s.arrayAt? a = some cell ∧ cell.slots.size = 0 := by
  cases hv : (Term.length t).eval args s none [] s with
  | none => simp [Cond.before, Cond.holds, Cond.value, hv] at h
  | some w =>
    obtain ⟨a, cell, h1, h2, h3, rfl⟩ := len2 hv
    have hz : (Term.int 0).eval args s none [] s = some (.int 0) := rfl
    have h9 := Cond.eq_ints hv hz
    have h8 : cell.slots.size.toInt32 = 0 := by simpa [Cond.before, Cond.holds, h9] using h
    exact ⟨a, cell, h1, h2, Classical.byContradiction fun z => nI_ne0 (n := cell.slots.size) (by omega) (by omega) h8⟩
theorem st_D {args : Array Value} {s : State} (hts : ∀ w ∈ gT, w.before args s = true) : ∃ D : va_G, ∀ (c : Nat) (q : vw_C), vwCl[c]? = some q → u_Kn s q.1 q.2.1 q.2.2 (D.1 c) (D.2 c) := by
  have h : ∀ c : Nat, ∃ d : ClassId × (Nat → Nat), ∀ q : vw_C, vwCl[c]? = some q → u_Kn s q.1 q.2.1 q.2.2 d.1 d.2 := by
    intro c
    match c with
    | 0 =>
      obtain ⟨a, b, h⟩ := u_known (C := RJx4a65c) (T := TJx4a65c) (N := 3) (n := 3) hts cl0.2.2.2.2.1 (hts (.instantiable RJx4a65c 3) (iw_2 6 rfl))
      exact ⟨(a, b), fun q hq => by
        have e : some (RJx4a65c, TJx4a65c, 3) = some q := hq
        cases e
        exact h⟩
    | 1 =>
      obtain ⟨a, b, h⟩ := u_known (C := RX0) (T := TX0) (N := 3) (n := 3) hts cl1.2.2.2.2.1 (hts (.instantiable RX0 3) (iw_4 12 rfl))
      exact ⟨(a, b), fun q hq => by
        have e : some (RX0, TX0, 3) = some q := hq
        cases e
        exact h⟩
    | 2 =>
      obtain ⟨a, b, h⟩ := u_known (C := RX1) (T := TX1) (N := 3) (n := 3) hts cl2.2.2.2.2.1 (hts (.instantiable RX1 3) (iw_1 14 rfl))
      exact ⟨(a, b), fun q hq => by
        have e : some (RX1, TX1, 3) = some q := hq
        cases e
        exact h⟩
    | 3 =>
      obtain ⟨a, b, h⟩ := u_known (C := RX2) (T := TX2) (N := 8) (n := 8) hts cl3.2.2.2.2.1 (hts (.instantiable RX2 8) (iw_1 18 rfl))
      exact ⟨(a, b), fun q hq => by
        have e : some (RX2, TX2, 8) = some q := hq
        cases e
        exact h⟩
    | 4 =>
      obtain ⟨a, b, h⟩ := u_known (C := RX3) (T := TX3) (N := 5) (n := 5) hts cl4.2.2.2.2.1 (hts (.instantiable RX3 5) (iw_3 8 rfl))
      exact ⟨(a, b), fun q hq => by
        have e : some (RX3, TX3, 5) = some q := hq
        cases e
        exact h⟩
    | 5 =>
      obtain ⟨a, b, h⟩ := u_known (C := RX4) (T := TX4) (N := 9) (n := 9) hts cl5.2.2.2.2.1 (hts (.instantiable RX4 9) (iw_8 10 rfl))
      exact ⟨(a, b), fun q hq => by
        have e : some (RX4, TX4, 9) = some q := hq
        cases e
        exact h⟩
    | 6 =>
      obtain ⟨a, b, h⟩ := u_known (C := RX5) (T := TX5) (N := 4) (n := 4) hts cl6.2.2.2.2.1 (hts (.instantiable RX5 4) (iw_4 8 rfl))
      exact ⟨(a, b), fun q hq => by
        have e : some (RX5, TX5, 4) = some q := hq
        cases e
        exact h⟩
    | 7 =>
      obtain ⟨a, b, h⟩ := u_known (C := RX6) (T := TX6) (N := 2) (n := 2) hts cl7.2.2.2.2.1 (hts (.instantiable RX6 2) (iw_2 11 rfl))
      exact ⟨(a, b), fun q hq => by
        have e : some (RX6, TX6, 2) = some q := hq
        cases e
        exact h⟩
    | 8 =>
      obtain ⟨a, b, h⟩ := u_known (C := RX7) (T := TX7) (N := 4) (n := 4) hts cl8.2.2.2.2.1 (hts (.instantiable RX7 4) (iw_1 22 rfl))
      exact ⟨(a, b), fun q hq => by
        have e : some (RX7, TX7, 4) = some q := hq
        cases e
        exact h⟩
    | 9 =>
      obtain ⟨a, b, h⟩ := u_known (C := RX8) (T := TX8) (N := 4) (n := 4) hts cl9.2.2.2.2.1 (hts (.instantiable RX8 4) (iw_1 1 rfl))
      exact ⟨(a, b), fun q hq => by
        have e : some (RX8, TX8, 4) = some q := hq
        cases e
        exact h⟩
    | 10 =>
      obtain ⟨a, b, h⟩ := u_known (C := RX9) (T := TX9) (N := 21) (n := 21) hts cl10.2.2.2.2.1 (hts (.instantiable RX9 21) (iw_1 4 rfl))
      exact ⟨(a, b), fun q hq => by
        have e : some (RX9, TX9, 21) = some q := hq
        cases e
        exact h⟩
    | k + 11 => exact ⟨(0, fun _ => 0), fun q hq => by simp [vwCl] at hq⟩
  exact ⟨(fun c => (Classical.choose (h c)).1, fun c => (Classical.choose (h c)).2), fun c q hq => Classical.choose_spec (h c) q hq⟩
theorem st_Y {args : Array Value} {s : State} (hts : ∀ w ∈ gT, w.before args s = true) (ho1 : (Cond.arrayOver (.object RX3)).before args s = true) (ho2 : (Cond.arrayOver (.object "java/lang/Object")).before args s = true) : ∃ cy : Nat → ClassId, ∀ (k : Nat) (q : ClassId × FieldType), (gTys cy)[k]? = some q → ArrOfT s q.1 q.2 ∧ va_RA s q.1 q.2 := by
  obtain ⟨c11, k11, m11, a11, b11, d11⟩ := Cond.arrayClass_spec (hts (.arrayClass .int) (iw_3 18 rfl))
  obtain ⟨c12, k12, m12, a12, b12, d12⟩ := Cond.arrayClass_spec (hts (.arrayClass .long) (iw_1 6 rfl))
  obtain ⟨c13, k13, m13, a13, b13, d13⟩ := Cond.arrayClass_spec (hts (.arrayClass .boolean) (iw_6 4 rfl))
  obtain ⟨m14, c14, k14, a14, -, b14, d14, e14⟩ := Cond.arrayOver_spec ho1
  obtain ⟨m15, c15, k15, a15, -, b15, d15, e15⟩ := Cond.arrayOver_spec ho2
  refine ⟨fun k => if k = 11 then c11 else if k = 12 then c12 else if k = 13 then c13 else if k = 14 then c14 else c15, fun k q hq => ?_⟩
  match k, hq with
  | 0, hq =>
    have e : some (c11, FieldType.int) = some q := hq
    cases e
    exact ⟨fun n z => ⟨fun k h => (by cases h), k11, b11, m11, d11⟩, a11⟩
  | 1, hq =>
    have e : some (c12, FieldType.long) = some q := hq
    cases e
    exact ⟨fun n z => ⟨fun k h => (by cases h), k12, b12, m12, d12⟩, a12⟩
  | 2, hq =>
    have e : some (c13, FieldType.boolean) = some q := hq
    cases e
    exact ⟨fun n z => ⟨fun k h => (by cases h), k13, b13, m13, d13⟩, a13⟩
  | 3, hq =>
    have e : some (c14, FieldType.object RX3) = some q := hq
    cases e
    exact ⟨fun n z => ⟨fun k h => (by cases h), k14, b14, m14, d14⟩, ⟨k14, m14, b14, d14, a14, e14⟩⟩
  | 4, hq =>
    have e : some (c15, FieldType.object "java/lang/Object") = some q := hq
    cases e
    exact ⟨fun n z => ⟨fun k h => (by cases h), k15, b15, m15, d15⟩, ⟨k15, m15, b15, d15, a15, e15⟩⟩
  | k + 5, hq => simp [gTys] at hq

theorem st_x1 : ∀ E ∈ gEx, Cond.castable E E ∈ lw_tbl := by decide +kernel
theorem st_x2 : ∀ x ∈ gBd, Cond.declares x ∈ lw_tbl := by decide +kernel
theorem st_x3 : ∀ q ∈ gNc, Cond.not (.castable q.1 q.2) ∈ flatC (Jvm.Cond.and given_1 narrow_1) := by decide +kernel
theorem st_x4 : ∀ q ∈ gStr, Cond.stringRef RX8 q.1 q.2 ∈ lw_tbl := by decide +kernel
theorem st_x5 : ∀ w ∈ gNF, Cond.fieldLinkNest w.1 w.2.1 w.2.2.1 w.2.2.2.1 w.2.2.2.2 "WholeSpans" ∈ lw_tbl := by decide +kernel
theorem st_x6 : ∀ w ∈ gNM, Cond.methodLinkNest w.1 w.2.1 w.2.2 "WholeSpans" ∈ lw_tbl := by decide +kernel
theorem st_Z {sa e0 mi : Nat} {s : State} (hts : ∀ w ∈ lw_tbl, w.before #[Value.ref sa] s = true) (hgv : (Jvm.Cond.and given_1 narrow_1).before #[Value.ref sa] s = true) (he : (Term.static "java/util/ArrayList" "DEFAULTCAPACITY_EMPTY_ELEMENTDATA" "[Ljava/lang/Object;").eval #[Value.ref sa] s none [] s = some (.ref e0)) (hm : va_Mi "[Ljava/lang/Object;" mi s) : gZ (s.heap.size, e0, mi) s s.heap := by
  have hs := flat_of_before _ hgv
  have hA : ∀ a : Nat, a < s.heap.size → ¬ gAf (s.heap.size, e0, mi) a := fun a h => Nat.not_le.mpr h
  obtain ⟨cX, kX, hfX, -⟩ := Cond.instantiable_spec (hts (.instantiable RX8 4) (by decide +kernel))
  refine ⟨⟨vx_Zqof (hts (.laysStatic "java/lang/Throwable" "UNASSIGNED_STACK" "[Ljava/lang/StackTraceElement;") (by decide +kernel)) (hts (.initialized "java/lang/Throwable") (by decide +kernel)) (hs (.isRef (.static "java/lang/Throwable" "UNASSIGNED_STACK" "[Ljava/lang/StackTraceElement;")) (by decide +kernel)) hA, fun E hE => va_Nw.of rfl (hts _ (st_x1 E hE)), fun x hx => va_Nw.of rfl (hts _ (st_x2 x hx)), fun q hq => va_Nc.of (hs _ (st_x3 q hq))⟩,
    vx_Zqof (hts (.laysStatic "java/lang/Throwable" "SUPPRESSED_SENTINEL" "Ljava/util/List;") (by decide +kernel)) (hts (.initialized "java/lang/Throwable") (by decide +kernel)) (hs (.isRef (.static "java/lang/Throwable" "SUPPRESSED_SENTINEL" "Ljava/util/List;")) (by decide +kernel)) hA,
    va_Zof (hts (.laysStatic "java/util/ArrayList" "DEFAULTCAPACITY_EMPTY_ELEMENTDATA" "[Ljava/lang/Object;") (by decide +kernel)) (hts (.initialized "java/util/ArrayList") (by decide +kernel)) he hA,
    va_AO.of (hts (.arrayOver (.object RX3)) (by decide +kernel)), va_AO.of (hts (.arrayOver (.object "java/lang/Object")) (by decide +kernel)), va_Nw.of rfl (hts (.castable RX4 RX4) (by decide +kernel)), va_Nw.of rfl (hts (.castable RX4 "java/lang/Object") (by decide +kernel)), fun q hq => ?_, hm, va_Dc.of (hts (.declares ⟨"java/lang/Object", "getClass", "()Ljava/lang/Class;"⟩) (by decide +kernel)), fun w hw => va_Nw.of rfl (hts _ (st_x5 w hw)), fun w hw => va_Nw.of rfl (hts _ (st_x6 w hw))⟩
  obtain ⟨k, cf, i, a, -, -, -, -, -, hev⟩ := Cond.stringRef_spec hfX (hts _ (st_x4 q hq))
  exact ⟨a, vk_R.of (hts _ (st_x4 q hq)) hev⟩
/-- the memory at the start: ArrayList's empty row alone -/
def M00 : gM := (fun i => if i = 0 then 15 else 16, fun _ => 0, fun _ _ => 0, fun _ _ => 0, fun _ _ => none)
theorem st_P {D : va_G} {cy : Nat → ClassId} {s : State} {e0 mi : Nat} {cell : Cell} (hc : s.heap[e0]? = some cell) (h1 : cell.cls = cy 15) (h2 : cell.slots.size = 0) (h3 : cell.vm.isStatics = false) (h4 : cell.vm ≠ .unknown) : gP D cy (s.heap.size, e0, mi) M00 2 s.heap := by
  refine ⟨rfl, (Array.getElem?_eq_some_iff.mp hc).1, Nat.le_refl _, fun i hi => ?_, ⟨by decide, rfl, rfl⟩, fun i => ?_⟩
  · show 15 < if i = 0 then 15 else 16
    rw [if_neg (by omega)]; decide
  · by_cases hi : i = 0
    · subst hi
      unfold gAt gCell
      rw [show mK M00 0 = 15 from rfl, if_neg (by decide), if_neg (by decide), if_neg (by decide), if_neg (by decide), if_neg (by decide), if_pos rfl]
      exact Or.inr ⟨rfl, cell, hc, h1, h2, h3, h4⟩
    · exact gCell.big (show 15 < if i = 0 then 15 else 16 by rw [if_neg hi]; decide)
