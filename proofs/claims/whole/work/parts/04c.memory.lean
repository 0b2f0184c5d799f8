/-! the ghost layer's rows over memory -/
-- a class of vwCl, with what its fields need
def gIs (ty : FieldType) : Bool := match ty with
  | .int => true
  | .long => true
  | .boolean => true
  | .object _ => true
  | .array _ => true
  | _ => false
def gCl (c : Nat) (C : String) (T : u_T) (N : Nat) : Prop := vwCl[c]? = some (C, T, N) ∧ gNf c = N ∧ (∀ k, k < N → parseFieldDescriptor (T k).2.2.1 = some (gTy c k)) ∧ (∀ a, a < N → ∀ b, b < N → a ≠ b → (T a).2.1 ≠ (T b).2.1) ∧ (∀ w ∈ u_ws C T N, w ∈ gT) ∧ c ≤ 10 ∧ (∀ k, k < N → gIs (gTy c k) = true)
theorem cl0 : gCl 0 RJx4a65c TJx4a65c 3 := ⟨rfl, rfl, tyJx4a65c_ok, nmJx4a65c, inlJx4a65c, by decide, by decide⟩
theorem cl1 : gCl 1 RX0 TX0 3 := ⟨rfl, rfl, tyX0_ok, nmX0, inlX0, by decide, by decide⟩
theorem cl2 : gCl 2 RX1 TX1 3 := ⟨rfl, rfl, tyX1_ok, nmX1, inlX1, by decide, by decide⟩
theorem cl3 : gCl 3 RX2 TX2 8 := ⟨rfl, rfl, tyX2_ok, nmX2, inlX2, by decide, by decide⟩
theorem cl4 : gCl 4 RX3 TX3 5 := ⟨rfl, rfl, tyX3_ok, nmX3, inlX3, by decide, by decide⟩
theorem cl5 : gCl 5 RX4 TX4 9 := ⟨rfl, rfl, tyX4_ok, nmX4, inlX4, by decide, by decide⟩
theorem cl6 : gCl 6 RX5 TX5 4 := ⟨rfl, rfl, tyX5_ok, nmX5, inlX5, by decide, by decide⟩
theorem cl7 : gCl 7 RX6 TX6 2 := ⟨rfl, rfl, tyX6_ok, nmX6, inlX6, by decide, by decide⟩
theorem cl8 : gCl 8 RX7 TX7 4 := ⟨rfl, rfl, tyX7_ok, nmX7, inlX7, by decide, by decide⟩
theorem cl9 : gCl 9 RX8 TX8 4 := ⟨rfl, rfl, tyX8_ok, nmX8, inlX8, by decide, by decide⟩
theorem cl10 : gCl 10 RX9 TX9 21 := ⟨rfl, rfl, tyX9_ok, nmX9, inlX9, by decide, by decide⟩
theorem gfv_blank (b : gB) (k : Nat) {ty : FieldType} (h : gIs ty = true) : defaultValue ty = gfv b (fun _ => 0) (fun _ => 0) (fun _ => none) k ty := by
  cases ty <;> first | rfl | (simp [gIs] at h)
theorem gP.obj {D : va_G} {cy : Nat → ClassId} {b : gB} {M : gM} {n : Nat} {H : Heap} (h : gP D cy b M n H) {i c : Nat} {C : String} {T : u_T} {N : Nat} (cl : gCl c C T N) (hk : mK M i = c) : t_OB (gA b i) (D.1 c) N (D.2 c) H (fun k => gfv b (mI M i) (mJ M i) (mR M i) k (gTy c k)) := by
  have h1 := h.2.2.2.2.2 i
  unfold gAt gCell at h1
  rw [hk, if_pos cl.2.2.2.2.2.1, cl.2.1] at h1
  exact h1
theorem gP.two {D : va_G} {cy : Nat → ClassId} {b : gB} {M : gM} {n : Nat} {H : Heap} (h : gP D cy b M n H) {i : Nat} (hk : mK M i ≤ 14) : 2 ≤ i := by
  obtain ⟨h1, h2, -⟩ := h.2.2.2.2.1
  rcases Nat.lt_or_ge i 2 with q | q
  · have : i = 0 ∨ i = 1 := by omega
    rcases this with rfl | rfl <;> omega
  · exact q
/-- one cell is written: the others stay -/
theorem gP.put {D : va_G} {cy : Nat → ClassId} {b : gB} {M M1 : gM} {n : Nat} {H H1 : Heap} (h : gP D cy b M n H) {i : Nat} (hi : 2 ≤ i) (hz : H1.size = H.size) (hoq : ∀ z : Nat, z ≠ gA b i → H1[z]? = H[z]?) (hK : mK M1 = mK M) (hN : mN M1 = mN M)
    (ho : ∀ j, j ≠ i → mI M1 j = mI M j ∧ mJ M1 j = mJ M j ∧ mR M1 j = mR M j) (hc : gAt D cy b M1 i H1) : gP D cy b M1 n H1 := by
  obtain ⟨h1, h2, h3, h4, h5, h6⟩ := h
  refine ⟨by rw [hz]; exact h1, h2, h3, by rw [hK]; exact h4, by rw [hK, hN]; exact h5, fun j => ?_⟩
  by_cases hj : j = i
  · rw [hj]; exact hc
  · obtain ⟨e1, e2, e3⟩ := ho j hj
    unfold gAt
    rw [hK, hN, e1, e2, e3]
    by_cases h7 : j = 1
    · rw [h7]; exact gCell.big h5.1
    · exact gCell.kept (h6 j) (hoq _ (fun q => hj (gA_inj h2 hi h7 q)))
/-- a cell is made -/
theorem gP.push {D : va_G} {cy : Nat → ClassId} {b : gB} {M : gM} {n kd ln : Nat} {H H1 : Heap} (h : gP D cy b M n H) (hz : H1.size = H.size + 1) (hoq : ∀ z : Nat, z < H.size → H1[z]? = H[z]?) (hc : gCell D cy b H.size kd ln (fun _ => 0) (fun _ => 0) (fun _ => none) H1) : gP D cy b (stN M n kd ln) (n + 1) H1 := by
  obtain ⟨h1, h2, h3, h4, h5, h6⟩ := h
  have hA : gA b n = H.size := by
    unfold gA
    rw [if_neg (by omega), if_neg (by omega), h1]
  have hk : ∀ j, j ≠ n → mK (stN M n kd ln) j = mK M j := fun j hj => up1_ne _ _ hj
  refine ⟨by rw [hz, h1]; omega, h2, by omega, fun j hj => ?_, ⟨?_, ?_, ?_⟩, fun j => ?_⟩
  · rw [hk j (by omega)]; exact h4 j (by omega)
  · rw [hk 1 (by omega)]; exact h5.1
  · rw [hk 0 (by omega)]; exact h5.2.1
  · show up1 (mN M) n ln 0 = 0
    rw [up1_ne _ _ (by omega)]; exact h5.2.2
  · by_cases hj : j = n
    · subst hj
      show gCell D cy b (gA b j) (up1 (mK M) j kd j) (up1 (mN M) j ln j) (up1 (mI M) j _ j) (up1 (mJ M) j _ j) (up1 (mR M) j _ j) H1
      rw [up1_eq, up1_eq, up1_eq, up1_eq, up1_eq, hA]
      exact hc
    · show gCell D cy b (gA b j) (up1 (mK M) n kd j) (up1 (mN M) n ln j) (up1 (mI M) n _ j) (up1 (mJ M) n _ j) (up1 (mR M) n _ j) H1
      rw [up1_ne _ _ hj, up1_ne _ _ hj, up1_ne _ _ hj, up1_ne _ _ hj, up1_ne _ _ hj]
      by_cases hb : mK M j ≤ 15
      · exact gCell.kept (h6 j) (hoq _ (gCell.lt (h6 j) hb))
      · unfold gCell
        rw [if_neg (by omega), if_neg (by omega), if_neg (by omega), if_neg (by omega), if_neg (by omega), if_neg (by omega)]
        trivial
section GF
variable {μ : gμ} {R : Room} {Q : gθ} {k q pc : Nat} {lv : List (Option Value)} {st : List Value} {M : gM} {n : Nat}
/-- the field's declaring class is the one that the link names, or is said to be the same field -/
theorem gSame {args : Array Value} {s : State} {T : u_T} {f : Nat} {ref : String} (hts : ∀ w ∈ gT, w.before args s = true) (h : (T f).1 = ref ∨ Cond.sameField ref (T f).1 (T f).2.1 (T f).2.2.1 ∈ gT) : ∀ x, s.fieldFound? (T f).1 (T f).2.1 (T f).2.2.1 = some x → s.fieldFound? ref (T f).2.1 (T f).2.2.1 = some x := by
  intro x hx
  rcases h with h | h
  · rw [← h]; exact hx
  · exact u_same (hts _ h) x hx
theorem g_get {i c f idx N : Nat} {C ref : String} {T : u_T} {v : Value} (hd : decode μ.2.1 pc = .ok (.getfield idx, 3)) (cl : gCl c C T N) (hk : mK M i = c) (hf : f < N) (hw : Cond.fieldLink μ.1.cls idx ref (T f).2.1 (T f).2.2.1 ∈ gT ∨ (μ.1.cls, idx, ref, (T f).2.1, (T f).2.2.1) ∈ gNF) (hr : (T f).1 = ref ∨ Cond.sameField ref (T f).1 (T f).2.1 (T f).2.2.1 ∈ gT) (hv : ∀ b : gB, gfv b (mI M i) (mJ M i) (mR M i) f (gTy c f) = gV b v)
    (kk : GW μ R Q k q (pc + 3) lv (v :: st) M n) : GW μ R Q k q pc lv (.ref i :: st) M n := by
  intro p l e s m args below meth co D cy b H locs ls hC hP hS hl
  have hts := hC.2.2.2.2.1
  have hK : gK D cy s := hC.2.2.2.2.2.2.2.2.2.1
  obtain ⟨cell, q1, q2, q3, q4⟩ := hP.obj cl hk
  obtain ⟨hSl, hfc, kC, hkC, hkind⟩ := hK.1 c _ cl.1
  obtain ⟨cf, kf, fi, fd, hi, hsl⟩ := hSl f hf
  have hslot : cell.slots[fd.slot]? = some (gV b v) := by rw [hsl, q4 f hf, ← hv b]
  rcases hw with hw | hw
  · exact W.getf hC.x hC.b hC.2.2.2.1 (hts _ hw) (gSame hts hr _ hi) (u_facts hfc hkC (u_lays hts cl.2.2.2.2.1 hf) hi).1 q1 (by rw [q3]; exact fun h => by cases h) (v := gV b v) hslot rfl rfl hd (kk p l e s m args below meth co D cy b H locs ls hC hP hS hl)
  · exact va_Wgetf hC.x hC.b hC.2.2.2.1 (va_Nw.use rfl (hC.2.2.2.2.2.2.2.2.2.2.1.2.2.2.2.2.2.2.2.2.2.1 _ hw)) (gSame hts hr _ hi) (u_facts hfc hkC (u_lays hts cl.2.2.2.2.1 hf) hi).1 q1 (by rw [q3]; exact fun h => by cases h) (v := gV b v) hslot rfl rfl hd (kk p l e s m args below meth co D cy b H locs ls hC hP hS hl)
theorem g_getI {i c f idx N : Nat} {C ref : String} {T : u_T} (hd : decode μ.2.1 pc = .ok (.getfield idx, 3)) (cl : gCl c C T N) (hk : mK M i = c) (hf : f < N) (hw : Cond.fieldLink μ.1.cls idx ref (T f).2.1 (T f).2.2.1 ∈ gT ∨ (μ.1.cls, idx, ref, (T f).2.1, (T f).2.2.1) ∈ gNF) (hr : (T f).1 = ref ∨ Cond.sameField ref (T f).1 (T f).2.1 (T f).2.2.1 ∈ gT) (ht : gTy c f = .int ∨ gTy c f = .boolean)
    (kk : GW μ R Q k q (pc + 3) lv (.int (mI M i f) :: st) M n) : GW μ R Q k q pc lv (.ref i :: st) M n :=
  g_get hd cl hk hf hw hr (fun b => by rcases ht with h | h <;> rw [h] <;> rfl) kk
theorem g_getJ {i c f idx N : Nat} {C ref : String} {T : u_T} (hd : decode μ.2.1 pc = .ok (.getfield idx, 3)) (cl : gCl c C T N) (hk : mK M i = c) (hf : f < N) (hw : Cond.fieldLink μ.1.cls idx ref (T f).2.1 (T f).2.2.1 ∈ gT ∨ (μ.1.cls, idx, ref, (T f).2.1, (T f).2.2.1) ∈ gNF) (hr : (T f).1 = ref ∨ Cond.sameField ref (T f).1 (T f).2.1 (T f).2.2.1 ∈ gT) (ht : gTy c f = .long)
    (kk : GW μ R Q k q (pc + 3) lv (.long (mJ M i f) :: st) M n) : GW μ R Q k q pc lv (.ref i :: st) M n :=
  g_get hd cl hk hf hw hr (fun b => by rw [ht]; rfl) kk
def gTr (ty : FieldType) : Bool := match ty with
  | .object _ => true
  | .array _ => true
  | _ => false
theorem g_getR {i c f idx N r : Nat} {C ref : String} {T : u_T} (hd : decode μ.2.1 pc = .ok (.getfield idx, 3)) (cl : gCl c C T N) (hk : mK M i = c) (hf : f < N) (hw : Cond.fieldLink μ.1.cls idx ref (T f).2.1 (T f).2.2.1 ∈ gT ∨ (μ.1.cls, idx, ref, (T f).2.1, (T f).2.2.1) ∈ gNF) (hr : (T f).1 = ref ∨ Cond.sameField ref (T f).1 (T f).2.1 (T f).2.2.1 ∈ gT) (ht : gTr (gTy c f) = true) (hv : mR M i f = some r)
    (kk : GW μ R Q k q (pc + 3) lv (.ref r :: st) M n) : GW μ R Q k q pc lv (.ref i :: st) M n := by
  refine g_get hd cl hk hf hw hr (fun b => ?_) kk
  generalize gTy c f = ty at ht
  cases ty <;> first | (simp [gTr] at ht; done) | (simp only [gfv, hv, gO, Option.map_some]; rfl)
/-- a field that isn't final, or a final one in its constructor -/
theorem g_put {i c f idx N : Nat} {C ref : String} {T : u_T} {v : Value} {M1 : gM} (hd : decode μ.2.1 pc = .ok (.putfield idx, 3)) (cl : gCl c C T N) (hk : mK M i = c) (hf : f < N) (hw : Cond.fieldLink μ.1.cls idx ref (T f).2.1 (T f).2.2.1 ∈ gT ∨ (μ.1.cls, idx, ref, (T f).2.1, (T f).2.2.1) ∈ gNF) (hr : (T f).1 = ref ∨ Cond.sameField ref (T f).1 (T f).2.1 (T f).2.2.1 ∈ gT)
    (hfin : (T f).2.2.2 = false ∨ ((T f).2.2.2 = true ∧ μ.1.name = "<init>" ∧ (T f).1 = μ.1.cls ∧ Cond.fieldLink μ.1.cls idx ref (T f).2.1 (T f).2.2.1 ∈ gT)) (hn : ∀ b : gB, narrow (gTy c f) (gV b v) = gV b v ∧ fits (gTy c f) (gV b v) = true) (hK1 : mK M1 = mK M) (hN1 : mN M1 = mN M) (ho : ∀ j, j ≠ i → mI M1 j = mI M j ∧ mJ M1 j = mJ M j ∧ mR M1 j = mR M j)
    (hv : ∀ (b : gB) (j : Nat), j < N → updV (fun k => gfv b (mI M i) (mJ M i) (mR M i) k (gTy c k)) f (gV b v) j = gfv b (mI M1 i) (mJ M1 i) (mR M1 i) j (gTy c j))
    (kk : GW μ R Q k q (pc + 3) lv st M1 n) : GW μ R Q k q pc lv (v :: .ref i :: st) M n := by
  intro p l e s m args below meth co D cy b H locs ls hC hP hS hl
  have hts := hC.2.2.2.2.1
  have hK : gK D cy s := hC.2.2.2.2.2.2.2.2.2.1
  have hin := cl.2.2.2.2.1
  have hc10 := cl.2.2.2.2.2.1
  have hap := va_apart (own := C) hts hin (gTy c) cl.2.2.1 cl.2.2.2.1 hK cl.1
  obtain ⟨cell, q1, q2, q3, q4⟩ := hP.obj cl hk
  obtain ⟨hSl, hfc, kC, hkC, hkind⟩ := hK.1 c _ cl.1
  obtain ⟨cf, kf, fi, fd, hi, hsl⟩ := hSl f hf
  have hst := (u_facts hfc hkC (u_lays hts hin hf) hi).1
  have hi2 : 2 ≤ i := hP.two (by omega)
  have goal : ∀ H1 : Heap, H1[gA b i]? = some (cell.setSlot (D.2 c f) (gV b v)) → H1.size = H.size → (∀ z, z ≠ gA b i → H1[z]? = H[z]?) → W p l e R s m args below meth co H1 (locs ++ [⟨gA b i, D.2 c f⟩]) k q (Q below args s D cy b) (F0 m (pc + 3) ls (st.map (gV b))) := by
    intro H1 e1 e2 e3
    refine kk p l e s m args below meth co D cy b H1 _ ls hC (hP.put hi2 e2 e3 hK1 hN1 ho ?_) (hS.put e2 e3 (gA_big hi2)) hl
    unfold gAt gCell
    rw [hK1, hk, if_pos hc10, cl.2.1]
    exact t_OB.to (V := updV (fun k => gfv b (mI M i) (mJ M i) (mR M i) k (gTy c k)) f (gV b v)) ⟨_, e1, q2, q3, t_set q4 hap hf (gV b v)⟩ (fun j hj => hv b j hj)
  rcases hfin with hfin | ⟨hfin, hnm, hdecl, hw⟩
  · have hlay := hts _ (hin _ (u_in_lay hf))
    unfold u_lay at hlay
    rw [if_neg (by rw [hfin]; decide)] at hlay
    have h6 := u_store hfc hkC hkind hlay hi (cl.2.2.1 f hf) (hn b).1 (hn b).2
    rcases hw with hw | hw
    · refine W.putK hC.x hC.b (f := fd) ⟨hC.2.2.2.1, hts _ hw, ⟨_, _, _, gSame hts hr _ hi⟩, hst⟩ (by rw [q2]; exact h6) q1 q3 (by rw [hsl]; exact k2_hasslot (q4 f hf)) rfl rfl hd fun H1 e1 e2 e3 => ?_
      rw [hsl] at e1 ⊢
      exact goal H1 e1 e2 e3
    · refine va_WputK hC.x hC.b (f := fd) hC.2.2.2.1 (va_Nw.use rfl (hC.2.2.2.2.2.2.2.2.2.2.1.2.2.2.2.2.2.2.2.2.2.1 _ hw)) (gSame hts hr _ hi) hst (by rw [q2]; exact h6) q1 q3 (by rw [hsl]; exact k2_hasslot (q4 f hf)) rfl rfl hd fun H1 e1 e2 e3 => ?_
      rw [hsl] at e1 ⊢
      exact goal H1 e1 e2 e3
  · have hlay := hts _ (hin _ (u_in_lay hf))
    unfold u_lay at hlay
    rw [if_pos hfin] at hlay
    have hown := hC.2.2.2.1
    have hcf : m.cls = cf := by
      obtain ⟨_, _, c', _, _, _, -, -, hf', -, -, -, hown2, -⟩ := Cond.laysFinal_spec hlay
      have e1 : c' = cf := by have := hi.symm.trans hf'; simp at this; exact this.1.symm
      rw [hdecl] at hown2
      rw [← e1]; exact Option.some.inj (hown.symm.trans hown2)
    have h6 := u_fits hfc hkC hkind (Or.inr hlay) hi (cl.2.2.1 f hf) (hn b).1 (hn b).2
    refine W.putFinK hC.x hC.b hown (hts _ hw) (gSame hts hr _ hi) hst hcf (hC.2.2.2.2.2.2.2.1.trans hnm) (by rw [q2]; exact h6) q1 q3 (by rw [hsl]; exact k2_hasslot (q4 f hf)) rfl rfl hd fun H1 e1 e2 e3 => ?_
    rw [hsl] at e1 ⊢
    exact goal H1 e1 e2 e3
theorem up2_self {α : Type} (f : Nat → Nat → α) (i k : Nat) (v : α) (j : Nat) : up2 f i k v i j = if j = k then v else f i j := by
  unfold up2
  by_cases h : j = k <;> simp [h]
theorem g_putI {i c f idx N : Nat} {C ref : String} {T : u_T} {x : Int32} (hd : decode μ.2.1 pc = .ok (.putfield idx, 3)) (cl : gCl c C T N) (hk : mK M i = c) (hf : f < N) (hw : Cond.fieldLink μ.1.cls idx ref (T f).2.1 (T f).2.2.1 ∈ gT ∨ (μ.1.cls, idx, ref, (T f).2.1, (T f).2.2.1) ∈ gNF) (hr : (T f).1 = ref ∨ Cond.sameField ref (T f).1 (T f).2.1 (T f).2.2.1 ∈ gT)
    (hfin : (T f).2.2.2 = false ∨ ((T f).2.2.2 = true ∧ μ.1.name = "<init>" ∧ (T f).1 = μ.1.cls ∧ Cond.fieldLink μ.1.cls idx ref (T f).2.1 (T f).2.2.1 ∈ gT)) (ht : gTy c f = .int ∨ (gTy c f = .boolean ∧ (x = 0 ∨ x = 1)))
    (kk : GW μ R Q k q (pc + 3) lv st (stI M i f x) n) : GW μ R Q k q pc lv (.int x :: .ref i :: st) M n := by
  refine g_put (M1 := stI M i f x) hd cl hk hf hw hr hfin (fun b => ?_) rfl rfl (fun j hj => ⟨up2_row _ _ hj, rfl, rfl⟩) (fun b j hj => ?_) kk
  · rcases ht with h | ⟨h, h2⟩
    · rw [h]; exact ⟨rfl, rfl⟩
    · rw [h]; rcases h2 with rfl | rfl <;> exact ⟨rfl, rfl⟩
  · unfold updV
    by_cases h : j = f
    · subst h
      rw [if_pos rfl]
      rcases ht with h | ⟨h, -⟩ <;> rw [h] <;> simp only [gfv, mI, stI, up2_eq] <;> rfl
    · rw [if_neg h]
      show gfv b (mI M i) (mJ M i) (mR M i) j (gTy c j) = gfv b (up2 (mI M) i f x i) (mJ M i) (mR M i) j (gTy c j)
      have e : up2 (mI M) i f x i j = mI M i j := up2_ne _ _ (fun z => h z.2)
      generalize gTy c j = ty
      cases ty <;> simp only [gfv, e]
theorem g_putJ {i c f idx N : Nat} {C ref : String} {T : u_T} {x : Int64} (hd : decode μ.2.1 pc = .ok (.putfield idx, 3)) (cl : gCl c C T N) (hk : mK M i = c) (hf : f < N) (hw : Cond.fieldLink μ.1.cls idx ref (T f).2.1 (T f).2.2.1 ∈ gT ∨ (μ.1.cls, idx, ref, (T f).2.1, (T f).2.2.1) ∈ gNF) (hr : (T f).1 = ref ∨ Cond.sameField ref (T f).1 (T f).2.1 (T f).2.2.1 ∈ gT)
    (hfin : (T f).2.2.2 = false ∨ ((T f).2.2.2 = true ∧ μ.1.name = "<init>" ∧ (T f).1 = μ.1.cls ∧ Cond.fieldLink μ.1.cls idx ref (T f).2.1 (T f).2.2.1 ∈ gT)) (ht : gTy c f = .long)
    (kk : GW μ R Q k q (pc + 3) lv st (stJ M i f x) n) : GW μ R Q k q pc lv (.long x :: .ref i :: st) M n := by
  refine g_put (M1 := stJ M i f x) hd cl hk hf hw hr hfin (fun b => by rw [ht]; exact ⟨rfl, rfl⟩) rfl rfl (fun j hj => ⟨rfl, up2_row _ _ hj, rfl⟩) (fun b j hj => ?_) kk
  unfold updV
  by_cases h : j = f
  · subst h
    rw [if_pos rfl, ht]
    simp only [gfv, mJ, stJ, up2_eq]
    rfl
  · rw [if_neg h]
    show gfv b (mI M i) (mJ M i) (mR M i) j (gTy c j) = gfv b (mI M i) (up2 (mJ M) i f x i) (mR M i) j (gTy c j)
    have e : up2 (mJ M) i f x i j = mJ M i j := up2_ne _ _ (fun z => h z.2)
    generalize gTy c j = ty
    cases ty <;> simp only [gfv, e]
theorem g_putR {i c f idx N r : Nat} {C ref : String} {T : u_T} (hd : decode μ.2.1 pc = .ok (.putfield idx, 3)) (cl : gCl c C T N) (hk : mK M i = c) (hf : f < N) (hw : Cond.fieldLink μ.1.cls idx ref (T f).2.1 (T f).2.2.1 ∈ gT ∨ (μ.1.cls, idx, ref, (T f).2.1, (T f).2.2.1) ∈ gNF) (hr : (T f).1 = ref ∨ Cond.sameField ref (T f).1 (T f).2.1 (T f).2.2.1 ∈ gT)
    (hfin : (T f).2.2.2 = false ∨ ((T f).2.2.2 = true ∧ μ.1.name = "<init>" ∧ (T f).1 = μ.1.cls ∧ Cond.fieldLink μ.1.cls idx ref (T f).2.1 (T f).2.2.1 ∈ gT)) (ht : gTr (gTy c f) = true)
    (kk : GW μ R Q k q (pc + 3) lv st (stR M i f (some r)) n) : GW μ R Q k q pc lv (.ref r :: .ref i :: st) M n := by
  refine g_put (M1 := stR M i f (some r)) hd cl hk hf hw hr hfin (fun b => ?_) rfl rfl (fun j hj => ⟨rfl, rfl, up2_row _ _ hj⟩) (fun b j hj => ?_) kk
  · generalize gTy c f = ty at ht
    cases ty <;> first | (simp [gTr] at ht; done) | exact ⟨rfl, rfl⟩
  · unfold updV
    by_cases h : j = f
    · subst h
      rw [if_pos rfl]
      generalize gTy c j = ty at ht
      cases ty <;> first | (simp [gTr] at ht; done) | (simp only [gfv, mR, stR, up2_eq, gO, Option.map_some]; rfl)
    · rw [if_neg h]
      show gfv b (mI M i) (mJ M i) (mR M i) j (gTy c j) = gfv b (mI M i) (mJ M i) (up2 (mR M) i f (some r) i) j (gTy c j)
      have e : up2 (mR M) i f (some r) i j = mR M i j := up2_ne _ _ (fun z => h z.2)
      generalize gTy c j = ty
      cases ty <;> simp only [gfv, e]
theorem g_new {c idx N : Nat} {C : String} {T : u_T} (hd : decode μ.2.1 pc = .ok (.new idx, 3)) (cl : gCl c C T N) (hw : Cond.classLink μ.1.cls idx C ∈ gT) (hi : Cond.instantiable C N ∈ gT) (hini : Cond.initialized C ∈ gT) (h1 : k + 1 ≤ R.cells) (h2 : q + N ≤ R.slots)
    (kk : GW μ R Q (k + 1) (q + N) (pc + 3) lv (.ref n :: st) (stN M n c 0) (n + 1)) : GW μ R Q k q pc lv st M n := by
  intro p l e s m args below meth co D cy b H locs ls hC hP hS hl
  have hts := hC.2.2.2.2.1
  have hK : gK D cy s := hC.2.2.2.2.2.2.2.2.2.1
  have hKn := hK.1 c _ cl.1
  refine W.newcK hC.x hC.b hC.2.2.2.1 (hts _ hw) (hts _ hi) (hts _ hini) rfl hd h1 h2 hKn.2.1 rfl fun H1 kC hkC e1 z1 o1 => ?_
  have hA : gA b n = H.size := by
    have h9 := hP.2.2.1
    unfold gA
    rw [if_neg (by omega), if_neg (by omega), hP.1]
  have hgo := kk p l e s m args below meth co D cy b H1 locs ls hC (hP.push (ln := 0) z1 o1 ?_) ⟨Nat.le_trans hS.1 (by omega), fun z g1 g2 => (o1 z (Nat.lt_of_lt_of_le g1 hS.1)).trans (hS.2.1 z g1 g2), hS.2.2⟩ hl
  · have e9 : (Value.ref n :: st).map (gV b) = Value.ref H.size :: st.map (gV b) := by
      show Value.ref (gA b n) :: st.map (gV b) = _
      rw [hA]
    rw [e9] at hgo
    exact hgo
  · unfold gCell
    rw [if_pos cl.2.2.2.2.2.1, cl.2.1]
    exact (u_born (gTy c) hts cl.2.2.2.2.1 hKn hkC e1 cl.2.2.1).to (fun j hj => gfv_blank b j (cl.2.2.2.2.2.2 j hj))
end GF
