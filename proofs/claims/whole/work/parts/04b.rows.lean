/-! GW: the machine comes to its goal from here: a judgement over the ghost memory alone; its rows, one an instruction -/
abbrev gμ : Type := MethodName × ByteArray × Nat × Option FieldType × List ExceptionTableEntry
abbrev gθ : Type := List Frame → Array Value → State → va_G → (Nat → ClassId) → gB → State → Prop
/-- what a method's walk stands on -/
def gC (μ : gμ) (p : Program) (l : Launch) (s : State) (m : MethodId) (args : Array Value) (meth : Method) (c : Code) (D : va_G) (cy : Nat → ClassId) (b : gB) : Prop :=
  p.tables.exec = Jvm.exec ∧ c.code = μ.2.1 ∧ c.maxLocals = μ.2.2.1 ∧ s.vm.findClass μ.1.cls = some m.cls ∧ (∀ w ∈ gT, w.before args s = true) ∧ meth.locks = false ∧ meth.sig.returnType = μ.2.2.2.1 ∧ meth.name = μ.1.name ∧ c.exceptionTable.toList = μ.2.2.2.2 ∧ gK D cy s ∧ gZ b s s.heap ∧ (∀ z, s.heap.size ≤ z → gAf b z) ∧ l.stackTraces = false
theorem gC.x {μ : gμ} {p : Program} {l : Launch} {s : State} {m : MethodId} {args : Array Value} {meth : Method} {c : Code} {D : va_G} {cy : Nat → ClassId} {b : gB} (h : gC μ p l s m args meth c D cy b) : p.tables.exec = Jvm.exec := h.1
theorem gC.b {μ : gμ} {p : Program} {l : Launch} {s : State} {m : MethodId} {args : Array Value} {meth : Method} {c : Code} {D : va_G} {cy : Nat → ClassId} {b : gB} (h : gC μ p l s m args meth c D cy b) : c.code = μ.2.1 := h.2.1
def GW (μ : gμ) (R : Room) (Q : gθ) (k q pc : Nat) (lv : List (Option Value)) (st : List Value) (M : gM) (n : Nat) : Prop :=
  ∀ (p : Program) (l : Launch) (e : Env) (s : State) (m : MethodId) (args : Array Value) (below : List Frame) (meth : Method) (c : Code) (D : va_G) (cy : Nat → ClassId) (b : gB) (H : Heap) (locs : List Loc) (ls : Array Slot),
    gC μ p l s m args meth c D cy b → gP D cy b M n H → va_S (gAf b) s.heap H locs → gLs b ls μ.2.2.1 lv → W p l e R s m args below meth c H locs k q (Q below args s D cy b) (F0 m pc ls (st.map (gV b)))
section GR
variable {μ : gμ} {R : Room} {Q : gθ} {k q pc : Nat} {lv : List (Option Value)} {st : List Value} {M : gM} {n : Nat}
theorem g_iconst {z : Int} {v : Int32} (hd : decode μ.2.1 pc = .ok (.iconst z, 1)) (hv : Int32.ofInt z = v) (kk : GW μ R Q k q (pc + 1) lv (.int v :: st) M n) : GW μ R Q k q pc lv st M n := by
  intro p l e s m args below meth c D cy b H locs ls hC hP hS hl
  exact lv_iconst hC.x hC.b hd hv (kk p l e s m args below meth c D cy b H locs ls hC hP hS hl)
theorem g_bipush {z : Int} {v : Int32} (hd : decode μ.2.1 pc = .ok (.bipush z, 2)) (hv : (Int8.ofInt z).toInt32 = v) (kk : GW μ R Q k q (pc + 2) lv (.int v :: st) M n) : GW μ R Q k q pc lv st M n := by
  intro p l e s m args below meth c D cy b H locs ls hC hP hS hl
  exact lv_bipush hC.x hC.b hd hv (kk p l e s m args below meth c D cy b H locs ls hC hP hS hl)
theorem g_sipush {z : Int} {v : Int32} (hd : decode μ.2.1 pc = .ok (.sipush z, 3)) (hv : (Int16.ofInt z).toInt32 = v) (kk : GW μ R Q k q (pc + 3) lv (.int v :: st) M n) : GW μ R Q k q pc lv st M n := by
  intro p l e s m args below meth c D cy b H locs ls hC hP hS hl
  exact lv_sipush hC.x hC.b hd hv (kk p l e s m args below meth c D cy b H locs ls hC hP hS hl)
theorem g_lconst {z : Fin 2} {v : Int64} (hd : decode μ.2.1 pc = .ok (.lconst z, 1)) (hv : Int64.ofNat (z : Nat) = v) (kk : GW μ R Q k q (pc + 1) lv (.long v :: st) M n) : GW μ R Q k q pc lv st M n := by
  intro p l e s m args below meth c D cy b H locs ls hC hP hS hl
  exact lv_lconst hC.x hC.b hd hv (kk p l e s m args below meth c D cy b H locs ls hC hP hS hl)
theorem g_null  (hd : decode μ.2.1 pc = .ok (.aconst_null, 1))  (kk : GW μ R Q k q (pc + 1) lv (.null :: st) M n) : GW μ R Q k q pc lv st M n := by
  intro p l e s m args below meth c D cy b H locs ls hC hP hS hl
  exact lv_null hC.x hC.b hd  (kk p l e s m args below meth c D cy b H locs ls hC hP hS hl)
theorem g_iload_n {i : Fin 4} {x : Int32} (hd : decode μ.2.1 pc = .ok (.iload_n i, 1)) (hv : lv[(i : Nat)]? = some (some (.int x))) (kk : GW μ R Q k q (pc + 1) lv (.int x :: st) M n) : GW μ R Q k q pc lv st M n := by
  intro p l e s m args below meth c D cy b H locs ls hC hP hS hl
  exact lv_iload_n hC.x hC.b hd rfl (hl.2.2 _ _ hv) (kk p l e s m args below meth c D cy b H locs ls hC hP hS hl)
theorem g_iload {i : Nat} {x : Int32} (hd : decode μ.2.1 pc = .ok (.iload i, 2)) (hv : lv[i]? = some (some (.int x))) (kk : GW μ R Q k q (pc + 2) lv (.int x :: st) M n) : GW μ R Q k q pc lv st M n := by
  intro p l e s m args below meth c D cy b H locs ls hC hP hS hl
  exact lv_iload hC.x hC.b hd (hl.2.2 _ _ hv) (kk p l e s m args below meth c D cy b H locs ls hC hP hS hl)
theorem g_lload_n {i : Fin 4} {x : Int64} (hd : decode μ.2.1 pc = .ok (.lload_n i, 1)) (hv : lv[(i : Nat)]? = some (some (.long x))) (kk : GW μ R Q k q (pc + 1) lv (.long x :: st) M n) : GW μ R Q k q pc lv st M n := by
  intro p l e s m args below meth c D cy b H locs ls hC hP hS hl
  exact lv_lload_n hC.x hC.b hd rfl (hl.2.2 _ _ hv) (kk p l e s m args below meth c D cy b H locs ls hC hP hS hl)
theorem g_lload {i : Nat} {x : Int64} (hd : decode μ.2.1 pc = .ok (.lload i, 2)) (hv : lv[i]? = some (some (.long x))) (kk : GW μ R Q k q (pc + 2) lv (.long x :: st) M n) : GW μ R Q k q pc lv st M n := by
  intro p l e s m args below meth c D cy b H locs ls hC hP hS hl
  exact lv_lload hC.x hC.b hd (hl.2.2 _ _ hv) (kk p l e s m args below meth c D cy b H locs ls hC hP hS hl)
theorem g_aload_n {i : Fin 4} {x : Nat} (hd : decode μ.2.1 pc = .ok (.aload_n i, 1)) (hv : lv[(i : Nat)]? = some (some (.ref x))) (kk : GW μ R Q k q (pc + 1) lv (.ref x :: st) M n) : GW μ R Q k q pc lv st M n := by
  intro p l e s m args below meth c D cy b H locs ls hC hP hS hl
  exact lv_aload_n hC.x hC.b hd rfl (hl.2.2 _ _ hv) (kk p l e s m args below meth c D cy b H locs ls hC hP hS hl)
theorem g_aload {i : Nat} {x : Nat} (hd : decode μ.2.1 pc = .ok (.aload i, 2)) (hv : lv[i]? = some (some (.ref x))) (kk : GW μ R Q k q (pc + 2) lv (.ref x :: st) M n) : GW μ R Q k q pc lv st M n := by
  intro p l e s m args below meth c D cy b H locs ls hC hP hS hl
  exact lv_aload hC.x hC.b hd (hl.2.2 _ _ hv) (kk p l e s m args below meth c D cy b H locs ls hC hP hS hl)
theorem g_aload_nN {i : Fin 4} (hd : decode μ.2.1 pc = .ok (.aload_n i, 1)) (hv : lv[(i : Nat)]? = some (some .null)) (kk : GW μ R Q k q (pc + 1) lv (.null :: st) M n) : GW μ R Q k q pc lv st M n := by
  intro p l e s m args below meth c D cy b H locs ls hC hP hS hl
  exact lv_aload_nN hC.x hC.b hd rfl (hl.2.2 _ _ hv) (kk p l e s m args below meth c D cy b H locs ls hC hP hS hl)
theorem g_istore_n {i : Fin 4} {x : Int32} (hd : decode μ.2.1 pc = .ok (.istore_n i, 1)) (hn : (i : Nat) < μ.2.2.1) (kk : GW μ R Q k q (pc + 1) (gSt lv (i : Nat) (.int x)) st M n) : GW μ R Q k q pc lv (.int x :: st) M n := by
  intro p l e s m args below meth c D cy b H locs ls hC hP hS hl
  exact lv_istore_n hC.x hC.b hd rfl hl.has hn rfl (fun ls1 hl1 => kk p l e s m args below meth c D cy b H locs ls1 hC hP hS (gLs.st (i : Nat) (.int x) hl1))
theorem g_istore {i : Nat} {x : Int32} (hd : decode μ.2.1 pc = .ok (.istore i, 2)) (hn : i < μ.2.2.1) (kk : GW μ R Q k q (pc + 2) (gSt lv i (.int x)) st M n) : GW μ R Q k q pc lv (.int x :: st) M n := by
  intro p l e s m args below meth c D cy b H locs ls hC hP hS hl
  exact lv_istore hC.x hC.b hd hl.has hn rfl (fun ls1 hl1 => kk p l e s m args below meth c D cy b H locs ls1 hC hP hS (gLs.st i (.int x) hl1))
theorem g_lstore_n {i : Fin 4} {x : Int64} (hd : decode μ.2.1 pc = .ok (.lstore_n i, 1)) (hn : (i : Nat) + 1 < μ.2.2.1) (kk : GW μ R Q k q (pc + 1) (gSu lv (i : Nat) (.long x)) st M n) : GW μ R Q k q pc lv (.long x :: st) M n := by
  intro p l e s m args below meth c D cy b H locs ls hC hP hS hl
  exact lv_lstore_n hC.x hC.b hd rfl hl.has hn rfl (fun ls1 hl1 => kk p l e s m args below meth c D cy b H locs ls1 hC hP hS (gLs.su (i : Nat) (.long x) hl1))
theorem g_lstore {i : Nat} {x : Int64} (hd : decode μ.2.1 pc = .ok (.lstore i, 2)) (hn : i + 1 < μ.2.2.1) (kk : GW μ R Q k q (pc + 2) (gSu lv i (.long x)) st M n) : GW μ R Q k q pc lv (.long x :: st) M n := by
  intro p l e s m args below meth c D cy b H locs ls hC hP hS hl
  exact lv_lstore hC.x hC.b hd hl.has hn rfl (fun ls1 hl1 => kk p l e s m args below meth c D cy b H locs ls1 hC hP hS (gLs.su i (.long x) hl1))
theorem g_astore_n {i : Fin 4} {x : Nat} (hd : decode μ.2.1 pc = .ok (.astore_n i, 1)) (hn : (i : Nat) < μ.2.2.1) (kk : GW μ R Q k q (pc + 1) (gSt lv (i : Nat) (.ref x)) st M n) : GW μ R Q k q pc lv (.ref x :: st) M n := by
  intro p l e s m args below meth c D cy b H locs ls hC hP hS hl
  exact lv_astore_n hC.x hC.b hd rfl hl.has hn rfl (fun ls1 hl1 => kk p l e s m args below meth c D cy b H locs ls1 hC hP hS (gLs.st (i : Nat) (.ref x) hl1))
theorem g_astore {i : Nat} {x : Nat} (hd : decode μ.2.1 pc = .ok (.astore i, 2)) (hn : i < μ.2.2.1) (kk : GW μ R Q k q (pc + 2) (gSt lv i (.ref x)) st M n) : GW μ R Q k q pc lv (.ref x :: st) M n := by
  intro p l e s m args below meth c D cy b H locs ls hC hP hS hl
  exact lv_astore hC.x hC.b hd hl.has hn rfl (fun ls1 hl1 => kk p l e s m args below meth c D cy b H locs ls1 hC hP hS (gLs.st i (.ref x) hl1))
theorem g_iinc {i : Nat} {z : Int} {x v : Int32} (hd : decode μ.2.1 pc = .ok (.iinc i z, 3)) (hv : lv[i]? = some (some (.int x))) (hx : x + Int32.ofInt z = v) (hn : i < μ.2.2.1) (kk : GW μ R Q k q (pc + 3) (gSt lv i (.int v)) st M n) : GW μ R Q k q pc lv st M n := by
  intro p l e s m args below meth c D cy b H locs ls hC hP hS hl
  obtain ⟨j, hj⟩ := List.getElem?_of_mem (gLl_mem.mpr ⟨_, hv, rfl⟩ : (i, gV b (.int x)) ∈ gLl b lv)
  exact lv_iinc hC.x hC.b hd hl.has hj hx hn rfl (fun ls1 hl1 => kk p l e s m args below meth c D cy b H locs ls1 hC hP hS (gLs.st i (.int v) hl1))
theorem g_iadd {x y : Int32} (hd : decode μ.2.1 pc = .ok (.iadd, 1)) (kk : GW μ R Q k q (pc + 1) lv (.int (x + y) :: st) M n) : GW μ R Q k q pc lv (.int y :: .int x :: st) M n := by
  intro p l e s m args below meth c D cy b H locs ls hC hP hS hl
  exact lv_iadd hC.x hC.b hd (kk p l e s m args below meth c D cy b H locs ls hC hP hS hl)
theorem g_isub {x y : Int32} (hd : decode μ.2.1 pc = .ok (.isub, 1)) (kk : GW μ R Q k q (pc + 1) lv (.int (x - y) :: st) M n) : GW μ R Q k q pc lv (.int y :: .int x :: st) M n := by
  intro p l e s m args below meth c D cy b H locs ls hC hP hS hl
  exact lv_isub hC.x hC.b hd (kk p l e s m args below meth c D cy b H locs ls hC hP hS hl)
theorem g_imul {x y : Int32} (hd : decode μ.2.1 pc = .ok (.imul, 1)) (kk : GW μ R Q k q (pc + 1) lv (.int (x * y) :: st) M n) : GW μ R Q k q pc lv (.int y :: .int x :: st) M n := by
  intro p l e s m args below meth c D cy b H locs ls hC hP hS hl
  exact lv_imul hC.x hC.b hd (kk p l e s m args below meth c D cy b H locs ls hC hP hS hl)
theorem g_iand {x y : Int32} (hd : decode μ.2.1 pc = .ok (.iand, 1)) (kk : GW μ R Q k q (pc + 1) lv (.int (x &&& y) :: st) M n) : GW μ R Q k q pc lv (.int y :: .int x :: st) M n := by
  intro p l e s m args below meth c D cy b H locs ls hC hP hS hl
  exact lv_iand hC.x hC.b hd (kk p l e s m args below meth c D cy b H locs ls hC hP hS hl)
theorem g_ior {x y : Int32} (hd : decode μ.2.1 pc = .ok (.ior, 1)) (kk : GW μ R Q k q (pc + 1) lv (.int (x ||| y) :: st) M n) : GW μ R Q k q pc lv (.int y :: .int x :: st) M n := by
  intro p l e s m args below meth c D cy b H locs ls hC hP hS hl
  exact lv_ior hC.x hC.b hd (kk p l e s m args below meth c D cy b H locs ls hC hP hS hl)
theorem g_ishr {x y : Int32} (hd : decode μ.2.1 pc = .ok (.ishr, 1)) (kk : GW μ R Q k q (pc + 1) lv (.int (x >>> (y &&& 31)) :: st) M n) : GW μ R Q k q pc lv (.int y :: .int x :: st) M n := by
  intro p l e s m args below meth c D cy b H locs ls hC hP hS hl
  exact lv_ishr hC.x hC.b hd (kk p l e s m args below meth c D cy b H locs ls hC hP hS hl)
theorem g_ladd {x y : Int64} (hd : decode μ.2.1 pc = .ok (.ladd, 1)) (kk : GW μ R Q k q (pc + 1) lv (.long (x + y) :: st) M n) : GW μ R Q k q pc lv (.long y :: .long x :: st) M n := by
  intro p l e s m args below meth c D cy b H locs ls hC hP hS hl
  exact lv_ladd hC.x hC.b hd (kk p l e s m args below meth c D cy b H locs ls hC hP hS hl)
theorem g_lsub {x y : Int64} (hd : decode μ.2.1 pc = .ok (.lsub, 1)) (kk : GW μ R Q k q (pc + 1) lv (.long (x - y) :: st) M n) : GW μ R Q k q pc lv (.long y :: .long x :: st) M n := by
  intro p l e s m args below meth c D cy b H locs ls hC hP hS hl
  exact lv_lsub hC.x hC.b hd (kk p l e s m args below meth c D cy b H locs ls hC hP hS hl)
theorem g_lmul {x y : Int64} (hd : decode μ.2.1 pc = .ok (.lmul, 1)) (kk : GW μ R Q k q (pc + 1) lv (.long (x * y) :: st) M n) : GW μ R Q k q pc lv (.long y :: .long x :: st) M n := by
  intro p l e s m args below meth c D cy b H locs ls hC hP hS hl
  exact lv_lmul hC.x hC.b hd (kk p l e s m args below meth c D cy b H locs ls hC hP hS hl)
theorem g_land {x y : Int64} (hd : decode μ.2.1 pc = .ok (.land, 1)) (kk : GW μ R Q k q (pc + 1) lv (.long (x &&& y) :: st) M n) : GW μ R Q k q pc lv (.long y :: .long x :: st) M n := by
  intro p l e s m args below meth c D cy b H locs ls hC hP hS hl
  exact lv_land hC.x hC.b hd (kk p l e s m args below meth c D cy b H locs ls hC hP hS hl)
theorem g_lneg {x : Int64} (hd : decode μ.2.1 pc = .ok (.lneg, 1)) (kk : GW μ R Q k q (pc + 1) lv (.long (-x) :: st) M n) : GW μ R Q k q pc lv (.long x :: st) M n := by
  intro p l e s m args below meth c D cy b H locs ls hC hP hS hl
  exact lv_lneg hC.x hC.b hd (kk p l e s m args below meth c D cy b H locs ls hC hP hS hl)
-- division: the divisor is not 0
theorem g_idiv {x y : Int32} (hd : decode μ.2.1 pc = .ok (.idiv, 1)) (hne : ¬ y = 0) (kk : GW μ R Q k q (pc + 1) lv (.int (x / y) :: st) M n) : GW μ R Q k q pc lv (.int y :: .int x :: st) M n := by
  intro p l e s m args below meth c D cy b H locs ls hC hP hS hl
  exact lv_idiv hC.x hC.b hd hne (kk p l e s m args below meth c D cy b H locs ls hC hP hS hl)
theorem g_irem {x y : Int32} (hd : decode μ.2.1 pc = .ok (.irem, 1)) (hne : ¬ y = 0) (kk : GW μ R Q k q (pc + 1) lv (.int (x - x / y * y) :: st) M n) : GW μ R Q k q pc lv (.int y :: .int x :: st) M n := by
  intro p l e s m args below meth c D cy b H locs ls hC hP hS hl
  exact lv_irem hC.x hC.b hd hne (kk p l e s m args below meth c D cy b H locs ls hC hP hS hl)
theorem g_ldiv {x y : Int64} (hd : decode μ.2.1 pc = .ok (.ldiv, 1)) (hne : ¬ y = 0) (kk : GW μ R Q k q (pc + 1) lv (.long (x / y) :: st) M n) : GW μ R Q k q pc lv (.long y :: .long x :: st) M n := by
  intro p l e s m args below meth c D cy b H locs ls hC hP hS hl
  exact lv_ldiv hC.x hC.b hd hne (kk p l e s m args below meth c D cy b H locs ls hC hP hS hl)
theorem g_lrem {x y : Int64} (hd : decode μ.2.1 pc = .ok (.lrem, 1)) (hne : ¬ y = 0) (kk : GW μ R Q k q (pc + 1) lv (.long (x - x / y * y) :: st) M n) : GW μ R Q k q pc lv (.long y :: .long x :: st) M n := by
  intro p l e s m args below meth c D cy b H locs ls hC hP hS hl
  exact lv_lrem hC.x hC.b hd hne (kk p l e s m args below meth c D cy b H locs ls hC hP hS hl)
theorem g_i2l {x : Int32} (hd : decode μ.2.1 pc = .ok (.i2l, 1)) (kk : GW μ R Q k q (pc + 1) lv (.long (x.toInt64) :: st) M n) : GW μ R Q k q pc lv (.int x :: st) M n := by
  intro p l e s m args below meth c D cy b H locs ls hC hP hS hl
  exact lv_i2l hC.x hC.b hd rfl (kk p l e s m args below meth c D cy b H locs ls hC hP hS hl)
theorem g_l2i {x : Int64} (hd : decode μ.2.1 pc = .ok (.l2i, 1)) (kk : GW μ R Q k q (pc + 1) lv (.int (x.toInt32) :: st) M n) : GW μ R Q k q pc lv (.long x :: st) M n := by
  intro p l e s m args below meth c D cy b H locs ls hC hP hS hl
  exact lv_l2i hC.x hC.b hd rfl (kk p l e s m args below meth c D cy b H locs ls hC hP hS hl)
theorem g_i2b {x : Int32} (hd : decode μ.2.1 pc = .ok (.i2b, 1)) (kk : GW μ R Q k q (pc + 1) lv (.int (x.toInt8.toInt32) :: st) M n) : GW μ R Q k q pc lv (.int x :: st) M n := by
  intro p l e s m args below meth c D cy b H locs ls hC hP hS hl
  exact lv_i2b hC.x hC.b hd rfl (kk p l e s m args below meth c D cy b H locs ls hC hP hS hl)
theorem g_i2s {x : Int32} (hd : decode μ.2.1 pc = .ok (.i2s, 1)) (kk : GW μ R Q k q (pc + 1) lv (.int (x.toInt16.toInt32) :: st) M n) : GW μ R Q k q pc lv (.int x :: st) M n := by
  intro p l e s m args below meth c D cy b H locs ls hC hP hS hl
  exact lv_i2s hC.x hC.b hd rfl (kk p l e s m args below meth c D cy b H locs ls hC hP hS hl)
theorem g_i2c {x : Int32} (hd : decode μ.2.1 pc = .ok (.i2c, 1)) (kk : GW μ R Q k q (pc + 1) lv (.int ((x.toUInt32 % 65536).toInt32) :: st) M n) : GW μ R Q k q pc lv (.int x :: st) M n := by
  intro p l e s m args below meth c D cy b H locs ls hC hP hS hl
  exact lv_i2c hC.x hC.b hd rfl (kk p l e s m args below meth c D cy b H locs ls hC hP hS hl)
theorem g_lcmp {x y : Int64} (hd : decode μ.2.1 pc = .ok (.lcmp, 1)) (kk : GW μ R Q k q (pc + 1) lv (.int (lg_cmp x y) :: st) M n) : GW μ R Q k q pc lv (.long y :: .long x :: st) M n := by
  intro p l e s m args below meth c D cy b H locs ls hC hP hS hl
  exact W.lcmp hC.x hC.b hd (kk p l e s m args below meth c D cy b H locs ls hC hP hS hl)
theorem g_lshr {x : Int64} {y : Int32} (hd : decode μ.2.1 pc = .ok (.lshr, 1)) (kk : GW μ R Q k q (pc + 1) lv (.long (x >>> (y.toInt64 &&& 63)) :: st) M n) : GW μ R Q k q pc lv (.int y :: .long x :: st) M n := by
  intro p l e s m args below meth c D cy b H locs ls hC hP hS hl
  exact lv_lshr hC.x hC.b hd rfl (kk p l e s m args below meth c D cy b H locs ls hC hP hS hl)
theorem g_dup {va : Value} (hd : decode μ.2.1 pc = .ok (.dup, 1)) (hva : va.category = 1) (kk : GW μ R Q k q (pc + 1) lv (va :: va :: st) M n) : GW μ R Q k q pc lv (va :: st) M n := by
  intro p l e s m args below meth c D cy b H locs ls hC hP hS hl
  exact lv_dup hC.x hC.b hd ((gV_cat b va).trans hva) (kk p l e s m args below meth c D cy b H locs ls hC hP hS hl)
theorem g_pop {va : Value} (hd : decode μ.2.1 pc = .ok (.pop, 1)) (hva : va.category = 1) (kk : GW μ R Q k q (pc + 1) lv st M n) : GW μ R Q k q pc lv (va :: st) M n := by
  intro p l e s m args below meth c D cy b H locs ls hC hP hS hl
  exact lv_pop hC.x hC.b hd ((gV_cat b va).trans hva) (kk p l e s m args below meth c D cy b H locs ls hC hP hS hl)
theorem g_dup_x1 {va vb : Value} (hd : decode μ.2.1 pc = .ok (.dup_x1, 1)) (hva : va.category = 1) (hvb : vb.category = 1) (kk : GW μ R Q k q (pc + 1) lv (va :: vb :: va :: st) M n) : GW μ R Q k q pc lv (va :: vb :: st) M n := by
  intro p l e s m args below meth c D cy b H locs ls hC hP hS hl
  exact lv_dup_x1 hC.x hC.b hd ((gV_cat b va).trans hva) ((gV_cat b vb).trans hvb) (kk p l e s m args below meth c D cy b H locs ls hC hP hS hl)
theorem g_dup2 {va vb : Value} (hd : decode μ.2.1 pc = .ok (.dup2, 1)) (hva : va.category = 1) (hvb : vb.category = 1) (kk : GW μ R Q k q (pc + 1) lv (va :: vb :: va :: vb :: st) M n) : GW μ R Q k q pc lv (va :: vb :: st) M n := by
  intro p l e s m args below meth c D cy b H locs ls hC hP hS hl
  exact lv_dup2_11 hC.x hC.b hd ((gV_cat b va).trans hva) ((gV_cat b vb).trans hvb) (kk p l e s m args below meth c D cy b H locs ls hC hP hS hl)
theorem g_if_eq {x : Int32} {off : Int} {tgt : Nat} (hd : decode μ.2.1 pc = .ok (.ifCond .eq off, 3)) (ht : (pc : Int) + off = (tgt : Int)) (kt : x = 0 → GW μ R Q k q tgt lv st M n) (kf : ¬ x = 0 → GW μ R Q k q (pc + 3) lv st M n) : GW μ R Q k q pc lv (.int x :: st) M n := by
  intro p l e s m args below meth c D cy b H locs ls hC hP hS hl
  exact lv_if_eq hC.x hC.b hd ht (fun hc => kt hc p l e s m args below meth c D cy b H locs ls hC hP hS hl) (fun hc => kf hc p l e s m args below meth c D cy b H locs ls hC hP hS hl)
theorem g_icmp_eq {x y : Int32} {off : Int} {tgt : Nat} (hd : decode μ.2.1 pc = .ok (.if_icmp .eq off, 3)) (ht : (pc : Int) + off = (tgt : Int)) (kt : x = y → GW μ R Q k q tgt lv st M n) (kf : ¬ x = y → GW μ R Q k q (pc + 3) lv st M n) : GW μ R Q k q pc lv (.int y :: .int x :: st) M n := by
  intro p l e s m args below meth c D cy b H locs ls hC hP hS hl
  exact lv_icmp_eq hC.x hC.b hd ht (fun hc => kt hc p l e s m args below meth c D cy b H locs ls hC hP hS hl) (fun hc => kf hc p l e s m args below meth c D cy b H locs ls hC hP hS hl)
theorem g_if_ne {x : Int32} {off : Int} {tgt : Nat} (hd : decode μ.2.1 pc = .ok (.ifCond .ne off, 3)) (ht : (pc : Int) + off = (tgt : Int)) (kt : ¬ x = 0 → GW μ R Q k q tgt lv st M n) (kf : x = 0 → GW μ R Q k q (pc + 3) lv st M n) : GW μ R Q k q pc lv (.int x :: st) M n := by
  intro p l e s m args below meth c D cy b H locs ls hC hP hS hl
  exact lv_if_ne hC.x hC.b hd ht (fun hc => kt hc p l e s m args below meth c D cy b H locs ls hC hP hS hl) (fun hc => kf hc p l e s m args below meth c D cy b H locs ls hC hP hS hl)
theorem g_icmp_ne {x y : Int32} {off : Int} {tgt : Nat} (hd : decode μ.2.1 pc = .ok (.if_icmp .ne off, 3)) (ht : (pc : Int) + off = (tgt : Int)) (kt : ¬ x = y → GW μ R Q k q tgt lv st M n) (kf : x = y → GW μ R Q k q (pc + 3) lv st M n) : GW μ R Q k q pc lv (.int y :: .int x :: st) M n := by
  intro p l e s m args below meth c D cy b H locs ls hC hP hS hl
  exact lv_icmp_ne hC.x hC.b hd ht (fun hc => kt hc p l e s m args below meth c D cy b H locs ls hC hP hS hl) (fun hc => kf hc p l e s m args below meth c D cy b H locs ls hC hP hS hl)
theorem g_if_lt {x : Int32} {off : Int} {tgt : Nat} (hd : decode μ.2.1 pc = .ok (.ifCond .lt off, 3)) (ht : (pc : Int) + off = (tgt : Int)) (kt : x < 0 → GW μ R Q k q tgt lv st M n) (kf : ¬ x < 0 → GW μ R Q k q (pc + 3) lv st M n) : GW μ R Q k q pc lv (.int x :: st) M n := by
  intro p l e s m args below meth c D cy b H locs ls hC hP hS hl
  exact lv_if_lt hC.x hC.b hd ht (fun hc => kt hc p l e s m args below meth c D cy b H locs ls hC hP hS hl) (fun hc => kf hc p l e s m args below meth c D cy b H locs ls hC hP hS hl)
theorem g_icmp_lt {x y : Int32} {off : Int} {tgt : Nat} (hd : decode μ.2.1 pc = .ok (.if_icmp .lt off, 3)) (ht : (pc : Int) + off = (tgt : Int)) (kt : x < y → GW μ R Q k q tgt lv st M n) (kf : ¬ x < y → GW μ R Q k q (pc + 3) lv st M n) : GW μ R Q k q pc lv (.int y :: .int x :: st) M n := by
  intro p l e s m args below meth c D cy b H locs ls hC hP hS hl
  exact lv_icmp_lt hC.x hC.b hd ht (fun hc => kt hc p l e s m args below meth c D cy b H locs ls hC hP hS hl) (fun hc => kf hc p l e s m args below meth c D cy b H locs ls hC hP hS hl)
theorem g_if_ge {x : Int32} {off : Int} {tgt : Nat} (hd : decode μ.2.1 pc = .ok (.ifCond .ge off, 3)) (ht : (pc : Int) + off = (tgt : Int)) (kt : 0 ≤ x → GW μ R Q k q tgt lv st M n) (kf : ¬ 0 ≤ x → GW μ R Q k q (pc + 3) lv st M n) : GW μ R Q k q pc lv (.int x :: st) M n := by
  intro p l e s m args below meth c D cy b H locs ls hC hP hS hl
  exact lv_if_ge hC.x hC.b hd ht (fun hc => kt hc p l e s m args below meth c D cy b H locs ls hC hP hS hl) (fun hc => kf hc p l e s m args below meth c D cy b H locs ls hC hP hS hl)
theorem g_icmp_ge {x y : Int32} {off : Int} {tgt : Nat} (hd : decode μ.2.1 pc = .ok (.if_icmp .ge off, 3)) (ht : (pc : Int) + off = (tgt : Int)) (kt : y ≤ x → GW μ R Q k q tgt lv st M n) (kf : ¬ y ≤ x → GW μ R Q k q (pc + 3) lv st M n) : GW μ R Q k q pc lv (.int y :: .int x :: st) M n := by
  intro p l e s m args below meth c D cy b H locs ls hC hP hS hl
  exact lv_icmp_ge hC.x hC.b hd ht (fun hc => kt hc p l e s m args below meth c D cy b H locs ls hC hP hS hl) (fun hc => kf hc p l e s m args below meth c D cy b H locs ls hC hP hS hl)
theorem g_if_gt {x : Int32} {off : Int} {tgt : Nat} (hd : decode μ.2.1 pc = .ok (.ifCond .gt off, 3)) (ht : (pc : Int) + off = (tgt : Int)) (kt : 0 < x → GW μ R Q k q tgt lv st M n) (kf : ¬ 0 < x → GW μ R Q k q (pc + 3) lv st M n) : GW μ R Q k q pc lv (.int x :: st) M n := by
  intro p l e s m args below meth c D cy b H locs ls hC hP hS hl
  exact lv_if_gt hC.x hC.b hd ht (fun hc => kt hc p l e s m args below meth c D cy b H locs ls hC hP hS hl) (fun hc => kf hc p l e s m args below meth c D cy b H locs ls hC hP hS hl)
theorem g_icmp_gt {x y : Int32} {off : Int} {tgt : Nat} (hd : decode μ.2.1 pc = .ok (.if_icmp .gt off, 3)) (ht : (pc : Int) + off = (tgt : Int)) (kt : y < x → GW μ R Q k q tgt lv st M n) (kf : ¬ y < x → GW μ R Q k q (pc + 3) lv st M n) : GW μ R Q k q pc lv (.int y :: .int x :: st) M n := by
  intro p l e s m args below meth c D cy b H locs ls hC hP hS hl
  exact lv_icmp_gt hC.x hC.b hd ht (fun hc => kt hc p l e s m args below meth c D cy b H locs ls hC hP hS hl) (fun hc => kf hc p l e s m args below meth c D cy b H locs ls hC hP hS hl)
theorem g_if_le {x : Int32} {off : Int} {tgt : Nat} (hd : decode μ.2.1 pc = .ok (.ifCond .le off, 3)) (ht : (pc : Int) + off = (tgt : Int)) (kt : x ≤ 0 → GW μ R Q k q tgt lv st M n) (kf : ¬ x ≤ 0 → GW μ R Q k q (pc + 3) lv st M n) : GW μ R Q k q pc lv (.int x :: st) M n := by
  intro p l e s m args below meth c D cy b H locs ls hC hP hS hl
  exact lv_if_le hC.x hC.b hd ht (fun hc => kt hc p l e s m args below meth c D cy b H locs ls hC hP hS hl) (fun hc => kf hc p l e s m args below meth c D cy b H locs ls hC hP hS hl)
theorem g_icmp_le {x y : Int32} {off : Int} {tgt : Nat} (hd : decode μ.2.1 pc = .ok (.if_icmp .le off, 3)) (ht : (pc : Int) + off = (tgt : Int)) (kt : x ≤ y → GW μ R Q k q tgt lv st M n) (kf : ¬ x ≤ y → GW μ R Q k q (pc + 3) lv st M n) : GW μ R Q k q pc lv (.int y :: .int x :: st) M n := by
  intro p l e s m args below meth c D cy b H locs ls hC hP hS hl
  exact lv_icmp_le hC.x hC.b hd ht (fun hc => kt hc p l e s m args below meth c D cy b H locs ls hC hP hS hl) (fun hc => kf hc p l e s m args below meth c D cy b H locs ls hC hP hS hl)
theorem g_goto {off : Int} {tgt : Nat} (hd : decode μ.2.1 pc = .ok (.goto off, 3)) (ht : (pc : Int) + off = (tgt : Int)) (kk : GW μ R Q k q tgt lv st M n) : GW μ R Q k q pc lv st M n := by
  intro p l e s m args below meth c D cy b H locs ls hC hP hS hl
  exact lv_goto hC.x hC.b hd ht (kk p l e s m args below meth c D cy b H locs ls hC hP hS hl)
theorem g_tableOut {dflt lo hi : Int} {offs : Array Int} {len : Nat} {x : Int32} {tgt : Nat} (hd : decode μ.2.1 pc = .ok (.tableswitch dflt lo hi offs, len)) (h : x.toInt < lo ∨ hi < x.toInt) (ht : (pc : Int) + dflt = (tgt : Int)) (kk : GW μ R Q k q tgt lv st M n) : GW μ R Q k q pc lv (.int x :: st) M n := by
  intro p l e s m args below meth c D cy b H locs ls hC hP hS hl
  exact lv_tableOut hC.x hC.b hd h ht (kk p l e s m args below meth c D cy b H locs ls hC hP hS hl)
theorem g_tableIn {dflt lo hi : Int} {offs : Array Int} {len : Nat} {x : Int32} {off : Int} {tgt : Nat} (hd : decode μ.2.1 pc = .ok (.tableswitch dflt lo hi offs, len)) (h1 : ¬ x.toInt < lo) (h2 : ¬ hi < x.toInt) (ho : offs[(x.toInt - lo).toNat]? = some off) (ht : (pc : Int) + off = (tgt : Int)) (kk : GW μ R Q k q tgt lv st M n) : GW μ R Q k q pc lv (.int x :: st) M n := by
  intro p l e s m args below meth c D cy b H locs ls hC hP hS hl
  exact lv_tableIn hC.x hC.b hd h1 h2 ho ht (kk p l e s m args below meth c D cy b H locs ls hC hP hS hl)
theorem g_lookup {dflt : Int} {ps : Array (Int × Int)} {len : Nat} {x : Int32} {off : Int} {tgt : Nat} (hd : decode μ.2.1 pc = .ok (.lookupswitch dflt ps, len)) (hp : (ps.toList.zip (ps.toList.drop 1)).all (fun (a, next) => a.1 < next.1) = true) (ho : Op.lookupswitch.offset ps.toList dflt x.toInt = off) (ht : (pc : Int) + off = (tgt : Int)) (kk : GW μ R Q k q tgt lv st M n) : GW μ R Q k q pc lv (.int x :: st) M n := by
  intro p l e s m args below meth c D cy b H locs ls hC hP hS hl
  exact lv_lookup hC.x hC.b hd hp ho ht (kk p l e s m args below meth c D cy b H locs ls hC hP hS hl)
theorem g_ldc {i : Nat} {v : Int32} (hd : decode μ.2.1 pc = .ok (.ldc i, 2)) (hw : Cond.constant μ.1.cls i v ∈ gT) (kk : GW μ R Q k q (pc + 2) lv (.int v :: st) M n) : GW μ R Q k q pc lv st M n := by
  intro p l e s m args below meth c D cy b H locs ls hC hP hS hl
  exact lv_ldc hC.x hC.b hC.2.2.2.1 (hC.2.2.2.2.1 _ hw) hd (kk p l e s m args below meth c D cy b H locs ls hC hP hS hl)
theorem g_ldc2 {i : Nat} {v : Int64} (hd : decode μ.2.1 pc = .ok (.ldc2_w i, 3)) (hw : Cond.constantLong μ.1.cls i v ∈ gT) (kk : GW μ R Q k q (pc + 3) lv (.long v :: st) M n) : GW μ R Q k q pc lv st M n := by
  intro p l e s m args below meth c D cy b H locs ls hC hP hS hl
  exact lv_ldc2 hC.x hC.b hC.2.2.2.1 (hC.2.2.2.2.1 _ hw) hd (kk p l e s m args below meth c D cy b H locs ls hC hP hS hl)
theorem g_widen {k2 q2 : Nat} (h1 : k ≤ k2) (h2 : q ≤ q2) (kk : GW μ R Q k2 q2 pc lv st M n) : GW μ R Q k q pc lv st M n := by
  intro p l e s m args below meth c D cy b H locs ls hC hP hS hl
  exact W.widen h1 h2 (kk p l e s m args below meth c D cy b H locs ls hC hP hS hl)
end GR
