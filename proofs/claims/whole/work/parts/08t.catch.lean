/-! the ghost layer: what catches; methods with a table of handlers -/
/-- E thrown over this frame (at pc): the machine comes to its goal -/
def GE (μ : gμ) (R : Room) (Q : gθ) (k q pc : Nat) (lv : List (Option Value)) (E : String) (M : gM) (n : Nat) : Prop :=
  ∀ (p : Program) (l : Launch) (e : Env) (s : State) (m : MethodId) (args : Array Value) (below : List Frame) (meth : Method) (c : Code) (D : va_G) (cy : Nat → ClassId) (b : gB) (H : Heap) (locs : List Loc) (ls : Array Slot) (rest : List Value) (z : Addr) (ce : Cell),
    gC μ p l s m args meth c D cy b → gP D cy b M n H → va_S (gAf b) s.heap H locs → gLs b ls μ.2.2.1 lv → H[z]? = some ce → ce.vm = .none → s.vm.findClass E = some ce.cls → vx_W p l e R s m args below meth c H locs k q (Q below args s D cy b) (F0 m pc ls rest) z
section GCT
variable {μ μ1 : gμ} {R : Room} {Q : gθ} {k q pc : Nat} {lv : List (Option Value)} {st0 As rest : List Value} {M : gM} {n F L mc ms na idx : Nat} {post : gPo} {px : gPx}
theorem g_catch {E : String} (pre : List ExceptionTableEntry) (x : ExceptionTableEntry) (suf : List ExceptionTableEntry) (hsplit : μ.2.2.2.2 = pre ++ x :: suf) (hpass : ∀ z ∈ pre, covers z pc = false ∨ (z.catchType ≠ 0 ∧ ∃ nm : String, Cond.classLink μ.1.cls z.catchType nm ∈ gT ∧ (E, nm) ∈ gNc)) (hx : covers x pc = true) (h0 : x.catchType ≠ 0) (hl : Cond.classLink μ.1.cls x.catchType E ∈ gT) (hE : E ∈ gEx)
    (kk : ∀ z : Nat, GW μ R Q k q x.handlerPc lv [.retAddr z] M n) : GE μ R Q k q pc lv E M n := by
  intro p l e s m args below meth c D cy b H locs ls rest z ce hC hP hS hls hce hcv hcl
  have hts := hC.2.2.2.2.1
  have hZ := hC.2.2.2.2.2.2.2.2.2.2.1
  have htb : c.exceptionTable.toList = μ.2.2.2.2 := hC.2.2.2.2.2.2.2.2.1
  refine vx_catch (own := μ.1.cls) (name := E) (E := E) (ce := ce) hC.2.2.2.1 pre x suf (htb.trans hsplit) (fun z hz => ?_) hx h0 (hts _ hl) (va_Nw.use rfl (hZ.1.2.1 E hE)) hce hcv hcl (kk z p l e s m args below meth c D cy b H locs ls hC hP hS hls)
  rcases hpass z hz with h | ⟨h1, nm, h2, h3⟩
  · exact Or.inl h
  · exact Or.inr ⟨h1, nm, hts _ h2, hZ.1.2.2.2 _ h3⟩
theorem g_afterC {p : Program} {l : Launch} {e : Env} {s : State} {m : MethodId} {args : Array Value} {below : List Frame} {meth : Method} {c : Code} {D : va_G} {cy : Nat → ClassId} {b : gB} {H : Heap} {locs : List Loc} {ls : Array Slot} {a : Array Value} (hC : gC μ p l s m args meth c D cy b) (hS : va_S (gAf b) s.heap H locs) (hl : gLs b ls μ.2.2.1 lv)
    (hr : vx_Run p l e R s m args below meth c H locs k q mc ms (F0 m pc ls (st0.map (gV b))) (rest.map (gV b)) (gQ D cy b post a) (gXC D cy b px) (gAf b)) (kx : ∀ E M1 n1, px E M1 n1 → GE μ R Q (k + mc) (q + ms) pc lv E M1 n1) (kk : ∀ r M1 n1, post r M1 n1 → GW μ R Q (k + mc) (q + ms) (pc + 3) lv (r.toList ++ rest) M1 n1) : W p l e R s m args below meth c H locs k q (Q below args s D cy b) (F0 m pc ls (st0.map (gV b))) := by
  intro T hT X
  rcases hr T hT X with ⟨v, st₀, t, T1, Lc, h0, X1, hLc, e1, e2, ⟨⟨r, M1, n1, hv, hp, hP1⟩, hFr⟩, go⟩ | ⟨z, st₀, t, T1, Lc, E, ce, h0, X1, hLc, e1, e2, ⟨⟨M1, n1, hp, hP1⟩, hFr⟩, hce, hcv, hcl, go⟩
  · cases hv
    obtain ⟨t2, a1, b1⟩ := kk r M1 n1 hp p l e s m args below meth c D cy b T1.heap (locs ++ Lc) ls hC (by rw [e1]; exact hP1) (g_keep h0 e1 hS hLc hFr) hl T1 rfl X1
    rw [← g_toList] at a1
    exact ⟨t2, go t2 a1, b1⟩
  · have hS2 := g_keep h0 e1 hS hLc hFr
    obtain ⟨t2, a1, b1⟩ := kx E M1 n1 hp p l e s m args below meth c D cy b T1.heap (locs ++ Lc) ls (rest.map (gV b)) z ce hC (by rw [e1]; exact hP1) hS2 hl (by rw [e1]; exact hce) hcv hcl T1 rfl X1
    exact ⟨t2, go.trans a1, b1⟩
theorem g_callVC {i c N : Nat} {C : String} {T : u_T} (hd : decode μ.2.1 pc = .ok (.invokevirtual idx, 3)) (m1 : gMs μ1 na) (hM : GX μ1 F L mc ms (.ref i :: As) M n post px) (cl : gCl c C T N) (hk : mK M i = c) (wi : Cond.instanceMethod μ1.1 ∈ gT) (wsel : Cond.selects C μ1.1 μ1.1 ∈ gT) (wl : Cond.methodLink μ.1.cls idx μ1.1 ∈ gT) (hna : As.length = na) (hst : st0 = As.reverse ++ .ref i :: rest)
    (hrm : (rest.map fun v => v.category).sum ≤ 8) (hF : F + 1 ≤ R.frames) (hL : 8 + (μ1.2.2.1 + 11) + L ≤ R.locals) (hc : k + mc ≤ R.cells) (hs : q + ms ≤ R.slots) (kx : ∀ E M1 n1, px E M1 n1 → GE μ R Q (k + mc) (q + ms) pc lv E M1 n1)
    (kk : ∀ r M1 n1, post r M1 n1 → GW μ R Q (k + mc) (q + ms) (pc + 3) lv (r.toList ++ rest) M1 n1) : GW μ R Q k q pc lv st0 M n := by
  intro p l e s m args below meth co D cy b H locs ls hC hP hS hl
  subst hst
  have hts := hC.2.2.2.2.1
  have hK : gK D cy s := hC.2.2.2.2.2.2.2.2.2.1
  have hZ := hC.2.2.2.2.2.2.2.2.2.2.1
  have hls := hC.2.2.2.2.2.2.2.2.2.2.2.2
  obtain ⟨cell, q1, q2, q3, -⟩ := hP.obj cl hk
  have hcls := (hK.1 c _ cl.1).2.1
  have hcw : CallW R s args μ.1.cls C idx μ1.1 μ1.2.1 μ1.2.2.1 μ1.2.2.2.1 (gws μ1) (gRm F L mc ms) mc ms na := ⟨callB_of na hts (gws_good m1.1) rfl rfl rfl (hts _ m1.2.1) (hts _ wl) m1.2.2 ⟨hF, hL⟩, hts _ wi, hts _ wsel⟩
  exact g_afterC (a := (Value.ref (gA b i) :: As.map (gV b)).toArray) hC hS hl (vx_runV (As := As.map (gV b)) (rest := rest.map (gV b)) (b := gA b i) ⟨hC.x, hC.b, hC.2.2.1, hC.2.2.2.1, hts⟩ (hM l hls D cy b) hcw ⟨gPre_blind, ⟨cell, q1, by rw [q3]; rfl, by rw [q2]; exact hcls⟩, fun U hU hW => ⟨rfl, by rw [hU]; exact hP, va_K.moved hW.alike hK, hZ.to hW hS hU⟩⟩ rfl (by rw [List.length_map]; exact hna) hl.1 (by simp [List.map_append, List.map_reverse, gV]) (lv_room (by rw [g_cats]; exact hrm)) hd ⟨hc, hs⟩) kx kk
theorem g_astoreX {i z : Nat} {st : List Value} (hd : decode μ.2.1 pc = .ok (.astore i, 2)) (hn : i < μ.2.2.1) (kk : GW μ R Q k q (pc + 2) (gSt lv i (.retAddr z)) st M n) : GW μ R Q k q pc lv (.retAddr z :: st) M n := by
  intro p l e s m args below meth c D cy b H locs ls hC hP hS hl
  exact lv_astore hC.x hC.b hd hl.has hn rfl (fun ls1 hl1 => kk p l e s m args below meth c D cy b H locs ls1 hC hP hS (gLs.st i (.retAddr z) hl1))
theorem g_astoreX_n {i : Fin 4} {z : Nat} {st : List Value} (hd : decode μ.2.1 pc = .ok (.astore_n i, 1)) (hn : (i : Nat) < μ.2.2.1) (kk : GW μ R Q k q (pc + 1) (gSt lv (i : Nat) (.retAddr z)) st M n) : GW μ R Q k q pc lv (.retAddr z :: st) M n := by
  intro p l e s m args below meth c D cy b H locs ls hC hP hS hl
  exact lv_astore_n hC.x hC.b hd rfl hl.has hn rfl (fun ls1 hl1 => kk p l e s m args below meth c D cy b H locs ls1 hC hP hS (gLs.st (i : Nat) (.retAddr z) hl1))
end GCT
/-- words of a method with handlers -/
def gwsW (μ : gμ) (hh : List (Nat × Nat × Nat × Nat)) : List Cond := Cond.codeWith μ.1 μ.2.1 μ.2.2.1 μ.2.2.2.1 hh :: gT
def GMW (μ : gμ) (hh : List (Nat × Nat × Nat × Nat)) (F L mc ms : Nat) (As : List Value) (M : gM) (n : Nat) (post : gPo) : Prop := ∀ l : Launch, l.stackTraces = false → ∀ (D : va_G) (cy : Nat → ClassId) (b : gB), Met l μ.1 (gwsW μ hh) (gRm F L mc ms) (gPre As M n D cy b) (gQ D cy b post) mc ms (gAf b)
theorem gx_ofWH {l : Launch} {y : MethodName} {ws ws' : List Cond} {rm : Room} {Pc : Array Value → State → Prop} {Qc : Array Value → State → Outcome → State → Prop} {mc ms : Nat} {free : Addr → Prop} {cc : ByteArray} {maxL : Nat} {ret : Option FieldType} {hh : List (Nat × Nat × Nat × Nat)}
    (hy : plainName y.cls = true) (hw : ws = Cond.codeWith y cc maxL ret hh :: ws')
    (body : ∀ p e s m args below meth c s₁, BodyLoose p l y (headSpec ws rm) cc maxL ret e s m args below meth c s₁ → c.maxLocals = maxL → Pc args s →
      W p l e (headSpec ws rm).room s m args below meth c s.heap [] 0 0 (MQ below Qc args s mc ms free) (entryFrame m args maxL)) : Met l y ws rm Pc Qc mc ms free := by
  refine MetFree.of_bodyS (code := cc) (maxLocals := maxL) (ret := ret) hy ?_ ?_
  · intro args s m h hn
    obtain ⟨m9, meth, c, hn9, h1, h2, h3, h4, -, h5, h6, -⟩ := Cond.codeWith_spec (atoms_spec (ws := ws) h _ (by rw [hw]; exact List.mem_cons_self))
    cases hn.symm.trans hn9
    exact ⟨meth, c, h1, h2, h3, h4, h5, h6⟩
  · intro p e s m args below meth c s₁ B hml hP _
    have hh0 : s₁.heap = s.heap := by rw [B.state]; rfl
    obtain ⟨t, a1, o, b1, b2, b3⟩ := body p e s m args below meth c s₁ B hml hP s₁ hh0 (Stand.of_body B)
    exact ⟨t, o, a1, b1, b2, ⟨b3.1, b3.2⟩⟩
theorem GMW.ofW {μ : gμ} {hh : List (Nat × Nat × Nat × Nat)} {F L mc ms : Nat} {As : List Value} {M : gM} {n : Nat} {post : gPo} {lv : List (Option Value)} (hy : plainName μ.1.cls = true) (htab : μ.2.2.2.2 = tableOf hh) (hlen : (gArgs As).length ≤ μ.2.2.1) (hlv : gArgs As ++ List.replicate (μ.2.2.1 - (gArgs As).length) none = lv)
    (h : GW μ (gRm F L mc ms) (gTh post mc ms) 0 0 0 lv [] M n) : GMW μ hh F L mc ms As M n post := by
  intro l hl D cy b
  refine gx_ofWH (cc := μ.2.1) (maxL := μ.2.2.1) (ret := μ.2.2.2.1) (hh := hh) hy rfl ?_
  intro p e s m args below meth c s₁ B hml hv
  obtain ⟨rfl, hP, hK, hZ⟩ := hv
  have hts := atoms_spec (ws := gwsW μ hh) B.pre
  have htb : c.exceptionTable.toList = μ.2.2.2.2 := by
    rw [htab]
    exact vx_table (x := μ.1) B (hts _ List.mem_cons_self)
  rw [lg_entry_eq]
  subst hlv
  exact h p l e s m _ below meth c D cy b s.heap [] _ ⟨B.exec, B.bytes, hml, findClass_of_methodNamed B.named, fun w hw => hts w (List.mem_cons_of_mem _ hw), B.notSynchronized, B.returns, (name_of_methodNamed B.named B.method).1, htb, hK, hZ, fun z hz => by have := hP.1; show b.1 ≤ z; omega, hl⟩ hP va_S.rf (gEntry b hlen)
def gMsW (μ : gμ) (hh : List (Nat × Nat × Nat × Nat)) (na : Nat) : Prop := Cond.codeWith μ.1 μ.2.1 μ.2.2.1 μ.2.2.2.1 hh ∈ gT ∧ Cond.initialized μ.1.cls ∈ gT ∧ (μ.1.cls ≠ "java/lang/invoke/MethodHandle" ∧ μ.1.cls ≠ "java/lang/invoke/VarHandle" ∧ (parseMethodDescriptor μ.1.desc).map (fun d => d.parameters.length) = some na)
theorem g_callSW {μ μ1 : gμ} {hh : List (Nat × Nat × Nat × Nat)} {R : Room} {Q : gθ} {k q pc : Nat} {lv : List (Option Value)} {st0 As rest : List Value} {M : gM} {n F L mc ms na idx : Nat} {post : gPo} (hd : decode μ.2.1 pc = .ok (.invokestatic idx, 3)) (m1 : gMsW μ1 hh na) (hM : GMW μ1 hh F L mc ms As M n post) (wst : Cond.static μ1.1 ∈ gT) (wl : Cond.methodLink μ.1.cls idx μ1.1 ∈ gT) (hna : As.length = na) (hst : st0 = As.reverse ++ rest)
    (hrm : (rest.map fun v => v.category).sum ≤ 8) (hF : F + 1 ≤ R.frames) (hL : 8 + (μ1.2.2.1 + 11) + L ≤ R.locals) (hc : k + mc ≤ R.cells) (hs : q + ms ≤ R.slots)
    (kk : ∀ r M1 n1, post r M1 n1 → GW μ R Q (k + mc) (q + ms) (pc + 3) lv (r.toList ++ rest) M1 n1) : GW μ R Q k q pc lv st0 M n := by
  intro p l e s m args below meth co D cy b H locs ls hC hP hS hl
  subst hst
  have hts := hC.2.2.2.2.1
  have hK : gK D cy s := hC.2.2.2.2.2.2.2.2.2.1
  have hZ := hC.2.2.2.2.2.2.2.2.2.2.1
  have hls := hC.2.2.2.2.2.2.2.2.2.2.2.2
  have hG : GoodIn gT (va_wsS μ.1.cls idx μ1.1 (gwsW μ1 hh)) := by
    intro w h
    have h9 : w ∈ gT := by
      unfold va_wsS gwsW at h
      simp only [List.cons_append, List.nil_append, List.mem_cons] at h
      rcases h with h | h | h | h | h
      · rw [h]; exact wl
      · rw [h]; exact wst
      · rw [h]; exact m1.2.1
      · rw [h]; exact m1.1
      · exact h
    exact ⟨h9, gT_good _ h9⟩
  have hcw : vx_CSW R s args μ.1.cls idx μ1.1 μ1.2.1 μ1.2.2.1 μ1.2.2.2.1 hh (gwsW μ1 hh) (gRm F L mc ms) mc ms na := vx_cwSW na hts hG rfl rfl rfl m1.2.2 ⟨hF, hL⟩
  exact g_after (a := (As.map (gV b)).toArray) hC hS hl (vx_runSW (As := As.map (gV b)) (rest := rest.map (gV b)) ⟨hC.x, hC.b, hC.2.2.1, hC.2.2.2.1, hts⟩ (hM l hls D cy b) hcw ⟨gPre_blind, fun U hU hW => ⟨rfl, by rw [hU]; exact hP, va_K.moved hW.alike hK, hZ.to hW hS hU⟩⟩ rfl (by rw [List.length_map]; exact hna) hl.1 (by simp [List.map_append, List.map_reverse]) (lv_room (by rw [g_cats]; exact hrm)) hd ⟨hc, hs⟩) kk
