/-! the ghost layer: contracts and calls -/
def gws (μ : gμ) : List Cond := Cond.code μ.1 μ.2.1 μ.2.2.1 μ.2.2.2.1 :: gT
def gPre (As : List Value) (M : gM) (n : Nat) (D : va_G) (cy : Nat → ClassId) (b : gB) : Array Value → State → Prop := va_Pc (As.map (gV b)) (fun U => gP D cy b M n U.heap ∧ gK D cy U ∧ gZ b U U.heap)
abbrev gPo : Type := Option Value → gM → Nat → Prop
def gQ (D : va_G) (cy : Nat → ClassId) (b : gB) (post : gPo) : Array Value → State → Outcome → State → Prop := fun _ st o t => (∃ (r : Option Value) (M1 : gM) (n1 : Nat), o = .returned (r.map (gV b)) ∧ post r M1 n1 ∧ gP D cy b M1 n1 t.heap) ∧ va_F (gAf b) st t
def gTh (post : gPo) (mc ms : Nat) : gθ := fun below args s D cy b => MQ below (gQ D cy b post) args s mc ms (gAf b)
abbrev gRm (F L mc ms : Nat) : Room := { frames := F, cells := mc, slots := ms, locals := L }
/-- a method's contract over the ghost memory: called with these, in this memory, it returns, and 'post' holds of its answer and of the memory then; F frames and L words of locals below its own, mc cells and ms slots come -/
def GM (μ : gμ) (F L mc ms : Nat) (As : List Value) (M : gM) (n : Nat) (post : gPo) : Prop := ∀ l : Launch, l.stackTraces = false → ∀ (D : va_G) (cy : Nat → ClassId) (b : gB), Met l μ.1 (gws μ) (gRm F L mc ms) (gPre As M n D cy b) (gQ D cy b post) mc ms (gAf b)
theorem gT_all : gT.all goodWord = true := by decide +kernel
theorem gT_good : ∀ w ∈ gT, (w.onTables && w.keeps) = true ∨ ∃ ty, w = .arrayClass ty := fun w h => good_of_word (List.all_eq_true.mp gT_all w h)
theorem gws_good {μ : gμ} (hc : Cond.code μ.1 μ.2.1 μ.2.2.1 μ.2.2.2.1 ∈ gT) : GoodIn gT (gws μ) := by
  intro w h
  rcases List.mem_cons.mp h with h | h
  · subst h; exact ⟨hc, gT_good _ hc⟩
  · exact ⟨h, gT_good _ h⟩
theorem gPre_blind {As : List Value} {M : gM} {n : Nat} {D : va_G} {cy : Nat → ClassId} {b : gB} : FrameBlind (gPre As M n D cy b) := fun a U g mk h => ⟨h.1, h.2.1, va_K.moved (u := U) (U := U.calling g mk a) (Vm.Alike.refl U.vm) h.2.2.1, gZ.calls g mk a h.2.2.2⟩
theorem gArgs_len (b : gB) : ∀ vs : List Value, (lg_sl (vs.map (gV b))).length = (gArgs vs).length
  | [] => rfl
  | v :: r => by
    have h := gArgs_len b r
    unfold gArgs
    by_cases hc : v.category = 2
    · simp only [lg_sl, List.map_cons, List.flatMap_cons, gV_cat, hc] at h ⊢
      simp [h]
    · simp only [lg_sl, List.map_cons, List.flatMap_cons, gV_cat, hc] at h ⊢
      simp [h]
theorem gEntry {As : List Value} {nL : Nat} (b : gB) (h : (gArgs As).length ≤ nL) : gLs b ((lg_sl (As.map (gV b)) ++ List.replicate (nL - (lg_sl (As.map (gV b))).length) Slot.unset).toArray) nL (gArgs As ++ List.replicate (nL - (gArgs As).length) none) := by
  have h1 := lv_entry (As.map (gV b)) (n := nL) (by rw [gArgs_len]; exact h)
  refine ⟨h1.1, h1.2.1, fun i v hv => ?_⟩
  by_cases hi : i < (gArgs As).length
  · rw [List.getElem?_append_left hi] at hv
    have h2 := gArgs_get As 0 b i v hv
    rw [Nat.zero_add] at h2
    exact h1.2.2 _ h2
  · rw [List.getElem?_append_right (by omega), List.getElem?_replicate] at hv
    split at hv <;> simp at hv
theorem GM.ofW {μ : gμ} {F L mc ms : Nat} {As : List Value} {M : gM} {n : Nat} {post : gPo} {lv : List (Option Value)} (hy : plainName μ.1.cls = true) (htab : μ.2.2.2.2 = []) (hlen : (gArgs As).length ≤ μ.2.2.1) (hlv : gArgs As ++ List.replicate (μ.2.2.1 - (gArgs As).length) none = lv)
    (h : GW μ (gRm F L mc ms) (gTh post mc ms) 0 0 0 lv [] M n) : GM μ F L mc ms As M n post := by
  intro l hl D cy b
  refine Met.ofW (cc := μ.2.1) (maxL := μ.2.2.1) (ret := μ.2.2.2.1) hy rfl ?_
  intro p e s m args below meth c s₁ B hml hv
  obtain ⟨rfl, hP, hK, hZ⟩ := hv
  have hts := atoms_spec (ws := gws μ) B.pre
  have htb : c.exceptionTable.toList = μ.2.2.2.2 := by
    obtain ⟨meth', c', h1, h2, -, -, -, -, h7, -⟩ := Cond.code_spec B.named (hts _ List.mem_cons_self)
    cases Option.some.inj (h1.symm.trans B.method)
    cases Option.some.inj (h2.symm.trans (Stand.of_body B).code)
    rw [htab]
    simpa using h7
  rw [lg_entry_eq]
  subst hlv
  exact h p l e s m _ below meth c D cy b s.heap [] _ ⟨B.exec, B.bytes, hml, findClass_of_methodNamed B.named, fun w hw => hts w (List.mem_cons_of_mem _ hw), B.notSynchronized, B.returns, (name_of_methodNamed B.named B.method).1, htb, hK, hZ, fun z hz => by have := hP.1; show b.1 ≤ z; omega, hl⟩ hP va_S.rf (gEntry b hlen)
section GE
variable {μ : gμ} {R : Room} {Q : gθ} {k q pc : Nat} {lv : List (Option Value)} {st : List Value} {M : gM} {n mc ms : Nat} {post : gPo}
theorem g_vret (hd : decode μ.2.1 pc = .ok (.return_, 1)) (hr : μ.2.2.2.1 = none) (hk : k ≤ mc) (hq : q ≤ ms) (hp : post none M n) : GW μ R (gTh post mc ms) k q pc lv [] M n := by
  intro p l e s m args below meth c D cy b H locs ls hC hP hS hl
  refine W.widen hk hq ?_
  exact W.vret hC.x hC.b (hC.2.2.2.2.2.2.1.trans hr) (fun t ht hW => ⟨⟨none, M, n, rfl, hp, by rw [ht]; exact hP⟩, hS.F ht⟩) hS.2.2 hd hC.2.2.2.2.2.1
theorem g_iret {x : Int32} (hd : decode μ.2.1 pc = .ok (.ireturn, 1)) (hr : μ.2.2.2.1 = some .int ∨ (μ.2.2.2.1 = some .boolean ∧ (x = 0 ∨ x = 1))) (hk : k ≤ mc) (hq : q ≤ ms) (hp : post (some (.int x)) M n) : GW μ R (gTh post mc ms) k q pc lv [.int x] M n := by
  intro p l e s m args below meth c D cy b H locs ls hC hP hS hl
  refine W.widen hk hq ?_
  rcases hr with hr | ⟨hr, hx⟩
  · exact W.iret hC.x hC.b (hC.2.2.2.2.2.2.1.trans hr) (fun t ht hW => ⟨⟨some (.int x), M, n, rfl, hp, by rw [ht]; exact hP⟩, hS.F ht⟩) hS.2.2 hd hC.2.2.2.2.2.1
  · exact W.zret hC.x hC.b (hC.2.2.2.2.2.2.1.trans hr) (by rcases hx with rfl | rfl <;> rfl) (fun t ht hW => ⟨⟨some (.int x), M, n, rfl, hp, by rw [ht]; exact hP⟩, hS.F ht⟩) hS.2.2 hd hC.2.2.2.2.2.1
theorem g_lret {x : Int64} (hd : decode μ.2.1 pc = .ok (.lreturn, 1)) (hr : μ.2.2.2.1 = some .long) (hk : k ≤ mc) (hq : q ≤ ms) (hp : post (some (.long x)) M n) : GW μ R (gTh post mc ms) k q pc lv [.long x] M n := by
  intro p l e s m args below meth c D cy b H locs ls hC hP hS hl
  refine W.widen hk hq ?_
  exact W.lret hC.x hC.b (hC.2.2.2.2.2.2.1.trans hr) (fun t ht hW => ⟨⟨some (.long x), M, n, rfl, hp, by rw [ht]; exact hP⟩, hS.F ht⟩) hS.2.2 hd hC.2.2.2.2.2.1
theorem g_aret {x : Nat} {rt : FieldType} (hd : decode μ.2.1 pc = .ok (.areturn, 1)) (hr : μ.2.2.2.1 = some rt) (hrt : gTr rt = true) (hk : k ≤ mc) (hq : q ≤ ms) (hp : post (some (.ref x)) M n) : GW μ R (gTh post mc ms) k q pc lv [.ref x] M n := by
  intro p l e s m args below meth c D cy b H locs ls hC hP hS hl
  refine W.widen hk hq ?_
  refine W.aret hC.x hC.b (hC.2.2.2.2.2.2.1.trans hr) ?_ (Or.inr ⟨_, rfl⟩) (fun t ht hW => ⟨⟨some (.ref x), M, n, rfl, hp, by rw [ht]; exact hP⟩, hS.F ht⟩) hS.2.2 hd hC.2.2.2.2.2.1
  cases rt <;> first | (simp [gTr] at hrt; done) | exact Or.inl ⟨_, rfl⟩ | exact Or.inr ⟨_, rfl⟩
end GE
/-- what a call needs of the callee's name and code -/
def gMs (μ : gμ) (na : Nat) : Prop := Cond.code μ.1 μ.2.1 μ.2.2.1 μ.2.2.2.1 ∈ gT ∧ Cond.initialized μ.1.cls ∈ gT ∧ (μ.1.cls ≠ "java/lang/invoke/MethodHandle" ∧ μ.1.cls ≠ "java/lang/invoke/VarHandle" ∧ (parseMethodDescriptor μ.1.desc).map (fun d => d.parameters.length) = some na)
theorem g_keep {b : gB} {s st₀ t T1 : State} {H : Heap} {locs L : List Loc} (h0 : st₀.heap = H) (e1 : T1.heap = t.heap) (hS : va_S (gAf b) s.heap H locs) (hL : ∀ z ∈ L, gAf b z.base) (hF : va_F (gAf b) st₀ t) : va_S (gAf b) s.heap T1.heap (locs ++ L) := by
  obtain ⟨hz, hk⟩ := hF
  rw [h0] at hz hk
  refine ⟨Nat.le_trans hS.1 (by rw [e1]; exact hz), fun z h1 h2 => ?_, fun z hz => ?_⟩
  · rw [e1, hk z (Nat.lt_of_lt_of_le h1 hS.1) h2]
    exact hS.2.1 z h1 h2
  · rcases List.mem_append.mp hz with h | h
    · exact hS.2.2 z h
    · exact hL z h
theorem g_toList (b : gB) (r : Option Value) (rest : List Value) : (r.map (gV b)).toList ++ rest.map (gV b) = (r.toList ++ rest).map (gV b) := by cases r <;> rfl
theorem g_cats (b : gB) (rest : List Value) : ((rest.map (gV b)).map fun v => v.category) = rest.map fun v => v.category := by
  rw [List.map_map]
  exact List.map_congr_left (fun v _ => gV_cat b v)
section GCl
variable {μ μ1 : gμ} {R : Room} {Q : gθ} {k q pc : Nat} {lv : List (Option Value)} {st0 As rest : List Value} {M : gM} {n F L mc ms na idx : Nat} {post : gPo}
theorem g_after {p : Program} {l : Launch} {e : Env} {s : State} {m : MethodId} {args : Array Value} {below : List Frame} {meth : Method} {c : Code} {D : va_G} {cy : Nat → ClassId} {b : gB} {H : Heap} {locs : List Loc} {ls : Array Slot} {a : Array Value} (hC : gC μ p l s m args meth c D cy b) (hS : va_S (gAf b) s.heap H locs) (hl : gLs b ls μ.2.2.1 lv)
    (hr : va_Run p l e R s m args below meth c H locs k q mc ms (F0 m pc ls (st0.map (gV b))) (rest.map (gV b)) (gQ D cy b post a) (gAf b)) (kk : ∀ r M1 n1, post r M1 n1 → GW μ R Q (k + mc) (q + ms) (pc + 3) lv (r.toList ++ rest) M1 n1) : W p l e R s m args below meth c H locs k q (Q below args s D cy b) (F0 m pc ls (st0.map (gV b))) := by
  intro T hT X
  obtain ⟨v, st₀, t, T1, Lc, h0, X1, hLc, e1, e2, ⟨⟨r, M1, n1, hv, hp, hP1⟩, hFr⟩, go⟩ := hr T hT X
  cases hv
  obtain ⟨t2, a1, b1⟩ := kk r M1 n1 hp p l e s m args below meth c D cy b T1.heap (locs ++ Lc) ls hC (by rw [e1]; exact hP1) (g_keep h0 e1 hS hLc hFr) hl T1 rfl X1
  rw [← g_toList] at a1
  exact ⟨t2, go t2 a1, b1⟩
theorem g_callV {i c N : Nat} {C : String} {T : u_T} (hd : decode μ.2.1 pc = .ok (.invokevirtual idx, 3)) (m1 : gMs μ1 na) (hM : GM μ1 F L mc ms (.ref i :: As) M n post) (cl : gCl c C T N) (hk : mK M i = c) (wi : Cond.instanceMethod μ1.1 ∈ gT) (wsel : Cond.selects C μ1.1 μ1.1 ∈ gT) (wl : Cond.methodLink μ.1.cls idx μ1.1 ∈ gT) (hna : As.length = na) (hst : st0 = As.reverse ++ .ref i :: rest)
    (hrm : (rest.map fun v => v.category).sum ≤ 8) (hF : F + 1 ≤ R.frames) (hL : 8 + (μ1.2.2.1 + 11) + L ≤ R.locals) (hc : k + mc ≤ R.cells) (hs : q + ms ≤ R.slots)
    (kk : ∀ r M1 n1, post r M1 n1 → GW μ R Q (k + mc) (q + ms) (pc + 3) lv (r.toList ++ rest) M1 n1) : GW μ R Q k q pc lv st0 M n := by
  intro p l e s m args below meth co D cy b H locs ls hC hP hS hl
  subst hst
  have hts := hC.2.2.2.2.1
  have hK : gK D cy s := hC.2.2.2.2.2.2.2.2.2.1
  have hZ := hC.2.2.2.2.2.2.2.2.2.2.1
  have hls := hC.2.2.2.2.2.2.2.2.2.2.2.2
  obtain ⟨cell, q1, q2, q3, -⟩ := hP.obj cl hk
  have hcls := (hK.1 c _ cl.1).2.1
  have hcw : CallW R s args μ.1.cls C idx μ1.1 μ1.2.1 μ1.2.2.1 μ1.2.2.2.1 (gws μ1) (gRm F L mc ms) mc ms na := ⟨callB_of na hts (gws_good m1.1) rfl rfl rfl (hts _ m1.2.1) (hts _ wl) m1.2.2 ⟨hF, hL⟩, hts _ wi, hts _ wsel⟩
  refine g_after (a := (Value.ref (gA b i) :: As.map (gV b)).toArray) hC hS hl (va_runV (As := As.map (gV b)) (rest := rest.map (gV b)) (b := gA b i) ⟨hC.x, hC.b, hC.2.2.1, hC.2.2.2.1, hts⟩ (hM l hls D cy b) hcw ⟨gPre_blind, ⟨cell, q1, by rw [q3]; rfl, by rw [q2]; exact hcls⟩, fun U hU hW => ⟨rfl, by rw [hU]; exact hP, va_K.moved hW.alike hK, hZ.to hW hS hU⟩⟩ rfl (by rw [List.length_map]; exact hna) hl.1 (by simp [List.map_append, List.map_reverse, gV]) (lv_room (by rw [g_cats]; exact hrm)) hd ⟨hc, hs⟩) kk
theorem g_callS (hd : decode μ.2.1 pc = .ok (.invokestatic idx, 3)) (m1 : gMs μ1 na) (hM : GM μ1 F L mc ms As M n post) (wst : Cond.static μ1.1 ∈ gT) (wl : Cond.methodLink μ.1.cls idx μ1.1 ∈ gT) (hna : As.length = na) (hst : st0 = As.reverse ++ rest)
    (hrm : (rest.map fun v => v.category).sum ≤ 8) (hF : F + 1 ≤ R.frames) (hL : 8 + (μ1.2.2.1 + 11) + L ≤ R.locals) (hc : k + mc ≤ R.cells) (hs : q + ms ≤ R.slots)
    (kk : ∀ r M1 n1, post r M1 n1 → GW μ R Q (k + mc) (q + ms) (pc + 3) lv (r.toList ++ rest) M1 n1) : GW μ R Q k q pc lv st0 M n := by
  intro p l e s m args below meth co D cy b H locs ls hC hP hS hl
  subst hst
  have hts := hC.2.2.2.2.1
  have hK : gK D cy s := hC.2.2.2.2.2.2.2.2.2.1
  have hZ := hC.2.2.2.2.2.2.2.2.2.2.1
  have hls := hC.2.2.2.2.2.2.2.2.2.2.2.2
  have hcw : CallB R s args μ.1.cls idx μ1.1 μ1.2.1 μ1.2.2.1 μ1.2.2.2.1 (gws μ1) (gRm F L mc ms) mc ms na ∧ (Cond.static μ1.1).before args s = true := ⟨callB_of na hts (gws_good m1.1) rfl rfl rfl (hts _ m1.2.1) (hts _ wl) m1.2.2 ⟨hF, hL⟩, hts _ wst⟩
  refine g_after (a := (As.map (gV b)).toArray) hC hS hl (va_runS (As := As.map (gV b)) (rest := rest.map (gV b)) ⟨hC.x, hC.b, hC.2.2.1, hC.2.2.2.1, hts⟩ (hM l hls D cy b) hcw ⟨gPre_blind, fun U hU hW => ⟨rfl, by rw [hU]; exact hP, va_K.moved hW.alike hK, hZ.to hW hS hU⟩⟩ rfl (by rw [List.length_map]; exact hna) hl.1 (by simp [List.map_append, List.map_reverse]) (lv_room (by rw [g_cats]; exact hrm)) hd ⟨hc, hs⟩) kk
theorem g_callI {i : Nat} (hd : decode μ.2.1 pc = .ok (.invokespecial idx, 3)) (m1 : gMs μ1 na) (hM : GM μ1 F L mc ms (.ref i :: As) M n post) (hret : μ1.2.2.2.1 = none) (hnm : μ1.1.name = "<init>") (wi : Cond.instanceMethod μ1.1 ∈ gT) (wl : Cond.methodLink μ.1.cls idx μ1.1 ∈ gT) (hna : As.length = na) (hst : st0 = As.reverse ++ .ref i :: rest)
    (hrm : (rest.map fun v => v.category).sum ≤ 8) (hF : F + 1 ≤ R.frames) (hL : 8 + (μ1.2.2.1 + 11) + L ≤ R.locals) (hc : k + mc ≤ R.cells) (hs : q + ms ≤ R.slots)
    (kk : ∀ r M1 n1, post r M1 n1 → GW μ R Q (k + mc) (q + ms) (pc + 3) lv (r.toList ++ rest) M1 n1) : GW μ R Q k q pc lv st0 M n := by
  intro p l e s m args below meth co D cy b H locs ls hC hP hS hl
  subst hst
  have hts := hC.2.2.2.2.1
  have hK : gK D cy s := hC.2.2.2.2.2.2.2.2.2.1
  have hZ := hC.2.2.2.2.2.2.2.2.2.2.1
  have hls := hC.2.2.2.2.2.2.2.2.2.2.2.2
  have hcb : CallB R s args μ.1.cls idx μ1.1 μ1.2.1 μ1.2.2.1 μ1.2.2.2.1 (gws μ1) (gRm F L mc ms) mc ms na := callB_of na hts (gws_good m1.1) rfl rfl rfl (hts _ m1.2.1) (hts _ wl) m1.2.2 ⟨hF, hL⟩
  rw [hret] at hcb
  refine g_after (a := (Value.ref (gA b i) :: As.map (gV b)).toArray) hC hS hl (va_runI (As := As.map (gV b)) (rest := rest.map (gV b)) (b := gA b i) ⟨hC.x, hC.b, hC.2.2.1, hC.2.2.2.1, hts⟩ (hM l hls D cy b) ⟨hcb, hnm, hts _ wi⟩ ⟨gPre_blind, fun U hU hW => ⟨rfl, by rw [hU]; exact hP, va_K.moved hW.alike hK, hZ.to hW hS hU⟩⟩ rfl (by rw [List.length_map]; exact hna) hl.1 (by simp [List.map_append, List.map_reverse, gV]) (lv_room (by rw [g_cats]; exact hrm)) hd ⟨hc, hs⟩) kk
theorem g_callSN (hd : decode μ.2.1 pc = .ok (.invokestatic idx, 3)) (m1 : gMs μ1 na) (hM : GM μ1 F L mc ms As M n post) (wst : Cond.static μ1.1 ∈ gT) (wl : (μ.1.cls, idx, μ1.1) ∈ gNM) (hna : As.length = na) (hst : st0 = As.reverse ++ rest)
    (hrm : (rest.map fun v => v.category).sum ≤ 8) (hF : F + 1 ≤ R.frames) (hL : 8 + (μ1.2.2.1 + 11) + L ≤ R.locals) (hc : k + mc ≤ R.cells) (hs : q + ms ≤ R.slots)
    (kk : ∀ r M1 n1, post r M1 n1 → GW μ R Q (k + mc) (q + ms) (pc + 3) lv (r.toList ++ rest) M1 n1) : GW μ R Q k q pc lv st0 M n := by
  intro p l e s m args below meth co D cy b H locs ls hC hP hS hl
  subst hst
  have hts := hC.2.2.2.2.1
  have hK : gK D cy s := hC.2.2.2.2.2.2.2.2.2.1
  have hZ := hC.2.2.2.2.2.2.2.2.2.2.1
  have hls := hC.2.2.2.2.2.2.2.2.2.2.2.2
  have hcw := va_cnB (R := R) (s := s) (args := args) (own := μ.1.cls) (index := idx) (y := μ1.1) (host := "WholeSpans") (bytes := μ1.2.1) (maxL := μ1.2.2.1) (ret := μ1.2.2.2.1) (rm := gRm F L mc ms) na hts (gws_good m1.1) rfl rfl rfl (hZ.2.2.2.2.2.2.2.2.2.2.2 _ wl) (hts _ m1.2.1) m1.2.2 ⟨hF, hL⟩
  refine g_after (a := (As.map (gV b)).toArray) hC hS hl (va_runSN (As := As.map (gV b)) (rest := rest.map (gV b)) ⟨hC.x, hC.b, hC.2.2.1, hC.2.2.2.1, hts⟩ (hM l hls D cy b) ⟨hcw, hts _ wst, trivial⟩ ⟨gPre_blind, fun U hU hW => ⟨rfl, by rw [hU]; exact hP, va_K.moved hW.alike hK, hZ.to hW hS hU⟩⟩ rfl (by rw [List.length_map]; exact hna) hl.1 (by simp [List.map_append, List.map_reverse]) (lv_room (by rw [g_cats]; exact hrm)) hd ⟨hc, hs⟩) kk
theorem g_callIN {i : Nat} (hd : decode μ.2.1 pc = .ok (.invokespecial idx, 3)) (m1 : gMs μ1 na) (hM : GM μ1 F L mc ms (.ref i :: As) M n post) (hret : μ1.2.2.2.1 = none) (hnm : μ1.1.name = "<init>") (wi : Cond.instanceMethod μ1.1 ∈ gT) (wl : (μ.1.cls, idx, μ1.1) ∈ gNM) (hna : As.length = na) (hst : st0 = As.reverse ++ .ref i :: rest)
    (hrm : (rest.map fun v => v.category).sum ≤ 8) (hF : F + 1 ≤ R.frames) (hL : 8 + (μ1.2.2.1 + 11) + L ≤ R.locals) (hc : k + mc ≤ R.cells) (hs : q + ms ≤ R.slots)
    (kk : ∀ r M1 n1, post r M1 n1 → GW μ R Q (k + mc) (q + ms) (pc + 3) lv (r.toList ++ rest) M1 n1) : GW μ R Q k q pc lv st0 M n := by
  intro p l e s m args below meth co D cy b H locs ls hC hP hS hl
  subst hst
  have hts := hC.2.2.2.2.1
  have hK : gK D cy s := hC.2.2.2.2.2.2.2.2.2.1
  have hZ := hC.2.2.2.2.2.2.2.2.2.2.1
  have hls := hC.2.2.2.2.2.2.2.2.2.2.2.2
  have hcw := va_cnB (R := R) (s := s) (args := args) (own := μ.1.cls) (index := idx) (y := μ1.1) (host := "WholeSpans") (bytes := μ1.2.1) (maxL := μ1.2.2.1) (ret := μ1.2.2.2.1) (rm := gRm F L mc ms) na hts (gws_good m1.1) rfl rfl rfl (hZ.2.2.2.2.2.2.2.2.2.2.2 _ wl) (hts _ m1.2.1) m1.2.2 ⟨hF, hL⟩
  rw [hret] at hcw
  refine g_after (a := (Value.ref (gA b i) :: As.map (gV b)).toArray) hC hS hl (va_runIN (As := As.map (gV b)) (rest := rest.map (gV b)) (b := gA b i) ⟨hC.x, hC.b, hC.2.2.1, hC.2.2.2.1, hts⟩ (hM l hls D cy b) ⟨hcw, hnm, hts _ wi⟩ ⟨gPre_blind, fun U hU hW => ⟨rfl, by rw [hU]; exact hP, va_K.moved hW.alike hK, hZ.to hW hS hU⟩⟩ rfl (by rw [List.length_map]; exact hna) hl.1 (by simp [List.map_append, List.map_reverse, gV]) (lv_room (by rw [g_cats]; exact hrm)) hd ⟨hc, hs⟩) kk
theorem g_objInit {i : Nat} {st : List Value} (hd : decode μ.2.1 pc = .ok (.invokespecial idx, 3)) (wl : Cond.methodLink μ.1.cls idx Lib.objectInit ∈ gT) (wi : Cond.instanceMethod Lib.objectInit ∈ gT) (wc : Cond.code Lib.objectInit ⟨#[0xb1]⟩ 1 none ∈ gT) (hF : 1 ≤ R.frames) (hL : (st.map fun v => v.category).sum + 12 ≤ R.locals)
    (kk : GW μ R Q k q (pc + 3) lv st M n) : GW μ R Q k q pc lv (.ref i :: st) M n := by
  intro p l e s m args below meth co D cy b H locs ls hC hP hS hl
  have hts := hC.2.2.2.2.1
  exact W.objInit hC.x hC.b hC.2.2.2.1 (hts _ wl) (hts _ wi) (hts _ wc) rfl (hl.1.trans hC.2.2.1.symm) rfl hd hF (by show 2 * 0 + _ + 12 ≤ _; rw [g_cats]; omega) (kk p l e s m args below meth co D cy b H locs ls hC hP hS hl)
theorem g_mmax {x y : Int32} {st : List Value} (hd : decode μ.2.1 pc = .ok (.invokestatic idx, 3)) (wl : Cond.methodLink μ.1.cls idx Lib.Math.max.name ∈ gT) (w1 : Cond.static Lib.Math.max.name ∈ gT) (w2 : Cond.initialized "java/lang/Math" ∈ gT) (w3 : Cond.code Lib.Math.max.name Lib.Math.max.code 2 (some .int) ∈ gT) (hF : 1 ≤ R.frames) (hL : (st.map fun v => v.category).sum + 13 ≤ R.locals) (hc : k ≤ R.cells) (hs : q ≤ R.slots)
    (kk : GW μ R Q k q (pc + 3) lv (.int (if x < y then y else x) :: st) M n) : GW μ R Q k q pc lv (.int y :: .int x :: st) M n := by
  intro p l e s m args below meth co D cy b H locs ls hC hP hS hl
  have hts := hC.2.2.2.2.1
  exact va_mmax hC.x hC.b (hC.2.2.1.trans hl.1.symm) hC.2.2.2.1 (hts _ wl) (hts _ w1) (hts _ w2) (hts _ w3) hF (by rw [g_cats]; exact hL) hc hs hd (kk p l e s m args below meth co D cy b H locs ls hC hP hS hl)
theorem g_mmin {x y : Int32} {st : List Value} (hd : decode μ.2.1 pc = .ok (.invokestatic idx, 3)) (wl : Cond.methodLink μ.1.cls idx Lib.Math.min.name ∈ gT) (w1 : Cond.static Lib.Math.min.name ∈ gT) (w2 : Cond.initialized "java/lang/Math" ∈ gT) (w3 : Cond.code Lib.Math.min.name Lib.Math.min.code 2 (some .int) ∈ gT) (hF : 1 ≤ R.frames) (hL : (st.map fun v => v.category).sum + 13 ≤ R.locals) (hc : k ≤ R.cells) (hs : q ≤ R.slots)
    (kk : GW μ R Q k q (pc + 3) lv (.int (if y < x then y else x) :: st) M n) : GW μ R Q k q pc lv (.int y :: .int x :: st) M n := by
  intro p l e s m args below meth co D cy b H locs ls hC hP hS hl
  have hts := hC.2.2.2.2.1
  exact va_mmin hC.x hC.b (hC.2.2.1.trans hl.1.symm) hC.2.2.2.1 (hts _ wl) (hts _ w1) (hts _ w2) (hts _ w3) hF (by rw [g_cats]; exact hL) hc hs hd (kk p l e s m args below meth co D cy b H locs ls hC hP hS hl)
theorem g_mmaxJ {x y : Int64} {st : List Value} (hd : decode μ.2.1 pc = .ok (.invokestatic idx, 3)) (wl : Cond.methodLink μ.1.cls idx Lib.MathLoose.max_long.x ∈ gT) (w1 : Cond.static Lib.MathLoose.max_long.x ∈ gT) (w2 : Cond.initialized "java/lang/Math" ∈ gT) (w3 : Cond.code Lib.MathLoose.max_long.x Lib.MathLoose.max_long.code 4 (some .long) ∈ gT) (hF : 1 ≤ R.frames) (hL : (st.map fun v => v.category).sum + 15 ≤ R.locals) (hc : k ≤ R.cells) (hs : q ≤ R.slots)
    (kk : GW μ R Q k q (pc + 3) lv (.long (if y < x then x else y) :: st) M n) : GW μ R Q k q pc lv (.long y :: .long x :: st) M n := by
  intro p l e s m args below meth co D cy b H locs ls hC hP hS hl
  have hts := hC.2.2.2.2.1
  exact va_mmax_long hC.x hC.b (hC.2.2.1.trans hl.1.symm) hC.2.2.2.1 (hts _ wl) (hts _ w1) (hts _ w2) (hts _ w3) hF (by rw [g_cats]; exact hL) hc hs hd (kk p l e s m args below meth co D cy b H locs ls hC hP hS hl)
theorem g_mminJ {x y : Int64} {st : List Value} (hd : decode μ.2.1 pc = .ok (.invokestatic idx, 3)) (wl : Cond.methodLink μ.1.cls idx Lib.MathLoose.min_long.x ∈ gT) (w1 : Cond.static Lib.MathLoose.min_long.x ∈ gT) (w2 : Cond.initialized "java/lang/Math" ∈ gT) (w3 : Cond.code Lib.MathLoose.min_long.x Lib.MathLoose.min_long.code 4 (some .long) ∈ gT) (hF : 1 ≤ R.frames) (hL : (st.map fun v => v.category).sum + 15 ≤ R.locals) (hc : k ≤ R.cells) (hs : q ≤ R.slots)
    (kk : GW μ R Q k q (pc + 3) lv (.long (if y < x then y else x) :: st) M n) : GW μ R Q k q pc lv (.long y :: .long x :: st) M n := by
  intro p l e s m args below meth co D cy b H locs ls hC hP hS hl
  have hts := hC.2.2.2.2.1
  exact va_mmin_long hC.x hC.b (hC.2.2.1.trans hl.1.symm) hC.2.2.2.1 (hts _ wl) (hts _ w1) (hts _ w2) (hts _ w3) hF (by rw [g_cats]; exact hL) hc hs hd (kk p l e s m args below meth co D cy b H locs ls hC hP hS hl)
/-- (Statement) x, of a Statement -/
theorem g_castSt {i : Nat} {st : List Value} (hd : decode μ.2.1 pc = .ok (.checkcast idx, 3)) (wl : Cond.classLink μ.1.cls idx RX4 ∈ gT) (hk : mK M i = 5) (kk : GW μ R Q k q (pc + 3) lv (.ref i :: st) M n) : GW μ R Q k q pc lv (.ref i :: st) M n := by
  intro p l e s m args below meth co D cy b H locs ls hC hP hS hl
  have hts := hC.2.2.2.2.1
  have hK : gK D cy s := hC.2.2.2.2.2.2.2.2.2.1
  have hZ := hC.2.2.2.2.2.2.2.2.2.2.1
  obtain ⟨cell, q1, q2, q3, -⟩ := hP.obj cl5 hk
  exact va_castY hC.x hC.b hC.2.2.2.1 (hts _ wl) hZ.2.2.2.2.2.1 ⟨cell, q1, by rw [q3]; rfl, by rw [q2]; exact (hK.1 5 _ cl5.1).2.1⟩ hd (kk p l e s m args below meth co D cy b H locs ls hC hP hS hl)
/-- ArrayList's empty row -/
theorem g_empty {st : List Value} (hd : decode μ.2.1 pc = .ok (.getstatic idx, 3)) (wl : Cond.fieldLink μ.1.cls idx "java/util/ArrayList" "DEFAULTCAPACITY_EMPTY_ELEMENTDATA" "[Ljava/lang/Object;" ∈ gT) (kk : GW μ R Q k q (pc + 3) lv (.ref 0 :: st) M n) : GW μ R Q k q pc lv st M n := by
  intro p l e s m args below meth co D cy b H locs ls hC hP hS hl
  have hts := hC.2.2.2.2.1
  have hZ := hC.2.2.2.2.2.2.2.2.2.2.1
  exact va_gets hC.x hC.b hZ.2.2.1 hS hC.2.2.2.1 (hts _ wl) (fun _ h => h) hd (kk p l e s m args below meth co D cy b H locs ls hC hP hS hl)
end GCl
