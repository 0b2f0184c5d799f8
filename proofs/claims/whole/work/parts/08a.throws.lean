/-! the ghost layer: what throws -/
abbrev gPx : Type := String → gM → Nat → Prop
def gXC (D : va_G) (cy : Nat → ClassId) (b : gB) (px : gPx) : String → State → State → Prop := fun E st t => (∃ (M1 : gM) (n1 : Nat), px E M1 n1 ∧ gP D cy b M1 n1 t.heap) ∧ va_F (gAf b) st t
def gTX (post : gPo) (px : gPx) (mc ms : Nat) : gθ := fun below args s D cy b => vx_MQ below (gQ D cy b post) (gXC D cy b px) args s mc ms (gAf b)
/-- a method's contract: it returns, and 'post' holds; or it throws an E, and 'px E' holds -/
def GX (μ : gμ) (F L mc ms : Nat) (As : List Value) (M : gM) (n : Nat) (post : gPo) (px : gPx) : Prop := ∀ l : Launch, l.stackTraces = false → ∀ (D : va_G) (cy : Nat → ClassId) (b : gB), vx_Met l μ.1 (gws μ) (gRm F L mc ms) (gPre As M n D cy b) (gQ D cy b post) (gXC D cy b px) mc ms (gAf b)
theorem GX.ofW {μ : gμ} {F L mc ms : Nat} {As : List Value} {M : gM} {n : Nat} {post : gPo} {px : gPx} {lv : List (Option Value)} (hy : plainName μ.1.cls = true) (htab : μ.2.2.2.2 = []) (hlen : (gArgs As).length ≤ μ.2.2.1) (hlv : gArgs As ++ List.replicate (μ.2.2.1 - (gArgs As).length) none = lv)
    (h : GW μ (gRm F L mc ms) (gTX post px mc ms) 0 0 0 lv [] M n) : GX μ F L mc ms As M n post px := by
  intro l hl D cy b
  refine vx_ofW (cc := μ.2.1) (maxL := μ.2.2.1) (ret := μ.2.2.2.1) hy rfl ?_
  intro p e s m args below meth c s₁ B hml ht hv
  obtain ⟨rfl, hP, hK, hZ⟩ := hv
  have hts := atoms_spec (ws := gws μ) B.pre
  have htb : c.exceptionTable.toList = μ.2.2.2.2 := by
    rw [htab]
    cases hq : c.exceptionTable.toList with
    | nil => rfl
    | cons x r => exact (ht x (by rw [hq]; exact List.mem_cons_self)).elim
  rw [lg_entry_eq]
  subst hlv
  exact h p l e s m _ below meth c D cy b s.heap [] _ ⟨B.exec, B.bytes, hml, findClass_of_methodNamed B.named, fun w hw => hts w (List.mem_cons_of_mem _ hw), B.notSynchronized, B.returns, (name_of_methodNamed B.named B.method).1, htb, hK, hZ, fun z hz => by have := hP.1; show b.1 ≤ z; omega, hl⟩ hP va_S.rf (gEntry b hlen)
theorem gP.grow {D : va_G} {cy : Nat → ClassId} {b : gB} {M : gM} {n : Nat} {H H1 : Heap} (h : gP D cy b M n H) (hz : H.size ≤ H1.size) (ho : ∀ z : Nat, z < H.size → H1[z]? = H[z]?) : gP D cy b M (n + (H1.size - H.size)) H1 := by
  obtain ⟨h1, h2, h3, h4, h5, h6⟩ := h
  refine ⟨by omega, h2, by omega, fun i hi => h4 i (by omega), h5, fun i => ?_⟩
  by_cases hk : mK M i ≤ 15
  · exact gCell.kept (h6 i) (ho _ (gCell.lt (h6 i) hk))
  · unfold gAt gCell
    rw [if_neg (by omega), if_neg (by omega), if_neg (by omega), if_neg (by omega), if_neg (by omega), if_neg (by omega)]
    trivial
section GXR
variable {μ μ1 : gμ} {R : Room} {k q pc : Nat} {lv : List (Option Value)} {st : List Value} {M : gM} {n mc ms : Nat} {post : gPo} {px : gPx}
theorem g_xr (h : GW μ R (gTh post mc ms) k q pc lv st M n) : GW μ R (gTX post px mc ms) k q pc lv st M n := by
  intro p l e s m args below meth c D cy b H locs ls hC hP hS hl
  exact vx_ret (h p l e s m args below meth c D cy b H locs ls hC hP hS hl)
def gNm : List String := ["java/lang/RuntimeException", "java/lang/Exception"]
theorem g_throw {E text : String} {ik is ic : Nat} (hown : μ.1.cls = RX8) (htab : μ.2.2.2.2 = []) (hE : E ∈ gEx) (wk : Cond.classLink μ.1.cls ik E ∈ gT) (wi : Cond.initialized E ∈ gT) (hstr : (is, text) ∈ gStr) (hgT : ∀ w ∈ (vx_atS RX8 ic E gNm).filter goodWord, w ∈ gT) (hbad : ∀ w ∈ (vx_atS RX8 ic E gNm).filter (fun w => !goodWord w), w ∈ [Cond.castable E E, Cond.declares ⟨"java/lang/RuntimeException", "<init>", "(Ljava/lang/String;)V"⟩, Cond.declares ⟨"java/lang/Exception", "<init>", "(Ljava/lang/String;)V"⟩, Cond.declares ⟨"java/lang/Throwable", "<init>", "(Ljava/lang/String;)V"⟩]) (hgood : ∀ w ∈ Cond.classLink RX8 ik E :: Cond.initialized E :: vx_atS RX8 ic E gNm, vx_ot w = true) (hfit : Bundle.fit E = true)
    (d0 : decode μ.2.1 pc = .ok (.new ik, 3)) (d3 : decode μ.2.1 (pc + 3) = .ok (.dup, 1)) (d4 : decode μ.2.1 (pc + 4) = .ok (.ldc is, 2)) (d6 : decode μ.2.1 (pc + 6) = .ok (.invokespecial ic, 3)) (d9 : decode μ.2.1 (pc + 9) = .ok (.athrow, 1))
    (hRf : 5 < R.frames) (hRl : (st.map fun v => v.category).sum + 82 ≤ R.locals) (hRc : k + 1 ≤ R.cells) (hRs : q + 6 ≤ R.slots) (hc : k + 1 ≤ mc) (hs : q + 6 ≤ ms) (hx : ∀ n1, n ≤ n1 → px E M n1) : GW μ R (gTX post px mc ms) k q pc lv st M n := by
  intro p l e s m args below meth c D cy b H locs ls hC hP hS hl
  have hts := hC.2.2.2.2.1
  have hZ := hC.2.2.2.2.2.2.2.2.2.2.1
  have htb : c.exceptionTable.toList = μ.2.2.2.2 := hC.2.2.2.2.2.2.2.2.1
  have hst9 := hC.2.2.2.2.2.2.2.2.2.2.2.2
  obtain ⟨sa, hsa⟩ := hZ.2.2.2.2.2.2.2.1 _ hstr
  have how : s.vm.findClass RX8 = some m.cls := by rw [← hown]; exact hC.2.2.2.1
  refine vx_throwS (own := RX8) (cls := E) (names := gNm) (ik := ik) (is := is) (ic := ic) (sa := sa) (text := text) (A := gAf b) hC.x hC.b hst9 how hfit (by decide +kernel) (by rw [← hown]; exact hts _ wk) (hts _ wi) hsa (vx_hat (L := vx_atS RX8 ic E gNm) (fun w hw => hts w (hgT w hw)) hbad (vx_c (va_Nw.use rfl (hZ.1.2.1 E hE)) (vx_c (va_Nw.use rfl (hZ.1.2.2.1 _ (List.mem_cons_self))) (vx_c (va_Nw.use rfl (hZ.1.2.2.1 _ (List.mem_cons_of_mem _ List.mem_cons_self))) (vx_c (va_Nw.use rfl (hZ.1.2.2.1 _ (List.mem_cons_of_mem _ (List.mem_cons_of_mem _ List.mem_cons_self)))) vx_n))))) hgood hZ.1.1 hZ.2.1 hS (hl.1.trans hC.2.2.1.symm) d0 d3 d4 d6 d9 (fun x hx9 => by rw [htb, htab] at hx9; cases hx9) hRf (by rw [g_cats]; exact hRl) hRc hRs hC.2.2.2.2.2.1 (fun t hal hz ho => ⟨⟨M, n + (t.heap.size - H.size), hx _ (by omega), hP.grow hz ho⟩, Nat.le_trans hS.1 hz, fun z g1 g2 => (ho z (Nat.lt_of_lt_of_le g1 hS.1)).trans (hS.2.1 z g1 g2)⟩) hS.2.2 hc hs
end GXR
section GXC
variable {μ μ1 : gμ} {R : Room} {k q pc : Nat} {lv : List (Option Value)} {st0 As rest : List Value} {M : gM} {n F L mc ms mc2 ms2 na idx : Nat} {post post2 : gPo} {px px2 : gPx}
/-- a callee returns, or throws through this method -/
theorem g_afterX {p : Program} {l : Launch} {e : Env} {s : State} {m : MethodId} {args : Array Value} {below : List Frame} {meth : Method} {c : Code} {D : va_G} {cy : Nat → ClassId} {b : gB} {H : Heap} {locs : List Loc} {ls : Array Slot} {a : Array Value} (htab : μ.2.2.2.2 = []) (hC : gC μ p l s m args meth c D cy b) (hS : va_S (gAf b) s.heap H locs) (hl : gLs b ls μ.2.2.1 lv)
    (hr : vx_Run p l e R s m args below meth c H locs k q mc ms (F0 m pc ls (st0.map (gV b))) (rest.map (gV b)) (gQ D cy b post a) (gXC D cy b px) (gAf b)) (hxx : ∀ E M1 n1, px E M1 n1 → px2 E M1 n1) (h1 : k + mc ≤ mc2) (h2 : q + ms ≤ ms2) (kk : ∀ r M1 n1, post r M1 n1 → GW μ R (gTX post2 px2 mc2 ms2) (k + mc) (q + ms) (pc + 3) lv (r.toList ++ rest) M1 n1) : W p l e R s m args below meth c H locs k q (gTX post2 px2 mc2 ms2 below args s D cy b) (F0 m pc ls (st0.map (gV b))) := by
  intro T hT X
  rcases hr T hT X with ⟨v, st₀, t, T1, Lc, h0, X1, hLc, e1, e2, ⟨⟨r, M1, n1, hv, hp, hP1⟩, hFr⟩, go⟩ | ⟨z, st₀, t, T1, Lc, E, ce, h0, X1, hLc, e1, e2, ⟨⟨M1, n1, hp, hP1⟩, hFr⟩, hce, hcv, hcl, go⟩
  · cases hv
    obtain ⟨t2, a1, b1⟩ := kk r M1 n1 hp p l e s m args below meth c D cy b T1.heap (locs ++ Lc) ls hC (by rw [e1]; exact hP1) (g_keep h0 e1 hS hLc hFr) hl T1 rfl X1
    rw [← g_toList] at a1
    exact ⟨t2, go t2 a1, b1⟩
  · have htb : c.exceptionTable.toList = μ.2.2.2.2 := hC.2.2.2.2.2.2.2.2.1
    have hS2 := g_keep h0 e1 hS hLc hFr
    obtain ⟨t2, a1, b1⟩ := vx_out (p := p) (l := l) (e := e) (R := R) (s := s) (m := m) (args := args) (below := below) (meth := meth) (c := c) (H := T1.heap) (locs := locs ++ Lc) (cells := k + mc) (slots := q + ms) (pc := pc) (ls := ls) (rest := rest.map (gV b)) (Qc := gQ D cy b post2) (XC := gXC D cy b px2) (free := gAf b) (mc := mc2) (ms := ms2) (E := E) (ce := ce) (q := z) (fun x hx9 => by rw [htb, htab] at hx9; cases hx9) hC.2.2.2.2.2.1 (by rw [e1]; exact hce) hcv hcl (fun t9 ht9 _ => ⟨⟨M1, n1, hxx E M1 n1 hp, by rw [ht9, e1]; exact hP1⟩, hS2.F ht9⟩) hS2.2.2 h1 h2 T1 rfl X1
    exact ⟨t2, go.trans a1, b1⟩
theorem g_callVX {i c N : Nat} {C : String} {T : u_T} (htab : μ.2.2.2.2 = []) (hd : decode μ.2.1 pc = .ok (.invokevirtual idx, 3)) (m1 : gMs μ1 na) (hM : GX μ1 F L mc ms (.ref i :: As) M n post px) (cl : gCl c C T N) (hk : mK M i = c) (wi : Cond.instanceMethod μ1.1 ∈ gT) (wsel : Cond.selects C μ1.1 μ1.1 ∈ gT) (wl : Cond.methodLink μ.1.cls idx μ1.1 ∈ gT) (hna : As.length = na) (hst : st0 = As.reverse ++ .ref i :: rest)
    (hrm : (rest.map fun v => v.category).sum ≤ 8) (hF : F + 1 ≤ R.frames) (hL : 8 + (μ1.2.2.1 + 11) + L ≤ R.locals) (hc : k + mc ≤ R.cells) (hs : q + ms ≤ R.slots) (hxx : ∀ E M1 n1, px E M1 n1 → px2 E M1 n1) (h1 : k + mc ≤ mc2) (h2 : q + ms ≤ ms2)
    (kk : ∀ r M1 n1, post r M1 n1 → GW μ R (gTX post2 px2 mc2 ms2) (k + mc) (q + ms) (pc + 3) lv (r.toList ++ rest) M1 n1) : GW μ R (gTX post2 px2 mc2 ms2) k q pc lv st0 M n := by
  intro p l e s m args below meth co D cy b H locs ls hC hP hS hl
  subst hst
  have hts := hC.2.2.2.2.1
  have hK : gK D cy s := hC.2.2.2.2.2.2.2.2.2.1
  have hZ := hC.2.2.2.2.2.2.2.2.2.2.1
  have hls := hC.2.2.2.2.2.2.2.2.2.2.2.2
  obtain ⟨cell, q1, q2, q3, -⟩ := hP.obj cl hk
  have hcls := (hK.1 c _ cl.1).2.1
  have hcw : CallW R s args μ.1.cls C idx μ1.1 μ1.2.1 μ1.2.2.1 μ1.2.2.2.1 (gws μ1) (gRm F L mc ms) mc ms na := ⟨callB_of na hts (gws_good m1.1) rfl rfl rfl (hts _ m1.2.1) (hts _ wl) m1.2.2 ⟨hF, hL⟩, hts _ wi, hts _ wsel⟩
  exact g_afterX (a := (Value.ref (gA b i) :: As.map (gV b)).toArray) htab hC hS hl (vx_runV (As := As.map (gV b)) (rest := rest.map (gV b)) (b := gA b i) ⟨hC.x, hC.b, hC.2.2.1, hC.2.2.2.1, hts⟩ (hM l hls D cy b) hcw ⟨gPre_blind, ⟨cell, q1, by rw [q3]; rfl, by rw [q2]; exact hcls⟩, fun U hU hW => ⟨rfl, by rw [hU]; exact hP, va_K.moved hW.alike hK, hZ.to hW hS hU⟩⟩ rfl (by rw [List.length_map]; exact hna) hl.1 (by simp [List.map_append, List.map_reverse, gV]) (lv_room (by rw [g_cats]; exact hrm)) hd ⟨hc, hs⟩) hxx h1 h2 kk
theorem g_callSX (htab : μ.2.2.2.2 = []) (hd : decode μ.2.1 pc = .ok (.invokestatic idx, 3)) (m1 : gMs μ1 na) (hM : GX μ1 F L mc ms As M n post px) (wst : Cond.static μ1.1 ∈ gT) (wl : Cond.methodLink μ.1.cls idx μ1.1 ∈ gT) (hna : As.length = na) (hst : st0 = As.reverse ++ rest)
    (hrm : (rest.map fun v => v.category).sum ≤ 8) (hF : F + 1 ≤ R.frames) (hL : 8 + (μ1.2.2.1 + 11) + L ≤ R.locals) (hc : k + mc ≤ R.cells) (hs : q + ms ≤ R.slots) (hxx : ∀ E M1 n1, px E M1 n1 → px2 E M1 n1) (h1 : k + mc ≤ mc2) (h2 : q + ms ≤ ms2)
    (kk : ∀ r M1 n1, post r M1 n1 → GW μ R (gTX post2 px2 mc2 ms2) (k + mc) (q + ms) (pc + 3) lv (r.toList ++ rest) M1 n1) : GW μ R (gTX post2 px2 mc2 ms2) k q pc lv st0 M n := by
  intro p l e s m args below meth co D cy b H locs ls hC hP hS hl
  subst hst
  have hts := hC.2.2.2.2.1
  have hK : gK D cy s := hC.2.2.2.2.2.2.2.2.2.1
  have hZ := hC.2.2.2.2.2.2.2.2.2.2.1
  have hls := hC.2.2.2.2.2.2.2.2.2.2.2.2
  have hcw : CallB R s args μ.1.cls idx μ1.1 μ1.2.1 μ1.2.2.1 μ1.2.2.2.1 (gws μ1) (gRm F L mc ms) mc ms na ∧ (Cond.static μ1.1).before args s = true := ⟨callB_of na hts (gws_good m1.1) rfl rfl rfl (hts _ m1.2.1) (hts _ wl) m1.2.2 ⟨hF, hL⟩, hts _ wst⟩
  exact g_afterX (a := (As.map (gV b)).toArray) htab hC hS hl (vx_runS (As := As.map (gV b)) (rest := rest.map (gV b)) ⟨hC.x, hC.b, hC.2.2.1, hC.2.2.2.1, hts⟩ (hM l hls D cy b) hcw ⟨gPre_blind, fun U hU hW => ⟨rfl, by rw [hU]; exact hP, va_K.moved hW.alike hK, hZ.to hW hS hU⟩⟩ rfl (by rw [List.length_map]; exact hna) hl.1 (by simp [List.map_append, List.map_reverse]) (lv_room (by rw [g_cats]; exact hrm)) hd ⟨hc, hs⟩) hxx h1 h2 kk
end GXC
