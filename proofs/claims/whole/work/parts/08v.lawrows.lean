def R_law : String := "WholeSpansLaw"
def lw_P (b : Addr) (xs : List Int32) (args : Array Value) (s : State) : Prop := args = #[.ref b] ∧ s.IntsAt b xs ∧ xs.length ≤ 2560 ∧ (Jvm.Cond.and given_1 narrow_1).before args s = true
def lw_Q (_ : Array Value) (s : State) (o : Outcome) (t : State) : Prop := o = .returned (some (.int 1)) ∧ Framed s o t [] 693874 7014482
def lw_Z (below : List Frame) (a : Array Value) (s : State) : State → Prop := fun t => ∃ o, t.status = .running ∧ Ended t below o ∧ lw_Q a s o t
/-- the law's own end, with 1 on the stack, nothing written that was there before, its room as the claim has it -/
theorem lw_ret {p : Program} {l : Launch} {e : Env} {s : State} {m : MethodId} {below : List Frame} {meth : Method} {c : Code} {b : Nat} (hx : p.tables.exec = Jvm.exec) (hb : c.code = code) (hr : meth.sig.returnType = ret) (hlocks : meth.locks = false) {pc : Nat} {H : Heap} {ls : Array Slot} (hdg : decode code pc = .ok (.ireturn, 1)) : W p l e room_1 s m #[Value.ref b] below meth c H [] 693874 7014482 (lw_Z below #[Value.ref b] s) (F0 m pc ls [.int 1]) := by
  intro T hT X
  obtain ⟨fs, hret, hrun, hended, hW, hframe⟩ := X.leave (v := some (.int 1)) (hlocks := hlocks) (fun h => by rw [hr] at h; cases h)
  have hmeth' : T.vm.method? m = some meth := X.method'
  refine ⟨T.setFrames fs, ?_, .returned (some (.int 1)), hrun, hended, rfl, ⟨_, rfl⟩, hW, hframe⟩
  jvm_step X.here [X.here.top, hx, hb, hdg, hmeth', hr, ret, narrow_b1]
  (try refine ⟨rfl, ?_⟩); (try refine ⟨rfl, ?_⟩)
  first | (intro acts; rw [hret _ acts rfl rfl rfl]) | rw [hret _ _ rfl rfl rfl]
  exact Steps.refl _

/-! the law's own walk: its rows -/
abbrev μL_law : gμ := (yL_law, cL_law, 8, (some .boolean), [])
/-- what the law's walk knows of its start: the script of L ints xs at sa -/
def gZL (sa L : Nat) (xs : Nat → Int32) (args : Array Value) (s : State) (b : gB) : Prop := va_X sa L xs s s.heap ∧ sa < s.heap.size ∧ b.1 = s.heap.size ∧ args = #[Value.ref sa]
def gQL (sa L : Nat) (xs : Nat → Int32) : gθ := fun below args s _ _ b t => gZL sa L xs args s b → lw_Z below args s t
section GLW
variable {sa L k q pc n j : Nat} {xs : Nat → Int32} {lv : List (Option Value)} {st : List Value} {M : gM}
theorem g_sld {x : Int32} (hd : decode cL_law pc = .ok (.iaload, 1)) (hx : x = nI j) (hj : j < L) (hL : L ≤ 2560) (kk : GW μL_law room_1 (gQL sa L xs) k q (pc + 1) lv (.int (xs j) :: st) M n) : GW μL_law room_1 (gQL sa L xs) k q pc lv (.int x :: .retAddr sa :: st) M n := by
  intro p l e s m args below meth c D cy b H locs ls hC hP hS hl
  by_cases hz : gZL sa L xs args s b
  · subst hx
    have h1 : (nI j).toNatClampNeg = j := nI_clamp (by omega)
    have kk1 := kk p l e s m args below meth c D cy b H locs ls hC hP hS hl
    exact va_sld (i := nI j) (rest := st.map (gV b)) hC.x hC.b hz.1 hz.2.1 (show ¬ b.1 ≤ sa by have := hz.2.1; have := hz.2.2.1; omega) hS (nI_in hj (by omega)) hd (by rw [h1]; exact kk1)
  · exact fun T hT X => ⟨_, Steps.refl _, fun h => absurd h hz⟩
theorem g_slen (hd : decode cL_law pc = .ok (.arraylength, 1)) (kk : GW μL_law room_1 (gQL sa L xs) k q (pc + 1) lv (.int (nI L) :: st) M n) : GW μL_law room_1 (gQL sa L xs) k q pc lv (.retAddr sa :: st) M n := by
  intro p l e s m args below meth c D cy b H locs ls hC hP hS hl
  by_cases hz : gZL sa L xs args s b
  · exact va_slen (rest := st.map (gV b)) hC.x hC.b hz.1 hz.2.1 (show ¬ b.1 ≤ sa by have := hz.2.1; have := hz.2.2.1; omega) hS hd (kk p l e s m args below meth c D cy b H locs ls hC hP hS hl)
  · exact fun T hT X => ⟨_, Steps.refl _, fun h => absurd h hz⟩
theorem g_lawret (hd : decode cL_law pc = .ok (.ireturn, 1)) (hk : k ≤ 693874) (hq : q ≤ 7014482) : GW μL_law room_1 (gQL sa L xs) k q pc lv [.int (nI 1)] M n := by
  intro p l e s m args below meth c D cy b H locs ls hC hP hS hl
  by_cases hz : gZL sa L xs args s b
  · obtain ⟨h1, h2, h3, rfl⟩ := hz
    refine va_forget (fun z hzz => by have h9 : b.1 ≤ z.base := hS.2.2 z hzz; omega) (W.widen hk hq ?_)
    have h9 := lw_ret (p := p) (l := l) (e := e) (s := s) (m := m) (below := below) (meth := meth) (c := c) (b := sa) (H := H) (ls := ls) (pc := pc) hC.x hC.b hC.2.2.2.2.2.2.1 hC.2.2.2.2.2.1 hd
    intro T hT X
    obtain ⟨t, a1, b1⟩ := h9 T hT X
    exact ⟨t, a1, fun _ => b1⟩
  · exact fun T hT X => ⟨_, Steps.refl _, fun h => absurd h hz⟩
end GLW
section GLX
variable {μ : gμ} {R : Room} {Q : gθ} {k q pc : Nat} {lv : List (Option Value)} {st : List Value} {M : gM} {n : Nat}
theorem g_aload_nX {i : Fin 4} {z : Nat} (hd : decode μ.2.1 pc = .ok (.aload_n i, 1)) (hv : lv[(i : Nat)]? = some (some (.retAddr z))) (kk : GW μ R Q k q (pc + 1) lv (.retAddr z :: st) M n) : GW μ R Q k q pc lv st M n := by
  intro p l e s m args below meth c D cy b H locs ls hC hP hS hl
  exact lv_aload_n hC.x hC.b hd rfl (hl.2.2 _ _ hv) (kk p l e s m args below meth c D cy b H locs ls hC hP hS hl)
end GLX
/-- the reference's cells are the same: so is it -/
theorem rM.rw {M M1 : gM} {m : Nat} {σ : MS} (h : rM M m σ) (r : Rw M M1 m (m + 11)) : rM M1 m σ := by
  obtain ⟨S, h⟩ := h
  have c0 := r m (by omega) (by omega)
  have c1 := r (m + 1) (by omega) (by omega)
  have c2 := r (m + 2) (by omega) (by omega)
  have c3 := r (m + 3) (by omega) (by omega)
  have c4 := r (m + 4) (by omega) (by omega)
  have c5 := r (m + 5) (by omega) (by omega)
  have c6 := r (m + 6) (by omega) (by omega)
  have c7 := r (m + 7) (by omega) (by omega)
  have c8 := r (m + 8) (by omega) (by omega)
  have c9 := r (m + 9) (by omega) (by omega)
  have c10 := r (m + 10) (by omega) (by omega)
  have c11 := r (m + 11) (by omega) (by omega)
  refine ⟨S, ?_⟩
  unfold rQ rS rP rA gMod iS iL sT at h ⊢
  simp only [c0.1, c0.2.2.1, c0.2.2.2.2, c1.1, c1.2.1, c1.2.2.1, c2.1, c2.2.1, c2.2.2.2.1, c3.1, c3.2.1, c3.2.2.2.1, c4.1, c4.2.1, c4.2.2.2.1, c5.1, c5.2.1, c5.2.2.1, c6.1, c6.2.1, c6.2.2.1, c7.1, c7.2.1, c7.2.2.1, c8.1, c8.2.1, c8.2.2.1, c9.1, c9.2.1, c9.2.2.1, c10.1, c10.2.1, c10.2.2.1, c11.1, c11.2.1, c11.2.2.1]
  exact h
theorem rM.mod {M : gM} {m : Nat} {σ : MS} (h : rM M m σ) : gMod M m := by
  obtain ⟨S, h⟩ := h
  exact h.1.1
theorem kW.offX {M M1 : gM} {w : Nat} {σ : MS} (h : kW M w σ) (ho : Off M M1 (fX (w + 45))) : kW M1 w σ := h.offR ho (fun i k z => by unfold fX at z; omega)
theorem nI_z {c : Nat} (h : c ≤ 3) (q : nI c = 0) : c = 0 := Classical.byContradiction fun z => nI_ne0 (by omega) (by omega) q
theorem opZ_le (σ : MS) (k a b c : Int32) : (opZ σ k a b c).1 ≤ 3 := by
  unfold opZ
  repeat' split
  all_goals simp
theorem bgZ_le (p lo hi : Int32) : (bgZ p lo hi).1 ≤ 3 := by
  unfold bgZ
  repeat' split
  all_goals simp
theorem rcZ_le (σ : MS) (x : Int32) : (rcZ σ x).1 ≤ 3 := by
  unfold rcZ
  repeat' split
  all_goals simp
theorem pcZ_le (σ : MS) (x p : Int32) : (pcZ σ x p).1 ≤ 3 := by
  unfold pcZ
  repeat' split
  all_goals simp
theorem enZ_le (σ : MS) (x p k : Int32) (up : Bool) : (enZ σ x p k up).1 ≤ 3 := by
  unfold enZ
  repeat' split
  all_goals simp
theorem wyZ_le (σ : MS) (x : Int32) : (wyZ σ x).1 ≤ 3 := by
  unfold wyZ
  repeat' split
  all_goals simp
theorem tdZ_le (σ : MS) (x : Int32) : (tdZ σ x).1 ≤ 3 := by
  unfold tdZ
  repeat' split
  all_goals simp
theorem thZ_le (σ : MS) (k : Int32) : (thZ σ k).1 ≤ 3 := by
  unfold thZ
  repeat' split
  all_goals simp
theorem hoZ_le (σ : MS) (k s : Int32) : (hoZ σ k s).1 ≤ 3 := by
  unfold hoZ
  repeat' split
  all_goals simp
theorem hdZ_le (σ : MS) (p : Int32) : (hdZ σ p).1 ≤ 3 := by
  unfold hdZ
  repeat' split
  all_goals simp
