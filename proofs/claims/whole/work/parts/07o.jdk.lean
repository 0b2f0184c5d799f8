/-! the ghost layer: what the list of the JDK wants besides -/
abbrev yGetC : MethodName := ⟨"java/lang/Object", "getClass", "()Ljava/lang/Class;"⟩
/-- src's first L places copied into r's -/
def cpR (M : gM) (a r L : Nat) : gM := (mK M, mN M, mI M, mJ M, fun i k => if i = r ∧ k < L then mR M a k else mR M i k)
section GO
variable {μ : gμ} {R : Room} {Q : gθ} {k q pc : Nat} {lv : List (Option Value)} {st : List Value} {M : gM} {n : Nat}
theorem gA_ne {b : gB} (hb : b.2.1 < b.1) {i j : Nat} (h : i = j ∨ (2 ≤ i ∧ j ≠ 1) ∨ (2 ≤ j ∧ i ≠ 1)) : gA b i = gA b j → i = j := by
  intro e
  rcases h with h | h | h
  · exact h
  · exact (gA_inj hb h.1 h.2 e.symm).symm
  · exact gA_inj hb h.1 h.2 e
theorem g_acmp_eq {i j : Nat} {off : Int} {tgt : Nat} (hd : decode μ.2.1 pc = .ok (.if_acmp .eq off, 3)) (ht : (pc : Int) + off = (tgt : Int)) (hij : i = j ∨ (2 ≤ i ∧ j ≠ 1) ∨ (2 ≤ j ∧ i ≠ 1)) (kt : i = j → GW μ R Q k q tgt lv st M n) (kf : ¬ i = j → GW μ R Q k q (pc + 3) lv st M n) : GW μ R Q k q pc lv (.ref j :: .ref i :: st) M n := by
  intro p l e s m args below meth c D cy b H locs ls hC hP hS hl
  exact lv_acmp_eq (rx := some (gA b i)) (ry := some (gA b j)) hC.x hC.b hd ht (fun hc => kt (gA_ne hP.2.1 hij (Option.some.inj hc)) p l e s m args below meth c D cy b H locs ls hC hP hS hl) (fun hc => kf (fun z => hc (by rw [z])) p l e s m args below meth c D cy b H locs ls hC hP hS hl)
theorem g_acmp_ne {i j : Nat} {off : Int} {tgt : Nat} (hd : decode μ.2.1 pc = .ok (.if_acmp .ne off, 3)) (ht : (pc : Int) + off = (tgt : Int)) (hij : i = j ∨ (2 ≤ i ∧ j ≠ 1) ∨ (2 ≤ j ∧ i ≠ 1)) (kt : ¬ i = j → GW μ R Q k q tgt lv st M n) (kf : i = j → GW μ R Q k q (pc + 3) lv st M n) : GW μ R Q k q pc lv (.ref j :: .ref i :: st) M n := by
  intro p l e s m args below meth c D cy b H locs ls hC hP hS hl
  exact lv_acmp_ne (rx := some (gA b i)) (ry := some (gA b j)) hC.x hC.b hd ht (fun hc => kt (fun z => hc (by rw [z])) p l e s m args below meth c D cy b H locs ls hC hP hS hl) (fun hc => kf (gA_ne hP.2.1 hij (Option.some.inj hc)) p l e s m args below meth c D cy b H locs ls hC hP hS hl)
theorem g_ldcM {i : Nat} (hd : decode μ.2.1 pc = .ok (.ldc i, 2)) (wl : Cond.classLink μ.1.cls i "[Ljava/lang/Object;" ∈ gT) (kk : GW μ R Q k q (pc + 2) lv (.ref 1 :: st) M n) : GW μ R Q k q pc lv st M n := by
  intro p l e s m args below meth c D cy b H locs ls hC hP hS hl
  have hts := hC.2.2.2.2.1
  have hZ := hC.2.2.2.2.2.2.2.2.2.2.1
  exact va_ldcM hC.x hC.b hC.2.2.2.1 (hts _ wl) hZ.2.2.2.2.2.2.2.2.1 hd (kk p l e s m args below meth c D cy b H locs ls hC hP hS hl)
theorem g_nmO {D : va_G} {cy : Nat → ClassId} {s : State} (hK : gK D cy s) : s.vm.findClass "[Ljava/lang/Object;" = some (cy 15) := va_nmO (hK.2 4 _ rfl).2 (by decide)
theorem g_getC {i idx : Nat} (hd : decode μ.2.1 pc = .ok (.invokevirtual idx, 3)) (wl : Cond.methodLink μ.1.cls idx yGetC ∈ gT) (w1 : Cond.selects "[Ljava/lang/Object;" yGetC yGetC ∈ gT) (w2 : Cond.instanceMethod yGetC ∈ gT) (w3 : Cond.native yGetC ∈ gT) (hk : mK M i = 15) (hF : 1 ≤ R.frames) (hL : (st.map fun v => v.category).sum + 14 ≤ R.locals) (kk : GW μ R Q k q (pc + 3) lv (.ref 1 :: st) M n) : GW μ R Q k q pc lv (.ref i :: st) M n := by
  intro p l e s m args below meth c D cy b H locs ls hC hP hS hl
  have hts := hC.2.2.2.2.1
  have hK : gK D cy s := hC.2.2.2.2.2.2.2.2.2.1
  have hZ := hC.2.2.2.2.2.2.2.2.2.2.1
  obtain ⟨cell, q1, q2, q3, q4, q5⟩ := hP.rq hk
  exact va_getC hC.x hC.b (hC.2.2.1.trans hl.1.symm) hC.2.2.2.1 (hts _ wl) (va_Dc.use hZ.2.2.2.2.2.2.2.2.2.1) (hts _ w1) (hts _ w2) (hts _ w3) hZ.2.2.2.2.2.2.2.2.1 ⟨cell, q1, q4, by rw [q2]; exact g_nmO hK⟩ hF (by rw [g_cats]; exact hL) hd (kk p l e s m args below meth c D cy b H locs ls hC hP hS hl)
/-- a Statement into a row of Objects -/
theorem g_aastoreO {a j L r : Nat} {x : Int32} (hd : decode μ.2.1 pc = .ok (.aastore, 1)) (hk : mK M a = 15) (hN : mN M a = L) (hx : x = nI j) (hj : j < L) (hL : L < 2 ^ 31) (hr : mK M r = 5) (ha2 : 2 ≤ a) (kk : GW μ R Q k q (pc + 1) lv st (stR M a j (some r)) n) : GW μ R Q k q pc lv (.ref r :: .int x :: .ref a :: st) M n := by
  intro p l e s m args below meth c D cy b H locs ls hC hP hS hl
  have hK : gK D cy s := hC.2.2.2.2.2.2.2.2.2.1
  have hZ := hC.2.2.2.2.2.2.2.2.2.2.1
  have h1 := hP.ro hk (by omega)
  rw [hN] at h1
  obtain ⟨cellV, g1, g2, g3, -⟩ := hP.obj cl5 hr
  have hcls := (hK.1 5 _ cl5.1).2
  obtain ⟨kA, comp, k1, k2, k3, -⟩ := (hK.2 4 _ rfl).2
  obtain ⟨kE, hkE, -⟩ := Vm.findClass_spec k3
  obtain ⟨c0, t1, f1, f2, f3⟩ := Cond.castable_spec (va_Nw.use (A := args) rfl hZ.2.2.2.2.2.2.1)
  cases hcls.1.symm.trans f1
  cases k3.symm.trans f2
  obtain ⟨kC, hkC, -⟩ := hcls.2
  have hin := g_in (cA := cy 15) (f := fun j => va_rf (gO b (mR M a j))) hx hj hL
  refine W.aast hC.x hC.b h1 (fun z h => by cases h) (fun h => by cases h) k1 k2 rfl hkE ⟨fun z => hin (Or.inl z), Nat.not_le.mp fun z => hin (Or.inr z)⟩ g1 (fun z h => by rw [g3] at h; cases h) (by rw [g2]; exact hkC) (by rw [g2]; exact f3) rfl rfl hd fun H1 e1 e2 e3 => ?_
  refine kk p l e s m args below meth c D cy b H1 _ ls hC (hP.put ha2 e2 e3 rfl rfl (fun j hj => ⟨rfl, rfl, up2_row _ _ hj⟩) ?_) (hS.put e2 e3 (gA_big ha2)) hl
  rw [hx, nI_clamp (by omega), arrV_store] at e1
  have e4 := g_upR b (mR M) a j (some r)
  rw [show (va_rf (gO b (some r))) = Value.ref (gA b r) from rfl] at e4
  rw [e4] at e1
  have hk1' : mK (stR M a j (some r)) a = 15 := hk
  have hN1 : mN (stR M a j (some r)) a = L := hN
  unfold gAt gCell
  rw [hk1', hN1, if_neg (by decide), if_neg (by decide), if_neg (by decide), if_neg (by decide), if_neg (by decide), if_pos rfl]
  exact Or.inl e1
theorem g_aastoreN {a j L : Nat} {x : Int32} (hd : decode μ.2.1 pc = .ok (.aastore, 1)) (hk : mK M a = 15) (hN : mN M a = L) (hx : x = nI j) (hj : j < L) (hL : L < 2 ^ 31) (ha2 : 2 ≤ a) (kk : GW μ R Q k q (pc + 1) lv st (stR M a j none) n) : GW μ R Q k q pc lv (.null :: .int x :: .ref a :: st) M n := by
  intro p l e s m args below meth c D cy b H locs ls hC hP hS hl
  have hK : gK D cy s := hC.2.2.2.2.2.2.2.2.2.1
  have h1 := hP.ro hk (by omega)
  rw [hN] at h1
  have hin := g_in (cA := cy 15) (f := fun j => va_rf (gO b (mR M a j))) hx hj hL
  refine va_WaastN (C := "java/lang/Object") hC.x hC.b h1 ((hK.2 4 _ rfl).1 _ _) (fun h => by cases h) hin rfl rfl hd fun H1 e1 e2 e3 => ?_
  refine kk p l e s m args below meth c D cy b H1 _ ls hC (hP.put ha2 e2 e3 rfl rfl (fun j hj => ⟨rfl, rfl, up2_row _ _ hj⟩) ?_) (hS.put e2 e3 (gA_big ha2)) hl
  rw [hx, nI_clamp (by omega), arrV_store] at e1
  have e4 := g_upR b (mR M) a j none
  rw [show (va_rf (gO b none)) = Value.null from rfl] at e4
  rw [e4] at e1
  have hk1' : mK (stR M a j none) a = 15 := hk
  have hN1 : mN (stR M a j none) a = L := hN
  unfold gAt gCell
  rw [hk1', hN1, if_neg (by decide), if_neg (by decide), if_neg (by decide), if_neg (by decide), if_neg (by decide), if_pos rfl]
  exact Or.inl e1
theorem g_acopy {a r L idx : Nat} (hd : decode μ.2.1 pc = .ok (.invokestatic idx, 3)) (wl : Cond.methodLink μ.1.cls idx arraycopyName ∈ gT) (w1 : Cond.native arraycopyName ∈ gT) (w2 : Cond.static arraycopyName ∈ gT) (w3 : Cond.initialized "java/lang/System" ∈ gT) (hka : mK M a = 15) (hkr : mK M r = 15) (hr2 : 2 ≤ r) (hLa : L ≤ mN M a) (hLr : L ≤ mN M r) (hL : L < 2 ^ 31) (hL0 : 0 < L) (hel : ∀ j, j < L → ∃ y, mR M a j = some y ∧ mK M y = 5)
    (hF : 1 ≤ R.frames) (hLc : (st.map fun v => v.category).sum + (nativeFrameWords "java/lang/System" "arraycopy" 5 + 11) ≤ R.locals) (kk : GW μ R Q k q (pc + 3) lv st (cpR M a r L) n) : GW μ R Q k q pc lv (.int (nI L) :: .int (nI 0) :: .ref r :: .int (nI 0) :: .ref a :: st) M n := by
  intro p l e s m args below meth c D cy b H locs ls hC hP hS hl
  have hts := hC.2.2.2.2.1
  have hK : gK D cy s := hC.2.2.2.2.2.2.2.2.2.1
  have hZ := hC.2.2.2.2.2.2.2.2.2.2.1
  have hc0 := hP.ro hka (by omega)
  have hc1 := hP.ro hkr (by omega)
  obtain ⟨-, k0, hk0, cm0, hkk0⟩ := (hK.2 4 _ rfl).1 (mN M a) (fun j => va_rf (gO b (mR M a j)))
  obtain ⟨-, k1, hk1, cm1, hkk1⟩ := (hK.2 4 _ rfl).1 (mN M r) (fun j => va_rf (gO b (mR M r j)))
  have z0 : ¬ nI 0 < 0 := by decide
  have zL : ¬ nI L < 0 := nI_pos hL
  have c0 : (nI 0).toNatClampNeg = 0 := nI_clamp (by omega)
  have cL : (nI L).toNatClampNeg = L := nI_clamp hL
  have i0 : (nI 0).toInt = 0 := rfl
  have iL : (nI L).toInt = (L : Int) := by
    have h9 : (0 : Int) ≤ (nI L).toInt := by
      have := Int32.not_lt.mp zL
      simpa using Int32.le_iff_toInt_le.mp this
    have h8 : ((nI L).toInt.toNat : Nat) = L := cL
    omega
  intro T hT X
  obtain ⟨vm', X', step⟩ := X.arraycopy hC.x hC.2.2.2.1 (hts _ wl) (hts _ w1) (hts _ w2) (hts _ w3) (src := gA b a) (dst := gA b r) (cs := arrV (cy 15) (mN M a) (fun j => va_rf (gO b (mR M a j)))) (cd := arrV (cy 15) (mN M r) (fun j => va_rf (gO b (mR M r j)))) (srcPos := nI 0) (destPos := nI 0) (n := nI L) (by rw [hT]; exact hc0) (by rw [hT]; exact hc1)
    (fun _ h => by cases h) (fun _ h => by cases h) (fun h => by cases h) (fun h => by cases h) hk0 hk1 hkk0 hkk1 rfl z0 z0 zL
    (by rw [i0, iL, arrV_size]; omega)
    (by rw [i0, iL, arrV_size]; omega)
    (fun vm₁ hal i hi => by
      rw [cL] at hi
      rw [c0, Nat.zero_add]
      have e : (arrV (cy 15) (mN M a) (fun j => va_rf (gO b (mR M a j)))).slots.getD i .null = va_rf (gO b (mR M a i)) := by
        rw [Array.getD_eq_getD_getElem?, arrV_read _ _ (by omega)]
        rfl
      rw [e]
      obtain ⟨y, hy, hky⟩ := hel i hi
      rw [hy]
      obtain ⟨cellV, g1, g2, g3, -⟩ := hP.obj cl5 hky
      have hcls := (hK.1 5 _ cl5.1).2
      obtain ⟨kA, comp, r1, r2, r3, -⟩ := (hK.2 4 _ rfl).2
      cases hk1.symm.trans r1
      cases hkk1.symm.trans r2
      obtain ⟨q0, t1, f1, f2, f3⟩ := Cond.castable_spec (va_Nw.use (A := args) rfl hZ.2.2.2.2.2.2.1)
      cases hcls.1.symm.trans f1
      cases r3.symm.trans f2
      obtain ⟨kC, hkC, -⟩ := hcls.2
      obtain ⟨kE, hkE, -⟩ := Vm.findClass_spec r3
      obtain ⟨kC', hkC', -⟩ := hal.2.2 _ _ hkC
      obtain ⟨kE', hkE', -⟩ := hal.2.2 _ _ hkE
      refine ⟨rfl, cellV, (show T.heap[gA b y]? = some cellV by rw [hT]; exact g1), (fun q h => by rw [g3] at h; cases h), ⟨kC', by rw [g2]; exact hkC'⟩, ?_, ?_⟩
      · exact ⟨kE', hkE'⟩
      · show vm₁.assignable _ _ = true
        rw [hal.assignable, g2]
        exact f3)
    (g := F0 m pc ls (.int (nI L) :: .int (nI 0) :: .ref (gA b r) :: .int (nI 0) :: .ref (gA b a) :: st.map (gV b))) rfl (hl.1.trans hC.2.2.1.symm) (rest := st.map (gV b)) rfl (by rw [hC.b]; exact hd) hF (by show 2 * 0 + _ + _ ≤ _; rw [g_cats]; omega)
  have e1 : copied (arrV (cy 15) (mN M a) (fun j => va_rf (gO b (mR M a j)))) (arrV (cy 15) (mN M r) (fun j => va_rf (gO b (mR M r j)))) (nI 0) (nI 0) (nI L) = arrV (cy 15) (mN M r) (fun j => va_rf (gO b (mR (cpR M a r L) r j))) := by
    have h9 := va_copied (sp := (nI 0).toNatClampNeg) (dp := (nI 0).toNatClampNeg) (n := (nI L).toNatClampNeg) (fun z => va_rf z) (cy 15) (cy 15) (n0 := mN M a) (n1 := mN M r) (fun j => gO b (mR M a j)) (fun j => gO b (mR M r j)) (by rw [c0, cL]; omega)
    refine Eq.trans h9 ?_
    congr 1
    funext j
    unfold va_cpy
    rw [c0, cL]
    show va_rf (if 0 ≤ j ∧ j < 0 + L then gO b (mR M a (0 + (j - 0))) else gO b (mR M r j)) = va_rf (gO b (if r = r ∧ j < L then mR M a j else mR M r j))
    by_cases c : j < L
    · rw [if_pos ⟨by omega, by omega⟩, if_pos ⟨rfl, c⟩, Nat.sub_zero, Nat.zero_add]
    · rw [if_neg (by omega), if_neg (by omega)]
  rw [e1] at X' step
  have hl1 : gA b r < H.size := (Array.getElem?_eq_some_iff.mp hc1).1
  have hheap : ((T.setVm vm').setCell (gA b r) (arrV (cy 15) (mN M r) (fun j => va_rf (gO b (mR (cpR M a r L) r j))))).heap = H.setIfInBounds (gA b r) (arrV (cy 15) (mN M r) (fun j => va_rf (gO b (mR (cpR M a r L) r j)))) := by rw [← hT]; rfl
  have oq : ∀ z : Nat, z ≠ gA b r → (H.setIfInBounds (gA b r) (arrV (cy 15) (mN M r) (fun j => va_rf (gO b (mR (cpR M a r L) r j)))))[z]? = H[z]? := fun z hz => by simp [Array.getElem?_setIfInBounds, Ne.symm hz]
  have se : (H.setIfInBounds (gA b r) (arrV (cy 15) (mN M r) (fun j => va_rf (gO b (mR (cpR M a r L) r j))))).size = H.size := by simp
  obtain ⟨t, a1, b1⟩ := kk p l e s m args below meth c D cy b _ _ ls hC (hP.put (M1 := cpR M a r L) hr2 se oq rfl rfl (fun j hj => ⟨rfl, rfl, by funext k9; show (if j = r ∧ k9 < L then mR M a k9 else mR M j k9) = mR M j k9; rw [if_neg (fun z => hj z.1)]⟩) (by
      have hk9 : mK (cpR M a r L) r = 15 := hkr
      have hN9 : mN (cpR M a r L) r = mN M r := rfl
      unfold gAt gCell
      rw [hk9, hN9, if_neg (by decide), if_neg (by decide), if_neg (by decide), if_neg (by decide), if_neg (by decide), if_pos rfl]
      refine Or.inl ?_
      simp [Array.getElem?_setIfInBounds, hl1])) ⟨by rw [se]; exact hS.1, fun z g1 g2 => by
      rw [oq z (fun e => g2 (by rw [e]; exact gA_big hr2))]
      exact hS.2.1 z g1 g2, fun z hz => by
      rcases List.mem_append.mp hz with h | h
      · exact hS.2.2 z h
      · obtain ⟨y, -, hy⟩ := List.mem_map.mp h
        rw [← hy]
        exact gA_big hr2⟩ hl _ hheap X'
  exact ⟨t, step t a1, b1⟩
end GO
theorem GM.ofF {μ : gμ} {F L mc ms : Nat} {As : List Value} {M : gM} {n : Nat} {post : gPo} {lv : List (Option Value)} (hy : plainFor μ.1 = true) (htab : μ.2.2.2.2 = []) (hlen : (gArgs As).length ≤ μ.2.2.1) (hlv : gArgs As ++ List.replicate (μ.2.2.1 - (gArgs As).length) none = lv)
    (h : GW μ (gRm F L mc ms) (gTh post mc ms) 0 0 0 lv [] M n) : GM μ F L mc ms As M n post := by
  intro l hl D cy b
  refine va_MetF (cc := μ.2.1) (maxL := μ.2.2.1) (ret := μ.2.2.2.1) hy rfl ?_
  intro p e s m args below meth c s₁ B hml hv
  obtain ⟨rfl, hP, hK, hZ⟩ := hv
  have hts := atoms_spec (ws := gws μ) B.pre
  have htb : c.exceptionTable.toList = μ.2.2.2.2 := by
    obtain ⟨meth', c', h1, h2, -, -, -, -, h7, -⟩ := Cond.code_spec B.named (hts _ List.mem_cons_self)
    cases Option.some.inj (h1.symm.trans B.method)
    cases Option.some.inj (h2.symm.trans (Stand.of_body B).code)
    rw [htab]
    simpa using h7
  rw [lg_entry_eq]
  subst hlv
  exact h p l e s m _ below meth c D cy b s.heap [] _ ⟨B.exec, B.bytes, hml, findClass_of_methodNamed B.named, fun w hw => hts w (List.mem_cons_of_mem _ hw), B.notSynchronized, B.returns, (name_of_methodNamed B.named B.method).1, htb, hK, hZ, fun z hz => by have := hP.1; show b.1 ≤ z; omega, hl⟩ hP va_S.rf (gEntry b hlen)
