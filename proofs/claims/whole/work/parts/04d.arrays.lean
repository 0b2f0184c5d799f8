/-! the ghost layer: arrays, ends, contracts, calls -/
section GA
variable {μ : gμ} {R : Room} {Q : gθ} {k q pc : Nat} {lv : List (Option Value)} {st : List Value} {M : gM} {n : Nat}
theorem gP.ri {D : va_G} {cy : Nat → ClassId} {b : gB} {H : Heap} (h : gP D cy b M n H) {a : Nat} (hk : mK M a = 11) : H[gA b a]? = some (arrV (cy 11) (mN M a) (fun j => .int (mI M a j))) := by
  have h1 := h.2.2.2.2.2 a
  unfold gAt gCell at h1
  rw [hk] at h1
  simpa using h1
theorem gP.rj {D : va_G} {cy : Nat → ClassId} {b : gB} {H : Heap} (h : gP D cy b M n H) {a : Nat} (hk : mK M a = 12) : H[gA b a]? = some (arrV (cy 12) (mN M a) (fun j => .long (mJ M a j))) := by
  have h1 := h.2.2.2.2.2 a
  unfold gAt gCell at h1
  rw [hk] at h1
  simpa using h1
theorem gP.rz {D : va_G} {cy : Nat → ClassId} {b : gB} {H : Heap} (h : gP D cy b M n H) {a : Nat} (hk : mK M a = 13) : H[gA b a]? = some (arrV (cy 13) (mN M a) (fun j => .int (mI M a j))) := by
  have h1 := h.2.2.2.2.2 a
  unfold gAt gCell at h1
  rw [hk] at h1
  simpa using h1
theorem gP.rs {D : va_G} {cy : Nat → ClassId} {b : gB} {H : Heap} (h : gP D cy b M n H) {a : Nat} (hk : mK M a = 14) : H[gA b a]? = some (arrV (cy 14) (mN M a) (fun j => va_rf (gO b (mR M a j)))) := by
  have h1 := h.2.2.2.2.2 a
  unfold gAt gCell at h1
  rw [hk] at h1
  simpa using h1
theorem gP.ro {D : va_G} {cy : Nat → ClassId} {b : gB} {H : Heap} (h : gP D cy b M n H) {a : Nat} (hk : mK M a = 15) (h0 : 0 < mN M a) : H[gA b a]? = some (arrV (cy 15) (mN M a) (fun j => va_rf (gO b (mR M a j)))) := by
  have h1 := h.2.2.2.2.2 a
  unfold gAt gCell at h1
  rw [hk, if_neg (by decide), if_neg (by decide), if_neg (by decide), if_neg (by decide), if_neg (by decide), if_pos rfl] at h1
  rcases h1 with h1 | h1
  · exact h1
  · exact absurd h1.1 (by omega)
/-- a row of Objects, or the empty one that the JDK keeps -/
theorem gP.rq {D : va_G} {cy : Nat → ClassId} {b : gB} {H : Heap} (h : gP D cy b M n H) {a : Nat} (hk : mK M a = 15) : ∃ cell : Cell, H[gA b a]? = some cell ∧ cell.cls = cy 15 ∧ cell.slots.size = mN M a ∧ cell.vm.isStatics = false ∧ cell.vm ≠ .unknown := by
  have h1 := h.2.2.2.2.2 a
  unfold gAt gCell at h1
  rw [hk, if_neg (by decide), if_neg (by decide), if_neg (by decide), if_neg (by decide), if_neg (by decide), if_pos rfl] at h1
  rcases h1 with h1 | ⟨h0, cell, q1, q2, q3, q4, q5⟩
  · exact ⟨_, h1, rfl, arrV_size _ _ _, rfl, fun z => by cases z⟩
  · exact ⟨cell, q1, q2, by rw [q3, h0], q4, q5⟩
theorem g_in {cA : ClassId} {L j : Nat} {x : Int32} {f : Nat → Value} (hx : x = nI j) (hj : j < L) (hL : L < 2 ^ 31) : ¬ (x < 0 ∨ (arrV cA L f).slots.size ≤ x.toNatClampNeg) := by
  rw [arrV_size, hx]
  exact nI_in hj hL
theorem g_rd {cA : ClassId} {L j : Nat} {x : Int32} {f : Nat → Value} (hx : x = nI j) (hj : j < L) (hL : L < 2 ^ 31) : (arrV cA L f).slots[x.toNatClampNeg]? = some (f j) := by
  rw [hx, nI_clamp (by omega)]
  exact arrV_read _ _ hj
theorem g_iaload {a j L : Nat} {x : Int32} (hd : decode μ.2.1 pc = .ok (.iaload, 1)) (hk : mK M a = 11) (hN : mN M a = L) (hx : x = nI j) (hj : j < L) (hL : L < 2 ^ 31) (kk : GW μ R Q k q (pc + 1) lv (.int (mI M a j) :: st) M n) : GW μ R Q k q pc lv (.int x :: .ref a :: st) M n := by
  intro p l e s m args below meth c D cy b H locs ls hC hP hS hl
  have hK : gK D cy s := hC.2.2.2.2.2.2.2.2.2.1
  have h1 := hP.ri hk
  rw [hN] at h1
  exact W.iald (v := .int (mI M a j)) hC.x hC.b h1 ((hK.2 0 _ rfl).1 _ _) (fun h => by cases h) (g_in hx hj hL) (g_rd hx hj hL) rfl rfl hd (kk p l e s m args below meth c D cy b H locs ls hC hP hS hl)
theorem g_laload {a j L : Nat} {x : Int32} (hd : decode μ.2.1 pc = .ok (.laload, 1)) (hk : mK M a = 12) (hN : mN M a = L) (hx : x = nI j) (hj : j < L) (hL : L < 2 ^ 31) (kk : GW μ R Q k q (pc + 1) lv (.long (mJ M a j) :: st) M n) : GW μ R Q k q pc lv (.int x :: .ref a :: st) M n := by
  intro p l e s m args below meth c D cy b H locs ls hC hP hS hl
  have hK : gK D cy s := hC.2.2.2.2.2.2.2.2.2.1
  have h1 := hP.rj hk
  rw [hN] at h1
  exact W.lald (v := .long (mJ M a j)) hC.x hC.b h1 ((hK.2 1 _ rfl).1 _ _) (fun h => by cases h) (g_in hx hj hL) (g_rd hx hj hL) rfl rfl hd (kk p l e s m args below meth c D cy b H locs ls hC hP hS hl)
theorem g_baload {a j L : Nat} {x : Int32} (hd : decode μ.2.1 pc = .ok (.baload, 1)) (hk : mK M a = 13) (hN : mN M a = L) (hx : x = nI j) (hj : j < L) (hL : L < 2 ^ 31) (kk : GW μ R Q k q (pc + 1) lv (.int (mI M a j) :: st) M n) : GW μ R Q k q pc lv (.int x :: .ref a :: st) M n := by
  intro p l e s m args below meth c D cy b H locs ls hC hP hS hl
  have hK : gK D cy s := hC.2.2.2.2.2.2.2.2.2.1
  have h1 := hP.rz hk
  rw [hN] at h1
  exact W.zald (v := .int (mI M a j)) hC.x hC.b h1 ((hK.2 2 _ rfl).1 _ _) (fun h => by cases h) (g_in hx hj hL) (g_rd hx hj hL) rfl rfl hd (kk p l e s m args below meth c D cy b H locs ls hC hP hS hl)
theorem g_aaloadS {a j L r : Nat} {x : Int32} (hd : decode μ.2.1 pc = .ok (.aaload, 1)) (hk : mK M a = 14) (hN : mN M a = L) (hx : x = nI j) (hj : j < L) (hL : L < 2 ^ 31) (hr : mR M a j = some r) (kk : GW μ R Q k q (pc + 1) lv (.ref r :: st) M n) : GW μ R Q k q pc lv (.int x :: .ref a :: st) M n := by
  intro p l e s m args below meth c D cy b H locs ls hC hP hS hl
  have hK : gK D cy s := hC.2.2.2.2.2.2.2.2.2.1
  have h1 := hP.rs hk
  rw [hN] at h1
  have h2 := g_rd (cA := cy 14) (f := fun j => va_rf (gO b (mR M a j))) hx hj hL
  rw [hr] at h2
  exact W.aald (v := .ref (gA b r)) (ty := .object RX3) hC.x hC.b h1 ((hK.2 3 _ rfl).1 _ _) rfl (fun h => by cases h) (g_in hx hj hL) h2 rfl rfl hd (kk p l e s m args below meth c D cy b H locs ls hC hP hS hl)
theorem g_aaloadO {a j L r : Nat} {x : Int32} (hd : decode μ.2.1 pc = .ok (.aaload, 1)) (hk : mK M a = 15) (hN : mN M a = L) (hx : x = nI j) (hj : j < L) (hL : L < 2 ^ 31) (hr : mR M a j = some r) (kk : GW μ R Q k q (pc + 1) lv (.ref r :: st) M n) : GW μ R Q k q pc lv (.int x :: .ref a :: st) M n := by
  intro p l e s m args below meth c D cy b H locs ls hC hP hS hl
  have hK : gK D cy s := hC.2.2.2.2.2.2.2.2.2.1
  have h1 := hP.ro hk (by omega)
  rw [hN] at h1
  have h2 := g_rd (cA := cy 15) (f := fun j => va_rf (gO b (mR M a j))) hx hj hL
  rw [hr] at h2
  exact W.aald (v := .ref (gA b r)) (ty := .object "java/lang/Object") hC.x hC.b h1 ((hK.2 4 _ rfl).1 _ _) rfl (fun h => by cases h) (g_in hx hj hL) h2 rfl rfl hd (kk p l e s m args below meth c D cy b H locs ls hC hP hS hl)
theorem g_upI (fI : Nat → Nat → Int32) (a j : Nat) (x : Int32) : updV (fun i => Value.int (fI a i)) j (.int x) = fun i => Value.int (up2 fI a j x a i) := by
  funext i
  unfold updV
  rw [up2_self]
  by_cases h : i = j <;> simp [h]
theorem g_upJ (fJ : Nat → Nat → Int64) (a j : Nat) (x : Int64) : updV (fun i => Value.long (fJ a i)) j (.long x) = fun i => Value.long (up2 fJ a j x a i) := by
  funext i
  unfold updV
  rw [up2_self]
  by_cases h : i = j <;> simp [h]
theorem g_upR (b : gB) (fR : Nat → Nat → Option Nat) (a j : Nat) (r : Option Nat) : updV (fun i => va_rf (gO b (fR a i))) j (va_rf (gO b r)) = fun i => va_rf (gO b (up2 fR a j r a i)) := by
  funext i
  unfold updV
  rw [up2_self]
  by_cases h : i = j <;> simp [h]
theorem g_iastore {a j L : Nat} {x v : Int32} (hd : decode μ.2.1 pc = .ok (.iastore, 1)) (hk : mK M a = 11) (hN : mN M a = L) (hx : x = nI j) (hj : j < L) (hL : L < 2 ^ 31) (kk : GW μ R Q k q (pc + 1) lv st (stI M a j v) n) : GW μ R Q k q pc lv (.int v :: .int x :: .ref a :: st) M n := by
  intro p l e s m args below meth c D cy b H locs ls hC hP hS hl
  have hK : gK D cy s := hC.2.2.2.2.2.2.2.2.2.1
  have h1 := hP.ri hk
  have hi2 : 2 ≤ a := hP.two (by omega)
  rw [hN] at h1
  refine W.iast hC.x hC.b h1 ((hK.2 0 _ rfl).1 _ _) (fun h => by cases h) (g_in hx hj hL) rfl rfl hd fun H1 e1 e2 e3 => ?_
  refine kk p l e s m args below meth c D cy b H1 _ ls hC (hP.put hi2 e2 e3 rfl rfl (fun j hj => ⟨up2_row _ _ hj, rfl, rfl⟩) ?_) (hS.put e2 e3 (gA_big hi2)) hl
  rw [hx, nI_clamp (by omega), arrV_store, g_upI] at e1
  have hk1 : mK (stI M a j v) a = 11 := hk
  have hN1 : mN (stI M a j v) a = L := hN
  unfold gAt gCell
  rw [hk1, hN1, if_neg (by decide), if_pos rfl]
  exact e1
theorem g_lastore {a j L : Nat} {x : Int32} {v : Int64} (hd : decode μ.2.1 pc = .ok (.lastore, 1)) (hk : mK M a = 12) (hN : mN M a = L) (hx : x = nI j) (hj : j < L) (hL : L < 2 ^ 31) (kk : GW μ R Q k q (pc + 1) lv st (stJ M a j v) n) : GW μ R Q k q pc lv (.long v :: .int x :: .ref a :: st) M n := by
  intro p l e s m args below meth c D cy b H locs ls hC hP hS hl
  have hK : gK D cy s := hC.2.2.2.2.2.2.2.2.2.1
  have h1 := hP.rj hk
  have hi2 : 2 ≤ a := hP.two (by omega)
  rw [hN] at h1
  refine W.last hC.x hC.b h1 ((hK.2 1 _ rfl).1 _ _) (fun h => by cases h) (g_in hx hj hL) rfl rfl hd fun H1 e1 e2 e3 => ?_
  refine kk p l e s m args below meth c D cy b H1 _ ls hC (hP.put hi2 e2 e3 rfl rfl (fun j hj => ⟨rfl, up2_row _ _ hj, rfl⟩) ?_) (hS.put e2 e3 (gA_big hi2)) hl
  rw [hx, nI_clamp (by omega), arrV_store, g_upJ] at e1
  have hk1 : mK (stJ M a j v) a = 12 := hk
  have hN1 : mN (stJ M a j v) a = L := hN
  unfold gAt gCell
  rw [hk1, hN1, if_neg (by decide), if_neg (by decide), if_pos rfl]
  exact e1
theorem g_bastore {a j L : Nat} {x v : Int32} (hd : decode μ.2.1 pc = .ok (.bastore, 1)) (hk : mK M a = 13) (hN : mN M a = L) (hx : x = nI j) (hj : j < L) (hL : L < 2 ^ 31) (hv : v = 0 ∨ v = 1) (kk : GW μ R Q k q (pc + 1) lv st (stI M a j v) n) : GW μ R Q k q pc lv (.int v :: .int x :: .ref a :: st) M n := by
  intro p l e s m args below meth c D cy b H locs ls hC hP hS hl
  have hK : gK D cy s := hC.2.2.2.2.2.2.2.2.2.1
  have h1 := hP.rz hk
  have hi2 : 2 ≤ a := hP.two (by omega)
  have hnar : narrow .boolean (.int v) = .int v := by rcases hv with rfl | rfl <;> rfl
  rw [hN] at h1
  refine W.zast hC.x hC.b h1 ((hK.2 2 _ rfl).1 _ _) (fun h => by cases h) (g_in hx hj hL) rfl rfl hd fun H1 e1 e2 e3 => ?_
  refine kk p l e s m args below meth c D cy b H1 _ ls hC (hP.put hi2 e2 e3 rfl rfl (fun j hj => ⟨up2_row _ _ hj, rfl, rfl⟩) ?_) (hS.put e2 e3 (gA_big hi2)) hl
  rw [hnar, hx, nI_clamp (by omega), arrV_store, g_upI] at e1
  have hk1 : mK (stI M a j v) a = 13 := hk
  have hN1 : mN (stI M a j v) a = L := hN
  unfold gAt gCell
  rw [hk1, hN1, if_neg (by decide), if_neg (by decide), if_neg (by decide), if_pos rfl]
  exact e1
/-- the length of an array of any kind -/
theorem g_alen {a L : Nat} (hd : decode μ.2.1 pc = .ok (.arraylength, 1)) (hk : 11 ≤ mK M a ∧ mK M a ≤ 15) (hN : mN M a = L) (kk : GW μ R Q k q (pc + 1) lv (.int (nI L) :: st) M n) : GW μ R Q k q pc lv (.ref a :: st) M n := by
  intro p l e s m args below meth c D cy b H locs ls hC hP hS hl
  have hK : gK D cy s := hC.2.2.2.2.2.2.2.2.2.1
  have hgo := kk p l e s m args below meth c D cy b H locs ls hC hP hS hl
  subst hN
  have h5 : mK M a = 11 ∨ mK M a = 12 ∨ mK M a = 13 ∨ mK M a = 14 ∨ mK M a = 15 := by omega
  rcases h5 with h | h | h | h | h
  · exact W.alen hC.x hC.b (hP.ri h) ((hK.2 0 _ rfl).1 _ _) (by rw [arrV_size]; rfl) rfl rfl hd hgo
  · exact W.alen hC.x hC.b (hP.rj h) ((hK.2 1 _ rfl).1 _ _) (by rw [arrV_size]; rfl) rfl rfl hd hgo
  · exact W.alen hC.x hC.b (hP.rz h) ((hK.2 2 _ rfl).1 _ _) (by rw [arrV_size]; rfl) rfl rfl hd hgo
  · exact W.alen hC.x hC.b (hP.rs h) ((hK.2 3 _ rfl).1 _ _) (by rw [arrV_size]; rfl) rfl rfl hd hgo
  · obtain ⟨cell, q1, q2, q3, q4, q5⟩ := hP.rq h
    exact W.alen (n := nI (mN M a)) (ty := .object "java/lang/Object") hC.x hC.b q1 ⟨fun z hz => (by rw [hz] at q4; cases q4), by rw [q2]; exact ((hK.2 4 _ rfl).1 0 (fun _ => .null)).2⟩ (by rw [q3]; rfl) rfl rfl hd hgo
/-- a SpanSet into a row of them -/
theorem g_aastoreS {a j L r : Nat} {x : Int32} (hd : decode μ.2.1 pc = .ok (.aastore, 1)) (hk : mK M a = 14) (hN : mN M a = L) (hx : x = nI j) (hj : j < L) (hL : L < 2 ^ 31) (hr : mK M r = 4) (kk : GW μ R Q k q (pc + 1) lv st (stR M a j (some r)) n) : GW μ R Q k q pc lv (.ref r :: .int x :: .ref a :: st) M n := by
  intro p l e s m args below meth c D cy b H locs ls hC hP hS hl
  have hK : gK D cy s := hC.2.2.2.2.2.2.2.2.2.1
  have h1 := hP.rs hk
  have hi2 : 2 ≤ a := hP.two (by omega)
  rw [hN] at h1
  obtain ⟨cellV, g1, g2, g3, -⟩ := hP.obj cl4 hr
  have hcls := (hK.1 4 _ cl4.1).2
  obtain ⟨kA, comp, k1, k2, k3, -⟩ := (hK.2 3 _ rfl).2
  have hcomp : comp = D.1 4 := Option.some.inj (k3.symm.trans hcls.1)
  subst hcomp
  obtain ⟨kC, hkC, -⟩ := hcls.2
  have hin := g_in (cA := cy 14) (f := fun j => va_rf (gO b (mR M a j))) hx hj hL
  refine W.aast hC.x hC.b h1 (fun z h => by cases h) (fun h => by cases h) k1 k2 rfl hkC ⟨fun z => hin (Or.inl z), Nat.not_le.mp fun z => hin (Or.inr z)⟩ g1 (fun z h => by rw [g3] at h; cases h) (by rw [g2]; exact hkC) (by rw [g2]; exact va_assign hcls) rfl rfl hd fun H1 e1 e2 e3 => ?_
  refine kk p l e s m args below meth c D cy b H1 _ ls hC (hP.put hi2 e2 e3 rfl rfl (fun j hj => ⟨rfl, rfl, up2_row _ _ hj⟩) ?_) (hS.put e2 e3 (gA_big hi2)) hl
  rw [hx, nI_clamp (by omega), arrV_store] at e1
  have e4 := g_upR b (mR M) a j (some r)
  rw [show (va_rf (gO b (some r))) = Value.ref (gA b r) from rfl] at e4
  rw [e4] at e1
  have hk1 : mK (stR M a j (some r)) a = 14 := hk
  have hN1 : mN (stR M a j (some r)) a = L := hN
  unfold gAt gCell
  rw [hk1, hN1, if_neg (by decide), if_neg (by decide), if_neg (by decide), if_neg (by decide), if_pos rfl]
  exact e1
/-- new int[], long[], boolean[] -/
theorem g_newarr {atype : ArrayType} {kd t0 L : Nat} {x : Int32} {ty : FieldType} (hd : decode μ.2.1 pc = .ok (.newarray atype, 2)) (hty : newarray.typeOf atype = ty) (hw : Cond.arrayClass ty ∈ gT) (ht : ∀ cy : Nat → ClassId, (gTys cy)[t0]? = some (cy kd, ty)) (hkd : kd = 11 ∧ ty = .int ∨ kd = 12 ∧ ty = .long ∨ kd = 13 ∧ ty = .boolean) (hx : x = nI L) (hL : L * componentBytes ty ≤ 536870912) (hL2 : L < 2 ^ 31) (h1 : k + 1 ≤ R.cells) (h2 : q + L ≤ R.slots)
    (kk : GW μ R Q (k + 1) (q + L) (pc + 2) lv (.ref n :: st) (stN M n kd L) (n + 1)) : GW μ R Q k q pc lv (.int x :: st) M n := by
  subst hty
  intro p l e s m args below meth c D cy b H locs ls hC hP hS hl
  have hts := hC.2.2.2.2.1
  have hK : gK D cy s := hC.2.2.2.2.2.2.2.2.2.1
  have hA : gA b n = H.size := by
    have h9 := hP.2.2.1
    unfold gA
    rw [if_neg (by omega), if_neg (by omega), hP.1]
  refine va_newaK hC.x hC.b (hts _ hw) rfl hd rfl (by rw [hx]; exact nI_pos hL2) (by rw [hx]; exact nI_clamp hL2) hL h1 h2 rfl fun H1 cA e1 z1 o1 hAr hNm => ?_
  have hcA : cA = cy kd := by
    have h9 := (hK.2 t0 _ (ht cy)).2
    have h8 : s.vm.findClass ("[" ++ (newarray.typeOf atype).toString) = some (cy kd) := by cases atype <;> exact h9
    exact Option.some.inj (hNm.symm.trans h8)
  subst hcA
  have hgo := kk p l e s m args below meth c D cy b H1 locs ls hC (hP.push z1 o1 ?_) ⟨Nat.le_trans hS.1 (by omega), fun z g1 g2 => (o1 z (Nat.lt_of_lt_of_le g1 hS.1)).trans (hS.2.1 z g1 g2), hS.2.2⟩ hl
  · have e9 : (Value.ref n :: st).map (gV b) = Value.ref H.size :: st.map (gV b) := by
      show Value.ref (gA b n) :: st.map (gV b) = _
      rw [hA]
    rw [e9] at hgo
    exact hgo
  · unfold gCell
    rcases hkd with ⟨rfl, h9⟩ | ⟨rfl, h9⟩ | ⟨rfl, h9⟩ <;> rw [h9] at e1
    · rw [if_neg (by decide), if_pos rfl]; exact e1
    · rw [if_neg (by decide), if_neg (by decide), if_pos rfl]; exact e1
    · rw [if_neg (by decide), if_neg (by decide), if_neg (by decide), if_pos rfl]; exact e1
/-- new SpanSet[], new Object[] -/
theorem g_anew {C : String} {kd t0 idx L : Nat} {x : Int32} (hd : decode μ.2.1 pc = .ok (.anewarray idx, 3)) (hw : Cond.classLink μ.1.cls idx C ∈ gT) (hkd : kd = 14 ∧ t0 = 3 ∧ C = RX3 ∨ kd = 15 ∧ t0 = 4 ∧ C = "java/lang/Object") (hx : x = nI L) (hL : L * 4 ≤ 536870912) (h1 : k + 1 ≤ R.cells) (h2 : q + L ≤ R.slots)
    (kk : GW μ R Q (k + 1) (q + L) (pc + 3) lv (.ref n :: st) (stN M n kd L) (n + 1)) : GW μ R Q k q pc lv (.int x :: st) M n := by
  intro p l e s m args below meth c D cy b H locs ls hC hP hS hl
  have hts := hC.2.2.2.2.1
  have hK : gK D cy s := hC.2.2.2.2.2.2.2.2.2.1
  have hZ := hC.2.2.2.2.2.2.2.2.2.2.1
  have hA : gA b n = H.size := by
    have h9 := hP.2.2.1
    unfold gA
    rw [if_neg (by omega), if_neg (by omega), hP.1]
  have hov : va_AO C s := by
    rcases hkd with ⟨-, -, rfl⟩ | ⟨-, -, rfl⟩
    · exact hZ.2.2.2.1
    · exact hZ.2.2.2.2.1
  have hRA : s.vm.findClass ("[" ++ (FieldType.object C).toString) = some (cy kd) := by
    rcases hkd with ⟨rfl, -, rfl⟩ | ⟨rfl, -, rfl⟩
    · obtain ⟨-, -, -, -, -, h⟩ := (hK.2 3 _ rfl).2; exact h
    · obtain ⟨-, -, -, -, -, h⟩ := (hK.2 4 _ rfl).2; exact h
  have hcl : x.toNatClampNeg = L := by rw [hx]; exact nI_clamp (by omega)
  refine W.anew hC.x hC.b hC.2.2.2.1 (hts _ hw) (va_AO.use hov) rfl hd rfl (by rw [hx]; exact nI_pos (by omega)) (by rw [hcl]; exact hL) h1 (by rw [hcl]; exact h2) fun cA kA comp f1 f2 f3 f4 => ?_
  rw [hcl]
  have hcA : cA = cy kd := Option.some.inj (f1.symm.trans hRA)
  subst hcA
  generalize hH1 : H.push ({ cls := cy kd, slots := Array.replicate L .null, vm := .none } : Cell) = H1
  have z1 : H1.size = H.size + 1 := by rw [← hH1, Array.size_push]
  have e1 : H1[H.size]? = some (arrV (cy kd) L (fun _ => .null)) := by rw [← hH1, Array.getElem?_push_size, ← arrV_new]
  have o1 : ∀ z : Nat, z < H.size → H1[z]? = H[z]? := fun z hz => by rw [← hH1, Array.getElem?_push, if_neg (Nat.ne_of_lt hz)]
  have hgo := kk p l e s m args below meth c D cy b H1 locs ls hC (hP.push z1 o1 ?_) ⟨Nat.le_trans hS.1 (by omega), fun z g1 g2 => (o1 z (Nat.lt_of_lt_of_le g1 hS.1)).trans (hS.2.1 z g1 g2), hS.2.2⟩ hl
  · have e9 : (Value.ref n :: st).map (gV b) = Value.ref H.size :: st.map (gV b) := by
      show Value.ref (gA b n) :: st.map (gV b) = _
      rw [hA]
    rw [e9] at hgo
    exact hgo
  · unfold gCell
    rcases hkd with ⟨rfl, -, -⟩ | ⟨rfl, -, -⟩
    · simpa [gO, va_rf] using e1
    · rw [if_neg (by decide), if_neg (by decide), if_neg (by decide), if_neg (by decide), if_neg (by decide), if_pos rfl]
      exact Or.inl e1
end GA
