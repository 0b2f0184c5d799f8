/-! the class: a trial from its start to its end -/
def hwE (len : Nat) (x : Int32) (b : Bool) : Int32 := if x = -1 then 1 else if ¬ isN len x then 0 else if b = true then 2 else 3
theorem wS.offQ {M M1 : gM} {p u d bs q : Nat} {E : Nat → Nat} {P : List St} (h : wS M p u d bs E P) (hqu : u + 28 < q) (hqb : q + 1 < bs) (ho : Off M M1 (fQ q)) : wS M1 p u d bs E P := by
  obtain ⟨h1, h2, h3, h4, ⟨T, h5⟩, h6, h7, h8, h9, h10, h11⟩ := h
  have low : ∀ i k, i < q → ¬ fQ q i k := fun i k hi z => by unfold fQ at z; omega
  have own : ∀ j k, j < P.length → ¬ fQ q (E j) k := fun j k hj z => by have := h10 j hj; unfold fQ at z; omega
  exact ⟨h1.off ho, h2.off ho, h3.off ho (low _ _ (by omega)), h4.off ho, ⟨T, h5.off ho (fun i k z => low i k (by unfold fT2 at z; omega))⟩, h6, fun k hk => ⟨(h7 k hk).1.off ho (fun j hj => own k j hk), (ho.i (own k 5 hk)).trans (h7 k hk).2⟩, h8, h9, h10, h11⟩
theorem fE.offQ {M M1 : gM} {p u d bs q : Nat} {E : Nat → Nat} {P : List St} {A : RA} {st : Nat → Bool} (h : fE M E P.length A st) (hW : wS M p u d bs E P) (hqb : q + 1 < bs) (ho : Off M M1 (fQ q)) : fE M1 E P.length A st := h.off ho (fun j i k hj z h1 h2 => by
  have := hW.2.2.2.2.2.2.2.2.2.1 j hj
  unfold fQ at z
  omega)
set_option maxHeartbeats 4000000 in
set_option maxRecDepth 100000 in
theorem k_fo122 {M M1 : gM} {n p u d bs q : Nat} {E : Nat → Nat} {P : List St} {A : RA} {st : Nat → Bool} {k s : Int32} {w : Nat × Int32 × (Nat → Int32)} {x : Int32} {dn : Nat} {l : Int} {now : Nat → Int32} (hW : wS M p u d bs E P) (hq0 : qR M q p) (hf : fE M E P.length A st) (hqu : u + 28 < q) (hqb : q + 1 < bs) (hk : 0 ≤ k.toInt ∧ k.toInt ≤ 5000) (hdn : dn ≤ pl k) (hI : vI M M1 q l now) (hw : w = (dn, hwE P.length x (decide (dn = pl k)), now)) : GW μX7_follow (gRm 3 68 0 0) (gTh (fun r M2 n1 => r = some (.int (nI w.1)) ∧ n1 = n ∧ Off M M2 (fQ q) ∧ mI M2 q 3 = w.2.1 ∧ ∀ p, p < 8 → mI M2 (q + 1) p = w.2.2 p) 0 0) 0 0 122 [some (.ref q), some (.int k), some (.int s), some (.int x), some (.int (nI dn))] [] M1 n := by
  have hq1 := hq0.off hI.1
  have hW1 := hW.offQ hqu hqb hI.1
  have hpk : pl k ≤ 5000 := by unfold pl; omega
  refine g_aload_n dX7_follow_122 rfl ?_
  refine g_aload_n dX7_follow_123 rfl ?_
  refine g_iload_n dX7_follow_124 rfl ?_
  refine g_iload dX7_follow_125 rfl ?_
  refine g_iload_n dX7_follow_127 rfl ?_
  skip
  refine g_icmp_ne (tgt := 135) dX7_follow_128 (by decide) (fun c_128 => ?_) (fun c_128 => ?_)
  · skip
    refine g_iconst (v := nI 0) dX7_follow_135 rfl ?_
    have e9 : ∀ z : Int32, (z = nI 1 ∧ nI dn = k) ∨ (z = nI 0 ∧ ¬ nI dn = k) → z = bI (decide (dn = pl k)) := fun z hz => by
      have e8 : nI dn = k ↔ dn = pl k := by
        constructor
        · intro h
          have h9 := pl_eq hk.1
          rw [h9] at h
          rw [nI_inj (by omega) (by omega)] at h
          exact h
        · intro h; rw [h]; exact (pl_eq hk.1).symm
      rw [e8] at hz
      rcases hz with ⟨rfl, h⟩ | ⟨rfl, h⟩
      · rw [decide_eq_true h]; rfl
      · rw [decide_eq_false h]; rfl
    first
      | rw [e9 (nI 1) (Or.inl ⟨rfl, c_128⟩)]
      | rw [e9 (nI 0) (Or.inr ⟨rfl, c_128⟩)]
    refine g_callV dX7_follow_136 sX7_howItEnded (c_how M1 n q p d P.length E x (decide (dn = pl k)) hq1 hW1.1 hW1.2.2.1) cl8 hq1.1 iX7_howItEnded vX7_howItEnded (iw_37 15 rfl) rfl rfl (Nat.le_of_ble_eq_true rfl) (Nat.le_of_ble_eq_true rfl) (Nat.le_of_ble_eq_true rfl) (Nat.le_of_ble_eq_true rfl) (Nat.le_of_ble_eq_true rfl) ?_
    intro r9 M9 n9 h9
    obtain ⟨h91, h92, h93⟩ := h9
    rw [h91, h92, h93]
    clear h91 h92 h93 r9 M9 n9
    refine g_putI (f := 3) dX7_follow_139 cl8 hq1.1 (by decide) (Or.inl (iw_5 14 rfl)) (Or.inl rfl) (Or.inl rfl) (Or.inl rfl) ?_
    refine g_iload dX7_follow_142 rfl ?_
    exact g_iret dX7_follow_144 (Or.inl rfl) (Nat.le_of_ble_eq_true rfl) (Nat.le_of_ble_eq_true rfl) (by
      rw [hw]
      refine ⟨rfl, rfl, hI.1.stI (Or.inl ⟨rfl, Or.inr rfl⟩), ?_, fun p hp => ?_⟩
      · rw [mI_st, if_pos ⟨rfl, rfl⟩]; rfl
      · rw [mI_st, if_neg (by omega)]; exact hI.2.2.2 p hp)
  · skip
    refine g_iconst (v := nI 1) dX7_follow_131 rfl ?_
    refine g_goto (tgt := 136) dX7_follow_132 (by decide) ?_
    have e9 : ∀ z : Int32, (z = nI 1 ∧ nI dn = k) ∨ (z = nI 0 ∧ ¬ nI dn = k) → z = bI (decide (dn = pl k)) := fun z hz => by
      have e8 : nI dn = k ↔ dn = pl k := by
        constructor
        · intro h
          have h9 := pl_eq hk.1
          rw [h9] at h
          rw [nI_inj (by omega) (by omega)] at h
          exact h
        · intro h; rw [h]; exact (pl_eq hk.1).symm
      rw [e8] at hz
      rcases hz with ⟨rfl, h⟩ | ⟨rfl, h⟩
      · rw [decide_eq_true h]; rfl
      · rw [decide_eq_false h]; rfl
    first
      | rw [e9 (nI 1) (Or.inl ⟨rfl, c_128⟩)]
      | rw [e9 (nI 0) (Or.inr ⟨rfl, c_128⟩)]
    refine g_callV dX7_follow_136 sX7_howItEnded (c_how M1 n q p d P.length E x (decide (dn = pl k)) hq1 hW1.1 hW1.2.2.1) cl8 hq1.1 iX7_howItEnded vX7_howItEnded (iw_37 15 rfl) rfl rfl (Nat.le_of_ble_eq_true rfl) (Nat.le_of_ble_eq_true rfl) (Nat.le_of_ble_eq_true rfl) (Nat.le_of_ble_eq_true rfl) (Nat.le_of_ble_eq_true rfl) ?_
    intro r9 M9 n9 h9
    obtain ⟨h91, h92, h93⟩ := h9
    rw [h91, h92, h93]
    clear h91 h92 h93 r9 M9 n9
    refine g_putI (f := 3) dX7_follow_139 cl8 hq1.1 (by decide) (Or.inl (iw_5 14 rfl)) (Or.inl rfl) (Or.inl rfl) (Or.inl rfl) ?_
    refine g_iload dX7_follow_142 rfl ?_
    exact g_iret dX7_follow_144 (Or.inl rfl) (Nat.le_of_ble_eq_true rfl) (Nat.le_of_ble_eq_true rfl) (by
      rw [hw]
      refine ⟨rfl, rfl, hI.1.stI (Or.inl ⟨rfl, Or.inr rfl⟩), ?_, fun p hp => ?_⟩
      · rw [mI_st, if_pos ⟨rfl, rfl⟩]; rfl
      · rw [mI_st, if_neg (by omega)]; exact hI.2.2.2 p hp)

set_option maxHeartbeats 4000000 in
set_option maxRecDepth 100000 in
theorem k_fo56e {M M1 : gM} {n p u d bs q : Nat} {E : Nat → Nat} {P : List St} {A : RA} {st : Nat → Bool} {k s : Int32} {w : Nat × Int32 × (Nat → Int32)} {x : Int32} {dn : Nat} {l : Int} {now : Nat → Int32} (hW : wS M p u d bs E P) (hq0 : qR M q p) (hf : fE M E P.length A st) (hqu : u + 28 < q) (hqb : q + 1 < bs) (hk : 0 ≤ k.toInt ∧ k.toInt ≤ 5000) (hdn : dn ≤ pl k) (hI : vI M M1 q l now) (hx : ¬ isN P.length x) (hw : w = (dn, if x = -1 then 1 else 0, now)) : GW μX7_follow (gRm 3 68 0 0) (gTh (fun r M2 n1 => r = some (.int (nI w.1)) ∧ n1 = n ∧ Off M M2 (fQ q) ∧ mI M2 q 3 = w.2.1 ∧ ∀ p, p < 8 → mI M2 (q + 1) p = w.2.2 p) 0 0) 0 0 56 [some (.ref q), some (.int k), some (.int s), some (.int x), some (.int (nI dn))] [] M1 n := by
  have hq1 := hq0.off hI.1
  have hW1 := hW.offQ hqu hqb hI.1
  refine g_iload dX7_follow_56 rfl ?_
  refine g_iload_n dX7_follow_58 rfl ?_
  refine g_icmp_ge (tgt := 122) dX7_follow_59 (by decide) (fun c_59 => ?_) (fun c_59 => ?_)
  · skip
    exact k_fo122 hW hq0 hf hqu hqb hk hdn hI (by rw [hw]; unfold hwE; rw [if_pos hx])
  · skip
    refine g_aload_n dX7_follow_62 rfl ?_
    refine g_getR (f := 0) dX7_follow_63 cl8 hq1.1 (by decide) (Or.inl (iw_5 15 rfl)) (Or.inl rfl) rfl hq1.2.1 ?_
    refine g_iload_n dX7_follow_66 rfl ?_
    refine g_callV dX7_follow_67 sX1_isThere (c_isThere M1 n p d P.length E x hW1.1 hW1.2.2.1) cl2 hW1.1.1 iX1_isThere vX1_isThere (iw_36 17 rfl) rfl rfl (Nat.le_of_ble_eq_true rfl) (Nat.le_of_ble_eq_true rfl) (Nat.le_of_ble_eq_true rfl) (Nat.le_of_ble_eq_true rfl) (Nat.le_of_ble_eq_true rfl) ?_
    intro r9 M9 n9 h9
    obtain ⟨h91, h92, h93⟩ := h9
    rw [h91, h92, h93]
    clear h91 h92 h93 r9 M9 n9
    refine g_if_eq (tgt := 122) dX7_follow_70 (by decide) (fun c_70 => ?_) (fun c_70 => ?_)
    · skip
      exact k_fo122 hW hq0 hf hqu hqb hk hdn hI (by rw [hw]; unfold hwE; rw [if_pos hx])
    · skip
      exact absurd (dT c_70) hx

set_option maxHeartbeats 4000000 in
set_option maxRecDepth 100000 in
theorem k_fo56 {M : gM} {n p u d bs q : Nat} {E : Nat → Nat} {P : List St} {A : RA} {st : Nat → Bool} {k s : Int32} {w : Nat × Int32 × (Nat → Int32)} (hW : wS M p u d bs E P) (hq0 : qR M q p) (hf : fE M E P.length A st) (hqu : u + 28 < q) (hqb : q + 1 < bs) (hk : 0 ≤ k.toInt ∧ k.toInt ≤ 5000) : ∀ (d9 : Nat) (a : Nat) (l : Int) (now : Nat → Int32) (dn : Nat) (M1 : gM), pl k - dn < d9 → a ≤ 40 → dn ≤ pl k → vI M M1 q l now → w = hlZ P A (pl k - dn) a l now dn → GW μX7_follow (gRm 3 68 0 0) (gTh (fun r M2 n1 => r = some (.int (nI w.1)) ∧ n1 = n ∧ Off M M2 (fQ q) ∧ mI M2 q 3 = w.2.1 ∧ ∀ p, p < 8 → mI M2 (q + 1) p = w.2.2 p) 0 0) 0 0 56 [some (.ref q), some (.int k), some (.int s), some (.int (nI a)), some (.int (nI dn))] [] M1 n := by
  intro d9
  induction d9 with
  | zero =>
    intro a l now dn M1 hd ha hdn hI hw
    omega
  | succ d9 ih =>
    intro a l now dn M1 hd ha hdn hI hw
    have hvP := hW.2.2.2.2.2.1
    have hl40 := hvP.1
    have hq1 := hq0.off hI.1
    have hW1 := hW.offQ hqu hqb hI.1
    have hf1 := hf.offQ hW hqb hI.1
    have hpk : pl k ≤ 5000 := by unfold pl; omega
    have hke := pl_eq hk.1
    refine g_iload dX7_follow_56 rfl ?_
    refine g_iload_n dX7_follow_58 rfl ?_
    refine g_icmp_ge (tgt := 122) dX7_follow_59 (by decide) (fun c_59 => ?_) (fun c_59 => ?_)
    · skip
      refine k_fo122 hW hq0 hf hqu hqb hk hdn hI ?_
      rw [hw]
      have n1 : ¬ nI a = -1 := fun z => by
        have h9 : (nI a).toInt = (-1 : Int32).toInt := by rw [z]
        rw [nI_t (by omega), show (-1 : Int32).toInt = -1 from rfl] at h9
        omega
      unfold hwE
      rw [if_neg n1]
      first
        | (rw [bI_eq0] at c_91
           have hin := dT c_70
           rw [if_neg (fun z => z hin), if_neg (by rw [decide_eq_false (show ¬ dn = pl k by omega)]; decide)]
           show (if P.length ≤ a then _ else if wtK (aF A a) now (aR A a) 8 = false then _ else _) = _
           rw [if_neg (by omega), if_pos c_91])
        | (have hin : ¬ isN P.length (nI a) := dF c_70
           rw [if_pos hin]
           have hal : ¬ a < P.length := fun z => hin ((isN_lt (by omega)).mpr z)
           show (if P.length ≤ a then _ else _) = _
           rw [if_pos (by omega)])
        | (rw [hke, nI_leI (by omega) (by omega)] at c_59
           have hdk : dn = pl k := by omega
           rw [hdk, Nat.sub_self]
           show (if P.length ≤ a then _ else _) = _
           by_cases hal : P.length ≤ a
           · rw [if_pos hal, if_pos (fun z => by have := (isN_lt (by omega)).mp z; omega)]
           · rw [if_neg hal, if_neg (fun z => z ((isN_lt (by omega)).mpr (by omega))), if_pos (decide_eq_true rfl)])
    · skip
      rw [hke, nI_leI (by omega) (by omega)] at c_59
      obtain ⟨r, hr⟩ : ∃ r, pl k - dn = r + 1 := ⟨pl k - dn - 1, by omega⟩
      rw [hr] at hw
      refine g_aload_n dX7_follow_62 rfl ?_
      refine g_getR (f := 0) dX7_follow_63 cl8 hq1.1 (by decide) (Or.inl (iw_5 15 rfl)) (Or.inl rfl) rfl hq1.2.1 ?_
      refine g_iload_n dX7_follow_66 rfl ?_
      refine g_callV dX7_follow_67 sX1_isThere (c_isThere M1 n p d P.length E (nI a) hW1.1 hW1.2.2.1) cl2 hW1.1.1 iX1_isThere vX1_isThere (iw_36 17 rfl) rfl rfl (Nat.le_of_ble_eq_true rfl) (Nat.le_of_ble_eq_true rfl) (Nat.le_of_ble_eq_true rfl) (Nat.le_of_ble_eq_true rfl) (Nat.le_of_ble_eq_true rfl) ?_
      intro r9 M9 n9 h9
      obtain ⟨h91, h92, h93⟩ := h9
      rw [h91, h92, h93]
      clear h91 h92 h93 r9 M9 n9
      refine g_if_eq (tgt := 122) dX7_follow_70 (by decide) (fun c_70 => ?_) (fun c_70 => ?_)
      · skip
        refine k_fo122 hW hq0 hf hqu hqb hk hdn hI ?_
        rw [hw]
        have n1 : ¬ nI a = -1 := fun z => by
          have h9 : (nI a).toInt = (-1 : Int32).toInt := by rw [z]
          rw [nI_t (by omega), show (-1 : Int32).toInt = -1 from rfl] at h9
          omega
        unfold hwE
        rw [if_neg n1]
        first
          | (rw [bI_eq0] at c_91
             have hin := dT c_70
             rw [if_neg (fun z => z hin), if_neg (by rw [decide_eq_false (show ¬ dn = pl k by omega)]; decide)]
             show (if P.length ≤ a then _ else if wtK (aF A a) now (aR A a) 8 = false then _ else _) = _
             rw [if_neg (by omega), if_pos c_91])
          | (have hin : ¬ isN P.length (nI a) := dF c_70
             rw [if_pos hin]
             have hal : ¬ a < P.length := fun z => hin ((isN_lt (by omega)).mpr z)
             show (if P.length ≤ a then _ else _) = _
             rw [if_pos (by omega)])
          | (rw [hke, nI_leI (by omega) (by omega)] at c_59
             have hdk : dn = pl k := by omega
             rw [hdk, Nat.sub_self]
             show (if P.length ≤ a then _ else _) = _
             by_cases hal : P.length ≤ a
             · rw [if_pos hal, if_pos (fun z => by have := (isN_lt (by omega)).mp z; omega)]
             · rw [if_neg hal, if_neg (fun z => z ((isN_lt (by omega)).mpr (by omega))), if_pos (decide_eq_true rfl)])
      · skip
        have hal := (isN_lt (by omega)).mp (dT c_70)
        have hs1 := (hW1.2.2.2.2.2.2.1 a hal).1
        have hbs := hW.2.2.2.2.2.2.2.2.2.1 a hal
        obtain ⟨k1, k2, k3, k4⟩ := hf1 a hal
        refine g_aload_n dX7_follow_73 rfl ?_
        refine g_aload_n dX7_follow_74 rfl ?_
        refine g_getR (f := 0) dX7_follow_75 cl8 hq1.1 (by decide) (Or.inl (iw_5 15 rfl)) (Or.inl rfl) rfl hq1.2.1 ?_
        refine g_getR (f := 0) dX7_follow_78 cl2 hW1.1.1 (by decide) (Or.inr (List.mem_of_getElem? (i := 34) rfl)) (Or.inl rfl) rfl hW1.1.2.1 ?_
        refine g_iload_n dX7_follow_81 rfl ?_
        refine g_callV dX7_follow_82 sJx4a65c_get_915e3 (j_get M1 n (p + 1) d P.length a E hW1.2.2.1 hal) cl0 hW1.2.2.1.1 iJx4a65c_get_915e3 vJx4a65c_get_915e3 (iw_36 18 rfl) rfl rfl (Nat.le_of_ble_eq_true rfl) (Nat.le_of_ble_eq_true rfl) (Nat.le_of_ble_eq_true rfl) (Nat.le_of_ble_eq_true rfl) (Nat.le_of_ble_eq_true rfl) ?_
        intro r9 M9 n9 h9
        obtain ⟨h91, h92, h93⟩ := h9
        rw [h91, h92, h93]
        clear h91 h92 h93 r9 M9 n9
        refine g_castSt dX7_follow_85 (iw_36 8 rfl) hs1.1 ?_
        refine g_callV dX7_follow_88 sX7_liesWithin (c_lies M1 n q p (E a) (P.getD a st0) (aF A a) now (aR A a) hq1 hs1 k1 k4 hI.2.2.2) cl8 hq1.1 iX7_liesWithin vX7_liesWithin (iw_36 19 rfl) rfl rfl (Nat.le_of_ble_eq_true rfl) (Nat.le_of_ble_eq_true rfl) (Nat.le_of_ble_eq_true rfl) (Nat.le_of_ble_eq_true rfl) (Nat.le_of_ble_eq_true rfl) ?_
        intro r9 M9 n9 h9
        obtain ⟨h91, h92, h93⟩ := h9
        rw [h91, h92, h93]
        clear h91 h92 h93 r9 M9 n9
        refine g_if_eq (tgt := 122) dX7_follow_91 (by decide) (fun c_91 => ?_) (fun c_91 => ?_)
        · skip
          refine k_fo122 hW hq0 hf hqu hqb hk hdn hI ?_
          rw [hw]
          have n1 : ¬ nI a = -1 := fun z => by
            have h9 : (nI a).toInt = (-1 : Int32).toInt := by rw [z]
            rw [nI_t (by omega), show (-1 : Int32).toInt = -1 from rfl] at h9
            omega
          unfold hwE
          rw [if_neg n1]
          first
            | (rw [bI_eq0] at c_91
               have hin := dT c_70
               rw [if_neg (fun z => z hin), if_neg (by rw [decide_eq_false (show ¬ dn = pl k by omega)]; decide)]
               show (if P.length ≤ a then _ else if wtK (aF A a) now (aR A a) 8 = false then _ else _) = _
               rw [if_neg (by omega), if_pos c_91])
            | (have hin : ¬ isN P.length (nI a) := dF c_70
               rw [if_pos hin]
               have hal : ¬ a < P.length := fun z => hin ((isN_lt (by omega)).mpr z)
               show (if P.length ≤ a then _ else _) = _
               rw [if_pos (by omega)])
            | (rw [hke, nI_leI (by omega) (by omega)] at c_59
               have hdk : dn = pl k := by omega
               rw [hdk, Nat.sub_self]
               show (if P.length ≤ a then _ else _) = _
               by_cases hal : P.length ≤ a
               · rw [if_pos hal, if_pos (fun z => by have := (isN_lt (by omega)).mp z; omega)]
               · rw [if_neg hal, if_neg (fun z => z ((isN_lt (by omega)).mpr (by omega))), if_pos (decide_eq_true rfl)])
        · skip
          rw [bI_eq0, Bool.not_eq_false] at c_91
          refine g_aload_n dX7_follow_94 rfl ?_
          refine g_aload_n dX7_follow_95 rfl ?_
          refine g_getR (f := 0) dX7_follow_96 cl8 hq1.1 (by decide) (Or.inl (iw_5 15 rfl)) (Or.inl rfl) rfl hq1.2.1 ?_
          refine g_getR (f := 0) dX7_follow_99 cl2 hW1.1.1 (by decide) (Or.inr (List.mem_of_getElem? (i := 34) rfl)) (Or.inl rfl) rfl hW1.1.2.1 ?_
          refine g_iload_n dX7_follow_102 rfl ?_
          refine g_callV dX7_follow_103 sJx4a65c_get_915e3 (j_get M1 n (p + 1) d P.length a E hW1.2.2.1 hal) cl0 hW1.2.2.1.1 iJx4a65c_get_915e3 vJx4a65c_get_915e3 (iw_36 18 rfl) rfl rfl (Nat.le_of_ble_eq_true rfl) (Nat.le_of_ble_eq_true rfl) (Nat.le_of_ble_eq_true rfl) (Nat.le_of_ble_eq_true rfl) (Nat.le_of_ble_eq_true rfl) ?_
          intro r9 M9 n9 h9
          obtain ⟨h91, h92, h93⟩ := h9
          rw [h91, h92, h93]
          clear h91 h92 h93 r9 M9 n9
          refine g_castSt dX7_follow_106 (iw_36 8 rfl) hs1.1 ?_
          refine g_iload_n dX7_follow_109 rfl ?_
          refine g_iconst (v := nI 1) dX7_follow_110 rfl ?_
          refine g_iadd dX7_follow_111 ?_
          rw [nI_add]
          refine g_callV dX7_follow_112 sX7_doOne (c_doOne M M1 n q p (E a) a (P.getD a st0) l now hq0 (hW.2.2.2.2.2.2.1 a hal).1 (hvP.2 a hal) (by omega) hI) cl8 hq1.1 iX7_doOne vX7_doOne (iw_37 0 rfl) rfl rfl (Nat.le_of_ble_eq_true rfl) (Nat.le_of_ble_eq_true rfl) (Nat.le_of_ble_eq_true rfl) (Nat.le_of_ble_eq_true rfl) (Nat.le_of_ble_eq_true rfl) ?_
          intro r9 M2 n9 h9
          obtain ⟨h91, h93, hI2⟩ := h9
          rw [h91, h93]
          clear h91 h93 r9 n9
          refine g_istore_n dX7_follow_115 (Nat.le_of_ble_eq_true rfl) ?_
          refine g_iinc dX7_follow_116 rfl (nI_1 dn) (Nat.le_of_ble_eq_true rfl) ?_
          refine g_goto (tgt := 56) dX7_follow_119 (by decide) ?_
          have hvP := hW.2.2.2.2.2.1
          have hl40 := hvP.1
          have hq1 := hq0.off hI.1
          have hW1 := hW.offQ hqu hqb hI.1
          have hf1 := hf.offQ hW hqb hI.1
          have hpk : pl k ≤ 5000 := by unfold pl; omega
          have hke := pl_eq hk.1
          have hst := hvP.2 a hal
          have e9 : w = if (stZ (P.getD a st0) a l now).2.2.2 = -1 then hlZ P A r (stZ (P.getD a st0) a l now).1 (stZ (P.getD a st0) a l now).2.1 (stZ (P.getD a st0) a l now).2.2.1 (dn + 1) else (dn + 1, (stZ (P.getD a st0) a l now).2.2.2, (stZ (P.getD a st0) a l now).2.2.1) := by
            rw [hw]
            show (if P.length ≤ a then _ else if wtK (aF A a) now (aR A a) 8 = false then _ else _) = _
            rw [if_neg (by omega), if_neg (by rw [c_91]; decide)]
          have hnx := stZ_nx hst (show a < 40 by omega) l now
          have how3 : (stZ (P.getD a st0) a l now).2.2.2 = -1 ∨ (stZ (P.getD a st0) a l now).2.2.2 = 1 ∧ (P.getD a st0).1 ≠ 19 ∨ (stZ (P.getD a st0) a l now).2.2.2 = 0 ∧ (P.getD a st0).1 = 19 := by
            unfold stZ
            split
            · rename_i z; exact Or.inr (Or.inr ⟨rfl, z⟩)
            · rename_i z19
              split
              · exact Or.inl rfl
              · split
                · exact Or.inl rfl
                · split
                  · exact Or.inr (Or.inl ⟨rfl, z19⟩)
                  · exact Or.inl rfl
          rcases how3 with h3 | ⟨h3, h19⟩ | ⟨h3, h19⟩
          · rw [if_pos h3] at e9
            have ed : dnN (P.getD a st0) a l now = nI (stZ (P.getD a st0) a l now).1 := by
              unfold dnN
              have h19 : ¬ (P.getD a st0).1 = 19 := fun z => by
                unfold stZ at h3
                rw [if_pos z] at h3
                exact absurd (show (0 : Int32) = -1 from h3) (by decide)
              rw [if_neg h19, if_neg (by rw [h3]; decide)]
            rw [ed]
            exact ih _ _ _ (dn + 1) M2 (by omega) hnx (by omega) hI2 (by rw [e9, show pl k - (dn + 1) = r by omega])
          · rw [if_neg (by rw [h3]; decide)] at e9
            have ed : dnN (P.getD a st0) a l now = -1 := by unfold dnN; rw [if_neg h19, if_pos h3]
            rw [ed]
            exact k_fo56e hW hq0 hf hqu hqb hk (by omega) hI2 (fun z => absurd z.1 (by decide)) (by rw [e9, h3, if_pos rfl])
          · rw [if_neg (by rw [h3]; decide)] at e9
            have ed : dnN (P.getD a st0) a l now = nI 40 := by unfold dnN; rw [if_pos h19]
            rw [ed]
            exact k_fo56e hW hq0 hf hqu hqb hk (by omega) hI2 (fun z => by have := (isN_lt (by omega)).mp z; omega) (by rw [e9, h3, if_neg (by decide)])

set_option maxHeartbeats 4000000 in
set_option maxRecDepth 100000 in
theorem k_fo8 {M : gM} {n p u d bs q : Nat} {E : Nat → Nat} {P : List St} {A : RA} {st : Nat → Bool} {k s : Int32} {first : Ev} {now : Nat → Int32} {Q : gθ} (hW : wS M p u d bs E P) (hq0 : qR M q p) (hf : fE M E P.length A st) (hqu : u + 28 < q) (hqb : q + 1 < bs) (hF : sE M (p + 2) first) (hfd : gdF first) (hk : ∀ M1, vI M M1 q (dnK first s.toInt now 8).1 (dnK first s.toInt now 8).2 → GW μX7_follow (gRm 3 68 0 0) Q 0 0 51 [some (.ref q), some (.int k), some (.int s), none, none] [] M1 n) : ∀ (d9 : Nat) (j : Nat) (M1 : gM), 8 - j < d9 → j ≤ 8 → vI M M1 q (dnK first s.toInt now j).1 (dnK first s.toInt now j).2 → GW μX7_follow (gRm 3 68 0 0) Q 0 0 8 [some (.ref q), some (.int k), some (.int s), some (.int (nI j)), none] [] M1 n := by
  intro d9
  induction d9 with
  | zero =>
    intro j M1 hd hj hI
    omega
  | succ d9 ih =>
    intro j M1 hd hj hI
    have hq1 := hq0.off hI.1
    have hW1 := hW.offQ hqu hqb hI.1
    have hlay := hW.2.2.2.2.2.2.2.1
    have hF1 := hF.off hI.1 (fun i z h1 h2 w => by unfold fQ at w; omega)
    refine g_iload_n dX7_follow_8 rfl ?_
    refine g_bipush (v := nI 8) dX7_follow_9 rfl ?_
    refine g_icmp_ge (tgt := 51) dX7_follow_11 (by decide) (fun c_11 => ?_) (fun c_11 => ?_)
    · skip
      rw [nI_leI (by omega) (by omega)] at c_11
      refine g_drop 3 ?_
      rw [show j = 8 by omega] at hI
      exact hk M1 hI
    · skip
      rw [nI_leI (by omega) (by omega)] at c_11
      have hjl : j < 8 := by omega
      have nF := (hfd j hjl).2
      have okF := (hfd j hjl).1
      refine g_aload_n dX7_follow_14 rfl ?_
      refine g_getR (f := 0) dX7_follow_15 cl8 hq1.1 (by decide) (Or.inl (iw_5 15 rfl)) (Or.inl rfl) rfl hq1.2.1 ?_
      refine g_getR (f := 1) dX7_follow_18 cl2 hW1.1.1 (by decide) (Or.inr (List.mem_of_getElem? (i := 33) rfl)) (Or.inl rfl) rfl hW1.1.2.2.1 ?_
      refine g_iload_n dX7_follow_21 rfl ?_
      refine g_aaloadS dX7_follow_22 (j := j) hF1.1.1 hF1.1.2.1 rfl hjl (by decide) (hF1.1.2.2 j hjl).1 ?_
      refine g_astore dX7_follow_23 (Nat.le_of_ble_eq_true rfl) ?_
      refine g_aload_n dX7_follow_25 rfl ?_
      refine g_getR (f := 1) dX7_follow_26 cl8 hq1.1 (by decide) (Or.inl (iw_5 13 rfl)) (Or.inl rfl) rfl hq1.2.2.1 ?_
      refine g_iload_n dX7_follow_29 rfl ?_
      refine g_aload_n dX7_follow_30 rfl ?_
      refine g_aload dX7_follow_31 rfl ?_
      refine g_callV dX7_follow_33 sX3_least (c_least M1 n (p + 2 + 1 + j) (first j) (hF1.2 j hjl) nF) cl4 (hF1.2 j hjl).1 iX3_least vX3_least (iw_36 9 rfl) rfl rfl (Nat.le_of_ble_eq_true rfl) (Nat.le_of_ble_eq_true rfl) (Nat.le_of_ble_eq_true rfl) (Nat.le_of_ble_eq_true rfl) (Nat.le_of_ble_eq_true rfl) ?_
      intro r9 M9 n9 h9
      obtain ⟨h91, h92, h93⟩ := h9
      rw [h91, h92, h93]
      clear h91 h92 h93 r9 M9 n9
      refine g_aload dX7_follow_36 rfl ?_
      refine g_callV dX7_follow_38 sX3_greatest (c_greatest M1 n (p + 2 + 1 + j) (first j) (hF1.2 j hjl) nF) cl4 (hF1.2 j hjl).1 iX3_greatest vX3_greatest (iw_36 10 rfl) rfl rfl (Nat.le_of_ble_eq_true rfl) (Nat.le_of_ble_eq_true rfl) (Nat.le_of_ble_eq_true rfl) (Nat.le_of_ble_eq_true rfl) (Nat.le_of_ble_eq_true rfl) ?_
      intro r9 M9 n9 h9
      obtain ⟨h91, h92, h93⟩ := h9
      rw [h91, h92, h93]
      clear h91 h92 h93 r9 M9 n9
      refine g_callV dX7_follow_41 sX7_anyOf (c_anyOf M1 n q (dnK first s.toInt now j).1 (lo1 (first j)) (hi1 (first j)) hq1.1 hI.2.1 hI.2.2.1 (lo1_r okF nF) (hi1_r okF nF) (lo_hi okF nF)) cl8 hq1.1 iX7_anyOf vX7_anyOf (iw_36 11 rfl) rfl rfl (Nat.le_of_ble_eq_true rfl) (Nat.le_of_ble_eq_true rfl) (Nat.le_of_ble_eq_true rfl) (Nat.le_of_ble_eq_true rfl) (Nat.le_of_ble_eq_true rfl) ?_
      intro r9 M9 n9 h9
      obtain ⟨h91, h92, h93⟩ := h9
      rw [h91, h92, h93]
      clear h91 h92 h93 r9 M9 n9
      refine g_iastore dX7_follow_44 (j := j) hq1.2.2.2.1 hq1.2.2.2.2 rfl hjl (by decide) ?_
      refine g_drop 4 ?_
      refine g_iinc dX7_follow_45 rfl (nI_1 j) (Nat.le_of_ble_eq_true rfl) ?_
      refine g_goto (tgt := 8) dX7_follow_48 (by decide) ?_
      have hq1 := hq0.off hI.1
      have hW1 := hW.offQ hqu hqb hI.1
      have hlay := hW.2.2.2.2.2.2.2.1
      have hF1 := hF.off hI.1 (fun i z h1 h2 w => by unfold fQ at w; omega)
      exact ih (j + 1) _ (by omega) (by omega) ((hI.link (lk1_ok _)).put hjl)

set_option maxHeartbeats 4000000 in
set_option maxRecDepth 100000 in
theorem c_follow (M : gM) (n p u d bs q : Nat) (E : Nat → Nat) (P : List St) (A : RA) (st : Nat → Bool) (first : Ev) (now : Nat → Int32) (k s : Int32) (hW : wS M p u d bs E P) (hq0 : qR M q p) (hf : fE M E P.length A st) (hqu : u + 28 < q) (hqb : q + 1 < bs) (hF : sE M (p + 2) first) (hfd : gdF first) (hk : 0 ≤ k.toInt ∧ k.toInt ≤ 5000) (hs : okK s.toInt) (hn : ∀ p, p < 8 → mI M (q + 1) p = now p) : GM μX7_follow 3 68 0 0 [.ref q, .int k, .int s] M n (fun r M2 n1 => r = some (.int (nI (hlZ P A (pl k) 0 (dnK first s.toInt now 8).1 (dnK first s.toInt now 8).2 0).1)) ∧ n1 = n ∧ Off M M2 (fQ q) ∧ mI M2 q 3 = (hlZ P A (pl k) 0 (dnK first s.toInt now 8).1 (dnK first s.toInt now 8).2 0).2.1 ∧ ∀ p, p < 8 → mI M2 (q + 1) p = (hlZ P A (pl k) 0 (dnK first s.toInt now 8).1 (dnK first s.toInt now 8).2 0).2.2 p) := by
  refine GM.ofW (by decide) rfl (Nat.le_of_ble_eq_true rfl) rfl ?_
  refine g_aload_n dX7_follow_0 rfl ?_
  refine g_iload_n dX7_follow_1 rfl ?_
  refine g_i2l dX7_follow_2 ?_
  rw [i_j s]
  refine g_putJ (f := 2) dX7_follow_3 cl8 hq0.1 (by decide) (Or.inl (iw_36 7 rfl)) (Or.inl rfl) (Or.inl rfl) rfl ?_
  refine g_iconst (v := nI 0) dX7_follow_6 rfl ?_
  refine g_istore_n dX7_follow_7 (Nat.le_of_ble_eq_true rfl) ?_
  have hI0 : vI M (stJ M q 2 (jI s.toInt)) q s.toInt now := ⟨Off.rf.stJ (Or.inl ⟨rfl, Or.inl rfl⟩), by rw [mJ_st, if_pos ⟨rfl, rfl⟩], hs, fun p hp => by rw [mI_sJ]; exact hn p hp⟩
  refine k_fo8 hW hq0 hf hqu hqb hF hfd (fun M1 hI => ?_) 9 0 _ (by omega) (by omega) hI0
  refine g_iconst (v := nI 0) dX7_follow_51 rfl ?_
  refine g_istore_n dX7_follow_52 (Nat.le_of_ble_eq_true rfl) ?_
  refine g_iconst (v := nI 0) dX7_follow_53 rfl ?_
  refine g_istore dX7_follow_54 (Nat.le_of_ble_eq_true rfl) ?_
  exact k_fo56 hW hq0 hf hqu hqb hk (pl k + 1) 0 _ _ 0 M1 (by omega) (by omega) (by omega) hI rfl

