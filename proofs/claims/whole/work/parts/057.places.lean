/-! lists of spans, by places: one of two, apart, rising, closest -/
theorem inL_ix {L : List Sp} {z : Int} : inL L z ↔ ∃ i, i < L.length ∧ (L.getD i (0, 0)).1 ≤ z ∧ z ≤ (L.getD i (0, 0)).2 := by
  unfold inL
  constructor
  · rintro ⟨p, hp, h⟩
    obtain ⟨i, hi, e⟩ := List.mem_iff_getElem.mp hp
    refine ⟨i, hi, ?_⟩
    rw [List.getD_eq_getElem?_getD, List.getElem?_eq_getElem hi, e]
    exact h
  · rintro ⟨i, hi, h⟩
    exact ⟨_, getD_mem hi, h⟩
def tch (p r : Sp) : Prop := p.1 ≤ r.2 + 1 ∧ r.1 ≤ p.2 + 1
/-- the a-th and the b-th become one, at a -/
def unL (L : List Sp) (a b : Nat) : List Sp := (L.set a (min (L.getD a (0, 0)).1 (L.getD b (0, 0)).1, max (L.getD a (0, 0)).2 (L.getD b (0, 0)).2)).eraseIdx b
theorem unL_len {L : List Sp} {a b : Nat} (hb : b < L.length) : (unL L a b).length = L.length - 1 := by
  unfold unL
  rw [List.length_eraseIdx, List.length_set, if_pos hb]
theorem setGetD (L : List Sp) (a : Nat) (p : Sp) (k : Nat) (hk : k < L.length) : (L.set a p).getD k (0, 0) = if k = a then p else L.getD k (0, 0) := by
  rw [List.getD_eq_getElem?_getD, List.getElem?_set, List.getD_eq_getElem?_getD]
  by_cases h : k = a
  · subst h; simp [hk]
  · simp [h, Ne.symm h]
theorem erase_getD (L : List Sp) (b k : Nat) : (L.eraseIdx b).getD k (0, 0) = if k < b then L.getD k (0, 0) else L.getD (k + 1) (0, 0) := by
  rw [List.getD_eq_getElem?_getD, List.getElem?_eraseIdx]
  by_cases h : k < b
  · simp [h, List.getD_eq_getElem?_getD]
  · simp [h, List.getD_eq_getElem?_getD]
theorem unL_getD {L : List Sp} {a b k : Nat} (hab : a < b) (hb : b < L.length) (hk : k < L.length - 1) : (unL L a b).getD k (0, 0) = if k = a then (min (L.getD a (0, 0)).1 (L.getD b (0, 0)).1, max (L.getD a (0, 0)).2 (L.getD b (0, 0)).2) else if k < b then L.getD k (0, 0) else L.getD (k + 1) (0, 0) := by
  unfold unL
  rw [erase_getD]
  by_cases h : k < b
  · rw [if_pos h, setGetD _ _ _ _ (by omega), if_pos h]
  · rw [if_neg h, setGetD _ _ _ _ (by omega), if_neg (by omega), if_neg (by omega), if_neg h]
theorem unL_in {L : List Sp} {a b : Nat} (hab : a < b) (hb : b < L.length) (ht : tch (L.getD a (0, 0)) (L.getD b (0, 0))) (hok : okL L) (z : Int) : inL (unL L a b) z ↔ inL L z := by
  have oka := hok _ (getD_mem (show a < L.length by omega))
  have okb := hok _ (getD_mem hb)
  obtain ⟨t1, t2⟩ := ht
  rw [inL_ix, inL_ix, unL_len hb]
  constructor
  · rintro ⟨i, hi, h⟩
    rw [unL_getD hab hb hi] at h
    by_cases e : i = a
    · rw [if_pos e] at h
      simp only at h
      by_cases q : (L.getD a (0, 0)).1 ≤ z ∧ z ≤ (L.getD a (0, 0)).2
      · exact ⟨a, by omega, q⟩
      · exact ⟨b, hb, by omega⟩
    · rw [if_neg e] at h
      by_cases q : i < b
      · rw [if_pos q] at h; exact ⟨i, by omega, h⟩
      · rw [if_neg q] at h; exact ⟨i + 1, by omega, h⟩
  · rintro ⟨i, hi, h⟩
    by_cases ea : i = a
    · subst ea
      refine ⟨i, by omega, ?_⟩
      rw [unL_getD hab hb (by omega), if_pos rfl]
      simp only
      omega
    · by_cases eb : i = b
      · subst eb
        refine ⟨a, by omega, ?_⟩
        rw [unL_getD hab hb (by omega), if_pos rfl]
        simp only
        omega
      · by_cases q : i < b
        · refine ⟨i, by omega, ?_⟩
          rw [unL_getD hab hb (by omega), if_neg ea, if_pos q]; exact h
        · refine ⟨i - 1, by omega, ?_⟩
          rw [unL_getD hab hb (by omega), if_neg (by omega), if_neg (by omega), show i - 1 + 1 = i by omega]; exact h
theorem mem_ix {L : List Sp} {p : Sp} : p ∈ L ↔ ∃ i, i < L.length ∧ L.getD i (0, 0) = p := by
  constructor
  · intro h
    obtain ⟨i, hi, e⟩ := List.mem_iff_getElem.mp h
    exact ⟨i, hi, by rw [List.getD_eq_getElem?_getD, List.getElem?_eq_getElem hi, e]; rfl⟩
  · rintro ⟨i, hi, e⟩
    rw [← e]; exact getD_mem hi
theorem unL_all {L : List Sp} {a b : Nat} (hab : a < b) (hb : b < L.length) {Pp : Sp → Prop} (h : ∀ p ∈ L, Pp p) (hm : Pp (min (L.getD a (0, 0)).1 (L.getD b (0, 0)).1, max (L.getD a (0, 0)).2 (L.getD b (0, 0)).2)) : ∀ p ∈ unL L a b, Pp p := by
  intro p hp
  obtain ⟨i, hi, e⟩ := mem_ix.mp hp
  rw [unL_len hb] at hi
  rw [unL_getD hab hb hi] at e
  split at e
  · rw [← e]; exact hm
  · split at e
    · rw [← e]; exact h _ (getD_mem (by omega))
    · rw [← e]; exact h _ (getD_mem (by omega))
theorem unL_ok {L : List Sp} {a b : Nat} (hab : a < b) (hb : b < L.length) (hok : okL L) : okL (unL L a b) := by
  have oka := hok _ (getD_mem (show a < L.length by omega))
  have okb := hok _ (getD_mem hb)
  exact unL_all hab hb (Pp := fun p => p.1 ≤ p.2) hok (by simp only; omega)
theorem unL_r5 {L : List Sp} {a b : Nat} (hab : a < b) (hb : b < L.length) (hr : r5L L) : r5L (unL L a b) := by
  have ra := hr _ (getD_mem (show a < L.length by omega))
  have rb := hr _ (getD_mem hb)
  exact unL_all hab hb (Pp := fun p => r5 p.1 ∧ r5 p.2) hr (by simp only; constructor <;> constructor <;> omega)
/-- no two touch -/
def apt (L : List Sp) : Prop := ∀ i j, i < j → j < L.length → ¬ tch (L.getD i (0, 0)) (L.getD j (0, 0))
/-- two change places -/
def swp (L : List Sp) (a b : Nat) : List Sp := (L.set a (L.getD b (0, 0))).set b (L.getD a (0, 0))
theorem swp_len (L : List Sp) (a b : Nat) : (swp L a b).length = L.length := by simp [swp]
theorem swp_getD {L : List Sp} {a b k : Nat} (hk : k < L.length) : (swp L a b).getD k (0, 0) = if k = b then L.getD a (0, 0) else if k = a then L.getD b (0, 0) else L.getD k (0, 0) := by
  unfold swp
  rw [setGetD _ _ _ _ (by simpa using hk)]
  by_cases h : k = b
  · rw [if_pos h, if_pos h]
  · rw [if_neg h, if_neg h, setGetD _ _ _ _ hk]
theorem swp_in {L : List Sp} {a b : Nat} (ha : a < L.length) (hb : b < L.length) (z : Int) : inL (swp L a b) z ↔ inL L z := by
  rw [inL_ix, inL_ix, swp_len]
  have key : ∀ i, i < L.length → ∃ j, j < L.length ∧ (swp L a b).getD j (0, 0) = L.getD i (0, 0) := by
    intro i hi
    by_cases e1 : i = a
    · exact ⟨b, hb, by rw [swp_getD hb, if_pos rfl, e1]⟩
    · by_cases e2 : i = b
      · refine ⟨a, ha, ?_⟩
        rw [swp_getD ha]
        by_cases e3 : a = b
        · rw [if_pos e3, e2, e3]
        · rw [if_neg e3, if_pos rfl, e2]
      · exact ⟨i, hi, by rw [swp_getD hi, if_neg e2, if_neg e1]⟩
  constructor
  · rintro ⟨i, hi, h⟩
    rw [swp_getD hi] at h
    split at h
    · exact ⟨a, ha, h⟩
    · split at h
      · exact ⟨b, hb, h⟩
      · exact ⟨i, hi, h⟩
  · rintro ⟨i, hi, h⟩
    obtain ⟨j, hj, e⟩ := key i hi
    exact ⟨j, hj, by rw [e]; exact h⟩
theorem swp_all {L : List Sp} {a b : Nat} (ha : a < L.length) (hb : b < L.length) {Pp : Sp → Prop} (h : ∀ p ∈ L, Pp p) : ∀ p ∈ swp L a b, Pp p := by
  intro p hp
  obtain ⟨i, hi, e⟩ := mem_ix.mp hp
  rw [swp_len] at hi
  rw [swp_getD hi] at e
  split at e
  · rw [← e]; exact h _ (getD_mem ha)
  · split at e
    · rw [← e]; exact h _ (getD_mem hb)
    · rw [← e]; exact h _ (getD_mem hi)
theorem tch_sym {p r : Sp} : tch p r ↔ tch r p := ⟨fun h => ⟨h.2, h.1⟩, fun h => ⟨h.2, h.1⟩⟩
theorem apt_ne {L : List Sp} (h : apt L) {i j : Nat} (hi : i < L.length) (hj : j < L.length) (e : i ≠ j) : ¬ tch (L.getD i (0, 0)) (L.getD j (0, 0)) := by
  rcases Nat.lt_or_gt_of_ne e with q | q
  · exact h i j q hj
  · exact fun t => h j i q hi (tch_sym.mp t)
theorem swp_apt {L : List Sp} {a b : Nat} (ha : a < L.length) (hb : b < L.length) (h : apt L) : apt (swp L a b) := by
  intro i j hij hj
  rw [swp_len] at hj
  obtain ⟨f, hf⟩ : ∃ f : Nat → Nat, f = fun k => if k = b then a else if k = a then b else k := ⟨_, rfl⟩
  have key : ∀ k, k < L.length → (swp L a b).getD k (0, 0) = L.getD (f k) (0, 0) ∧ f k < L.length := by
    intro k hk
    rw [swp_getD hk, hf]
    simp only
    by_cases e1 : k = b
    · rw [if_pos e1, if_pos e1]; exact ⟨rfl, ha⟩
    · rw [if_neg e1, if_neg e1]
      by_cases e2 : k = a
      · rw [if_pos e2, if_pos e2]; exact ⟨rfl, hb⟩
      · rw [if_neg e2, if_neg e2]; exact ⟨rfl, hk⟩
  have inj : f i ≠ f j := by
    rw [hf]
    simp only
    split <;> split <;> (try split) <;> (try split) <;> omega
  rw [(key i (by omega)).1, (key j hj).1]
  exact apt_ne h (key i (by omega)).2 (key j hj).2 inj
/-- the first a places rise, and all behind them lie above -/
def srt (L : List Sp) (a : Nat) : Prop := ∀ i j, i < a → i < j → j < L.length → (L.getD i (0, 0)).1 < (L.getD j (0, 0)).1
theorem cn_ix : ∀ (L : List Sp), okL L → (∀ i, i + 1 < L.length → (L.getD i (0, 0)).2 + 2 ≤ (L.getD (i + 1) (0, 0)).1) → cn L
  | [], _, _ => trivial
  | [p], h, _ => h p List.mem_cons_self
  | p :: r :: l, h, hs => ⟨h p List.mem_cons_self, by simpa using hs 0 (by simp), cn_ix (r :: l) (fun q hq => h q (List.mem_cons_of_mem _ hq)) (fun i hi => by
      have := hs (i + 1) (by simp at hi ⊢; omega)
      simpa using this)⟩
theorem cn_of {L : List Sp} (hok : okL L) (ha : apt L) (hs : srt L L.length) : cn L := by
  refine cn_ix L hok (fun i hi => ?_)
  have h1 := hs i (i + 1) (by omega) (by omega) hi
  have h2 := ha i (i + 1) (by omega) hi
  have o1 := hok _ (getD_mem (show i < L.length by omega))
  have o2 := hok _ (getD_mem hi)
  unfold tch at h2
  omega
theorem ix_cn {L : List Sp} (h : cn L) {i : Nat} (hi : i + 1 < L.length) : (L.getD i (0, 0)).2 + 2 ≤ (L.getD (i + 1) (0, 0)).1 := by
  induction L generalizing i with
  | nil => simp at hi
  | cons p l ih =>
    cases l with
    | nil => simp at hi
    | cons r l =>
      cases i with
      | zero => simpa using h.2.1
      | succ i => simpa using ih h.2.2 (by simp at hi ⊢; omega)
theorem cn_okL {L : List Sp} (h : cn L) : okL L := by
  induction L with
  | nil => intro p hp; cases hp
  | cons p l ih =>
    intro q hq
    rcases List.mem_cons.mp hq with rfl | hq
    · exact cn_head h
    · exact ih (cn_tail h) q hq
/-- of a rising list: the i-th and the next, one by the reference and one by the picture -/
theorem unL_uni : ∀ (L : List Sp) (i : Nat), cn L → i + 1 < L.length → unL L i (i + 1) = uni L i
  | [], i, _, h => by simp at h
  | [p], i, _, h => by simp at h
  | p :: r :: l, 0, hc, _ => by
    have h1 := hc.2.1
    have h2 := cn_head hc
    have h3 := cn_head hc.2.2
    simp only [unL, uni, List.getD_cons_zero, List.set_cons_zero, List.getD_cons_succ, List.eraseIdx_cons_succ, List.eraseIdx_cons_zero]
    rw [show min p.1 r.1 = p.1 by omega, show max p.2 r.2 = r.2 by omega]
  | p :: r :: l, i + 1, hc, h => by
    have := unL_uni (r :: l) i (cn_tail hc) (by simp at h ⊢; omega)
    simp only [unL, List.getD_cons_succ, List.set_cons_succ, List.eraseIdx_cons_succ] at this ⊢
    rw [this]
    rfl
theorem uni_len : ∀ (L : List Sp) (i : Nat), i + 1 < L.length → (uni L i).length = L.length - 1
  | [], i, h => by simp at h
  | [p], i, h => by simp at h
  | p :: r :: l, 0, _ => by simp [uni]
  | p :: r :: l, i + 1, h => by
    have := uni_len (r :: l) i (by simp at h ⊢; omega)
    simp only [uni, List.length_cons] at this ⊢
    omega
theorem uni_cn {L : List Sp} {i : Nat} (hc : cn L) (h : i + 1 < L.length) : cn (uni L i) := by
  rw [← unL_uni L i hc h]
  have hok := unL_ok (show i < i + 1 by omega) h (cn_okL hc)
  have hl : (unL L i (i + 1)).length = L.length - 1 := unL_len h
  refine cn_ix _ hok (fun j hj => ?_)
  rw [hl] at hj
  have g := fun {k : Nat} (hk : k + 1 < L.length) => ix_cn hc hk
  have ok := fun {k : Nat} (hk : k < L.length) => cn_okL hc _ (getD_mem hk)
  rw [unL_getD (by omega) h (by omega), unL_getD (by omega) h (by omega)]
  by_cases e1 : j = i
  · subst e1
    rw [if_pos rfl, if_neg (by omega), if_neg (by omega)]
    have a1 := g (k := j) (by omega)
    have a2 := g (k := j + 1) (by omega)
    have a3 := ok (k := j) (by omega)
    have a4 := ok (k := j + 1) (by omega)
    simp only
    omega
  · rw [if_neg e1]
    by_cases e2 : j + 1 = i
    · rw [if_pos e2, if_pos (by omega)]
      have a1 := g (k := j) (by omega)
      have a2 := g (k := j + 1) (by omega)
      have a3 := ok (k := j + 1) (by omega)
      subst e2
      simp only
      omega
    · rw [if_neg e2]
      by_cases e3 : j < i + 1
      · rw [if_pos e3, if_pos (by omega)]
        exact g (by omega)
      · rw [if_neg e3, if_neg (by omega)]
        exact g (by omega)
theorem bst_lt (N : List Sp) : ∀ k, 0 < k → bst N k < k
  | 0, h => by omega
  | 1, _ => by
    unfold bst bst
    split <;> omega
  | k + 2, _ => by
    have := bst_lt N (k + 1) (by omega)
    unfold bst
    split <;> omega
theorem rdF_le : ∀ (f : Nat) (N : List Sp), N.length ≤ f + 2 → cn N → cn (rdF f N) ∧ (rdF f N).length ≤ 2
  | 0, N, h, hc => ⟨hc, by unfold rdF; omega⟩
  | f + 1, N, h, hc => by
    unfold rdF
    split
    · rename_i q; exact ⟨hc, q⟩
    · have hb := bst_lt N (N.length - 1) (by omega)
      exact rdF_le f _ (by rw [uni_len N _ (by omega)]; omega) (uni_cn hc (by omega))
theorem rdF_r5 : ∀ (f : Nat) (N : List Sp), cn N → r5L N → r5L (rdF f N)
  | 0, N, _, h => h
  | f + 1, N, hc, h => by
    unfold rdF
    split
    · exact h
    · have hb := bst_lt N (N.length - 1) (by omega)
      refine rdF_r5 f _ (uni_cn hc (by omega)) ?_
      rw [← unL_uni N _ hc (by omega)]
      exact unL_r5 (by omega) (by omega) h
