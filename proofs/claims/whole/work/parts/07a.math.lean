/-! what the class gathers: rising lists, spans put in, touching ones united, the closest united -/
/-- rising by their low ends -/
def sr (L : List Sp) : Prop := ∀ i j, i < j → j < L.length → (L.getD i (0, 0)).1 ≤ (L.getD j (0, 0)).1
def put (L : List Sp) (a : Nat) (p : Sp) : List Sp := L.take a ++ p :: L.drop a
theorem put_len {L : List Sp} {a : Nat} (p : Sp) (h : a ≤ L.length) : (put L a p).length = L.length + 1 := by
  unfold put; simp; omega
theorem put_perm (L : List Sp) (a : Nat) (p : Sp) : (put L a p).Perm (L ++ [p]) := by
  unfold put
  refine List.perm_middle.trans ?_
  rw [List.take_append_drop]
  exact (List.perm_append_singleton p L).symm
theorem put_getD {L : List Sp} {a : Nat} (p : Sp) (h : a ≤ L.length) (k : Nat) : ((put L a p).getD k (0, 0)) = if k < a then (L.getD k (0, 0)) else if k = a then p else (L.getD (k - 1) (0, 0)) := by
  unfold put
  rw [List.getD_eq_getElem?_getD, List.getD_eq_getElem?_getD, List.getD_eq_getElem?_getD]
  have hl : (L.take a).length = a := by rw [List.length_take]; omega
  by_cases c : k < a
  · rw [if_pos c, List.getElem?_append_left (by omega), List.getElem?_take, if_pos c]
  · rw [if_neg c, List.getElem?_append_right (by omega), hl]
    by_cases e : k = a
    · rw [if_pos e, e, Nat.sub_self]; rfl
    · rw [if_neg e, show k - a = (k - a - 1) + 1 by omega, List.getElem?_cons_succ, List.getElem?_drop]
      rw [show a + (k - a - 1) = k - 1 by omega]
theorem put_sr {L : List Sp} {a : Nat} {p : Sp} (h : a ≤ L.length) (hs : sr L) (h1 : ∀ k, k < a → (L.getD k (0, 0)).1 ≤ p.1) (h2 : ∀ k, a ≤ k → k < L.length → p.1 ≤ (L.getD k (0, 0)).1) : sr (put L a p) := by
  intro i j hij hj
  rw [put_len p h] at hj
  rw [put_getD p h, put_getD p h]
  by_cases c1 : i < a
  · rw [if_pos c1]
    by_cases c2 : j < a
    · rw [if_pos c2]; exact hs i j hij (by omega)
    · rw [if_neg c2]
      by_cases c3 : j = a
      · rw [if_pos c3]; exact h1 i c1
      · rw [if_neg c3]; exact hs i (j - 1) (by omega) (by omega)
  · rw [if_neg c1, if_neg (show ¬ j < a by omega), if_neg (show ¬ j = a by omega)]
    by_cases c3 : i = a
    · rw [if_pos c3]; exact h2 (j - 1) (by omega) (by omega)
    · rw [if_neg c3]; exact hs (i - 1) (j - 1) (by omega) (by omega)
theorem inL_perm {L K : List Sp} (h : L.Perm K) (z : Int) : inL L z ↔ inL K z := by
  unfold inL
  constructor
  · rintro ⟨p, hp, q⟩; exact ⟨p, h.mem_iff.mp hp, q⟩
  · rintro ⟨p, hp, q⟩; exact ⟨p, h.mem_iff.mpr hp, q⟩
theorem okL_perm {L K : List Sp} (h : L.Perm K) : okL L ↔ okL K := ⟨fun g p hp => g p (h.mem_iff.mpr hp), fun g p hp => g p (h.mem_iff.mp hp)⟩
theorem r5L_perm {L K : List Sp} (h : L.Perm K) : r5L L ↔ r5L K := ⟨fun g p hp => g p (h.mem_iff.mpr hp), fun g p hp => g p (h.mem_iff.mp hp)⟩
-- the last of a rising list
theorem cn_snoc : ∀ (K : List Sp) (q p : Sp), cn (K ++ [q]) → q.2 + 2 ≤ p.1 → p.1 ≤ p.2 → cn ((K ++ [q]) ++ [p])
  | [], q, p, h, h1, h2 => ⟨h, h1, h2⟩
  | [x], q, p, h, h1, h2 => ⟨h.1, h.2.1, h.2.2, h1, h2⟩
  | x :: y :: K, q, p, h, h1, h2 => ⟨h.1, h.2.1, cn_snoc (y :: K) q p h.2.2 h1 h2⟩
theorem cn_wide : ∀ (K : List Sp) (q : Sp) (b : Int), cn (K ++ [q]) → q.2 ≤ b → cn (K ++ [(q.1, b)])
  | [], q, b, h, h1 => by show q.1 ≤ b; have h' : q.1 ≤ q.2 := h; omega
  | [x], q, b, h, h1 => ⟨h.1, h.2.1, by have h' : q.1 ≤ q.2 := h.2.2; show q.1 ≤ b; omega⟩
  | x :: y :: K, q, b, h, h1 => ⟨h.1, h.2.1, cn_wide (y :: K) q b h.2.2 h1⟩
/-- one more span of a rising list is taken: it touches the last, or it comes behind -/
def utS (K : List Sp) (q p : Sp) : List Sp := if p.1 ≤ q.2 + 1 then K ++ [(q.1, if q.2 < p.2 then p.2 else q.2)] else (K ++ [q]) ++ [p]
theorem inL_one {p : Sp} {z : Int} : inL [p] z ↔ p.1 ≤ z ∧ z ≤ p.2 := by simp [inL]
theorem utS_cn {K : List Sp} {q p : Sp} (h : cn (K ++ [q])) (hp : p.1 ≤ p.2) : cn (utS K q p) := by
  unfold utS
  split
  · exact cn_wide K q _ h (by split <;> omega)
  · exact cn_snoc K q p h (by omega) hp
theorem cn_lastok {K : List Sp} {q : Sp} (h : cn (K ++ [q])) : q.1 ≤ q.2 := cn_okL h q (by simp)
theorem utS_in {K : List Sp} {q p : Sp} (h : cn (K ++ [q])) (hp : p.1 ≤ p.2) (hq : q.1 ≤ p.1) (z : Int) : inL (utS K q p) z ↔ inL (K ++ [q]) z ∨ (p.1 ≤ z ∧ z ≤ p.2) := by
  have hk := cn_lastok h
  unfold utS
  split
  · rename_i c
    rw [inL_app, inL_app, inL_one, inL_one, or_assoc]
    refine or_congr Iff.rfl ?_
    simp only
    split <;> constructor <;> intro hh <;> omega
  · rw [inL_app (l := [p]), inL_one]
/-- the k-th of those of which two next to one another become one -/
theorem uni_getD : ∀ (L : List Sp) (i k : Nat), i + 1 < L.length → ((uni L i).getD k (0, 0)) = if k < i then (L.getD k (0, 0)) else if k = i then ((L.getD i (0, 0)).1, (L.getD (i + 1) (0, 0)).2) else (L.getD (k + 1) (0, 0))
  | [], i, k, h => by simp at h
  | [p], i, k, h => by simp at h
  | p :: r :: l, 0, 0, _ => by simp [uni]
  | p :: r :: l, 0, k + 1, _ => by simp [uni]
  | p :: r :: l, i + 1, 0, h => by simp [uni]
  | p :: r :: l, i + 1, k + 1, h => by
    have h1 := uni_getD (r :: l) i k (by simpa using h)
    show ((uni (r :: l) i).getD k (0, 0)) = _
    rw [h1]
    by_cases c : k < i
    · rw [if_pos c, if_pos (by omega)]; simp
    · rw [if_neg c, if_neg (show ¬ k + 1 < i + 1 by omega)]
      by_cases e : k = i
      · rw [if_pos e, if_pos (by omega)]; simp
      · rw [if_neg e, if_neg (by omega)]; simp
theorem rdF_step {N : List Sp} (h : ¬ N.length ≤ 2) : rdF N.length N = rdF (uni N (bst N (N.length - 1))).length (uni N (bst N (N.length - 1))) := by
  have hb := bst_lt N (N.length - 1) (by omega)
  rw [uni_len N _ (by omega)]
  obtain ⟨f, hf⟩ : ∃ f, N.length = f + 1 := ⟨N.length - 1, by omega⟩
  rw [hf]
  show (if N.length ≤ 2 then N else rdF f (uni N (bst N (N.length - 1)))) = _
  rw [if_neg h, hf]
  rfl
theorem rdF_end {N : List Sp} (h : N.length ≤ 2) : rdF N.length N = N := by
  cases hl : N.length with
  | zero => rfl
  | succ f =>
    show (if N.length ≤ 2 then N else _) = N
    rw [if_pos h]
theorem uni_r5 {L : List Sp} {i : Nat} (h : r5L L) (hi : i + 1 < L.length) : r5L (uni L i) := by
  intro p hp
  obtain ⟨k, hk, rfl⟩ := mem_ix.mp hp
  rw [uni_len L i hi] at hk
  have e := uni_getD L i k hi
  rw [e]
  split
  · exact h _ (getD_mem (by omega))
  · split
    · exact ⟨(h _ (getD_mem (by omega))).1, (h _ (getD_mem (by omega))).2⟩
    · exact h _ (getD_mem (by omega))
theorem gp_small {N : List Sp} (hc : cn N) (h5 : r5L N) {i : Nat} (hi : i + 1 < N.length) : 0 < gp N i ∧ gp N i < 4294967296 := by
  have h1 := ix_cn hc hi
  have h2 := (h5 _ (getD_mem (show i < N.length by omega))).2
  have h3 := (h5 _ (getD_mem hi)).1
  unfold gp
  omega
/-! what the class's steps gather is what the reference lays, but for the order -/
def clip (X : List Sp) (f t : Int) : List Sp := (X.map (fun p => (max p.1 f, min p.2 t))).filter okp
theorem cn_shrink {f : Sp → Sp} (hf : ∀ p, p.1 ≤ (f p).1 ∧ (f p).2 ≤ p.2) : ∀ X : List Sp, cn X → cn ((X.map f).filter okp)
  | [], _ => trivial
  | p :: l, h => by
    have ih := cn_shrink hf l (cn_tail h)
    rw [List.map_cons, List.filter_cons]
    split
    · rename_i c
      refine cn_cons (by simpa [okp] using c) (fun r hr => ?_) ih
      obtain ⟨h1, h2⟩ := List.mem_filter.mp hr
      obtain ⟨x, hx, rfl⟩ := List.mem_map.mp h1
      have := cn_far h x hx
      have := hf p
      have := hf x
      omega
    · exact ih
theorem clip_cn {X : List Sp} (h : cn X) (f t : Int) : cn (clip X f t) := cn_shrink (fun p => ⟨by show p.1 ≤ max p.1 f; omega, by show min p.2 t ≤ p.2; omega⟩) X h
theorem clip_len (X : List Sp) (f t : Int) : (clip X f t).length ≤ X.length := by
  unfold clip
  exact Nat.le_trans (List.length_filter_le _ _) (by rw [List.length_map]; exact Nat.le_refl _)
theorem clip_r5 {X : List Sp} (h : wl X) {f t : Int} : r5L (clip X f t) := by
  intro p hp
  unfold clip at hp
  obtain ⟨h1, h2⟩ := List.mem_filter.mp hp
  obtain ⟨x, hx, rfl⟩ := List.mem_map.mp h1
  have h3 : max x.1 f ≤ min x.2 t := by simpa [okp] using h2
  have := h.2 x hx
  have := h.1 x hx
  exact ⟨⟨by show _ ≤ max x.1 f; omega, by show max x.1 f ≤ _; omega⟩, ⟨by show _ ≤ min x.2 t; omega, by show min x.2 t ≤ _; omega⟩⟩
theorem clip_ok {X : List Sp} (h : okX X) (f t : Int) : okX (clip X f t) := ⟨clip_cn h.1 f t, Nat.le_trans (clip_len X f t) h.2.1, clip_r5 h.wl⟩
theorem clip_cut {X : List Sp} (h : okX X) (f t : Int) : cutX X f t = clip X f t := by
  by_cases c : f ≤ t
  · unfold cutX
    rw [if_pos c]
    have e : cmL X [(f, t)] = clip X f t := by
      unfold cmL clip
      congr 1
      clear h
      induction X with
      | nil => rfl
      | cons p l ih => rw [List.flatMap_cons, ih]; rfl
    rw [e]
    exact mkS_cn (clip_cn h.1 f t) (clip_ok h f t).2.1
  · rw [cutX_no (by omega)]
    unfold clip
    symm
    rw [List.filter_eq_nil_iff]
    intro p hp
    obtain ⟨x, hx, rfl⟩ := List.mem_map.mp hp
    simp [okp]
    omega
theorem clip_take {X : List Sp} {k : Nat} (h : k < X.length) (f t : Int) : clip (X.take (k + 1)) f t = layP (clip (X.take k) f t) (max (X.getD k (0, 0)).1 f, min (X.getD k (0, 0)).2 t) := by
  unfold clip
  rw [take_one h, List.map_append, List.filter_append, ← filter_one]
  rfl
theorem los_cn {X : List Sp} (h : cn X) (v : Int) : cn (losL X v) := cn_shrink (fun p => ⟨by unfold los1; simp only; split <;> omega, by unfold los1; simp only; split <;> omega⟩) X h
theorem los_ok {X : List Sp} (h : okX X) (v : Int) : okX (losL X v) := ⟨los_cn h.1 v, Nat.le_trans (losL_len X v) h.2.1, (losL_wl h.wl v).2⟩
theorem los_mk {X : List Sp} (h : okX X) (v : Int) : mkS (losL X v) = losL X v := mkS_cn (los_cn h.1 v) (los_ok h v).2.1
-- sums, differences, products, quotients: the ends of two spans
def exZ (k : Nat) (x y : Int) : Int := if k = 2 then x + y else if k = 3 then x - y else if k = 4 then x * y else x.tdiv y
def exP (k : Nat) (x y : Sp) : List Sp := fourW (exZ k x.1 y.1) (exZ k x.1 y.2) (exZ k x.2 y.1) (exZ k x.2 y.2)
theorem exP_both {k : Nat} (hk : k = 2 ∨ k = 3 ∨ k = 4) {x y : Sp} (hx : x.1 ≤ x.2) (hy : y.1 ≤ y.2) : exP k x y = bothP (nI k) x y := by
  unfold exP bothP fourW exZ
  rcases hk with rfl | rfl | rfl
  · simp only [if_pos]
    rw [if_pos (show nI 2 = 2 from rfl)]
    congr 1 <;> omega
  · rw [if_neg (by decide), if_pos (show nI 3 = 3 from rfl)]
    simp only [if_pos, show ¬ (3 = 2) by decide, if_false]
    congr 1 <;> omega
  · rw [if_neg (by decide), if_neg (by decide), if_pos (show nI 4 = 4 from rfl)]
    rfl
def prP (k : Nat) (X Y : List Sp) : List Sp := X.flatMap (fun x => Y.flatMap (exP k x))
theorem prP_both {k : Nat} (hk : k = 2 ∨ k = 3 ∨ k = 4) {X Y : List Sp} (hX : okL X) (hY : okL Y) : prP k X Y = X.flatMap (fun x => Y.flatMap (bothP (nI k) x)) := by
  unfold prP
  rw [List.flatMap_def, List.flatMap_def]
  congr 1
  refine List.map_congr_left (fun x hx => ?_)
  rw [List.flatMap_def, List.flatMap_def]
  congr 1
  exact List.map_congr_left (fun y hy => exP_both hk (hX x hx) (hY y hy))
theorem inL_flat {X : List Sp} {f : Sp → List Sp} {z : Int} : inL (X.flatMap f) z ↔ ∃ x ∈ X, inL (f x) z := by
  unfold inL
  constructor
  · rintro ⟨p, hp, q⟩
    obtain ⟨x, hx, h⟩ := List.mem_flatMap.mp hp
    exact ⟨x, hx, p, h, q⟩
  · rintro ⟨x, hx, p, h, q⟩
    exact ⟨p, List.mem_flatMap.mpr ⟨x, hx, h⟩, q⟩
theorem mem_clip {X : List Sp} {f t : Int} {p : Sp} : p ∈ clip X f t ↔ ∃ x ∈ X, max x.1 f ≤ min x.2 t ∧ p = (max x.1 f, min x.2 t) := by
  unfold clip
  rw [List.mem_filter]
  constructor
  · rintro ⟨h1, h2⟩
    obtain ⟨x, hx, rfl⟩ := List.mem_map.mp h1
    exact ⟨x, hx, by simpa [okp] using h2, rfl⟩
  · rintro ⟨x, hx, h, rfl⟩
    exact ⟨List.mem_map.mpr ⟨x, hx, rfl⟩, by simpa [okp] using h⟩
theorem quo_in {X Y : List Sp} (hY : wl Y) (z : Int) : inL (prP 7 X (clip Y (-2147483648) (-1)) ++ prP 7 X (clip Y 1 2147483647)) z ↔ inL (X.flatMap (fun x => Y.flatMap (bothP (nI 7) x))) z := by
  have eb : ∀ x y : Sp, bothP (nI 7) x y = byP x y := fun x y => by
    unfold bothP
    rw [if_neg (by decide), if_neg (by decide), if_neg (by decide)]
  have key : ∀ x y : Sp, y ∈ Y → (inL (byP x y) z ↔ (max y.1 (-2147483648) ≤ min y.2 (-1) ∧ inL (exP 7 x (max y.1 (-2147483648), min y.2 (-1))) z) ∨ (max y.1 1 ≤ min y.2 2147483647 ∧ inL (exP 7 x (max y.1 1, min y.2 2147483647)) z)) := fun x y hy => by
    have h1 := hY.1 y hy
    have h2 := hY.2 y hy
    have e1 : max y.1 (-2147483648) = y.1 := by omega
    have e2 : min y.2 2147483647 = y.2 := by omega
    rw [e1, e2]
    unfold byP
    rw [inL_app]
    refine or_congr ?_ ?_
    · by_cases c : y.1 < 0
      · rw [if_pos c]
        constructor
        · intro h; exact ⟨by omega, h⟩
        · intro h; exact h.2
      · rw [if_neg c]
        exact ⟨fun h => absurd h inL_nil, fun h => by omega⟩
    · by_cases c : 0 < y.2
      · rw [if_pos c]
        constructor
        · intro h; exact ⟨by omega, h⟩
        · intro h; exact h.2
      · rw [if_neg c]
        exact ⟨fun h => absurd h inL_nil, fun h => by omega⟩
  unfold prP
  rw [inL_app, inL_flat, inL_flat, inL_flat]
  constructor
  · rintro (⟨x, hx, h⟩ | ⟨x, hx, h⟩)
    · obtain ⟨p, hp, h⟩ := inL_flat.mp h
      obtain ⟨y, hy, c, rfl⟩ := mem_clip.mp hp
      exact ⟨x, hx, inL_flat.mpr ⟨y, hy, by rw [eb]; exact (key x y hy).mpr (Or.inl ⟨c, h⟩)⟩⟩
    · obtain ⟨p, hp, h⟩ := inL_flat.mp h
      obtain ⟨y, hy, c, rfl⟩ := mem_clip.mp hp
      exact ⟨x, hx, inL_flat.mpr ⟨y, hy, by rw [eb]; exact (key x y hy).mpr (Or.inr ⟨c, h⟩)⟩⟩
  · rintro ⟨x, hx, h⟩
    obtain ⟨y, hy, h⟩ := inL_flat.mp h
    rw [eb] at h
    rcases (key x y hy).mp h with ⟨c, h⟩ | ⟨c, h⟩
    · exact Or.inl ⟨x, hx, inL_flat.mpr ⟨_, mem_clip.mpr ⟨y, hy, c, rfl⟩, h⟩⟩
    · exact Or.inr ⟨x, hx, inL_flat.mpr ⟨_, mem_clip.mpr ⟨y, hy, c, rfl⟩, h⟩⟩
theorem exP_wl (k : Nat) (x y : Sp) : wl (exP k x y) := wl_wrW _ _
theorem exP_len (k : Nat) (x y : Sp) : (exP k x y).length ≤ 2 := wrW_len _ _
theorem prP_wl (k : Nat) (X Y : List Sp) : wl (prP k X Y) := wl_flat (fun x _ => wl_flat (fun y _ => exP_wl k x y))
theorem prP_len {k : Nat} {X Y : List Sp} (hX : X.length ≤ 2) (hY : Y.length ≤ 2) : (prP k X Y).length ≤ 8 := by
  have h1 : ∀ x, (Y.flatMap (exP k x)).length ≤ 4 := fun x => Nat.le_trans (flat_len (c := 2) (fun y _ => exP_len k x y)) (by omega)
  exact Nat.le_trans (flat_len (c := 4) (fun x _ => h1 x)) (by omega)
-- rests
def lsZ (B A : List Sp) : Int := if A = [] then -(hi1 B) else if B = [] then min 4294967296 (lo1 A) else min (-(hi1 B)) (lo1 A)
def gsZ (B A : List Sp) : Int := if A = [] then -(lo1 B) else if B = [] then max 0 (hi1 A) else max (-(lo1 B)) (hi1 A)
theorem rest_none {Y : List Sp} (hY : okX Y) (h1 : clip Y (-2147483648) (-1) = []) (h2 : clip Y 1 2147483647 = []) : sF Y = 0 := by
  have n1 : ∀ y ∈ Y, 0 ≤ y.1 := fun y hy => by
    apply Classical.byContradiction
    intro c
    have h3 := hY.wl.1 y hy
    have h4 := hY.2.2 y hy
    have : (max y.1 (-2147483648), min y.2 (-1)) ∈ clip Y (-2147483648) (-1) := mem_clip.mpr ⟨y, hy, by omega, rfl⟩
    rw [h1] at this
    cases this
  have n2 : ∀ y ∈ Y, y.2 ≤ 0 := fun y hy => by
    apply Classical.byContradiction
    intro c
    have h3 := hY.wl.1 y hy
    have h4 := hY.2.2 y hy
    have : (max y.1 1, min y.2 2147483647) ∈ clip Y 1 2147483647 := mem_clip.mpr ⟨y, hy, by omega, rfl⟩
    rw [h2] at this
    cases this
  have key : ∀ (L : List Sp) (s : Int), (∀ y ∈ L, 0 ≤ y.1 ∧ y.2 ≤ 0 ∧ y.1 ≤ y.2) → L.foldl sF1 s = s := by
    intro L
    induction L with
    | nil => intro s _; rfl
    | cons y l ih =>
      intro s h
      have h0 := h y List.mem_cons_self
      rw [List.foldl_cons]
      have e : sF1 s y = s := by
        unfold sF1 ow
        rw [if_neg (show ¬ 0 < y.1 by omega), if_neg (show ¬ y.2 < 0 by omega), if_neg (show ¬ (y.1 < 0 ∨ 0 < y.2) by omega)]
        rw [if_neg (by omega)]
      rw [e]
      exact ih s (fun y hy => h y (List.mem_cons_of_mem _ hy))
  exact key Y 0 (fun y hy => ⟨n1 y hy, n2 y hy, hY.wl.1 y hy⟩)
theorem clip_cons (p : Sp) (l : List Sp) (f t : Int) : clip (p :: l) f t = if max p.1 f ≤ min p.2 t then (max p.1 f, min p.2 t) :: clip l f t else clip l f t := by
  unfold clip
  rw [List.map_cons, List.filter_cons]
  by_cases c : max p.1 f ≤ min p.2 t
  · rw [if_pos c, if_pos (by simpa [okp] using c)]
  · rw [if_neg c, if_neg (by simpa [okp] using c)]
theorem clip_nil (f t : Int) : clip [] f t = [] := rfl
theorem ow_eq {p : Sp} (h : p.1 ≤ p.2) : ow p = if 0 < p.1 then p.1 else if p.2 < 0 then -p.2 else if p.1 < 0 ∨ 0 < p.2 then 1 else 0 := rfl
theorem rest_eq {Y : List Sp} (hY : okX Y) (h : ¬ (clip Y (-2147483648) (-1) = [] ∧ clip Y 1 2147483647 = [])) : sF Y = lsZ (clip Y (-2147483648) (-1)) (clip Y 1 2147483647) ∧ gF Y = gsZ (clip Y (-2147483648) (-1)) (clip Y 1 2147483647) ∧ 0 < sF Y := by
  match Y, hY, h with
  | [], _, h => exact absurd ⟨rfl, rfl⟩ h
  | [p], hY, h =>
    have h1 : p.1 ≤ p.2 := hY.1
    have h2 := hY.2.2 p (by simp)
    have es : sF [p] = sF1 0 p := rfl
    have eg : gF [p] = max 0 (max (-p.1) p.2) := rfl
    simp only [clip_cons, clip_nil] at h ⊢
    rw [es, eg]
    by_cases c1 : p.1 < 0
    · rw [if_pos (show max p.1 (-2147483648) ≤ min p.2 (-1) by omega)]
      by_cases c2 : 0 < p.2
      · rw [if_pos (show max p.1 1 ≤ min p.2 2147483647 by omega)]
        simp only [lsZ, gsZ, lo1, hi1, sF1, ow, List.getD_cons_zero, List.length_singleton, Nat.sub_self]
        rw [if_neg (show ¬ 0 < p.1 by omega), if_neg (show ¬ p.2 < 0 by omega), if_pos (show p.1 < 0 ∨ 0 < p.2 by omega)]
        simp
        omega
      · rw [if_neg (show ¬ max p.1 1 ≤ min p.2 2147483647 by omega)]
        simp only [lsZ, gsZ, lo1, hi1, sF1, ow, List.getD_cons_zero, List.length_singleton, Nat.sub_self]
        rw [if_neg (show ¬ 0 < p.1 by omega)]
        by_cases c3 : p.2 < 0
        · simp only [if_pos c3]
          simp
          omega
        · simp only [if_neg c3, if_pos (show p.1 < 0 ∨ 0 < p.2 by omega)]
          simp
          omega
    · rw [if_neg (show ¬ max p.1 (-2147483648) ≤ min p.2 (-1) by omega)] at h ⊢
      by_cases c2 : 0 < p.2
      · rw [if_pos (show max p.1 1 ≤ min p.2 2147483647 by omega)]
        simp only [lsZ, gsZ, lo1, hi1, sF1, ow, List.getD_cons_zero, List.length_singleton, Nat.sub_self]
        by_cases c3 : 0 < p.1
        · simp only [if_pos c3]
          simp
          omega
        · simp only [if_neg c3, if_neg (show ¬ p.2 < 0 by omega), if_pos (show p.1 < 0 ∨ 0 < p.2 by omega)]
          simp
          omega
      · rw [if_neg (show ¬ max p.1 1 ≤ min p.2 2147483647 by omega)] at h
        exact absurd ⟨rfl, rfl⟩ h
  | [p, r], hY, h =>
    have h1 : p.1 ≤ p.2 ∧ p.2 + 2 ≤ r.1 ∧ r.1 ≤ r.2 := hY.1
    have h2 := hY.2.2 p (by simp)
    have h3 := hY.2.2 r (by simp)
    have es : sF [p, r] = sF1 (sF1 0 p) r := rfl
    have eg : gF [p, r] = max (max 0 (max (-p.1) p.2)) (max (-r.1) r.2) := rfl
    simp only [clip_cons, clip_nil] at h ⊢
    rw [es, eg]
    have e1 : ∀ s y, sF1 s y = if 0 < ow y ∧ (s = 0 ∨ ow y < s) then ow y else s := fun _ _ => rfl
    have d1 : (max p.1 (-2147483648) ≤ min p.2 (-1)) ↔ p.1 < 0 := by omega
    have d2 : (max r.1 (-2147483648) ≤ min r.2 (-1)) ↔ r.1 < 0 := by omega
    have d3 : (max p.1 1 ≤ min p.2 2147483647) ↔ 0 < p.2 := by omega
    have d4 : (max r.1 1 ≤ min r.2 2147483647) ↔ 0 < r.2 := by omega
    simp only [d1, d2, d3, d4] at h ⊢
    have o1 := ow_eq h1.1
    have o2 := ow_eq h1.2.2
    have e0 : ∀ y, sF1 0 y = if 0 < ow y then ow y else 0 := fun y => by unfold sF1; simp
    rw [e1, e0]
    clear e0 e1 es eg d1 d2 d3 d4
    generalize ow p = op at o1 ⊢
    generalize ow r = oq at o2 ⊢
    by_cases c1 : p.1 < 0 <;> by_cases c2 : r.1 < 0 <;> by_cases c3 : 0 < p.2 <;> by_cases c4 : 0 < r.2 <;> first
      | omega
      | (simp only [c1, c2, c3, c4, if_true, if_false, and_self, not_true] at h; done)
      | (simp only [c1, c2, c3, c4, if_true, if_false, lsZ, gsZ, lo1, hi1, List.getD_cons_zero, List.length_singleton, List.length_cons, List.length_nil, Nat.sub_self, Nat.zero_add, Nat.add_sub_cancel, List.getD_cons_succ, reduceCtorEq]
         simp only [c1, c2, c3, c4, if_true, if_false, or_true, true_or, or_false, false_or] at o1 o2
         repeat (first | omega | split at o1 | split at o2)
         all_goals (refine ⟨?_, ?_, ?_⟩ <;> repeat (first | omega | split)))
  | _ :: _ :: _ :: _, hY, _ => 
    have := hY.2.1
    simp at this
theorem nrm_r5 {U : List Sp} (h : wl U) : r5L (nrm U) := by
  intro p hp
  have ho := cn_okL (nrm_cn U h.1) p hp
  obtain ⟨q1, hq1, a1⟩ := (nrm_in U h.1 p.1).mp ⟨p, hp, Int.le_refl _, ho⟩
  obtain ⟨q2, hq2, a2⟩ := (nrm_in U h.1 p.2).mp ⟨p, hp, ho, Int.le_refl _⟩
  have r1 := h.2 q1 hq1
  have r2 := h.2 q2 hq2
  exact ⟨⟨by omega, by omega⟩, ⟨by omega, by omega⟩⟩
