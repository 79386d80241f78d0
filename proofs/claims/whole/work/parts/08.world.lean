/-! ===== the picture's cells on the machine's heap ===== -/
/-- numbers of the classes, of their slots, of the array classes; the first address; addresses of what lies outside (the script 1000, strings 1100 on); the script: its length, its ints -/
abbrev bh_G : Type := (Nat → ClassId) × (Nat → Nat → Nat) × (Nat → ClassId) × Nat × (Nat → Nat) × Nat × (Nat → Int32)
abbrev bh_gD (g : bh_G) : va_G := (g.1, g.2.1)
abbrev bh_gA (g : bh_G) : Nat → ClassId := g.2.2.1
abbrev bh_gB (g : bh_G) : Nat := g.2.2.2.1
abbrev bh_gX (g : bh_G) : Nat → Nat := g.2.2.2.2.1
abbrev bh_gL (g : bh_G) : Nat := g.2.2.2.2.2.1
abbrev bh_gS (g : bh_G) : Nat → Int32 := g.2.2.2.2.2.2
def bh_ad (g : bh_G) (k : Nat) : Nat := if k < 1000 then bh_gB g + k else bh_gX g k
def bh_tr (g : bh_G) (v : Value) : Value := match v with
  | .ref k => .ref (bh_ad g k)
  | v => v
theorem bh_tr_cat (g : bh_G) (v : Value) : (bh_tr g v).category = v.category := by cases v <;> rfl
abbrev bh_rg (g : bh_G) : Nat → Prop := fun q => bh_gB g ≤ q
def bh_fv (g : bh_G) (h : bh_H) (ci k j : Nat) : Value := if bh_fr ci j = true then va_rf ((h.2.1 k j).map (bh_ad g)) else .int (h.2.2.1 k j)
def bh_ar (g : bh_G) (h : bh_H) (k : Nat) : vp_A := (bh_ln k, if bh_tg k = 21 then .inr (.inl (h.2.2.2 k)) else if bh_tg k = 24 then .inr (.inr (.inr (.inr (fun j => (h.2.1 k j).map (bh_ad g))))) else .inl (h.2.2.1 k))
def bh_E (g : bh_G) (h : bh_H) (k : Nat) : va_E :=
  if bh_tg k < 20 then .inr (bh_tg k, (List.range (bh_ln k)).map (bh_fv g h (bh_tg k) k)) else .inl (bh_gA g (bh_tg k), bh_ar g h k)
def bh_ws (g : bh_G) (h : bh_H) : va_W := (List.range h.1).map (fun k => (bh_gB g + k, bh_E g h k))
def bh_tys (g : bh_G) : List (ClassId × FieldType) := [(bh_gA g 20, .int), (bh_gA g 21, .long), (bh_gA g 22, .byte), (bh_gA g 23, .boolean), (bh_gA g 24, .object "BorrowedHands$Town")]
theorem bh_ws_at (g : bh_G) {h : bh_H} {k : Nat} (hk : k < h.1) : (bh_ws g h)[k]? = some (bh_gB g + k, bh_E g h k) := by
  unfold bh_ws
  rw [List.getElem?_map, List.getElem?_range hk]
  rfl
theorem bh_ws_len (g : bh_G) (h : bh_H) : (bh_ws g h).length = h.1 := by simp [bh_ws]
theorem bh_ws_inv {g : bh_G} {h : bh_H} {k : Nat} {q : Nat × va_E} (hq : (bh_ws g h)[k]? = some q) : k < h.1 ∧ q = (bh_gB g + k, bh_E g h k) := by
  have hk : k < h.1 := by
    have := (List.getElem?_eq_some_iff.mp hq).1
    rw [bh_ws_len] at this
    exact this
  rw [bh_ws_at g hk] at hq
  exact ⟨hk, (Option.some.inj hq).symm⟩
theorem bh_ws_D (g : bh_G) (h : bh_H) : va_D (bh_rg g) (bh_ws g h) := by
  refine ⟨fun i j p q hi hj hpq => ?_, fun k q hk => ?_⟩
  · obtain ⟨-, rfl⟩ := bh_ws_inv hi
    obtain ⟨-, rfl⟩ := bh_ws_inv hj
    have : bh_gB g + i = bh_gB g + j := hpq
    omega
  · obtain ⟨-, rfl⟩ := bh_ws_inv hk
    exact Nat.le_add_right _ _
/-- a change of one cell -/
theorem bh_ws_set {g : bh_G} {h h' : bh_H} {k : Nat} {e : va_E} (hn : h'.1 = h.1) (hk : k < h.1) (he : bh_E g h' k = e) (ho : ∀ j, j ≠ k → bh_E g h' j = bh_E g h j) : (bh_ws g h).set k (bh_gB g + k, e) = bh_ws g h' := by
  apply List.ext_getElem?
  intro i
  by_cases hi : i = k
  · subst hi
    rw [List.getElem?_set_self (by rw [bh_ws_len]; exact hk), bh_ws_at g (by rw [hn]; exact hk), he]
  · rw [List.getElem?_set_ne (Ne.symm hi)]
    by_cases hl : i < h.1
    · rw [bh_ws_at g hl, bh_ws_at g (by rw [hn]; exact hl), ho i hi]
    · rw [List.getElem?_eq_none (by rw [bh_ws_len]; omega), List.getElem?_eq_none (by rw [bh_ws_len, hn]; omega)]
/-- one more cell -/
theorem bh_ws_push {g : bh_G} {h h' : bh_H} {e : va_E} (hn : h'.1 = h.1 + 1) (he : bh_E g h' h.1 = e) (ho : ∀ j, j < h.1 → bh_E g h' j = bh_E g h j) : bh_ws g h ++ [(bh_gB g + h.1, e)] = bh_ws g h' := by
  unfold bh_ws
  rw [hn, List.range_succ, List.map_append]
  congr 1
  · exact List.map_congr_left fun j hj => by rw [ho j (List.mem_range.mp hj)]
  · rw [← he]; rfl
theorem bh_E_obj {g : bh_G} {h : bh_H} {k ci : Nat} (ht : bh_tg k = ci) (hc : ci < 20) : bh_E g h k = .inr (ci, (List.range (bh_ln k)).map (bh_fv g h ci k)) := by
  unfold bh_E
  rw [ht, if_pos hc]
theorem bh_E_int {g : bh_G} {h : bh_H} {k t : Nat} (ht : bh_tg k = t) (hc : t = 20 ∨ t = 22 ∨ t = 23) : bh_E g h k = .inl (bh_gA g t, bh_ln k, .inl (h.2.2.1 k)) := by
  unfold bh_E bh_ar
  rw [ht]
  rcases hc with rfl | rfl | rfl <;> rfl
theorem bh_E_long {g : bh_G} {h : bh_H} {k : Nat} (ht : bh_tg k = 21) : bh_E g h k = .inl (bh_gA g 21, bh_ln k, .inr (.inl (h.2.2.2 k))) := by
  unfold bh_E bh_ar
  rw [ht]
  rfl
theorem bh_E_ref {g : bh_G} {h : bh_H} {k : Nat} (ht : bh_tg k = 24) : bh_E g h k = .inl (bh_gA g 24, bh_ln k, .inr (.inr (.inr (.inr (fun j => (h.2.1 k j).map (bh_ad g)))))) := by
  unfold bh_E bh_ar
  rw [ht]
  rfl
/-- a cell is what its rows are -/
theorem bh_E_congr {g : bh_G} {h h' : bh_H} {k : Nat} (h1 : h'.2.1 k = h.2.1 k) (h2 : h'.2.2.1 k = h.2.2.1 k) (h3 : h'.2.2.2 k = h.2.2.2 k) : bh_E g h' k = bh_E g h k := by
  unfold bh_E bh_ar bh_fv
  rw [h1, h2, h3]
theorem bh_fs_at {g : bh_G} {h : bh_H} {ci k j : Nat} (hj : j < bh_ln k) : ((List.range (bh_ln k)).map (bh_fv g h ci k))[j]? = some (bh_fv g h ci k j) := by
  rw [List.getElem?_map, List.getElem?_range hj]
  rfl
theorem bh_fs_set {g : bh_G} {h h' : bh_H} {ci k j : Nat} {v : Value} (hj : bh_fv g h' ci k j = v) (ho : ∀ i, i ≠ j → bh_fv g h' ci k i = bh_fv g h ci k i) : ((List.range (bh_ln k)).map (bh_fv g h ci k)).set j v = (List.range (bh_ln k)).map (bh_fv g h' ci k) := by
  apply List.ext_getElem?
  intro i
  by_cases hl : i < bh_ln k
  · by_cases hi : i = j
    · subst hi
      rw [List.getElem?_set_self (by simpa using hl), bh_fs_at hl, hj]
    · rw [List.getElem?_set_ne (Ne.symm hi), bh_fs_at hl, bh_fs_at hl, ho i hi]
  · rw [List.getElem?_eq_none (by simp; omega), List.getElem?_eq_none (by simp; omega)]
theorem bh_up2_self {α : Type} (f : Nat → Nat → α) (k j : Nat) (x : α) : bh_up2 f k j x k j = x := by simp [bh_up2]
theorem bh_up2_k {α : Type} (f : Nat → Nat → α) (k j : Nat) (x : α) : bh_up2 f k j x k = fun b => if b = j then x else f k b := by simp [bh_up2]
theorem bh_up2_ne {α : Type} (f : Nat → Nat → α) {k a : Nat} (j : Nat) (x : α) (h : a ≠ k) : bh_up2 f k j x a = f a := by simp [bh_up2, h]
theorem bh_upr_self {α : Type} (f : Nat → Nat → α) (k : Nat) (r : Nat → α) : bh_upr f k r k = r := by simp [bh_upr]
theorem bh_upr_ne {α : Type} (f : Nat → Nat → α) {k a : Nat} (r : Nat → α) (h : a ≠ k) : bh_upr f k r a = f a := by simp [bh_upr, h]
/-! locals -/
def bh_pr1 (g : bh_G) (i : Nat) (o : Option Value) : Option (Nat × Value) := match o with
  | some Value.null => none
  | some v => some (i, bh_tr g v)
  | none => none
theorem bh_pr1_some {g : bh_G} {i : Nat} {o : Option Value} {q : Nat × Value} : bh_pr1 g i o = some q ↔ ∃ v, o = some v ∧ v ≠ .null ∧ q = (i, bh_tr g v) := by
  constructor
  · intro h
    unfold bh_pr1 at h
    split at h
    · cases h
    next v hv => 
      cases h
      exact ⟨v, rfl, fun e => by subst e; exact hv rfl, rfl⟩
    · cases h
  · rintro ⟨v, rfl, hn, rfl⟩
    unfold bh_pr1
    split
    next h => cases h; exact absurd rfl hn
    next h => cases h; rfl
    next h => cases h
def bh_pr (g : bh_G) (lv : List Value) : List (Nat × Value) := (List.range lv.length).filterMap (fun i => bh_pr1 g i lv[i]?)
theorem bh_pr_mem {g : bh_G} {lv : List Value} {q : Nat × Value} : q ∈ bh_pr g lv ↔ ∃ v, lv[q.1]? = some v ∧ v ≠ .null ∧ q.2 = bh_tr g v := by
  unfold bh_pr
  rw [List.mem_filterMap]
  constructor
  · rintro ⟨i, hi, h⟩
    obtain ⟨v, h1, h2, rfl⟩ := bh_pr1_some.mp h
    exact ⟨v, h1, h2, rfl⟩
  · rintro ⟨v, hv, hn, he⟩
    exact ⟨q.1, List.mem_range.mpr (List.getElem?_eq_some_iff.mp hv).1, bh_pr1_some.mpr ⟨v, hv, hn, by rw [← he]⟩⟩
theorem bh_pr_at {g : bh_G} {lv : List Value} {ls : Array Slot} {n i : Nat} {v : Value} (h : lv_has ls n (bh_pr g lv)) (hi : lv[i]? = some v) (hv : v ≠ .null) : ls[i]? = some (.val (bh_tr g v)) :=
  h.2.2 (i, bh_tr g v) (bh_pr_mem.mpr ⟨v, hi, hv, rfl⟩)
theorem bh_cut_len (lv : List Value) (i : Nat) : (bh_cut lv i).length = lv.length := by
  unfold bh_cut
  split
  · rfl
  · split
    · split
      · simp
      · rfl
    · rfl
theorem bh_cut_at {lv : List Value} {i j : Nat} {v : Value} (h : (bh_cut lv i)[j]? = some v) (hv : v ≠ .null) : lv[j]? = some v ∧ (j + 1 = i → v.category ≠ 2) := by
  unfold bh_cut at h
  split at h
  · exact ⟨h, fun e => by omega⟩
  next k =>
    split at h
    next x hx =>
      split at h
      next hc =>
        by_cases hj : j = k
        · subst hj
          rw [List.getElem?_set_self (List.getElem?_eq_some_iff.mp hx).1] at h
          cases h
          exact absurd rfl hv
        · rw [List.getElem?_set_ne (Ne.symm hj)] at h
          exact ⟨h, fun e => by omega⟩
      next hc =>
        refine ⟨h, fun e => ?_⟩
        have hj : j = k := by omega
        subst hj
        rw [hx] at h
        cases h
        exact hc
    next hx =>
      refine ⟨h, fun e => ?_⟩
      have hj : j = k := by omega
      subst hj
      rw [hx] at h
      cases h
/-- a value of one slot, stored -/
theorem bh_sto_has {g : bh_G} {lv : List Value} {ls : Array Slot} {n i : Nat} {v : Value} (hc : v.category = 1) (h : lv_has ls n ((i, bh_tr g v) :: (bh_pr g lv).filter (fun q => !(q.1 == i) && !(q.1 + 1 == i && q.2.category == 2)))) : lv_has ls n (bh_pr g (bh_sto lv i v)) := by
  refine ⟨h.1, h.2.1, fun q hq => h.2.2 q ?_⟩
  obtain ⟨w, hw, hn, he⟩ := bh_pr_mem.mp hq
  obtain ⟨j, b⟩ := q
  dsimp only at hw he
  subst he
  unfold bh_sto at hw
  by_cases hj : j = i
  · subst hj
    have hl : j < (bh_cut lv j).length := by
      have := (List.getElem?_eq_some_iff.mp hw).1
      rwa [List.length_set] at this
    rw [List.getElem?_set_self hl] at hw
    cases hw
    exact List.mem_cons_self
  · rw [List.getElem?_set_ne (Ne.symm hj)] at hw
    obtain ⟨h1, h2⟩ := bh_cut_at hw hn
    refine List.mem_cons_of_mem _ (List.mem_filter.mpr ⟨bh_pr_mem.mpr ⟨w, h1, hn, rfl⟩, ?_⟩)
    simp only [Bool.and_eq_true, Bool.not_eq_true', beq_eq_false_iff_ne, ne_eq, hj, not_false_eq_true, true_and, Bool.and_eq_false_imp, beq_iff_eq, bh_tr_cat]
    exact fun e => h2 e
/-- a value of two slots, stored -/
theorem bh_stoL_has {g : bh_G} {lv : List Value} {ls : Array Slot} {n i : Nat} {v : Value} (h : lv_has ls n ((i, bh_tr g v) :: (bh_pr g lv).filter (fun q => !(q.1 == i) && (!(q.1 == i + 1) && !(q.1 + 1 == i && q.2.category == 2))))) : lv_has ls n (bh_pr g (bh_stoL lv i v)) := by
  refine ⟨h.1, h.2.1, fun q hq => h.2.2 q ?_⟩
  obtain ⟨w, hw, hn, he⟩ := bh_pr_mem.mp hq
  obtain ⟨j, b⟩ := q
  dsimp only at hw he
  subst he
  unfold bh_stoL at hw
  by_cases hj : j = i
  · subst hj
    have hl := (List.getElem?_eq_some_iff.mp hw).1
    rw [List.length_set] at hl
    rw [List.getElem?_set_self hl] at hw
    cases hw
    exact List.mem_cons_self
  · rw [List.getElem?_set_ne (Ne.symm hj)] at hw
    by_cases hj2 : j = i + 1
    · subst hj2
      have hl := (List.getElem?_eq_some_iff.mp hw).1
      rw [List.length_set] at hl
      rw [List.getElem?_set_self hl] at hw
      cases hw
      exact absurd rfl hn
    · rw [List.getElem?_set_ne (Ne.symm hj2)] at hw
      obtain ⟨h1, h2⟩ := bh_cut_at hw hn
      refine List.mem_cons_of_mem _ (List.mem_filter.mpr ⟨bh_pr_mem.mpr ⟨w, h1, hn, rfl⟩, ?_⟩)
      simp only [Bool.and_eq_true, Bool.not_eq_true', beq_eq_false_iff_ne, ne_eq, hj, hj2, not_false_eq_true, true_and, Bool.and_eq_false_imp, beq_iff_eq, bh_tr_cat]
      exact fun e => h2 e
/-- the locals with which a method begins -/
theorem bh_lay_at (g : bh_G) : ∀ (As : List Value) (i : Nat) (v : Value) (n : Nat), (bh_lay As)[i]? = some v → v ≠ .null → (n + i, bh_tr g v) ∈ lv_args n (As.map (bh_tr g)) := by
  intro As
  induction As with
  | nil => intro i v n h; simp [bh_lay] at h
  | cons a l ih =>
    intro i v n h hv
    have one : ∀ (hc : a.category = 1), (a :: bh_lay l)[i]? = some v → (n + i, bh_tr g v) ∈ lv_args n ((a :: l).map (bh_tr g)) := by
      intro hc h
      show _ ∈ (n, bh_tr g a) :: lv_args (if (bh_tr g a).category = 2 then n + 2 else n + 1) (l.map (bh_tr g))
      rw [bh_tr_cat, hc, if_neg (by decide)]
      cases i with
      | zero =>
        cases h
        exact List.mem_cons_self
      | succ i =>
        have := ih i v (n + 1) h hv
        rw [show n + (i + 1) = n + 1 + i by omega]
        exact List.mem_cons_of_mem _ this
    cases a with
    | long x =>
      show _ ∈ (n, Value.long x) :: lv_args (n + 2) (l.map (bh_tr g))
      match i, h with
      | 0, h => cases h; exact List.mem_cons_self
      | 1, h => cases h; exact absurd rfl hv
      | i + 2, h =>
        have := ih i v (n + 2) h hv
        rw [show n + (i + 2) = n + 2 + i by omega]
        exact List.mem_cons_of_mem _ this
    | double x =>
      show _ ∈ (n, Value.double x) :: lv_args (n + 2) (l.map (bh_tr g))
      match i, h with
      | 0, h => cases h; exact List.mem_cons_self
      | 1, h => cases h; exact absurd rfl hv
      | i + 2, h =>
        have := ih i v (n + 2) h hv
        rw [show n + (i + 2) = n + 2 + i by omega]
        exact List.mem_cons_of_mem _ this
    | int x => exact one rfl h
    | float x => exact one rfl h
    | null => exact one rfl h
    | ref x => exact one rfl h
    | retAddr x => exact one rfl h
