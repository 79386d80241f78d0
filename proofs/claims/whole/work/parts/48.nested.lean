/-! ===== errors, nested: sets ===== -/
theorem sumN_cg {f g : Nat → Nat} : ∀ n, (∀ i, i < n → f i = g i) → sumN f n = sumN g n := by
  intro n
  induction n with
  | zero => intro _; rfl
  | succ n ih => intro h; show sumN f n + f n = sumN g n + g n; rw [ih (fun i hi => h i (by omega)), h n (by omega)]
theorem sumN_add {f g : Nat → Nat} : ∀ n, sumN (fun i => f i + g i) n = sumN f n + sumN g n := by
  intro n
  induction n with
  | zero => rfl
  | succ n ih => show sumN (fun i => f i + g i) n + (f n + g n) = (sumN f n + f n) + (sumN g n + g n); omega
theorem sumN_z : ∀ n, sumN (fun _ => 0) n = 0 := by
  intro n
  induction n with
  | zero => rfl
  | succ n ih => exact ih
theorem sumN_sw {f : Nat → Nat → Nat} {n : Nat} : ∀ m, sumN (fun k => sumN (fun l => f k l) n) m = sumN (fun l => sumN (fun k => f k l) m) n := by
  intro m
  induction m with
  | zero => show 0 = _; exact (sumN_z n).symm
  | succ m ih => show sumN (fun k => sumN (fun l => f k l) n) m + sumN (fun l => f m l) n = sumN (fun l => sumN (fun k => f k l) m + f m l) n; rw [sumN_add, ih]
theorem sumN_le {f : Nat → Nat} {c : Nat} : ∀ n, (∀ i, i < n → f i ≤ c) → sumN f n ≤ n * c := by
  intro n
  induction n with
  | zero => intro _; exact Nat.zero_le _
  | succ n ih => intro h; have := ih (fun i hi => h i (by omega)); have := h n (by omega); show sumN f n + f n ≤ _; rw [Nat.succ_mul]; omega
theorem sumN_pre {f : Nat → Nat} : ∀ n, (∀ i, i < n → f i = 0) → sumN f n = 0 := fun n h => (sumN_cg n h).trans (sumN_z n)
theorem sumN_tail {f : Nat → Nat} {a : Nat} : ∀ d, (∀ i, a ≤ i → f i = 0) → sumN f (a + d) = sumN f a := by
  intro d
  induction d with
  | zero => intro _; rfl
  | succ d ih => intro h; show sumN f (a + d) + f (a + d) = _; rw [ih h, h _ (by omega)]; rfl
theorem le_maxN {f : Nat → Nat} : ∀ n i, i < n → f i ≤ maxN f n := by
  intro n
  induction n with
  | zero => intro i hi; omega
  | succ n ih =>
    intro i hi
    show f i ≤ max (maxN f n) (f n)
    rcases Nat.lt_or_ge i n with h | h
    · have := ih i h; omega
    · obtain rfl : i = n := by omega
      omega
theorem maxN_cg {f g : Nat → Nat} : ∀ n, (∀ i, i < n → f i = g i) → maxN f n = maxN g n := by
  intro n
  induction n with
  | zero => intro _; rfl
  | succ n ih => intro h; show max (maxN f n) (f n) = max (maxN g n) (g n); rw [ih (fun i hi => h i (by omega)), h n (by omega)]
/-- within -/
abbrev sbN (a b : Nat) : Prop := a &&& b = a
theorem sbN_iff {a b : Nat} : sbN a b ↔ ∀ i, a.testBit i = true → b.testBit i = true := by
  unfold sbN
  constructor
  · intro h i hi
    rw [← h, Nat.testBit_and] at hi
    exact (Bool.and_eq_true_iff.mp hi).2
  · intro h
    refine Nat.eq_of_testBit_eq (fun i => ?_)
    rw [Nat.testBit_and]
    cases ha : a.testBit i
    · rfl
    · rw [h i ha]; rfl
theorem sbN_lt {a b : Nat} (hb : b < 65536) (h : sbN a b) (hn : a ≠ b) : pcn a < pcn b := by
  rw [sbN_iff] at h
  have : ∃ j, j < 16 ∧ a.testBit j = false ∧ b.testBit j = true := by
    apply Classical.byContradiction
    intro hc
    apply hn
    refine Nat.eq_of_testBit_eq (fun i => ?_)
    cases ha : a.testBit i
    · cases hz : b.testBit i
      · rfl
      · exfalso
        by_cases hi : i < 16
        · exact hc ⟨i, hi, ha, hz⟩
        · rw [Nat.testBit_lt_two_pow (Nat.lt_of_lt_of_le hb (Nat.pow_le_pow_right (n := 2) (i := 16) (by decide) (by omega)))] at hz
          cases hz
    · exact (h i ha).symm
  obtain ⟨j, hj, h1, h2⟩ := this
  exact cntF_lt 16 (fun i _ => h i) j hj h1 h2
theorem pcn_0 {x : Nat} (hx : x < 65536) (h : pcn x = 0) : x = 0 := by
  by_cases e : x = 0
  · exact e
  · have : sbN 0 x := by unfold sbN; simp
    have := sbN_lt hx this (Ne.symm e)
    omega
theorem pcn_z : pcn 0 = 0 := by decide
theorem pcn_12 {x : Nat} (hx : x < 4096) : pcn x ≤ 12 := by
  have : pcn x = cntF (fun i => x.testBit i) 12 := by
    have h : ∀ i, 12 ≤ i → x.testBit i = false := fun i hi => Nat.testBit_lt_two_pow (Nat.lt_of_lt_of_le hx (Nat.pow_le_pow_right (n := 2) (i := 12) (by decide) hi))
    show cntF (fun i => x.testBit i) 12 + _ + _ + _ + _ = _
    simp only [h 12 (by decide), h 13 (by decide), h 14 (by decide), h 15 (by decide)]
    rfl
  rw [this]; exact cntF_le _ 12
/-- the longest row of sets, each within the next, up to x -/
def lgF (S : Nat → Nat) : Nat → Nat → Nat
  | 0, _ => 1
  | f + 1, x => 1 + maxN (fun j => if S j ≠ 0 ∧ S j ≠ x ∧ sbN (S j) x then lgF S f (S j) else 0) 16
def lg (S : Nat → Nat) (x : Nat) : Nat := lgF S (pcn x) x
theorem lgF_st {S : Nat → Nat} : ∀ (f g x : Nat), x < 65536 → pcn x ≤ f → pcn x ≤ g → lgF S f x = lgF S g x := by
  intro f
  induction f with
  | zero =>
    intro g x hx hf hg
    have hx0 := pcn_0 hx (by omega)
    subst hx0
    cases g with
    | zero => rfl
    | succ g =>
      show 1 = 1 + maxN _ 16
      have : maxN (fun j => if S j ≠ 0 ∧ S j ≠ 0 ∧ sbN (S j) 0 then lgF S g (S j) else 0) 16 ≤ 0 := maxN_le 16 (fun i _ => by
        rw [if_neg]; exact Nat.le_refl _
        rintro ⟨h1, _, h3⟩
        exact h1 (by have : S i &&& 0 = S i := h3; rw [Nat.and_zero] at this; exact this.symm))
      omega
  | succ f ih =>
    intro g x hx hf hg
    cases g with
    | zero =>
      have hx0 := pcn_0 hx (by omega)
      subst hx0
      show 1 + maxN _ 16 = 1
      have : maxN (fun j => if S j ≠ 0 ∧ S j ≠ 0 ∧ sbN (S j) 0 then lgF S f (S j) else 0) 16 ≤ 0 := maxN_le 16 (fun i _ => by
        rw [if_neg]; exact Nat.le_refl _
        rintro ⟨h1, _, h3⟩
        exact h1 (by have : S i &&& 0 = S i := h3; rw [Nat.and_zero] at this; exact this.symm))
      omega
    | succ g =>
      show 1 + maxN _ 16 = 1 + maxN _ 16
      rw [maxN_cg 16 (g := fun j => if S j ≠ 0 ∧ S j ≠ x ∧ sbN (S j) x then lgF S g (S j) else 0) (fun i _ => ?_)]
      by_cases h : S i ≠ 0 ∧ S i ≠ x ∧ sbN (S i) x
      · rw [if_pos h, if_pos h]
        have h1 := sbN_lt hx h.2.2 h.2.1
        have h2 : S i < 65536 := Nat.lt_of_le_of_lt (by have : S i &&& x = S i := h.2.2; rw [← this]; exact Nat.and_le_right) hx
        exact ih g (S i) h2 (by omega) (by omega)
      · rw [if_neg h, if_neg h]
def wiN (S : Nat → Nat) (x j : Nat) : Nat := if S j ≠ 0 ∧ S j ≠ x ∧ sbN (S j) x then lg S (S j) else 0
theorem lg_eq {S : Nat → Nat} {x : Nat} (hx : x < 65536) (h0 : x ≠ 0) : lg S x = 1 + maxN (wiN S x) 16 := by
  have hp : pcn x ≠ 0 := fun e => h0 (pcn_0 hx e)
  unfold lg
  rw [lgF_st (pcn x) (pcn x - 1 + 1) x hx (Nat.le_refl _) (by omega)]
  show 1 + maxN _ 16 = _
  rw [maxN_cg 16 (g := wiN S x) (fun i _ => ?_)]
  unfold wiN
  by_cases h : S i ≠ 0 ∧ S i ≠ x ∧ sbN (S i) x
  · rw [if_pos h, if_pos h]
    have h1 := sbN_lt hx h.2.2 h.2.1
    have h2 : S i < 65536 := Nat.lt_of_le_of_lt (by have : S i &&& x = S i := h.2.2; rw [← this]; exact Nat.and_le_right) hx
    exact lgF_st _ _ _ h2 (by omega) (Nat.le_refl _)
  · rw [if_neg h, if_neg h]
/-- unlike lists within each other -/
theorem nd_le : ∀ (l m : List Nat), l.Nodup → (∀ x ∈ l, x ∈ m) → l.length ≤ m.length := by
  intro l
  induction l with
  | nil => intro m _ _; exact Nat.zero_le _
  | cons x l ih =>
    intro m hn hm
    have hx := hm x List.mem_cons_self
    have hn2 := List.nodup_cons.mp hn
    have := ih (m.erase x) hn2.2 (fun y hy => (List.mem_erase_of_ne (fun (e : y = x) => hn2.1 (e ▸ hy))).mpr (hm y (List.mem_cons_of_mem _ hy)))
    rw [List.length_erase_of_mem hx] at this
    have : 0 < m.length := List.length_pos_of_mem hx
    rw [List.length_cons]
    omega
/-- unlike ones, the fewest bits first -/
def unI (S : Nat → Nat) (c : Nat) (l : List Nat) : Nat → List Nat
  | 0 => l
  | i + 1 => if pcn (S i) = c ∧ S i ∉ unI S c l i then unI S c l i ++ [S i] else unI S c l i
def unO (S : Nat → Nat) : Nat → List Nat
  | 0 => []
  | n + 1 => unI S (n + 1) (unO S n) 16
def unP (S : Nat → Nat) (c : Nat) (l : List Nat) : Prop := l.Nodup ∧ (∀ x ∈ l, (∃ j, j < 16 ∧ S j = x) ∧ 1 ≤ pcn x ∧ pcn x ≤ c) ∧ l.Pairwise (fun a b => pcn a ≤ pcn b)
theorem unP_app {S : Nat → Nat} {c i : Nat} {l : List Nat} (h : unP S c l) (hi : i < 16) (hc : pcn (S i) = c) (hc1 : 1 ≤ c) (hn : S i ∉ l) : unP S c (l ++ [S i]) := by
  obtain ⟨h1, h2, h3⟩ := h
  refine ⟨?_, ?_, ?_⟩
  · rw [List.nodup_append]
    refine ⟨h1, by simp, ?_⟩
    intro a ha b hb e
    rw [List.mem_singleton] at hb
    rw [e, hb] at ha
    exact hn ha
  · intro x hx
    rcases List.mem_append.mp hx with hx | hx
    · exact h2 x hx
    · rw [List.mem_singleton] at hx; subst hx; exact ⟨⟨i, hi, rfl⟩, by omega, by omega⟩
  · rw [List.pairwise_append]
    refine ⟨h3, by simp, ?_⟩
    intro a ha b hb
    rw [List.mem_singleton] at hb
    rw [hb, hc]; exact (h2 a ha).2.2
theorem unI_P {S : Nat → Nat} {c : Nat} {l : List Nat} (hc1 : 1 ≤ c) (h : unP S c l) : ∀ i, i ≤ 16 → unP S c (unI S c l i) := by
  intro i
  induction i with
  | zero => intro _; exact h
  | succ i ih =>
    intro hi
    unfold unI
    split
    · rename_i hc; exact unP_app (ih (by omega)) (by omega) hc.1 hc1 hc.2
    · exact ih (by omega)
theorem unI_sub {S : Nat → Nat} {c : Nat} {l : List Nat} : ∀ i, ∀ x ∈ l, x ∈ unI S c l i := by
  intro i
  induction i with
  | zero => intro x hx; exact hx
  | succ i ih => intro x hx; unfold unI; split; exact List.mem_append_left _ (ih x hx); exact ih x hx
theorem unI_cov {S : Nat → Nat} {c : Nat} {l : List Nat} : ∀ i j, j < i → pcn (S j) = c → S j ∈ unI S c l i := by
  intro i
  induction i with
  | zero => intro j hj; omega
  | succ i ih =>
    intro j hj hc
    unfold unI
    rcases Nat.lt_or_ge j i with h | h
    · split; exact List.mem_append_left _ (ih j h hc); exact ih j h hc
    · obtain rfl : j = i := by omega
      split
      · exact List.mem_append_right _ List.mem_cons_self
      · rename_i hz
        by_cases hm : S j ∈ unI S c l j
        · exact hm
        · exact absurd ⟨hc, hm⟩ hz
theorem unO_P {S : Nat → Nat} : ∀ n, unP S n (unO S n) := by
  intro n
  induction n with
  | zero => exact ⟨List.nodup_nil, (fun x hx => by cases hx), List.Pairwise.nil⟩
  | succ n ih =>
    refine unI_P (by omega) ⟨ih.1, fun x hx => ?_, ih.2.2⟩ 16 (Nat.le_refl _)
    have := ih.2.1 x hx
    exact ⟨this.1, this.2.1, by omega⟩
theorem unO_cov {S : Nat → Nat} : ∀ n j, j < 16 → 1 ≤ pcn (S j) → pcn (S j) ≤ n → S j ∈ unO S n := by
  intro n
  induction n with
  | zero => intro j _ h1 h2; omega
  | succ n ih =>
    intro j hj h1 h2
    show S j ∈ unI S (n + 1) (unO S n) 16
    rcases Nat.lt_or_ge (pcn (S j)) (n + 1) with h | h
    · exact unI_sub 16 _ (ih j hj h1 (by omega))
    · exact unI_cov 16 j hj (by omega)
theorem unP_len {S : Nat → Nat} {c : Nat} {l : List Nat} (h : unP S c l) : l.length ≤ 16 := by
  have := nd_le l ((List.range 16).map S) h.1 (fun x hx => by obtain ⟨j, hj, e⟩ := (h.2.1 x hx).1; exact List.mem_map.mpr ⟨j, List.mem_range.mpr hj, e⟩)
  rw [List.length_map, List.length_range] at this
  exact this
/-- the first of their like -/
def fsB (S : Nat → Nat) (k : Nat) : Bool := decide (S k ≠ 0) && (List.range k).all (fun j => !decide (S j = S k))
def fsL (S : Nat → Nat) : Nat → List Nat
  | 0 => []
  | k + 1 => if fsB S k = true then fsL S k ++ [S k] else fsL S k
theorem fsL_len {S : Nat → Nat} : ∀ n, (fsL S n).length = cntF (fsB S) n := by
  intro n
  induction n with
  | zero => rfl
  | succ n ih =>
    unfold fsL
    show _ = cntF (fsB S) n + _
    split
    · rw [List.length_append, ih]; rfl
    · rw [ih]; rfl
theorem fsL_mem {S : Nat → Nat} : ∀ n x, x ∈ fsL S n ↔ x ≠ 0 ∧ ∃ j, j < n ∧ S j = x := by
  intro n
  induction n with
  | zero => intro x; exact ⟨(fun h => by cases h), (fun ⟨_, j, hj, _⟩ => absurd hj (Nat.not_lt_zero j))⟩
  | succ n ih =>
    intro x
    unfold fsL
    have key : fsB S n = true ↔ S n ≠ 0 ∧ ∀ j, j < n → S j ≠ S n := by
      unfold fsB
      rw [Bool.and_eq_true, List.all_eq_true]
      constructor
      · rintro ⟨h1, h2⟩; exact ⟨of_decide_eq_true h1, fun j hj e => by have := h2 j (List.mem_range.mpr hj); simp [e] at this⟩
      · rintro ⟨h1, h2⟩; exact ⟨decide_eq_true h1, fun j hj => by have := h2 j (List.mem_range.mp hj); simp [this]⟩
    split
    · rename_i h
      rw [List.mem_append, List.mem_singleton, ih]
      constructor
      · rintro (⟨h1, j, hj, e⟩ | h1)
        · exact ⟨h1, j, by omega, e⟩
        · exact ⟨by rw [h1]; exact (key.mp h).1, n, by omega, h1.symm⟩
      · rintro ⟨h1, j, hj, e⟩
        rcases Nat.lt_or_ge j n with h3 | h3
        · exact Or.inl ⟨h1, j, h3, e⟩
        · obtain rfl : j = n := by omega
          exact Or.inr e.symm
    · rename_i h
      rw [ih]
      constructor
      · rintro ⟨h1, j, hj, e⟩; exact ⟨h1, j, by omega, e⟩
      · rintro ⟨h1, j, hj, e⟩
        rcases Nat.lt_or_ge j n with h3 | h3
        · exact ⟨h1, j, h3, e⟩
        · obtain rfl : j = n := by omega
          refine ⟨h1, ?_⟩
          apply Classical.byContradiction
          intro hc
          exact h (key.mpr ⟨by rw [e]; exact h1, fun i hi e2 => hc ⟨i, hi, e2.trans e⟩⟩)
theorem fsL_nd {S : Nat → Nat} : ∀ n, (fsL S n).Nodup := by
  intro n
  induction n with
  | zero => exact List.nodup_nil
  | succ n ih =>
    unfold fsL
    split
    · rename_i h
      rw [List.nodup_append]
      refine ⟨ih, by simp, ?_⟩
      intro a ha b hb e
      rw [List.mem_singleton] at hb
      obtain ⟨_, j, hj, e2⟩ := (fsL_mem n a).mp ha
      unfold fsB at h
      rw [Bool.and_eq_true, List.all_eq_true] at h
      have := h.2 j (List.mem_range.mpr hj)
      rw [e, hb] at e2
      simp [e2] at this
    · exact ih
theorem un_mem {S : Nat → Nat} (hS : ∀ j, j < 16 → S j < 4096) (x : Nat) : x ∈ unO S 12 ↔ x ≠ 0 ∧ ∃ j, j < 16 ∧ S j = x := by
  constructor
  · intro h
    have := (unO_P 12).2.1 x h
    exact ⟨fun e => by have h2 := this.2.1; rw [e, pcn_z] at h2; omega, this.1⟩
  · rintro ⟨h1, j, hj, e⟩
    subst e
    have h4 := hS j hj
    refine unO_cov 12 j hj ?_ (pcn_12 h4)
    have : pcn (S j) ≠ 0 := fun z => h1 (pcn_0 (by omega) z)
    omega
theorem un_len {S : Nat → Nat} (hS : ∀ j, j < 16 → S j < 4096) : (unO S 12).length = cntF (fsB S) 16 := by
  rw [← fsL_len]
  refine Nat.le_antisymm (nd_le _ _ (unO_P 12).1 (fun x hx => (fsL_mem 16 x).mpr ((un_mem hS x).mp hx))) (nd_le _ _ (fsL_nd 16) (fun x hx => (un_mem hS x).mpr ((fsL_mem 16 x).mp hx)))
/-- what the reference makes of the list is the same -/
def wuN (S : Nat → Nat) (l : List Nat) (i k : Nat) : Nat := if sbN (l.getD k 0) (l.getD i 0) then lg S (l.getD k 0) else 0
def unS (S : Nat → Nat) (l : List Nat) : Prop := l.Nodup ∧ l.Pairwise (fun a b => pcn a ≤ pcn b) ∧ ∀ x, x ∈ l ↔ x ≠ 0 ∧ ∃ j, j < 16 ∧ S j = x
theorem getD_eq {l : List Nat} {k : Nat} (hk : k < l.length) : l.getD k 0 = l[k] := by rw [List.getD_eq_getElem?_getD, List.getElem?_eq_getElem hk]; rfl
theorem lg_un {S : Nat → Nat} (hS : ∀ j, j < 16 → S j < 4096) {l : List Nat} (hl : unS S l) {i : Nat} (hi : i < l.length) : lg S (l.getD i 0) = 1 + maxN (wuN S l i) i := by
  have hm : ∀ k, k < l.length → l.getD k 0 ∈ l := fun k hk => by rw [getD_eq hk]; exact List.getElem_mem hk
  obtain ⟨hx0, j0, hj0, ej0⟩ := (hl.2.2 _).mp (hm i hi)
  have hx4 : l.getD i 0 < 4096 := by rw [← ej0]; exact hS j0 hj0
  rw [lg_eq (by omega) hx0]
  refine congrArg (fun z => 1 + z) ?_
  refine Nat.le_antisymm (maxN_le 16 (fun j hj => ?_)) (maxN_le i (fun k hk => ?_))
  · unfold wiN
    split
    · rename_i hc
      have hmj : S j ∈ l := (hl.2.2 _).mpr ⟨hc.1, j, hj, rfl⟩
      obtain ⟨k, hk, ek⟩ := List.getElem_of_mem hmj
      have hlt := sbN_lt (by omega) hc.2.2 hc.2.1
      have hki : k < i := by
        apply Classical.byContradiction
        intro hn
        rcases Nat.lt_or_ge i k with h | h
        · have := (List.pairwise_iff_getElem.mp hl.2.1) i k hi hk h
          rw [ek, ← getD_eq hi] at this
          omega
        · obtain rfl : k = i := by omega
          exact hc.2.1 (by rw [getD_eq hk, ek])
      have := le_maxN (f := wuN S l i) i k hki
      have e2 : wuN S l i k = lg S (S j) := by unfold wuN; rw [getD_eq hk, ek]; exact if_pos hc.2.2
      rw [e2] at this
      exact this
    · exact Nat.zero_le _
  · unfold wuN
    split
    · rename_i hc
      have hk' : k < l.length := by omega
      obtain ⟨hy0, j, hj, ej⟩ := (hl.2.2 _).mp (hm k hk')
      have hne : l.getD k 0 ≠ l.getD i 0 := by
        rw [getD_eq hk', getD_eq hi]
        intro e
        exact (List.pairwise_iff_getElem.mp hl.1) k i hk' hi hk e
      have := le_maxN (f := wiN S (l.getD i 0)) 16 j hj
      have e2 : wiN S (l.getD i 0) j = lg S (l.getD k 0) := by unfold wiN; rw [ej]; exact if_pos ⟨hy0, hne, hc⟩
      rw [e2] at this
      exact this
    · exact Nat.zero_le _
def lgM (S : Nat → Nat) : Nat := maxN (fun j => if S j ≠ 0 then lg S (S j) else 0) 16
theorem lgM_un {S : Nat → Nat} {l : List Nat} (hl : unS S l) : maxN (fun i => lg S (l.getD i 0)) l.length = lgM S := by
  unfold lgM
  refine Nat.le_antisymm (maxN_le _ (fun i hi => ?_)) (maxN_le 16 (fun j hj => ?_))
  · obtain ⟨hx0, j, hj, ej⟩ := (hl.2.2 _).mp (show l.getD i 0 ∈ l by rw [getD_eq hi]; exact List.getElem_mem hi)
    have := le_maxN (f := fun j => if S j ≠ 0 then lg S (S j) else 0) 16 j hj
    simp only [ej] at this
    rw [if_pos hx0] at this
    exact this
  · split
    · rename_i hc
      obtain ⟨k, hk, ek⟩ := List.getElem_of_mem ((hl.2.2 _).mpr ⟨hc, j, hj, rfl⟩)
      have := le_maxN (f := fun i => lg S (l.getD i 0)) _ k hk
      simp only [getD_eq hk, ek] at this
      exact this
    · exact Nat.zero_le _
theorem lgF_le {S : Nat → Nat} : ∀ f x, lgF S f x ≤ f + 1 := by
  intro f
  induction f with
  | zero => intro x; exact Nat.le_refl _
  | succ f ih =>
    intro x
    show 1 + maxN _ 16 ≤ _
    have := maxN_le (f := fun j => if S j ≠ 0 ∧ S j ≠ x ∧ sbN (S j) x then lgF S f (S j) else 0) (c := f + 1) 16 (fun i _ => by split; exact ih _; omega)
    omega
theorem lg_le {S : Nat → Nat} (x : Nat) : lg S x ≤ 17 := by
  have := lgF_le (S := S) (pcn x) x
  have h : pcn x ≤ 16 := cntF_le _ 16
  unfold lg
  omega
theorem un_S {S : Nat → Nat} (hS : ∀ j, j < 16 → S j < 4096) : unS S (unO S 12) := ⟨(unO_P 12).1, (unO_P 12).2.2, un_mem hS⟩

/-! ===== errors, nested ===== -/
def wrW (T : TW) (b q w : Nat) : Nat := match lnO T w b q with
  | none => 0
  | some r => r ^^^ pg T b q
def errF (T : TW) (b q k w : Nat) : Bool := (wrW T b q w).testBit k
def errN (T : TW) (b q k : Nat) : Nat := setF (errF T b q k) (nw T)
theorem errN_lt {T : TW} (hW : WF T) {b q k : Nat} : errN T b q k < 4096 := Nat.lt_of_lt_of_le (setF_lt _) (pw12 hW)
theorem wrW_0 {T : TW} {b q w : Nat} (h : lnO T w b q = none) : wrW T b q w = 0 := by unfold wrW; rw [h]
theorem wrW_1 {T : TW} {b q w r : Nat} (h : lnO T w b q = some r) : wrW T b q w = r ^^^ pg T b q := by unfold wrW; rw [h]
theorem errF_s {T : TW} {b q k w : Nat} : setF (errF T b q k) (w + 1) = setF (errF T b q k) w ||| ((wrW T b q w >>> k &&& 1) <<< w) := by
  show _ ||| _ = _
  rw [tb]
  rfl
def errorsQ (T : TW) (y z s : Int32) : Int32 := onP T y z (-1) fun b q => onN 16 s (-1) fun k => nI (errN T b q k)
abbrev clP (a b : Nat) : Prop := ¬ a &&& b = 0 ∧ ¬ a &&& b = a ∧ ¬ a &&& b = b
def clC (S : Nat → Nat) (k l : Nat) : Nat := if k < l ∧ clP (S k) (S l) then 1 else 0
def clS (S : Nat → Nat) : Nat := sumN (fun k => sumN (clC S k) 16) 16
def clM (S : Nat → Nat) (i k : Nat) : Nat := clC S k i
theorem cl_sw (S : Nat → Nat) : sumN (fun i => sumN (clM S i) 16) 16 = clS S := sumN_sw (f := fun i k => clC S k i) 16
theorem clC_le (S : Nat → Nat) (k l : Nat) : clC S k l ≤ 1 := by unfold clC; split <;> omega
theorem clS_le (S : Nat → Nat) : clS S ≤ 256 := sumN_le (c := 16) 16 (fun k _ => sumN_le (c := 1) 16 (fun l _ => clC_le S k l))
theorem clC_1 {S : Nat → Nat} {k l : Nat} (h : k < l) (h2 : clP (S k) (S l)) : clC S k l = 1 := if_pos ⟨h, h2⟩
theorem clC_0 {S : Nat → Nat} {k l : Nat} (h2 : ¬ clP (S k) (S l)) : clC S k l = 0 := if_neg (fun z => h2 z.2)
theorem clC_pre {S : Nat → Nat} {k : Nat} : sumN (clC S k) (k + 1) = 0 := sumN_pre _ (fun i hi => if_neg (fun z => by omega))
theorem clM_t {S : Nat → Nat} {i : Nat} (hi : i < 16) : sumN (clM S i) 16 = sumN (clM S i) i := by
  have := sumN_tail (f := clM S i) (a := i) (16 - i) (fun j hj => if_neg (fun z => by omega))
  rw [show i + (16 - i) = 16 by omega] at this
  exact this
def nestV (S : Nat → Nat) (m : Nat) : Int32 := match m with
  | 0 => nI (if clS S = 0 then 1 else 0)
  | 1 => nI (clS S)
  | 2 => nI (cntF (fsB S) 16)
  | _ => nI (lgM S)
def nestedQ (T : TW) (y z v : Int32) : Int32 := onP T y z (-1) fun b q => onN 4 v (-1) fun m => nestV (errN T b q) m
theorem wi_iff {a b : Nat} (ha : a < 65536) : a &&& (b ^^^ 4294967295) = 0 ↔ sbN a b := by
  have key : ∀ i, (a &&& (b ^^^ 4294967295)).testBit i = (a.testBit i && !b.testBit i) := by
    intro i
    rw [Nat.testBit_and, Nat.testBit_xor, show (4294967295 : Nat) = 2 ^ 32 - 1 from rfl, Nat.testBit_two_pow_sub_one]
    by_cases hi : i < 32
    · simp [hi]
    · rw [Nat.testBit_lt_two_pow (x := a) (Nat.lt_of_lt_of_le ha (Nat.pow_le_pow_right (n := 2) (i := 16) (by decide) (by omega)))]; simp
  rw [sbN_iff]
  constructor
  · intro h i hi
    have := key i
    rw [h, Nat.zero_testBit, hi] at this
    cases hb : b.testBit i
    · rw [hb] at this; exact absurd this (by decide)
    · rfl
  · intro h
    refine Nat.eq_of_testBit_eq (fun i => ?_)
    rw [key i, Nat.zero_testBit]
    cases ha : a.testBit i
    · rfl
    · rw [h i ha]; rfl
theorem wi_le {a b : Nat} : a &&& b ≤ a := Nat.and_le_left
theorem cl_wi {a b : Nat} : clP a b ↔ ¬ b &&& a = 0 ∧ ¬ sbN b a ∧ ¬ sbN a b := by
  unfold clP sbN
  rw [Nat.and_comm b a]
  exact ⟨fun h => ⟨h.1, h.2.2, h.2.1⟩, fun h => ⟨h.1, h.2.2, h.2.1⟩⟩
theorem fs_iff {S : Nat → Nat} {n : Nat} : fsB S n = true ↔ S n ≠ 0 ∧ ∀ j, j < n → S j ≠ S n := by
  unfold fsB
  rw [Bool.and_eq_true, List.all_eq_true]
  constructor
  · rintro ⟨h1, h2⟩; exact ⟨of_decide_eq_true h1, fun j hj e => by have := h2 j (List.mem_range.mpr hj); simp [e] at this⟩
  · rintro ⟨h1, h2⟩; exact ⟨decide_eq_true h1, fun j hj => by have := h2 j (List.mem_range.mp hj); simp [this]⟩
/-- whose rows are known -/
abbrev dnP (S : Nat → Nat) (c k j : Nat) : Prop := 1 ≤ pcn (S j) ∧ (pcn (S j) < c ∨ (pcn (S j) = c ∧ j < k))
def dnM (S : Nat → Nat) (c k : Nat) : Nat := maxN (fun j => if dnP S c k j then lg S (S j) else 0) 16
theorem dnM_le (S : Nat → Nat) (c k : Nat) : dnM S c k ≤ 17 := maxN_le 16 (fun j _ => by split; exact lg_le _; omega)
theorem dnM_0 {S : Nat → Nat} {c k : Nat} (h : ¬ pcn (S k) = c) : dnM S c (k + 1) = dnM S c k := by
  refine maxN_cg 16 (fun j _ => ?_)
  have e : dnP S c (k + 1) j ↔ dnP S c k j := ⟨fun z => ⟨z.1, z.2.elim Or.inl (fun q => Or.inr ⟨q.1, by have : j ≠ k := fun e => h (e ▸ q.1); omega⟩)⟩, fun z => ⟨z.1, z.2.elim Or.inl (fun q => Or.inr ⟨q.1, by omega⟩)⟩⟩
  by_cases hd : dnP S c k j
  · rw [if_pos hd, if_pos (e.mpr hd)]
  · rw [if_neg hd, if_neg (fun z => hd (e.mp z))]
theorem dnM_1 {S : Nat → Nat} {c k : Nat} (hc : 1 ≤ c) (hk : k < 16) (h : pcn (S k) = c) : dnM S c (k + 1) = max (dnM S c k) (lg S (S k)) := by
  refine Nat.le_antisymm (maxN_le 16 (fun j hj => ?_)) ?_
  · split
    · rename_i hd
      by_cases e : j = k
      · subst e; exact Nat.le_max_right _ _
      · have hd2 : dnP S c k j := ⟨hd.1, hd.2.elim Or.inl (fun q => Or.inr ⟨q.1, by omega⟩)⟩
        have := le_maxN (f := fun j => if dnP S c k j then lg S (S j) else 0) 16 j hj
        simp only [if_pos hd2] at this
        exact Nat.le_trans this (Nat.le_max_left _ _)
    · exact Nat.zero_le _
  · refine Nat.max_le.mpr ⟨maxN_le 16 (fun j hj => ?_), ?_⟩
    · split
      · rename_i hd
        have hd2 : dnP S c (k + 1) j := ⟨hd.1, hd.2.elim Or.inl (fun q => Or.inr ⟨q.1, by omega⟩)⟩
        have := le_maxN (f := fun j => if dnP S c (k + 1) j then lg S (S j) else 0) 16 j hj
        simp only [if_pos hd2] at this
        exact this
      · exact Nat.zero_le _
    · have hd2 : dnP S c (k + 1) k := ⟨by omega, Or.inr ⟨h, by omega⟩⟩
      have := le_maxN (f := fun j => if dnP S c (k + 1) j then lg S (S j) else 0) 16 k hk
      simp only [if_pos hd2] at this
      exact this
theorem dnP_s {S : Nat → Nat} {c j : Nat} (hj : j < 16) : dnP S c 16 j ↔ dnP S (c + 1) 0 j := ⟨fun z => ⟨z.1, Or.inl (by omega)⟩, fun z => ⟨z.1, by rcases z.2 with q | q; omega; omega⟩⟩
theorem dnM_s {S : Nat → Nat} {c : Nat} : dnM S (c + 1) 0 = dnM S c 16 := by
  refine maxN_cg 16 (fun j hj => ?_)
  by_cases hd : dnP S c 16 j
  · rw [if_pos hd, if_pos ((dnP_s hj).mp hd)]
  · rw [if_neg hd, if_neg (fun z => hd ((dnP_s hj).mpr z))]
theorem dnM_z {S : Nat → Nat} : dnM S 1 0 = 0 := Nat.le_zero.mp (maxN_le 16 (fun j _ => by rw [if_neg (fun z => by omega)]; exact Nat.le_refl _))
theorem dnM_e {S : Nat → Nat} (hS : ∀ j, j < 16 → S j < 4096) : dnM S 13 0 = lgM S := by
  refine maxN_cg 16 (fun j hj => ?_)
  have h12 := pcn_12 (hS j hj)
  by_cases h : S j = 0
  · rw [if_neg (fun z => by have := z.1; rw [h, pcn_z] at this; omega), if_neg (fun z => z h)]
  · have : pcn (S j) ≠ 0 := fun z => h (pcn_0 (by have := hS j hj; omega) z)
    rw [if_pos ⟨by omega, Or.inl (by omega)⟩, if_pos h]
set_option maxRecDepth 20000 in
set_option maxHeartbeats 1000000 in
theorem l0_X3_gather {L : Nat → Nat → Int64} {Q : bh_Q} {d : Nat} (hd : 0 ≤ d) {b q : Nat} {a6 a7 a8 : Value} {D0 : Nat → Nat → Int32} (kE : ∀ D, OffC D0 D → (∀ j, j < 16 → D 45 j = nI 0) → bw m_X3_gather d Q 24 [.ref 44, .ref 1, .ref 31, .int (nI b), .int (nI q), .int (nI 16), a6, a7, a8] [] D L) : ∀ (f i : Nat) (D : Nat → Nat → Int32), i + f = 16 → (OffC D0 D) → (∀ j, j < i → D 45 j = nI 0) → bw m_X3_gather d Q 3 [.ref 44, .ref 1, .ref 31, .int (nI b), .int (nI q), .int (nI i), a6, a7, a8] [] D L := by
  intro f
  induction f with
  | zero =>
    intro i D hf o h0
    refine x_iload (pc' := 5) rfl rfl rfl ?_
    refine x_int (pc' := 7) (v := nI 16) rfl rfl rfl ?_
    refine y_ic_ge (pc' := 10) rfl rfl (by omega) (by omega) (fun c7 => ?_) (fun c7 => ?_)
    · obtain rfl : i = 16 := by omega
      exact kE D o h0
    · exact absurd c7 (by omega)
  | succ f ih =>
    intro i D hf o h0
    refine x_iload (pc' := 5) rfl rfl rfl ?_
    refine x_int (pc' := 7) (v := nI 16) rfl rfl rfl ?_
    refine y_ic_ge (pc' := 10) rfl rfl (by omega) (by omega) (fun c7 => ?_) (fun c7 => ?_)
    · exact absurd c7 (by omega)
    · refine x_aload (pc' := 11) rfl rfl rfl ?_
      refine x_getR (pc' := 14) rfl rfl rfl (by decide) rfl (by decide) rfl rfl ?_
      refine x_iload (pc' := 16) rfl rfl rfl ?_
      refine x_int (pc' := 17) (v := nI 0) rfl rfl rfl ?_
      refine x_iast (pc' := 18) rfl rfl (by decide) rfl (by decide) (show _ < 16 by omega) ?_
      refine y_inc (pc' := 21) (lv' := [_, _, _, _, _, _, _, _, _]) rfl rfl rfl (by decide) rfl ?_
      refine x_goto rfl ?_
      refine ih (i + 1) _ (by omega) (o.tr (OffC.up (by decide) (by decide))) (fun j hj => ?_)
      rw [up2_at]
      by_cases e : j = i
      · rw [if_pos ⟨rfl, e⟩]
      · rw [if_neg (fun z => e z.2)]; exact h0 j (by omega)
set_option maxRecDepth 20000 in
set_option maxHeartbeats 1000000 in
theorem l1_X3_gather {L : Nat → Nat → Int64} {Q : bh_Q} {d : Nat} (hd : 0 ≤ d) {b q w x : Nat} {v6 : Int32} (hw : w < 12) (hx : x < 65536) {S : Nat → Nat} {D0 : Nat → Nat → Int32} (kE : ∀ D, OffC D0 D → (∀ j, j < 16 → D 45 j = nI (S j ||| ((x >>> j &&& 1) <<< w))) → bw m_X3_gather d Q 107 [.ref 44, .ref 1, .ref 31, .int (nI b), .int (nI q), .int (nI w), .int v6, .int (nI x), .int (nI 16)] [] D L) : ∀ (f i : Nat) (D : Nat → Nat → Int32), i + f = 16 → (OffC D0 D) → (∀ j, j < i → D 45 j = nI (S j ||| ((x >>> j &&& 1) <<< w))) → (∀ j, i ≤ j → j < 16 → D 45 j = nI (S j)) → bw m_X3_gather d Q 74 [.ref 44, .ref 1, .ref 31, .int (nI b), .int (nI q), .int (nI w), .int v6, .int (nI x), .int (nI i)] [] D L := by
  intro f
  induction f with
  | zero =>
    intro i D hf o h0 h1
    refine x_iload (pc' := 76) rfl rfl rfl ?_
    refine x_int (pc' := 78) (v := nI 16) rfl rfl rfl ?_
    refine y_ic_ge (pc' := 81) rfl rfl (by omega) (by omega) (fun c78 => ?_) (fun c78 => ?_)
    · obtain rfl : i = 16 := by omega
      exact kE D o h0
    · exact absurd c78 (by omega)
  | succ f ih =>
    intro i D hf o h0 h1
    refine x_iload (pc' := 76) rfl rfl rfl ?_
    refine x_int (pc' := 78) (v := nI 16) rfl rfl rfl ?_
    refine y_ic_ge (pc' := 81) rfl rfl (by omega) (by omega) (fun c78 => ?_) (fun c78 => ?_)
    · exact absurd c78 (by omega)
    · refine x_aload (pc' := 82) rfl rfl rfl ?_
      refine x_getR (pc' := 85) rfl rfl rfl (by decide) rfl (by decide) rfl rfl ?_
      refine x_iload (pc' := 87) rfl rfl rfl ?_
      refine x_dup2 (pc' := 88) rfl rfl rfl rfl ?_
      refine x_iald (pc' := 89) rfl rfl (by decide) rfl (by decide) (show _ < 16 by omega) ?_
      refine x_top (h1 i (Nat.le_refl _) (by omega)) ?_
      refine x_iload (pc' := 91) rfl rfl rfl ?_
      refine x_iload (pc' := 93) rfl rfl rfl ?_
      refine y_ishr (pc' := 94) rfl rfl (by omega) (by omega) ?_
      refine x_int (pc' := 95) (v := nI 1) rfl rfl rfl ?_
      refine y_iand (pc' := 96) rfl rfl ?_
      refine x_iload (pc' := 98) rfl rfl rfl ?_
      refine y_ishl (pc' := 99) rfl rfl (by omega) ?_
      refine y_ior (pc' := 100) rfl rfl ?_
      refine x_iast (pc' := 101) rfl rfl (by decide) rfl (by decide) (show _ < 16 by omega) ?_
      refine y_inc (pc' := 104) (lv' := [_, _, _, _, _, _, _, _, _]) rfl rfl rfl (by decide) rfl ?_
      refine x_goto rfl ?_
      refine ih (i + 1) _ (by omega) (o.tr (OffC.up (by decide) (by decide))) (fun j hj => ?_) (fun j hj hj2 => ?_)
      · rw [up2_at]
        by_cases e : j = i
        · rw [if_pos ⟨rfl, e⟩, e]
        · rw [if_neg (fun z => e z.2)]; exact h0 j (by omega)
      · rw [up2_at, if_neg (fun z => by omega)]; exact h1 j (by omega) hj2
set_option maxRecDepth 20000 in
set_option maxHeartbeats 1000000 in
theorem l2_X3_gather {L : Nat → Nat → Int64} {Q : bh_Q} {d : Nat} (hd : 3 ≤ d) {T : TW} (hW : WF T) {b q : Nat} (hb : b < nb T) (hq : q < lng T b) {D0 : Nat → Nat → Int32} (kE : ∀ D, OffC D0 D → (∀ j, j < 16 → D 45 j = nI (errN T b q j)) → Q none (hp D L)) : ∀ (f i : Nat) (D : Nat → Nat → Int32) (a6 : Value) (a7 : Value) (a8 : Value), i + f = nw T → (OffC D0 D) → (tv D = T) → (∀ j, j < 16 → D 45 j = nI (setF (errF T b q j) i)) → bw m_X3_gather d Q 27 [.ref 44, .ref 1, .ref 31, .int (nI b), .int (nI q), .int (nI i), a6, a7, a8] [] D L := by
  intro f
  induction f with
  | zero =>
    intro i D a6 a7 a8 hf o hT h0
    subst hT
    have h12 := hW.nwl
    have h4 := hW.nbl
    have h8 := hW.lngl hb
    refine x_iload (pc' := 29) rfl rfl rfl ?_
    refine x_aload (pc' := 30) rfl rfl rfl ?_
    refine x_getI (j := 0) (pc' := 33) rfl rfl rfl (by decide) rfl (by decide) rfl rfl ?_
    refine x_top (hW.enw) ?_
    refine y_ic_ge (pc' := 36) rfl rfl (by omega) (by omega) (fun c33 => ?_) (fun c33 => ?_)
    · refine x_vret rfl rfl ?_
      obtain rfl : i = nw (tv D) := by omega
      exact kE D o h0
    · exact absurd c33 (by omega)
  | succ f ih =>
    intro i D a6 a7 a8 hf o hT h0
    subst hT
    have h12 := hW.nwl
    have h4 := hW.nbl
    have h8 := hW.lngl hb
    refine x_iload (pc' := 29) rfl rfl rfl ?_
    refine x_aload (pc' := 30) rfl rfl rfl ?_
    refine x_getI (j := 0) (pc' := 33) rfl rfl rfl (by decide) rfl (by decide) rfl rfl ?_
    refine x_top (hW.enw) ?_
    refine y_ic_ge (pc' := 36) rfl rfl (by omega) (by omega) (fun c33 => ?_) (fun c33 => ?_)
    · exact absurd c33 (by omega)
    · refine x_aload (pc' := 37) rfl rfl rfl ?_
      refine x_aload (pc' := 38) rfl rfl rfl ?_
      refine x_iload (pc' := 40) rfl rfl rfl ?_
      refine x_iload (pc' := 41) rfl rfl rfl ?_
      refine x_iload (pc' := 43) rfl rfl rfl ?_
      refine x_callV (pc' := 46) (d1 := 3) (Bs := [_, _, _, _]) rfl rfl rfl rfl rfl rfl rfl (Nat.le_of_ble_eq_true rfl) ⟨rfl, rfl⟩ (by decide) rfl (by omega) ?_
      refine w_X2_lineOf hW (show i < nw (tv D) by omega) hb hq (fun D1 o1 => ?_)
      rcases hz : lnO (tv D) i b q with _ | r
      · refine ⟨rfl, ?_⟩
        refine x_istore (pc' := 48) (lv' := [_, _, _, _, _, _, _, _, _]) rfl rfl (by decide) rfl ?_
        refine x_iload (pc' := 50) rfl rfl rfl ?_
        refine x_int (pc' := 52) (v := (-2)) rfl rfl rfl ?_
        refine x_ic_ne (pc' := 55) rfl rfl (fun c52 => absurd (by decide) c52) (fun _ => ?_)
        refine x_int (pc' := 56) (v := nI 0) rfl rfl rfl ?_
        refine x_goto rfl ?_
        refine x_istore (pc' := 71) (lv' := [_, _, _, _, _, _, _, _, _]) rfl rfl (by decide) rfl ?_
        refine x_int (pc' := 72) (v := nI 0) rfl rfl rfl ?_
        refine x_istore (pc' := 74) (lv' := [_, _, _, _, _, _, _, _, _]) rfl rfl (by decide) rfl ?_
        have t1 := o1.tv
        have oc := o.tr o1.c
        have h45 : ∀ j, j < 16 → D1 45 j = nI (setF (errF (tv D) b q j) i) := by rw [o1 45 (by decide) (by decide)]; exact h0
        first
          | (have ex := wrW_0 hz
             refine l1_X3_gather (d := d) (Nat.zero_le _) (show i < 12 by omega) (x := 0) (by decide) (S := fun j => setF (errF (tv D) b q j) i) (D0 := D1) (fun D2 o2 h2 => ?_) 16 0 D1 rfl OffC.rf (fun j hj => absurd hj (Nat.not_lt_zero j)) (fun j _ hj => h45 j hj)
             refine y_inc (pc' := 110) (lv' := [_, _, _, _, _, _, _, _, _]) rfl rfl rfl (by decide) rfl ?_
             refine x_goto rfl ?_
             refine ih (i + 1) D2 _ _ _ (by omega) (oc.tr o2) (o2.tv.trans t1) (fun j hj => ?_)
             rw [h2 j hj, errF_s, ex]
             )
          | (have ex := wrW_1 hz
             refine l1_X3_gather (d := d) (Nat.zero_le _) (show i < 12 by omega) (x := r ^^^ pg (tv D) b q) (xor16 hrl (hW.pgl hb hq)) (S := fun j => setF (errF (tv D) b q j) i) (D0 := D1) (fun D2 o2 h2 => ?_) 16 0 D1 rfl OffC.rf (fun j hj => absurd hj (Nat.not_lt_zero j)) (fun j _ hj => h45 j hj)
             refine y_inc (pc' := 110) (lv' := [_, _, _, _, _, _, _, _, _]) rfl rfl rfl (by decide) rfl ?_
             refine x_goto rfl ?_
             refine ih (i + 1) D2 _ _ _ (by omega) (oc.tr o2) (o2.tv.trans t1) (fun j hj => ?_)
             rw [h2 j hj, errF_s, ex]
             )
      · refine ⟨rfl, ?_⟩
        have hrl := lnO_lt hW (show i < nw (tv D) by omega) hb hq hz
        refine x_istore (pc' := 48) (lv' := [_, _, _, _, _, _, _, _, _]) rfl rfl (by decide) rfl ?_
        refine x_iload (pc' := 50) rfl rfl rfl ?_
        refine x_int (pc' := 52) (v := (-2)) rfl rfl rfl ?_
        refine x_ic_ne (pc' := 55) rfl rfl (fun c52 => ?_) (fun c52 => ?_)
        · refine x_iload (pc' := 61) rfl rfl rfl ?_
          refine x_aload (pc' := 62) rfl rfl rfl ?_
          refine x_iload (pc' := 63) rfl rfl rfl ?_
          refine x_iload (pc' := 65) rfl rfl rfl ?_
          refine x_callV (pc' := 68) (d1 := 1) (Bs := [_, _]) rfl rfl rfl rfl rfl rfl rfl (Nat.le_of_ble_eq_true rfl) ⟨rfl, rfl⟩ (by decide) rfl (by omega) ?_
          refine w_X7_rowOf (D := D1) (by rw [o1.tv]; exact hW) (by rw [o1.tv]; exact hb) (by rw [o1.tv]; exact hq) ?_
          refine ⟨rfl, ?_⟩
          rw [o1.tv]
          refine y_ixor (pc' := 69) rfl rfl ?_
          refine x_istore (pc' := 71) (lv' := [_, _, _, _, _, _, _, _, _]) rfl rfl (by decide) rfl ?_
          refine x_int (pc' := 72) (v := nI 0) rfl rfl rfl ?_
          refine x_istore (pc' := 74) (lv' := [_, _, _, _, _, _, _, _, _]) rfl rfl (by decide) rfl ?_
          have t1 := o1.tv
          have oc := o.tr o1.c
          have h45 : ∀ j, j < 16 → D1 45 j = nI (setF (errF (tv D) b q j) i) := by rw [o1 45 (by decide) (by decide)]; exact h0
          first
            | (have ex := wrW_0 hz
               refine l1_X3_gather (d := d) (Nat.zero_le _) (show i < 12 by omega) (x := 0) (by decide) (S := fun j => setF (errF (tv D) b q j) i) (D0 := D1) (fun D2 o2 h2 => ?_) 16 0 D1 rfl OffC.rf (fun j hj => absurd hj (Nat.not_lt_zero j)) (fun j _ hj => h45 j hj)
               refine y_inc (pc' := 110) (lv' := [_, _, _, _, _, _, _, _, _]) rfl rfl rfl (by decide) rfl ?_
               refine x_goto rfl ?_
               refine ih (i + 1) D2 _ _ _ (by omega) (oc.tr o2) (o2.tv.trans t1) (fun j hj => ?_)
               rw [h2 j hj, errF_s, ex]
               )
            | (have ex := wrW_1 hz
               refine l1_X3_gather (d := d) (Nat.zero_le _) (show i < 12 by omega) (x := r ^^^ pg (tv D) b q) (xor16 hrl (hW.pgl hb hq)) (S := fun j => setF (errF (tv D) b q j) i) (D0 := D1) (fun D2 o2 h2 => ?_) 16 0 D1 rfl OffC.rf (fun j hj => absurd hj (Nat.not_lt_zero j)) (fun j _ hj => h45 j hj)
               refine y_inc (pc' := 110) (lv' := [_, _, _, _, _, _, _, _, _]) rfl rfl rfl (by decide) rfl ?_
               refine x_goto rfl ?_
               refine ih (i + 1) D2 _ _ _ (by omega) (oc.tr o2) (o2.tv.trans t1) (fun j hj => ?_)
               rw [h2 j hj, errF_s, ex]
               )
        · exact absurd c52 (nI_m2 (by omega))
set_option maxRecDepth 20000 in
set_option maxHeartbeats 1000000 in
theorem w_X3_gather {D : Nat → Nat → Int32} {L : Nat → Nat → Int64} {Q : bh_Q} (hW : WF (tv D)) {b q : Nat} (hb : b < nb (tv D)) (hq : q < lng (tv D) b) (k1 : ∀ D', OffC D D' → (∀ j, j < 16 → D' 45 j = nI (errN (tv D) b q j)) → Q none (hp D' L)) : bh_wc 4 m_X3_gather [.ref 44, .ref 1, .ref 31, .int (nI b), .int (nI q)] (hp D L) Q := by
  refine x_start (lv0 := [_, _, _, _, _, _, _, _, _]) (Nat.le_of_ble_eq_true rfl) rfl ?_
  refine x_int (pc' := 1) (v := nI 0) rfl rfl rfl ?_
  refine x_istore (pc' := 3) (lv' := [_, _, _, _, _, _, _, _, _]) rfl rfl (by decide) rfl ?_
  refine l0_X3_gather (d := 3) (Nat.zero_le _) (D0 := D) (fun D1 o1 h1 => ?_) 16 0 D rfl OffC.rf (fun j hj => absurd hj (Nat.not_lt_zero j))
  refine x_int (pc' := 25) (v := nI 0) rfl rfl rfl ?_
  refine x_istore (pc' := 27) (lv' := [_, _, _, _, _, _, _, _, _]) rfl rfl (by decide) rfl ?_
  exact l2_X3_gather (d := 3) (Nat.le_refl _) hW hb hq (D0 := D) k1 (nw (tv D)) 0 D1 _ _ _ (Nat.zero_add _) o1 o1.tv h1
set_option maxRecDepth 20000 in
set_option maxHeartbeats 1000000 in
theorem w_X9_errors {D : Nat → Nat → Int32} {L : Nat → Nat → Int64} {Q : bh_Q} (hW : WF (tv D)) {y z s : Int32} (k1 : ∀ D1, OffC D D1 → Q (some (.int (errorsQ (tv D) y z s))) (hp D1 L)) : bh_wc 5 m_X9_errors [.ref 0, .int y, .int z, .int s] (hp D L) Q := by
  refine x_start (lv0 := [_, _, _, _]) (Nat.le_of_ble_eq_true rfl) rfl ?_
  refine x_aload (pc' := 1) rfl rfl rfl ?_
  refine x_getR (pc' := 4) rfl rfl rfl (by decide) rfl (by decide) rfl rfl ?_
  refine x_iload (pc' := 5) rfl rfl rfl ?_
  refine x_iload (pc' := 6) rfl rfl rfl ?_
  refine x_callV (pc' := 9) (d1 := 2) (Bs := [_, _]) rfl rfl rfl rfl rfl rfl rfl (Nat.le_of_ble_eq_true rfl) ⟨rfl, rfl⟩ (by decide) rfl (by decide) ?_
  refine w_X7_isPage hW (fun b q hb hq e1 e2 => ?_) (fun hn => ?_)
  · subst e1; subst e2
    refine ⟨rfl, ?_⟩
    refine x_if_eq (pc' := 12) rfl rfl (fun c9 => absurd c9 (by decide)) (fun _ => ?_)
    refine x_iload (pc' := 13) rfl rfl rfl ?_
    refine x_callS (pc' := 16) (d1 := 1) (As := [_]) rfl rfl rfl rfl (by decide) rfl rfl (Nat.le_of_ble_eq_true rfl) ⟨rfl, rfl⟩ (by decide) ?_
    refine w_X9_isSign (fun h13w h13l e => ?_) (fun h13 => ?_)
    · subst e
      refine ⟨rfl, ?_⟩
      refine x_if_ne (pc' := 19) rfl rfl (fun _ => ?_) (fun c16 => absurd c16 (by decide))
      refine x_aload (pc' := 22) rfl rfl rfl ?_
      refine x_getR (pc' := 25) rfl rfl rfl (by decide) rfl (by decide) rfl rfl ?_
      refine x_aload (pc' := 26) rfl rfl rfl ?_
      refine x_getR (pc' := 29) rfl rfl rfl (by decide) rfl (by decide) rfl rfl ?_
      refine x_aload (pc' := 30) rfl rfl rfl ?_
      refine x_getR (pc' := 33) rfl rfl rfl (by decide) rfl (by decide) rfl rfl ?_
      refine x_iload (pc' := 34) rfl rfl rfl ?_
      refine x_iload (pc' := 35) rfl rfl rfl ?_
      refine x_callV (pc' := 38) (d1 := 4) (Bs := [_, _, _, _]) rfl rfl rfl rfl rfl rfl rfl (Nat.le_of_ble_eq_true rfl) ⟨rfl, rfl⟩ (by decide) rfl (by decide) ?_
      refine w_X3_gather hW hb hq (fun D1 o1 h1 => ?_)
      refine ⟨rfl, ?_⟩
      refine x_aload (pc' := 39) rfl rfl rfl ?_
      refine x_getR (pc' := 42) rfl rfl rfl (by decide) rfl (by decide) rfl rfl ?_
      refine x_getR (pc' := 45) rfl rfl rfl (by decide) rfl (by decide) rfl rfl ?_
      refine x_iload (pc' := 46) rfl rfl rfl ?_
      refine x_iald (pc' := 47) rfl rfl (by decide) rfl (by decide) (show _ < 16 by omega) ?_
      refine x_iret rfl rfl ?_
      simp (disch := first | assumption | omega) only [errorsQ, onN_1, onN_0, onP_1, onP_0, ↓reduceIte] at k1
      rw [h1 _ h13l]
      exact k1 D1 o1
    · refine ⟨rfl, ?_⟩
      refine x_if_ne (pc' := 19) rfl rfl (fun c16 => absurd (by decide) c16) (fun _ => ?_)
      refine x_int (pc' := 20) (v := (-1)) rfl rfl rfl ?_
      refine x_iret rfl rfl ?_
      simp (disch := first | assumption | omega) only [errorsQ, onN_1, onN_0, onP_1, onP_0, ↓reduceIte] at k1
      exact k1 D OffC.rf
  · refine ⟨rfl, ?_⟩
    refine x_if_eq (pc' := 12) rfl rfl (fun _ => ?_) (fun c9 => absurd (by decide) c9)
    refine x_int (pc' := 20) (v := (-1)) rfl rfl rfl ?_
    refine x_iret rfl rfl ?_
    simp (disch := first | assumption | omega) only [errorsQ, onN_1, onN_0, onP_1, onP_0, ↓reduceIte] at k1
    exact k1 D OffC.rf
set_option maxRecDepth 20000 in
set_option maxHeartbeats 1000000 in
theorem w_X3_clash {D : Nat → Nat → Int32} {L : Nat → Nat → Int64} {Q : bh_Q} {a b : Nat} (ha : a < 4096) (hb : b < 4096) (k1 : clP a b → Q (some (.int 1)) (hp D L)) (k0 : ¬ clP a b → Q (some (.int 0)) (hp D L)) : bh_wc 1 m_X3_clash [.int (nI a), .int (nI b)] (hp D L) Q := by
  refine x_start (lv0 := [_, _, _]) (Nat.le_of_ble_eq_true rfl) rfl ?_
  refine x_iload (pc' := 1) rfl rfl rfl ?_
  refine x_iload (pc' := 2) rfl rfl rfl ?_
  refine y_iand (pc' := 3) rfl rfl ?_
  refine x_istore (pc' := 4) (lv' := [_, _, _]) rfl rfl (by decide) rfl ?_
  refine x_iload (pc' := 5) rfl rfl rfl ?_
  refine y_if_eq (pc' := 8) rfl rfl (by first | omega | (have := wi_le (a := a) (b := b); omega)) (fun c5 => ?_) (fun c5 => ?_)
  · refine x_int (pc' := 23) (v := nI 0) rfl rfl rfl ?_
    refine x_zret rfl rfl (by decide) ?_
    first
      | (exact k1 ⟨c5, c10, c15⟩)
      | (exact k0 (fun h => h.2.2 c15))
      | (exact k0 (fun h => h.2.1 c10))
      | (exact k0 (fun h => h.1 c5))
  · refine x_iload (pc' := 9) rfl rfl rfl ?_
    refine x_iload (pc' := 10) rfl rfl rfl ?_
    refine y_ic_eq (pc' := 13) rfl rfl (by first | omega | (have := wi_le (a := a) (b := b); omega)) (by first | omega | (have := wi_le (a := a) (b := b); omega)) (fun c10 => ?_) (fun c10 => ?_)
    · refine x_int (pc' := 23) (v := nI 0) rfl rfl rfl ?_
      refine x_zret rfl rfl (by decide) ?_
      first
        | (exact k1 ⟨c5, c10, c15⟩)
        | (exact k0 (fun h => h.2.2 c15))
        | (exact k0 (fun h => h.2.1 c10))
        | (exact k0 (fun h => h.1 c5))
    · refine x_iload (pc' := 14) rfl rfl rfl ?_
      refine x_iload (pc' := 15) rfl rfl rfl ?_
      refine y_ic_eq (pc' := 18) rfl rfl (by first | omega | (have := wi_le (a := a) (b := b); omega)) (by first | omega | (have := wi_le (a := a) (b := b); omega)) (fun c15 => ?_) (fun c15 => ?_)
      · refine x_int (pc' := 23) (v := nI 0) rfl rfl rfl ?_
        refine x_zret rfl rfl (by decide) ?_
        first
          | (exact k1 ⟨c5, c10, c15⟩)
          | (exact k0 (fun h => h.2.2 c15))
          | (exact k0 (fun h => h.2.1 c10))
          | (exact k0 (fun h => h.1 c5))
      · refine x_int (pc' := 19) (v := nI 1) rfl rfl rfl ?_
        refine x_goto rfl ?_
        refine x_zret rfl rfl (by decide) ?_
        first
          | (exact k1 ⟨c5, c10, c15⟩)
          | (exact k0 (fun h => h.2.2 c15))
          | (exact k0 (fun h => h.2.1 c10))
          | (exact k0 (fun h => h.1 c5))
set_option maxRecDepth 20000 in
set_option maxHeartbeats 1000000 in
theorem l0_X3_clashes {L : Nat → Nat → Int64} {Q : bh_Q} {d : Nat} (hd : 1 ≤ d) {D0 : Nat → Nat → Int32} {S : Nat → Nat} (hS : ∀ j, j < 16 → S j < 4096) (h45 : ∀ j, j < 16 → D0 45 j = nI (S j)) {m k : Nat} (hk : k < 16) (kE : bw m_X3_clashes d Q 47 [.ref 44, .int (nI (m + sumN (clC S k) 16)), .int (nI k), .int (nI 16)] [] D0 L) : ∀ (f i : Nat) (D : Nat → Nat → Int32), i + f = 16 → (k < i) → (D0 = D) → bw m_X3_clashes d Q 14 [.ref 44, .int (nI (m + sumN (clC S k) i)), .int (nI k), .int (nI i)] [] D L := by
  intro f
  induction f with
  | zero =>
    intro i D hf hki hD
    subst hD
    refine x_iload (pc' := 15) rfl rfl rfl ?_
    refine x_int (pc' := 17) (v := nI 16) rfl rfl rfl ?_
    refine y_ic_ge (pc' := 20) rfl rfl (by omega) (by omega) (fun c17 => ?_) (fun c17 => ?_)
    · obtain rfl : i = 16 := by omega
      exact kE
    · exact absurd c17 (by omega)
  | succ f ih =>
    intro i D hf hki hD
    subst hD
    refine x_iload (pc' := 15) rfl rfl rfl ?_
    refine x_int (pc' := 17) (v := nI 16) rfl rfl rfl ?_
    refine y_ic_ge (pc' := 20) rfl rfl (by omega) (by omega) (fun c17 => ?_) (fun c17 => ?_)
    · exact absurd c17 (by omega)
    · refine x_aload (pc' := 21) rfl rfl rfl ?_
      refine x_getR (pc' := 24) rfl rfl rfl (by decide) rfl (by decide) rfl rfl ?_
      refine x_iload (pc' := 25) rfl rfl rfl ?_
      refine x_iald (pc' := 26) rfl rfl (by decide) rfl (by decide) (show _ < 16 by omega) ?_
      refine x_top (h45 k hk) ?_
      refine x_aload (pc' := 27) rfl rfl rfl ?_
      refine x_getR (pc' := 30) rfl rfl rfl (by decide) rfl (by decide) rfl rfl ?_
      refine x_iload (pc' := 31) rfl rfl rfl ?_
      refine x_iald (pc' := 32) rfl rfl (by decide) rfl (by decide) (show _ < 16 by omega) ?_
      refine x_top (h45 i (by omega)) ?_
      refine x_callS (pc' := 35) (d1 := 1) (As := [_, _]) rfl rfl rfl rfl (by decide) rfl rfl (Nat.le_of_ble_eq_true rfl) ⟨rfl, rfl⟩ (by omega) ?_
      refine w_X3_clash (hS k hk) (hS i (by omega)) (fun hc => ?_) (fun hc => ?_)
      · refine ⟨rfl, ?_⟩
        refine x_if_eq (pc' := 38) rfl rfl (fun c35 => absurd c35 (by decide)) (fun _ => ?_)
        refine y_inc (pc' := 41) (lv' := [_, _, _, _]) rfl rfl rfl (by decide) rfl ?_
        refine y_inc (pc' := 44) (lv' := [_, _, _, _]) rfl rfl rfl (by decide) rfl ?_
        refine x_goto rfl ?_
        have es : sumN (clC S k) (i + 1) = sumN (clC S k) i + clC S k i := rfl
        first
          | (rw [clC_1 hki hc] at es
             have hh := ih (i + 1) D0 (by omega) (by omega) rfl
             rw [es, ← Nat.add_assoc] at hh
             exact hh)
          | (rw [clC_0 hc] at es
             have hh := ih (i + 1) D0 (by omega) (by omega) rfl
             rw [es] at hh
             exact hh)
      · refine ⟨rfl, ?_⟩
        refine x_if_eq (pc' := 38) rfl rfl (fun _ => ?_) (fun c35 => absurd (by decide) c35)
        refine y_inc (pc' := 44) (lv' := [_, _, _, _]) rfl rfl rfl (by decide) rfl ?_
        refine x_goto rfl ?_
        have es : sumN (clC S k) (i + 1) = sumN (clC S k) i + clC S k i := rfl
        first
          | (rw [clC_1 hki hc] at es
             have hh := ih (i + 1) D0 (by omega) (by omega) rfl
             rw [es, ← Nat.add_assoc] at hh
             exact hh)
          | (rw [clC_0 hc] at es
             have hh := ih (i + 1) D0 (by omega) (by omega) rfl
             rw [es] at hh
             exact hh)
set_option maxRecDepth 20000 in
set_option maxHeartbeats 1000000 in
theorem l1_X3_clashes {L : Nat → Nat → Int64} {Q : bh_Q} {d : Nat} (hd : 1 ≤ d) {D0 : Nat → Nat → Int32} {S : Nat → Nat} (hS : ∀ j, j < 16 → S j < 4096) (h45 : ∀ j, j < 16 → D0 45 j = nI (S j)) (k1 : Q (some (.int (nI (clS S)))) (hp D0 L)) : ∀ (f i : Nat) (D : Nat → Nat → Int32) (a3 : Value), i + f = 16 → (D0 = D) → bw m_X3_clashes d Q 4 [.ref 44, .int (nI (sumN (fun k => sumN (clC S k) 16) i)), .int (nI i), a3] [] D L := by
  intro f
  induction f with
  | zero =>
    intro i D a3 hf hD
    subst hD
    refine x_iload (pc' := 5) rfl rfl rfl ?_
    refine x_int (pc' := 7) (v := nI 16) rfl rfl rfl ?_
    refine y_ic_ge (pc' := 10) rfl rfl (by omega) (by omega) (fun c7 => ?_) (fun c7 => ?_)
    · refine x_iload (pc' := 54) rfl rfl rfl ?_
      refine x_iret rfl rfl ?_
      obtain rfl : i = 16 := by omega
      exact k1
    · exact absurd c7 (by omega)
  | succ f ih =>
    intro i D a3 hf hD
    subst hD
    refine x_iload (pc' := 5) rfl rfl rfl ?_
    refine x_int (pc' := 7) (v := nI 16) rfl rfl rfl ?_
    refine y_ic_ge (pc' := 10) rfl rfl (by omega) (by omega) (fun c7 => ?_) (fun c7 => ?_)
    · exact absurd c7 (by omega)
    · refine x_iload (pc' := 11) rfl rfl rfl ?_
      refine x_int (pc' := 12) (v := nI 1) rfl rfl rfl ?_
      refine y_iadd (pc' := 13) rfl rfl ?_
      refine x_istore (pc' := 14) (lv' := [_, _, _, _]) rfl rfl (by decide) rfl ?_
      have hh := l0_X3_clashes (L := L) (Q := Q) (d := d) hd hS h45 (m := sumN (fun k => sumN (clC S k) 16) i) (k := i) (by omega) ?kk (16 - (i + 1)) (i + 1) D0 (by omega) (Nat.lt_succ_self _) rfl
      case kk =>
        refine y_inc (pc' := 50) (lv' := [_, _, _, _]) rfl rfl rfl (by decide) rfl ?_
        refine x_goto rfl ?_
        exact ih (i + 1) D0 _ (by omega) rfl
      rw [clC_pre] at hh
      exact hh
set_option maxRecDepth 20000 in
set_option maxHeartbeats 1000000 in
theorem w_X3_clashes {D : Nat → Nat → Int32} {L : Nat → Nat → Int64} {Q : bh_Q} {S : Nat → Nat} (hS : ∀ j, j < 16 → S j < 4096) (h45 : ∀ j, j < 16 → D 45 j = nI (S j)) (k1 : Q (some (.int (nI (clS S)))) (hp D L)) : bh_wc 2 m_X3_clashes [.ref 44] (hp D L) Q := by
  refine x_start (lv0 := [_, _, _, _]) (Nat.le_of_ble_eq_true rfl) rfl ?_
  refine x_int (pc' := 1) (v := nI 0) rfl rfl rfl ?_
  refine x_istore (pc' := 2) (lv' := [_, _, _, _]) rfl rfl (by decide) rfl ?_
  refine x_int (pc' := 3) (v := nI 0) rfl rfl rfl ?_
  refine x_istore (pc' := 4) (lv' := [_, _, _, _]) rfl rfl (by decide) rfl ?_
  exact l1_X3_clashes (d := 1) (Nat.le_refl _) hS h45 k1 16 0 D .null rfl rfl
set_option maxRecDepth 20000 in
set_option maxHeartbeats 1000000 in
theorem l_X3_isFirst {L : Nat → Nat → Int64} {Q : bh_Q} {d : Nat} (hd : 0 ≤ d) {D0 : Nat → Nat → Int32} {S : Nat → Nat} (hS : ∀ j, j < 16 → S j < 4096) (h45 : ∀ j, j < 16 → D0 45 j = nI (S j)) {k : Nat} (hk : k < 16) (k1 : (∀ j, j < k → S j ≠ S k) → Q (some (.int 1)) (hp D0 L)) (k0 : ¬ (∀ j, j < k → S j ≠ S k) → Q (some (.int 0)) (hp D0 L)) : ∀ (f i : Nat) (D : Nat → Nat → Int32), i + f = k → (∀ j, j < i → S j ≠ S k) → (D0 = D) → bw m_X3_isFirstOfItsLike d Q 2 [.ref 44, .int (nI k), .int (nI i)] [] D L := by
  intro f
  induction f with
  | zero =>
    intro i D hf h0 hD
    subst hD
    refine x_iload (pc' := 3) rfl rfl rfl ?_
    refine x_iload (pc' := 4) rfl rfl rfl ?_
    refine y_ic_ge (pc' := 7) rfl rfl (by first | omega | (have := hS i (by omega); omega) | (have := hS k (by omega); have := hS i (by omega); omega)) (by first | omega | (have := hS i (by omega); omega) | (have := hS k (by omega); have := hS i (by omega); omega)) (fun c4 => ?_) (fun c4 => ?_)
    · refine x_int (pc' := 31) (v := nI 1) rfl rfl rfl ?_
      refine x_zret rfl rfl (by decide) ?_
      obtain rfl : i = k := by omega
      exact k1 h0
    · exact absurd c4 (by omega)
  | succ f ih =>
    intro i D hf h0 hD
    subst hD
    refine x_iload (pc' := 3) rfl rfl rfl ?_
    refine x_iload (pc' := 4) rfl rfl rfl ?_
    refine y_ic_ge (pc' := 7) rfl rfl (by first | omega | (have := hS i (by omega); omega) | (have := hS k (by omega); have := hS i (by omega); omega)) (by first | omega | (have := hS i (by omega); omega) | (have := hS k (by omega); have := hS i (by omega); omega)) (fun c4 => ?_) (fun c4 => ?_)
    · exact absurd c4 (by omega)
    · refine x_aload (pc' := 8) rfl rfl rfl ?_
      refine x_getR (pc' := 11) rfl rfl rfl (by decide) rfl (by decide) rfl rfl ?_
      refine x_iload (pc' := 12) rfl rfl rfl ?_
      refine x_iald (pc' := 13) rfl rfl (by decide) rfl (by decide) (show _ < 16 by omega) ?_
      refine x_top (h45 i (by omega)) ?_
      refine x_aload (pc' := 14) rfl rfl rfl ?_
      refine x_getR (pc' := 17) rfl rfl rfl (by decide) rfl (by decide) rfl rfl ?_
      refine x_iload (pc' := 18) rfl rfl rfl ?_
      refine x_iald (pc' := 19) rfl rfl (by decide) rfl (by decide) (show _ < 16 by omega) ?_
      refine x_top (h45 k hk) ?_
      refine y_ic_ne (pc' := 22) rfl rfl (by first | omega | (have := hS i (by omega); omega) | (have := hS k (by omega); have := hS i (by omega); omega)) (by first | omega | (have := hS i (by omega); omega) | (have := hS k (by omega); have := hS i (by omega); omega)) (fun c19 => ?_) (fun c19 => ?_)
      · refine y_inc (pc' := 27) (lv' := [_, _, _]) rfl rfl rfl (by decide) rfl ?_
        refine x_goto rfl ?_
        refine ih (i + 1) D0 (by omega) (fun j hj => ?_) rfl
        by_cases e : j = i
        · rw [e]; exact c19
        · exact h0 j (by omega)
      · refine x_int (pc' := 23) (v := nI 0) rfl rfl rfl ?_
        refine x_zret rfl rfl (by decide) ?_
        exact k0 (fun h => h i (by omega) c19)
set_option maxRecDepth 20000 in
set_option maxHeartbeats 1000000 in
theorem w_X3_isFirstOfItsLike {D : Nat → Nat → Int32} {L : Nat → Nat → Int64} {Q : bh_Q} {S : Nat → Nat} (hS : ∀ j, j < 16 → S j < 4096) (h45 : ∀ j, j < 16 → D 45 j = nI (S j)) {k : Nat} (hk : k < 16) (k1 : (∀ j, j < k → S j ≠ S k) → Q (some (.int 1)) (hp D L)) (k0 : ¬ (∀ j, j < k → S j ≠ S k) → Q (some (.int 0)) (hp D L)) : bh_wc 1 m_X3_isFirstOfItsLike [.ref 44, .int (nI k)] (hp D L) Q := by
  refine x_start (lv0 := [_, _, _]) (Nat.le_of_ble_eq_true rfl) rfl ?_
  refine x_int (pc' := 1) (v := nI 0) rfl rfl rfl ?_
  refine x_istore (pc' := 2) (lv' := [_, _, _]) rfl rfl (by decide) rfl ?_
  exact l_X3_isFirst (d := 0) (Nat.zero_le _) hS h45 hk k1 k0 k 0 D (Nat.zero_add _) (fun j hj => absurd hj (Nat.not_lt_zero j)) rfl
set_option maxRecDepth 20000 in
set_option maxHeartbeats 1000000 in
theorem l_X3_unlikeSets {L : Nat → Nat → Int64} {Q : bh_Q} {d : Nat} (hd : 1 ≤ d) {D0 : Nat → Nat → Int32} {S : Nat → Nat} (hS : ∀ j, j < 16 → S j < 4096) (h45 : ∀ j, j < 16 → D0 45 j = nI (S j)) (k1 : Q (some (.int (nI (cntF (fsB S) 16)))) (hp D0 L)) : ∀ (f i : Nat) (D : Nat → Nat → Int32), i + f = 16 → (D0 = D) → bw m_X3_unlikeSets d Q 4 [.ref 44, .int (nI (cntF (fsB S) i)), .int (nI i)] [] D L := by
  intro f
  induction f with
  | zero =>
    intro i D hf hD
    subst hD
    refine x_iload (pc' := 5) rfl rfl rfl ?_
    refine x_int (pc' := 7) (v := nI 16) rfl rfl rfl ?_
    refine y_ic_ge (pc' := 10) rfl rfl (by first | omega | (have := hS i (by omega); omega) | (have := hS k (by omega); have := hS i (by omega); omega)) (by first | omega | (have := hS i (by omega); omega) | (have := hS k (by omega); have := hS i (by omega); omega)) (fun c7 => ?_) (fun c7 => ?_)
    · refine x_iload (pc' := 37) rfl rfl rfl ?_
      refine x_iret rfl rfl ?_
      obtain rfl : i = 16 := by omega
      exact k1
    · exact absurd c7 (by omega)
  | succ f ih =>
    intro i D hf hD
    subst hD
    refine x_iload (pc' := 5) rfl rfl rfl ?_
    refine x_int (pc' := 7) (v := nI 16) rfl rfl rfl ?_
    refine y_ic_ge (pc' := 10) rfl rfl (by first | omega | (have := hS i (by omega); omega) | (have := hS k (by omega); have := hS i (by omega); omega)) (by first | omega | (have := hS i (by omega); omega) | (have := hS k (by omega); have := hS i (by omega); omega)) (fun c7 => ?_) (fun c7 => ?_)
    · exact absurd c7 (by omega)
    · refine x_aload (pc' := 11) rfl rfl rfl ?_
      refine x_getR (pc' := 14) rfl rfl rfl (by decide) rfl (by decide) rfl rfl ?_
      refine x_iload (pc' := 15) rfl rfl rfl ?_
      refine x_iald (pc' := 16) rfl rfl (by decide) rfl (by decide) (show _ < 16 by omega) ?_
      refine x_top (h45 i (by omega)) ?_
      refine y_if_eq (pc' := 19) rfl rfl (by first | omega | (have := hS i (by omega); omega) | (have := hS k (by omega); have := hS i (by omega); omega)) (fun c16 => ?_) (fun c16 => ?_)
      · refine y_inc (pc' := 33) (lv' := [_, _, _]) rfl rfl rfl (by decide) rfl ?_
        refine x_goto rfl ?_
        first
          | (have e : cntF (fsB S) (i + 1) = cntF (fsB S) i + 1 := by show _ + _ = _; rw [fs_iff.mpr ⟨c16, hf⟩]; rfl
             have hh := ih (i + 1) D0 (by omega) rfl
             rw [e] at hh
             exact hh)
          | (have e : cntF (fsB S) (i + 1) = cntF (fsB S) i + 0 := by show _ + _ = _; rw [show fsB S i = false from Bool.eq_false_iff.mpr (fun z => hf (fs_iff.mp z).2)]; rfl
             have hh := ih (i + 1) D0 (by omega) rfl
             rw [e] at hh
             exact hh)
          | (have e : cntF (fsB S) (i + 1) = cntF (fsB S) i + 0 := by show _ + _ = _; rw [show fsB S i = false from Bool.eq_false_iff.mpr (fun z => (fs_iff.mp z).1 c16)]; rfl
             have hh := ih (i + 1) D0 (by omega) rfl
             rw [e] at hh
             exact hh)
      · refine x_aload (pc' := 20) rfl rfl rfl ?_
        refine x_iload (pc' := 21) rfl rfl rfl ?_
        refine x_callV (pc' := 24) (d1 := 1) (Bs := [_]) rfl rfl rfl rfl rfl rfl rfl (Nat.le_of_ble_eq_true rfl) ⟨rfl, rfl⟩ (by decide) rfl (by omega) ?_
        refine w_X3_isFirstOfItsLike hS h45 (show i < 16 by omega) (fun hf => ?_) (fun hf => ?_)
        · refine ⟨rfl, ?_⟩
          refine x_if_eq (pc' := 27) rfl rfl (fun c24 => absurd c24 (by decide)) (fun _ => ?_)
          refine y_inc (pc' := 30) (lv' := [_, _, _]) rfl rfl rfl (by decide) rfl ?_
          refine y_inc (pc' := 33) (lv' := [_, _, _]) rfl rfl rfl (by decide) rfl ?_
          refine x_goto rfl ?_
          first
            | (have e : cntF (fsB S) (i + 1) = cntF (fsB S) i + 1 := by show _ + _ = _; rw [fs_iff.mpr ⟨c16, hf⟩]; rfl
               have hh := ih (i + 1) D0 (by omega) rfl
               rw [e] at hh
               exact hh)
            | (have e : cntF (fsB S) (i + 1) = cntF (fsB S) i + 0 := by show _ + _ = _; rw [show fsB S i = false from Bool.eq_false_iff.mpr (fun z => hf (fs_iff.mp z).2)]; rfl
               have hh := ih (i + 1) D0 (by omega) rfl
               rw [e] at hh
               exact hh)
            | (have e : cntF (fsB S) (i + 1) = cntF (fsB S) i + 0 := by show _ + _ = _; rw [show fsB S i = false from Bool.eq_false_iff.mpr (fun z => (fs_iff.mp z).1 c16)]; rfl
               have hh := ih (i + 1) D0 (by omega) rfl
               rw [e] at hh
               exact hh)
        · refine ⟨rfl, ?_⟩
          refine x_if_eq (pc' := 27) rfl rfl (fun _ => ?_) (fun c24 => absurd (by decide) c24)
          refine y_inc (pc' := 33) (lv' := [_, _, _]) rfl rfl rfl (by decide) rfl ?_
          refine x_goto rfl ?_
          first
            | (have e : cntF (fsB S) (i + 1) = cntF (fsB S) i + 1 := by show _ + _ = _; rw [fs_iff.mpr ⟨c16, hf⟩]; rfl
               have hh := ih (i + 1) D0 (by omega) rfl
               rw [e] at hh
               exact hh)
            | (have e : cntF (fsB S) (i + 1) = cntF (fsB S) i + 0 := by show _ + _ = _; rw [show fsB S i = false from Bool.eq_false_iff.mpr (fun z => hf (fs_iff.mp z).2)]; rfl
               have hh := ih (i + 1) D0 (by omega) rfl
               rw [e] at hh
               exact hh)
            | (have e : cntF (fsB S) (i + 1) = cntF (fsB S) i + 0 := by show _ + _ = _; rw [show fsB S i = false from Bool.eq_false_iff.mpr (fun z => (fs_iff.mp z).1 c16)]; rfl
               have hh := ih (i + 1) D0 (by omega) rfl
               rw [e] at hh
               exact hh)
set_option maxRecDepth 20000 in
set_option maxHeartbeats 1000000 in
theorem w_X3_unlikeSets {D : Nat → Nat → Int32} {L : Nat → Nat → Int64} {Q : bh_Q} {S : Nat → Nat} (hS : ∀ j, j < 16 → S j < 4096) (h45 : ∀ j, j < 16 → D 45 j = nI (S j)) (k1 : Q (some (.int (nI (cntF (fsB S) 16)))) (hp D L)) : bh_wc 2 m_X3_unlikeSets [.ref 44] (hp D L) Q := by
  refine x_start (lv0 := [_, _, _]) (Nat.le_of_ble_eq_true rfl) rfl ?_
  refine x_int (pc' := 1) (v := nI 0) rfl rfl rfl ?_
  refine x_istore (pc' := 2) (lv' := [_, _, _]) rfl rfl (by decide) rfl ?_
  refine x_int (pc' := 3) (v := nI 0) rfl rfl rfl ?_
  refine x_istore (pc' := 4) (lv' := [_, _, _]) rfl rfl (by decide) rfl ?_
  exact l_X3_unlikeSets (d := 1) (Nat.le_refl _) hS h45 k1 16 0 D rfl rfl
theorem wiM_le (S : Nat → Nat) (x n : Nat) : maxN (wiN S x) n ≤ 17 := maxN_le n (fun j _ => by unfold wiN; split; exact lg_le _; omega)
theorem wiN_1 {S : Nat → Nat} {x j : Nat} (h1 : S j ≠ 0) (h2 : S j ≠ x) (h3 : sbN (S j) x) : wiN S x j = lg S (S j) := if_pos ⟨h1, h2, h3⟩
theorem wiN_0 {S : Nat → Nat} {x j : Nat} (h : ¬ (S j ≠ 0 ∧ S j ≠ x ∧ sbN (S j) x)) : wiN S x j = 0 := if_neg h
set_option maxRecDepth 20000 in
set_option maxHeartbeats 1000000 in
theorem l_X3_longestWithin {L : Nat → Nat → Int64} {Q : bh_Q} {d : Nat} (hd : 0 ≤ d) {D0 : Nat → Nat → Int32} {S : Nat → Nat} (hS : ∀ j, j < 16 → S j < 4096) (h45 : ∀ j, j < 16 → D0 45 j = nI (S j)) {k : Nat} (hk : k < 16) (hr : ∀ j, j < 16 → S j ≠ 0 → S j ≠ S k → sbN (S j) (S k) → D0 46 j = nI (lg S (S j))) (k1 : Q (some (.int (nI (maxN (wiN S (S k)) 16)))) (hp D0 L)) : ∀ (f i : Nat) (D : Nat → Nat → Int32) (a4 : Value), i + f = 16 → (D0 = D) → bw m_X3_longestWithin d Q 4 [.ref 44, .int (nI k), .int (nI (maxN (wiN S (S k)) i)), .int (nI i), a4] [] D L := by
  intro f
  induction f with
  | zero =>
    intro i D a4 hf hD
    subst hD
    refine x_iload (pc' := 5) rfl rfl rfl ?_
    refine x_int (pc' := 7) (v := nI 16) rfl rfl rfl ?_
    refine y_ic_ge (pc' := 10) rfl rfl (by first | omega | (have := hS i (by omega); omega) | (have := hS k (by omega); have := hS i (by omega); omega) | (have := wi_le (a := S i) (b := S k ^^^ 4294967295); have := hS i (by omega); omega)) (by first | omega | (have := hS i (by omega); omega) | (have := hS k (by omega); have := hS i (by omega); omega) | (have := wi_le (a := S i) (b := S k ^^^ 4294967295); have := hS i (by omega); omega)) (fun c7 => ?_) (fun c7 => ?_)
    · refine x_iload (pc' := 82) rfl rfl rfl ?_
      refine x_iret rfl rfl ?_
      obtain rfl : i = 16 := by omega
      exact k1
    · exact absurd c7 (by omega)
  | succ f ih =>
    intro i D a4 hf hD
    subst hD
    refine x_iload (pc' := 5) rfl rfl rfl ?_
    refine x_int (pc' := 7) (v := nI 16) rfl rfl rfl ?_
    refine y_ic_ge (pc' := 10) rfl rfl (by first | omega | (have := hS i (by omega); omega) | (have := hS k (by omega); have := hS i (by omega); omega) | (have := wi_le (a := S i) (b := S k ^^^ 4294967295); have := hS i (by omega); omega)) (by first | omega | (have := hS i (by omega); omega) | (have := hS k (by omega); have := hS i (by omega); omega) | (have := wi_le (a := S i) (b := S k ^^^ 4294967295); have := hS i (by omega); omega)) (fun c7 => ?_) (fun c7 => ?_)
    · exact absurd c7 (by omega)
    · refine x_aload (pc' := 11) rfl rfl rfl ?_
      refine x_getR (pc' := 14) rfl rfl rfl (by decide) rfl (by decide) rfl rfl ?_
      refine x_iload (pc' := 15) rfl rfl rfl ?_
      refine x_iald (pc' := 16) rfl rfl (by decide) rfl (by decide) (show _ < 16 by omega) ?_
      refine x_top (h45 i (by omega)) ?_
      refine y_if_eq (pc' := 19) rfl rfl (by first | omega | (have := hS i (by omega); omega) | (have := hS k (by omega); have := hS i (by omega); omega) | (have := wi_le (a := S i) (b := S k ^^^ 4294967295); have := hS i (by omega); omega)) (fun c16 => ?_) (fun c16 => ?_)
      · refine x_int (pc' := 39) (v := nI 0) rfl rfl rfl ?_
        refine x_istore (pc' := 41) (lv' := [_, _, _, _, _]) rfl rfl (by decide) rfl ?_
        refine x_iload (pc' := 43) rfl rfl rfl ?_
        refine x_if_eq (pc' := 46) rfl rfl (fun _ => ?_) (fun c43 => absurd (by decide) c43)
        refine y_inc (pc' := 78) (lv' := [_, _, _, _, _]) rfl rfl rfl (by decide) rfl ?_
        refine x_goto rfl ?_
        first
          | (have e : maxN (wiN S (S k)) (i + 1) = max (maxN (wiN S (S k)) i) (lg S (S i)) := by show max _ _ = _; rw [wiN_1 c16 c31 ((wi_iff (by have := hS i (by omega); omega)).mp c61)]
             have hh := fun z => ih (i + 1) D0 z (by omega) rfl
             rw [e] at hh
             exact hh _)
          | (have e : maxN (wiN S (S k)) (i + 1) = maxN (wiN S (S k)) i := by show max _ _ = _; rw [wiN_0 (fun z => c61 ((wi_iff (by have := hS i (by omega); omega)).mpr z.2.2))]; exact Nat.max_eq_left (Nat.zero_le _)
             have hh := fun z => ih (i + 1) D0 z (by omega) rfl
             rw [e] at hh
             exact hh _)
          | (have e : maxN (wiN S (S k)) (i + 1) = maxN (wiN S (S k)) i := by show max _ _ = _; rw [wiN_0 (fun z => z.2.1 c31)]; exact Nat.max_eq_left (Nat.zero_le _)
             have hh := fun z => ih (i + 1) D0 z (by omega) rfl
             rw [e] at hh
             exact hh _)
          | (have e : maxN (wiN S (S k)) (i + 1) = maxN (wiN S (S k)) i := by show max _ _ = _; rw [wiN_0 (fun z => z.1 c16)]; exact Nat.max_eq_left (Nat.zero_le _)
             have hh := fun z => ih (i + 1) D0 z (by omega) rfl
             rw [e] at hh
             exact hh _)
      · refine x_aload (pc' := 20) rfl rfl rfl ?_
        refine x_getR (pc' := 23) rfl rfl rfl (by decide) rfl (by decide) rfl rfl ?_
        refine x_iload (pc' := 24) rfl rfl rfl ?_
        refine x_iald (pc' := 25) rfl rfl (by decide) rfl (by decide) (show _ < 16 by omega) ?_
        refine x_top (h45 i (by omega)) ?_
        refine x_aload (pc' := 26) rfl rfl rfl ?_
        refine x_getR (pc' := 29) rfl rfl rfl (by decide) rfl (by decide) rfl rfl ?_
        refine x_iload (pc' := 30) rfl rfl rfl ?_
        refine x_iald (pc' := 31) rfl rfl (by decide) rfl (by decide) (show _ < 16 by omega) ?_
        refine x_top (h45 k hk) ?_
        refine y_ic_eq (pc' := 34) rfl rfl (by first | omega | (have := hS i (by omega); omega) | (have := hS k (by omega); have := hS i (by omega); omega) | (have := wi_le (a := S i) (b := S k ^^^ 4294967295); have := hS i (by omega); omega)) (by first | omega | (have := hS i (by omega); omega) | (have := hS k (by omega); have := hS i (by omega); omega) | (have := wi_le (a := S i) (b := S k ^^^ 4294967295); have := hS i (by omega); omega)) (fun c31 => ?_) (fun c31 => ?_)
        · refine x_int (pc' := 39) (v := nI 0) rfl rfl rfl ?_
          refine x_istore (pc' := 41) (lv' := [_, _, _, _, _]) rfl rfl (by decide) rfl ?_
          refine x_iload (pc' := 43) rfl rfl rfl ?_
          refine x_if_eq (pc' := 46) rfl rfl (fun _ => ?_) (fun c43 => absurd (by decide) c43)
          refine y_inc (pc' := 78) (lv' := [_, _, _, _, _]) rfl rfl rfl (by decide) rfl ?_
          refine x_goto rfl ?_
          first
            | (have e : maxN (wiN S (S k)) (i + 1) = max (maxN (wiN S (S k)) i) (lg S (S i)) := by show max _ _ = _; rw [wiN_1 c16 c31 ((wi_iff (by have := hS i (by omega); omega)).mp c61)]
               have hh := fun z => ih (i + 1) D0 z (by omega) rfl
               rw [e] at hh
               exact hh _)
            | (have e : maxN (wiN S (S k)) (i + 1) = maxN (wiN S (S k)) i := by show max _ _ = _; rw [wiN_0 (fun z => c61 ((wi_iff (by have := hS i (by omega); omega)).mpr z.2.2))]; exact Nat.max_eq_left (Nat.zero_le _)
               have hh := fun z => ih (i + 1) D0 z (by omega) rfl
               rw [e] at hh
               exact hh _)
            | (have e : maxN (wiN S (S k)) (i + 1) = maxN (wiN S (S k)) i := by show max _ _ = _; rw [wiN_0 (fun z => z.2.1 c31)]; exact Nat.max_eq_left (Nat.zero_le _)
               have hh := fun z => ih (i + 1) D0 z (by omega) rfl
               rw [e] at hh
               exact hh _)
            | (have e : maxN (wiN S (S k)) (i + 1) = maxN (wiN S (S k)) i := by show max _ _ = _; rw [wiN_0 (fun z => z.1 c16)]; exact Nat.max_eq_left (Nat.zero_le _)
               have hh := fun z => ih (i + 1) D0 z (by omega) rfl
               rw [e] at hh
               exact hh _)
        · refine x_int (pc' := 35) (v := nI 1) rfl rfl rfl ?_
          refine x_goto rfl ?_
          refine x_istore (pc' := 41) (lv' := [_, _, _, _, _]) rfl rfl (by decide) rfl ?_
          refine x_iload (pc' := 43) rfl rfl rfl ?_
          refine x_if_eq (pc' := 46) rfl rfl (fun c43 => absurd c43 (by decide)) (fun _ => ?_)
          refine x_aload (pc' := 47) rfl rfl rfl ?_
          refine x_getR (pc' := 50) rfl rfl rfl (by decide) rfl (by decide) rfl rfl ?_
          refine x_iload (pc' := 51) rfl rfl rfl ?_
          refine x_iald (pc' := 52) rfl rfl (by decide) rfl (by decide) (show _ < 16 by omega) ?_
          refine x_top (h45 i (by omega)) ?_
          refine x_aload (pc' := 53) rfl rfl rfl ?_
          refine x_getR (pc' := 56) rfl rfl rfl (by decide) rfl (by decide) rfl rfl ?_
          refine x_iload (pc' := 57) rfl rfl rfl ?_
          refine x_iald (pc' := 58) rfl rfl (by decide) rfl (by decide) (show _ < 16 by omega) ?_
          refine x_top (h45 k hk) ?_
          refine x_int (pc' := 59) (v := nI 4294967295) rfl rfl rfl ?_
          refine y_ixor (pc' := 60) rfl rfl ?_
          refine y_iand (pc' := 61) rfl rfl ?_
          refine y_if_ne (pc' := 64) rfl rfl (by first | omega | (have := hS i (by omega); omega) | (have := hS k (by omega); have := hS i (by omega); omega) | (have := wi_le (a := S i) (b := S k ^^^ 4294967295); have := hS i (by omega); omega)) (fun c61 => ?_) (fun c61 => ?_)
          · refine y_inc (pc' := 78) (lv' := [_, _, _, _, _]) rfl rfl rfl (by decide) rfl ?_
            refine x_goto rfl ?_
            first
              | (have e : maxN (wiN S (S k)) (i + 1) = max (maxN (wiN S (S k)) i) (lg S (S i)) := by show max _ _ = _; rw [wiN_1 c16 c31 ((wi_iff (by have := hS i (by omega); omega)).mp c61)]
                 have hh := fun z => ih (i + 1) D0 z (by omega) rfl
                 rw [e] at hh
                 exact hh _)
              | (have e : maxN (wiN S (S k)) (i + 1) = maxN (wiN S (S k)) i := by show max _ _ = _; rw [wiN_0 (fun z => c61 ((wi_iff (by have := hS i (by omega); omega)).mpr z.2.2))]; exact Nat.max_eq_left (Nat.zero_le _)
                 have hh := fun z => ih (i + 1) D0 z (by omega) rfl
                 rw [e] at hh
                 exact hh _)
              | (have e : maxN (wiN S (S k)) (i + 1) = maxN (wiN S (S k)) i := by show max _ _ = _; rw [wiN_0 (fun z => z.2.1 c31)]; exact Nat.max_eq_left (Nat.zero_le _)
                 have hh := fun z => ih (i + 1) D0 z (by omega) rfl
                 rw [e] at hh
                 exact hh _)
              | (have e : maxN (wiN S (S k)) (i + 1) = maxN (wiN S (S k)) i := by show max _ _ = _; rw [wiN_0 (fun z => z.1 c16)]; exact Nat.max_eq_left (Nat.zero_le _)
                 have hh := fun z => ih (i + 1) D0 z (by omega) rfl
                 rw [e] at hh
                 exact hh _)
          · refine x_iload (pc' := 65) rfl rfl rfl ?_
            refine x_aload (pc' := 66) rfl rfl rfl ?_
            refine x_getR (pc' := 69) rfl rfl rfl (by decide) rfl (by decide) rfl rfl ?_
            refine x_iload (pc' := 70) rfl rfl rfl ?_
            refine x_iald (pc' := 71) rfl rfl (by decide) rfl (by decide) (show _ < 16 by omega) ?_
            refine x_top (hr i (by omega) c16 c31 ((wi_iff (by have := hS i (by omega); omega)).mp c61)) ?_
            refine x_max (pc' := 74) rfl rfl (Nat.le_of_ble_eq_true rfl) (nI_max (by have := wiM_le S (S k) i; omega) (by have := lg_le (S := S) (S i); omega)) ?_
            refine x_istore (pc' := 75) (lv' := [_, _, _, _, _]) rfl rfl (by decide) rfl ?_
            refine y_inc (pc' := 78) (lv' := [_, _, _, _, _]) rfl rfl rfl (by decide) rfl ?_
            refine x_goto rfl ?_
            first
              | (have e : maxN (wiN S (S k)) (i + 1) = max (maxN (wiN S (S k)) i) (lg S (S i)) := by show max _ _ = _; rw [wiN_1 c16 c31 ((wi_iff (by have := hS i (by omega); omega)).mp c61)]
                 have hh := fun z => ih (i + 1) D0 z (by omega) rfl
                 rw [e] at hh
                 exact hh _)
              | (have e : maxN (wiN S (S k)) (i + 1) = maxN (wiN S (S k)) i := by show max _ _ = _; rw [wiN_0 (fun z => c61 ((wi_iff (by have := hS i (by omega); omega)).mpr z.2.2))]; exact Nat.max_eq_left (Nat.zero_le _)
                 have hh := fun z => ih (i + 1) D0 z (by omega) rfl
                 rw [e] at hh
                 exact hh _)
              | (have e : maxN (wiN S (S k)) (i + 1) = maxN (wiN S (S k)) i := by show max _ _ = _; rw [wiN_0 (fun z => z.2.1 c31)]; exact Nat.max_eq_left (Nat.zero_le _)
                 have hh := fun z => ih (i + 1) D0 z (by omega) rfl
                 rw [e] at hh
                 exact hh _)
              | (have e : maxN (wiN S (S k)) (i + 1) = maxN (wiN S (S k)) i := by show max _ _ = _; rw [wiN_0 (fun z => z.1 c16)]; exact Nat.max_eq_left (Nat.zero_le _)
                 have hh := fun z => ih (i + 1) D0 z (by omega) rfl
                 rw [e] at hh
                 exact hh _)
set_option maxRecDepth 20000 in
set_option maxHeartbeats 1000000 in
theorem w_X3_longestWithin {D : Nat → Nat → Int32} {L : Nat → Nat → Int64} {Q : bh_Q} {S : Nat → Nat} (hS : ∀ j, j < 16 → S j < 4096) (h45 : ∀ j, j < 16 → D 45 j = nI (S j)) {k : Nat} (hk : k < 16) (hr : ∀ j, j < 16 → S j ≠ 0 → S j ≠ S k → sbN (S j) (S k) → D 46 j = nI (lg S (S j))) (k1 : Q (some (.int (nI (maxN (wiN S (S k)) 16)))) (hp D L)) : bh_wc 1 m_X3_longestWithin [.ref 44, .int (nI k)] (hp D L) Q := by
  refine x_start (lv0 := [_, _, _, _, _]) (Nat.le_of_ble_eq_true rfl) rfl ?_
  refine x_int (pc' := 1) (v := nI 0) rfl rfl rfl ?_
  refine x_istore (pc' := 2) (lv' := [_, _, _, _, _]) rfl rfl (by decide) rfl ?_
  refine x_int (pc' := 3) (v := nI 0) rfl rfl rfl ?_
  refine x_istore (pc' := 4) (lv' := [_, _, _, _, _]) rfl rfl (by decide) rfl ?_
  exact l_X3_longestWithin (d := 0) (Nat.zero_le _) hS h45 hk hr k1 16 0 D .null rfl rfl
