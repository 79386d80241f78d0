/-! ===== where each sign comes from ===== -/
theorem bit16 {x i : Nat} (hx : x < 65536) (hi : 16 ≤ i) : x.testBit i = false := Nat.testBit_lt_two_pow (Nat.lt_of_lt_of_le hx (Nat.pow_le_pow_right (n := 2) (i := 16) (by decide) hi))
theorem one_tb (a i : Nat) : (1 <<< a).testBit i = decide (a = i) := by rw [Nat.one_shiftLeft, Nat.testBit_two_pow]
theorem not_tb {a i : Nat} (hi : i < 16) : (65535 ^^^ 1 <<< a).testBit i = !decide (a = i) := by
  rw [Nat.testBit_xor, one_tb, show (65535 : Nat) = 2 ^ 16 - 1 from rfl, Nat.testBit_two_pow_sub_one]
  simp [hi]
def habB (k a b : Nat) (f : Nat → Bool) (i : Nat) : Bool := match k with
  | 1 => if i = a then !f i else f i
  | 2 => if i = a then true else f i
  | 3 => if i = a then false else f i
  | 4 => f ((i + 16 - a) % 16)
  | 5 => if i = b then f a else if i = a then f b else f i
  | 6 => if i = b then f a else f i
  | _ => f i
theorem hab_tb {k a b row i : Nat} (h : hok k a b) (hr : row < 65536) (hi : i < 16) : (hab k a b row).testBit i = habB k a b (fun j => row.testBit j) i := by
  obtain ⟨hk, ha, hb, _, _, h4, h5⟩ := h
  rcases k7 hk with rfl | rfl | rfl | rfl | rfl | rfl | rfl
  · rfl
  · show (row ^^^ 1 <<< a).testBit i = if i = a then !row.testBit i else row.testBit i
    rw [Nat.testBit_xor, one_tb]
    by_cases e : i = a
    · subst e; simp
    · simp [e, Ne.symm e]
  · show (row ||| 1 <<< a).testBit i = if i = a then true else row.testBit i
    rw [Nat.testBit_or, one_tb]
    by_cases e : i = a
    · subst e; simp
    · simp [e, Ne.symm e]
  · show (row &&& (65535 ^^^ 1 <<< a)).testBit i = if i = a then false else row.testBit i
    rw [Nat.testBit_and, not_tb hi]
    by_cases e : i = a
    · subst e; simp
    · simp [e, Ne.symm e]
  · show ((row <<< a ||| row >>> (16 - a)) &&& 65535).testBit i = row.testBit ((i + 16 - a) % 16)
    rw [Nat.testBit_and, Nat.testBit_or, Nat.testBit_shiftLeft, Nat.testBit_shiftRight, show (65535 : Nat) = 2 ^ 16 - 1 from rfl, Nat.testBit_two_pow_sub_one]
    by_cases e : a ≤ i
    · rw [show (i + 16 - a) % 16 = i - a by omega, bit16 hr (show 16 ≤ 16 - a + i by omega)]
      simp [e, hi]
    · rw [show (i + 16 - a) % 16 = 16 - a + i by omega]
      simp [e, hi]
  · show (if row.testBit a = row.testBit b then row else row ^^^ (1 <<< a ||| 1 <<< b)).testBit i = if i = b then row.testBit a else if i = a then row.testBit b else row.testBit i
    have hab := h5 (by decide)
    by_cases e : row.testBit a = row.testBit b
    · rw [if_pos e]
      by_cases e1 : i = b
      · rw [if_pos e1, e1, e]
      · rw [if_neg e1]
        by_cases e2 : i = a
        · rw [if_pos e2, e2, e]
        · rw [if_neg e2]
    · rw [if_neg e, Nat.testBit_xor, Nat.testBit_or, one_tb, one_tb]
      have e' : row.testBit b = !row.testBit a := by cases ha : row.testBit a <;> cases hb : row.testBit b <;> rw [ha, hb] at e <;> first | rfl | exact absurd rfl e
      by_cases e1 : i = b
      · subst e1; rw [if_pos rfl, e']; simp
      · rw [if_neg e1]
        by_cases e2 : i = a
        · subst e2; rw [if_pos rfl, e']; simp
        · rw [if_neg e2]; simp [Ne.symm e1, Ne.symm e2]
  · show (row &&& (65535 ^^^ 1 <<< b) ||| (if row.testBit a then 1 <<< b else 0)).testBit i = if i = b then row.testBit a else row.testBit i
    rw [Nat.testBit_or, Nat.testBit_and, not_tb hi]
    by_cases e : i = b
    · subst e; cases row.testBit a <;> simp [one_tb]
    · cases hz : row.testBit a
      · simp [e, Ne.symm e]
      · rw [if_pos rfl, one_tb]; simp [e, Ne.symm e]
/-- a sign's source: 2 k, 2 k + 1 turned about; 32 and 33 are told ones -/
def evS (e x : Nat) : Bool := if e < 32 then (x.testBit (e / 2) != decide (e % 2 = 1)) else decide (e % 2 = 1)
def leS (k a b : Nat) (s : Nat → Nat) (i : Nat) : Nat := match k with
  | 1 => if i = a then s i ^^^ 1 else s i
  | 2 => if i = a then 33 else s i
  | 3 => if i = a then 32 else s i
  | 4 => s ((i + 16 - a) % 16)
  | 5 => if i = b then s a else if i = a then s b else s i
  | 6 => if i = b then s a else s i
  | _ => s i
theorem xor1 (e : Nat) : e ^^^ 1 = if e % 2 = 1 then e - 1 else e + 1 := by
  refine Nat.eq_of_testBit_eq (fun i => ?_)
  rw [Nat.testBit_xor]
  cases i with
  | zero =>
    split
    · rename_i h
      simp [Nat.testBit_zero, h]
      omega
    · rename_i h
      have : e % 2 = 0 := by omega
      simp [Nat.testBit_zero, this]
      omega
  | succ i =>
    rw [Nat.testBit_succ, Nat.testBit_succ, Nat.testBit_succ]
    split
    · rw [show (e - 1) / 2 = e / 2 by omega]; simp
    · rw [show (e + 1) / 2 = e / 2 by omega]; simp
theorem ev_xor {e x : Nat} (he : e < 34) : evS (e ^^^ 1) x = !evS e x := by
  rw [xor1]
  unfold evS
  by_cases h : e % 2 = 1
  · rw [if_pos h]
    by_cases h2 : e < 32
    · rw [if_pos h2, if_pos (show e - 1 < 32 by omega), show (e - 1) / 2 = e / 2 by omega, h, show (e - 1) % 2 = 0 by omega]
      cases x.testBit (e / 2) <;> rfl
    · rw [if_neg h2, if_neg (show ¬ e - 1 < 32 by omega), h, show (e - 1) % 2 = 0 by omega]; rfl
  · rw [if_neg h]
    by_cases h2 : e < 32
    · rw [if_pos h2, if_pos (show e + 1 < 32 by omega), show (e + 1) / 2 = e / 2 by omega, show e % 2 = 0 by omega, show (e + 1) % 2 = 1 by omega]
      cases x.testBit (e / 2) <;> rfl
    · rw [if_neg h2, if_neg (show ¬ e + 1 < 32 by omega), show e % 2 = 0 by omega, show (e + 1) % 2 = 1 by omega]; rfl
theorem xor1_lt {e : Nat} (he : e < 34) : e ^^^ 1 < 34 := by rw [xor1]; split <;> omega
theorem leS_ev {k a b x : Nat} {s : Nat → Nat} {f : Nat → Bool} (h : hok k a b) (hs : ∀ i, i < 16 → s i < 34) (hf : ∀ i, i < 16 → f i = evS (s i) x) {i : Nat} (hi : i < 16) : habB k a b f i = evS (leS k a b s i) x := by
  obtain ⟨hk, ha, hb, _, _, h4, h5⟩ := h
  rcases k7 hk with rfl | rfl | rfl | rfl | rfl | rfl | rfl
  · exact hf i hi
  · show (if i = a then !f i else f i) = evS (if i = a then s i ^^^ 1 else s i) x
    split
    · rw [ev_xor (hs i hi), hf i hi]
    · exact hf i hi
  · show (if i = a then true else f i) = evS (if i = a then 33 else s i) x
    split
    · rfl
    · exact hf i hi
  · show (if i = a then false else f i) = evS (if i = a then 32 else s i) x
    split
    · rfl
    · exact hf i hi
  · exact hf _ (Nat.mod_lt _ (by decide))
  · show (if i = b then f a else if i = a then f b else f i) = evS (if i = b then s a else if i = a then s b else s i) x
    split
    · exact hf a ha
    · split
      · exact hf b hb
      · exact hf i hi
  · show (if i = b then f a else f i) = evS (if i = b then s a else s i) x
    split
    · exact hf a ha
    · exact hf i hi
theorem leS_lt {k a b : Nat} {s : Nat → Nat} (h : hok k a b) (hs : ∀ i, i < 16 → s i < 34) {i : Nat} (hi : i < 16) : leS k a b s i < 34 := by
  obtain ⟨hk, ha, hb, _, _, h4, h5⟩ := h
  unfold leS
  split
  · split; exact xor1_lt (hs i hi); exact hs i hi
  · split; decide; exact hs i hi
  · split; decide; exact hs i hi
  · exact hs _ (Nat.mod_lt _ (by decide))
  · split; exact hs a ha; split; exact hs b hb; exact hs i hi
  · split; exact hs a ha; exact hs i hi
  · exact hs i hi
theorem leS_cg {k a b : Nat} {s s' : Nat → Nat} (h : hok k a b) (hs : ∀ i, i < 16 → s' i = s i) {i : Nat} (hi : i < 16) : leS k a b s' i = leS k a b s i := by
  obtain ⟨hk, ha, hb, _, _, h4, h5⟩ := h
  unfold leS
  split
  · rw [hs i hi]
  · rw [hs i hi]
  · rw [hs i hi]
  · exact hs _ (Nat.mod_lt _ (by decide))
  · rw [hs i hi, hs a ha, hs b hb]
  · rw [hs i hi, hs a ha]
  · exact hs i hi
def srF (T : TW) : List Nat → Nat → Nat
  | [] => fun i => 2 * i
  | w :: r => if isM T w = true then srF T r else leS (kd T w) (fa T w) (fb T w) (srF T r)
theorem srF_1 {T : TW} {w : Nat} {r : List Nat} (h : isM T w = true) : srF T (w :: r) = srF T r := if_pos h
theorem srF_0 {T : TW} {w : Nat} {r : List Nat} (h : isM T w = false) : srF T (w :: r) = leS (kd T w) (fa T w) (fb T w) (srF T r) := if_neg (by rw [h]; decide)
theorem srF_lt {T : TW} (hW : WF T) : ∀ {l : List Nat}, (∀ w ∈ l, w < nw T) → ∀ i, i < 16 → srF T l i < 34 := by
  intro l
  induction l with
  | nil => intro _ i hi; show 2 * i < 34; omega
  | cons w l ih =>
    intro h i hi
    have h1 := ih (fun v hv => h v (List.mem_cons_of_mem _ hv))
    cases hm : isM T w
    · rw [srF_0 hm]; exact leS_lt (hW.ehok (h w List.mem_cons_self)) h1 hi
    · rw [srF_1 hm]; exact h1 i hi
theorem up_ev {T : TW} (hW : WF T) {x : Nat} (hx : x < 65536) : ∀ {l : List Nat}, (∀ w ∈ l, w < nw T) → ∀ i, i < 16 → (up T l x).testBit i = evS (srF T l i) x := by
  intro l
  induction l with
  | nil =>
    intro _ i hi
    show x.testBit i = evS (2 * i) x
    unfold evS
    rw [if_pos (show 2 * i < 32 by omega), show 2 * i / 2 = i by omega, show 2 * i % 2 = 0 by omega]
    cases x.testBit i <;> rfl
  | cons w l ih =>
    intro h i hi
    have hm := fun v hv => h v (List.mem_cons_of_mem _ hv)
    have h1 := ih hm
    show (stU T w (up T l x)).testBit i = _
    cases hz : isM T w
    · rw [srF_0 hz, show stU T w (up T l x) = hab (kd T w) (fa T w) (fb T w) (up T l x) from if_neg (by rw [hz]; decide), hab_tb (hW.ehok (h w List.mem_cons_self)) (up_lt hW hm hx) hi]
      exact leS_ev (hW.ehok (h w List.mem_cons_self)) (srF_lt hW hm) h1 hi
    · rw [srF_1 hz, show stU T w (up T l x) = up T l x from if_pos hz]; exact h1 i hi
theorem eq16 {x y : Nat} (hx : x < 65536) (hy : y < 65536) (h : ∀ i, i < 16 → x.testBit i = y.testBit i) : x = y := by
  refine Nat.eq_of_testBit_eq (fun i => ?_)
  by_cases hi : i < 16
  · exact h i hi
  · rw [bit16 hx (by omega), bit16 hy (by omega)]
theorem ev_0 (e : Nat) : evS e 0 = decide (e % 2 = 1) := by
  unfold evS
  rw [Nat.zero_testBit]
  split
  · cases decide (e % 2 = 1) <;> rfl
  · rfl
theorem ev_1 (e k : Nat) : evS e (1 <<< k) = (decide (e < 32 ∧ e / 2 = k) != decide (e % 2 = 1)) := by
  unfold evS
  rw [one_tb]
  by_cases h : e < 32
  · rw [if_pos h]
    by_cases h2 : e / 2 = k
    · simp [h, h2]
    · simp [h, h2, Ne.symm h2]
  · rw [if_neg h]; simp [h]
/-- two sources that the rows of at most one sign can't tell apart are one -/
theorem ev_inj {e e' : Nat} (he : e < 34) (he' : e' < 34) (h0 : evS e 0 = evS e' 0) (h1 : ∀ k, k < 16 → evS e (1 <<< k) = evS e' (1 <<< k)) : e = e' := by
  rw [ev_0, ev_0] at h0
  have hp : (e % 2 = 1) ↔ (e' % 2 = 1) := decide_eq_decide.mp h0
  have hk : ∀ k, k < 16 → ((e < 32 ∧ e / 2 = k) ↔ (e' < 32 ∧ e' / 2 = k)) := by
    intro k hk
    have := h1 k hk
    rw [ev_1, ev_1, h0] at this
    have h2 : decide (e < 32 ∧ e / 2 = k) = decide (e' < 32 ∧ e' / 2 = k) := by
      cases ha : decide (e < 32 ∧ e / 2 = k) <;> cases hb : decide (e' < 32 ∧ e' / 2 = k) <;> cases hc : decide (e' % 2 = 1) <;> rw [ha, hb, hc] at this <;> first | rfl | exact absurd this (by decide)
    exact decide_eq_decide.mp h2
  by_cases h : e < 32
  · have := (hk (e / 2) (by omega)).mp ⟨h, rfl⟩
    omega
  · by_cases h' : e' < 32
    · have := (hk (e' / 2) (by omega)).mpr ⟨h', rfl⟩
      omega
    · omega
def sameS (s t : Nat → Nat) : Bool := (List.range 16).all (fun i => decide (s i = t i))
theorem sameS_iff {s t : Nat → Nat} : sameS s t = true ↔ ∀ i, i < 16 → s i = t i := by
  unfold sameS
  rw [List.all_eq_true]
  exact ⟨fun h i hi => of_decide_eq_true (h i (List.mem_range.mpr hi)), fun h i hi => decide_eq_true (h i (List.mem_range.mp hi))⟩
theorem same_up {T : TW} (hW : WF T) {l m : List Nat} (hl : ∀ w ∈ l, w < nw T) (hm : ∀ w ∈ m, w < nw T) (h : ∀ i, i < 16 → srF T l i = srF T m i) {x : Nat} (hx : x < 65536) : up T l x = up T m x := by
  refine eq16 (up_lt hW hl hx) (up_lt hW hm hx) (fun i hi => ?_)
  rw [up_ev hW hx hl i hi, up_ev hW hx hm i hi, h i hi]
theorem sh16 {k : Nat} (hk : k < 16) : 1 <<< k < 65536 := by rw [Nat.one_shiftLeft]; exact Nat.pow_lt_pow_right (a := 2) (n := 16) (by decide) hk
theorem up_same {T : TW} (hW : WF T) {l m : List Nat} (hl : ∀ w ∈ l, w < nw T) (hm : ∀ w ∈ m, w < nw T) (h0 : up T l 0 = up T m 0) (h1 : ∀ k, k < 16 → up T l (1 <<< k) = up T m (1 <<< k)) : ∀ i, i < 16 → srF T l i = srF T m i := by
  intro i hi
  refine ev_inj (srF_lt hW hl i hi) (srF_lt hW hm i hi) ?_ (fun k hk => ?_)
  · rw [← up_ev hW (by decide) hl i hi, ← up_ev hW (by decide) hm i hi, h0]
  · rw [← up_ev hW (sh16 hk) hl i hi, ← up_ev hW (sh16 hk) hm i hi, h1 k hk]
def alikeQ (T : TW) (x y : Int32) : Int32 := onN (nw T) x (-1) fun w => onN (nw T) y (-1) fun u => if sameS (srF T (ch T w)) (srF T (ch T u)) = true then nI 1 else nI 0
/-- as an int -/
def cI (e : Nat) : Int32 := if e < 32 then nI e else if e = 32 then -2 else -1
theorem cI_inj {e e' : Nat} (he : e < 34) (he' : e' < 34) (h : cI e = cI e') : e = e' := by
  unfold cI at h
  by_cases h1 : e < 32
  · rw [if_pos h1] at h
    by_cases h2 : e' < 32
    · rw [if_pos h2] at h; exact nI_inj (by omega) (by omega) h
    · rw [if_neg h2] at h
      split at h
      · exact absurd h (nI_m2 (by omega))
      · exact absurd h (nI_m1 (by omega))
  · rw [if_neg h1] at h
    by_cases h2 : e' < 32
    · rw [if_pos h2] at h
      split at h
      · exact absurd h.symm (nI_m2 (by omega))
      · exact absurd h.symm (nI_m1 (by omega))
    · rw [if_neg h2] at h
      by_cases a : e = 32 <;> by_cases b : e' = 32
      · omega
      · rw [if_pos a, if_neg b] at h; exact absurd h (by decide)
      · rw [if_neg a, if_pos b] at h; exact absurd h (by decide)
      · omega
theorem cI_xor {e : Nat} (he : e < 34) : cI e ^^^ nI 1 = cI (e ^^^ 1) := by
  by_cases h : e < 32
  · have h2 : e ^^^ 1 < 32 := by rw [xor1]; split <;> omega
    rw [show cI e = nI e from if_pos h, show cI (e ^^^ 1) = nI (e ^^^ 1) from if_pos h2, nI_xor]
  · rcases (show e = 32 ∨ e = 33 by omega) with rfl | rfl <;> decide

set_option maxRecDepth 20000 in
set_option maxHeartbeats 1000000 in
theorem w_X9_passedUp {D : Nat → Nat → Int32} {L : Nat → Nat → Int64} {Q : bh_Q} (hW : WF (tv D)) {w row : Nat} (hw : w < nw (tv D)) (hr : row < 65536) (k1 : ∀ D', OffH D D' → Q (some (.int (nI (up (tv D) (ch (tv D) w) row)))) (hp D' L)) : bh_wc 3 m_X9_passedUp [.ref 0, .int (nI w), .int (nI row)] (hp D L) Q := by
  refine x_start (lv0 := [_, _, _]) (Nat.le_of_ble_eq_true rfl) rfl ?_
  refine x_aload (pc' := 1) rfl rfl rfl ?_
  refine x_getR (pc' := 4) rfl rfl rfl (by decide) rfl (by decide) rfl rfl ?_
  refine x_aload (pc' := 5) rfl rfl rfl ?_
  refine x_getR (pc' := 8) rfl rfl rfl (by decide) rfl (by decide) rfl rfl ?_
  refine x_iload (pc' := 9) rfl rfl rfl ?_
  refine x_callV (pc' := 12) (d1 := 2) (Bs := [_, _]) rfl rfl rfl rfl rfl rfl rfl (Nat.le_of_ble_eq_true rfl) ⟨rfl, rfl⟩ (by decide) rfl (by decide) ?_
  refine w_X2_listFrom hW hw (fun D1 o1 hH => ?_)
  have t1 := o1.tv
  refine ⟨rfl, ?_⟩
  refine x_aload (pc' := 13) rfl rfl rfl ?_
  refine x_getR (pc' := 16) rfl rfl rfl (by decide) rfl (by decide) rfl rfl ?_
  refine x_aload (pc' := 17) rfl rfl rfl ?_
  refine x_getR (pc' := 20) rfl rfl rfl (by decide) rfl (by decide) rfl rfl ?_
  refine x_int (pc' := 21) (v := nI 0) rfl rfl rfl ?_
  refine x_aload (pc' := 22) rfl rfl rfl ?_
  refine x_getR (pc' := 25) rfl rfl rfl (by decide) rfl (by decide) rfl rfl ?_
  refine x_getI (j := 1) (pc' := 28) rfl rfl rfl (by decide) rfl (by decide) rfl rfl ?_
  refine x_top (hH.1) ?_
  refine x_iload (pc' := 29) rfl rfl rfl ?_
  refine x_callV (pc' := 32) (d1 := 2) (Bs := [_, _, _, _]) rfl rfl rfl rfl rfl rfl rfl (Nat.le_of_ble_eq_true rfl) ⟨rfl, rfl⟩ (by decide) rfl (by decide) ?_
  refine w_X2_passUp (D := D1) (by rw [t1]; exact hW) hH (by rw [t1]; exact ch_mem hW hw) (isH_of hW hw).2.1 (Nat.zero_le _) (Nat.le_refl _) hr ?_
  refine ⟨rfl, ?_⟩
  rw [Nat.sub_zero, upN_all, t1]
  refine x_iret rfl rfl ?_
  exact k1 D1 o1
set_option maxRecDepth 20000 in
set_option maxHeartbeats 1000000 in
theorem l_X9_alike {L : Nat → Nat → Int64} {Q : bh_Q} {d : Nat} (hd : 3 ≤ d) {T : TW} (hW : WF T) {w u : Nat} (hw : w < nw T) (hu : u < nw T) {D0 : Nat → Nat → Int32} (k1 : (∀ j, j < 16 → up T (ch T w) (1 <<< j) = up T (ch T u) (1 <<< j)) → ∀ D, OffH D0 D → Q (some (.int (nI 1))) (hp D L)) (k0 : ¬ (∀ j, j < 16 → up T (ch T w) (1 <<< j) = up T (ch T u) (1 <<< j)) → ∀ D, OffH D0 D → Q (some (.int (nI 0))) (hp D L)) : ∀ (f i : Nat) (D : Nat → Nat → Int32), i + f = 16 → (OffH D0 D) → (tv D = T) → (∀ j, j < i → up T (ch T w) (1 <<< j) = up T (ch T u) (1 <<< j)) → bw m_X9_alike d Q 43 [.ref 0, .int (nI w), .int (nI u), .int (nI i)] [] D L := by
  intro f
  induction f with
  | zero =>
    intro i D hf o hT h0
    subst hT
    refine x_iload (pc' := 44) rfl rfl rfl ?_
    refine x_int (pc' := 46) (v := nI 16) rfl rfl rfl ?_
    refine y_ic_ge (pc' := 49) rfl rfl (by first | omega | (have := up_lt hW (ch_mem hW hw) (x := 1 <<< i) (sh16 (k := i) (by omega)); have := up_lt hW (ch_mem hW hu) (x := 1 <<< i) (sh16 (k := i) (by omega)); omega)) (by first | omega | (have := up_lt hW (ch_mem hW hw) (x := 1 <<< i) (sh16 (k := i) (by omega)); have := up_lt hW (ch_mem hW hu) (x := 1 <<< i) (sh16 (k := i) (by omega)); omega)) (fun c46 => ?_) (fun c46 => ?_)
    · refine x_int (pc' := 77) (v := nI 1) rfl rfl rfl ?_
      refine x_iret rfl rfl ?_
      obtain rfl : i = 16 := by omega
      exact k1 h0 D o
    · exact absurd c46 (by omega)
  | succ f ih =>
    intro i D hf o hT h0
    subst hT
    refine x_iload (pc' := 44) rfl rfl rfl ?_
    refine x_int (pc' := 46) (v := nI 16) rfl rfl rfl ?_
    refine y_ic_ge (pc' := 49) rfl rfl (by first | omega | (have := up_lt hW (ch_mem hW hw) (x := 1 <<< i) (sh16 (k := i) (by omega)); have := up_lt hW (ch_mem hW hu) (x := 1 <<< i) (sh16 (k := i) (by omega)); omega)) (by first | omega | (have := up_lt hW (ch_mem hW hw) (x := 1 <<< i) (sh16 (k := i) (by omega)); have := up_lt hW (ch_mem hW hu) (x := 1 <<< i) (sh16 (k := i) (by omega)); omega)) (fun c46 => ?_) (fun c46 => ?_)
    · exact absurd c46 (by omega)
    · refine x_aload (pc' := 50) rfl rfl rfl ?_
      refine x_iload (pc' := 51) rfl rfl rfl ?_
      refine x_int (pc' := 52) (v := nI 1) rfl rfl rfl ?_
      refine x_iload (pc' := 53) rfl rfl rfl ?_
      refine y_ishl (pc' := 54) rfl rfl (by first | omega | (have := up_lt hW (ch_mem hW hw) (x := 1 <<< i) (sh16 (k := i) (by omega)); have := up_lt hW (ch_mem hW hu) (x := 1 <<< i) (sh16 (k := i) (by omega)); omega)) ?_
      refine x_callV (pc' := 57) (d1 := 3) (Bs := [_, _]) rfl rfl rfl rfl rfl rfl rfl (Nat.le_of_ble_eq_true rfl) ⟨rfl, rfl⟩ (by decide) rfl (by omega) ?_
      refine w_X9_passedUp hW hw (sh16 (k := i) (by omega)) (fun D1 o1 => ?_)
      refine ⟨rfl, ?_⟩
      refine x_aload (pc' := 58) rfl rfl rfl ?_
      refine x_iload (pc' := 59) rfl rfl rfl ?_
      refine x_int (pc' := 60) (v := nI 1) rfl rfl rfl ?_
      refine x_iload (pc' := 61) rfl rfl rfl ?_
      refine y_ishl (pc' := 62) rfl rfl (by first | omega | (have := up_lt hW (ch_mem hW hw) (x := 1 <<< i) (sh16 (k := i) (by omega)); have := up_lt hW (ch_mem hW hu) (x := 1 <<< i) (sh16 (k := i) (by omega)); omega)) ?_
      refine x_callV (pc' := 65) (d1 := 3) (Bs := [_, _]) rfl rfl rfl rfl rfl rfl rfl (Nat.le_of_ble_eq_true rfl) ⟨rfl, rfl⟩ (by decide) rfl (by omega) ?_
      refine w_X9_passedUp (D := D1) (by rw [o1.tv]; exact hW) (by rw [o1.tv]; exact hu) (sh16 (k := i) (by omega)) (fun D2 o2 => ?_)
      refine ⟨rfl, ?_⟩
      rw [o1.tv]
      refine y_ic_eq (pc' := 68) rfl rfl (by first | omega | (have := up_lt hW (ch_mem hW hw) (x := 1 <<< i) (sh16 (k := i) (by omega)); have := up_lt hW (ch_mem hW hu) (x := 1 <<< i) (sh16 (k := i) (by omega)); omega)) (by first | omega | (have := up_lt hW (ch_mem hW hw) (x := 1 <<< i) (sh16 (k := i) (by omega)); have := up_lt hW (ch_mem hW hu) (x := 1 <<< i) (sh16 (k := i) (by omega)); omega)) (fun c65 => ?_) (fun c65 => ?_)
      · refine y_inc (pc' := 73) (lv' := [_, _, _, _]) rfl rfl rfl (by decide) rfl ?_
        refine x_goto rfl ?_
        refine ih (i + 1) D2 (by omega) ((o.tr o1).tr o2) (o2.tv.trans o1.tv) (fun j hj => ?_)
        by_cases e : j = i
        · rw [e]; exact c65
        · exact h0 j (by omega)
      · refine x_int (pc' := 69) (v := nI 0) rfl rfl rfl ?_
        refine x_iret rfl rfl ?_
        exact k0 (fun h => c65 (h i (by omega))) D2 ((o.tr o1).tr o2)
set_option maxRecDepth 20000 in
set_option maxHeartbeats 1000000 in
theorem w_X9_alike {D : Nat → Nat → Int32} {L : Nat → Nat → Int64} {Q : bh_Q} (hW : WF (tv D)) {x y : Int32} (k1 : ∀ D1, OffC D D1 → Q (some (.int (alikeQ (tv D) x y))) (hp D1 L)) : bh_wc 4 m_X9_alike [.ref 0, .int x, .int y] (hp D L) Q := by
  refine x_start (lv0 := [_, _, _, _]) (Nat.le_of_ble_eq_true rfl) rfl ?_
  have h12 := hW.nwl
  refine x_aload (pc' := 1) rfl rfl rfl ?_
  refine x_getR (pc' := 4) rfl rfl rfl (by decide) rfl (by decide) rfl rfl ?_
  refine x_iload (pc' := 5) rfl rfl rfl ?_
  refine x_callV (pc' := 8) (d1 := 1) (Bs := [_]) rfl rfl rfl rfl rfl rfl rfl (Nat.le_of_ble_eq_true rfl) ⟨rfl, rfl⟩ (by decide) rfl (by decide) ?_
  refine w_X7_isWriter hW (fun h5w h5l e => ?_) (fun h5 => ?_)
  · subst e
    refine ⟨rfl, ?_⟩
    refine x_if_eq (pc' := 11) rfl rfl (fun c8 => absurd c8 (by decide)) (fun _ => ?_)
    refine x_aload (pc' := 12) rfl rfl rfl ?_
    refine x_getR (pc' := 15) rfl rfl rfl (by decide) rfl (by decide) rfl rfl ?_
    refine x_iload (pc' := 16) rfl rfl rfl ?_
    refine x_callV (pc' := 19) (d1 := 1) (Bs := [_]) rfl rfl rfl rfl rfl rfl rfl (Nat.le_of_ble_eq_true rfl) ⟨rfl, rfl⟩ (by decide) rfl (by decide) ?_
    refine w_X7_isWriter hW (fun h16w h16l e => ?_) (fun h16 => ?_)
    · subst e
      refine ⟨rfl, ?_⟩
      refine x_if_ne (pc' := 22) rfl rfl (fun _ => ?_) (fun c19 => absurd c19 (by decide))
      refine x_aload (pc' := 25) rfl rfl rfl ?_
      refine x_iload (pc' := 26) rfl rfl rfl ?_
      refine x_int (pc' := 27) (v := nI 0) rfl rfl rfl ?_
      refine x_callV (pc' := 30) (d1 := 3) (Bs := [_, _]) rfl rfl rfl rfl rfl rfl rfl (Nat.le_of_ble_eq_true rfl) ⟨rfl, rfl⟩ (by decide) rfl (by decide) ?_
      refine w_X9_passedUp hW h5l (show 0 < 65536 by decide) (fun D1 o1 => ?_)
      refine ⟨rfl, ?_⟩
      refine x_aload (pc' := 31) rfl rfl rfl ?_
      refine x_iload (pc' := 32) rfl rfl rfl ?_
      refine x_int (pc' := 33) (v := nI 0) rfl rfl rfl ?_
      refine x_callV (pc' := 36) (d1 := 3) (Bs := [_, _]) rfl rfl rfl rfl rfl rfl rfl (Nat.le_of_ble_eq_true rfl) ⟨rfl, rfl⟩ (by decide) rfl (by decide) ?_
      refine w_X9_passedUp (D := D1) (by rw [o1.tv]; exact hW) (by rw [o1.tv]; exact h16l) (show 0 < 65536 by decide) (fun D2 o2 => ?_)
      refine ⟨rfl, ?_⟩
      rw [o1.tv]
      refine y_ic_eq (pc' := 39) rfl rfl (by first | omega | (have := up_lt hW (ch_mem hW h5l) (x := 0) (show 0 < 65536 by decide); have := up_lt hW (ch_mem hW h16l) (x := 0) (show 0 < 65536 by decide); omega)) (by first | omega | (have := up_lt hW (ch_mem hW h5l) (x := 0) (show 0 < 65536 by decide); have := up_lt hW (ch_mem hW h16l) (x := 0) (show 0 < 65536 by decide); omega)) (fun c36 => ?_) (fun c36 => ?_)
      · refine x_int (pc' := 42) (v := nI 0) rfl rfl rfl ?_
        refine x_istore (pc' := 43) (lv' := [_, _, _, _]) rfl rfl (by decide) rfl ?_
        simp (disch := first | assumption | omega) only [alikeQ, onN_1, onN_0, onP_1, onP_0, ↓reduceIte] at k1
        refine l_X9_alike (d := 3) (Nat.le_refl _) hW h5l h16l (D0 := D2) (fun hh D3 o3 => ?_) (fun hh D3 o3 => ?_) 16 0 D2 rfl OffH.rf (o2.tv.trans o1.tv) (fun j hj => absurd hj (Nat.not_lt_zero j))
        · rw [if_pos (sameS_iff.mpr (up_same hW (ch_mem hW h5l) (ch_mem hW h16l) c36 hh))] at k1; exact k1 D3 ((o1.tr o2).tr o3).c
        · rw [if_neg (fun z => hh (fun j hj => same_up hW (ch_mem hW h5l) (ch_mem hW h16l) (sameS_iff.mp z) (sh16 hj)))] at k1; exact k1 D3 ((o1.tr o2).tr o3).c
      · refine x_int (pc' := 40) (v := nI 0) rfl rfl rfl ?_
        refine x_iret rfl rfl ?_
        simp (disch := first | assumption | omega) only [alikeQ, onN_1, onN_0, onP_1, onP_0, ↓reduceIte] at k1
        rw [if_neg (fun z => c36 (same_up hW (ch_mem hW h5l) (ch_mem hW h16l) (sameS_iff.mp z) (by decide)))] at k1
        exact k1 D2 (o1.tr o2).c
    · refine ⟨rfl, ?_⟩
      refine x_if_ne (pc' := 22) rfl rfl (fun c19 => absurd (by decide) c19) (fun _ => ?_)
      refine x_int (pc' := 23) (v := (-1)) rfl rfl rfl ?_
      refine x_iret rfl rfl ?_
      simp (disch := first | assumption | omega) only [alikeQ, onN_1, onN_0, onP_1, onP_0, ↓reduceIte] at k1
      exact k1 D OffC.rf
  · refine ⟨rfl, ?_⟩
    refine x_if_eq (pc' := 11) rfl rfl (fun _ => ?_) (fun c8 => absurd (by decide) c8)
    refine x_int (pc' := 23) (v := (-1)) rfl rfl rfl ?_
    refine x_iret rfl rfl ?_
    simp (disch := first | assumption | omega) only [alikeQ, onN_1, onN_0, onP_1, onP_0, ↓reduceIte] at k1
    exact k1 D OffC.rf
set_option maxRecDepth 20000 in
set_option maxHeartbeats 1000000 in
theorem l0_X10_leads {L : Nat → Nat → Int64} {Q : bh_Q} {d : Nat} (hd : 0 ≤ d) {r1 r2 r3 : Int32} {D0 : Nat → Nat → Int32} (kE : ∀ D, OffL [219] D0 D → (∀ j, j < 16 → D 219 j = D0 218 j) → bw m_X10_leads d Q 30 [.ref 205, .int r1, .int r2, .int r3, .int (nI 16)] [] D L) : ∀ (f i : Nat) (D : Nat → Nat → Int32), i + f = 16 → (OffL [219] D0 D) → (∀ j, j < i → D 219 j = D0 218 j) → bw m_X10_leads d Q 3 [.ref 205, .int r1, .int r2, .int r3, .int (nI i)] [] D L := by
  intro f
  induction f with
  | zero =>
    intro i D hf o h6
    refine x_iload (pc' := 5) rfl rfl rfl ?_
    refine x_int (pc' := 7) (v := nI 16) rfl rfl rfl ?_
    refine y_ic_ge (pc' := 10) rfl rfl (by omega) (by omega) (fun c7 => ?_) (fun c7 => ?_)
    · obtain rfl : i = 16 := by omega
      exact kE D o h6
    · exact absurd c7 (by omega)
  | succ f ih =>
    intro i D hf o h6
    refine x_iload (pc' := 5) rfl rfl rfl ?_
    refine x_int (pc' := 7) (v := nI 16) rfl rfl rfl ?_
    refine y_ic_ge (pc' := 10) rfl rfl (by omega) (by omega) (fun c7 => ?_) (fun c7 => ?_)
    · exact absurd c7 (by omega)
    · refine x_aload (pc' := 11) rfl rfl rfl ?_
      refine x_getR (pc' := 14) rfl rfl rfl (by decide) rfl (by decide) rfl rfl ?_
      refine x_iload (pc' := 16) rfl rfl rfl ?_
      refine x_aload (pc' := 17) rfl rfl rfl ?_
      refine x_getR (pc' := 20) rfl rfl rfl (by decide) rfl (by decide) rfl rfl ?_
      refine x_iload (pc' := 22) rfl rfl rfl ?_
      refine x_iald (pc' := 23) rfl rfl (by decide) rfl (by decide) (show _ < 16 by omega) ?_
      refine x_iast (pc' := 24) rfl rfl (by decide) rfl (by decide) (show _ < 16 by omega) ?_
      refine y_inc (pc' := 27) (lv' := [_, _, _, _, _]) rfl rfl rfl (by decide) rfl ?_
      refine x_goto rfl ?_
      refine ih (i + 1) _ (by omega) (o.tr (OffL.up (by decide))) (fun j hj => ?_)
      rw [up2_at]
      by_cases e : j = i
      · rw [if_pos ⟨rfl, e⟩, e, o 218 (by decide)]
      · rw [if_neg (fun z => e z.2)]; exact h6 j (by omega)
set_option maxRecDepth 20000 in
set_option maxHeartbeats 1000000 in
theorem l1_X10_leads {L : Nat → Nat → Int64} {Q : bh_Q} {d : Nat} (hd : 0 ≤ d) {r1 r3 : Int32} {a : Nat} (ha : a < 16) {D0 : Nat → Nat → Int32} (kE : ∀ D, OffL [218] D0 D → (∀ j, j < 16 → D 218 ((j + a) % 16) = D0 219 j) → Q none (hp D L)) : ∀ (f i : Nat) (D : Nat → Nat → Int32), i + f = 16 → (OffL [218] D0 D) → (∀ j, j < i → D 218 ((j + a) % 16) = D0 219 j) → bw m_X10_leads d Q 105 [.ref 205, .int r1, .int (nI a), .int r3, .int (nI i)] [] D L := by
  intro f
  induction f with
  | zero =>
    intro i D hf o h6
    refine x_iload (pc' := 107) rfl rfl rfl ?_
    refine x_int (pc' := 109) (v := nI 16) rfl rfl rfl ?_
    refine y_ic_ge (pc' := 112) rfl rfl (by omega) (by omega) (fun c109 => ?_) (fun c109 => ?_)
    · refine x_goto rfl ?_
      refine x_vret rfl rfl ?_
      obtain rfl : i = 16 := by omega
      exact kE D o h6
    · exact absurd c109 (by omega)
  | succ f ih =>
    intro i D hf o h6
    refine x_iload (pc' := 107) rfl rfl rfl ?_
    refine x_int (pc' := 109) (v := nI 16) rfl rfl rfl ?_
    refine y_ic_ge (pc' := 112) rfl rfl (by omega) (by omega) (fun c109 => ?_) (fun c109 => ?_)
    · exact absurd c109 (by omega)
    · refine x_aload (pc' := 113) rfl rfl rfl ?_
      refine x_getR (pc' := 116) rfl rfl rfl (by decide) rfl (by decide) rfl rfl ?_
      refine x_iload (pc' := 118) rfl rfl rfl ?_
      refine x_iload (pc' := 119) rfl rfl rfl ?_
      refine y_iadd (pc' := 120) rfl rfl ?_
      refine x_int (pc' := 122) (v := nI 16) rfl rfl rfl ?_
      refine y_irem (pc' := 123) rfl rfl (by omega) (by omega) (by omega) ?_
      refine x_aload (pc' := 124) rfl rfl rfl ?_
      refine x_getR (pc' := 127) rfl rfl rfl (by decide) rfl (by decide) rfl rfl ?_
      refine x_iload (pc' := 129) rfl rfl rfl ?_
      refine x_iald (pc' := 130) rfl rfl (by decide) rfl (by decide) (show _ < 16 by omega) ?_
      refine x_iast (pc' := 131) rfl rfl (by decide) rfl (by decide) (show _ < 16 by omega) ?_
      refine y_inc (pc' := 134) (lv' := [_, _, _, _, _]) rfl rfl rfl (by decide) rfl ?_
      refine x_goto rfl ?_
      refine ih (i + 1) _ (by omega) (o.tr (OffL.up (by decide))) (fun j hj => ?_)
      rw [up2_at]
      by_cases e : j = i
      · rw [if_pos ⟨rfl, by omega⟩, e, o 219 (by decide)]
      · rw [if_neg (fun z => by omega)]; exact h6 j (by omega)
set_option maxRecDepth 20000 in
set_option maxHeartbeats 1000000 in
theorem w_X10_leads {D : Nat → Nat → Int32} {L : Nat → Nat → Int64} {Q : bh_Q} {k a b : Nat} {x y : Int32} (hok : CBorrowedHandsLaw_law_r5350_8c9601.hok k a b) (hxa : 1 ≤ k → x = nI a) (hyb : 5 ≤ k → y = nI b) {s : Nat → Nat} (hs : ∀ i, i < 16 → D 218 i = cI (s i)) (hs34 : ∀ i, i < 16 → s i < 34) (k1 : ∀ D', OffL [218, 219] D D' → (∀ i, i < 16 → D' 218 i = cI (leS k a b s i)) → Q none (hp D' L)) : bh_wc 1 m_X10_leads [.ref 205, .int (nI k), .int x, .int y] (hp D L) Q := by
  refine x_start (lv0 := [_, _, _, _, _]) (Nat.le_of_ble_eq_true rfl) rfl ?_
  have ha16 := hok.2.1
  have hb16 := hok.2.2.1
  refine x_int (pc' := 1) (v := nI 0) rfl rfl rfl ?_
  refine x_istore (pc' := 3) (lv' := [_, _, _, _, _]) rfl rfl (by decide) rfl ?_
  refine l0_X10_leads (d := 0) (Nat.zero_le _) (D0 := D) (fun D1 o1 h6 => ?_) 16 0 D rfl OffL.rf (fun j hj => absurd hj (Nat.not_lt_zero j))
  refine x_iload (pc' := 31) rfl rfl rfl ?_
  rcases k7 hok.1 with rfl | rfl | rfl | rfl | rfl | rfl | rfl
  · refine x_tab1O rfl (Or.inl (by decide)) (by decide) ?_
    refine x_vret rfl rfl ?_
    refine k1 D1 (fun q h => (o1 q (fun z => h (by simp at z ⊢; omega)))) (fun i hi => ?_)
    rw [o1 218 (by decide)]; exact hs i hi
  · refine x_tab1N (n := 0) (t := 68) rfl (by decide) rfl ?_
    have hxa := hxa (by decide)
    subst hxa
    refine x_aload (pc' := 69) rfl rfl rfl ?_
    refine x_getR (pc' := 72) rfl rfl rfl (by decide) rfl (by decide) rfl rfl ?_
    refine x_iload (pc' := 73) rfl rfl rfl ?_
    refine x_dup2 (pc' := 74) rfl rfl rfl rfl ?_
    refine x_iald (pc' := 75) rfl rfl (by decide) rfl (by decide) (show _ < 16 by omega) ?_
    refine x_int (pc' := 76) (v := nI 1) rfl rfl rfl ?_
    refine x_ixor (pc' := 77) rfl rfl ?_
    refine x_iast (pc' := 78) rfl rfl (by decide) rfl (by decide) (show _ < 16 by omega) ?_
    refine x_goto rfl ?_
    refine x_vret rfl rfl ?_
    refine k1 _ (fun q h => (bh_up2_ne _ _ _ (fun e => h (by rw [e]; decide))).trans (o1 q (fun z => h (by simp at z ⊢; omega)))) (fun i hi => ?_)
    have e3 : D1 218 i = cI (s i) := by rw [o1 218 (by decide)]; exact hs i hi
    rw [up2_at]
    show _ = cI (if i = a then s i ^^^ 1 else s i)
    by_cases e : i = a
    · subst e; rw [if_pos ⟨rfl, rfl⟩, if_pos rfl]; exact (by rw [o1 218 (by decide), hs i hi]; exact cI_xor (hs34 i hi))
    · rw [if_neg (fun z => e z.2), if_neg e]; exact e3
  · refine x_tab1N (n := 1) (t := 81) rfl (by decide) rfl ?_
    have hxa := hxa (by decide)
    subst hxa
    refine x_aload (pc' := 82) rfl rfl rfl ?_
    refine x_getR (pc' := 85) rfl rfl rfl (by decide) rfl (by decide) rfl rfl ?_
    refine x_iload (pc' := 86) rfl rfl rfl ?_
    refine x_int (pc' := 87) (v := (-1)) rfl rfl rfl ?_
    refine x_iast (pc' := 88) rfl rfl (by decide) rfl (by decide) (show _ < 16 by omega) ?_
    refine x_goto rfl ?_
    refine x_vret rfl rfl ?_
    refine k1 _ (fun q h => (bh_up2_ne _ _ _ (fun e => h (by rw [e]; decide))).trans (o1 q (fun z => h (by simp at z ⊢; omega)))) (fun i hi => ?_)
    have e3 : D1 218 i = cI (s i) := by rw [o1 218 (by decide)]; exact hs i hi
    rw [up2_at]
    show _ = cI (if i = a then 33 else s i)
    by_cases e : i = a
    · subst e; rw [if_pos ⟨rfl, rfl⟩, if_pos rfl]; exact rfl
    · rw [if_neg (fun z => e z.2), if_neg e]; exact e3
  · refine x_tab1N (n := 2) (t := 91) rfl (by decide) rfl ?_
    have hxa := hxa (by decide)
    subst hxa
    refine x_aload (pc' := 92) rfl rfl rfl ?_
    refine x_getR (pc' := 95) rfl rfl rfl (by decide) rfl (by decide) rfl rfl ?_
    refine x_iload (pc' := 96) rfl rfl rfl ?_
    refine x_int (pc' := 98) (v := (-2)) rfl rfl rfl ?_
    refine x_iast (pc' := 99) rfl rfl (by decide) rfl (by decide) (show _ < 16 by omega) ?_
    refine x_goto rfl ?_
    refine x_vret rfl rfl ?_
    refine k1 _ (fun q h => (bh_up2_ne _ _ _ (fun e => h (by rw [e]; decide))).trans (o1 q (fun z => h (by simp at z ⊢; omega)))) (fun i hi => ?_)
    have e3 : D1 218 i = cI (s i) := by rw [o1 218 (by decide)]; exact hs i hi
    rw [up2_at]
    show _ = cI (if i = a then 32 else s i)
    by_cases e : i = a
    · subst e; rw [if_pos ⟨rfl, rfl⟩, if_pos rfl]; exact rfl
    · rw [if_neg (fun z => e z.2), if_neg e]; exact e3
  · refine x_tab1N (n := 3) (t := 102) rfl (by decide) rfl ?_
    have hxa := hxa (by decide)
    subst hxa
    refine x_int (pc' := 103) (v := nI 0) rfl rfl rfl ?_
    refine x_istore (pc' := 105) (lv' := [_, _, _, _, _]) rfl rfl (by decide) rfl ?_
    refine l1_X10_leads (d := 0) (Nat.le_refl _) (by omega) (D0 := D1) (fun D2 o2 u6 => ?_) 16 0 D1 rfl OffL.rf (fun j hj => absurd hj (Nat.not_lt_zero j))
    refine k1 D2 (fun q h => (o2 q (fun z => h (by simp at z ⊢; omega))).trans (o1 q (fun z => h (by simp at z ⊢; omega)))) (fun i hi => ?_)
    have e := u6 ((i + 16 - a) % 16) (by omega)
    rw [show ((i + 16 - a) % 16 + a) % 16 = i by omega, h6 _ (by omega), hs _ (by omega)] at e
    exact e
  · refine x_tab1N (n := 4) (t := 140) rfl (by decide) rfl ?_
    have hxa := hxa (by decide)
    subst hxa
    have hyb := hyb (by decide)
    subst hyb
    refine x_aload (pc' := 141) rfl rfl rfl ?_
    refine x_getR (pc' := 144) rfl rfl rfl (by decide) rfl (by decide) rfl rfl ?_
    refine x_iload (pc' := 145) rfl rfl rfl ?_
    refine x_aload (pc' := 146) rfl rfl rfl ?_
    refine x_getR (pc' := 149) rfl rfl rfl (by decide) rfl (by decide) rfl rfl ?_
    refine x_iload (pc' := 150) rfl rfl rfl ?_
    refine x_iald (pc' := 151) rfl rfl (by decide) rfl (by decide) (show _ < 16 by omega) ?_
    refine x_iast (pc' := 152) rfl rfl (by decide) rfl (by decide) (show _ < 16 by omega) ?_
    refine x_aload (pc' := 153) rfl rfl rfl ?_
    refine x_getR (pc' := 156) rfl rfl rfl (by decide) rfl (by decide) rfl rfl ?_
    refine x_iload (pc' := 157) rfl rfl rfl ?_
    refine x_aload (pc' := 158) rfl rfl rfl ?_
    refine x_getR (pc' := 161) rfl rfl rfl (by decide) rfl (by decide) rfl rfl ?_
    refine x_iload (pc' := 162) rfl rfl rfl ?_
    refine x_iald (pc' := 163) rfl rfl (by decide) rfl (by decide) (show _ < 16 by omega) ?_
    refine x_iast (pc' := 164) rfl rfl (by decide) rfl (by decide) (show _ < 16 by omega) ?_
    refine x_goto rfl ?_
    refine x_vret rfl rfl ?_
    refine k1 _ (fun q h => (bh_up2_ne _ _ _ (fun e => h (by rw [e]; decide))).trans ((bh_up2_ne _ _ _ (fun e => h (by rw [e]; decide))).trans (o1 q (fun z => h (by simp at z ⊢; omega))))) (fun i hi => ?_)
    have e3 : D1 218 i = cI (s i) := by rw [o1 218 (by decide)]; exact hs i hi
    have e1 : D1 219 a = cI (s a) := by rw [h6 a ha16]; exact hs a ha16
    have e2 : D1 219 b = cI (s b) := by rw [h6 b hb16]; exact hs b hb16
    simp only [up2_at]
    show _ = cI (if i = b then s a else if i = a then s b else s i)
    by_cases e : i = b
    · subst e; simp [e1, e2]
    · by_cases e4 : i = a
      · subst e4; simp [e1, e2, e]
      · simp [e, e4, e3]
  · refine x_tab1N (n := 5) (t := 167) rfl (by decide) rfl ?_
    have hxa := hxa (by decide)
    subst hxa
    have hyb := hyb (by decide)
    subst hyb
    refine x_aload (pc' := 168) rfl rfl rfl ?_
    refine x_getR (pc' := 171) rfl rfl rfl (by decide) rfl (by decide) rfl rfl ?_
    refine x_iload (pc' := 172) rfl rfl rfl ?_
    refine x_aload (pc' := 173) rfl rfl rfl ?_
    refine x_getR (pc' := 176) rfl rfl rfl (by decide) rfl (by decide) rfl rfl ?_
    refine x_iload (pc' := 177) rfl rfl rfl ?_
    refine x_iald (pc' := 178) rfl rfl (by decide) rfl (by decide) (show _ < 16 by omega) ?_
    refine x_iast (pc' := 179) rfl rfl (by decide) rfl (by decide) (show _ < 16 by omega) ?_
    refine x_goto rfl ?_
    refine x_vret rfl rfl ?_
    refine k1 _ (fun q h => (bh_up2_ne _ _ _ (fun e => h (by rw [e]; decide))).trans (o1 q (fun z => h (by simp at z ⊢; omega)))) (fun i hi => ?_)
    have e3 : D1 218 i = cI (s i) := by rw [o1 218 (by decide)]; exact hs i hi
    have e1 : D1 219 a = cI (s a) := by rw [h6 a ha16]; exact hs a ha16
    simp only [up2_at]
    show _ = cI (if i = b then s a else s i)
    by_cases e : i = b
    · subst e; simp [e1]
    · simp [e, e3]
set_option maxRecDepth 20000 in
set_option maxHeartbeats 1000000 in
theorem l0_X10_laysSource {L : Nat → Nat → Int64} {Q : bh_Q} {d : Nat} (hd : 0 ≤ d) {r1 : Int32} {D0 : Nat → Nat → Int32} (kE : ∀ D, OffL [218] D0 D → (∀ j, j < 16 → D 218 j = cI (2 * j)) → bw m_X10_laysSource d Q 23 [.ref 205, .int r1, .int (nI 16)] [] D L) : ∀ (f i : Nat) (D : Nat → Nat → Int32), i + f = 16 → (OffL [218] D0 D) → (∀ j, j < i → D 218 j = cI (2 * j)) → bw m_X10_laysSource d Q 2 [.ref 205, .int r1, .int (nI i)] [] D L := by
  intro f
  induction f with
  | zero =>
    intro i D hf o h6
    refine x_iload (pc' := 3) rfl rfl rfl ?_
    refine x_int (pc' := 5) (v := nI 16) rfl rfl rfl ?_
    refine y_ic_ge (pc' := 8) rfl rfl (by omega) (by omega) (fun c5 => ?_) (fun c5 => ?_)
    · obtain rfl : i = 16 := by omega
      exact kE D o h6
    · exact absurd c5 (by omega)
  | succ f ih =>
    intro i D hf o h6
    refine x_iload (pc' := 3) rfl rfl rfl ?_
    refine x_int (pc' := 5) (v := nI 16) rfl rfl rfl ?_
    refine y_ic_ge (pc' := 8) rfl rfl (by omega) (by omega) (fun c5 => ?_) (fun c5 => ?_)
    · exact absurd c5 (by omega)
    · refine x_aload (pc' := 9) rfl rfl rfl ?_
      refine x_getR (pc' := 12) rfl rfl rfl (by decide) rfl (by decide) rfl rfl ?_
      refine x_iload (pc' := 13) rfl rfl rfl ?_
      refine x_int (pc' := 14) (v := nI 2) rfl rfl rfl ?_
      refine x_iload (pc' := 15) rfl rfl rfl ?_
      refine y_imul (pc' := 16) rfl rfl ?_
      refine x_iast (pc' := 17) rfl rfl (by decide) rfl (by decide) (show _ < 16 by omega) ?_
      refine y_inc (pc' := 20) (lv' := [_, _, _]) rfl rfl rfl (by decide) rfl ?_
      refine x_goto rfl ?_
      refine ih (i + 1) _ (by omega) (o.tr (OffL.up (by decide))) (fun j hj => ?_)
      rw [up2_at]
      by_cases e : j = i
      · rw [if_pos ⟨rfl, e⟩, e]; exact (if_pos (show 2 * i < 32 by omega)).symm
      · rw [if_neg (fun z => e z.2)]; exact h6 j (by omega)
set_option maxRecDepth 20000 in
set_option maxHeartbeats 1000000 in
theorem l1_X10_laysSource {T : TW} (hW : WF T) {L : Nat → Nat → Int64} {Q : bh_Q} {d : Nat} (hd : 3 ≤ d) {r1 : Int32} {l : List Nat} (hl : l.length ≤ 12) (hm : ∀ w ∈ l, w < nw T) : ∀ (n : Nat) (D : Nat → Nat → Int32) (v : Int32), n ≤ l.length → v = nI n - 1 → Rn T (D 206) → HdM D l → (∀ i, i < 16 → D 218 i = cI (srF T (l.drop n) i)) → (∀ D', OffL [218, 219] D D' → (∀ i, i < 16 → D' 218 i = cI (srF T l i)) → Q none (hp D' L)) → bw m_X10_laysSource d Q 31 [.ref 205, .int r1, .int v] [] D L := by
  have h12 := hW.nwl
  intro n
  induction n with
  | zero =>
    intro D v hn hv hR hH hO k
    refine x_iload (pc' := 32) rfl rfl rfl ?_
    refine x_if_lt (pc' := 35) rfl rfl (fun c32 => ?_) (fun c32 => ?_)
    · refine x_vret rfl rfl ?_
      exact k D OffL.rf hO
    · exact absurd (by rw [hv]; exact sub1_lt (by omega)) c32
  | succ n ih =>
    intro D v hn hv hR hH hO k
    have hv : v = nI n := by rw [hv]; exact nI_pred _
    subst hv
    refine x_iload (pc' := 32) rfl rfl rfl ?_
    refine y_if_lt (pc' := 35) rfl rfl (by first | omega | (split <;> omega)) ?_
    refine x_aload (pc' := 36) rfl rfl rfl ?_
    refine x_aload (pc' := 37) rfl rfl rfl ?_
    refine x_getR (pc' := 40) rfl rfl rfl (by decide) rfl (by decide) rfl rfl ?_
    refine x_iload (pc' := 41) rfl rfl rfl ?_
    have hw : l.getD n 0 < nw T := hm _ (getD_mem (by omega))
    have ed := drop_get (l := l) (n := n) (by omega)
    have hsl := srF_lt hW (l := l.drop (n + 1)) (fun w hw => hm w (List.mem_of_mem_drop hw))
    refine x_iald (pc' := 42) rfl rfl (by decide) rfl (by decide) (show _ < 12 by omega) ?_
    refine x_top (hH _ (by omega)) ?_
    refine x_int (pc' := 44) (v := nI 7) rfl rfl rfl ?_
    refine x_callV (pc' := 47) (d1 := 1) (Bs := [_, _]) rfl rfl rfl rfl rfl rfl rfl (Nat.le_of_ble_eq_true rfl) ⟨rfl, rfl⟩ (by decide) rfl (by omega) ?_
    refine w_X10_of (by omega) (by decide) ?_
    refine ⟨rfl, ?_⟩
    refine x_top (hR.rmo hw) ?_
    refine y_if_ne (pc' := 50) rfl rfl (by first | omega | (split <;> omega)) (fun c47 => ?_) (fun c47 => ?_)
    · have hM : isM T (l.getD n 0) = true := by cases hz : isM T (l.getD n 0) with
        | true => rfl
        | false => rw [hz] at c47; exact absurd rfl c47
      refine x_iinc (pc' := 90) (w := (-1)) (lv' := [_, _, _]) rfl rfl rfl rfl (by decide) (add_m1 _) rfl ?_
      refine x_goto rfl ?_
      first
        | exact ih D (nI n - 1) (by omega) rfl hR hH (fun i hi => by rw [ed, srF_1 hM]; exact hO i hi) k
        | exact ih D1 (nI n - 1) (by omega) rfl (by rw [o1 206 (by decide)]; exact hR) (fun i hi => by rw [o1 212 (by decide)]; exact hH i hi) (fun i hi => by rw [ed, srF_0 hM]; exact u1 i hi) (fun D2 o2 p2 => k D2 (o1.tr o2) p2)
    · have hM : isM T (l.getD n 0) = false := by cases hz : isM T (l.getD n 0) with
        | false => rfl
        | true => rw [hz] at c47; exact absurd c47 (by decide)
      refine x_aload (pc' := 51) rfl rfl rfl ?_
      refine x_aload (pc' := 52) rfl rfl rfl ?_
      refine x_aload (pc' := 53) rfl rfl rfl ?_
      refine x_getR (pc' := 56) rfl rfl rfl (by decide) rfl (by decide) rfl rfl ?_
      refine x_iload (pc' := 57) rfl rfl rfl ?_
      refine x_iald (pc' := 58) rfl rfl (by decide) rfl (by decide) (show _ < 12 by omega) ?_
      refine x_top (hH _ (by omega)) ?_
      refine x_int (pc' := 59) (v := nI 1) rfl rfl rfl ?_
      refine x_callV (pc' := 62) (d1 := 1) (Bs := [_, _]) rfl rfl rfl rfl rfl rfl rfl (Nat.le_of_ble_eq_true rfl) ⟨rfl, rfl⟩ (by decide) rfl (by omega) ?_
      refine w_X10_of (by omega) (by decide) ?_
      refine ⟨rfl, ?_⟩
      refine x_top ((hR.rkd hw).trans (hW.ekd hw)) ?_
      refine x_aload (pc' := 63) rfl rfl rfl ?_
      refine x_aload (pc' := 64) rfl rfl rfl ?_
      refine x_getR (pc' := 67) rfl rfl rfl (by decide) rfl (by decide) rfl rfl ?_
      refine x_iload (pc' := 68) rfl rfl rfl ?_
      refine x_iald (pc' := 69) rfl rfl (by decide) rfl (by decide) (show _ < 12 by omega) ?_
      refine x_top (hH _ (by omega)) ?_
      refine x_int (pc' := 70) (v := nI 2) rfl rfl rfl ?_
      refine x_callV (pc' := 73) (d1 := 1) (Bs := [_, _]) rfl rfl rfl rfl rfl rfl rfl (Nat.le_of_ble_eq_true rfl) ⟨rfl, rfl⟩ (by decide) rfl (by omega) ?_
      refine w_X10_of (by omega) (by decide) ?_
      refine ⟨rfl, ?_⟩
      refine x_aload (pc' := 74) rfl rfl rfl ?_
      refine x_aload (pc' := 75) rfl rfl rfl ?_
      refine x_getR (pc' := 78) rfl rfl rfl (by decide) rfl (by decide) rfl rfl ?_
      refine x_iload (pc' := 79) rfl rfl rfl ?_
      refine x_iald (pc' := 80) rfl rfl (by decide) rfl (by decide) (show _ < 12 by omega) ?_
      refine x_top (hH _ (by omega)) ?_
      refine x_int (pc' := 81) (v := nI 3) rfl rfl rfl ?_
      refine x_callV (pc' := 84) (d1 := 1) (Bs := [_, _]) rfl rfl rfl rfl rfl rfl rfl (Nat.le_of_ble_eq_true rfl) ⟨rfl, rfl⟩ (by decide) rfl (by omega) ?_
      refine w_X10_of (by omega) (by decide) ?_
      refine ⟨rfl, ?_⟩
      refine x_callV (pc' := 87) (d1 := 1) (Bs := [_, _, _]) rfl rfl rfl rfl rfl rfl rfl (Nat.le_of_ble_eq_true rfl) ⟨rfl, rfl⟩ (by decide) rfl (by omega) ?_
      refine w_X10_leads (hW.ehok hw) (fun e => (hR.rfa hw e).trans (hW.efa hw)) (fun e => (hR.rfb hw e).trans (hW.efb hw)) hO hsl (fun D1 o1 u1 => ?_)
      refine ⟨rfl, ?_⟩
      refine x_iinc (pc' := 90) (w := (-1)) (lv' := [_, _, _]) rfl rfl rfl rfl (by decide) (add_m1 _) rfl ?_
      refine x_goto rfl ?_
      first
        | exact ih D (nI n - 1) (by omega) rfl hR hH (fun i hi => by rw [ed, srF_1 hM]; exact hO i hi) k
        | exact ih D1 (nI n - 1) (by omega) rfl (by rw [o1 206 (by decide)]; exact hR) (fun i hi => by rw [o1 212 (by decide)]; exact hH i hi) (fun i hi => by rw [ed, srF_0 hM]; exact u1 i hi) (fun D2 o2 p2 => k D2 (o1.tr o2) p2)
set_option maxRecDepth 20000 in
set_option maxHeartbeats 1000000 in
theorem w_X10_laysSource {D : Nat → Nat → Int32} {L : Nat → Nat → Int64} {Q : bh_Q} {T : TW} (hW : WF T) (hR : Rn T (D 206)) {w : Nat} (hw : w < nw T) (k1 : ∀ D', OffL [212, 218, 219] D D' → (∀ i, i < 16 → D' 218 i = cI (srF T (ch T w) i)) → Q none (hp D' L)) : bh_wc 4 m_X10_laysSource [.ref 205, .int (nI w)] (hp D L) Q := by
  refine x_start (lv0 := [_, _, _]) (Nat.le_of_ble_eq_true rfl) rfl ?_
  have h12 := hW.nwl
  refine x_int (pc' := 1) (v := nI 0) rfl rfl rfl ?_
  refine x_istore (pc' := 2) (lv' := [_, _, _]) rfl rfl (by decide) rfl ?_
  refine l0_X10_laysSource (d := 3) (Nat.zero_le _) (D0 := D) (fun D1 o1 h6 => ?_) 16 0 D rfl OffL.rf (fun j hj => absurd hj (Nat.not_lt_zero j))
  have hR1 : Rn T (D1 206) := by rw [o1 206 (by decide)]; exact hR
  refine x_aload (pc' := 24) rfl rfl rfl ?_
  refine x_iload (pc' := 25) rfl rfl rfl ?_
  refine x_callV (pc' := 28) (d1 := 3) (Bs := [_]) rfl rfl rfl rfl rfl rfl rfl (Nat.le_of_ble_eq_true rfl) ⟨rfl, rfl⟩ (by decide) rfl (by decide) ?_
  refine w_X10_hands (D := D1) hW hR1 hw (fun D2 o2 hH2 => ?_)
  refine ⟨rfl, ?_⟩
  refine x_int (pc' := 29) (v := nI 1) rfl rfl rfl ?_
  refine x_isub (pc' := 30) rfl rfl ?_
  refine x_istore (pc' := 31) (lv' := [_, _, _]) rfl rfl (by decide) rfl ?_
  exact l1_X10_laysSource hW (d := 3) (by decide) (isH_of hW hw).2.1 (ch_mem hW hw) (ch T w).length D2 (nI (ch T w).length - 1) (Nat.le_refl _) rfl (by rw [o2 206 (by decide)]; exact hR1) hH2 (fun i hi => by rw [List.drop_length, o2 218 (by decide)]; exact h6 i hi) (fun D3 o3 p3 => k1 D3 (fun z hz => ((o3 z (fun y => hz (by simp at y ⊢; omega))).trans (o2 z (fun y => hz (by simp at y ⊢; omega)))).trans (o1 z (fun y => hz (by simp at y ⊢; omega)))) p3)
set_option maxRecDepth 20000 in
set_option maxHeartbeats 1000000 in
theorem l0_X10_alike {L : Nat → Nat → Int64} {Q : bh_Q} {d : Nat} (hd : 0 ≤ d) {r1 r2 : Int32} {D0 : Nat → Nat → Int32} (kE : ∀ D, OffL [220] D0 D → (∀ j, j < 16 → D 220 j = D0 218 j) → bw m_X10_alike d Q 49 [.ref 205, .int r1, .int r2, .int (nI 16)] [] D L) : ∀ (f i : Nat) (D : Nat → Nat → Int32), i + f = 16 → (OffL [220] D0 D) → (∀ j, j < i → D 220 j = D0 218 j) → bw m_X10_alike d Q 25 [.ref 205, .int r1, .int r2, .int (nI i)] [] D L := by
  intro f
  induction f with
  | zero =>
    intro i D hf o h6
    refine x_iload (pc' := 26) rfl rfl rfl ?_
    refine x_int (pc' := 28) (v := nI 16) rfl rfl rfl ?_
    refine y_ic_ge (pc' := 31) rfl rfl (by omega) (by omega) (fun c28 => ?_) (fun c28 => ?_)
    · obtain rfl : i = 16 := by omega
      exact kE D o h6
    · exact absurd c28 (by omega)
  | succ f ih =>
    intro i D hf o h6
    refine x_iload (pc' := 26) rfl rfl rfl ?_
    refine x_int (pc' := 28) (v := nI 16) rfl rfl rfl ?_
    refine y_ic_ge (pc' := 31) rfl rfl (by omega) (by omega) (fun c28 => ?_) (fun c28 => ?_)
    · exact absurd c28 (by omega)
    · refine x_aload (pc' := 32) rfl rfl rfl ?_
      refine x_getR (pc' := 35) rfl rfl rfl (by decide) rfl (by decide) rfl rfl ?_
      refine x_iload (pc' := 36) rfl rfl rfl ?_
      refine x_aload (pc' := 37) rfl rfl rfl ?_
      refine x_getR (pc' := 40) rfl rfl rfl (by decide) rfl (by decide) rfl rfl ?_
      refine x_iload (pc' := 41) rfl rfl rfl ?_
      refine x_iald (pc' := 42) rfl rfl (by decide) rfl (by decide) (show _ < 16 by omega) ?_
      refine x_iast (pc' := 43) rfl rfl (by decide) rfl (by decide) (show _ < 16 by omega) ?_
      refine y_inc (pc' := 46) (lv' := [_, _, _, _]) rfl rfl rfl (by decide) rfl ?_
      refine x_goto rfl ?_
      refine ih (i + 1) _ (by omega) (o.tr (OffL.up (by decide))) (fun j hj => ?_)
      rw [up2_at]
      by_cases e : j = i
      · rw [if_pos ⟨rfl, e⟩, e, o 218 (by decide)]
      · rw [if_neg (fun z => e z.2)]; exact h6 j (by omega)
set_option maxRecDepth 20000 in
set_option maxHeartbeats 1000000 in
theorem l1_X10_alike {L : Nat → Nat → Int64} {Q : bh_Q} {d : Nat} (hd : 0 ≤ d) {r1 r2 : Int32} {D0 : Nat → Nat → Int32} {s t : Nat → Nat} (hs : ∀ i, i < 16 → D0 220 i = cI (s i)) (ht : ∀ i, i < 16 → D0 218 i = cI (t i)) (hsl : ∀ i, i < 16 → s i < 34) (htl : ∀ i, i < 16 → t i < 34) (k1 : (∀ i, i < 16 → s i = t i) → Q (some (.int (nI 1))) (hp D0 L)) (k0 : ¬ (∀ i, i < 16 → s i = t i) → Q (some (.int (nI 0))) (hp D0 L)) : ∀ (f i : Nat) (D : Nat → Nat → Int32), i + f = 16 → (∀ j, j < i → s j = t j) → (D0 = D) → bw m_X10_alike d Q 56 [.ref 205, .int r1, .int r2, .int (nI i)] [] D L := by
  intro f
  induction f with
  | zero =>
    intro i D hf h0 hD
    subst hD
    refine x_iload (pc' := 57) rfl rfl rfl ?_
    refine x_int (pc' := 59) (v := nI 16) rfl rfl rfl ?_
    refine y_ic_ge (pc' := 62) rfl rfl (by omega) (by omega) (fun c59 => ?_) (fun c59 => ?_)
    · refine x_int (pc' := 86) (v := nI 1) rfl rfl rfl ?_
      refine x_iret rfl rfl ?_
      obtain rfl : i = 16 := by omega
      exact k1 h0
    · exact absurd c59 (by omega)
  | succ f ih =>
    intro i D hf h0 hD
    subst hD
    refine x_iload (pc' := 57) rfl rfl rfl ?_
    refine x_int (pc' := 59) (v := nI 16) rfl rfl rfl ?_
    refine y_ic_ge (pc' := 62) rfl rfl (by omega) (by omega) (fun c59 => ?_) (fun c59 => ?_)
    · exact absurd c59 (by omega)
    · refine x_aload (pc' := 63) rfl rfl rfl ?_
      refine x_getR (pc' := 66) rfl rfl rfl (by decide) rfl (by decide) rfl rfl ?_
      refine x_iload (pc' := 67) rfl rfl rfl ?_
      refine x_iald (pc' := 68) rfl rfl (by decide) rfl (by decide) (show _ < 16 by omega) ?_
      refine x_aload (pc' := 69) rfl rfl rfl ?_
      refine x_getR (pc' := 72) rfl rfl rfl (by decide) rfl (by decide) rfl rfl ?_
      refine x_iload (pc' := 73) rfl rfl rfl ?_
      refine x_iald (pc' := 74) rfl rfl (by decide) rfl (by decide) (show _ < 16 by omega) ?_
      refine x_ic_eq (pc' := 77) rfl rfl (fun c74 => ?_) (fun c74 => ?_)
      · refine y_inc (pc' := 82) (lv' := [_, _, _, _]) rfl rfl rfl (by decide) rfl ?_
        refine x_goto rfl ?_
        refine ih (i + 1) D0 (by omega) (fun j hj => ?_) rfl
        by_cases e : j = i
        · rw [e]; exact cI_inj (hsl i (by omega)) (htl i (by omega)) (by rw [← hs i (by omega), ← ht i (by omega)]; exact c74)
        · exact h0 j (by omega)
      · refine x_int (pc' := 78) (v := nI 0) rfl rfl rfl ?_
        refine x_iret rfl rfl ?_
        exact k0 (fun h => c74 (by rw [hs i (by omega), ht i (by omega), h i (by omega)]))
set_option maxRecDepth 20000 in
set_option maxHeartbeats 1000000 in
theorem w_X10_alike {D : Nat → Nat → Int32} {L : Nat → Nat → Int64} {Q : bh_Q} {T : TW} (hW : WF T) (hR : Rn T (D 206)) {x y : Int32} (k1 : ∀ D1, OffM D D1 → Q (some (.int (alikeQ T x y))) (hp D1 L)) : bh_wc 5 m_X10_alike [.ref 205, .int x, .int y] (hp D L) Q := by
  refine x_start (lv0 := [_, _, _, _]) (Nat.le_of_ble_eq_true rfl) rfl ?_
  have h12 := hW.nwl
  refine x_aload (pc' := 1) rfl rfl rfl ?_
  refine x_iload (pc' := 2) rfl rfl rfl ?_
  refine x_callV (pc' := 5) (d1 := 2) (Bs := [_]) rfl rfl rfl rfl rfl rfl rfl (Nat.le_of_ble_eq_true rfl) ⟨rfl, rfl⟩ (by decide) rfl (by decide) ?_
  refine w_X10_isWriter hW hR (fun h2w h2l e => ?_) (fun h2 => ?_)
  · subst e
    refine ⟨rfl, ?_⟩
    refine x_if_eq (pc' := 8) rfl rfl (fun c5 => absurd c5 (by decide)) (fun _ => ?_)
    refine x_aload (pc' := 9) rfl rfl rfl ?_
    refine x_iload (pc' := 10) rfl rfl rfl ?_
    refine x_callV (pc' := 13) (d1 := 2) (Bs := [_]) rfl rfl rfl rfl rfl rfl rfl (Nat.le_of_ble_eq_true rfl) ⟨rfl, rfl⟩ (by decide) rfl (by decide) ?_
    refine w_X10_isWriter hW hR (fun h10w h10l e => ?_) (fun h10 => ?_)
    · subst e
      refine ⟨rfl, ?_⟩
      refine x_if_ne (pc' := 16) rfl rfl (fun _ => ?_) (fun c13 => absurd c13 (by decide))
      refine x_aload (pc' := 19) rfl rfl rfl ?_
      refine x_iload (pc' := 20) rfl rfl rfl ?_
      refine x_callV (pc' := 23) (d1 := 4) (Bs := [_]) rfl rfl rfl rfl rfl rfl rfl (Nat.le_of_ble_eq_true rfl) ⟨rfl, rfl⟩ (by decide) rfl (by decide) ?_
      refine w_X10_laysSource (D := D) hW hR h2l (fun D1 o1 u1 => ?_)
      refine ⟨rfl, ?_⟩
      refine x_int (pc' := 24) (v := nI 0) rfl rfl rfl ?_
      refine x_istore (pc' := 25) (lv' := [_, _, _, _]) rfl rfl (by decide) rfl ?_
      have hR1 : Rn T (D1 206) := by rw [o1 206 (by decide)]; exact hR
      refine l0_X10_alike (d := 4) (Nat.zero_le _) (D0 := D1) (fun D2 o2 h6 => ?_) 16 0 D1 rfl OffL.rf (fun j hj => absurd hj (Nat.not_lt_zero j))
      have hR2 : Rn T (D2 206) := by rw [o2 206 (by decide)]; exact hR1
      refine x_aload (pc' := 50) rfl rfl rfl ?_
      refine x_iload (pc' := 51) rfl rfl rfl ?_
      refine x_callV (pc' := 54) (d1 := 4) (Bs := [_]) rfl rfl rfl rfl rfl rfl rfl (Nat.le_of_ble_eq_true rfl) ⟨rfl, rfl⟩ (by decide) rfl (by decide) ?_
      refine w_X10_laysSource (D := D2) hW hR2 h10l (fun D3 o3 u3 => ?_)
      refine ⟨rfl, ?_⟩
      refine x_int (pc' := 55) (v := nI 0) rfl rfl rfl ?_
      refine x_istore (pc' := 56) (lv' := [_, _, _, _]) rfl rfl (by decide) rfl ?_
      simp (disch := first | assumption | omega) only [alikeQ, onN_1, onN_0, onP_1, onP_0, ↓reduceIte] at k1
      have oo := ((OffL.m o1 (by decide)).tr (OffL.m o2 (by decide))).tr (OffL.m o3 (by decide))
      refine l1_X10_alike (d := 4) (Nat.zero_le _) (D0 := D3) (s := srF T (ch T h2w)) (t := srF T (ch T h10w)) (fun i hi => by rw [o3 220 (by decide), h6 i hi]; exact u1 i hi) u3 (srF_lt hW (ch_mem hW h2l)) (srF_lt hW (ch_mem hW h10l)) (fun hh => ?_) (fun hh => ?_) 16 0 D3 rfl (fun j hj => absurd hj (Nat.not_lt_zero j)) rfl
      · rw [if_pos (sameS_iff.mpr hh)] at k1; exact k1 D3 oo
      · rw [if_neg (fun z => hh (sameS_iff.mp z))] at k1; exact k1 D3 oo
    · refine ⟨rfl, ?_⟩
      refine x_if_ne (pc' := 16) rfl rfl (fun c13 => absurd (by decide) c13) (fun _ => ?_)
      refine x_int (pc' := 17) (v := (-1)) rfl rfl rfl ?_
      refine x_iret rfl rfl ?_
      simp (disch := first | assumption | omega) only [alikeQ, onN_1, onN_0, onP_1, onP_0, ↓reduceIte] at k1
      exact k1 D OffM.rf
  · refine ⟨rfl, ?_⟩
    refine x_if_eq (pc' := 8) rfl rfl (fun _ => ?_) (fun c5 => absurd (by decide) c5)
    refine x_int (pc' := 17) (v := (-1)) rfl rfl rfl ?_
    refine x_iret rfl rfl ?_
    simp (disch := first | assumption | omega) only [alikeQ, onN_1, onN_0, onP_1, onP_0, ↓reduceIte] at k1
    exact k1 D OffM.rf
