/-! ===== slips: what must come from a hand ===== -/
def mvD (T : TW) (l : List Nat) (k : Nat) : Nat := up T l (1 <<< k) ^^^ up T l 0
def gpD (T : TW) (l : List Nat) (line : Nat) : Nat := line ^^^ up T l 0
def rcD (T : TW) (l : List Nat) : Nat → Nat
  | 0 => 0
  | k + 1 => rcD T l k ||| mvD T l k
def ndB (T : TW) (l : List Nat) (k : Nat) : Bool := !decide (mvD T l k = 0)
def waB (T : TW) (l : List Nat) (line k : Nat) : Bool := !decide (mvD T l k = 0) && decide (gpD T l line &&& mvD T l k = mvD T l k)
def gdP (T : TW) (l : List Nat) (line k : Nat) : Prop := waB T l line k = true ∨ gpD T l line &&& mvD T l k = 0
theorem mv_lt {T : TW} (hW : WF T) {l : List Nat} (hl : ∀ w ∈ l, w < nw T) {k : Nat} (hk : k < 16) : mvD T l k < 65536 := xor16 (up_lt hW hl (sh16 hk)) (up_lt hW hl (by decide))
theorem gp_lt {T : TW} (hW : WF T) {l : List Nat} (hl : ∀ w ∈ l, w < nw T) {line : Nat} (h : line < 65536) : gpD T l line < 65536 := xor16 h (up_lt hW hl (by decide))
theorem rc_lt {T : TW} (hW : WF T) {l : List Nat} (hl : ∀ w ∈ l, w < nw T) : ∀ k, k ≤ 16 → rcD T l k < 65536 := by
  intro k
  induction k with
  | zero => intro _; show 0 < _; decide
  | succ k ih => intro hk; exact Nat.or_lt_two_pow (n := 16) (ih (by omega)) (mv_lt hW hl (by omega))
theorem mv_tb {T : TW} (hW : WF T) {l : List Nat} (hl : ∀ w ∈ l, w < nw T) {k i : Nat} (hk : k < 16) (hi : i < 16) : (mvD T l k).testBit i = decide (srF T l i < 32 ∧ srF T l i / 2 = k) := by
  unfold mvD
  rw [Nat.testBit_xor, up_ev hW (sh16 hk) hl i hi, up_ev hW (by decide) hl i hi, ev_1, ev_0]
  cases decide (srF T l i < 32 ∧ srF T l i / 2 = k) <;> cases decide (srF T l i % 2 = 1) <;> rfl
theorem rc_tb {T : TW} (hW : WF T) {l : List Nat} (hl : ∀ w ∈ l, w < nw T) {i : Nat} (hi : i < 16) : ∀ n, n ≤ 16 → (rcD T l n).testBit i = decide (srF T l i < 32 ∧ srF T l i / 2 < n) := by
  intro n
  induction n with
  | zero => intro _; show (0 : Nat).testBit i = _; rw [Nat.zero_testBit]; simp
  | succ n ih =>
    intro hn
    show (rcD T l n ||| mvD T l n).testBit i = _
    rw [Nat.testBit_or, ih (by omega), mv_tb hW hl (by omega) hi, ← Bool.decide_or]
    refine decide_eq_decide.mpr ⟨fun h => ?_, fun h => ?_⟩
    · rcases h with h | h <;> exact ⟨h.1, by omega⟩
    · rcases Nat.lt_or_ge (srF T l i / 2) n with h2 | h2
      · exact Or.inl ⟨h.1, h2⟩
      · exact Or.inr ⟨h.1, by omega⟩
/-- a row that comes up as the line, sign by sign -/
theorem up_line {T : TW} (hW : WF T) {l : List Nat} (hl : ∀ w ∈ l, w < nw T) {line y : Nat} (hline : line < 65536) (hy : y < 65536) : up T l y = line ↔ ∀ i, i < 16 → ((srF T l i < 32 → y.testBit (srF T l i / 2) = (gpD T l line).testBit i) ∧ (¬ srF T l i < 32 → (gpD T l line).testBit i = false)) := by
  have hg : ∀ i, i < 16 → (gpD T l line).testBit i = (line.testBit i != decide (srF T l i % 2 = 1)) := by
    intro i hi
    unfold gpD
    rw [Nat.testBit_xor, up_ev hW (by decide) hl i hi, ev_0]
  constructor
  · intro h i hi
    have hb : evS (srF T l i) y = line.testBit i := by rw [← up_ev hW hy hl i hi, h]
    rw [hg i hi, ← hb]
    unfold evS
    refine ⟨fun hs => ?_, fun hs => ?_⟩
    · rw [if_pos hs]; cases y.testBit (srF T l i / 2) <;> cases decide (srF T l i % 2 = 1) <;> rfl
    · rw [if_neg hs]; cases decide (srF T l i % 2 = 1) <;> rfl
  · intro h
    refine eq16 (up_lt hW hl hy) hline (fun i hi => ?_)
    rw [up_ev hW hy hl i hi]
    have h1 := h i hi
    rw [hg i hi] at h1
    unfold evS
    by_cases hs : srF T l i < 32
    · rw [if_pos hs, h1.1 hs]; cases line.testBit i <;> cases decide (srF T l i % 2 = 1) <;> rfl
    · rw [if_neg hs]
      have := h1.2 hs
      cases ha : line.testBit i <;> cases hb : decide (srF T l i % 2 = 1) <;> rw [ha, hb] at this <;> first | rfl | exact absurd this (by decide)
theorem and_z {g m i : Nat} (h : g &&& m = 0) (hm : m.testBit i = true) : g.testBit i = false := by
  have := congrArg (fun z => Nat.testBit z i) h
  simp only [Nat.testBit_and, Nat.zero_testBit, hm, Bool.and_true] at this
  exact this
theorem and_s {g m i : Nat} (h : g &&& m = m) (hm : m.testBit i = true) : g.testBit i = true := by
  have := congrArg (fun z => Nat.testBit z i) h
  simp only [Nat.testBit_and, hm, Bool.and_true] at this
  exact this
theorem nz_tb {m : Nat} (hm : m < 65536) (h : ¬ m = 0) : ∃ i, i < 16 ∧ m.testBit i = true := by
  apply Classical.byContradiction
  intro hc
  apply h
  refine eq16 hm (by decide) (fun i hi => ?_)
  rw [Nat.zero_testBit]
  cases hz : m.testBit i
  · rfl
  · exact absurd ⟨i, hi, hz⟩ hc
theorem dem_ok {T : TW} (hW : WF T) {l : List Nat} (hl : ∀ w ∈ l, w < nw T) {line : Nat} (hline : line < 65536) (hg : ∀ k, k < 16 → gdP T l line k) (hr : gpD T l line &&& (rcD T l 16 ^^^ 4294967295) = 0) {y : Nat} (hy : y < 65536) : y &&& setF (ndB T l) 16 = setF (waB T l line) 16 ↔ up T l y = line := by
  have hsub := (wi_iff (gp_lt hW hl hline)).mp hr
  rw [up_line hW hl hline hy]
  have hN : ∀ k, k < 16 → (setF (ndB T l) 16).testBit k = ndB T l k := fun k hk => by rw [setF_bit]; simp [hk]
  have hV : ∀ k, k < 16 → (setF (waB T l line) 16).testBit k = waB T l line k := fun k hk => by rw [setF_bit]; simp [hk]
  constructor
  · intro h i hi
    refine ⟨fun hs => ?_, fun hs => ?_⟩
    · have hk : srF T l i / 2 < 16 := by omega
      have hm : (mvD T l (srF T l i / 2)).testBit i = true := by rw [mv_tb hW hl hk hi]; exact decide_eq_true ⟨hs, rfl⟩
      have hnz : ¬ mvD T l (srF T l i / 2) = 0 := fun z => by rw [z, Nat.zero_testBit] at hm; cases hm
      have hb := congrArg (fun z => Nat.testBit z (srF T l i / 2)) h
      simp only [Nat.testBit_and] at hb
      rw [hN _ hk, hV _ hk, show ndB T l (srF T l i / 2) = true from by unfold ndB; simp [hnz], Bool.and_true] at hb
      rw [hb]
      rcases hg _ hk with h1 | h1
      · rw [h1]
        unfold waB at h1
        rw [Bool.and_eq_true] at h1
        exact (and_s (of_decide_eq_true h1.2) hm).symm
      · have h0 : waB T l line (srF T l i / 2) = false := by
          unfold waB
          rw [h1]
          simp [Ne.symm hnz]
        rw [h0, and_z h1 hm]
    · have h1 := sbN_iff.mp hsub i
      cases hz : (gpD T l line).testBit i
      · rfl
      · have := h1 hz
        rw [rc_tb hW hl hi 16 (Nat.le_refl _)] at this
        exact absurd (of_decide_eq_true this).1 hs
  · intro h
    refine eq16 (Nat.lt_of_le_of_lt Nat.and_le_left hy) (setF_lt 16) (fun k hk => ?_)
    rw [Nat.testBit_and, hN k hk, hV k hk]
    by_cases hnz : mvD T l k = 0
    · rw [show ndB T l k = false from by unfold ndB; simp [hnz], show waB T l line k = false from by unfold waB; simp [hnz]]; simp
    · rw [show ndB T l k = true from by unfold ndB; simp [hnz], Bool.and_true]
      obtain ⟨i, hi, hm⟩ := nz_tb (mv_lt hW hl hk) hnz
      have hs := of_decide_eq_true ((mv_tb hW hl hk hi).symm.trans hm)
      have h1 := (h i hi).1 hs.1
      rw [hs.2] at h1
      rw [h1]
      rcases hg k hk with h2 | h2
      · rw [h2]
        unfold waB at h2
        rw [Bool.and_eq_true] at h2
        exact and_s (of_decide_eq_true h2.2) hm
      · rw [and_z h2 hm]
        symm
        unfold waB
        rw [h2]
        simp [Ne.symm hnz]
theorem dem_n1 {T : TW} (hW : WF T) {l : List Nat} (hl : ∀ w ∈ l, w < nw T) {line : Nat} (hline : line < 65536) {k : Nat} (hk : k < 16) (hg : ¬ gdP T l line k) {y : Nat} (hy : y < 65536) : ¬ up T l y = line := by
  rw [up_line hW hl hline hy]
  intro h
  apply hg
  by_cases hz : gpD T l line &&& mvD T l k = 0
  · exact Or.inr hz
  · obtain ⟨i, hi, hm⟩ := nz_tb (Nat.lt_of_le_of_lt Nat.and_le_left (gp_lt hW hl hline)) hz
    rw [Nat.testBit_and, Bool.and_eq_true] at hm
    have hs := of_decide_eq_true ((mv_tb hW hl hk hi).symm.trans hm.2)
    have h1 := (h i hi).1 hs.1
    rw [hs.2, hm.1] at h1
    refine Or.inl ?_
    unfold waB
    rw [Bool.and_eq_true]
    refine ⟨by simp; intro e; rw [e, Nat.zero_testBit] at hm; exact absurd hm.2 (by decide), decide_eq_true ?_⟩
    refine eq16 (Nat.lt_of_le_of_lt Nat.and_le_left (gp_lt hW hl hline)) (mv_lt hW hl hk) (fun j hj => ?_)
    rw [Nat.testBit_and]
    cases hmj : (mvD T l k).testBit j
    · simp
    · have hsj := of_decide_eq_true ((mv_tb hW hl hk hj).symm.trans hmj)
      have h2 := (h j hj).1 hsj.1
      rw [hsj.2, h1] at h2
      rw [← h2]; rfl
theorem dem_n2 {T : TW} (hW : WF T) {l : List Nat} (hl : ∀ w ∈ l, w < nw T) {line : Nat} (hline : line < 65536) (hr : ¬ gpD T l line &&& (rcD T l 16 ^^^ 4294967295) = 0) {y : Nat} (hy : y < 65536) : ¬ up T l y = line := by
  rw [up_line hW hl hline hy]
  intro h
  apply hr
  rw [wi_iff (gp_lt hW hl hline), sbN_iff]
  intro i hg
  by_cases hi : i < 16
  · rw [rc_tb hW hl hi 16 (Nat.le_refl _)]
    by_cases hs : srF T l i < 32
    · exact decide_eq_true ⟨hs, by omega⟩
    · rw [(h i hi).2 hs] at hg; cases hg
  · rw [bit16 (gp_lt hW hl hline) (by omega)] at hg; cases hg
/-! ===== the slips, one after another ===== -/
abbrev Sl : Type := Nat × Nat × Nat × Nat × Nat
def slS (c : Bool) (w k a b : Nat) (z : Sl) : Sl := if c = true then (if z.1 = 0 then (1, w, k, a, b) else (z.1 + 1, z.2)) else z
def mA (k : Nat) : Nat := if k = 0 then 1 else 16
def mB (k : Nat) : Nat := if 5 ≤ k then 16 else 1
def fB (c : Nat → Nat → Nat → Bool) (w k a : Nat) : Nat → Sl → Sl
  | 0, z => z
  | b + 1, z => slS (c k a b) w k a b (fB c w k a b z)
def fA (c : Nat → Nat → Nat → Bool) (w k : Nat) : Nat → Sl → Sl
  | 0, z => z
  | a + 1, z => fB c w k a (mB k) (fA c w k a z)
def fK (c : Nat → Nat → Nat → Bool) (w : Nat) : Nat → Sl → Sl
  | 0, z => z
  | k + 1, z => fA c w k (mA k) (fK c w k z)
def hokB (k a b : Nat) : Bool := decide (k < 7 ∧ a < 16 ∧ b < 16) && (!decide (k = 0) || decide (a = 0)) && (!decide (k < 5) || decide (b = 0)) && (!decide (k = 4) || !decide (a = 0)) && (!decide (5 ≤ k) || !decide (a = b))
theorem hokB_iff {k a b : Nat} : hokB k a b = true ↔ hok k a b := by
  unfold hokB hok
  simp only [Bool.and_eq_true, Bool.or_eq_true, Bool.not_eq_true', decide_eq_true_eq, decide_eq_false_iff_not]
  omega
def slB (T : TW) (l : List Nat) (p page line w k a b : Nat) : Bool := hokB k a b && !decide (kd T w = k ∧ fa T w = a ∧ fb T w = b) && decide (up T (l.take p) (hab k a b (up T (l.drop (p + 1)) page)) = line)
def fP (T : TW) (l : List Nat) (page line w : Nat) : Nat → Sl → Sl
  | 0, z => z
  | p + 1, z => if l.getD p 0 = w ∧ isM T w = false then fK (slB T l p page line w) w 7 (fP T l page line w p z) else fP T l page line w p z
def fW (T : TW) (l : List Nat) (page line : Nat) : Nat → Sl → Sl
  | 0, z => z
  | w + 1, z => fP T l page line w l.length (fW T l page line w z)
def slipV (z : Sl) (m : Nat) : Int32 := if m = 0 then nI z.1 else if z.1 = 0 then -2 else if m = 1 then nI z.2.1 else if m = 2 then nI z.2.2.1 else if m = 3 then (if 0 < sg z.2.2.1 then nI z.2.2.2.1 else -1) else (if 1 < sg z.2.2.1 then nI z.2.2.2.2 else -1)
def slipsQ (T : TW) (x y z s v : Int32) : Int32 := onN (nw T) x (-3) fun w => onP T y z (-3) fun b q => onN 65536 s (-3) fun line => onN 5 v (-3) fun m => if anyD T (ch T w) = true then -2 else slipV (fW T (ch T w) (pg T b q) line (nw T) (0, 0, 0, 0, 0)) m
theorem slS_le (c : Bool) (w k a b : Nat) (z : Sl) : (slS c w k a b z).1 ≤ z.1 + 1 := by
  unfold slS
  split
  · split
    · show 1 ≤ z.1 + 1; omega
    · exact Nat.le_refl _
  · omega
theorem fB_le {c : Nat → Nat → Nat → Bool} {w k a : Nat} : ∀ (n : Nat) (z : Sl), (fB c w k a n z).1 ≤ z.1 + n := by
  intro n
  induction n with
  | zero => intro z; exact Nat.le_refl _
  | succ n ih => intro z; have := slS_le (c k a n) w k a n (fB c w k a n z); have := ih z; show (slS _ _ _ _ _ _).1 ≤ _; omega
theorem mB_le (k : Nat) : mB k ≤ 16 := by unfold mB; split <;> omega
theorem mA_le (k : Nat) : mA k ≤ 16 := by unfold mA; split <;> omega
theorem fA_le {c : Nat → Nat → Nat → Bool} {w k : Nat} : ∀ (n : Nat) (z : Sl), (fA c w k n z).1 ≤ z.1 + 16 * n := by
  intro n
  induction n with
  | zero => intro z; exact Nat.le_refl _
  | succ n ih => intro z; have := fB_le (c := c) (w := w) (k := k) (a := n) (mB k) (fA c w k n z); have := ih z; have := mB_le k; show (fB _ _ _ _ _ _).1 ≤ _; omega
theorem fK_le {c : Nat → Nat → Nat → Bool} {w : Nat} : ∀ (n : Nat) (z : Sl), (fK c w n z).1 ≤ z.1 + 256 * n := by
  intro n
  induction n with
  | zero => intro z; exact Nat.le_refl _
  | succ n ih => intro z; have := fA_le (c := c) (w := w) (k := n) (mA n) (fK c w n z); have := ih z; have := mA_le n; show (fA _ _ _ _ _).1 ≤ _; omega
set_option maxRecDepth 20000 in
theorem fP_le {T : TW} {l : List Nat} {page line w : Nat} : ∀ (n : Nat) (z : Sl), (fP T l page line w n z).1 ≤ z.1 + 1792 * n := by
  intro n
  induction n with
  | zero => intro z; exact Nat.le_refl _
  | succ n ih =>
    intro z
    have h1 := ih z
    have h2 := fK_le (c := slB T l n page line w) (w := w) 7 (fP T l page line w n z)
    show (if l.getD n 0 = w ∧ isM T w = false then fK (slB T l n page line w) w 7 (fP T l page line w n z) else fP T l page line w n z).1 ≤ _
    generalize fK (slB T l n page line w) w 7 (fP T l page line w n z) = z2 at h2 ⊢
    by_cases hc : l.getD n 0 = w ∧ isM T w = false
    · rw [if_pos hc]; omega
    · rw [if_neg hc]; omega
theorem fW_le {T : TW} {l : List Nat} (hl : l.length ≤ 12) {page line : Nat} : ∀ (n : Nat) (z : Sl), (fW T l page line n z).1 ≤ z.1 + 21504 * n := by
  intro n
  induction n with
  | zero => intro z; exact Nat.le_refl _
  | succ n ih => intro z; have := fP_le (T := T) (l := l) (page := page) (line := line) (w := n) l.length (fW T l page line n z); have := ih z; show (fP _ _ _ _ _ _ _).1 ≤ _; omega
theorem fB_0 {c : Nat → Nat → Nat → Bool} {w k a : Nat} (h : ∀ b, c k a b = false) : ∀ (n : Nat) (z : Sl), fB c w k a n z = z := by
  intro n
  induction n with
  | zero => intro z; rfl
  | succ n ih => intro z; show slS (c k a n) _ _ _ _ _ = z; rw [h n, ih z]; rfl
theorem fA_0 {c : Nat → Nat → Nat → Bool} {w k : Nat} (h : ∀ a b, c k a b = false) : ∀ (n : Nat) (z : Sl), fA c w k n z = z := by
  intro n
  induction n with
  | zero => intro z; rfl
  | succ n ih => intro z; show fB _ _ _ _ _ _ = z; rw [fB_0 (h n), ih z]
theorem fK_0 {c : Nat → Nat → Nat → Bool} {w : Nat} (h : ∀ k a b, c k a b = false) : ∀ (n : Nat) (z : Sl), fK c w n z = z := by
  intro n
  induction n with
  | zero => intro z; rfl
  | succ n ih => intro z; show fA _ _ _ _ _ = z; rw [fA_0 (h n), ih z]
theorem slB_no {T : TW} (hW : WF T) {l : List Nat} (hl : ∀ w ∈ l, w < nw T) {p page line w : Nat} (hp : page < 65536) (h : ∀ y, y < 65536 → ¬ up T (l.take p) y = line) : ∀ k a b, slB T l p page line w k a b = false := by
  intro k a b
  unfold slB
  by_cases hk : hok k a b
  · have : ¬ up T (l.take p) (hab k a b (up T (l.drop (p + 1)) page)) = line := h _ (hab_lt hk (up_lt hW (fun w hw => hl w (List.mem_of_mem_drop hw)) hp))
    simp [this]
  · rw [show hokB k a b = false from Bool.eq_false_iff.mpr (fun z => hk (hokB_iff.mp z))]; rfl
/-- what the heap of the class, and of the reference, says of them -/
def SlC (a : Nat → Int32) (z : Sl) : Prop := a 0 = nI z.1 ∧ (¬ z.1 = 0 → a 1 = nI z.2.1 ∧ a 2 = nI z.2.2.1 ∧ a 3 = nI z.2.2.2.1 ∧ a 4 = nI z.2.2.2.2 ∧ z.2.2.1 < 7)
def SlM (a : Nat → Int32) (z : Sl) : Prop := a 25 = nI z.1 ∧ (¬ z.1 = 0 → a 26 = nI z.2.1 ∧ a 27 = nI z.2.2.1 ∧ a 28 = (if 0 < sg z.2.2.1 then nI z.2.2.2.1 else -1) ∧ a 29 = (if 1 < sg z.2.2.1 then nI z.2.2.2.2 else -1))

theorem hok_dH {k a b : Nat} (h : hok k a b) : dH (nI k) (nI a) (nI b) ≠ none := by
  obtain ⟨hk, ha, hb, h0, h5, h4, hab⟩ := h
  by_cases e0 : k = 0
  · subst e0; rw [dH_0]; exact fun z => by cases z
  · by_cases e5 : k < 5
    · rw [dH_1 (by omega) e5 ha (fun z => h4 z.1 z.2)]; exact fun z => by cases z
    · rw [dH_2 (by omega) hk ha hb (hab (by omega))]; exact fun z => by cases z
theorem rng_a {k a : Nat} (h : a < mA k) : a < 16 ∧ (k = 0 → a = 0) := by unfold mA at h; split at h; exact ⟨by omega, fun _ => by omega⟩; exact ⟨h, fun e => by omega⟩
theorem rng_b {k b : Nat} (h : b < mB k) : b < 16 ∧ (k < 5 → b = 0) := by unfold mB at h; split at h; exact ⟨h, fun e => by omega⟩; exact ⟨by omega, fun _ => by omega⟩
theorem v_X1_stands {D : Nat → Nat → Int32} {L : Nat → Nat → Int64} {Q : bh_Q} {k a b : Nat} (hk : k < 7) (ha : a < mA k) (hb : b < mB k) (k1 : hok k a b → Q (some (.int 1)) (hp D L)) (k0 : ¬ hok k a b → Q (some (.int 0)) (hp D L)) : bh_wc 2 m_X1_stands [.int (nI k), .int (nI a), .int (nI b)] (hp D L) Q := by
  have h1 := rng_a ha
  have h2 := rng_b hb
  refine w_X1_stands (fun e => ?_) (fun k' a' g1 g5 ga g4 e1 e2 => ?_) (fun k' a' b' g5 g7 ga gb gab e1 e2 e3 => ?_) (fun hd => k0 (fun h => hok_dH h hd))
  · have := nI_inj (by omega) (by decide) e; exact k1 ⟨hk, h1.1, h2.1, h1.2, h2.2, by omega, by omega⟩
  · have e1 := nI_inj (by omega) (by omega) e1; have e2 := nI_inj (by omega) (by omega) e2; exact k1 ⟨hk, h1.1, h2.1, h1.2, h2.2, fun z z2 => g4 ⟨by omega, by omega⟩, by omega⟩
  · have e1 := nI_inj (by omega) (by omega) e1; have e2 := nI_inj (by omega) (by omega) e2; have e3 := nI_inj (by omega) (by omega) e3; exact k1 ⟨hk, h1.1, h2.1, h1.2, h2.2, by omega, fun _ z => gab (by omega)⟩
theorem v_X10_isHabit {D : Nat → Nat → Int32} {L : Nat → Nat → Int64} {Q : bh_Q} {k a b : Nat} (hk : k < 7) (ha : a < mA k) (hb : b < mB k) (k1 : hok k a b → Q (some (.int 1)) (hp D L)) (k0 : ¬ hok k a b → Q (some (.int 0)) (hp D L)) : bh_wc 2 m_X10_isHabit [.int (nI k), .int (nI a), .int (nI b)] (hp D L) Q := by
  have h1 := rng_a ha
  have h2 := rng_b hb
  refine w_X10_isHabit (fun e => ?_) (fun k' a' g1 g5 ga g4 e1 e2 => ?_) (fun k' a' b' g5 g7 ga gb gab e1 e2 e3 => ?_) (fun hd => k0 (fun h => hok_dH h hd))
  · have := nI_inj (by omega) (by decide) e; exact k1 ⟨hk, h1.1, h2.1, h1.2, h2.2, by omega, by omega⟩
  · have e1 := nI_inj (by omega) (by omega) e1; have e2 := nI_inj (by omega) (by omega) e2; exact k1 ⟨hk, h1.1, h2.1, h1.2, h2.2, fun z z2 => g4 ⟨by omega, by omega⟩, by omega⟩
  · have e1 := nI_inj (by omega) (by omega) e1; have e2 := nI_inj (by omega) (by omega) e2; have e3 := nI_inj (by omega) (by omega) e3; exact k1 ⟨hk, h1.1, h2.1, h1.2, h2.2, by omega, fun _ z => gab (by omega)⟩
theorem v_X10_hasHabit {D : Nat → Nat → Int32} {L : Nat → Nat → Int64} {Q : bh_Q} {T : TW} (hW : WF T) (hR : Rn T (D 206)) {w : Nat} (hw : w < nw T) {k a b : Nat} (h : hok k a b) (k1 : (kd T w = k ∧ fa T w = a ∧ fb T w = b) → Q (some (.int 1)) (hp D L)) (k0 : ¬ (kd T w = k ∧ fa T w = a ∧ fb T w = b) → Q (some (.int 0)) (hp D L)) : bh_wc 2 m_X10_hasHabit [.ref 205, .int (nI w), .int (nI k), .int (nI a), .int (nI b)] (hp D L) Q := by
  obtain ⟨hk, ha, hb, h0, h5, h4, hab⟩ := h
  by_cases e0 : k = 0
  · subst e0
    have e1 := h0 rfl
    have e2 := h5 (by decide)
    subst e1; subst e2
    exact w_X10_hasHabit0 hW hR hw (fun a b c => k1 ⟨a, b, c⟩) k0
  · by_cases e5 : k < 5
    · have e2 := h5 e5
      subst e2
      exact w_X10_hasHabit1 hW hR hw (by omega) e5 ha (fun a b c => k1 ⟨a, b, c⟩) k0
    · exact w_X10_hasHabit2 hW hR hw (by omega) hk ha hb (fun a b c => k1 ⟨a, b, c⟩) k0
def OffS (D D' : Nat → Nat → Int32) : Prop := ∀ k, k ≠ 37 → D' k = D k
theorem OffS.rf {D : Nat → Nat → Int32} : OffS D D := fun _ _ => rfl
theorem OffS.tr {D D1 D2 : Nat → Nat → Int32} (h1 : OffS D D1) (h2 : OffS D1 D2) : OffS D D2 := fun k a => (h2 k a).trans (h1 k a)
theorem OffS.c {D D' : Nat → Nat → Int32} (h : OffS D D') : OffC D D' := fun k a => h k (by omega)
theorem OffS.up {D : Nat → Nat → Int32} {j : Nat} {x : Int32} : OffS D (bh_up2 D 37 j x) := fun k h => bh_up2_ne _ _ _ h
theorem OffS.hd {D D' : Nat → Nat → Int32} {l : List Nat} (h : OffS D D') (hH : HdL D l) : HdL D' l := by unfold HdL; rw [h 31 (by decide), h 32 (by decide)]; exact hH
theorem up2_o {D : Nat → Nat → Int32} {k j i : Nat} {x : Int32} (h : i ≠ j) : bh_up2 D k j x k i = D k i := by rw [up2_at, if_neg (fun z => h z.2)]
theorem pu0 {T : TW} {l : List Nat} {n x : Nat} (h : n ≤ l.length) : upN T l 0 (n - 0) x = up T (l.take n) x := by rw [Nat.sub_zero, upN_eq (by omega), List.drop_zero]
theorem pu1 {T : TW} {l : List Nat} {n x : Nat} (h : n ≤ l.length) : upN T l n (l.length - n) x = up T (l.drop n) x := by rw [upN_eq (by omega), List.take_of_length_le (by rw [List.length_drop]; omega)]
set_option maxRecDepth 20000 in
set_option maxHeartbeats 1000000 in
theorem l_X4_findDemand {L : Nat → Nat → Int64} {Q : bh_Q} {d : Nat} (hd : 2 ≤ d) {T : TW} (hW : WF T) {l : List Nat} (hm : ∀ w ∈ l, w < nw T) (hlen : l.length ≤ 12) {n line : Nat} (hn : n ≤ l.length) (hline : line < 65536) {D0 : Nat → Nat → Int32} (hT0 : tv D0 = T) (hH0 : HdL D0 l) (k1 : ∀ D N V, OffS D0 D → (∀ j, j < 5 → D 37 j = D0 37 j) → D 37 5 = nI N → D 37 6 = nI V → N < 65536 → V < 65536 → (∀ y, y < 65536 → (y &&& N = V ↔ up T (l.take n) y = line)) → Q (some (.int 1)) (hp D L)) (k0 : ∀ D, OffS D0 D → (∀ j, j < 5 → D 37 j = D0 37 j) → (∀ y, y < 65536 → ¬ up T (l.take n) y = line) → Q (some (.int 0)) (hp D L)) : ∀ (f i : Nat) (D : Nat → Nat → Int32) (a9 : Value), i + f = 16 → (OffS D0 D) → (∀ j, j < 5 → D 37 j = D0 37 j) → (D 37 5 = nI (setF (ndB T (l.take n)) i)) → (D 37 6 = nI (setF (waB T (l.take n) line) i)) → (∀ k, k < i → gdP T (l.take n) line k) → bw m_X4_findDemand d Q 33 [.ref 37, .ref 1, .ref 31, .int (nI n), .int (nI line), .int (nI (up T (l.take n) 0)), .int (nI (gpD T (l.take n) line)), .int (nI (rcD T (l.take n) i)), .int (nI i), a9] [] D L := by
  intro f
  induction f with
  | zero =>
    intro i D a9 hf o h5 hN hV hg
    have hT : tv D = T := o.c.tv.trans hT0
    have hH := o.hd hH0
    have hmt : ∀ w ∈ l.take n, w < nw T := fun w hw => hm w (List.mem_of_mem_take hw)
    have hgl := gp_lt hW hmt hline
    have hand := fun m : Nat => Nat.and_le_left (n := gpD T (l.take n) line) (m := m)
    have ha1 := hand (rcD T (l.take n) i ^^^ 4294967295)
    have hul := up_lt hW hmt (x := 0) (by decide)
    refine x_iload (pc' := 35) rfl rfl rfl ?_
    refine x_int (pc' := 37) (v := nI 16) rfl rfl rfl ?_
    refine y_ic_ge (pc' := 40) rfl rfl (by first | omega | (rw [← hmv]; omega)) (by first | omega | (rw [← hmv]; omega)) (fun c37 => ?_) (fun c37 => ?_)
    · refine x_iload (pc' := 130) rfl rfl rfl ?_
      refine x_iload (pc' := 132) rfl rfl rfl ?_
      refine x_int (pc' := 133) (v := nI 4294967295) rfl rfl rfl ?_
      refine y_ixor (pc' := 134) rfl rfl ?_
      refine y_iand (pc' := 135) rfl rfl ?_
      refine y_if_ne (pc' := 138) rfl rfl (by first | omega | (rw [← hmv]; omega)) (fun c135 => ?_) (fun c135 => ?_)
      · refine x_int (pc' := 143) (v := nI 0) rfl rfl rfl ?_
        refine x_zret rfl rfl (by decide) ?_
        obtain rfl : i = 16 := by omega
        first
          | (exact k1 D _ _ o h5 hN hV (setF_lt 16) (setF_lt 16) (fun y hy => dem_ok hW hmt hline hg c135 hy))
          | (exact k0 D o h5 (fun y hy => dem_n2 hW hmt hline c135 hy))
      · refine x_int (pc' := 139) (v := nI 1) rfl rfl rfl ?_
        refine x_goto rfl ?_
        refine x_zret rfl rfl (by decide) ?_
        obtain rfl : i = 16 := by omega
        first
          | (exact k1 D _ _ o h5 hN hV (setF_lt 16) (setF_lt 16) (fun y hy => dem_ok hW hmt hline hg c135 hy))
          | (exact k0 D o h5 (fun y hy => dem_n2 hW hmt hline c135 hy))
    · exact absurd c37 (by omega)
  | succ f ih =>
    intro i D a9 hf o h5 hN hV hg
    have hT : tv D = T := o.c.tv.trans hT0
    have hH := o.hd hH0
    have hmt : ∀ w ∈ l.take n, w < nw T := fun w hw => hm w (List.mem_of_mem_take hw)
    have hgl := gp_lt hW hmt hline
    have hand := fun m : Nat => Nat.and_le_left (n := gpD T (l.take n) line) (m := m)
    have ha1 := hand (rcD T (l.take n) i ^^^ 4294967295)
    have hul := up_lt hW hmt (x := 0) (by decide)
    have hml := mv_lt hW hmt (k := i) (by omega)
    have ha2 := hand (mvD T (l.take n) i)
    have hmv : mvD T (l.take n) i = up T (l.take n) (1 <<< i) ^^^ up T (l.take n) 0 := rfl
    refine x_iload (pc' := 35) rfl rfl rfl ?_
    refine x_int (pc' := 37) (v := nI 16) rfl rfl rfl ?_
    refine y_ic_ge (pc' := 40) rfl rfl (by first | omega | (rw [← hmv]; omega)) (by first | omega | (rw [← hmv]; omega)) (fun c37 => ?_) (fun c37 => ?_)
    · exact absurd c37 (by omega)
    · refine x_aload (pc' := 41) rfl rfl rfl ?_
      refine x_aload (pc' := 42) rfl rfl rfl ?_
      refine x_int (pc' := 43) (v := nI 0) rfl rfl rfl ?_
      refine x_iload (pc' := 44) rfl rfl rfl ?_
      refine x_int (pc' := 45) (v := nI 1) rfl rfl rfl ?_
      refine x_iload (pc' := 47) rfl rfl rfl ?_
      refine y_ishl (pc' := 48) rfl rfl (by first | omega | (rw [← hmv]; omega)) ?_
      refine x_callV (pc' := 51) (d1 := 2) (Bs := [_, _, _, _]) rfl rfl rfl rfl rfl rfl rfl (Nat.le_of_ble_eq_true rfl) ⟨rfl, rfl⟩ (by decide) rfl (by omega) ?_
      refine w_X2_passUp (D := D) (by rw [hT]; exact hW) hH (by rw [hT]; exact hm) hlen (Nat.zero_le _) hn (sh16 (k := i) (by omega)) ?_
      refine ⟨rfl, ?_⟩
      rw [hT, pu0 hn]
      refine x_iload (pc' := 53) rfl rfl rfl ?_
      refine y_ixor (pc' := 54) rfl rfl ?_
      refine x_istore (pc' := 56) (lv' := [_, _, _, _, _, _, _, _, _, _]) rfl rfl (by decide) rfl ?_
      refine x_iload (pc' := 58) rfl rfl rfl ?_
      refine x_iload (pc' := 60) rfl rfl rfl ?_
      refine y_ior (pc' := 61) rfl rfl ?_
      refine x_istore (pc' := 63) (lv' := [_, _, _, _, _, _, _, _, _, _]) rfl rfl (by decide) rfl ?_
      refine x_iload (pc' := 65) rfl rfl rfl ?_
      refine y_if_eq (pc' := 68) rfl rfl (by first | omega | (rw [← hmv]; omega)) (fun c65 => ?_) (fun c65 => ?_)
      · refine x_iload (pc' := 83) rfl rfl rfl ?_
        refine y_if_eq (pc' := 86) rfl rfl (by first | omega | (rw [← hmv]; omega)) (fun c83 => ?_) (fun c83 => ?_)
        · refine x_iload (pc' := 114) rfl rfl rfl ?_
          refine x_iload (pc' := 116) rfl rfl rfl ?_
          refine y_iand (pc' := 117) rfl rfl ?_
          refine y_if_eq (pc' := 120) rfl rfl (by first | omega | (rw [← hmv]; omega)) (fun c117 => ?_) (fun c117 => ?_)
          · refine y_inc (pc' := 125) (lv' := [_, _, _, _, _, _, _, _, _, _]) rfl rfl rfl (by decide) rfl ?_
            refine x_goto rfl ?_
            first
              | exact absurd c65 c83
              | exact absurd c83 c65
              | (have e1 : setF (ndB T (l.take n)) (i + 1) = setF (ndB T (l.take n)) i := setF_0 (by unfold ndB; simp [show mvD T (l.take n) i = 0 from c65])
                 have e2 : setF (waB T (l.take n) line) (i + 1) = setF (waB T (l.take n) line) i := setF_0 (by unfold waB; simp [show mvD T (l.take n) i = 0 from c65])
                 refine ih (i + 1) D _ (by omega) o h5 (by rw [e1]; exact hN) (by rw [e2]; exact hV) (fun k hk => ?_)
                 by_cases e : k = i
                 · rw [e]; exact Or.inr c117
                 · exact hg k (by omega))
              | (have e1 : setF (ndB T (l.take n)) (i + 1) = _ := setF_1 (by unfold ndB; simp [show ¬ mvD T (l.take n) i = 0 from c65])
                 have ew : waB T (l.take n) line i = true := by unfold waB; simp [show ¬ mvD T (l.take n) i = 0 from c65, show gpD T (l.take n) line &&& mvD T (l.take n) i = mvD T (l.take n) i from c93]
                 have e2 := setF_1 ew
                 refine ih (i + 1) _ _ (by omega) ((o.tr OffS.up).tr OffS.up) (fun j hj => by rw [up2_o (by omega), up2_o (by omega)]; exact h5 j hj) (by rw [up2_o (by decide), bh_up2_self, e1]) (by rw [bh_up2_self, e2]) (fun k hk => ?_)
                 by_cases e : k = i
                 · rw [e]; exact Or.inl ew
                 · exact hg k (by omega))
              | (have e1 : setF (ndB T (l.take n)) (i + 1) = _ := setF_1 (by unfold ndB; simp [show ¬ mvD T (l.take n) i = 0 from c65])
                 have e2 : setF (waB T (l.take n) line) (i + 1) = setF (waB T (l.take n) line) i := setF_0 (by unfold waB; simp [show ¬ gpD T (l.take n) line &&& mvD T (l.take n) i = mvD T (l.take n) i from c93])
                 refine ih (i + 1) _ _ (by omega) (o.tr OffS.up) (fun j hj => by rw [up2_o (by omega)]; exact h5 j hj) (by rw [bh_up2_self, e1]) (by rw [up2_o (by decide), e2]; exact hV) (fun k hk => ?_)
                 by_cases e : k = i
                 · rw [e]; exact Or.inr c117
                 · exact hg k (by omega))
          · refine x_int (pc' := 121) (v := nI 0) rfl rfl rfl ?_
            refine x_zret rfl rfl (by decide) ?_
            refine k0 _ ?_ ?_ (fun y hy => dem_n1 hW hmt hline (k := i) (by omega) (fun z => z.elim (fun q => ?_) c117) hy)
            · first | exact o | exact o.tr OffS.up
            · first | exact h5 | exact fun j hj => by rw [up2_o (by omega)]; exact h5 j hj
            · unfold waB at q; rw [Bool.and_eq_true] at q
              first | exact c93 (of_decide_eq_true q.2) | (rw [show mvD T (l.take n) i = 0 from c65] at q; exact absurd q.1 (by decide))
        · exact absurd c65 c83
      · refine x_aload (pc' := 69) rfl rfl rfl ?_
        refine x_dup (pc' := 70) rfl rfl rfl ?_
        refine x_getI (j := 5) (pc' := 73) rfl rfl rfl (by decide) rfl (by decide) rfl rfl ?_
        refine x_top (hN) ?_
        refine x_int (pc' := 74) (v := nI 1) rfl rfl rfl ?_
        refine x_iload (pc' := 76) rfl rfl rfl ?_
        refine y_ishl (pc' := 77) rfl rfl (by first | omega | (rw [← hmv]; omega)) ?_
        refine y_ior (pc' := 78) rfl rfl ?_
        refine x_putI (j := 5) (pc' := 81) rfl rfl rfl (by decide) rfl (by decide) rfl rfl ?_
        refine x_iload (pc' := 83) rfl rfl rfl ?_
        refine y_if_eq (pc' := 86) rfl rfl (by first | omega | (rw [← hmv]; omega)) (fun c83 => ?_) (fun c83 => ?_)
        · exact absurd c83 c65
        · refine x_iload (pc' := 88) rfl rfl rfl ?_
          refine x_iload (pc' := 90) rfl rfl rfl ?_
          refine y_iand (pc' := 91) rfl rfl ?_
          refine x_iload (pc' := 93) rfl rfl rfl ?_
          refine y_ic_ne (pc' := 96) rfl rfl (by first | omega | (rw [← hmv]; omega)) (by first | omega | (rw [← hmv]; omega)) (fun c93 => ?_) (fun c93 => ?_)
          · refine x_iload (pc' := 114) rfl rfl rfl ?_
            refine x_iload (pc' := 116) rfl rfl rfl ?_
            refine y_iand (pc' := 117) rfl rfl ?_
            refine y_if_eq (pc' := 120) rfl rfl (by first | omega | (rw [← hmv]; omega)) (fun c117 => ?_) (fun c117 => ?_)
            · refine y_inc (pc' := 125) (lv' := [_, _, _, _, _, _, _, _, _, _]) rfl rfl rfl (by decide) rfl ?_
              refine x_goto rfl ?_
              first
                | exact absurd c65 c83
                | exact absurd c83 c65
                | (have e1 : setF (ndB T (l.take n)) (i + 1) = setF (ndB T (l.take n)) i := setF_0 (by unfold ndB; simp [show mvD T (l.take n) i = 0 from c65])
                   have e2 : setF (waB T (l.take n) line) (i + 1) = setF (waB T (l.take n) line) i := setF_0 (by unfold waB; simp [show mvD T (l.take n) i = 0 from c65])
                   refine ih (i + 1) D _ (by omega) o h5 (by rw [e1]; exact hN) (by rw [e2]; exact hV) (fun k hk => ?_)
                   by_cases e : k = i
                   · rw [e]; exact Or.inr c117
                   · exact hg k (by omega))
                | (have e1 : setF (ndB T (l.take n)) (i + 1) = _ := setF_1 (by unfold ndB; simp [show ¬ mvD T (l.take n) i = 0 from c65])
                   have ew : waB T (l.take n) line i = true := by unfold waB; simp [show ¬ mvD T (l.take n) i = 0 from c65, show gpD T (l.take n) line &&& mvD T (l.take n) i = mvD T (l.take n) i from c93]
                   have e2 := setF_1 ew
                   refine ih (i + 1) _ _ (by omega) ((o.tr OffS.up).tr OffS.up) (fun j hj => by rw [up2_o (by omega), up2_o (by omega)]; exact h5 j hj) (by rw [up2_o (by decide), bh_up2_self, e1]) (by rw [bh_up2_self, e2]) (fun k hk => ?_)
                   by_cases e : k = i
                   · rw [e]; exact Or.inl ew
                   · exact hg k (by omega))
                | (have e1 : setF (ndB T (l.take n)) (i + 1) = _ := setF_1 (by unfold ndB; simp [show ¬ mvD T (l.take n) i = 0 from c65])
                   have e2 : setF (waB T (l.take n) line) (i + 1) = setF (waB T (l.take n) line) i := setF_0 (by unfold waB; simp [show ¬ gpD T (l.take n) line &&& mvD T (l.take n) i = mvD T (l.take n) i from c93])
                   refine ih (i + 1) _ _ (by omega) (o.tr OffS.up) (fun j hj => by rw [up2_o (by omega)]; exact h5 j hj) (by rw [bh_up2_self, e1]) (by rw [up2_o (by decide), e2]; exact hV) (fun k hk => ?_)
                   by_cases e : k = i
                   · rw [e]; exact Or.inr c117
                   · exact hg k (by omega))
            · refine x_int (pc' := 121) (v := nI 0) rfl rfl rfl ?_
              refine x_zret rfl rfl (by decide) ?_
              refine k0 _ ?_ ?_ (fun y hy => dem_n1 hW hmt hline (k := i) (by omega) (fun z => z.elim (fun q => ?_) c117) hy)
              · first | exact o | exact o.tr OffS.up
              · first | exact h5 | exact fun j hj => by rw [up2_o (by omega)]; exact h5 j hj
              · unfold waB at q; rw [Bool.and_eq_true] at q
                first | exact c93 (of_decide_eq_true q.2) | (rw [show mvD T (l.take n) i = 0 from c65] at q; exact absurd q.1 (by decide))
          · refine x_aload (pc' := 97) rfl rfl rfl ?_
            refine x_dup (pc' := 98) rfl rfl rfl ?_
            refine x_getI (j := 6) (pc' := 101) rfl rfl rfl (by decide) rfl (by decide) rfl rfl ?_
            refine x_top ((up2_o (by decide)).trans hV) ?_
            refine x_int (pc' := 102) (v := nI 1) rfl rfl rfl ?_
            refine x_iload (pc' := 104) rfl rfl rfl ?_
            refine y_ishl (pc' := 105) rfl rfl (by first | omega | (rw [← hmv]; omega)) ?_
            refine y_ior (pc' := 106) rfl rfl ?_
            refine x_putI (j := 6) (pc' := 109) rfl rfl rfl (by decide) rfl (by decide) rfl rfl ?_
            refine x_goto rfl ?_
            refine y_inc (pc' := 125) (lv' := [_, _, _, _, _, _, _, _, _, _]) rfl rfl rfl (by decide) rfl ?_
            refine x_goto rfl ?_
            first
              | exact absurd c65 c83
              | exact absurd c83 c65
              | (have e1 : setF (ndB T (l.take n)) (i + 1) = setF (ndB T (l.take n)) i := setF_0 (by unfold ndB; simp [show mvD T (l.take n) i = 0 from c65])
                 have e2 : setF (waB T (l.take n) line) (i + 1) = setF (waB T (l.take n) line) i := setF_0 (by unfold waB; simp [show mvD T (l.take n) i = 0 from c65])
                 refine ih (i + 1) D _ (by omega) o h5 (by rw [e1]; exact hN) (by rw [e2]; exact hV) (fun k hk => ?_)
                 by_cases e : k = i
                 · rw [e]; exact Or.inr c117
                 · exact hg k (by omega))
              | (have e1 : setF (ndB T (l.take n)) (i + 1) = _ := setF_1 (by unfold ndB; simp [show ¬ mvD T (l.take n) i = 0 from c65])
                 have ew : waB T (l.take n) line i = true := by unfold waB; simp [show ¬ mvD T (l.take n) i = 0 from c65, show gpD T (l.take n) line &&& mvD T (l.take n) i = mvD T (l.take n) i from c93]
                 have e2 := setF_1 ew
                 refine ih (i + 1) _ _ (by omega) ((o.tr OffS.up).tr OffS.up) (fun j hj => by rw [up2_o (by omega), up2_o (by omega)]; exact h5 j hj) (by rw [up2_o (by decide), bh_up2_self, e1]) (by rw [bh_up2_self, e2]) (fun k hk => ?_)
                 by_cases e : k = i
                 · rw [e]; exact Or.inl ew
                 · exact hg k (by omega))
              | (have e1 : setF (ndB T (l.take n)) (i + 1) = _ := setF_1 (by unfold ndB; simp [show ¬ mvD T (l.take n) i = 0 from c65])
                 have e2 : setF (waB T (l.take n) line) (i + 1) = setF (waB T (l.take n) line) i := setF_0 (by unfold waB; simp [show ¬ gpD T (l.take n) line &&& mvD T (l.take n) i = mvD T (l.take n) i from c93])
                 refine ih (i + 1) _ _ (by omega) (o.tr OffS.up) (fun j hj => by rw [up2_o (by omega)]; exact h5 j hj) (by rw [bh_up2_self, e1]) (by rw [up2_o (by decide), e2]; exact hV) (fun k hk => ?_)
                 by_cases e : k = i
                 · rw [e]; exact Or.inr c117
                 · exact hg k (by omega))
set_option maxRecDepth 20000 in
set_option maxHeartbeats 1000000 in
theorem w_X4_findDemand {D : Nat → Nat → Int32} {L : Nat → Nat → Int64} {Q : bh_Q} {T : TW} (hW : WF T) {l : List Nat} (hm : ∀ w ∈ l, w < nw T) (hlen : l.length ≤ 12) {n line : Nat} (hn : n ≤ l.length) (hline : line < 65536) (hT : tv D = T) (hH : HdL D l) (k1 : ∀ D1 N V, OffS D D1 → (∀ j, j < 5 → D1 37 j = D 37 j) → D1 37 5 = nI N → D1 37 6 = nI V → N < 65536 → V < 65536 → (∀ y, y < 65536 → (y &&& N = V ↔ up T (l.take n) y = line)) → Q (some (.int 1)) (hp D1 L)) (k0 : ∀ D1, OffS D D1 → (∀ j, j < 5 → D1 37 j = D 37 j) → (∀ y, y < 65536 → ¬ up T (l.take n) y = line) → Q (some (.int 0)) (hp D1 L)) : bh_wc 3 m_X4_findDemand [.ref 37, .ref 1, .ref 31, .int (nI n), .int (nI line)] (hp D L) Q := by
  refine x_start (lv0 := [_, _, _, _, _, _, _, _, _, _]) (Nat.le_of_ble_eq_true rfl) rfl ?_
  refine x_aload (pc' := 1) rfl rfl rfl ?_
  refine x_aload (pc' := 2) rfl rfl rfl ?_
  refine x_int (pc' := 3) (v := nI 0) rfl rfl rfl ?_
  refine x_iload (pc' := 4) rfl rfl rfl ?_
  refine x_int (pc' := 5) (v := nI 0) rfl rfl rfl ?_
  refine x_callV (pc' := 8) (d1 := 2) (Bs := [_, _, _, _]) rfl rfl rfl rfl rfl rfl rfl (Nat.le_of_ble_eq_true rfl) ⟨rfl, rfl⟩ (by decide) rfl (by decide) ?_
  refine w_X2_passUp (D := D) (by rw [hT]; exact hW) hH (by rw [hT]; exact hm) hlen (Nat.zero_le _) hn (by decide) ?_
  refine ⟨rfl, ?_⟩
  rw [hT, pu0 hn]
  refine x_istore (pc' := 10) (lv' := [_, _, _, _, _, _, _, _, _, _]) rfl rfl (by decide) rfl ?_
  refine x_iload (pc' := 12) rfl rfl rfl ?_
  refine x_iload (pc' := 14) rfl rfl rfl ?_
  refine y_ixor (pc' := 15) rfl rfl ?_
  refine x_istore (pc' := 17) (lv' := [_, _, _, _, _, _, _, _, _, _]) rfl rfl (by decide) rfl ?_
  refine x_int (pc' := 18) (v := nI 0) rfl rfl rfl ?_
  refine x_istore (pc' := 20) (lv' := [_, _, _, _, _, _, _, _, _, _]) rfl rfl (by decide) rfl ?_
  refine x_aload (pc' := 21) rfl rfl rfl ?_
  refine x_int (pc' := 22) (v := nI 0) rfl rfl rfl ?_
  refine x_putI (j := 5) (pc' := 25) rfl rfl rfl (by decide) rfl (by decide) rfl rfl ?_
  refine x_aload (pc' := 26) rfl rfl rfl ?_
  refine x_int (pc' := 27) (v := nI 0) rfl rfl rfl ?_
  refine x_putI (j := 6) (pc' := 30) rfl rfl rfl (by decide) rfl (by decide) rfl rfl ?_
  refine x_int (pc' := 31) (v := nI 0) rfl rfl rfl ?_
  refine x_istore (pc' := 33) (lv' := [_, _, _, _, _, _, _, _, _, _]) rfl rfl (by decide) rfl ?_
  exact l_X4_findDemand (d := 2) (Nat.le_refl _) hW hm hlen hn hline (D0 := D) hT hH k1 k0 16 0 _ .null rfl (OffS.up.tr OffS.up) (fun j hj => by rw [up2_o (by omega), up2_o (by omega)]) ((up2_o (by decide)).trans (bh_up2_self _ _ _ _)) (bh_up2_self _ _ _ _) (fun k hk => absurd hk (Nat.not_lt_zero k))
