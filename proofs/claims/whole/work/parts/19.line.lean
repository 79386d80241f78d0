/-! ===== hands end; a line ===== -/
/-- how many are poorer -/
def rk (T : TW) (w : Nat) : Nat := (List.range (nw T)).countP (fun v => decide (pu T v < pu T w))
theorem rk_lt {T : TW} {w : Nat} (hw : w < nw T) : rk T w < nw T := by
  have h1 : (List.range (nw T)).countP (fun v => decide (pu T v < pu T w)) ≠ (List.range (nw T)).length := by
    intro e
    have := List.countP_eq_length.mp e w (List.mem_range.mpr hw)
    simp at this
  have h2 := List.countP_le_length (p := fun v => decide (pu T v < pu T w)) (l := List.range (nw T))
  rw [List.length_range] at h1 h2
  unfold rk
  omega
theorem countP_lt {p q : Nat → Bool} {x : Nat} : ∀ l : List Nat, (∀ a ∈ l, p a = true → q a = true) → x ∈ l → p x = false → q x = true → l.countP p < l.countP q := by
  intro l
  induction l with
  | nil => intro _ h; cases h
  | cons a l ih =>
    intro h hx h1 h2
    have hm : l.countP p ≤ l.countP q := List.countP_mono_left (fun b hb => h b (List.mem_cons_of_mem _ hb))
    rw [List.countP_cons, List.countP_cons]
    rcases List.mem_cons.mp hx with rfl | hx
    · rw [h1, h2]; simp; omega
    · have := ih (fun b hb => h b (List.mem_cons_of_mem _ hb)) hx h1 h2
      by_cases hp : p a = true
      · rw [hp, h a List.mem_cons_self hp]; omega
      · rw [Bool.not_eq_true] at hp
        rw [hp]; simp; omega
theorem rk_un {T : TW} {u w : Nat} (hu : u < nw T) (h : pu T u < pu T w) : rk T u < rk T w := by
  unfold rk
  refine countP_lt (x := u) _ (fun a _ ha => ?_) (List.mem_range.mpr hu) (by simp) (by simpa using h)
  simp only [decide_eq_true_eq] at ha ⊢
  omega
theorem chF_ok {T : TW} (hW : WF T) : ∀ f w, w < nw T → rk T w < f → isC T (chF T f w) ∧ (chF T f w).length ≤ rk T w + 1 ∧ hdI (chF T f w) = nI w := by
  intro f
  induction f with
  | zero => intro w _ h; omega
  | succ f ih =>
    intro w hw h
    show isC T (w :: _) ∧ (w :: _).length ≤ _ ∧ hdI (w :: _) = _
    rcases hW.eun hw with e | ⟨e1, e2, e3⟩
    · rw [if_pos e]
      exact ⟨⟨hw, e, trivial⟩, by simp, rfl⟩
    · have hne : ¬ T 5 w = -1 := by rw [e1]; exact nI_m1 (by have := hW.nwl; omega)
      rw [if_neg hne]
      have hr := rk_un e2 e3
      obtain ⟨h1, h2, h3⟩ := ih (un T w) e2 (by omega)
      exact ⟨⟨hw, by rw [h3]; exact e1, h1⟩, by rw [List.length_cons]; omega, rfl⟩
theorem isH_of {T : TW} (hW : WF T) {w : Nat} (hw : w < nw T) : isH T w := by
  have h1 := rk_lt hw
  have h2 := hW.nwl
  obtain ⟨a, b, c⟩ := chF_ok hW 12 w hw (by omega)
  exact ⟨a, by unfold ch; omega, c.symm⟩
theorem isC_mem {T : TW} : ∀ {l : List Nat}, isC T l → ∀ x ∈ l, x < nw T := by
  intro l
  induction l with
  | nil => intro _ x h; cases h
  | cons a l ih =>
    intro h x hx
    rcases List.mem_cons.mp hx with rfl | hx
    · exact h.1
    · exact ih h.2.2 x hx
theorem ch_mem {T : TW} (hW : WF T) {w : Nat} (hw : w < nw T) : ∀ x ∈ ch T w, x < nw T := isC_mem (isH_of hW hw).1
/-- what one hand makes of a row; what hands make -/
def stU (T : TW) (w x : Nat) : Nat := if isM T w then x else hab (kd T w) (fa T w) (fb T w) x
def up (T : TW) : List Nat → Nat → Nat
  | [], x => x
  | w :: r, x => stU T w (up T r x)
/-- the hands from place f on, n of them, the last first -/
def upN (T : TW) (l : List Nat) (f : Nat) : Nat → Nat → Nat
  | 0, x => x
  | n + 1, x => upN T l f n (stU T (l.getD (f + n) 0) x)
theorem stU_lt {T : TW} (hW : WF T) {w x : Nat} (hw : w < nw T) (hx : x < 65536) : stU T w x < 65536 := by
  unfold stU
  split
  · exact hx
  · exact hab_lt (hW.ehok hw) hx
theorem up_lt {T : TW} (hW : WF T) : ∀ {l : List Nat} {x : Nat}, (∀ w ∈ l, w < nw T) → x < 65536 → up T l x < 65536 := by
  intro l
  induction l with
  | nil => intro x _ h; exact h
  | cons a l ih => intro x h hx; exact stU_lt hW (h a List.mem_cons_self) (ih (fun w hw => h w (List.mem_cons_of_mem _ hw)) hx)
theorem up_app {T : TW} : ∀ (l m : List Nat) (x : Nat), up T (l ++ m) x = up T l (up T m x) := by
  intro l
  induction l with
  | nil => intro m x; rfl
  | cons a l ih => intro m x; show stU T a (up T (l ++ m) x) = _; rw [ih]; rfl
theorem take_succD {l : List Nat} {n : Nat} (h : n < l.length) : l.take (n + 1) = l.take n ++ [l.getD n 0] := by
  rw [List.take_succ, List.getD_eq_getElem?_getD, List.getElem?_eq_getElem h]
  rfl
theorem upN_eq {T : TW} {l : List Nat} {f : Nat} : ∀ {n x : Nat}, f + n ≤ l.length → upN T l f n x = up T ((l.drop f).take n) x := by
  intro n
  induction n with
  | zero => intro x _; simp [upN, up]
  | succ n ih =>
    intro x h
    show upN T l f n _ = _
    have e : (l.drop f).getD n 0 = l.getD (f + n) 0 := by rw [List.getD_eq_getElem?_getD, List.getElem?_drop, ← List.getD_eq_getElem?_getD]
    rw [ih (by omega), take_succD (by rw [List.length_drop]; omega), up_app, e]
    rfl
theorem upN_all {T : TW} {l : List Nat} {x : Nat} : upN T l 0 l.length x = up T l x := by
  rw [upN_eq (by omega)]
  simp
theorem lnC_eq {T : TW} {b q : Nat} : ∀ c : List Nat, lnC T b q c = match c.dropWhile (fun y => !(de T).testBit y) with
    | [] => some (up T (c.takeWhile (fun y => !(de T).testBit y)) (pg T b q))
    | x :: _ => if (sk T x).testBit b then some (up T (c.takeWhile (fun y => !(de T).testBit y)) (stk T x b q)) else none := by
  intro c
  induction c with
  | nil => rfl
  | cons a c ih =>
    unfold lnC isD
    by_cases h : (de T).testBit a = true
    · simp [List.dropWhile, List.takeWhile, h, up]
    · rw [Bool.not_eq_true] at h
      have e1 : (a :: c).dropWhile (fun y => !(de T).testBit y) = c.dropWhile (fun y => !(de T).testBit y) := by simp [List.dropWhile, h]
      have e2 : (a :: c).takeWhile (fun y => !(de T).testBit y) = a :: c.takeWhile (fun y => !(de T).testBit y) := by simp [List.takeWhile, h]
      rw [e1, e2, h, ih, if_neg (by decide)]
      cases c.dropWhile (fun y => !(de T).testBit y) with
      | nil => rfl
      | cons x r =>
        by_cases hs : (sk T x).testBit b = true
        · dsimp only; rw [if_pos hs, if_pos hs]; rfl
        · dsimp only; rw [if_neg hs, if_neg hs]; rfl
theorem dropWhile_hd {p : Nat → Bool} : ∀ {l : List Nat} {x : Nat} {r : List Nat}, l.dropWhile p = x :: r → x ∈ l ∧ p x = false := by
  intro l
  induction l with
  | nil => intro x r h; cases h
  | cons a l ih =>
    intro x r h
    unfold List.dropWhile at h
    split at h
    next e => obtain ⟨h1, h2⟩ := ih h; exact ⟨List.mem_cons_of_mem _ h1, h2⟩
    next e => cases h; exact ⟨List.mem_cons_self, e⟩
theorem takeWhile_len {p : Nat → Bool} : ∀ l : List Nat, (l.takeWhile p).length ≤ l.length := by
  intro l
  induction l with
  | nil => simp
  | cons a l ih => unfold List.takeWhile; split <;> simp; exact ih
theorem takeWhile_mem {p : Nat → Bool} : ∀ {l : List Nat} {x : Nat}, x ∈ l.takeWhile p → x ∈ l := by
  intro l
  induction l with
  | nil => intro x h; cases h
  | cons a l ih =>
    intro x h
    unfold List.takeWhile at h
    split at h
    · rcases List.mem_cons.mp h with rfl | h
      · exact List.mem_cons_self
      · exact List.mem_cons_of_mem _ (ih h)
    · cases h
theorem sub1_lt {f : Nat} (h : f < 2 ^ 31) : nI f - 1 < nI f := by
  rw [Int32.lt_iff_toInt_lt, nI_toInt h]
  cases f with
  | zero => decide
  | succ f => rw [nI_pred, nI_toInt (by omega)]; omega
theorem add_m1 (x : Int32) : x + (-1) = x - 1 := (Int32.sub_eq_add_neg x 1).symm
theorem getD_mem {l : List Nat} {i : Nat} (h : i < l.length) : l.getD i 0 ∈ l := by
  rw [List.getD_eq_getElem?_getD, List.getElem?_eq_getElem h]
  exact List.getElem_mem h
set_option maxRecDepth 20000 in
theorem l_X2_passUp {D : Nat → Nat → Int32} {L : Nat → Nat → Int64} {Q : bh_Q} {tv0 rv0 : Int32} (hW : WF (tv D)) {l : List Nat} (hH : HdL D l) (hm : ∀ w ∈ l, w < nw (tv D)) (hlen : l.length ≤ 12) (f : Nat) : ∀ (n x : Nat) (v : Int32) (wv0 : Value), f + n ≤ l.length → v = nI (f + n) - 1 → x < 65536 → Q (some (.int (nI (upN (tv D) l f n x)))) (hp D L) → bw m_X2_passUp 1 Q 9 [.ref 31, .ref 1, .int (nI f), .int tv0, .int rv0, .int (nI x), .int v, wv0] [] D L := by
  intro n
  have h12 := hW.nwl
  induction n with
  | zero =>
    intro x v wv0 hn hv hx k1
    refine x_iload (pc' := 11) rfl rfl rfl ?_
    refine x_iload (pc' := 12) rfl rfl rfl ?_
    refine x_ic_lt (pc' := 15) rfl rfl (fun c12 => ?_) (fun c12 => ?_)
    · refine x_iload (pc' := 69) rfl rfl rfl ?_
      refine x_iret rfl rfl ?_
      exact k1
    · exact absurd (by rw [hv]; exact sub1_lt (by omega)) c12
  | succ n ih =>
    intro x v wv0 hn hv hx k1
    have hv : v = nI (f + n) := by rw [hv]; exact nI_pred _
    subst hv
    have hw : l.getD (f + n) 0 < nw (tv D) := hm _ (getD_mem (by omega))
    refine x_iload (pc' := 11) rfl rfl rfl ?_
    refine x_iload (pc' := 12) rfl rfl rfl ?_
    refine y_ic_lt (pc' := 15) rfl rfl (by omega) (by omega) (fun c12 => ?_) (fun c12 => ?_)
    · exact absurd c12 (by omega)
    · refine x_aload (pc' := 16) rfl rfl rfl ?_
      refine x_getR (pc' := 19) rfl rfl rfl (by decide) rfl (by decide) rfl rfl ?_
      refine x_iload (pc' := 21) rfl rfl rfl ?_
      refine x_iald (pc' := 22) rfl rfl (by decide) rfl (by decide) (show _ < 12 by omega) ?_
      refine x_top (hH.2 _ (by omega)) ?_
      refine x_istore (pc' := 24) (lv' := [_, _, _, _, _, _, _, _]) rfl rfl (by decide) rfl ?_
      refine x_aload (pc' := 25) rfl rfl rfl ?_
      refine x_iload (pc' := 27) rfl rfl rfl ?_
      refine x_callV (pc' := 30) (d1 := 1) (Bs := [_]) rfl rfl rfl rfl rfl rfl rfl (Nat.le_of_ble_eq_true rfl) ⟨rfl, rfl⟩ (by decide) rfl (by decide) ?_
      refine w_X7_inMood hW hw (fun h27 => ?_) (fun h27 => ?_)
      · refine ⟨rfl, ?_⟩
        refine x_if_ne (pc' := 33) rfl rfl (fun _ => ?_) (fun c30 => absurd c30 (by decide))
        refine x_iinc (pc' := 64) (w := (-1)) (lv' := [_, _, _, _, _, _, _, _]) rfl rfl rfl rfl (by decide) (add_m1 _) rfl ?_
        refine x_goto rfl ?_
        first
          | (have e : stU (tv D) (l.getD (f + n) 0) x = x := by unfold stU; rw [if_pos h27]
             rw [← e]
             exact ih _ _ _ (by omega) rfl (by rw [e]; exact hx) k1)
          | (have e : stU (tv D) (l.getD (f + n) 0) x = hab (kd (tv D) (l.getD (f + n) 0)) (fa (tv D) (l.getD (f + n) 0)) (fb (tv D) (l.getD (f + n) 0)) x := by unfold stU; rw [if_neg (by rw [h27]; decide)]
             rw [← e]
             exact ih _ _ _ (by omega) rfl (stU_lt hW hw hx) k1)
      · refine ⟨rfl, ?_⟩
        refine x_if_ne (pc' := 33) rfl rfl (fun c30 => absurd (by decide) c30) (fun _ => ?_)
        refine x_aload (pc' := 34) rfl rfl rfl ?_
        refine x_getR (pc' := 37) rfl rfl rfl (by decide) rfl (by decide) rfl rfl ?_
        refine x_iload (pc' := 39) rfl rfl rfl ?_
        refine x_iald (pc' := 40) rfl rfl (by decide) rfl (by decide) (show _ < 12 by omega) ?_
        refine x_top (hW.ekd hw) ?_
        refine x_aload (pc' := 41) rfl rfl rfl ?_
        refine x_getR (pc' := 44) rfl rfl rfl (by decide) rfl (by decide) rfl rfl ?_
        refine x_iload (pc' := 46) rfl rfl rfl ?_
        refine x_iald (pc' := 47) rfl rfl (by decide) rfl (by decide) (show _ < 12 by omega) ?_
        refine x_top (hW.efa hw) ?_
        refine x_aload (pc' := 48) rfl rfl rfl ?_
        refine x_getR (pc' := 51) rfl rfl rfl (by decide) rfl (by decide) rfl rfl ?_
        refine x_iload (pc' := 53) rfl rfl rfl ?_
        refine x_iald (pc' := 54) rfl rfl (by decide) rfl (by decide) (show _ < 12 by omega) ?_
        refine x_top (hW.efb hw) ?_
        refine x_iload (pc' := 56) rfl rfl rfl ?_
        refine x_callS (pc' := 59) (d1 := 1) (As := [_, _, _, _]) rfl rfl rfl rfl (by decide) rfl rfl (Nat.le_of_ble_eq_true rfl) ⟨rfl, rfl⟩ (by decide) ?_
        refine w_X1_changeRow (hW.ehok hw) hx ?_
        refine ⟨rfl, ?_⟩
        refine x_istore (pc' := 61) (lv' := [_, _, _, _, _, _, _, _]) rfl rfl (by decide) rfl ?_
        refine x_iinc (pc' := 64) (w := (-1)) (lv' := [_, _, _, _, _, _, _, _]) rfl rfl rfl rfl (by decide) (add_m1 _) rfl ?_
        refine x_goto rfl ?_
        first
          | (have e : stU (tv D) (l.getD (f + n) 0) x = x := by unfold stU; rw [if_pos h27]
             rw [← e]
             exact ih _ _ _ (by omega) rfl (by rw [e]; exact hx) k1)
          | (have e : stU (tv D) (l.getD (f + n) 0) x = hab (kd (tv D) (l.getD (f + n) 0)) (fa (tv D) (l.getD (f + n) 0)) (fb (tv D) (l.getD (f + n) 0)) x := by unfold stU; rw [if_neg (by rw [h27]; decide)]
             rw [← e]
             exact ih _ _ _ (by omega) rfl (stU_lt hW hw hx) k1)
set_option maxRecDepth 20000 in
set_option maxHeartbeats 1000000 in
theorem w_X2_passUp {D : Nat → Nat → Int32} {L : Nat → Nat → Int64} {Q : bh_Q} (hW : WF (tv D)) {l : List Nat} (hH : HdL D l) (hm : ∀ w ∈ l, w < nw (tv D)) (hlen : l.length ≤ 12) {f t row : Nat} (hft : f ≤ t) (ht : t ≤ l.length) (hr : row < 65536) (k1 : Q (some (.int (nI (upN (tv D) l f (t - f) row)))) (hp D L)) : bh_wc 2 m_X2_passUp [.ref 31, .ref 1, .int (nI f), .int (nI t), .int (nI row)] (hp D L) Q := by
  refine x_start (lv0 := [_, _, _, _, _, _, _, _]) (Nat.le_of_ble_eq_true rfl) rfl ?_
  refine x_iload (pc' := 2) rfl rfl rfl ?_
  refine x_istore (pc' := 4) (lv' := [_, _, _, _, _, _, _, _]) rfl rfl (by decide) rfl ?_
  refine x_iload (pc' := 5) rfl rfl rfl ?_
  refine x_int (pc' := 6) (v := nI 1) rfl rfl rfl ?_
  refine x_isub (pc' := 7) rfl rfl ?_
  refine x_istore (pc' := 9) (lv' := [_, _, _, _, _, _, _, _]) rfl rfl (by decide) rfl ?_
  exact l_X2_passUp hW hH hm hlen f (t - f) row _ _ (by omega) (by rw [show f + (t - f) = t by omega]; rfl) hr k1
theorem OffH.tv {D D1 : Nat → Nat → Int32} (h : OffH D D1) : tv D1 = tv D := by
  funext j i
  show (if j < 13 then D1 (1 + j) i else 0) = if j < 13 then D (1 + j) i else 0
  split
  next hj => rw [h (1 + j) (by omega) (by omega)]
  next => rfl
set_option maxRecDepth 20000 in
set_option maxHeartbeats 1000000 in
theorem w_X2_lineOf {D : Nat → Nat → Int32} {L : Nat → Nat → Int64} {Q : bh_Q} (hW : WF (tv D)) {w b q : Nat} (hw : w < nw (tv D)) (hb : b < nb (tv D)) (hp0 : q < lng (tv D) b) (k1 : ∀ D', OffH D D' → Q (some (.int (toI (lnO (tv D) w b q)))) (hp D' L)) : bh_wc 3 m_X2_lineOf [.ref 31, .ref 1, .int (nI w), .int (nI b), .int (nI q)] (hp D L) Q := by
  refine x_start (lv0 := [_, _, _, _, _, _]) (Nat.le_of_ble_eq_true rfl) rfl ?_
  refine x_aload (pc' := 1) rfl rfl rfl ?_
  refine x_aload (pc' := 2) rfl rfl rfl ?_
  refine x_iload (pc' := 3) rfl rfl rfl ?_
  refine x_aload (pc' := 4) rfl rfl rfl ?_
  refine x_getI (j := 5) (pc' := 7) rfl rfl rfl (by decide) rfl (by decide) rfl rfl ?_
  refine x_top (hW.ede) ?_
  refine x_callV (pc' := 10) (d1 := 1) (Bs := [_, _, _]) rfl rfl rfl rfl rfl rfl rfl (Nat.le_of_ble_eq_true rfl) ⟨rfl, rfl⟩ (by decide) rfl (by decide) ?_
  refine w_X2_listUntilDead hW hW.de12 (isH_of hW hw) (fun D1 o1 hH => ?_)
  have eT : tv D1 = tv D := o1.tv
  have hW1 : WF (tv D1) := by rw [eT]; exact hW
  have hb1 : b < nb (tv D1) := by rw [eT]; exact hb
  have hp1 : q < lng (tv D1) b := by rw [eT]; exact hp0
  have hm : ∀ x ∈ (ch (tv D) w).takeWhile (fun y => !(de (tv D)).testBit y), x < nw (tv D1) := by rw [eT]; exact fun x hx => ch_mem hW hw x (takeWhile_mem hx)
  have hl12 : ((ch (tv D) w).takeWhile (fun y => !(de (tv D)).testBit y)).length ≤ 12 := Nat.le_trans (takeWhile_len _) (isH_of hW hw).2.1
  have hln := lnC_eq (T := tv D) (b := b) (q := q) (ch (tv D) w)
  refine ⟨rfl, ?_⟩
  cases hdw : (ch (tv D) w).dropWhile (fun y => !(de (tv D)).testBit y)
  · rw [hdw] at hln
    dsimp only at hln
    refine x_istore (pc' := 12) (lv' := [_, _, _, _, _, _]) rfl rfl (by decide) rfl ?_
    refine x_iload (pc' := 14) rfl rfl rfl ?_
    refine x_int (pc' := 15) (v := (-1)) rfl rfl rfl ?_
    refine x_ic_ne (pc' := 18) rfl rfl (fun c15 => absurd (by decide) c15) (fun _ => ?_)
    refine x_aload (pc' := 19) rfl rfl rfl ?_
    refine x_aload (pc' := 20) rfl rfl rfl ?_
    refine x_int (pc' := 21) (v := nI 0) rfl rfl rfl ?_
    refine x_aload (pc' := 22) rfl rfl rfl ?_
    refine x_getI (j := 1) (pc' := 25) rfl rfl rfl (by decide) rfl (by decide) rfl rfl ?_
    refine x_top (hH.1) ?_
    refine x_aload (pc' := 26) rfl rfl rfl ?_
    refine x_iload (pc' := 27) rfl rfl rfl ?_
    refine x_iload (pc' := 29) rfl rfl rfl ?_
    refine x_callV (pc' := 32) (d1 := 1) (Bs := [_, _]) rfl rfl rfl rfl rfl rfl rfl (Nat.le_of_ble_eq_true rfl) ⟨rfl, rfl⟩ (by decide) rfl (by decide) ?_
    refine w_X7_rowOf hW1 hb1 hp1 ?_
    refine ⟨rfl, ?_⟩
    refine x_callV (pc' := 35) (d1 := 2) (Bs := [_, _, _, _]) rfl rfl rfl rfl rfl rfl rfl (Nat.le_of_ble_eq_true rfl) ⟨rfl, rfl⟩ (by decide) rfl (by decide) ?_
    refine w_X2_passUp hW1 hH hm hl12 (Nat.zero_le _) (Nat.le_refl _) (hW1.pgl hb1 hp1) ?_
    refine ⟨rfl, ?_⟩
    refine x_iret rfl rfl ?_
    rw [Nat.sub_zero, upN_all, eT]
    have e : lnO (tv D) w b q = _ := hln
    rw [e] at k1
    exact k1 D1 o1
  · rename_i x r
    rw [hdw] at hln
    dsimp only at hln
    have hx1 : x < nw (tv D1) := by rw [eT]; exact ch_mem hW hw x (dropWhile_hd hdw).1
    have h12 := hW1.nwl
    refine x_istore (pc' := 12) (lv' := [_, _, _, _, _, _]) rfl rfl (by decide) rfl ?_
    refine x_iload (pc' := 14) rfl rfl rfl ?_
    refine x_int (pc' := 15) (v := (-1)) rfl rfl rfl ?_
    refine x_ic_ne (pc' := 18) rfl rfl (fun c15 => ?_) (fun c15 => ?_)
    · refine x_aload (pc' := 37) rfl rfl rfl ?_
      refine x_iload (pc' := 39) rfl rfl rfl ?_
      refine x_iload (pc' := 40) rfl rfl rfl ?_
      refine x_callV (pc' := 43) (d1 := 1) (Bs := [_, _]) rfl rfl rfl rfl rfl rfl rfl (Nat.le_of_ble_eq_true rfl) ⟨rfl, rfl⟩ (by decide) rfl (by decide) ?_
      refine w_X7_hasStock hW1 hx1 hb1 (fun h40 => ?_) (fun h40 => ?_)
      · refine ⟨rfl, ?_⟩
        refine x_if_ne (pc' := 46) rfl rfl (fun _ => ?_) (fun c43 => absurd c43 (by decide))
        refine x_aload (pc' := 50) rfl rfl rfl ?_
        refine x_aload (pc' := 51) rfl rfl rfl ?_
        refine x_int (pc' := 52) (v := nI 0) rfl rfl rfl ?_
        refine x_aload (pc' := 53) rfl rfl rfl ?_
        refine x_getI (j := 1) (pc' := 56) rfl rfl rfl (by decide) rfl (by decide) rfl rfl ?_
        refine x_top (hH.1) ?_
        refine x_aload (pc' := 57) rfl rfl rfl ?_
        refine x_iload (pc' := 59) rfl rfl rfl ?_
        refine x_iload (pc' := 60) rfl rfl rfl ?_
        refine x_iload (pc' := 62) rfl rfl rfl ?_
        refine x_callV (pc' := 65) (d1 := 1) (Bs := [_, _, _]) rfl rfl rfl rfl rfl rfl rfl (Nat.le_of_ble_eq_true rfl) ⟨rfl, rfl⟩ (by decide) rfl (by decide) ?_
        refine w_X7_stockOf hW1 hx1 hb1 hp1 h40 ?_
        refine ⟨rfl, ?_⟩
        refine x_callV (pc' := 68) (d1 := 2) (Bs := [_, _, _, _]) rfl rfl rfl rfl rfl rfl rfl (Nat.le_of_ble_eq_true rfl) ⟨rfl, rfl⟩ (by decide) rfl (by decide) ?_
        refine w_X2_passUp hW1 hH hm hl12 (Nat.zero_le _) (Nat.le_refl _) (hW1.stkl hx1 hb1 hp1 h40) ?_
        refine ⟨rfl, ?_⟩
        refine x_iret rfl rfl ?_
        rw [Nat.sub_zero, upN_all, eT]
        rw [eT] at h40
        have e : lnO (tv D) w b q = _ := hln
        rw [if_pos h40] at e
        rw [e] at k1
        exact k1 D1 o1
      · refine ⟨rfl, ?_⟩
        refine x_if_ne (pc' := 46) rfl rfl (fun c43 => absurd (by decide) c43) (fun _ => ?_)
        refine x_int (pc' := 48) (v := (-2)) rfl rfl rfl ?_
        refine x_iret rfl rfl ?_
        rw [eT] at h40
        have e : lnO (tv D) w b q = _ := hln
        rw [if_neg (by rw [h40]; decide)] at e
        rw [e] at k1
        exact k1 D1 o1
    · exact absurd c15 (nI_m1 (by omega))
