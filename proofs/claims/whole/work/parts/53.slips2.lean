/-! ===== slips: the class ===== -/
theorem slS_1 {w k a b : Nat} {z : Sl} (h : z.1 = 0) : slS true w k a b z = (1, w, k, a, b) := by unfold slS; rw [if_pos rfl, if_pos h]
theorem slS_2 {w k a b : Nat} {z : Sl} (h : ¬ z.1 = 0) : slS true w k a b z = (z.1 + 1, z.2) := by unfold slS; rw [if_pos rfl, if_neg h]
theorem slS_0 {w k a b : Nat} {z : Sl} : slS false w k a b z = z := rfl
theorem SlC.s1 {a : Nat → Int32} {w k x y : Nat} (h0 : a 0 = nI 1) (h1 : a 1 = nI w) (h2 : a 2 = nI k) (h3 : a 3 = nI x) (h4 : a 4 = nI y) (hk : k < 7) : SlC a (1, w, k, x, y) := ⟨h0, fun _ => ⟨h1, h2, h3, h4, hk⟩⟩
theorem SlC.s2 {a a' : Nat → Int32} {z : Sl} (h : SlC a z) (hn : ¬ z.1 = 0) (h0 : a' 0 = nI (z.1 + 1)) (h1 : ∀ j, 0 < j → j < 5 → a' j = a j) : SlC a' (z.1 + 1, z.2) := by
  obtain ⟨_, g⟩ := h
  have g := g hn
  refine ⟨h0, fun _ => ?_⟩
  show a' 1 = nI z.2.1 ∧ a' 2 = nI z.2.2.1 ∧ a' 3 = nI z.2.2.2.1 ∧ a' 4 = nI z.2.2.2.2 ∧ z.2.2.1 < 7
  rw [h1 1 (by decide) (by decide), h1 2 (by decide) (by decide), h1 3 (by decide) (by decide), h1 4 (by decide) (by decide)]
  exact g
set_option maxRecDepth 20000 in
set_option maxHeartbeats 1000000 in
theorem w_X4_tryOne {D : Nat → Nat → Int32} {L : Nat → Nat → Int64} {Q : bh_Q} {w k a b row N V : Nat} (h : hok k a b) (hr : row < 65536) (hN : D 37 5 = nI N) (hV : D 37 6 = nI V) (hNl : N < 65536) (hVl : V < 65536) {z : Sl} (hz : SlC (D 37) z) (hzl : z.1 < 1000000) (k1 : ∀ D', OffS D D' → D' 37 5 = D 37 5 → D' 37 6 = D 37 6 → SlC (D' 37) (slS (decide (hab k a b row &&& N = V)) w k a b z) → Q none (hp D' L)) : bh_wc 2 m_X4_tryOne [.ref 37, .int (nI w), .int (nI k), .int (nI a), .int (nI b), .int (nI row)] (hp D L) Q := by
  refine x_start (lv0 := [_, _, _, _, _, _]) (Nat.le_of_ble_eq_true rfl) rfl ?_
  refine x_iload (pc' := 1) rfl rfl rfl ?_
  refine x_iload (pc' := 2) rfl rfl rfl ?_
  refine x_iload (pc' := 4) rfl rfl rfl ?_
  refine x_iload (pc' := 6) rfl rfl rfl ?_
  refine x_callS (pc' := 9) (d1 := 1) (As := [_, _, _, _]) rfl rfl rfl rfl (by decide) rfl rfl (Nat.le_of_ble_eq_true rfl) ⟨rfl, rfl⟩ (by decide) ?_
  refine w_X1_changeRow h hr ?_
  refine ⟨rfl, ?_⟩
  refine x_aload (pc' := 10) rfl rfl rfl ?_
  refine x_getI (j := 5) (pc' := 13) rfl rfl rfl (by decide) rfl (by decide) rfl rfl ?_
  refine x_top (hN) ?_
  refine y_iand (pc' := 14) rfl rfl ?_
  refine x_aload (pc' := 15) rfl rfl rfl ?_
  refine x_getI (j := 6) (pc' := 18) rfl rfl rfl (by decide) rfl (by decide) rfl rfl ?_
  refine x_top (hV) ?_
  refine y_ic_eq (pc' := 21) rfl rfl (by first | omega | (have := hab_lt h hr; have := Nat.and_le_left (n := hab k a b row) (m := N); omega)) (by first | omega | (have := hab_lt h hr; have := Nat.and_le_left (n := hab k a b row) (m := N); omega)) (fun c18 => ?_) (fun c18 => ?_)
  · refine x_aload (pc' := 23) rfl rfl rfl ?_
    refine x_getI (j := 0) (pc' := 26) rfl rfl rfl (by decide) rfl (by decide) rfl rfl ?_
    refine x_top (hz.1) ?_
    refine y_if_ne (pc' := 29) rfl rfl (by first | omega | (have := hab_lt h hr; have := Nat.and_le_left (n := hab k a b row) (m := N); omega)) (fun c26 => ?_) (fun c26 => ?_)
    · refine x_aload (pc' := 51) rfl rfl rfl ?_
      refine x_dup (pc' := 52) rfl rfl rfl ?_
      refine x_getI (j := 0) (pc' := 55) rfl rfl rfl (by decide) rfl (by decide) rfl rfl ?_
      refine x_top (hz.1) ?_
      refine x_int (pc' := 56) (v := nI 1) rfl rfl rfl ?_
      refine y_iadd (pc' := 57) rfl rfl ?_
      refine x_putI (j := 0) (pc' := 60) rfl rfl rfl (by decide) rfl (by decide) rfl rfl ?_
      refine x_vret rfl rfl ?_
      refine k1 _ ?_ ?_ ?_ ?_
      · first | exact OffS.up | exact ((((OffS.up.tr OffS.up).tr OffS.up).tr OffS.up).tr OffS.up)
      · repeat rw [up2_o (by decide)]
      · repeat rw [up2_o (by decide)]
      · rw [show decide (hab k a b row &&& N = V) = true from decide_eq_true c18]
        first
          | (rw [slS_2 c26]; exact hz.s2 c26 (bh_up2_self _ _ _ _) (fun j h1 h2 => up2_o (by omega)))
          | (rw [slS_1 c26]; refine SlC.s1 ?_ ?_ ?_ ?_ ?_ h.1 <;> simp only [up2_at] <;> simp [c26])
    · refine x_aload (pc' := 30) rfl rfl rfl ?_
      refine x_iload (pc' := 31) rfl rfl rfl ?_
      refine x_putI (j := 1) (pc' := 34) rfl rfl rfl (by decide) rfl (by decide) rfl rfl ?_
      refine x_aload (pc' := 35) rfl rfl rfl ?_
      refine x_iload (pc' := 36) rfl rfl rfl ?_
      refine x_putI (j := 2) (pc' := 39) rfl rfl rfl (by decide) rfl (by decide) rfl rfl ?_
      refine x_aload (pc' := 40) rfl rfl rfl ?_
      refine x_iload (pc' := 41) rfl rfl rfl ?_
      refine x_putI (j := 3) (pc' := 44) rfl rfl rfl (by decide) rfl (by decide) rfl rfl ?_
      refine x_aload (pc' := 45) rfl rfl rfl ?_
      refine x_iload (pc' := 47) rfl rfl rfl ?_
      refine x_putI (j := 4) (pc' := 50) rfl rfl rfl (by decide) rfl (by decide) rfl rfl ?_
      refine x_aload (pc' := 51) rfl rfl rfl ?_
      refine x_dup (pc' := 52) rfl rfl rfl ?_
      refine x_getI (j := 0) (pc' := 55) rfl rfl rfl (by decide) rfl (by decide) rfl rfl ?_
      refine x_top ((up2_o (by decide)).trans ((up2_o (by decide)).trans ((up2_o (by decide)).trans ((up2_o (by decide)).trans hz.1)))) ?_
      refine x_int (pc' := 56) (v := nI 1) rfl rfl rfl ?_
      refine y_iadd (pc' := 57) rfl rfl ?_
      refine x_putI (j := 0) (pc' := 60) rfl rfl rfl (by decide) rfl (by decide) rfl rfl ?_
      refine x_vret rfl rfl ?_
      refine k1 _ ?_ ?_ ?_ ?_
      · first | exact OffS.up | exact ((((OffS.up.tr OffS.up).tr OffS.up).tr OffS.up).tr OffS.up)
      · repeat rw [up2_o (by decide)]
      · repeat rw [up2_o (by decide)]
      · rw [show decide (hab k a b row &&& N = V) = true from decide_eq_true c18]
        first
          | (rw [slS_2 c26]; exact hz.s2 c26 (bh_up2_self _ _ _ _) (fun j h1 h2 => up2_o (by omega)))
          | (rw [slS_1 c26]; refine SlC.s1 ?_ ?_ ?_ ?_ ?_ h.1 <;> simp only [up2_at] <;> simp [c26])
  · refine x_vret rfl rfl ?_
    refine k1 D OffS.rf rfl rfl ?_
    rw [show decide (hab k a b row &&& N = V) = false from decide_eq_false c18]
    exact hz
set_option maxRecDepth 20000 in
set_option maxHeartbeats 1000000 in
theorem l0_X4_tryHabits {L : Nat → Nat → Int64} {Q : bh_Q} {d : Nat} (hd : 2 ≤ d) {T : TW} (hW : WF T) {w row N V : Nat} (hw : w < nw T) (hr : row < 65536) (hNl : N < 65536) (hVl : V < 65536) {c : Nat → Nat → Nat → Bool} (hc : ∀ k a b, hok k a b → c k a b = (!decide (kd T w = k ∧ fa T w = a ∧ fb T w = b) && decide (hab k a b row &&& N = V))) (hc0 : ∀ k a b, ¬ hok k a b → c k a b = false) {z0 : Sl} {D0 : Nat → Nat → Int32} (hT0 : tv D0 = T) {k a : Nat} (hk : k < 7) (ha : a < mA k) (hzl : z0.1 + 16 < 1000000) (kE : ∀ D a9, OffS D0 D → D 37 5 = nI N → D 37 6 = nI V → SlC (D 37) (fB c w k a (mB k) z0) → bw m_X4_tryHabits d Q 119 [.ref 37, .ref 1, .int (nI w), .int (nI row), .int (nI k), .int (nI (mA k)), .int (nI (mB k)), .int (nI a), .int (nI (mB k)), a9] [] D L) : ∀ (f i : Nat) (D : Nat → Nat → Int32) (a9 : Value), i + f = mB k → (OffS D0 D) → (D 37 5 = nI N) → (D 37 6 = nI V) → (SlC (D 37) (fB c w k a i z0)) → bw m_X4_tryHabits d Q 56 [.ref 37, .ref 1, .int (nI w), .int (nI row), .int (nI k), .int (nI (mA k)), .int (nI (mB k)), .int (nI a), .int (nI i), a9] [] D L := by
  intro f
  induction f with
  | zero =>
    intro i D a9 hf o hN hV hz
    have hT : tv D = T := o.c.tv.trans hT0
    have hbl := fB_le (c := c) (w := w) (k := k) (a := a) i z0
    have hmb := mB_le k
    have hma := mA_le k
    refine x_iload (pc' := 58) rfl rfl rfl ?_
    refine x_iload (pc' := 60) rfl rfl rfl ?_
    refine y_ic_ge (pc' := 63) rfl rfl (by omega) (by omega) (fun c60 => ?_) (fun c60 => ?_)
    · obtain rfl : i = mB k := by omega
      exact kE D _ o hN hV hz
    · exact absurd c60 (by omega)
  | succ f ih =>
    intro i D a9 hf o hN hV hz
    have hT : tv D = T := o.c.tv.trans hT0
    have hbl := fB_le (c := c) (w := w) (k := k) (a := a) i z0
    have hmb := mB_le k
    have hma := mA_le k
    refine x_iload (pc' := 58) rfl rfl rfl ?_
    refine x_iload (pc' := 60) rfl rfl rfl ?_
    refine y_ic_ge (pc' := 63) rfl rfl (by omega) (by omega) (fun c60 => ?_) (fun c60 => ?_)
    · exact absurd c60 (by omega)
    · refine x_aload (pc' := 64) rfl rfl rfl ?_
      refine x_iload (pc' := 65) rfl rfl rfl ?_
      refine x_iload (pc' := 67) rfl rfl rfl ?_
      refine x_iload (pc' := 69) rfl rfl rfl ?_
      refine x_iload (pc' := 71) rfl rfl rfl ?_
      refine x_callV (pc' := 74) (d1 := 1) (Bs := [_, _, _, _]) rfl rfl rfl rfl rfl rfl rfl (Nat.le_of_ble_eq_true rfl) ⟨rfl, rfl⟩ (by decide) rfl (by omega) ?_
      refine w_X7_hasHabit (D := D) (by rw [hT]; exact hW) (by rw [hT]; exact hw) (by omega) (by omega) (by omega) (fun h1 h2 h3 => ?_) (fun hh => ?_)
      · rw [hT] at h1 h2 h3
        refine ⟨rfl, ?_⟩
        refine x_if_ne (pc' := 77) rfl rfl (fun _ => ?_) (fun c74 => absurd c74 (by decide))
        refine x_int (pc' := 82) (v := nI 0) rfl rfl rfl ?_
        refine x_istore (pc' := 84) (lv' := [_, _, _, _, _, _, _, _, _, _]) rfl rfl (by decide) rfl ?_
        refine x_iload (pc' := 86) rfl rfl rfl ?_
        refine x_if_eq (pc' := 89) rfl rfl (fun _ => ?_) (fun c86 => absurd (by decide) c86)
        refine y_inc (pc' := 116) (lv' := [_, _, _, _, _, _, _, _, _, _]) rfl rfl rfl (by decide) rfl ?_
        refine x_goto rfl ?_
        first
          | (refine ih (i + 1) D1 _ (by omega) (o.tr o1) (e5.trans hN) (e6.trans hV) ?_
             show SlC _ (slS (c k a i) w k a i _)
             rw [hc k a i hs, show decide (kd T w = k ∧ fa T w = a ∧ fb T w = i) = false from decide_eq_false hh]
             exact z1)
          | (refine ih (i + 1) D _ (by omega) o hN hV ?_
             show SlC _ (slS (c k a i) w k a i _)
             rw [hc0 k a i hs]
             exact hz)
          | (refine ih (i + 1) D _ (by omega) o hN hV ?_
             show SlC _ (slS (c k a i) w k a i _)
             have hcf : c k a i = false := by
               by_cases hs : hok k a i
               · rw [hc k a i hs, show decide (kd T w = k ∧ fa T w = a ∧ fb T w = i) = true from decide_eq_true ⟨h1, h2, h3⟩]; rfl
               · exact hc0 k a i hs
             rw [hcf]
             exact hz)
      · rw [hT] at hh
        refine ⟨rfl, ?_⟩
        refine x_if_ne (pc' := 77) rfl rfl (fun c74 => absurd (by decide) c74) (fun _ => ?_)
        refine x_int (pc' := 78) (v := nI 1) rfl rfl rfl ?_
        refine x_goto rfl ?_
        refine x_istore (pc' := 84) (lv' := [_, _, _, _, _, _, _, _, _, _]) rfl rfl (by decide) rfl ?_
        refine x_iload (pc' := 86) rfl rfl rfl ?_
        refine x_if_eq (pc' := 89) rfl rfl (fun c86 => absurd c86 (by decide)) (fun _ => ?_)
        refine x_iload (pc' := 91) rfl rfl rfl ?_
        refine x_iload (pc' := 93) rfl rfl rfl ?_
        refine x_iload (pc' := 95) rfl rfl rfl ?_
        refine x_callS (pc' := 98) (d1 := 2) (As := [_, _, _]) rfl rfl rfl rfl (by decide) rfl rfl (Nat.le_of_ble_eq_true rfl) ⟨rfl, rfl⟩ (by omega) ?_
        refine v_X1_stands hk ha (show i < mB k by omega) (fun hs => ?_) (fun hs => ?_)
        · refine ⟨rfl, ?_⟩
          refine x_if_eq (pc' := 101) rfl rfl (fun c98 => absurd c98 (by decide)) (fun _ => ?_)
          refine x_aload (pc' := 102) rfl rfl rfl ?_
          refine x_iload (pc' := 103) rfl rfl rfl ?_
          refine x_iload (pc' := 105) rfl rfl rfl ?_
          refine x_iload (pc' := 107) rfl rfl rfl ?_
          refine x_iload (pc' := 109) rfl rfl rfl ?_
          refine x_iload (pc' := 110) rfl rfl rfl ?_
          refine x_callV (pc' := 113) (d1 := 2) (Bs := [_, _, _, _, _]) rfl rfl rfl rfl rfl rfl rfl (Nat.le_of_ble_eq_true rfl) ⟨rfl, rfl⟩ (by decide) rfl (by omega) ?_
          refine w_X4_tryOne hs hr hN hV hNl hVl hz (by omega) (fun D1 o1 e5 e6 z1 => ?_)
          refine ⟨rfl, ?_⟩
          refine y_inc (pc' := 116) (lv' := [_, _, _, _, _, _, _, _, _, _]) rfl rfl rfl (by decide) rfl ?_
          refine x_goto rfl ?_
          first
            | (refine ih (i + 1) D1 _ (by omega) (o.tr o1) (e5.trans hN) (e6.trans hV) ?_
               show SlC _ (slS (c k a i) w k a i _)
               rw [hc k a i hs, show decide (kd T w = k ∧ fa T w = a ∧ fb T w = i) = false from decide_eq_false hh]
               exact z1)
            | (refine ih (i + 1) D _ (by omega) o hN hV ?_
               show SlC _ (slS (c k a i) w k a i _)
               rw [hc0 k a i hs]
               exact hz)
            | (refine ih (i + 1) D _ (by omega) o hN hV ?_
               show SlC _ (slS (c k a i) w k a i _)
               have hcf : c k a i = false := by
                 by_cases hs : hok k a i
                 · rw [hc k a i hs, show decide (kd T w = k ∧ fa T w = a ∧ fb T w = i) = true from decide_eq_true ⟨h1, h2, h3⟩]; rfl
                 · exact hc0 k a i hs
               rw [hcf]
               exact hz)
        · refine ⟨rfl, ?_⟩
          refine x_if_eq (pc' := 101) rfl rfl (fun _ => ?_) (fun c98 => absurd (by decide) c98)
          refine y_inc (pc' := 116) (lv' := [_, _, _, _, _, _, _, _, _, _]) rfl rfl rfl (by decide) rfl ?_
          refine x_goto rfl ?_
          first
            | (refine ih (i + 1) D1 _ (by omega) (o.tr o1) (e5.trans hN) (e6.trans hV) ?_
               show SlC _ (slS (c k a i) w k a i _)
               rw [hc k a i hs, show decide (kd T w = k ∧ fa T w = a ∧ fb T w = i) = false from decide_eq_false hh]
               exact z1)
            | (refine ih (i + 1) D _ (by omega) o hN hV ?_
               show SlC _ (slS (c k a i) w k a i _)
               rw [hc0 k a i hs]
               exact hz)
            | (refine ih (i + 1) D _ (by omega) o hN hV ?_
               show SlC _ (slS (c k a i) w k a i _)
               have hcf : c k a i = false := by
                 by_cases hs : hok k a i
                 · rw [hc k a i hs, show decide (kd T w = k ∧ fa T w = a ∧ fb T w = i) = true from decide_eq_true ⟨h1, h2, h3⟩]; rfl
                 · exact hc0 k a i hs
               rw [hcf]
               exact hz)
set_option maxRecDepth 20000 in
set_option maxHeartbeats 1000000 in
theorem l1_X4_tryHabits {L : Nat → Nat → Int64} {Q : bh_Q} {d : Nat} (hd : 2 ≤ d) {T : TW} (hW : WF T) {w row N V : Nat} (hw : w < nw T) (hr : row < 65536) (hNl : N < 65536) (hVl : V < 65536) {c : Nat → Nat → Nat → Bool} (hc : ∀ k a b, hok k a b → c k a b = (!decide (kd T w = k ∧ fa T w = a ∧ fb T w = b) && decide (hab k a b row &&& N = V))) (hc0 : ∀ k a b, ¬ hok k a b → c k a b = false) {z0 : Sl} {D0 : Nat → Nat → Int32} (hT0 : tv D0 = T) {k : Nat} (hk : k < 7) (hzl : z0.1 + 256 < 1000000) (kE : ∀ D a8 a9, OffS D0 D → D 37 5 = nI N → D 37 6 = nI V → SlC (D 37) (fA c w k (mA k) z0) → bw m_X4_tryHabits d Q 125 [.ref 37, .ref 1, .int (nI w), .int (nI row), .int (nI k), .int (nI (mA k)), .int (nI (mB k)), .int (nI (mA k)), a8, a9] [] D L) : ∀ (f i : Nat) (D : Nat → Nat → Int32) (a8 : Value) (a9 : Value), i + f = mA k → (OffS D0 D) → (D 37 5 = nI N) → (D 37 6 = nI V) → (SlC (D 37) (fA c w k i z0)) → bw m_X4_tryHabits d Q 46 [.ref 37, .ref 1, .int (nI w), .int (nI row), .int (nI k), .int (nI (mA k)), .int (nI (mB k)), .int (nI i), a8, a9] [] D L := by
  intro f
  induction f with
  | zero =>
    intro i D a8 a9 hf o hN hV hz
    have hbl := fA_le (c := c) (w := w) (k := k) i z0
    have hmb := mB_le k
    have hma := mA_le k
    refine x_iload (pc' := 48) rfl rfl rfl ?_
    refine x_iload (pc' := 50) rfl rfl rfl ?_
    refine y_ic_ge (pc' := 53) rfl rfl (by omega) (by omega) (fun c50 => ?_) (fun c50 => ?_)
    · obtain rfl : i = mA k := by omega
      exact kE D _ _ o hN hV hz
    · exact absurd c50 (by omega)
  | succ f ih =>
    intro i D a8 a9 hf o hN hV hz
    have hbl := fA_le (c := c) (w := w) (k := k) i z0
    have hmb := mB_le k
    have hma := mA_le k
    refine x_iload (pc' := 48) rfl rfl rfl ?_
    refine x_iload (pc' := 50) rfl rfl rfl ?_
    refine y_ic_ge (pc' := 53) rfl rfl (by omega) (by omega) (fun c50 => ?_) (fun c50 => ?_)
    · exact absurd c50 (by omega)
    · refine x_int (pc' := 54) (v := nI 0) rfl rfl rfl ?_
      refine x_istore (pc' := 56) (lv' := [_, _, _, _, _, _, _, _, _, _]) rfl rfl (by decide) rfl ?_
      refine l0_X4_tryHabits (d := d) hd hW hw hr hNl hVl hc hc0 (z0 := fA c w k i z0) (D0 := D0) hT0 hk (show i < mA k by omega) (by omega) (fun D2 b9 o2 n2 v2 z2 => ?_) (mB k) 0 D _ (Nat.zero_add _) o hN hV hz
      refine y_inc (pc' := 122) (lv' := [_, _, _, _, _, _, _, _, _, _]) rfl rfl rfl (by decide) rfl ?_
      refine x_goto rfl ?_
      exact ih (i + 1) D2 _ _ (by omega) o2 n2 v2 z2
theorem sgA (k : Nat) : (sg k = 0 ∧ k = 0) ∨ (sg k = 1 ∧ 1 ≤ k ∧ k < 5) ∨ (sg k = 2 ∧ 5 ≤ k) := by
  unfold sg
  by_cases h : k = 0
  · rw [if_pos h]; omega
  · rw [if_neg h]
    by_cases h5 : 5 ≤ k
    · rw [if_pos h5]; omega
    · rw [if_neg h5]; omega
set_option maxRecDepth 20000 in
set_option maxHeartbeats 1000000 in
theorem l2_X4_tryHabits {L : Nat → Nat → Int64} {Q : bh_Q} {d : Nat} (hd : 2 ≤ d) {T : TW} (hW : WF T) {w row N V : Nat} (hw : w < nw T) (hr : row < 65536) (hNl : N < 65536) (hVl : V < 65536) {c : Nat → Nat → Nat → Bool} (hc : ∀ k a b, hok k a b → c k a b = (!decide (kd T w = k ∧ fa T w = a ∧ fb T w = b) && decide (hab k a b row &&& N = V))) (hc0 : ∀ k a b, ¬ hok k a b → c k a b = false) {z0 : Sl} {D0 : Nat → Nat → Int32} (hT0 : tv D0 = T) (hzl : z0.1 + 1792 < 1000000) (kE : ∀ D, OffS D0 D → SlC (D 37) (fK c w 7 z0) → Q none (hp D L)) : ∀ (f i : Nat) (D : Nat → Nat → Int32) (a5 : Value) (a6 : Value) (a7 : Value) (a8 : Value) (a9 : Value), i + f = 7 → (OffS D0 D) → (D 37 5 = nI N) → (D 37 6 = nI V) → (SlC (D 37) (fK c w i z0)) → bw m_X4_tryHabits d Q 3 [.ref 37, .ref 1, .int (nI w), .int (nI row), .int (nI i), a5, a6, a7, a8, a9] [] D L := by
  intro f
  induction f with
  | zero =>
    intro i D a5 a6 a7 a8 a9 hf o hN hV hz
    have hbl := fK_le (c := c) (w := w) i z0
    refine x_iload (pc' := 5) rfl rfl rfl ?_
    refine x_int (pc' := 7) (v := nI 6) rfl rfl rfl ?_
    refine y_ic_gt (pc' := 10) rfl rfl (by omega) (by omega) (fun c7 => ?_) (fun c7 => ?_)
    · refine x_vret rfl rfl ?_
      obtain rfl : i = 7 := by omega
      exact kE D o hz
    · exact absurd c7 (by omega)
  | succ f ih =>
    intro i D a5 a6 a7 a8 a9 hf o hN hV hz
    have hbl := fK_le (c := c) (w := w) i z0
    refine x_iload (pc' := 5) rfl rfl rfl ?_
    refine x_int (pc' := 7) (v := nI 6) rfl rfl rfl ?_
    refine y_ic_gt (pc' := 10) rfl rfl (by omega) (by omega) (fun c7 => ?_) (fun c7 => ?_)
    · exact absurd c7 (by omega)
    · refine x_iload (pc' := 12) rfl rfl rfl ?_
      refine x_callS (pc' := 15) (d1 := 1) (As := [_]) rfl rfl rfl rfl (by decide) rfl rfl (Nat.le_of_ble_eq_true rfl) ⟨rfl, rfl⟩ (by omega) ?_
      refine w_X1_signsOf (show i < 7 by omega) ?_
      refine ⟨rfl, ?_⟩
      have hsg : sg i < 3 := by unfold sg; split; decide; split <;> decide
      refine y_if_le (pc' := 18) rfl rfl (by omega) (fun c15 => ?_) (fun c15 => ?_)
      · refine x_int (pc' := 24) (v := nI 1) rfl rfl rfl ?_
        refine x_istore (pc' := 26) (lv' := [_, _, _, _, _, _, _, _, _, _]) rfl rfl (by decide) rfl ?_
        refine x_iload (pc' := 28) rfl rfl rfl ?_
        refine x_callS (pc' := 31) (d1 := 1) (As := [_]) rfl rfl rfl rfl (by decide) rfl rfl (Nat.le_of_ble_eq_true rfl) ⟨rfl, rfl⟩ (by omega) ?_
        refine w_X1_signsOf (show i < 7 by omega) ?_
        refine ⟨rfl, ?_⟩
        have hsg : sg i < 3 := by unfold sg; split; decide; split <;> decide
        refine x_int (pc' := 32) (v := nI 1) rfl rfl rfl ?_
        refine y_ic_le (pc' := 35) rfl rfl (by omega) (by omega) (fun c32 => ?_) (fun c32 => ?_)
        · refine x_int (pc' := 41) (v := nI 1) rfl rfl rfl ?_
          refine x_istore (pc' := 43) (lv' := [_, _, _, _, _, _, _, _, _, _]) rfl rfl (by decide) rfl ?_
          refine x_int (pc' := 44) (v := nI 0) rfl rfl rfl ?_
          refine x_istore (pc' := 46) (lv' := [_, _, _, _, _, _, _, _, _, _]) rfl rfl (by decide) rfl ?_
          first
            | (have ea : mA i = 1 := by have := sgA i; unfold mA; split <;> omega
               have eb : mB i = 1 := by have := sgA i; unfold mB; split <;> omega
               have hl := (l1_X4_tryHabits (L := L) (Q := Q) (d := d) hd hW hw hr hNl hVl hc hc0 (z0 := fK c w i z0) (D0 := D0) hT0 (show i < 7 by omega) (by omega) (fun D2 b8 b9 o2 n2 v2 z2 => ?kk) (mA i) 0 D a8 a9 (Nat.zero_add _) o hN hV hz)
               case kk =>
                 refine y_inc (pc' := 128) (lv' := [_, _, _, _, _, _, _, _, _, _]) rfl rfl rfl (by decide) rfl ?_
                 refine x_goto rfl ?_
                 exact ih (i + 1) D2 _ _ _ _ _ (by omega) o2 n2 v2 z2
               rw [ea, eb] at hl
               exact hl)
            | (have ea : mA i = 16 := by have := sgA i; unfold mA; split <;> omega
               have eb : mB i = 1 := by have := sgA i; unfold mB; split <;> omega
               have hl := (l1_X4_tryHabits (L := L) (Q := Q) (d := d) hd hW hw hr hNl hVl hc hc0 (z0 := fK c w i z0) (D0 := D0) hT0 (show i < 7 by omega) (by omega) (fun D2 b8 b9 o2 n2 v2 z2 => ?kk) (mA i) 0 D a8 a9 (Nat.zero_add _) o hN hV hz)
               case kk =>
                 refine y_inc (pc' := 128) (lv' := [_, _, _, _, _, _, _, _, _, _]) rfl rfl rfl (by decide) rfl ?_
                 refine x_goto rfl ?_
                 exact ih (i + 1) D2 _ _ _ _ _ (by omega) o2 n2 v2 z2
               rw [ea, eb] at hl
               exact hl)
            | (have ea : mA i = 16 := by have := sgA i; unfold mA; split <;> omega
               have eb : mB i = 16 := by have := sgA i; unfold mB; split <;> omega
               have hl := (l1_X4_tryHabits (L := L) (Q := Q) (d := d) hd hW hw hr hNl hVl hc hc0 (z0 := fK c w i z0) (D0 := D0) hT0 (show i < 7 by omega) (by omega) (fun D2 b8 b9 o2 n2 v2 z2 => ?kk) (mA i) 0 D a8 a9 (Nat.zero_add _) o hN hV hz)
               case kk =>
                 refine y_inc (pc' := 128) (lv' := [_, _, _, _, _, _, _, _, _, _]) rfl rfl rfl (by decide) rfl ?_
                 refine x_goto rfl ?_
                 exact ih (i + 1) D2 _ _ _ _ _ (by omega) o2 n2 v2 z2
               rw [ea, eb] at hl
               exact hl)
            | (exfalso; have := sgA i; omega)
        · refine x_int (pc' := 37) (v := nI 16) rfl rfl rfl ?_
          refine x_goto rfl ?_
          refine x_istore (pc' := 43) (lv' := [_, _, _, _, _, _, _, _, _, _]) rfl rfl (by decide) rfl ?_
          refine x_int (pc' := 44) (v := nI 0) rfl rfl rfl ?_
          refine x_istore (pc' := 46) (lv' := [_, _, _, _, _, _, _, _, _, _]) rfl rfl (by decide) rfl ?_
          first
            | (have ea : mA i = 1 := by have := sgA i; unfold mA; split <;> omega
               have eb : mB i = 1 := by have := sgA i; unfold mB; split <;> omega
               have hl := (l1_X4_tryHabits (L := L) (Q := Q) (d := d) hd hW hw hr hNl hVl hc hc0 (z0 := fK c w i z0) (D0 := D0) hT0 (show i < 7 by omega) (by omega) (fun D2 b8 b9 o2 n2 v2 z2 => ?kk) (mA i) 0 D a8 a9 (Nat.zero_add _) o hN hV hz)
               case kk =>
                 refine y_inc (pc' := 128) (lv' := [_, _, _, _, _, _, _, _, _, _]) rfl rfl rfl (by decide) rfl ?_
                 refine x_goto rfl ?_
                 exact ih (i + 1) D2 _ _ _ _ _ (by omega) o2 n2 v2 z2
               rw [ea, eb] at hl
               exact hl)
            | (have ea : mA i = 16 := by have := sgA i; unfold mA; split <;> omega
               have eb : mB i = 1 := by have := sgA i; unfold mB; split <;> omega
               have hl := (l1_X4_tryHabits (L := L) (Q := Q) (d := d) hd hW hw hr hNl hVl hc hc0 (z0 := fK c w i z0) (D0 := D0) hT0 (show i < 7 by omega) (by omega) (fun D2 b8 b9 o2 n2 v2 z2 => ?kk) (mA i) 0 D a8 a9 (Nat.zero_add _) o hN hV hz)
               case kk =>
                 refine y_inc (pc' := 128) (lv' := [_, _, _, _, _, _, _, _, _, _]) rfl rfl rfl (by decide) rfl ?_
                 refine x_goto rfl ?_
                 exact ih (i + 1) D2 _ _ _ _ _ (by omega) o2 n2 v2 z2
               rw [ea, eb] at hl
               exact hl)
            | (have ea : mA i = 16 := by have := sgA i; unfold mA; split <;> omega
               have eb : mB i = 16 := by have := sgA i; unfold mB; split <;> omega
               have hl := (l1_X4_tryHabits (L := L) (Q := Q) (d := d) hd hW hw hr hNl hVl hc hc0 (z0 := fK c w i z0) (D0 := D0) hT0 (show i < 7 by omega) (by omega) (fun D2 b8 b9 o2 n2 v2 z2 => ?kk) (mA i) 0 D a8 a9 (Nat.zero_add _) o hN hV hz)
               case kk =>
                 refine y_inc (pc' := 128) (lv' := [_, _, _, _, _, _, _, _, _, _]) rfl rfl rfl (by decide) rfl ?_
                 refine x_goto rfl ?_
                 exact ih (i + 1) D2 _ _ _ _ _ (by omega) o2 n2 v2 z2
               rw [ea, eb] at hl
               exact hl)
            | (exfalso; have := sgA i; omega)
      · refine x_int (pc' := 20) (v := nI 16) rfl rfl rfl ?_
        refine x_goto rfl ?_
        refine x_istore (pc' := 26) (lv' := [_, _, _, _, _, _, _, _, _, _]) rfl rfl (by decide) rfl ?_
        refine x_iload (pc' := 28) rfl rfl rfl ?_
        refine x_callS (pc' := 31) (d1 := 1) (As := [_]) rfl rfl rfl rfl (by decide) rfl rfl (Nat.le_of_ble_eq_true rfl) ⟨rfl, rfl⟩ (by omega) ?_
        refine w_X1_signsOf (show i < 7 by omega) ?_
        refine ⟨rfl, ?_⟩
        have hsg : sg i < 3 := by unfold sg; split; decide; split <;> decide
        refine x_int (pc' := 32) (v := nI 1) rfl rfl rfl ?_
        refine y_ic_le (pc' := 35) rfl rfl (by omega) (by omega) (fun c32 => ?_) (fun c32 => ?_)
        · refine x_int (pc' := 41) (v := nI 1) rfl rfl rfl ?_
          refine x_istore (pc' := 43) (lv' := [_, _, _, _, _, _, _, _, _, _]) rfl rfl (by decide) rfl ?_
          refine x_int (pc' := 44) (v := nI 0) rfl rfl rfl ?_
          refine x_istore (pc' := 46) (lv' := [_, _, _, _, _, _, _, _, _, _]) rfl rfl (by decide) rfl ?_
          first
            | (have ea : mA i = 1 := by have := sgA i; unfold mA; split <;> omega
               have eb : mB i = 1 := by have := sgA i; unfold mB; split <;> omega
               have hl := (l1_X4_tryHabits (L := L) (Q := Q) (d := d) hd hW hw hr hNl hVl hc hc0 (z0 := fK c w i z0) (D0 := D0) hT0 (show i < 7 by omega) (by omega) (fun D2 b8 b9 o2 n2 v2 z2 => ?kk) (mA i) 0 D a8 a9 (Nat.zero_add _) o hN hV hz)
               case kk =>
                 refine y_inc (pc' := 128) (lv' := [_, _, _, _, _, _, _, _, _, _]) rfl rfl rfl (by decide) rfl ?_
                 refine x_goto rfl ?_
                 exact ih (i + 1) D2 _ _ _ _ _ (by omega) o2 n2 v2 z2
               rw [ea, eb] at hl
               exact hl)
            | (have ea : mA i = 16 := by have := sgA i; unfold mA; split <;> omega
               have eb : mB i = 1 := by have := sgA i; unfold mB; split <;> omega
               have hl := (l1_X4_tryHabits (L := L) (Q := Q) (d := d) hd hW hw hr hNl hVl hc hc0 (z0 := fK c w i z0) (D0 := D0) hT0 (show i < 7 by omega) (by omega) (fun D2 b8 b9 o2 n2 v2 z2 => ?kk) (mA i) 0 D a8 a9 (Nat.zero_add _) o hN hV hz)
               case kk =>
                 refine y_inc (pc' := 128) (lv' := [_, _, _, _, _, _, _, _, _, _]) rfl rfl rfl (by decide) rfl ?_
                 refine x_goto rfl ?_
                 exact ih (i + 1) D2 _ _ _ _ _ (by omega) o2 n2 v2 z2
               rw [ea, eb] at hl
               exact hl)
            | (have ea : mA i = 16 := by have := sgA i; unfold mA; split <;> omega
               have eb : mB i = 16 := by have := sgA i; unfold mB; split <;> omega
               have hl := (l1_X4_tryHabits (L := L) (Q := Q) (d := d) hd hW hw hr hNl hVl hc hc0 (z0 := fK c w i z0) (D0 := D0) hT0 (show i < 7 by omega) (by omega) (fun D2 b8 b9 o2 n2 v2 z2 => ?kk) (mA i) 0 D a8 a9 (Nat.zero_add _) o hN hV hz)
               case kk =>
                 refine y_inc (pc' := 128) (lv' := [_, _, _, _, _, _, _, _, _, _]) rfl rfl rfl (by decide) rfl ?_
                 refine x_goto rfl ?_
                 exact ih (i + 1) D2 _ _ _ _ _ (by omega) o2 n2 v2 z2
               rw [ea, eb] at hl
               exact hl)
            | (exfalso; have := sgA i; omega)
        · refine x_int (pc' := 37) (v := nI 16) rfl rfl rfl ?_
          refine x_goto rfl ?_
          refine x_istore (pc' := 43) (lv' := [_, _, _, _, _, _, _, _, _, _]) rfl rfl (by decide) rfl ?_
          refine x_int (pc' := 44) (v := nI 0) rfl rfl rfl ?_
          refine x_istore (pc' := 46) (lv' := [_, _, _, _, _, _, _, _, _, _]) rfl rfl (by decide) rfl ?_
          first
            | (have ea : mA i = 1 := by have := sgA i; unfold mA; split <;> omega
               have eb : mB i = 1 := by have := sgA i; unfold mB; split <;> omega
               have hl := (l1_X4_tryHabits (L := L) (Q := Q) (d := d) hd hW hw hr hNl hVl hc hc0 (z0 := fK c w i z0) (D0 := D0) hT0 (show i < 7 by omega) (by omega) (fun D2 b8 b9 o2 n2 v2 z2 => ?kk) (mA i) 0 D a8 a9 (Nat.zero_add _) o hN hV hz)
               case kk =>
                 refine y_inc (pc' := 128) (lv' := [_, _, _, _, _, _, _, _, _, _]) rfl rfl rfl (by decide) rfl ?_
                 refine x_goto rfl ?_
                 exact ih (i + 1) D2 _ _ _ _ _ (by omega) o2 n2 v2 z2
               rw [ea, eb] at hl
               exact hl)
            | (have ea : mA i = 16 := by have := sgA i; unfold mA; split <;> omega
               have eb : mB i = 1 := by have := sgA i; unfold mB; split <;> omega
               have hl := (l1_X4_tryHabits (L := L) (Q := Q) (d := d) hd hW hw hr hNl hVl hc hc0 (z0 := fK c w i z0) (D0 := D0) hT0 (show i < 7 by omega) (by omega) (fun D2 b8 b9 o2 n2 v2 z2 => ?kk) (mA i) 0 D a8 a9 (Nat.zero_add _) o hN hV hz)
               case kk =>
                 refine y_inc (pc' := 128) (lv' := [_, _, _, _, _, _, _, _, _, _]) rfl rfl rfl (by decide) rfl ?_
                 refine x_goto rfl ?_
                 exact ih (i + 1) D2 _ _ _ _ _ (by omega) o2 n2 v2 z2
               rw [ea, eb] at hl
               exact hl)
            | (have ea : mA i = 16 := by have := sgA i; unfold mA; split <;> omega
               have eb : mB i = 16 := by have := sgA i; unfold mB; split <;> omega
               have hl := (l1_X4_tryHabits (L := L) (Q := Q) (d := d) hd hW hw hr hNl hVl hc hc0 (z0 := fK c w i z0) (D0 := D0) hT0 (show i < 7 by omega) (by omega) (fun D2 b8 b9 o2 n2 v2 z2 => ?kk) (mA i) 0 D a8 a9 (Nat.zero_add _) o hN hV hz)
               case kk =>
                 refine y_inc (pc' := 128) (lv' := [_, _, _, _, _, _, _, _, _, _]) rfl rfl rfl (by decide) rfl ?_
                 refine x_goto rfl ?_
                 exact ih (i + 1) D2 _ _ _ _ _ (by omega) o2 n2 v2 z2
               rw [ea, eb] at hl
               exact hl)
            | (exfalso; have := sgA i; omega)
set_option maxRecDepth 20000 in
set_option maxHeartbeats 1000000 in
theorem w_X4_tryHabits {D : Nat → Nat → Int32} {L : Nat → Nat → Int64} {Q : bh_Q} {T : TW} (hW : WF T) {w row N V : Nat} (hw : w < nw T) (hr : row < 65536) (hNl : N < 65536) (hVl : V < 65536) {c : Nat → Nat → Nat → Bool} (hc : ∀ k a b, hok k a b → c k a b = (!decide (kd T w = k ∧ fa T w = a ∧ fb T w = b) && decide (hab k a b row &&& N = V))) (hc0 : ∀ k a b, ¬ hok k a b → c k a b = false) {z0 : Sl} (hT : tv D = T) (hN : D 37 5 = nI N) (hV : D 37 6 = nI V) (hz : SlC (D 37) z0) (hzl : z0.1 + 1792 < 1000000) (k1 : ∀ D', OffS D D' → SlC (D' 37) (fK c w 7 z0) → Q none (hp D' L)) : bh_wc 3 m_X4_tryHabits [.ref 37, .ref 1, .int (nI w), .int (nI row)] (hp D L) Q := by
  refine x_start (lv0 := [_, _, _, _, _, _, _, _, _, _]) (Nat.le_of_ble_eq_true rfl) rfl ?_
  refine x_int (pc' := 1) (v := nI 0) rfl rfl rfl ?_
  refine x_istore (pc' := 3) (lv' := [_, _, _, _, _, _, _, _, _, _]) rfl rfl (by decide) rfl ?_
  exact l2_X4_tryHabits (d := 2) (Nat.le_refl _) hW hw hr hNl hVl hc hc0 (D0 := D) hT hzl k1 7 0 D _ _ _ _ _ rfl OffS.rf hN hV hz
