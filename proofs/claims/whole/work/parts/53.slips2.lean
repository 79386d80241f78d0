/-! ===== slips: the class ===== -/
theorem slS_1 {w k a b : Nat} {z : Sl} (h : z.1 = 0) : slS true w k a b z = (1, w, k, a, b) := by unfold slS; rw [if_pos rfl, if_pos h]
theorem slS_2 {w k a b : Nat} {z : Sl} (h : ¬ z.1 = 0) : slS true w k a b z = (z.1 + 1, z.2) := by unfold slS; rw [if_pos rfl, if_neg h]
theorem slS_0 {w k a b : Nat} {z : Sl} : slS false w k a b z = z := rfl
theorem SlC.s1 {a : Nat → Int32} {w k x y : Nat} (h0 : a 0 = nI 1) (h1 : a 1 = nI w) (h2 : a 2 = nI k) (h3 : a 3 = nI x) (h4 : a 4 = nI y) (hk : k < 7) : SlC a (1, w, k, x, y) := ⟨h0, fun _ => ⟨h1, h2, h3, h4, hk⟩⟩
theorem SlC.s2 {a a' : Nat → Int32} {z : Sl} (h : SlC a z) (hn : ¬ z.1 = 0) (h0 : a' 0 = nI (z.1 + 1)) (h1 : ∀ j, 0 < j → j < 5 → a' j = a j) : SlC a' (z.1 + 1, z.2) := by
  obtain ⟨_, g⟩ := h
  have g := g hn
  refine ⟨h0, fun _ => ?_⟩
  show a' 1 = nI z.2.1 ∧ a' 2 = nI z.2.2.1 ∧ a' 3 = nI z.2.2.2.1 ∧ a' 4 = nI z.2.2.2.2 ∧ z.2.2.1 < 7
  rw [h1 1 (by decide) (by decide), h1 2 (by decide) (by decide), h1 3 (by decide) (by decide), h1 4 (by decide) (by decide)]
  exact g
set_option maxRecDepth 20000 in
set_option maxHeartbeats 1000000 in
theorem w_X4_tryOne {D : Nat → Nat → Int32} {L : Nat → Nat → Int64} {Q : bh_Q} {w k a b row N V : Nat} (h : hok k a b) (hr : row < 65536) (hN : D 37 5 = nI N) (hV : D 37 6 = nI V) (hNl : N < 65536) (hVl : V < 65536) {z : Sl} (hz : SlC (D 37) z) (hzl : z.1 < 1000000) (k1 : ∀ D', OffS D D' → D' 37 5 = D 37 5 → D' 37 6 = D 37 6 → SlC (D' 37) (slS (decide (hab k a b row &&& N = V)) w k a b z) → Q none (hp D' L)) : bh_wc 2 m_X4_tryOne [.ref 37, .int (nI w), .int (nI k), .int (nI a), .int (nI b), .int (nI row)] (hp D L) Q := by
  refine x_start (lv0 := [_, _, _, _, _, _]) (Nat.le_of_ble_eq_true rfl) rfl ?_
  refine x_iload (pc' := 1) rfl rfl rfl ?_
  refine x_iload (pc' := 2) rfl rfl rfl ?_
  refine x_iload (pc' := 4) rfl rfl rfl ?_
  refine x_iload (pc' := 6) rfl rfl rfl ?_
  refine x_callS (pc' := 9) (d1 := 1) (As := [_, _, _, _]) rfl rfl rfl rfl (by decide) rfl rfl (Nat.le_of_ble_eq_true rfl) ⟨rfl, rfl⟩ (by decide) ?_
  refine w_X1_changeRow h hr ?_
  refine ⟨rfl, ?_⟩
  refine x_aload (pc' := 10) rfl rfl rfl ?_
  refine x_getI (j := 5) (pc' := 13) rfl rfl rfl (by decide) rfl (by decide) rfl rfl ?_
  refine x_top (hN) ?_
  refine y_iand (pc' := 14) rfl rfl ?_
  refine x_aload (pc' := 15) rfl rfl rfl ?_
  refine x_getI (j := 6) (pc' := 18) rfl rfl rfl (by decide) rfl (by decide) rfl rfl ?_
  refine x_top (hV) ?_
  refine y_ic_eq (pc' := 21) rfl rfl (by first | omega | (have := hab_lt h hr; have := Nat.and_le_left (n := hab k a b row) (m := N); omega)) (by first | omega | (have := hab_lt h hr; have := Nat.and_le_left (n := hab k a b row) (m := N); omega)) (fun c18 => ?_) (fun c18 => ?_)
  · refine x_aload (pc' := 23) rfl rfl rfl ?_
    refine x_getI (j := 0) (pc' := 26) rfl rfl rfl (by decide) rfl (by decide) rfl rfl ?_
    refine x_top (hz.1) ?_
    refine y_if_ne (pc' := 29) rfl rfl (by first | omega | (have := hab_lt h hr; have := Nat.and_le_left (n := hab k a b row) (m := N); omega)) (fun c26 => ?_) (fun c26 => ?_)
    · refine x_aload (pc' := 51) rfl rfl rfl ?_
      refine x_dup (pc' := 52) rfl rfl rfl ?_
      refine x_getI (j := 0) (pc' := 55) rfl rfl rfl (by decide) rfl (by decide) rfl rfl ?_
      refine x_top (hz.1) ?_
      refine x_int (pc' := 56) (v := nI 1) rfl rfl rfl ?_
      refine y_iadd (pc' := 57) rfl rfl ?_
      refine x_putI (j := 0) (pc' := 60) rfl rfl rfl (by decide) rfl (by decide) rfl rfl ?_
      refine x_vret rfl rfl ?_
      refine k1 _ ?_ ?_ ?_ ?_
      · first | exact OffS.up | exact ((((OffS.up.tr OffS.up).tr OffS.up).tr OffS.up).tr OffS.up)
      · repeat rw [up2_o (by decide)]
      · repeat rw [up2_o (by decide)]
      · rw [show decide (hab k a b row &&& N = V) = true from decide_eq_true c18]
        first
          | (rw [slS_2 c26]; exact hz.s2 c26 (bh_up2_self _ _ _ _) (fun j h1 h2 => up2_o (by omega)))
          | (rw [slS_1 c26]; refine SlC.s1 ?_ ?_ ?_ ?_ ?_ h.1 <;> simp only [up2_at] <;> simp [c26])
    · refine x_aload (pc' := 30) rfl rfl rfl ?_
      refine x_iload (pc' := 31) rfl rfl rfl ?_
      refine x_putI (j := 1) (pc' := 34) rfl rfl rfl (by decide) rfl (by decide) rfl rfl ?_
      refine x_aload (pc' := 35) rfl rfl rfl ?_
      refine x_iload (pc' := 36) rfl rfl rfl ?_
      refine x_putI (j := 2) (pc' := 39) rfl rfl rfl (by decide) rfl (by decide) rfl rfl ?_
      refine x_aload (pc' := 40) rfl rfl rfl ?_
      refine x_iload (pc' := 41) rfl rfl rfl ?_
      refine x_putI (j := 3) (pc' := 44) rfl rfl rfl (by decide) rfl (by decide) rfl rfl ?_
      refine x_aload (pc' := 45) rfl rfl rfl ?_
      refine x_iload (pc' := 47) rfl rfl rfl ?_
      refine x_putI (j := 4) (pc' := 50) rfl rfl rfl (by decide) rfl (by decide) rfl rfl ?_
      refine x_aload (pc' := 51) rfl rfl rfl ?_
      refine x_dup (pc' := 52) rfl rfl rfl ?_
      refine x_getI (j := 0) (pc' := 55) rfl rfl rfl (by decide) rfl (by decide) rfl rfl ?_
      refine x_top ((up2_o (by decide)).trans ((up2_o (by decide)).trans ((up2_o (by decide)).trans ((up2_o (by decide)).trans hz.1)))) ?_
      refine x_int (pc' := 56) (v := nI 1) rfl rfl rfl ?_
      refine y_iadd (pc' := 57) rfl rfl ?_
      refine x_putI (j := 0) (pc' := 60) rfl rfl rfl (by decide) rfl (by decide) rfl rfl ?_
      refine x_vret rfl rfl ?_
      refine k1 _ ?_ ?_ ?_ ?_
      · first | exact OffS.up | exact ((((OffS.up.tr OffS.up).tr OffS.up).tr OffS.up).tr OffS.up)
      · repeat rw [up2_o (by decide)]
      · repeat rw [up2_o (by decide)]
      · rw [show decide (hab k a b row &&& N = V) = true from decide_eq_true c18]
        first
          | (rw [slS_2 c26]; exact hz.s2 c26 (bh_up2_self _ _ _ _) (fun j h1 h2 => up2_o (by omega)))
          | (rw [slS_1 c26]; refine SlC.s1 ?_ ?_ ?_ ?_ ?_ h.1 <;> simp only [up2_at] <;> simp [c26])
  · refine x_vret rfl rfl ?_
    refine k1 D OffS.rf rfl rfl ?_
    rw [show decide (hab k a b row &&& N = V) = false from decide_eq_false c18]
    exact hz
set_option maxRecDepth 20000 in
set_option maxHeartbeats 1000000 in
theorem l0_X4_tryHabits {L : Nat → Nat → Int64} {Q : bh_Q} {d : Nat} (hd : 2 ≤ d) {T : TW} (hW : WF T) {w row N V : Nat} (hw : w < nw T) (hr : row < 65536) (hNl : N < 65536) (hVl : V < 65536) {c : Nat → Nat → Nat → Bool} (hc : ∀ k a b, hok k a b → c k a b = (!decide (kd T w = k ∧ fa T w = a ∧ fb T w = b) && decide (hab k a b row &&& N = V))) (hc0 : ∀ k a b, ¬ hok k a b → c k a b = false) {z0 : Sl} {D0 : Nat → Nat → Int32} (hT0 : tv D0 = T) {k a : Nat} (hk : k < 7) (ha : a < mA k) (hzl : z0.1 + 16 < 1000000) (kE : ∀ D a9, OffS D0 D → D 37 5 = nI N → D 37 6 = nI V → SlC (D 37) (fB c w k a (mB k) z0) → bw m_X4_tryHabits d Q 119 [.ref 37, .ref 1, .int (nI w), .int (nI row), .int (nI k), .int (nI (mA k)), .int (nI (mB k)), .int (nI a), .int (nI (mB k)), a9] [] D L) : ∀ (f i : Nat) (D : Nat → Nat → Int32) (a9 : Value), i + f = mB k → (OffS D0 D) → (D 37 5 = nI N) → (D 37 6 = nI V) → (SlC (D 37) (fB c w k a i z0)) → bw m_X4_tryHabits d Q 56 [.ref 37, .ref 1, .int (nI w), .int (nI row), .int (nI k), .int (nI (mA k)), .int (nI (mB k)), .int (nI a), .int (nI i), a9] [] D L := by
  intro f
  induction f with
  | zero =>
    intro i D a9 hf o hN hV hz
    have hT : tv D = T := o.c.tv.trans hT0
    have hbl := fB_le (c := c) (w := w) (k := k) (a := a) i z0
    have hmb := mB_le k
    have hma := mA_le k
    refine x_iload (pc' := 58) rfl rfl rfl ?_
    refine x_iload (pc' := 60) rfl rfl rfl ?_
    refine y_ic_ge (pc' := 63) rfl rfl (by omega) (by omega) (fun c60 => ?_) (fun c60 => ?_)
    · obtain rfl : i = mB k := by omega
      exact kE D _ o hN hV hz
    · exact absurd c60 (by omega)
  | succ f ih =>
    intro i D a9 hf o hN hV hz
    have hT : tv D = T := o.c.tv.trans hT0
    have hbl := fB_le (c := c) (w := w) (k := k) (a := a) i z0
    have hmb := mB_le k
    have hma := mA_le k
    refine x_iload (pc' := 58) rfl rfl rfl ?_
    refine x_iload (pc' := 60) rfl rfl rfl ?_
    refine y_ic_ge (pc' := 63) rfl rfl (by omega) (by omega) (fun c60 => ?_) (fun c60 => ?_)
    · exact absurd c60 (by omega)
    · refine x_aload (pc' := 64) rfl rfl rfl ?_
      refine x_iload (pc' := 65) rfl rfl rfl ?_
      refine x_iload (pc' := 67) rfl rfl rfl ?_
      refine x_iload (pc' := 69) rfl rfl rfl ?_
      refine x_iload (pc' := 71) rfl rfl rfl ?_
      refine x_callV (pc' := 74) (d1 := 1) (Bs := [_, _, _, _]) rfl rfl rfl rfl rfl rfl rfl (Nat.le_of_ble_eq_true rfl) ⟨rfl, rfl⟩ (by decide) rfl (by omega) ?_
      refine w_X7_hasHabit (D := D) (by rw [hT]; exact hW) (by rw [hT]; exact hw) (by omega) (by omega) (by omega) (fun h1 h2 h3 => ?_) (fun hh => ?_)
      · rw [hT] at h1 h2 h3
        refine ⟨rfl, ?_⟩
        refine x_if_ne (pc' := 77) rfl rfl (fun _ => ?_) (fun c74 => absurd c74 (by decide))
        refine x_int (pc' := 82) (v := nI 0) rfl rfl rfl ?_
        refine x_istore (pc' := 84) (lv' := [_, _, _, _, _, _, _, _, _, _]) rfl rfl (by decide) rfl ?_
        refine x_iload (pc' := 86) rfl rfl rfl ?_
        refine x_if_eq (pc' := 89) rfl rfl (fun _ => ?_) (fun c86 => absurd (by decide) c86)
        refine y_inc (pc' := 116) (lv' := [_, _, _, _, _, _, _, _, _, _]) rfl rfl rfl (by decide) rfl ?_
        refine x_goto rfl ?_
        first
          | (refine ih (i + 1) D1 _ (by omega) (o.tr o1) (e5.trans hN) (e6.trans hV) ?_
             show SlC _ (slS (c k a i) w k a i _)
             rw [hc k a i hs, show decide (kd T w = k ∧ fa T w = a ∧ fb T w = i) = false from decide_eq_false hh]
             exact z1)
          | (refine ih (i + 1) D _ (by omega) o hN hV ?_
             show SlC _ (slS (c k a i) w k a i _)
             rw [hc0 k a i hs]
             exact hz)
          | (refine ih (i + 1) D _ (by omega) o hN hV ?_
             show SlC _ (slS (c k a i) w k a i _)
             have hcf : c k a i = false := by
               by_cases hs : hok k a i
               · rw [hc k a i hs, show decide (kd T w = k ∧ fa T w = a ∧ fb T w = i) = true from decide_eq_true ⟨h1, h2, h3⟩]; rfl
               · exact hc0 k a i hs
             rw [hcf]
             exact hz)
      · rw [hT] at hh
        refine ⟨rfl, ?_⟩
        refine x_if_ne (pc' := 77) rfl rfl (fun c74 => absurd (by decide) c74) (fun _ => ?_)
        refine x_int (pc' := 78) (v := nI 1) rfl rfl rfl ?_
        refine x_goto rfl ?_
        refine x_istore (pc' := 84) (lv' := [_, _, _, _, _, _, _, _, _, _]) rfl rfl (by decide) rfl ?_
        refine x_iload (pc' := 86) rfl rfl rfl ?_
        refine x_if_eq (pc' := 89) rfl rfl (fun c86 => absurd c86 (by decide)) (fun _ => ?_)
        refine x_iload (pc' := 91) rfl rfl rfl ?_
        refine x_iload (pc' := 93) rfl rfl rfl ?_
        refine x_iload (pc' := 95) rfl rfl rfl ?_
        refine x_callS (pc' := 98) (d1 := 2) (As := [_, _, _]) rfl rfl rfl rfl (by decide) rfl rfl (Nat.le_of_ble_eq_true rfl) ⟨rfl, rfl⟩ (by omega) ?_
        refine v_X1_stands hk ha (show i < mB k by omega) (fun hs => ?_) (fun hs => ?_)
        · refine ⟨rfl, ?_⟩
          refine x_if_eq (pc' := 101) rfl rfl (fun c98 => absurd c98 (by decide)) (fun _ => ?_)
          refine x_aload (pc' := 102) rfl rfl rfl ?_
          refine x_iload (pc' := 103) rfl rfl rfl ?_
          refine x_iload (pc' := 105) rfl rfl rfl ?_
          refine x_iload (pc' := 107) rfl rfl rfl ?_
          refine x_iload (pc' := 109) rfl rfl rfl ?_
          refine x_iload (pc' := 110) rfl rfl rfl ?_
          refine x_callV (pc' := 113) (d1 := 2) (Bs := [_, _, _, _, _]) rfl rfl rfl rfl rfl rfl rfl (Nat.le_of_ble_eq_true rfl) ⟨rfl, rfl⟩ (by decide) rfl (by omega) ?_
          refine w_X4_tryOne hs hr hN hV hNl hVl hz (by omega) (fun D1 o1 e5 e6 z1 => ?_)
          refine ⟨rfl, ?_⟩
          refine y_inc (pc' := 116) (lv' := [_, _, _, _, _, _, _, _, _, _]) rfl rfl rfl (by decide) rfl ?_
          refine x_goto rfl ?_
          first
            | (refine ih (i + 1) D1 _ (by omega) (o.tr o1) (e5.trans hN) (e6.trans hV) ?_
               show SlC _ (slS (c k a i) w k a i _)
               rw [hc k a i hs, show decide (kd T w = k ∧ fa T w = a ∧ fb T w = i) = false from decide_eq_false hh]
               exact z1)
            | (refine ih (i + 1) D _ (by omega) o hN hV ?_
               show SlC _ (slS (c k a i) w k a i _)
               rw [hc0 k a i hs]
               exact hz)
            | (refine ih (i + 1) D _ (by omega) o hN hV ?_
               show SlC _ (slS (c k a i) w k a i _)
               have hcf : c k a i = false := by
                 by_cases hs : hok k a i
                 · rw [hc k a i hs, show decide (kd T w = k ∧ fa T w = a ∧ fb T w = i) = true from decide_eq_true ⟨h1, h2, h3⟩]; rfl
                 · exact hc0 k a i hs
               rw [hcf]
               exact hz)
        · refine ⟨rfl, ?_⟩
          refine x_if_eq (pc' := 101) rfl rfl (fun _ => ?_) (fun c98 => absurd (by decide) c98)
          refine y_inc (pc' := 116) (lv' := [_, _, _, _, _, _, _, _, _, _]) rfl rfl rfl (by decide) rfl ?_
          refine x_goto rfl ?_
          first
            | (refine ih (i + 1) D1 _ (by omega) (o.tr o1) (e5.trans hN) (e6.trans hV) ?_
               show SlC _ (slS (c k a i) w k a i _)
               rw [hc k a i hs, show decide (kd T w = k ∧ fa T w = a ∧ fb T w = i) = false from decide_eq_false hh]
               exact z1)
            | (refine ih (i + 1) D _ (by omega) o hN hV ?_
               show SlC _ (slS (c k a i) w k a i _)
               rw [hc0 k a i hs]
               exact hz)
            | (refine ih (i + 1) D _ (by omega) o hN hV ?_
               show SlC _ (slS (c k a i) w k a i _)
               have hcf : c k a i = false := by
                 by_cases hs : hok k a i
                 · rw [hc k a i hs, show decide (kd T w = k ∧ fa T w = a ∧ fb T w = i) = true from decide_eq_true ⟨h1, h2, h3⟩]; rfl
                 · exact hc0 k a i hs
               rw [hcf]
               exact hz)
set_option maxRecDepth 20000 in
set_option maxHeartbeats 1000000 in
theorem l1_X4_tryHabits {L : Nat → Nat → Int64} {Q : bh_Q} {d : Nat} (hd : 2 ≤ d) {T : TW} (hW : WF T) {w row N V : Nat} (hw : w < nw T) (hr : row < 65536) (hNl : N < 65536) (hVl : V < 65536) {c : Nat → Nat → Nat → Bool} (hc : ∀ k a b, hok k a b → c k a b = (!decide (kd T w = k ∧ fa T w = a ∧ fb T w = b) && decide (hab k a b row &&& N = V))) (hc0 : ∀ k a b, ¬ hok k a b → c k a b = false) {z0 : Sl} {D0 : Nat → Nat → Int32} (hT0 : tv D0 = T) {k : Nat} (hk : k < 7) (hzl : z0.1 + 256 < 1000000) (kE : ∀ D a8 a9, OffS D0 D → D 37 5 = nI N → D 37 6 = nI V → SlC (D 37) (fA c w k (mA k) z0) → bw m_X4_tryHabits d Q 125 [.ref 37, .ref 1, .int (nI w), .int (nI row), .int (nI k), .int (nI (mA k)), .int (nI (mB k)), .int (nI (mA k)), a8, a9] [] D L) : ∀ (f i : Nat) (D : Nat → Nat → Int32) (a8 : Value) (a9 : Value), i + f = mA k → (OffS D0 D) → (D 37 5 = nI N) → (D 37 6 = nI V) → (SlC (D 37) (fA c w k i z0)) → bw m_X4_tryHabits d Q 46 [.ref 37, .ref 1, .int (nI w), .int (nI row), .int (nI k), .int (nI (mA k)), .int (nI (mB k)), .int (nI i), a8, a9] [] D L := by
  intro f
  induction f with
  | zero =>
    intro i D a8 a9 hf o hN hV hz
    have hbl := fA_le (c := c) (w := w) (k := k) i z0
    have hmb := mB_le k
    have hma := mA_le k
    refine x_iload (pc' := 48) rfl rfl rfl ?_
    refine x_iload (pc' := 50) rfl rfl rfl ?_
    refine y_ic_ge (pc' := 53) rfl rfl (by omega) (by omega) (fun c50 => ?_) (fun c50 => ?_)
    · obtain rfl : i = mA k := by omega
      exact kE D _ _ o hN hV hz
    · exact absurd c50 (by omega)
  | succ f ih =>
    intro i D a8 a9 hf o hN hV hz
    have hbl := fA_le (c := c) (w := w) (k := k) i z0
    have hmb := mB_le k
    have hma := mA_le k
    refine x_iload (pc' := 48) rfl rfl rfl ?_
    refine x_iload (pc' := 50) rfl rfl rfl ?_
    refine y_ic_ge (pc' := 53) rfl rfl (by omega) (by omega) (fun c50 => ?_) (fun c50 => ?_)
    · exact absurd c50 (by omega)
    · refine x_int (pc' := 54) (v := nI 0) rfl rfl rfl ?_
      refine x_istore (pc' := 56) (lv' := [_, _, _, _, _, _, _, _, _, _]) rfl rfl (by decide) rfl ?_
      refine l0_X4_tryHabits (d := d) hd hW hw hr hNl hVl hc hc0 (z0 := fA c w k i z0) (D0 := D0) hT0 hk (show i < mA k by omega) (by omega) (fun D2 b9 o2 n2 v2 z2 => ?_) (mB k) 0 D _ (Nat.zero_add _) o hN hV hz
      refine y_inc (pc' := 122) (lv' := [_, _, _, _, _, _, _, _, _, _]) rfl rfl rfl (by decide) rfl ?_
      refine x_goto rfl ?_
      exact ih (i + 1) D2 _ _ (by omega) o2 n2 v2 z2
theorem sgA (k : Nat) : (sg k = 0 ∧ k = 0) ∨ (sg k = 1 ∧ 1 ≤ k ∧ k < 5) ∨ (sg k = 2 ∧ 5 ≤ k) := by
  unfold sg
  by_cases h : k = 0
  · rw [if_pos h]; omega
  · rw [if_neg h]
    by_cases h5 : 5 ≤ k
    · rw [if_pos h5]; omega
    · rw [if_neg h5]; omega
set_option maxRecDepth 20000 in
set_option maxHeartbeats 1000000 in
theorem l2_X4_tryHabits {L : Nat → Nat → Int64} {Q : bh_Q} {d : Nat} (hd : 2 ≤ d) {T : TW} (hW : WF T) {w row N V : Nat} (hw : w < nw T) (hr : row < 65536) (hNl : N < 65536) (hVl : V < 65536) {c : Nat → Nat → Nat → Bool} (hc : ∀ k a b, hok k a b → c k a b = (!decide (kd T w = k ∧ fa T w = a ∧ fb T w = b) && decide (hab k a b row &&& N = V))) (hc0 : ∀ k a b, ¬ hok k a b → c k a b = false) {z0 : Sl} {D0 : Nat → Nat → Int32} (hT0 : tv D0 = T) (hzl : z0.1 + 1792 < 1000000) (kE : ∀ D, OffS D0 D → SlC (D 37) (fK c w 7 z0) → Q none (hp D L)) : ∀ (f i : Nat) (D : Nat → Nat → Int32) (a5 : Value) (a6 : Value) (a7 : Value) (a8 : Value) (a9 : Value), i + f = 7 → (OffS D0 D) → (D 37 5 = nI N) → (D 37 6 = nI V) → (SlC (D 37) (fK c w i z0)) → bw m_X4_tryHabits d Q 3 [.ref 37, .ref 1, .int (nI w), .int (nI row), .int (nI i), a5, a6, a7, a8, a9] [] D L := by
  intro f
  induction f with
  | zero =>
    intro i D a5 a6 a7 a8 a9 hf o hN hV hz
    have hbl := fK_le (c := c) (w := w) i z0
    refine x_iload (pc' := 5) rfl rfl rfl ?_
    refine x_int (pc' := 7) (v := nI 6) rfl rfl rfl ?_
    refine y_ic_gt (pc' := 10) rfl rfl (by omega) (by omega) (fun c7 => ?_) (fun c7 => ?_)
    · refine x_vret rfl rfl ?_
      obtain rfl : i = 7 := by omega
      exact kE D o hz
    · exact absurd c7 (by omega)
  | succ f ih =>
    intro i D a5 a6 a7 a8 a9 hf o hN hV hz
    have hbl := fK_le (c := c) (w := w) i z0
    refine x_iload (pc' := 5) rfl rfl rfl ?_
    refine x_int (pc' := 7) (v := nI 6) rfl rfl rfl ?_
    refine y_ic_gt (pc' := 10) rfl rfl (by omega) (by omega) (fun c7 => ?_) (fun c7 => ?_)
    · exact absurd c7 (by omega)
    · refine x_iload (pc' := 12) rfl rfl rfl ?_
      refine x_callS (pc' := 15) (d1 := 1) (As := [_]) rfl rfl rfl rfl (by decide) rfl rfl (Nat.le_of_ble_eq_true rfl) ⟨rfl, rfl⟩ (by omega) ?_
      refine w_X1_signsOf (show i < 7 by omega) ?_
      refine ⟨rfl, ?_⟩
      have hsg : sg i < 3 := by unfold sg; split; decide; split <;> decide
      refine y_if_le (pc' := 18) rfl rfl (by omega) (fun c15 => ?_) (fun c15 => ?_)
      · refine x_int (pc' := 24) (v := nI 1) rfl rfl rfl ?_
        refine x_istore (pc' := 26) (lv' := [_, _, _, _, _, _, _, _, _, _]) rfl rfl (by decide) rfl ?_
        refine x_iload (pc' := 28) rfl rfl rfl ?_
        refine x_callS (pc' := 31) (d1 := 1) (As := [_]) rfl rfl rfl rfl (by decide) rfl rfl (Nat.le_of_ble_eq_true rfl) ⟨rfl, rfl⟩ (by omega) ?_
        refine w_X1_signsOf (show i < 7 by omega) ?_
        refine ⟨rfl, ?_⟩
        have hsg : sg i < 3 := by unfold sg; split; decide; split <;> decide
        refine x_int (pc' := 32) (v := nI 1) rfl rfl rfl ?_
        refine y_ic_le (pc' := 35) rfl rfl (by omega) (by omega) (fun c32 => ?_) (fun c32 => ?_)
        · refine x_int (pc' := 41) (v := nI 1) rfl rfl rfl ?_
          refine x_istore (pc' := 43) (lv' := [_, _, _, _, _, _, _, _, _, _]) rfl rfl (by decide) rfl ?_
          refine x_int (pc' := 44) (v := nI 0) rfl rfl rfl ?_
          refine x_istore (pc' := 46) (lv' := [_, _, _, _, _, _, _, _, _, _]) rfl rfl (by decide) rfl ?_
          first
            | (have ea : mA i = 1 := by have := sgA i; unfold mA; split <;> omega
               have eb : mB i = 1 := by have := sgA i; unfold mB; split <;> omega
               have hl := (l1_X4_tryHabits (L := L) (Q := Q) (d := d) hd hW hw hr hNl hVl hc hc0 (z0 := fK c w i z0) (D0 := D0) hT0 (show i < 7 by omega) (by omega) (fun D2 b8 b9 o2 n2 v2 z2 => ?kk) (mA i) 0 D a8 a9 (Nat.zero_add _) o hN hV hz)
               case kk =>
                 refine y_inc (pc' := 128) (lv' := [_, _, _, _, _, _, _, _, _, _]) rfl rfl rfl (by decide) rfl ?_
                 refine x_goto rfl ?_
                 exact ih (i + 1) D2 _ _ _ _ _ (by omega) o2 n2 v2 z2
               rw [ea, eb] at hl
               exact hl)
            | (have ea : mA i = 16 := by have := sgA i; unfold mA; split <;> omega
               have eb : mB i = 1 := by have := sgA i; unfold mB; split <;> omega
               have hl := (l1_X4_tryHabits (L := L) (Q := Q) (d := d) hd hW hw hr hNl hVl hc hc0 (z0 := fK c w i z0) (D0 := D0) hT0 (show i < 7 by omega) (by omega) (fun D2 b8 b9 o2 n2 v2 z2 => ?kk) (mA i) 0 D a8 a9 (Nat.zero_add _) o hN hV hz)
               case kk =>
                 refine y_inc (pc' := 128) (lv' := [_, _, _, _, _, _, _, _, _, _]) rfl rfl rfl (by decide) rfl ?_
                 refine x_goto rfl ?_
                 exact ih (i + 1) D2 _ _ _ _ _ (by omega) o2 n2 v2 z2
               rw [ea, eb] at hl
               exact hl)
            | (have ea : mA i = 16 := by have := sgA i; unfold mA; split <;> omega
               have eb : mB i = 16 := by have := sgA i; unfold mB; split <;> omega
               have hl := (l1_X4_tryHabits (L := L) (Q := Q) (d := d) hd hW hw hr hNl hVl hc hc0 (z0 := fK c w i z0) (D0 := D0) hT0 (show i < 7 by omega) (by omega) (fun D2 b8 b9 o2 n2 v2 z2 => ?kk) (mA i) 0 D a8 a9 (Nat.zero_add _) o hN hV hz)
               case kk =>
                 refine y_inc (pc' := 128) (lv' := [_, _, _, _, _, _, _, _, _, _]) rfl rfl rfl (by decide) rfl ?_
                 refine x_goto rfl ?_
                 exact ih (i + 1) D2 _ _ _ _ _ (by omega) o2 n2 v2 z2
               rw [ea, eb] at hl
               exact hl)
            | (exfalso; have := sgA i; omega)
        · refine x_int (pc' := 37) (v := nI 16) rfl rfl rfl ?_
          refine x_goto rfl ?_
          refine x_istore (pc' := 43) (lv' := [_, _, _, _, _, _, _, _, _, _]) rfl rfl (by decide) rfl ?_
          refine x_int (pc' := 44) (v := nI 0) rfl rfl rfl ?_
          refine x_istore (pc' := 46) (lv' := [_, _, _, _, _, _, _, _, _, _]) rfl rfl (by decide) rfl ?_
          first
            | (have ea : mA i = 1 := by have := sgA i; unfold mA; split <;> omega
               have eb : mB i = 1 := by have := sgA i; unfold mB; split <;> omega
               have hl := (l1_X4_tryHabits (L := L) (Q := Q) (d := d) hd hW hw hr hNl hVl hc hc0 (z0 := fK c w i z0) (D0 := D0) hT0 (show i < 7 by omega) (by omega) (fun D2 b8 b9 o2 n2 v2 z2 => ?kk) (mA i) 0 D a8 a9 (Nat.zero_add _) o hN hV hz)
               case kk =>
                 refine y_inc (pc' := 128) (lv' := [_, _, _, _, _, _, _, _, _, _]) rfl rfl rfl (by decide) rfl ?_
                 refine x_goto rfl ?_
                 exact ih (i + 1) D2 _ _ _ _ _ (by omega) o2 n2 v2 z2
               rw [ea, eb] at hl
               exact hl)
            | (have ea : mA i = 16 := by have := sgA i; unfold mA; split <;> omega
               have eb : mB i = 1 := by have := sgA i; unfold mB; split <;> omega
               have hl := (l1_X4_tryHabits (L := L) (Q := Q) (d := d) hd hW hw hr hNl hVl hc hc0 (z0 := fK c w i z0) (D0 := D0) hT0 (show i < 7 by omega) (by omega) (fun D2 b8 b9 o2 n2 v2 z2 => ?kk) (mA i) 0 D a8 a9 (Nat.zero_add _) o hN hV hz)
               case kk =>
                 refine y_inc (pc' := 128) (lv' := [_, _, _, _, _, _, _, _, _, _]) rfl rfl rfl (by decide) rfl ?_
                 refine x_goto rfl ?_
                 exact ih (i + 1) D2 _ _ _ _ _ (by omega) o2 n2 v2 z2
               rw [ea, eb] at hl
               exact hl)
            | (have ea : mA i = 16 := by have := sgA i; unfold mA; split <;> omega
               have eb : mB i = 16 := by have := sgA i; unfold mB; split <;> omega
               have hl := (l1_X4_tryHabits (L := L) (Q := Q) (d := d) hd hW hw hr hNl hVl hc hc0 (z0 := fK c w i z0) (D0 := D0) hT0 (show i < 7 by omega) (by omega) (fun D2 b8 b9 o2 n2 v2 z2 => ?kk) (mA i) 0 D a8 a9 (Nat.zero_add _) o hN hV hz)
               case kk =>
                 refine y_inc (pc' := 128) (lv' := [_, _, _, _, _, _, _, _, _, _]) rfl rfl rfl (by decide) rfl ?_
                 refine x_goto rfl ?_
                 exact ih (i + 1) D2 _ _ _ _ _ (by omega) o2 n2 v2 z2
               rw [ea, eb] at hl
               exact hl)
            | (exfalso; have := sgA i; omega)
      · refine x_int (pc' := 20) (v := nI 16) rfl rfl rfl ?_
        refine x_goto rfl ?_
        refine x_istore (pc' := 26) (lv' := [_, _, _, _, _, _, _, _, _, _]) rfl rfl (by decide) rfl ?_
        refine x_iload (pc' := 28) rfl rfl rfl ?_
        refine x_callS (pc' := 31) (d1 := 1) (As := [_]) rfl rfl rfl rfl (by decide) rfl rfl (Nat.le_of_ble_eq_true rfl) ⟨rfl, rfl⟩ (by omega) ?_
        refine w_X1_signsOf (show i < 7 by omega) ?_
        refine ⟨rfl, ?_⟩
        have hsg : sg i < 3 := by unfold sg; split; decide; split <;> decide
        refine x_int (pc' := 32) (v := nI 1) rfl rfl rfl ?_
        refine y_ic_le (pc' := 35) rfl rfl (by omega) (by omega) (fun c32 => ?_) (fun c32 => ?_)
        · refine x_int (pc' := 41) (v := nI 1) rfl rfl rfl ?_
          refine x_istore (pc' := 43) (lv' := [_, _, _, _, _, _, _, _, _, _]) rfl rfl (by decide) rfl ?_
          refine x_int (pc' := 44) (v := nI 0) rfl rfl rfl ?_
          refine x_istore (pc' := 46) (lv' := [_, _, _, _, _, _, _, _, _, _]) rfl rfl (by decide) rfl ?_
          first
            | (have ea : mA i = 1 := by have := sgA i; unfold mA; split <;> omega
               have eb : mB i = 1 := by have := sgA i; unfold mB; split <;> omega
               have hl := (l1_X4_tryHabits (L := L) (Q := Q) (d := d) hd hW hw hr hNl hVl hc hc0 (z0 := fK c w i z0) (D0 := D0) hT0 (show i < 7 by omega) (by omega) (fun D2 b8 b9 o2 n2 v2 z2 => ?kk) (mA i) 0 D a8 a9 (Nat.zero_add _) o hN hV hz)
               case kk =>
                 refine y_inc (pc' := 128) (lv' := [_, _, _, _, _, _, _, _, _, _]) rfl rfl rfl (by decide) rfl ?_
                 refine x_goto rfl ?_
                 exact ih (i + 1) D2 _ _ _ _ _ (by omega) o2 n2 v2 z2
               rw [ea, eb] at hl
               exact hl)
            | (have ea : mA i = 16 := by have := sgA i; unfold mA; split <;> omega
               have eb : mB i = 1 := by have := sgA i; unfold mB; split <;> omega
               have hl := (l1_X4_tryHabits (L := L) (Q := Q) (d := d) hd hW hw hr hNl hVl hc hc0 (z0 := fK c w i z0) (D0 := D0) hT0 (show i < 7 by omega) (by omega) (fun D2 b8 b9 o2 n2 v2 z2 => ?kk) (mA i) 0 D a8 a9 (Nat.zero_add _) o hN hV hz)
               case kk =>
                 refine y_inc (pc' := 128) (lv' := [_, _, _, _, _, _, _, _, _, _]) rfl rfl rfl (by decide) rfl ?_
                 refine x_goto rfl ?_
                 exact ih (i + 1) D2 _ _ _ _ _ (by omega) o2 n2 v2 z2
               rw [ea, eb] at hl
               exact hl)
            | (have ea : mA i = 16 := by have := sgA i; unfold mA; split <;> omega
               have eb : mB i = 16 := by have := sgA i; unfold mB; split <;> omega
               have hl := (l1_X4_tryHabits (L := L) (Q := Q) (d := d) hd hW hw hr hNl hVl hc hc0 (z0 := fK c w i z0) (D0 := D0) hT0 (show i < 7 by omega) (by omega) (fun D2 b8 b9 o2 n2 v2 z2 => ?kk) (mA i) 0 D a8 a9 (Nat.zero_add _) o hN hV hz)
               case kk =>
                 refine y_inc (pc' := 128) (lv' := [_, _, _, _, _, _, _, _, _, _]) rfl rfl rfl (by decide) rfl ?_
                 refine x_goto rfl ?_
                 exact ih (i + 1) D2 _ _ _ _ _ (by omega) o2 n2 v2 z2
               rw [ea, eb] at hl
               exact hl)
            | (exfalso; have := sgA i; omega)
        · refine x_int (pc' := 37) (v := nI 16) rfl rfl rfl ?_
          refine x_goto rfl ?_
          refine x_istore (pc' := 43) (lv' := [_, _, _, _, _, _, _, _, _, _]) rfl rfl (by decide) rfl ?_
          refine x_int (pc' := 44) (v := nI 0) rfl rfl rfl ?_
          refine x_istore (pc' := 46) (lv' := [_, _, _, _, _, _, _, _, _, _]) rfl rfl (by decide) rfl ?_
          first
            | (have ea : mA i = 1 := by have := sgA i; unfold mA; split <;> omega
               have eb : mB i = 1 := by have := sgA i; unfold mB; split <;> omega
               have hl := (l1_X4_tryHabits (L := L) (Q := Q) (d := d) hd hW hw hr hNl hVl hc hc0 (z0 := fK c w i z0) (D0 := D0) hT0 (show i < 7 by omega) (by omega) (fun D2 b8 b9 o2 n2 v2 z2 => ?kk) (mA i) 0 D a8 a9 (Nat.zero_add _) o hN hV hz)
               case kk =>
                 refine y_inc (pc' := 128) (lv' := [_, _, _, _, _, _, _, _, _, _]) rfl rfl rfl (by decide) rfl ?_
                 refine x_goto rfl ?_
                 exact ih (i + 1) D2 _ _ _ _ _ (by omega) o2 n2 v2 z2
               rw [ea, eb] at hl
               exact hl)
            | (have ea : mA i = 16 := by have := sgA i; unfold mA; split <;> omega
               have eb : mB i = 1 := by have := sgA i; unfold mB; split <;> omega
               have hl := (l1_X4_tryHabits (L := L) (Q := Q) (d := d) hd hW hw hr hNl hVl hc hc0 (z0 := fK c w i z0) (D0 := D0) hT0 (show i < 7 by omega) (by omega) (fun D2 b8 b9 o2 n2 v2 z2 => ?kk) (mA i) 0 D a8 a9 (Nat.zero_add _) o hN hV hz)
               case kk =>
                 refine y_inc (pc' := 128) (lv' := [_, _, _, _, _, _, _, _, _, _]) rfl rfl rfl (by decide) rfl ?_
                 refine x_goto rfl ?_
                 exact ih (i + 1) D2 _ _ _ _ _ (by omega) o2 n2 v2 z2
               rw [ea, eb] at hl
               exact hl)
            | (have ea : mA i = 16 := by have := sgA i; unfold mA; split <;> omega
               have eb : mB i = 16 := by have := sgA i; unfold mB; split <;> omega
               have hl := (l1_X4_tryHabits (L := L) (Q := Q) (d := d) hd hW hw hr hNl hVl hc hc0 (z0 := fK c w i z0) (D0 := D0) hT0 (show i < 7 by omega) (by omega) (fun D2 b8 b9 o2 n2 v2 z2 => ?kk) (mA i) 0 D a8 a9 (Nat.zero_add _) o hN hV hz)
               case kk =>
                 refine y_inc (pc' := 128) (lv' := [_, _, _, _, _, _, _, _, _, _]) rfl rfl rfl (by decide) rfl ?_
                 refine x_goto rfl ?_
                 exact ih (i + 1) D2 _ _ _ _ _ (by omega) o2 n2 v2 z2
               rw [ea, eb] at hl
               exact hl)
            | (exfalso; have := sgA i; omega)
set_option maxRecDepth 20000 in
set_option maxHeartbeats 1000000 in
theorem w_X4_tryHabits {D : Nat → Nat → Int32} {L : Nat → Nat → Int64} {Q : bh_Q} {T : TW} (hW : WF T) {w row N V : Nat} (hw : w < nw T) (hr : row < 65536) (hNl : N < 65536) (hVl : V < 65536) {c : Nat → Nat → Nat → Bool} (hc : ∀ k a b, hok k a b → c k a b = (!decide (kd T w = k ∧ fa T w = a ∧ fb T w = b) && decide (hab k a b row &&& N = V))) (hc0 : ∀ k a b, ¬ hok k a b → c k a b = false) {z0 : Sl} (hT : tv D = T) (hN : D 37 5 = nI N) (hV : D 37 6 = nI V) (hz : SlC (D 37) z0) (hzl : z0.1 + 1792 < 1000000) (k1 : ∀ D', OffS D D' → SlC (D' 37) (fK c w 7 z0) → Q none (hp D' L)) : bh_wc 3 m_X4_tryHabits [.ref 37, .ref 1, .int (nI w), .int (nI row)] (hp D L) Q := by
  refine x_start (lv0 := [_, _, _, _, _, _, _, _, _, _]) (Nat.le_of_ble_eq_true rfl) rfl ?_
  refine x_int (pc' := 1) (v := nI 0) rfl rfl rfl ?_
  refine x_istore (pc' := 3) (lv' := [_, _, _, _, _, _, _, _, _, _]) rfl rfl (by decide) rfl ?_
  exact l2_X4_tryHabits (d := 2) (Nat.le_refl _) hW hw hr hNl hVl hc hc0 (D0 := D) hT hzl k1 7 0 D _ _ _ _ _ rfl OffS.rf hN hV hz
theorem SlC.cg {a a' : Nat → Int32} {z : Sl} (h : SlC a z) (e : ∀ j, j < 5 → a' j = a j) : SlC a' z := by
  unfold SlC
  rw [e 0 (by decide), e 1 (by decide), e 2 (by decide), e 3 (by decide), e 4 (by decide)]
  exact h
theorem fP_1 {T : TW} {l : List Nat} {page line w p : Nat} {z : Sl} (h1 : l.getD p 0 = w) (h2 : isM T w = false) : fP T l page line w (p + 1) z = fK (slB T l p page line w) w 7 (fP T l page line w p z) := if_pos ⟨h1, h2⟩
theorem fP_0 {T : TW} {l : List Nat} {page line w p : Nat} {z : Sl} (h : ¬ (l.getD p 0 = w ∧ isM T w = false)) : fP T l page line w (p + 1) z = fP T l page line w p z := if_neg h
theorem slB_c {T : TW} (hW : WF T) {l : List Nat} (hl : ∀ w ∈ l, w < nw T) {p page line w N V : Nat} (hp : page < 65536) (hd : ∀ y, y < 65536 → (y &&& N = V ↔ up T (l.take p) y = line)) (k a b : Nat) (h : hok k a b) : slB T l p page line w k a b = (!decide (kd T w = k ∧ fa T w = a ∧ fb T w = b) && decide (hab k a b (up T (l.drop (p + 1)) page) &&& N = V)) := by
  unfold slB
  rw [hokB_iff.mpr h, Bool.true_and]
  congr 1
  exact decide_eq_decide.mpr (hd _ (hab_lt h (up_lt hW (fun w hw => hl w (List.mem_of_mem_drop hw)) hp))).symm
theorem slB_n {T : TW} {l : List Nat} {p page line w : Nat} (k a b : Nat) (h : ¬ hok k a b) : slB T l p page line w k a b = false := by
  unfold slB
  rw [show hokB k a b = false from Bool.eq_false_iff.mpr (fun z => h (hokB_iff.mp z))]; rfl
set_option maxRecDepth 20000 in
set_option maxHeartbeats 1000000 in
theorem l0_X4_search {L : Nat → Nat → Int64} {Q : bh_Q} {d : Nat} (hd : 3 ≤ d) {T : TW} (hW : WF T) {l : List Nat} (hm : ∀ w ∈ l, w < nw T) (hlen : l.length ≤ 12) {page line : Nat} (hpg : page < 65536) (hline : line < 65536) {D0 : Nat → Nat → Int32} (hT0 : tv D0 = T) (hH0 : HdL D0 l) {z0 : Sl} {w : Nat} (hw : w < nw T) (hzl : z0.1 + 21504 < 1000000) (kE : ∀ D a7, OffS D0 D → SlC (D 37) (fP T l page line w l.length z0) → bw m_X4_search d Q 102 [.ref 37, .ref 1, .ref 31, .int (nI page), .int (nI line), .int (nI w), .int (nI l.length), a7] [] D L) : ∀ (f i : Nat) (D : Nat → Nat → Int32) (a7 : Value), i + f = l.length → (OffS D0 D) → (SlC (D 37) (fP T l page line w i z0)) → bw m_X4_search d Q 20 [.ref 37, .ref 1, .ref 31, .int (nI page), .int (nI line), .int (nI w), .int (nI i), a7] [] D L := by
  intro f
  induction f with
  | zero =>
    intro i D a7 hf o hz
    have hT : tv D = T := o.c.tv.trans hT0
    have hH := o.hd hH0
    have hfl := fP_le (T := T) (l := l) (page := page) (line := line) (w := w) i z0
    have h12 := hW.nwl
    refine x_iload (pc' := 22) rfl rfl rfl ?_
    refine x_aload (pc' := 23) rfl rfl rfl ?_
    refine x_getI (j := 1) (pc' := 26) rfl rfl rfl (by decide) rfl (by decide) rfl rfl ?_
    refine x_top (hH.1) ?_
    refine y_ic_ge (pc' := 29) rfl rfl (by omega) (by omega) (fun c26 => ?_) (fun c26 => ?_)
    · obtain rfl : i = l.length := by omega
      exact kE D _ o hz
    · exact absurd c26 (by omega)
  | succ f ih =>
    intro i D a7 hf o hz
    have hT : tv D = T := o.c.tv.trans hT0
    have hH := o.hd hH0
    have hfl := fP_le (T := T) (l := l) (page := page) (line := line) (w := w) i z0
    have h12 := hW.nwl
    have hgl : l.getD i 0 < nw T := hm _ (getD_mem (by omega))
    refine x_iload (pc' := 22) rfl rfl rfl ?_
    refine x_aload (pc' := 23) rfl rfl rfl ?_
    refine x_getI (j := 1) (pc' := 26) rfl rfl rfl (by decide) rfl (by decide) rfl rfl ?_
    refine x_top (hH.1) ?_
    refine y_ic_ge (pc' := 29) rfl rfl (by omega) (by omega) (fun c26 => ?_) (fun c26 => ?_)
    · exact absurd c26 (by omega)
    · refine x_aload (pc' := 30) rfl rfl rfl ?_
      refine x_getR (pc' := 33) rfl rfl rfl (by decide) rfl (by decide) rfl rfl ?_
      refine x_iload (pc' := 35) rfl rfl rfl ?_
      refine x_iald (pc' := 36) rfl rfl (by decide) rfl (by decide) (show _ < 12 by omega) ?_
      refine x_top (hH.2 i (by omega)) ?_
      refine x_iload (pc' := 38) rfl rfl rfl ?_
      refine y_ic_ne (pc' := 41) rfl rfl (by omega) (by omega) (fun c38 => ?_) (fun c38 => ?_)
      · refine x_int (pc' := 55) (v := nI 0) rfl rfl rfl ?_
        refine x_istore (pc' := 57) (lv' := [_, _, _, _, _, _, _, _]) rfl rfl (by decide) rfl ?_
        refine x_iload (pc' := 59) rfl rfl rfl ?_
        refine x_if_eq (pc' := 62) rfl rfl (fun _ => ?_) (fun c59 => absurd (by decide) c59)
        refine y_inc (pc' := 99) (lv' := [_, _, _, _, _, _, _, _]) rfl rfl rfl (by decide) rfl ?_
        refine x_goto rfl ?_
        first
          | exact ih (i + 1) D2 _ (by omega) ((o.tr o1).tr o2) (by rw [fP_1 c38 hM]; exact z2)
          | exact ih (i + 1) D1 _ (by omega) (o.tr o1) (by rw [fP_1 c38 hM, fK_0 (slB_no hW hm hpg hno)]; exact hz.cg s1)
          | exact ih (i + 1) D _ (by omega) o (by rw [fP_0 (fun q => c38 q.1)]; exact hz)
          | exact ih (i + 1) D _ (by omega) o (by rw [fP_0 (fun q => by rw [hM] at q; exact absurd q.2 (by decide))]; exact hz)
      · refine x_aload (pc' := 42) rfl rfl rfl ?_
        refine x_iload (pc' := 44) rfl rfl rfl ?_
        refine x_callV (pc' := 47) (d1 := 1) (Bs := [_]) rfl rfl rfl rfl rfl rfl rfl (Nat.le_of_ble_eq_true rfl) ⟨rfl, rfl⟩ (by decide) rfl (by omega) ?_
        refine w_X7_inMood (D := D) (by rw [hT]; exact hW) (by rw [hT]; exact hw) (fun hM => ?_) (fun hM => ?_)
        · rw [hT] at hM
          refine ⟨rfl, ?_⟩
          refine x_if_ne (pc' := 50) rfl rfl (fun _ => ?_) (fun c47 => absurd c47 (by decide))
          refine x_int (pc' := 55) (v := nI 0) rfl rfl rfl ?_
          refine x_istore (pc' := 57) (lv' := [_, _, _, _, _, _, _, _]) rfl rfl (by decide) rfl ?_
          refine x_iload (pc' := 59) rfl rfl rfl ?_
          refine x_if_eq (pc' := 62) rfl rfl (fun _ => ?_) (fun c59 => absurd (by decide) c59)
          refine y_inc (pc' := 99) (lv' := [_, _, _, _, _, _, _, _]) rfl rfl rfl (by decide) rfl ?_
          refine x_goto rfl ?_
          first
            | exact ih (i + 1) D2 _ (by omega) ((o.tr o1).tr o2) (by rw [fP_1 c38 hM]; exact z2)
            | exact ih (i + 1) D1 _ (by omega) (o.tr o1) (by rw [fP_1 c38 hM, fK_0 (slB_no hW hm hpg hno)]; exact hz.cg s1)
            | exact ih (i + 1) D _ (by omega) o (by rw [fP_0 (fun q => c38 q.1)]; exact hz)
            | exact ih (i + 1) D _ (by omega) o (by rw [fP_0 (fun q => by rw [hM] at q; exact absurd q.2 (by decide))]; exact hz)
        · rw [hT] at hM
          refine ⟨rfl, ?_⟩
          refine x_if_ne (pc' := 50) rfl rfl (fun c47 => absurd (by decide) c47) (fun _ => ?_)
          refine x_int (pc' := 51) (v := nI 1) rfl rfl rfl ?_
          refine x_goto rfl ?_
          refine x_istore (pc' := 57) (lv' := [_, _, _, _, _, _, _, _]) rfl rfl (by decide) rfl ?_
          refine x_iload (pc' := 59) rfl rfl rfl ?_
          refine x_if_eq (pc' := 62) rfl rfl (fun c59 => absurd c59 (by decide)) (fun _ => ?_)
          refine x_aload (pc' := 63) rfl rfl rfl ?_
          refine x_aload (pc' := 64) rfl rfl rfl ?_
          refine x_aload (pc' := 65) rfl rfl rfl ?_
          refine x_iload (pc' := 67) rfl rfl rfl ?_
          refine x_iload (pc' := 69) rfl rfl rfl ?_
          refine x_callV (pc' := 72) (d1 := 3) (Bs := [_, _, _, _]) rfl rfl rfl rfl rfl rfl rfl (Nat.le_of_ble_eq_true rfl) ⟨rfl, rfl⟩ (by decide) rfl (by omega) ?_
          refine w_X4_findDemand hW hm hlen (show i ≤ l.length by omega) hline hT hH (fun D1 N V o1 s1 n1 v1 Nl Vl hd => ?_) (fun D1 o1 s1 hno => ?_)
          · refine ⟨rfl, ?_⟩
            refine x_if_eq (pc' := 75) rfl rfl (fun c72 => absurd c72 (by decide)) (fun _ => ?_)
            refine x_aload (pc' := 76) rfl rfl rfl ?_
            refine x_aload (pc' := 77) rfl rfl rfl ?_
            refine x_iload (pc' := 79) rfl rfl rfl ?_
            refine x_aload (pc' := 80) rfl rfl rfl ?_
            refine x_aload (pc' := 81) rfl rfl rfl ?_
            refine x_iload (pc' := 83) rfl rfl rfl ?_
            refine x_int (pc' := 84) (v := nI 1) rfl rfl rfl ?_
            refine y_iadd (pc' := 85) rfl rfl ?_
            refine x_aload (pc' := 86) rfl rfl rfl ?_
            refine x_getI (j := 1) (pc' := 89) rfl rfl rfl (by decide) rfl (by decide) rfl rfl ?_
            refine x_top ((congrFun (o1 31 (by decide)) 1).trans hH.1) ?_
            refine x_iload (pc' := 90) rfl rfl rfl ?_
            refine x_callV (pc' := 93) (d1 := 2) (Bs := [_, _, _, _]) rfl rfl rfl rfl rfl rfl rfl (Nat.le_of_ble_eq_true rfl) ⟨rfl, rfl⟩ (by decide) rfl (by omega) ?_
            refine w_X2_passUp (D := D1) (by rw [o1.c.tv, hT]; exact hW) (o1.hd hH) (by rw [o1.c.tv, hT]; exact hm) hlen (show i + 1 ≤ l.length by omega) (Nat.le_refl _) hpg ?_
            refine ⟨rfl, ?_⟩
            rw [o1.c.tv, hT, pu1 (show i + 1 ≤ l.length by omega)]
            refine x_callV (pc' := 96) (d1 := 3) (Bs := [_, _, _]) rfl rfl rfl rfl rfl rfl rfl (Nat.le_of_ble_eq_true rfl) ⟨rfl, rfl⟩ (by decide) rfl (by omega) ?_
            refine w_X4_tryHabits hW hw (up_lt hW (fun w hw => hm w (List.mem_of_mem_drop hw)) hpg) Nl Vl (slB_c hW hm hpg hd) slB_n (o1.c.tv.trans hT) n1 v1 (hz.cg s1) (by omega) (fun D2 o2 z2 => ?_)
            refine ⟨rfl, ?_⟩
            refine y_inc (pc' := 99) (lv' := [_, _, _, _, _, _, _, _]) rfl rfl rfl (by decide) rfl ?_
            refine x_goto rfl ?_
            first
              | exact ih (i + 1) D2 _ (by omega) ((o.tr o1).tr o2) (by rw [fP_1 c38 hM]; exact z2)
              | exact ih (i + 1) D1 _ (by omega) (o.tr o1) (by rw [fP_1 c38 hM, fK_0 (slB_no hW hm hpg hno)]; exact hz.cg s1)
              | exact ih (i + 1) D _ (by omega) o (by rw [fP_0 (fun q => c38 q.1)]; exact hz)
              | exact ih (i + 1) D _ (by omega) o (by rw [fP_0 (fun q => by rw [hM] at q; exact absurd q.2 (by decide))]; exact hz)
          · refine ⟨rfl, ?_⟩
            refine x_if_eq (pc' := 75) rfl rfl (fun _ => ?_) (fun c72 => absurd (by decide) c72)
            refine y_inc (pc' := 99) (lv' := [_, _, _, _, _, _, _, _]) rfl rfl rfl (by decide) rfl ?_
            refine x_goto rfl ?_
            first
              | exact ih (i + 1) D2 _ (by omega) ((o.tr o1).tr o2) (by rw [fP_1 c38 hM]; exact z2)
              | exact ih (i + 1) D1 _ (by omega) (o.tr o1) (by rw [fP_1 c38 hM, fK_0 (slB_no hW hm hpg hno)]; exact hz.cg s1)
              | exact ih (i + 1) D _ (by omega) o (by rw [fP_0 (fun q => c38 q.1)]; exact hz)
              | exact ih (i + 1) D _ (by omega) o (by rw [fP_0 (fun q => by rw [hM] at q; exact absurd q.2 (by decide))]; exact hz)
set_option maxRecDepth 20000 in
set_option maxHeartbeats 1000000 in
theorem l1_X4_search {L : Nat → Nat → Int64} {Q : bh_Q} {d : Nat} (hd : 3 ≤ d) {T : TW} (hW : WF T) {l : List Nat} (hm : ∀ w ∈ l, w < nw T) (hlen : l.length ≤ 12) {page line : Nat} (hpg : page < 65536) (hline : line < 65536) {D0 : Nat → Nat → Int32} (hT0 : tv D0 = T) (hH0 : HdL D0 l) {z0 : Sl} (hz0 : z0.1 = 0) (kE : ∀ D, OffS D0 D → SlC (D 37) (fW T l page line (nw T) z0) → Q none (hp D L)) : ∀ (f i : Nat) (D : Nat → Nat → Int32) (a6 : Value) (a7 : Value), i + f = nw T → (OffS D0 D) → (SlC (D 37) (fW T l page line i z0)) → bw m_X4_search d Q 8 [.ref 37, .ref 1, .ref 31, .int (nI page), .int (nI line), .int (nI i), a6, a7] [] D L := by
  intro f
  induction f with
  | zero =>
    intro i D a6 a7 hf o hz
    have hT : tv D = T := o.c.tv.trans hT0
    have hfl := fW_le (T := T) hlen (page := page) (line := line) i z0
    have h12 := hW.nwl
    refine x_iload (pc' := 10) rfl rfl rfl ?_
    refine x_aload (pc' := 11) rfl rfl rfl ?_
    refine x_getI (j := 0) (pc' := 14) rfl rfl rfl (by decide) rfl (by decide) rfl rfl ?_
    refine x_top ((congrFun (congrFun hT 0) 0).trans hW.enw) ?_
    refine y_ic_ge (pc' := 17) rfl rfl (by omega) (by omega) (fun c14 => ?_) (fun c14 => ?_)
    · refine x_vret rfl rfl ?_
      obtain rfl : i = nw T := by omega
      exact kE D o hz
    · exact absurd c14 (by omega)
  | succ f ih =>
    intro i D a6 a7 hf o hz
    have hT : tv D = T := o.c.tv.trans hT0
    have hfl := fW_le (T := T) hlen (page := page) (line := line) i z0
    have h12 := hW.nwl
    refine x_iload (pc' := 10) rfl rfl rfl ?_
    refine x_aload (pc' := 11) rfl rfl rfl ?_
    refine x_getI (j := 0) (pc' := 14) rfl rfl rfl (by decide) rfl (by decide) rfl rfl ?_
    refine x_top ((congrFun (congrFun hT 0) 0).trans hW.enw) ?_
    refine y_ic_ge (pc' := 17) rfl rfl (by omega) (by omega) (fun c14 => ?_) (fun c14 => ?_)
    · exact absurd c14 (by omega)
    · refine x_int (pc' := 18) (v := nI 0) rfl rfl rfl ?_
      refine x_istore (pc' := 20) (lv' := [_, _, _, _, _, _, _, _]) rfl rfl (by decide) rfl ?_
      refine l0_X4_search (d := d) hd hW hm hlen hpg hline (D0 := D0) hT0 hH0 (z0 := fW T l page line i z0) (w := i) (by omega) (by omega) (fun D2 b7 o2 z2 => ?_) l.length 0 D _ (Nat.zero_add _) o hz
      refine y_inc (pc' := 105) (lv' := [_, _, _, _, _, _, _, _]) rfl rfl rfl (by decide) rfl ?_
      refine x_goto rfl ?_
      exact ih (i + 1) D2 _ _ (by omega) o2 z2
set_option maxRecDepth 20000 in
set_option maxHeartbeats 1000000 in
theorem w_X4_search {D : Nat → Nat → Int32} {L : Nat → Nat → Int64} {Q : bh_Q} {T : TW} (hW : WF T) {l : List Nat} (hm : ∀ w ∈ l, w < nw T) (hlen : l.length ≤ 12) {page line : Nat} (hpg : page < 65536) (hline : line < 65536) (hT : tv D = T) (hH : HdL D l) (k1 : ∀ D', OffS D D' → SlC (D' 37) (fW T l page line (nw T) (0, 0, 0, 0, 0)) → Q none (hp D' L)) : bh_wc 4 m_X4_search [.ref 37, .ref 1, .ref 31, .int (nI page), .int (nI line)] (hp D L) Q := by
  refine x_start (lv0 := [_, _, _, _, _, _, _, _]) (Nat.le_of_ble_eq_true rfl) rfl ?_
  refine x_aload (pc' := 1) rfl rfl rfl ?_
  refine x_int (pc' := 2) (v := nI 0) rfl rfl rfl ?_
  refine x_putI (j := 0) (pc' := 5) rfl rfl rfl (by decide) rfl (by decide) rfl rfl ?_
  refine x_int (pc' := 6) (v := nI 0) rfl rfl rfl ?_
  refine x_istore (pc' := 8) (lv' := [_, _, _, _, _, _, _, _]) rfl rfl (by decide) rfl ?_
  exact l1_X4_search (d := 3) (Nat.le_refl _) hW hm hlen hpg hline (D0 := D) hT hH (z0 := (0, 0, 0, 0, 0)) rfl k1 (nw T) 0 _ _ _ (Nat.zero_add _) OffS.up ⟨bh_up2_self _ _ _ _, fun h => absurd rfl h⟩
set_option maxRecDepth 20000 in
set_option maxHeartbeats 1000000 in
theorem w_X4_ofFirst {D : Nat → Nat → Int32} {L : Nat → Nat → Int64} {Q : bh_Q} {m : Nat} (hm1 : 1 ≤ m) (hm5 : m < 5) {z : Sl} (hn : ¬ z.1 = 0) (hz0 : SlC (D 37) z) (k1 : Q (some (.int (slipV z m))) (hp D L)) : bh_wc 3 m_X4_ofFirst [.ref 37, .int (nI m)] (hp D L) Q := by
  refine x_start (lv0 := [_, _]) (Nat.le_of_ble_eq_true rfl) rfl ?_
  have hz := hz0.2 hn
  refine x_iload (pc' := 1) rfl rfl rfl ?_
  rcases (show m = 1 ∨ m = 2 ∨ m = 3 ∨ m = 4 by omega) with rfl | rfl | rfl | rfl
  · refine x_tab1N (n := 0) (t := 28) rfl (by decide) rfl ?_
    refine x_aload (pc' := 29) rfl rfl rfl ?_
    refine x_getI (j := 1) (pc' := 32) rfl rfl rfl (by decide) rfl (by decide) rfl rfl ?_
    refine x_top (hz.1) ?_
    refine x_iret rfl rfl ?_
    unfold slipV at k1
    rw [if_neg (by decide), if_neg hn] at k1
    exact k1
  · refine x_tab1N (n := 1) (t := 33) rfl (by decide) rfl ?_
    refine x_aload (pc' := 34) rfl rfl rfl ?_
    refine x_getI (j := 2) (pc' := 37) rfl rfl rfl (by decide) rfl (by decide) rfl rfl ?_
    refine x_top (hz.2.1) ?_
    refine x_iret rfl rfl ?_
    unfold slipV at k1
    rw [if_neg (by decide), if_neg hn] at k1
    exact k1
  · refine x_tab1N (n := 2) (t := 38) rfl (by decide) rfl ?_
    refine x_aload (pc' := 39) rfl rfl rfl ?_
    refine x_getI (j := 2) (pc' := 42) rfl rfl rfl (by decide) rfl (by decide) rfl rfl ?_
    refine x_top (hz.2.1) ?_
    refine x_aload (pc' := 43) rfl rfl rfl ?_
    refine x_getI (j := 3) (pc' := 46) rfl rfl rfl (by decide) rfl (by decide) rfl rfl ?_
    refine x_top (hz.2.2.1) ?_
    refine x_callS (pc' := 49) (d1 := 2) (As := [_, _]) rfl rfl rfl rfl (by decide) rfl rfl (Nat.le_of_ble_eq_true rfl) ⟨rfl, rfl⟩ (by decide) ?_
    refine w_X1_firstSign hz.2.2.2.2 ?_
    refine ⟨rfl, ?_⟩
    refine x_iret rfl rfl ?_
    unfold slipV at k1
    rw [if_neg (by decide), if_neg hn] at k1
    exact k1
  · refine x_tab1O rfl (Or.inr (by decide)) (by decide) ?_
    refine x_aload (pc' := 51) rfl rfl rfl ?_
    refine x_getI (j := 2) (pc' := 54) rfl rfl rfl (by decide) rfl (by decide) rfl rfl ?_
    refine x_top (hz.2.1) ?_
    refine x_aload (pc' := 55) rfl rfl rfl ?_
    refine x_getI (j := 4) (pc' := 58) rfl rfl rfl (by decide) rfl (by decide) rfl rfl ?_
    refine x_top (hz.2.2.2.1) ?_
    refine x_callS (pc' := 61) (d1 := 2) (As := [_, _]) rfl rfl rfl rfl (by decide) rfl rfl (Nat.le_of_ble_eq_true rfl) ⟨rfl, rfl⟩ (by decide) ?_
    refine w_X1_secondSign hz.2.2.2.2 ?_
    refine ⟨rfl, ?_⟩
    refine x_iret rfl rfl ?_
    unfold slipV at k1
    rw [if_neg (by decide), if_neg hn] at k1
    exact k1
set_option maxRecDepth 20000 in
set_option maxHeartbeats 1000000 in
theorem w_X9_slips {D : Nat → Nat → Int32} {L : Nat → Nat → Int64} {Q : bh_Q} (hW : WF (tv D)) {x y z s v : Int32} (k1 : ∀ D1, OffC D D1 → Q (some (.int (slipsQ (tv D) x y z s v))) (hp D1 L)) : bh_wc 5 m_X9_slips [.ref 0, .int x, .int y, .int z, .int s, .int v] (hp D L) Q := by
  refine x_start (lv0 := [_, _, _, _, _, _]) (Nat.le_of_ble_eq_true rfl) rfl ?_
  have h12 := hW.nwl
  refine x_aload (pc' := 1) rfl rfl rfl ?_
  refine x_getR (pc' := 4) rfl rfl rfl (by decide) rfl (by decide) rfl rfl ?_
  refine x_iload (pc' := 5) rfl rfl rfl ?_
  refine x_callV (pc' := 8) (d1 := 1) (Bs := [_]) rfl rfl rfl rfl rfl rfl rfl (Nat.le_of_ble_eq_true rfl) ⟨rfl, rfl⟩ (by decide) rfl (by decide) ?_
  refine w_X7_isWriter hW (fun h5w h5l e => ?_) (fun h5 => ?_)
  · subst e
    refine ⟨rfl, ?_⟩
    refine x_if_eq (pc' := 11) rfl rfl (fun c8 => absurd c8 (by decide)) (fun _ => ?_)
    refine x_aload (pc' := 12) rfl rfl rfl ?_
    refine x_getR (pc' := 15) rfl rfl rfl (by decide) rfl (by decide) rfl rfl ?_
    refine x_iload (pc' := 16) rfl rfl rfl ?_
    refine x_iload (pc' := 17) rfl rfl rfl ?_
    refine x_callV (pc' := 20) (d1 := 2) (Bs := [_, _]) rfl rfl rfl rfl rfl rfl rfl (Nat.le_of_ble_eq_true rfl) ⟨rfl, rfl⟩ (by decide) rfl (by decide) ?_
    refine w_X7_isPage hW (fun b q hb hq e1 e2 => ?_) (fun hn => ?_)
    · subst e1; subst e2
      refine ⟨rfl, ?_⟩
      refine x_if_ne (pc' := 23) rfl rfl (fun _ => ?_) (fun c20 => absurd c20 (by decide))
      refine x_iload (pc' := 28) rfl rfl rfl ?_
      refine x_callS (pc' := 31) (d1 := 1) (As := [_]) rfl rfl rfl rfl (by decide) rfl rfl (Nat.le_of_ble_eq_true rfl) ⟨rfl, rfl⟩ (by decide) ?_
      refine w_X9_isRow (fun h28w h28l e => ?_) (fun h28 => ?_)
      · subst e
        refine ⟨rfl, ?_⟩
        refine x_if_eq (pc' := 34) rfl rfl (fun c31 => absurd c31 (by decide)) (fun _ => ?_)
        refine x_iload (pc' := 36) rfl rfl rfl ?_
        refine x_if_lt (pc' := 39) rfl rfl (fun c36 => ?_) (fun c36 => ?_)
        · have hv := okN_neg (n := 5) (by decide) c36
          refine x_int (pc' := 47) (v := (-3)) rfl rfl rfl ?_
          refine x_iret rfl rfl ?_
          simp (disch := first | assumption | omega) only [slipsQ, onN_1, onN_0, onP_1, onP_0, ↓reduceIte] at k1
          exact k1 D OffC.rf
        · refine x_iload (pc' := 41) rfl rfl rfl ?_
          refine x_int (pc' := 42) (v := nI 4) rfl rfl rfl ?_
          refine x_ic_le (pc' := 45) rfl rfl (fun c42 => ?_) (fun c42 => ?_)
          · obtain ⟨m, hmm, rfl⟩ := le_ofI (n := 4) c36 c42
            refine x_aload (pc' := 49) rfl rfl rfl ?_
            refine x_getR (pc' := 52) rfl rfl rfl (by decide) rfl (by decide) rfl rfl ?_
            refine x_aload (pc' := 53) rfl rfl rfl ?_
            refine x_getR (pc' := 56) rfl rfl rfl (by decide) rfl (by decide) rfl rfl ?_
            refine x_iload (pc' := 57) rfl rfl rfl ?_
            refine x_callV (pc' := 60) (d1 := 2) (Bs := [_, _]) rfl rfl rfl rfl rfl rfl rfl (Nat.le_of_ble_eq_true rfl) ⟨rfl, rfl⟩ (by decide) rfl (by decide) ?_
            refine w_X2_listFrom hW h5l (fun D1 o1 hH1 => ?_)
            have t1 := o1.tv
            have hW1 : WF (tv D1) := by rw [t1]; exact hW
            have hl12 := (isH_of hW h5l).2.1
            have hm := ch_mem hW h5l
            refine ⟨rfl, ?_⟩
            refine x_aload (pc' := 61) rfl rfl rfl ?_
            refine x_getR (pc' := 64) rfl rfl rfl (by decide) rfl (by decide) rfl rfl ?_
            refine x_aload (pc' := 65) rfl rfl rfl ?_
            refine x_getR (pc' := 68) rfl rfl rfl (by decide) rfl (by decide) rfl rfl ?_
            refine x_callV (pc' := 71) (d1 := 2) (Bs := [_]) rfl rfl rfl rfl rfl rfl rfl (Nat.le_of_ble_eq_true rfl) ⟨rfl, rfl⟩ (by decide) rfl (by decide) ?_
            refine w_X2_anyDead hW1 hH1 hl12 (fun x hx => by have := hm x hx; omega) (fun hA => ?_) (fun hA => ?_)
            · rw [t1] at hA
              refine ⟨rfl, ?_⟩
              refine x_if_eq (pc' := 74) rfl rfl (fun c71 => absurd c71 (by decide)) (fun _ => ?_)
              refine x_int (pc' := 76) (v := (-2)) rfl rfl rfl ?_
              refine x_iret rfl rfl ?_
              simp (disch := first | assumption | omega) only [slipsQ, hA, onN_1, onN_0, onP_1, onP_0, ↓reduceIte] at k1
              exact k1 D1 o1.c
            · rw [t1] at hA
              have hA := nA0 hA
              refine ⟨rfl, ?_⟩
              refine x_if_eq (pc' := 74) rfl rfl (fun _ => ?_) (fun c71 => absurd (by decide) c71)
              refine x_aload (pc' := 78) rfl rfl rfl ?_
              refine x_getR (pc' := 81) rfl rfl rfl (by decide) rfl (by decide) rfl rfl ?_
              refine x_aload (pc' := 82) rfl rfl rfl ?_
              refine x_getR (pc' := 85) rfl rfl rfl (by decide) rfl (by decide) rfl rfl ?_
              refine x_aload (pc' := 86) rfl rfl rfl ?_
              refine x_getR (pc' := 89) rfl rfl rfl (by decide) rfl (by decide) rfl rfl ?_
              refine x_aload (pc' := 90) rfl rfl rfl ?_
              refine x_getR (pc' := 93) rfl rfl rfl (by decide) rfl (by decide) rfl rfl ?_
              refine x_iload (pc' := 94) rfl rfl rfl ?_
              refine x_iload (pc' := 95) rfl rfl rfl ?_
              refine x_callV (pc' := 98) (d1 := 1) (Bs := [_, _]) rfl rfl rfl rfl rfl rfl rfl (Nat.le_of_ble_eq_true rfl) ⟨rfl, rfl⟩ (by decide) rfl (by decide) ?_
              refine w_X7_rowOf hW1 (by rw [t1]; exact hb) (by rw [t1]; exact hq) ?_
              refine ⟨rfl, ?_⟩
              refine x_top (show nI (pg (tv D1) b q) = nI (pg (tv D) b q) by rw [t1]) ?_
              refine x_iload (pc' := 100) rfl rfl rfl ?_
              refine x_callV (pc' := 103) (d1 := 4) (Bs := [_, _, _, _]) rfl rfl rfl rfl rfl rfl rfl (Nat.le_of_ble_eq_true rfl) ⟨rfl, rfl⟩ (by decide) rfl (by decide) ?_
              refine w_X4_search hW hm hl12 (hW.pgl hb hq) h28l t1 hH1 (fun D2 o2 z2 => ?_)
              have hfl := fW_le (T := tv D) hl12 (page := pg (tv D) b q) (line := h28w) (nw (tv D)) (0, 0, 0, 0, 0)
              have oo := o1.c.tr o2.c
              generalize hzz : fW (tv D) (ch (tv D) h5w) (pg (tv D) b q) h28w (nw (tv D)) (0, 0, 0, 0, 0) = z at z2 hfl
              refine ⟨rfl, ?_⟩
              refine x_iload (pc' := 105) rfl rfl rfl ?_
              refine y_if_ne (pc' := 108) rfl rfl (by first | omega | (have : z.1 ≤ 0 + 21504 * nw (tv D) := hfl; omega)) (fun c105 => ?_) (fun c105 => ?_)
              · refine x_aload (pc' := 117) rfl rfl rfl ?_
                refine x_getR (pc' := 120) rfl rfl rfl (by decide) rfl (by decide) rfl rfl ?_
                refine x_getI (j := 0) (pc' := 123) rfl rfl rfl (by decide) rfl (by decide) rfl rfl ?_
                refine x_top (z2.1) ?_
                refine y_if_ne (pc' := 126) rfl rfl (by first | omega | (have : z.1 ≤ 0 + 21504 * nw (tv D) := hfl; omega)) (fun c123 => ?_) (fun c123 => ?_)
                · refine x_aload (pc' := 132) rfl rfl rfl ?_
                  refine x_getR (pc' := 135) rfl rfl rfl (by decide) rfl (by decide) rfl rfl ?_
                  refine x_iload (pc' := 137) rfl rfl rfl ?_
                  refine x_callV (pc' := 140) (d1 := 3) (Bs := [_]) rfl rfl rfl rfl rfl rfl rfl (Nat.le_of_ble_eq_true rfl) ⟨rfl, rfl⟩ (by decide) rfl (by decide) ?_
                  refine w_X4_ofFirst (by omega) (by omega) c123 z2 ?_
                  refine ⟨rfl, ?_⟩
                  refine x_iret rfl rfl ?_
                  simp (disch := first | assumption | omega) only [slipsQ, hA, onN_1, onN_0, onP_1, onP_0, ↓reduceIte] at k1
                  rw [hzz] at k1
                  first
                    | (exact k1 D2 oo)
                    | (have e : slipV z m = -2 := by unfold slipV; rw [if_neg c105, if_pos c123]
                       rw [e] at k1
                       exact k1 D2 oo)
                · refine x_int (pc' := 128) (v := (-2)) rfl rfl rfl ?_
                  refine x_goto rfl ?_
                  refine x_iret rfl rfl ?_
                  simp (disch := first | assumption | omega) only [slipsQ, hA, onN_1, onN_0, onP_1, onP_0, ↓reduceIte] at k1
                  rw [hzz] at k1
                  first
                    | (exact k1 D2 oo)
                    | (have e : slipV z m = -2 := by unfold slipV; rw [if_neg c105, if_pos c123]
                       rw [e] at k1
                       exact k1 D2 oo)
              · refine x_aload (pc' := 109) rfl rfl rfl ?_
                refine x_getR (pc' := 112) rfl rfl rfl (by decide) rfl (by decide) rfl rfl ?_
                refine x_getI (j := 0) (pc' := 115) rfl rfl rfl (by decide) rfl (by decide) rfl rfl ?_
                refine x_top (z2.1) ?_
                refine x_iret rfl rfl ?_
                simp (disch := first | assumption | omega) only [slipsQ, hA, onN_1, onN_0, onP_1, onP_0, ↓reduceIte] at k1
                rw [hzz] at k1
                have e : slipV z m = nI z.1 := if_pos c105
                rw [e] at k1
                exact k1 D2 oo
          · have hv := okN_gt (n := 4) (by decide) (Int32.not_le.mp c42)
            refine x_int (pc' := 47) (v := (-3)) rfl rfl rfl ?_
            refine x_iret rfl rfl ?_
            simp (disch := first | assumption | omega) only [slipsQ, onN_1, onN_0, onP_1, onP_0, ↓reduceIte] at k1
            exact k1 D OffC.rf
      · refine ⟨rfl, ?_⟩
        refine x_if_eq (pc' := 34) rfl rfl (fun _ => ?_) (fun c31 => absurd (by decide) c31)
        refine x_int (pc' := 47) (v := (-3)) rfl rfl rfl ?_
        refine x_iret rfl rfl ?_
        simp (disch := first | assumption | omega) only [slipsQ, onN_1, onN_0, onP_1, onP_0, ↓reduceIte] at k1
        exact k1 D OffC.rf
    · refine ⟨rfl, ?_⟩
      refine x_if_ne (pc' := 23) rfl rfl (fun c20 => absurd (by decide) c20) (fun _ => ?_)
      refine x_int (pc' := 25) (v := (-3)) rfl rfl rfl ?_
      refine x_iret rfl rfl ?_
      simp (disch := first | assumption | omega) only [slipsQ, onN_1, onN_0, onP_1, onP_0, ↓reduceIte] at k1
      exact k1 D OffC.rf
  · refine ⟨rfl, ?_⟩
    refine x_if_eq (pc' := 11) rfl rfl (fun _ => ?_) (fun c8 => absurd (by decide) c8)
    refine x_int (pc' := 25) (v := (-3)) rfl rfl rfl ?_
    refine x_iret rfl rfl ?_
    simp (disch := first | assumption | omega) only [slipsQ, onN_1, onN_0, onP_1, onP_0, ↓reduceIte] at k1
    exact k1 D OffC.rf
