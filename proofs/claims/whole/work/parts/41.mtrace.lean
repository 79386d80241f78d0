/-! ===== trace, own, pay: the reference; and the answers ===== -/
theorem up2_at {α : Type} (D : Nat → Nat → α) (k j : Nat) (x : α) (k' i : Nat) : bh_up2 D k j x k' i = if k' = k ∧ i = j then x else D k' i := by
  by_cases h : k' = k
  · subst h; simp [bh_up2]
  · simp [bh_up2, h]
theorem hab2_ne {a b row : Nat} : (row = hab 2 a b row) ↔ row.testBit a = true := by
  show row = row ||| 1 <<< a ↔ _
  constructor
  · intro h; rw [h]; simp
  · intro h
    refine Nat.eq_of_testBit_eq (fun i => ?_)
    rw [Nat.testBit_or, Nat.one_shiftLeft, Nat.testBit_two_pow]
    by_cases e : a = i
    · subst e; rw [h]; simp
    · simp [e]
theorem hab3_ne {a b row : Nat} (hr : row < 65536) (ha : a < 16) : (row = hab 3 a b row) ↔ row.testBit a = false := by
  have h65 : ∀ i, i < 16 → (65535 ^^^ 1 <<< a).testBit i = !decide (a = i) := by
    intro i hi
    rw [Nat.testBit_xor, Nat.one_shiftLeft, Nat.testBit_two_pow, show (65535 : Nat) = 2 ^ 16 - 1 from rfl, Nat.testBit_two_pow_sub_one]
    simp [hi]
  show row = row &&& (65535 ^^^ 1 <<< a) ↔ _
  constructor
  · intro h; rw [h, Nat.testBit_and, h65 a ha]; simp
  · intro h
    refine Nat.eq_of_testBit_eq (fun i => ?_)
    rw [Nat.testBit_and]
    by_cases hi : i < 16
    · rw [h65 i hi]
      by_cases e : a = i
      · subst e; rw [h]; simp
      · simp [e]
    · rw [Nat.testBit_lt_two_pow (Nat.lt_of_lt_of_le hr (Nat.pow_le_pow_right (n := 2) (i := 16) (by decide) (by omega)))]; simp
theorem hab6_ne {a b row : Nat} (hr : row < 65536) (hb : b < 16) : (row = hab 6 a b row) ↔ row.testBit a = row.testBit b := by
  have h65 : ∀ i, i < 16 → (65535 ^^^ 1 <<< b).testBit i = !decide (b = i) := by
    intro i hi
    rw [Nat.testBit_xor, Nat.one_shiftLeft, Nat.testBit_two_pow, show (65535 : Nat) = 2 ^ 16 - 1 from rfl, Nat.testBit_two_pow_sub_one]
    simp [hi]
  have hbit : ∀ i, i < 16 → (hab 6 a b row).testBit i = if b = i then row.testBit a else row.testBit i := by
    intro i hi
    show (row &&& (65535 ^^^ 1 <<< b) ||| (if row.testBit a then 1 <<< b else 0)).testBit i = _
    rw [Nat.testBit_or, Nat.testBit_and, h65 i hi]
    by_cases e : b = i
    · subst e; cases row.testBit a <;> simp
    · cases row.testBit a <;> simp [e, Nat.one_shiftLeft, Nat.testBit_two_pow]
  constructor
  · intro h
    have := hbit b hb
    rw [← h, if_pos rfl] at this
    exact this.symm
  · intro h
    refine Nat.eq_of_testBit_eq (fun i => ?_)
    by_cases hi : i < 16
    · rw [hbit i hi]
      by_cases e : b = i
      · subst e; rw [if_pos rfl, h]
      · rw [if_neg e]
    · have h6 : hab 6 a b row < 65536 := by
        have h1 : row &&& (65535 ^^^ 1 <<< b) < 2 ^ 16 := Nat.lt_of_le_of_lt Nat.and_le_left hr
        have h2 : (if row.testBit a then 1 <<< b else 0) < 2 ^ 16 := by
          split
          · rw [Nat.one_shiftLeft]; exact Nat.pow_lt_pow_right (by decide) hb
          · decide
        exact Nat.or_lt_two_pow h1 h2
      rw [Nat.testBit_lt_two_pow (Nat.lt_of_lt_of_le hr (Nat.pow_le_pow_right (n := 2) (i := 16) (by decide) (by omega))), Nat.testBit_lt_two_pow (Nat.lt_of_lt_of_le h6 (Nat.pow_le_pow_right (n := 2) (i := 16) (by decide) (by omega)))]
set_option maxRecDepth 20000 in
set_option maxHeartbeats 1000000 in
theorem w_X10_brings {D : Nat → Nat → Int32} {L : Nat → Nat → Int64} {Q : bh_Q} {a b : Nat} (ha : a < 16) (hb : b < 16) (k1 : Q none (hp (bh_up2 (bh_up2 D 214 b (D 216 a)) 215 b (D 217 a)) L)) : bh_wc 1 m_X10_brings [.ref 205, .int (nI a), .int (nI b)] (hp D L) Q := by
  refine x_start (lv0 := [_, _, _]) (Nat.le_of_ble_eq_true rfl) rfl ?_
  refine x_aload (pc' := 1) rfl rfl rfl ?_
  refine x_getR (pc' := 4) rfl rfl rfl (by decide) rfl (by decide) rfl rfl ?_
  refine x_iload (pc' := 5) rfl rfl rfl ?_
  refine x_aload (pc' := 6) rfl rfl rfl ?_
  refine x_getR (pc' := 9) rfl rfl rfl (by decide) rfl (by decide) rfl rfl ?_
  refine x_iload (pc' := 10) rfl rfl rfl ?_
  refine x_iald (pc' := 11) rfl rfl (by decide) rfl (by decide) (show _ < 16 by omega) ?_
  refine x_iast (pc' := 12) rfl rfl (by decide) rfl (by decide) (show _ < 16 by omega) ?_
  refine x_aload (pc' := 13) rfl rfl rfl ?_
  refine x_getR (pc' := 16) rfl rfl rfl (by decide) rfl (by decide) rfl rfl ?_
  refine x_iload (pc' := 17) rfl rfl rfl ?_
  refine x_aload (pc' := 18) rfl rfl rfl ?_
  refine x_getR (pc' := 21) rfl rfl rfl (by decide) rfl (by decide) rfl rfl ?_
  refine x_iload (pc' := 22) rfl rfl rfl ?_
  refine x_iald (pc' := 23) rfl rfl (by decide) rfl (by decide) (show _ < 16 by omega) ?_
  refine x_iast (pc' := 24) rfl rfl (by decide) rfl (by decide) (show _ < 16 by omega) ?_
  refine x_vret rfl rfl ?_
  exact k1
set_option maxRecDepth 20000 in
set_option maxHeartbeats 1000000 in
theorem l0_X10_traces {L : Nat → Nat → Int64} {Q : bh_Q} {d : Nat} (hd : 0 ≤ d) {r1 r2 r3 : Int32} {r5 r6 r7 : Value} {D0 : Nat → Nat → Int32} (kE : ∀ D, OffL [216, 217] D0 D → (∀ j, j < 16 → D 216 j = D0 214 j) → (∀ j, j < 16 → D 217 j = D0 215 j) → bw m_X10_traces d Q 44 [.ref 205, .int r1, .int r2, .int r3, .int (nI 16), r5, r6, r7] [] D L) : ∀ (f i : Nat) (D : Nat → Nat → Int32), i + f = 16 → (OffL [216, 217] D0 D) → (∀ j, j < i → D 216 j = D0 214 j) → (∀ j, j < i → D 217 j = D0 215 j) → bw m_X10_traces d Q 3 [.ref 205, .int r1, .int r2, .int r3, .int (nI i), r5, r6, r7] [] D L := by
  intro f
  induction f with
  | zero =>
    intro i D hf o h6 h7
    refine x_iload (pc' := 5) rfl rfl rfl ?_
    refine x_int (pc' := 7) (v := nI 16) rfl rfl rfl ?_
    refine y_ic_ge (pc' := 10) rfl rfl (by omega) (by omega) (fun c7 => ?_) (fun c7 => ?_)
    · obtain rfl : i = 16 := by omega
      exact kE D o h6 h7
    · exact absurd c7 (by omega)
  | succ f ih =>
    intro i D hf o h6 h7
    refine x_iload (pc' := 5) rfl rfl rfl ?_
    refine x_int (pc' := 7) (v := nI 16) rfl rfl rfl ?_
    refine y_ic_ge (pc' := 10) rfl rfl (by omega) (by omega) (fun c7 => ?_) (fun c7 => ?_)
    · exact absurd c7 (by omega)
    · refine x_aload (pc' := 11) rfl rfl rfl ?_
      refine x_getR (pc' := 14) rfl rfl rfl (by decide) rfl (by decide) rfl rfl ?_
      refine x_iload (pc' := 16) rfl rfl rfl ?_
      refine x_aload (pc' := 17) rfl rfl rfl ?_
      refine x_getR (pc' := 20) rfl rfl rfl (by decide) rfl (by decide) rfl rfl ?_
      refine x_iload (pc' := 22) rfl rfl rfl ?_
      refine x_iald (pc' := 23) rfl rfl (by decide) rfl (by decide) (show _ < 16 by omega) ?_
      refine x_iast (pc' := 24) rfl rfl (by decide) rfl (by decide) (show _ < 16 by omega) ?_
      refine x_aload (pc' := 25) rfl rfl rfl ?_
      refine x_getR (pc' := 28) rfl rfl rfl (by decide) rfl (by decide) rfl rfl ?_
      refine x_iload (pc' := 30) rfl rfl rfl ?_
      refine x_aload (pc' := 31) rfl rfl rfl ?_
      refine x_getR (pc' := 34) rfl rfl rfl (by decide) rfl (by decide) rfl rfl ?_
      refine x_iload (pc' := 36) rfl rfl rfl ?_
      refine x_iald (pc' := 37) rfl rfl (by decide) rfl (by decide) (show _ < 16 by omega) ?_
      refine x_iast (pc' := 38) rfl rfl (by decide) rfl (by decide) (show _ < 16 by omega) ?_
      refine y_inc (pc' := 41) (lv' := [_, _, _, _, _, _, _, _]) rfl rfl rfl (by decide) rfl ?_
      refine x_goto rfl ?_
      refine ih (i + 1) _ (by omega) ((o.tr (OffL.up (by decide))).tr (OffL.up (by decide))) (fun j hj => ?_) (fun j hj => ?_)
      · rw [bh_up2_ne _ _ _ (by decide), bh_up2_k]; dsimp only
        by_cases e : j = i
        · rw [if_pos e, e, o 214 (by decide)]
        · rw [if_neg e]; exact h6 j (by omega)
      · rw [bh_up2_k]; dsimp only
        by_cases e : j = i
        · rw [if_pos e, e, bh_up2_ne _ _ _ (by decide), o 215 (by decide)]
        · rw [if_neg e, bh_up2_ne _ _ _ (by decide)]; exact h7 j (by omega)
set_option maxRecDepth 20000 in
set_option maxHeartbeats 1000000 in
theorem l1_X10_traces {L : Nat → Nat → Int64} {Q : bh_Q} {d : Nat} (hd : 1 ≤ d) {r1 r2 r3 r4 r6 : Int32} {a : Nat} (ha : a < 16) {D0 : Nat → Nat → Int32} (kE : ∀ D, OffL [214, 215] D0 D → (∀ j, j < 16 → D 214 ((j + a) % 16) = D0 216 j) → (∀ j, j < 16 → D 215 ((j + a) % 16) = D0 217 j) → Q none (hp D L)) : ∀ (f i : Nat) (D : Nat → Nat → Int32), i + f = 16 → (OffL [214, 215] D0 D) → (∀ j, j < i → D 214 ((j + a) % 16) = D0 216 j) → (∀ j, j < i → D 215 ((j + a) % 16) = D0 217 j) → bw m_X10_traces d Q 156 [.ref 205, .int r1, .int r2, .int r3, .int r4, .int (nI a), .int r6, .int (nI i)] [] D L := by
  intro f
  induction f with
  | zero =>
    intro i D hf o h6 h7
    refine x_iload (pc' := 158) rfl rfl rfl ?_
    refine x_int (pc' := 160) (v := nI 16) rfl rfl rfl ?_
    refine y_ic_ge (pc' := 163) rfl rfl (by omega) (by omega) (fun c160 => ?_) (fun c160 => ?_)
    · refine x_goto rfl ?_
      refine x_vret rfl rfl ?_
      obtain rfl : i = 16 := by omega
      exact kE D o h6 h7
    · exact absurd c160 (by omega)
  | succ f ih =>
    intro i D hf o h6 h7
    refine x_iload (pc' := 158) rfl rfl rfl ?_
    refine x_int (pc' := 160) (v := nI 16) rfl rfl rfl ?_
    refine y_ic_ge (pc' := 163) rfl rfl (by omega) (by omega) (fun c160 => ?_) (fun c160 => ?_)
    · exact absurd c160 (by omega)
    · refine x_aload (pc' := 164) rfl rfl rfl ?_
      refine x_iload (pc' := 166) rfl rfl rfl ?_
      refine x_iload (pc' := 168) rfl rfl rfl ?_
      refine x_iload (pc' := 170) rfl rfl rfl ?_
      refine y_iadd (pc' := 171) rfl rfl ?_
      refine x_int (pc' := 173) (v := nI 16) rfl rfl rfl ?_
      refine y_irem (pc' := 174) rfl rfl (by omega) (by omega) (by omega) ?_
      refine x_callV (pc' := 177) (d1 := 1) (Bs := [_, _]) rfl rfl rfl rfl rfl rfl rfl (Nat.le_of_ble_eq_true rfl) ⟨rfl, rfl⟩ (by decide) rfl (by omega) ?_
      refine w_X10_brings (by omega) (by omega) ?_
      refine ⟨rfl, ?_⟩
      refine y_inc (pc' := 180) (lv' := [_, _, _, _, _, _, _, _]) rfl rfl rfl (by decide) rfl ?_
      refine x_goto rfl ?_
      refine ih (i + 1) _ (by omega) ((o.tr (OffL.up (by decide))).tr (OffL.up (by decide))) (fun j hj => ?_) (fun j hj => ?_)
      · rw [bh_up2_ne _ _ _ (by decide), bh_up2_k]; dsimp only
        by_cases e : j = i
        · rw [if_pos (by omega), e, o 216 (by decide)]
        · rw [if_neg (by omega)]; exact h6 j (by omega)
      · rw [bh_up2_k]; dsimp only
        by_cases e : j = i
        · rw [if_pos (by omega), e, o 217 (by decide)]
        · rw [if_neg (by omega), bh_up2_ne _ _ _ (by decide)]; exact h7 j (by omega)
set_option maxRecDepth 20000 in
set_option maxHeartbeats 1000000 in
theorem w_X10_traces {D : Nat → Nat → Int32} {L : Nat → Nat → Int64} {Q : bh_Q} {T : TW} (hW : WF T) (hR : Rn T (D 206)) {w k a b row : Nat} (hw : w < nw T) (hr : row < 65536) (ek : kd T w = k) (ea : fa T w = a) (eb : fb T w = b) (k1 : ∀ D', OffL [214, 215, 216, 217] D D' → (∀ i, i < 16 → D' 214 i = trO k a b (D 214) i) → (∀ i, i < 16 → D' 215 i = trC k a b row (nI w) (D 215) i) → Q none (hp D' L)) : bh_wc 2 m_X10_traces [.ref 205, .int (nI w), .int (nI row), .int (nI (hab k a b row))] (hp D L) Q := by
  refine x_start (lv0 := [_, _, _, _, _, _, _, _]) (Nat.le_of_ble_eq_true rfl) rfl ?_
  have h12 := hW.nwl
  have hok := hW.ehok hw
  have hkd := hW.ekd hw
  have hxa : 1 ≤ kd T w → D 206 (4 + 10 * w + 2) = nI (fa T w) := fun h => (hR.rfa hw h).trans (hW.efa hw)
  have hyb : 5 ≤ kd T w → D 206 (4 + 10 * w + 3) = nI (fb T w) := fun h => (hR.rfb hw h).trans (hW.efb hw)
  rw [ek, ea, eb] at hok
  rw [ek, ea] at hxa
  rw [ek, eb] at hyb
  have ha16 := hok.2.1
  have hb16 := hok.2.2.1
  have hbl : hab k a b row < 65536 := hab_lt hok hr
  generalize hx : D 206 (4 + 10 * w + 2) = x at hxa
  generalize hy : D 206 (4 + 10 * w + 3) = y at hyb
  refine x_int (pc' := 1) (v := nI 0) rfl rfl rfl ?_
  refine x_istore (pc' := 3) (lv' := [_, _, _, _, _, _, _, _]) rfl rfl (by decide) rfl ?_
  refine l0_X10_traces (d := 1) (Nat.zero_le _) (D0 := D) (fun D1 o1 h6 h7 => ?_) 16 0 D rfl OffL.rf (fun j hj => absurd hj (Nat.not_lt_zero j)) (fun j hj => absurd hj (Nat.not_lt_zero j))
  refine x_aload (pc' := 45) rfl rfl rfl ?_
  refine x_iload (pc' := 46) rfl rfl rfl ?_
  refine x_int (pc' := 47) (v := nI 1) rfl rfl rfl ?_
  refine x_callV (pc' := 50) (d1 := 1) (Bs := [_, _]) rfl rfl rfl rfl rfl rfl rfl (Nat.le_of_ble_eq_true rfl) ⟨rfl, rfl⟩ (by decide) rfl (by decide) ?_
  refine w_X10_of (by omega) (by decide) ?_
  refine ⟨rfl, ?_⟩
  refine x_top (show D1 206 (4 + 10 * w + 1) = nI k by rw [o1 206 (by decide), hR.rkd hw, hW.ekd hw, ek]) ?_
  refine x_istore (pc' := 52) (lv' := [_, _, _, _, _, _, _, _]) rfl rfl (by decide) rfl ?_
  refine x_aload (pc' := 53) rfl rfl rfl ?_
  refine x_iload (pc' := 54) rfl rfl rfl ?_
  refine x_int (pc' := 55) (v := nI 2) rfl rfl rfl ?_
  refine x_callV (pc' := 58) (d1 := 1) (Bs := [_, _]) rfl rfl rfl rfl rfl rfl rfl (Nat.le_of_ble_eq_true rfl) ⟨rfl, rfl⟩ (by decide) rfl (by decide) ?_
  refine w_X10_of (by omega) (by decide) ?_
  refine ⟨rfl, ?_⟩
  refine x_top (show D1 206 (4 + 10 * w + 2) = x by rw [o1 206 (by decide)]; exact hx) ?_
  refine x_istore (pc' := 60) (lv' := [_, _, _, _, _, _, _, _]) rfl rfl (by decide) rfl ?_
  refine x_aload (pc' := 61) rfl rfl rfl ?_
  refine x_iload (pc' := 62) rfl rfl rfl ?_
  refine x_int (pc' := 63) (v := nI 3) rfl rfl rfl ?_
  refine x_callV (pc' := 66) (d1 := 1) (Bs := [_, _]) rfl rfl rfl rfl rfl rfl rfl (Nat.le_of_ble_eq_true rfl) ⟨rfl, rfl⟩ (by decide) rfl (by decide) ?_
  refine w_X10_of (by omega) (by decide) ?_
  refine ⟨rfl, ?_⟩
  refine x_top (show D1 206 (4 + 10 * w + 3) = y by rw [o1 206 (by decide)]; exact hy) ?_
  refine x_istore (pc' := 68) (lv' := [_, _, _, _, _, _, _, _]) rfl rfl (by decide) rfl ?_
  refine x_iload (pc' := 70) rfl rfl rfl ?_
  rcases k7 hok.1 with rfl | rfl | rfl | rfl | rfl | rfl | rfl
  · refine x_tab1O rfl (Or.inl (by decide)) (by decide) ?_
    refine x_vret rfl rfl ?_
    refine k1 D1 (fun q h => (o1 q (fun z => h (by simp at z ⊢; omega)))) (fun i _ => ?_) (fun i _ => ?_)
    · rw [o1 214 (by decide)]; rfl
    · rw [o1 215 (by decide)]; rfl
  · refine x_tab1N (n := 0) (t := 108) rfl (by decide) rfl ?_
    have hxa := hxa (by decide)
    subst hxa
    refine x_aload (pc' := 109) rfl rfl rfl ?_
    refine x_getR (pc' := 112) rfl rfl rfl (by decide) rfl (by decide) rfl rfl ?_
    refine x_iload (pc' := 114) rfl rfl rfl ?_
    refine x_iload (pc' := 115) rfl rfl rfl ?_
    refine x_iast (pc' := 116) rfl rfl (by decide) rfl (by decide) (show _ < 16 by omega) ?_
    refine x_goto rfl ?_
    refine x_vret rfl rfl ?_
    refine k1 _ (fun q h => (bh_up2_ne _ _ _ (fun e => h (by rw [e]; decide))).trans (o1 q (fun z => h (by simp at z ⊢; omega)))) (fun i _ => ?_) (fun i _ => ?_)
    · rw [bh_up2_ne _ _ _ (by decide), o1 214 (by decide)]; rfl
    · rw [bh_up2_k, o1 215 (by decide)]; rfl
  · refine x_tab1N (n := 1) (t := 119) rfl (by decide) rfl ?_
    have hxa := hxa (by decide)
    subst hxa
    refine x_aload (pc' := 120) rfl rfl rfl ?_
    refine x_getR (pc' := 123) rfl rfl rfl (by decide) rfl (by decide) rfl rfl ?_
    refine x_iload (pc' := 125) rfl rfl rfl ?_
    refine x_int (pc' := 126) (v := (-1)) rfl rfl rfl ?_
    refine x_iast (pc' := 127) rfl rfl (by decide) rfl (by decide) (show _ < 16 by omega) ?_
    refine x_aload (pc' := 128) rfl rfl rfl ?_
    refine x_getR (pc' := 131) rfl rfl rfl (by decide) rfl (by decide) rfl rfl ?_
    refine x_iload (pc' := 133) rfl rfl rfl ?_
    refine x_iload (pc' := 134) rfl rfl rfl ?_
    refine x_iload (pc' := 135) rfl rfl rfl ?_
    refine y_ic_eq (pc' := 138) rfl rfl (by first | omega) (by first | omega) (fun c135 => ?_) (fun c135 => ?_)
    · refine x_aload (pc' := 143) rfl rfl rfl ?_
      refine x_getR (pc' := 146) rfl rfl rfl (by decide) rfl (by decide) rfl rfl ?_
      refine x_iload (pc' := 148) rfl rfl rfl ?_
      refine x_iald (pc' := 149) rfl rfl (by decide) rfl (by decide) (show _ < 16 by omega) ?_
      refine x_iast (pc' := 150) rfl rfl (by decide) rfl (by decide) (show _ < 16 by omega) ?_
      refine x_goto rfl ?_
      refine x_vret rfl rfl ?_
      refine k1 _ (fun q h => (bh_up2_ne _ _ _ (fun e => h (by rw [e]; decide))).trans ((bh_up2_ne _ _ _ (fun e => h (by rw [e]; decide))).trans (o1 q (fun z => h (by simp at z ⊢; omega))))) (fun i _ => ?_) (fun i _ => ?_)
      · rw [bh_up2_ne _ _ _ (by decide), bh_up2_k, o1 214 (by decide)]; rfl
      first
        | (skip
           · have hc : row.testBit a = true := hab2_ne.mp c135
             rw [bh_up2_k, bh_up2_ne _ _ _ (by decide), o1 215 (by decide)]
             show (if i = a then D 215 a else D 215 i) = (if i = a ∧ row.testBit a = false then nI w else D 215 i)
             rw [hc]
             by_cases e : i = a
             · rw [e]; simp
             · simp [e]
           )
        | (skip
           · have hc : row.testBit a = false := by cases hz : row.testBit a <;> first | rfl | exact absurd (hab2_ne.mpr hz) c135
             rw [bh_up2_k, bh_up2_ne _ _ _ (by decide), o1 215 (by decide)]
             show (if i = a then nI w else D 215 i) = (if i = a ∧ row.testBit a = false then nI w else D 215 i)
             rw [hc]; simp
           )
    · refine x_iload (pc' := 139) rfl rfl rfl ?_
      refine x_goto rfl ?_
      refine x_iast (pc' := 150) rfl rfl (by decide) rfl (by decide) (show _ < 16 by omega) ?_
      refine x_goto rfl ?_
      refine x_vret rfl rfl ?_
      refine k1 _ (fun q h => (bh_up2_ne _ _ _ (fun e => h (by rw [e]; decide))).trans ((bh_up2_ne _ _ _ (fun e => h (by rw [e]; decide))).trans (o1 q (fun z => h (by simp at z ⊢; omega))))) (fun i _ => ?_) (fun i _ => ?_)
      · rw [bh_up2_ne _ _ _ (by decide), bh_up2_k, o1 214 (by decide)]; rfl
      first
        | (skip
           · have hc : row.testBit a = true := hab2_ne.mp c135
             rw [bh_up2_k, bh_up2_ne _ _ _ (by decide), o1 215 (by decide)]
             show (if i = a then D 215 a else D 215 i) = (if i = a ∧ row.testBit a = false then nI w else D 215 i)
             rw [hc]
             by_cases e : i = a
             · rw [e]; simp
             · simp [e]
           )
        | (skip
           · have hc : row.testBit a = false := by cases hz : row.testBit a <;> first | rfl | exact absurd (hab2_ne.mpr hz) c135
             rw [bh_up2_k, bh_up2_ne _ _ _ (by decide), o1 215 (by decide)]
             show (if i = a then nI w else D 215 i) = (if i = a ∧ row.testBit a = false then nI w else D 215 i)
             rw [hc]; simp
           )
  · refine x_tab1N (n := 2) (t := 119) rfl (by decide) rfl ?_
    have hxa := hxa (by decide)
    subst hxa
    refine x_aload (pc' := 120) rfl rfl rfl ?_
    refine x_getR (pc' := 123) rfl rfl rfl (by decide) rfl (by decide) rfl rfl ?_
    refine x_iload (pc' := 125) rfl rfl rfl ?_
    refine x_int (pc' := 126) (v := (-1)) rfl rfl rfl ?_
    refine x_iast (pc' := 127) rfl rfl (by decide) rfl (by decide) (show _ < 16 by omega) ?_
    refine x_aload (pc' := 128) rfl rfl rfl ?_
    refine x_getR (pc' := 131) rfl rfl rfl (by decide) rfl (by decide) rfl rfl ?_
    refine x_iload (pc' := 133) rfl rfl rfl ?_
    refine x_iload (pc' := 134) rfl rfl rfl ?_
    refine x_iload (pc' := 135) rfl rfl rfl ?_
    refine y_ic_eq (pc' := 138) rfl rfl (by first | omega) (by first | omega) (fun c135 => ?_) (fun c135 => ?_)
    · refine x_aload (pc' := 143) rfl rfl rfl ?_
      refine x_getR (pc' := 146) rfl rfl rfl (by decide) rfl (by decide) rfl rfl ?_
      refine x_iload (pc' := 148) rfl rfl rfl ?_
      refine x_iald (pc' := 149) rfl rfl (by decide) rfl (by decide) (show _ < 16 by omega) ?_
      refine x_iast (pc' := 150) rfl rfl (by decide) rfl (by decide) (show _ < 16 by omega) ?_
      refine x_goto rfl ?_
      refine x_vret rfl rfl ?_
      refine k1 _ (fun q h => (bh_up2_ne _ _ _ (fun e => h (by rw [e]; decide))).trans ((bh_up2_ne _ _ _ (fun e => h (by rw [e]; decide))).trans (o1 q (fun z => h (by simp at z ⊢; omega))))) (fun i _ => ?_) (fun i _ => ?_)
      · rw [bh_up2_ne _ _ _ (by decide), bh_up2_k, o1 214 (by decide)]; rfl
      first
        | (skip
           · have hc : row.testBit a = false := (hab3_ne hr (by omega)).mp c135
             rw [bh_up2_k, bh_up2_ne _ _ _ (by decide), o1 215 (by decide)]
             show (if i = a then D 215 a else D 215 i) = (if i = a ∧ row.testBit a = true then nI w else D 215 i)
             rw [hc]
             by_cases e : i = a
             · rw [e]; simp
             · simp [e]
           )
        | (skip
           · have hc : row.testBit a = true := by cases hz : row.testBit a <;> first | rfl | exact absurd ((hab3_ne hr (by omega)).mpr hz) c135
             rw [bh_up2_k, bh_up2_ne _ _ _ (by decide), o1 215 (by decide)]
             show (if i = a then nI w else D 215 i) = (if i = a ∧ row.testBit a = true then nI w else D 215 i)
             rw [hc]; simp
           )
    · refine x_iload (pc' := 139) rfl rfl rfl ?_
      refine x_goto rfl ?_
      refine x_iast (pc' := 150) rfl rfl (by decide) rfl (by decide) (show _ < 16 by omega) ?_
      refine x_goto rfl ?_
      refine x_vret rfl rfl ?_
      refine k1 _ (fun q h => (bh_up2_ne _ _ _ (fun e => h (by rw [e]; decide))).trans ((bh_up2_ne _ _ _ (fun e => h (by rw [e]; decide))).trans (o1 q (fun z => h (by simp at z ⊢; omega))))) (fun i _ => ?_) (fun i _ => ?_)
      · rw [bh_up2_ne _ _ _ (by decide), bh_up2_k, o1 214 (by decide)]; rfl
      first
        | (skip
           · have hc : row.testBit a = false := (hab3_ne hr (by omega)).mp c135
             rw [bh_up2_k, bh_up2_ne _ _ _ (by decide), o1 215 (by decide)]
             show (if i = a then D 215 a else D 215 i) = (if i = a ∧ row.testBit a = true then nI w else D 215 i)
             rw [hc]
             by_cases e : i = a
             · rw [e]; simp
             · simp [e]
           )
        | (skip
           · have hc : row.testBit a = true := by cases hz : row.testBit a <;> first | rfl | exact absurd ((hab3_ne hr (by omega)).mpr hz) c135
             rw [bh_up2_k, bh_up2_ne _ _ _ (by decide), o1 215 (by decide)]
             show (if i = a then nI w else D 215 i) = (if i = a ∧ row.testBit a = true then nI w else D 215 i)
             rw [hc]; simp
           )
  · refine x_tab1N (n := 3) (t := 153) rfl (by decide) rfl ?_
    have hxa := hxa (by decide)
    subst hxa
    refine x_int (pc' := 154) (v := nI 0) rfl rfl rfl ?_
    refine x_istore (pc' := 156) (lv' := [_, _, _, _, _, _, _, _]) rfl rfl (by decide) rfl ?_
    refine l1_X10_traces (d := 1) (Nat.le_refl _) (by omega) (D0 := D1) (fun D2 o2 u6 u7 => ?_) 16 0 D1 rfl OffL.rf (fun j hj => absurd hj (Nat.not_lt_zero j)) (fun j hj => absurd hj (Nat.not_lt_zero j))
    refine k1 D2 (fun q h => (o2 q (fun z => h (by simp at z ⊢; omega))).trans (o1 q (fun z => h (by simp at z ⊢; omega)))) (fun i hi => ?_) (fun i hi => ?_)
    · have e := u6 ((i + 16 - a) % 16) (by omega)
      rw [show ((i + 16 - a) % 16 + a) % 16 = i by omega, h6 _ (by omega)] at e
      exact e
    · have e := u7 ((i + 16 - a) % 16) (by omega)
      rw [show ((i + 16 - a) % 16 + a) % 16 = i by omega, h7 _ (by omega)] at e
      exact e
  · refine x_tab1N (n := 4) (t := 186) rfl (by decide) rfl ?_
    have hxa := hxa (by decide)
    subst hxa
    have hyb := hyb (by decide)
    subst hyb
    refine x_aload (pc' := 187) rfl rfl rfl ?_
    refine x_iload (pc' := 189) rfl rfl rfl ?_
    refine x_iload (pc' := 191) rfl rfl rfl ?_
    refine x_callV (pc' := 194) (d1 := 1) (Bs := [_, _]) rfl rfl rfl rfl rfl rfl rfl (Nat.le_of_ble_eq_true rfl) ⟨rfl, rfl⟩ (by decide) rfl (by decide) ?_
    refine w_X10_brings (by omega) (by omega) ?_
    refine ⟨rfl, ?_⟩
    refine x_aload (pc' := 195) rfl rfl rfl ?_
    refine x_iload (pc' := 197) rfl rfl rfl ?_
    refine x_iload (pc' := 199) rfl rfl rfl ?_
    refine x_callV (pc' := 202) (d1 := 1) (Bs := [_, _]) rfl rfl rfl rfl rfl rfl rfl (Nat.le_of_ble_eq_true rfl) ⟨rfl, rfl⟩ (by decide) rfl (by decide) ?_
    refine w_X10_brings (by omega) (by omega) ?_
    refine ⟨rfl, ?_⟩
    refine x_goto rfl ?_
    refine x_vret rfl rfl ?_
    refine k1 _ (fun q h => ?_) (fun i _ => ?_) (fun i _ => ?_)
    · rw [bh_up2_ne _ _ _ (fun e => h (by rw [e]; decide)), bh_up2_ne _ _ _ (fun e => h (by rw [e]; decide)), bh_up2_ne _ _ _ (fun e => h (by rw [e]; decide)), bh_up2_ne _ _ _ (fun e => h (by rw [e]; decide))]; exact o1 q (fun z => h (by simp at z ⊢; omega))
    · have e1 := h6 a (by omega); have e2 := h6 b (by omega); have e3 := congrFun (o1 214 (by decide)) i
      have hab := hok.2.2.2.2.2.2 (by decide)
      simp only [up2_at, trO]
      by_cases e : i = b
      · subst e; simp [e1, e2, e3, Ne.symm hab]
      · by_cases e4 : i = a
        · subst e4; simp [e1, e2, e3, e]
        · simp [e, e4, e3]
    · have e1 := h7 a (by omega); have e2 := h7 b (by omega); have e3 := congrFun (o1 215 (by decide)) i
      have hab := hok.2.2.2.2.2.2 (by decide)
      simp only [up2_at, trC]
      by_cases e : i = b
      · subst e; simp [e1, e2, e3, Ne.symm hab]
      · by_cases e4 : i = a
        · subst e4; simp [e1, e2, e3, e]
        · simp [e, e4, e3]
  · refine x_tab1N (n := 5) (t := 205) rfl (by decide) rfl ?_
    have hxa := hxa (by decide)
    subst hxa
    have hyb := hyb (by decide)
    subst hyb
    refine x_aload (pc' := 206) rfl rfl rfl ?_
    refine x_getR (pc' := 209) rfl rfl rfl (by decide) rfl (by decide) rfl rfl ?_
    refine x_iload (pc' := 211) rfl rfl rfl ?_
    refine x_aload (pc' := 212) rfl rfl rfl ?_
    refine x_getR (pc' := 215) rfl rfl rfl (by decide) rfl (by decide) rfl rfl ?_
    refine x_iload (pc' := 217) rfl rfl rfl ?_
    refine x_iald (pc' := 218) rfl rfl (by decide) rfl (by decide) (show _ < 16 by omega) ?_
    refine x_iast (pc' := 219) rfl rfl (by decide) rfl (by decide) (show _ < 16 by omega) ?_
    refine x_aload (pc' := 220) rfl rfl rfl ?_
    refine x_getR (pc' := 223) rfl rfl rfl (by decide) rfl (by decide) rfl rfl ?_
    refine x_iload (pc' := 225) rfl rfl rfl ?_
    refine x_iload (pc' := 226) rfl rfl rfl ?_
    refine x_iload (pc' := 227) rfl rfl rfl ?_
    refine y_ic_eq (pc' := 230) rfl rfl (by first | omega) (by first | omega) (fun c227 => ?_) (fun c227 => ?_)
    · refine x_aload (pc' := 235) rfl rfl rfl ?_
      refine x_getR (pc' := 238) rfl rfl rfl (by decide) rfl (by decide) rfl rfl ?_
      refine x_iload (pc' := 240) rfl rfl rfl ?_
      refine x_iald (pc' := 241) rfl rfl (by decide) rfl (by decide) (show _ < 16 by omega) ?_
      refine x_iast (pc' := 242) rfl rfl (by decide) rfl (by decide) (show _ < 16 by omega) ?_
      refine x_goto rfl ?_
      refine x_vret rfl rfl ?_
      refine k1 _ (fun q h => (bh_up2_ne _ _ _ (fun e => h (by rw [e]; decide))).trans ((bh_up2_ne _ _ _ (fun e => h (by rw [e]; decide))).trans (o1 q (fun z => h (by simp at z ⊢; omega))))) (fun i _ => ?_) (fun i _ => ?_)
      · rw [bh_up2_ne _ _ _ (by decide), bh_up2_k, h6 a (by omega), o1 214 (by decide)]; rfl
      first
        | (skip
           · have hc := (hab6_ne hr (by omega)).mp c227
             rw [bh_up2_k, bh_up2_ne _ _ _ (by decide), o1 215 (by decide)]
             show (if i = b then D 215 b else D 215 i) = (if i = b ∧ row.testBit a ≠ row.testBit b then nI w else D 215 i)
             by_cases e : i = b
             · rw [e]; simp [hc]
             · simp [e]
           )
        | (skip
           · have hc : row.testBit a ≠ row.testBit b := fun e => c227 ((hab6_ne hr (by omega)).mpr e)
             rw [bh_up2_k, bh_up2_ne _ _ _ (by decide), o1 215 (by decide)]
             show (if i = b then nI w else D 215 i) = (if i = b ∧ row.testBit a ≠ row.testBit b then nI w else D 215 i)
             simp [hc]
           )
    · refine x_iload (pc' := 231) rfl rfl rfl ?_
      refine x_goto rfl ?_
      refine x_iast (pc' := 242) rfl rfl (by decide) rfl (by decide) (show _ < 16 by omega) ?_
      refine x_goto rfl ?_
      refine x_vret rfl rfl ?_
      refine k1 _ (fun q h => (bh_up2_ne _ _ _ (fun e => h (by rw [e]; decide))).trans ((bh_up2_ne _ _ _ (fun e => h (by rw [e]; decide))).trans (o1 q (fun z => h (by simp at z ⊢; omega))))) (fun i _ => ?_) (fun i _ => ?_)
      · rw [bh_up2_ne _ _ _ (by decide), bh_up2_k, h6 a (by omega), o1 214 (by decide)]; rfl
      first
        | (skip
           · have hc := (hab6_ne hr (by omega)).mp c227
             rw [bh_up2_k, bh_up2_ne _ _ _ (by decide), o1 215 (by decide)]
             show (if i = b then D 215 b else D 215 i) = (if i = b ∧ row.testBit a ≠ row.testBit b then nI w else D 215 i)
             by_cases e : i = b
             · rw [e]; simp [hc]
             · simp [e]
           )
        | (skip
           · have hc : row.testBit a ≠ row.testBit b := fun e => c227 ((hab6_ne hr (by omega)).mpr e)
             rw [bh_up2_k, bh_up2_ne _ _ _ (by decide), o1 215 (by decide)]
             show (if i = b then nI w else D 215 i) = (if i = b ∧ row.testBit a ≠ row.testBit b then nI w else D 215 i)
             simp [hc]
           )
