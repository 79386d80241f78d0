/-! ===== the reference: habits, hands, a line ===== -/
def wth (row k s : Nat) : Nat := (row &&& (65535 ^^^ (1 <<< k))) ||| (s <<< k)
theorem one_shl_bit (k i : Nat) : (1 <<< k).testBit i = decide (k = i) := by rw [Nat.one_shiftLeft, Nat.testBit_two_pow]
theorem wth_bit {row k s i : Nat} (hr : row < 65536) (hk : k < 16) (hs : s ≤ 1) : (wth row k s).testBit i = if i = k then decide (s = 1) else row.testBit i := by
  unfold wth
  rw [Nat.testBit_or, Nat.testBit_and, Nat.testBit_xor, one_shl_bit, Nat.testBit_shiftLeft]
  by_cases hi : i = k
  · subst hi
    rw [if_pos rfl, show 65535 = 2 ^ 16 - 1 by decide, ones hk]
    have : s = 0 ∨ s = 1 := by omega
    rcases this with rfl | rfl <;> simp
  · rw [if_neg hi]
    have e2 : (decide (i ≥ k) && s.testBit (i - k)) = false := by
      by_cases hk2 : i ≥ k
      · have : s.testBit (i - k) = false := high (n := 1) (by omega) (by omega)
        rw [this]; simp
      · simp; omega
    rw [e2]
    by_cases h16 : i < 16
    · rw [show 65535 = 2 ^ 16 - 1 by decide, ones h16]
      have : ¬ k = i := fun e => hi e.symm
      simp [this]
    · rw [high (n := 16) hr (by omega)]; simp
theorem wth_lt {row k s : Nat} (hr : row < 65536) (hk : k < 16) (hs : s ≤ 1) : wth row k s < 65536 := by
  show _ < 2 ^ 16
  unfold wth
  refine Nat.or_lt_two_pow (Nat.and_lt_two_pow _ (Nat.xor_lt_two_pow (by decide) ?_)) ?_
  · rw [Nat.one_shiftLeft]; exact Nat.pow_lt_pow_right (by decide) hk
  · have : s = 0 ∨ s = 1 := by omega
    rcases this with rfl | rfl
    · simp
    · rw [Nat.one_shiftLeft]; exact Nat.pow_lt_pow_right (by decide) hk
theorem bit_le (r i : Nat) : (r >>> i &&& 1) ≤ 1 := Nat.and_le_right
theorem bit_dec (r i : Nat) : decide ((r >>> i &&& 1) = 1) = r.testBit i := by
  rw [tb]; cases r.testBit i <;> simp
theorem wth6 {row a b : Nat} : wth row b (row >>> a &&& 1) = hab 6 a b row := by
  show (row &&& (65535 ^^^ (1 <<< b))) ||| _ = (row &&& (65535 ^^^ (1 <<< b))) ||| _
  rw [tb]
  congr 1
  split <;> simp
theorem wth5 {row a b : Nat} (hr : row < 65536) (ha : a < 16) (hb : b < 16) (hab' : a ≠ b) : wth (wth row a (row >>> b &&& 1)) b (row >>> a &&& 1) = hab 5 a b row := by
  apply Nat.eq_of_testBit_eq
  intro i
  rw [wth_bit (wth_lt hr ha (bit_le _ _)) hb (bit_le _ _), wth_bit hr ha (bit_le _ _), bit_dec, bit_dec]
  show _ = (if row.testBit a = row.testBit b then row else row ^^^ ((1 <<< a) ||| (1 <<< b))).testBit i
  by_cases e : row.testBit a = row.testBit b
  · rw [if_pos e]
    by_cases h1 : i = b
    · rw [if_pos h1, h1, e]
    · rw [if_neg h1]
      by_cases h2 : i = a
      · rw [if_pos h2, h2, e]
      · rw [if_neg h2]
  · rw [if_neg e, Nat.testBit_xor, Nat.testBit_or, one_shl_bit, one_shl_bit]
    by_cases h1 : i = b
    · subst h1
      rw [if_pos rfl]
      simp [hab']
      revert e
      cases row.testBit a <;> cases row.testBit i <;> simp
    · rw [if_neg h1]
      by_cases h2 : i = a
      · subst h2
        rw [if_pos rfl]
        simp
        revert e
        cases row.testBit i <;> cases row.testBit b <;> simp
      · rw [if_neg h2]
        have e1 : ¬ a = i := fun q => h2 q.symm
        have e2 : ¬ b = i := fun q => h1 q.symm
        simp [e1, e2]
theorem drop_getD {l : List Nat} {i : Nat} (h : i < l.length) : l.drop i = l.getD i 0 :: l.drop (i + 1) := by
  rw [List.drop_eq_getElem_cons h, List.getD_eq_getElem?_getD, List.getElem?_eq_getElem h]
  rfl
set_option maxRecDepth 20000 in
set_option maxHeartbeats 1000000 in
theorem w_X10_with {D : Nat → Nat → Int32} {L : Nat → Nat → Int64} {Q : bh_Q} {row k s : Nat} (hr : row < 65536) (hk : k < 16) (k1 : Q (some (.int (nI (wth row k s)))) (hp D L)) : bh_wc 1 m_X10_with [.int (nI row), .int (nI k), .int (nI s)] (hp D L) Q := by
  refine x_start (lv0 := [_, _, _]) (Nat.le_of_ble_eq_true rfl) rfl ?_
  refine x_iload (pc' := 1) rfl rfl rfl ?_
  refine x_int (pc' := 2) (v := nI 1) rfl rfl rfl ?_
  refine x_iload (pc' := 3) rfl rfl rfl ?_
  refine y_ishl (pc' := 4) rfl rfl (by omega) ?_
  refine x_int (pc' := 5) (v := nI 4294967295) rfl rfl rfl ?_
  refine y_ixor (pc' := 6) rfl rfl ?_
  refine y_iand (pc' := 7) rfl rfl ?_
  refine x_iload (pc' := 8) rfl rfl rfl ?_
  refine x_iload (pc' := 9) rfl rfl rfl ?_
  refine y_ishl (pc' := 10) rfl rfl (by omega) ?_
  refine y_ior (pc' := 11) rfl rfl ?_
  refine x_iret rfl rfl ?_
  rw [hab3 hr]
  exact k1
set_option maxRecDepth 20000 in
set_option maxHeartbeats 1000000 in
theorem w_X10_done {D : Nat → Nat → Int32} {L : Nat → Nat → Int64} {Q : bh_Q} {k a b row : Nat} {x y : Int32} (h : hok k a b) (hx : 1 ≤ k → x = nI a) (hy : 5 ≤ k → y = nI b) (hr : row < 65536) (k1 : Q (some (.int (nI (hab k a b row)))) (hp D L)) : bh_wc 2 m_X10_done [.int (nI k), .int x, .int y, .int (nI row)] (hp D L) Q := by
  refine x_start (lv0 := [_, _, _, _]) (Nat.le_of_ble_eq_true rfl) rfl ?_
  refine x_iload (pc' := 1) rfl rfl rfl ?_
  rcases k7 h.1 with rfl | rfl | rfl | rfl | rfl | rfl | rfl
  · refine x_tab1O rfl (Or.inl (by decide)) (by decide) ?_
    refine x_iload (pc' := 106) rfl rfl rfl ?_
    refine x_iret rfl rfl ?_
    exact k1
  · obtain rfl := hx (by decide)
    refine x_tab1N (n := 0) (t := 40) rfl (by decide) rfl ?_
    refine x_iload (pc' := 41) rfl rfl rfl ?_
    refine x_int (pc' := 42) (v := nI 1) rfl rfl rfl ?_
    refine x_iload (pc' := 43) rfl rfl rfl ?_
    refine y_ishl (pc' := 44) rfl rfl (by first | omega | (have := h.2.1; have := h.2.2.1; omega)) ?_
    refine y_ixor (pc' := 45) rfl rfl ?_
    refine x_iret rfl rfl ?_
    exact k1
  · obtain rfl := hx (by decide)
    refine x_tab1N (n := 1) (t := 46) rfl (by decide) rfl ?_
    refine x_iload (pc' := 47) rfl rfl rfl ?_
    refine x_int (pc' := 48) (v := nI 1) rfl rfl rfl ?_
    refine x_iload (pc' := 49) rfl rfl rfl ?_
    refine y_ishl (pc' := 50) rfl rfl (by first | omega | (have := h.2.1; have := h.2.2.1; omega)) ?_
    refine y_ior (pc' := 51) rfl rfl ?_
    refine x_iret rfl rfl ?_
    exact k1
  · obtain rfl := hx (by decide)
    refine x_tab1N (n := 2) (t := 52) rfl (by decide) rfl ?_
    refine x_iload (pc' := 53) rfl rfl rfl ?_
    refine x_int (pc' := 54) (v := nI 1) rfl rfl rfl ?_
    refine x_iload (pc' := 55) rfl rfl rfl ?_
    refine y_ishl (pc' := 56) rfl rfl (by first | omega | (have := h.2.1; have := h.2.2.1; omega)) ?_
    refine x_int (pc' := 57) (v := nI 4294967295) rfl rfl rfl ?_
    refine y_ixor (pc' := 58) rfl rfl ?_
    refine y_iand (pc' := 59) rfl rfl ?_
    refine x_iret rfl rfl ?_
    rw [hab3 hr]
    exact k1
  · obtain rfl := hx (by decide)
    refine x_tab1N (n := 3) (t := 60) rfl (by decide) rfl ?_
    refine x_iload (pc' := 61) rfl rfl rfl ?_
    refine x_iload (pc' := 62) rfl rfl rfl ?_
    refine y_ishl (pc' := 63) rfl rfl (by first | omega | (have := h.2.1; have := h.2.2.1; omega)) ?_
    refine x_iload (pc' := 64) rfl rfl rfl ?_
    refine x_int (pc' := 66) (v := nI 16) rfl rfl rfl ?_
    refine x_iload (pc' := 67) rfl rfl rfl ?_
    refine y_isub (pc' := 68) rfl rfl (by first | omega | (have := h.2.1; have := h.2.2.1; omega)) ?_
    refine y_ishr (pc' := 69) rfl rfl (by first | omega | (have := h.2.1; have := h.2.2.1; omega)) (by first | omega | (have := h.2.1; have := h.2.2.1; omega)) ?_
    refine y_ior (pc' := 70) rfl rfl ?_
    refine x_int (pc' := 72) (v := nI 65535) rfl rfl rfl ?_
    refine y_iand (pc' := 73) rfl rfl ?_
    refine x_iret rfl rfl ?_
    exact k1
  · obtain rfl := hx (by decide)
    obtain rfl := hy (by decide)
    refine x_tab1N (n := 4) (t := 74) rfl (by decide) rfl ?_
    refine x_iload (pc' := 75) rfl rfl rfl ?_
    refine x_iload (pc' := 76) rfl rfl rfl ?_
    refine x_iload (pc' := 77) rfl rfl rfl ?_
    refine x_iload (pc' := 78) rfl rfl rfl ?_
    refine y_ishr (pc' := 79) rfl rfl (by first | omega | (have := h.2.1; have := h.2.2.1; omega)) (by first | omega | (have := h.2.1; have := h.2.2.1; omega)) ?_
    refine x_int (pc' := 80) (v := nI 1) rfl rfl rfl ?_
    refine y_iand (pc' := 81) rfl rfl ?_
    refine x_callS (pc' := 84) (d1 := 1) (As := [_, _, _]) rfl rfl rfl rfl (by decide) rfl rfl (Nat.le_of_ble_eq_true rfl) ⟨rfl, rfl⟩ (by decide) ?_
    refine w_X10_with hr h.2.1 ?_
    refine ⟨rfl, ?_⟩
    refine x_iload (pc' := 85) rfl rfl rfl ?_
    refine x_iload (pc' := 86) rfl rfl rfl ?_
    refine x_iload (pc' := 87) rfl rfl rfl ?_
    refine y_ishr (pc' := 88) rfl rfl (by first | omega | (have := h.2.1; have := h.2.2.1; omega)) (by first | omega | (have := h.2.1; have := h.2.2.1; omega)) ?_
    refine x_int (pc' := 89) (v := nI 1) rfl rfl rfl ?_
    refine y_iand (pc' := 90) rfl rfl ?_
    refine x_callS (pc' := 93) (d1 := 1) (As := [_, _, _]) rfl rfl rfl rfl (by decide) rfl rfl (Nat.le_of_ble_eq_true rfl) ⟨rfl, rfl⟩ (by decide) ?_
    refine w_X10_with (wth_lt hr h.2.1 (bit_le _ _)) h.2.2.1 ?_
    refine ⟨rfl, ?_⟩
    refine x_iret rfl rfl ?_
    rw [wth5 hr h.2.1 h.2.2.1 (h.2.2.2.2.2.2 (by decide))]
    exact k1
  · obtain rfl := hx (by decide)
    obtain rfl := hy (by decide)
    refine x_tab1N (n := 5) (t := 94) rfl (by decide) rfl ?_
    refine x_iload (pc' := 95) rfl rfl rfl ?_
    refine x_iload (pc' := 96) rfl rfl rfl ?_
    refine x_iload (pc' := 97) rfl rfl rfl ?_
    refine x_iload (pc' := 98) rfl rfl rfl ?_
    refine y_ishr (pc' := 99) rfl rfl (by first | omega | (have := h.2.1; have := h.2.2.1; omega)) (by first | omega | (have := h.2.1; have := h.2.2.1; omega)) ?_
    refine x_int (pc' := 100) (v := nI 1) rfl rfl rfl ?_
    refine y_iand (pc' := 101) rfl rfl ?_
    refine x_callS (pc' := 104) (d1 := 1) (As := [_, _, _]) rfl rfl rfl rfl (by decide) rfl rfl (Nat.le_of_ble_eq_true rfl) ⟨rfl, rfl⟩ (by decide) ?_
    refine w_X10_with hr h.2.2.1 ?_
    refine ⟨rfl, ?_⟩
    refine x_iret rfl rfl ?_
    rw [wth6]
    exact k1
set_option maxRecDepth 20000 in
set_option maxHeartbeats 1000000 in
theorem w_X10_habit {D : Nat → Nat → Int32} {L : Nat → Nat → Int64} {Q : bh_Q} {T : TW} (hW : WF T) (hR : Rn T (D 206)) {w row : Nat} (hw : w < nw T) (hr : row < 65536) (k1 : Q (some (.int (nI (hab (kd T w) (fa T w) (fb T w) row)))) (hp D L)) : bh_wc 3 m_X10_habit [.ref 205, .int (nI w), .int (nI row)] (hp D L) Q := by
  refine x_start (lv0 := [_, _, _]) (Nat.le_of_ble_eq_true rfl) rfl ?_
  have h12 := hW.nwl
  refine x_aload (pc' := 1) rfl rfl rfl ?_
  refine x_iload (pc' := 2) rfl rfl rfl ?_
  refine x_int (pc' := 3) (v := nI 1) rfl rfl rfl ?_
  refine x_callV (pc' := 6) (d1 := 1) (Bs := [_, _]) rfl rfl rfl rfl rfl rfl rfl (Nat.le_of_ble_eq_true rfl) ⟨rfl, rfl⟩ (by decide) rfl (by decide) ?_
  refine w_X10_of (by omega) (by omega) ?_
  refine ⟨rfl, ?_⟩
  refine x_top ((hR.rkd hw).trans (hW.ekd hw)) ?_
  refine x_aload (pc' := 7) rfl rfl rfl ?_
  refine x_iload (pc' := 8) rfl rfl rfl ?_
  refine x_int (pc' := 9) (v := nI 2) rfl rfl rfl ?_
  refine x_callV (pc' := 12) (d1 := 1) (Bs := [_, _]) rfl rfl rfl rfl rfl rfl rfl (Nat.le_of_ble_eq_true rfl) ⟨rfl, rfl⟩ (by decide) rfl (by decide) ?_
  refine w_X10_of (by omega) (by omega) ?_
  refine ⟨rfl, ?_⟩
  refine x_aload (pc' := 13) rfl rfl rfl ?_
  refine x_iload (pc' := 14) rfl rfl rfl ?_
  refine x_int (pc' := 15) (v := nI 3) rfl rfl rfl ?_
  refine x_callV (pc' := 18) (d1 := 1) (Bs := [_, _]) rfl rfl rfl rfl rfl rfl rfl (Nat.le_of_ble_eq_true rfl) ⟨rfl, rfl⟩ (by decide) rfl (by decide) ?_
  refine w_X10_of (by omega) (by omega) ?_
  refine ⟨rfl, ?_⟩
  refine x_iload (pc' := 19) rfl rfl rfl ?_
  refine x_callS (pc' := 22) (d1 := 2) (As := [_, _, _, _]) rfl rfl rfl rfl (by decide) rfl rfl (Nat.le_of_ble_eq_true rfl) ⟨rfl, rfl⟩ (by decide) ?_
  refine w_X10_done (hW.ehok hw) (fun e => (hR.rfa hw e).trans (hW.efa hw)) (fun e => (hR.rfb hw e).trans (hW.efb hw)) hr ?_
  refine ⟨rfl, ?_⟩
  refine x_iret rfl rfl ?_
  exact k1
set_option maxRecDepth 20000 in
set_option maxHeartbeats 1000000 in
theorem w_X10_passes {D : Nat → Nat → Int32} {L : Nat → Nat → Int64} {Q : bh_Q} {T : TW} (hW : WF T) (hR : Rn T (D 206)) {w row : Nat} (hw : w < nw T) (hr : row < 65536) (k1 : Q (some (.int (nI (stU T w row)))) (hp D L)) : bh_wc 4 m_X10_passes [.ref 205, .int (nI w), .int (nI row)] (hp D L) Q := by
  refine x_start (lv0 := [_, _, _]) (Nat.le_of_ble_eq_true rfl) rfl ?_
  have h12 := hW.nwl
  refine x_aload (pc' := 1) rfl rfl rfl ?_
  refine x_iload (pc' := 2) rfl rfl rfl ?_
  refine x_int (pc' := 4) (v := nI 7) rfl rfl rfl ?_
  refine x_callV (pc' := 7) (d1 := 1) (Bs := [_, _]) rfl rfl rfl rfl rfl rfl rfl (Nat.le_of_ble_eq_true rfl) ⟨rfl, rfl⟩ (by decide) rfl (by decide) ?_
  refine w_X10_of (by omega) (by omega) ?_
  refine ⟨rfl, ?_⟩
  refine x_top (hR.rmo hw) ?_
  refine x_int (pc' := 8) (v := nI 1) rfl rfl rfl ?_
  refine y_ic_ne (pc' := 11) rfl rfl (by first | omega | (split <;> omega)) (by first | omega | (split <;> omega)) (fun c8 => ?_) (fun c8 => ?_)
  · refine x_aload (pc' := 16) rfl rfl rfl ?_
    refine x_iload (pc' := 17) rfl rfl rfl ?_
    refine x_iload (pc' := 18) rfl rfl rfl ?_
    refine x_callV (pc' := 21) (d1 := 3) (Bs := [_, _]) rfl rfl rfl rfl rfl rfl rfl (Nat.le_of_ble_eq_true rfl) ⟨rfl, rfl⟩ (by decide) rfl (by decide) ?_
    refine w_X10_habit hW hR (by assumption) (by assumption) ?_
    refine ⟨rfl, ?_⟩
    refine x_iret rfl rfl ?_
    first
      | (have hM : isM T w = true := by
           cases h : isM T w with
           | true => rfl
           | false => rw [h] at c8; exact absurd c8 (by decide)
         have e : stU T w row = row := if_pos hM
         rw [e] at k1; exact k1)
      | (have hM : ¬ isM T w = true := fun h => c8 (by rw [if_pos h])
         have e : stU T w row = _ := if_neg hM
         rw [e] at k1; exact k1)
  · refine x_iload (pc' := 12) rfl rfl rfl ?_
    refine x_goto rfl ?_
    refine x_iret rfl rfl ?_
    first
      | (have hM : isM T w = true := by
           cases h : isM T w with
           | true => rfl
           | false => rw [h] at c8; exact absurd c8 (by decide)
         have e : stU T w row = row := if_pos hM
         rw [e] at k1; exact k1)
      | (have hM : ¬ isM T w = true := fun h => c8 (by rw [if_pos h])
         have e : stU T w row = _ := if_neg hM
         rw [e] at k1; exact k1)
def HdM (D : Nat → Nat → Int32) (l : List Nat) : Prop := ∀ i, i < l.length → D 212 i = nI (l.getD i 0)
set_option maxRecDepth 20000 in
theorem l_X10_hands {T : TW} (hW : WF T) {d : Nat} (hd : 2 ≤ d) {L : Nat → Nat → Int64} {Q : bh_Q} {wv : Int32} : ∀ (r px : List Nat) (D : Nat → Nat → Int32) (n : Nat), isC T r → px.length + r.length ≤ 12 → n = px.length → Rn T (D 206) → (∀ i, i < px.length → D 212 i = nI (px.getD i 0)) →
    (∀ D', OffL [212] D D' → HdM D' (px ++ r) → Q (some (.int (nI (px ++ r).length))) (hp D' L)) → bw m_X10_hands d Q 4 [.ref 205, .int wv, .int (nI n), .int (hdI r)] [] D L := by
  intro r
  have h12 := hW.nwl
  induction r with
  | nil =>
    intro px D n hC hlen hn hR hl k
    subst hn
    refine x_iload (pc' := 5) rfl rfl rfl ?_
    refine x_int (pc' := 6) (v := (-1)) rfl rfl rfl ?_
    refine x_ic_eq (pc' := 9) rfl rfl (fun _ => ?_) (fun c6 => absurd (by decide) c6)
    refine x_iload (pc' := 29) rfl rfl rfl ?_
    refine x_iret rfl rfl ?_
    rw [List.append_nil] at k
    exact k D OffL.rf hl
  | cons x r ih =>
    intro px D n hC hlen hn hR hl k
    obtain ⟨hx0, hx1, hx2⟩ := hC
    rw [List.length_cons] at hlen
    subst hn
    show bw m_X10_hands d Q 4 [.ref 205, .int wv, .int (nI px.length), .int (nI x)] [] D L
    refine x_iload (pc' := 5) rfl rfl rfl ?_
    refine x_int (pc' := 6) (v := (-1)) rfl rfl rfl ?_
    refine x_ic_eq (pc' := 9) rfl rfl (fun c6 => ?_) (fun c6 => ?_)
    · exact absurd c6 (nI_m1 (by omega))
    · refine x_aload (pc' := 10) rfl rfl rfl ?_
      refine x_getR (pc' := 13) rfl rfl rfl (by decide) rfl (by decide) rfl rfl ?_
      refine x_iload (pc' := 14) rfl rfl rfl ?_
      refine x_iload (pc' := 15) rfl rfl rfl ?_
      refine x_iast (pc' := 16) rfl rfl (by decide) rfl (by decide) (show _ < 12 by omega) ?_
      refine y_inc (pc' := 19) (lv' := [_, _, _, _]) rfl rfl rfl (by decide) rfl ?_
      refine x_aload (pc' := 20) rfl rfl rfl ?_
      refine x_iload (pc' := 21) rfl rfl rfl ?_
      refine x_callV (pc' := 24) (d1 := 2) (Bs := [_]) rfl rfl rfl rfl rfl rfl rfl (Nat.le_of_ble_eq_true rfl) ⟨rfl, rfl⟩ (by decide) rfl (by omega) ?_
      refine w_X10_under (D := bh_up2 D 212 px.length (nI x)) hW hR hx0 ?_
      refine ⟨rfl, ?_⟩
      refine x_top hx1 ?_
      refine x_istore (pc' := 25) (lv' := [_, _, _, _]) rfl rfl (by decide) rfl ?_
      refine x_goto rfl ?_
      refine ih (px ++ [x]) _ _ hx2 (by simp; omega) (by simp) hR ?_ (fun D1 o1 hd1 => ?_)
      · intro i hi
        rw [List.length_append] at hi
        have hi2 : i < px.length + 1 := hi
        rw [bh_up2_k]
        dsimp only
        by_cases e : i = px.length
        · rw [if_pos e, e]; simp
        · rw [if_neg e, hl i (by omega), getD_app (by omega)]
      · have := k D1 (OffL.tr (OffL.up (by decide)) o1) (by rw [List.append_assoc] at hd1; exact hd1)
        simpa [List.append_assoc] using this
set_option maxRecDepth 20000 in
set_option maxHeartbeats 1000000 in
theorem w_X10_hands {D : Nat → Nat → Int32} {L : Nat → Nat → Int64} {Q : bh_Q} {T : TW} (hW : WF T) (hR : Rn T (D 206)) {w : Nat} (hw : w < nw T) (k1 : ∀ D', OffL [212] D D' → HdM D' (ch T w) → Q (some (.int (nI (ch T w).length))) (hp D' L)) : bh_wc 3 m_X10_hands [.ref 205, .int (nI w)] (hp D L) Q := by
  have hC := isH_of hW hw
  have hhd := hC.2.2
  generalize hwv : nI w = wi at hhd ⊢
  subst hhd
  refine x_start (lv0 := [_, _, _, _]) (Nat.le_of_ble_eq_true rfl) rfl ?_
  refine x_int (pc' := 1) (v := nI 0) rfl rfl rfl ?_
  refine x_istore (pc' := 2) (lv' := [_, _, _, _]) rfl rfl (by decide) rfl ?_
  refine x_iload (pc' := 3) rfl rfl rfl ?_
  refine x_istore (pc' := 4) (lv' := [_, _, _, _]) rfl rfl (by decide) rfl ?_
  exact l_X10_hands hW (by decide) (ch T w) [] D 0 hC.1 (by simpa using hC.2.1) rfl hR (fun i hi => absurd hi (Nat.not_lt_zero i)) (fun D1 o1 h1 => k1 D1 o1 h1)
theorem OffL212.rn {T : TW} {D D1 : Nat → Nat → Int32} (h : OffL [212] D D1) (hR : Rn T (D 206)) : Rn T (D1 206) := by rw [h 206 (by decide)]; exact hR
theorem lnC_lt {T : TW} (hW : WF T) {b q : Nat} (hb : b < nb T) (hq : q < lng T b) : ∀ {c : List Nat}, (∀ w ∈ c, w < nw T) → ∀ r, lnC T b q c = some r → r < 65536 := by
  intro c
  induction c with
  | nil => intro _ r h; cases h; exact hW.pgl hb hq
  | cons a c ih =>
    intro hm r h
    have ha := hm a List.mem_cons_self
    unfold lnC at h
    split at h
    · split at h
      next hs => cases h; exact hW.stkl ha hb hq hs
      · cases h
    · cases hc : lnC T b q c with
      | none => rw [hc] at h; cases h
      | some x =>
        rw [hc] at h
        have hx := ih (fun w hw => hm w (List.mem_cons_of_mem _ hw)) x hc
        have : r = stU T a x := (Option.some.inj h).symm
        rw [this]
        exact stU_lt hW ha hx
theorem lnO_lt {T : TW} (hW : WF T) {w b q r : Nat} (hw : w < nw T) (hb : b < nb T) (hq : q < lng T b) (h : lnO T w b q = some r) : r < 65536 := lnC_lt hW hb hq (ch_mem hW hw) r h
set_option maxRecDepth 20000 in
theorem l2_X10_lineOf {T : TW} (hW : WF T) {D : Nat → Nat → Int32} {L : Nat → Nat → Int64} {Q : bh_Q} (hR : Rn T (D 206)) {l : List Nat} (hH : HdM D l) (hm : ∀ w ∈ l, w < nw T) (hl12 : l.length ≤ 12) {a1 a2 a3 a4 a5 : Int32} : ∀ (n : Nat) (o : Option Nat) (v : Int32), n ≤ l.length → (∀ r, o = some r → r < 65536) → v = nI n - 1 → Q (some (.int (toI (o.map (upN T l 0 n))))) (hp D L) → bw m_X10_lineOf 4 Q 101 [.ref 205, .int a1, .int a2, .int a3, .int a4, .int a5, .int (toI o), .int v] [] D L := by
  intro n
  have h12 := hW.nwl
  induction n with
  | zero =>
    intro o v hn ho hv k1
    cases o with
    | none =>
      show bw m_X10_lineOf 4 Q 101 [.ref 205, .int a1, .int a2, .int a3, .int a4, .int a5, .int (-2), .int v] [] D L
      refine x_iload (pc' := 103) rfl rfl rfl ?_
      refine x_if_lt (pc' := 106) rfl rfl (fun c103 => ?_) (fun c103 => ?_)
      · refine x_iload (pc' := 136) rfl rfl rfl ?_
        refine x_iret rfl rfl ?_
        exact k1
      · refine x_iload (pc' := 108) rfl rfl rfl ?_
        refine x_int (pc' := 110) (v := (-2)) rfl rfl rfl ?_
        refine x_ic_eq (pc' := 113) rfl rfl (fun _ => ?_) (fun c110 => absurd (by decide) c110)
        refine x_iload (pc' := 136) rfl rfl rfl ?_
        refine x_iret rfl rfl ?_
        exact k1
    | some x =>
      show bw m_X10_lineOf 4 Q 101 [.ref 205, .int a1, .int a2, .int a3, .int a4, .int a5, .int (nI x), .int v] [] D L
      refine x_iload (pc' := 103) rfl rfl rfl ?_
      refine x_if_lt (pc' := 106) rfl rfl (fun c103 => ?_) (fun c103 => ?_)
      · refine x_iload (pc' := 136) rfl rfl rfl ?_
        refine x_iret rfl rfl ?_
        exact k1
      · exact absurd (by rw [hv]; decide) c103
  | succ n ih =>
    intro o v hn ho hv k1
    have hv : v = nI n := by rw [hv]; exact nI_pred _
    subst hv
    have hw : l.getD n 0 < nw T := hm _ (getD_mem (by omega))
    cases o with
    | none =>
      show bw m_X10_lineOf 4 Q 101 [.ref 205, .int a1, .int a2, .int a3, .int a4, .int a5, .int (-2), .int (nI n)] [] D L
      refine x_iload (pc' := 103) rfl rfl rfl ?_
      refine y_if_lt (pc' := 106) rfl rfl (by omega) ?_
      refine x_iload (pc' := 108) rfl rfl rfl ?_
      refine x_int (pc' := 110) (v := (-2)) rfl rfl rfl ?_
      refine x_ic_eq (pc' := 113) rfl rfl (fun _ => ?_) (fun c110 => absurd (by decide) c110)
      refine x_iload (pc' := 136) rfl rfl rfl ?_
      refine x_iret rfl rfl ?_
      exact k1
    | some x =>
      have hx : x < 65536 := ho x rfl
      have k1 : Q (some (.int (toI ((some (stU T (l.getD n 0) x)).map (upN T l 0 n))))) (hp D L) := by
        have e : upN T l 0 (n + 1) x = upN T l 0 n (stU T (l.getD n 0) x) := by show upN T l 0 n (stU T (l.getD (0 + n) 0) x) = _; rw [Nat.zero_add]
        show Q (some (.int (nI (upN T l 0 n (stU T (l.getD n 0) x))))) (hp D L)
        rw [← e]
        exact k1
      show bw m_X10_lineOf 4 Q 101 [.ref 205, .int a1, .int a2, .int a3, .int a4, .int a5, .int (nI x), .int (nI n)] [] D L
      refine x_iload (pc' := 103) rfl rfl rfl ?_
      refine y_if_lt (pc' := 106) rfl rfl (by omega) ?_
      refine x_iload (pc' := 108) rfl rfl rfl ?_
      refine x_int (pc' := 110) (v := (-2)) rfl rfl rfl ?_
      refine x_ic_eq (pc' := 113) rfl rfl (fun c110 => ?_) (fun c110 => ?_)
      · exact absurd c110 (nI_m2 (by omega))
      · refine x_aload (pc' := 114) rfl rfl rfl ?_
        refine x_aload (pc' := 115) rfl rfl rfl ?_
        refine x_getR (pc' := 118) rfl rfl rfl (by decide) rfl (by decide) rfl rfl ?_
        refine x_iload (pc' := 120) rfl rfl rfl ?_
        refine x_iald (pc' := 121) rfl rfl (by decide) rfl (by decide) (show _ < 12 by omega) ?_
        refine x_top (hH _ (by omega)) ?_
        refine x_iload (pc' := 123) rfl rfl rfl ?_
        refine x_callV (pc' := 126) (d1 := 4) (Bs := [_, _]) rfl rfl rfl rfl rfl rfl rfl (Nat.le_of_ble_eq_true rfl) ⟨rfl, rfl⟩ (by decide) rfl (by decide) ?_
        refine w_X10_passes hW hR hw hx ?_
        refine ⟨rfl, ?_⟩
        refine x_istore (pc' := 128) (lv' := [_, _, _, _, _, _, _, _]) rfl rfl (by decide) rfl ?_
        refine x_iinc (pc' := 131) (w := (-1)) (lv' := [_, _, _, _, _, _, _, _]) rfl rfl rfl rfl (by decide) (add_m1 _) rfl ?_
        refine x_goto rfl ?_
        exact ih (some (stU T (l.getD n 0) x)) _ (by omega) (fun r e => by cases e; exact stU_lt hW hw hx) rfl k1
set_option maxRecDepth 20000 in
set_option maxHeartbeats 1000000 in
theorem l1_X10_lineOf {T : TW} (hW : WF T) {D : Nat → Nat → Int32} {L : Nat → Nat → Int64} {Q : bh_Q} (hR : Rn T (D 206)) {l : List Nat} (hH : HdM D l) (hm : ∀ w ∈ l, w < nw T) (hl12 : l.length ≤ 12) {a1 a4 : Int32} {b q : Nat} (hb : b < nb T) (hq : q < lng T b) : ∀ (i e : Nat) (o : Option Nat) (e5 v : Int32), i ≤ e → e ≤ l.length → i ≤ l.length → (∀ r, o = some r → r < 65536) → e5 = nI e - 1 → v = nI i - 1 → lnC T b q (l.drop i) = o.map (up T ((l.drop i).take (e - i))) → Q (some (.int (toI (lnC T b q l)))) (hp D L) → bw m_X10_lineOf 4 Q 27 [.ref 205, .int a1, .int (nI b), .int (nI q), .int a4, .int e5, .int (toI o), .int v] [] D L := by
  intro i
  have h12 := hW.nwl
  have h4 := hW.nbl
  have h8 := hW.lngl hb
  induction i with
  | zero =>
    intro e o e5 v hie he2 hil ho he5 hv hln k1
    refine x_iload (pc' := 29) rfl rfl rfl ?_
    refine x_if_lt (pc' := 32) rfl rfl (fun c29 => ?_) (fun c29 => ?_)
    · refine x_iload (pc' := 99) rfl rfl rfl ?_
      refine x_istore (pc' := 101) (lv' := [_, _, _, _, _, _, _, _]) rfl rfl (by decide) rfl ?_
      refine l2_X10_lineOf hW hR hH hm hl12 e o _ he2 ho he5 ?_
      have e1 : lnC T b q l = o.map (up T ((l.drop 0).take (e - 0))) := hln
      have e2 : o.map (upN T l 0 e) = lnC T b q l := by
        rw [e1]
        congr 1
        funext x
        rw [upN_eq (by omega)]
        simp
      rw [e2]
      exact k1
    · exact absurd (by rw [hv]; decide) c29
  | succ i ih =>
    intro e o e5 v hie he2 hil ho he5 hv hln k1
    have hv : v = nI i := by rw [hv]; exact nI_pred _
    subst hv
    have hw : l.getD i 0 < nw T := hm _ (getD_mem (by omega))
    refine x_iload (pc' := 29) rfl rfl rfl ?_
    refine y_if_lt (pc' := 32) rfl rfl (by omega) ?_
    refine x_aload (pc' := 33) rfl rfl rfl ?_
    refine x_aload (pc' := 34) rfl rfl rfl ?_
    refine x_getR (pc' := 37) rfl rfl rfl (by decide) rfl (by decide) rfl rfl ?_
    refine x_iload (pc' := 39) rfl rfl rfl ?_
    refine x_iald (pc' := 40) rfl rfl (by decide) rfl (by decide) (show _ < 12 by omega) ?_
    refine x_top (hH _ (by omega)) ?_
    refine x_callV (pc' := 43) (d1 := 2) (Bs := [_]) rfl rfl rfl rfl rfl rfl rfl (Nat.le_of_ble_eq_true rfl) ⟨rfl, rfl⟩ (by decide) rfl (by decide) ?_
    refine w_X10_isDead hW hR hw (fun h40 => ?_) (fun h40 => ?_)
    · have hdr := drop_getD (l := l) (i := i) (by omega)
      have hl0 : lnC T b q (l.drop i) = if (sk T (l.getD i 0)).testBit b then some (stk T (l.getD i 0) b q) else none := by
        rw [hdr]
        unfold lnC
        rw [if_pos h40]
      refine ⟨rfl, ?_⟩
      refine x_if_eq (pc' := 46) rfl rfl (fun c43 => absurd c43 (by decide)) (fun _ => ?_)
      refine x_iload (pc' := 48) rfl rfl rfl ?_
      refine x_int (pc' := 49) (v := nI 1) rfl rfl rfl ?_
      refine x_isub (pc' := 50) rfl rfl ?_
      refine x_istore (pc' := 52) (lv' := [_, _, _, _, _, _, _, _]) rfl rfl (by decide) rfl ?_
      refine x_aload (pc' := 53) rfl rfl rfl ?_
      refine x_aload (pc' := 54) rfl rfl rfl ?_
      refine x_getR (pc' := 57) rfl rfl rfl (by decide) rfl (by decide) rfl rfl ?_
      refine x_iload (pc' := 59) rfl rfl rfl ?_
      refine x_iald (pc' := 60) rfl rfl (by decide) rfl (by decide) (show _ < 12 by omega) ?_
      refine x_top (hH _ (by omega)) ?_
      refine x_iload (pc' := 61) rfl rfl rfl ?_
      refine x_callV (pc' := 64) (d1 := 2) (Bs := [_, _]) rfl rfl rfl rfl rfl rfl rfl (Nat.le_of_ble_eq_true rfl) ⟨rfl, rfl⟩ (by decide) rfl (by decide) ?_
      refine w_X10_hasStock hW hR hw hb (fun h61 => ?_) (fun h61 => ?_)
      · refine ⟨rfl, ?_⟩
        refine x_if_eq (pc' := 67) rfl rfl (fun c64 => absurd c64 (by decide)) (fun _ => ?_)
        refine x_aload (pc' := 68) rfl rfl rfl ?_
        refine x_getR (pc' := 71) rfl rfl rfl (by decide) rfl (by decide) rfl rfl ?_
        refine x_aload (pc' := 72) rfl rfl rfl ?_
        refine x_getR (pc' := 75) rfl rfl rfl (by decide) rfl (by decide) rfl rfl ?_
        refine x_iload (pc' := 77) rfl rfl rfl ?_
        refine x_iald (pc' := 78) rfl rfl (by decide) rfl (by decide) (show _ < 12 by omega) ?_
        refine x_top (hH _ (by omega)) ?_
        refine x_iload (pc' := 79) rfl rfl rfl ?_
        refine x_iload (pc' := 80) rfl rfl rfl ?_
        refine x_callS (pc' := 83) (d1 := 1) (As := [_, _, _]) rfl rfl rfl rfl (by decide) rfl rfl (Nat.le_of_ble_eq_true rfl) ⟨rfl, rfl⟩ (by decide) ?_
        refine w_X10_stockAt ?_
        refine ⟨rfl, ?_⟩
        refine x_iald (pc' := 84) rfl rfl (by decide) rfl (by decide) (show _ < 560 by omega) ?_
        refine x_top ((hR.rstk hw hb hq h61).trans (hW.estk hw hb hq h61)) ?_
        refine x_goto rfl ?_
        refine x_istore (pc' := 91) (lv' := [_, _, _, _, _, _, _, _]) rfl rfl (by decide) rfl ?_
        refine x_iinc (pc' := 94) (w := (-1)) (lv' := [_, _, _, _, _, _, _, _]) rfl rfl rfl rfl (by decide) (add_m1 _) rfl ?_
        refine x_goto rfl ?_
        first
          | (rw [if_pos h61] at hl0
             refine ih i (some (stk T (l.getD i 0) b q)) _ _ (Nat.le_refl i) (by omega) (by omega) (fun r e => by cases e; exact hW.stkl hw hb hq h61) rfl rfl ?_ k1
             rw [hl0, Nat.sub_self]
             rfl)
          | (rw [if_neg (by rw [h61]; decide)] at hl0
             refine ih i none _ _ (Nat.le_refl i) (by omega) (by omega) (fun r e => by cases e) rfl rfl ?_ k1
             rw [hl0]
             rfl)
          | (refine ih e o _ _ (by omega) he2 (by omega) ho he5 rfl ?_ k1
             have hdr := drop_getD (l := l) (i := i) (by omega)
             rw [hdr]
             unfold lnC
             rw [if_neg (by rw [h40]; decide), hln, show e - i = (e - (i + 1)) + 1 by omega]
             cases o with
             | none => rfl
             | some x => rfl)
      · refine ⟨rfl, ?_⟩
        refine x_if_eq (pc' := 67) rfl rfl (fun _ => ?_) (fun c64 => absurd (by decide) c64)
        refine x_int (pc' := 89) (v := (-2)) rfl rfl rfl ?_
        refine x_istore (pc' := 91) (lv' := [_, _, _, _, _, _, _, _]) rfl rfl (by decide) rfl ?_
        refine x_iinc (pc' := 94) (w := (-1)) (lv' := [_, _, _, _, _, _, _, _]) rfl rfl rfl rfl (by decide) (add_m1 _) rfl ?_
        refine x_goto rfl ?_
        first
          | (rw [if_pos h61] at hl0
             refine ih i (some (stk T (l.getD i 0) b q)) _ _ (Nat.le_refl i) (by omega) (by omega) (fun r e => by cases e; exact hW.stkl hw hb hq h61) rfl rfl ?_ k1
             rw [hl0, Nat.sub_self]
             rfl)
          | (rw [if_neg (by rw [h61]; decide)] at hl0
             refine ih i none _ _ (Nat.le_refl i) (by omega) (by omega) (fun r e => by cases e) rfl rfl ?_ k1
             rw [hl0]
             rfl)
          | (refine ih e o _ _ (by omega) he2 (by omega) ho he5 rfl ?_ k1
             have hdr := drop_getD (l := l) (i := i) (by omega)
             rw [hdr]
             unfold lnC
             rw [if_neg (by rw [h40]; decide), hln, show e - i = (e - (i + 1)) + 1 by omega]
             cases o with
             | none => rfl
             | some x => rfl)
    · refine ⟨rfl, ?_⟩
      refine x_if_eq (pc' := 46) rfl rfl (fun _ => ?_) (fun c43 => absurd (by decide) c43)
      refine x_iinc (pc' := 94) (w := (-1)) (lv' := [_, _, _, _, _, _, _, _]) rfl rfl rfl rfl (by decide) (add_m1 _) rfl ?_
      refine x_goto rfl ?_
      first
        | (rw [if_pos h61] at hl0
           refine ih i (some (stk T (l.getD i 0) b q)) _ _ (Nat.le_refl i) (by omega) (by omega) (fun r e => by cases e; exact hW.stkl hw hb hq h61) rfl rfl ?_ k1
           rw [hl0, Nat.sub_self]
           rfl)
        | (rw [if_neg (by rw [h61]; decide)] at hl0
           refine ih i none _ _ (Nat.le_refl i) (by omega) (by omega) (fun r e => by cases e) rfl rfl ?_ k1
           rw [hl0]
           rfl)
        | (refine ih e o _ _ (by omega) he2 (by omega) ho he5 rfl ?_ k1
           have hdr := drop_getD (l := l) (i := i) (by omega)
           rw [hdr]
           unfold lnC
           rw [if_neg (by rw [h40]; decide), hln, show e - i = (e - (i + 1)) + 1 by omega]
           cases o with
           | none => rfl
           | some x => rfl)
set_option maxRecDepth 20000 in
set_option maxHeartbeats 1000000 in
theorem w_X10_lineOf {D : Nat → Nat → Int32} {L : Nat → Nat → Int64} {Q : bh_Q} {T : TW} (hW : WF T) (hR : Rn T (D 206)) {w b q : Nat} (hw : w < nw T) (hb : b < nb T) (hq : q < lng T b) (k1 : ∀ D', OffL [212] D D' → Q (some (.int (toI (lnO T w b q)))) (hp D' L)) : bh_wc 5 m_X10_lineOf [.ref 205, .int (nI w), .int (nI b), .int (nI q)] (hp D L) Q := by
  refine x_start (lv0 := [_, _, _, _, _, _, _, _]) (Nat.le_of_ble_eq_true rfl) rfl ?_
  refine x_aload (pc' := 1) rfl rfl rfl ?_
  refine x_iload (pc' := 2) rfl rfl rfl ?_
  refine x_callV (pc' := 5) (d1 := 3) (Bs := [_]) rfl rfl rfl rfl rfl rfl rfl (Nat.le_of_ble_eq_true rfl) ⟨rfl, rfl⟩ (by decide) rfl (by decide) ?_
  refine w_X10_hands hW hR hw (fun D1 o1 hH => ?_)
  have hR1 := OffL212.rn o1 hR
  have hm := ch_mem hW hw
  have hl12 := (isH_of hW hw).2.1
  refine ⟨rfl, ?_⟩
  refine x_istore (pc' := 7) (lv' := [_, _, _, _, _, _, _, _]) rfl rfl (by decide) rfl ?_
  refine x_iload (pc' := 9) rfl rfl rfl ?_
  refine x_int (pc' := 10) (v := nI 1) rfl rfl rfl ?_
  refine x_isub (pc' := 11) rfl rfl ?_
  refine x_istore (pc' := 13) (lv' := [_, _, _, _, _, _, _, _]) rfl rfl (by decide) rfl ?_
  refine x_aload (pc' := 14) rfl rfl rfl ?_
  refine x_iload (pc' := 15) rfl rfl rfl ?_
  refine x_iload (pc' := 16) rfl rfl rfl ?_
  refine x_callV (pc' := 19) (d1 := 1) (Bs := [_, _]) rfl rfl rfl rfl rfl rfl rfl (Nat.le_of_ble_eq_true rfl) ⟨rfl, rfl⟩ (by decide) rfl (by decide) ?_
  refine w_X10_pageOf hW hR1 hb hq ?_
  refine ⟨rfl, ?_⟩
  refine x_istore (pc' := 21) (lv' := [_, _, _, _, _, _, _, _]) rfl rfl (by decide) rfl ?_
  refine x_iload (pc' := 23) rfl rfl rfl ?_
  refine x_int (pc' := 24) (v := nI 1) rfl rfl rfl ?_
  refine x_isub (pc' := 25) rfl rfl ?_
  refine x_istore (pc' := 27) (lv' := [_, _, _, _, _, _, _, _]) rfl rfl (by decide) rfl ?_
  refine l1_X10_lineOf hW hR1 hH hm hl12 hb hq (ch T w).length (ch T w).length (some (pg T b q)) _ _ (Nat.le_refl _) (Nat.le_refl _) (Nat.le_refl _) (fun r e => by cases e; exact hW.pgl hb hq) rfl rfl ?_ (k1 D1 o1)
  rw [List.drop_length, Nat.sub_self]
  rfl
