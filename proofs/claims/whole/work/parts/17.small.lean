/-! ===== small methods of the class ===== -/
def okN (n : Nat) (x : Int32) : Prop := ∃ j : Nat, j < n ∧ x = nI j
theorem okN_neg {n : Nat} {x : Int32} (hn : n < 2 ^ 31) (h : x < 0) : ¬ okN n x := by
  rintro ⟨j, hj, rfl⟩
  exact nI_pos (by omega) h
theorem okN_ge {n : Nat} {x : Int32} (hn : n < 2 ^ 31) (h : nI n ≤ x) : ¬ okN n x := by
  rintro ⟨j, hj, rfl⟩
  have := (nI_leI hn (by omega)).mp h
  omega
theorem okN_gt {n : Nat} {x : Int32} (hn : n + 1 < 2 ^ 31) (h : nI n < x) : ¬ okN (n + 1) x := by
  rintro ⟨j, hj, rfl⟩
  have := (nI_ltI (by omega) (by omega)).mp h
  omega
theorem le_of {x : Int32} {n : Nat} (hn : n + 1 < 2 ^ 31) (h1 : ¬ x < 0) (h2 : ¬ nI n < x) : ∃ j : Nat, j < n + 1 ∧ x = nI j := by
  refine lt_of hn h1 (fun h => h2 ?_)
  exact Int32.lt_of_lt_of_le (nI_lt (Nat.lt_succ_self n) hn) h
def okG (x : Int32) : Prop := ∃ j : Nat, 1 ≤ j ∧ j ≤ 9999 ∧ x = nI j
def okB (T : TW) (x y : Int32) : Prop := ∃ b p : Nat, b < nb T ∧ p < lng T b ∧ x = nI b ∧ y = nI p
/-- a habit that stands, told by any three ints -/
def okH (x y z : Int32) : Prop := ∃ k a b : Nat, x = nI k ∧ hok k a b ∧ (1 ≤ k → y = nI a) ∧ (5 ≤ k → z = nI b)
def sg (k : Nat) : Nat := if k = 0 then 0 else if 5 ≤ k then 2 else 1
theorem tb {x w : Nat} : (x >>> w &&& 1) = if x.testBit w then 1 else 0 := by
  rw [Nat.and_one_is_mod, Nat.testBit_eq_decide_div_mod_eq, Nat.shiftRight_eq_div_pow]
  by_cases h : x / 2 ^ w % 2 = 1
  · rw [h]; simp
  · have : x / 2 ^ w % 2 = 0 := by omega
    rw [this]; simp
set_option maxRecDepth 20000 in
set_option maxHeartbeats 1000000 in
theorem w_X9_isSign {D : Nat → Nat → Int32} {L : Nat → Nat → Int64} {Q : bh_Q} {x : Int32} (k1 : ∀ j : Nat, j < 16 → x = nI j → Q (some (.int 1)) (hp D L)) (k0 : ¬ okN 16 x → Q (some (.int 0)) (hp D L)) : bh_wc 1 m_X9_isSign [.int x] (hp D L) Q := by
  refine x_start (lv0 := [_]) (Nat.le_of_ble_eq_true rfl) rfl ?_
  refine x_iload (pc' := 1) rfl rfl rfl ?_
  refine x_if_lt (pc' := 4) rfl rfl (fun c1 => ?_) (fun c1 => ?_)
  · refine x_int (pc' := 15) (v := nI 0) rfl rfl rfl ?_
    refine x_zret rfl rfl (by decide) ?_
    first | exact k0 (okN_neg (by decide) c1) | exact k0 (okN_ge (by decide) c7)
  · refine x_iload (pc' := 5) rfl rfl rfl ?_
    refine x_int (pc' := 7) (v := nI 16) rfl rfl rfl ?_
    refine x_ic_ge (pc' := 10) rfl rfl (fun c7 => ?_) (fun c7 => ?_)
    · refine x_int (pc' := 15) (v := nI 0) rfl rfl rfl ?_
      refine x_zret rfl rfl (by decide) ?_
      first | exact k0 (okN_neg (by decide) c1) | exact k0 (okN_ge (by decide) c7)
    · refine x_int (pc' := 11) (v := nI 1) rfl rfl rfl ?_
      refine x_goto rfl ?_
      refine x_zret rfl rfl (by decide) ?_
      obtain ⟨j, hj, e⟩ := lt_of (n := 16) (by decide) c1 c7
      exact k1 j hj e
set_option maxRecDepth 20000 in
set_option maxHeartbeats 1000000 in
theorem w_X9_isShelf {D : Nat → Nat → Int32} {L : Nat → Nat → Int64} {Q : bh_Q} {x : Int32} (k1 : ∀ j : Nat, j < 2 → x = nI j → Q (some (.int 1)) (hp D L)) (k0 : ¬ okN 2 x → Q (some (.int 0)) (hp D L)) : bh_wc 1 m_X9_isShelf [.int x] (hp D L) Q := by
  refine x_start (lv0 := [_]) (Nat.le_of_ble_eq_true rfl) rfl ?_
  refine x_iload (pc' := 1) rfl rfl rfl ?_
  refine x_if_lt (pc' := 4) rfl rfl (fun c1 => ?_) (fun c1 => ?_)
  · refine x_int (pc' := 14) (v := nI 0) rfl rfl rfl ?_
    refine x_zret rfl rfl (by decide) ?_
    first | exact k0 (okN_neg (by decide) c1) | exact k0 (okN_ge (by decide) c6)
  · refine x_iload (pc' := 5) rfl rfl rfl ?_
    refine x_int (pc' := 6) (v := nI 2) rfl rfl rfl ?_
    refine x_ic_ge (pc' := 9) rfl rfl (fun c6 => ?_) (fun c6 => ?_)
    · refine x_int (pc' := 14) (v := nI 0) rfl rfl rfl ?_
      refine x_zret rfl rfl (by decide) ?_
      first | exact k0 (okN_neg (by decide) c1) | exact k0 (okN_ge (by decide) c6)
    · refine x_int (pc' := 10) (v := nI 1) rfl rfl rfl ?_
      refine x_goto rfl ?_
      refine x_zret rfl rfl (by decide) ?_
      obtain ⟨j, hj, e⟩ := lt_of (n := 2) (by decide) c1 c6
      exact k1 j hj e
set_option maxRecDepth 20000 in
set_option maxHeartbeats 1000000 in
theorem w_X9_isRow {D : Nat → Nat → Int32} {L : Nat → Nat → Int64} {Q : bh_Q} {x : Int32} (k1 : ∀ j : Nat, j < 65536 → x = nI j → Q (some (.int 1)) (hp D L)) (k0 : ¬ okN 65536 x → Q (some (.int 0)) (hp D L)) : bh_wc 1 m_X9_isRow [.int x] (hp D L) Q := by
  refine x_start (lv0 := [_]) (Nat.le_of_ble_eq_true rfl) rfl ?_
  refine x_iload (pc' := 1) rfl rfl rfl ?_
  refine x_if_lt (pc' := 4) rfl rfl (fun c1 => ?_) (fun c1 => ?_)
  · refine x_int (pc' := 16) (v := nI 0) rfl rfl rfl ?_
    refine x_zret rfl rfl (by decide) ?_
    first | exact k0 (okN_neg (by decide) c1) | exact k0 (okN_gt (n := 65535) (by decide) c8)
  · refine x_iload (pc' := 5) rfl rfl rfl ?_
    refine x_int (pc' := 8) (v := nI 65535) rfl rfl rfl ?_
    refine x_ic_gt (pc' := 11) rfl rfl (fun c8 => ?_) (fun c8 => ?_)
    · refine x_int (pc' := 16) (v := nI 0) rfl rfl rfl ?_
      refine x_zret rfl rfl (by decide) ?_
      first | exact k0 (okN_neg (by decide) c1) | exact k0 (okN_gt (n := 65535) (by decide) c8)
    · refine x_int (pc' := 12) (v := nI 1) rfl rfl rfl ?_
      refine x_goto rfl ?_
      refine x_zret rfl rfl (by decide) ?_
      obtain ⟨j, hj, e⟩ := le_of (n := 65535) (by decide) c1 c8
      exact k1 j hj e
set_option maxRecDepth 20000 in
set_option maxHeartbeats 1000000 in
theorem w_X9_isGift {D : Nat → Nat → Int32} {L : Nat → Nat → Int64} {Q : bh_Q} {x : Int32} (k1 : ∀ j : Nat, 1 ≤ j → j ≤ 9999 → x = nI j → Q (some (.int 1)) (hp D L)) (k0 : ¬ okG x → Q (some (.int 0)) (hp D L)) : bh_wc 1 m_X9_isGift [.int x] (hp D L) Q := by
  refine x_start (lv0 := [_]) (Nat.le_of_ble_eq_true rfl) rfl ?_
  refine x_iload (pc' := 1) rfl rfl rfl ?_
  refine x_int (pc' := 2) (v := nI 1) rfl rfl rfl ?_
  refine x_ic_lt (pc' := 5) rfl rfl (fun c2 => ?_) (fun c2 => ?_)
  · refine x_int (pc' := 17) (v := nI 0) rfl rfl rfl ?_
    refine x_zret rfl rfl (by decide) ?_
    refine k0 (fun ⟨j, h1, h2, e⟩ => ?_)
    subst e
    first | exact absurd ((nI_ltI (b := 1) (by omega) (by decide)).mp c2) (by omega) | exact absurd ((nI_ltI (a := 9999) (by decide) (by omega)).mp c9) (by omega)
  · refine x_iload (pc' := 6) rfl rfl rfl ?_
    refine x_int (pc' := 9) (v := nI 9999) rfl rfl rfl ?_
    refine x_ic_gt (pc' := 12) rfl rfl (fun c9 => ?_) (fun c9 => ?_)
    · refine x_int (pc' := 17) (v := nI 0) rfl rfl rfl ?_
      refine x_zret rfl rfl (by decide) ?_
      refine k0 (fun ⟨j, h1, h2, e⟩ => ?_)
      subst e
      first | exact absurd ((nI_ltI (b := 1) (by omega) (by decide)).mp c2) (by omega) | exact absurd ((nI_ltI (a := 9999) (by decide) (by omega)).mp c9) (by omega)
    · refine x_int (pc' := 13) (v := nI 1) rfl rfl rfl ?_
      refine x_goto rfl ?_
      refine x_zret rfl rfl (by decide) ?_
      have h0 : ¬ x < 0 := fun h => c2 (Int32.lt_trans h (by decide))
      obtain ⟨j, hj, e⟩ := le_of (n := 9999) (by decide) h0 c9
      subst e
      exact k1 j (Nat.pos_of_ne_zero (fun e => c2 (by rw [e]; decide))) (by omega) rfl
set_option maxRecDepth 20000 in
set_option maxHeartbeats 1000000 in
theorem w_X7_isWriter {D : Nat → Nat → Int32} {L : Nat → Nat → Int64} {Q : bh_Q} (hW : WF (tv D)) {x : Int32} (k1 : ∀ j : Nat, j < nw (tv D) → x = nI j → Q (some (.int 1)) (hp D L)) (k0 : ¬ okN (nw (tv D)) x → Q (some (.int 0)) (hp D L)) : bh_wc 1 m_X7_isWriter [.ref 1, .int x] (hp D L) Q := by
  refine x_start (lv0 := [_, _]) (Nat.le_of_ble_eq_true rfl) rfl ?_
  have hl := hW.nwl
  refine x_iload (pc' := 1) rfl rfl rfl ?_
  refine x_if_lt (pc' := 4) rfl rfl (fun c1 => ?_) (fun c1 => ?_)
  · refine x_int (pc' := 17) (v := nI 0) rfl rfl rfl ?_
    refine x_zret rfl rfl (by decide) ?_
    first | exact k0 (okN_neg (by omega) c1) | exact k0 (okN_ge (by omega) c9)
  · refine x_iload (pc' := 5) rfl rfl rfl ?_
    refine x_aload (pc' := 6) rfl rfl rfl ?_
    refine x_getI (j := 0) (pc' := 9) rfl rfl rfl (by decide) rfl (by decide) rfl rfl ?_
    refine x_top (hW.enw) ?_
    refine x_ic_ge (pc' := 12) rfl rfl (fun c9 => ?_) (fun c9 => ?_)
    · refine x_int (pc' := 17) (v := nI 0) rfl rfl rfl ?_
      refine x_zret rfl rfl (by decide) ?_
      first | exact k0 (okN_neg (by omega) c1) | exact k0 (okN_ge (by omega) c9)
    · refine x_int (pc' := 13) (v := nI 1) rfl rfl rfl ?_
      refine x_goto rfl ?_
      refine x_zret rfl rfl (by decide) ?_
      obtain ⟨j, hj, e⟩ := lt_of (by omega) c1 c9
      exact k1 j hj e
set_option maxRecDepth 20000 in
set_option maxHeartbeats 1000000 in
theorem w_X7_isBook {D : Nat → Nat → Int32} {L : Nat → Nat → Int64} {Q : bh_Q} (hW : WF (tv D)) {x : Int32} (k1 : ∀ j : Nat, j < nb (tv D) → x = nI j → Q (some (.int 1)) (hp D L)) (k0 : ¬ okN (nb (tv D)) x → Q (some (.int 0)) (hp D L)) : bh_wc 1 m_X7_isBook [.ref 1, .int x] (hp D L) Q := by
  refine x_start (lv0 := [_, _]) (Nat.le_of_ble_eq_true rfl) rfl ?_
  have hl := hW.nbl
  refine x_iload (pc' := 1) rfl rfl rfl ?_
  refine x_if_lt (pc' := 4) rfl rfl (fun c1 => ?_) (fun c1 => ?_)
  · refine x_int (pc' := 17) (v := nI 0) rfl rfl rfl ?_
    refine x_zret rfl rfl (by decide) ?_
    first | exact k0 (okN_neg (by omega) c1) | exact k0 (okN_ge (by omega) c9)
  · refine x_iload (pc' := 5) rfl rfl rfl ?_
    refine x_aload (pc' := 6) rfl rfl rfl ?_
    refine x_getI (j := 1) (pc' := 9) rfl rfl rfl (by decide) rfl (by decide) rfl rfl ?_
    refine x_top (hW.enb) ?_
    refine x_ic_ge (pc' := 12) rfl rfl (fun c9 => ?_) (fun c9 => ?_)
    · refine x_int (pc' := 17) (v := nI 0) rfl rfl rfl ?_
      refine x_zret rfl rfl (by decide) ?_
      first | exact k0 (okN_neg (by omega) c1) | exact k0 (okN_ge (by omega) c9)
    · refine x_int (pc' := 13) (v := nI 1) rfl rfl rfl ?_
      refine x_goto rfl ?_
      refine x_zret rfl rfl (by decide) ?_
      obtain ⟨j, hj, e⟩ := lt_of (by omega) c1 c9
      exact k1 j hj e
set_option maxRecDepth 20000 in
set_option maxHeartbeats 1000000 in
theorem w_X7_isPage {D : Nat → Nat → Int32} {L : Nat → Nat → Int64} {Q : bh_Q} (hW : WF (tv D)) {x y : Int32} (k1 : ∀ b q : Nat, b < nb (tv D) → q < lng (tv D) b → x = nI b → y = nI q → Q (some (.int 1)) (hp D L)) (k0 : ¬ okB (tv D) x y → Q (some (.int 0)) (hp D L)) : bh_wc 2 m_X7_isPage [.ref 1, .int x, .int y] (hp D L) Q := by
  refine x_start (lv0 := [_, _, _]) (Nat.le_of_ble_eq_true rfl) rfl ?_
  refine x_aload (pc' := 1) rfl rfl rfl ?_
  refine x_iload (pc' := 2) rfl rfl rfl ?_
  refine x_callV (pc' := 5) (d1 := 1) (Bs := [_]) rfl rfl rfl rfl rfl rfl rfl (Nat.le_of_ble_eq_true rfl) ⟨rfl, rfl⟩ (by decide) rfl (by decide) ?_
  refine w_X7_isBook hW (fun b hb e => ?_) (fun h2 => ?_)
  · subst e
    have h8 := hW.lngl hb
    have h4 := hW.nbl
    refine ⟨rfl, ?_⟩
    refine x_if_eq (pc' := 8) rfl rfl (fun c5 => absurd c5 (by decide)) (fun _ => ?_)
    refine x_iload (pc' := 9) rfl rfl rfl ?_
    refine x_if_lt (pc' := 12) rfl rfl (fun c9 => ?_) (fun c9 => ?_)
    · refine x_int (pc' := 27) (v := nI 0) rfl rfl rfl ?_
      refine x_zret rfl rfl (by decide) ?_
      first
        | exact k0 (fun ⟨c, q, q1, q2, e1, e2⟩ => h2 ⟨c, q1, e1⟩)
        | (refine k0 (fun ⟨c, q, q1, q2, e1, e2⟩ => ?_); have e3 := nI_inj (by omega) (by omega) e1; subst e3; first | exact okN_neg (by omega) c9 ⟨q, q2, e2⟩ | exact okN_ge (by omega) c19 ⟨q, q2, e2⟩)
    · refine x_iload (pc' := 13) rfl rfl rfl ?_
      refine x_aload (pc' := 14) rfl rfl rfl ?_
      refine x_getR (pc' := 17) rfl rfl rfl (by decide) rfl (by decide) rfl rfl ?_
      refine x_iload (pc' := 18) rfl rfl rfl ?_
      refine x_iald (pc' := 19) rfl rfl (by decide) rfl (by decide) (show _ < 4 by omega) ?_
      refine x_top (hW.elng hb) ?_
      refine x_ic_ge (pc' := 22) rfl rfl (fun c19 => ?_) (fun c19 => ?_)
      · refine x_int (pc' := 27) (v := nI 0) rfl rfl rfl ?_
        refine x_zret rfl rfl (by decide) ?_
        first
          | exact k0 (fun ⟨c, q, q1, q2, e1, e2⟩ => h2 ⟨c, q1, e1⟩)
          | (refine k0 (fun ⟨c, q, q1, q2, e1, e2⟩ => ?_); have e3 := nI_inj (by omega) (by omega) e1; subst e3; first | exact okN_neg (by omega) c9 ⟨q, q2, e2⟩ | exact okN_ge (by omega) c19 ⟨q, q2, e2⟩)
      · refine x_int (pc' := 23) (v := nI 1) rfl rfl rfl ?_
        refine x_goto rfl ?_
        refine x_zret rfl rfl (by decide) ?_
        obtain ⟨j, hj, e⟩ := lt_of (by omega) c9 c19
        exact k1 b j hb hj rfl e
  · refine ⟨rfl, ?_⟩
    refine x_if_eq (pc' := 8) rfl rfl (fun _ => ?_) (fun c5 => absurd (by decide) c5)
    refine x_int (pc' := 27) (v := nI 0) rfl rfl rfl ?_
    refine x_zret rfl rfl (by decide) ?_
    first
      | exact k0 (fun ⟨c, q, q1, q2, e1, e2⟩ => h2 ⟨c, q1, e1⟩)
      | (refine k0 (fun ⟨c, q, q1, q2, e1, e2⟩ => ?_); have e3 := nI_inj (by omega) (by omega) e1; subst e3; first | exact okN_neg (by omega) c9 ⟨q, q2, e2⟩ | exact okN_ge (by omega) c19 ⟨q, q2, e2⟩)
theorem bit1 (n : Nat) : (n &&& 1) = 0 ↔ n.testBit 0 = false := by
  rw [Nat.and_one_is_mod, Nat.testBit_zero]
  constructor
  · intro h; simp [h]
  · intro h; simpa using h
theorem ones {n i : Nat} (h : i < n) : (2 ^ n - 1).testBit i = true := by rw [Nat.testBit_two_pow_sub_one]; simp [h]
theorem high {x n i : Nat} (hx : x < 2 ^ n) (h : n ≤ i) : x.testBit i = false := Nat.testBit_lt_two_pow (Nat.lt_of_lt_of_le hx (Nat.pow_le_pow_right (by decide) h))
theorem hab3 {row a : Nat} (hr : row < 65536) : row &&& ((1 <<< a) ^^^ 4294967295) = row &&& (65535 ^^^ (1 <<< a)) := by
  apply Nat.eq_of_testBit_eq
  intro i
  simp only [Nat.testBit_and, Nat.testBit_xor]
  by_cases hi : i < 16
  · rw [show 4294967295 = 2 ^ 32 - 1 by decide, show 65535 = 2 ^ 16 - 1 by decide, ones (n := 32) (by omega), ones hi, Bool.xor_comm]
  · rw [high (n := 16) hr (by omega)]
    simp
theorem hab5 {row a b : Nat} : (((row >>> a) ^^^ (row >>> b)) &&& 1) = 0 ↔ row.testBit a = row.testBit b := by
  rw [bit1, Nat.testBit_xor, Nat.testBit_shiftRight, Nat.testBit_shiftRight]
  cases row.testBit (a + 0) <;> cases row.testBit (b + 0) <;> simp_all
theorem hab_lt {k a b row : Nat} (h : hok k a b) (hr : row < 65536) : hab k a b row < 65536 := by
  obtain ⟨h1, h2, h3, -⟩ := h
  have hp : ∀ c, c < 16 → 1 <<< c < 2 ^ 16 := fun c hc => by rw [Nat.one_shiftLeft]; exact Nat.pow_lt_pow_right (by decide) hc
  have hr' : row < 2 ^ 16 := hr
  show hab k a b row < 2 ^ 16
  unfold hab
  split
  · exact Nat.xor_lt_two_pow hr' (hp a h2)
  · exact Nat.or_lt_two_pow hr' (hp a h2)
  · exact Nat.and_lt_two_pow _ (Nat.xor_lt_two_pow (by decide) (hp a h2))
  · exact Nat.and_lt_two_pow _ (by decide)
  · split
    · exact hr'
    · exact Nat.xor_lt_two_pow hr' (Nat.or_lt_two_pow (hp a h2) (hp b h3))
  · refine Nat.or_lt_two_pow (Nat.and_lt_two_pow _ (Nat.xor_lt_two_pow (by decide) (hp b h3))) ?_
    split
    · exact hp b h3
    · decide
  · exact hr'
theorem k7 {k : Nat} (h : k < 7) : k = 0 ∨ k = 1 ∨ k = 2 ∨ k = 3 ∨ k = 4 ∨ k = 5 ∨ k = 6 := by omega
set_option maxRecDepth 20000 in
set_option maxHeartbeats 1000000 in
theorem w_X1_signsOf {D : Nat → Nat → Int32} {L : Nat → Nat → Int64} {Q : bh_Q} {k : Nat} (hk : k < 7) (k1 : Q (some (.int (nI (sg k)))) (hp D L)) : bh_wc 1 m_X1_signsOf [.int (nI k)] (hp D L) Q := by
  refine x_start (lv0 := [_]) (Nat.le_of_ble_eq_true rfl) rfl ?_
  refine x_iload (pc' := 1) rfl rfl rfl ?_
  refine y_if_ne (pc' := 4) rfl rfl (by omega) (fun c1 => ?_) (fun c1 => ?_)
  · refine x_iload (pc' := 7) rfl rfl rfl ?_
    refine x_int (pc' := 8) (v := nI 5) rfl rfl rfl ?_
    refine y_ic_eq (pc' := 11) rfl rfl (by omega) (by omega) (fun c8 => ?_) (fun c8 => ?_)
    · refine x_int (pc' := 18) (v := nI 2) rfl rfl rfl ?_
      refine x_goto rfl ?_
      refine x_iret rfl rfl ?_
      have e : sg k = 2 := by unfold sg; (repeat' split) <;> omega
      rw [e] at k1
      exact k1
    · refine x_iload (pc' := 12) rfl rfl rfl ?_
      refine x_int (pc' := 14) (v := nI 6) rfl rfl rfl ?_
      refine y_ic_ne (pc' := 17) rfl rfl (by omega) (by omega) (fun c14 => ?_) (fun c14 => ?_)
      · refine x_int (pc' := 22) (v := nI 1) rfl rfl rfl ?_
        refine x_iret rfl rfl ?_
        have e : sg k = 1 := by unfold sg; (repeat' split) <;> omega
        rw [e] at k1
        exact k1
      · refine x_int (pc' := 18) (v := nI 2) rfl rfl rfl ?_
        refine x_goto rfl ?_
        refine x_iret rfl rfl ?_
        have e : sg k = 2 := by unfold sg; (repeat' split) <;> omega
        rw [e] at k1
        exact k1
  · refine x_int (pc' := 5) (v := nI 0) rfl rfl rfl ?_
    refine x_iret rfl rfl ?_
    have e : sg k = 0 := by unfold sg; (repeat' split) <;> omega
    rw [e] at k1
    exact k1
set_option maxRecDepth 20000 in
set_option maxHeartbeats 1000000 in
theorem w_X1_firstSign {D : Nat → Nat → Int32} {L : Nat → Nat → Int64} {Q : bh_Q} {k : Nat} {x : Int32} (hk : k < 7) (k1 : Q (some (.int (if 0 < sg k then x else -1))) (hp D L)) : bh_wc 2 m_X1_firstSign [.int (nI k), .int x] (hp D L) Q := by
  refine x_start (lv0 := [_, _]) (Nat.le_of_ble_eq_true rfl) rfl ?_
  refine x_iload (pc' := 1) rfl rfl rfl ?_
  refine x_callS (pc' := 4) (d1 := 1) (As := [_]) rfl rfl rfl rfl (by decide) rfl rfl (Nat.le_of_ble_eq_true rfl) ⟨rfl, rfl⟩ (by decide) ?_
  refine w_X1_signsOf (by omega) ?_
  refine ⟨rfl, ?_⟩
  refine y_if_le (pc' := 7) rfl rfl (by first | omega | (unfold sg; (repeat' split) <;> omega)) (fun c4 => ?_) (fun c4 => ?_)
  · refine x_int (pc' := 12) (v := (-1)) rfl rfl rfl ?_
    refine x_iret rfl rfl ?_
    rw [if_neg (by omega)] at k1
    exact k1
  · refine x_iload (pc' := 8) rfl rfl rfl ?_
    refine x_goto rfl ?_
    refine x_iret rfl rfl ?_
    rw [if_pos (by omega)] at k1
    exact k1
set_option maxRecDepth 20000 in
set_option maxHeartbeats 1000000 in
theorem w_X1_secondSign {D : Nat → Nat → Int32} {L : Nat → Nat → Int64} {Q : bh_Q} {k : Nat} {x : Int32} (hk : k < 7) (k1 : Q (some (.int (if 1 < sg k then x else -1))) (hp D L)) : bh_wc 2 m_X1_secondSign [.int (nI k), .int x] (hp D L) Q := by
  refine x_start (lv0 := [_, _]) (Nat.le_of_ble_eq_true rfl) rfl ?_
  refine x_iload (pc' := 1) rfl rfl rfl ?_
  refine x_callS (pc' := 4) (d1 := 1) (As := [_]) rfl rfl rfl rfl (by decide) rfl rfl (Nat.le_of_ble_eq_true rfl) ⟨rfl, rfl⟩ (by decide) ?_
  refine w_X1_signsOf (by omega) ?_
  refine ⟨rfl, ?_⟩
  refine x_int (pc' := 5) (v := nI 1) rfl rfl rfl ?_
  refine y_ic_le (pc' := 8) rfl rfl (by first | omega | (unfold sg; (repeat' split) <;> omega)) (by first | omega | (unfold sg; (repeat' split) <;> omega)) (fun c5 => ?_) (fun c5 => ?_)
  · refine x_int (pc' := 13) (v := (-1)) rfl rfl rfl ?_
    refine x_iret rfl rfl ?_
    rw [if_neg (by omega)] at k1
    exact k1
  · refine x_iload (pc' := 9) rfl rfl rfl ?_
    refine x_goto rfl ?_
    refine x_iret rfl rfl ?_
    rw [if_pos (by omega)] at k1
    exact k1
set_option maxRecDepth 20000 in
set_option maxHeartbeats 1000000 in
theorem w_X1_changeRow {D : Nat → Nat → Int32} {L : Nat → Nat → Int64} {Q : bh_Q} {k a b row : Nat} (h : hok k a b) (hr : row < 65536) (k1 : Q (some (.int (nI (hab k a b row)))) (hp D L)) : bh_wc 1 m_X1_changeRow [.int (nI k), .int (nI a), .int (nI b), .int (nI row)] (hp D L) Q := by
  refine x_start (lv0 := [_, _, _, _]) (Nat.le_of_ble_eq_true rfl) rfl ?_
  refine x_iload (pc' := 1) rfl rfl rfl ?_
  rcases k7 h.1 with rfl | rfl | rfl | rfl | rfl | rfl | rfl
  · refine x_tab1O rfl (Or.inl (by decide)) (by decide) ?_
    refine x_iload (pc' := 117) rfl rfl rfl ?_
    refine x_iret rfl rfl ?_
    exact k1
  · refine x_tab1N (n := 0) (t := 40) rfl (by decide) rfl ?_
    refine x_iload (pc' := 41) rfl rfl rfl ?_
    refine x_int (pc' := 42) (v := nI 1) rfl rfl rfl ?_
    refine x_iload (pc' := 43) rfl rfl rfl ?_
    refine y_ishl (pc' := 44) rfl rfl (by first | omega | (have := h.2.1; have := h.2.2.1; omega)) ?_
    refine y_ixor (pc' := 45) rfl rfl ?_
    refine x_iret rfl rfl ?_
    exact k1
  · refine x_tab1N (n := 1) (t := 46) rfl (by decide) rfl ?_
    refine x_iload (pc' := 47) rfl rfl rfl ?_
    refine x_int (pc' := 48) (v := nI 1) rfl rfl rfl ?_
    refine x_iload (pc' := 49) rfl rfl rfl ?_
    refine y_ishl (pc' := 50) rfl rfl (by first | omega | (have := h.2.1; have := h.2.2.1; omega)) ?_
    refine y_ior (pc' := 51) rfl rfl ?_
    refine x_iret rfl rfl ?_
    exact k1
  · refine x_tab1N (n := 2) (t := 52) rfl (by decide) rfl ?_
    refine x_iload (pc' := 53) rfl rfl rfl ?_
    refine x_int (pc' := 54) (v := nI 1) rfl rfl rfl ?_
    refine x_iload (pc' := 55) rfl rfl rfl ?_
    refine y_ishl (pc' := 56) rfl rfl (by first | omega | (have := h.2.1; have := h.2.2.1; omega)) ?_
    refine x_int (pc' := 57) (v := nI 4294967295) rfl rfl rfl ?_
    refine y_ixor (pc' := 58) rfl rfl ?_
    refine y_iand (pc' := 59) rfl rfl ?_
    refine x_iret rfl rfl ?_
    rw [hab3 hr]
    exact k1
  · refine x_tab1N (n := 3) (t := 60) rfl (by decide) rfl ?_
    refine x_iload (pc' := 61) rfl rfl rfl ?_
    refine x_iload (pc' := 62) rfl rfl rfl ?_
    refine y_ishl (pc' := 63) rfl rfl (by first | omega | (have := h.2.1; have := h.2.2.1; omega)) ?_
    refine x_iload (pc' := 64) rfl rfl rfl ?_
    refine x_int (pc' := 66) (v := nI 16) rfl rfl rfl ?_
    refine x_iload (pc' := 67) rfl rfl rfl ?_
    refine y_isub (pc' := 68) rfl rfl (by first | omega | (have := h.2.1; have := h.2.2.1; omega)) ?_
    refine y_iushr (pc' := 69) rfl rfl (by first | omega | (have := h.2.1; have := h.2.2.1; omega)) (by first | omega | (have := h.2.1; have := h.2.2.1; omega)) ?_
    refine y_ior (pc' := 70) rfl rfl ?_
    refine x_int (pc' := 72) (v := nI 65535) rfl rfl rfl ?_
    refine y_iand (pc' := 73) rfl rfl ?_
    refine x_iret rfl rfl ?_
    exact k1
  · refine x_tab1N (n := 4) (t := 74) rfl (by decide) rfl ?_
    refine x_iload (pc' := 75) rfl rfl rfl ?_
    refine x_iload (pc' := 76) rfl rfl rfl ?_
    refine y_ishr (pc' := 77) rfl rfl (by first | omega | (have := h.2.1; have := h.2.2.1; omega)) (by first | omega | (have := h.2.1; have := h.2.2.1; omega)) ?_
    refine x_iload (pc' := 78) rfl rfl rfl ?_
    refine x_iload (pc' := 79) rfl rfl rfl ?_
    refine y_ishr (pc' := 80) rfl rfl (by first | omega | (have := h.2.1; have := h.2.2.1; omega)) (by first | omega | (have := h.2.1; have := h.2.2.1; omega)) ?_
    refine y_ixor (pc' := 81) rfl rfl ?_
    refine x_int (pc' := 82) (v := nI 1) rfl rfl rfl ?_
    refine y_iand (pc' := 83) rfl rfl ?_
    refine y_if_ne (pc' := 86) rfl rfl (Nat.lt_of_le_of_lt Nat.and_le_right (by decide)) (fun c83 => ?_) (fun c83 => ?_)
    · refine x_iload (pc' := 91) rfl rfl rfl ?_
      refine x_int (pc' := 92) (v := nI 1) rfl rfl rfl ?_
      refine x_iload (pc' := 93) rfl rfl rfl ?_
      refine y_ishl (pc' := 94) rfl rfl (by first | omega | (have := h.2.1; have := h.2.2.1; omega)) ?_
      refine x_int (pc' := 95) (v := nI 1) rfl rfl rfl ?_
      refine x_iload (pc' := 96) rfl rfl rfl ?_
      refine y_ishl (pc' := 97) rfl rfl (by first | omega | (have := h.2.1; have := h.2.2.1; omega)) ?_
      refine y_ior (pc' := 98) rfl rfl ?_
      refine y_ixor (pc' := 99) rfl rfl ?_
      refine x_iret rfl rfl ?_
      first | (have e : hab 5 a b row = _ := if_pos (hab5.mp c83); rw [e] at k1; exact k1) | (have e : hab 5 a b row = _ := if_neg (fun e => c83 (hab5.mpr e)); rw [e] at k1; exact k1)
    · refine x_iload (pc' := 87) rfl rfl rfl ?_
      refine x_goto rfl ?_
      refine x_iret rfl rfl ?_
      first | (have e : hab 5 a b row = _ := if_pos (hab5.mp c83); rw [e] at k1; exact k1) | (have e : hab 5 a b row = _ := if_neg (fun e => c83 (hab5.mpr e)); rw [e] at k1; exact k1)
  · refine x_tab1N (n := 5) (t := 100) rfl (by decide) rfl ?_
    refine x_iload (pc' := 101) rfl rfl rfl ?_
    refine x_int (pc' := 102) (v := nI 1) rfl rfl rfl ?_
    refine x_iload (pc' := 103) rfl rfl rfl ?_
    refine y_ishl (pc' := 104) rfl rfl (by first | omega | (have := h.2.1; have := h.2.2.1; omega)) ?_
    refine x_int (pc' := 105) (v := nI 4294967295) rfl rfl rfl ?_
    refine y_ixor (pc' := 106) rfl rfl ?_
    refine y_iand (pc' := 107) rfl rfl ?_
    refine x_iload (pc' := 108) rfl rfl rfl ?_
    refine x_iload (pc' := 109) rfl rfl rfl ?_
    refine y_ishr (pc' := 110) rfl rfl (by first | omega | (have := h.2.1; have := h.2.2.1; omega)) (by first | omega | (have := h.2.1; have := h.2.2.1; omega)) ?_
    refine x_int (pc' := 111) (v := nI 1) rfl rfl rfl ?_
    refine y_iand (pc' := 112) rfl rfl ?_
    refine x_iload (pc' := 113) rfl rfl rfl ?_
    refine y_ishl (pc' := 114) rfl rfl (by first | omega | (have := h.2.1; have := h.2.2.1; omega)) ?_
    refine y_ior (pc' := 115) rfl rfl ?_
    refine x_iret rfl rfl ?_
    rw [hab3 hr, tb]
    have e : (if row.testBit a = true then 1 else 0) <<< b = if row.testBit a = true then 1 <<< b else 0 := by split <;> simp
    rw [e]
    exact k1
set_option maxRecDepth 20000 in
set_option maxHeartbeats 1000000 in
theorem w_X1_signAt {D : Nat → Nat → Int32} {L : Nat → Nat → Int64} {Q : bh_Q} {row i : Nat} (hr : row < 65536) (hi : i < 16) (k1 : Q (some (.int (nI (if row.testBit i then 1 else 0)))) (hp D L)) : bh_wc 1 m_X1_signAt [.int (nI row), .int (nI i)] (hp D L) Q := by
  refine x_start (lv0 := [_, _]) (Nat.le_of_ble_eq_true rfl) rfl ?_
  refine x_iload (pc' := 1) rfl rfl rfl ?_
  refine x_iload (pc' := 2) rfl rfl rfl ?_
  refine y_ishr (pc' := 3) rfl rfl (by omega) (by omega) ?_
  refine x_int (pc' := 4) (v := nI 1) rfl rfl rfl ?_
  refine y_iand (pc' := 5) rfl rfl ?_
  refine x_iret rfl rfl ?_
  rw [tb]
  exact k1
theorem okH_k {k : Nat} {y z : Int32} (hk : k < 7) (h : okH (nI k) y z) : ∃ a b, hok k a b ∧ (1 ≤ k → y = nI a) ∧ (5 ≤ k → z = nI b) := by
  obtain ⟨k2, a, b, e, h1, h2, h3⟩ := h
  have := nI_inj (by omega) (by have := h1.1; omega) e
  subst this
  exact ⟨a, b, h1, h2, h3⟩
