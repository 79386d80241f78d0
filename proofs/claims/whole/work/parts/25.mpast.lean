/-! ===== what was, what is kept: the reference ===== -/
def HM (D : Nat → Nat → Int32) (ps : List TW) : Prop := ps.length ≤ 10 ∧ D 205 5 = nI ps.length ∧ ∀ j, j < ps.length → Rn (ps.getD j tz) (fun k => D 208 (560 * (ps.length - 1 - j) + k))
def b01 (b : Bool) : Nat := match b with
  | true => 1
  | false => 0
theorem b01_le (b : Bool) : b01 b ≤ 1 := by cases b <;> decide
def KM (D : Nat → Nat → Int32) (sh : Nat → Option TW) : Prop := ∀ s, s < 2 → D 210 s = nI (b01 (sh s).isSome) ∧ ∀ T, sh s = some T → Rn T (fun k => D 209 (560 * s + k))
def GP (ps : List TW) : Prop := ∀ j, j < ps.length → WF (ps.getD j tz)
def GS (sh : Nat → Option TW) : Prop := ∀ s, s < 2 → ∀ T, sh s = some T → WF T
/-- 560 places of one row come into another -/
def Mv (D D' : Nat → Nat → Int32) (x a y b : Nat) : Prop := (∀ j, j < 560 → D' y (b + j) = D x (a + j)) ∧ (∀ j, (j < b ∨ b + 560 ≤ j) → D' y j = D y j) ∧ ∀ k, k ≠ y → D' k = D k
set_option maxRecDepth 20000 in
theorem l_X10_moves {D : Nat → Nat → Int32} {L : Nat → Nat → Int64} {Q : bh_Q} {x a y b d : Nat} (hx : x < 228) (hy : y < 228) (tx : bh_tg x = 20) (ty : bh_tg y = 20) (lx : a + 560 ≤ bh_ln x) (ly : b + 560 ≤ bh_ln y) (mx : bh_ln x ≤ 10000) (my : bh_ln y ≤ 10000) (hne : x ≠ y) : ∀ (n i : Nat) (D1 : Nat → Nat → Int32), i + n = 560 → (∀ j, j < i → D1 y (b + j) = D x (a + j)) → (∀ j, (j < b ∨ b + i ≤ j) → D1 y j = D y j) → (∀ k, k ≠ y → D1 k = D k) → (∀ D', Mv D D' x a y b → Q none (hp D' L)) → bw m_X10_moves d Q 3 [.ref x, .int (nI a), .ref y, .int (nI b), .int (nI i)] [] D1 L := by
  intro n
  induction n with
  | zero =>
    intro i D1 hi g1 g2 g3 k1
    refine x_iload (pc' := 5) rfl rfl rfl ?_
    refine x_int (pc' := 8) (v := nI 560) rfl rfl rfl ?_
    refine y_ic_ge (pc' := 11) rfl rfl (by omega) (by omega) (fun c8 => ?_) (fun c8 => ?_)
    · refine x_vret rfl rfl ?_
      refine k1 D1 ⟨fun j hj => g1 j (by omega), fun j hj => g2 j (by omega), g3⟩
    · exact absurd c8 (by omega)
  | succ n ih =>
    intro i D1 hi g1 g2 g3 k1
    refine x_iload (pc' := 5) rfl rfl rfl ?_
    refine x_int (pc' := 8) (v := nI 560) rfl rfl rfl ?_
    refine y_ic_ge (pc' := 11) rfl rfl (by omega) (by omega) (fun c8 => ?_) (fun c8 => ?_)
    · exact absurd c8 (by omega)
    · refine x_aload (pc' := 12) rfl rfl rfl ?_
      refine x_iload (pc' := 13) rfl rfl rfl ?_
      refine x_iload (pc' := 15) rfl rfl rfl ?_
      refine y_iadd (pc' := 16) rfl rfl ?_
      refine x_aload (pc' := 17) rfl rfl rfl ?_
      refine x_iload (pc' := 18) rfl rfl rfl ?_
      refine x_iload (pc' := 20) rfl rfl rfl ?_
      refine y_iadd (pc' := 21) rfl rfl ?_
      refine x_iald (pc' := 22) rfl rfl hx tx (by omega) (by omega) ?_
      refine x_iast (pc' := 23) rfl rfl hy ty (by omega) (by omega) ?_
      refine y_inc (pc' := 26) (lv' := [_, _, _, _, _]) rfl rfl rfl (by decide) rfl ?_
      refine x_goto rfl ?_
      refine ih (i + 1) _ (by omega) (fun j hj => ?_) (fun j hj => ?_) (fun k hk => ?_) k1
      · rw [bh_up2_k]
        dsimp only
        by_cases e : j = i
        · rw [if_pos (by omega), g3 x hne, e]
        · rw [if_neg (by omega)]; exact g1 j (by omega)
      · rw [bh_up2_k]
        dsimp only
        rw [if_neg (by omega)]
        exact g2 j (by omega)
      · rw [bh_up2_ne _ _ _ hk]
        exact g3 k hk
set_option maxRecDepth 20000 in
set_option maxHeartbeats 1000000 in
theorem w_X10_moves {D : Nat → Nat → Int32} {L : Nat → Nat → Int64} {Q : bh_Q} {x a y b : Nat} (hx : x < 228) (hy : y < 228) (tx : bh_tg x = 20) (ty : bh_tg y = 20) (lx : a + 560 ≤ bh_ln x) (ly : b + 560 ≤ bh_ln y) (mx : bh_ln x ≤ 10000) (my : bh_ln y ≤ 10000) (hne : x ≠ y) (k1 : ∀ D', Mv D D' x a y b → Q none (hp D' L)) : bh_wc 1 m_X10_moves [.ref x, .int (nI a), .ref y, .int (nI b)] (hp D L) Q := by
  refine x_start (lv0 := [_, _, _, _, _]) (Nat.le_of_ble_eq_true rfl) rfl ?_
  refine x_int (pc' := 1) (v := nI 0) rfl rfl rfl ?_
  refine x_istore (pc' := 3) (lv' := [_, _, _, _, _]) rfl rfl (by decide) rfl ?_
  exact l_X10_moves hx hy tx ty lx ly mx my hne 560 0 D rfl (fun j hj => absurd hj (Nat.not_lt_zero j)) (fun _ _ => rfl) (fun _ _ => rfl) k1
set_option maxRecDepth 20000 in
theorem l_X10_keepsPast {D : Nat → Nat → Int32} {L : Nat → Nat → Int64} {Q : bh_Q} {d : Nat} : ∀ (n i : Nat) (D1 : Nat → Nat → Int32), i + n = 5040 → (∀ j, j < i → D1 208 j = D 208 (560 + j)) → (∀ j, i ≤ j → D1 208 j = D 208 j) → (∀ k, k ≠ 208 → D1 k = D k) → (∀ D', ((∀ j, j < 5040 → D' 208 j = D 208 (560 + j)) ∧ ∀ k, k ≠ 208 → D' k = D k) → bw m_X10_keepsPast d Q 42 [.ref 205, .int (nI (560 + 5040))] [] D' L) → bw m_X10_keepsPast d Q 13 [.ref 205, .int (nI (560 + i))] [] D1 L := by
  intro n
  induction n with
  | zero =>
    intro i D1 hi g1 g2 g3 k1
    have e : i = 5040 := by omega
    subst e
    refine x_iload (pc' := 14) rfl rfl rfl ?_
    refine x_int (pc' := 17) (v := nI 5600) rfl rfl rfl ?_
    refine y_ic_ge (pc' := 20) rfl rfl (by omega) (by omega) (fun c17 => ?_) (fun c17 => ?_)
    · refine k1 D1 ⟨fun j hj => g1 j (by omega), g3⟩
    · exact absurd c17 (by omega)
  | succ n ih =>
    intro i D1 hi g1 g2 g3 k1
    refine x_iload (pc' := 14) rfl rfl rfl ?_
    refine x_int (pc' := 17) (v := nI 5600) rfl rfl rfl ?_
    refine y_ic_ge (pc' := 20) rfl rfl (by omega) (by omega) (fun c17 => ?_) (fun c17 => ?_)
    · exact absurd c17 (by omega)
    · refine x_aload (pc' := 21) rfl rfl rfl ?_
      refine x_getR (pc' := 24) rfl rfl rfl (by decide) rfl (by decide) rfl rfl ?_
      refine x_iload (pc' := 25) rfl rfl rfl ?_
      refine x_int (pc' := 28) (v := nI 560) rfl rfl rfl ?_
      refine y_isub (pc' := 29) rfl rfl (by omega) ?_
      refine x_aload (pc' := 30) rfl rfl rfl ?_
      refine x_getR (pc' := 33) rfl rfl rfl (by decide) rfl (by decide) rfl rfl ?_
      refine x_iload (pc' := 34) rfl rfl rfl ?_
      refine x_iald (pc' := 35) rfl rfl (by decide) rfl (by decide) (show _ < 5600 by omega) ?_
      refine x_iast (pc' := 36) rfl rfl (by decide) rfl (by decide) (show _ < 5600 by omega) ?_
      refine y_inc (pc' := 39) (lv' := [_, _]) rfl rfl rfl (by decide) rfl ?_
      refine x_goto rfl ?_
      refine ih (i + 1) _ (by omega) (fun j hj => ?_) (fun j hj => ?_) (fun k hk => ?_) k1
      · rw [bh_up2_k]
        dsimp only
        by_cases e : j = i
        · rw [if_pos (by omega), g2 _ (by omega), e]
        · rw [if_neg (by omega)]; exact g1 j (by omega)
      · rw [bh_up2_k]
        dsimp only
        rw [if_neg (by omega)]
        exact g2 j (by omega)
      · rw [bh_up2_ne _ _ _ hk]
        exact g3 k hk
set_option maxRecDepth 20000 in
theorem l2_X10_keepsPast {D : Nat → Nat → Int32} {L : Nat → Nat → Int64} {Q : bh_Q} {u : Nat} {x : Value} (hu0 : u < 10) (hu : D 205 5 = nI u) (k1 : ∀ D2, Mv D D2 206 0 208 (560 * u) → Q none (hp (bh_up2 D2 205 5 (nI (u + 1))) L)) : bw m_X10_keepsPast 1 Q 52 [.ref 205, x] [] D L := by
  refine x_aload (pc' := 53) rfl rfl rfl ?_
  refine x_getR (pc' := 56) rfl rfl rfl (by decide) rfl (by decide) rfl rfl ?_
  refine x_int (pc' := 57) (v := nI 0) rfl rfl rfl ?_
  refine x_aload (pc' := 58) rfl rfl rfl ?_
  refine x_getR (pc' := 61) rfl rfl rfl (by decide) rfl (by decide) rfl rfl ?_
  refine x_int (pc' := 64) (v := nI 560) rfl rfl rfl ?_
  refine x_aload (pc' := 65) rfl rfl rfl ?_
  refine x_getI (j := 5) (pc' := 68) rfl rfl rfl (by decide) rfl (by decide) rfl rfl ?_
  refine x_top (hu) ?_
  refine y_imul (pc' := 69) rfl rfl ?_
  refine x_callS (pc' := 72) (d1 := 1) (As := [_, _, _, _]) rfl rfl rfl rfl (by decide) rfl rfl (Nat.le_of_ble_eq_true rfl) ⟨rfl, rfl⟩ (by decide) ?_
  refine w_X10_moves (by decide) (by decide) rfl rfl (by decide) (show 560 * u + 560 ≤ 5600 by omega) (by decide) (by decide) (by decide) (fun D2 v2 => ?_)
  have hu2 : D2 205 5 = nI u := by rw [v2.2.2 205 (by decide)]; exact hu
  refine ⟨rfl, ?_⟩
  refine x_aload (pc' := 73) rfl rfl rfl ?_
  refine x_dup (pc' := 74) rfl rfl rfl ?_
  refine x_getI (j := 5) (pc' := 77) rfl rfl rfl (by decide) rfl (by decide) rfl rfl ?_
  refine x_top (hu2) ?_
  refine x_int (pc' := 78) (v := nI 1) rfl rfl rfl ?_
  refine y_iadd (pc' := 79) rfl rfl ?_
  refine x_putI (j := 5) (pc' := 82) rfl rfl rfl (by decide) rfl (by decide) rfl rfl ?_
  refine x_vret rfl rfl ?_
  exact k1 D2 v2
set_option maxRecDepth 20000 in
set_option maxHeartbeats 1000000 in
theorem w_X10_keepsPast {D : Nat → Nat → Int32} {L : Nat → Nat → Int64} {Q : bh_Q} {T : TW} (hW : WF T) (hR : Rn T (D 206)) {ps : List TW} (hH : HM D ps) (hG : GP ps) (k1 : ∀ D', OffL [205, 208] D D' → (∀ j, j ≠ 5 → D' 205 j = D 205 j) → HM D' ((T :: ps).take 10) → Q none (hp D' L)) : bh_wc 2 m_X10_keepsPast [.ref 205] (hp D L) Q := by
  refine x_start (lv0 := [_, _]) (Nat.le_of_ble_eq_true rfl) rfl ?_
  obtain ⟨hu0, hu, hps⟩ := hH
  have fin2 : ¬ ps.length = 10 → ∀ D2, Mv D D2 206 0 208 (560 * ps.length) → Q none (hp (bh_up2 D2 205 5 (nI (ps.length + 1))) L) := by
    intro h10 D2 v2
    have hl : ((T :: ps).take 10).length = ps.length + 1 := by rw [take10_len, Nat.min_eq_left (by omega)]
    refine k1 _ (fun k hk => ?_) (fun j hj => ?_) ⟨by omega, by rw [hl]; rfl, fun j hj => ?_⟩
    · rw [bh_up2_ne _ _ _ (fun e => hk (by rw [e]; decide)), v2.2.2 k (fun e => hk (by rw [e]; decide))]
    · rw [bh_up2_k]
      dsimp only
      rw [if_neg hj, v2.2.2 205 (by decide)]
    · rw [hl] at hj ⊢
      show Rn _ (fun k => D2 208 _)
      cases j with
      | zero =>
        refine rn_row hW (fun k hk => ?_) hR
        show D2 208 (560 * (ps.length + 1 - 1 - 0) + k) = D 206 k
        rw [show 560 * (ps.length + 1 - 1 - 0) + k = 560 * ps.length + k by omega, v2.1 k hk, Nat.zero_add]
      | succ j =>
        rw [take10_get (by omega)]
        refine rn_row (hG j (by omega)) (fun k hk => ?_) (hps j (by omega))
        show D2 208 (560 * (ps.length + 1 - 1 - (j + 1)) + k) = D 208 (560 * (ps.length - 1 - j) + k)
        rw [show ps.length + 1 - 1 - (j + 1) = ps.length - 1 - j by omega, v2.2.1 _ (by omega)]
  have fin1 : ∀ D1, ((∀ j, j < 5040 → D1 208 j = D 208 (560 + j)) ∧ ∀ k, k ≠ 208 → D1 k = D k) → ps.length = 10 → ∀ D2, Mv (bh_up2 D1 205 5 (nI 9)) D2 206 0 208 (560 * 9) → Q none (hp (bh_up2 D2 205 5 (nI (9 + 1))) L) := by
    intro D1 s1 h10 D2 v2
    have hl : ((T :: ps).take 10).length = 10 := by rw [take10_len, h10]; decide
    refine k1 _ (fun k hk => ?_) (fun j hj => ?_) ⟨by omega, by rw [hl]; rfl, fun j hj => ?_⟩
    · have a1 : k ≠ 205 := fun e => hk (by rw [e]; decide)
      have a2 : k ≠ 208 := fun e => hk (by rw [e]; decide)
      rw [bh_up2_ne _ _ _ a1, v2.2.2 k a2, bh_up2_ne _ _ _ a1, s1.2 k a2]
    · rw [bh_up2_k]
      dsimp only
      rw [if_neg hj, v2.2.2 205 (by decide), bh_up2_k]
      dsimp only
      rw [if_neg hj, s1.2 205 (by decide)]
    · rw [hl] at hj ⊢
      show Rn _ (fun k => D2 208 _)
      cases j with
      | zero =>
        refine rn_row hW (fun k hk => ?_) hR
        show D2 208 (560 * (10 - 1 - 0) + k) = D 206 k
        rw [show 560 * (10 - 1 - 0) + k = 560 * 9 + k by omega, v2.1 k hk, Nat.zero_add]
        show D1 206 k = _
        rw [s1.2 206 (by decide)]
      | succ j =>
        rw [take10_get (by omega)]
        refine rn_row (hG j (by omega)) (fun k hk => ?_) (hps j (by omega))
        show D2 208 (560 * (10 - 1 - (j + 1)) + k) = D 208 (560 * (ps.length - 1 - j) + k)
        rw [v2.2.1 _ (by omega)]
        show D1 208 _ = _
        rw [s1.1 _ (by omega), h10]
        congr 1
        omega
  refine x_aload (pc' := 1) rfl rfl rfl ?_
  refine x_getI (j := 5) (pc' := 4) rfl rfl rfl (by decide) rfl (by decide) rfl rfl ?_
  refine x_top (hu) ?_
  refine x_int (pc' := 6) (v := nI 10) rfl rfl rfl ?_
  refine y_ic_ne (pc' := 9) rfl rfl (by omega) (by omega) (fun c6 => ?_) (fun c6 => ?_)
  · refine l2_X10_keepsPast (u := ps.length) (by omega) hu (fun D2 v2 => ?_)
    exact fin2 c6 D2 v2
  · refine x_int (pc' := 12) (v := nI 560) rfl rfl rfl ?_
    refine x_istore (pc' := 13) (lv' := [_, _]) rfl rfl (by decide) rfl ?_
    refine l_X10_keepsPast 5040 0 D rfl (fun j hj => absurd hj (Nat.not_lt_zero j)) (fun _ _ => rfl) (fun _ _ => rfl) (fun D1 s1 => ?_)
    have hu1 : D1 205 5 = nI 10 := by rw [s1.2 205 (by decide), hu, c6]
    refine x_aload (pc' := 43) rfl rfl rfl ?_
    refine x_dup (pc' := 44) rfl rfl rfl ?_
    refine x_getI (j := 5) (pc' := 47) rfl rfl rfl (by decide) rfl (by decide) rfl rfl ?_
    refine x_top (hu1) ?_
    refine x_int (pc' := 48) (v := nI 1) rfl rfl rfl ?_
    refine y_isub (pc' := 49) rfl rfl (by omega) ?_
    refine x_putI (j := 5) (pc' := 52) rfl rfl rfl (by decide) rfl (by decide) rfl rfl ?_
    refine l2_X10_keepsPast (u := 9) (D := bh_up2 D1 205 5 (nI 9)) (by decide) rfl (fun D2 v2 => ?_)
    exact fin1 D1 s1 c6 D2 v2
