/-! ===== the trail of signs ===== -/
def trO (k a b : Nat) (o : Nat → Int32) (i : Nat) : Int32 := match k with
  | 2 => if i = a then -1 else o i
  | 3 => if i = a then -1 else o i
  | 4 => o ((i + 16 - a) % 16)
  | 5 => if i = b then o a else if i = a then o b else o i
  | 6 => if i = b then o a else o i
  | _ => o i
def trC (k a b row : Nat) (w : Int32) (c : Nat → Int32) (i : Nat) : Int32 := match k with
  | 1 => if i = a then w else c i
  | 2 => if i = a ∧ row.testBit a = false then w else c i
  | 3 => if i = a ∧ row.testBit a = true then w else c i
  | 4 => c ((i + 16 - a) % 16)
  | 5 => if i = b then c a else if i = a then c b else c i
  | 6 => if i = b ∧ row.testBit a ≠ row.testBit b then w else c i
  | _ => c i
def Off3 (D D' : Nat → Nat → Int32) : Prop := ∀ k, k ≠ 34 → k ≠ 35 → k ≠ 36 → D' k = D k
theorem Off3.tr {D D1 D2 : Nat → Nat → Int32} (h1 : Off3 D D1) (h2 : Off3 D1 D2) : Off3 D D2 := fun k a b c => (h2 k a b c).trans (h1 k a b c)
theorem Off3.c {D D' : Nat → Nat → Int32} (h : Off3 D D') : OffC D D' := fun k a => h k (by omega) (by omega) (by omega)
theorem bit01 {row a : Nat} (h : (if row.testBit a then 1 else 0) = 1) : row.testBit a = true := by cases hz : row.testBit a; rw [hz] at h; exact absurd h (by decide); rfl
theorem bit00 {row a : Nat} (h : ¬ (if row.testBit a then 1 else 0) = 1) : row.testBit a = false := by cases hz : row.testBit a; rfl; rw [hz] at h; exact absurd rfl h
theorem bit_lt2 (b : Bool) : (if b then 1 else 0 : Nat) < 2 := by cases b <;> decide
set_option maxRecDepth 20000 in
set_option maxHeartbeats 1000000 in
theorem w_X8_put1 {D : Nat → Nat → Int32} {L : Nat → Nat → Int64} {Q : bh_Q} {s : Nat} {x y : Int32} (hs : s < 16) (k1 : Q none (hp (bh_up2 (bh_up2 D 34 s x) 35 s y) L)) : bh_wc 1 m_X8_put [.ref 33, .int (nI s), .int x, .int y, .int (nI 1)] (hp D L) Q := by
  refine x_start (lv0 := [_, _, _, _, _]) (Nat.le_of_ble_eq_true rfl) rfl ?_
  refine x_aload (pc' := 1) rfl rfl rfl ?_
  refine x_getR (pc' := 4) rfl rfl rfl (by decide) rfl (by decide) rfl rfl ?_
  refine x_iload (pc' := 5) rfl rfl rfl ?_
  refine x_iload (pc' := 6) rfl rfl rfl ?_
  refine x_iast (pc' := 7) rfl rfl (by decide) rfl (by decide) (show _ < 16 by omega) ?_
  refine x_iload (pc' := 9) rfl rfl rfl ?_
  refine x_if_eq (pc' := 12) rfl rfl (fun c9 => absurd c9 (by decide)) (fun _ => ?_)
  refine x_aload (pc' := 13) rfl rfl rfl ?_
  refine x_getR (pc' := 16) rfl rfl rfl (by decide) rfl (by decide) rfl rfl ?_
  refine x_iload (pc' := 17) rfl rfl rfl ?_
  refine x_iload (pc' := 18) rfl rfl rfl ?_
  refine x_iast (pc' := 19) rfl rfl (by decide) rfl (by decide) (show _ < 16 by omega) ?_
  refine x_vret rfl rfl ?_
  exact k1
set_option maxRecDepth 20000 in
set_option maxHeartbeats 1000000 in
theorem w_X8_put0 {D : Nat → Nat → Int32} {L : Nat → Nat → Int64} {Q : bh_Q} {s : Nat} {x y : Int32} (hs : s < 16) (k1 : Q none (hp (bh_up2 D 34 s x) L)) : bh_wc 1 m_X8_put [.ref 33, .int (nI s), .int x, .int y, .int (nI 0)] (hp D L) Q := by
  refine x_start (lv0 := [_, _, _, _, _]) (Nat.le_of_ble_eq_true rfl) rfl ?_
  refine x_aload (pc' := 1) rfl rfl rfl ?_
  refine x_getR (pc' := 4) rfl rfl rfl (by decide) rfl (by decide) rfl rfl ?_
  refine x_iload (pc' := 5) rfl rfl rfl ?_
  refine x_iload (pc' := 6) rfl rfl rfl ?_
  refine x_iast (pc' := 7) rfl rfl (by decide) rfl (by decide) (show _ < 16 by omega) ?_
  refine x_iload (pc' := 9) rfl rfl rfl ?_
  refine x_if_eq (pc' := 12) rfl rfl (fun _ => ?_) (fun c9 => absurd (by decide) c9)
  refine x_vret rfl rfl ?_
  exact k1
set_option maxRecDepth 20000 in
set_option maxHeartbeats 1000000 in
theorem w_X8_swap34 {D : Nat → Nat → Int32} {L : Nat → Nat → Int64} {Q : bh_Q} {a b : Nat} (ha : a < 16) (hb : b < 16) (k1 : Q none (hp (bh_up2 (bh_up2 D 34 a (D 34 b)) 34 b (D 34 a)) L)) : bh_wc 1 m_X8_swap [.ref 34, .int (nI a), .int (nI b)] (hp D L) Q := by
  refine x_start (lv0 := [_, _, _, _]) (Nat.le_of_ble_eq_true rfl) rfl ?_
  refine x_aload (pc' := 1) rfl rfl rfl ?_
  refine x_iload (pc' := 2) rfl rfl rfl ?_
  refine x_iald (pc' := 3) rfl rfl (by decide) rfl (by decide) (show _ < 16 by omega) ?_
  refine x_istore (pc' := 4) (lv' := [_, _, _, _]) rfl rfl (by decide) rfl ?_
  refine x_aload (pc' := 5) rfl rfl rfl ?_
  refine x_iload (pc' := 6) rfl rfl rfl ?_
  refine x_aload (pc' := 7) rfl rfl rfl ?_
  refine x_iload (pc' := 8) rfl rfl rfl ?_
  refine x_iald (pc' := 9) rfl rfl (by decide) rfl (by decide) (show _ < 16 by omega) ?_
  refine x_iast (pc' := 10) rfl rfl (by decide) rfl (by decide) (show _ < 16 by omega) ?_
  refine x_aload (pc' := 11) rfl rfl rfl ?_
  refine x_iload (pc' := 12) rfl rfl rfl ?_
  refine x_iload (pc' := 13) rfl rfl rfl ?_
  refine x_iast (pc' := 14) rfl rfl (by decide) rfl (by decide) (show _ < 16 by omega) ?_
  refine x_vret rfl rfl ?_
  exact k1
set_option maxRecDepth 20000 in
set_option maxHeartbeats 1000000 in
theorem w_X8_swap35 {D : Nat → Nat → Int32} {L : Nat → Nat → Int64} {Q : bh_Q} {a b : Nat} (ha : a < 16) (hb : b < 16) (k1 : Q none (hp (bh_up2 (bh_up2 D 35 a (D 35 b)) 35 b (D 35 a)) L)) : bh_wc 1 m_X8_swap [.ref 35, .int (nI a), .int (nI b)] (hp D L) Q := by
  refine x_start (lv0 := [_, _, _, _]) (Nat.le_of_ble_eq_true rfl) rfl ?_
  refine x_aload (pc' := 1) rfl rfl rfl ?_
  refine x_iload (pc' := 2) rfl rfl rfl ?_
  refine x_iald (pc' := 3) rfl rfl (by decide) rfl (by decide) (show _ < 16 by omega) ?_
  refine x_istore (pc' := 4) (lv' := [_, _, _, _]) rfl rfl (by decide) rfl ?_
  refine x_aload (pc' := 5) rfl rfl rfl ?_
  refine x_iload (pc' := 6) rfl rfl rfl ?_
  refine x_aload (pc' := 7) rfl rfl rfl ?_
  refine x_iload (pc' := 8) rfl rfl rfl ?_
  refine x_iald (pc' := 9) rfl rfl (by decide) rfl (by decide) (show _ < 16 by omega) ?_
  refine x_iast (pc' := 10) rfl rfl (by decide) rfl (by decide) (show _ < 16 by omega) ?_
  refine x_aload (pc' := 11) rfl rfl rfl ?_
  refine x_iload (pc' := 12) rfl rfl rfl ?_
  refine x_iload (pc' := 13) rfl rfl rfl ?_
  refine x_iast (pc' := 14) rfl rfl (by decide) rfl (by decide) (show _ < 16 by omega) ?_
  refine x_vret rfl rfl ?_
  exact k1
set_option maxRecDepth 20000 in
set_option maxHeartbeats 1000000 in
theorem l_X8_turn34 {L : Nat → Nat → Int64} {Q : bh_Q} {d a : Nat} (ha : a < 16) : ∀ (f i : Nat) (D : Nat → Nat → Int32), i + f = 16 → (∀ j, j < i → D 36 ((j + a) % 16) = D 34 j) → (∀ D', (∀ k, k ≠ 36 → k ≠ 34 → D' k = D k) → (∀ j, j < 16 → D' 34 j = D 34 ((j + 16 - a) % 16)) → Q none (hp D' L)) → bw m_X8_turn d Q 2 [.ref 33, .ref 34, .int (nI a), .int (nI i)] [] D L := by
  intro f
  induction f with
  | zero =>
    intro i D hf hS k
    refine x_iload (pc' := 3) rfl rfl rfl ?_
    refine x_int (pc' := 5) (v := nI 16) rfl rfl rfl ?_
    refine y_ic_ge (pc' := 8) rfl rfl (by omega) (by omega) (fun c5 => ?_) (fun c5 => ?_)
    · refine x_aload (pc' := 29) rfl rfl rfl ?_
      refine x_getR (pc' := 32) rfl rfl rfl (by decide) rfl (by decide) rfl rfl ?_
      refine x_int (pc' := 33) (v := 0) rfl rfl rfl ?_
      refine x_aload (pc' := 34) rfl rfl rfl ?_
      refine x_int (pc' := 35) (v := 0) rfl rfl rfl ?_
      refine x_int (pc' := 37) (v := nI 16) rfl rfl rfl ?_
      refine x_copy (pc' := 40) rfl rfl (Nat.le_of_ble_eq_true rfl) (by decide) (by decide) rfl rfl (by decide) (by decide) (by decide) (by decide) ?_
      refine x_vret rfl rfl ?_
      refine k _ (fun q a b => bh_upr_ne _ _ b) (fun j hj => ?_)
      rw [bh_upr_self]
      unfold va_cpy
      rw [if_pos ⟨Nat.zero_le _, by omega⟩]
      have e : D 34 ((j + 16 - a) % 16) = D 36 (((j + 16 - a) % 16 + a) % 16) := (hS _ (by omega)).symm
      have e2 : ((j + 16 - a) % 16 + a) % 16 = j := by omega
      rw [e2] at e
      rw [e]
      simp
    · exact absurd c5 (by omega)
  | succ f ih =>
    intro i D hf hS k
    refine x_iload (pc' := 3) rfl rfl rfl ?_
    refine x_int (pc' := 5) (v := nI 16) rfl rfl rfl ?_
    refine y_ic_ge (pc' := 8) rfl rfl (by omega) (by omega) (fun c5 => ?_) (fun c5 => ?_)
    · exact absurd c5 (by omega)
    · refine x_aload (pc' := 9) rfl rfl rfl ?_
      refine x_getR (pc' := 12) rfl rfl rfl (by decide) rfl (by decide) rfl rfl ?_
      refine x_iload (pc' := 13) rfl rfl rfl ?_
      refine x_iload (pc' := 14) rfl rfl rfl ?_
      refine y_iadd (pc' := 15) rfl rfl ?_
      refine x_int (pc' := 17) (v := nI 16) rfl rfl rfl ?_
      refine y_irem (pc' := 18) rfl rfl (by omega) (by omega) (by omega) ?_
      refine x_aload (pc' := 19) rfl rfl rfl ?_
      refine x_iload (pc' := 20) rfl rfl rfl ?_
      refine x_iald (pc' := 21) rfl rfl (by decide) rfl (by decide) (show _ < 16 by omega) ?_
      refine x_iast (pc' := 22) rfl rfl (by decide) rfl (by decide) (show _ < 16 by omega) ?_
      refine y_inc (pc' := 25) (lv' := [_, _, _, _]) rfl rfl rfl (by decide) rfl ?_
      refine x_goto rfl ?_
      refine ih (i + 1) _ (by omega) ?_ (fun D2 f2 h2 => k D2 (fun q a b => (f2 q a b).trans (bh_up2_ne _ _ _ a)) h2)
      intro j hj
      rw [bh_up2_k]; dsimp only
      by_cases e : j = i
      · rw [if_pos (by omega), e]; rfl
      · rw [if_neg (by omega)]; exact hS j (by omega)
set_option maxRecDepth 20000 in
set_option maxHeartbeats 1000000 in
theorem w_X8_turn34 {D : Nat → Nat → Int32} {L : Nat → Nat → Int64} {Q : bh_Q} {a : Nat} (ha : a < 16) (k1 : ∀ D', (∀ k, k ≠ 36 → k ≠ 34 → D' k = D k) → (∀ j, j < 16 → D' 34 j = D 34 ((j + 16 - a) % 16)) → Q none (hp D' L)) : bh_wc 1 m_X8_turn [.ref 33, .ref 34, .int (nI a)] (hp D L) Q := by
  refine x_start (lv0 := [_, _, _, _]) (Nat.le_of_ble_eq_true rfl) rfl ?_
  refine x_int (pc' := 1) (v := nI 0) rfl rfl rfl ?_
  refine x_istore (pc' := 2) (lv' := [_, _, _, _]) rfl rfl (by decide) rfl ?_
  exact l_X8_turn34 ha 16 0 D rfl (fun j hj => absurd hj (Nat.not_lt_zero j)) k1
set_option maxRecDepth 20000 in
set_option maxHeartbeats 1000000 in
theorem l_X8_turn35 {L : Nat → Nat → Int64} {Q : bh_Q} {d a : Nat} (ha : a < 16) : ∀ (f i : Nat) (D : Nat → Nat → Int32), i + f = 16 → (∀ j, j < i → D 36 ((j + a) % 16) = D 35 j) → (∀ D', (∀ k, k ≠ 36 → k ≠ 35 → D' k = D k) → (∀ j, j < 16 → D' 35 j = D 35 ((j + 16 - a) % 16)) → Q none (hp D' L)) → bw m_X8_turn d Q 2 [.ref 33, .ref 35, .int (nI a), .int (nI i)] [] D L := by
  intro f
  induction f with
  | zero =>
    intro i D hf hS k
    refine x_iload (pc' := 3) rfl rfl rfl ?_
    refine x_int (pc' := 5) (v := nI 16) rfl rfl rfl ?_
    refine y_ic_ge (pc' := 8) rfl rfl (by omega) (by omega) (fun c5 => ?_) (fun c5 => ?_)
    · refine x_aload (pc' := 29) rfl rfl rfl ?_
      refine x_getR (pc' := 32) rfl rfl rfl (by decide) rfl (by decide) rfl rfl ?_
      refine x_int (pc' := 33) (v := 0) rfl rfl rfl ?_
      refine x_aload (pc' := 34) rfl rfl rfl ?_
      refine x_int (pc' := 35) (v := 0) rfl rfl rfl ?_
      refine x_int (pc' := 37) (v := nI 16) rfl rfl rfl ?_
      refine x_copy (pc' := 40) rfl rfl (Nat.le_of_ble_eq_true rfl) (by decide) (by decide) rfl rfl (by decide) (by decide) (by decide) (by decide) ?_
      refine x_vret rfl rfl ?_
      refine k _ (fun q a b => bh_upr_ne _ _ b) (fun j hj => ?_)
      rw [bh_upr_self]
      unfold va_cpy
      rw [if_pos ⟨Nat.zero_le _, by omega⟩]
      have e : D 35 ((j + 16 - a) % 16) = D 36 (((j + 16 - a) % 16 + a) % 16) := (hS _ (by omega)).symm
      have e2 : ((j + 16 - a) % 16 + a) % 16 = j := by omega
      rw [e2] at e
      rw [e]
      simp
    · exact absurd c5 (by omega)
  | succ f ih =>
    intro i D hf hS k
    refine x_iload (pc' := 3) rfl rfl rfl ?_
    refine x_int (pc' := 5) (v := nI 16) rfl rfl rfl ?_
    refine y_ic_ge (pc' := 8) rfl rfl (by omega) (by omega) (fun c5 => ?_) (fun c5 => ?_)
    · exact absurd c5 (by omega)
    · refine x_aload (pc' := 9) rfl rfl rfl ?_
      refine x_getR (pc' := 12) rfl rfl rfl (by decide) rfl (by decide) rfl rfl ?_
      refine x_iload (pc' := 13) rfl rfl rfl ?_
      refine x_iload (pc' := 14) rfl rfl rfl ?_
      refine y_iadd (pc' := 15) rfl rfl ?_
      refine x_int (pc' := 17) (v := nI 16) rfl rfl rfl ?_
      refine y_irem (pc' := 18) rfl rfl (by omega) (by omega) (by omega) ?_
      refine x_aload (pc' := 19) rfl rfl rfl ?_
      refine x_iload (pc' := 20) rfl rfl rfl ?_
      refine x_iald (pc' := 21) rfl rfl (by decide) rfl (by decide) (show _ < 16 by omega) ?_
      refine x_iast (pc' := 22) rfl rfl (by decide) rfl (by decide) (show _ < 16 by omega) ?_
      refine y_inc (pc' := 25) (lv' := [_, _, _, _]) rfl rfl rfl (by decide) rfl ?_
      refine x_goto rfl ?_
      refine ih (i + 1) _ (by omega) ?_ (fun D2 f2 h2 => k D2 (fun q a b => (f2 q a b).trans (bh_up2_ne _ _ _ a)) h2)
      intro j hj
      rw [bh_up2_k]; dsimp only
      by_cases e : j = i
      · rw [if_pos (by omega), e]; rfl
      · rw [if_neg (by omega)]; exact hS j (by omega)
set_option maxRecDepth 20000 in
set_option maxHeartbeats 1000000 in
theorem w_X8_turn35 {D : Nat → Nat → Int32} {L : Nat → Nat → Int64} {Q : bh_Q} {a : Nat} (ha : a < 16) (k1 : ∀ D', (∀ k, k ≠ 36 → k ≠ 35 → D' k = D k) → (∀ j, j < 16 → D' 35 j = D 35 ((j + 16 - a) % 16)) → Q none (hp D' L)) : bh_wc 1 m_X8_turn [.ref 33, .ref 35, .int (nI a)] (hp D L) Q := by
  refine x_start (lv0 := [_, _, _, _]) (Nat.le_of_ble_eq_true rfl) rfl ?_
  refine x_int (pc' := 1) (v := nI 0) rfl rfl rfl ?_
  refine x_istore (pc' := 2) (lv' := [_, _, _, _]) rfl rfl (by decide) rfl ?_
  exact l_X8_turn35 ha 16 0 D rfl (fun j hj => absurd hj (Nat.not_lt_zero j)) k1
theorem bt0 {row a : Nat} (h : (if row.testBit a then 1 else 0) = 0) : row.testBit a = false := by cases hz : row.testBit a; rfl; rw [hz] at h; exact absurd h (by decide)
theorem bt1 {row a : Nat} (h : ¬ (if row.testBit a then 1 else 0) = 0) : row.testBit a = true := by cases hz : row.testBit a; rw [hz] at h; exact absurd rfl h; rfl
theorem bne {row a b : Nat} (h : (if row.testBit a then 1 else 0) = (if row.testBit b then 1 else 0 : Nat)) : row.testBit a = row.testBit b := by
  cases ha : row.testBit a <;> cases hb : row.testBit b <;> rw [ha, hb] at h <;> first | rfl | exact absurd h (by decide)
theorem bnn {row a b : Nat} (h : ¬ (if row.testBit a then 1 else 0) = (if row.testBit b then 1 else 0 : Nat)) : row.testBit a ≠ row.testBit b := by
  intro e; rw [e] at h; exact h rfl
set_option maxRecDepth 20000 in
set_option maxHeartbeats 1000000 in
theorem w_X8_step {D : Nat → Nat → Int32} {L : Nat → Nat → Int64} {Q : bh_Q} (hW : WF (tv D)) {w k a b row : Nat} (hw : w < nw (tv D)) (hr : row < 65536) (ek : kd (tv D) w = k) (ea : fa (tv D) w = a) (eb : fb (tv D) w = b) (h : hok k a b) (k1 : ∀ D', Off3 D D' → (∀ i, i < 16 → D' 34 i = trO k a b (D 34) i) → (∀ i, i < 16 → D' 35 i = trC k a b row (nI w) (D 35) i) → Q none (hp D' L)) : bh_wc 2 m_X8_step [.ref 33, .ref 1, .int (nI w), .int (nI row)] (hp D L) Q := by
  refine x_start (lv0 := [_, _, _, _, _, _]) (Nat.le_of_ble_eq_true rfl) rfl ?_
  have h12 := hW.nwl
  have ha16 := h.2.1
  have hb16 := h.2.2.1
  refine x_aload (pc' := 1) rfl rfl rfl ?_
  refine x_getR (pc' := 4) rfl rfl rfl (by decide) rfl (by decide) rfl rfl ?_
  refine x_iload (pc' := 5) rfl rfl rfl ?_
  refine x_iald (pc' := 6) rfl rfl (by decide) rfl (by decide) (show _ < 12 by omega) ?_
  refine x_top ((hW.efa hw).trans (congrArg nI ea)) ?_
  refine x_istore (pc' := 8) (lv' := [_, _, _, _, _, _]) rfl rfl (by decide) rfl ?_
  refine x_aload (pc' := 9) rfl rfl rfl ?_
  refine x_getR (pc' := 12) rfl rfl rfl (by decide) rfl (by decide) rfl rfl ?_
  refine x_iload (pc' := 13) rfl rfl rfl ?_
  refine x_iald (pc' := 14) rfl rfl (by decide) rfl (by decide) (show _ < 12 by omega) ?_
  refine x_top ((hW.efb hw).trans (congrArg nI eb)) ?_
  refine x_istore (pc' := 16) (lv' := [_, _, _, _, _, _]) rfl rfl (by decide) rfl ?_
  refine x_aload (pc' := 17) rfl rfl rfl ?_
  refine x_getR (pc' := 20) rfl rfl rfl (by decide) rfl (by decide) rfl rfl ?_
  refine x_iload (pc' := 21) rfl rfl rfl ?_
  refine x_iald (pc' := 22) rfl rfl (by decide) rfl (by decide) (show _ < 12 by omega) ?_
  refine x_top ((hW.ekd hw).trans (congrArg nI ek)) ?_
  rcases k7 h.1 with rfl | rfl | rfl | rfl | rfl | rfl | rfl
  · refine x_tab1O rfl (Or.inl (by decide)) (by decide) ?_
    refine x_vret rfl rfl ?_
    exact k1 D (fun _ _ _ _ => rfl) (fun i _ => rfl) (fun i _ => rfl)
  · refine x_tab1N (n := 0) (t := 60) rfl (by decide) rfl ?_
    refine x_aload (pc' := 61) rfl rfl rfl ?_
    refine x_getR (pc' := 64) rfl rfl rfl (by decide) rfl (by decide) rfl rfl ?_
    refine x_iload (pc' := 66) rfl rfl rfl ?_
    refine x_iload (pc' := 67) rfl rfl rfl ?_
    refine x_iast (pc' := 68) rfl rfl (by decide) rfl (by decide) (show _ < 16 by omega) ?_
    refine x_goto rfl ?_
    refine x_vret rfl rfl ?_
    refine k1 _ (fun q h1 h2 h3 => bh_up2_ne _ _ _ h2) (fun i _ => rfl) (fun i _ => ?_)
    rw [bh_up2_k]; rfl
  · refine x_tab1N (n := 1) (t := 71) rfl (by decide) rfl ?_
    refine x_aload (pc' := 72) rfl rfl rfl ?_
    refine x_iload (pc' := 74) rfl rfl rfl ?_
    refine x_int (pc' := 75) (v := (-1)) rfl rfl rfl ?_
    refine x_iload (pc' := 76) rfl rfl rfl ?_
    refine x_iload (pc' := 77) rfl rfl rfl ?_
    refine x_iload (pc' := 79) rfl rfl rfl ?_
    refine x_callS (pc' := 82) (d1 := 1) (As := [_, _]) rfl rfl rfl rfl (by decide) rfl rfl (Nat.le_of_ble_eq_true rfl) ⟨rfl, rfl⟩ (by decide) ?_
    refine w_X1_signAt hr (by omega) ?_
    refine ⟨rfl, ?_⟩
    refine x_int (pc' := 83) (v := nI 1) rfl rfl rfl ?_
    refine y_ic_eq (pc' := 86) rfl rfl (by first | omega | (have := bit_lt2 (row.testBit a); have := bit_lt2 (row.testBit b); omega)) (by first | omega | (have := bit_lt2 (row.testBit a); have := bit_lt2 (row.testBit b); omega)) (fun c83 => ?_) (fun c83 => ?_)
    · refine x_int (pc' := 91) (v := nI 0) rfl rfl rfl ?_
      refine x_callV (pc' := 94) (d1 := 1) (Bs := [_, _, _, _]) rfl rfl rfl rfl rfl rfl rfl (Nat.le_of_ble_eq_true rfl) ⟨rfl, rfl⟩ (by decide) rfl (by decide) ?_
      refine w_X8_put0 (by omega) ?_
      refine ⟨rfl, ?_⟩
      refine x_goto rfl ?_
      refine x_vret rfl rfl ?_
      first
        | (refine k1 _ (fun q h1 h2 h3 => (bh_up2_ne _ _ _ h2).trans (bh_up2_ne _ _ _ h1)) (fun i _ => ?_) (fun i _ => ?_)
           · rw [bh_up2_ne _ _ _ (by decide), bh_up2_k]; rfl
           · rw [bh_up2_k]; show (if i = a then nI w else D 35 i) = (if i = a ∧ row.testBit a = false then nI w else D 35 i); rw [bit00 c83]; simp)
        | (refine k1 _ (fun q h1 h2 h3 => bh_up2_ne _ _ _ h1) (fun i _ => ?_) (fun i _ => ?_)
           · rw [bh_up2_k]; rfl
           · show D 35 i = (if i = a ∧ row.testBit a = false then nI w else D 35 i); rw [bit01 c83]; simp)
    · refine x_int (pc' := 87) (v := nI 1) rfl rfl rfl ?_
      refine x_goto rfl ?_
      refine x_callV (pc' := 94) (d1 := 1) (Bs := [_, _, _, _]) rfl rfl rfl rfl rfl rfl rfl (Nat.le_of_ble_eq_true rfl) ⟨rfl, rfl⟩ (by decide) rfl (by decide) ?_
      refine w_X8_put1 (by omega) ?_
      refine ⟨rfl, ?_⟩
      refine x_goto rfl ?_
      refine x_vret rfl rfl ?_
      first
        | (refine k1 _ (fun q h1 h2 h3 => (bh_up2_ne _ _ _ h2).trans (bh_up2_ne _ _ _ h1)) (fun i _ => ?_) (fun i _ => ?_)
           · rw [bh_up2_ne _ _ _ (by decide), bh_up2_k]; rfl
           · rw [bh_up2_k]; show (if i = a then nI w else D 35 i) = (if i = a ∧ row.testBit a = false then nI w else D 35 i); rw [bit00 c83]; simp)
        | (refine k1 _ (fun q h1 h2 h3 => bh_up2_ne _ _ _ h1) (fun i _ => ?_) (fun i _ => ?_)
           · rw [bh_up2_k]; rfl
           · show D 35 i = (if i = a ∧ row.testBit a = false then nI w else D 35 i); rw [bit01 c83]; simp)
  · refine x_tab1N (n := 2) (t := 97) rfl (by decide) rfl ?_
    refine x_aload (pc' := 98) rfl rfl rfl ?_
    refine x_iload (pc' := 100) rfl rfl rfl ?_
    refine x_int (pc' := 101) (v := (-1)) rfl rfl rfl ?_
    refine x_iload (pc' := 102) rfl rfl rfl ?_
    refine x_iload (pc' := 103) rfl rfl rfl ?_
    refine x_iload (pc' := 105) rfl rfl rfl ?_
    refine x_callS (pc' := 108) (d1 := 1) (As := [_, _]) rfl rfl rfl rfl (by decide) rfl rfl (Nat.le_of_ble_eq_true rfl) ⟨rfl, rfl⟩ (by decide) ?_
    refine w_X1_signAt hr (by omega) ?_
    refine ⟨rfl, ?_⟩
    refine y_if_eq (pc' := 111) rfl rfl (by first | omega | (have := bit_lt2 (row.testBit a); have := bit_lt2 (row.testBit b); omega)) (fun c108 => ?_) (fun c108 => ?_)
    · refine x_int (pc' := 116) (v := nI 0) rfl rfl rfl ?_
      refine x_callV (pc' := 119) (d1 := 1) (Bs := [_, _, _, _]) rfl rfl rfl rfl rfl rfl rfl (Nat.le_of_ble_eq_true rfl) ⟨rfl, rfl⟩ (by decide) rfl (by decide) ?_
      refine w_X8_put0 (by omega) ?_
      refine ⟨rfl, ?_⟩
      refine x_goto rfl ?_
      refine x_vret rfl rfl ?_
      first
        | (refine k1 _ (fun q h1 h2 h3 => (bh_up2_ne _ _ _ h2).trans (bh_up2_ne _ _ _ h1)) (fun i _ => ?_) (fun i _ => ?_)
           · rw [bh_up2_ne _ _ _ (by decide), bh_up2_k]; rfl
           · rw [bh_up2_k]; show (if i = a then nI w else D 35 i) = (if i = a ∧ row.testBit a = true then nI w else D 35 i); rw [bt1 c108]; simp)
        | (refine k1 _ (fun q h1 h2 h3 => bh_up2_ne _ _ _ h1) (fun i _ => ?_) (fun i _ => ?_)
           · rw [bh_up2_k]; rfl
           · show D 35 i = (if i = a ∧ row.testBit a = true then nI w else D 35 i); rw [bt0 c108]; simp)
    · refine x_int (pc' := 112) (v := nI 1) rfl rfl rfl ?_
      refine x_goto rfl ?_
      refine x_callV (pc' := 119) (d1 := 1) (Bs := [_, _, _, _]) rfl rfl rfl rfl rfl rfl rfl (Nat.le_of_ble_eq_true rfl) ⟨rfl, rfl⟩ (by decide) rfl (by decide) ?_
      refine w_X8_put1 (by omega) ?_
      refine ⟨rfl, ?_⟩
      refine x_goto rfl ?_
      refine x_vret rfl rfl ?_
      first
        | (refine k1 _ (fun q h1 h2 h3 => (bh_up2_ne _ _ _ h2).trans (bh_up2_ne _ _ _ h1)) (fun i _ => ?_) (fun i _ => ?_)
           · rw [bh_up2_ne _ _ _ (by decide), bh_up2_k]; rfl
           · rw [bh_up2_k]; show (if i = a then nI w else D 35 i) = (if i = a ∧ row.testBit a = true then nI w else D 35 i); rw [bt1 c108]; simp)
        | (refine k1 _ (fun q h1 h2 h3 => bh_up2_ne _ _ _ h1) (fun i _ => ?_) (fun i _ => ?_)
           · rw [bh_up2_k]; rfl
           · show D 35 i = (if i = a ∧ row.testBit a = true then nI w else D 35 i); rw [bt0 c108]; simp)
  · refine x_tab1N (n := 3) (t := 122) rfl (by decide) rfl ?_
    refine x_aload (pc' := 123) rfl rfl rfl ?_
    refine x_aload (pc' := 124) rfl rfl rfl ?_
    refine x_getR (pc' := 127) rfl rfl rfl (by decide) rfl (by decide) rfl rfl ?_
    refine x_iload (pc' := 129) rfl rfl rfl ?_
    refine x_callV (pc' := 132) (d1 := 1) (Bs := [_, _]) rfl rfl rfl rfl rfl rfl rfl (Nat.le_of_ble_eq_true rfl) ⟨rfl, rfl⟩ (by decide) rfl (by decide) ?_
    refine w_X8_turn34 (by omega) (fun D1 f1 t1 => ?_)
    refine ⟨rfl, ?_⟩
    refine x_aload (pc' := 133) rfl rfl rfl ?_
    refine x_aload (pc' := 134) rfl rfl rfl ?_
    refine x_getR (pc' := 137) rfl rfl rfl (by decide) rfl (by decide) rfl rfl ?_
    refine x_iload (pc' := 139) rfl rfl rfl ?_
    refine x_callV (pc' := 142) (d1 := 1) (Bs := [_, _]) rfl rfl rfl rfl rfl rfl rfl (Nat.le_of_ble_eq_true rfl) ⟨rfl, rfl⟩ (by decide) rfl (by decide) ?_
    refine w_X8_turn35 (by omega) (fun D2 f2 t2 => ?_)
    refine ⟨rfl, ?_⟩
    refine x_goto rfl ?_
    refine x_vret rfl rfl ?_
    refine k1 D2 (fun q h1 h2 h3 => (f2 q h3 h2).trans (f1 q h3 h1)) (fun i hi => ?_) (fun i hi => ?_)
    · rw [f2 34 (by decide) (by decide)]; exact t1 i hi
    · rw [t2 i hi, f1 35 (by decide) (by decide)]; rfl
  · refine x_tab1N (n := 4) (t := 145) rfl (by decide) rfl ?_
    refine x_aload (pc' := 146) rfl rfl rfl ?_
    refine x_getR (pc' := 149) rfl rfl rfl (by decide) rfl (by decide) rfl rfl ?_
    refine x_iload (pc' := 151) rfl rfl rfl ?_
    refine x_iload (pc' := 153) rfl rfl rfl ?_
    refine x_callS (pc' := 156) (d1 := 1) (As := [_, _, _]) rfl rfl rfl rfl (by decide) rfl rfl (Nat.le_of_ble_eq_true rfl) ⟨rfl, rfl⟩ (by decide) ?_
    refine w_X8_swap34 (by omega) (by omega) ?_
    refine ⟨rfl, ?_⟩
    refine x_aload (pc' := 157) rfl rfl rfl ?_
    refine x_getR (pc' := 160) rfl rfl rfl (by decide) rfl (by decide) rfl rfl ?_
    refine x_iload (pc' := 162) rfl rfl rfl ?_
    refine x_iload (pc' := 164) rfl rfl rfl ?_
    refine x_callS (pc' := 167) (d1 := 1) (As := [_, _, _]) rfl rfl rfl rfl (by decide) rfl rfl (Nat.le_of_ble_eq_true rfl) ⟨rfl, rfl⟩ (by decide) ?_
    refine w_X8_swap35 (by omega) (by omega) ?_
    refine ⟨rfl, ?_⟩
    refine x_goto rfl ?_
    refine x_vret rfl rfl ?_
    refine k1 _ (fun q h1 h2 h3 => ?_) (fun i hi => ?_) (fun i hi => ?_)
    · rw [bh_up2_ne _ _ _ h2, bh_up2_ne _ _ _ h2, bh_up2_ne _ _ _ h1, bh_up2_ne _ _ _ h1]
    · rw [bh_up2_ne _ _ _ (by decide), bh_up2_ne _ _ _ (by decide), bh_up2_k, bh_up2_k]; rfl
    · rw [bh_up2_k, bh_up2_k]; rfl
  · refine x_tab1N (n := 5) (t := 170) rfl (by decide) rfl ?_
    refine x_aload (pc' := 171) rfl rfl rfl ?_
    refine x_iload (pc' := 173) rfl rfl rfl ?_
    refine x_aload (pc' := 174) rfl rfl rfl ?_
    refine x_getR (pc' := 177) rfl rfl rfl (by decide) rfl (by decide) rfl rfl ?_
    refine x_iload (pc' := 179) rfl rfl rfl ?_
    refine x_iald (pc' := 180) rfl rfl (by decide) rfl (by decide) (show _ < 16 by omega) ?_
    refine x_iload (pc' := 181) rfl rfl rfl ?_
    refine x_iload (pc' := 182) rfl rfl rfl ?_
    refine x_iload (pc' := 184) rfl rfl rfl ?_
    refine x_callS (pc' := 187) (d1 := 1) (As := [_, _]) rfl rfl rfl rfl (by decide) rfl rfl (Nat.le_of_ble_eq_true rfl) ⟨rfl, rfl⟩ (by decide) ?_
    refine w_X1_signAt hr (by omega) ?_
    refine ⟨rfl, ?_⟩
    refine x_iload (pc' := 188) rfl rfl rfl ?_
    refine x_iload (pc' := 190) rfl rfl rfl ?_
    refine x_callS (pc' := 193) (d1 := 1) (As := [_, _]) rfl rfl rfl rfl (by decide) rfl rfl (Nat.le_of_ble_eq_true rfl) ⟨rfl, rfl⟩ (by decide) ?_
    refine w_X1_signAt hr (by omega) ?_
    refine ⟨rfl, ?_⟩
    refine y_ic_eq (pc' := 196) rfl rfl (by first | omega | (have := bit_lt2 (row.testBit a); have := bit_lt2 (row.testBit b); omega)) (by first | omega | (have := bit_lt2 (row.testBit a); have := bit_lt2 (row.testBit b); omega)) (fun c193 => ?_) (fun c193 => ?_)
    · refine x_int (pc' := 201) (v := nI 0) rfl rfl rfl ?_
      refine x_callV (pc' := 204) (d1 := 1) (Bs := [_, _, _, _]) rfl rfl rfl rfl rfl rfl rfl (Nat.le_of_ble_eq_true rfl) ⟨rfl, rfl⟩ (by decide) rfl (by decide) ?_
      refine w_X8_put0 (by omega) ?_
      refine ⟨rfl, ?_⟩
      refine x_goto rfl ?_
      refine x_vret rfl rfl ?_
      first
        | (refine k1 _ (fun q h1 h2 h3 => (bh_up2_ne _ _ _ h2).trans (bh_up2_ne _ _ _ h1)) (fun i _ => ?_) (fun i _ => ?_)
           · rw [bh_up2_ne _ _ _ (by decide), bh_up2_k]; rfl
           · have hc := bnn c193
             rw [bh_up2_k]; show (if i = b then nI w else D 35 i) = (if i = b ∧ row.testBit a ≠ row.testBit b then nI w else D 35 i); simp [hc])
        | (refine k1 _ (fun q h1 h2 h3 => bh_up2_ne _ _ _ h1) (fun i _ => ?_) (fun i _ => ?_)
           · rw [bh_up2_k]; rfl
           · have hc := bne c193
             show D 35 i = (if i = b ∧ row.testBit a ≠ row.testBit b then nI w else D 35 i); simp [hc])
    · refine x_int (pc' := 197) (v := nI 1) rfl rfl rfl ?_
      refine x_goto rfl ?_
      refine x_callV (pc' := 204) (d1 := 1) (Bs := [_, _, _, _]) rfl rfl rfl rfl rfl rfl rfl (Nat.le_of_ble_eq_true rfl) ⟨rfl, rfl⟩ (by decide) rfl (by decide) ?_
      refine w_X8_put1 (by omega) ?_
      refine ⟨rfl, ?_⟩
      refine x_goto rfl ?_
      refine x_vret rfl rfl ?_
      first
        | (refine k1 _ (fun q h1 h2 h3 => (bh_up2_ne _ _ _ h2).trans (bh_up2_ne _ _ _ h1)) (fun i _ => ?_) (fun i _ => ?_)
           · rw [bh_up2_ne _ _ _ (by decide), bh_up2_k]; rfl
           · have hc := bnn c193
             rw [bh_up2_k]; show (if i = b then nI w else D 35 i) = (if i = b ∧ row.testBit a ≠ row.testBit b then nI w else D 35 i); simp [hc])
        | (refine k1 _ (fun q h1 h2 h3 => bh_up2_ne _ _ _ h1) (fun i _ => ?_) (fun i _ => ?_)
           · rw [bh_up2_k]; rfl
           · have hc := bne c193
             show D 35 i = (if i = b ∧ row.testBit a ≠ row.testBit b then nI w else D 35 i); simp [hc])
theorem trO_cg {k a b : Nat} {o o' : Nat → Int32} (ha : a < 16) (hb : b < 16) (h : ∀ i, i < 16 → o' i = o i) {i : Nat} (hi : i < 16) : trO k a b o' i = trO k a b o i := by
  unfold trO
  split
  · rw [h i hi]
  · rw [h i hi]
  · exact h _ (Nat.mod_lt _ (by decide))
  · rw [h i hi, h a ha, h b hb]
  · rw [h i hi, h a ha]
  · exact h i hi
theorem trC_cg {k a b row : Nat} {w : Int32} {o o' : Nat → Int32} (ha : a < 16) (hb : b < 16) (h : ∀ i, i < 16 → o' i = o i) {i : Nat} (hi : i < 16) : trC k a b row w o' i = trC k a b row w o i := by
  unfold trC
  split
  · rw [h i hi]
  · rw [h i hi]
  · rw [h i hi]
  · exact h _ (Nat.mod_lt _ (by decide))
  · rw [h i hi, h a ha, h b hb]
  · rw [h i hi]
  · exact h i hi
def trR (T : TW) (r0 : Nat) : List Nat → Nat
  | [] => r0
  | w :: r => stU T w (trR T r0 r)
def trOF (T : TW) : List Nat → Nat → Int32
  | [] => nI
  | w :: r => if isM T w = true then trOF T r else trO (kd T w) (fa T w) (fb T w) (trOF T r)
def trCF (T : TW) (r0 : Nat) : List Nat → Nat → Int32
  | [] => fun _ => -1
  | w :: r => if isM T w = true then trCF T r0 r else trC (kd T w) (fa T w) (fb T w) (trR T r0 r) (nI w) (trCF T r0 r)
theorem trR_lt {T : TW} (hW : WF T) {r0 : Nat} (h0 : r0 < 65536) : ∀ {r : List Nat}, (∀ w ∈ r, w < nw T) → trR T r0 r < 65536 := by
  intro r
  induction r with
  | nil => intro _; exact h0
  | cons x r ih => intro h; exact stU_lt hW (h x List.mem_cons_self) (ih (fun w hw => h w (List.mem_cons_of_mem _ hw)))
theorem drop_get {l : List Nat} {n : Nat} (h : n < l.length) : l.drop n = l.getD n 0 :: l.drop (n + 1) := by
  rw [List.drop_eq_getElem_cons h, List.getD_eq_getElem?_getD, List.getElem?_eq_getElem h]
  rfl
theorem Off3.tv {D D' : Nat → Nat → Int32} (h : Off3 D D') : tv D' = tv D := h.c.tv
theorem Off3.hd {D D' : Nat → Nat → Int32} {l : List Nat} (h : Off3 D D') (hH : HdL D l) : HdL D' l := by
  unfold HdL
  rw [h 31 (by decide) (by decide) (by decide), h 32 (by decide) (by decide) (by decide)]
  exact hH
theorem trOF_1 {T : TW} {w : Nat} {r : List Nat} (h : isM T w = true) : trOF T (w :: r) = trOF T r := if_pos h
theorem trOF_0 {T : TW} {w : Nat} {r : List Nat} (h : isM T w = false) : trOF T (w :: r) = trO (kd T w) (fa T w) (fb T w) (trOF T r) := if_neg (by rw [h]; decide)
theorem trCF_1 {T : TW} {w r0 : Nat} {r : List Nat} (h : isM T w = true) : trCF T r0 (w :: r) = trCF T r0 r := if_pos h
theorem trCF_0 {T : TW} {w r0 : Nat} {r : List Nat} (h : isM T w = false) : trCF T r0 (w :: r) = trC (kd T w) (fa T w) (fb T w) (trR T r0 r) (nI w) (trCF T r0 r) := if_neg (by rw [h]; decide)
theorem trR_1 {T : TW} {w r0 : Nat} {r : List Nat} (h : isM T w = true) : trR T r0 (w :: r) = trR T r0 r := if_pos h
theorem trR_0 {T : TW} {w r0 : Nat} {r : List Nat} (h : isM T w = false) : trR T r0 (w :: r) = hab (kd T w) (fa T w) (fb T w) (trR T r0 r) := if_neg (by rw [h]; decide)
set_option maxRecDepth 20000 in
set_option maxHeartbeats 1000000 in
theorem l0_X8_follow {L : Nat → Nat → Int64} {Q : bh_Q} {d : Nat} {r3 : Int32} {a5 a6 : Value} : ∀ (f i : Nat) (D : Nat → Nat → Int32), i + f = 16 → (∀ j, j < i → D 34 j = nI j) → (∀ j, j < i → D 35 j = -1) → (∀ D', (∀ k, k ≠ 34 → k ≠ 35 → D' k = D k) → (∀ j, j < 16 → D' 34 j = nI j ∧ D' 35 j = -1) → ∀ i' : Int32, bw m_X8_follow d Q 33 [.ref 33, .ref 1, .ref 31, .int r3, .int i', a5, a6] [] D' L) → bw m_X8_follow d Q 3 [.ref 33, .ref 1, .ref 31, .int r3, .int (nI i), a5, a6] [] D L := by
  intro f
  induction f with
  | zero =>
    intro i D hf h0 h1 k
    refine x_iload (pc' := 5) rfl rfl rfl ?_
    refine x_int (pc' := 7) (v := nI 16) rfl rfl rfl ?_
    refine y_ic_ge (pc' := 10) rfl rfl (by omega) (by omega) (fun c7 => ?_) (fun c7 => ?_)
    · have e : i = 16 := by omega
      subst e
      exact k D (fun _ _ _ => rfl) (fun j hj => ⟨h0 j hj, h1 j hj⟩) _
    · exact absurd c7 (by omega)
  | succ f ih =>
    intro i D hf h0 h1 k
    refine x_iload (pc' := 5) rfl rfl rfl ?_
    refine x_int (pc' := 7) (v := nI 16) rfl rfl rfl ?_
    refine y_ic_ge (pc' := 10) rfl rfl (by omega) (by omega) (fun c7 => ?_) (fun c7 => ?_)
    · exact absurd c7 (by omega)
    · refine x_aload (pc' := 11) rfl rfl rfl ?_
      refine x_getR (pc' := 14) rfl rfl rfl (by decide) rfl (by decide) rfl rfl ?_
      refine x_iload (pc' := 16) rfl rfl rfl ?_
      refine x_iload (pc' := 18) rfl rfl rfl ?_
      refine x_iast (pc' := 19) rfl rfl (by decide) rfl (by decide) (show _ < 16 by omega) ?_
      refine x_aload (pc' := 20) rfl rfl rfl ?_
      refine x_getR (pc' := 23) rfl rfl rfl (by decide) rfl (by decide) rfl rfl ?_
      refine x_iload (pc' := 25) rfl rfl rfl ?_
      refine x_int (pc' := 26) (v := (-1)) rfl rfl rfl ?_
      refine x_iast (pc' := 27) rfl rfl (by decide) rfl (by decide) (show _ < 16 by omega) ?_
      refine y_inc (pc' := 30) (lv' := [_, _, _, _, _, _, _]) rfl rfl rfl (by decide) rfl ?_
      refine x_goto rfl ?_
      refine ih (i + 1) _ (by omega) ?_ ?_ (fun D2 f2 h2 j => k D2 (fun q h34 h35 => (f2 q h34 h35).trans ((bh_up2_ne _ _ _ h35).trans (bh_up2_ne _ _ _ h34))) h2 j)
      · intro j hj
        rw [bh_up2_ne _ _ _ (by decide), bh_up2_k]; dsimp only
        by_cases e : j = i
        · rw [if_pos e, e]
        · rw [if_neg e]; exact h0 j (by omega)
      · intro j hj
        rw [bh_up2_k]; dsimp only
        by_cases e : j = i
        · rw [if_pos e]
        · rw [if_neg e]; exact h1 j (by omega)
set_option maxRecDepth 20000 in
set_option maxHeartbeats 1000000 in
theorem l1_X8_follow {L : Nat → Nat → Int64} {Q : bh_Q} {d : Nat} (hd : 2 ≤ d) {r3 : Int32} {r0 : Nat} (h0 : r0 < 65536) {l : List Nat} (hl : l.length ≤ 12) : ∀ (n : Nat) (D : Nat → Nat → Int32) (v : Int32) (a6 : Value), n ≤ l.length → v = nI n - 1 → WF (tv D) → (∀ w ∈ l, w < nw (tv D)) → HdL D l → (∀ i, i < 16 → D 34 i = trOF (tv D) (l.drop n) i) → (∀ i, i < 16 → D 35 i = trCF (tv D) r0 (l.drop n) i) → (∀ D', Off3 D D' → (∀ i, i < 16 → D' 34 i = trOF (tv D) l i) → (∀ i, i < 16 → D' 35 i = trCF (tv D) r0 l i) → Q none (hp D' L)) → bw m_X8_follow d Q 44 [.ref 33, .ref 1, .ref 31, .int r3, .int (nI (trR (tv D) r0 (l.drop n))), .int v, a6] [] D L := by
  intro n
  induction n with
  | zero =>
    intro D v a6 hn hv hW hm hH hO hC k
    refine x_iload (pc' := 46) rfl rfl rfl ?_
    refine x_if_lt (pc' := 49) rfl rfl (fun c46 => ?_) (fun c46 => ?_)
    · refine x_vret rfl rfl ?_
      exact k D (fun _ _ _ _ => rfl) hO hC
    · exact absurd (by rw [hv]; exact sub1_lt (by omega)) c46
  | succ n ih =>
    intro D v a6 hn hv hW hm hH hO hC k
    have h12 := hW.nwl
    have hv : v = nI n := by rw [hv]; exact nI_pred _
    subst hv
    refine x_iload (pc' := 46) rfl rfl rfl ?_
    refine y_if_lt (pc' := 49) rfl rfl (by omega) ?_
    refine x_aload (pc' := 50) rfl rfl rfl ?_
    refine x_getR (pc' := 53) rfl rfl rfl (by decide) rfl (by decide) rfl rfl ?_
    refine x_iload (pc' := 55) rfl rfl rfl ?_
    refine x_iald (pc' := 56) rfl rfl (by decide) rfl (by decide) (show _ < 12 by omega) ?_
    refine x_top (hH.2 _ (by omega)) ?_
    refine x_istore (pc' := 58) (lv' := [_, _, _, _, _, _, _]) rfl rfl (by decide) rfl ?_
    have hw : l.getD n 0 < nw (tv D) := hm _ (getD_mem (by omega))
    have hrl := trR_lt hW h0 (r := l.drop (n + 1)) (fun w hw => hm w (List.mem_of_mem_drop hw))
    have ed := drop_get (l := l) (n := n) (by omega)
    refine x_aload (pc' := 59) rfl rfl rfl ?_
    refine x_iload (pc' := 61) rfl rfl rfl ?_
    refine x_callV (pc' := 64) (d1 := 1) (Bs := [_]) rfl rfl rfl rfl rfl rfl rfl (Nat.le_of_ble_eq_true rfl) ⟨rfl, rfl⟩ (by decide) rfl (by omega) ?_
    refine w_X7_inMood hW hw (fun h61 => ?_) (fun h61 => ?_)
    · refine ⟨rfl, ?_⟩
      refine x_if_ne (pc' := 67) rfl rfl (fun _ => ?_) (fun c64 => absurd c64 (by decide))
      refine x_iinc (pc' := 89) (w := (-1)) (lv' := [_, _, _, _, _, _, _]) rfl rfl rfl rfl (by decide) (add_m1 _) rfl ?_
      refine x_goto rfl ?_
      first
        | (have eR : trR (tv D) r0 (l.drop n) = trR (tv D) r0 (l.drop (n + 1)) := by rw [ed]; exact trR_1 h61
           have hh := ih D (nI n - 1) (.int (nI (l.getD n 0))) (by omega) rfl hW hm hH (fun i hi => by rw [ed, trOF_1 h61]; exact hO i hi) (fun i hi => by rw [ed, trCF_1 h61]; exact hC i hi) k
           rw [eR] at hh
           exact hh)
        | (have eR : trR (tv D) r0 (l.drop n) = hab (kd (tv D) (l.getD n 0)) (fa (tv D) (l.getD n 0)) (fb (tv D) (l.getD n 0)) (trR (tv D) r0 (l.drop (n + 1))) := by rw [ed]; exact trR_0 h61
           have t1 := o1.tv
           have hh := ih D1 (nI n - 1) (.int (nI (l.getD n 0))) (by omega) rfl (by rw [t1]; exact hW) (by rw [t1]; exact hm) (o1.hd hH) (fun i hi => by rw [t1, ed, trOF_0 h61, u1 i hi]; exact trO_cg (hW.fal hw) (hW.fbl hw) hO hi) (fun i hi => by rw [t1, ed, trCF_0 h61, v1 i hi]; exact trC_cg (hW.fal hw) (hW.fbl hw) hC hi) (fun D2 o2 p2 q2 => k D2 (o1.tr o2) (by rw [t1] at p2; exact p2) (by rw [t1] at q2; exact q2))
           rw [t1, eR] at hh
           exact hh)
    · refine ⟨rfl, ?_⟩
      refine x_if_ne (pc' := 67) rfl rfl (fun c64 => absurd (by decide) c64) (fun _ => ?_)
      refine x_aload (pc' := 68) rfl rfl rfl ?_
      refine x_aload (pc' := 69) rfl rfl rfl ?_
      refine x_iload (pc' := 71) rfl rfl rfl ?_
      refine x_iload (pc' := 73) rfl rfl rfl ?_
      refine x_callV (pc' := 76) (d1 := 2) (Bs := [_, _, _]) rfl rfl rfl rfl rfl rfl rfl (Nat.le_of_ble_eq_true rfl) ⟨rfl, rfl⟩ (by decide) rfl (by omega) ?_
      refine w_X8_step hW hw hrl rfl rfl rfl (hW.ehok hw) (fun D1 o1 u1 v1 => ?_)
      refine ⟨rfl, ?_⟩
      refine x_aload (pc' := 77) rfl rfl rfl ?_
      refine x_iload (pc' := 79) rfl rfl rfl ?_
      refine x_iload (pc' := 81) rfl rfl rfl ?_
      refine x_callV (pc' := 84) (d1 := 2) (Bs := [_, _]) rfl rfl rfl rfl rfl rfl rfl (Nat.le_of_ble_eq_true rfl) ⟨rfl, rfl⟩ (by decide) rfl (by omega) ?_
      refine w_X7_habitOn (D := D1) (by rw [o1.tv]; exact hW) (by rw [o1.tv]; exact hw) hrl ?_
      refine ⟨rfl, ?_⟩
      refine x_top (show nI (hab (kd (tv D1) _) _ _ _) = nI (hab (kd (tv D) (l.getD n 0)) (fa (tv D) (l.getD n 0)) (fb (tv D) (l.getD n 0)) (trR (tv D) r0 (l.drop (n + 1)))) by rw [o1.tv]) ?_
      refine x_istore (pc' := 86) (lv' := [_, _, _, _, _, _, _]) rfl rfl (by decide) rfl ?_
      refine x_iinc (pc' := 89) (w := (-1)) (lv' := [_, _, _, _, _, _, _]) rfl rfl rfl rfl (by decide) (add_m1 _) rfl ?_
      refine x_goto rfl ?_
      first
        | (have eR : trR (tv D) r0 (l.drop n) = trR (tv D) r0 (l.drop (n + 1)) := by rw [ed]; exact trR_1 h61
           have hh := ih D (nI n - 1) (.int (nI (l.getD n 0))) (by omega) rfl hW hm hH (fun i hi => by rw [ed, trOF_1 h61]; exact hO i hi) (fun i hi => by rw [ed, trCF_1 h61]; exact hC i hi) k
           rw [eR] at hh
           exact hh)
        | (have eR : trR (tv D) r0 (l.drop n) = hab (kd (tv D) (l.getD n 0)) (fa (tv D) (l.getD n 0)) (fb (tv D) (l.getD n 0)) (trR (tv D) r0 (l.drop (n + 1))) := by rw [ed]; exact trR_0 h61
           have t1 := o1.tv
           have hh := ih D1 (nI n - 1) (.int (nI (l.getD n 0))) (by omega) rfl (by rw [t1]; exact hW) (by rw [t1]; exact hm) (o1.hd hH) (fun i hi => by rw [t1, ed, trOF_0 h61, u1 i hi]; exact trO_cg (hW.fal hw) (hW.fbl hw) hO hi) (fun i hi => by rw [t1, ed, trCF_0 h61, v1 i hi]; exact trC_cg (hW.fal hw) (hW.fbl hw) hC hi) (fun D2 o2 p2 q2 => k D2 (o1.tr o2) (by rw [t1] at p2; exact p2) (by rw [t1] at q2; exact q2))
           rw [t1, eR] at hh
           exact hh)
set_option maxRecDepth 20000 in
set_option maxHeartbeats 1000000 in
theorem w_X8_follow {D : Nat → Nat → Int32} {L : Nat → Nat → Int64} {Q : bh_Q} (hW : WF (tv D)) {row : Nat} (hr : row < 65536) {l : List Nat} (hH : HdL D l) (hl : l.length ≤ 12) (hm : ∀ w ∈ l, w < nw (tv D)) (k1 : ∀ D', Off3 D D' → (∀ i, i < 16 → D' 34 i = trOF (tv D) l i) → (∀ i, i < 16 → D' 35 i = trCF (tv D) row l i) → Q none (hp D' L)) : bh_wc 3 m_X8_follow [.ref 33, .ref 1, .ref 31, .int (nI row)] (hp D L) Q := by
  refine x_start (lv0 := [_, _, _, _, _, _, _]) (Nat.le_of_ble_eq_true rfl) rfl ?_
  refine x_int (pc' := 1) (v := nI 0) rfl rfl rfl ?_
  refine x_istore (pc' := 3) (lv' := [_, _, _, _, _, _, _]) rfl rfl (by decide) rfl ?_
  refine l0_X8_follow (d := 2) 16 0 D rfl (fun j hj => absurd hj (Nat.not_lt_zero j)) (fun j hj => absurd hj (Nat.not_lt_zero j)) (fun D1 f1 h1 i9 => ?_)
  have hH1 : HdL D1 l := by unfold HdL; rw [f1 31 (by decide) (by decide), f1 32 (by decide) (by decide)]; exact hH
  refine x_iload (pc' := 34) rfl rfl rfl ?_
  refine x_istore (pc' := 36) (lv' := [_, _, _, _, _, _, _]) rfl rfl (by decide) rfl ?_
  refine x_aload (pc' := 37) rfl rfl rfl ?_
  refine x_getI (j := 1) (pc' := 40) rfl rfl rfl (by decide) rfl (by decide) rfl rfl ?_
  refine x_top (hH1.1) ?_
  refine x_int (pc' := 41) (v := nI 1) rfl rfl rfl ?_
  refine x_isub (pc' := 42) rfl rfl ?_
  refine x_istore (pc' := 44) (lv' := [_, _, _, _, _, _, _]) rfl rfl (by decide) rfl ?_
  have t1 : tv D1 = tv D := tvt_off (t := 1) (fun j hj => f1 _ (by omega) (by omega))
  have hh := l1_X8_follow (d := 2) (L := L) (Q := Q) (r3 := nI row) (by decide) hr hl l.length D1 (nI l.length - 1) .null (Nat.le_refl _) rfl (by rw [t1]; exact hW) (by rw [t1]; exact hm) hH1 (fun i hi => by rw [List.drop_length]; exact (h1 i hi).1) (fun i hi => by rw [List.drop_length]; exact (h1 i hi).2) (fun D2 o2 p2 q2 => k1 D2 (fun q a b c => (o2 q a b c).trans (f1 q a b)) (by rw [t1] at p2; exact p2) (by rw [t1] at q2; exact q2))
  rw [List.drop_length] at hh
  exact hh
