/-! ===== the trail of signs ===== -/
def trO (k a b : Nat) (o : Nat → Int32) (i : Nat) : Int32 := match k with
  | 2 => if i = a then -1 else o i
  | 3 => if i = a then -1 else o i
  | 4 => o ((i + 16 - a) % 16)
  | 5 => if i = b then o a else if i = a then o b else o i
  | 6 => if i = b then o a else o i
  | _ => o i
def trC (k a b row : Nat) (w : Int32) (c : Nat → Int32) (i : Nat) : Int32 := match k with
  | 1 => if i = a then w else c i
  | 2 => if i = a ∧ row.testBit a = false then w else c i
  | 3 => if i = a ∧ row.testBit a = true then w else c i
  | 4 => c ((i + 16 - a) % 16)
  | 5 => if i = b then c a else if i = a then c b else c i
  | 6 => if i = b ∧ row.testBit a ≠ row.testBit b then w else c i
  | _ => c i
def Off3 (D D' : Nat → Nat → Int32) : Prop := ∀ k, k ≠ 34 → k ≠ 35 → k ≠ 36 → D' k = D k
theorem Off3.tr {D D1 D2 : Nat → Nat → Int32} (h1 : Off3 D D1) (h2 : Off3 D1 D2) : Off3 D D2 := fun k a b c => (h2 k a b c).trans (h1 k a b c)
theorem Off3.c {D D' : Nat → Nat → Int32} (h : Off3 D D') : OffC D D' := fun k a => h k (by omega) (by omega) (by omega)
theorem bit01 {row a : Nat} (h : (if row.testBit a then 1 else 0) = 1) : row.testBit a = true := by cases hz : row.testBit a; rw [hz] at h; exact absurd h (by decide); rfl
theorem bit00 {row a : Nat} (h : ¬ (if row.testBit a then 1 else 0) = 1) : row.testBit a = false := by cases hz : row.testBit a; rfl; rw [hz] at h; exact absurd rfl h
theorem bit_lt2 (b : Bool) : (if b then 1 else 0 : Nat) < 2 := by cases b <;> decide
set_option maxRecDepth 20000 in
set_option maxHeartbeats 1000000 in
theorem w_X8_put1 {D : Nat → Nat → Int32} {L : Nat → Nat → Int64} {Q : bh_Q} {s : Nat} {x y : Int32} (hs : s < 16) (k1 : Q none (hp (bh_up2 (bh_up2 D 34 s x) 35 s y) L)) : bh_wc 1 m_X8_put [.ref 33, .int (nI s), .int x, .int y, .int (nI 1)] (hp D L) Q := by
  refine x_start (lv0 := [_, _, _, _, _]) (Nat.le_of_ble_eq_true rfl) rfl ?_
  refine x_aload (pc' := 1) rfl rfl rfl ?_
  refine x_getR (pc' := 4) rfl rfl rfl (by decide) rfl (by decide) rfl rfl ?_
  refine x_iload (pc' := 5) rfl rfl rfl ?_
  refine x_iload (pc' := 6) rfl rfl rfl ?_
  refine x_iast (pc' := 7) rfl rfl (by decide) rfl (by decide) (show _ < 16 by omega) ?_
  refine x_iload (pc' := 9) rfl rfl rfl ?_
  refine x_if_eq (pc' := 12) rfl rfl (fun c9 => absurd c9 (by decide)) (fun _ => ?_)
  refine x_aload (pc' := 13) rfl rfl rfl ?_
  refine x_getR (pc' := 16) rfl rfl rfl (by decide) rfl (by decide) rfl rfl ?_
  refine x_iload (pc' := 17) rfl rfl rfl ?_
  refine x_iload (pc' := 18) rfl rfl rfl ?_
  refine x_iast (pc' := 19) rfl rfl (by decide) rfl (by decide) (show _ < 16 by omega) ?_
  refine x_vret rfl rfl ?_
  exact k1
set_option maxRecDepth 20000 in
set_option maxHeartbeats 1000000 in
theorem w_X8_put0 {D : Nat → Nat → Int32} {L : Nat → Nat → Int64} {Q : bh_Q} {s : Nat} {x y : Int32} (hs : s < 16) (k1 : Q none (hp (bh_up2 D 34 s x) L)) : bh_wc 1 m_X8_put [.ref 33, .int (nI s), .int x, .int y, .int (nI 0)] (hp D L) Q := by
  refine x_start (lv0 := [_, _, _, _, _]) (Nat.le_of_ble_eq_true rfl) rfl ?_
  refine x_aload (pc' := 1) rfl rfl rfl ?_
  refine x_getR (pc' := 4) rfl rfl rfl (by decide) rfl (by decide) rfl rfl ?_
  refine x_iload (pc' := 5) rfl rfl rfl ?_
  refine x_iload (pc' := 6) rfl rfl rfl ?_
  refine x_iast (pc' := 7) rfl rfl (by decide) rfl (by decide) (show _ < 16 by omega) ?_
  refine x_iload (pc' := 9) rfl rfl rfl ?_
  refine x_if_eq (pc' := 12) rfl rfl (fun _ => ?_) (fun c9 => absurd (by decide) c9)
  refine x_vret rfl rfl ?_
  exact k1
set_option maxRecDepth 20000 in
set_option maxHeartbeats 1000000 in
theorem w_X8_swap34 {D : Nat → Nat → Int32} {L : Nat → Nat → Int64} {Q : bh_Q} {a b : Nat} (ha : a < 16) (hb : b < 16) (k1 : Q none (hp (bh_up2 (bh_up2 D 34 a (D 34 b)) 34 b (D 34 a)) L)) : bh_wc 1 m_X8_swap [.ref 34, .int (nI a), .int (nI b)] (hp D L) Q := by
  refine x_start (lv0 := [_, _, _, _]) (Nat.le_of_ble_eq_true rfl) rfl ?_
  refine x_aload (pc' := 1) rfl rfl rfl ?_
  refine x_iload (pc' := 2) rfl rfl rfl ?_
  refine x_iald (pc' := 3) rfl rfl (by decide) rfl (by decide) (show _ < 16 by omega) ?_
  refine x_istore (pc' := 4) (lv' := [_, _, _, _]) rfl rfl (by decide) rfl ?_
  refine x_aload (pc' := 5) rfl rfl rfl ?_
  refine x_iload (pc' := 6) rfl rfl rfl ?_
  refine x_aload (pc' := 7) rfl rfl rfl ?_
  refine x_iload (pc' := 8) rfl rfl rfl ?_
  refine x_iald (pc' := 9) rfl rfl (by decide) rfl (by decide) (show _ < 16 by omega) ?_
  refine x_iast (pc' := 10) rfl rfl (by decide) rfl (by decide) (show _ < 16 by omega) ?_
  refine x_aload (pc' := 11) rfl rfl rfl ?_
  refine x_iload (pc' := 12) rfl rfl rfl ?_
  refine x_iload (pc' := 13) rfl rfl rfl ?_
  refine x_iast (pc' := 14) rfl rfl (by decide) rfl (by decide) (show _ < 16 by omega) ?_
  refine x_vret rfl rfl ?_
  exact k1
set_option maxRecDepth 20000 in
set_option maxHeartbeats 1000000 in
theorem w_X8_swap35 {D : Nat → Nat → Int32} {L : Nat → Nat → Int64} {Q : bh_Q} {a b : Nat} (ha : a < 16) (hb : b < 16) (k1 : Q none (hp (bh_up2 (bh_up2 D 35 a (D 35 b)) 35 b (D 35 a)) L)) : bh_wc 1 m_X8_swap [.ref 35, .int (nI a), .int (nI b)] (hp D L) Q := by
  refine x_start (lv0 := [_, _, _, _]) (Nat.le_of_ble_eq_true rfl) rfl ?_
  refine x_aload (pc' := 1) rfl rfl rfl ?_
  refine x_iload (pc' := 2) rfl rfl rfl ?_
  refine x_iald (pc' := 3) rfl rfl (by decide) rfl (by decide) (show _ < 16 by omega) ?_
  refine x_istore (pc' := 4) (lv' := [_, _, _, _]) rfl rfl (by decide) rfl ?_
  refine x_aload (pc' := 5) rfl rfl rfl ?_
  refine x_iload (pc' := 6) rfl rfl rfl ?_
  refine x_aload (pc' := 7) rfl rfl rfl ?_
  refine x_iload (pc' := 8) rfl rfl rfl ?_
  refine x_iald (pc' := 9) rfl rfl (by decide) rfl (by decide) (show _ < 16 by omega) ?_
  refine x_iast (pc' := 10) rfl rfl (by decide) rfl (by decide) (show _ < 16 by omega) ?_
  refine x_aload (pc' := 11) rfl rfl rfl ?_
  refine x_iload (pc' := 12) rfl rfl rfl ?_
  refine x_iload (pc' := 13) rfl rfl rfl ?_
  refine x_iast (pc' := 14) rfl rfl (by decide) rfl (by decide) (show _ < 16 by omega) ?_
  refine x_vret rfl rfl ?_
  exact k1
set_option maxRecDepth 20000 in
set_option maxHeartbeats 1000000 in
theorem l_X8_turn34 {L : Nat → Nat → Int64} {Q : bh_Q} {d a : Nat} (ha : a < 16) : ∀ (f i : Nat) (D : Nat → Nat → Int32), i + f = 16 → (∀ j, j < i → D 36 ((j + a) % 16) = D 34 j) → (∀ D', (∀ k, k ≠ 36 → k ≠ 34 → D' k = D k) → (∀ j, j < 16 → D' 34 j = D 34 ((j + 16 - a) % 16)) → Q none (hp D' L)) → bw m_X8_turn d Q 2 [.ref 33, .ref 34, .int (nI a), .int (nI i)] [] D L := by
  intro f
  induction f with
  | zero =>
    intro i D hf hS k
    refine x_iload (pc' := 3) rfl rfl rfl ?_
    refine x_int (pc' := 5) (v := nI 16) rfl rfl rfl ?_
    refine y_ic_ge (pc' := 8) rfl rfl (by omega) (by omega) (fun c5 => ?_) (fun c5 => ?_)
    · refine x_aload (pc' := 29) rfl rfl rfl ?_
      refine x_getR (pc' := 32) rfl rfl rfl (by decide) rfl (by decide) rfl rfl ?_
      refine x_int (pc' := 33) (v := 0) rfl rfl rfl ?_
      refine x_aload (pc' := 34) rfl rfl rfl ?_
      refine x_int (pc' := 35) (v := 0) rfl rfl rfl ?_
      refine x_int (pc' := 37) (v := nI 16) rfl rfl rfl ?_
      refine x_copy (pc' := 40) rfl rfl (Nat.le_of_ble_eq_true rfl) (by decide) (by decide) rfl rfl (by decide) (by decide) (by decide) (by decide) ?_
      refine x_vret rfl rfl ?_
      refine k _ (fun q a b => bh_upr_ne _ _ b) (fun j hj => ?_)
      rw [bh_upr_self]
      unfold va_cpy
      rw [if_pos ⟨Nat.zero_le _, by omega⟩]
      have e : D 34 ((j + 16 - a) % 16) = D 36 (((j + 16 - a) % 16 + a) % 16) := (hS _ (by omega)).symm
      have e2 : ((j + 16 - a) % 16 + a) % 16 = j := by omega
      rw [e2] at e
      rw [e]
      simp
    · exact absurd c5 (by omega)
  | succ f ih =>
    intro i D hf hS k
    refine x_iload (pc' := 3) rfl rfl rfl ?_
    refine x_int (pc' := 5) (v := nI 16) rfl rfl rfl ?_
    refine y_ic_ge (pc' := 8) rfl rfl (by omega) (by omega) (fun c5 => ?_) (fun c5 => ?_)
    · exact absurd c5 (by omega)
    · refine x_aload (pc' := 9) rfl rfl rfl ?_
      refine x_getR (pc' := 12) rfl rfl rfl (by decide) rfl (by decide) rfl rfl ?_
      refine x_iload (pc' := 13) rfl rfl rfl ?_
      refine x_iload (pc' := 14) rfl rfl rfl ?_
      refine y_iadd (pc' := 15) rfl rfl ?_
      refine x_int (pc' := 17) (v := nI 16) rfl rfl rfl ?_
      refine y_irem (pc' := 18) rfl rfl (by omega) (by omega) (by omega) ?_
      refine x_aload (pc' := 19) rfl rfl rfl ?_
      refine x_iload (pc' := 20) rfl rfl rfl ?_
      refine x_iald (pc' := 21) rfl rfl (by decide) rfl (by decide) (show _ < 16 by omega) ?_
      refine x_iast (pc' := 22) rfl rfl (by decide) rfl (by decide) (show _ < 16 by omega) ?_
      refine y_inc (pc' := 25) (lv' := [_, _, _, _]) rfl rfl rfl (by decide) rfl ?_
      refine x_goto rfl ?_
      refine ih (i + 1) _ (by omega) ?_ (fun D2 f2 h2 => k D2 (fun q a b => (f2 q a b).trans (bh_up2_ne _ _ _ a)) h2)
      intro j hj
      rw [bh_up2_k]; dsimp only
      by_cases e : j = i
      · rw [if_pos (by omega), e]; rfl
      · rw [if_neg (by omega)]; exact hS j (by omega)
set_option maxRecDepth 20000 in
set_option maxHeartbeats 1000000 in
theorem w_X8_turn34 {D : Nat → Nat → Int32} {L : Nat → Nat → Int64} {Q : bh_Q} {a : Nat} (ha : a < 16) (k1 : ∀ D', (∀ k, k ≠ 36 → k ≠ 34 → D' k = D k) → (∀ j, j < 16 → D' 34 j = D 34 ((j + 16 - a) % 16)) → Q none (hp D' L)) : bh_wc 1 m_X8_turn [.ref 33, .ref 34, .int (nI a)] (hp D L) Q := by
  refine x_start (lv0 := [_, _, _, _]) (Nat.le_of_ble_eq_true rfl) rfl ?_
  refine x_int (pc' := 1) (v := nI 0) rfl rfl rfl ?_
  refine x_istore (pc' := 2) (lv' := [_, _, _, _]) rfl rfl (by decide) rfl ?_
  exact l_X8_turn34 ha 16 0 D rfl (fun j hj => absurd hj (Nat.not_lt_zero j)) k1
set_option maxRecDepth 20000 in
set_option maxHeartbeats 1000000 in
theorem l_X8_turn35 {L : Nat → Nat → Int64} {Q : bh_Q} {d a : Nat} (ha : a < 16) : ∀ (f i : Nat) (D : Nat → Nat → Int32), i + f = 16 → (∀ j, j < i → D 36 ((j + a) % 16) = D 35 j) → (∀ D', (∀ k, k ≠ 36 → k ≠ 35 → D' k = D k) → (∀ j, j < 16 → D' 35 j = D 35 ((j + 16 - a) % 16)) → Q none (hp D' L)) → bw m_X8_turn d Q 2 [.ref 33, .ref 35, .int (nI a), .int (nI i)] [] D L := by
  intro f
  induction f with
  | zero =>
    intro i D hf hS k
    refine x_iload (pc' := 3) rfl rfl rfl ?_
    refine x_int (pc' := 5) (v := nI 16) rfl rfl rfl ?_
    refine y_ic_ge (pc' := 8) rfl rfl (by omega) (by omega) (fun c5 => ?_) (fun c5 => ?_)
    · refine x_aload (pc' := 29) rfl rfl rfl ?_
      refine x_getR (pc' := 32) rfl rfl rfl (by decide) rfl (by decide) rfl rfl ?_
      refine x_int (pc' := 33) (v := 0) rfl rfl rfl ?_
      refine x_aload (pc' := 34) rfl rfl rfl ?_
      refine x_int (pc' := 35) (v := 0) rfl rfl rfl ?_
      refine x_int (pc' := 37) (v := nI 16) rfl rfl rfl ?_
      refine x_copy (pc' := 40) rfl rfl (Nat.le_of_ble_eq_true rfl) (by decide) (by decide) rfl rfl (by decide) (by decide) (by decide) (by decide) ?_
      refine x_vret rfl rfl ?_
      refine k _ (fun q a b => bh_upr_ne _ _ b) (fun j hj => ?_)
      rw [bh_upr_self]
      unfold va_cpy
      rw [if_pos ⟨Nat.zero_le _, by omega⟩]
      have e : D 35 ((j + 16 - a) % 16) = D 36 (((j + 16 - a) % 16 + a) % 16) := (hS _ (by omega)).symm
      have e2 : ((j + 16 - a) % 16 + a) % 16 = j := by omega
      rw [e2] at e
      rw [e]
      simp
    · exact absurd c5 (by omega)
  | succ f ih =>
    intro i D hf hS k
    refine x_iload (pc' := 3) rfl rfl rfl ?_
    refine x_int (pc' := 5) (v := nI 16) rfl rfl rfl ?_
    refine y_ic_ge (pc' := 8) rfl rfl (by omega) (by omega) (fun c5 => ?_) (fun c5 => ?_)
    · exact absurd c5 (by omega)
    · refine x_aload (pc' := 9) rfl rfl rfl ?_
      refine x_getR (pc' := 12) rfl rfl rfl (by decide) rfl (by decide) rfl rfl ?_
      refine x_iload (pc' := 13) rfl rfl rfl ?_
      refine x_iload (pc' := 14) rfl rfl rfl ?_
      refine y_iadd (pc' := 15) rfl rfl ?_
      refine x_int (pc' := 17) (v := nI 16) rfl rfl rfl ?_
      refine y_irem (pc' := 18) rfl rfl (by omega) (by omega) (by omega) ?_
      refine x_aload (pc' := 19) rfl rfl rfl ?_
      refine x_iload (pc' := 20) rfl rfl rfl ?_
      refine x_iald (pc' := 21) rfl rfl (by decide) rfl (by decide) (show _ < 16 by omega) ?_
      refine x_iast (pc' := 22) rfl rfl (by decide) rfl (by decide) (show _ < 16 by omega) ?_
      refine y_inc (pc' := 25) (lv' := [_, _, _, _]) rfl rfl rfl (by decide) rfl ?_
      refine x_goto rfl ?_
      refine ih (i + 1) _ (by omega) ?_ (fun D2 f2 h2 => k D2 (fun q a b => (f2 q a b).trans (bh_up2_ne _ _ _ a)) h2)
      intro j hj
      rw [bh_up2_k]; dsimp only
      by_cases e : j = i
      · rw [if_pos (by omega), e]; rfl
      · rw [if_neg (by omega)]; exact hS j (by omega)
set_option maxRecDepth 20000 in
set_option maxHeartbeats 1000000 in
theorem w_X8_turn35 {D : Nat → Nat → Int32} {L : Nat → Nat → Int64} {Q : bh_Q} {a : Nat} (ha : a < 16) (k1 : ∀ D', (∀ k, k ≠ 36 → k ≠ 35 → D' k = D k) → (∀ j, j < 16 → D' 35 j = D 35 ((j + 16 - a) % 16)) → Q none (hp D' L)) : bh_wc 1 m_X8_turn [.ref 33, .ref 35, .int (nI a)] (hp D L) Q := by
  refine x_start (lv0 := [_, _, _, _]) (Nat.le_of_ble_eq_true rfl) rfl ?_
  refine x_int (pc' := 1) (v := nI 0) rfl rfl rfl ?_
  refine x_istore (pc' := 2) (lv' := [_, _, _, _]) rfl rfl (by decide) rfl ?_
  exact l_X8_turn35 ha 16 0 D rfl (fun j hj => absurd hj (Nat.not_lt_zero j)) k1
