/-! ===== the class: a town that is told ===== -/
theorem tvt_up {D : Nat → Nat → Int32} {k i j : Nat} {x : Int32} (hk : k = 14 + j) (hj : j < 13) : tvt (bh_up2 D k i x) 14 = bh_up2 (tvt D 14) j i x := by
  subst hk
  funext a b
  unfold tvt
  rw [up2_at]
  by_cases ha : a < 13
  · rw [if_pos ha, up2_at]
    by_cases e : a = j ∧ b = i
    · rw [if_pos e, if_pos ⟨by omega, e.2⟩]
    · rw [if_neg e, if_neg (fun z => e ⟨by omega, z.2⟩), if_pos ha]
  · rw [if_neg ha, up2_at, if_neg (fun z => ha (by omega)), if_neg ha]
theorem O27.t {D D' : Nat → Nat → Int32} (h : O27 D D') : tvt D' 14 = tvt D 14 := tvt_off (fun j hj => h _ (by omega))
def OT (D D' : Nat → Nat → Int32) : Prop := ∀ k, k ≠ 27 → (k < 14 ∨ 25 ≤ k) → D' k = D k
theorem OT.rf {D : Nat → Nat → Int32} : OT D D := fun _ _ _ => rfl
theorem OT.tr {D D1 D2 : Nat → Nat → Int32} (h1 : OT D D1) (h2 : OT D1 D2) : OT D D2 := fun k a b => (h2 k a b).trans (h1 k a b)
theorem O27.ot {D D' : Nat → Nat → Int32} (h : O27 D D') : OT D D' := fun k a _ => h k a
theorem OT.up {D : Nat → Nat → Int32} {k j : Nat} {x : Int32} (h1 : 14 ≤ k) (h2 : k < 25) : OT D (bh_up2 D k j x) := fun i _ h => bh_up2_ne _ _ _ (by omega)
theorem TS.u {D : Nat → Nat → Int32} {tp : List Nat} {a f k j : Nat} {x : Int32} (h : TS D tp a f) (h1 : 14 ≤ k) (h2 : k < 25) : TS (bh_up2 D k j x) tp a f := by
  unfold TS PC
  rw [bh_up2_ne _ _ _ (show 27 ≠ k by omega), bh_up2_ne _ _ _ (show 28 ≠ k by omega)]
  exact h
/-- it failed -/
def FL (D D' : Nat → Nat → Int32) (tp : List Nat) (f : Nat) : Prop := OT D D' ∧ PC D' tp ∧ D' 27 4 = nI f ∧ f < 10000
theorem TS.fl {D D' : Nat → Nat → Int32} {tp : List Nat} {a f : Nat} (h : TS D' tp a f) (o : OT D D') : FL D D' tp f := ⟨o, h.1, h.2.2.2.1, h.2.2.2.2⟩
def emS (S : TW) : TW := bh_up2 (bh_up2 (bh_up2 (bh_up2 (bh_up2 (bh_up2 S 0 0 (nI 0)) 0 1 (nI 0)) 0 2 (nI 0)) 0 3 (nI 0)) 0 4 (nI 0)) 0 5 (nI 0)
def shS (S : TW) (w k x y : Nat) : TW := bh_up2 (bh_up2 (bh_up2 S 2 w (nI k)) 3 w (nI x)) 4 w (nI y)
def awS (S : TW) (w v : Nat) : TW := bh_up2 (bh_up2 (bh_up2 (bh_up2 (bh_up2 (shS (bh_up2 S 1 w (nI v)) w 0 0 0) 5 w (-1)) 6 w (nI 0)) 7 w (nI 0)) 8 w (nI 0)) 0 0 (nI (w + 1))
def suS (S : TW) (w u : Nat) : TW := bh_up2 S 5 w (nI u)
def abS (S : TW) (b : Nat) : TW := bh_up2 (bh_up2 S 9 b (nI 0)) 0 1 (nI (b + 1))
def apS (S : TW) (b m v : Nat) : TW := bh_up2 (bh_up2 S 10 (b * 8 + m) (nI v)) 9 b (nI (m + 1))
def lo4 (k : Nat) : Nat := if k = 4 then 1 else 0
def hab2 (tp : List Nat) (k e : Nat) : Nat × Nat × Nat × Nat × Nat := if sg k = 0 then (0, k, 0, 0, e) else if ¬ nF tp (lo4 k) 16 e = 0 then (nF tp (lo4 k) 16 e, 0, 0, 0, 0) else if sg k = 1 then (0, k, nV tp e, 0, nE tp e) else if ¬ nF tp 0 16 (nE tp e) = 0 then (nF tp 0 16 (nE tp e), 0, 0, 0, 0) else if nV tp (nE tp e) = nV tp e then (8 * nS tp (nE tp e) + 2, 0, 0, 0, 0) else (0, k, nV tp e, nV tp (nE tp e), nE tp (nE tp e))
def pHab (tp : List Nat) (a : Nat) : Nat × Nat × Nat × Nat × Nat := match kw tp (skp isBk tp a) (skp isLt tp (skp isBk tp a)) with
  | none => (8 * skp isBk tp a + 1, 0, 0, 0, 0)
  | some k => hab2 tp k (skp isLt tp (skp isBk tp a))
theorem pHab_n {tp : List Nat} {a : Nat} (h : kw tp (skp isBk tp a) (skp isLt tp (skp isBk tp a)) = none) : pHab tp a = (8 * skp isBk tp a + 1, 0, 0, 0, 0) := by unfold pHab; rw [h]
theorem pHab_s {tp : List Nat} {a k : Nat} (h : kw tp (skp isBk tp a) (skp isLt tp (skp isBk tp a)) = some k) : pHab tp a = hab2 tp k (skp isLt tp (skp isBk tp a)) := by unfold pHab; rw [h]
theorem kwF_lt {tp : List Nat} {s e : Nat} : ∀ f k r, kwF tp s e f k = some r → k ≤ r ∧ r < k + f := by
  intro f
  induction f with
  | zero => intro k r h; cases h
  | succ f ih =>
    intro k r h
    unfold kwF at h
    split at h
    · cases h; omega
    · have := ih (k + 1) r h; omega
theorem kw_lt {tp : List Nat} {s e k : Nat} (h : kw tp s e = some k) : k < 7 := by have := kwF_lt 7 0 k h; omega
theorem nF_in {tp : List Nat} {lo hi a : Nat} (h : nF tp lo hi a = 0) : lo ≤ nV tp a ∧ nV tp a < hi ∧ ¬ nE tp a = nS tp a := by
  unfold nF at h
  split at h
  · omega
  · split at h
    · omega
    · omega
set_option maxRecDepth 20000 in
set_option maxHeartbeats 1000000 in
theorem w14_empty {D : Nat → Nat → Int32} {L : Nat → Nat → Int64} {Q : bh_Q} (k1 : Q none (hp (bh_up2 (bh_up2 (bh_up2 (bh_up2 (bh_up2 (bh_up2 D 14 0 (nI 0)) 14 1 (nI 0)) 14 2 (nI 0)) 14 3 (nI 0)) 14 4 (nI 0)) 14 5 (nI 0)) L)) : bh_wc 1 m_X7_empty [.ref 14] (hp D L) Q := by
  refine x_start (lv0 := [_]) (Nat.le_of_ble_eq_true rfl) rfl ?_
  refine x_aload (pc' := 1) rfl rfl rfl ?_
  refine x_int (pc' := 2) (v := nI 0) rfl rfl rfl ?_
  refine x_putI (j := 0) (pc' := 5) rfl rfl rfl (by decide) rfl (by decide) rfl rfl ?_
  refine x_aload (pc' := 6) rfl rfl rfl ?_
  refine x_int (pc' := 7) (v := nI 0) rfl rfl rfl ?_
  refine x_putI (j := 1) (pc' := 10) rfl rfl rfl (by decide) rfl (by decide) rfl rfl ?_
  refine x_aload (pc' := 11) rfl rfl rfl ?_
  refine x_int (pc' := 12) (v := nI 0) rfl rfl rfl ?_
  refine x_putI (j := 2) (pc' := 15) rfl rfl rfl (by decide) rfl (by decide) rfl rfl ?_
  refine x_aload (pc' := 16) rfl rfl rfl ?_
  refine x_int (pc' := 17) (v := nI 0) rfl rfl rfl ?_
  refine x_putI (j := 3) (pc' := 20) rfl rfl rfl (by decide) rfl (by decide) rfl rfl ?_
  refine x_aload (pc' := 21) rfl rfl rfl ?_
  refine x_int (pc' := 22) (v := nI 0) rfl rfl rfl ?_
  refine x_putI (j := 4) (pc' := 25) rfl rfl rfl (by decide) rfl (by decide) rfl rfl ?_
  refine x_aload (pc' := 26) rfl rfl rfl ?_
  refine x_int (pc' := 27) (v := nI 0) rfl rfl rfl ?_
  refine x_putI (j := 5) (pc' := 30) rfl rfl rfl (by decide) rfl (by decide) rfl rfl ?_
  refine x_vret rfl rfl ?_
  exact k1
set_option maxRecDepth 20000 in
set_option maxHeartbeats 1000000 in
theorem w14_setHabit {D : Nat → Nat → Int32} {L : Nat → Nat → Int64} {Q : bh_Q} {w : Nat} {x y z : Int32} (hw : w < 12) (k1 : Q none (hp (bh_up2 (bh_up2 (bh_up2 D 16 w x) 17 w y) 18 w z) L)) : bh_wc 1 m_X7_setHabit [.ref 14, .int (nI w), .int x, .int y, .int z] (hp D L) Q := by
  refine x_start (lv0 := [_, _, _, _, _]) (Nat.le_of_ble_eq_true rfl) rfl ?_
  refine x_aload (pc' := 1) rfl rfl rfl ?_
  refine x_getR (pc' := 4) rfl rfl rfl (by decide) rfl (by decide) rfl rfl ?_
  refine x_iload (pc' := 5) rfl rfl rfl ?_
  refine x_iload (pc' := 6) rfl rfl rfl ?_
  refine x_iast (pc' := 7) rfl rfl (by decide) rfl (by decide) (show _ < 12 by omega) ?_
  refine x_aload (pc' := 8) rfl rfl rfl ?_
  refine x_getR (pc' := 11) rfl rfl rfl (by decide) rfl (by decide) rfl rfl ?_
  refine x_iload (pc' := 12) rfl rfl rfl ?_
  refine x_iload (pc' := 13) rfl rfl rfl ?_
  refine x_iast (pc' := 14) rfl rfl (by decide) rfl (by decide) (show _ < 12 by omega) ?_
  refine x_aload (pc' := 15) rfl rfl rfl ?_
  refine x_getR (pc' := 18) rfl rfl rfl (by decide) rfl (by decide) rfl rfl ?_
  refine x_iload (pc' := 19) rfl rfl rfl ?_
  refine x_iload (pc' := 21) rfl rfl rfl ?_
  refine x_iast (pc' := 22) rfl rfl (by decide) rfl (by decide) (show _ < 12 by omega) ?_
  refine x_vret rfl rfl ?_
  exact k1
set_option maxRecDepth 20000 in
set_option maxHeartbeats 1000000 in
theorem w14_addWriter {D : Nat → Nat → Int32} {L : Nat → Nat → Int64} {Q : bh_Q} {tp : List Nat} {w v : Nat} (hw0 : D 14 0 = nI w) (hw : w < 12) (k1 : ∀ D', OT D D' → (∀ a f, TS D tp a f → TS D' tp a f) → tvt D' 14 = awS (tvt D 14) w v → D' 27 = D 27 → Q none (hp D' L)) : bh_wc 2 m_X7_addWriter [.ref 14, .int (nI v)] (hp D L) Q := by
  refine x_start (lv0 := [_, _]) (Nat.le_of_ble_eq_true rfl) rfl ?_
  refine x_aload (pc' := 1) rfl rfl rfl ?_
  refine x_getR (pc' := 4) rfl rfl rfl (by decide) rfl (by decide) rfl rfl ?_
  refine x_aload (pc' := 5) rfl rfl rfl ?_
  refine x_getI (j := 0) (pc' := 8) rfl rfl rfl (by decide) rfl (by decide) rfl rfl ?_
  refine x_top (hw0) ?_
  refine x_iload (pc' := 9) rfl rfl rfl ?_
  refine x_iast (pc' := 10) rfl rfl (by decide) rfl (by decide) (show _ < 12 by omega) ?_
  refine x_aload (pc' := 11) rfl rfl rfl ?_
  refine x_aload (pc' := 12) rfl rfl rfl ?_
  refine x_getI (j := 0) (pc' := 15) rfl rfl rfl (by decide) rfl (by decide) rfl rfl ?_
  refine x_top (hw0) ?_
  refine x_int (pc' := 16) (v := nI 0) rfl rfl rfl ?_
  refine x_int (pc' := 17) (v := nI 0) rfl rfl rfl ?_
  refine x_int (pc' := 18) (v := nI 0) rfl rfl rfl ?_
  refine x_callV (pc' := 21) (d1 := 1) (Bs := [_, _, _, _]) rfl rfl rfl rfl rfl rfl rfl (Nat.le_of_ble_eq_true rfl) ⟨rfl, rfl⟩ (by decide) rfl (by decide) ?_
  refine w14_setHabit hw ?_
  refine ⟨rfl, ?_⟩
  refine x_aload (pc' := 22) rfl rfl rfl ?_
  refine x_getR (pc' := 25) rfl rfl rfl (by decide) rfl (by decide) rfl rfl ?_
  refine x_aload (pc' := 26) rfl rfl rfl ?_
  refine x_getI (j := 0) (pc' := 29) rfl rfl rfl (by decide) rfl (by decide) rfl rfl ?_
  refine x_top (hw0) ?_
  refine x_int (pc' := 30) (v := (-1)) rfl rfl rfl ?_
  refine x_iast (pc' := 31) rfl rfl (by decide) rfl (by decide) (show _ < 12 by omega) ?_
  refine x_aload (pc' := 32) rfl rfl rfl ?_
  refine x_getR (pc' := 35) rfl rfl rfl (by decide) rfl (by decide) rfl rfl ?_
  refine x_aload (pc' := 36) rfl rfl rfl ?_
  refine x_getI (j := 0) (pc' := 39) rfl rfl rfl (by decide) rfl (by decide) rfl rfl ?_
  refine x_top (hw0) ?_
  refine x_int (pc' := 40) (v := nI 0) rfl rfl rfl ?_
  refine x_iast (pc' := 41) rfl rfl (by decide) rfl (by decide) (show _ < 12 by omega) ?_
  refine x_aload (pc' := 42) rfl rfl rfl ?_
  refine x_getR (pc' := 45) rfl rfl rfl (by decide) rfl (by decide) rfl rfl ?_
  refine x_aload (pc' := 46) rfl rfl rfl ?_
  refine x_getI (j := 0) (pc' := 49) rfl rfl rfl (by decide) rfl (by decide) rfl rfl ?_
  refine x_top (hw0) ?_
  refine x_int (pc' := 50) (v := nI 0) rfl rfl rfl ?_
  refine x_iast (pc' := 51) rfl rfl (by decide) rfl (by decide) (show _ < 12 by omega) ?_
  refine x_aload (pc' := 52) rfl rfl rfl ?_
  refine x_getR (pc' := 55) rfl rfl rfl (by decide) rfl (by decide) rfl rfl ?_
  refine x_aload (pc' := 56) rfl rfl rfl ?_
  refine x_getI (j := 0) (pc' := 59) rfl rfl rfl (by decide) rfl (by decide) rfl rfl ?_
  refine x_top (hw0) ?_
  refine x_int (pc' := 60) (v := nI 0) rfl rfl rfl ?_
  refine x_iast (pc' := 61) rfl rfl (by decide) rfl (by decide) (show _ < 12 by omega) ?_
  refine x_aload (pc' := 62) rfl rfl rfl ?_
  refine x_dup (pc' := 63) rfl rfl rfl ?_
  refine x_getI (j := 0) (pc' := 66) rfl rfl rfl (by decide) rfl (by decide) rfl rfl ?_
  refine x_top (hw0) ?_
  refine x_int (pc' := 67) (v := nI 1) rfl rfl rfl ?_
  refine y_iadd (pc' := 68) rfl rfl ?_
  refine x_putI (j := 0) (pc' := 71) rfl rfl rfl (by decide) rfl (by decide) rfl rfl ?_
  refine x_vret rfl rfl ?_
  refine k1 _ ?_ ?_ ?_ rfl
  · intro i h1 h2; repeat rw [bh_up2_ne _ _ _ (by omega)]
  · intro a f h; exact ((((((((h.u (by decide) (by decide)).u (by decide) (by decide)).u (by decide) (by decide)).u (by decide) (by decide)).u (by decide) (by decide)).u (by decide) (by decide)).u (by decide) (by decide)).u (by decide) (by decide)).u (by decide) (by decide)
  · rw [tvt_up (j := 0) rfl (by decide), tvt_up (j := 8) rfl (by decide), tvt_up (j := 7) rfl (by decide), tvt_up (j := 6) rfl (by decide), tvt_up (j := 5) rfl (by decide), tvt_up (j := 4) rfl (by decide), tvt_up (j := 3) rfl (by decide), tvt_up (j := 2) rfl (by decide), tvt_up (j := 1) rfl (by decide)]; rfl
set_option maxRecDepth 20000 in
set_option maxHeartbeats 1000000 in
theorem w14_addBook {D : Nat → Nat → Int32} {L : Nat → Nat → Int64} {Q : bh_Q} {tp : List Nat} {b : Nat} (hb0 : D 14 1 = nI b) (hb : b < 4) (k1 : ∀ D', OT D D' → (∀ a f, TS D tp a f → TS D' tp a f) → tvt D' 14 = abS (tvt D 14) b → D' 27 = D 27 → Q none (hp D' L)) : bh_wc 1 m_X7_addBook [.ref 14] (hp D L) Q := by
  refine x_start (lv0 := [_]) (Nat.le_of_ble_eq_true rfl) rfl ?_
  refine x_aload (pc' := 1) rfl rfl rfl ?_
  refine x_getR (pc' := 4) rfl rfl rfl (by decide) rfl (by decide) rfl rfl ?_
  refine x_aload (pc' := 5) rfl rfl rfl ?_
  refine x_getI (j := 1) (pc' := 8) rfl rfl rfl (by decide) rfl (by decide) rfl rfl ?_
  refine x_top (hb0) ?_
  refine x_int (pc' := 9) (v := nI 0) rfl rfl rfl ?_
  refine x_iast (pc' := 10) rfl rfl (by decide) rfl (by decide) (show _ < 4 by omega) ?_
  refine x_aload (pc' := 11) rfl rfl rfl ?_
  refine x_dup (pc' := 12) rfl rfl rfl ?_
  refine x_getI (j := 1) (pc' := 15) rfl rfl rfl (by decide) rfl (by decide) rfl rfl ?_
  refine x_top (hb0) ?_
  refine x_int (pc' := 16) (v := nI 1) rfl rfl rfl ?_
  refine y_iadd (pc' := 17) rfl rfl ?_
  refine x_putI (j := 1) (pc' := 20) rfl rfl rfl (by decide) rfl (by decide) rfl rfl ?_
  refine x_vret rfl rfl ?_
  refine k1 _ ?_ ?_ ?_ rfl
  · intro i h1 h2; repeat rw [bh_up2_ne _ _ _ (by omega)]
  · intro a f h; exact (h.u (by decide) (by decide)).u (by decide) (by decide)
  · rw [tvt_up (j := 0) rfl (by decide), tvt_up (j := 9) rfl (by decide)]; rfl
set_option maxRecDepth 20000 in
set_option maxHeartbeats 1000000 in
theorem w14_addPage {D : Nat → Nat → Int32} {L : Nat → Nat → Int64} {Q : bh_Q} {tp : List Nat} {b m v : Nat} (hb0 : D 14 1 = nI (b + 1)) (hb : b < 4) (hm0 : D 23 b = nI m) (hm : m < 8) (k1 : ∀ D', OT D D' → (∀ a f, TS D tp a f → TS D' tp a f) → tvt D' 14 = apS (tvt D 14) b m v → D' 27 = D 27 → Q none (hp D' L)) : bh_wc 1 m_X7_addPage [.ref 14, .int (nI v)] (hp D L) Q := by
  refine x_start (lv0 := [_, _, _]) (Nat.le_of_ble_eq_true rfl) rfl ?_
  refine x_aload (pc' := 1) rfl rfl rfl ?_
  refine x_getI (j := 1) (pc' := 4) rfl rfl rfl (by decide) rfl (by decide) rfl rfl ?_
  refine x_top (hb0) ?_
  refine x_int (pc' := 5) (v := nI 1) rfl rfl rfl ?_
  refine y_isub (pc' := 6) rfl rfl (by omega) ?_
  refine x_istore (pc' := 7) (lv' := [_, _, _]) rfl rfl (by decide) rfl ?_
  refine x_aload (pc' := 8) rfl rfl rfl ?_
  refine x_getR (pc' := 11) rfl rfl rfl (by decide) rfl (by decide) rfl rfl ?_
  refine x_iload (pc' := 12) rfl rfl rfl ?_
  refine x_int (pc' := 14) (v := nI 8) rfl rfl rfl ?_
  refine y_imul (pc' := 15) rfl rfl ?_
  refine x_aload (pc' := 16) rfl rfl rfl ?_
  refine x_getR (pc' := 19) rfl rfl rfl (by decide) rfl (by decide) rfl rfl ?_
  refine x_iload (pc' := 20) rfl rfl rfl ?_
  refine x_iald (pc' := 21) rfl rfl (by decide) rfl (by decide) (show _ < 4 by omega) ?_
  refine x_top (hm0) ?_
  refine y_iadd (pc' := 22) rfl rfl ?_
  refine x_iload (pc' := 23) rfl rfl rfl ?_
  refine x_iast (pc' := 24) rfl rfl (by decide) rfl (by decide) (show _ < 32 by omega) ?_
  refine x_aload (pc' := 25) rfl rfl rfl ?_
  refine x_getR (pc' := 28) rfl rfl rfl (by decide) rfl (by decide) rfl rfl ?_
  refine x_iload (pc' := 29) rfl rfl rfl ?_
  refine x_dup2 (pc' := 30) rfl rfl rfl rfl ?_
  refine x_iald (pc' := 31) rfl rfl (by decide) rfl (by decide) (show _ < 4 by omega) ?_
  refine x_top (hm0) ?_
  refine x_int (pc' := 32) (v := nI 1) rfl rfl rfl ?_
  refine y_iadd (pc' := 33) rfl rfl ?_
  refine x_iast (pc' := 34) rfl rfl (by decide) rfl (by decide) (show _ < 4 by omega) ?_
  refine x_vret rfl rfl ?_
  refine k1 _ ?_ ?_ ?_ rfl
  · intro i h1 h2; repeat rw [bh_up2_ne _ _ _ (by omega)]
  · intro a f h; exact (h.u (by decide) (by decide)).u (by decide) (by decide)
  · rw [tvt_up (j := 9) rfl (by decide), tvt_up (j := 10) rfl (by decide)]; rfl
set_option maxRecDepth 20000 in
set_option maxHeartbeats 1000000 in
theorem w_X6_readHabit {D : Nat → Nat → Int32} {L : Nat → Nat → Int64} {Q : bh_Q} {tp : List Nat} {a w : Nat} (h : TS D tp a 0) (hw : w < 12) (k1 : (pHab tp a).1 = 0 → ∀ D', OT D D' → TS D' tp (pHab tp a).2.2.2.2 0 → tvt D' 14 = shS (tvt D 14) w (pHab tp a).2.1 (pHab tp a).2.2.1 (pHab tp a).2.2.2.1 → Q (some (.int 1)) (hp D' L)) (k0 : ¬ (pHab tp a).1 = 0 → ∀ D', FL D D' tp (pHab tp a).1 → Q (some (.int 0)) (hp D' L)) : bh_wc 3 m_X6_readHabit [.ref 27, .ref 14, .int (nI w)] (hp D L) Q := by
  refine x_start (lv0 := [_, _, _, _, _, _]) (Nat.le_of_ble_eq_true rfl) rfl ?_
  have h4 := h.l4
  have ha := h.2.2.1
  have hskl := skp_le (p := isBk) ha
  have hel := skp_le (p := isLt) hskl
  have hn2 := nE_le (tp := tp) hel
  have hs3 := nS_le (tp := tp) hn2
  refine x_aload (pc' := 1) rfl rfl rfl ?_
  refine x_callV (pc' := 4) (d1 := 2) (Bs := []) rfl rfl rfl rfl rfl rfl rfl (Nat.le_of_ble_eq_true rfl) ⟨rfl, rfl⟩ (by decide) rfl (by decide) ?_
  refine w_X6_readWord h (fun D1 o1 h1 e1 => ?_)
  have hsl := skp_ge (p := isLt) (tp := tp) (skp isBk tp a)
  refine ⟨rfl, ?_⟩
  refine x_aload (pc' := 5) rfl rfl rfl ?_
  refine x_callV (pc' := 8) (d1 := 2) (Bs := []) rfl rfl rfl rfl rfl rfl rfl (Nat.le_of_ble_eq_true rfl) ⟨rfl, rfl⟩ (by decide) rfl (by decide) ?_
  refine w_X6_kindOfWord h1 e1 hsl ?_
  rcases hk : kw tp (skp isBk tp a) (skp isLt tp (skp isBk tp a)) with _ | k
  · refine ⟨rfl, ?_⟩
    refine x_istore (pc' := 9) (lv' := [_, _, _, _, _, _]) rfl rfl (by decide) rfl ?_
    refine x_iload (pc' := 10) rfl rfl rfl ?_
    refine x_int (pc' := 11) (v := (-1)) rfl rfl rfl ?_
    refine x_ic_ne (pc' := 14) rfl rfl (fun c11 => absurd (by decide) c11) (fun _ => ?_)
    refine x_aload (pc' := 15) rfl rfl rfl ?_
    refine x_aload (pc' := 16) rfl rfl rfl ?_
    refine x_getI (j := 3) (pc' := 19) rfl rfl rfl (by decide) rfl (by decide) rfl rfl ?_
    refine x_top (e1) ?_
    refine x_int (pc' := 20) (v := nI 1) rfl rfl rfl ?_
    refine x_callV (pc' := 23) (d1 := 1) (Bs := [_, _]) rfl rfl rfl rfl rfl rfl rfl (Nat.le_of_ble_eq_true rfl) ⟨rfl, rfl⟩ (by decide) rfl (by decide) ?_
    refine w_X6_refuse h1 (by omega) (by decide) (fun D9 o9 e9 h9 => ?_)
    refine ⟨rfl, ?_⟩
    refine x_zret rfl rfl (by decide) ?_
    rw [pHab_n hk] at k0
    exact k0 (by show ¬ 8 * _ + 1 = 0; omega) D9 (h9.fl (o1.tr o9).ot)
  · refine ⟨rfl, ?_⟩
    have hk7 := kw_lt hk
    have hsg : sg k < 3 := by unfold sg; split; decide; split <;> decide
    refine x_istore (pc' := 9) (lv' := [_, _, _, _, _, _]) rfl rfl (by decide) rfl ?_
    refine x_iload (pc' := 10) rfl rfl rfl ?_
    refine x_int (pc' := 11) (v := (-1)) rfl rfl rfl ?_
    refine x_ic_ne (pc' := 14) rfl rfl (fun c11 => ?_) (fun c11 => ?_)
    · refine x_int (pc' := 25) (v := nI 0) rfl rfl rfl ?_
      refine x_istore (pc' := 27) (lv' := [_, _, _, _, _, _]) rfl rfl (by decide) rfl ?_
      refine x_int (pc' := 28) (v := nI 0) rfl rfl rfl ?_
      refine x_istore (pc' := 30) (lv' := [_, _, _, _, _, _]) rfl rfl (by decide) rfl ?_
      refine x_iload (pc' := 31) rfl rfl rfl ?_
      refine x_callS (pc' := 34) (d1 := 1) (As := [_]) rfl rfl rfl rfl (by decide) rfl rfl (Nat.le_of_ble_eq_true rfl) ⟨rfl, rfl⟩ (by decide) ?_
      refine w_X1_signsOf hk7 ?_
      refine ⟨rfl, ?_⟩
      refine y_if_le (pc' := 37) rfl rfl (by first | omega) (fun c34 => ?_) (fun c34 => ?_)
      · refine x_aload (pc' := 56) rfl rfl rfl ?_
        refine x_getI (j := 4) (pc' := 59) rfl rfl rfl (by decide) rfl (by decide) rfl rfl ?_
        refine x_top (h1.ft) ?_
        refine y_if_ne (pc' := 62) rfl rfl (by first | omega) (fun c59 => ?_) (fun c59 => ?_)
        · exact absurd rfl c59
        · refine x_iload (pc' := 63) rfl rfl rfl ?_
          refine x_callS (pc' := 66) (d1 := 1) (As := [_]) rfl rfl rfl rfl (by decide) rfl rfl (Nat.le_of_ble_eq_true rfl) ⟨rfl, rfl⟩ (by decide) ?_
          refine w_X1_signsOf hk7 ?_
          refine ⟨rfl, ?_⟩
          refine x_int (pc' := 67) (v := nI 1) rfl rfl rfl ?_
          refine y_ic_le (pc' := 70) rfl rfl (by first | omega) (by first | omega) (fun c67 => ?_) (fun c67 => ?_)
          · refine x_aload (pc' := 104) rfl rfl rfl ?_
            refine x_iload (pc' := 105) rfl rfl rfl ?_
            refine x_iload (pc' := 106) rfl rfl rfl ?_
            refine x_iload (pc' := 108) rfl rfl rfl ?_
            refine x_iload (pc' := 110) rfl rfl rfl ?_
            refine x_callV (pc' := 113) (d1 := 1) (Bs := [_, _, _, _]) rfl rfl rfl rfl rfl rfl rfl (Nat.le_of_ble_eq_true rfl) ⟨rfl, rfl⟩ (by decide) rfl (by decide) ?_
            refine w14_setHabit hw ?_
            refine ⟨rfl, ?_⟩
            refine x_aload (pc' := 114) rfl rfl rfl ?_
            refine x_getI (j := 4) (pc' := 117) rfl rfl rfl (by decide) rfl (by decide) rfl rfl ?_
            refine x_top (h1.ft) ?_
            refine y_if_ne (pc' := 120) rfl rfl (by first | omega) (fun c117 => ?_) (fun c117 => ?_)
            · exact absurd rfl c117
            · refine x_int (pc' := 121) (v := nI 1) rfl rfl rfl ?_
              refine x_goto rfl ?_
              refine x_zret rfl rfl (by decide) ?_
              have e : pHab tp a = (0, k, 0, 0, (skp isLt tp (skp isBk tp a))) := by rw [pHab_s hk]; exact if_pos c34
              rw [e] at k1
              exact k1 rfl _ (((o1.ot.tr (OT.up (by decide) (by decide))).tr (OT.up (by decide) (by decide))).tr (OT.up (by decide) (by decide))) (((h1.u (by decide) (by decide)).u (by decide) (by decide)).u (by decide) (by decide)) (by rw [tvt_up (j := 4) rfl (by decide), tvt_up (j := 3) rfl (by decide), tvt_up (j := 2) rfl (by decide), o1.t]; rfl)
          · exfalso; omega
      · refine x_aload (pc' := 38) rfl rfl rfl ?_
        refine x_iload (pc' := 39) rfl rfl rfl ?_
        refine x_int (pc' := 40) (v := nI 4) rfl rfl rfl ?_
        refine y_ic_ne (pc' := 43) rfl rfl (by first | omega) (by first | omega) (fun c40 => ?_) (fun c40 => ?_)
        · refine x_int (pc' := 48) (v := nI 0) rfl rfl rfl ?_
          refine x_int (pc' := 50) (v := nI 15) rfl rfl rfl ?_
          refine x_callV (pc' := 53) (d1 := 2) (Bs := [_, _]) rfl rfl rfl rfl rfl rfl rfl (Nat.le_of_ble_eq_true rfl) ⟨rfl, rfl⟩ (by decide) rfl (by decide) ?_
          refine w_X6_readNumber (lo := 0) (hi := 16) h1 (by decide) (by decide) (by decide) (fun D2 x2 o2 h2 e2 v2 b2 => ?_)
          refine ⟨rfl, ?_⟩
          have hlo : lo4 k = 0 := if_neg c40
          have h2 : TS D2 tp (nE tp (skp isLt tp (skp isBk tp a))) (nF tp (lo4 k) 16 (skp isLt tp (skp isBk tp a))) := by rw [hlo]; exact h2
          have v2 : nF tp (lo4 k) 16 (skp isLt tp (skp isBk tp a)) = 0 → x2 = nI (nV tp (skp isLt tp (skp isBk tp a))) := by rw [hlo]; exact v2
          have efl2 := h2.2.2.2.2
          refine x_istore (pc' := 55) (lv' := [_, _, _, _, _, _]) rfl rfl (by decide) rfl ?_
          refine x_aload (pc' := 56) rfl rfl rfl ?_
          refine x_getI (j := 4) (pc' := 59) rfl rfl rfl (by decide) rfl (by decide) rfl rfl ?_
          refine x_top (h2.ft) ?_
          refine y_if_ne (pc' := 62) rfl rfl (by first | omega) (fun c59 => ?_) (fun c59 => ?_)
          · refine x_aload (pc' := 104) rfl rfl rfl ?_
            refine x_iload (pc' := 105) rfl rfl rfl ?_
            refine x_iload (pc' := 106) rfl rfl rfl ?_
            refine x_iload (pc' := 108) rfl rfl rfl ?_
            refine x_iload (pc' := 110) rfl rfl rfl ?_
            refine x_callV (pc' := 113) (d1 := 1) (Bs := [_, _, _, _]) rfl rfl rfl rfl rfl rfl rfl (Nat.le_of_ble_eq_true rfl) ⟨rfl, rfl⟩ (by decide) rfl (by decide) ?_
            refine w14_setHabit hw ?_
            refine ⟨rfl, ?_⟩
            refine x_aload (pc' := 114) rfl rfl rfl ?_
            refine x_getI (j := 4) (pc' := 117) rfl rfl rfl (by decide) rfl (by decide) rfl rfl ?_
            refine x_top (h2.ft) ?_
            refine y_if_ne (pc' := 120) rfl rfl (by first | omega) (fun c117 => ?_) (fun c117 => ?_)
            · refine x_int (pc' := 125) (v := nI 0) rfl rfl rfl ?_
              refine x_zret rfl rfl (by decide) ?_
              have e : pHab tp a = (nF tp (lo4 k) 16 (skp isLt tp (skp isBk tp a)), 0, 0, 0, 0) := by rw [pHab_s hk]; unfold hab2; rw [if_neg (show ¬ sg k = 0 by omega), if_pos c59]
              rw [e] at k0
              exact k0 c59 _ (TS.fl (((h2.u (by decide) (by decide)).u (by decide) (by decide)).u (by decide) (by decide)) ((((o1.tr o2).ot.tr (OT.up (by decide) (by decide))).tr (OT.up (by decide) (by decide))).tr (OT.up (by decide) (by decide))))
            · exact absurd c117 c59
          · refine x_iload (pc' := 63) rfl rfl rfl ?_
            refine x_callS (pc' := 66) (d1 := 1) (As := [_]) rfl rfl rfl rfl (by decide) rfl rfl (Nat.le_of_ble_eq_true rfl) ⟨rfl, rfl⟩ (by decide) ?_
            refine w_X1_signsOf hk7 ?_
            refine ⟨rfl, ?_⟩
            refine x_int (pc' := 67) (v := nI 1) rfl rfl rfl ?_
            refine y_ic_le (pc' := 70) rfl rfl (by first | omega) (by first | omega) (fun c67 => ?_) (fun c67 => ?_)
            · refine x_aload (pc' := 104) rfl rfl rfl ?_
              refine x_iload (pc' := 105) rfl rfl rfl ?_
              refine x_iload (pc' := 106) rfl rfl rfl ?_
              refine x_iload (pc' := 108) rfl rfl rfl ?_
              refine x_iload (pc' := 110) rfl rfl rfl ?_
              refine x_callV (pc' := 113) (d1 := 1) (Bs := [_, _, _, _]) rfl rfl rfl rfl rfl rfl rfl (Nat.le_of_ble_eq_true rfl) ⟨rfl, rfl⟩ (by decide) rfl (by decide) ?_
              refine w14_setHabit hw ?_
              refine ⟨rfl, ?_⟩
              refine x_aload (pc' := 114) rfl rfl rfl ?_
              refine x_getI (j := 4) (pc' := 117) rfl rfl rfl (by decide) rfl (by decide) rfl rfl ?_
              refine x_top (h2.ft) ?_
              refine y_if_ne (pc' := 120) rfl rfl (by first | omega) (fun c117 => ?_) (fun c117 => ?_)
              · exact absurd c59 c117
              · refine x_int (pc' := 121) (v := nI 1) rfl rfl rfl ?_
                refine x_goto rfl ?_
                refine x_zret rfl rfl (by decide) ?_
                have hx2 := v2 c59
                subst hx2
                have e : pHab tp a = (0, k, nV tp (skp isLt tp (skp isBk tp a)), 0, nE tp (skp isLt tp (skp isBk tp a))) := by rw [pHab_s hk]; unfold hab2; rw [if_neg (show ¬ sg k = 0 by omega), if_neg (fun z => z c59), if_pos (show sg k = 1 by omega)]
                rw [e] at k1
                rw [c59] at h2
                exact k1 rfl _ ((((o1.tr o2).ot.tr (OT.up (by decide) (by decide))).tr (OT.up (by decide) (by decide))).tr (OT.up (by decide) (by decide))) (((h2.u (by decide) (by decide)).u (by decide) (by decide)).u (by decide) (by decide)) (by rw [tvt_up (j := 4) rfl (by decide), tvt_up (j := 3) rfl (by decide), tvt_up (j := 2) rfl (by decide), o2.t, o1.t]; rfl)
            · refine x_aload (pc' := 71) rfl rfl rfl ?_
              refine x_int (pc' := 72) (v := nI 0) rfl rfl rfl ?_
              refine x_int (pc' := 74) (v := nI 15) rfl rfl rfl ?_
              refine x_callV (pc' := 77) (d1 := 2) (Bs := [_, _]) rfl rfl rfl rfl rfl rfl rfl (Nat.le_of_ble_eq_true rfl) ⟨rfl, rfl⟩ (by decide) rfl (by decide) ?_
              refine w_X6_readNumber (lo := 0) (hi := 16) (show TS D2 tp (nE tp (skp isLt tp (skp isBk tp a))) 0 by rw [c59] at h2; exact h2) (by decide) (by decide) (by decide) (fun D3 x3 o3 h3 e3 v3 b3 => ?_)
              refine ⟨rfl, ?_⟩
              have efl3 := h3.2.2.2.2
              refine x_istore (pc' := 79) (lv' := [_, _, _, _, _, _]) rfl rfl (by decide) rfl ?_
              refine x_aload (pc' := 80) rfl rfl rfl ?_
              refine x_getI (j := 4) (pc' := 83) rfl rfl rfl (by decide) rfl (by decide) rfl rfl ?_
              refine x_top (h3.ft) ?_
              refine y_if_ne (pc' := 86) rfl rfl (by first | omega) (fun c83 => ?_) (fun c83 => ?_)
              · refine x_aload (pc' := 104) rfl rfl rfl ?_
                refine x_iload (pc' := 105) rfl rfl rfl ?_
                refine x_iload (pc' := 106) rfl rfl rfl ?_
                refine x_iload (pc' := 108) rfl rfl rfl ?_
                refine x_iload (pc' := 110) rfl rfl rfl ?_
                refine x_callV (pc' := 113) (d1 := 1) (Bs := [_, _, _, _]) rfl rfl rfl rfl rfl rfl rfl (Nat.le_of_ble_eq_true rfl) ⟨rfl, rfl⟩ (by decide) rfl (by decide) ?_
                refine w14_setHabit hw ?_
                refine ⟨rfl, ?_⟩
                refine x_aload (pc' := 114) rfl rfl rfl ?_
                refine x_getI (j := 4) (pc' := 117) rfl rfl rfl (by decide) rfl (by decide) rfl rfl ?_
                refine x_top (h3.ft) ?_
                refine y_if_ne (pc' := 120) rfl rfl (by first | omega) (fun c117 => ?_) (fun c117 => ?_)
                · refine x_int (pc' := 125) (v := nI 0) rfl rfl rfl ?_
                  refine x_zret rfl rfl (by decide) ?_
                  have e : pHab tp a = (nF tp 0 16 (nE tp (skp isLt tp (skp isBk tp a))), 0, 0, 0, 0) := by rw [pHab_s hk]; unfold hab2; rw [if_neg (show ¬ sg k = 0 by omega), if_neg (fun z => z c59), if_neg (show ¬ sg k = 1 by omega), if_pos c83]
                  rw [e] at k0
                  exact k0 c83 _ (TS.fl (((h3.u (by decide) (by decide)).u (by decide) (by decide)).u (by decide) (by decide)) (((((o1.tr o2).tr o3).ot.tr (OT.up (by decide) (by decide))).tr (OT.up (by decide) (by decide))).tr (OT.up (by decide) (by decide))))
                · exact absurd c117 c83
              · have hx2 := v2 c59
                have hx3 := v3 c83
                subst hx2; subst hx3
                have hi2 := nF_in c59
                have hi3 := nF_in c83
                refine x_iload (pc' := 88) rfl rfl rfl ?_
                refine x_iload (pc' := 90) rfl rfl rfl ?_
                refine y_ic_ne (pc' := 93) rfl rfl (by first | omega) (by first | omega) (fun c90 => ?_) (fun c90 => ?_)
                · refine x_aload (pc' := 104) rfl rfl rfl ?_
                  refine x_iload (pc' := 105) rfl rfl rfl ?_
                  refine x_iload (pc' := 106) rfl rfl rfl ?_
                  refine x_iload (pc' := 108) rfl rfl rfl ?_
                  refine x_iload (pc' := 110) rfl rfl rfl ?_
                  refine x_callV (pc' := 113) (d1 := 1) (Bs := [_, _, _, _]) rfl rfl rfl rfl rfl rfl rfl (Nat.le_of_ble_eq_true rfl) ⟨rfl, rfl⟩ (by decide) rfl (by decide) ?_
                  refine w14_setHabit hw ?_
                  refine ⟨rfl, ?_⟩
                  refine x_aload (pc' := 114) rfl rfl rfl ?_
                  refine x_getI (j := 4) (pc' := 117) rfl rfl rfl (by decide) rfl (by decide) rfl rfl ?_
                  refine x_top (h3.ft) ?_
                  refine y_if_ne (pc' := 120) rfl rfl (by first | omega) (fun c117 => ?_) (fun c117 => ?_)
                  · exact absurd c83 c117
                  · refine x_int (pc' := 121) (v := nI 1) rfl rfl rfl ?_
                    refine x_goto rfl ?_
                    refine x_zret rfl rfl (by decide) ?_
                    have e : pHab tp a = (0, k, nV tp (skp isLt tp (skp isBk tp a)), nV tp (nE tp (skp isLt tp (skp isBk tp a))), nE tp (nE tp (skp isLt tp (skp isBk tp a)))) := by rw [pHab_s hk]; unfold hab2; rw [if_neg (show ¬ sg k = 0 by omega), if_neg (fun z => z c59), if_neg (show ¬ sg k = 1 by omega), if_neg (fun z => z c83), if_neg c90]
                    rw [e] at k1
                    rw [c83] at h3
                    exact k1 rfl _ (((((o1.tr o2).tr o3).ot.tr (OT.up (by decide) (by decide))).tr (OT.up (by decide) (by decide))).tr (OT.up (by decide) (by decide))) (((h3.u (by decide) (by decide)).u (by decide) (by decide)).u (by decide) (by decide)) (by rw [tvt_up (j := 4) rfl (by decide), tvt_up (j := 3) rfl (by decide), tvt_up (j := 2) rfl (by decide), o3.t, o2.t, o1.t]; rfl)
                · refine x_aload (pc' := 94) rfl rfl rfl ?_
                  refine x_aload (pc' := 95) rfl rfl rfl ?_
                  refine x_getI (j := 3) (pc' := 98) rfl rfl rfl (by decide) rfl (by decide) rfl rfl ?_
                  refine x_top (e3) ?_
                  refine x_int (pc' := 99) (v := nI 2) rfl rfl rfl ?_
                  refine x_callV (pc' := 102) (d1 := 1) (Bs := [_, _]) rfl rfl rfl rfl rfl rfl rfl (Nat.le_of_ble_eq_true rfl) ⟨rfl, rfl⟩ (by decide) rfl (by decide) ?_
                  refine w_X6_refuse h3 (by omega) (by decide) (fun D9 o9 e9 h9 => ?_)
                  refine ⟨rfl, ?_⟩
                  refine x_pop (pc' := 103) rfl rfl rfl ?_
                  refine x_aload (pc' := 104) rfl rfl rfl ?_
                  refine x_iload (pc' := 105) rfl rfl rfl ?_
                  refine x_iload (pc' := 106) rfl rfl rfl ?_
                  refine x_iload (pc' := 108) rfl rfl rfl ?_
                  refine x_iload (pc' := 110) rfl rfl rfl ?_
                  refine x_callV (pc' := 113) (d1 := 1) (Bs := [_, _, _, _]) rfl rfl rfl rfl rfl rfl rfl (Nat.le_of_ble_eq_true rfl) ⟨rfl, rfl⟩ (by decide) rfl (by decide) ?_
                  refine w14_setHabit hw ?_
                  refine ⟨rfl, ?_⟩
                  refine x_aload (pc' := 114) rfl rfl rfl ?_
                  refine x_getI (j := 4) (pc' := 117) rfl rfl rfl (by decide) rfl (by decide) rfl rfl ?_
                  refine x_top (h9.ft) ?_
                  refine y_if_ne (pc' := 120) rfl rfl (by first | omega) (fun c117 => ?_) (fun c117 => ?_)
                  · refine x_int (pc' := 125) (v := nI 0) rfl rfl rfl ?_
                    refine x_zret rfl rfl (by decide) ?_
                    have e : pHab tp a = (8 * nS tp (nE tp (skp isLt tp (skp isBk tp a))) + 2, 0, 0, 0, 0) := by rw [pHab_s hk]; unfold hab2; rw [if_neg (show ¬ sg k = 0 by omega), if_neg (fun z => z c59), if_neg (show ¬ sg k = 1 by omega), if_neg (fun z => z c83), if_pos c90]
                    rw [e] at k0
                    exact k0 (by show ¬ 8 * _ + 2 = 0; omega) _ (TS.fl (((h9.u (by decide) (by decide)).u (by decide) (by decide)).u (by decide) (by decide)) ((((((o1.tr o2).tr o3).tr o9).ot.tr (OT.up (by decide) (by decide))).tr (OT.up (by decide) (by decide))).tr (OT.up (by decide) (by decide))))
                  · exact absurd c117 (by omega)
        · refine x_int (pc' := 44) (v := nI 1) rfl rfl rfl ?_
          refine x_goto rfl ?_
          refine x_int (pc' := 50) (v := nI 15) rfl rfl rfl ?_
          refine x_callV (pc' := 53) (d1 := 2) (Bs := [_, _]) rfl rfl rfl rfl rfl rfl rfl (Nat.le_of_ble_eq_true rfl) ⟨rfl, rfl⟩ (by decide) rfl (by decide) ?_
          refine w_X6_readNumber (lo := 1) (hi := 16) h1 (by decide) (by decide) (by decide) (fun D2 x2 o2 h2 e2 v2 b2 => ?_)
          refine ⟨rfl, ?_⟩
          have hlo : lo4 k = 1 := if_pos c40
          have h2 : TS D2 tp (nE tp (skp isLt tp (skp isBk tp a))) (nF tp (lo4 k) 16 (skp isLt tp (skp isBk tp a))) := by rw [hlo]; exact h2
          have v2 : nF tp (lo4 k) 16 (skp isLt tp (skp isBk tp a)) = 0 → x2 = nI (nV tp (skp isLt tp (skp isBk tp a))) := by rw [hlo]; exact v2
          have efl2 := h2.2.2.2.2
          refine x_istore (pc' := 55) (lv' := [_, _, _, _, _, _]) rfl rfl (by decide) rfl ?_
          refine x_aload (pc' := 56) rfl rfl rfl ?_
          refine x_getI (j := 4) (pc' := 59) rfl rfl rfl (by decide) rfl (by decide) rfl rfl ?_
          refine x_top (h2.ft) ?_
          refine y_if_ne (pc' := 62) rfl rfl (by first | omega) (fun c59 => ?_) (fun c59 => ?_)
          · refine x_aload (pc' := 104) rfl rfl rfl ?_
            refine x_iload (pc' := 105) rfl rfl rfl ?_
            refine x_iload (pc' := 106) rfl rfl rfl ?_
            refine x_iload (pc' := 108) rfl rfl rfl ?_
            refine x_iload (pc' := 110) rfl rfl rfl ?_
            refine x_callV (pc' := 113) (d1 := 1) (Bs := [_, _, _, _]) rfl rfl rfl rfl rfl rfl rfl (Nat.le_of_ble_eq_true rfl) ⟨rfl, rfl⟩ (by decide) rfl (by decide) ?_
            refine w14_setHabit hw ?_
            refine ⟨rfl, ?_⟩
            refine x_aload (pc' := 114) rfl rfl rfl ?_
            refine x_getI (j := 4) (pc' := 117) rfl rfl rfl (by decide) rfl (by decide) rfl rfl ?_
            refine x_top (h2.ft) ?_
            refine y_if_ne (pc' := 120) rfl rfl (by first | omega) (fun c117 => ?_) (fun c117 => ?_)
            · refine x_int (pc' := 125) (v := nI 0) rfl rfl rfl ?_
              refine x_zret rfl rfl (by decide) ?_
              have e : pHab tp a = (nF tp (lo4 k) 16 (skp isLt tp (skp isBk tp a)), 0, 0, 0, 0) := by rw [pHab_s hk]; unfold hab2; rw [if_neg (show ¬ sg k = 0 by omega), if_pos c59]
              rw [e] at k0
              exact k0 c59 _ (TS.fl (((h2.u (by decide) (by decide)).u (by decide) (by decide)).u (by decide) (by decide)) ((((o1.tr o2).ot.tr (OT.up (by decide) (by decide))).tr (OT.up (by decide) (by decide))).tr (OT.up (by decide) (by decide))))
            · exact absurd c117 c59
          · refine x_iload (pc' := 63) rfl rfl rfl ?_
            refine x_callS (pc' := 66) (d1 := 1) (As := [_]) rfl rfl rfl rfl (by decide) rfl rfl (Nat.le_of_ble_eq_true rfl) ⟨rfl, rfl⟩ (by decide) ?_
            refine w_X1_signsOf hk7 ?_
            refine ⟨rfl, ?_⟩
            refine x_int (pc' := 67) (v := nI 1) rfl rfl rfl ?_
            refine y_ic_le (pc' := 70) rfl rfl (by first | omega) (by first | omega) (fun c67 => ?_) (fun c67 => ?_)
            · refine x_aload (pc' := 104) rfl rfl rfl ?_
              refine x_iload (pc' := 105) rfl rfl rfl ?_
              refine x_iload (pc' := 106) rfl rfl rfl ?_
              refine x_iload (pc' := 108) rfl rfl rfl ?_
              refine x_iload (pc' := 110) rfl rfl rfl ?_
              refine x_callV (pc' := 113) (d1 := 1) (Bs := [_, _, _, _]) rfl rfl rfl rfl rfl rfl rfl (Nat.le_of_ble_eq_true rfl) ⟨rfl, rfl⟩ (by decide) rfl (by decide) ?_
              refine w14_setHabit hw ?_
              refine ⟨rfl, ?_⟩
              refine x_aload (pc' := 114) rfl rfl rfl ?_
              refine x_getI (j := 4) (pc' := 117) rfl rfl rfl (by decide) rfl (by decide) rfl rfl ?_
              refine x_top (h2.ft) ?_
              refine y_if_ne (pc' := 120) rfl rfl (by first | omega) (fun c117 => ?_) (fun c117 => ?_)
              · exact absurd c59 c117
              · refine x_int (pc' := 121) (v := nI 1) rfl rfl rfl ?_
                refine x_goto rfl ?_
                refine x_zret rfl rfl (by decide) ?_
                have hx2 := v2 c59
                subst hx2
                have e : pHab tp a = (0, k, nV tp (skp isLt tp (skp isBk tp a)), 0, nE tp (skp isLt tp (skp isBk tp a))) := by rw [pHab_s hk]; unfold hab2; rw [if_neg (show ¬ sg k = 0 by omega), if_neg (fun z => z c59), if_pos (show sg k = 1 by omega)]
                rw [e] at k1
                rw [c59] at h2
                exact k1 rfl _ ((((o1.tr o2).ot.tr (OT.up (by decide) (by decide))).tr (OT.up (by decide) (by decide))).tr (OT.up (by decide) (by decide))) (((h2.u (by decide) (by decide)).u (by decide) (by decide)).u (by decide) (by decide)) (by rw [tvt_up (j := 4) rfl (by decide), tvt_up (j := 3) rfl (by decide), tvt_up (j := 2) rfl (by decide), o2.t, o1.t]; rfl)
            · refine x_aload (pc' := 71) rfl rfl rfl ?_
              refine x_int (pc' := 72) (v := nI 0) rfl rfl rfl ?_
              refine x_int (pc' := 74) (v := nI 15) rfl rfl rfl ?_
              refine x_callV (pc' := 77) (d1 := 2) (Bs := [_, _]) rfl rfl rfl rfl rfl rfl rfl (Nat.le_of_ble_eq_true rfl) ⟨rfl, rfl⟩ (by decide) rfl (by decide) ?_
              refine w_X6_readNumber (lo := 0) (hi := 16) (show TS D2 tp (nE tp (skp isLt tp (skp isBk tp a))) 0 by rw [c59] at h2; exact h2) (by decide) (by decide) (by decide) (fun D3 x3 o3 h3 e3 v3 b3 => ?_)
              refine ⟨rfl, ?_⟩
              have efl3 := h3.2.2.2.2
              refine x_istore (pc' := 79) (lv' := [_, _, _, _, _, _]) rfl rfl (by decide) rfl ?_
              refine x_aload (pc' := 80) rfl rfl rfl ?_
              refine x_getI (j := 4) (pc' := 83) rfl rfl rfl (by decide) rfl (by decide) rfl rfl ?_
              refine x_top (h3.ft) ?_
              refine y_if_ne (pc' := 86) rfl rfl (by first | omega) (fun c83 => ?_) (fun c83 => ?_)
              · refine x_aload (pc' := 104) rfl rfl rfl ?_
                refine x_iload (pc' := 105) rfl rfl rfl ?_
                refine x_iload (pc' := 106) rfl rfl rfl ?_
                refine x_iload (pc' := 108) rfl rfl rfl ?_
                refine x_iload (pc' := 110) rfl rfl rfl ?_
                refine x_callV (pc' := 113) (d1 := 1) (Bs := [_, _, _, _]) rfl rfl rfl rfl rfl rfl rfl (Nat.le_of_ble_eq_true rfl) ⟨rfl, rfl⟩ (by decide) rfl (by decide) ?_
                refine w14_setHabit hw ?_
                refine ⟨rfl, ?_⟩
                refine x_aload (pc' := 114) rfl rfl rfl ?_
                refine x_getI (j := 4) (pc' := 117) rfl rfl rfl (by decide) rfl (by decide) rfl rfl ?_
                refine x_top (h3.ft) ?_
                refine y_if_ne (pc' := 120) rfl rfl (by first | omega) (fun c117 => ?_) (fun c117 => ?_)
                · refine x_int (pc' := 125) (v := nI 0) rfl rfl rfl ?_
                  refine x_zret rfl rfl (by decide) ?_
                  have e : pHab tp a = (nF tp 0 16 (nE tp (skp isLt tp (skp isBk tp a))), 0, 0, 0, 0) := by rw [pHab_s hk]; unfold hab2; rw [if_neg (show ¬ sg k = 0 by omega), if_neg (fun z => z c59), if_neg (show ¬ sg k = 1 by omega), if_pos c83]
                  rw [e] at k0
                  exact k0 c83 _ (TS.fl (((h3.u (by decide) (by decide)).u (by decide) (by decide)).u (by decide) (by decide)) (((((o1.tr o2).tr o3).ot.tr (OT.up (by decide) (by decide))).tr (OT.up (by decide) (by decide))).tr (OT.up (by decide) (by decide))))
                · exact absurd c117 c83
              · have hx2 := v2 c59
                have hx3 := v3 c83
                subst hx2; subst hx3
                have hi2 := nF_in c59
                have hi3 := nF_in c83
                refine x_iload (pc' := 88) rfl rfl rfl ?_
                refine x_iload (pc' := 90) rfl rfl rfl ?_
                refine y_ic_ne (pc' := 93) rfl rfl (by first | omega) (by first | omega) (fun c90 => ?_) (fun c90 => ?_)
                · refine x_aload (pc' := 104) rfl rfl rfl ?_
                  refine x_iload (pc' := 105) rfl rfl rfl ?_
                  refine x_iload (pc' := 106) rfl rfl rfl ?_
                  refine x_iload (pc' := 108) rfl rfl rfl ?_
                  refine x_iload (pc' := 110) rfl rfl rfl ?_
                  refine x_callV (pc' := 113) (d1 := 1) (Bs := [_, _, _, _]) rfl rfl rfl rfl rfl rfl rfl (Nat.le_of_ble_eq_true rfl) ⟨rfl, rfl⟩ (by decide) rfl (by decide) ?_
                  refine w14_setHabit hw ?_
                  refine ⟨rfl, ?_⟩
                  refine x_aload (pc' := 114) rfl rfl rfl ?_
                  refine x_getI (j := 4) (pc' := 117) rfl rfl rfl (by decide) rfl (by decide) rfl rfl ?_
                  refine x_top (h3.ft) ?_
                  refine y_if_ne (pc' := 120) rfl rfl (by first | omega) (fun c117 => ?_) (fun c117 => ?_)
                  · exact absurd c83 c117
                  · refine x_int (pc' := 121) (v := nI 1) rfl rfl rfl ?_
                    refine x_goto rfl ?_
                    refine x_zret rfl rfl (by decide) ?_
                    have e : pHab tp a = (0, k, nV tp (skp isLt tp (skp isBk tp a)), nV tp (nE tp (skp isLt tp (skp isBk tp a))), nE tp (nE tp (skp isLt tp (skp isBk tp a)))) := by rw [pHab_s hk]; unfold hab2; rw [if_neg (show ¬ sg k = 0 by omega), if_neg (fun z => z c59), if_neg (show ¬ sg k = 1 by omega), if_neg (fun z => z c83), if_neg c90]
                    rw [e] at k1
                    rw [c83] at h3
                    exact k1 rfl _ (((((o1.tr o2).tr o3).ot.tr (OT.up (by decide) (by decide))).tr (OT.up (by decide) (by decide))).tr (OT.up (by decide) (by decide))) (((h3.u (by decide) (by decide)).u (by decide) (by decide)).u (by decide) (by decide)) (by rw [tvt_up (j := 4) rfl (by decide), tvt_up (j := 3) rfl (by decide), tvt_up (j := 2) rfl (by decide), o3.t, o2.t, o1.t]; rfl)
                · refine x_aload (pc' := 94) rfl rfl rfl ?_
                  refine x_aload (pc' := 95) rfl rfl rfl ?_
                  refine x_getI (j := 3) (pc' := 98) rfl rfl rfl (by decide) rfl (by decide) rfl rfl ?_
                  refine x_top (e3) ?_
                  refine x_int (pc' := 99) (v := nI 2) rfl rfl rfl ?_
                  refine x_callV (pc' := 102) (d1 := 1) (Bs := [_, _]) rfl rfl rfl rfl rfl rfl rfl (Nat.le_of_ble_eq_true rfl) ⟨rfl, rfl⟩ (by decide) rfl (by decide) ?_
                  refine w_X6_refuse h3 (by omega) (by decide) (fun D9 o9 e9 h9 => ?_)
                  refine ⟨rfl, ?_⟩
                  refine x_pop (pc' := 103) rfl rfl rfl ?_
                  refine x_aload (pc' := 104) rfl rfl rfl ?_
                  refine x_iload (pc' := 105) rfl rfl rfl ?_
                  refine x_iload (pc' := 106) rfl rfl rfl ?_
                  refine x_iload (pc' := 108) rfl rfl rfl ?_
                  refine x_iload (pc' := 110) rfl rfl rfl ?_
                  refine x_callV (pc' := 113) (d1 := 1) (Bs := [_, _, _, _]) rfl rfl rfl rfl rfl rfl rfl (Nat.le_of_ble_eq_true rfl) ⟨rfl, rfl⟩ (by decide) rfl (by decide) ?_
                  refine w14_setHabit hw ?_
                  refine ⟨rfl, ?_⟩
                  refine x_aload (pc' := 114) rfl rfl rfl ?_
                  refine x_getI (j := 4) (pc' := 117) rfl rfl rfl (by decide) rfl (by decide) rfl rfl ?_
                  refine x_top (h9.ft) ?_
                  refine y_if_ne (pc' := 120) rfl rfl (by first | omega) (fun c117 => ?_) (fun c117 => ?_)
                  · refine x_int (pc' := 125) (v := nI 0) rfl rfl rfl ?_
                    refine x_zret rfl rfl (by decide) ?_
                    have e : pHab tp a = (8 * nS tp (nE tp (skp isLt tp (skp isBk tp a))) + 2, 0, 0, 0, 0) := by rw [pHab_s hk]; unfold hab2; rw [if_neg (show ¬ sg k = 0 by omega), if_neg (fun z => z c59), if_neg (show ¬ sg k = 1 by omega), if_neg (fun z => z c83), if_pos c90]
                    rw [e] at k0
                    exact k0 (by show ¬ 8 * _ + 2 = 0; omega) _ (TS.fl (((h9.u (by decide) (by decide)).u (by decide) (by decide)).u (by decide) (by decide)) ((((((o1.tr o2).tr o3).tr o9).ot.tr (OT.up (by decide) (by decide))).tr (OT.up (by decide) (by decide))).tr (OT.up (by decide) (by decide))))
                  · exact absurd c117 (by omega)
    · exact absurd c11 (nI_m1 (by omega))
