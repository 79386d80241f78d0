/-! ===== the reference: its one row is the town ===== -/
def Rw (T : TW) (N : Nat → Int32) (w : Nat) : Prop := N (4 + 10 * w + 0) = T 1 w ∧ N (4 + 10 * w + 1) = T 2 w ∧ (1 ≤ kd T w → N (4 + 10 * w + 2) = T 3 w) ∧ (5 ≤ kd T w → N (4 + 10 * w + 3) = T 4 w) ∧ N (4 + 10 * w + 4) = T 5 w ∧ N (4 + 10 * w + 5) = T 6 w ∧ N (4 + 10 * w + 6) = T 7 w ∧ N (4 + 10 * w + 7) = nI (if isM T w then 1 else 0) ∧ N (4 + 10 * w + 8) = nI (if isD T w then 1 else 0) ∧ N (4 + 10 * w + 9) = T 8 w
def Rn (T : TW) (N : Nat → Int32) : Prop := (N 0 = T 0 0 ∧ N 1 = T 0 1 ∧ N 2 = T 0 2 ∧ N 3 = T 0 3) ∧ (∀ w, w < nw T → Rw T N w) ∧ (∀ b, b < nb T → N (508 + 9 * b) = T 9 b ∧ ∀ q, q < lng T b → N (508 + 9 * b + 1 + q) = T 10 (b * 8 + q)) ∧
  (∀ w b q, w < nw T → b < nb T → q < lng T b → (sk T w).testBit b = true → N (124 + 8 * (4 * w + b) + q) = T 11 ((w * 4 + b) * 8 + q)) ∧ ∀ i, i < ns T → N (544 + i) = T 12 i
theorem lcmp_lt (x y : Int64) : lg_cmp x y < 0 ↔ x < y := by
  unfold lg_cmp
  rw [Int64.lt_iff_toInt_lt]
  by_cases h : x > y
  · rw [if_pos h]
    have h' := Int64.lt_iff_toInt_lt.mp h
    exact ⟨fun h => absurd h (by decide), fun h2 => by omega⟩
  · rw [if_neg h]
    by_cases h2 : x = y
    · rw [if_pos h2]
      exact ⟨fun h => absurd h (by decide), fun h3 => by rw [h2] at h3; omega⟩
    · rw [if_neg h2]
      have h' : ¬ y.toInt < x.toInt := fun q => h (Int64.lt_iff_toInt_lt.mpr q)
      have h'' : x.toInt ≠ y.toInt := fun q => h2 (Int64.toInt_inj.mp q)
      exact ⟨fun _ => by omega, fun _ => by decide⟩
theorem lcmp_gt (x y : Int64) : 0 < lg_cmp x y ↔ y < x := by
  unfold lg_cmp
  by_cases h : x > y
  · rw [if_pos h]; exact ⟨fun _ => h, fun _ => by decide⟩
  · rw [if_neg h]
    refine ⟨fun h3 => ?_, fun h3 => absurd h3 h⟩
    by_cases h2 : x = y
    · rw [if_pos h2] at h3; exact absurd h3 (by decide)
    · rw [if_neg h2] at h3; exact absurd h3 (by decide)
theorem wide_lt (a b : Int32) : a.toInt64 < b.toInt64 ↔ a < b := by rw [Int64.lt_iff_toInt_lt, Int32.lt_iff_toInt_lt, Int32.toInt_toInt64, Int32.toInt_toInt64]
theorem nlt_le {a b : Int32} (h : ¬ a < b) : b ≤ a := Int32.not_lt.mp h
/-- between two: an int in a range of naturals -/
theorem in_okN {n : Nat} {x : Int32} (hn : n < 2 ^ 31) (h1 : 0 ≤ x) (h2 : x ≤ nI n - 1) : ∃ j : Nat, j < n ∧ x = nI j := by
  refine lt_of hn (fun h => Int32.not_lt.mpr h1 h) (fun h => ?_)
  exact absurd (sub1_lt hn) (Int32.not_lt.mpr (Int32.le_trans h h2))
theorem okN_in {n : Nat} {x : Int32} (hn : n < 2 ^ 31) (h : ¬ (0 ≤ x ∧ x ≤ nI n - 1)) : ¬ okN n x := by
  rintro ⟨j, hj, rfl⟩
  refine h ⟨nI_pos' (by omega), ?_⟩
  obtain ⟨k, rfl⟩ : ∃ k, n = k + 1 := ⟨n - 1, by omega⟩
  rw [nI_pred]
  exact nI_le (by omega) (by omega)
theorem in_okL {n : Nat} {x : Int32} (hn : n + 1 < 2 ^ 31) (h1 : 0 ≤ x) (h2 : x ≤ nI n) : ∃ j : Nat, j < n + 1 ∧ x = nI j := in_okN hn h1 (by rw [nI_pred]; exact h2)
theorem okN_inL {n : Nat} {x : Int32} (hn : n + 1 < 2 ^ 31) (h : ¬ (0 ≤ x ∧ x ≤ nI n)) : ¬ okN (n + 1) x := okN_in hn (by rw [nI_pred]; exact h)
def OffL (S : List Nat) (D D' : Nat → Nat → Int32) : Prop := ∀ k, k ∉ S → D' k = D k
theorem OffL.rf {S : List Nat} {D : Nat → Nat → Int32} : OffL S D D := fun _ _ => rfl
theorem OffL.tr {S : List Nat} {D D1 D2 : Nat → Nat → Int32} (h1 : OffL S D D1) (h2 : OffL S D1 D2) : OffL S D D2 := fun k a => (h2 k a).trans (h1 k a)
theorem OffL.up {S : List Nat} {D : Nat → Nat → Int32} {k j : Nat} {x : Int32} (hk : k ∈ S) : OffL S D (bh_up2 D k j x) := fun a h => bh_up2_ne _ _ _ (fun e => h (by rw [e]; exact hk))
theorem OffL.wk {S S' : List Nat} {D D' : Nat → Nat → Int32} (h : OffL S D D') (hs : ∀ k ∈ S, k ∈ S') : OffL S' D D' := fun k hk => h k (fun q => hk (hs k q))
section bh_rn
variable {T : TW} {N : Nat → Int32} {w b q i : Nat}
theorem Rn.rmo (h : Rn T N) (hw : w < nw T) : N (4 + 10 * w + 7) = nI (if isM T w then 1 else 0) := (h.2.1 w hw).2.2.2.2.2.2.2.1
theorem Rn.rde (h : Rn T N) (hw : w < nw T) : N (4 + 10 * w + 8) = nI (if isD T w then 1 else 0) := (h.2.1 w hw).2.2.2.2.2.2.2.2.1
theorem Rn.run (h : Rn T N) (hw : w < nw T) : N (4 + 10 * w + 4) = T 5 w := (h.2.1 w hw).2.2.2.2.1
theorem Rn.rpu (h : Rn T N) (hw : w < nw T) : N (4 + 10 * w + 0) = T 1 w := (h.2.1 w hw).1
theorem Rn.rkd (h : Rn T N) (hw : w < nw T) : N (4 + 10 * w + 1) = T 2 w := (h.2.1 w hw).2.1
theorem Rn.rfa (h : Rn T N) (hw : w < nw T) (hk : 1 ≤ kd T w) : N (4 + 10 * w + 2) = T 3 w := (h.2.1 w hw).2.2.1 hk
theorem Rn.rfb (h : Rn T N) (hw : w < nw T) (hk : 5 ≤ kd T w) : N (4 + 10 * w + 3) = T 4 w := (h.2.1 w hw).2.2.2.1 hk
theorem Rn.rfame (h : Rn T N) (hw : w < nw T) : N (4 + 10 * w + 5) = T 6 w := (h.2.1 w hw).2.2.2.2.2.1
theorem Rn.rcoins (h : Rn T N) (hw : w < nw T) : N (4 + 10 * w + 6) = T 7 w := (h.2.1 w hw).2.2.2.2.2.2.1
theorem Rn.rsk (h : Rn T N) (hw : w < nw T) : N (4 + 10 * w + 9) = T 8 w := (h.2.1 w hw).2.2.2.2.2.2.2.2.2
theorem Rn.rlng (h : Rn T N) (hb : b < nb T) : N (508 + 9 * b) = T 9 b := (h.2.2.1 b hb).1
theorem Rn.rpg (h : Rn T N) (hb : b < nb T) (hq : q < lng T b) : N (508 + 9 * b + 1 + q) = T 10 (b * 8 + q) := (h.2.2.1 b hb).2 q hq
theorem Rn.rstk (h : Rn T N) (hw : w < nw T) (hb : b < nb T) (hq : q < lng T b) (hs : (sk T w).testBit b = true) : N (124 + 8 * (4 * w + b) + q) = T 11 ((w * 4 + b) * 8 + q) := h.2.2.2.1 w b q hw hb hq hs
theorem Rn.rsn (h : Rn T N) (hi : i < ns T) : N (544 + i) = T 12 i := h.2.2.2.2 i hi
end bh_rn
set_option maxRecDepth 20000 in
set_option maxHeartbeats 1000000 in
theorem w_X10_in {D : Nat → Nat → Int32} {L : Nat → Nat → Int64} {Q : bh_Q} {x y z : Int32} (k1 : y ≤ x → x ≤ z → Q (some (.int 1)) (hp D L)) (k0 : ¬ (y ≤ x ∧ x ≤ z) → Q (some (.int 0)) (hp D L)) : bh_wc 1 m_X10_in [.long x.toInt64, .long y.toInt64, .long z.toInt64] (hp D L) Q := by
  refine x_start (lv0 := [_, _, _, _, _, _]) (Nat.le_of_ble_eq_true rfl) rfl ?_
  refine x_lload (pc' := 1) rfl rfl rfl ?_
  refine x_lload (pc' := 2) rfl rfl rfl ?_
  refine x_lcmp (pc' := 3) rfl rfl ?_
  refine x_if_lt (pc' := 6) rfl rfl (fun c3 => ?_) (fun c3 => ?_)
  · refine x_int (pc' := 18) (v := nI 0) rfl rfl rfl ?_
    refine x_zret rfl rfl (by decide) ?_
    exact k0 (fun h => Int32.not_lt.mpr h.1 ((wide_lt _ _).mp ((lcmp_lt _ _).mp c3)))
  · refine x_lload (pc' := 7) rfl rfl rfl ?_
    refine x_lload (pc' := 9) rfl rfl rfl ?_
    refine x_lcmp (pc' := 10) rfl rfl ?_
    refine x_if_gt (pc' := 13) rfl rfl (fun c10 => ?_) (fun c10 => ?_)
    · refine x_int (pc' := 18) (v := nI 0) rfl rfl rfl ?_
      refine x_zret rfl rfl (by decide) ?_
      exact k0 (fun h => Int32.not_lt.mpr h.2 ((wide_lt _ _).mp ((lcmp_gt _ _).mp c10)))
    · refine x_int (pc' := 14) (v := nI 1) rfl rfl rfl ?_
      refine x_goto rfl ?_
      refine x_zret rfl rfl (by decide) ?_
      exact k1 (nlt_le (fun e => c3 ((lcmp_lt _ _).mpr ((wide_lt _ _).mpr e)))) (nlt_le (fun e => c10 ((lcmp_gt _ _).mpr ((wide_lt _ _).mpr e))))
set_option maxRecDepth 20000 in
set_option maxHeartbeats 1000000 in
theorem w_X10_truth {D : Nat → Nat → Int32} {L : Nat → Nat → Int64} {Q : bh_Q} {x : Int32} (hx : x = 0 ∨ x = 1) (k1 : Q (some (.int x)) (hp D L)) : bh_wc 1 m_X10_truth [.int x] (hp D L) Q := by
  refine x_start (lv0 := [_]) (Nat.le_of_ble_eq_true rfl) rfl ?_
  refine x_iload (pc' := 1) rfl rfl rfl ?_
  refine x_if_eq (pc' := 4) rfl rfl (fun c1 => ?_) (fun c1 => ?_)
  · refine x_int (pc' := 9) (v := nI 0) rfl rfl rfl ?_
    refine x_iret rfl rfl ?_
    rcases hx with e | e
    · first | exact absurd e c1 | (rw [e] at k1; exact k1)
    · first | exact absurd (e.symm.trans c1) (by decide) | (rw [e] at k1; exact k1)
  · refine x_int (pc' := 5) (v := nI 1) rfl rfl rfl ?_
    refine x_goto rfl ?_
    refine x_iret rfl rfl ?_
    rcases hx with e | e
    · first | exact absurd e c1 | (rw [e] at k1; exact k1)
    · first | exact absurd (e.symm.trans c1) (by decide) | (rw [e] at k1; exact k1)
set_option maxRecDepth 20000 in
set_option maxHeartbeats 1000000 in
theorem w_X10_has {D : Nat → Nat → Int32} {L : Nat → Nat → Int64} {Q : bh_Q} {s i : Nat} (hs : s < 2 ^ 31) (hi : i < 32) (k1 : s.testBit i = true → Q (some (.int 1)) (hp D L)) (k0 : s.testBit i = false → Q (some (.int 0)) (hp D L)) : bh_wc 1 m_X10_has [.int (nI s), .int (nI i)] (hp D L) Q := by
  refine x_start (lv0 := [_, _]) (Nat.le_of_ble_eq_true rfl) rfl ?_
  refine x_iload (pc' := 1) rfl rfl rfl ?_
  refine x_iload (pc' := 2) rfl rfl rfl ?_
  refine y_ishr (pc' := 3) rfl rfl (by omega) (by omega) ?_
  refine x_int (pc' := 4) (v := nI 1) rfl rfl rfl ?_
  refine y_iand (pc' := 5) rfl rfl ?_
  refine x_int (pc' := 6) (v := nI 1) rfl rfl rfl ?_
  refine y_ic_ne (pc' := 9) rfl rfl (and1 _) (by decide) (fun c6 => ?_) (fun c6 => ?_)
  · refine x_int (pc' := 14) (v := nI 0) rfl rfl rfl ?_
    refine x_zret rfl rfl (by decide) ?_
    exact k0 (by rw [← Bool.not_eq_true]; exact fun e => c6 (tb1.mpr e))
  · refine x_int (pc' := 10) (v := nI 1) rfl rfl rfl ?_
    refine x_goto rfl ?_
    refine x_zret rfl rfl (by decide) ?_
    exact k1 (tb1.mp c6)
set_option maxRecDepth 20000 in
set_option maxHeartbeats 1000000 in
theorem w_X10_of {D : Nat → Nat → Int32} {L : Nat → Nat → Int64} {Q : bh_Q} {w j : Nat} (hw : w < 12) (hj : j < 10) (k1 : Q (some (.int (D 206 (4 + 10 * w + j)))) (hp D L)) : bh_wc 1 m_X10_of [.ref 205, .int (nI w), .int (nI j)] (hp D L) Q := by
  refine x_start (lv0 := [_, _, _]) (Nat.le_of_ble_eq_true rfl) rfl ?_
  refine x_aload (pc' := 1) rfl rfl rfl ?_
  refine x_getR (pc' := 4) rfl rfl rfl (by decide) rfl (by decide) rfl rfl ?_
  refine x_int (pc' := 5) (v := nI 4) rfl rfl rfl ?_
  refine x_int (pc' := 7) (v := nI 10) rfl rfl rfl ?_
  refine x_iload (pc' := 8) rfl rfl rfl ?_
  refine y_imul (pc' := 9) rfl rfl ?_
  refine y_iadd (pc' := 10) rfl rfl ?_
  refine x_iload (pc' := 11) rfl rfl rfl ?_
  refine y_iadd (pc' := 12) rfl rfl ?_
  refine x_iald (pc' := 13) rfl rfl (by decide) rfl (by decide) (show _ < 560 by omega) ?_
  refine x_iret rfl rfl ?_
  exact k1
set_option maxRecDepth 20000 in
set_option maxHeartbeats 1000000 in
theorem w_X10_isWriter {D : Nat → Nat → Int32} {L : Nat → Nat → Int64} {Q : bh_Q} {T : TW} (hW : WF T) (hR : Rn T (D 206)) {x : Int32} (k1 : ∀ j : Nat, j < nw T → x = nI j → Q (some (.int 1)) (hp D L)) (k0 : ¬ okN (nw T) x → Q (some (.int 0)) (hp D L)) : bh_wc 2 m_X10_isWriter [.ref 205, .int x] (hp D L) Q := by
  refine x_start (lv0 := [_, _]) (Nat.le_of_ble_eq_true rfl) rfl ?_
  have hl := hW.nwl
  refine x_iload (pc' := 1) rfl rfl rfl ?_
  refine x_i2l (pc' := 2) rfl rfl ?_
  refine x_long (pc' := 3) (v := (nI 0).toInt64) rfl rfl (by decide) ?_
  refine x_aload (pc' := 4) rfl rfl rfl ?_
  refine x_getR (pc' := 7) rfl rfl rfl (by decide) rfl (by decide) rfl rfl ?_
  refine x_int (pc' := 8) (v := nI 0) rfl rfl rfl ?_
  refine x_iald (pc' := 9) rfl rfl (by decide) rfl (by decide) (show _ < 560 by omega) ?_
  refine x_top ((hR.1.1).trans hW.enw) ?_
  refine x_int (pc' := 10) (v := nI 1) rfl rfl rfl ?_
  refine x_isub (pc' := 11) rfl rfl ?_
  refine x_i2l (pc' := 12) rfl rfl ?_
  refine x_callS (pc' := 15) (d1 := 1) (As := [_, _, _]) rfl rfl rfl rfl (by decide) rfl rfl (Nat.le_of_ble_eq_true rfl) ⟨rfl, rfl⟩ (by decide) ?_
  refine w_X10_in (fun h12a h12b => ?_) (fun h12 => ?_)
  · refine ⟨rfl, ?_⟩
    refine x_zret rfl rfl (by decide) ?_
    obtain ⟨j, hj, e⟩ := in_okN (by omega) h12a h12b
    exact k1 j hj e
  · refine ⟨rfl, ?_⟩
    refine x_zret rfl rfl (by decide) ?_
    exact k0 (okN_in (by omega) h12)
set_option maxRecDepth 20000 in
set_option maxHeartbeats 1000000 in
theorem w_X10_isBook {D : Nat → Nat → Int32} {L : Nat → Nat → Int64} {Q : bh_Q} {T : TW} (hW : WF T) (hR : Rn T (D 206)) {x : Int32} (k1 : ∀ j : Nat, j < nb T → x = nI j → Q (some (.int 1)) (hp D L)) (k0 : ¬ okN (nb T) x → Q (some (.int 0)) (hp D L)) : bh_wc 2 m_X10_isBook [.ref 205, .int x] (hp D L) Q := by
  refine x_start (lv0 := [_, _]) (Nat.le_of_ble_eq_true rfl) rfl ?_
  have hl := hW.nbl
  refine x_iload (pc' := 1) rfl rfl rfl ?_
  refine x_i2l (pc' := 2) rfl rfl ?_
  refine x_long (pc' := 3) (v := (nI 0).toInt64) rfl rfl (by decide) ?_
  refine x_aload (pc' := 4) rfl rfl rfl ?_
  refine x_getR (pc' := 7) rfl rfl rfl (by decide) rfl (by decide) rfl rfl ?_
  refine x_int (pc' := 8) (v := nI 1) rfl rfl rfl ?_
  refine x_iald (pc' := 9) rfl rfl (by decide) rfl (by decide) (show _ < 560 by omega) ?_
  refine x_top ((hR.1.2.1).trans hW.enb) ?_
  refine x_int (pc' := 10) (v := nI 1) rfl rfl rfl ?_
  refine x_isub (pc' := 11) rfl rfl ?_
  refine x_i2l (pc' := 12) rfl rfl ?_
  refine x_callS (pc' := 15) (d1 := 1) (As := [_, _, _]) rfl rfl rfl rfl (by decide) rfl rfl (Nat.le_of_ble_eq_true rfl) ⟨rfl, rfl⟩ (by decide) ?_
  refine w_X10_in (fun h12a h12b => ?_) (fun h12 => ?_)
  · refine ⟨rfl, ?_⟩
    refine x_zret rfl rfl (by decide) ?_
    obtain ⟨j, hj, e⟩ := in_okN (by omega) h12a h12b
    exact k1 j hj e
  · refine ⟨rfl, ?_⟩
    refine x_zret rfl rfl (by decide) ?_
    exact k0 (okN_in (by omega) h12)
set_option maxRecDepth 20000 in
set_option maxHeartbeats 1000000 in
theorem w_X10_under {D : Nat → Nat → Int32} {L : Nat → Nat → Int64} {Q : bh_Q} {T : TW} (hW : WF T) (hR : Rn T (D 206)) {w : Nat} (hw : w < nw T) (k1 : Q (some (.int (T 5 w))) (hp D L)) : bh_wc 2 m_X10_under [.ref 205, .int (nI w)] (hp D L) Q := by
  refine x_start (lv0 := [_, _]) (Nat.le_of_ble_eq_true rfl) rfl ?_
  have h12 := hW.nwl
  refine x_aload (pc' := 1) rfl rfl rfl ?_
  refine x_iload (pc' := 2) rfl rfl rfl ?_
  refine x_int (pc' := 3) (v := nI 4) rfl rfl rfl ?_
  refine x_callV (pc' := 6) (d1 := 1) (Bs := [_, _]) rfl rfl rfl rfl rfl rfl rfl (Nat.le_of_ble_eq_true rfl) ⟨rfl, rfl⟩ (by decide) rfl (by decide) ?_
  refine w_X10_of (by omega) (by omega) ?_
  refine ⟨rfl, ?_⟩
  refine x_iret rfl rfl ?_
  rw [hR.run hw]
  exact k1
set_option maxRecDepth 20000 in
set_option maxHeartbeats 1000000 in
theorem w_X10_isDead {D : Nat → Nat → Int32} {L : Nat → Nat → Int64} {Q : bh_Q} {T : TW} (hW : WF T) (hR : Rn T (D 206)) {w : Nat} (hw : w < nw T) (k1 : isD T w = true → Q (some (.int 1)) (hp D L)) (k0 : isD T w = false → Q (some (.int 0)) (hp D L)) : bh_wc 2 m_X10_isDead [.ref 205, .int (nI w)] (hp D L) Q := by
  refine x_start (lv0 := [_, _]) (Nat.le_of_ble_eq_true rfl) rfl ?_
  have h12 := hW.nwl
  refine x_aload (pc' := 1) rfl rfl rfl ?_
  refine x_iload (pc' := 2) rfl rfl rfl ?_
  refine x_int (pc' := 4) (v := nI 8) rfl rfl rfl ?_
  refine x_callV (pc' := 7) (d1 := 1) (Bs := [_, _]) rfl rfl rfl rfl rfl rfl rfl (Nat.le_of_ble_eq_true rfl) ⟨rfl, rfl⟩ (by decide) rfl (by decide) ?_
  refine w_X10_of (by omega) (by omega) ?_
  refine ⟨rfl, ?_⟩
  refine x_top (hR.rde hw) ?_
  refine x_int (pc' := 8) (v := nI 1) rfl rfl rfl ?_
  refine x_ic_ne (pc' := 11) rfl rfl (fun c8 => ?_) (fun c8 => ?_)
  · refine x_int (pc' := 16) (v := nI 0) rfl rfl rfl ?_
    refine x_zret rfl rfl (by decide) ?_
    refine k0 ?_
    by_cases h : isD T w = true
    · rw [if_pos h] at c8; exact absurd rfl c8
    · rwa [Bool.not_eq_true] at h
  · refine x_int (pc' := 12) (v := nI 1) rfl rfl rfl ?_
    refine x_goto rfl ?_
    refine x_zret rfl rfl (by decide) ?_
    refine k1 ?_
    by_cases h : isD T w = true
    · exact h
    · rw [if_neg h] at c8; exact absurd c8 (by decide)
set_option maxRecDepth 20000 in
set_option maxHeartbeats 1000000 in
theorem w_X10_pagesOf {D : Nat → Nat → Int32} {L : Nat → Nat → Int64} {Q : bh_Q} {T : TW} (hW : WF T) (hR : Rn T (D 206)) {b : Nat} (hb : b < nb T) (k1 : Q (some (.int (nI (lng T b)))) (hp D L)) : bh_wc 1 m_X10_pagesOf [.ref 205, .int (nI b)] (hp D L) Q := by
  refine x_start (lv0 := [_, _]) (Nat.le_of_ble_eq_true rfl) rfl ?_
  have h4 := hW.nbl
  refine x_aload (pc' := 1) rfl rfl rfl ?_
  refine x_getR (pc' := 4) rfl rfl rfl (by decide) rfl (by decide) rfl rfl ?_
  refine x_int (pc' := 7) (v := nI 508) rfl rfl rfl ?_
  refine x_int (pc' := 9) (v := nI 9) rfl rfl rfl ?_
  refine x_iload (pc' := 10) rfl rfl rfl ?_
  refine y_imul (pc' := 11) rfl rfl ?_
  refine y_iadd (pc' := 12) rfl rfl ?_
  refine x_iald (pc' := 13) rfl rfl (by decide) rfl (by decide) (show _ < 560 by omega) ?_
  refine x_top ((hR.rlng hb).trans (hW.elng hb)) ?_
  refine x_iret rfl rfl ?_
  exact k1
set_option maxRecDepth 20000 in
set_option maxHeartbeats 1000000 in
theorem w_X10_isPage {D : Nat → Nat → Int32} {L : Nat → Nat → Int64} {Q : bh_Q} {T : TW} (hW : WF T) (hR : Rn T (D 206)) {x y : Int32} (k1 : ∀ b q : Nat, b < nb T → q < lng T b → x = nI b → y = nI q → Q (some (.int 1)) (hp D L)) (k0 : ¬ okB T x y → Q (some (.int 0)) (hp D L)) : bh_wc 3 m_X10_isPage [.ref 205, .int x, .int y] (hp D L) Q := by
  refine x_start (lv0 := [_, _, _]) (Nat.le_of_ble_eq_true rfl) rfl ?_
  refine x_aload (pc' := 1) rfl rfl rfl ?_
  refine x_iload (pc' := 2) rfl rfl rfl ?_
  refine x_callV (pc' := 5) (d1 := 2) (Bs := [_]) rfl rfl rfl rfl rfl rfl rfl (Nat.le_of_ble_eq_true rfl) ⟨rfl, rfl⟩ (by decide) rfl (by decide) ?_
  refine w_X10_isBook hW hR (fun b hb e => ?_) (fun h2 => ?_)
  · subst e
    have h8 := hW.lngl hb
    have h4 := hW.nbl
    refine ⟨rfl, ?_⟩
    refine x_if_eq (pc' := 8) rfl rfl (fun c5 => absurd c5 (by decide)) (fun _ => ?_)
    refine x_iload (pc' := 9) rfl rfl rfl ?_
    refine x_i2l (pc' := 10) rfl rfl ?_
    refine x_long (pc' := 11) (v := (nI 0).toInt64) rfl rfl (by decide) ?_
    refine x_aload (pc' := 12) rfl rfl rfl ?_
    refine x_iload (pc' := 13) rfl rfl rfl ?_
    refine x_callV (pc' := 16) (d1 := 1) (Bs := [_]) rfl rfl rfl rfl rfl rfl rfl (Nat.le_of_ble_eq_true rfl) ⟨rfl, rfl⟩ (by decide) rfl (by decide) ?_
    refine w_X10_pagesOf hW hR (by assumption) ?_
    refine ⟨rfl, ?_⟩
    refine x_int (pc' := 17) (v := nI 1) rfl rfl rfl ?_
    refine x_isub (pc' := 18) rfl rfl ?_
    refine x_i2l (pc' := 19) rfl rfl ?_
    refine x_callS (pc' := 22) (d1 := 1) (As := [_, _, _]) rfl rfl rfl rfl (by decide) rfl rfl (Nat.le_of_ble_eq_true rfl) ⟨rfl, rfl⟩ (by decide) ?_
    refine w_X10_in (fun h19a h19b => ?_) (fun h19 => ?_)
    · refine ⟨rfl, ?_⟩
      refine x_if_eq (pc' := 25) rfl rfl (fun c22 => absurd c22 (by decide)) (fun _ => ?_)
      refine x_int (pc' := 26) (v := nI 1) rfl rfl rfl ?_
      refine x_goto rfl ?_
      refine x_zret rfl rfl (by decide) ?_
      obtain ⟨j, hj, e⟩ := in_okN (by omega) h19a h19b
      exact k1 b j hb hj rfl e
    · refine ⟨rfl, ?_⟩
      refine x_if_eq (pc' := 25) rfl rfl (fun _ => ?_) (fun c22 => absurd (by decide) c22)
      refine x_int (pc' := 30) (v := nI 0) rfl rfl rfl ?_
      refine x_zret rfl rfl (by decide) ?_
      exact k0 (fun ⟨c, q, q1, q2, e1, e2⟩ => okN_in (by omega) h19 ⟨q, by rw [nI_inj (by omega) (by omega) e1]; exact q2, e2⟩)
  · refine ⟨rfl, ?_⟩
    refine x_if_eq (pc' := 8) rfl rfl (fun _ => ?_) (fun c5 => absurd (by decide) c5)
    refine x_int (pc' := 30) (v := nI 0) rfl rfl rfl ?_
    refine x_zret rfl rfl (by decide) ?_
    exact k0 (fun ⟨c, q, q1, q2, e1, e2⟩ => h2 ⟨c, q1, e1⟩)
set_option maxRecDepth 20000 in
set_option maxHeartbeats 1000000 in
theorem w_X10_pageOf {D : Nat → Nat → Int32} {L : Nat → Nat → Int64} {Q : bh_Q} {T : TW} (hW : WF T) (hR : Rn T (D 206)) {b q : Nat} (hb : b < nb T) (hq : q < lng T b) (k1 : Q (some (.int (nI (pg T b q)))) (hp D L)) : bh_wc 1 m_X10_pageOf [.ref 205, .int (nI b), .int (nI q)] (hp D L) Q := by
  refine x_start (lv0 := [_, _, _]) (Nat.le_of_ble_eq_true rfl) rfl ?_
  have h4 := hW.nbl
  have h8 := hW.lngl hb
  refine x_aload (pc' := 1) rfl rfl rfl ?_
  refine x_getR (pc' := 4) rfl rfl rfl (by decide) rfl (by decide) rfl rfl ?_
  refine x_int (pc' := 7) (v := nI 508) rfl rfl rfl ?_
  refine x_int (pc' := 9) (v := nI 9) rfl rfl rfl ?_
  refine x_iload (pc' := 10) rfl rfl rfl ?_
  refine y_imul (pc' := 11) rfl rfl ?_
  refine y_iadd (pc' := 12) rfl rfl ?_
  refine x_int (pc' := 13) (v := nI 1) rfl rfl rfl ?_
  refine y_iadd (pc' := 14) rfl rfl ?_
  refine x_iload (pc' := 15) rfl rfl rfl ?_
  refine y_iadd (pc' := 16) rfl rfl ?_
  refine x_iald (pc' := 17) rfl rfl (by decide) rfl (by decide) (show _ < 560 by omega) ?_
  refine x_top ((hR.rpg hb hq).trans (hW.epg hb hq)) ?_
  refine x_iret rfl rfl ?_
  exact k1
set_option maxRecDepth 20000 in
set_option maxHeartbeats 1000000 in
theorem w_X10_hasStock {D : Nat → Nat → Int32} {L : Nat → Nat → Int64} {Q : bh_Q} {T : TW} (hW : WF T) (hR : Rn T (D 206)) {w b : Nat} (hw : w < nw T) (hb : b < nb T) (k1 : (sk T w).testBit b = true → Q (some (.int 1)) (hp D L)) (k0 : (sk T w).testBit b = false → Q (some (.int 0)) (hp D L)) : bh_wc 2 m_X10_hasStock [.ref 205, .int (nI w), .int (nI b)] (hp D L) Q := by
  refine x_start (lv0 := [_, _, _]) (Nat.le_of_ble_eq_true rfl) rfl ?_
  have h12 := hW.nwl
  have h4 := hW.nbl
  have h16 := hW.sk4 hw
  refine x_aload (pc' := 1) rfl rfl rfl ?_
  refine x_iload (pc' := 2) rfl rfl rfl ?_
  refine x_int (pc' := 4) (v := nI 9) rfl rfl rfl ?_
  refine x_callV (pc' := 7) (d1 := 1) (Bs := [_, _]) rfl rfl rfl rfl rfl rfl rfl (Nat.le_of_ble_eq_true rfl) ⟨rfl, rfl⟩ (by decide) rfl (by decide) ?_
  refine w_X10_of (by omega) (by omega) ?_
  refine ⟨rfl, ?_⟩
  refine x_top ((hR.rsk hw).trans (hW.esk hw)) ?_
  refine x_iload (pc' := 8) rfl rfl rfl ?_
  refine x_callS (pc' := 11) (d1 := 1) (As := [_, _]) rfl rfl rfl rfl (by decide) rfl rfl (Nat.le_of_ble_eq_true rfl) ⟨rfl, rfl⟩ (by decide) ?_
  refine w_X10_has (by omega) (by omega) (fun h8 => ?_) (fun h8 => ?_)
  · refine ⟨rfl, ?_⟩
    refine x_zret rfl rfl (by decide) ?_
    exact k1 h8
  · refine ⟨rfl, ?_⟩
    refine x_zret rfl rfl (by decide) ?_
    exact k0 h8
set_option maxRecDepth 20000 in
set_option maxHeartbeats 1000000 in
theorem w_X10_stockAt {D : Nat → Nat → Int32} {L : Nat → Nat → Int64} {Q : bh_Q} {w b q : Nat} (k1 : Q (some (.int (nI (124 + 8 * (4 * w + b) + q)))) (hp D L)) : bh_wc 1 m_X10_stockAt [.int (nI w), .int (nI b), .int (nI q)] (hp D L) Q := by
  refine x_start (lv0 := [_, _, _]) (Nat.le_of_ble_eq_true rfl) rfl ?_
  refine x_int (pc' := 2) (v := nI 124) rfl rfl rfl ?_
  refine x_int (pc' := 4) (v := nI 8) rfl rfl rfl ?_
  refine x_int (pc' := 5) (v := nI 4) rfl rfl rfl ?_
  refine x_iload (pc' := 6) rfl rfl rfl ?_
  refine y_imul (pc' := 7) rfl rfl ?_
  refine x_iload (pc' := 8) rfl rfl rfl ?_
  refine y_iadd (pc' := 9) rfl rfl ?_
  refine y_imul (pc' := 10) rfl rfl ?_
  refine y_iadd (pc' := 11) rfl rfl ?_
  refine x_iload (pc' := 12) rfl rfl rfl ?_
  refine y_iadd (pc' := 13) rfl rfl ?_
  refine x_iret rfl rfl ?_
  exact k1
