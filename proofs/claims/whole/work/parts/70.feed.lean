/-! ===== end, feed ===== -/
def sU (j : Nat) : Nat := 24 - 8 * j
def sI (j : Nat) : Int32 := if j = 4 then -8 else nI (sU j)
def byt (x : Int32) (j : Nat) : Nat := (x.toUInt32.toNat >>> sU j) % 256
theorem byt_lt {x : Int32} {j : Nat} : byt x j < 256 := Nat.mod_lt _ (by decide)
theorem nI_bv (n : Nat) : (nI n).toBitVec = BitVec.ofNat 32 n := rfl
theorem byt_a (x : Int32) (j : Nat) (hj : j < 4) : ((x.toUInt32 >>> ((sI j).toUInt32 &&& Int32.toUInt32 31)).toInt32) &&& nI 255 = nI (byt x j) := by
  have e : ((sI j).toUInt32 &&& Int32.toUInt32 31) = UInt32.ofNat (sU j) := by revert j; decide
  have h2 : (UInt32.ofNat (sU j)).toNat % 32 = sU j := by revert j; decide
  rw [e]
  apply Int32.toBitVec_inj.mp
  apply BitVec.eq_of_toNat_eq
  rw [Int32.toBitVec_and, BitVec.toNat_and, nI_bv, nI_bv, BitVec.toNat_ofNat, BitVec.toNat_ofNat]
  show (x.toUInt32 >>> UInt32.ofNat (sU j)).toNat &&& (2 ^ 8 - 1) = byt x j % 2 ^ 32
  rw [UInt32.toNat_shiftRight, h2, Nat.and_two_pow_sub_one_eq_mod, Nat.mod_eq_of_lt (show byt x j < 2 ^ 32 from Nat.lt_trans byt_lt (by decide))]
  rfl
theorem nar_b (y : Int8) : vp_nar .byte y.toInt32 = y.toInt32 := by show y.toInt32.toInt8.toInt32 = y.toInt32; rw [Int8.toInt8_toInt32]
theorem byt_b (x : Int32) (j : Nat) (hj : j < 4) : vp_nar .byte (x >>> (sI j &&& 31)).toInt8.toInt32 = (nI (byt x j)).toInt8.toInt32 := by
  have e : (sI j &&& 31) = nI (sU j) := by revert j; decide
  have h2 : ((nI (sU j)).toBitVec.smod 32).toNat = sU j := by revert j; decide
  have hs : sU j ≤ 24 := by unfold sU; omega
  have e8 : (x >>> nI (sU j)).toInt8 = (nI (byt x j)).toInt8 := by
    apply Int8.toBitVec_inj.mp
    rw [Int32.toBitVec_toInt8, Int32.toBitVec_toInt8, nI_bv]
    apply BitVec.eq_of_getLsbD_eq
    intro i hi
    rw [BitVec.getLsbD_signExtend, BitVec.getLsbD_signExtend, Int32.toBitVec_shiftRight, BitVec.getLsbD_sshiftRight', h2, BitVec.getLsbD_ofNat, if_pos (show i < 32 by omega), if_pos (show i < 32 by omega), if_pos (show sU j + i < 32 by omega), decide_eq_false (show ¬ 32 ≤ i by omega), decide_eq_true (show i < 32 by omega), decide_eq_true hi]
    show x.toBitVec.getLsbD (sU j + i) = (byt x j).testBit i
    unfold byt
    rw [show (256 : Nat) = 2 ^ 8 from rfl, Nat.testBit_mod_two_pow, decide_eq_true hi, Nat.testBit_shiftRight]
    rfl
  rw [e, e8]
  exact nar_b _
theorem sI_lt (j : Nat) (hj : j < 4) : ¬ sI j < 0 := by revert j; decide
theorem sI_s (j : Nat) (hj : j < 4) : sI j + -8 = sI (j + 1) := by revert j; decide
def bys (x : Int32) : List Nat := [byt x 0, byt x 1, byt x 2, byt x 3]
theorem gD_app {tp : List Nat} {c i : Nat} (h : i < tp.length) : (tp ++ [c]).getD i 0 = tp.getD i 0 := by
  rw [List.getD_eq_getElem?_getD, List.getElem?_append_left h, ← List.getD_eq_getElem?_getD]
theorem getD_las {tp : List Nat} {c : Nat} : (tp ++ [c]).getD tp.length 0 = c := by
  rw [List.getD_eq_getElem?_getD, List.getElem?_append_right (Nat.le_refl _), Nat.sub_self]
  rfl
theorem PC.s {D : Nat → Nat → Int32} {tp : List Nat} (h : PC D tp) {c : Nat} (hc : c < 256) (hl : tp.length < 400) : PC (bh_up2 (bh_up2 D 28 tp.length (nI c)) 27 1 (nI (tp.length + 1))) (tp ++ [c]) := by
  have el : (tp ++ [c]).length = tp.length + 1 := by rw [List.length_append]; rfl
  refine ⟨by omega, by rw [el]; exact bh_up2_self _ _ _ _, fun i hi => ?_⟩
  rw [bh_up2_ne _ _ _ (by decide)]
  by_cases e : i = tp.length
  · rw [e, getD_las]; exact ⟨hc, bh_up2_self _ _ _ _⟩
  · rw [gD_app (by omega), up2_o e]; exact h.2.2 i (by omega)
theorem PM.s {D : Nat → Nat → Int32} {tp : List Nat} (h : PM D tp) {c : Nat} {x : Int32} (hx : x = (nI c).toInt8.toInt32) : PM (bh_up2 (bh_up2 D 211 tp.length x) 205 7 (nI (tp.length + 1))) (tp ++ [c]) := by
  have el : (tp ++ [c]).length = tp.length + 1 := by rw [List.length_append]; rfl
  refine ⟨by rw [el]; exact bh_up2_self _ _ _ _, fun i hi => ?_⟩
  rw [bh_up2_ne _ _ _ (by decide)]
  by_cases e : i = tp.length
  · rw [e, getD_las]; exact (bh_up2_self _ _ _ _).trans hx
  · rw [gD_app (by omega), up2_o e]; exact h.2 i (by omega)
def OF (D D' : Nat → Nat → Int32) : Prop := (∀ k, k ≠ 27 → k ≠ 28 → D' k = D k)
theorem OF.tr {D D1 D2 : Nat → Nat → Int32} (h1 : OF D D1) (h2 : OF D1 D2) : OF D D2 := fun k a b => (h2 k a b).trans (h1 k a b)
def OG (D D' : Nat → Nat → Int32) : Prop := (∀ k, k ≠ 205 → k ≠ 211 → D' k = D k) ∧ ∀ j, j ≠ 7 → D' 205 j = D 205 j
theorem OG.tr {D D1 D2 : Nat → Nat → Int32} (h1 : OG D D1) (h2 : OG D1 D2) : OG D D2 := ⟨fun k a b => (h2.1 k a b).trans (h1.1 k a b), fun j a => (h2.2 j a).trans (h1.2 j a)⟩
def fdL (tp : List Nat) (a b c d e : Int32) : List Nat := tp ++ bys a ++ bys b ++ bys c ++ bys d ++ bys e
theorem bys_len (tp : List Nat) (x : Int32) : (tp ++ bys x).length = tp.length + 4 := by rw [List.length_append]; rfl
theorem bys4 (tp : List Nat) (x : Int32) : tp ++ [byt x 0] ++ [byt x 1] ++ [byt x 2] ++ [byt x 3] = tp ++ bys x := by
  rw [List.append_assoc, List.append_assoc, List.append_assoc]; rfl
set_option maxRecDepth 20000 in
set_option maxHeartbeats 1000000 in
theorem l_X6_append {D : Nat → Nat → Int32} {L : Nat → Nat → Int64} {Q : bh_Q} {d : Nat} {tp : List Nat} {x : Int32} {j : Nat} (hj : j < 4) (hP : PC D tp) (hl : tp.length < 400) (k : bw m_X6_append d Q 3 [.ref 27, .int x, .int (sI (j + 1))] [] (bh_up2 (bh_up2 D 28 tp.length (nI (byt x j))) 27 1 (nI (tp.length + 1))) L) : bw m_X6_append d Q 3 [.ref 27, .int x, .int (sI j)] [] D L := by
  refine x_iload (pc' := 4) rfl rfl rfl ?_
  refine x_if_lt (pc' := 7) rfl rfl (fun c4 => ?_) (fun c4 => ?_)
  · exact absurd c4 (sI_lt j hj)
  · refine x_aload (pc' := 8) rfl rfl rfl ?_
    refine x_getR (pc' := 11) rfl rfl rfl (by decide) rfl (by decide) rfl rfl ?_
    refine x_aload (pc' := 12) rfl rfl rfl ?_
    refine x_getI (j := 1) (pc' := 15) rfl rfl rfl (by decide) rfl (by decide) rfl rfl ?_
    refine x_top (hP.2.1) ?_
    refine x_iload (pc' := 16) rfl rfl rfl ?_
    refine x_iload (pc' := 17) rfl rfl rfl ?_
    refine x_iushr (pc' := 18) rfl rfl ?_
    refine x_int (pc' := 21) (v := nI 255) rfl rfl rfl ?_
    refine x_iand (pc' := 22) rfl rfl ?_
    refine x_top (byt_a x j hj) ?_
    refine x_iast (pc' := 23) rfl rfl (by decide) rfl (by decide) (show _ < 400 by omega) ?_
    refine x_aload (pc' := 24) rfl rfl rfl ?_
    refine x_dup (pc' := 25) rfl rfl rfl ?_
    refine x_getI (j := 1) (pc' := 28) rfl rfl rfl (by decide) rfl (by decide) rfl rfl ?_
    refine x_top ((show bh_up2 D 28 tp.length (nI (byt x j)) 27 1 = nI tp.length by rw [bh_up2_ne _ _ _ (by decide)]; exact hP.2.1)) ?_
    refine x_int (pc' := 29) (v := nI 1) rfl rfl rfl ?_
    refine y_iadd (pc' := 30) rfl rfl ?_
    refine x_putI (j := 1) (pc' := 33) rfl rfl rfl (by decide) rfl (by decide) rfl rfl ?_
    refine x_iinc (pc' := 36) (w := (-8)) (lv' := [_, _, _]) rfl rfl rfl rfl (by decide) (sI_s j hj) rfl ?_
    refine x_goto rfl ?_
    exact k
set_option maxRecDepth 20000 in
set_option maxHeartbeats 1000000 in
theorem w_X6_append {D : Nat → Nat → Int32} {L : Nat → Nat → Int64} {Q : bh_Q} {tp : List Nat} {x : Int32} (hP : PC D tp) (hl : tp.length + 4 ≤ 400) (k1 : ∀ D', OF D D' → PC D' (tp ++ bys x) → Q none (hp D' L)) : bh_wc 1 m_X6_append [.ref 27, .int x] (hp D L) Q := by
  refine x_start (lv0 := [_, _, _]) (Nat.le_of_ble_eq_true rfl) rfl ?_
  refine x_int (pc' := 2) (v := nI 24) rfl rfl rfl ?_
  refine x_istore (pc' := 3) (lv' := [_, _, _]) rfl rfl (by decide) rfl ?_
  have p0 := hP
  refine l_X6_append (j := 0) (by decide) p0 (by first | omega | (simp only [List.length_append, List.length_cons, List.length_nil]; omega)) ?_
  have p1 := p0.s (c := byt x 0) byt_lt (by first | omega | (simp only [List.length_append, List.length_cons, List.length_nil]; omega))
  refine l_X6_append (j := 1) (by decide) p1 (by first | omega | (simp only [List.length_append, List.length_cons, List.length_nil]; omega)) ?_
  have p2 := p1.s (c := byt x 1) byt_lt (by first | omega | (simp only [List.length_append, List.length_cons, List.length_nil]; omega))
  refine l_X6_append (j := 2) (by decide) p2 (by first | omega | (simp only [List.length_append, List.length_cons, List.length_nil]; omega)) ?_
  have p3 := p2.s (c := byt x 2) byt_lt (by first | omega | (simp only [List.length_append, List.length_cons, List.length_nil]; omega))
  refine l_X6_append (j := 3) (by decide) p3 (by first | omega | (simp only [List.length_append, List.length_cons, List.length_nil]; omega)) ?_
  have p4 := p3.s (c := byt x 3) byt_lt (by first | omega | (simp only [List.length_append, List.length_cons, List.length_nil]; omega))
  refine x_iload (pc' := 4) rfl rfl rfl ?_
  refine x_if_lt (pc' := 7) rfl rfl (fun _ => ?_) (fun c4 => absurd (by decide) c4)
  refine x_vret rfl rfl ?_
  rw [bys4] at p4
  exact k1 _ (fun k a b => by rw [bh_up2_ne _ _ _ a, bh_up2_ne _ _ _ b, bh_up2_ne _ _ _ a, bh_up2_ne _ _ _ b, bh_up2_ne _ _ _ a, bh_up2_ne _ _ _ b, bh_up2_ne _ _ _ a, bh_up2_ne _ _ _ b]) p4
set_option maxRecDepth 20000 in
set_option maxHeartbeats 1000000 in
theorem l_X10_puts {D : Nat → Nat → Int32} {L : Nat → Nat → Int64} {Q : bh_Q} {d : Nat} {tp : List Nat} {x : Int32} {j : Nat} (hj : j < 4) (hP : PM D tp) (hl : tp.length < 400) (k : bw m_X10_puts d Q 3 [.ref 205, .int x, .int (sI (j + 1))] [] (bh_up2 (bh_up2 D 211 tp.length (vp_nar .byte (x >>> (sI j &&& 31)).toInt8.toInt32)) 205 7 (nI (tp.length + 1))) L) : bw m_X10_puts d Q 3 [.ref 205, .int x, .int (sI j)] [] D L := by
  refine x_iload (pc' := 4) rfl rfl rfl ?_
  refine x_if_lt (pc' := 7) rfl rfl (fun c4 => ?_) (fun c4 => ?_)
  · exact absurd c4 (sI_lt j hj)
  · refine x_aload (pc' := 8) rfl rfl rfl ?_
    refine x_getR (pc' := 11) rfl rfl rfl (by decide) rfl (by decide) rfl rfl ?_
    refine x_aload (pc' := 12) rfl rfl rfl ?_
    refine x_getI (j := 7) (pc' := 15) rfl rfl rfl (by decide) rfl (by decide) rfl rfl ?_
    refine x_top (hP.1) ?_
    refine x_iload (pc' := 16) rfl rfl rfl ?_
    refine x_iload (pc' := 17) rfl rfl rfl ?_
    refine x_ishr (pc' := 18) rfl rfl ?_
    refine x_i2b (pc' := 19) rfl rfl ?_
    refine x_bast (pc' := 20) rfl rfl (by decide) rfl (by decide) (show _ < 400 by omega) ?_
    refine x_aload (pc' := 21) rfl rfl rfl ?_
    refine x_dup (pc' := 22) rfl rfl rfl ?_
    refine x_getI (j := 7) (pc' := 25) rfl rfl rfl (by decide) rfl (by decide) rfl rfl ?_
    refine x_top ((show bh_up2 D 211 tp.length (vp_nar .byte (x >>> (sI j &&& 31)).toInt8.toInt32) 205 7 = nI tp.length by rw [bh_up2_ne _ _ _ (by decide)]; exact hP.1)) ?_
    refine x_int (pc' := 26) (v := nI 1) rfl rfl rfl ?_
    refine y_iadd (pc' := 27) rfl rfl ?_
    refine x_putI (j := 7) (pc' := 30) rfl rfl rfl (by decide) rfl (by decide) rfl rfl ?_
    refine x_iinc (pc' := 33) (w := (-8)) (lv' := [_, _, _]) rfl rfl rfl rfl (by decide) (sI_s j hj) rfl ?_
    refine x_goto rfl ?_
    exact k
set_option maxRecDepth 20000 in
set_option maxHeartbeats 1000000 in
theorem w_X10_puts {D : Nat → Nat → Int32} {L : Nat → Nat → Int64} {Q : bh_Q} {tp : List Nat} {x : Int32} (hP : PM D tp) (hl : tp.length + 4 ≤ 400) (k1 : ∀ D', OG D D' → PM D' (tp ++ bys x) → Q none (hp D' L)) : bh_wc 1 m_X10_puts [.ref 205, .int x] (hp D L) Q := by
  refine x_start (lv0 := [_, _, _]) (Nat.le_of_ble_eq_true rfl) rfl ?_
  refine x_int (pc' := 2) (v := nI 24) rfl rfl rfl ?_
  refine x_istore (pc' := 3) (lv' := [_, _, _]) rfl rfl (by decide) rfl ?_
  have p0 := hP
  refine l_X10_puts (j := 0) (by decide) p0 (by first | omega | (simp only [List.length_append, List.length_cons, List.length_nil]; omega)) ?_
  have p1 := p0.s (c := byt x 0) (byt_b x 0 (by decide))
  refine l_X10_puts (j := 1) (by decide) p1 (by first | omega | (simp only [List.length_append, List.length_cons, List.length_nil]; omega)) ?_
  have p2 := p1.s (c := byt x 1) (byt_b x 1 (by decide))
  refine l_X10_puts (j := 2) (by decide) p2 (by first | omega | (simp only [List.length_append, List.length_cons, List.length_nil]; omega)) ?_
  have p3 := p2.s (c := byt x 2) (byt_b x 2 (by decide))
  refine l_X10_puts (j := 3) (by decide) p3 (by first | omega | (simp only [List.length_append, List.length_cons, List.length_nil]; omega)) ?_
  have p4 := p3.s (c := byt x 3) (byt_b x 3 (by decide))
  refine x_iload (pc' := 4) rfl rfl rfl ?_
  refine x_if_lt (pc' := 7) rfl rfl (fun _ => ?_) (fun c4 => absurd (by decide) c4)
  refine x_vret rfl rfl ?_
  rw [bys4] at p4
  exact k1 _ ⟨fun k a b => by rw [bh_up2_ne _ _ _ a, bh_up2_ne _ _ _ b, bh_up2_ne _ _ _ a, bh_up2_ne _ _ _ b, bh_up2_ne _ _ _ a, bh_up2_ne _ _ _ b, bh_up2_ne _ _ _ a, bh_up2_ne _ _ _ b], fun i a => by rw [up2_o a, bh_up2_ne _ _ _ (by decide), up2_o a, bh_up2_ne _ _ _ (by decide), up2_o a, bh_up2_ne _ _ _ (by decide), up2_o a, bh_up2_ne _ _ _ (by decide)]⟩ p4
set_option maxRecDepth 20000 in
set_option maxHeartbeats 1000000 in
theorem w_X6_hasRoom {D : Nat → Nat → Int32} {L : Nat → Nat → Int64} {Q : bh_Q} {tp : List Nat} {n : Nat} (hP : PC D tp) (hn : n < 1000) (k1 : tp.length + n ≤ 400 → Q (some (.int 1)) (hp D L)) (k0 : ¬ tp.length + n ≤ 400 → Q (some (.int 0)) (hp D L)) : bh_wc 1 m_X6_hasRoom [.ref 27, .int (nI n)] (hp D L) Q := by
  refine x_start (lv0 := [_, _]) (Nat.le_of_ble_eq_true rfl) rfl ?_
  refine x_aload (pc' := 1) rfl rfl rfl ?_
  refine x_getI (j := 1) (pc' := 4) rfl rfl rfl (by decide) rfl (by decide) rfl rfl ?_
  refine x_top (hP.2.1) ?_
  refine x_iload (pc' := 5) rfl rfl rfl ?_
  refine y_iadd (pc' := 6) rfl rfl ?_
  refine x_int (pc' := 9) (v := nI 400) rfl rfl rfl ?_
  refine y_ic_gt (pc' := 12) rfl rfl (by (have := hP.1; omega)) (by (have := hP.1; omega)) (fun c9 => ?_) (fun c9 => ?_)
  · refine x_int (pc' := 17) (v := nI 0) rfl rfl rfl ?_
    refine x_zret rfl rfl (by decide) ?_
    first
      | (exact k0 (by omega))
      | (exact k1 (by omega))
  · refine x_int (pc' := 13) (v := nI 1) rfl rfl rfl ?_
    refine x_goto rfl ?_
    refine x_zret rfl rfl (by decide) ?_
    first
      | (exact k0 (by omega))
      | (exact k1 (by omega))
set_option maxRecDepth 20000 in
set_option maxHeartbeats 1000000 in
theorem w_X9_feed {D : Nat → Nat → Int32} {L : Nat → Nat → Int64} {Q : bh_Q} {ps : List TW} {sh : Nat → Option TW} {tp : List Nat} {x1 x2 x3 x4 x5 : Int32} (hI : InvC D ps sh tp) (k0 : ¬ tp.length + 20 ≤ 400 → Q (some (.int (-1))) (hp D L)) (k1 : tp.length + 20 ≤ 400 → ∀ D', (∀ k, 205 ≤ k → D' k = D k) → tv D' = tv D → InvC D' ps sh (fdL tp x1 x2 x3 x4 x5) → Q (some (.int (nI (tp.length + 20)))) (hp D' L)) : bh_wc 2 m_X9_feed [.ref 0, .int x1, .int x2, .int x3, .int x4, .int x5] (hp D L) Q := by
  refine x_start (lv0 := [_, _, _, _, _, _]) (Nat.le_of_ble_eq_true rfl) rfl ?_
  obtain ⟨hH, hK, p0, h25⟩ := hI
  refine x_aload (pc' := 1) rfl rfl rfl ?_
  refine x_getR (pc' := 4) rfl rfl rfl (by decide) rfl (by decide) rfl rfl ?_
  refine x_int (pc' := 6) (v := nI 20) rfl rfl rfl ?_
  refine x_callV (pc' := 9) (d1 := 1) (Bs := [_]) rfl rfl rfl rfl rfl rfl rfl (Nat.le_of_ble_eq_true rfl) ⟨rfl, rfl⟩ (by decide) rfl (by decide) ?_
  refine w_X6_hasRoom (n := 20) p0 (by decide) (fun h6 => ?_) (fun h6 => ?_)
  · refine ⟨rfl, ?_⟩
    refine x_if_ne (pc' := 12) rfl rfl (fun _ => ?_) (fun c9 => absurd c9 (by decide))
    refine x_aload (pc' := 15) rfl rfl rfl ?_
    refine x_getR (pc' := 18) rfl rfl rfl (by decide) rfl (by decide) rfl rfl ?_
    refine x_iload (pc' := 19) rfl rfl rfl ?_
    refine x_callV (pc' := 22) (d1 := 1) (Bs := [_]) rfl rfl rfl rfl rfl rfl rfl (Nat.le_of_ble_eq_true rfl) ⟨rfl, rfl⟩ (by decide) rfl (by decide) ?_
    refine w_X6_append (tp := (tp)) p0 (by first | omega | (simp only [bys_len]; omega)) (fun D1 o1 p1 => ?_)
    refine ⟨rfl, ?_⟩
    refine x_aload (pc' := 23) rfl rfl rfl ?_
    refine x_getR (pc' := 26) rfl rfl rfl (by decide) rfl (by decide) rfl rfl ?_
    refine x_iload (pc' := 27) rfl rfl rfl ?_
    refine x_callV (pc' := 30) (d1 := 1) (Bs := [_]) rfl rfl rfl rfl rfl rfl rfl (Nat.le_of_ble_eq_true rfl) ⟨rfl, rfl⟩ (by decide) rfl (by decide) ?_
    refine w_X6_append (tp := (tp ++ bys x1)) p1 (by first | omega | (simp only [bys_len]; omega)) (fun D2 o2 p2 => ?_)
    refine ⟨rfl, ?_⟩
    refine x_aload (pc' := 31) rfl rfl rfl ?_
    refine x_getR (pc' := 34) rfl rfl rfl (by decide) rfl (by decide) rfl rfl ?_
    refine x_iload (pc' := 35) rfl rfl rfl ?_
    refine x_callV (pc' := 38) (d1 := 1) (Bs := [_]) rfl rfl rfl rfl rfl rfl rfl (Nat.le_of_ble_eq_true rfl) ⟨rfl, rfl⟩ (by decide) rfl (by decide) ?_
    refine w_X6_append (tp := (tp ++ bys x1 ++ bys x2)) p2 (by first | omega | (simp only [bys_len]; omega)) (fun D3 o3 p3 => ?_)
    refine ⟨rfl, ?_⟩
    refine x_aload (pc' := 39) rfl rfl rfl ?_
    refine x_getR (pc' := 42) rfl rfl rfl (by decide) rfl (by decide) rfl rfl ?_
    refine x_iload (pc' := 44) rfl rfl rfl ?_
    refine x_callV (pc' := 47) (d1 := 1) (Bs := [_]) rfl rfl rfl rfl rfl rfl rfl (Nat.le_of_ble_eq_true rfl) ⟨rfl, rfl⟩ (by decide) rfl (by decide) ?_
    refine w_X6_append (tp := (tp ++ bys x1 ++ bys x2 ++ bys x3)) p3 (by first | omega | (simp only [bys_len]; omega)) (fun D4 o4 p4 => ?_)
    refine ⟨rfl, ?_⟩
    refine x_aload (pc' := 48) rfl rfl rfl ?_
    refine x_getR (pc' := 51) rfl rfl rfl (by decide) rfl (by decide) rfl rfl ?_
    refine x_iload (pc' := 53) rfl rfl rfl ?_
    refine x_callV (pc' := 56) (d1 := 1) (Bs := [_]) rfl rfl rfl rfl rfl rfl rfl (Nat.le_of_ble_eq_true rfl) ⟨rfl, rfl⟩ (by decide) rfl (by decide) ?_
    refine w_X6_append (tp := (tp ++ bys x1 ++ bys x2 ++ bys x3 ++ bys x4)) p4 (by first | omega | (simp only [bys_len]; omega)) (fun D5 o5 p5 => ?_)
    refine ⟨rfl, ?_⟩
    refine x_aload (pc' := 57) rfl rfl rfl ?_
    refine x_getR (pc' := 60) rfl rfl rfl (by decide) rfl (by decide) rfl rfl ?_
    refine x_getI (j := 1) (pc' := 63) rfl rfl rfl (by decide) rfl (by decide) rfl rfl ?_
    refine x_top (p5.2.1.trans (congrArg nI (show (tp ++ bys x1 ++ bys x2 ++ bys x3 ++ bys x4 ++ bys x5).length = tp.length + 20 by simp only [bys_len]))) ?_
    refine x_iret rfl rfl ?_
    have oo := ((((o1.tr o2).tr o3).tr o4).tr o5)
    exact k1 h6 D5 (fun k hk => oo k (by omega) (by omega)) (tvt_off (t := 1) (fun j hj => oo _ (by omega) (by omega))) ⟨hH.off (by rw [oo 0 (by decide) (by decide)]) (by rw [oo 0 (by decide) (by decide)]) (fun k a b => oo k (by omega) (by omega)), hK.off (by rw [oo 0 (by decide) (by decide)]) (fun k a b => oo k (by omega) (by omega)), p5, by rw [oo 25 (by decide) (by decide)]; exact h25⟩
  · refine ⟨rfl, ?_⟩
    refine x_if_ne (pc' := 12) rfl rfl (fun c9 => absurd (by decide) c9) (fun _ => ?_)
    refine x_int (pc' := 13) (v := (-1)) rfl rfl rfl ?_
    refine x_iret rfl rfl ?_
    exact k0 h6
set_option maxRecDepth 20000 in
set_option maxHeartbeats 1000000 in
theorem w_X10_feed {D : Nat → Nat → Int32} {L : Nat → Nat → Int64} {Q : bh_Q} {T : TW} {ps : List TW} {sh : Nat → Option TW} {tp : List Nat} {x1 x2 x3 x4 x5 : Int32} (hI : InvM D T ps sh tp) (hl4 : tp.length ≤ 400) (k0 : ¬ tp.length + 20 ≤ 400 → Q (some (.int (-1))) (hp D L)) (k1 : tp.length + 20 ≤ 400 → ∀ D', (∀ k, k < 205 → D' k = D k) → InvM D' T ps sh (fdL tp x1 x2 x3 x4 x5) → Q (some (.int (nI (tp.length + 20)))) (hp D' L)) : bh_wc 2 m_X10_feed [.ref 205, .int x1, .int x2, .int x3, .int x4, .int x5] (hp D L) Q := by
  refine x_start (lv0 := [_, _, _, _, _, _]) (Nat.le_of_ble_eq_true rfl) rfl ?_
  obtain ⟨hR, hH, hK, p0⟩ := hI
  refine x_aload (pc' := 1) rfl rfl rfl ?_
  refine x_getI (j := 7) (pc' := 4) rfl rfl rfl (by decide) rfl (by decide) rfl rfl ?_
  refine x_top (p0.1) ?_
  refine x_int (pc' := 6) (v := nI 20) rfl rfl rfl ?_
  refine y_iadd (pc' := 7) rfl rfl ?_
  refine x_int (pc' := 10) (v := nI 400) rfl rfl rfl ?_
  refine y_ic_le (pc' := 13) rfl rfl (by (have := hl4; omega)) (by (have := hl4; omega)) (fun c10 => ?_) (fun c10 => ?_)
  · refine x_aload (pc' := 16) rfl rfl rfl ?_
    refine x_iload (pc' := 17) rfl rfl rfl ?_
    refine x_callV (pc' := 20) (d1 := 1) (Bs := [_]) rfl rfl rfl rfl rfl rfl rfl (Nat.le_of_ble_eq_true rfl) ⟨rfl, rfl⟩ (by decide) rfl (by decide) ?_
    refine w_X10_puts (tp := (tp)) p0 (by first | omega | (simp only [bys_len]; omega)) (fun D1 o1 p1 => ?_)
    refine ⟨rfl, ?_⟩
    refine x_aload (pc' := 21) rfl rfl rfl ?_
    refine x_iload (pc' := 22) rfl rfl rfl ?_
    refine x_callV (pc' := 25) (d1 := 1) (Bs := [_]) rfl rfl rfl rfl rfl rfl rfl (Nat.le_of_ble_eq_true rfl) ⟨rfl, rfl⟩ (by decide) rfl (by decide) ?_
    refine w_X10_puts (tp := (tp ++ bys x1)) p1 (by first | omega | (simp only [bys_len]; omega)) (fun D2 o2 p2 => ?_)
    refine ⟨rfl, ?_⟩
    refine x_aload (pc' := 26) rfl rfl rfl ?_
    refine x_iload (pc' := 27) rfl rfl rfl ?_
    refine x_callV (pc' := 30) (d1 := 1) (Bs := [_]) rfl rfl rfl rfl rfl rfl rfl (Nat.le_of_ble_eq_true rfl) ⟨rfl, rfl⟩ (by decide) rfl (by decide) ?_
    refine w_X10_puts (tp := (tp ++ bys x1 ++ bys x2)) p2 (by first | omega | (simp only [bys_len]; omega)) (fun D3 o3 p3 => ?_)
    refine ⟨rfl, ?_⟩
    refine x_aload (pc' := 31) rfl rfl rfl ?_
    refine x_iload (pc' := 33) rfl rfl rfl ?_
    refine x_callV (pc' := 36) (d1 := 1) (Bs := [_]) rfl rfl rfl rfl rfl rfl rfl (Nat.le_of_ble_eq_true rfl) ⟨rfl, rfl⟩ (by decide) rfl (by decide) ?_
    refine w_X10_puts (tp := (tp ++ bys x1 ++ bys x2 ++ bys x3)) p3 (by first | omega | (simp only [bys_len]; omega)) (fun D4 o4 p4 => ?_)
    refine ⟨rfl, ?_⟩
    refine x_aload (pc' := 37) rfl rfl rfl ?_
    refine x_iload (pc' := 39) rfl rfl rfl ?_
    refine x_callV (pc' := 42) (d1 := 1) (Bs := [_]) rfl rfl rfl rfl rfl rfl rfl (Nat.le_of_ble_eq_true rfl) ⟨rfl, rfl⟩ (by decide) rfl (by decide) ?_
    refine w_X10_puts (tp := (tp ++ bys x1 ++ bys x2 ++ bys x3 ++ bys x4)) p4 (by first | omega | (simp only [bys_len]; omega)) (fun D5 o5 p5 => ?_)
    refine ⟨rfl, ?_⟩
    refine x_aload (pc' := 43) rfl rfl rfl ?_
    refine x_getI (j := 7) (pc' := 46) rfl rfl rfl (by decide) rfl (by decide) rfl rfl ?_
    refine x_top (p5.1.trans (congrArg nI (show (tp ++ bys x1 ++ bys x2 ++ bys x3 ++ bys x4 ++ bys x5).length = tp.length + 20 by simp only [bys_len]))) ?_
    refine x_iret rfl rfl ?_
    have oo := ((((o1.tr o2).tr o3).tr o4).tr o5)
    exact k1 (by omega) D5 (fun k hk => oo.1 k (by omega) (by omega)) ⟨by rw [oo.1 206 (by decide) (by decide)]; exact hR, ⟨hH.1, (oo.2 5 (by decide)).trans hH.2.1, by rw [oo.1 208 (by decide) (by decide)]; exact hH.2.2⟩, (by unfold KM; rw [oo.1 209 (by decide) (by decide), oo.1 210 (by decide) (by decide)]; exact hK), p5⟩
  · refine x_int (pc' := 14) (v := (-1)) rfl rfl rfl ?_
    refine x_iret rfl rfl ?_
    exact k0 (by omega)
set_option maxRecDepth 20000 in
set_option maxHeartbeats 1000000 in
theorem w_X10_end {D : Nat → Nat → Int32} {L : Nat → Nat → Int64} {Q : bh_Q} {T : TW} {ps : List TW} {sh : Nat → Option TW} {tp : List Nat} {x : Int32} (hI : InvM D T ps sh tp) (h400 : tp.length ≤ 400) (k0 : ¬ okN (tp.length + 1) x → Q (some (.int (-1))) (hp D L)) (k1 : ∀ n, n ≤ tp.length → x = nI n → ∀ D', (∀ k, k < 205 → D' k = D k) → InvM D' T ps sh (tp.take n) → Q (some (.int (nI n))) (hp D' L)) : bh_wc 1 m_X10_end [.ref 205, .int x] (hp D L) Q := by
  refine x_start (lv0 := [_, _]) (Nat.le_of_ble_eq_true rfl) rfl ?_
  obtain ⟨hR, hH, hK, hP⟩ := hI
  refine x_iload (pc' := 1) rfl rfl rfl ?_
  refine x_if_lt (pc' := 4) rfl rfl (fun c1 => ?_) (fun c1 => ?_)
  · refine x_int (pc' := 13) (v := (-1)) rfl rfl rfl ?_
    refine x_iret rfl rfl ?_
    first
      | (exact k0 (okN_neg (by omega) c1))
      | (exact k0 (okN_gt (by omega) (Int32.not_le.mp c9)))
  · refine x_iload (pc' := 5) rfl rfl rfl ?_
    refine x_aload (pc' := 6) rfl rfl rfl ?_
    refine x_getI (j := 7) (pc' := 9) rfl rfl rfl (by decide) rfl (by decide) rfl rfl ?_
    refine x_top (hP.1) ?_
    refine x_ic_le (pc' := 12) rfl rfl (fun c9 => ?_) (fun c9 => ?_)
    · obtain ⟨n, hn, rfl⟩ := le_ofI (n := tp.length) c1 c9 (by omega)
      refine x_aload (pc' := 15) rfl rfl rfl ?_
      refine x_iload (pc' := 16) rfl rfl rfl ?_
      refine x_putI (j := 7) (pc' := 19) rfl rfl rfl (by decide) rfl (by decide) rfl rfl ?_
      refine x_iload (pc' := 20) rfl rfl rfl ?_
      refine x_iret rfl rfl ?_
      refine k1 n (by omega) rfl _ (fun k hk => bh_up2_ne _ _ _ (by omega)) ⟨by rw [bh_up2_ne _ _ _ (by decide)]; exact hR, ⟨hH.1, (up2_o (by decide)).trans hH.2.1, by rw [bh_up2_ne _ _ _ (by decide)]; exact hH.2.2⟩, (by unfold KM; rw [bh_up2_ne _ _ _ (by decide), bh_up2_ne _ _ _ (by decide)]; exact hK), ?_, fun i hi => ?_⟩
      · rw [List.length_take, Nat.min_eq_left (by omega)]; exact bh_up2_self _ _ _ _
      · rw [List.length_take] at hi
        have e : (tp.take n).getD i 0 = tp.getD i 0 := by rw [List.getD_eq_getElem?_getD, List.getElem?_take_of_lt (by omega), ← List.getD_eq_getElem?_getD]
        rw [e, bh_up2_ne _ _ _ (by decide)]
        exact hP.2 i (by omega)
    · refine x_int (pc' := 13) (v := (-1)) rfl rfl rfl ?_
      refine x_iret rfl rfl ?_
      first
        | (exact k0 (okN_neg (by omega) c1))
        | (exact k0 (okN_gt (by omega) (Int32.not_le.mp c9)))
/-! ===== the reference: undo, keep, back over the state ===== -/
theorem offl2 {a b k : Nat} {D D' : Nat → Nat → Int32} (h : OffL [a, b] D D') (h1 : k ≠ a) (h2 : k ≠ b) : D' k = D k := h k (by simp [h1, h2])
theorem v_X10_undo {D : Nat → Nat → Int32} {L : Nat → Nat → Int64} {Q : bh_Q} {T0 : TW} {ps : List TW} {sh : Nat → Option TW} {tp : List Nat} (hI : InvM D T0 ps sh tp) (hG : GP ps) (k0 : ps = [] → Q (some (.int (-1))) (hp D L)) (k1 : ∀ T qs, ps = T :: qs → ∀ D', (∀ k, k < 205 → D' k = D k) → InvM D' T qs sh tp → Q (some (.int (nI (ps.length - 1)))) (hp D' L)) : bh_wc 2 m_X10_undo [.ref 205] (hp D L) Q := by
  obtain ⟨hR, hH, hK, hP⟩ := hI
  refine w_X10_undo hH hG k0 (fun T qs e D1 o g r hh => k1 T qs e D1 (fun k hk => offl2 o (by omega) (by omega)) ⟨r, hh, ?_, ?_⟩)
  · unfold KM; rw [offl2 o (by decide) (by decide), offl2 o (by decide) (by decide)]; exact hK
  · unfold PM; rw [offl2 (k := 211) o (by decide) (by decide), g 7 (by decide)]; exact hP
theorem v_X10_keep {D : Nat → Nat → Int32} {L : Nat → Nat → Int64} {Q : bh_Q} {T : TW} {ps : List TW} {sh : Nat → Option TW} {tp : List Nat} {x : Int32} (hW : WF T) (hI : InvM D T ps sh tp) (hG : GS sh) (k0 : ¬ okN 2 x → Q (some (.int (-1))) (hp D L)) (k1 : ∀ s, s < 2 → x = nI s → ∀ D', (∀ k, k < 205 → D' k = D k) → InvM D' T ps (fun i => if i = s then some T else sh i) tp → Q (some (.int (nI (nw T)))) (hp D' L)) : bh_wc 2 m_X10_keep [.ref 205, .int x] (hp D L) Q := by
  obtain ⟨hR, hH, hK, hP⟩ := hI
  refine w_X10_keep hW hR hK hG k0 (fun s hs e D1 o hk => k1 s hs e D1 (fun k hk => offl2 o (by omega) (by omega)) ⟨?_, ⟨hH.1, ?_, ?_⟩, hk, ?_⟩)
  · rw [offl2 o (by decide) (by decide)]; exact hR
  · rw [offl2 o (by decide) (by decide)]; exact hH.2.1
  · rw [offl2 o (by decide) (by decide)]; exact hH.2.2
  · unfold PM; rw [offl2 (k := 211) o (by decide) (by decide), offl2 (k := 205) o (by decide) (by decide)]; exact hP
theorem v_X10_back {D : Nat → Nat → Int32} {L : Nat → Nat → Int64} {Q : bh_Q} {T0 : TW} {ps : List TW} {sh : Nat → Option TW} {tp : List Nat} {x : Int32} (hI : InvM D T0 ps sh tp) (hG : GS sh) (k0 : ¬ okN 2 x → Q (some (.int (-1))) (hp D L)) (k2 : ∀ s, s < 2 → x = nI s → sh s = none → Q (some (.int (-2))) (hp D L)) (k1 : ∀ s, s < 2 → x = nI s → ∀ T, sh s = some T → ∀ D', (∀ k, k < 205 → D' k = D k) → InvM D' T [] sh tp → Q (some (.int (nI (nw T)))) (hp D' L)) : bh_wc 2 m_X10_back [.ref 205, .int x] (hp D L) Q := by
  obtain ⟨hR, hH, hK, hP⟩ := hI
  refine w_X10_back hK hG k0 k2 (fun s hs e T eT D1 o g g5 r => k1 s hs e T eT D1 (fun k hk => offl2 o (by omega) (by omega)) ⟨r, ⟨Nat.zero_le _, g5, fun j hj => absurd hj (Nat.not_lt_zero j)⟩, ?_, ?_⟩)
  · unfold KM; rw [offl2 o (by decide) (by decide), offl2 o (by decide) (by decide)]; exact hK
  · unfold PM; rw [offl2 (k := 211) o (by decide) (by decide), g 7 (by decide)]; exact hP
