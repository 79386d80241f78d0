/-! ===== bits of a town; hands ===== -/
theorem tb1 {x w : Nat} : (x >>> w &&& 1) = 1 ↔ x.testBit w = true := by
  rw [tb]; split <;> simp_all
theorem tb0 {x w : Nat} : (x >>> w &&& 1) = 0 ↔ x.testBit w = false := by
  rw [tb]; split <;> simp_all
theorem and1 (x : Nat) : x &&& 1 < 2 ^ 31 := Nat.lt_of_le_of_lt Nat.and_le_right (by decide)
theorem getD_app {l m : List Nat} {i : Nat} (h : i < l.length) : (l ++ m).getD i 0 = l.getD i 0 := by
  rw [List.getD_eq_getElem?_getD, List.getElem?_append_left h, ← List.getD_eq_getElem?_getD]
def hdI : List Nat → Int32
  | [] => -1
  | x :: _ => nI x
/-- hands: each stands, each has the next under him -/
def isC (T : TW) : List Nat → Prop
  | [] => True
  | x :: r => x < nw T ∧ T 5 x = hdI r ∧ isC T r
def OffH (D D' : Nat → Nat → Int32) : Prop := ∀ k, k ≠ 31 → k ≠ 32 → D' k = D k
theorem OffH.rf {D : Nat → Nat → Int32} : OffH D D := fun _ _ _ => rfl
theorem OffH.tr {D D1 D2 : Nat → Nat → Int32} (h1 : OffH D D1) (h2 : OffH D1 D2) : OffH D D2 := fun k a b => (h2 k a b).trans (h1 k a b)
theorem OffH.up {D : Nat → Nat → Int32} {k j : Nat} {x : Int32} (hk : k = 31 ∨ k = 32) : OffH D (bh_up2 D k j x) := fun a h1 h2 => bh_up2_ne _ _ _ (by omega)
/-- the list lies in the hands' row -/
def HdL (D : Nat → Nat → Int32) (l : List Nat) : Prop := D 31 1 = nI l.length ∧ ∀ i, i < l.length → D 32 i = nI (l.getD i 0)
set_option maxRecDepth 20000 in
set_option maxHeartbeats 1000000 in
theorem w_X7_isDead {D : Nat → Nat → Int32} {L : Nat → Nat → Int64} {Q : bh_Q} (hW : WF (tv D)) {w : Nat} (hw : w < nw (tv D)) (k1 : isD (tv D) w = true → Q (some (.int 1)) (hp D L)) (k0 : isD (tv D) w = false → Q (some (.int 0)) (hp D L)) : bh_wc 1 m_X7_isDead [.ref 1, .int (nI w)] (hp D L) Q := by
  refine x_start (lv0 := [_, _]) (Nat.le_of_ble_eq_true rfl) rfl ?_
  have h12 := hW.nwl
  have hm := hW.de12
  refine x_aload (pc' := 1) rfl rfl rfl ?_
  refine x_getI (j := 5) (pc' := 4) rfl rfl rfl (by decide) rfl (by decide) rfl rfl ?_
  refine x_top (hW.ede) ?_
  refine x_iload (pc' := 5) rfl rfl rfl ?_
  refine y_ishr (pc' := 6) rfl rfl (by omega) (by omega) ?_
  refine x_int (pc' := 7) (v := nI 1) rfl rfl rfl ?_
  refine y_iand (pc' := 8) rfl rfl ?_
  refine x_int (pc' := 9) (v := nI 1) rfl rfl rfl ?_
  refine y_ic_ne (pc' := 12) rfl rfl (and1 _) (by decide) (fun c9 => ?_) (fun c9 => ?_)
  · refine x_int (pc' := 17) (v := nI 0) rfl rfl rfl ?_
    refine x_zret rfl rfl (by decide) ?_
    exact k0 (by rw [← Bool.not_eq_true]; exact fun e => c9 (tb1.mpr e))
  · refine x_int (pc' := 13) (v := nI 1) rfl rfl rfl ?_
    refine x_goto rfl ?_
    refine x_zret rfl rfl (by decide) ?_
    exact k1 (tb1.mp c9)
set_option maxRecDepth 20000 in
set_option maxHeartbeats 1000000 in
theorem w_X7_inMood {D : Nat → Nat → Int32} {L : Nat → Nat → Int64} {Q : bh_Q} (hW : WF (tv D)) {w : Nat} (hw : w < nw (tv D)) (k1 : isM (tv D) w = true → Q (some (.int 1)) (hp D L)) (k0 : isM (tv D) w = false → Q (some (.int 0)) (hp D L)) : bh_wc 1 m_X7_inMood [.ref 1, .int (nI w)] (hp D L) Q := by
  refine x_start (lv0 := [_, _]) (Nat.le_of_ble_eq_true rfl) rfl ?_
  have h12 := hW.nwl
  have hm := hW.mo12
  refine x_aload (pc' := 1) rfl rfl rfl ?_
  refine x_getI (j := 4) (pc' := 4) rfl rfl rfl (by decide) rfl (by decide) rfl rfl ?_
  refine x_top (hW.emo) ?_
  refine x_iload (pc' := 5) rfl rfl rfl ?_
  refine y_ishr (pc' := 6) rfl rfl (by omega) (by omega) ?_
  refine x_int (pc' := 7) (v := nI 1) rfl rfl rfl ?_
  refine y_iand (pc' := 8) rfl rfl ?_
  refine x_int (pc' := 9) (v := nI 1) rfl rfl rfl ?_
  refine y_ic_ne (pc' := 12) rfl rfl (and1 _) (by decide) (fun c9 => ?_) (fun c9 => ?_)
  · refine x_int (pc' := 17) (v := nI 0) rfl rfl rfl ?_
    refine x_zret rfl rfl (by decide) ?_
    exact k0 (by rw [← Bool.not_eq_true]; exact fun e => c9 (tb1.mpr e))
  · refine x_int (pc' := 13) (v := nI 1) rfl rfl rfl ?_
    refine x_goto rfl ?_
    refine x_zret rfl rfl (by decide) ?_
    exact k1 (tb1.mp c9)
set_option maxRecDepth 20000 in
set_option maxHeartbeats 1000000 in
theorem w_X7_hasStock {D : Nat → Nat → Int32} {L : Nat → Nat → Int64} {Q : bh_Q} (hW : WF (tv D)) {w b : Nat} (hw : w < nw (tv D)) (hb : b < nb (tv D)) (k1 : (sk (tv D) w).testBit b = true → Q (some (.int 1)) (hp D L)) (k0 : (sk (tv D) w).testBit b = false → Q (some (.int 0)) (hp D L)) : bh_wc 1 m_X7_hasStock [.ref 1, .int (nI w), .int (nI b)] (hp D L) Q := by
  refine x_start (lv0 := [_, _, _]) (Nat.le_of_ble_eq_true rfl) rfl ?_
  have h12 := hW.nwl
  have h4 := hW.nbl
  have hm := hW.sk4 hw
  refine x_aload (pc' := 1) rfl rfl rfl ?_
  refine x_getR (pc' := 4) rfl rfl rfl (by decide) rfl (by decide) rfl rfl ?_
  refine x_iload (pc' := 5) rfl rfl rfl ?_
  refine x_iald (pc' := 6) rfl rfl (by decide) rfl (by decide) (show _ < 12 by omega) ?_
  refine x_top (hW.esk hw) ?_
  refine x_iload (pc' := 7) rfl rfl rfl ?_
  refine y_ishr (pc' := 8) rfl rfl (by omega) (by omega) ?_
  refine x_int (pc' := 9) (v := nI 1) rfl rfl rfl ?_
  refine y_iand (pc' := 10) rfl rfl ?_
  refine x_int (pc' := 11) (v := nI 1) rfl rfl rfl ?_
  refine y_ic_ne (pc' := 14) rfl rfl (and1 _) (by decide) (fun c11 => ?_) (fun c11 => ?_)
  · refine x_int (pc' := 19) (v := nI 0) rfl rfl rfl ?_
    refine x_zret rfl rfl (by decide) ?_
    exact k0 (by rw [← Bool.not_eq_true]; exact fun e => c11 (tb1.mpr e))
  · refine x_int (pc' := 15) (v := nI 1) rfl rfl rfl ?_
    refine x_goto rfl ?_
    refine x_zret rfl rfl (by decide) ?_
    exact k1 (tb1.mp c11)
set_option maxRecDepth 20000 in
set_option maxHeartbeats 1000000 in
theorem w_X7_stockOf {D : Nat → Nat → Int32} {L : Nat → Nat → Int64} {Q : bh_Q} (hW : WF (tv D)) {w b q : Nat} (hw : w < nw (tv D)) (hb : b < nb (tv D)) (hp0 : q < lng (tv D) b) (hs : (sk (tv D) w).testBit b = true) (k1 : Q (some (.int (nI (stk (tv D) w b q)))) (hp D L)) : bh_wc 1 m_X7_stockOf [.ref 1, .int (nI w), .int (nI b), .int (nI q)] (hp D L) Q := by
  refine x_start (lv0 := [_, _, _, _]) (Nat.le_of_ble_eq_true rfl) rfl ?_
  have h12 := hW.nwl
  have h4 := hW.nbl
  have h8 := hW.lngl hb
  refine x_aload (pc' := 1) rfl rfl rfl ?_
  refine x_getR (pc' := 4) rfl rfl rfl (by decide) rfl (by decide) rfl rfl ?_
  refine x_iload (pc' := 5) rfl rfl rfl ?_
  refine x_int (pc' := 6) (v := nI 4) rfl rfl rfl ?_
  refine y_imul (pc' := 7) rfl rfl ?_
  refine x_iload (pc' := 8) rfl rfl rfl ?_
  refine y_iadd (pc' := 9) rfl rfl ?_
  refine x_int (pc' := 11) (v := nI 8) rfl rfl rfl ?_
  refine y_imul (pc' := 12) rfl rfl ?_
  refine x_iload (pc' := 13) rfl rfl rfl ?_
  refine y_iadd (pc' := 14) rfl rfl ?_
  refine x_iald (pc' := 15) rfl rfl (by decide) rfl (by decide) (show _ < 384 by omega) ?_
  refine x_top (hW.estk hw hb hp0 hs) ?_
  refine x_iret rfl rfl ?_
  exact k1
set_option maxRecDepth 20000 in
set_option maxHeartbeats 1000000 in
theorem w_X7_rowOf {D : Nat → Nat → Int32} {L : Nat → Nat → Int64} {Q : bh_Q} (hW : WF (tv D)) {b q : Nat} (hb : b < nb (tv D)) (hp0 : q < lng (tv D) b) (k1 : Q (some (.int (nI (pg (tv D) b q)))) (hp D L)) : bh_wc 1 m_X7_rowOf [.ref 1, .int (nI b), .int (nI q)] (hp D L) Q := by
  refine x_start (lv0 := [_, _, _]) (Nat.le_of_ble_eq_true rfl) rfl ?_
  have h4 := hW.nbl
  have h8 := hW.lngl hb
  refine x_aload (pc' := 1) rfl rfl rfl ?_
  refine x_getR (pc' := 4) rfl rfl rfl (by decide) rfl (by decide) rfl rfl ?_
  refine x_iload (pc' := 5) rfl rfl rfl ?_
  refine x_int (pc' := 7) (v := nI 8) rfl rfl rfl ?_
  refine y_imul (pc' := 8) rfl rfl ?_
  refine x_iload (pc' := 9) rfl rfl rfl ?_
  refine y_iadd (pc' := 10) rfl rfl ?_
  refine x_iald (pc' := 11) rfl rfl (by decide) rfl (by decide) (show _ < 32 by omega) ?_
  refine x_top (hW.epg hb hp0) ?_
  refine x_iret rfl rfl ?_
  exact k1
set_option maxRecDepth 20000 in
set_option maxHeartbeats 1000000 in
theorem w_X7_pageOfSeen {D : Nat → Nat → Int32} {L : Nat → Nat → Int64} {Q : bh_Q} (hW : WF (tv D)) {b i : Nat} (hb : b < nb (tv D)) (hi : i < 100) (k1 : Q (some (.int (nI (i % lng (tv D) b)))) (hp D L)) : bh_wc 1 m_X7_pageOfSeen [.ref 1, .int (nI b), .int (nI i)] (hp D L) Q := by
  refine x_start (lv0 := [_, _, _]) (Nat.le_of_ble_eq_true rfl) rfl ?_
  have h4 := hW.nbl
  have h8 := hW.lngl hb
  have h0 := hW.lng0 hb
  refine x_aload (pc' := 1) rfl rfl rfl ?_
  refine x_getR (pc' := 4) rfl rfl rfl (by decide) rfl (by decide) rfl rfl ?_
  refine x_iload (pc' := 5) rfl rfl rfl ?_
  refine x_iald (pc' := 6) rfl rfl (by decide) rfl (by decide) (show _ < 4 by omega) ?_
  refine x_top (hW.elng hb) ?_
  refine y_if_le (pc' := 9) rfl rfl (by omega) (fun c6 => ?_) (fun c6 => ?_)
  · exact absurd c6 (by omega)
  · refine x_iload (pc' := 10) rfl rfl rfl ?_
    refine x_aload (pc' := 11) rfl rfl rfl ?_
    refine x_getR (pc' := 14) rfl rfl rfl (by decide) rfl (by decide) rfl rfl ?_
    refine x_iload (pc' := 15) rfl rfl rfl ?_
    refine x_iald (pc' := 16) rfl rfl (by decide) rfl (by decide) (show _ < 4 by omega) ?_
    refine x_top (hW.elng hb) ?_
    refine y_irem (pc' := 17) rfl rfl (by omega) (by omega) (by omega) ?_
    refine x_goto rfl ?_
    refine x_iret rfl rfl ?_
    exact k1
set_option maxRecDepth 20000 in
set_option maxHeartbeats 1000000 in
theorem w_X7_habitOn {D : Nat → Nat → Int32} {L : Nat → Nat → Int64} {Q : bh_Q} (hW : WF (tv D)) {w row : Nat} (hw : w < nw (tv D)) (hr : row < 65536) (k1 : Q (some (.int (nI (hab (kd (tv D) w) (fa (tv D) w) (fb (tv D) w) row)))) (hp D L)) : bh_wc 2 m_X7_habitOn [.ref 1, .int (nI w), .int (nI row)] (hp D L) Q := by
  refine x_start (lv0 := [_, _, _]) (Nat.le_of_ble_eq_true rfl) rfl ?_
  have h12 := hW.nwl
  refine x_aload (pc' := 1) rfl rfl rfl ?_
  refine x_getR (pc' := 4) rfl rfl rfl (by decide) rfl (by decide) rfl rfl ?_
  refine x_iload (pc' := 5) rfl rfl rfl ?_
  refine x_iald (pc' := 6) rfl rfl (by decide) rfl (by decide) (show _ < 12 by omega) ?_
  refine x_top (hW.ekd hw) ?_
  refine x_aload (pc' := 7) rfl rfl rfl ?_
  refine x_getR (pc' := 10) rfl rfl rfl (by decide) rfl (by decide) rfl rfl ?_
  refine x_iload (pc' := 11) rfl rfl rfl ?_
  refine x_iald (pc' := 12) rfl rfl (by decide) rfl (by decide) (show _ < 12 by omega) ?_
  refine x_top (hW.efa hw) ?_
  refine x_aload (pc' := 13) rfl rfl rfl ?_
  refine x_getR (pc' := 16) rfl rfl rfl (by decide) rfl (by decide) rfl rfl ?_
  refine x_iload (pc' := 17) rfl rfl rfl ?_
  refine x_iald (pc' := 18) rfl rfl (by decide) rfl (by decide) (show _ < 12 by omega) ?_
  refine x_top (hW.efb hw) ?_
  refine x_iload (pc' := 19) rfl rfl rfl ?_
  refine x_callS (pc' := 22) (d1 := 1) (As := [_, _, _, _]) rfl rfl rfl rfl (by decide) rfl rfl (Nat.le_of_ble_eq_true rfl) ⟨rfl, rfl⟩ (by decide) ?_
  refine w_X1_changeRow (hW.ehok hw) hr ?_
  refine ⟨rfl, ?_⟩
  refine x_iret rfl rfl ?_
  exact k1
set_option maxRecDepth 20000 in
set_option maxHeartbeats 1000000 in
theorem w_X7_hasHabit {D : Nat → Nat → Int32} {L : Nat → Nat → Int64} {Q : bh_Q} (hW : WF (tv D)) {w k a b : Nat} (hw : w < nw (tv D)) (hk : k < 100) (ha : a < 100) (hb : b < 100) (k1 : kd (tv D) w = k → fa (tv D) w = a → fb (tv D) w = b → Q (some (.int 1)) (hp D L)) (k0 : ¬ (kd (tv D) w = k ∧ fa (tv D) w = a ∧ fb (tv D) w = b) → Q (some (.int 0)) (hp D L)) : bh_wc 1 m_X7_hasHabit [.ref 1, .int (nI w), .int (nI k), .int (nI a), .int (nI b)] (hp D L) Q := by
  refine x_start (lv0 := [_, _, _, _, _]) (Nat.le_of_ble_eq_true rfl) rfl ?_
  have h12 := hW.nwl
  refine x_aload (pc' := 1) rfl rfl rfl ?_
  refine x_getR (pc' := 4) rfl rfl rfl (by decide) rfl (by decide) rfl rfl ?_
  refine x_iload (pc' := 5) rfl rfl rfl ?_
  refine x_iald (pc' := 6) rfl rfl (by decide) rfl (by decide) (show _ < 12 by omega) ?_
  refine x_top (hW.ekd hw) ?_
  refine x_iload (pc' := 7) rfl rfl rfl ?_
  refine y_ic_ne (pc' := 10) rfl rfl (by first | omega | (have := hW.kdl hw; have := hW.fal hw; have := hW.fbl hw; omega)) (by first | omega | (have := hW.kdl hw; have := hW.fal hw; have := hW.fbl hw; omega)) (fun c7 => ?_) (fun c7 => ?_)
  · refine x_int (pc' := 36) (v := nI 0) rfl rfl rfl ?_
    refine x_zret rfl rfl (by decide) ?_
    first | exact k0 (fun h => c7 h.1) | exact k0 (fun h => c17 h.2.1) | exact k0 (fun h => c28 h.2.2)
  · refine x_aload (pc' := 11) rfl rfl rfl ?_
    refine x_getR (pc' := 14) rfl rfl rfl (by decide) rfl (by decide) rfl rfl ?_
    refine x_iload (pc' := 15) rfl rfl rfl ?_
    refine x_iald (pc' := 16) rfl rfl (by decide) rfl (by decide) (show _ < 12 by omega) ?_
    refine x_top (hW.efa hw) ?_
    refine x_iload (pc' := 17) rfl rfl rfl ?_
    refine y_ic_ne (pc' := 20) rfl rfl (by first | omega | (have := hW.kdl hw; have := hW.fal hw; have := hW.fbl hw; omega)) (by first | omega | (have := hW.kdl hw; have := hW.fal hw; have := hW.fbl hw; omega)) (fun c17 => ?_) (fun c17 => ?_)
    · refine x_int (pc' := 36) (v := nI 0) rfl rfl rfl ?_
      refine x_zret rfl rfl (by decide) ?_
      first | exact k0 (fun h => c7 h.1) | exact k0 (fun h => c17 h.2.1) | exact k0 (fun h => c28 h.2.2)
    · refine x_aload (pc' := 21) rfl rfl rfl ?_
      refine x_getR (pc' := 24) rfl rfl rfl (by decide) rfl (by decide) rfl rfl ?_
      refine x_iload (pc' := 25) rfl rfl rfl ?_
      refine x_iald (pc' := 26) rfl rfl (by decide) rfl (by decide) (show _ < 12 by omega) ?_
      refine x_top (hW.efb hw) ?_
      refine x_iload (pc' := 28) rfl rfl rfl ?_
      refine y_ic_ne (pc' := 31) rfl rfl (by first | omega | (have := hW.kdl hw; have := hW.fal hw; have := hW.fbl hw; omega)) (by first | omega | (have := hW.kdl hw; have := hW.fal hw; have := hW.fbl hw; omega)) (fun c28 => ?_) (fun c28 => ?_)
      · refine x_int (pc' := 36) (v := nI 0) rfl rfl rfl ?_
        refine x_zret rfl rfl (by decide) ?_
        first | exact k0 (fun h => c7 h.1) | exact k0 (fun h => c17 h.2.1) | exact k0 (fun h => c28 h.2.2)
      · refine x_int (pc' := 32) (v := nI 1) rfl rfl rfl ?_
        refine x_goto rfl ?_
        refine x_zret rfl rfl (by decide) ?_
        exact k1 c7 c17 c28
set_option maxRecDepth 20000 in
theorem l_X2_lud {T : TW} {dd d : Nat} {L : Nat → Nat → Int64} {Q : bh_Q} {wv : Value} (hdd : dd < 4096) (hnw : nw T ≤ 12) : ∀ (r px : List Nat) (D : Nat → Nat → Int32), isC T r → px.length + r.length ≤ 12 → D 6 = T 5 → D 31 1 = nI px.length → (∀ i, i < px.length → D 32 i = nI (px.getD i 0)) →
    (∀ D', OffH D D' → HdL D' (px ++ r.takeWhile (fun y => !dd.testBit y)) → Q (some (.int (hdI (r.dropWhile (fun y => !dd.testBit y))))) (hp D' L)) → bw m_X2_listUntilDead d Q 8 [.ref 31, .ref 1, wv, .int (nI dd), .int (hdI r)] [] D L := by
  intro r
  induction r with
  | nil =>
    intro px D hC hlen h6 hm hl k
    refine x_iload (pc' := 10) rfl rfl rfl ?_
    refine x_int (pc' := 11) (v := (-1)) rfl rfl rfl ?_
    refine x_ic_eq (pc' := 14) rfl rfl (fun _ => ?_) (fun c11 => absurd (by decide) c11)
    refine x_iload (pc' := 67) rfl rfl rfl ?_
    refine x_iret rfl rfl ?_
    refine k D OffH.rf ⟨?_, ?_⟩
    · simpa using hm
    · simpa using hl
  | cons x r ih =>
    intro px D hC hlen h6 hm hl k
    obtain ⟨hx0, hx1, hx2⟩ := hC
    rw [List.length_cons] at hlen
    show bw m_X2_listUntilDead d Q 8 [.ref 31, .ref 1, wv, .int (nI dd), .int (nI x)] [] D L
    refine x_iload (pc' := 10) rfl rfl rfl ?_
    refine x_int (pc' := 11) (v := (-1)) rfl rfl rfl ?_
    refine x_ic_eq (pc' := 14) rfl rfl (fun c11 => ?_) (fun c11 => ?_)
    · exact absurd c11 (nI_m1 (by omega))
    · refine x_aload (pc' := 15) rfl rfl rfl ?_
      refine x_getI (j := 1) (pc' := 18) rfl rfl rfl (by decide) rfl (by decide) rfl rfl ?_
      refine x_top (hm) ?_
      refine x_int (pc' := 20) (v := nI 12) rfl rfl rfl ?_
      refine y_ic_ge (pc' := 23) rfl rfl (by omega) (by omega) (fun c20 => ?_) (fun c20 => ?_)
      · exact absurd c20 (by omega)
      · refine x_iload (pc' := 24) rfl rfl rfl ?_
        refine x_iload (pc' := 26) rfl rfl rfl ?_
        refine y_ishr (pc' := 27) rfl rfl (by omega) (by omega) ?_
        refine x_int (pc' := 28) (v := nI 1) rfl rfl rfl ?_
        refine y_iand (pc' := 29) rfl rfl ?_
        refine y_if_ne (pc' := 32) rfl rfl (and1 _) (fun c29 => ?_) (fun c29 => ?_)
        · refine x_iload (pc' := 67) rfl rfl rfl ?_
          refine x_iret rfl rfl ?_
          have hb : dd.testBit x = true := by rw [← Bool.not_eq_false]; exact fun e => c29 (tb0.mpr e)
          have e1 : (x :: r).takeWhile (fun y => !dd.testBit y) = [] := by simp [List.takeWhile, hb]
          have e2 : (x :: r).dropWhile (fun y => !dd.testBit y) = x :: r := by simp [List.dropWhile, hb]
          rw [e1, e2] at k
          refine k D OffH.rf ⟨?_, ?_⟩
          · simpa using hm
          · simpa using hl
        · refine x_aload (pc' := 33) rfl rfl rfl ?_
          refine x_getR (pc' := 36) rfl rfl rfl (by decide) rfl (by decide) rfl rfl ?_
          refine x_aload (pc' := 37) rfl rfl rfl ?_
          refine x_getI (j := 1) (pc' := 40) rfl rfl rfl (by decide) rfl (by decide) rfl rfl ?_
          refine x_top (hm) ?_
          refine x_iload (pc' := 42) rfl rfl rfl ?_
          refine x_iast (pc' := 43) rfl rfl (by decide) rfl (by decide) (show _ < 12 by omega) ?_
          refine x_aload (pc' := 44) rfl rfl rfl ?_
          refine x_dup (pc' := 45) rfl rfl rfl ?_
          refine x_getI (j := 1) (pc' := 48) rfl rfl rfl (by decide) rfl (by decide) rfl rfl ?_
          refine x_top (hm) ?_
          refine x_int (pc' := 49) (v := nI 1) rfl rfl rfl ?_
          refine y_iadd (pc' := 50) rfl rfl ?_
          refine x_putI (j := 1) (pc' := 53) rfl rfl rfl (by decide) rfl (by decide) rfl rfl ?_
          refine x_aload (pc' := 54) rfl rfl rfl ?_
          refine x_getR (pc' := 57) rfl rfl rfl (by decide) rfl (by decide) rfl rfl ?_
          refine x_iload (pc' := 59) rfl rfl rfl ?_
          refine x_iald (pc' := 60) rfl rfl (by decide) rfl (by decide) (show _ < 12 by omega) ?_
          refine x_top ((congrFun h6 _).trans hx1) ?_
          refine x_istore (pc' := 62) (lv' := [_, _, _, _, _]) rfl rfl (by decide) rfl ?_
          refine x_goto rfl ?_
          have hb : dd.testBit x = false := tb0.mp c29
          have e1 : (x :: r).takeWhile (fun y => !dd.testBit y) = x :: r.takeWhile (fun y => !dd.testBit y) := by simp [List.takeWhile, hb]
          have e2 : (x :: r).dropWhile (fun y => !dd.testBit y) = r.dropWhile (fun y => !dd.testBit y) := by simp [List.dropWhile, hb]
          rw [e1, e2] at k
          refine ih (px ++ [x]) _ hx2 (by simp; omega) h6 ?_ ?_ (fun D1 o1 hd1 => ?_)
          · show nI (px.length + 1) = _
            simp
          · intro i hi
            rw [List.length_append] at hi
            have hi2 : i < px.length + 1 := hi
            show (bh_up2 D 32 px.length (nI x)) 32 i = _
            rw [bh_up2_k]
            dsimp only
            by_cases e : i = px.length
            · rw [if_pos e, e]; simp
            · rw [if_neg e, hl i (by omega), getD_app (by omega)]
          · refine k D1 (OffH.tr (OffH.tr (OffH.up (Or.inr rfl)) (OffH.up (Or.inl rfl))) o1) ?_
            rw [List.append_assoc] at hd1
            exact hd1
/-- the hands of a writer who stands -/
def isH (T : TW) (w : Nat) : Prop := isC T (ch T w) ∧ (ch T w).length ≤ 12 ∧ nI w = hdI (ch T w)
set_option maxRecDepth 20000 in
set_option maxHeartbeats 1000000 in
theorem w_X2_listUntilDead {D : Nat → Nat → Int32} {L : Nat → Nat → Int64} {Q : bh_Q} (hW : WF (tv D)) {w dd : Nat} (hdd : dd < 4096) (hC : isH (tv D) w) (k1 : ∀ D', OffH D D' → HdL D' ((ch (tv D) w).takeWhile (fun y => !dd.testBit y)) → Q (some (.int (hdI ((ch (tv D) w).dropWhile (fun y => !dd.testBit y))))) (hp D' L)) : bh_wc 1 m_X2_listUntilDead [.ref 31, .ref 1, .int (nI w), .int (nI dd)] (hp D L) Q := by
  have hhd := hC.2.2
  generalize hwv : nI w = wi at hhd ⊢
  subst hhd
  refine x_start (lv0 := [_, _, _, _, _]) (Nat.le_of_ble_eq_true rfl) rfl ?_
  refine x_aload (pc' := 1) rfl rfl rfl ?_
  refine x_int (pc' := 2) (v := nI 0) rfl rfl rfl ?_
  refine x_putI (j := 1) (pc' := 5) rfl rfl rfl (by decide) rfl (by decide) rfl rfl ?_
  refine x_iload (pc' := 6) rfl rfl rfl ?_
  refine x_istore (pc' := 8) (lv' := [_, _, _, _, _]) rfl rfl (by decide) rfl ?_
  exact l_X2_lud hdd hW.nwl (ch (tv D) w) [] _ hC.1 (by simpa using hC.2.1) rfl rfl (fun i hi => absurd hi (Nat.not_lt_zero i)) (fun D1 o1 h1 => k1 D1 (OffH.tr (OffH.up (Or.inl rfl)) o1) h1)
