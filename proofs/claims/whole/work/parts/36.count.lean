/-! ===== writer, count ===== -/
theorem tabs13 (x : Int32) : x = nI 0 ∨ x = nI 1 ∨ x = nI 2 ∨ x = nI 3 ∨ x = nI 4 ∨ x = nI 5 ∨ x = nI 6 ∨ x = nI 7 ∨ x = nI 8 ∨ x = nI 9 ∨ x = nI 10 ∨ x = nI 11 ∨ x = nI 12 ∨ (x < 0 ∨ nI 13 ≤ x) := by
  by_cases h0 : x < 0
  · iterate 13 apply Or.inr
    exact Or.inl h0
  by_cases h1 : nI 13 ≤ x
  · iterate 13 apply Or.inr
    exact Or.inr h1
  obtain ⟨j, hj, rfl⟩ := le_of (n := 12) (by decide) h0 (fun q => h1 (by have := Int32.lt_iff_toInt_lt.mp q; rw [Int32.le_iff_toInt_le]; rw [nI_toInt (by decide)] at *; omega))
  have : j = 0 ∨ j = 1 ∨ j = 2 ∨ j = 3 ∨ j = 4 ∨ j = 5 ∨ j = 6 ∨ j = 7 ∨ j = 8 ∨ j = 9 ∨ j = 10 ∨ j = 11 ∨ j = 12 := by omega
  rcases this with rfl | rfl | rfl | rfl | rfl | rfl | rfl | rfl | rfl | rfl | rfl | rfl | rfl
  · exact Or.inl rfl
  · iterate 1 apply Or.inr
    exact Or.inl rfl
  · iterate 2 apply Or.inr
    exact Or.inl rfl
  · iterate 3 apply Or.inr
    exact Or.inl rfl
  · iterate 4 apply Or.inr
    exact Or.inl rfl
  · iterate 5 apply Or.inr
    exact Or.inl rfl
  · iterate 6 apply Or.inr
    exact Or.inl rfl
  · iterate 7 apply Or.inr
    exact Or.inl rfl
  · iterate 8 apply Or.inr
    exact Or.inl rfl
  · iterate 9 apply Or.inr
    exact Or.inl rfl
  · iterate 10 apply Or.inr
    exact Or.inl rfl
  · iterate 11 apply Or.inr
    exact Or.inl rfl
  · iterate 12 apply Or.inr
    exact Or.inl rfl

theorem tabs14 (x : Int32) : x = nI 0 ∨ x = nI 1 ∨ x = nI 2 ∨ x = nI 3 ∨ x = nI 4 ∨ x = nI 5 ∨ x = nI 6 ∨ x = nI 7 ∨ x = nI 8 ∨ x = nI 9 ∨ x = nI 10 ∨ x = nI 11 ∨ x = nI 12 ∨ x = nI 13 ∨ (x < 0 ∨ nI 14 ≤ x) := by
  by_cases h0 : x < 0
  · iterate 14 apply Or.inr
    exact Or.inl h0
  by_cases h1 : nI 14 ≤ x
  · iterate 14 apply Or.inr
    exact Or.inr h1
  obtain ⟨j, hj, rfl⟩ := le_of (n := 13) (by decide) h0 (fun q => h1 (by have := Int32.lt_iff_toInt_lt.mp q; rw [Int32.le_iff_toInt_le]; rw [nI_toInt (by decide)] at *; omega))
  have : j = 0 ∨ j = 1 ∨ j = 2 ∨ j = 3 ∨ j = 4 ∨ j = 5 ∨ j = 6 ∨ j = 7 ∨ j = 8 ∨ j = 9 ∨ j = 10 ∨ j = 11 ∨ j = 12 ∨ j = 13 := by omega
  rcases this with rfl | rfl | rfl | rfl | rfl | rfl | rfl | rfl | rfl | rfl | rfl | rfl | rfl | rfl
  · exact Or.inl rfl
  · iterate 1 apply Or.inr
    exact Or.inl rfl
  · iterate 2 apply Or.inr
    exact Or.inl rfl
  · iterate 3 apply Or.inr
    exact Or.inl rfl
  · iterate 4 apply Or.inr
    exact Or.inl rfl
  · iterate 5 apply Or.inr
    exact Or.inl rfl
  · iterate 6 apply Or.inr
    exact Or.inl rfl
  · iterate 7 apply Or.inr
    exact Or.inl rfl
  · iterate 8 apply Or.inr
    exact Or.inl rfl
  · iterate 9 apply Or.inr
    exact Or.inl rfl
  · iterate 10 apply Or.inr
    exact Or.inl rfl
  · iterate 11 apply Or.inr
    exact Or.inl rfl
  · iterate 12 apply Or.inr
    exact Or.inl rfl
  · iterate 13 apply Or.inr
    exact Or.inl rfl

def wrQ (T : TW) (w : Nat) (j : Nat) : Int32 := match j with
  | 0 => T 1 w
  | 1 => T 2 w
  | 2 => if 0 < sg (kd T w) then T 3 w else -1
  | 3 => if 1 < sg (kd T w) then T 4 w else -1
  | 4 => T 5 w
  | 5 => nI (ch T w).length
  | 6 => lowI (ch T w)
  | 7 => T 6 w
  | 8 => T 7 w
  | 9 => nI (if isM T w then 1 else 0)
  | 10 => nI (if isD T w then 1 else 0)
  | 11 => T 8 w
  | 12 => nI (overS T (nI w))
  | _ => -2147483648
def writerQ (T : TW) (x y : Int32) : Int32 := match dN (nw T) x with
  | none => -2147483648
  | some w => match dN 13 y with
    | some j => wrQ T w j
    | none => -2147483648
theorem writerQ_j {T : TW} (hW : WF T) {w j : Nat} (hw : w < nw T) (hj : j < 13) : writerQ T (nI w) (nI j) = wrQ T w j := by
  have h12 := hW.nwl
  unfold writerQ
  rw [dN_some hw (by omega)]
  dsimp only
  rw [dN_some hj (by decide)]
theorem okN_out {n : Nat} {x : Int32} (hn : n < 2 ^ 31) (h : x < 0 ∨ nI n ≤ x) : ¬ okN n x := by rcases h with h | h; exact okN_neg hn h; exact okN_ge hn h
theorem writerQ_o {T : TW} (hW : WF T) {w : Nat} {y : Int32} (hw : w < nw T) (h : y < 0 ∨ nI 13 ≤ y) : writerQ T (nI w) y = -2147483648 := by
  have h12 := hW.nwl
  unfold writerQ
  rw [dN_some hw (by omega)]
  dsimp only
  rw [dN_none (by decide) (okN_out (by decide) h)]
theorem writerQ_n {T : TW} (hW : WF T) {x y : Int32} (h : ¬ okN (nw T) x) : writerQ T x y = -2147483648 := by
  have h12 := hW.nwl
  unfold writerQ
  rw [dN_none (by omega) h]
set_option maxRecDepth 20000 in
set_option maxHeartbeats 1000000 in
theorem w_X9_writer {D : Nat → Nat → Int32} {L : Nat → Nat → Int64} {Q : bh_Q} (hW : WF (tv D)) {x y : Int32} (k1 : ∀ D1, OffC D D1 → Q (some (.int (writerQ (tv D) x y))) (hp D1 L)) : bh_wc 4 m_X9_writer [.ref 0, .int x, .int y] (hp D L) Q := by
  refine x_start (lv0 := [_, _, _]) (Nat.le_of_ble_eq_true rfl) rfl ?_
  have h12 := hW.nwl
  refine x_aload (pc' := 1) rfl rfl rfl ?_
  refine x_getR (pc' := 4) rfl rfl rfl (by decide) rfl (by decide) rfl rfl ?_
  refine x_iload (pc' := 5) rfl rfl rfl ?_
  refine x_callV (pc' := 8) (d1 := 1) (Bs := [_]) rfl rfl rfl rfl rfl rfl rfl (Nat.le_of_ble_eq_true rfl) ⟨rfl, rfl⟩ (by decide) rfl (by decide) ?_
  refine w_X7_isWriter hW (fun h5w h5l e => ?_) (fun h5 => ?_)
  · subst e
    refine ⟨rfl, ?_⟩
    refine x_if_ne (pc' := 11) rfl rfl (fun _ => ?_) (fun c8 => absurd c8 (by decide))
    refine x_iload (pc' := 15) rfl rfl rfl ?_
    rcases tabs13 y with rfl | rfl | rfl | rfl | rfl | rfl | rfl | rfl | rfl | rfl | rfl | rfl | rfl | hout
    · refine x_tabN (n := 0) (t := 80) rfl (by decide) rfl ?_
      refine x_aload (pc' := 81) rfl rfl rfl ?_
      refine x_getR (pc' := 84) rfl rfl rfl (by decide) rfl (by decide) rfl rfl ?_
      refine x_getR (pc' := 87) rfl rfl rfl (by decide) rfl (by decide) rfl rfl ?_
      refine x_iload (pc' := 88) rfl rfl rfl ?_
      refine x_iald (pc' := 89) rfl rfl (by decide) rfl (by decide) (show _ < 12 by omega) ?_
      refine x_iret rfl rfl ?_
      rw [writerQ_j hW h5l (j := 0) (by decide)] at k1
      exact k1 D OffC.rf
    · refine x_tabN (n := 1) (t := 90) rfl (by decide) rfl ?_
      refine x_aload (pc' := 91) rfl rfl rfl ?_
      refine x_getR (pc' := 94) rfl rfl rfl (by decide) rfl (by decide) rfl rfl ?_
      refine x_getR (pc' := 97) rfl rfl rfl (by decide) rfl (by decide) rfl rfl ?_
      refine x_iload (pc' := 98) rfl rfl rfl ?_
      refine x_iald (pc' := 99) rfl rfl (by decide) rfl (by decide) (show _ < 12 by omega) ?_
      refine x_iret rfl rfl ?_
      rw [writerQ_j hW h5l (j := 1) (by decide)] at k1
      exact k1 D OffC.rf
    · refine x_tabN (n := 2) (t := 100) rfl (by decide) rfl ?_
      refine x_aload (pc' := 101) rfl rfl rfl ?_
      refine x_getR (pc' := 104) rfl rfl rfl (by decide) rfl (by decide) rfl rfl ?_
      refine x_getR (pc' := 107) rfl rfl rfl (by decide) rfl (by decide) rfl rfl ?_
      refine x_iload (pc' := 108) rfl rfl rfl ?_
      refine x_iald (pc' := 109) rfl rfl (by decide) rfl (by decide) (show _ < 12 by omega) ?_
      refine x_top (hW.ekd h5l) ?_
      refine x_aload (pc' := 110) rfl rfl rfl ?_
      refine x_getR (pc' := 113) rfl rfl rfl (by decide) rfl (by decide) rfl rfl ?_
      refine x_getR (pc' := 116) rfl rfl rfl (by decide) rfl (by decide) rfl rfl ?_
      refine x_iload (pc' := 117) rfl rfl rfl ?_
      refine x_iald (pc' := 118) rfl rfl (by decide) rfl (by decide) (show _ < 12 by omega) ?_
      refine x_callS (pc' := 121) (d1 := 2) (As := [_, _]) rfl rfl rfl rfl (by decide) rfl rfl (Nat.le_of_ble_eq_true rfl) ⟨rfl, rfl⟩ (by decide) ?_
      refine w_X1_firstSign (hW.kdl h5l) ?_
      refine ⟨rfl, ?_⟩
      refine x_iret rfl rfl ?_
      rw [writerQ_j hW h5l (j := 2) (by decide)] at k1
      exact k1 D OffC.rf
    · refine x_tabN (n := 3) (t := 122) rfl (by decide) rfl ?_
      refine x_aload (pc' := 123) rfl rfl rfl ?_
      refine x_getR (pc' := 126) rfl rfl rfl (by decide) rfl (by decide) rfl rfl ?_
      refine x_getR (pc' := 129) rfl rfl rfl (by decide) rfl (by decide) rfl rfl ?_
      refine x_iload (pc' := 130) rfl rfl rfl ?_
      refine x_iald (pc' := 131) rfl rfl (by decide) rfl (by decide) (show _ < 12 by omega) ?_
      refine x_top (hW.ekd h5l) ?_
      refine x_aload (pc' := 132) rfl rfl rfl ?_
      refine x_getR (pc' := 135) rfl rfl rfl (by decide) rfl (by decide) rfl rfl ?_
      refine x_getR (pc' := 138) rfl rfl rfl (by decide) rfl (by decide) rfl rfl ?_
      refine x_iload (pc' := 139) rfl rfl rfl ?_
      refine x_iald (pc' := 140) rfl rfl (by decide) rfl (by decide) (show _ < 12 by omega) ?_
      refine x_callS (pc' := 143) (d1 := 2) (As := [_, _]) rfl rfl rfl rfl (by decide) rfl rfl (Nat.le_of_ble_eq_true rfl) ⟨rfl, rfl⟩ (by decide) ?_
      refine w_X1_secondSign (hW.kdl h5l) ?_
      refine ⟨rfl, ?_⟩
      refine x_iret rfl rfl ?_
      rw [writerQ_j hW h5l (j := 3) (by decide)] at k1
      exact k1 D OffC.rf
    · refine x_tabN (n := 4) (t := 144) rfl (by decide) rfl ?_
      refine x_aload (pc' := 145) rfl rfl rfl ?_
      refine x_getR (pc' := 148) rfl rfl rfl (by decide) rfl (by decide) rfl rfl ?_
      refine x_getR (pc' := 151) rfl rfl rfl (by decide) rfl (by decide) rfl rfl ?_
      refine x_iload (pc' := 152) rfl rfl rfl ?_
      refine x_iald (pc' := 153) rfl rfl (by decide) rfl (by decide) (show _ < 12 by omega) ?_
      refine x_iret rfl rfl ?_
      rw [writerQ_j hW h5l (j := 4) (by decide)] at k1
      exact k1 D OffC.rf
    · refine x_tabN (n := 5) (t := 154) rfl (by decide) rfl ?_
      refine x_aload (pc' := 155) rfl rfl rfl ?_
      refine x_iload (pc' := 156) rfl rfl rfl ?_
      refine x_callV (pc' := 159) (d1 := 3) (Bs := [_]) rfl rfl rfl rfl rfl rfl rfl (Nat.le_of_ble_eq_true rfl) ⟨rfl, rfl⟩ (by decide) rfl (by decide) ?_
      refine w_X9_handsOf hW h5l (fun D1 o1 h1 => ?_)
      refine ⟨rfl, ?_⟩
      refine x_iret rfl rfl ?_
      rw [writerQ_j hW h5l (j := 5) (by decide)] at k1
      exact k1 D1 o1.c
    · refine x_tabN (n := 6) (t := 160) rfl (by decide) rfl ?_
      refine x_aload (pc' := 161) rfl rfl rfl ?_
      refine x_iload (pc' := 162) rfl rfl rfl ?_
      refine x_callV (pc' := 165) (d1 := 3) (Bs := [_]) rfl rfl rfl rfl rfl rfl rfl (Nat.le_of_ble_eq_true rfl) ⟨rfl, rfl⟩ (by decide) rfl (by decide) ?_
      refine w_X9_lowestOf hW h5l (fun D1 o1 => ?_)
      refine ⟨rfl, ?_⟩
      refine x_iret rfl rfl ?_
      rw [writerQ_j hW h5l (j := 6) (by decide)] at k1
      exact k1 D1 o1.c
    · refine x_tabN (n := 7) (t := 166) rfl (by decide) rfl ?_
      refine x_aload (pc' := 167) rfl rfl rfl ?_
      refine x_getR (pc' := 170) rfl rfl rfl (by decide) rfl (by decide) rfl rfl ?_
      refine x_getR (pc' := 173) rfl rfl rfl (by decide) rfl (by decide) rfl rfl ?_
      refine x_iload (pc' := 174) rfl rfl rfl ?_
      refine x_iald (pc' := 175) rfl rfl (by decide) rfl (by decide) (show _ < 12 by omega) ?_
      refine x_iret rfl rfl ?_
      rw [writerQ_j hW h5l (j := 7) (by decide)] at k1
      exact k1 D OffC.rf
    · refine x_tabN (n := 8) (t := 176) rfl (by decide) rfl ?_
      refine x_aload (pc' := 177) rfl rfl rfl ?_
      refine x_getR (pc' := 180) rfl rfl rfl (by decide) rfl (by decide) rfl rfl ?_
      refine x_getR (pc' := 183) rfl rfl rfl (by decide) rfl (by decide) rfl rfl ?_
      refine x_iload (pc' := 184) rfl rfl rfl ?_
      refine x_iald (pc' := 185) rfl rfl (by decide) rfl (by decide) (show _ < 12 by omega) ?_
      refine x_iret rfl rfl ?_
      rw [writerQ_j hW h5l (j := 8) (by decide)] at k1
      exact k1 D OffC.rf
    · refine x_tabN (n := 9) (t := 186) rfl (by decide) rfl ?_
      refine x_aload (pc' := 187) rfl rfl rfl ?_
      refine x_getR (pc' := 190) rfl rfl rfl (by decide) rfl (by decide) rfl rfl ?_
      refine x_iload (pc' := 191) rfl rfl rfl ?_
      refine x_callV (pc' := 194) (d1 := 1) (Bs := [_]) rfl rfl rfl rfl rfl rfl rfl (Nat.le_of_ble_eq_true rfl) ⟨rfl, rfl⟩ (by decide) rfl (by decide) ?_
      refine w_X7_inMood hW (by assumption) (fun h191 => ?_) (fun h191 => ?_)
      · refine ⟨rfl, ?_⟩
        refine x_if_eq (pc' := 197) rfl rfl (fun c194 => absurd c194 (by decide)) (fun _ => ?_)
        refine x_int (pc' := 198) (v := nI 1) rfl rfl rfl ?_
        refine x_goto rfl ?_
        refine x_iret rfl rfl ?_
        rw [writerQ_j hW h5l (j := 9) (by decide)] at k1
        have e : wrQ (tv D) h5w 9 = nI (if isM (tv D) h5w then 1 else 0) := rfl
        rw [e, h191] at k1
        exact k1 D OffC.rf
      · refine ⟨rfl, ?_⟩
        refine x_if_eq (pc' := 197) rfl rfl (fun _ => ?_) (fun c194 => absurd (by decide) c194)
        refine x_int (pc' := 202) (v := nI 0) rfl rfl rfl ?_
        refine x_iret rfl rfl ?_
        rw [writerQ_j hW h5l (j := 9) (by decide)] at k1
        have e : wrQ (tv D) h5w 9 = nI (if isM (tv D) h5w then 1 else 0) := rfl
        rw [e, h191] at k1
        exact k1 D OffC.rf
    · refine x_tabN (n := 10) (t := 203) rfl (by decide) rfl ?_
      refine x_aload (pc' := 204) rfl rfl rfl ?_
      refine x_getR (pc' := 207) rfl rfl rfl (by decide) rfl (by decide) rfl rfl ?_
      refine x_iload (pc' := 208) rfl rfl rfl ?_
      refine x_callV (pc' := 211) (d1 := 1) (Bs := [_]) rfl rfl rfl rfl rfl rfl rfl (Nat.le_of_ble_eq_true rfl) ⟨rfl, rfl⟩ (by decide) rfl (by decide) ?_
      refine w_X7_isDead hW (by assumption) (fun h208 => ?_) (fun h208 => ?_)
      · refine ⟨rfl, ?_⟩
        refine x_if_eq (pc' := 214) rfl rfl (fun c211 => absurd c211 (by decide)) (fun _ => ?_)
        refine x_int (pc' := 215) (v := nI 1) rfl rfl rfl ?_
        refine x_goto rfl ?_
        refine x_iret rfl rfl ?_
        rw [writerQ_j hW h5l (j := 10) (by decide)] at k1
        have e : wrQ (tv D) h5w 10 = nI (if isD (tv D) h5w then 1 else 0) := rfl
        rw [e, h208] at k1
        exact k1 D OffC.rf
      · refine ⟨rfl, ?_⟩
        refine x_if_eq (pc' := 214) rfl rfl (fun _ => ?_) (fun c211 => absurd (by decide) c211)
        refine x_int (pc' := 219) (v := nI 0) rfl rfl rfl ?_
        refine x_iret rfl rfl ?_
        rw [writerQ_j hW h5l (j := 10) (by decide)] at k1
        have e : wrQ (tv D) h5w 10 = nI (if isD (tv D) h5w then 1 else 0) := rfl
        rw [e, h208] at k1
        exact k1 D OffC.rf
    · refine x_tabN (n := 11) (t := 220) rfl (by decide) rfl ?_
      refine x_aload (pc' := 221) rfl rfl rfl ?_
      refine x_getR (pc' := 224) rfl rfl rfl (by decide) rfl (by decide) rfl rfl ?_
      refine x_getR (pc' := 227) rfl rfl rfl (by decide) rfl (by decide) rfl rfl ?_
      refine x_iload (pc' := 228) rfl rfl rfl ?_
      refine x_iald (pc' := 229) rfl rfl (by decide) rfl (by decide) (show _ < 12 by omega) ?_
      refine x_iret rfl rfl ?_
      rw [writerQ_j hW h5l (j := 11) (by decide)] at k1
      exact k1 D OffC.rf
    · refine x_tabN (n := 12) (t := 230) rfl (by decide) rfl ?_
      refine x_aload (pc' := 231) rfl rfl rfl ?_
      refine x_getR (pc' := 234) rfl rfl rfl (by decide) rfl (by decide) rfl rfl ?_
      refine x_iload (pc' := 235) rfl rfl rfl ?_
      refine x_callV (pc' := 238) (d1 := 1) (Bs := [_]) rfl rfl rfl rfl rfl rfl rfl (Nat.le_of_ble_eq_true rfl) ⟨rfl, rfl⟩ (by decide) rfl (by decide) ?_
      refine w_X7_havingUnder hW ?_
      refine ⟨rfl, ?_⟩
      refine x_iret rfl rfl ?_
      rw [writerQ_j hW h5l (j := 12) (by decide)] at k1
      exact k1 D OffC.rf
    · refine x_tabO rfl (hout) (by decide) ?_
      refine x_int (pc' := 241) (v := (-2147483648)) rfl rfl rfl ?_
      refine x_iret rfl rfl ?_
      rw [writerQ_o hW h5l hout] at k1
      exact k1 D OffC.rf
  · refine ⟨rfl, ?_⟩
    refine x_if_ne (pc' := 11) rfl rfl (fun c8 => absurd (by decide) c8) (fun _ => ?_)
    refine x_int (pc' := 13) (v := (-2147483648)) rfl rfl rfl ?_
    refine x_iret rfl rfl ?_
    rw [writerQ_n hW h5] at k1
    exact k1 D OffC.rf
theorem sgp {k : Nat} (h : 0 < sg k) : 1 ≤ k := by
  rcases Nat.eq_zero_or_pos k with rfl | q
  · exact absurd h (by decide)
  · exact q
theorem sgq {k : Nat} (h : 1 < sg k) : 5 ≤ k := by
  by_cases q : 5 ≤ k
  · exact q
  · have := sgp (by omega : 0 < sg k); rw [sg1 this (by omega)] at h; omega
set_option maxRecDepth 20000 in
set_option maxHeartbeats 1000000 in
theorem w_X10_writer {D : Nat → Nat → Int32} {L : Nat → Nat → Int64} {Q : bh_Q} {T : TW} (hW : WF T) (hR : Rn T (D 206)) {x y : Int32} (k1 : ∀ D1, OffM D D1 → Q (some (.int (writerQ T x y))) (hp D1 L)) : bh_wc 4 m_X10_writer [.ref 205, .int x, .int y] (hp D L) Q := by
  refine x_start (lv0 := [_, _, _]) (Nat.le_of_ble_eq_true rfl) rfl ?_
  have h12 := hW.nwl
  refine x_aload (pc' := 1) rfl rfl rfl ?_
  refine x_iload (pc' := 2) rfl rfl rfl ?_
  refine x_callV (pc' := 5) (d1 := 2) (Bs := [_]) rfl rfl rfl rfl rfl rfl rfl (Nat.le_of_ble_eq_true rfl) ⟨rfl, rfl⟩ (by decide) rfl (by decide) ?_
  refine w_X10_isWriter hW hR (fun h2w h2l e => ?_) (fun h2 => ?_)
  · subst e
    refine ⟨rfl, ?_⟩
    refine x_if_ne (pc' := 8) rfl rfl (fun _ => ?_) (fun c5 => absurd c5 (by decide))
    refine x_iload (pc' := 13) rfl rfl rfl ?_
    rcases tabs13 y with rfl | rfl | rfl | rfl | rfl | rfl | rfl | rfl | rfl | rfl | rfl | rfl | rfl | hout
    · refine x_tabN (n := 0) (t := 80) rfl (by decide) rfl ?_
      refine x_aload (pc' := 81) rfl rfl rfl ?_
      refine x_iload (pc' := 82) rfl rfl rfl ?_
      refine x_int (pc' := 83) (v := nI 0) rfl rfl rfl ?_
      refine x_callV (pc' := 86) (d1 := 1) (Bs := [_, _]) rfl rfl rfl rfl rfl rfl rfl (Nat.le_of_ble_eq_true rfl) ⟨rfl, rfl⟩ (by decide) rfl (by decide) ?_
      refine w_X10_of (by omega) (by decide) ?_
      refine ⟨rfl, ?_⟩
      refine x_top (hR.rpu h2l) ?_
      refine x_iret rfl rfl ?_
      rw [writerQ_j hW h2l (j := 0) (by decide)] at k1
      exact k1 D OffM.rf
    · refine x_tabN (n := 1) (t := 87) rfl (by decide) rfl ?_
      refine x_aload (pc' := 88) rfl rfl rfl ?_
      refine x_iload (pc' := 89) rfl rfl rfl ?_
      refine x_int (pc' := 90) (v := nI 1) rfl rfl rfl ?_
      refine x_callV (pc' := 93) (d1 := 1) (Bs := [_, _]) rfl rfl rfl rfl rfl rfl rfl (Nat.le_of_ble_eq_true rfl) ⟨rfl, rfl⟩ (by decide) rfl (by decide) ?_
      refine w_X10_of (by omega) (by decide) ?_
      refine ⟨rfl, ?_⟩
      refine x_top (hR.rkd h2l) ?_
      refine x_iret rfl rfl ?_
      rw [writerQ_j hW h2l (j := 1) (by decide)] at k1
      exact k1 D OffM.rf
    · refine x_tabN (n := 2) (t := 94) rfl (by decide) rfl ?_
      refine x_aload (pc' := 95) rfl rfl rfl ?_
      refine x_iload (pc' := 96) rfl rfl rfl ?_
      refine x_int (pc' := 97) (v := nI 1) rfl rfl rfl ?_
      refine x_callV (pc' := 100) (d1 := 1) (Bs := [_, _]) rfl rfl rfl rfl rfl rfl rfl (Nat.le_of_ble_eq_true rfl) ⟨rfl, rfl⟩ (by decide) rfl (by decide) ?_
      refine w_X10_of (by omega) (by decide) ?_
      refine ⟨rfl, ?_⟩
      refine x_top ((hR.rkd h2l).trans (hW.ekd h2l)) ?_
      refine x_callS (pc' := 103) (d1 := 1) (As := [_]) rfl rfl rfl rfl (by decide) rfl rfl (Nat.le_of_ble_eq_true rfl) ⟨rfl, rfl⟩ (by decide) ?_
      refine w_X10_needs (hW.kdl h2l) ?_
      refine ⟨rfl, ?_⟩
      refine y_if_le (pc' := 106) rfl rfl (by first | omega | (have := sg_lt (kd T h2w); omega) | (have := (isH_of hW h2l).2.1; omega) | exact Nat.succ_pos _) (fun c103 => ?_) (fun c103 => ?_)
      · refine x_int (pc' := 116) (v := (-1)) rfl rfl rfl ?_
        refine x_iret rfl rfl ?_
        rw [writerQ_j hW h2l (j := 2) (by decide)] at k1
        have e : wrQ T h2w 2 = if 0 < sg (kd T h2w) then T 3 h2w else -1 := rfl
        rw [e] at k1
        first
          | (rw [if_neg (by omega)] at k1; exact k1 D OffM.rf)
          | (rw [if_pos (by omega)] at k1; exact k1 D OffM.rf)
      · refine x_aload (pc' := 107) rfl rfl rfl ?_
        refine x_iload (pc' := 108) rfl rfl rfl ?_
        refine x_int (pc' := 109) (v := nI 2) rfl rfl rfl ?_
        refine x_callV (pc' := 112) (d1 := 1) (Bs := [_, _]) rfl rfl rfl rfl rfl rfl rfl (Nat.le_of_ble_eq_true rfl) ⟨rfl, rfl⟩ (by decide) rfl (by decide) ?_
        refine w_X10_of (by omega) (by decide) ?_
        refine ⟨rfl, ?_⟩
        refine x_top (hR.rfa h2l (sgp (by omega))) ?_
        refine x_goto rfl ?_
        refine x_iret rfl rfl ?_
        rw [writerQ_j hW h2l (j := 2) (by decide)] at k1
        have e : wrQ T h2w 2 = if 0 < sg (kd T h2w) then T 3 h2w else -1 := rfl
        rw [e] at k1
        first
          | (rw [if_neg (by omega)] at k1; exact k1 D OffM.rf)
          | (rw [if_pos (by omega)] at k1; exact k1 D OffM.rf)
    · refine x_tabN (n := 3) (t := 117) rfl (by decide) rfl ?_
      refine x_aload (pc' := 118) rfl rfl rfl ?_
      refine x_iload (pc' := 119) rfl rfl rfl ?_
      refine x_int (pc' := 120) (v := nI 1) rfl rfl rfl ?_
      refine x_callV (pc' := 123) (d1 := 1) (Bs := [_, _]) rfl rfl rfl rfl rfl rfl rfl (Nat.le_of_ble_eq_true rfl) ⟨rfl, rfl⟩ (by decide) rfl (by decide) ?_
      refine w_X10_of (by omega) (by decide) ?_
      refine ⟨rfl, ?_⟩
      refine x_top ((hR.rkd h2l).trans (hW.ekd h2l)) ?_
      refine x_callS (pc' := 126) (d1 := 1) (As := [_]) rfl rfl rfl rfl (by decide) rfl rfl (Nat.le_of_ble_eq_true rfl) ⟨rfl, rfl⟩ (by decide) ?_
      refine w_X10_needs (hW.kdl h2l) ?_
      refine ⟨rfl, ?_⟩
      refine x_int (pc' := 127) (v := nI 1) rfl rfl rfl ?_
      refine y_ic_le (pc' := 130) rfl rfl (by first | omega | (have := sg_lt (kd T h2w); omega) | (have := (isH_of hW h2l).2.1; omega) | exact Nat.succ_pos _) (by first | omega | (have := sg_lt (kd T h2w); omega) | (have := (isH_of hW h2l).2.1; omega) | exact Nat.succ_pos _) (fun c127 => ?_) (fun c127 => ?_)
      · refine x_int (pc' := 140) (v := (-1)) rfl rfl rfl ?_
        refine x_iret rfl rfl ?_
        rw [writerQ_j hW h2l (j := 3) (by decide)] at k1
        have e : wrQ T h2w 3 = if 1 < sg (kd T h2w) then T 4 h2w else -1 := rfl
        rw [e] at k1
        first
          | (rw [if_neg (by omega)] at k1; exact k1 D OffM.rf)
          | (rw [if_pos (by omega)] at k1; exact k1 D OffM.rf)
      · refine x_aload (pc' := 131) rfl rfl rfl ?_
        refine x_iload (pc' := 132) rfl rfl rfl ?_
        refine x_int (pc' := 133) (v := nI 3) rfl rfl rfl ?_
        refine x_callV (pc' := 136) (d1 := 1) (Bs := [_, _]) rfl rfl rfl rfl rfl rfl rfl (Nat.le_of_ble_eq_true rfl) ⟨rfl, rfl⟩ (by decide) rfl (by decide) ?_
        refine w_X10_of (by omega) (by decide) ?_
        refine ⟨rfl, ?_⟩
        refine x_top (hR.rfb h2l (sgq (by omega))) ?_
        refine x_goto rfl ?_
        refine x_iret rfl rfl ?_
        rw [writerQ_j hW h2l (j := 3) (by decide)] at k1
        have e : wrQ T h2w 3 = if 1 < sg (kd T h2w) then T 4 h2w else -1 := rfl
        rw [e] at k1
        first
          | (rw [if_neg (by omega)] at k1; exact k1 D OffM.rf)
          | (rw [if_pos (by omega)] at k1; exact k1 D OffM.rf)
    · refine x_tabN (n := 4) (t := 141) rfl (by decide) rfl ?_
      refine x_aload (pc' := 142) rfl rfl rfl ?_
      refine x_iload (pc' := 143) rfl rfl rfl ?_
      refine x_callV (pc' := 146) (d1 := 2) (Bs := [_]) rfl rfl rfl rfl rfl rfl rfl (Nat.le_of_ble_eq_true rfl) ⟨rfl, rfl⟩ (by decide) rfl (by decide) ?_
      refine w_X10_under hW hR h2l ?_
      refine ⟨rfl, ?_⟩
      refine x_iret rfl rfl ?_
      rw [writerQ_j hW h2l (j := 4) (by decide)] at k1
      exact k1 D OffM.rf
    · refine x_tabN (n := 5) (t := 147) rfl (by decide) rfl ?_
      refine x_aload (pc' := 148) rfl rfl rfl ?_
      refine x_iload (pc' := 149) rfl rfl rfl ?_
      refine x_callV (pc' := 152) (d1 := 3) (Bs := [_]) rfl rfl rfl rfl rfl rfl rfl (Nat.le_of_ble_eq_true rfl) ⟨rfl, rfl⟩ (by decide) rfl (by decide) ?_
      refine w_X10_hands hW hR h2l (fun D1 o1 h1 => ?_)
      refine ⟨rfl, ?_⟩
      refine x_iret rfl rfl ?_
      rw [writerQ_j hW h2l (j := 5) (by decide)] at k1
      exact k1 D1 (o1.m (by decide))
    · refine x_tabN (n := 6) (t := 153) rfl (by decide) rfl ?_
      refine x_aload (pc' := 154) rfl rfl rfl ?_
      refine x_getR (pc' := 157) rfl rfl rfl (by decide) rfl (by decide) rfl rfl ?_
      refine x_aload (pc' := 158) rfl rfl rfl ?_
      refine x_iload (pc' := 159) rfl rfl rfl ?_
      refine x_callV (pc' := 162) (d1 := 3) (Bs := [_]) rfl rfl rfl rfl rfl rfl rfl (Nat.le_of_ble_eq_true rfl) ⟨rfl, rfl⟩ (by decide) rfl (by decide) ?_
      refine w_X10_hands hW hR h2l (fun D1 o1 h1 => ?_)
      refine ⟨rfl, ?_⟩
      refine x_int (pc' := 163) (v := nI 1) rfl rfl rfl ?_
      refine y_isub (pc' := 164) rfl rfl (by first | omega | (have := sg_lt (kd T h2w); omega) | (have := (isH_of hW h2l).2.1; omega) | exact Nat.succ_pos _) ?_
      refine x_iald (pc' := 165) rfl rfl (by decide) rfl (by decide) (show _ < 12 by have := (isH_of hW h2l).2.1; have : 0 < (ch T h2w).length := Nat.succ_pos _; omega) ?_
      refine x_top (h1 _ (by have : 0 < (ch T h2w).length := Nat.succ_pos _; omega)) ?_
      refine x_iret rfl rfl ?_
      rw [writerQ_j hW h2l (j := 6) (by decide)] at k1
      exact k1 D1 (o1.m (by decide))
    · refine x_tabN (n := 7) (t := 166) rfl (by decide) rfl ?_
      refine x_aload (pc' := 167) rfl rfl rfl ?_
      refine x_iload (pc' := 168) rfl rfl rfl ?_
      refine x_int (pc' := 169) (v := nI 5) rfl rfl rfl ?_
      refine x_callV (pc' := 172) (d1 := 1) (Bs := [_, _]) rfl rfl rfl rfl rfl rfl rfl (Nat.le_of_ble_eq_true rfl) ⟨rfl, rfl⟩ (by decide) rfl (by decide) ?_
      refine w_X10_of (by omega) (by decide) ?_
      refine ⟨rfl, ?_⟩
      refine x_top (hR.rfame h2l) ?_
      refine x_iret rfl rfl ?_
      rw [writerQ_j hW h2l (j := 7) (by decide)] at k1
      exact k1 D OffM.rf
    · refine x_tabN (n := 8) (t := 173) rfl (by decide) rfl ?_
      refine x_aload (pc' := 174) rfl rfl rfl ?_
      refine x_iload (pc' := 175) rfl rfl rfl ?_
      refine x_int (pc' := 177) (v := nI 6) rfl rfl rfl ?_
      refine x_callV (pc' := 180) (d1 := 1) (Bs := [_, _]) rfl rfl rfl rfl rfl rfl rfl (Nat.le_of_ble_eq_true rfl) ⟨rfl, rfl⟩ (by decide) rfl (by decide) ?_
      refine w_X10_of (by omega) (by decide) ?_
      refine ⟨rfl, ?_⟩
      refine x_top (hR.rcoins h2l) ?_
      refine x_iret rfl rfl ?_
      rw [writerQ_j hW h2l (j := 8) (by decide)] at k1
      exact k1 D OffM.rf
    · refine x_tabN (n := 9) (t := 181) rfl (by decide) rfl ?_
      refine x_aload (pc' := 182) rfl rfl rfl ?_
      refine x_iload (pc' := 183) rfl rfl rfl ?_
      refine x_int (pc' := 185) (v := nI 7) rfl rfl rfl ?_
      refine x_callV (pc' := 188) (d1 := 1) (Bs := [_, _]) rfl rfl rfl rfl rfl rfl rfl (Nat.le_of_ble_eq_true rfl) ⟨rfl, rfl⟩ (by decide) rfl (by decide) ?_
      refine w_X10_of (by omega) (by decide) ?_
      refine ⟨rfl, ?_⟩
      refine x_top (hR.rmo h2l) ?_
      refine x_iret rfl rfl ?_
      rw [writerQ_j hW h2l (j := 9) (by decide)] at k1
      exact k1 D OffM.rf
    · refine x_tabN (n := 10) (t := 189) rfl (by decide) rfl ?_
      refine x_aload (pc' := 190) rfl rfl rfl ?_
      refine x_iload (pc' := 191) rfl rfl rfl ?_
      refine x_int (pc' := 193) (v := nI 8) rfl rfl rfl ?_
      refine x_callV (pc' := 196) (d1 := 1) (Bs := [_, _]) rfl rfl rfl rfl rfl rfl rfl (Nat.le_of_ble_eq_true rfl) ⟨rfl, rfl⟩ (by decide) rfl (by decide) ?_
      refine w_X10_of (by omega) (by decide) ?_
      refine ⟨rfl, ?_⟩
      refine x_top (hR.rde h2l) ?_
      refine x_iret rfl rfl ?_
      rw [writerQ_j hW h2l (j := 10) (by decide)] at k1
      exact k1 D OffM.rf
    · refine x_tabN (n := 11) (t := 197) rfl (by decide) rfl ?_
      refine x_aload (pc' := 198) rfl rfl rfl ?_
      refine x_iload (pc' := 199) rfl rfl rfl ?_
      refine x_int (pc' := 201) (v := nI 9) rfl rfl rfl ?_
      refine x_callV (pc' := 204) (d1 := 1) (Bs := [_, _]) rfl rfl rfl rfl rfl rfl rfl (Nat.le_of_ble_eq_true rfl) ⟨rfl, rfl⟩ (by decide) rfl (by decide) ?_
      refine w_X10_of (by omega) (by decide) ?_
      refine ⟨rfl, ?_⟩
      refine x_top (hR.rsk h2l) ?_
      refine x_iret rfl rfl ?_
      rw [writerQ_j hW h2l (j := 11) (by decide)] at k1
      exact k1 D OffM.rf
    · refine x_tabN (n := 12) (t := 205) rfl (by decide) rfl ?_
      refine x_aload (pc' := 206) rfl rfl rfl ?_
      refine x_iload (pc' := 207) rfl rfl rfl ?_
      refine x_callV (pc' := 210) (d1 := 3) (Bs := [_]) rfl rfl rfl rfl rfl rfl rfl (Nat.le_of_ble_eq_true rfl) ⟨rfl, rfl⟩ (by decide) rfl (by decide) ?_
      refine w_X10_overWhom hW hR ?_
      refine ⟨rfl, ?_⟩
      refine x_iret rfl rfl ?_
      rw [writerQ_j hW h2l (j := 12) (by decide)] at k1
      exact k1 D OffM.rf
    · refine x_tabO rfl (hout) (by decide) ?_
      refine x_int (pc' := 214) (v := (-2147483648)) rfl rfl rfl ?_
      refine x_iret rfl rfl ?_
      rw [writerQ_o hW h2l hout] at k1
      exact k1 D OffM.rf
  · refine ⟨rfl, ?_⟩
    refine x_if_ne (pc' := 8) rfl rfl (fun c5 => absurd (by decide) c5) (fun _ => ?_)
    refine x_int (pc' := 11) (v := (-2147483648)) rfl rfl rfl ?_
    refine x_iret rfl rfl ?_
    rw [writerQ_n hW h2] at k1
    exact k1 D OffM.rf
def keptN (sh : Nat → Option TW) : Nat := b01 (sh 0).isSome ||| b01 (sh 1).isSome <<< 1
def coQ (T : TW) (ps : List TW) (sh : Nat → Option TW) (tp : List Nat) (j : Nat) : Int32 := match j with
  | 0 => T 0 0
  | 1 => T 0 1
  | 2 => nI (sumN (lng T) (nb T))
  | 3 => nI (overS T (-1))
  | 4 => nI (mostN T (nw T))
  | 5 => sumI (T 6) (nw T)
  | 6 => sumI (T 7) (nw T)
  | 7 => nI (mo T)
  | 8 => nI (de T)
  | 9 => T 0 2
  | 10 => nI ps.length
  | 11 => nI tp.length
  | 12 => nI (keptN sh)
  | 13 => T 0 3
  | _ => -1
def countQ (T : TW) (ps : List TW) (sh : Nat → Option TW) (tp : List Nat) (x : Int32) : Int32 := match dN 14 x with
  | some j => coQ T ps sh tp j
  | none => -1
theorem countQ_j {T : TW} {ps : List TW} {sh : Nat → Option TW} {tp : List Nat} {j : Nat} (hj : j < 14) : countQ T ps sh tp (nI j) = coQ T ps sh tp j := by unfold countQ; rw [dN_some hj (by decide)]
theorem countQ_o {T : TW} {ps : List TW} {sh : Nat → Option TW} {tp : List Nat} {x : Int32} (h : x < 0 ∨ nI 14 ≤ x) : countQ T ps sh tp x = -1 := by unfold countQ; rw [dN_none (by decide) (okN_out (by decide) h)]
theorem kept_eq {D : Nat → Nat → Int32} {sh : Nat → Option TW} (h : KC D sh) : D 0 15 = nI (keptN sh) := by
  obtain ⟨kp, h1, h2, h3⟩ := h
  rw [h2]
  have e0 := (h3 0 (by decide)).1
  have e1 := (h3 1 (by decide)).1
  unfold keptN
  rw [← e0, ← e1]
  have : kp = 0 ∨ kp = 1 ∨ kp = 2 ∨ kp = 3 := by omega
  rcases this with rfl | rfl | rfl | rfl <;> rfl
set_option maxRecDepth 20000 in
set_option maxHeartbeats 1000000 in
theorem w_X9_count {D : Nat → Nat → Int32} {L : Nat → Nat → Int64} {Q : bh_Q} (hW : WF (tv D)) {ps : List TW} {sh : Nat → Option TW} {tp : List Nat} (hI : InvC D ps sh tp) {x : Int32} (k1 : ∀ D1, OffC D D1 → Q (some (.int (countQ (tv D) ps sh tp x))) (hp D1 L)) : bh_wc 5 m_X9_count [.ref 0, .int x] (hp D L) Q := by
  refine x_start (lv0 := [_, _]) (Nat.le_of_ble_eq_true rfl) rfl ?_
  refine x_iload (pc' := 1) rfl rfl rfl ?_
  rcases tabs14 x with rfl | rfl | rfl | rfl | rfl | rfl | rfl | rfl | rfl | rfl | rfl | rfl | rfl | rfl | hout
  · refine x_tabN (n := 0) (t := 72) rfl (by decide) rfl ?_
    refine x_aload (pc' := 73) rfl rfl rfl ?_
    refine x_getR (pc' := 76) rfl rfl rfl (by decide) rfl (by decide) rfl rfl ?_
    refine x_getI (j := 0) (pc' := 79) rfl rfl rfl (by decide) rfl (by decide) rfl rfl ?_
    refine x_iret rfl rfl ?_
    rw [countQ_j (j := 0) (by decide)] at k1
    exact k1 D OffC.rf
  · refine x_tabN (n := 1) (t := 80) rfl (by decide) rfl ?_
    refine x_aload (pc' := 81) rfl rfl rfl ?_
    refine x_getR (pc' := 84) rfl rfl rfl (by decide) rfl (by decide) rfl rfl ?_
    refine x_getI (j := 1) (pc' := 87) rfl rfl rfl (by decide) rfl (by decide) rfl rfl ?_
    refine x_iret rfl rfl ?_
    rw [countQ_j (j := 1) (by decide)] at k1
    exact k1 D OffC.rf
  · refine x_tabN (n := 2) (t := 88) rfl (by decide) rfl ?_
    refine x_aload (pc' := 89) rfl rfl rfl ?_
    refine x_getR (pc' := 92) rfl rfl rfl (by decide) rfl (by decide) rfl rfl ?_
    refine x_callV (pc' := 95) (d1 := 1) (Bs := []) rfl rfl rfl rfl rfl rfl rfl (Nat.le_of_ble_eq_true rfl) ⟨rfl, rfl⟩ (by decide) rfl (by decide) ?_
    refine w_X7_allPages hW ?_
    refine ⟨rfl, ?_⟩
    refine x_iret rfl rfl ?_
    rw [countQ_j (j := 2) (by decide)] at k1
    exact k1 D OffC.rf
  · refine x_tabN (n := 3) (t := 96) rfl (by decide) rfl ?_
    refine x_aload (pc' := 97) rfl rfl rfl ?_
    refine x_getR (pc' := 100) rfl rfl rfl (by decide) rfl (by decide) rfl rfl ?_
    refine x_int (pc' := 101) (v := (-1)) rfl rfl rfl ?_
    refine x_callV (pc' := 104) (d1 := 1) (Bs := [_]) rfl rfl rfl rfl rfl rfl rfl (Nat.le_of_ble_eq_true rfl) ⟨rfl, rfl⟩ (by decide) rfl (by decide) ?_
    refine w_X7_havingUnder hW ?_
    refine ⟨rfl, ?_⟩
    refine x_iret rfl rfl ?_
    rw [countQ_j (j := 3) (by decide)] at k1
    exact k1 D OffC.rf
  · refine x_tabN (n := 4) (t := 105) rfl (by decide) rfl ?_
    refine x_aload (pc' := 106) rfl rfl rfl ?_
    refine x_callV (pc' := 109) (d1 := 4) (Bs := []) rfl rfl rfl rfl rfl rfl rfl (Nat.le_of_ble_eq_true rfl) ⟨rfl, rfl⟩ (by decide) rfl (by decide) ?_
    refine w_X9_mostHands hW (fun D1 o1 => ?_)
    refine ⟨rfl, ?_⟩
    refine x_iret rfl rfl ?_
    rw [countQ_j (j := 4) (by decide)] at k1
    exact k1 D1 o1.c
  · refine x_tabN (n := 5) (t := 110) rfl (by decide) rfl ?_
    refine x_aload (pc' := 111) rfl rfl rfl ?_
    refine x_getR (pc' := 114) rfl rfl rfl (by decide) rfl (by decide) rfl rfl ?_
    refine x_aload (pc' := 115) rfl rfl rfl ?_
    refine x_getR (pc' := 118) rfl rfl rfl (by decide) rfl (by decide) rfl rfl ?_
    refine x_getR (pc' := 121) rfl rfl rfl (by decide) rfl (by decide) rfl rfl ?_
    refine x_callV (pc' := 124) (d1 := 1) (Bs := [_]) rfl rfl rfl rfl rfl rfl rfl (Nat.le_of_ble_eq_true rfl) ⟨rfl, rfl⟩ (by decide) rfl (by decide) ?_
    refine w_X7_sumOf7 hW ?_
    refine ⟨rfl, ?_⟩
    refine x_iret rfl rfl ?_
    rw [countQ_j (j := 5) (by decide)] at k1
    exact k1 D OffC.rf
  · refine x_tabN (n := 6) (t := 125) rfl (by decide) rfl ?_
    refine x_aload (pc' := 126) rfl rfl rfl ?_
    refine x_getR (pc' := 129) rfl rfl rfl (by decide) rfl (by decide) rfl rfl ?_
    refine x_aload (pc' := 130) rfl rfl rfl ?_
    refine x_getR (pc' := 133) rfl rfl rfl (by decide) rfl (by decide) rfl rfl ?_
    refine x_getR (pc' := 136) rfl rfl rfl (by decide) rfl (by decide) rfl rfl ?_
    refine x_callV (pc' := 139) (d1 := 1) (Bs := [_]) rfl rfl rfl rfl rfl rfl rfl (Nat.le_of_ble_eq_true rfl) ⟨rfl, rfl⟩ (by decide) rfl (by decide) ?_
    refine w_X7_sumOf8 hW ?_
    refine ⟨rfl, ?_⟩
    refine x_iret rfl rfl ?_
    rw [countQ_j (j := 6) (by decide)] at k1
    exact k1 D OffC.rf
  · refine x_tabN (n := 7) (t := 140) rfl (by decide) rfl ?_
    refine x_aload (pc' := 141) rfl rfl rfl ?_
    refine x_getR (pc' := 144) rfl rfl rfl (by decide) rfl (by decide) rfl rfl ?_
    refine x_getI (j := 4) (pc' := 147) rfl rfl rfl (by decide) rfl (by decide) rfl rfl ?_
    refine x_top (hW.emo) ?_
    refine x_iret rfl rfl ?_
    rw [countQ_j (j := 7) (by decide)] at k1
    exact k1 D OffC.rf
  · refine x_tabN (n := 8) (t := 148) rfl (by decide) rfl ?_
    refine x_aload (pc' := 149) rfl rfl rfl ?_
    refine x_getR (pc' := 152) rfl rfl rfl (by decide) rfl (by decide) rfl rfl ?_
    refine x_getI (j := 5) (pc' := 155) rfl rfl rfl (by decide) rfl (by decide) rfl rfl ?_
    refine x_top (hW.ede) ?_
    refine x_iret rfl rfl ?_
    rw [countQ_j (j := 8) (by decide)] at k1
    exact k1 D OffC.rf
  · refine x_tabN (n := 9) (t := 156) rfl (by decide) rfl ?_
    refine x_aload (pc' := 157) rfl rfl rfl ?_
    refine x_getR (pc' := 160) rfl rfl rfl (by decide) rfl (by decide) rfl rfl ?_
    refine x_getI (j := 2) (pc' := 163) rfl rfl rfl (by decide) rfl (by decide) rfl rfl ?_
    refine x_iret rfl rfl ?_
    rw [countQ_j (j := 9) (by decide)] at k1
    exact k1 D OffC.rf
  · refine x_tabN (n := 10) (t := 164) rfl (by decide) rfl ?_
    refine x_aload (pc' := 165) rfl rfl rfl ?_
    refine x_getI (j := 14) (pc' := 168) rfl rfl rfl (by decide) rfl (by decide) rfl rfl ?_
    refine x_top (hI.1.2.1) ?_
    refine x_iret rfl rfl ?_
    rw [countQ_j (j := 10) (by decide)] at k1
    exact k1 D OffC.rf
  · refine x_tabN (n := 11) (t := 169) rfl (by decide) rfl ?_
    refine x_aload (pc' := 170) rfl rfl rfl ?_
    refine x_getR (pc' := 173) rfl rfl rfl (by decide) rfl (by decide) rfl rfl ?_
    refine x_getI (j := 1) (pc' := 176) rfl rfl rfl (by decide) rfl (by decide) rfl rfl ?_
    refine x_top (hI.2.2.1.2.1) ?_
    refine x_iret rfl rfl ?_
    rw [countQ_j (j := 11) (by decide)] at k1
    exact k1 D OffC.rf
  · refine x_tabN (n := 12) (t := 177) rfl (by decide) rfl ?_
    refine x_aload (pc' := 178) rfl rfl rfl ?_
    refine x_getI (j := 15) (pc' := 181) rfl rfl rfl (by decide) rfl (by decide) rfl rfl ?_
    refine x_top (kept_eq hI.2.1) ?_
    refine x_iret rfl rfl ?_
    rw [countQ_j (j := 12) (by decide)] at k1
    exact k1 D OffC.rf
  · refine x_tabN (n := 13) (t := 182) rfl (by decide) rfl ?_
    refine x_aload (pc' := 183) rfl rfl rfl ?_
    refine x_getR (pc' := 186) rfl rfl rfl (by decide) rfl (by decide) rfl rfl ?_
    refine x_getI (j := 3) (pc' := 189) rfl rfl rfl (by decide) rfl (by decide) rfl rfl ?_
    refine x_iret rfl rfl ?_
    rw [countQ_j (j := 13) (by decide)] at k1
    exact k1 D OffC.rf
  · refine x_tabO rfl (hout) (by decide) ?_
    refine x_int (pc' := 191) (v := (-1)) rfl rfl rfl ?_
    refine x_iret rfl rfl ?_
    rw [countQ_o hout] at k1
    exact k1 D OffC.rf
theorem b01_or (b : Bool) : nI (b01 b) = 0 ∨ nI (b01 b) = 1 := by cases b; exact Or.inl rfl; exact Or.inr rfl
set_option maxRecDepth 20000 in
set_option maxHeartbeats 1000000 in
theorem w_X10_count {D : Nat → Nat → Int32} {L : Nat → Nat → Int64} {Q : bh_Q} {T : TW} (hW : WF T) {ps : List TW} {sh : Nat → Option TW} {tp : List Nat} (hI : InvM D T ps sh tp) {x : Int32} (k1 : ∀ D1, OffM D D1 → Q (some (.int (countQ T ps sh tp x))) (hp D1 L)) : bh_wc 5 m_X10_count [.ref 205, .int x] (hp D L) Q := by
  refine x_start (lv0 := [_, _]) (Nat.le_of_ble_eq_true rfl) rfl ?_
  have hR := hI.1
  refine x_iload (pc' := 1) rfl rfl rfl ?_
  rcases tabs14 x with rfl | rfl | rfl | rfl | rfl | rfl | rfl | rfl | rfl | rfl | rfl | rfl | rfl | rfl | hout
  · refine x_tabN (n := 0) (t := 72) rfl (by decide) rfl ?_
    refine x_aload (pc' := 73) rfl rfl rfl ?_
    refine x_getR (pc' := 76) rfl rfl rfl (by decide) rfl (by decide) rfl rfl ?_
    refine x_int (pc' := 77) (v := nI 0) rfl rfl rfl ?_
    refine x_iald (pc' := 78) rfl rfl (by decide) rfl (by decide) (show _ < 560 by omega) ?_
    refine x_top (hR.1.1) ?_
    refine x_iret rfl rfl ?_
    rw [countQ_j (j := 0) (by decide)] at k1
    exact k1 D OffM.rf
  · refine x_tabN (n := 1) (t := 79) rfl (by decide) rfl ?_
    refine x_aload (pc' := 80) rfl rfl rfl ?_
    refine x_getR (pc' := 83) rfl rfl rfl (by decide) rfl (by decide) rfl rfl ?_
    refine x_int (pc' := 84) (v := nI 1) rfl rfl rfl ?_
    refine x_iald (pc' := 85) rfl rfl (by decide) rfl (by decide) (show _ < 560 by omega) ?_
    refine x_top (hR.1.2.1) ?_
    refine x_iret rfl rfl ?_
    rw [countQ_j (j := 1) (by decide)] at k1
    exact k1 D OffM.rf
  · refine x_tabN (n := 2) (t := 86) rfl (by decide) rfl ?_
    refine x_aload (pc' := 87) rfl rfl rfl ?_
    refine x_callV (pc' := 90) (d1 := 2) (Bs := []) rfl rfl rfl rfl rfl rfl rfl (Nat.le_of_ble_eq_true rfl) ⟨rfl, rfl⟩ (by decide) rfl (by decide) ?_
    refine w_X10_pagesOfAll hW hR ?_
    refine ⟨rfl, ?_⟩
    refine x_iret rfl rfl ?_
    rw [countQ_j (j := 2) (by decide)] at k1
    exact k1 D OffM.rf
  · refine x_tabN (n := 3) (t := 91) rfl (by decide) rfl ?_
    refine x_aload (pc' := 92) rfl rfl rfl ?_
    refine x_callV (pc' := 95) (d1 := 3) (Bs := []) rfl rfl rfl rfl rfl rfl rfl (Nat.le_of_ble_eq_true rfl) ⟨rfl, rfl⟩ (by decide) rfl (by decide) ?_
    refine w_X10_alone hW hR ?_
    refine ⟨rfl, ?_⟩
    refine x_iret rfl rfl ?_
    rw [countQ_j (j := 3) (by decide)] at k1
    exact k1 D OffM.rf
  · refine x_tabN (n := 4) (t := 96) rfl (by decide) rfl ?_
    refine x_aload (pc' := 97) rfl rfl rfl ?_
    refine x_callV (pc' := 100) (d1 := 4) (Bs := []) rfl rfl rfl rfl rfl rfl rfl (Nat.le_of_ble_eq_true rfl) ⟨rfl, rfl⟩ (by decide) rfl (by decide) ?_
    refine w_X10_mostHands hW hR (fun D1 o1 => ?_)
    refine ⟨rfl, ?_⟩
    refine x_iret rfl rfl ?_
    rw [countQ_j (j := 4) (by decide)] at k1
    exact k1 D1 (o1.m (by decide))
  · refine x_tabN (n := 5) (t := 101) rfl (by decide) rfl ?_
    refine x_aload (pc' := 102) rfl rfl rfl ?_
    refine x_int (pc' := 103) (v := nI 5) rfl rfl rfl ?_
    refine x_callV (pc' := 106) (d1 := 2) (Bs := [_]) rfl rfl rfl rfl rfl rfl rfl (Nat.le_of_ble_eq_true rfl) ⟨rfl, rfl⟩ (by decide) rfl (by decide) ?_
    refine w_X10_sumOf5 hW hR ?_
    refine ⟨rfl, ?_⟩
    refine x_iret rfl rfl ?_
    rw [countQ_j (j := 5) (by decide)] at k1
    exact k1 D OffM.rf
  · refine x_tabN (n := 6) (t := 107) rfl (by decide) rfl ?_
    refine x_aload (pc' := 108) rfl rfl rfl ?_
    refine x_int (pc' := 110) (v := nI 6) rfl rfl rfl ?_
    refine x_callV (pc' := 113) (d1 := 2) (Bs := [_]) rfl rfl rfl rfl rfl rfl rfl (Nat.le_of_ble_eq_true rfl) ⟨rfl, rfl⟩ (by decide) rfl (by decide) ?_
    refine w_X10_sumOf6 hW hR ?_
    refine ⟨rfl, ?_⟩
    refine x_iret rfl rfl ?_
    rw [countQ_j (j := 6) (by decide)] at k1
    exact k1 D OffM.rf
  · refine x_tabN (n := 7) (t := 114) rfl (by decide) rfl ?_
    refine x_aload (pc' := 115) rfl rfl rfl ?_
    refine x_callV (pc' := 118) (d1 := 2) (Bs := []) rfl rfl rfl rfl rfl rfl rfl (Nat.le_of_ble_eq_true rfl) ⟨rfl, rfl⟩ (by decide) rfl (by decide) ?_
    refine w_X10_moods hW hR ?_
    refine ⟨rfl, ?_⟩
    refine x_iret rfl rfl ?_
    rw [countQ_j (j := 7) (by decide)] at k1
    exact k1 D OffM.rf
  · refine x_tabN (n := 8) (t := 119) rfl (by decide) rfl ?_
    refine x_aload (pc' := 120) rfl rfl rfl ?_
    refine x_callV (pc' := 123) (d1 := 2) (Bs := []) rfl rfl rfl rfl rfl rfl rfl (Nat.le_of_ble_eq_true rfl) ⟨rfl, rfl⟩ (by decide) rfl (by decide) ?_
    refine w_X10_deadOnes hW hR ?_
    refine ⟨rfl, ?_⟩
    refine x_iret rfl rfl ?_
    rw [countQ_j (j := 8) (by decide)] at k1
    exact k1 D OffM.rf
  · refine x_tabN (n := 9) (t := 124) rfl (by decide) rfl ?_
    refine x_aload (pc' := 125) rfl rfl rfl ?_
    refine x_getR (pc' := 128) rfl rfl rfl (by decide) rfl (by decide) rfl rfl ?_
    refine x_int (pc' := 129) (v := nI 2) rfl rfl rfl ?_
    refine x_iald (pc' := 130) rfl rfl (by decide) rfl (by decide) (show _ < 560 by omega) ?_
    refine x_top (hR.1.2.2.1) ?_
    refine x_iret rfl rfl ?_
    rw [countQ_j (j := 9) (by decide)] at k1
    exact k1 D OffM.rf
  · refine x_tabN (n := 10) (t := 131) rfl (by decide) rfl ?_
    refine x_aload (pc' := 132) rfl rfl rfl ?_
    refine x_getI (j := 5) (pc' := 135) rfl rfl rfl (by decide) rfl (by decide) rfl rfl ?_
    refine x_top (hI.2.1.2.1) ?_
    refine x_iret rfl rfl ?_
    rw [countQ_j (j := 10) (by decide)] at k1
    exact k1 D OffM.rf
  · refine x_tabN (n := 11) (t := 136) rfl (by decide) rfl ?_
    refine x_aload (pc' := 137) rfl rfl rfl ?_
    refine x_getI (j := 7) (pc' := 140) rfl rfl rfl (by decide) rfl (by decide) rfl rfl ?_
    refine x_top (hI.2.2.2.1) ?_
    refine x_iret rfl rfl ?_
    rw [countQ_j (j := 11) (by decide)] at k1
    exact k1 D OffM.rf
  · refine x_tabN (n := 12) (t := 141) rfl (by decide) rfl ?_
    refine x_aload (pc' := 142) rfl rfl rfl ?_
    refine x_getR (pc' := 145) rfl rfl rfl (by decide) rfl (by decide) rfl rfl ?_
    refine x_int (pc' := 146) (v := nI 0) rfl rfl rfl ?_
    refine x_bald (pc' := 147) rfl rfl (by decide) (Or.inr rfl) (by decide) (show _ < 2 by omega) ?_
    refine x_top ((hI.2.2.1 0 (by decide)).1) ?_
    refine x_callS (pc' := 150) (d1 := 1) (As := [_]) rfl rfl rfl rfl (by decide) rfl rfl (Nat.le_of_ble_eq_true rfl) ⟨rfl, rfl⟩ (by decide) ?_
    refine w_X10_truth (b01_or _) ?_
    refine ⟨rfl, ?_⟩
    refine x_aload (pc' := 151) rfl rfl rfl ?_
    refine x_getR (pc' := 154) rfl rfl rfl (by decide) rfl (by decide) rfl rfl ?_
    refine x_int (pc' := 155) (v := nI 1) rfl rfl rfl ?_
    refine x_bald (pc' := 156) rfl rfl (by decide) (Or.inr rfl) (by decide) (show _ < 2 by omega) ?_
    refine x_top ((hI.2.2.1 1 (by decide)).1) ?_
    refine x_callS (pc' := 159) (d1 := 1) (As := [_]) rfl rfl rfl rfl (by decide) rfl rfl (Nat.le_of_ble_eq_true rfl) ⟨rfl, rfl⟩ (by decide) ?_
    refine w_X10_truth (b01_or _) ?_
    refine ⟨rfl, ?_⟩
    refine x_int (pc' := 160) (v := nI 1) rfl rfl rfl ?_
    refine y_ishl (pc' := 161) rfl rfl (by omega) ?_
    refine y_ior (pc' := 162) rfl rfl ?_
    refine x_iret rfl rfl ?_
    rw [countQ_j (j := 12) (by decide)] at k1
    exact k1 D OffM.rf
  · refine x_tabN (n := 13) (t := 163) rfl (by decide) rfl ?_
    refine x_aload (pc' := 164) rfl rfl rfl ?_
    refine x_getR (pc' := 167) rfl rfl rfl (by decide) rfl (by decide) rfl rfl ?_
    refine x_int (pc' := 168) (v := nI 3) rfl rfl rfl ?_
    refine x_iald (pc' := 169) rfl rfl (by decide) rfl (by decide) (show _ < 560 by omega) ?_
    refine x_top (hR.1.2.2.2) ?_
    refine x_iret rfl rfl ?_
    rw [countQ_j (j := 13) (by decide)] at k1
    exact k1 D OffM.rf
  · refine x_tabO rfl (hout) (by decide) ?_
    refine x_int (pc' := 171) (v := (-1)) rfl rfl rfl ?_
    refine x_iret rfl rfl ?_
    rw [countQ_o hout] at k1
    exact k1 D OffM.rf
