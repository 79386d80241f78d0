/-! ===== slips: the reference ===== -/
def lwR (T : TW) (l : List Nat) (p k a b page j : Nat) : Nat := if j ≤ p then up T ((l.take p).drop j) (hab k a b (up T (l.drop (p + 1)) page)) else up T (l.drop j) page
theorem lwR_z {T : TW} {l : List Nat} {p k a b page : Nat} : lwR T l p k a b page 0 = up T (l.take p) (hab k a b (up T (l.drop (p + 1)) page)) := by unfold lwR; rw [if_pos (Nat.zero_le _), List.drop_zero]
theorem lwR_l {T : TW} {l : List Nat} {p k a b page : Nat} (h : p < l.length) : lwR T l p k a b page l.length = page := by unfold lwR; rw [if_neg (by omega), List.drop_length]; rfl
theorem lwR_p {T : TW} {l : List Nat} {p k a b page : Nat} (h : p < l.length) : lwR T l p k a b page p = hab k a b (lwR T l p k a b page (p + 1)) := by
  unfold lwR
  rw [if_pos (Nat.le_refl _), if_neg (by omega), List.drop_of_length_le (by rw [List.length_take]; omega)]
  rfl
theorem lwR_s {T : TW} {l : List Nat} {p k a b page n : Nat} (hn : n < l.length) (h : ¬ n = p) : lwR T l p k a b page n = stU T (l.getD n 0) (lwR T l p k a b page (n + 1)) := by
  unfold lwR
  by_cases hp : n ≤ p
  · rw [if_pos hp, if_pos (show n + 1 ≤ p by omega)]
    have hl : n < (l.take p).length := by rw [List.length_take]; omega
    rw [drop_get hl]
    have e : (l.take p).getD n 0 = l.getD n 0 := by rw [List.getD_eq_getElem?_getD, List.getElem?_take_of_lt (by omega), ← List.getD_eq_getElem?_getD]
    rw [e]
    rfl
  · rw [if_neg hp, if_neg (show ¬ n + 1 ≤ p by omega), drop_get hn]
    rfl
theorem lwR_lt {T : TW} (hW : WF T) {l : List Nat} (hl : ∀ w ∈ l, w < nw T) {p k a b page : Nat} (h : hok k a b) (hp : page < 65536) (j : Nat) : lwR T l p k a b page j < 65536 := by
  unfold lwR
  split
  · exact up_lt hW (fun w hw => hl w (List.mem_of_mem_take (List.mem_of_mem_drop hw))) (hab_lt h (up_lt hW (fun w hw => hl w (List.mem_of_mem_drop hw)) hp))
  · exact up_lt hW (fun w hw => hl w (List.mem_of_mem_drop hw)) hp
def OffT (D D' : Nat → Nat → Int32) : Prop := (∀ k, k ≠ 205 → D' k = D k) ∧ ∀ j, j < 25 → D' 205 j = D 205 j
theorem OffT.rf {D : Nat → Nat → Int32} : OffT D D := ⟨fun _ _ => rfl, fun _ _ => rfl⟩
theorem OffT.tr {D D1 D2 : Nat → Nat → Int32} (h1 : OffT D D1) (h2 : OffT D1 D2) : OffT D D2 := ⟨fun k a => (h2.1 k a).trans (h1.1 k a), fun j hj => (h2.2 j hj).trans (h1.2 j hj)⟩
theorem OffT.up {D : Nat → Nat → Int32} {j : Nat} {x : Int32} (h : 25 ≤ j) : OffT D (bh_up2 D 205 j x) := ⟨fun k h => bh_up2_ne _ _ _ h, fun i hi => up2_o (by omega)⟩
theorem OffT.m {D D' : Nat → Nat → Int32} (h : OffT D D') : OffM D D' := ⟨fun k a _ => h.1 k a, fun j hj => h.2 j (by omega)⟩
theorem OffT.rn {T : TW} {D D' : Nat → Nat → Int32} (h : OffT D D') (hR : Rn T (D 206)) : Rn T (D' 206) := by rw [h.1 206 (by decide)]; exact hR
theorem OffT.hd {D D' : Nat → Nat → Int32} {l : List Nat} (h : OffT D D') (hH : HdM D l) : HdM D' l := by unfold HdM; rw [h.1 212 (by decide)]; exact hH
theorem SlM.s2 {a a' : Nat → Int32} {z : Sl} (h : SlM a z) (hn : ¬ z.1 = 0) (h0 : a' 25 = nI (z.1 + 1)) (h1 : ∀ j, j ≠ 25 → a' j = a j) : SlM a' (z.1 + 1, z.2) := by
  obtain ⟨_, g⟩ := h
  have g := g hn
  refine ⟨h0, fun _ => ?_⟩
  rw [h1 26 (by decide), h1 27 (by decide), h1 28 (by decide), h1 29 (by decide)]
  exact g
set_option maxRecDepth 20000 in
set_option maxHeartbeats 1000000 in
theorem l_X10_lineWith {D : Nat → Nat → Int32} {L : Nat → Nat → Int64} {Q : bh_Q} {d : Nat} (hd : 4 ≤ d) {T : TW} (hW : WF T) (hR : Rn T (D 206)) {l : List Nat} (hm : ∀ w ∈ l, w < nw T) (hlen : l.length ≤ 12) (hH : HdM D l) {p k a b page : Nat} (hp : p < l.length) (h : hok k a b) (hpg : page < 65536) (k1 : Q (some (.int (nI (up T (l.take p) (hab k a b (up T (l.drop (p + 1)) page)))))) (CBorrowedHandsLaw_law_r5350_8c9601.hp D L)) : ∀ (n : Nat) (v : Int32), n ≤ l.length → v = nI n - 1 → bw m_X10_lineWith d Q 9 [.ref 205, .int (nI l.length), .int (nI p), .int (nI k), .int (nI a), .int (nI b), .int (nI page), .int (nI (lwR T l p k a b page n)), .int v] [] D L := by
  have h12 := hW.nwl
  intro n
  induction n with
  | zero =>
    intro v hn hv
    refine x_iload (pc' := 11) rfl rfl rfl ?_
    refine x_if_lt (pc' := 14) rfl rfl (fun c11 => ?_) (fun c11 => ?_)
    · refine x_iload (pc' := 56) rfl rfl rfl ?_
      refine x_iret rfl rfl ?_
      rw [lwR_z]
      exact k1
    · exact absurd (by rw [hv]; exact sub1_lt (by omega)) c11
  | succ n ih =>
    intro v hn hv
    have hv : v = nI n := by rw [hv]; exact nI_pred _
    subst hv
    refine x_iload (pc' := 11) rfl rfl rfl ?_
    refine y_if_lt (pc' := 14) rfl rfl (by omega) ?_
    refine x_iload (pc' := 16) rfl rfl rfl ?_
    refine x_iload (pc' := 17) rfl rfl rfl ?_
    refine y_ic_ne (pc' := 20) rfl rfl (by omega) (by omega) (fun c17 => ?_) (fun c17 => ?_)
    · refine x_aload (pc' := 34) rfl rfl rfl ?_
      refine x_aload (pc' := 35) rfl rfl rfl ?_
      refine x_getR (pc' := 38) rfl rfl rfl (by decide) rfl (by decide) rfl rfl ?_
      refine x_iload (pc' := 40) rfl rfl rfl ?_
      refine x_iald (pc' := 41) rfl rfl (by decide) rfl (by decide) (show _ < 12 by omega) ?_
      refine x_top (hH _ (by omega)) ?_
      refine x_iload (pc' := 43) rfl rfl rfl ?_
      refine x_callV (pc' := 46) (d1 := 4) (Bs := [_, _]) rfl rfl rfl rfl rfl rfl rfl (Nat.le_of_ble_eq_true rfl) ⟨rfl, rfl⟩ (by decide) rfl (by omega) ?_
      refine w_X10_passes hW hR (hm _ (getD_mem (by omega))) (lwR_lt hW hm h hpg _) ?_
      refine ⟨rfl, ?_⟩
      refine x_istore (pc' := 48) (lv' := [_, _, _, _, _, _, _, _, _]) rfl rfl (by decide) rfl ?_
      refine x_iinc (pc' := 51) (w := (-1)) (lv' := [_, _, _, _, _, _, _, _, _]) rfl rfl rfl rfl (by decide) (add_m1 _) rfl ?_
      refine x_goto rfl ?_
      first
        | (subst c17
           have hh := ih (nI n - 1) (by omega) rfl
           rw [lwR_p hp] at hh
           exact hh)
        | (have hh := ih (nI n - 1) (by omega) rfl
           rw [lwR_s (show n < l.length by omega) c17] at hh
           exact hh)
    · refine x_iload (pc' := 21) rfl rfl rfl ?_
      refine x_iload (pc' := 23) rfl rfl rfl ?_
      refine x_iload (pc' := 25) rfl rfl rfl ?_
      refine x_iload (pc' := 27) rfl rfl rfl ?_
      refine x_callS (pc' := 30) (d1 := 2) (As := [_, _, _, _]) rfl rfl rfl rfl (by decide) rfl rfl (Nat.le_of_ble_eq_true rfl) ⟨rfl, rfl⟩ (by omega) ?_
      refine w_X10_done h (fun _ => rfl) (fun _ => rfl) (lwR_lt hW hm h hpg _) ?_
      refine ⟨rfl, ?_⟩
      refine x_goto rfl ?_
      refine x_istore (pc' := 48) (lv' := [_, _, _, _, _, _, _, _, _]) rfl rfl (by decide) rfl ?_
      refine x_iinc (pc' := 51) (w := (-1)) (lv' := [_, _, _, _, _, _, _, _, _]) rfl rfl rfl rfl (by decide) (add_m1 _) rfl ?_
      refine x_goto rfl ?_
      first
        | (subst c17
           have hh := ih (nI n - 1) (by omega) rfl
           rw [lwR_p hp] at hh
           exact hh)
        | (have hh := ih (nI n - 1) (by omega) rfl
           rw [lwR_s (show n < l.length by omega) c17] at hh
           exact hh)
set_option maxRecDepth 20000 in
set_option maxHeartbeats 1000000 in
theorem w_X10_lineWith {D : Nat → Nat → Int32} {L : Nat → Nat → Int64} {Q : bh_Q} {T : TW} (hW : WF T) (hR : Rn T (D 206)) {l : List Nat} (hm : ∀ w ∈ l, w < nw T) (hlen : l.length ≤ 12) (hH : HdM D l) {p k a b page : Nat} (hp : p < l.length) (h : hok k a b) (hpg : page < 65536) (k1 : Q (some (.int (nI (up T (l.take p) (hab k a b (up T (l.drop (p + 1)) page)))))) (CBorrowedHandsLaw_law_r5350_8c9601.hp D L)) : bh_wc 5 m_X10_lineWith [.ref 205, .int (nI l.length), .int (nI p), .int (nI k), .int (nI a), .int (nI b), .int (nI page)] (CBorrowedHandsLaw_law_r5350_8c9601.hp D L) Q := by
  refine x_start (lv0 := [_, _, _, _, _, _, _, _, _]) (Nat.le_of_ble_eq_true rfl) rfl ?_
  refine x_iload (pc' := 2) rfl rfl rfl ?_
  refine x_istore (pc' := 4) (lv' := [_, _, _, _, _, _, _, _, _]) rfl rfl (by decide) rfl ?_
  refine x_iload (pc' := 5) rfl rfl rfl ?_
  refine x_int (pc' := 6) (v := nI 1) rfl rfl rfl ?_
  refine x_isub (pc' := 7) rfl rfl ?_
  refine x_istore (pc' := 9) (lv' := [_, _, _, _, _, _, _, _, _]) rfl rfl (by decide) rfl ?_
  have hh := l_X10_lineWith (L := L) (Q := Q) (d := 4) (Nat.le_refl _) hW hR hm hlen hH hp h hpg k1 l.length (nI l.length - 1) (Nat.le_refl _) rfl
  rw [lwR_l hp] at hh
  exact hh
theorem slB_e {T : TW} {l : List Nat} {p page line w k a b : Nat} (h : hok k a b) (h2 : ¬ (kd T w = k ∧ fa T w = a ∧ fb T w = b)) : slB T l p page line w k a b = decide (up T (l.take p) (hab k a b (up T (l.drop (p + 1)) page)) = line) := by
  unfold slB
  rw [hokB_iff.mpr h, decide_eq_false h2]
  rfl
theorem slB_h {T : TW} {l : List Nat} {p page line w k a b : Nat} (h2 : kd T w = k ∧ fa T w = a ∧ fb T w = b) : slB T l p page line w k a b = false := by
  unfold slB
  rw [decide_eq_true h2]
  simp
set_option maxRecDepth 20000 in
set_option maxHeartbeats 1000000 in
theorem l0_X10_slipsBy {L : Nat → Nat → Int64} {Q : bh_Q} {d : Nat} (hd : 5 ≤ d) {T : TW} (hW : WF T) {l : List Nat} (hm : ∀ w ∈ l, w < nw T) (hlen : l.length ≤ 12) {n k w page line : Nat} (hn : n < l.length) (ew : l.getD n 0 = w) (hk : k < 7) (hpg : page < 65536) (hline : line < 65536) {D0 : Nat → Nat → Int32} (hR0 : Rn T (D0 206)) (hH0 : HdM D0 l) {z0 : Sl} {a lw : Nat} (ha : a < mA k) (hzl : z0.1 + 16 < 1000000) (kE : ∀ D, OffT D0 D → SlM (D 205) (fB (slB T l n page line w) w k a (mB k) z0) → bw m_X10_slipsBy d Q 187 [.ref 205, .int (nI l.length), .int (nI n), .int (nI k), .int (nI page), .int (nI line), .int (nI w), .int (nI lw), .int (nI (mA k - 1)), .int (nI (mB k - 1)), .int (nI a), .int (nI (mB k))] [] D L) : ∀ (f i : Nat) (D : Nat → Nat → Int32), i + f = mB k → (OffT D0 D) → (SlM (D 205) (fB (slB T l n page line w) w k a i z0)) → bw m_X10_slipsBy d Q 65 [.ref 205, .int (nI l.length), .int (nI n), .int (nI k), .int (nI page), .int (nI line), .int (nI w), .int (nI lw), .int (nI (mA k - 1)), .int (nI (mB k - 1)), .int (nI a), .int (nI i)] [] D L := by
  intro f
  induction f with
  | zero =>
    intro i D hf o hz
    have hR := o.rn hR0
    have hH := o.hd hH0
    have hbl := fB_le (c := (slB T l n page line w)) (w := w) (k := k) (a := a) i z0
    have hmb := mB_le k
    have hma := mA_le k
    have hmb1 : 1 ≤ mB k := by unfold mB; split <;> decide
    have hw : w < nw T := by rw [← ew]; exact hm _ (getD_mem hn)
    have h12 := hW.nwl
    refine x_iload (pc' := 67) rfl rfl rfl ?_
    refine x_iload (pc' := 69) rfl rfl rfl ?_
    refine y_ic_gt (pc' := 72) rfl rfl (by omega) (by omega) (fun c69 => ?_) (fun c69 => ?_)
    · obtain rfl : i = mB k := by omega
      exact kE D o hz
    · exact absurd c69 (by omega)
  | succ f ih =>
    intro i D hf o hz
    have hR := o.rn hR0
    have hH := o.hd hH0
    have hbl := fB_le (c := (slB T l n page line w)) (w := w) (k := k) (a := a) i z0
    have hmb := mB_le k
    have hma := mA_le k
    have hmb1 : 1 ≤ mB k := by unfold mB; split <;> decide
    have hw : w < nw T := by rw [← ew]; exact hm _ (getD_mem hn)
    have h12 := hW.nwl
    refine x_iload (pc' := 67) rfl rfl rfl ?_
    refine x_iload (pc' := 69) rfl rfl rfl ?_
    refine y_ic_gt (pc' := 72) rfl rfl (by omega) (by omega) (fun c69 => ?_) (fun c69 => ?_)
    · exact absurd c69 (by omega)
    · refine x_iload (pc' := 73) rfl rfl rfl ?_
      refine x_iload (pc' := 75) rfl rfl rfl ?_
      refine x_iload (pc' := 77) rfl rfl rfl ?_
      refine x_callS (pc' := 80) (d1 := 2) (As := [_, _, _]) rfl rfl rfl rfl (by decide) rfl rfl (Nat.le_of_ble_eq_true rfl) ⟨rfl, rfl⟩ (by omega) ?_
      refine v_X10_isHabit hk ha (show i < mB k by omega) (fun hs => ?_) (fun hs => ?_)
      · refine ⟨rfl, ?_⟩
        refine x_if_eq (pc' := 83) rfl rfl (fun c80 => absurd c80 (by decide)) (fun _ => ?_)
        refine x_aload (pc' := 84) rfl rfl rfl ?_
        refine x_iload (pc' := 86) rfl rfl rfl ?_
        refine x_iload (pc' := 87) rfl rfl rfl ?_
        refine x_iload (pc' := 89) rfl rfl rfl ?_
        refine x_iload (pc' := 91) rfl rfl rfl ?_
        refine x_callV (pc' := 94) (d1 := 2) (Bs := [_, _, _, _]) rfl rfl rfl rfl rfl rfl rfl (Nat.le_of_ble_eq_true rfl) ⟨rfl, rfl⟩ (by decide) rfl (by omega) ?_
        refine v_X10_hasHabit hW hR hw hs (fun hh => ?_) (fun hh => ?_)
        · refine ⟨rfl, ?_⟩
          refine x_if_ne (pc' := 97) rfl rfl (fun _ => ?_) (fun c94 => absurd c94 (by decide))
          refine y_inc (pc' := 184) (lv' := [_, _, _, _, _, _, _, _, _, _, _, _]) rfl rfl rfl (by decide) rfl ?_
          refine x_goto rfl ?_
          first
            | (refine ih (i + 1) D (by omega) o ?_
               show SlM _ (slS (slB T l n page line w k a i) w k a i _)
               rw [show slB T l n page line w k a i = false from slB_n k a i hs]
               exact hz)
            | (refine ih (i + 1) D (by omega) o ?_
               show SlM _ (slS (slB T l n page line w k a i) w k a i _)
               rw [show slB T l n page line w k a i = false from slB_h hh]
               exact hz)
            | (refine ih (i + 1) D (by omega) o ?_
               show SlM _ (slS (slB T l n page line w k a i) w k a i _)
               rw [show slB T l n page line w k a i = false from (slB_e hs hh).trans (decide_eq_false c112)]
               exact hz)
            | (refine ih (i + 1) _ (by omega) ?_ ?_
               · first | exact o.tr (OffT.up (by decide)) | exact ((((o.tr (OffT.up (by decide))).tr (OffT.up (by decide))).tr (OffT.up (by decide))).tr (OffT.up (by decide))).tr (OffT.up (by decide))
               · show SlM _ (slS (slB T l n page line w k a i) w k a i _)
                 rw [show slB T l n page line w k a i = true from (slB_e hs hh).trans (decide_eq_true c112)]
                 first
                   | (rw [slS_2 c122]; exact hz.s2 c122 (bh_up2_self _ _ _ _) (fun j h1 => up2_o h1))
                   | (rw [slS_1 c122]; refine ⟨?_, fun _ => ⟨?_, ?_, ?_, ?_⟩⟩ <;> simp only [up2_at] <;> simp [c122] <;> omega)
                   )
        · refine ⟨rfl, ?_⟩
          refine x_if_ne (pc' := 97) rfl rfl (fun c94 => absurd (by decide) c94) (fun _ => ?_)
          refine x_aload (pc' := 98) rfl rfl rfl ?_
          refine x_iload (pc' := 99) rfl rfl rfl ?_
          refine x_iload (pc' := 100) rfl rfl rfl ?_
          refine x_iload (pc' := 101) rfl rfl rfl ?_
          refine x_iload (pc' := 103) rfl rfl rfl ?_
          refine x_iload (pc' := 105) rfl rfl rfl ?_
          refine x_iload (pc' := 107) rfl rfl rfl ?_
          refine x_callV (pc' := 110) (d1 := 5) (Bs := [_, _, _, _, _, _]) rfl rfl rfl rfl rfl rfl rfl (Nat.le_of_ble_eq_true rfl) ⟨rfl, rfl⟩ (by decide) rfl (by omega) ?_
          refine w_X10_lineWith hW hR hm hlen hH hn hs hpg ?_
          refine ⟨rfl, ?_⟩
          have hul := up_lt hW (fun w hw => hm w (List.mem_of_mem_take hw)) (l := l.take n) (hab_lt hs (up_lt hW (fun w hw => hm w (List.mem_of_mem_drop hw)) (l := l.drop (n + 1)) hpg))
          refine x_iload (pc' := 112) rfl rfl rfl ?_
          refine y_ic_eq (pc' := 115) rfl rfl (by omega) (by omega) (fun c112 => ?_) (fun c112 => ?_)
          · refine x_aload (pc' := 119) rfl rfl rfl ?_
            refine x_getI (j := 25) (pc' := 122) rfl rfl rfl (by decide) rfl (by decide) rfl rfl ?_
            refine x_top (hz.1) ?_
            refine y_if_ne (pc' := 125) rfl rfl (by omega) (fun c122 => ?_) (fun c122 => ?_)
            · refine x_aload (pc' := 172) rfl rfl rfl ?_
              refine x_dup (pc' := 173) rfl rfl rfl ?_
              refine x_getI (j := 25) (pc' := 176) rfl rfl rfl (by decide) rfl (by decide) rfl rfl ?_
              refine x_top (hz.1) ?_
              refine x_int (pc' := 177) (v := nI 1) rfl rfl rfl ?_
              refine y_iadd (pc' := 178) rfl rfl ?_
              refine x_putI (j := 25) (pc' := 181) rfl rfl rfl (by decide) rfl (by decide) rfl rfl ?_
              refine y_inc (pc' := 184) (lv' := [_, _, _, _, _, _, _, _, _, _, _, _]) rfl rfl rfl (by decide) rfl ?_
              refine x_goto rfl ?_
              first
                | (refine ih (i + 1) D (by omega) o ?_
                   show SlM _ (slS (slB T l n page line w k a i) w k a i _)
                   rw [show slB T l n page line w k a i = false from slB_n k a i hs]
                   exact hz)
                | (refine ih (i + 1) D (by omega) o ?_
                   show SlM _ (slS (slB T l n page line w k a i) w k a i _)
                   rw [show slB T l n page line w k a i = false from slB_h hh]
                   exact hz)
                | (refine ih (i + 1) D (by omega) o ?_
                   show SlM _ (slS (slB T l n page line w k a i) w k a i _)
                   rw [show slB T l n page line w k a i = false from (slB_e hs hh).trans (decide_eq_false c112)]
                   exact hz)
                | (refine ih (i + 1) _ (by omega) ?_ ?_
                   · first | exact o.tr (OffT.up (by decide)) | exact ((((o.tr (OffT.up (by decide))).tr (OffT.up (by decide))).tr (OffT.up (by decide))).tr (OffT.up (by decide))).tr (OffT.up (by decide))
                   · show SlM _ (slS (slB T l n page line w k a i) w k a i _)
                     rw [show slB T l n page line w k a i = true from (slB_e hs hh).trans (decide_eq_true c112)]
                     first
                       | (rw [slS_2 c122]; exact hz.s2 c122 (bh_up2_self _ _ _ _) (fun j h1 => up2_o h1))
                       | (rw [slS_1 c122]; refine ⟨?_, fun _ => ⟨?_, ?_, ?_, ?_⟩⟩ <;> simp only [up2_at] <;> simp [c122] <;> omega)
                       )
            · refine x_aload (pc' := 126) rfl rfl rfl ?_
              refine x_iload (pc' := 128) rfl rfl rfl ?_
              refine x_putI (j := 26) (pc' := 131) rfl rfl rfl (by decide) rfl (by decide) rfl rfl ?_
              refine x_aload (pc' := 132) rfl rfl rfl ?_
              refine x_iload (pc' := 133) rfl rfl rfl ?_
              refine x_putI (j := 27) (pc' := 136) rfl rfl rfl (by decide) rfl (by decide) rfl rfl ?_
              refine x_aload (pc' := 137) rfl rfl rfl ?_
              refine x_iload (pc' := 138) rfl rfl rfl ?_
              refine x_callS (pc' := 141) (d1 := 1) (As := [_]) rfl rfl rfl rfl (by decide) rfl rfl (Nat.le_of_ble_eq_true rfl) ⟨rfl, rfl⟩ (by omega) ?_
              refine w_X10_needs hk ?_
              refine ⟨rfl, ?_⟩
              have hsg : sg k < 3 := by unfold sg; split; decide; split <;> decide
              refine y_if_le (pc' := 144) rfl rfl (by omega) (fun c141 => ?_) (fun c141 => ?_)
              · refine x_int (pc' := 150) (v := (-1)) rfl rfl rfl ?_
                refine x_putI (j := 28) (pc' := 153) rfl rfl rfl (by decide) rfl (by decide) rfl rfl ?_
                refine x_aload (pc' := 154) rfl rfl rfl ?_
                refine x_iload (pc' := 155) rfl rfl rfl ?_
                refine x_callS (pc' := 158) (d1 := 1) (As := [_]) rfl rfl rfl rfl (by decide) rfl rfl (Nat.le_of_ble_eq_true rfl) ⟨rfl, rfl⟩ (by omega) ?_
                refine w_X10_needs hk ?_
                refine ⟨rfl, ?_⟩
                have hsg : sg k < 3 := by unfold sg; split; decide; split <;> decide
                refine x_int (pc' := 159) (v := nI 1) rfl rfl rfl ?_
                refine y_ic_le (pc' := 162) rfl rfl (by omega) (by omega) (fun c159 => ?_) (fun c159 => ?_)
                · refine x_int (pc' := 168) (v := (-1)) rfl rfl rfl ?_
                  refine x_putI (j := 29) (pc' := 171) rfl rfl rfl (by decide) rfl (by decide) rfl rfl ?_
                  refine x_aload (pc' := 172) rfl rfl rfl ?_
                  refine x_dup (pc' := 173) rfl rfl rfl ?_
                  refine x_getI (j := 25) (pc' := 176) rfl rfl rfl (by decide) rfl (by decide) rfl rfl ?_
                  refine x_top ((up2_o (by decide)).trans ((up2_o (by decide)).trans ((up2_o (by decide)).trans ((up2_o (by decide)).trans hz.1)))) ?_
                  refine x_int (pc' := 177) (v := nI 1) rfl rfl rfl ?_
                  refine y_iadd (pc' := 178) rfl rfl ?_
                  refine x_putI (j := 25) (pc' := 181) rfl rfl rfl (by decide) rfl (by decide) rfl rfl ?_
                  refine y_inc (pc' := 184) (lv' := [_, _, _, _, _, _, _, _, _, _, _, _]) rfl rfl rfl (by decide) rfl ?_
                  refine x_goto rfl ?_
                  first
                    | (refine ih (i + 1) D (by omega) o ?_
                       show SlM _ (slS (slB T l n page line w k a i) w k a i _)
                       rw [show slB T l n page line w k a i = false from slB_n k a i hs]
                       exact hz)
                    | (refine ih (i + 1) D (by omega) o ?_
                       show SlM _ (slS (slB T l n page line w k a i) w k a i _)
                       rw [show slB T l n page line w k a i = false from slB_h hh]
                       exact hz)
                    | (refine ih (i + 1) D (by omega) o ?_
                       show SlM _ (slS (slB T l n page line w k a i) w k a i _)
                       rw [show slB T l n page line w k a i = false from (slB_e hs hh).trans (decide_eq_false c112)]
                       exact hz)
                    | (refine ih (i + 1) _ (by omega) ?_ ?_
                       · first | exact o.tr (OffT.up (by decide)) | exact ((((o.tr (OffT.up (by decide))).tr (OffT.up (by decide))).tr (OffT.up (by decide))).tr (OffT.up (by decide))).tr (OffT.up (by decide))
                       · show SlM _ (slS (slB T l n page line w k a i) w k a i _)
                         rw [show slB T l n page line w k a i = true from (slB_e hs hh).trans (decide_eq_true c112)]
                         first
                           | (rw [slS_2 c122]; exact hz.s2 c122 (bh_up2_self _ _ _ _) (fun j h1 => up2_o h1))
                           | (rw [slS_1 c122]; refine ⟨?_, fun _ => ⟨?_, ?_, ?_, ?_⟩⟩ <;> simp only [up2_at] <;> simp [c122] <;> omega)
                           )
                · refine x_iload (pc' := 164) rfl rfl rfl ?_
                  refine x_goto rfl ?_
                  refine x_putI (j := 29) (pc' := 171) rfl rfl rfl (by decide) rfl (by decide) rfl rfl ?_
                  refine x_aload (pc' := 172) rfl rfl rfl ?_
                  refine x_dup (pc' := 173) rfl rfl rfl ?_
                  refine x_getI (j := 25) (pc' := 176) rfl rfl rfl (by decide) rfl (by decide) rfl rfl ?_
                  refine x_top ((up2_o (by decide)).trans ((up2_o (by decide)).trans ((up2_o (by decide)).trans ((up2_o (by decide)).trans hz.1)))) ?_
                  refine x_int (pc' := 177) (v := nI 1) rfl rfl rfl ?_
                  refine y_iadd (pc' := 178) rfl rfl ?_
                  refine x_putI (j := 25) (pc' := 181) rfl rfl rfl (by decide) rfl (by decide) rfl rfl ?_
                  refine y_inc (pc' := 184) (lv' := [_, _, _, _, _, _, _, _, _, _, _, _]) rfl rfl rfl (by decide) rfl ?_
                  refine x_goto rfl ?_
                  first
                    | (refine ih (i + 1) D (by omega) o ?_
                       show SlM _ (slS (slB T l n page line w k a i) w k a i _)
                       rw [show slB T l n page line w k a i = false from slB_n k a i hs]
                       exact hz)
                    | (refine ih (i + 1) D (by omega) o ?_
                       show SlM _ (slS (slB T l n page line w k a i) w k a i _)
                       rw [show slB T l n page line w k a i = false from slB_h hh]
                       exact hz)
                    | (refine ih (i + 1) D (by omega) o ?_
                       show SlM _ (slS (slB T l n page line w k a i) w k a i _)
                       rw [show slB T l n page line w k a i = false from (slB_e hs hh).trans (decide_eq_false c112)]
                       exact hz)
                    | (refine ih (i + 1) _ (by omega) ?_ ?_
                       · first | exact o.tr (OffT.up (by decide)) | exact ((((o.tr (OffT.up (by decide))).tr (OffT.up (by decide))).tr (OffT.up (by decide))).tr (OffT.up (by decide))).tr (OffT.up (by decide))
                       · show SlM _ (slS (slB T l n page line w k a i) w k a i _)
                         rw [show slB T l n page line w k a i = true from (slB_e hs hh).trans (decide_eq_true c112)]
                         first
                           | (rw [slS_2 c122]; exact hz.s2 c122 (bh_up2_self _ _ _ _) (fun j h1 => up2_o h1))
                           | (rw [slS_1 c122]; refine ⟨?_, fun _ => ⟨?_, ?_, ?_, ?_⟩⟩ <;> simp only [up2_at] <;> simp [c122] <;> omega)
                           )
              · refine x_iload (pc' := 146) rfl rfl rfl ?_
                refine x_goto rfl ?_
                refine x_putI (j := 28) (pc' := 153) rfl rfl rfl (by decide) rfl (by decide) rfl rfl ?_
                refine x_aload (pc' := 154) rfl rfl rfl ?_
                refine x_iload (pc' := 155) rfl rfl rfl ?_
                refine x_callS (pc' := 158) (d1 := 1) (As := [_]) rfl rfl rfl rfl (by decide) rfl rfl (Nat.le_of_ble_eq_true rfl) ⟨rfl, rfl⟩ (by omega) ?_
                refine w_X10_needs hk ?_
                refine ⟨rfl, ?_⟩
                have hsg : sg k < 3 := by unfold sg; split; decide; split <;> decide
                refine x_int (pc' := 159) (v := nI 1) rfl rfl rfl ?_
                refine y_ic_le (pc' := 162) rfl rfl (by omega) (by omega) (fun c159 => ?_) (fun c159 => ?_)
                · refine x_int (pc' := 168) (v := (-1)) rfl rfl rfl ?_
                  refine x_putI (j := 29) (pc' := 171) rfl rfl rfl (by decide) rfl (by decide) rfl rfl ?_
                  refine x_aload (pc' := 172) rfl rfl rfl ?_
                  refine x_dup (pc' := 173) rfl rfl rfl ?_
                  refine x_getI (j := 25) (pc' := 176) rfl rfl rfl (by decide) rfl (by decide) rfl rfl ?_
                  refine x_top ((up2_o (by decide)).trans ((up2_o (by decide)).trans ((up2_o (by decide)).trans ((up2_o (by decide)).trans hz.1)))) ?_
                  refine x_int (pc' := 177) (v := nI 1) rfl rfl rfl ?_
                  refine y_iadd (pc' := 178) rfl rfl ?_
                  refine x_putI (j := 25) (pc' := 181) rfl rfl rfl (by decide) rfl (by decide) rfl rfl ?_
                  refine y_inc (pc' := 184) (lv' := [_, _, _, _, _, _, _, _, _, _, _, _]) rfl rfl rfl (by decide) rfl ?_
                  refine x_goto rfl ?_
                  first
                    | (refine ih (i + 1) D (by omega) o ?_
                       show SlM _ (slS (slB T l n page line w k a i) w k a i _)
                       rw [show slB T l n page line w k a i = false from slB_n k a i hs]
                       exact hz)
                    | (refine ih (i + 1) D (by omega) o ?_
                       show SlM _ (slS (slB T l n page line w k a i) w k a i _)
                       rw [show slB T l n page line w k a i = false from slB_h hh]
                       exact hz)
                    | (refine ih (i + 1) D (by omega) o ?_
                       show SlM _ (slS (slB T l n page line w k a i) w k a i _)
                       rw [show slB T l n page line w k a i = false from (slB_e hs hh).trans (decide_eq_false c112)]
                       exact hz)
                    | (refine ih (i + 1) _ (by omega) ?_ ?_
                       · first | exact o.tr (OffT.up (by decide)) | exact ((((o.tr (OffT.up (by decide))).tr (OffT.up (by decide))).tr (OffT.up (by decide))).tr (OffT.up (by decide))).tr (OffT.up (by decide))
                       · show SlM _ (slS (slB T l n page line w k a i) w k a i _)
                         rw [show slB T l n page line w k a i = true from (slB_e hs hh).trans (decide_eq_true c112)]
                         first
                           | (rw [slS_2 c122]; exact hz.s2 c122 (bh_up2_self _ _ _ _) (fun j h1 => up2_o h1))
                           | (rw [slS_1 c122]; refine ⟨?_, fun _ => ⟨?_, ?_, ?_, ?_⟩⟩ <;> simp only [up2_at] <;> simp [c122] <;> omega)
                           )
                · refine x_iload (pc' := 164) rfl rfl rfl ?_
                  refine x_goto rfl ?_
                  refine x_putI (j := 29) (pc' := 171) rfl rfl rfl (by decide) rfl (by decide) rfl rfl ?_
                  refine x_aload (pc' := 172) rfl rfl rfl ?_
                  refine x_dup (pc' := 173) rfl rfl rfl ?_
                  refine x_getI (j := 25) (pc' := 176) rfl rfl rfl (by decide) rfl (by decide) rfl rfl ?_
                  refine x_top ((up2_o (by decide)).trans ((up2_o (by decide)).trans ((up2_o (by decide)).trans ((up2_o (by decide)).trans hz.1)))) ?_
                  refine x_int (pc' := 177) (v := nI 1) rfl rfl rfl ?_
                  refine y_iadd (pc' := 178) rfl rfl ?_
                  refine x_putI (j := 25) (pc' := 181) rfl rfl rfl (by decide) rfl (by decide) rfl rfl ?_
                  refine y_inc (pc' := 184) (lv' := [_, _, _, _, _, _, _, _, _, _, _, _]) rfl rfl rfl (by decide) rfl ?_
                  refine x_goto rfl ?_
                  first
                    | (refine ih (i + 1) D (by omega) o ?_
                       show SlM _ (slS (slB T l n page line w k a i) w k a i _)
                       rw [show slB T l n page line w k a i = false from slB_n k a i hs]
                       exact hz)
                    | (refine ih (i + 1) D (by omega) o ?_
                       show SlM _ (slS (slB T l n page line w k a i) w k a i _)
                       rw [show slB T l n page line w k a i = false from slB_h hh]
                       exact hz)
                    | (refine ih (i + 1) D (by omega) o ?_
                       show SlM _ (slS (slB T l n page line w k a i) w k a i _)
                       rw [show slB T l n page line w k a i = false from (slB_e hs hh).trans (decide_eq_false c112)]
                       exact hz)
                    | (refine ih (i + 1) _ (by omega) ?_ ?_
                       · first | exact o.tr (OffT.up (by decide)) | exact ((((o.tr (OffT.up (by decide))).tr (OffT.up (by decide))).tr (OffT.up (by decide))).tr (OffT.up (by decide))).tr (OffT.up (by decide))
                       · show SlM _ (slS (slB T l n page line w k a i) w k a i _)
                         rw [show slB T l n page line w k a i = true from (slB_e hs hh).trans (decide_eq_true c112)]
                         first
                           | (rw [slS_2 c122]; exact hz.s2 c122 (bh_up2_self _ _ _ _) (fun j h1 => up2_o h1))
                           | (rw [slS_1 c122]; refine ⟨?_, fun _ => ⟨?_, ?_, ?_, ?_⟩⟩ <;> simp only [up2_at] <;> simp [c122] <;> omega)
                           )
          · refine x_goto rfl ?_
            refine y_inc (pc' := 184) (lv' := [_, _, _, _, _, _, _, _, _, _, _, _]) rfl rfl rfl (by decide) rfl ?_
            refine x_goto rfl ?_
            first
              | (refine ih (i + 1) D (by omega) o ?_
                 show SlM _ (slS (slB T l n page line w k a i) w k a i _)
                 rw [show slB T l n page line w k a i = false from slB_n k a i hs]
                 exact hz)
              | (refine ih (i + 1) D (by omega) o ?_
                 show SlM _ (slS (slB T l n page line w k a i) w k a i _)
                 rw [show slB T l n page line w k a i = false from slB_h hh]
                 exact hz)
              | (refine ih (i + 1) D (by omega) o ?_
                 show SlM _ (slS (slB T l n page line w k a i) w k a i _)
                 rw [show slB T l n page line w k a i = false from (slB_e hs hh).trans (decide_eq_false c112)]
                 exact hz)
              | (refine ih (i + 1) _ (by omega) ?_ ?_
                 · first | exact o.tr (OffT.up (by decide)) | exact ((((o.tr (OffT.up (by decide))).tr (OffT.up (by decide))).tr (OffT.up (by decide))).tr (OffT.up (by decide))).tr (OffT.up (by decide))
                 · show SlM _ (slS (slB T l n page line w k a i) w k a i _)
                   rw [show slB T l n page line w k a i = true from (slB_e hs hh).trans (decide_eq_true c112)]
                   first
                     | (rw [slS_2 c122]; exact hz.s2 c122 (bh_up2_self _ _ _ _) (fun j h1 => up2_o h1))
                     | (rw [slS_1 c122]; refine ⟨?_, fun _ => ⟨?_, ?_, ?_, ?_⟩⟩ <;> simp only [up2_at] <;> simp [c122] <;> omega)
                     )
      · refine ⟨rfl, ?_⟩
        refine x_if_eq (pc' := 83) rfl rfl (fun _ => ?_) (fun c80 => absurd (by decide) c80)
        refine y_inc (pc' := 184) (lv' := [_, _, _, _, _, _, _, _, _, _, _, _]) rfl rfl rfl (by decide) rfl ?_
        refine x_goto rfl ?_
        first
          | (refine ih (i + 1) D (by omega) o ?_
             show SlM _ (slS (slB T l n page line w k a i) w k a i _)
             rw [show slB T l n page line w k a i = false from slB_n k a i hs]
             exact hz)
          | (refine ih (i + 1) D (by omega) o ?_
             show SlM _ (slS (slB T l n page line w k a i) w k a i _)
             rw [show slB T l n page line w k a i = false from slB_h hh]
             exact hz)
          | (refine ih (i + 1) D (by omega) o ?_
             show SlM _ (slS (slB T l n page line w k a i) w k a i _)
             rw [show slB T l n page line w k a i = false from (slB_e hs hh).trans (decide_eq_false c112)]
             exact hz)
          | (refine ih (i + 1) _ (by omega) ?_ ?_
             · first | exact o.tr (OffT.up (by decide)) | exact ((((o.tr (OffT.up (by decide))).tr (OffT.up (by decide))).tr (OffT.up (by decide))).tr (OffT.up (by decide))).tr (OffT.up (by decide))
             · show SlM _ (slS (slB T l n page line w k a i) w k a i _)
               rw [show slB T l n page line w k a i = true from (slB_e hs hh).trans (decide_eq_true c112)]
               first
                 | (rw [slS_2 c122]; exact hz.s2 c122 (bh_up2_self _ _ _ _) (fun j h1 => up2_o h1))
                 | (rw [slS_1 c122]; refine ⟨?_, fun _ => ⟨?_, ?_, ?_, ?_⟩⟩ <;> simp only [up2_at] <;> simp [c122] <;> omega)
                 )
