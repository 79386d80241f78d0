/-! ===== slips: the reference ===== -/
def lwR (T : TW) (l : List Nat) (p k a b page j : Nat) : Nat := if j ≤ p then up T ((l.take p).drop j) (hab k a b (up T (l.drop (p + 1)) page)) else up T (l.drop j) page
theorem lwR_z {T : TW} {l : List Nat} {p k a b page : Nat} : lwR T l p k a b page 0 = up T (l.take p) (hab k a b (up T (l.drop (p + 1)) page)) := by unfold lwR; rw [if_pos (Nat.zero_le _), List.drop_zero]
theorem lwR_l {T : TW} {l : List Nat} {p k a b page : Nat} (h : p < l.length) : lwR T l p k a b page l.length = page := by unfold lwR; rw [if_neg (by omega), List.drop_length]; rfl
theorem lwR_p {T : TW} {l : List Nat} {p k a b page : Nat} (h : p < l.length) : lwR T l p k a b page p = hab k a b (lwR T l p k a b page (p + 1)) := by
  unfold lwR
  rw [if_pos (Nat.le_refl _), if_neg (by omega), List.drop_of_length_le (by rw [List.length_take]; omega)]
  rfl
theorem lwR_s {T : TW} {l : List Nat} {p k a b page n : Nat} (hn : n < l.length) (h : ¬ n = p) : lwR T l p k a b page n = stU T (l.getD n 0) (lwR T l p k a b page (n + 1)) := by
  unfold lwR
  by_cases hp : n ≤ p
  · rw [if_pos hp, if_pos (show n + 1 ≤ p by omega)]
    have hl : n < (l.take p).length := by rw [List.length_take]; omega
    rw [drop_get hl]
    have e : (l.take p).getD n 0 = l.getD n 0 := by rw [List.getD_eq_getElem?_getD, List.getElem?_take_of_lt (by omega), ← List.getD_eq_getElem?_getD]
    rw [e]
    rfl
  · rw [if_neg hp, if_neg (show ¬ n + 1 ≤ p by omega), drop_get hn]
    rfl
theorem lwR_lt {T : TW} (hW : WF T) {l : List Nat} (hl : ∀ w ∈ l, w < nw T) {p k a b page : Nat} (h : hok k a b) (hp : page < 65536) (j : Nat) : lwR T l p k a b page j < 65536 := by
  unfold lwR
  split
  · exact up_lt hW (fun w hw => hl w (List.mem_of_mem_take (List.mem_of_mem_drop hw))) (hab_lt h (up_lt hW (fun w hw => hl w (List.mem_of_mem_drop hw)) hp))
  · exact up_lt hW (fun w hw => hl w (List.mem_of_mem_drop hw)) hp
def OffT (D D' : Nat → Nat → Int32) : Prop := (∀ k, k ≠ 205 → D' k = D k) ∧ ∀ j, j < 25 → D' 205 j = D 205 j
theorem OffT.rf {D : Nat → Nat → Int32} : OffT D D := ⟨fun _ _ => rfl, fun _ _ => rfl⟩
theorem OffT.tr {D D1 D2 : Nat → Nat → Int32} (h1 : OffT D D1) (h2 : OffT D1 D2) : OffT D D2 := ⟨fun k a => (h2.1 k a).trans (h1.1 k a), fun j hj => (h2.2 j hj).trans (h1.2 j hj)⟩
theorem OffT.up {D : Nat → Nat → Int32} {j : Nat} {x : Int32} (h : 25 ≤ j) : OffT D (bh_up2 D 205 j x) := ⟨fun k h => bh_up2_ne _ _ _ h, fun i hi => up2_o (by omega)⟩
theorem OffT.m {D D' : Nat → Nat → Int32} (h : OffT D D') : OffM D D' := ⟨fun k a _ => h.1 k a, fun j hj => h.2 j (by omega)⟩
theorem OffT.rn {T : TW} {D D' : Nat → Nat → Int32} (h : OffT D D') (hR : Rn T (D 206)) : Rn T (D' 206) := by rw [h.1 206 (by decide)]; exact hR
theorem OffT.hd {D D' : Nat → Nat → Int32} {l : List Nat} (h : OffT D D') (hH : HdM D l) : HdM D' l := by unfold HdM; rw [h.1 212 (by decide)]; exact hH
theorem SlM.s2 {a a' : Nat → Int32} {z : Sl} (h : SlM a z) (hn : ¬ z.1 = 0) (h0 : a' 25 = nI (z.1 + 1)) (h1 : ∀ j, j ≠ 25 → a' j = a j) : SlM a' (z.1 + 1, z.2) := by
  obtain ⟨_, g⟩ := h
  have g := g hn
  refine ⟨h0, fun _ => ?_⟩
  rw [h1 26 (by decide), h1 27 (by decide), h1 28 (by decide), h1 29 (by decide)]
  exact g
set_option maxRecDepth 20000 in
set_option maxHeartbeats 1000000 in
theorem l_X10_lineWith {D : Nat → Nat → Int32} {L : Nat → Nat → Int64} {Q : bh_Q} {d : Nat} (hd : 4 ≤ d) {T : TW} (hW : WF T) (hR : Rn T (D 206)) {l : List Nat} (hm : ∀ w ∈ l, w < nw T) (hlen : l.length ≤ 12) (hH : HdM D l) {p k a b page : Nat} (hp : p < l.length) (h : hok k a b) (hpg : page < 65536) (k1 : Q (some (.int (nI (up T (l.take p) (hab k a b (up T (l.drop (p + 1)) page)))))) (CBorrowedHandsLaw_law_r5350_8c9601.hp D L)) : ∀ (n : Nat) (v : Int32), n ≤ l.length → v = nI n - 1 → bw m_X10_lineWith d Q 9 [.ref 205, .int (nI l.length), .int (nI p), .int (nI k), .int (nI a), .int (nI b), .int (nI page), .int (nI (lwR T l p k a b page n)), .int v] [] D L := by
  have h12 := hW.nwl
  intro n
  induction n with
  | zero =>
    intro v hn hv
    refine x_iload (pc' := 11) rfl rfl rfl ?_
    refine x_if_lt (pc' := 14) rfl rfl (fun c11 => ?_) (fun c11 => ?_)
    · refine x_iload (pc' := 56) rfl rfl rfl ?_
      refine x_iret rfl rfl ?_
      rw [lwR_z]
      exact k1
    · exact absurd (by rw [hv]; exact sub1_lt (by omega)) c11
  | succ n ih =>
    intro v hn hv
    have hv : v = nI n := by rw [hv]; exact nI_pred _
    subst hv
    refine x_iload (pc' := 11) rfl rfl rfl ?_
    refine y_if_lt (pc' := 14) rfl rfl (by omega) ?_
    refine x_iload (pc' := 16) rfl rfl rfl ?_
    refine x_iload (pc' := 17) rfl rfl rfl ?_
    refine y_ic_ne (pc' := 20) rfl rfl (by omega) (by omega) (fun c17 => ?_) (fun c17 => ?_)
    · refine x_aload (pc' := 34) rfl rfl rfl ?_
      refine x_aload (pc' := 35) rfl rfl rfl ?_
      refine x_getR (pc' := 38) rfl rfl rfl (by decide) rfl (by decide) rfl rfl ?_
      refine x_iload (pc' := 40) rfl rfl rfl ?_
      refine x_iald (pc' := 41) rfl rfl (by decide) rfl (by decide) (show _ < 12 by omega) ?_
      refine x_top (hH _ (by omega)) ?_
      refine x_iload (pc' := 43) rfl rfl rfl ?_
      refine x_callV (pc' := 46) (d1 := 4) (Bs := [_, _]) rfl rfl rfl rfl rfl rfl rfl (Nat.le_of_ble_eq_true rfl) ⟨rfl, rfl⟩ (by decide) rfl (by omega) ?_
      refine w_X10_passes hW hR (hm _ (getD_mem (by omega))) (lwR_lt hW hm h hpg _) ?_
      refine ⟨rfl, ?_⟩
      refine x_istore (pc' := 48) (lv' := [_, _, _, _, _, _, _, _, _]) rfl rfl (by decide) rfl ?_
      refine x_iinc (pc' := 51) (w := (-1)) (lv' := [_, _, _, _, _, _, _, _, _]) rfl rfl rfl rfl (by decide) (add_m1 _) rfl ?_
      refine x_goto rfl ?_
      first
        | (subst c17
           have hh := ih (nI n - 1) (by omega) rfl
           rw [lwR_p hp] at hh
           exact hh)
        | (have hh := ih (nI n - 1) (by omega) rfl
           rw [lwR_s (show n < l.length by omega) c17] at hh
           exact hh)
    · refine x_iload (pc' := 21) rfl rfl rfl ?_
      refine x_iload (pc' := 23) rfl rfl rfl ?_
      refine x_iload (pc' := 25) rfl rfl rfl ?_
      refine x_iload (pc' := 27) rfl rfl rfl ?_
      refine x_callS (pc' := 30) (d1 := 2) (As := [_, _, _, _]) rfl rfl rfl rfl (by decide) rfl rfl (Nat.le_of_ble_eq_true rfl) ⟨rfl, rfl⟩ (by omega) ?_
      refine w_X10_done h (fun _ => rfl) (fun _ => rfl) (lwR_lt hW hm h hpg _) ?_
      refine ⟨rfl, ?_⟩
      refine x_goto rfl ?_
      refine x_istore (pc' := 48) (lv' := [_, _, _, _, _, _, _, _, _]) rfl rfl (by decide) rfl ?_
      refine x_iinc (pc' := 51) (w := (-1)) (lv' := [_, _, _, _, _, _, _, _, _]) rfl rfl rfl rfl (by decide) (add_m1 _) rfl ?_
      refine x_goto rfl ?_
      first
        | (subst c17
           have hh := ih (nI n - 1) (by omega) rfl
           rw [lwR_p hp] at hh
           exact hh)
        | (have hh := ih (nI n - 1) (by omega) rfl
           rw [lwR_s (show n < l.length by omega) c17] at hh
           exact hh)
set_option maxRecDepth 20000 in
set_option maxHeartbeats 1000000 in
theorem w_X10_lineWith {D : Nat → Nat → Int32} {L : Nat → Nat → Int64} {Q : bh_Q} {T : TW} (hW : WF T) (hR : Rn T (D 206)) {l : List Nat} (hm : ∀ w ∈ l, w < nw T) (hlen : l.length ≤ 12) (hH : HdM D l) {p k a b page : Nat} (hp : p < l.length) (h : hok k a b) (hpg : page < 65536) (k1 : Q (some (.int (nI (up T (l.take p) (hab k a b (up T (l.drop (p + 1)) page)))))) (CBorrowedHandsLaw_law_r5350_8c9601.hp D L)) : bh_wc 5 m_X10_lineWith [.ref 205, .int (nI l.length), .int (nI p), .int (nI k), .int (nI a), .int (nI b), .int (nI page)] (CBorrowedHandsLaw_law_r5350_8c9601.hp D L) Q := by
  refine x_start (lv0 := [_, _, _, _, _, _, _, _, _]) (Nat.le_of_ble_eq_true rfl) rfl ?_
  refine x_iload (pc' := 2) rfl rfl rfl ?_
  refine x_istore (pc' := 4) (lv' := [_, _, _, _, _, _, _, _, _]) rfl rfl (by decide) rfl ?_
  refine x_iload (pc' := 5) rfl rfl rfl ?_
  refine x_int (pc' := 6) (v := nI 1) rfl rfl rfl ?_
  refine x_isub (pc' := 7) rfl rfl ?_
  refine x_istore (pc' := 9) (lv' := [_, _, _, _, _, _, _, _, _]) rfl rfl (by decide) rfl ?_
  have hh := l_X10_lineWith (L := L) (Q := Q) (d := 4) (Nat.le_refl _) hW hR hm hlen hH hp h hpg k1 l.length (nI l.length - 1) (Nat.le_refl _) rfl
  rw [lwR_l hp] at hh
  exact hh
theorem slB_e {T : TW} {l : List Nat} {p page line w k a b : Nat} (h : hok k a b) (h2 : ¬ (kd T w = k ∧ fa T w = a ∧ fb T w = b)) : slB T l p page line w k a b = decide (up T (l.take p) (hab k a b (up T (l.drop (p + 1)) page)) = line) := by
  unfold slB
  rw [hokB_iff.mpr h, decide_eq_false h2]
  rfl
theorem slB_h {T : TW} {l : List Nat} {p page line w k a b : Nat} (h2 : kd T w = k ∧ fa T w = a ∧ fb T w = b) : slB T l p page line w k a b = false := by
  unfold slB
  rw [decide_eq_true h2]
  simp
set_option maxRecDepth 20000 in
set_option maxHeartbeats 1000000 in
theorem l0_X10_slipsBy {L : Nat → Nat → Int64} {Q : bh_Q} {d : Nat} (hd : 5 ≤ d) {T : TW} (hW : WF T) {l : List Nat} (hm : ∀ w ∈ l, w < nw T) (hlen : l.length ≤ 12) {n k w page line : Nat} (hn : n < l.length) (ew : l.getD n 0 = w) (hk : k < 7) (hpg : page < 65536) (hline : line < 65536) {D0 : Nat → Nat → Int32} (hR0 : Rn T (D0 206)) (hH0 : HdM D0 l) {z0 : Sl} {a lw : Nat} (ha : a < mA k) (hzl : z0.1 + 16 < 1000000) (kE : ∀ D, OffT D0 D → SlM (D 205) (fB (slB T l n page line w) w k a (mB k) z0) → bw m_X10_slipsBy d Q 187 [.ref 205, .int (nI l.length), .int (nI n), .int (nI k), .int (nI page), .int (nI line), .int (nI w), .int (nI lw), .int (nI (mA k - 1)), .int (nI (mB k - 1)), .int (nI a), .int (nI (mB k))] [] D L) : ∀ (f i : Nat) (D : Nat → Nat → Int32), i + f = mB k → (OffT D0 D) → (SlM (D 205) (fB (slB T l n page line w) w k a i z0)) → bw m_X10_slipsBy d Q 65 [.ref 205, .int (nI l.length), .int (nI n), .int (nI k), .int (nI page), .int (nI line), .int (nI w), .int (nI lw), .int (nI (mA k - 1)), .int (nI (mB k - 1)), .int (nI a), .int (nI i)] [] D L := by
  intro f
  induction f with
  | zero =>
    intro i D hf o hz
    have hR := o.rn hR0
    have hH := o.hd hH0
    have hbl := fB_le (c := (slB T l n page line w)) (w := w) (k := k) (a := a) i z0
    have hmb := mB_le k
    have hma := mA_le k
    have hmb1 : 1 ≤ mB k := by unfold mB; split <;> decide
    have hw : w < nw T := by rw [← ew]; exact hm _ (getD_mem hn)
    have h12 := hW.nwl
    refine x_iload (pc' := 67) rfl rfl rfl ?_
    refine x_iload (pc' := 69) rfl rfl rfl ?_
    refine y_ic_gt (pc' := 72) rfl rfl (by omega) (by omega) (fun c69 => ?_) (fun c69 => ?_)
    · obtain rfl : i = mB k := by omega
      exact kE D o hz
    · exact absurd c69 (by omega)
  | succ f ih =>
    intro i D hf o hz
    have hR := o.rn hR0
    have hH := o.hd hH0
    have hbl := fB_le (c := (slB T l n page line w)) (w := w) (k := k) (a := a) i z0
    have hmb := mB_le k
    have hma := mA_le k
    have hmb1 : 1 ≤ mB k := by unfold mB; split <;> decide
    have hw : w < nw T := by rw [← ew]; exact hm _ (getD_mem hn)
    have h12 := hW.nwl
    refine x_iload (pc' := 67) rfl rfl rfl ?_
    refine x_iload (pc' := 69) rfl rfl rfl ?_
    refine y_ic_gt (pc' := 72) rfl rfl (by omega) (by omega) (fun c69 => ?_) (fun c69 => ?_)
    · exact absurd c69 (by omega)
    · refine x_iload (pc' := 73) rfl rfl rfl ?_
      refine x_iload (pc' := 75) rfl rfl rfl ?_
      refine x_iload (pc' := 77) rfl rfl rfl ?_
      refine x_callS (pc' := 80) (d1 := 2) (As := [_, _, _]) rfl rfl rfl rfl (by decide) rfl rfl (Nat.le_of_ble_eq_true rfl) ⟨rfl, rfl⟩ (by omega) ?_
      refine v_X10_isHabit hk ha (show i < mB k by omega) (fun hs => ?_) (fun hs => ?_)
      · refine ⟨rfl, ?_⟩
        refine x_if_eq (pc' := 83) rfl rfl (fun c80 => absurd c80 (by decide)) (fun _ => ?_)
        refine x_aload (pc' := 84) rfl rfl rfl ?_
        refine x_iload (pc' := 86) rfl rfl rfl ?_
        refine x_iload (pc' := 87) rfl rfl rfl ?_
        refine x_iload (pc' := 89) rfl rfl rfl ?_
        refine x_iload (pc' := 91) rfl rfl rfl ?_
        refine x_callV (pc' := 94) (d1 := 2) (Bs := [_, _, _, _]) rfl rfl rfl rfl rfl rfl rfl (Nat.le_of_ble_eq_true rfl) ⟨rfl, rfl⟩ (by decide) rfl (by omega) ?_
        refine v_X10_hasHabit hW hR hw hs (fun hh => ?_) (fun hh => ?_)
        · refine ⟨rfl, ?_⟩
          refine x_if_ne (pc' := 97) rfl rfl (fun _ => ?_) (fun c94 => absurd c94 (by decide))
          refine y_inc (pc' := 184) (lv' := [_, _, _, _, _, _, _, _, _, _, _, _]) rfl rfl rfl (by decide) rfl ?_
          refine x_goto rfl ?_
          first
            | (refine ih (i + 1) D (by omega) o ?_
               show SlM _ (slS (slB T l n page line w k a i) w k a i _)
               rw [show slB T l n page line w k a i = false from slB_n k a i hs]
               exact hz)
            | (refine ih (i + 1) D (by omega) o ?_
               show SlM _ (slS (slB T l n page line w k a i) w k a i _)
               rw [show slB T l n page line w k a i = false from slB_h hh]
               exact hz)
            | (refine ih (i + 1) D (by omega) o ?_
               show SlM _ (slS (slB T l n page line w k a i) w k a i _)
               rw [show slB T l n page line w k a i = false from (slB_e hs hh).trans (decide_eq_false c112)]
               exact hz)
            | (refine ih (i + 1) _ (by omega) ?_ ?_
               · first | exact o.tr (OffT.up (by decide)) | exact ((((o.tr (OffT.up (by decide))).tr (OffT.up (by decide))).tr (OffT.up (by decide))).tr (OffT.up (by decide))).tr (OffT.up (by decide))
               · show SlM _ (slS (slB T l n page line w k a i) w k a i _)
                 rw [show slB T l n page line w k a i = true from (slB_e hs hh).trans (decide_eq_true c112)]
                 first
                   | (rw [slS_2 c122]; exact hz.s2 c122 (bh_up2_self _ _ _ _) (fun j h1 => up2_o h1))
                   | (rw [slS_1 c122]; refine ⟨?_, fun _ => ⟨?_, ?_, ?_, ?_⟩⟩ <;> simp only [up2_at] <;> simp [c122] <;> omega)
                   )
        · refine ⟨rfl, ?_⟩
          refine x_if_ne (pc' := 97) rfl rfl (fun c94 => absurd (by decide) c94) (fun _ => ?_)
          refine x_aload (pc' := 98) rfl rfl rfl ?_
          refine x_iload (pc' := 99) rfl rfl rfl ?_
          refine x_iload (pc' := 100) rfl rfl rfl ?_
          refine x_iload (pc' := 101) rfl rfl rfl ?_
          refine x_iload (pc' := 103) rfl rfl rfl ?_
          refine x_iload (pc' := 105) rfl rfl rfl ?_
          refine x_iload (pc' := 107) rfl rfl rfl ?_
          refine x_callV (pc' := 110) (d1 := 5) (Bs := [_, _, _, _, _, _]) rfl rfl rfl rfl rfl rfl rfl (Nat.le_of_ble_eq_true rfl) ⟨rfl, rfl⟩ (by decide) rfl (by omega) ?_
          refine w_X10_lineWith hW hR hm hlen hH hn hs hpg ?_
          refine ⟨rfl, ?_⟩
          have hul := up_lt hW (fun w hw => hm w (List.mem_of_mem_take hw)) (l := l.take n) (hab_lt hs (up_lt hW (fun w hw => hm w (List.mem_of_mem_drop hw)) (l := l.drop (n + 1)) hpg))
          refine x_iload (pc' := 112) rfl rfl rfl ?_
          refine y_ic_eq (pc' := 115) rfl rfl (by omega) (by omega) (fun c112 => ?_) (fun c112 => ?_)
          · refine x_aload (pc' := 119) rfl rfl rfl ?_
            refine x_getI (j := 25) (pc' := 122) rfl rfl rfl (by decide) rfl (by decide) rfl rfl ?_
            refine x_top (hz.1) ?_
            refine y_if_ne (pc' := 125) rfl rfl (by omega) (fun c122 => ?_) (fun c122 => ?_)
            · refine x_aload (pc' := 172) rfl rfl rfl ?_
              refine x_dup (pc' := 173) rfl rfl rfl ?_
              refine x_getI (j := 25) (pc' := 176) rfl rfl rfl (by decide) rfl (by decide) rfl rfl ?_
              refine x_top (hz.1) ?_
              refine x_int (pc' := 177) (v := nI 1) rfl rfl rfl ?_
              refine y_iadd (pc' := 178) rfl rfl ?_
              refine x_putI (j := 25) (pc' := 181) rfl rfl rfl (by decide) rfl (by decide) rfl rfl ?_
              refine y_inc (pc' := 184) (lv' := [_, _, _, _, _, _, _, _, _, _, _, _]) rfl rfl rfl (by decide) rfl ?_
              refine x_goto rfl ?_
              first
                | (refine ih (i + 1) D (by omega) o ?_
                   show SlM _ (slS (slB T l n page line w k a i) w k a i _)
                   rw [show slB T l n page line w k a i = false from slB_n k a i hs]
                   exact hz)
                | (refine ih (i + 1) D (by omega) o ?_
                   show SlM _ (slS (slB T l n page line w k a i) w k a i _)
                   rw [show slB T l n page line w k a i = false from slB_h hh]
                   exact hz)
                | (refine ih (i + 1) D (by omega) o ?_
                   show SlM _ (slS (slB T l n page line w k a i) w k a i _)
                   rw [show slB T l n page line w k a i = false from (slB_e hs hh).trans (decide_eq_false c112)]
                   exact hz)
                | (refine ih (i + 1) _ (by omega) ?_ ?_
                   · first | exact o.tr (OffT.up (by decide)) | exact ((((o.tr (OffT.up (by decide))).tr (OffT.up (by decide))).tr (OffT.up (by decide))).tr (OffT.up (by decide))).tr (OffT.up (by decide))
                   · show SlM _ (slS (slB T l n page line w k a i) w k a i _)
                     rw [show slB T l n page line w k a i = true from (slB_e hs hh).trans (decide_eq_true c112)]
                     first
                       | (rw [slS_2 c122]; exact hz.s2 c122 (bh_up2_self _ _ _ _) (fun j h1 => up2_o h1))
                       | (rw [slS_1 c122]; refine ⟨?_, fun _ => ⟨?_, ?_, ?_, ?_⟩⟩ <;> simp only [up2_at] <;> simp [c122] <;> omega)
                       )
            · refine x_aload (pc' := 126) rfl rfl rfl ?_
              refine x_iload (pc' := 128) rfl rfl rfl ?_
              refine x_putI (j := 26) (pc' := 131) rfl rfl rfl (by decide) rfl (by decide) rfl rfl ?_
              refine x_aload (pc' := 132) rfl rfl rfl ?_
              refine x_iload (pc' := 133) rfl rfl rfl ?_
              refine x_putI (j := 27) (pc' := 136) rfl rfl rfl (by decide) rfl (by decide) rfl rfl ?_
              refine x_aload (pc' := 137) rfl rfl rfl ?_
              refine x_iload (pc' := 138) rfl rfl rfl ?_
              refine x_callS (pc' := 141) (d1 := 1) (As := [_]) rfl rfl rfl rfl (by decide) rfl rfl (Nat.le_of_ble_eq_true rfl) ⟨rfl, rfl⟩ (by omega) ?_
              refine w_X10_needs hk ?_
              refine ⟨rfl, ?_⟩
              have hsg : sg k < 3 := by unfold sg; split; decide; split <;> decide
              refine y_if_le (pc' := 144) rfl rfl (by omega) (fun c141 => ?_) (fun c141 => ?_)
              · refine x_int (pc' := 150) (v := (-1)) rfl rfl rfl ?_
                refine x_putI (j := 28) (pc' := 153) rfl rfl rfl (by decide) rfl (by decide) rfl rfl ?_
                refine x_aload (pc' := 154) rfl rfl rfl ?_
                refine x_iload (pc' := 155) rfl rfl rfl ?_
                refine x_callS (pc' := 158) (d1 := 1) (As := [_]) rfl rfl rfl rfl (by decide) rfl rfl (Nat.le_of_ble_eq_true rfl) ⟨rfl, rfl⟩ (by omega) ?_
                refine w_X10_needs hk ?_
                refine ⟨rfl, ?_⟩
                have hsg : sg k < 3 := by unfold sg; split; decide; split <;> decide
                refine x_int (pc' := 159) (v := nI 1) rfl rfl rfl ?_
                refine y_ic_le (pc' := 162) rfl rfl (by omega) (by omega) (fun c159 => ?_) (fun c159 => ?_)
                · refine x_int (pc' := 168) (v := (-1)) rfl rfl rfl ?_
                  refine x_putI (j := 29) (pc' := 171) rfl rfl rfl (by decide) rfl (by decide) rfl rfl ?_
                  refine x_aload (pc' := 172) rfl rfl rfl ?_
                  refine x_dup (pc' := 173) rfl rfl rfl ?_
                  refine x_getI (j := 25) (pc' := 176) rfl rfl rfl (by decide) rfl (by decide) rfl rfl ?_
                  refine x_top ((up2_o (by decide)).trans ((up2_o (by decide)).trans ((up2_o (by decide)).trans ((up2_o (by decide)).trans hz.1)))) ?_
                  refine x_int (pc' := 177) (v := nI 1) rfl rfl rfl ?_
                  refine y_iadd (pc' := 178) rfl rfl ?_
                  refine x_putI (j := 25) (pc' := 181) rfl rfl rfl (by decide) rfl (by decide) rfl rfl ?_
                  refine y_inc (pc' := 184) (lv' := [_, _, _, _, _, _, _, _, _, _, _, _]) rfl rfl rfl (by decide) rfl ?_
                  refine x_goto rfl ?_
                  first
                    | (refine ih (i + 1) D (by omega) o ?_
                       show SlM _ (slS (slB T l n page line w k a i) w k a i _)
                       rw [show slB T l n page line w k a i = false from slB_n k a i hs]
                       exact hz)
                    | (refine ih (i + 1) D (by omega) o ?_
                       show SlM _ (slS (slB T l n page line w k a i) w k a i _)
                       rw [show slB T l n page line w k a i = false from slB_h hh]
                       exact hz)
                    | (refine ih (i + 1) D (by omega) o ?_
                       show SlM _ (slS (slB T l n page line w k a i) w k a i _)
                       rw [show slB T l n page line w k a i = false from (slB_e hs hh).trans (decide_eq_false c112)]
                       exact hz)
                    | (refine ih (i + 1) _ (by omega) ?_ ?_
                       · first | exact o.tr (OffT.up (by decide)) | exact ((((o.tr (OffT.up (by decide))).tr (OffT.up (by decide))).tr (OffT.up (by decide))).tr (OffT.up (by decide))).tr (OffT.up (by decide))
                       · show SlM _ (slS (slB T l n page line w k a i) w k a i _)
                         rw [show slB T l n page line w k a i = true from (slB_e hs hh).trans (decide_eq_true c112)]
                         first
                           | (rw [slS_2 c122]; exact hz.s2 c122 (bh_up2_self _ _ _ _) (fun j h1 => up2_o h1))
                           | (rw [slS_1 c122]; refine ⟨?_, fun _ => ⟨?_, ?_, ?_, ?_⟩⟩ <;> simp only [up2_at] <;> simp [c122] <;> omega)
                           )
                · refine x_iload (pc' := 164) rfl rfl rfl ?_
                  refine x_goto rfl ?_
                  refine x_putI (j := 29) (pc' := 171) rfl rfl rfl (by decide) rfl (by decide) rfl rfl ?_
                  refine x_aload (pc' := 172) rfl rfl rfl ?_
                  refine x_dup (pc' := 173) rfl rfl rfl ?_
                  refine x_getI (j := 25) (pc' := 176) rfl rfl rfl (by decide) rfl (by decide) rfl rfl ?_
                  refine x_top ((up2_o (by decide)).trans ((up2_o (by decide)).trans ((up2_o (by decide)).trans ((up2_o (by decide)).trans hz.1)))) ?_
                  refine x_int (pc' := 177) (v := nI 1) rfl rfl rfl ?_
                  refine y_iadd (pc' := 178) rfl rfl ?_
                  refine x_putI (j := 25) (pc' := 181) rfl rfl rfl (by decide) rfl (by decide) rfl rfl ?_
                  refine y_inc (pc' := 184) (lv' := [_, _, _, _, _, _, _, _, _, _, _, _]) rfl rfl rfl (by decide) rfl ?_
                  refine x_goto rfl ?_
                  first
                    | (refine ih (i + 1) D (by omega) o ?_
                       show SlM _ (slS (slB T l n page line w k a i) w k a i _)
                       rw [show slB T l n page line w k a i = false from slB_n k a i hs]
                       exact hz)
                    | (refine ih (i + 1) D (by omega) o ?_
                       show SlM _ (slS (slB T l n page line w k a i) w k a i _)
                       rw [show slB T l n page line w k a i = false from slB_h hh]
                       exact hz)
                    | (refine ih (i + 1) D (by omega) o ?_
                       show SlM _ (slS (slB T l n page line w k a i) w k a i _)
                       rw [show slB T l n page line w k a i = false from (slB_e hs hh).trans (decide_eq_false c112)]
                       exact hz)
                    | (refine ih (i + 1) _ (by omega) ?_ ?_
                       · first | exact o.tr (OffT.up (by decide)) | exact ((((o.tr (OffT.up (by decide))).tr (OffT.up (by decide))).tr (OffT.up (by decide))).tr (OffT.up (by decide))).tr (OffT.up (by decide))
                       · show SlM _ (slS (slB T l n page line w k a i) w k a i _)
                         rw [show slB T l n page line w k a i = true from (slB_e hs hh).trans (decide_eq_true c112)]
                         first
                           | (rw [slS_2 c122]; exact hz.s2 c122 (bh_up2_self _ _ _ _) (fun j h1 => up2_o h1))
                           | (rw [slS_1 c122]; refine ⟨?_, fun _ => ⟨?_, ?_, ?_, ?_⟩⟩ <;> simp only [up2_at] <;> simp [c122] <;> omega)
                           )
              · refine x_iload (pc' := 146) rfl rfl rfl ?_
                refine x_goto rfl ?_
                refine x_putI (j := 28) (pc' := 153) rfl rfl rfl (by decide) rfl (by decide) rfl rfl ?_
                refine x_aload (pc' := 154) rfl rfl rfl ?_
                refine x_iload (pc' := 155) rfl rfl rfl ?_
                refine x_callS (pc' := 158) (d1 := 1) (As := [_]) rfl rfl rfl rfl (by decide) rfl rfl (Nat.le_of_ble_eq_true rfl) ⟨rfl, rfl⟩ (by omega) ?_
                refine w_X10_needs hk ?_
                refine ⟨rfl, ?_⟩
                have hsg : sg k < 3 := by unfold sg; split; decide; split <;> decide
                refine x_int (pc' := 159) (v := nI 1) rfl rfl rfl ?_
                refine y_ic_le (pc' := 162) rfl rfl (by omega) (by omega) (fun c159 => ?_) (fun c159 => ?_)
                · refine x_int (pc' := 168) (v := (-1)) rfl rfl rfl ?_
                  refine x_putI (j := 29) (pc' := 171) rfl rfl rfl (by decide) rfl (by decide) rfl rfl ?_
                  refine x_aload (pc' := 172) rfl rfl rfl ?_
                  refine x_dup (pc' := 173) rfl rfl rfl ?_
                  refine x_getI (j := 25) (pc' := 176) rfl rfl rfl (by decide) rfl (by decide) rfl rfl ?_
                  refine x_top ((up2_o (by decide)).trans ((up2_o (by decide)).trans ((up2_o (by decide)).trans ((up2_o (by decide)).trans hz.1)))) ?_
                  refine x_int (pc' := 177) (v := nI 1) rfl rfl rfl ?_
                  refine y_iadd (pc' := 178) rfl rfl ?_
                  refine x_putI (j := 25) (pc' := 181) rfl rfl rfl (by decide) rfl (by decide) rfl rfl ?_
                  refine y_inc (pc' := 184) (lv' := [_, _, _, _, _, _, _, _, _, _, _, _]) rfl rfl rfl (by decide) rfl ?_
                  refine x_goto rfl ?_
                  first
                    | (refine ih (i + 1) D (by omega) o ?_
                       show SlM _ (slS (slB T l n page line w k a i) w k a i _)
                       rw [show slB T l n page line w k a i = false from slB_n k a i hs]
                       exact hz)
                    | (refine ih (i + 1) D (by omega) o ?_
                       show SlM _ (slS (slB T l n page line w k a i) w k a i _)
                       rw [show slB T l n page line w k a i = false from slB_h hh]
                       exact hz)
                    | (refine ih (i + 1) D (by omega) o ?_
                       show SlM _ (slS (slB T l n page line w k a i) w k a i _)
                       rw [show slB T l n page line w k a i = false from (slB_e hs hh).trans (decide_eq_false c112)]
                       exact hz)
                    | (refine ih (i + 1) _ (by omega) ?_ ?_
                       · first | exact o.tr (OffT.up (by decide)) | exact ((((o.tr (OffT.up (by decide))).tr (OffT.up (by decide))).tr (OffT.up (by decide))).tr (OffT.up (by decide))).tr (OffT.up (by decide))
                       · show SlM _ (slS (slB T l n page line w k a i) w k a i _)
                         rw [show slB T l n page line w k a i = true from (slB_e hs hh).trans (decide_eq_true c112)]
                         first
                           | (rw [slS_2 c122]; exact hz.s2 c122 (bh_up2_self _ _ _ _) (fun j h1 => up2_o h1))
                           | (rw [slS_1 c122]; refine ⟨?_, fun _ => ⟨?_, ?_, ?_, ?_⟩⟩ <;> simp only [up2_at] <;> simp [c122] <;> omega)
                           )
                · refine x_iload (pc' := 164) rfl rfl rfl ?_
                  refine x_goto rfl ?_
                  refine x_putI (j := 29) (pc' := 171) rfl rfl rfl (by decide) rfl (by decide) rfl rfl ?_
                  refine x_aload (pc' := 172) rfl rfl rfl ?_
                  refine x_dup (pc' := 173) rfl rfl rfl ?_
                  refine x_getI (j := 25) (pc' := 176) rfl rfl rfl (by decide) rfl (by decide) rfl rfl ?_
                  refine x_top ((up2_o (by decide)).trans ((up2_o (by decide)).trans ((up2_o (by decide)).trans ((up2_o (by decide)).trans hz.1)))) ?_
                  refine x_int (pc' := 177) (v := nI 1) rfl rfl rfl ?_
                  refine y_iadd (pc' := 178) rfl rfl ?_
                  refine x_putI (j := 25) (pc' := 181) rfl rfl rfl (by decide) rfl (by decide) rfl rfl ?_
                  refine y_inc (pc' := 184) (lv' := [_, _, _, _, _, _, _, _, _, _, _, _]) rfl rfl rfl (by decide) rfl ?_
                  refine x_goto rfl ?_
                  first
                    | (refine ih (i + 1) D (by omega) o ?_
                       show SlM _ (slS (slB T l n page line w k a i) w k a i _)
                       rw [show slB T l n page line w k a i = false from slB_n k a i hs]
                       exact hz)
                    | (refine ih (i + 1) D (by omega) o ?_
                       show SlM _ (slS (slB T l n page line w k a i) w k a i _)
                       rw [show slB T l n page line w k a i = false from slB_h hh]
                       exact hz)
                    | (refine ih (i + 1) D (by omega) o ?_
                       show SlM _ (slS (slB T l n page line w k a i) w k a i _)
                       rw [show slB T l n page line w k a i = false from (slB_e hs hh).trans (decide_eq_false c112)]
                       exact hz)
                    | (refine ih (i + 1) _ (by omega) ?_ ?_
                       · first | exact o.tr (OffT.up (by decide)) | exact ((((o.tr (OffT.up (by decide))).tr (OffT.up (by decide))).tr (OffT.up (by decide))).tr (OffT.up (by decide))).tr (OffT.up (by decide))
                       · show SlM _ (slS (slB T l n page line w k a i) w k a i _)
                         rw [show slB T l n page line w k a i = true from (slB_e hs hh).trans (decide_eq_true c112)]
                         first
                           | (rw [slS_2 c122]; exact hz.s2 c122 (bh_up2_self _ _ _ _) (fun j h1 => up2_o h1))
                           | (rw [slS_1 c122]; refine ⟨?_, fun _ => ⟨?_, ?_, ?_, ?_⟩⟩ <;> simp only [up2_at] <;> simp [c122] <;> omega)
                           )
          · refine x_goto rfl ?_
            refine y_inc (pc' := 184) (lv' := [_, _, _, _, _, _, _, _, _, _, _, _]) rfl rfl rfl (by decide) rfl ?_
            refine x_goto rfl ?_
            first
              | (refine ih (i + 1) D (by omega) o ?_
                 show SlM _ (slS (slB T l n page line w k a i) w k a i _)
                 rw [show slB T l n page line w k a i = false from slB_n k a i hs]
                 exact hz)
              | (refine ih (i + 1) D (by omega) o ?_
                 show SlM _ (slS (slB T l n page line w k a i) w k a i _)
                 rw [show slB T l n page line w k a i = false from slB_h hh]
                 exact hz)
              | (refine ih (i + 1) D (by omega) o ?_
                 show SlM _ (slS (slB T l n page line w k a i) w k a i _)
                 rw [show slB T l n page line w k a i = false from (slB_e hs hh).trans (decide_eq_false c112)]
                 exact hz)
              | (refine ih (i + 1) _ (by omega) ?_ ?_
                 · first | exact o.tr (OffT.up (by decide)) | exact ((((o.tr (OffT.up (by decide))).tr (OffT.up (by decide))).tr (OffT.up (by decide))).tr (OffT.up (by decide))).tr (OffT.up (by decide))
                 · show SlM _ (slS (slB T l n page line w k a i) w k a i _)
                   rw [show slB T l n page line w k a i = true from (slB_e hs hh).trans (decide_eq_true c112)]
                   first
                     | (rw [slS_2 c122]; exact hz.s2 c122 (bh_up2_self _ _ _ _) (fun j h1 => up2_o h1))
                     | (rw [slS_1 c122]; refine ⟨?_, fun _ => ⟨?_, ?_, ?_, ?_⟩⟩ <;> simp only [up2_at] <;> simp [c122] <;> omega)
                     )
      · refine ⟨rfl, ?_⟩
        refine x_if_eq (pc' := 83) rfl rfl (fun _ => ?_) (fun c80 => absurd (by decide) c80)
        refine y_inc (pc' := 184) (lv' := [_, _, _, _, _, _, _, _, _, _, _, _]) rfl rfl rfl (by decide) rfl ?_
        refine x_goto rfl ?_
        first
          | (refine ih (i + 1) D (by omega) o ?_
             show SlM _ (slS (slB T l n page line w k a i) w k a i _)
             rw [show slB T l n page line w k a i = false from slB_n k a i hs]
             exact hz)
          | (refine ih (i + 1) D (by omega) o ?_
             show SlM _ (slS (slB T l n page line w k a i) w k a i _)
             rw [show slB T l n page line w k a i = false from slB_h hh]
             exact hz)
          | (refine ih (i + 1) D (by omega) o ?_
             show SlM _ (slS (slB T l n page line w k a i) w k a i _)
             rw [show slB T l n page line w k a i = false from (slB_e hs hh).trans (decide_eq_false c112)]
             exact hz)
          | (refine ih (i + 1) _ (by omega) ?_ ?_
             · first | exact o.tr (OffT.up (by decide)) | exact ((((o.tr (OffT.up (by decide))).tr (OffT.up (by decide))).tr (OffT.up (by decide))).tr (OffT.up (by decide))).tr (OffT.up (by decide))
             · show SlM _ (slS (slB T l n page line w k a i) w k a i _)
               rw [show slB T l n page line w k a i = true from (slB_e hs hh).trans (decide_eq_true c112)]
               first
                 | (rw [slS_2 c122]; exact hz.s2 c122 (bh_up2_self _ _ _ _) (fun j h1 => up2_o h1))
                 | (rw [slS_1 c122]; refine ⟨?_, fun _ => ⟨?_, ?_, ?_, ?_⟩⟩ <;> simp only [up2_at] <;> simp [c122] <;> omega)
                 )
set_option maxRecDepth 20000 in
set_option maxHeartbeats 1000000 in
theorem l1_X10_slipsBy {L : Nat → Nat → Int64} {Q : bh_Q} {d : Nat} (hd : 5 ≤ d) {T : TW} (hW : WF T) {l : List Nat} (hm : ∀ w ∈ l, w < nw T) (hlen : l.length ≤ 12) {n k w page line : Nat} (hn : n < l.length) (ew : l.getD n 0 = w) (hk : k < 7) (hpg : page < 65536) (hline : line < 65536) {D0 : Nat → Nat → Int32} (hR0 : Rn T (D0 206)) (hH0 : HdM D0 l) {z0 : Sl} {lw : Nat} (hzl : z0.1 + 256 < 1000000) (kE : ∀ D, OffT D0 D → SlM (D 205) (fA (slB T l n page line w) w k (mA k) z0) → Q none (hp D L)) : ∀ (f i : Nat) (D : Nat → Nat → Int32) (a11 : Value), i + f = mA k → (OffT D0 D) → (SlM (D 205) (fA (slB T l n page line w) w k i z0)) → bw m_X10_slipsBy d Q 55 [.ref 205, .int (nI l.length), .int (nI n), .int (nI k), .int (nI page), .int (nI line), .int (nI w), .int (nI lw), .int (nI (mA k - 1)), .int (nI (mB k - 1)), .int (nI i), a11] [] D L := by
  intro f
  induction f with
  | zero =>
    intro i D a11 hf o hz
    have hbl := fA_le (c := (slB T l n page line w)) (w := w) (k := k) i z0
    have hmb := mB_le k
    have hma := mA_le k
    have hma1 : 1 ≤ mA k := by unfold mA; split <;> decide
    have h12 := hW.nwl
    refine x_iload (pc' := 57) rfl rfl rfl ?_
    refine x_iload (pc' := 59) rfl rfl rfl ?_
    refine y_ic_gt (pc' := 62) rfl rfl (by omega) (by omega) (fun c59 => ?_) (fun c59 => ?_)
    · refine x_vret rfl rfl ?_
      obtain rfl : i = mA k := by omega
      exact kE D o hz
    · exact absurd c59 (by omega)
  | succ f ih =>
    intro i D a11 hf o hz
    have hbl := fA_le (c := (slB T l n page line w)) (w := w) (k := k) i z0
    have hmb := mB_le k
    have hma := mA_le k
    have hma1 : 1 ≤ mA k := by unfold mA; split <;> decide
    have h12 := hW.nwl
    refine x_iload (pc' := 57) rfl rfl rfl ?_
    refine x_iload (pc' := 59) rfl rfl rfl ?_
    refine y_ic_gt (pc' := 62) rfl rfl (by omega) (by omega) (fun c59 => ?_) (fun c59 => ?_)
    · exact absurd c59 (by omega)
    · refine x_int (pc' := 63) (v := nI 0) rfl rfl rfl ?_
      refine x_istore (pc' := 65) (lv' := [_, _, _, _, _, _, _, _, _, _, _, _]) rfl rfl (by decide) rfl ?_
      refine l0_X10_slipsBy (d := d) hd hW hm hlen hn ew hk hpg hline (D0 := D0) hR0 hH0 (z0 := fA (slB T l n page line w) w k i z0) (a := i) (by omega) (by omega) (fun D2 o2 z2 => ?_) (mB k) 0 D (Nat.zero_add _) o hz
      refine y_inc (pc' := 190) (lv' := [_, _, _, _, _, _, _, _, _, _, _, _]) rfl rfl rfl (by decide) rfl ?_
      refine x_goto rfl ?_
      exact ih (i + 1) D2 _ (by omega) o2 z2
set_option maxRecDepth 20000 in
set_option maxHeartbeats 1000000 in
theorem w_X10_slipsBy {D : Nat → Nat → Int32} {L : Nat → Nat → Int64} {Q : bh_Q} {T : TW} (hW : WF T) {l : List Nat} (hm : ∀ w ∈ l, w < nw T) (hlen : l.length ≤ 12) {n k w page line : Nat} (hn : n < l.length) (ew : l.getD n 0 = w) (hk : k < 7) (hpg : page < 65536) (hline : line < 65536) (hR : Rn T (D 206)) (hH : HdM D l) {z0 : Sl} (hz : SlM (D 205) z0) (hzl : z0.1 + 256 < 1000000) (k1 : ∀ D', OffT D D' → SlM (D' 205) (fA (slB T l n page line w) w k (mA k) z0) → Q none (hp D' L)) : bh_wc 6 m_X10_slipsBy [.ref 205, .int (nI l.length), .int (nI n), .int (nI k), .int (nI page), .int (nI line)] (hp D L) Q := by
  refine x_start (lv0 := [_, _, _, _, _, _, _, _, _, _, _, _]) (Nat.le_of_ble_eq_true rfl) rfl ?_
  refine x_aload (pc' := 1) rfl rfl rfl ?_
  refine x_getR (pc' := 4) rfl rfl rfl (by decide) rfl (by decide) rfl rfl ?_
  refine x_iload (pc' := 5) rfl rfl rfl ?_
  refine x_iald (pc' := 6) rfl rfl (by decide) rfl (by decide) (show _ < 12 by omega) ?_
  refine x_top ((hH n hn).trans (congrArg nI ew)) ?_
  refine x_istore (pc' := 8) (lv' := [_, _, _, _, _, _, _, _, _, _, _, _]) rfl rfl (by decide) rfl ?_
  refine x_iload (pc' := 9) rfl rfl rfl ?_
  refine x_int (pc' := 10) (v := nI 4) rfl rfl rfl ?_
  refine y_ic_ne (pc' := 13) rfl rfl (by omega) (by omega) (fun c10 => ?_) (fun c10 => ?_)
  · refine x_int (pc' := 18) (v := nI 0) rfl rfl rfl ?_
    refine x_istore (pc' := 20) (lv' := [_, _, _, _, _, _, _, _, _, _, _, _]) rfl rfl (by decide) rfl ?_
    refine x_iload (pc' := 21) rfl rfl rfl ?_
    refine x_callS (pc' := 24) (d1 := 1) (As := [_]) rfl rfl rfl rfl (by decide) rfl rfl (Nat.le_of_ble_eq_true rfl) ⟨rfl, rfl⟩ (by decide) ?_
    refine w_X10_needs hk ?_
    refine ⟨rfl, ?_⟩
    have hsg : sg k < 3 := by unfold sg; split; decide; split <;> decide
    refine y_if_le (pc' := 27) rfl rfl (by omega) (fun c24 => ?_) (fun c24 => ?_)
    · refine x_int (pc' := 33) (v := nI 0) rfl rfl rfl ?_
      refine x_istore (pc' := 35) (lv' := [_, _, _, _, _, _, _, _, _, _, _, _]) rfl rfl (by decide) rfl ?_
      refine x_iload (pc' := 36) rfl rfl rfl ?_
      refine x_callS (pc' := 39) (d1 := 1) (As := [_]) rfl rfl rfl rfl (by decide) rfl rfl (Nat.le_of_ble_eq_true rfl) ⟨rfl, rfl⟩ (by decide) ?_
      refine w_X10_needs hk ?_
      refine ⟨rfl, ?_⟩
      have hsg : sg k < 3 := by unfold sg; split; decide; split <;> decide
      refine x_int (pc' := 40) (v := nI 1) rfl rfl rfl ?_
      refine y_ic_le (pc' := 43) rfl rfl (by omega) (by omega) (fun c40 => ?_) (fun c40 => ?_)
      · refine x_int (pc' := 49) (v := nI 0) rfl rfl rfl ?_
        refine x_istore (pc' := 51) (lv' := [_, _, _, _, _, _, _, _, _, _, _, _]) rfl rfl (by decide) rfl ?_
        refine x_iload (pc' := 53) rfl rfl rfl ?_
        refine x_istore (pc' := 55) (lv' := [_, _, _, _, _, _, _, _, _, _, _, _]) rfl rfl (by decide) rfl ?_
        first
          | (have hcs := sgA k
             have ea : mA k - 1 = 0 := by unfold mA; split <;> omega
             have eb : mB k - 1 = 0 := by unfold mB; split <;> omega
             have hl := l1_X10_slipsBy (L := L) (Q := Q) (d := 5) (Nat.le_refl _) hW hm hlen hn ew hk hpg hline (D0 := D) hR hH (z0 := z0) (lw := 0) hzl k1 (mA k - 0) 0 D .null (by unfold mA; split <;> omega) OffT.rf hz
             rw [ea, eb] at hl
             exact hl)
          | (have hcs := sgA k
             have ea : mA k - 1 = 15 := by unfold mA; split <;> omega
             have eb : mB k - 1 = 0 := by unfold mB; split <;> omega
             have hl := l1_X10_slipsBy (L := L) (Q := Q) (d := 5) (Nat.le_refl _) hW hm hlen hn ew hk hpg hline (D0 := D) hR hH (z0 := z0) (lw := 0) hzl k1 (mA k - 0) 0 D .null (by unfold mA; split <;> omega) OffT.rf hz
             rw [ea, eb] at hl
             exact hl)
          | (have hcs := sgA k
             have ea : mA k - 1 = 15 := by unfold mA; split <;> omega
             have eb : mB k - 1 = 15 := by unfold mB; split <;> omega
             have hl := l1_X10_slipsBy (L := L) (Q := Q) (d := 5) (Nat.le_refl _) hW hm hlen hn ew hk hpg hline (D0 := D) hR hH (z0 := z0) (lw := 0) hzl k1 (mA k - 0) 0 D .null (by unfold mA; split <;> omega) OffT.rf hz
             rw [ea, eb] at hl
             exact hl)
          | (have hcs := sgA k
             have ea : mA k - 1 = 15 := by unfold mA; split <;> omega
             have eb : mB k - 1 = 0 := by unfold mB; split <;> omega
             have e4 : k = 4 := by omega
             subst e4
             have hl := l1_X10_slipsBy (L := L) (Q := Q) (d := 5) (Nat.le_refl _) hW hm hlen hn ew hk hpg hline (D0 := D) hR hH (z0 := z0) (lw := 1) hzl k1 (mA 4 - 1) 1 D .null (by unfold mA; split <;> omega) OffT.rf (by show SlM _ (fB _ w 4 0 1 z0); show SlM _ (slS (slB T l n page line w 4 0 0) w 4 0 0 z0); rw [slB_n 4 0 0 (fun h => h.2.2.2.2.2.1 rfl rfl)]; exact hz)
             rw [ea, eb] at hl
             exact hl)
          | (exfalso; have := sgA k; omega)
      · refine x_int (pc' := 45) (v := nI 15) rfl rfl rfl ?_
        refine x_goto rfl ?_
        refine x_istore (pc' := 51) (lv' := [_, _, _, _, _, _, _, _, _, _, _, _]) rfl rfl (by decide) rfl ?_
        refine x_iload (pc' := 53) rfl rfl rfl ?_
        refine x_istore (pc' := 55) (lv' := [_, _, _, _, _, _, _, _, _, _, _, _]) rfl rfl (by decide) rfl ?_
        first
          | (have hcs := sgA k
             have ea : mA k - 1 = 0 := by unfold mA; split <;> omega
             have eb : mB k - 1 = 0 := by unfold mB; split <;> omega
             have hl := l1_X10_slipsBy (L := L) (Q := Q) (d := 5) (Nat.le_refl _) hW hm hlen hn ew hk hpg hline (D0 := D) hR hH (z0 := z0) (lw := 0) hzl k1 (mA k - 0) 0 D .null (by unfold mA; split <;> omega) OffT.rf hz
             rw [ea, eb] at hl
             exact hl)
          | (have hcs := sgA k
             have ea : mA k - 1 = 15 := by unfold mA; split <;> omega
             have eb : mB k - 1 = 0 := by unfold mB; split <;> omega
             have hl := l1_X10_slipsBy (L := L) (Q := Q) (d := 5) (Nat.le_refl _) hW hm hlen hn ew hk hpg hline (D0 := D) hR hH (z0 := z0) (lw := 0) hzl k1 (mA k - 0) 0 D .null (by unfold mA; split <;> omega) OffT.rf hz
             rw [ea, eb] at hl
             exact hl)
          | (have hcs := sgA k
             have ea : mA k - 1 = 15 := by unfold mA; split <;> omega
             have eb : mB k - 1 = 15 := by unfold mB; split <;> omega
             have hl := l1_X10_slipsBy (L := L) (Q := Q) (d := 5) (Nat.le_refl _) hW hm hlen hn ew hk hpg hline (D0 := D) hR hH (z0 := z0) (lw := 0) hzl k1 (mA k - 0) 0 D .null (by unfold mA; split <;> omega) OffT.rf hz
             rw [ea, eb] at hl
             exact hl)
          | (have hcs := sgA k
             have ea : mA k - 1 = 15 := by unfold mA; split <;> omega
             have eb : mB k - 1 = 0 := by unfold mB; split <;> omega
             have e4 : k = 4 := by omega
             subst e4
             have hl := l1_X10_slipsBy (L := L) (Q := Q) (d := 5) (Nat.le_refl _) hW hm hlen hn ew hk hpg hline (D0 := D) hR hH (z0 := z0) (lw := 1) hzl k1 (mA 4 - 1) 1 D .null (by unfold mA; split <;> omega) OffT.rf (by show SlM _ (fB _ w 4 0 1 z0); show SlM _ (slS (slB T l n page line w 4 0 0) w 4 0 0 z0); rw [slB_n 4 0 0 (fun h => h.2.2.2.2.2.1 rfl rfl)]; exact hz)
             rw [ea, eb] at hl
             exact hl)
          | (exfalso; have := sgA k; omega)
    · refine x_int (pc' := 29) (v := nI 15) rfl rfl rfl ?_
      refine x_goto rfl ?_
      refine x_istore (pc' := 35) (lv' := [_, _, _, _, _, _, _, _, _, _, _, _]) rfl rfl (by decide) rfl ?_
      refine x_iload (pc' := 36) rfl rfl rfl ?_
      refine x_callS (pc' := 39) (d1 := 1) (As := [_]) rfl rfl rfl rfl (by decide) rfl rfl (Nat.le_of_ble_eq_true rfl) ⟨rfl, rfl⟩ (by decide) ?_
      refine w_X10_needs hk ?_
      refine ⟨rfl, ?_⟩
      have hsg : sg k < 3 := by unfold sg; split; decide; split <;> decide
      refine x_int (pc' := 40) (v := nI 1) rfl rfl rfl ?_
      refine y_ic_le (pc' := 43) rfl rfl (by omega) (by omega) (fun c40 => ?_) (fun c40 => ?_)
      · refine x_int (pc' := 49) (v := nI 0) rfl rfl rfl ?_
        refine x_istore (pc' := 51) (lv' := [_, _, _, _, _, _, _, _, _, _, _, _]) rfl rfl (by decide) rfl ?_
        refine x_iload (pc' := 53) rfl rfl rfl ?_
        refine x_istore (pc' := 55) (lv' := [_, _, _, _, _, _, _, _, _, _, _, _]) rfl rfl (by decide) rfl ?_
        first
          | (have hcs := sgA k
             have ea : mA k - 1 = 0 := by unfold mA; split <;> omega
             have eb : mB k - 1 = 0 := by unfold mB; split <;> omega
             have hl := l1_X10_slipsBy (L := L) (Q := Q) (d := 5) (Nat.le_refl _) hW hm hlen hn ew hk hpg hline (D0 := D) hR hH (z0 := z0) (lw := 0) hzl k1 (mA k - 0) 0 D .null (by unfold mA; split <;> omega) OffT.rf hz
             rw [ea, eb] at hl
             exact hl)
          | (have hcs := sgA k
             have ea : mA k - 1 = 15 := by unfold mA; split <;> omega
             have eb : mB k - 1 = 0 := by unfold mB; split <;> omega
             have hl := l1_X10_slipsBy (L := L) (Q := Q) (d := 5) (Nat.le_refl _) hW hm hlen hn ew hk hpg hline (D0 := D) hR hH (z0 := z0) (lw := 0) hzl k1 (mA k - 0) 0 D .null (by unfold mA; split <;> omega) OffT.rf hz
             rw [ea, eb] at hl
             exact hl)
          | (have hcs := sgA k
             have ea : mA k - 1 = 15 := by unfold mA; split <;> omega
             have eb : mB k - 1 = 15 := by unfold mB; split <;> omega
             have hl := l1_X10_slipsBy (L := L) (Q := Q) (d := 5) (Nat.le_refl _) hW hm hlen hn ew hk hpg hline (D0 := D) hR hH (z0 := z0) (lw := 0) hzl k1 (mA k - 0) 0 D .null (by unfold mA; split <;> omega) OffT.rf hz
             rw [ea, eb] at hl
             exact hl)
          | (have hcs := sgA k
             have ea : mA k - 1 = 15 := by unfold mA; split <;> omega
             have eb : mB k - 1 = 0 := by unfold mB; split <;> omega
             have e4 : k = 4 := by omega
             subst e4
             have hl := l1_X10_slipsBy (L := L) (Q := Q) (d := 5) (Nat.le_refl _) hW hm hlen hn ew hk hpg hline (D0 := D) hR hH (z0 := z0) (lw := 1) hzl k1 (mA 4 - 1) 1 D .null (by unfold mA; split <;> omega) OffT.rf (by show SlM _ (fB _ w 4 0 1 z0); show SlM _ (slS (slB T l n page line w 4 0 0) w 4 0 0 z0); rw [slB_n 4 0 0 (fun h => h.2.2.2.2.2.1 rfl rfl)]; exact hz)
             rw [ea, eb] at hl
             exact hl)
          | (exfalso; have := sgA k; omega)
      · refine x_int (pc' := 45) (v := nI 15) rfl rfl rfl ?_
        refine x_goto rfl ?_
        refine x_istore (pc' := 51) (lv' := [_, _, _, _, _, _, _, _, _, _, _, _]) rfl rfl (by decide) rfl ?_
        refine x_iload (pc' := 53) rfl rfl rfl ?_
        refine x_istore (pc' := 55) (lv' := [_, _, _, _, _, _, _, _, _, _, _, _]) rfl rfl (by decide) rfl ?_
        first
          | (have hcs := sgA k
             have ea : mA k - 1 = 0 := by unfold mA; split <;> omega
             have eb : mB k - 1 = 0 := by unfold mB; split <;> omega
             have hl := l1_X10_slipsBy (L := L) (Q := Q) (d := 5) (Nat.le_refl _) hW hm hlen hn ew hk hpg hline (D0 := D) hR hH (z0 := z0) (lw := 0) hzl k1 (mA k - 0) 0 D .null (by unfold mA; split <;> omega) OffT.rf hz
             rw [ea, eb] at hl
             exact hl)
          | (have hcs := sgA k
             have ea : mA k - 1 = 15 := by unfold mA; split <;> omega
             have eb : mB k - 1 = 0 := by unfold mB; split <;> omega
             have hl := l1_X10_slipsBy (L := L) (Q := Q) (d := 5) (Nat.le_refl _) hW hm hlen hn ew hk hpg hline (D0 := D) hR hH (z0 := z0) (lw := 0) hzl k1 (mA k - 0) 0 D .null (by unfold mA; split <;> omega) OffT.rf hz
             rw [ea, eb] at hl
             exact hl)
          | (have hcs := sgA k
             have ea : mA k - 1 = 15 := by unfold mA; split <;> omega
             have eb : mB k - 1 = 15 := by unfold mB; split <;> omega
             have hl := l1_X10_slipsBy (L := L) (Q := Q) (d := 5) (Nat.le_refl _) hW hm hlen hn ew hk hpg hline (D0 := D) hR hH (z0 := z0) (lw := 0) hzl k1 (mA k - 0) 0 D .null (by unfold mA; split <;> omega) OffT.rf hz
             rw [ea, eb] at hl
             exact hl)
          | (have hcs := sgA k
             have ea : mA k - 1 = 15 := by unfold mA; split <;> omega
             have eb : mB k - 1 = 0 := by unfold mB; split <;> omega
             have e4 : k = 4 := by omega
             subst e4
             have hl := l1_X10_slipsBy (L := L) (Q := Q) (d := 5) (Nat.le_refl _) hW hm hlen hn ew hk hpg hline (D0 := D) hR hH (z0 := z0) (lw := 1) hzl k1 (mA 4 - 1) 1 D .null (by unfold mA; split <;> omega) OffT.rf (by show SlM _ (fB _ w 4 0 1 z0); show SlM _ (slS (slB T l n page line w 4 0 0) w 4 0 0 z0); rw [slB_n 4 0 0 (fun h => h.2.2.2.2.2.1 rfl rfl)]; exact hz)
             rw [ea, eb] at hl
             exact hl)
          | (exfalso; have := sgA k; omega)
  · refine x_int (pc' := 14) (v := nI 1) rfl rfl rfl ?_
    refine x_goto rfl ?_
    refine x_istore (pc' := 20) (lv' := [_, _, _, _, _, _, _, _, _, _, _, _]) rfl rfl (by decide) rfl ?_
    refine x_iload (pc' := 21) rfl rfl rfl ?_
    refine x_callS (pc' := 24) (d1 := 1) (As := [_]) rfl rfl rfl rfl (by decide) rfl rfl (Nat.le_of_ble_eq_true rfl) ⟨rfl, rfl⟩ (by decide) ?_
    refine w_X10_needs hk ?_
    refine ⟨rfl, ?_⟩
    have hsg : sg k < 3 := by unfold sg; split; decide; split <;> decide
    refine y_if_le (pc' := 27) rfl rfl (by omega) (fun c24 => ?_) (fun c24 => ?_)
    · refine x_int (pc' := 33) (v := nI 0) rfl rfl rfl ?_
      refine x_istore (pc' := 35) (lv' := [_, _, _, _, _, _, _, _, _, _, _, _]) rfl rfl (by decide) rfl ?_
      refine x_iload (pc' := 36) rfl rfl rfl ?_
      refine x_callS (pc' := 39) (d1 := 1) (As := [_]) rfl rfl rfl rfl (by decide) rfl rfl (Nat.le_of_ble_eq_true rfl) ⟨rfl, rfl⟩ (by decide) ?_
      refine w_X10_needs hk ?_
      refine ⟨rfl, ?_⟩
      have hsg : sg k < 3 := by unfold sg; split; decide; split <;> decide
      refine x_int (pc' := 40) (v := nI 1) rfl rfl rfl ?_
      refine y_ic_le (pc' := 43) rfl rfl (by omega) (by omega) (fun c40 => ?_) (fun c40 => ?_)
      · refine x_int (pc' := 49) (v := nI 0) rfl rfl rfl ?_
        refine x_istore (pc' := 51) (lv' := [_, _, _, _, _, _, _, _, _, _, _, _]) rfl rfl (by decide) rfl ?_
        refine x_iload (pc' := 53) rfl rfl rfl ?_
        refine x_istore (pc' := 55) (lv' := [_, _, _, _, _, _, _, _, _, _, _, _]) rfl rfl (by decide) rfl ?_
        first
          | (have hcs := sgA k
             have ea : mA k - 1 = 0 := by unfold mA; split <;> omega
             have eb : mB k - 1 = 0 := by unfold mB; split <;> omega
             have hl := l1_X10_slipsBy (L := L) (Q := Q) (d := 5) (Nat.le_refl _) hW hm hlen hn ew hk hpg hline (D0 := D) hR hH (z0 := z0) (lw := 0) hzl k1 (mA k - 0) 0 D .null (by unfold mA; split <;> omega) OffT.rf hz
             rw [ea, eb] at hl
             exact hl)
          | (have hcs := sgA k
             have ea : mA k - 1 = 15 := by unfold mA; split <;> omega
             have eb : mB k - 1 = 0 := by unfold mB; split <;> omega
             have hl := l1_X10_slipsBy (L := L) (Q := Q) (d := 5) (Nat.le_refl _) hW hm hlen hn ew hk hpg hline (D0 := D) hR hH (z0 := z0) (lw := 0) hzl k1 (mA k - 0) 0 D .null (by unfold mA; split <;> omega) OffT.rf hz
             rw [ea, eb] at hl
             exact hl)
          | (have hcs := sgA k
             have ea : mA k - 1 = 15 := by unfold mA; split <;> omega
             have eb : mB k - 1 = 15 := by unfold mB; split <;> omega
             have hl := l1_X10_slipsBy (L := L) (Q := Q) (d := 5) (Nat.le_refl _) hW hm hlen hn ew hk hpg hline (D0 := D) hR hH (z0 := z0) (lw := 0) hzl k1 (mA k - 0) 0 D .null (by unfold mA; split <;> omega) OffT.rf hz
             rw [ea, eb] at hl
             exact hl)
          | (have hcs := sgA k
             have ea : mA k - 1 = 15 := by unfold mA; split <;> omega
             have eb : mB k - 1 = 0 := by unfold mB; split <;> omega
             have e4 : k = 4 := by omega
             subst e4
             have hl := l1_X10_slipsBy (L := L) (Q := Q) (d := 5) (Nat.le_refl _) hW hm hlen hn ew hk hpg hline (D0 := D) hR hH (z0 := z0) (lw := 1) hzl k1 (mA 4 - 1) 1 D .null (by unfold mA; split <;> omega) OffT.rf (by show SlM _ (fB _ w 4 0 1 z0); show SlM _ (slS (slB T l n page line w 4 0 0) w 4 0 0 z0); rw [slB_n 4 0 0 (fun h => h.2.2.2.2.2.1 rfl rfl)]; exact hz)
             rw [ea, eb] at hl
             exact hl)
          | (exfalso; have := sgA k; omega)
      · refine x_int (pc' := 45) (v := nI 15) rfl rfl rfl ?_
        refine x_goto rfl ?_
        refine x_istore (pc' := 51) (lv' := [_, _, _, _, _, _, _, _, _, _, _, _]) rfl rfl (by decide) rfl ?_
        refine x_iload (pc' := 53) rfl rfl rfl ?_
        refine x_istore (pc' := 55) (lv' := [_, _, _, _, _, _, _, _, _, _, _, _]) rfl rfl (by decide) rfl ?_
        first
          | (have hcs := sgA k
             have ea : mA k - 1 = 0 := by unfold mA; split <;> omega
             have eb : mB k - 1 = 0 := by unfold mB; split <;> omega
             have hl := l1_X10_slipsBy (L := L) (Q := Q) (d := 5) (Nat.le_refl _) hW hm hlen hn ew hk hpg hline (D0 := D) hR hH (z0 := z0) (lw := 0) hzl k1 (mA k - 0) 0 D .null (by unfold mA; split <;> omega) OffT.rf hz
             rw [ea, eb] at hl
             exact hl)
          | (have hcs := sgA k
             have ea : mA k - 1 = 15 := by unfold mA; split <;> omega
             have eb : mB k - 1 = 0 := by unfold mB; split <;> omega
             have hl := l1_X10_slipsBy (L := L) (Q := Q) (d := 5) (Nat.le_refl _) hW hm hlen hn ew hk hpg hline (D0 := D) hR hH (z0 := z0) (lw := 0) hzl k1 (mA k - 0) 0 D .null (by unfold mA; split <;> omega) OffT.rf hz
             rw [ea, eb] at hl
             exact hl)
          | (have hcs := sgA k
             have ea : mA k - 1 = 15 := by unfold mA; split <;> omega
             have eb : mB k - 1 = 15 := by unfold mB; split <;> omega
             have hl := l1_X10_slipsBy (L := L) (Q := Q) (d := 5) (Nat.le_refl _) hW hm hlen hn ew hk hpg hline (D0 := D) hR hH (z0 := z0) (lw := 0) hzl k1 (mA k - 0) 0 D .null (by unfold mA; split <;> omega) OffT.rf hz
             rw [ea, eb] at hl
             exact hl)
          | (have hcs := sgA k
             have ea : mA k - 1 = 15 := by unfold mA; split <;> omega
             have eb : mB k - 1 = 0 := by unfold mB; split <;> omega
             have e4 : k = 4 := by omega
             subst e4
             have hl := l1_X10_slipsBy (L := L) (Q := Q) (d := 5) (Nat.le_refl _) hW hm hlen hn ew hk hpg hline (D0 := D) hR hH (z0 := z0) (lw := 1) hzl k1 (mA 4 - 1) 1 D .null (by unfold mA; split <;> omega) OffT.rf (by show SlM _ (fB _ w 4 0 1 z0); show SlM _ (slS (slB T l n page line w 4 0 0) w 4 0 0 z0); rw [slB_n 4 0 0 (fun h => h.2.2.2.2.2.1 rfl rfl)]; exact hz)
             rw [ea, eb] at hl
             exact hl)
          | (exfalso; have := sgA k; omega)
    · refine x_int (pc' := 29) (v := nI 15) rfl rfl rfl ?_
      refine x_goto rfl ?_
      refine x_istore (pc' := 35) (lv' := [_, _, _, _, _, _, _, _, _, _, _, _]) rfl rfl (by decide) rfl ?_
      refine x_iload (pc' := 36) rfl rfl rfl ?_
      refine x_callS (pc' := 39) (d1 := 1) (As := [_]) rfl rfl rfl rfl (by decide) rfl rfl (Nat.le_of_ble_eq_true rfl) ⟨rfl, rfl⟩ (by decide) ?_
      refine w_X10_needs hk ?_
      refine ⟨rfl, ?_⟩
      have hsg : sg k < 3 := by unfold sg; split; decide; split <;> decide
      refine x_int (pc' := 40) (v := nI 1) rfl rfl rfl ?_
      refine y_ic_le (pc' := 43) rfl rfl (by omega) (by omega) (fun c40 => ?_) (fun c40 => ?_)
      · refine x_int (pc' := 49) (v := nI 0) rfl rfl rfl ?_
        refine x_istore (pc' := 51) (lv' := [_, _, _, _, _, _, _, _, _, _, _, _]) rfl rfl (by decide) rfl ?_
        refine x_iload (pc' := 53) rfl rfl rfl ?_
        refine x_istore (pc' := 55) (lv' := [_, _, _, _, _, _, _, _, _, _, _, _]) rfl rfl (by decide) rfl ?_
        first
          | (have hcs := sgA k
             have ea : mA k - 1 = 0 := by unfold mA; split <;> omega
             have eb : mB k - 1 = 0 := by unfold mB; split <;> omega
             have hl := l1_X10_slipsBy (L := L) (Q := Q) (d := 5) (Nat.le_refl _) hW hm hlen hn ew hk hpg hline (D0 := D) hR hH (z0 := z0) (lw := 0) hzl k1 (mA k - 0) 0 D .null (by unfold mA; split <;> omega) OffT.rf hz
             rw [ea, eb] at hl
             exact hl)
          | (have hcs := sgA k
             have ea : mA k - 1 = 15 := by unfold mA; split <;> omega
             have eb : mB k - 1 = 0 := by unfold mB; split <;> omega
             have hl := l1_X10_slipsBy (L := L) (Q := Q) (d := 5) (Nat.le_refl _) hW hm hlen hn ew hk hpg hline (D0 := D) hR hH (z0 := z0) (lw := 0) hzl k1 (mA k - 0) 0 D .null (by unfold mA; split <;> omega) OffT.rf hz
             rw [ea, eb] at hl
             exact hl)
          | (have hcs := sgA k
             have ea : mA k - 1 = 15 := by unfold mA; split <;> omega
             have eb : mB k - 1 = 15 := by unfold mB; split <;> omega
             have hl := l1_X10_slipsBy (L := L) (Q := Q) (d := 5) (Nat.le_refl _) hW hm hlen hn ew hk hpg hline (D0 := D) hR hH (z0 := z0) (lw := 0) hzl k1 (mA k - 0) 0 D .null (by unfold mA; split <;> omega) OffT.rf hz
             rw [ea, eb] at hl
             exact hl)
          | (have hcs := sgA k
             have ea : mA k - 1 = 15 := by unfold mA; split <;> omega
             have eb : mB k - 1 = 0 := by unfold mB; split <;> omega
             have e4 : k = 4 := by omega
             subst e4
             have hl := l1_X10_slipsBy (L := L) (Q := Q) (d := 5) (Nat.le_refl _) hW hm hlen hn ew hk hpg hline (D0 := D) hR hH (z0 := z0) (lw := 1) hzl k1 (mA 4 - 1) 1 D .null (by unfold mA; split <;> omega) OffT.rf (by show SlM _ (fB _ w 4 0 1 z0); show SlM _ (slS (slB T l n page line w 4 0 0) w 4 0 0 z0); rw [slB_n 4 0 0 (fun h => h.2.2.2.2.2.1 rfl rfl)]; exact hz)
             rw [ea, eb] at hl
             exact hl)
          | (exfalso; have := sgA k; omega)
      · refine x_int (pc' := 45) (v := nI 15) rfl rfl rfl ?_
        refine x_goto rfl ?_
        refine x_istore (pc' := 51) (lv' := [_, _, _, _, _, _, _, _, _, _, _, _]) rfl rfl (by decide) rfl ?_
        refine x_iload (pc' := 53) rfl rfl rfl ?_
        refine x_istore (pc' := 55) (lv' := [_, _, _, _, _, _, _, _, _, _, _, _]) rfl rfl (by decide) rfl ?_
        first
          | (have hcs := sgA k
             have ea : mA k - 1 = 0 := by unfold mA; split <;> omega
             have eb : mB k - 1 = 0 := by unfold mB; split <;> omega
             have hl := l1_X10_slipsBy (L := L) (Q := Q) (d := 5) (Nat.le_refl _) hW hm hlen hn ew hk hpg hline (D0 := D) hR hH (z0 := z0) (lw := 0) hzl k1 (mA k - 0) 0 D .null (by unfold mA; split <;> omega) OffT.rf hz
             rw [ea, eb] at hl
             exact hl)
          | (have hcs := sgA k
             have ea : mA k - 1 = 15 := by unfold mA; split <;> omega
             have eb : mB k - 1 = 0 := by unfold mB; split <;> omega
             have hl := l1_X10_slipsBy (L := L) (Q := Q) (d := 5) (Nat.le_refl _) hW hm hlen hn ew hk hpg hline (D0 := D) hR hH (z0 := z0) (lw := 0) hzl k1 (mA k - 0) 0 D .null (by unfold mA; split <;> omega) OffT.rf hz
             rw [ea, eb] at hl
             exact hl)
          | (have hcs := sgA k
             have ea : mA k - 1 = 15 := by unfold mA; split <;> omega
             have eb : mB k - 1 = 15 := by unfold mB; split <;> omega
             have hl := l1_X10_slipsBy (L := L) (Q := Q) (d := 5) (Nat.le_refl _) hW hm hlen hn ew hk hpg hline (D0 := D) hR hH (z0 := z0) (lw := 0) hzl k1 (mA k - 0) 0 D .null (by unfold mA; split <;> omega) OffT.rf hz
             rw [ea, eb] at hl
             exact hl)
          | (have hcs := sgA k
             have ea : mA k - 1 = 15 := by unfold mA; split <;> omega
             have eb : mB k - 1 = 0 := by unfold mB; split <;> omega
             have e4 : k = 4 := by omega
             subst e4
             have hl := l1_X10_slipsBy (L := L) (Q := Q) (d := 5) (Nat.le_refl _) hW hm hlen hn ew hk hpg hline (D0 := D) hR hH (z0 := z0) (lw := 1) hzl k1 (mA 4 - 1) 1 D .null (by unfold mA; split <;> omega) OffT.rf (by show SlM _ (fB _ w 4 0 1 z0); show SlM _ (slS (slB T l n page line w 4 0 0) w 4 0 0 z0); rw [slB_n 4 0 0 (fun h => h.2.2.2.2.2.1 rfl rfl)]; exact hz)
             rw [ea, eb] at hl
             exact hl)
          | (exfalso; have := sgA k; omega)
set_option maxRecDepth 20000 in
set_option maxHeartbeats 1000000 in
theorem l0_X10_slips {L : Nat → Nat → Int64} {Q : bh_Q} {d : Nat} (hd : 6 ≤ d) {T : TW} (hW : WF T) {l : List Nat} (hm : ∀ w ∈ l, w < nw T) (hlen : l.length ≤ 12) {u b q line : Nat} {x5 : Int32} (hb : b < nb T) (hq : q < lng T b) (hline : line < 65536) {D0 : Nat → Nat → Int32} (hR0 : Rn T (D0 206)) (hH0 : HdM D0 l) {z0 : Sl} {n w : Nat} (hn : n < l.length) (hw : w < nw T) (ew : l.getD n 0 = w) (hM : isM T w = false) (hzl : z0.1 + 1792 < 1000000) (kE : ∀ D v9, OffT D0 D → SlM (D 205) (fK (slB T l n (pg T b q) line w) w 7 z0) → bw m_X10_slips d Q 150 [.ref 205, .int (nI u), .int (nI b), .int (nI q), .int (nI line), .int x5, .int (nI l.length), .int (nI w), .int (nI n), v9] [] D L) : ∀ (f i : Nat) (D : Nat → Nat → Int32), i + f = 7 → (OffT D0 D) → (SlM (D 205) (fK (slB T l n (pg T b q) line w) w i z0)) → bw m_X10_slips d Q 96 [.ref 205, .int (nI u), .int (nI b), .int (nI q), .int (nI line), .int x5, .int (nI l.length), .int (nI w), .int (nI n), .int (nI i)] [] D L := by
  intro f
  induction f with
  | zero =>
    intro i D hf o hz
    have hR := o.rn hR0
    have hH := o.hd hH0
    have h12 := hW.nwl
    have hbl := fK_le (c := (slB T l n (pg T b q) line w)) (w := w) i z0
    refine x_iload (pc' := 98) rfl rfl rfl ?_
    refine x_int (pc' := 100) (v := nI 7) rfl rfl rfl ?_
    refine y_ic_ge (pc' := 103) rfl rfl (by first | omega | (split <;> omega)) (by first | omega | (split <;> omega)) (fun c100 => ?_) (fun c100 => ?_)
    · obtain rfl : i = 7 := by omega
      exact kE D _ o hz
    · exact absurd c100 (by omega)
  | succ f ih =>
    intro i D hf o hz
    have hR := o.rn hR0
    have hH := o.hd hH0
    have h12 := hW.nwl
    have hbl := fK_le (c := (slB T l n (pg T b q) line w)) (w := w) i z0
    refine x_iload (pc' := 98) rfl rfl rfl ?_
    refine x_int (pc' := 100) (v := nI 7) rfl rfl rfl ?_
    refine y_ic_ge (pc' := 103) rfl rfl (by first | omega | (split <;> omega)) (by first | omega | (split <;> omega)) (fun c100 => ?_) (fun c100 => ?_)
    · exact absurd c100 (by omega)
    · refine x_aload (pc' := 104) rfl rfl rfl ?_
      refine x_getR (pc' := 107) rfl rfl rfl (by decide) rfl (by decide) rfl rfl ?_
      refine x_iload (pc' := 109) rfl rfl rfl ?_
      refine x_iald (pc' := 110) rfl rfl (by decide) rfl (by decide) (show _ < 12 by omega) ?_
      refine x_top ((hH n hn).trans (congrArg nI ew)) ?_
      refine x_iload (pc' := 112) rfl rfl rfl ?_
      refine y_ic_ne (pc' := 115) rfl rfl (by first | omega | (split <;> omega)) (by first | omega | (split <;> omega)) (fun c112 => ?_) (fun c112 => ?_)
      · exact absurd rfl c112
      · refine x_aload (pc' := 116) rfl rfl rfl ?_
        refine x_iload (pc' := 118) rfl rfl rfl ?_
        refine x_int (pc' := 120) (v := nI 7) rfl rfl rfl ?_
        refine x_callV (pc' := 123) (d1 := 1) (Bs := [_, _]) rfl rfl rfl rfl rfl rfl rfl (Nat.le_of_ble_eq_true rfl) ⟨rfl, rfl⟩ (by decide) rfl (by omega) ?_
        refine w_X10_of (by omega) (by decide) ?_
        refine ⟨rfl, ?_⟩
        refine x_top (hR.rmo hw) ?_
        refine y_if_ne (pc' := 126) rfl rfl (by first | omega | (split <;> omega)) (fun c123 => ?_) (fun c123 => ?_)
        · rw [hM] at c123
          exact absurd rfl c123
        · refine x_aload (pc' := 127) rfl rfl rfl ?_
          refine x_iload (pc' := 129) rfl rfl rfl ?_
          refine x_iload (pc' := 131) rfl rfl rfl ?_
          refine x_iload (pc' := 133) rfl rfl rfl ?_
          refine x_aload (pc' := 134) rfl rfl rfl ?_
          refine x_iload (pc' := 135) rfl rfl rfl ?_
          refine x_iload (pc' := 136) rfl rfl rfl ?_
          refine x_callV (pc' := 139) (d1 := 1) (Bs := [_, _]) rfl rfl rfl rfl rfl rfl rfl (Nat.le_of_ble_eq_true rfl) ⟨rfl, rfl⟩ (by decide) rfl (by omega) ?_
          refine w_X10_pageOf hW hR hb hq ?_
          refine ⟨rfl, ?_⟩
          refine x_iload (pc' := 141) rfl rfl rfl ?_
          refine x_callV (pc' := 144) (d1 := 6) (Bs := [_, _, _, _, _]) rfl rfl rfl rfl rfl rfl rfl (Nat.le_of_ble_eq_true rfl) ⟨rfl, rfl⟩ (by decide) rfl (by omega) ?_
          refine w_X10_slipsBy hW hm hlen hn ew (show i < 7 by omega) (hW.pgl hb hq) hline hR hH hz (by omega) (fun D1 o1 z1 => ?_)
          refine ⟨rfl, ?_⟩
          refine y_inc (pc' := 147) (lv' := [_, _, _, _, _, _, _, _, _, _]) rfl rfl rfl (by decide) rfl ?_
          refine x_goto rfl ?_
          exact ih (i + 1) D1 (by omega) (o.tr o1) z1
set_option maxRecDepth 20000 in
set_option maxHeartbeats 1000000 in
theorem l1_X10_slips {L : Nat → Nat → Int64} {Q : bh_Q} {d : Nat} (hd : 6 ≤ d) {T : TW} (hW : WF T) {l : List Nat} (hm : ∀ w ∈ l, w < nw T) (hlen : l.length ≤ 12) {u b q line : Nat} {x5 : Int32} (hb : b < nb T) (hq : q < lng T b) (hline : line < 65536) {D0 : Nat → Nat → Int32} (hR0 : Rn T (D0 206)) (hH0 : HdM D0 l) {z0 : Sl} {w : Nat} (hw : w < nw T) (hzl : z0.1 + 21504 < 1000000) (kE : ∀ D v9, OffT D0 D → SlM (D 205) (fP T l (pg T b q) line w l.length z0) → bw m_X10_slips d Q 156 [.ref 205, .int (nI u), .int (nI b), .int (nI q), .int (nI line), .int x5, .int (nI l.length), .int (nI w), .int (nI l.length), v9] [] D L) : ∀ (f i : Nat) (D : Nat → Nat → Int32) (a9 : Value), i + f = l.length → (OffT D0 D) → (SlM (D 205) (fP T l (pg T b q) line w i z0)) → bw m_X10_slips d Q 86 [.ref 205, .int (nI u), .int (nI b), .int (nI q), .int (nI line), .int x5, .int (nI l.length), .int (nI w), .int (nI i), a9] [] D L := by
  intro f
  induction f with
  | zero =>
    intro i D a9 hf o hz
    have hR := o.rn hR0
    have hH := o.hd hH0
    have h12 := hW.nwl
    have hbl := fP_le (T := T) (l := l) (page := pg T b q) (line := line) (w := w) i z0
    refine x_iload (pc' := 88) rfl rfl rfl ?_
    refine x_iload (pc' := 90) rfl rfl rfl ?_
    refine y_ic_ge (pc' := 93) rfl rfl (by omega) (by omega) (fun c90 => ?_) (fun c90 => ?_)
    · obtain rfl : i = l.length := by omega
      exact kE D _ o hz
    · exact absurd c90 (by omega)
  | succ f ih =>
    intro i D a9 hf o hz
    have hR := o.rn hR0
    have hH := o.hd hH0
    have h12 := hW.nwl
    have hbl := fP_le (T := T) (l := l) (page := pg T b q) (line := line) (w := w) i z0
    have hgl : l.getD i 0 < nw T := hm _ (getD_mem (by omega))
    refine x_iload (pc' := 88) rfl rfl rfl ?_
    refine x_iload (pc' := 90) rfl rfl rfl ?_
    refine y_ic_ge (pc' := 93) rfl rfl (by omega) (by omega) (fun c90 => ?_) (fun c90 => ?_)
    · exact absurd c90 (by omega)
    · refine x_int (pc' := 94) (v := nI 0) rfl rfl rfl ?_
      refine x_istore (pc' := 96) (lv' := [_, _, _, _, _, _, _, _, _, _]) rfl rfl (by decide) rfl ?_
      by_cases hcd : l.getD i 0 = w ∧ isM T w = false
      · obtain ⟨ew, hM⟩ := hcd
        refine l0_X10_slips (d := d) hd hW hm hlen hb hq hline (D0 := D0) hR0 hH0 (z0 := fP T l (pg T b q) line w i z0) (n := i) (by omega) hw ew hM (by omega) (fun D2 v9 o2 z2 => ?_) 7 0 D rfl o hz
        refine y_inc (pc' := 153) (lv' := [_, _, _, _, _, _, _, _, _, _]) rfl rfl rfl (by decide) rfl ?_
        refine x_goto rfl ?_
        exact ih (i + 1) D2 _ (by omega) o2 (by rw [fP_1 ew hM]; exact z2)
      · skip
        refine x_iload (pc' := 98) rfl rfl rfl ?_
        refine x_int (pc' := 100) (v := nI 7) rfl rfl rfl ?_
        refine x_ic_ge (pc' := 103) rfl rfl (fun c100 => absurd c100 (by decide)) (fun _ => ?_)
        refine x_aload (pc' := 104) rfl rfl rfl ?_
        refine x_getR (pc' := 107) rfl rfl rfl (by decide) rfl (by decide) rfl rfl ?_
        refine x_iload (pc' := 109) rfl rfl rfl ?_
        refine x_iald (pc' := 110) rfl rfl (by decide) rfl (by decide) (show _ < 12 by omega) ?_
        refine x_top (hH i (by omega)) ?_
        refine x_iload (pc' := 112) rfl rfl rfl ?_
        refine y_ic_ne (pc' := 115) rfl rfl (by first | omega | (split <;> omega)) (by first | omega | (split <;> omega)) (fun c112 => ?_) (fun c112 => ?_)
        · refine y_inc (pc' := 153) (lv' := [_, _, _, _, _, _, _, _, _, _]) rfl rfl rfl (by decide) rfl ?_
          refine x_goto rfl ?_
          exact ih (i + 1) D _ (by omega) o (by rw [fP_0 hcd]; exact hz)
        · refine x_aload (pc' := 116) rfl rfl rfl ?_
          refine x_iload (pc' := 118) rfl rfl rfl ?_
          refine x_int (pc' := 120) (v := nI 7) rfl rfl rfl ?_
          refine x_callV (pc' := 123) (d1 := 1) (Bs := [_, _]) rfl rfl rfl rfl rfl rfl rfl (Nat.le_of_ble_eq_true rfl) ⟨rfl, rfl⟩ (by decide) rfl (by omega) ?_
          refine w_X10_of (by omega) (by decide) ?_
          refine ⟨rfl, ?_⟩
          refine x_top (hR.rmo hw) ?_
          refine y_if_ne (pc' := 126) rfl rfl (by first | omega | (split <;> omega)) (fun c123 => ?_) (fun c123 => ?_)
          · refine y_inc (pc' := 153) (lv' := [_, _, _, _, _, _, _, _, _, _]) rfl rfl rfl (by decide) rfl ?_
            refine x_goto rfl ?_
            exact ih (i + 1) D _ (by omega) o (by rw [fP_0 hcd]; exact hz)
          · exact absurd ⟨c112, by cases hz : isM T w with
              | false => rfl
              | true => rw [hz] at c123; exact absurd c123 (by decide)⟩ hcd
set_option maxRecDepth 20000 in
set_option maxHeartbeats 1000000 in
theorem l2_X10_slips {L : Nat → Nat → Int64} {Q : bh_Q} {d : Nat} (hd : 6 ≤ d) {T : TW} (hW : WF T) {l : List Nat} (hm : ∀ w ∈ l, w < nw T) (hlen : l.length ≤ 12) {u b q line : Nat} {x5 : Int32} (hb : b < nb T) (hq : q < lng T b) (hline : line < 65536) {D0 : Nat → Nat → Int32} (hR0 : Rn T (D0 206)) (hH0 : HdM D0 l) {z0 : Sl} (hz0 : z0.1 = 0) (kE : ∀ D v7 v8 v9, OffT D0 D → SlM (D 205) (fW T l (pg T b q) line (nw T) z0) → bw m_X10_slips d Q 162 [.ref 205, .int (nI u), .int (nI b), .int (nI q), .int (nI line), .int x5, .int (nI l.length), .int (nI v7), v8, v9] [] D L) : ∀ (f i : Nat) (D : Nat → Nat → Int32) (a8 : Value) (a9 : Value), i + f = nw T → (OffT D0 D) → (SlM (D 205) (fW T l (pg T b q) line i z0)) → bw m_X10_slips d Q 72 [.ref 205, .int (nI u), .int (nI b), .int (nI q), .int (nI line), .int x5, .int (nI l.length), .int (nI i), a8, a9] [] D L := by
  intro f
  induction f with
  | zero =>
    intro i D a8 a9 hf o hz
    have hR := o.rn hR0
    have hH := o.hd hH0
    have h12 := hW.nwl
    have hbl := fW_le (T := T) hlen (page := pg T b q) (line := line) i z0
    refine x_iload (pc' := 74) rfl rfl rfl ?_
    refine x_aload (pc' := 75) rfl rfl rfl ?_
    refine x_getR (pc' := 78) rfl rfl rfl (by decide) rfl (by decide) rfl rfl ?_
    refine x_int (pc' := 79) (v := nI 0) rfl rfl rfl ?_
    refine x_iald (pc' := 80) rfl rfl (by decide) rfl (by decide) (show _ < 560 by omega) ?_
    refine x_top (hR.1.1.trans hW.enw) ?_
    refine y_ic_ge (pc' := 83) rfl rfl (by omega) (by omega) (fun c80 => ?_) (fun c80 => ?_)
    · obtain rfl : i = nw T := by omega
      exact kE D _ _ _ o hz
    · exact absurd c80 (by omega)
  | succ f ih =>
    intro i D a8 a9 hf o hz
    have hR := o.rn hR0
    have hH := o.hd hH0
    have h12 := hW.nwl
    have hbl := fW_le (T := T) hlen (page := pg T b q) (line := line) i z0
    refine x_iload (pc' := 74) rfl rfl rfl ?_
    refine x_aload (pc' := 75) rfl rfl rfl ?_
    refine x_getR (pc' := 78) rfl rfl rfl (by decide) rfl (by decide) rfl rfl ?_
    refine x_int (pc' := 79) (v := nI 0) rfl rfl rfl ?_
    refine x_iald (pc' := 80) rfl rfl (by decide) rfl (by decide) (show _ < 560 by omega) ?_
    refine x_top (hR.1.1.trans hW.enw) ?_
    refine y_ic_ge (pc' := 83) rfl rfl (by omega) (by omega) (fun c80 => ?_) (fun c80 => ?_)
    · exact absurd c80 (by omega)
    · refine x_int (pc' := 84) (v := nI 0) rfl rfl rfl ?_
      refine x_istore (pc' := 86) (lv' := [_, _, _, _, _, _, _, _, _, _]) rfl rfl (by decide) rfl ?_
      refine l1_X10_slips (d := d) hd hW hm hlen hb hq hline (D0 := D0) hR0 hH0 (z0 := fW T l (pg T b q) line i z0) (w := i) (by omega) (by omega) (fun D2 v9 o2 z2 => ?_) l.length 0 D _ (Nat.zero_add _) o hz
      refine y_inc (pc' := 159) (lv' := [_, _, _, _, _, _, _, _, _, _]) rfl rfl rfl (by decide) rfl ?_
      refine x_goto rfl ?_
      exact ih (i + 1) D2 _ _ (by omega) o2 z2
set_option maxRecDepth 20000 in
set_option maxHeartbeats 1000000 in
theorem w_X10_slips {D : Nat → Nat → Int32} {L : Nat → Nat → Int64} {Q : bh_Q} {T : TW} (hW : WF T) (hR : Rn T (D 206)) {x y z s v : Int32} (k1 : ∀ D1, OffM D D1 → Q (some (.int (slipsQ T x y z s v))) (hp D1 L)) : bh_wc 7 m_X10_slips [.ref 205, .int x, .int y, .int z, .int s, .int v] (hp D L) Q := by
  refine x_start (lv0 := [_, _, _, _, _, _, _, _, _, _]) (Nat.le_of_ble_eq_true rfl) rfl ?_
  have h12 := hW.nwl
  refine x_aload (pc' := 1) rfl rfl rfl ?_
  refine x_iload (pc' := 2) rfl rfl rfl ?_
  refine x_callV (pc' := 5) (d1 := 2) (Bs := [_]) rfl rfl rfl rfl rfl rfl rfl (Nat.le_of_ble_eq_true rfl) ⟨rfl, rfl⟩ (by decide) rfl (by decide) ?_
  refine w_X10_isWriter hW hR (fun h2w h2l e => ?_) (fun h2 => ?_)
  · subst e
    refine ⟨rfl, ?_⟩
    refine x_if_eq (pc' := 8) rfl rfl (fun c5 => absurd c5 (by decide)) (fun _ => ?_)
    refine x_aload (pc' := 9) rfl rfl rfl ?_
    refine x_iload (pc' := 10) rfl rfl rfl ?_
    refine x_iload (pc' := 11) rfl rfl rfl ?_
    refine x_callV (pc' := 14) (d1 := 3) (Bs := [_, _]) rfl rfl rfl rfl rfl rfl rfl (Nat.le_of_ble_eq_true rfl) ⟨rfl, rfl⟩ (by decide) rfl (by decide) ?_
    refine w_X10_isPage hW hR (fun b q hb hq e1 e2 => ?_) (fun hn => ?_)
    · subst e1; subst e2
      refine ⟨rfl, ?_⟩
      refine x_if_eq (pc' := 17) rfl rfl (fun c14 => absurd c14 (by decide)) (fun _ => ?_)
      refine x_iload (pc' := 19) rfl rfl rfl ?_
      refine x_i2l (pc' := 20) rfl rfl ?_
      refine x_long (pc' := 21) (v := (nI 0).toInt64) rfl rfl (by decide) ?_
      refine x_long (pc' := 24) (v := (nI 65535).toInt64) rfl rfl (by decide) ?_
      refine x_callS (pc' := 27) (d1 := 1) (As := [_, _, _]) rfl rfl rfl rfl (by decide) rfl rfl (Nat.le_of_ble_eq_true rfl) ⟨rfl, rfl⟩ (by decide) ?_
      refine w_X10_in (fun h24a h24b => ?_) (fun h24 => ?_)
      · obtain ⟨h24w, h24l, rfl⟩ := in_okL (n := 65535) (by decide) h24a h24b
        refine ⟨rfl, ?_⟩
        refine x_if_eq (pc' := 30) rfl rfl (fun c27 => absurd c27 (by decide)) (fun _ => ?_)
        refine x_iload (pc' := 32) rfl rfl rfl ?_
        refine x_i2l (pc' := 33) rfl rfl ?_
        refine x_long (pc' := 34) (v := (nI 0).toInt64) rfl rfl (by decide) ?_
        refine x_long (pc' := 37) (v := (nI 4).toInt64) rfl rfl (by decide) ?_
        refine x_callS (pc' := 40) (d1 := 1) (As := [_, _, _]) rfl rfl rfl rfl (by decide) rfl rfl (Nat.le_of_ble_eq_true rfl) ⟨rfl, rfl⟩ (by decide) ?_
        refine w_X10_in (fun h37a h37b => ?_) (fun h37 => ?_)
        · obtain ⟨h37w, h37l, rfl⟩ := in_okL (n := 4) (by decide) h37a h37b
          refine ⟨rfl, ?_⟩
          refine x_if_ne (pc' := 43) rfl rfl (fun _ => ?_) (fun c40 => absurd c40 (by decide))
          refine x_aload (pc' := 47) rfl rfl rfl ?_
          refine x_iload (pc' := 48) rfl rfl rfl ?_
          refine x_callV (pc' := 51) (d1 := 3) (Bs := [_]) rfl rfl rfl rfl rfl rfl rfl (Nat.le_of_ble_eq_true rfl) ⟨rfl, rfl⟩ (by decide) rfl (by decide) ?_
          refine w_X10_isAnyDead hW hR h2l (fun hA => ?_) (fun hA => ?_)
          · refine ⟨rfl, ?_⟩
            refine x_if_eq (pc' := 54) rfl rfl (fun c51 => absurd c51 (by decide)) (fun _ => ?_)
            refine x_int (pc' := 56) (v := (-2)) rfl rfl rfl ?_
            refine x_iret rfl rfl ?_
            simp (disch := first | assumption | omega) only [slipsQ, hA, onN_1, onN_0, onP_1, onP_0, ↓reduceIte] at k1
            exact k1 D OffM.rf
          · have hA := nA0 hA
            refine ⟨rfl, ?_⟩
            refine x_if_eq (pc' := 54) rfl rfl (fun _ => ?_) (fun c51 => absurd (by decide) c51)
            refine x_aload (pc' := 58) rfl rfl rfl ?_
            refine x_int (pc' := 59) (v := nI 0) rfl rfl rfl ?_
            refine x_putI (j := 25) (pc' := 62) rfl rfl rfl (by decide) rfl (by decide) rfl rfl ?_
            refine x_aload (pc' := 63) rfl rfl rfl ?_
            refine x_iload (pc' := 64) rfl rfl rfl ?_
            refine x_callV (pc' := 67) (d1 := 3) (Bs := [_]) rfl rfl rfl rfl rfl rfl rfl (Nat.le_of_ble_eq_true rfl) ⟨rfl, rfl⟩ (by decide) rfl (by decide) ?_
            refine w_X10_hands hW ((OffM.up5 (by decide)).rn hR) h2l (fun D2 o2 hH2 => ?_)
            have oo2 : OffM D D2 := (OffM.up5 (by decide)).tr (OffL.m o2 (by decide))
            have hz2 : SlM (D2 205) (0, 0, 0, 0, 0) := ⟨by rw [o2 205 (by decide)]; exact bh_up2_self _ _ _ _, fun h => absurd rfl h⟩
            have hl12 := (isH_of hW h2l).2.1
            have hm := ch_mem hW h2l
            refine ⟨rfl, ?_⟩
            refine x_istore (pc' := 69) (lv' := [_, _, _, _, _, _, _, _, _, _]) rfl rfl (by decide) rfl ?_
            refine x_int (pc' := 70) (v := nI 0) rfl rfl rfl ?_
            refine x_istore (pc' := 72) (lv' := [_, _, _, _, _, _, _, _, _, _]) rfl rfl (by decide) rfl ?_
            refine l2_X10_slips (d := 6) (Nat.le_refl _) hW hm hl12 hb hq h24l (D0 := D2) (oo2.rn hR) hH2 (z0 := (0, 0, 0, 0, 0)) rfl (fun D3 v7 v8 v9 o3 z3 => ?_) (nw T) 0 D2 _ _ (Nat.zero_add _) OffT.rf hz2
            have hfl := fW_le (T := T) hl12 (page := pg T b q) (line := h24w) (nw T) (0, 0, 0, 0, 0)
            have oo := oo2.tr o3.m
            generalize hzz : fW T (ch T h2w) (pg T b q) h24w (nw T) (0, 0, 0, 0, 0) = z at z3 hfl
            refine x_iload (pc' := 164) rfl rfl rfl ?_
            refine y_if_eq (pc' := 167) rfl rfl (by first | omega | (have : z.1 ≤ 0 + 21504 * nw T := hfl; omega)) (fun c164 => ?_) (fun c164 => ?_)
            · refine x_iload (pc' := 176) rfl rfl rfl ?_
              refine y_if_ne (pc' := 179) rfl rfl (by first | omega | (have : z.1 ≤ 0 + 21504 * nw T := hfl; omega)) (fun c176 => ?_) (fun c176 => ?_)
              · exact absurd c164 c176
              · refine x_aload (pc' := 180) rfl rfl rfl ?_
                refine x_getI (j := 25) (pc' := 183) rfl rfl rfl (by decide) rfl (by decide) rfl rfl ?_
                refine x_top (z3.1) ?_
                refine x_goto rfl ?_
                refine x_iret rfl rfl ?_
                simp (disch := first | assumption | omega) only [slipsQ, hA, onN_1, onN_0, onP_1, onP_0, ↓reduceIte] at k1
                rw [hzz] at k1
                have ek := k1 D3 oo
                unfold slipV at ek
                first
                  | (rw [if_pos c176] at ek; exact ek)
                  | (rw [if_neg c176, if_pos c171] at ek; exact ek)
                  | (rw [if_neg c176] at ek; exact absurd c164 c176)
                  | (rw [if_neg c164, if_neg c171, if_pos c192] at ek; exact ek)
                  | (rw [if_neg c164, if_neg c171, if_neg c192, if_pos c205] at ek; exact ek)
                  | (rw [if_neg c164, if_neg c171, if_neg c192, if_neg c205, if_pos c218] at ek; exact ek)
                  | (rw [if_neg c164, if_neg c171, if_neg c192, if_neg c205, if_neg c218] at ek; exact ek)
            · refine x_aload (pc' := 168) rfl rfl rfl ?_
              refine x_getI (j := 25) (pc' := 171) rfl rfl rfl (by decide) rfl (by decide) rfl rfl ?_
              refine x_top (z3.1) ?_
              refine y_if_ne (pc' := 174) rfl rfl (by first | omega | (have : z.1 ≤ 0 + 21504 * nw T := hfl; omega)) (fun c171 => ?_) (fun c171 => ?_)
              · refine x_iload (pc' := 191) rfl rfl rfl ?_
                refine x_int (pc' := 192) (v := nI 1) rfl rfl rfl ?_
                refine y_ic_ne (pc' := 195) rfl rfl (by first | omega | (have : z.1 ≤ 0 + 21504 * nw T := hfl; omega)) (by first | omega | (have : z.1 ≤ 0 + 21504 * nw T := hfl; omega)) (fun c192 => ?_) (fun c192 => ?_)
                · refine x_iload (pc' := 204) rfl rfl rfl ?_
                  refine x_int (pc' := 205) (v := nI 2) rfl rfl rfl ?_
                  refine y_ic_ne (pc' := 208) rfl rfl (by first | omega | (have : z.1 ≤ 0 + 21504 * nw T := hfl; omega)) (by first | omega | (have : z.1 ≤ 0 + 21504 * nw T := hfl; omega)) (fun c205 => ?_) (fun c205 => ?_)
                  · refine x_iload (pc' := 217) rfl rfl rfl ?_
                    refine x_int (pc' := 218) (v := nI 3) rfl rfl rfl ?_
                    refine y_ic_ne (pc' := 221) rfl rfl (by first | omega | (have : z.1 ≤ 0 + 21504 * nw T := hfl; omega)) (by first | omega | (have : z.1 ≤ 0 + 21504 * nw T := hfl; omega)) (fun c218 => ?_) (fun c218 => ?_)
                    · refine x_aload (pc' := 229) rfl rfl rfl ?_
                      refine x_getI (j := 29) (pc' := 232) rfl rfl rfl (by decide) rfl (by decide) rfl rfl ?_
                      refine x_top ((z3.2 c171).2.2.2) ?_
                      refine x_iret rfl rfl ?_
                      simp (disch := first | assumption | omega) only [slipsQ, hA, onN_1, onN_0, onP_1, onP_0, ↓reduceIte] at k1
                      rw [hzz] at k1
                      have ek := k1 D3 oo
                      unfold slipV at ek
                      first
                        | (rw [if_pos c176] at ek; exact ek)
                        | (rw [if_neg c176, if_pos c171] at ek; exact ek)
                        | (rw [if_neg c176] at ek; exact absurd c164 c176)
                        | (rw [if_neg c164, if_neg c171, if_pos c192] at ek; exact ek)
                        | (rw [if_neg c164, if_neg c171, if_neg c192, if_pos c205] at ek; exact ek)
                        | (rw [if_neg c164, if_neg c171, if_neg c192, if_neg c205, if_pos c218] at ek; exact ek)
                        | (rw [if_neg c164, if_neg c171, if_neg c192, if_neg c205, if_neg c218] at ek; exact ek)
                    · refine x_aload (pc' := 222) rfl rfl rfl ?_
                      refine x_getI (j := 28) (pc' := 225) rfl rfl rfl (by decide) rfl (by decide) rfl rfl ?_
                      refine x_top ((z3.2 c171).2.2.1) ?_
                      refine x_goto rfl ?_
                      refine x_iret rfl rfl ?_
                      simp (disch := first | assumption | omega) only [slipsQ, hA, onN_1, onN_0, onP_1, onP_0, ↓reduceIte] at k1
                      rw [hzz] at k1
                      have ek := k1 D3 oo
                      unfold slipV at ek
                      first
                        | (rw [if_pos c176] at ek; exact ek)
                        | (rw [if_neg c176, if_pos c171] at ek; exact ek)
                        | (rw [if_neg c176] at ek; exact absurd c164 c176)
                        | (rw [if_neg c164, if_neg c171, if_pos c192] at ek; exact ek)
                        | (rw [if_neg c164, if_neg c171, if_neg c192, if_pos c205] at ek; exact ek)
                        | (rw [if_neg c164, if_neg c171, if_neg c192, if_neg c205, if_pos c218] at ek; exact ek)
                        | (rw [if_neg c164, if_neg c171, if_neg c192, if_neg c205, if_neg c218] at ek; exact ek)
                  · refine x_aload (pc' := 209) rfl rfl rfl ?_
                    refine x_getI (j := 27) (pc' := 212) rfl rfl rfl (by decide) rfl (by decide) rfl rfl ?_
                    refine x_top ((z3.2 c171).2.1) ?_
                    refine x_goto rfl ?_
                    refine x_iret rfl rfl ?_
                    simp (disch := first | assumption | omega) only [slipsQ, hA, onN_1, onN_0, onP_1, onP_0, ↓reduceIte] at k1
                    rw [hzz] at k1
                    have ek := k1 D3 oo
                    unfold slipV at ek
                    first
                      | (rw [if_pos c176] at ek; exact ek)
                      | (rw [if_neg c176, if_pos c171] at ek; exact ek)
                      | (rw [if_neg c176] at ek; exact absurd c164 c176)
                      | (rw [if_neg c164, if_neg c171, if_pos c192] at ek; exact ek)
                      | (rw [if_neg c164, if_neg c171, if_neg c192, if_pos c205] at ek; exact ek)
                      | (rw [if_neg c164, if_neg c171, if_neg c192, if_neg c205, if_pos c218] at ek; exact ek)
                      | (rw [if_neg c164, if_neg c171, if_neg c192, if_neg c205, if_neg c218] at ek; exact ek)
                · refine x_aload (pc' := 196) rfl rfl rfl ?_
                  refine x_getI (j := 26) (pc' := 199) rfl rfl rfl (by decide) rfl (by decide) rfl rfl ?_
                  refine x_top ((z3.2 c171).1) ?_
                  refine x_goto rfl ?_
                  refine x_iret rfl rfl ?_
                  simp (disch := first | assumption | omega) only [slipsQ, hA, onN_1, onN_0, onP_1, onP_0, ↓reduceIte] at k1
                  rw [hzz] at k1
                  have ek := k1 D3 oo
                  unfold slipV at ek
                  first
                    | (rw [if_pos c176] at ek; exact ek)
                    | (rw [if_neg c176, if_pos c171] at ek; exact ek)
                    | (rw [if_neg c176] at ek; exact absurd c164 c176)
                    | (rw [if_neg c164, if_neg c171, if_pos c192] at ek; exact ek)
                    | (rw [if_neg c164, if_neg c171, if_neg c192, if_pos c205] at ek; exact ek)
                    | (rw [if_neg c164, if_neg c171, if_neg c192, if_neg c205, if_pos c218] at ek; exact ek)
                    | (rw [if_neg c164, if_neg c171, if_neg c192, if_neg c205, if_neg c218] at ek; exact ek)
              · refine x_iload (pc' := 176) rfl rfl rfl ?_
                refine y_if_ne (pc' := 179) rfl rfl (by first | omega | (have : z.1 ≤ 0 + 21504 * nw T := hfl; omega)) (fun c176 => ?_) (fun c176 => ?_)
                · refine x_int (pc' := 188) (v := (-2)) rfl rfl rfl ?_
                  refine x_iret rfl rfl ?_
                  simp (disch := first | assumption | omega) only [slipsQ, hA, onN_1, onN_0, onP_1, onP_0, ↓reduceIte] at k1
                  rw [hzz] at k1
                  have ek := k1 D3 oo
                  unfold slipV at ek
                  first
                    | (rw [if_pos c176] at ek; exact ek)
                    | (rw [if_neg c176, if_pos c171] at ek; exact ek)
                    | (rw [if_neg c176] at ek; exact absurd c164 c176)
                    | (rw [if_neg c164, if_neg c171, if_pos c192] at ek; exact ek)
                    | (rw [if_neg c164, if_neg c171, if_neg c192, if_pos c205] at ek; exact ek)
                    | (rw [if_neg c164, if_neg c171, if_neg c192, if_neg c205, if_pos c218] at ek; exact ek)
                    | (rw [if_neg c164, if_neg c171, if_neg c192, if_neg c205, if_neg c218] at ek; exact ek)
                · exact absurd c176 c164
        · have h37 := okN_inL (n := 4) (by decide) h37
          refine ⟨rfl, ?_⟩
          refine x_if_ne (pc' := 43) rfl rfl (fun c40 => absurd (by decide) c40) (fun _ => ?_)
          refine x_int (pc' := 45) (v := (-3)) rfl rfl rfl ?_
          refine x_iret rfl rfl ?_
          simp (disch := first | assumption | omega) only [slipsQ, onN_1, onN_0, onP_1, onP_0, ↓reduceIte] at k1
          exact k1 D OffM.rf
      · have h24 := okN_inL (n := 65535) (by decide) h24
        refine ⟨rfl, ?_⟩
        refine x_if_eq (pc' := 30) rfl rfl (fun _ => ?_) (fun c27 => absurd (by decide) c27)
        refine x_int (pc' := 45) (v := (-3)) rfl rfl rfl ?_
        refine x_iret rfl rfl ?_
        simp (disch := first | assumption | omega) only [slipsQ, onN_1, onN_0, onP_1, onP_0, ↓reduceIte] at k1
        exact k1 D OffM.rf
    · refine ⟨rfl, ?_⟩
      refine x_if_eq (pc' := 17) rfl rfl (fun _ => ?_) (fun c14 => absurd (by decide) c14)
      refine x_int (pc' := 45) (v := (-3)) rfl rfl rfl ?_
      refine x_iret rfl rfl ?_
      simp (disch := first | assumption | omega) only [slipsQ, onN_1, onN_0, onP_1, onP_0, ↓reduceIte] at k1
      exact k1 D OffM.rf
  · refine ⟨rfl, ?_⟩
    refine x_if_eq (pc' := 8) rfl rfl (fun _ => ?_) (fun c5 => absurd (by decide) c5)
    refine x_int (pc' := 45) (v := (-3)) rfl rfl rfl ?_
    refine x_iret rfl rfl ?_
    simp (disch := first | assumption | omega) only [slipsQ, onN_1, onN_0, onP_1, onP_0, ↓reduceIte] at k1
    exact k1 D OffM.rf
