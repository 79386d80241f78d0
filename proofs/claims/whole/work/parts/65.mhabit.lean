/-! ===== the reference: a habit ===== -/
def OHd (D D' : Nat → Nat → Int32) : Prop := (∀ k, k ≠ 205 → k ≠ 207 → D' k = D k) ∧ ∀ j, j ≠ 8 → j ≠ 9 → j ≠ 10 → D' 205 j = D 205 j
theorem OHd.rf {D : Nat → Nat → Int32} : OHd D D := ⟨fun _ _ _ => rfl, fun _ _ _ _ => rfl⟩
theorem OHd.tr {D D1 D2 : Nat → Nat → Int32} (h1 : OHd D D1) (h2 : OHd D1 D2) : OHd D D2 := ⟨fun k a b => (h2.1 k a b).trans (h1.1 k a b), fun j a b c => (h2.2 j a b c).trans (h1.2 j a b c)⟩
theorem O205.h {D D' : Nat → Nat → Int32} (h : O205 D D') : OHd D D' := ⟨fun k a _ => h.1 k a, h.2⟩
theorem OHd.up {D : Nat → Nat → Int32} {j : Nat} {x : Int32} : OHd D (bh_up2 D 207 j x) := ⟨fun k _ h => bh_up2_ne _ _ _ h, fun j _ _ _ => by rw [bh_up2_ne _ _ _ (by decide)]⟩
theorem MS.h {D : Nat → Nat → Int32} {tp : List Nat} {a f j : Nat} {x : Int32} (h : MS D tp a f) : MS (bh_up2 D 207 j x) tp a f := by
  unfold MS PM
  rw [bh_up2_ne _ _ _ (show 205 ≠ 207 by decide), bh_up2_ne _ _ _ (show 211 ≠ 207 by decide)]
  exact h
/-- what is heard of a habit at row r -/
def HbR (N N' : Nat → Int32) (r k x y : Nat) : Prop := (∀ i, (i < r + 1 ∨ r + 4 ≤ i) → N' i = N i) ∧ N' (r + 1) = nI k ∧ (1 ≤ k → N' (r + 2) = nI x) ∧ (5 ≤ k → N' (r + 3) = nI y)
set_option maxRecDepth 20000 in
set_option maxHeartbeats 1000000 in
theorem w_X10_readsHabit {D : Nat → Nat → Int32} {L : Nat → Nat → Int64} {Q : bh_Q} {tp : List Nat} {a r : Nat} (h : MS D tp a 0) (hr : r + 4 ≤ 560) (k1 : (pHab tp a).1 = 0 → ∀ D', OHd D D' → MS D' tp (pHab tp a).2.2.2.2 0 → HbR (D 207) (D' 207) r (pHab tp a).2.1 (pHab tp a).2.2.1 (pHab tp a).2.2.2.1 → Q none (hp D' L)) (k0 : ¬ (pHab tp a).1 = 0 → ∀ D', OHd D D' → (∃ e, MS D' tp e (pHab tp a).1) → (∀ i, (i < r + 1 ∨ r + 4 ≤ i) → D' 207 i = D 207 i) → Q none (hp D' L)) : bh_wc 5 m_X10_readsHabit [.ref 205, .int (nI r)] (hp D L) Q := by
  refine x_start (lv0 := [_, _, _, _, _]) (Nat.le_of_ble_eq_true rfl) rfl ?_
  have h4 := h.l4
  have ha := h.al
  have hskl := skp_le (p := isBk) ha
  have hel := skp_le (p := isLt) hskl
  have hn2 := nE_le (tp := tp) hel
  have hs3 := nS_le (tp := tp) hn2
  refine x_aload (pc' := 1) rfl rfl rfl ?_
  refine x_callV (pc' := 4) (d1 := 4) (Bs := []) rfl rfl rfl rfl rfl rfl rfl (Nat.le_of_ble_eq_true rfl) ⟨rfl, rfl⟩ (by decide) rfl (by decide) ?_
  refine w_X10_kindTold h (fun k hk D1 o1 h1 e1 => ?_) (fun hk D1 o1 h1 e1 => ?_)
  · refine ⟨rfl, ?_⟩
    have hk7 := kw_lt hk
    have hsg : sg k < 3 := by unfold sg; split; decide; split <;> decide
    refine x_istore (pc' := 5) (lv' := [_, _, _, _, _]) rfl rfl (by decide) rfl ?_
    refine x_int (pc' := 6) (v := (-1)) rfl rfl rfl ?_
    refine x_istore (pc' := 7) (lv' := [_, _, _, _, _]) rfl rfl (by decide) rfl ?_
    refine x_int (pc' := 8) (v := (-1)) rfl rfl rfl ?_
    refine x_istore (pc' := 10) (lv' := [_, _, _, _, _]) rfl rfl (by decide) rfl ?_
    refine x_aload (pc' := 11) rfl rfl rfl ?_
    refine x_callV (pc' := 14) (d1 := 1) (Bs := []) rfl rfl rfl rfl rfl rfl rfl (Nat.le_of_ble_eq_true rfl) ⟨rfl, rfl⟩ (by decide) rfl (by decide) ?_
    refine w_X10_isRight h1 (fun _ => ?_) (fun hf => absurd rfl hf)
    refine ⟨rfl, ?_⟩
    refine x_if_eq (pc' := 17) rfl rfl (fun c14 => absurd c14 (by decide)) (fun _ => ?_)
    refine x_iload (pc' := 18) rfl rfl rfl ?_
    refine x_callS (pc' := 21) (d1 := 1) (As := [_]) rfl rfl rfl rfl (by decide) rfl rfl (Nat.le_of_ble_eq_true rfl) ⟨rfl, rfl⟩ (by decide) ?_
    refine w_X10_needs hk7 ?_
    refine ⟨rfl, ?_⟩
    refine y_if_le (pc' := 24) rfl rfl (by omega) (fun c21 => ?_) (fun c21 => ?_)
    · refine x_aload (pc' := 42) rfl rfl rfl ?_
      refine x_callV (pc' := 45) (d1 := 1) (Bs := []) rfl rfl rfl rfl rfl rfl rfl (Nat.le_of_ble_eq_true rfl) ⟨rfl, rfl⟩ (by decide) rfl (by decide) ?_
      refine w_X10_isRight h1 (fun _ => ?_) (fun hf => absurd rfl hf)
      refine ⟨rfl, ?_⟩
      refine x_if_eq (pc' := 48) rfl rfl (fun c45 => absurd c45 (by decide)) (fun _ => ?_)
      refine x_iload (pc' := 49) rfl rfl rfl ?_
      refine x_callS (pc' := 52) (d1 := 1) (As := [_]) rfl rfl rfl rfl (by decide) rfl rfl (Nat.le_of_ble_eq_true rfl) ⟨rfl, rfl⟩ (by decide) ?_
      refine w_X10_needs hk7 ?_
      refine ⟨rfl, ?_⟩
      refine x_int (pc' := 53) (v := nI 1) rfl rfl rfl ?_
      refine y_ic_le (pc' := 56) rfl rfl (by omega) (by omega) (fun c53 => ?_) (fun c53 => ?_)
      · refine x_aload (pc' := 88) rfl rfl rfl ?_
        refine x_getR (pc' := 91) rfl rfl rfl (by decide) rfl (by decide) rfl rfl ?_
        refine x_iload (pc' := 92) rfl rfl rfl ?_
        refine x_int (pc' := 93) (v := nI 1) rfl rfl rfl ?_
        refine y_iadd (pc' := 94) rfl rfl ?_
        refine x_iload (pc' := 95) rfl rfl rfl ?_
        refine x_iast (pc' := 96) rfl rfl (by decide) rfl (by decide) (show _ < 560 by omega) ?_
        refine x_aload (pc' := 97) rfl rfl rfl ?_
        refine x_getR (pc' := 100) rfl rfl rfl (by decide) rfl (by decide) rfl rfl ?_
        refine x_iload (pc' := 101) rfl rfl rfl ?_
        refine x_int (pc' := 102) (v := nI 2) rfl rfl rfl ?_
        refine y_iadd (pc' := 103) rfl rfl ?_
        refine x_iload (pc' := 104) rfl rfl rfl ?_
        refine x_iast (pc' := 105) rfl rfl (by decide) rfl (by decide) (show _ < 560 by omega) ?_
        refine x_aload (pc' := 106) rfl rfl rfl ?_
        refine x_getR (pc' := 109) rfl rfl rfl (by decide) rfl (by decide) rfl rfl ?_
        refine x_iload (pc' := 110) rfl rfl rfl ?_
        refine x_int (pc' := 111) (v := nI 3) rfl rfl rfl ?_
        refine y_iadd (pc' := 112) rfl rfl ?_
        refine x_iload (pc' := 114) rfl rfl rfl ?_
        refine x_iast (pc' := 115) rfl rfl (by decide) rfl (by decide) (show _ < 560 by omega) ?_
        refine x_vret rfl rfl ?_
        have e : pHab tp a = (0, k, 0, 0, (skp isLt tp (skp isBk tp a))) := by rw [pHab_s hk]; exact if_pos c21
        rw [e] at k1
        have hk0 := sgA k
        exact k1 rfl _ (((o1.h.tr OHd.up).tr OHd.up).tr OHd.up) h1.h.h.h ⟨fun i hi => by rw [up2_o (by omega), up2_o (by omega), up2_o (by omega), o1.1 207 (by decide)], (up2_o (by omega)).trans ((up2_o (by omega)).trans (bh_up2_self _ _ _ _)), fun z => absurd z (by show ¬ 1 ≤ k; omega), fun z => absurd z (by show ¬ 5 ≤ k; omega)⟩
      · exfalso; omega
    · refine x_aload (pc' := 25) rfl rfl rfl ?_
      refine x_iload (pc' := 26) rfl rfl rfl ?_
      refine x_int (pc' := 27) (v := nI 4) rfl rfl rfl ?_
      refine y_ic_ne (pc' := 30) rfl rfl (by omega) (by omega) (fun c27 => ?_) (fun c27 => ?_)
      · refine x_int (pc' := 35) (v := nI 0) rfl rfl rfl ?_
        refine x_int (pc' := 37) (v := nI 15) rfl rfl rfl ?_
        refine x_callV (pc' := 40) (d1 := 3) (Bs := [_, _]) rfl rfl rfl rfl rfl rfl rfl (Nat.le_of_ble_eq_true rfl) ⟨rfl, rfl⟩ (by decide) rfl (by decide) ?_
        refine w_X10_number (lo := 0) (hi := 16) h1 (by decide) (by decide) (by decide) (fun D2 x2 o2 h2 e2 v2 b2 => ?_)
        refine ⟨rfl, ?_⟩
        have hlo : lo4 k = 0 := if_neg c27
        have h2 : MS D2 tp (nE tp (skp isLt tp (skp isBk tp a))) (nF tp (lo4 k) 16 (skp isLt tp (skp isBk tp a))) := by rw [hlo]; exact h2
        have v2 : nF tp (lo4 k) 16 (skp isLt tp (skp isBk tp a)) = 0 → x2 = nI (nV tp (skp isLt tp (skp isBk tp a))) := by rw [hlo]; exact v2
        refine x_istore (pc' := 41) (lv' := [_, _, _, _, _]) rfl rfl (by decide) rfl ?_
        refine x_aload (pc' := 42) rfl rfl rfl ?_
        refine x_callV (pc' := 45) (d1 := 1) (Bs := []) rfl rfl rfl rfl rfl rfl rfl (Nat.le_of_ble_eq_true rfl) ⟨rfl, rfl⟩ (by decide) rfl (by decide) ?_
        refine w_X10_isRight h2 (fun c42 => ?_) (fun c42 => ?_)
        · refine ⟨rfl, ?_⟩
          refine x_if_eq (pc' := 48) rfl rfl (fun c45 => absurd c45 (by decide)) (fun _ => ?_)
          refine x_iload (pc' := 49) rfl rfl rfl ?_
          refine x_callS (pc' := 52) (d1 := 1) (As := [_]) rfl rfl rfl rfl (by decide) rfl rfl (Nat.le_of_ble_eq_true rfl) ⟨rfl, rfl⟩ (by decide) ?_
          refine w_X10_needs hk7 ?_
          refine ⟨rfl, ?_⟩
          refine x_int (pc' := 53) (v := nI 1) rfl rfl rfl ?_
          refine y_ic_le (pc' := 56) rfl rfl (by omega) (by omega) (fun c53 => ?_) (fun c53 => ?_)
          · refine x_aload (pc' := 88) rfl rfl rfl ?_
            refine x_getR (pc' := 91) rfl rfl rfl (by decide) rfl (by decide) rfl rfl ?_
            refine x_iload (pc' := 92) rfl rfl rfl ?_
            refine x_int (pc' := 93) (v := nI 1) rfl rfl rfl ?_
            refine y_iadd (pc' := 94) rfl rfl ?_
            refine x_iload (pc' := 95) rfl rfl rfl ?_
            refine x_iast (pc' := 96) rfl rfl (by decide) rfl (by decide) (show _ < 560 by omega) ?_
            refine x_aload (pc' := 97) rfl rfl rfl ?_
            refine x_getR (pc' := 100) rfl rfl rfl (by decide) rfl (by decide) rfl rfl ?_
            refine x_iload (pc' := 101) rfl rfl rfl ?_
            refine x_int (pc' := 102) (v := nI 2) rfl rfl rfl ?_
            refine y_iadd (pc' := 103) rfl rfl ?_
            refine x_iload (pc' := 104) rfl rfl rfl ?_
            refine x_iast (pc' := 105) rfl rfl (by decide) rfl (by decide) (show _ < 560 by omega) ?_
            refine x_aload (pc' := 106) rfl rfl rfl ?_
            refine x_getR (pc' := 109) rfl rfl rfl (by decide) rfl (by decide) rfl rfl ?_
            refine x_iload (pc' := 110) rfl rfl rfl ?_
            refine x_int (pc' := 111) (v := nI 3) rfl rfl rfl ?_
            refine y_iadd (pc' := 112) rfl rfl ?_
            refine x_iload (pc' := 114) rfl rfl rfl ?_
            refine x_iast (pc' := 115) rfl rfl (by decide) rfl (by decide) (show _ < 560 by omega) ?_
            refine x_vret rfl rfl ?_
            have hx2 := v2 c42
            subst hx2
            have e : pHab tp a = (0, k, nV tp (skp isLt tp (skp isBk tp a)), 0, nE tp (skp isLt tp (skp isBk tp a))) := by rw [pHab_s hk]; unfold hab2; rw [if_neg (show ¬ sg k = 0 by omega), if_neg (fun z => z c42), if_pos (show sg k = 1 by omega)]
            rw [e] at k1
            rw [c42] at h2
            have hk0 := sgA k
            exact k1 rfl _ ((((o1.tr o2).h.tr OHd.up).tr OHd.up).tr OHd.up) h2.h.h.h ⟨fun i hi => by rw [up2_o (by omega), up2_o (by omega), up2_o (by omega), (o1.tr o2).1 207 (by decide)], (up2_o (by omega)).trans ((up2_o (by omega)).trans (bh_up2_self _ _ _ _)), fun _ => (up2_o (by omega)).trans (bh_up2_self _ _ _ _), fun z => absurd z (by show ¬ 5 ≤ k; omega)⟩
          · refine x_aload (pc' := 57) rfl rfl rfl ?_
            refine x_int (pc' := 58) (v := nI 0) rfl rfl rfl ?_
            refine x_int (pc' := 60) (v := nI 15) rfl rfl rfl ?_
            refine x_callV (pc' := 63) (d1 := 3) (Bs := [_, _]) rfl rfl rfl rfl rfl rfl rfl (Nat.le_of_ble_eq_true rfl) ⟨rfl, rfl⟩ (by decide) rfl (by decide) ?_
            refine w_X10_number (lo := 0) (hi := 16) (show MS D2 tp (nE tp (skp isLt tp (skp isBk tp a))) 0 by rw [c42] at h2; exact h2) (by decide) (by decide) (by decide) (fun D3 x3 o3 h3 e3 v3 b3 => ?_)
            refine ⟨rfl, ?_⟩
            refine x_istore (pc' := 65) (lv' := [_, _, _, _, _]) rfl rfl (by decide) rfl ?_
            refine x_aload (pc' := 66) rfl rfl rfl ?_
            refine x_callV (pc' := 69) (d1 := 1) (Bs := []) rfl rfl rfl rfl rfl rfl rfl (Nat.le_of_ble_eq_true rfl) ⟨rfl, rfl⟩ (by decide) rfl (by decide) ?_
            refine w_X10_isRight h3 (fun c66 => ?_) (fun c66 => ?_)
            · have hx2 := v2 c42
              have hx3 := v3 c66
              subst hx2; subst hx3
              have hi2 := nF_in c42
              have hi3 := nF_in c66
              refine ⟨rfl, ?_⟩
              refine x_if_eq (pc' := 72) rfl rfl (fun c69 => absurd c69 (by decide)) (fun _ => ?_)
              refine x_iload (pc' := 73) rfl rfl rfl ?_
              refine x_iload (pc' := 75) rfl rfl rfl ?_
              refine y_ic_ne (pc' := 78) rfl rfl (by omega) (by omega) (fun c75 => ?_) (fun c75 => ?_)
              · refine x_aload (pc' := 88) rfl rfl rfl ?_
                refine x_getR (pc' := 91) rfl rfl rfl (by decide) rfl (by decide) rfl rfl ?_
                refine x_iload (pc' := 92) rfl rfl rfl ?_
                refine x_int (pc' := 93) (v := nI 1) rfl rfl rfl ?_
                refine y_iadd (pc' := 94) rfl rfl ?_
                refine x_iload (pc' := 95) rfl rfl rfl ?_
                refine x_iast (pc' := 96) rfl rfl (by decide) rfl (by decide) (show _ < 560 by omega) ?_
                refine x_aload (pc' := 97) rfl rfl rfl ?_
                refine x_getR (pc' := 100) rfl rfl rfl (by decide) rfl (by decide) rfl rfl ?_
                refine x_iload (pc' := 101) rfl rfl rfl ?_
                refine x_int (pc' := 102) (v := nI 2) rfl rfl rfl ?_
                refine y_iadd (pc' := 103) rfl rfl ?_
                refine x_iload (pc' := 104) rfl rfl rfl ?_
                refine x_iast (pc' := 105) rfl rfl (by decide) rfl (by decide) (show _ < 560 by omega) ?_
                refine x_aload (pc' := 106) rfl rfl rfl ?_
                refine x_getR (pc' := 109) rfl rfl rfl (by decide) rfl (by decide) rfl rfl ?_
                refine x_iload (pc' := 110) rfl rfl rfl ?_
                refine x_int (pc' := 111) (v := nI 3) rfl rfl rfl ?_
                refine y_iadd (pc' := 112) rfl rfl ?_
                refine x_iload (pc' := 114) rfl rfl rfl ?_
                refine x_iast (pc' := 115) rfl rfl (by decide) rfl (by decide) (show _ < 560 by omega) ?_
                refine x_vret rfl rfl ?_
                have e : pHab tp a = (0, k, nV tp (skp isLt tp (skp isBk tp a)), nV tp (nE tp (skp isLt tp (skp isBk tp a))), nE tp (nE tp (skp isLt tp (skp isBk tp a)))) := by rw [pHab_s hk]; unfold hab2; rw [if_neg (show ¬ sg k = 0 by omega), if_neg (fun z => z c42), if_neg (show ¬ sg k = 1 by omega), if_neg (fun z => z c66), if_neg (fun z => c75 z.symm)]
                rw [e] at k1
                rw [c66] at h3
                exact k1 rfl _ (((((o1.tr o2).tr o3).h.tr OHd.up).tr OHd.up).tr OHd.up) h3.h.h.h ⟨fun i hi => by rw [up2_o (by omega), up2_o (by omega), up2_o (by omega), ((o1.tr o2).tr o3).1 207 (by decide)], (up2_o (by omega)).trans ((up2_o (by omega)).trans (bh_up2_self _ _ _ _)), fun _ => (up2_o (by omega)).trans (bh_up2_self _ _ _ _), fun _ => bh_up2_self _ _ _ _⟩
              · refine x_aload (pc' := 79) rfl rfl rfl ?_
                refine x_int (pc' := 80) (v := nI 2) rfl rfl rfl ?_
                refine x_aload (pc' := 81) rfl rfl rfl ?_
                refine x_getI (j := 10) (pc' := 84) rfl rfl rfl (by decide) rfl (by decide) rfl rfl ?_
                refine x_top (e3) ?_
                refine x_callV (pc' := 87) (d1 := 2) (Bs := [_, _]) rfl rfl rfl rfl rfl rfl rfl (Nat.le_of_ble_eq_true rfl) ⟨rfl, rfl⟩ (by decide) rfl (by decide) ?_
                refine w_X10_fails h3 (show nS tp (nE tp (skp isLt tp (skp isBk tp a))) ≤ 400 by omega) (by decide) (by decide) (fun D9 o9 h9 e9 => ?_)
                refine ⟨rfl, ?_⟩
                refine x_aload (pc' := 88) rfl rfl rfl ?_
                refine x_getR (pc' := 91) rfl rfl rfl (by decide) rfl (by decide) rfl rfl ?_
                refine x_iload (pc' := 92) rfl rfl rfl ?_
                refine x_int (pc' := 93) (v := nI 1) rfl rfl rfl ?_
                refine y_iadd (pc' := 94) rfl rfl ?_
                refine x_iload (pc' := 95) rfl rfl rfl ?_
                refine x_iast (pc' := 96) rfl rfl (by decide) rfl (by decide) (show _ < 560 by omega) ?_
                refine x_aload (pc' := 97) rfl rfl rfl ?_
                refine x_getR (pc' := 100) rfl rfl rfl (by decide) rfl (by decide) rfl rfl ?_
                refine x_iload (pc' := 101) rfl rfl rfl ?_
                refine x_int (pc' := 102) (v := nI 2) rfl rfl rfl ?_
                refine y_iadd (pc' := 103) rfl rfl ?_
                refine x_iload (pc' := 104) rfl rfl rfl ?_
                refine x_iast (pc' := 105) rfl rfl (by decide) rfl (by decide) (show _ < 560 by omega) ?_
                refine x_aload (pc' := 106) rfl rfl rfl ?_
                refine x_getR (pc' := 109) rfl rfl rfl (by decide) rfl (by decide) rfl rfl ?_
                refine x_iload (pc' := 110) rfl rfl rfl ?_
                refine x_int (pc' := 111) (v := nI 3) rfl rfl rfl ?_
                refine y_iadd (pc' := 112) rfl rfl ?_
                refine x_iload (pc' := 114) rfl rfl rfl ?_
                refine x_iast (pc' := 115) rfl rfl (by decide) rfl (by decide) (show _ < 560 by omega) ?_
                refine x_vret rfl rfl ?_
                have e : pHab tp a = (8 * nS tp (nE tp (skp isLt tp (skp isBk tp a))) + 2, 0, 0, 0, 0) := by rw [pHab_s hk]; unfold hab2; rw [if_neg (show ¬ sg k = 0 by omega), if_neg (fun z => z c42), if_neg (show ¬ sg k = 1 by omega), if_neg (fun z => z c66), if_pos c75.symm]
                rw [e] at k0
                rw [if_pos c66] at h9
                exact k0 (by show ¬ 8 * _ + 2 = 0; omega) _ ((((((o1.tr o2).tr o3).tr o9).h.tr OHd.up).tr OHd.up).tr OHd.up) ⟨_, h9.h.h.h⟩ (fun i hi => by rw [up2_o (by omega), up2_o (by omega), up2_o (by omega), (((o1.tr o2).tr o3).tr o9).1 207 (by decide)])
            · refine ⟨rfl, ?_⟩
              refine x_if_eq (pc' := 72) rfl rfl (fun _ => ?_) (fun c69 => absurd (by decide) c69)
              refine x_aload (pc' := 88) rfl rfl rfl ?_
              refine x_getR (pc' := 91) rfl rfl rfl (by decide) rfl (by decide) rfl rfl ?_
              refine x_iload (pc' := 92) rfl rfl rfl ?_
              refine x_int (pc' := 93) (v := nI 1) rfl rfl rfl ?_
              refine y_iadd (pc' := 94) rfl rfl ?_
              refine x_iload (pc' := 95) rfl rfl rfl ?_
              refine x_iast (pc' := 96) rfl rfl (by decide) rfl (by decide) (show _ < 560 by omega) ?_
              refine x_aload (pc' := 97) rfl rfl rfl ?_
              refine x_getR (pc' := 100) rfl rfl rfl (by decide) rfl (by decide) rfl rfl ?_
              refine x_iload (pc' := 101) rfl rfl rfl ?_
              refine x_int (pc' := 102) (v := nI 2) rfl rfl rfl ?_
              refine y_iadd (pc' := 103) rfl rfl ?_
              refine x_iload (pc' := 104) rfl rfl rfl ?_
              refine x_iast (pc' := 105) rfl rfl (by decide) rfl (by decide) (show _ < 560 by omega) ?_
              refine x_aload (pc' := 106) rfl rfl rfl ?_
              refine x_getR (pc' := 109) rfl rfl rfl (by decide) rfl (by decide) rfl rfl ?_
              refine x_iload (pc' := 110) rfl rfl rfl ?_
              refine x_int (pc' := 111) (v := nI 3) rfl rfl rfl ?_
              refine y_iadd (pc' := 112) rfl rfl ?_
              refine x_iload (pc' := 114) rfl rfl rfl ?_
              refine x_iast (pc' := 115) rfl rfl (by decide) rfl (by decide) (show _ < 560 by omega) ?_
              refine x_vret rfl rfl ?_
              have e : pHab tp a = (nF tp 0 16 (nE tp (skp isLt tp (skp isBk tp a))), 0, 0, 0, 0) := by rw [pHab_s hk]; unfold hab2; rw [if_neg (show ¬ sg k = 0 by omega), if_neg (fun z => z c42), if_neg (show ¬ sg k = 1 by omega), if_pos c66]
              rw [e] at k0
              exact k0 c66 _ (((((o1.tr o2).tr o3).h.tr OHd.up).tr OHd.up).tr OHd.up) ⟨_, h3.h.h.h⟩ (fun i hi => by rw [up2_o (by omega), up2_o (by omega), up2_o (by omega), ((o1.tr o2).tr o3).1 207 (by decide)])
        · refine ⟨rfl, ?_⟩
          refine x_if_eq (pc' := 48) rfl rfl (fun _ => ?_) (fun c45 => absurd (by decide) c45)
          refine x_aload (pc' := 88) rfl rfl rfl ?_
          refine x_getR (pc' := 91) rfl rfl rfl (by decide) rfl (by decide) rfl rfl ?_
          refine x_iload (pc' := 92) rfl rfl rfl ?_
          refine x_int (pc' := 93) (v := nI 1) rfl rfl rfl ?_
          refine y_iadd (pc' := 94) rfl rfl ?_
          refine x_iload (pc' := 95) rfl rfl rfl ?_
          refine x_iast (pc' := 96) rfl rfl (by decide) rfl (by decide) (show _ < 560 by omega) ?_
          refine x_aload (pc' := 97) rfl rfl rfl ?_
          refine x_getR (pc' := 100) rfl rfl rfl (by decide) rfl (by decide) rfl rfl ?_
          refine x_iload (pc' := 101) rfl rfl rfl ?_
          refine x_int (pc' := 102) (v := nI 2) rfl rfl rfl ?_
          refine y_iadd (pc' := 103) rfl rfl ?_
          refine x_iload (pc' := 104) rfl rfl rfl ?_
          refine x_iast (pc' := 105) rfl rfl (by decide) rfl (by decide) (show _ < 560 by omega) ?_
          refine x_aload (pc' := 106) rfl rfl rfl ?_
          refine x_getR (pc' := 109) rfl rfl rfl (by decide) rfl (by decide) rfl rfl ?_
          refine x_iload (pc' := 110) rfl rfl rfl ?_
          refine x_int (pc' := 111) (v := nI 3) rfl rfl rfl ?_
          refine y_iadd (pc' := 112) rfl rfl ?_
          refine x_iload (pc' := 114) rfl rfl rfl ?_
          refine x_iast (pc' := 115) rfl rfl (by decide) rfl (by decide) (show _ < 560 by omega) ?_
          refine x_vret rfl rfl ?_
          have e : pHab tp a = (nF tp (lo4 k) 16 (skp isLt tp (skp isBk tp a)), 0, 0, 0, 0) := by rw [pHab_s hk]; unfold hab2; rw [if_neg (show ¬ sg k = 0 by omega), if_pos c42]
          rw [e] at k0
          exact k0 c42 _ ((((o1.tr o2).h.tr OHd.up).tr OHd.up).tr OHd.up) ⟨_, h2.h.h.h⟩ (fun i hi => by rw [up2_o (by omega), up2_o (by omega), up2_o (by omega), (o1.tr o2).1 207 (by decide)])
      · refine x_int (pc' := 31) (v := nI 1) rfl rfl rfl ?_
        refine x_goto rfl ?_
        refine x_int (pc' := 37) (v := nI 15) rfl rfl rfl ?_
        refine x_callV (pc' := 40) (d1 := 3) (Bs := [_, _]) rfl rfl rfl rfl rfl rfl rfl (Nat.le_of_ble_eq_true rfl) ⟨rfl, rfl⟩ (by decide) rfl (by decide) ?_
        refine w_X10_number (lo := 1) (hi := 16) h1 (by decide) (by decide) (by decide) (fun D2 x2 o2 h2 e2 v2 b2 => ?_)
        refine ⟨rfl, ?_⟩
        have hlo : lo4 k = 1 := if_pos c27
        have h2 : MS D2 tp (nE tp (skp isLt tp (skp isBk tp a))) (nF tp (lo4 k) 16 (skp isLt tp (skp isBk tp a))) := by rw [hlo]; exact h2
        have v2 : nF tp (lo4 k) 16 (skp isLt tp (skp isBk tp a)) = 0 → x2 = nI (nV tp (skp isLt tp (skp isBk tp a))) := by rw [hlo]; exact v2
        refine x_istore (pc' := 41) (lv' := [_, _, _, _, _]) rfl rfl (by decide) rfl ?_
        refine x_aload (pc' := 42) rfl rfl rfl ?_
        refine x_callV (pc' := 45) (d1 := 1) (Bs := []) rfl rfl rfl rfl rfl rfl rfl (Nat.le_of_ble_eq_true rfl) ⟨rfl, rfl⟩ (by decide) rfl (by decide) ?_
        refine w_X10_isRight h2 (fun c42 => ?_) (fun c42 => ?_)
        · refine ⟨rfl, ?_⟩
          refine x_if_eq (pc' := 48) rfl rfl (fun c45 => absurd c45 (by decide)) (fun _ => ?_)
          refine x_iload (pc' := 49) rfl rfl rfl ?_
          refine x_callS (pc' := 52) (d1 := 1) (As := [_]) rfl rfl rfl rfl (by decide) rfl rfl (Nat.le_of_ble_eq_true rfl) ⟨rfl, rfl⟩ (by decide) ?_
          refine w_X10_needs hk7 ?_
          refine ⟨rfl, ?_⟩
          refine x_int (pc' := 53) (v := nI 1) rfl rfl rfl ?_
          refine y_ic_le (pc' := 56) rfl rfl (by omega) (by omega) (fun c53 => ?_) (fun c53 => ?_)
          · refine x_aload (pc' := 88) rfl rfl rfl ?_
            refine x_getR (pc' := 91) rfl rfl rfl (by decide) rfl (by decide) rfl rfl ?_
            refine x_iload (pc' := 92) rfl rfl rfl ?_
            refine x_int (pc' := 93) (v := nI 1) rfl rfl rfl ?_
            refine y_iadd (pc' := 94) rfl rfl ?_
            refine x_iload (pc' := 95) rfl rfl rfl ?_
            refine x_iast (pc' := 96) rfl rfl (by decide) rfl (by decide) (show _ < 560 by omega) ?_
            refine x_aload (pc' := 97) rfl rfl rfl ?_
            refine x_getR (pc' := 100) rfl rfl rfl (by decide) rfl (by decide) rfl rfl ?_
            refine x_iload (pc' := 101) rfl rfl rfl ?_
            refine x_int (pc' := 102) (v := nI 2) rfl rfl rfl ?_
            refine y_iadd (pc' := 103) rfl rfl ?_
            refine x_iload (pc' := 104) rfl rfl rfl ?_
            refine x_iast (pc' := 105) rfl rfl (by decide) rfl (by decide) (show _ < 560 by omega) ?_
            refine x_aload (pc' := 106) rfl rfl rfl ?_
            refine x_getR (pc' := 109) rfl rfl rfl (by decide) rfl (by decide) rfl rfl ?_
            refine x_iload (pc' := 110) rfl rfl rfl ?_
            refine x_int (pc' := 111) (v := nI 3) rfl rfl rfl ?_
            refine y_iadd (pc' := 112) rfl rfl ?_
            refine x_iload (pc' := 114) rfl rfl rfl ?_
            refine x_iast (pc' := 115) rfl rfl (by decide) rfl (by decide) (show _ < 560 by omega) ?_
            refine x_vret rfl rfl ?_
            have hx2 := v2 c42
            subst hx2
            have e : pHab tp a = (0, k, nV tp (skp isLt tp (skp isBk tp a)), 0, nE tp (skp isLt tp (skp isBk tp a))) := by rw [pHab_s hk]; unfold hab2; rw [if_neg (show ¬ sg k = 0 by omega), if_neg (fun z => z c42), if_pos (show sg k = 1 by omega)]
            rw [e] at k1
            rw [c42] at h2
            have hk0 := sgA k
            exact k1 rfl _ ((((o1.tr o2).h.tr OHd.up).tr OHd.up).tr OHd.up) h2.h.h.h ⟨fun i hi => by rw [up2_o (by omega), up2_o (by omega), up2_o (by omega), (o1.tr o2).1 207 (by decide)], (up2_o (by omega)).trans ((up2_o (by omega)).trans (bh_up2_self _ _ _ _)), fun _ => (up2_o (by omega)).trans (bh_up2_self _ _ _ _), fun z => absurd z (by show ¬ 5 ≤ k; omega)⟩
          · refine x_aload (pc' := 57) rfl rfl rfl ?_
            refine x_int (pc' := 58) (v := nI 0) rfl rfl rfl ?_
            refine x_int (pc' := 60) (v := nI 15) rfl rfl rfl ?_
            refine x_callV (pc' := 63) (d1 := 3) (Bs := [_, _]) rfl rfl rfl rfl rfl rfl rfl (Nat.le_of_ble_eq_true rfl) ⟨rfl, rfl⟩ (by decide) rfl (by decide) ?_
            refine w_X10_number (lo := 0) (hi := 16) (show MS D2 tp (nE tp (skp isLt tp (skp isBk tp a))) 0 by rw [c42] at h2; exact h2) (by decide) (by decide) (by decide) (fun D3 x3 o3 h3 e3 v3 b3 => ?_)
            refine ⟨rfl, ?_⟩
            refine x_istore (pc' := 65) (lv' := [_, _, _, _, _]) rfl rfl (by decide) rfl ?_
            refine x_aload (pc' := 66) rfl rfl rfl ?_
            refine x_callV (pc' := 69) (d1 := 1) (Bs := []) rfl rfl rfl rfl rfl rfl rfl (Nat.le_of_ble_eq_true rfl) ⟨rfl, rfl⟩ (by decide) rfl (by decide) ?_
            refine w_X10_isRight h3 (fun c66 => ?_) (fun c66 => ?_)
            · have hx2 := v2 c42
              have hx3 := v3 c66
              subst hx2; subst hx3
              have hi2 := nF_in c42
              have hi3 := nF_in c66
              refine ⟨rfl, ?_⟩
              refine x_if_eq (pc' := 72) rfl rfl (fun c69 => absurd c69 (by decide)) (fun _ => ?_)
              refine x_iload (pc' := 73) rfl rfl rfl ?_
              refine x_iload (pc' := 75) rfl rfl rfl ?_
              refine y_ic_ne (pc' := 78) rfl rfl (by omega) (by omega) (fun c75 => ?_) (fun c75 => ?_)
              · refine x_aload (pc' := 88) rfl rfl rfl ?_
                refine x_getR (pc' := 91) rfl rfl rfl (by decide) rfl (by decide) rfl rfl ?_
                refine x_iload (pc' := 92) rfl rfl rfl ?_
                refine x_int (pc' := 93) (v := nI 1) rfl rfl rfl ?_
                refine y_iadd (pc' := 94) rfl rfl ?_
                refine x_iload (pc' := 95) rfl rfl rfl ?_
                refine x_iast (pc' := 96) rfl rfl (by decide) rfl (by decide) (show _ < 560 by omega) ?_
                refine x_aload (pc' := 97) rfl rfl rfl ?_
                refine x_getR (pc' := 100) rfl rfl rfl (by decide) rfl (by decide) rfl rfl ?_
                refine x_iload (pc' := 101) rfl rfl rfl ?_
                refine x_int (pc' := 102) (v := nI 2) rfl rfl rfl ?_
                refine y_iadd (pc' := 103) rfl rfl ?_
                refine x_iload (pc' := 104) rfl rfl rfl ?_
                refine x_iast (pc' := 105) rfl rfl (by decide) rfl (by decide) (show _ < 560 by omega) ?_
                refine x_aload (pc' := 106) rfl rfl rfl ?_
                refine x_getR (pc' := 109) rfl rfl rfl (by decide) rfl (by decide) rfl rfl ?_
                refine x_iload (pc' := 110) rfl rfl rfl ?_
                refine x_int (pc' := 111) (v := nI 3) rfl rfl rfl ?_
                refine y_iadd (pc' := 112) rfl rfl ?_
                refine x_iload (pc' := 114) rfl rfl rfl ?_
                refine x_iast (pc' := 115) rfl rfl (by decide) rfl (by decide) (show _ < 560 by omega) ?_
                refine x_vret rfl rfl ?_
                have e : pHab tp a = (0, k, nV tp (skp isLt tp (skp isBk tp a)), nV tp (nE tp (skp isLt tp (skp isBk tp a))), nE tp (nE tp (skp isLt tp (skp isBk tp a)))) := by rw [pHab_s hk]; unfold hab2; rw [if_neg (show ¬ sg k = 0 by omega), if_neg (fun z => z c42), if_neg (show ¬ sg k = 1 by omega), if_neg (fun z => z c66), if_neg (fun z => c75 z.symm)]
                rw [e] at k1
                rw [c66] at h3
                exact k1 rfl _ (((((o1.tr o2).tr o3).h.tr OHd.up).tr OHd.up).tr OHd.up) h3.h.h.h ⟨fun i hi => by rw [up2_o (by omega), up2_o (by omega), up2_o (by omega), ((o1.tr o2).tr o3).1 207 (by decide)], (up2_o (by omega)).trans ((up2_o (by omega)).trans (bh_up2_self _ _ _ _)), fun _ => (up2_o (by omega)).trans (bh_up2_self _ _ _ _), fun _ => bh_up2_self _ _ _ _⟩
              · refine x_aload (pc' := 79) rfl rfl rfl ?_
                refine x_int (pc' := 80) (v := nI 2) rfl rfl rfl ?_
                refine x_aload (pc' := 81) rfl rfl rfl ?_
                refine x_getI (j := 10) (pc' := 84) rfl rfl rfl (by decide) rfl (by decide) rfl rfl ?_
                refine x_top (e3) ?_
                refine x_callV (pc' := 87) (d1 := 2) (Bs := [_, _]) rfl rfl rfl rfl rfl rfl rfl (Nat.le_of_ble_eq_true rfl) ⟨rfl, rfl⟩ (by decide) rfl (by decide) ?_
                refine w_X10_fails h3 (show nS tp (nE tp (skp isLt tp (skp isBk tp a))) ≤ 400 by omega) (by decide) (by decide) (fun D9 o9 h9 e9 => ?_)
                refine ⟨rfl, ?_⟩
                refine x_aload (pc' := 88) rfl rfl rfl ?_
                refine x_getR (pc' := 91) rfl rfl rfl (by decide) rfl (by decide) rfl rfl ?_
                refine x_iload (pc' := 92) rfl rfl rfl ?_
                refine x_int (pc' := 93) (v := nI 1) rfl rfl rfl ?_
                refine y_iadd (pc' := 94) rfl rfl ?_
                refine x_iload (pc' := 95) rfl rfl rfl ?_
                refine x_iast (pc' := 96) rfl rfl (by decide) rfl (by decide) (show _ < 560 by omega) ?_
                refine x_aload (pc' := 97) rfl rfl rfl ?_
                refine x_getR (pc' := 100) rfl rfl rfl (by decide) rfl (by decide) rfl rfl ?_
                refine x_iload (pc' := 101) rfl rfl rfl ?_
                refine x_int (pc' := 102) (v := nI 2) rfl rfl rfl ?_
                refine y_iadd (pc' := 103) rfl rfl ?_
                refine x_iload (pc' := 104) rfl rfl rfl ?_
                refine x_iast (pc' := 105) rfl rfl (by decide) rfl (by decide) (show _ < 560 by omega) ?_
                refine x_aload (pc' := 106) rfl rfl rfl ?_
                refine x_getR (pc' := 109) rfl rfl rfl (by decide) rfl (by decide) rfl rfl ?_
                refine x_iload (pc' := 110) rfl rfl rfl ?_
                refine x_int (pc' := 111) (v := nI 3) rfl rfl rfl ?_
                refine y_iadd (pc' := 112) rfl rfl ?_
                refine x_iload (pc' := 114) rfl rfl rfl ?_
                refine x_iast (pc' := 115) rfl rfl (by decide) rfl (by decide) (show _ < 560 by omega) ?_
                refine x_vret rfl rfl ?_
                have e : pHab tp a = (8 * nS tp (nE tp (skp isLt tp (skp isBk tp a))) + 2, 0, 0, 0, 0) := by rw [pHab_s hk]; unfold hab2; rw [if_neg (show ¬ sg k = 0 by omega), if_neg (fun z => z c42), if_neg (show ¬ sg k = 1 by omega), if_neg (fun z => z c66), if_pos c75.symm]
                rw [e] at k0
                rw [if_pos c66] at h9
                exact k0 (by show ¬ 8 * _ + 2 = 0; omega) _ ((((((o1.tr o2).tr o3).tr o9).h.tr OHd.up).tr OHd.up).tr OHd.up) ⟨_, h9.h.h.h⟩ (fun i hi => by rw [up2_o (by omega), up2_o (by omega), up2_o (by omega), (((o1.tr o2).tr o3).tr o9).1 207 (by decide)])
            · refine ⟨rfl, ?_⟩
              refine x_if_eq (pc' := 72) rfl rfl (fun _ => ?_) (fun c69 => absurd (by decide) c69)
              refine x_aload (pc' := 88) rfl rfl rfl ?_
              refine x_getR (pc' := 91) rfl rfl rfl (by decide) rfl (by decide) rfl rfl ?_
              refine x_iload (pc' := 92) rfl rfl rfl ?_
              refine x_int (pc' := 93) (v := nI 1) rfl rfl rfl ?_
              refine y_iadd (pc' := 94) rfl rfl ?_
              refine x_iload (pc' := 95) rfl rfl rfl ?_
              refine x_iast (pc' := 96) rfl rfl (by decide) rfl (by decide) (show _ < 560 by omega) ?_
              refine x_aload (pc' := 97) rfl rfl rfl ?_
              refine x_getR (pc' := 100) rfl rfl rfl (by decide) rfl (by decide) rfl rfl ?_
              refine x_iload (pc' := 101) rfl rfl rfl ?_
              refine x_int (pc' := 102) (v := nI 2) rfl rfl rfl ?_
              refine y_iadd (pc' := 103) rfl rfl ?_
              refine x_iload (pc' := 104) rfl rfl rfl ?_
              refine x_iast (pc' := 105) rfl rfl (by decide) rfl (by decide) (show _ < 560 by omega) ?_
              refine x_aload (pc' := 106) rfl rfl rfl ?_
              refine x_getR (pc' := 109) rfl rfl rfl (by decide) rfl (by decide) rfl rfl ?_
              refine x_iload (pc' := 110) rfl rfl rfl ?_
              refine x_int (pc' := 111) (v := nI 3) rfl rfl rfl ?_
              refine y_iadd (pc' := 112) rfl rfl ?_
              refine x_iload (pc' := 114) rfl rfl rfl ?_
              refine x_iast (pc' := 115) rfl rfl (by decide) rfl (by decide) (show _ < 560 by omega) ?_
              refine x_vret rfl rfl ?_
              have e : pHab tp a = (nF tp 0 16 (nE tp (skp isLt tp (skp isBk tp a))), 0, 0, 0, 0) := by rw [pHab_s hk]; unfold hab2; rw [if_neg (show ¬ sg k = 0 by omega), if_neg (fun z => z c42), if_neg (show ¬ sg k = 1 by omega), if_pos c66]
              rw [e] at k0
              exact k0 c66 _ (((((o1.tr o2).tr o3).h.tr OHd.up).tr OHd.up).tr OHd.up) ⟨_, h3.h.h.h⟩ (fun i hi => by rw [up2_o (by omega), up2_o (by omega), up2_o (by omega), ((o1.tr o2).tr o3).1 207 (by decide)])
        · refine ⟨rfl, ?_⟩
          refine x_if_eq (pc' := 48) rfl rfl (fun _ => ?_) (fun c45 => absurd (by decide) c45)
          refine x_aload (pc' := 88) rfl rfl rfl ?_
          refine x_getR (pc' := 91) rfl rfl rfl (by decide) rfl (by decide) rfl rfl ?_
          refine x_iload (pc' := 92) rfl rfl rfl ?_
          refine x_int (pc' := 93) (v := nI 1) rfl rfl rfl ?_
          refine y_iadd (pc' := 94) rfl rfl ?_
          refine x_iload (pc' := 95) rfl rfl rfl ?_
          refine x_iast (pc' := 96) rfl rfl (by decide) rfl (by decide) (show _ < 560 by omega) ?_
          refine x_aload (pc' := 97) rfl rfl rfl ?_
          refine x_getR (pc' := 100) rfl rfl rfl (by decide) rfl (by decide) rfl rfl ?_
          refine x_iload (pc' := 101) rfl rfl rfl ?_
          refine x_int (pc' := 102) (v := nI 2) rfl rfl rfl ?_
          refine y_iadd (pc' := 103) rfl rfl ?_
          refine x_iload (pc' := 104) rfl rfl rfl ?_
          refine x_iast (pc' := 105) rfl rfl (by decide) rfl (by decide) (show _ < 560 by omega) ?_
          refine x_aload (pc' := 106) rfl rfl rfl ?_
          refine x_getR (pc' := 109) rfl rfl rfl (by decide) rfl (by decide) rfl rfl ?_
          refine x_iload (pc' := 110) rfl rfl rfl ?_
          refine x_int (pc' := 111) (v := nI 3) rfl rfl rfl ?_
          refine y_iadd (pc' := 112) rfl rfl ?_
          refine x_iload (pc' := 114) rfl rfl rfl ?_
          refine x_iast (pc' := 115) rfl rfl (by decide) rfl (by decide) (show _ < 560 by omega) ?_
          refine x_vret rfl rfl ?_
          have e : pHab tp a = (nF tp (lo4 k) 16 (skp isLt tp (skp isBk tp a)), 0, 0, 0, 0) := by rw [pHab_s hk]; unfold hab2; rw [if_neg (show ¬ sg k = 0 by omega), if_pos c42]
          rw [e] at k0
          exact k0 c42 _ ((((o1.tr o2).h.tr OHd.up).tr OHd.up).tr OHd.up) ⟨_, h2.h.h.h⟩ (fun i hi => by rw [up2_o (by omega), up2_o (by omega), up2_o (by omega), (o1.tr o2).1 207 (by decide)])
  · refine ⟨rfl, ?_⟩
    refine x_istore (pc' := 5) (lv' := [_, _, _, _, _]) rfl rfl (by decide) rfl ?_
    refine x_int (pc' := 6) (v := (-1)) rfl rfl rfl ?_
    refine x_istore (pc' := 7) (lv' := [_, _, _, _, _]) rfl rfl (by decide) rfl ?_
    refine x_int (pc' := 8) (v := (-1)) rfl rfl rfl ?_
    refine x_istore (pc' := 10) (lv' := [_, _, _, _, _]) rfl rfl (by decide) rfl ?_
    refine x_aload (pc' := 11) rfl rfl rfl ?_
    refine x_callV (pc' := 14) (d1 := 1) (Bs := []) rfl rfl rfl rfl rfl rfl rfl (Nat.le_of_ble_eq_true rfl) ⟨rfl, rfl⟩ (by decide) rfl (by decide) ?_
    refine w_X10_isRight h1 (fun hf => absurd hf (by omega)) (fun _ => ?_)
    refine ⟨rfl, ?_⟩
    refine x_if_eq (pc' := 17) rfl rfl (fun _ => ?_) (fun c14 => absurd (by decide) c14)
    refine x_aload (pc' := 42) rfl rfl rfl ?_
    refine x_callV (pc' := 45) (d1 := 1) (Bs := []) rfl rfl rfl rfl rfl rfl rfl (Nat.le_of_ble_eq_true rfl) ⟨rfl, rfl⟩ (by decide) rfl (by decide) ?_
    refine w_X10_isRight h1 (fun hf => absurd hf (by omega)) (fun _ => ?_)
    refine ⟨rfl, ?_⟩
    refine x_if_eq (pc' := 48) rfl rfl (fun _ => ?_) (fun c45 => absurd (by decide) c45)
    refine x_aload (pc' := 88) rfl rfl rfl ?_
    refine x_getR (pc' := 91) rfl rfl rfl (by decide) rfl (by decide) rfl rfl ?_
    refine x_iload (pc' := 92) rfl rfl rfl ?_
    refine x_int (pc' := 93) (v := nI 1) rfl rfl rfl ?_
    refine y_iadd (pc' := 94) rfl rfl ?_
    refine x_iload (pc' := 95) rfl rfl rfl ?_
    refine x_iast (pc' := 96) rfl rfl (by decide) rfl (by decide) (show _ < 560 by omega) ?_
    refine x_aload (pc' := 97) rfl rfl rfl ?_
    refine x_getR (pc' := 100) rfl rfl rfl (by decide) rfl (by decide) rfl rfl ?_
    refine x_iload (pc' := 101) rfl rfl rfl ?_
    refine x_int (pc' := 102) (v := nI 2) rfl rfl rfl ?_
    refine y_iadd (pc' := 103) rfl rfl ?_
    refine x_iload (pc' := 104) rfl rfl rfl ?_
    refine x_iast (pc' := 105) rfl rfl (by decide) rfl (by decide) (show _ < 560 by omega) ?_
    refine x_aload (pc' := 106) rfl rfl rfl ?_
    refine x_getR (pc' := 109) rfl rfl rfl (by decide) rfl (by decide) rfl rfl ?_
    refine x_iload (pc' := 110) rfl rfl rfl ?_
    refine x_int (pc' := 111) (v := nI 3) rfl rfl rfl ?_
    refine y_iadd (pc' := 112) rfl rfl ?_
    refine x_iload (pc' := 114) rfl rfl rfl ?_
    refine x_iast (pc' := 115) rfl rfl (by decide) rfl (by decide) (show _ < 560 by omega) ?_
    refine x_vret rfl rfl ?_
    rw [pHab_n hk] at k0
    exact k0 (by show ¬ 8 * _ + 1 = 0; omega) _ (((o1.h.tr OHd.up).tr OHd.up).tr OHd.up) ⟨_, h1.h.h.h⟩ (fun i hi => by rw [up2_o (by omega), up2_o (by omega), up2_o (by omega), o1.1 207 (by decide)])
