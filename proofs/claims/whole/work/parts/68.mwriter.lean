/-! ===== the reference: a writer told ===== -/
def NwR (N0 N : Nat → Int32) (r v k x y : Nat) (o : Int32) : Prop := (∀ i, (i < r ∨ r + 5 ≤ i) → N i = N0 i) ∧ N (r + 0) = nI v ∧ N (r + 1) = nI k ∧ (1 ≤ k → N (r + 2) = nI x) ∧ (5 ≤ k → N (r + 3) = nI y) ∧ N (r + 4) = o
theorem let_word {tp : List Nat} {s : Nat} (h : wdB tp s (skp isLt tp s) 8 = true) : letB tp s = true := by
  by_cases q : s < tp.length
  · by_cases g : isLt (tp.getD s 0) = true
    · unfold letB; rw [decide_eq_true q, g]; rfl
    · have := wdB_len h
      rw [skp_0 q (by revert g; cases isLt (tp.getD s 0) <;> simp), Nat.sub_self] at this
      exact absurd this (by decide)
  · have := wdB_len h
    rw [skp_e (by omega), Nat.sub_self] at this
    exact absurd this (by decide)
theorem nw_hb {N0 N1 N2 N3 : Nat → Int32} {r v k x y : Nat} (h1 : N1 (r + 0) = nI v) (e1 : ∀ i, i ≠ r + 0 → N1 i = N0 i) (h : HbR N1 N2 r k x y) (h4 : N3 (r + 4) = -1) (e3 : ∀ i, i ≠ r + 4 → N3 i = N2 i) : NwR N0 N3 r v k x y (-1) := by
  obtain ⟨a, b, c, d⟩ := h
  refine ⟨fun i hi => by rw [e3 i (by omega), a i (by omega), e1 i (by omega)], by rw [e3 _ (by omega), a _ (by omega)]; exact h1, by rw [e3 _ (by omega)]; exact b, fun z => by rw [e3 _ (by omega)]; exact c z, fun z => by rw [e3 _ (by omega)]; exact d z, h4⟩
theorem rn_nw {S X : TW} (hW : WF S) {v k x y : Nat} {o : Int32} (hw : nw S < 12) (h : AwP S X (nw S) v k x y o) (hk : hok k x y) {N N1 N' : Nat → Int32} (hR : Rn S N) (hZ : HdZ S N) (hN : NwR N N1 (4 + 10 * nw S) v k x y o) (e0 : N' 0 = nI (nw S + 1)) (e : ∀ i, i ≠ 0 → N' i = N1 i) : Rn X N' ∧ HdZ X N' := by
  obtain ⟨a, b0, b1, b2, b3, b4⟩ := hN
  exact rn_aw hW hw h hk hR hZ e0 (fun i h0 hi => (e i h0).trans (a i hi)) ((e _ (by omega)).trans b0) ((e _ (by omega)).trans b1) (fun z => (e _ (by omega)).trans (b2 z)) (fun z => (e _ (by omega)).trans (b3 z)) ((e _ (by omega)).trans b4)
theorem NwR.o {N0 N N' : Nat → Int32} {r v k x y : Nat} {o o' : Int32} (h : NwR N0 N r v k x y o) (h4 : N' (r + 4) = o') (e : ∀ i, i ≠ r + 4 → N' i = N i) : NwR N0 N' r v k x y o' := by
  obtain ⟨a, b0, b1, b2, b3, b4⟩ := h
  exact ⟨fun i hi => (e i (by omega)).trans (a i hi), (e _ (by omega)).trans b0, (e _ (by omega)).trans b1, fun z => (e _ (by omega)).trans (b2 z), fun z => (e _ (by omega)).trans (b3 z), h4⟩
theorem wr_1 {tp : List Nat} {S : TW} {a : Nat} (h : ¬ nF tp 0 100 a = 0) : pWr tp S a = (nF tp 0 100 a, S, 0) := by unfold pWr; rw [if_pos h]
theorem wr_2 {tp : List Nat} {S : TW} {a : Nat} (h : nF tp 0 100 a = 0) (h2 : ¬ (pHab tp (nE tp a)).1 = 0) : pWr tp S a = ((pHab tp (nE tp a)).1, S, 0) := by unfold pWr wr2; rw [if_neg (fun z => z h), if_pos h2]
theorem wr_3 {tp : List Nat} {S : TW} {a : Nat} (h : nF tp 0 100 a = 0) (h2 : (pHab tp (nE tp a)).1 = 0) : pWr tp S a = wr3 tp S (shS (awS S (nw S) (nV tp a)) (nw S) (pHab tp (nE tp a)).2.1 (pHab tp (nE tp a)).2.2.1 (pHab tp (nE tp a)).2.2.2.1) (nw S) (skp isBk tp (pHab tp (nE tp a)).2.2.2.2) := by unfold pWr wr2; rw [if_neg (fun z => z h), if_neg (fun z => z h2)]
theorem wr3_0 {tp : List Nat} {S S2 : TW} {w s : Nat} (h : ¬ letB tp s = true) : wr3 tp S S2 w s = (0, S2, s) := if_neg h
theorem wr3_1 {tp : List Nat} {S S2 : TW} {w s : Nat} (h : letB tp s = true) (h2 : ¬ (pUn tp S2 w s).1 = 0) : wr3 tp S S2 w s = ((pUn tp S2 w s).1, S, 0) := by unfold wr3; rw [if_pos h, if_pos h2]
theorem wr3_2 {tp : List Nat} {S S2 : TW} {w s : Nat} (h : letB tp s = true) (h2 : (pUn tp S2 w s).1 = 0) : wr3 tp S S2 w s = (0, suS S2 w (pUn tp S2 w s).2.1, (pUn tp S2 w s).2.2) := by unfold wr3; rw [if_pos h, if_neg (fun z => z h2)]
theorem un_0 {tp : List Nat} {S : TW} {w s : Nat} (hs : skp isBk tp s = s) (h : wdB tp s (skp isLt tp s) 8 = false) : pUn tp S w s = (8 * s + 1, 0, 0) := by unfold pUn; rw [hs, if_pos h]
theorem un_1 {tp : List Nat} {S : TW} {w s : Nat} (hs : skp isBk tp s = s) (h : wdB tp s (skp isLt tp s) 8 = true) (h2 : ¬ nF tp 0 w (skp isLt tp s) = 0) : pUn tp S w s = (nF tp 0 w (skp isLt tp s), 0, 0) := by unfold pUn; rw [hs, if_neg (by rw [h]; decide), if_pos h2]
theorem un_2 {tp : List Nat} {S : TW} {w s : Nat} (hs : skp isBk tp s = s) (h : wdB tp s (skp isLt tp s) 8 = true) (h2 : nF tp 0 w (skp isLt tp s) = 0) (h3 : pu S w ≤ pu S (nV tp (skp isLt tp s))) : pUn tp S w s = (8 * nS tp (skp isLt tp s) + 4, 0, 0) := by unfold pUn; rw [hs, if_neg (by rw [h]; decide), if_neg (fun z => z h2), if_pos h3]
theorem un_3 {tp : List Nat} {S : TW} {w s : Nat} (hs : skp isBk tp s = s) (h : wdB tp s (skp isLt tp s) 8 = true) (h2 : nF tp 0 w (skp isLt tp s) = 0) (h3 : ¬ pu S w ≤ pu S (nV tp (skp isLt tp s))) : pUn tp S w s = (0, nV tp (skp isLt tp s), nE tp (skp isLt tp s)) := by unfold pUn; rw [hs, if_neg (by rw [h]; decide), if_neg (fun z => z h2), if_neg h3]
theorem aw_puw {S : TW} {w v k x y : Nat} (hv : v < 100) : pu (shS (awS S w v) w k x y) w = v := by show ((shS (awS S w v) w k x y) 1 w).toNatClampNeg = _; rw [aw_pu, if_pos rfl, nI_clamp (by omega)]
theorem aw_pun {S : TW} {w v k x y u : Nat} (hu : u ≠ w) : pu (shS (awS S w v) w k x y) u = pu S u := by show ((shS (awS S w v) w k x y) 1 u).toNatClampNeg = _; rw [aw_pu, if_neg hu]; rfl
set_option maxRecDepth 20000 in
set_option maxHeartbeats 1000000 in
theorem w_X10_readsWriter {D : Nat → Nat → Int32} {L : Nat → Nat → Int64} {Q : bh_Q} {tp : List Nat} {S : TW} {a s : Nat} (h : MS D tp a 0) (hW : WF S) (hR : Rn S (D 207)) (hZ : HdZ S (D 207)) (hw : nw S < 12) (k1 : (pWr tp S a).1 = 0 → ∀ D', OHd D D' → MS D' tp (pWr tp S a).2.2 0 → Rn (pWr tp S a).2.1 (D' 207) → HdZ (pWr tp S a).2.1 (D' 207) → Q none (hp D' L)) (k0 : ¬ (pWr tp S a).1 = 0 → ∀ D', OHd D D' → (∃ e, MS D' tp e (pWr tp S a).1) → Q none (hp D' L)) (k2 : ∀ s, (pWr tp S a).1 = 8 * s + 1 → letB tp s = true → ∀ D', OHd D D' → MS D' tp s 0 → Q none (hp D' L)) : bh_wc 6 m_X10_readsWriter [.ref 205, .int (nI s)] (hp D L) Q := by
  refine x_start (lv0 := [_, _, _, _]) (Nat.le_of_ble_eq_true rfl) rfl ?_
  refine x_aload (pc' := 1) rfl rfl rfl ?_
  refine x_getR (pc' := 4) rfl rfl rfl (by decide) rfl (by decide) rfl rfl ?_
  refine x_int (pc' := 5) (v := nI 0) rfl rfl rfl ?_
  refine x_iald (pc' := 6) rfl rfl (by decide) rfl (by decide) (show _ < 560 by omega) ?_
  refine x_top (hR.1.1.trans hW.enw) ?_
  refine x_int (pc' := 8) (v := nI 12) rfl rfl rfl ?_
  refine y_ic_ne (pc' := 11) rfl rfl (by omega) (by omega) (fun c8 => ?_) (fun c8 => ?_)
  · refine x_int (pc' := 19) (v := nI 4) rfl rfl rfl ?_
    refine x_int (pc' := 21) (v := nI 10) rfl rfl rfl ?_
    refine x_aload (pc' := 22) rfl rfl rfl ?_
    refine x_getR (pc' := 25) rfl rfl rfl (by decide) rfl (by decide) rfl rfl ?_
    refine x_int (pc' := 26) (v := nI 0) rfl rfl rfl ?_
    refine x_iald (pc' := 27) rfl rfl (by decide) rfl (by decide) (show _ < 560 by omega) ?_
    refine x_top (hR.1.1.trans hW.enw) ?_
    refine y_imul (pc' := 28) rfl rfl ?_
    refine y_iadd (pc' := 29) rfl rfl ?_
    refine x_istore (pc' := 30) (lv' := [_, _, _, _]) rfl rfl (by decide) rfl ?_
    refine x_aload (pc' := 31) rfl rfl rfl ?_
    refine x_getR (pc' := 34) rfl rfl rfl (by decide) rfl (by decide) rfl rfl ?_
    refine x_iload (pc' := 35) rfl rfl rfl ?_
    refine x_int (pc' := 36) (v := nI 0) rfl rfl rfl ?_
    refine y_iadd (pc' := 37) rfl rfl ?_
    refine x_aload (pc' := 38) rfl rfl rfl ?_
    refine x_int (pc' := 39) (v := nI 0) rfl rfl rfl ?_
    refine x_int (pc' := 41) (v := nI 99) rfl rfl rfl ?_
    refine x_callV (pc' := 44) (d1 := 3) (Bs := [_, _]) rfl rfl rfl rfl rfl rfl rfl (Nat.le_of_ble_eq_true rfl) ⟨rfl, rfl⟩ (by decide) rfl (by decide) ?_
    refine w_X10_number (lo := 0) (hi := 100) h (by decide) (by decide) (by decide) (fun D1 x1 o1 h1 e1 v1 b1 => ?_)
    refine ⟨rfl, ?_⟩
    have z1 : D1 207 0 = nI (nw S) := (congrFun (o1.1 207 (by decide)) 0).trans (hR.1.1.trans hW.enw)
    refine x_iast (pc' := 45) rfl rfl (by decide) rfl (by decide) (show _ < 560 by omega) ?_
    refine x_aload (pc' := 46) rfl rfl rfl ?_
    refine x_callV (pc' := 49) (d1 := 1) (Bs := []) rfl rfl rfl rfl rfl rfl rfl (Nat.le_of_ble_eq_true rfl) ⟨rfl, rfl⟩ (by decide) rfl (by decide) ?_
    refine w_X10_isRight h1.h (fun c46 => ?_) (fun c46 => ?_)
    · have hx1 := v1 c46
      subst hx1
      rw [c46] at h1
      have hv := (nF_in c46).2.1
      refine ⟨rfl, ?_⟩
      refine x_if_eq (pc' := 52) rfl rfl (fun c49 => absurd c49 (by decide)) (fun _ => ?_)
      refine x_aload (pc' := 53) rfl rfl rfl ?_
      refine x_iload (pc' := 54) rfl rfl rfl ?_
      refine x_callV (pc' := 57) (d1 := 5) (Bs := [_]) rfl rfl rfl rfl rfl rfl rfl (Nat.le_of_ble_eq_true rfl) ⟨rfl, rfl⟩ (by decide) rfl (by decide) ?_
      refine w_X10_readsHabit h1.h (show 4 + 10 * nw S + 4 ≤ 560 by omega) (fun ch D2 o2 h2 hb2 => ?_) (fun ch D2 o2 h2 z2 => ?_)
      · have z2 : D2 207 0 = nI (nw S) := (hb2.1 0 (by omega)).trans ((up2_o (by omega)).trans z1)
        refine ⟨rfl, ?_⟩
        refine x_aload (pc' := 58) rfl rfl rfl ?_
        refine x_getR (pc' := 61) rfl rfl rfl (by decide) rfl (by decide) rfl rfl ?_
        refine x_iload (pc' := 62) rfl rfl rfl ?_
        refine x_int (pc' := 63) (v := nI 4) rfl rfl rfl ?_
        refine y_iadd (pc' := 64) rfl rfl ?_
        refine x_int (pc' := 65) (v := (-1)) rfl rfl rfl ?_
        refine x_iast (pc' := 66) rfl rfl (by decide) rfl (by decide) (show _ < 560 by omega) ?_
        refine x_aload (pc' := 67) rfl rfl rfl ?_
        refine x_ldcS (pc' := 69) rfl rfl ?_
        refine x_callV (pc' := 72) (d1 := 3) (Bs := [_]) rfl rfl rfl rfl rfl rfl rfl (Nat.le_of_ble_eq_true rfl) ⟨rfl, rfl⟩ (by decide) rfl (by decide) ?_
        refine w_X10_takes h2.h (by decide) (fun _ hw8 D3 o3 h3 e3 => ?_) (fun hw8 D3 o3 h3 e3 => ?_)
        · have z3 : D3 207 0 = nI (nw S) := (congrFun (o3.1 207 (by decide)) 0).trans ((up2_o (by omega)).trans z2)
          have hN3 : NwR (D 207) (D3 207) (4 + 10 * nw S) (nV tp a) (pHab tp (nE tp a)).2.1 (pHab tp (nE tp a)).2.2.1 (pHab tp (nE tp a)).2.2.2.1 (-1) := nw_hb (bh_up2_self _ _ _ _) (fun i hi => (up2_o hi).trans (congrFun (o1.1 207 (by decide)) i)) hb2 ((congrFun (o3.1 207 (by decide)) _).trans (bh_up2_self _ _ _ _)) (fun i hi => (congrFun (o3.1 207 (by decide)) _).trans (up2_o hi))
          have hfx : skp isBk tp (skp isBk tp (pHab tp (nE tp a)).2.2.2.2) = (skp isBk tp (pHab tp (nE tp a)).2.2.2.2) := skp_fix h2.al
          rw [wM18] at hw8
          refine ⟨rfl, ?_⟩
          refine x_if_eq (pc' := 75) rfl rfl (fun c72 => absurd c72 (by decide)) (fun _ => ?_)
          refine x_aload (pc' := 76) rfl rfl rfl ?_
          refine x_int (pc' := 77) (v := nI 0) rfl rfl rfl ?_
          refine x_aload (pc' := 78) rfl rfl rfl ?_
          refine x_getR (pc' := 81) rfl rfl rfl (by decide) rfl (by decide) rfl rfl ?_
          refine x_int (pc' := 82) (v := nI 0) rfl rfl rfl ?_
          refine x_iald (pc' := 83) rfl rfl (by decide) rfl (by decide) (show _ < 560 by omega) ?_
          refine x_top (z3) ?_
          refine x_int (pc' := 84) (v := 1) rfl rfl rfl ?_
          refine x_isub (pc' := 85) rfl rfl ?_
          refine x_callV (pc' := 88) (d1 := 3) (Bs := [_, _]) rfl rfl rfl rfl rfl rfl rfl (Nat.le_of_ble_eq_true rfl) ⟨rfl, rfl⟩ (by decide) rfl (by decide) ?_
          refine w_X10_number (lo := 0) (hi := nw S) h3 (by decide) (by omega) rfl (fun D4 x4 o4 h4 e4 v4 b4 => ?_)
          refine ⟨rfl, ?_⟩
          have z4 : D4 207 0 = nI (nw S) := (congrFun (o4.1 207 (by decide)) 0).trans z3
          refine x_istore (pc' := 89) (lv' := [_, _, _, _]) rfl rfl (by decide) rfl ?_
          refine x_aload (pc' := 90) rfl rfl rfl ?_
          refine x_callV (pc' := 93) (d1 := 1) (Bs := []) rfl rfl rfl rfl rfl rfl rfl (Nat.le_of_ble_eq_true rfl) ⟨rfl, rfl⟩ (by decide) rfl (by decide) ?_
          refine w_X10_isRight h4 (fun c90 => ?_) (fun c90 => ?_)
          · have hx4 := v4 c90
            subst hx4
            rw [c90] at h4
            have hu := (nF_in c90).2.1
            refine ⟨rfl, ?_⟩
            refine x_if_eq (pc' := 96) rfl rfl (fun c93 => absurd c93 (by decide)) (fun _ => ?_)
            refine x_aload (pc' := 97) rfl rfl rfl ?_
            refine x_getR (pc' := 100) rfl rfl rfl (by decide) rfl (by decide) rfl rfl ?_
            refine x_int (pc' := 101) (v := nI 4) rfl rfl rfl ?_
            refine x_int (pc' := 103) (v := nI 10) rfl rfl rfl ?_
            refine x_iload (pc' := 104) rfl rfl rfl ?_
            refine y_imul (pc' := 105) rfl rfl ?_
            refine y_iadd (pc' := 106) rfl rfl ?_
            refine x_int (pc' := 107) (v := nI 0) rfl rfl rfl ?_
            refine y_iadd (pc' := 108) rfl rfl ?_
            have hpq := hW.pul hu
            refine x_iald (pc' := 109) rfl rfl (by decide) rfl (by decide) (show _ < 560 by omega) ?_
            refine x_top ((congrFun (o4.1 207 (by decide)) _).trans ((hN3.1 _ (by omega)).trans ((hR.2.1 _ hu).1.trans (hW.epu hu)))) ?_
            refine x_aload (pc' := 110) rfl rfl rfl ?_
            refine x_getR (pc' := 113) rfl rfl rfl (by decide) rfl (by decide) rfl rfl ?_
            refine x_iload (pc' := 114) rfl rfl rfl ?_
            refine x_int (pc' := 115) (v := nI 0) rfl rfl rfl ?_
            refine y_iadd (pc' := 116) rfl rfl ?_
            refine x_iald (pc' := 117) rfl rfl (by decide) rfl (by decide) (show _ < 560 by omega) ?_
            refine x_top ((congrFun (o4.1 207 (by decide)) _).trans hN3.2.1) ?_
            refine y_ic_lt (pc' := 120) rfl rfl (by omega) (by omega) (fun c117 => ?_) (fun c117 => ?_)
            · refine x_aload (pc' := 130) rfl rfl rfl ?_
              refine x_getR (pc' := 133) rfl rfl rfl (by decide) rfl (by decide) rfl rfl ?_
              refine x_iload (pc' := 134) rfl rfl rfl ?_
              refine x_int (pc' := 135) (v := nI 4) rfl rfl rfl ?_
              refine y_iadd (pc' := 136) rfl rfl ?_
              refine x_iload (pc' := 137) rfl rfl rfl ?_
              refine x_iast (pc' := 138) rfl rfl (by decide) rfl (by decide) (show _ < 560 by omega) ?_
              refine x_aload (pc' := 139) rfl rfl rfl ?_
              refine x_getR (pc' := 142) rfl rfl rfl (by decide) rfl (by decide) rfl rfl ?_
              refine x_int (pc' := 143) (v := nI 0) rfl rfl rfl ?_
              refine x_dup2 (pc' := 144) rfl rfl rfl rfl ?_
              refine x_iald (pc' := 145) rfl rfl (by decide) rfl (by decide) (show _ < 560 by omega) ?_
              refine x_top ((up2_o (by omega)).trans z4) ?_
              refine x_int (pc' := 146) (v := nI 1) rfl rfl rfl ?_
              refine y_iadd (pc' := 147) rfl rfl ?_
              refine x_iast (pc' := 148) rfl rfl (by decide) rfl (by decide) (show _ < 560 by omega) ?_
              refine x_vret rfl rfl ?_
              have hl := let_word hw8
              have e := wr_3 (S := S) c46 ch
              have eu := un_3 (S := (shS (awS S (nw S) (nV tp a)) (nw S) (pHab tp (nE tp a)).2.1 (pHab tp (nE tp a)).2.2.1 (pHab tp (nE tp a)).2.2.2.1)) hfx hw8 c90 (by rw [aw_puw hv, aw_pun (by omega)]; omega)
              rw [wr3_2 (S := S) (S2 := (shS (awS S (nw S) (nV tp a)) (nw S) (pHab tp (nE tp a)).2.1 (pHab tp (nE tp a)).2.2.1 (pHab tp (nE tp a)).2.2.2.1)) (w := nw S) hl (by rw [eu]), eu] at e
              rw [e] at k1
              dsimp only at k1
              have hN4 := hN3.o (N' := bh_up2 D4 207 (4 + 10 * nw S + 4) (nI (nV tp (skp isLt tp (skp isBk tp (pHab tp (nE tp a)).2.2.2.2)))) 207) (bh_up2_self _ _ _ _) (fun i hi => (up2_o hi).trans (congrFun (o4.1 207 (by decide)) i))
              have hq := rn_nw hW hw (awP2 awP1) (pHab_ok ch).1 hR hZ hN4 (bh_up2_self _ _ _ _) (fun i hi => up2_o (k := 207) hi)
              refine k1 rfl _ ?_ ?_ hq.1 hq.2
              · exact ((((((o1.h.tr OHd.up).tr o2).tr OHd.up).tr o3.h).tr o4.h).tr OHd.up).tr OHd.up
              · exact h4.h.h
            · refine x_aload (pc' := 121) rfl rfl rfl ?_
              refine x_int (pc' := 122) (v := nI 4) rfl rfl rfl ?_
              refine x_aload (pc' := 123) rfl rfl rfl ?_
              refine x_getI (j := 10) (pc' := 126) rfl rfl rfl (by decide) rfl (by decide) rfl rfl ?_
              refine x_top (e4) ?_
              refine x_callV (pc' := 129) (d1 := 2) (Bs := [_, _]) rfl rfl rfl rfl rfl rfl rfl (Nat.le_of_ble_eq_true rfl) ⟨rfl, rfl⟩ (by decide) rfl (by decide) ?_
              refine w_X10_fails h4 (show nS tp (skp isLt tp (skp isBk tp (pHab tp (nE tp a)).2.2.2.2)) ≤ 400 by have := nS_le (tp := tp) h3.al; have := h3.l4; omega) (by decide) (by decide) (fun D5 o5 h5 e5 => ?_)
              refine ⟨rfl, ?_⟩
              rw [if_pos rfl] at h5
              have z5 : D5 207 0 = nI (nw S) := (congrFun (o5.1 207 (by decide)) 0).trans z4
              refine x_aload (pc' := 130) rfl rfl rfl ?_
              refine x_getR (pc' := 133) rfl rfl rfl (by decide) rfl (by decide) rfl rfl ?_
              refine x_iload (pc' := 134) rfl rfl rfl ?_
              refine x_int (pc' := 135) (v := nI 4) rfl rfl rfl ?_
              refine y_iadd (pc' := 136) rfl rfl ?_
              refine x_iload (pc' := 137) rfl rfl rfl ?_
              refine x_iast (pc' := 138) rfl rfl (by decide) rfl (by decide) (show _ < 560 by omega) ?_
              refine x_aload (pc' := 139) rfl rfl rfl ?_
              refine x_getR (pc' := 142) rfl rfl rfl (by decide) rfl (by decide) rfl rfl ?_
              refine x_int (pc' := 143) (v := nI 0) rfl rfl rfl ?_
              refine x_dup2 (pc' := 144) rfl rfl rfl rfl ?_
              refine x_iald (pc' := 145) rfl rfl (by decide) rfl (by decide) (show _ < 560 by omega) ?_
              refine x_top ((up2_o (by omega)).trans z5) ?_
              refine x_int (pc' := 146) (v := nI 1) rfl rfl rfl ?_
              refine y_iadd (pc' := 147) rfl rfl ?_
              refine x_iast (pc' := 148) rfl rfl (by decide) rfl (by decide) (show _ < 560 by omega) ?_
              refine x_vret rfl rfl ?_
              have hl := let_word hw8
              have e := wr_3 (S := S) c46 ch
              have eu := un_2 (S := (shS (awS S (nw S) (nV tp a)) (nw S) (pHab tp (nE tp a)).2.1 (pHab tp (nE tp a)).2.2.1 (pHab tp (nE tp a)).2.2.2.1)) hfx hw8 c90 (by rw [aw_puw hv, aw_pun (by omega)]; omega)
              rw [wr3_1 (S := S) (S2 := (shS (awS S (nw S) (nV tp a)) (nw S) (pHab tp (nE tp a)).2.1 (pHab tp (nE tp a)).2.2.1 (pHab tp (nE tp a)).2.2.2.1)) (w := nw S) hl (by rw [eu]; exact Nat.succ_ne_zero _), eu] at e
              rw [e] at k0
              dsimp only at k0
              refine k0 (Nat.succ_ne_zero _) _ ?_ ⟨_, h5.h.h⟩
              · exact (((((((o1.h.tr OHd.up).tr o2).tr OHd.up).tr o3.h).tr o4.h).tr o5.h).tr OHd.up).tr OHd.up
          · refine ⟨rfl, ?_⟩
            refine x_if_eq (pc' := 96) rfl rfl (fun _ => ?_) (fun c93 => absurd (by decide) c93)
            refine x_aload (pc' := 130) rfl rfl rfl ?_
            refine x_getR (pc' := 133) rfl rfl rfl (by decide) rfl (by decide) rfl rfl ?_
            refine x_iload (pc' := 134) rfl rfl rfl ?_
            refine x_int (pc' := 135) (v := nI 4) rfl rfl rfl ?_
            refine y_iadd (pc' := 136) rfl rfl ?_
            refine x_iload (pc' := 137) rfl rfl rfl ?_
            refine x_iast (pc' := 138) rfl rfl (by decide) rfl (by decide) (show _ < 560 by omega) ?_
            refine x_aload (pc' := 139) rfl rfl rfl ?_
            refine x_getR (pc' := 142) rfl rfl rfl (by decide) rfl (by decide) rfl rfl ?_
            refine x_int (pc' := 143) (v := nI 0) rfl rfl rfl ?_
            refine x_dup2 (pc' := 144) rfl rfl rfl rfl ?_
            refine x_iald (pc' := 145) rfl rfl (by decide) rfl (by decide) (show _ < 560 by omega) ?_
            refine x_top ((up2_o (by omega)).trans z4) ?_
            refine x_int (pc' := 146) (v := nI 1) rfl rfl rfl ?_
            refine y_iadd (pc' := 147) rfl rfl ?_
            refine x_iast (pc' := 148) rfl rfl (by decide) rfl (by decide) (show _ < 560 by omega) ?_
            refine x_vret rfl rfl ?_
            have hl := let_word hw8
            have e := wr_3 (S := S) c46 ch
            have eu := un_1 (S := (shS (awS S (nw S) (nV tp a)) (nw S) (pHab tp (nE tp a)).2.1 (pHab tp (nE tp a)).2.2.1 (pHab tp (nE tp a)).2.2.2.1)) hfx hw8 c90
            rw [wr3_1 (S := S) (S2 := (shS (awS S (nw S) (nV tp a)) (nw S) (pHab tp (nE tp a)).2.1 (pHab tp (nE tp a)).2.2.1 (pHab tp (nE tp a)).2.2.2.1)) (w := nw S) hl (by rw [eu]; dsimp only; exact c90), eu] at e
            rw [e] at k0
            dsimp only at k0
            refine k0 c90 _ ?_ ⟨_, h4.h.h⟩
            · exact ((((((o1.h.tr OHd.up).tr o2).tr OHd.up).tr o3.h).tr o4.h).tr OHd.up).tr OHd.up
        · have z3 : D3 207 0 = nI (nw S) := (congrFun (o3.1 207 (by decide)) 0).trans ((up2_o (by omega)).trans z2)
          have hN3 : NwR (D 207) (D3 207) (4 + 10 * nw S) (nV tp a) (pHab tp (nE tp a)).2.1 (pHab tp (nE tp a)).2.2.1 (pHab tp (nE tp a)).2.2.2.1 (-1) := nw_hb (bh_up2_self _ _ _ _) (fun i hi => (up2_o hi).trans (congrFun (o1.1 207 (by decide)) i)) hb2 ((congrFun (o3.1 207 (by decide)) _).trans (bh_up2_self _ _ _ _)) (fun i hi => (congrFun (o3.1 207 (by decide)) _).trans (up2_o hi))
          have hfx : skp isBk tp (skp isBk tp (pHab tp (nE tp a)).2.2.2.2) = (skp isBk tp (pHab tp (nE tp a)).2.2.2.2) := skp_fix h2.al
          have hw8 : wdB tp (skp isBk tp (pHab tp (nE tp a)).2.2.2.2) (skp isLt tp (skp isBk tp (pHab tp (nE tp a)).2.2.2.2)) 8 = false := by rw [← wM18]; exact Bool.eq_false_iff.mpr (fun z => hw8 ⟨rfl, z⟩)
          refine ⟨rfl, ?_⟩
          refine x_if_eq (pc' := 75) rfl rfl (fun _ => ?_) (fun c72 => absurd (by decide) c72)
          refine x_aload (pc' := 139) rfl rfl rfl ?_
          refine x_getR (pc' := 142) rfl rfl rfl (by decide) rfl (by decide) rfl rfl ?_
          refine x_int (pc' := 143) (v := nI 0) rfl rfl rfl ?_
          refine x_dup2 (pc' := 144) rfl rfl rfl rfl ?_
          refine x_iald (pc' := 145) rfl rfl (by decide) rfl (by decide) (show _ < 560 by omega) ?_
          refine x_top (z3) ?_
          refine x_int (pc' := 146) (v := nI 1) rfl rfl rfl ?_
          refine y_iadd (pc' := 147) rfl rfl ?_
          refine x_iast (pc' := 148) rfl rfl (by decide) rfl (by decide) (show _ < 560 by omega) ?_
          refine x_vret rfl rfl ?_
          by_cases hl : letB tp (skp isBk tp (pHab tp (nE tp a)).2.2.2.2) = true
          · refine k2 (skp isBk tp (pHab tp (nE tp a)).2.2.2.2) (by rw [wr_3 c46 ch, wr3_1 (S := S) (S2 := (shS (awS S (nw S) (nV tp a)) (nw S) (pHab tp (nE tp a)).2.1 (pHab tp (nE tp a)).2.2.1 (pHab tp (nE tp a)).2.2.2.1)) (w := nw S) hl (by rw [un_0 hfx hw8]; exact Nat.succ_ne_zero _), un_0 hfx hw8]) hl _ (((((o1.h.tr OHd.up).tr o2).tr OHd.up).tr o3.h).tr OHd.up) h3.h
          · have e := wr_3 (S := S) c46 ch
            rw [wr3_0 hl] at e
            rw [e] at k1
            dsimp only at k1
            have hq := rn_nw hW hw awP1 (pHab_ok ch).1 hR hZ hN3 (bh_up2_self _ _ _ _) (fun i hi => up2_o (D := D3) (k := 207) hi)
            refine k1 rfl _ ?_ ?_ hq.1 hq.2
            · exact ((((o1.h.tr OHd.up).tr o2).tr OHd.up).tr o3.h).tr OHd.up
            · exact h3.h
      · obtain ⟨e2, h2⟩ := h2
        have z2 : D2 207 0 = nI (nw S) := (z2 0 (by omega)).trans ((up2_o (by omega)).trans z1)
        refine ⟨rfl, ?_⟩
        refine x_aload (pc' := 58) rfl rfl rfl ?_
        refine x_getR (pc' := 61) rfl rfl rfl (by decide) rfl (by decide) rfl rfl ?_
        refine x_iload (pc' := 62) rfl rfl rfl ?_
        refine x_int (pc' := 63) (v := nI 4) rfl rfl rfl ?_
        refine y_iadd (pc' := 64) rfl rfl ?_
        refine x_int (pc' := 65) (v := (-1)) rfl rfl rfl ?_
        refine x_iast (pc' := 66) rfl rfl (by decide) rfl (by decide) (show _ < 560 by omega) ?_
        refine x_aload (pc' := 67) rfl rfl rfl ?_
        refine x_ldcS (pc' := 69) rfl rfl ?_
        refine x_callV (pc' := 72) (d1 := 3) (Bs := [_]) rfl rfl rfl rfl rfl rfl rfl (Nat.le_of_ble_eq_true rfl) ⟨rfl, rfl⟩ (by decide) rfl (by decide) ?_
        refine w_X10_takes h2.h (by decide) (fun hf => absurd hf ch) (fun _ D3 o3 h3 e3 => ?_)
        refine ⟨rfl, ?_⟩
        have z3 : D3 207 0 = nI (nw S) := (congrFun (o3.1 207 (by decide)) 0).trans ((up2_o (by omega)).trans z2)
        refine x_if_eq (pc' := 75) rfl rfl (fun _ => ?_) (fun c72 => absurd (by decide) c72)
        refine x_aload (pc' := 139) rfl rfl rfl ?_
        refine x_getR (pc' := 142) rfl rfl rfl (by decide) rfl (by decide) rfl rfl ?_
        refine x_int (pc' := 143) (v := nI 0) rfl rfl rfl ?_
        refine x_dup2 (pc' := 144) rfl rfl rfl rfl ?_
        refine x_iald (pc' := 145) rfl rfl (by decide) rfl (by decide) (show _ < 560 by omega) ?_
        refine x_top (z3) ?_
        refine x_int (pc' := 146) (v := nI 1) rfl rfl rfl ?_
        refine y_iadd (pc' := 147) rfl rfl ?_
        refine x_iast (pc' := 148) rfl rfl (by decide) rfl (by decide) (show _ < 560 by omega) ?_
        refine x_vret rfl rfl ?_
        rw [wr_2 c46 ch] at k0
        refine k0 ch _ ?_ ⟨_, h3.h⟩
        · exact ((((o1.h.tr OHd.up).tr o2).tr OHd.up).tr o3.h).tr OHd.up
    · refine ⟨rfl, ?_⟩
      refine x_if_eq (pc' := 52) rfl rfl (fun _ => ?_) (fun c49 => absurd (by decide) c49)
      refine x_aload (pc' := 58) rfl rfl rfl ?_
      refine x_getR (pc' := 61) rfl rfl rfl (by decide) rfl (by decide) rfl rfl ?_
      refine x_iload (pc' := 62) rfl rfl rfl ?_
      refine x_int (pc' := 63) (v := nI 4) rfl rfl rfl ?_
      refine y_iadd (pc' := 64) rfl rfl ?_
      refine x_int (pc' := 65) (v := (-1)) rfl rfl rfl ?_
      refine x_iast (pc' := 66) rfl rfl (by decide) rfl (by decide) (show _ < 560 by omega) ?_
      refine x_aload (pc' := 67) rfl rfl rfl ?_
      refine x_ldcS (pc' := 69) rfl rfl ?_
      refine x_callV (pc' := 72) (d1 := 3) (Bs := [_]) rfl rfl rfl rfl rfl rfl rfl (Nat.le_of_ble_eq_true rfl) ⟨rfl, rfl⟩ (by decide) rfl (by decide) ?_
      refine w_X10_takes h1.h.h (by decide) (fun hf => absurd hf c46) (fun _ D3 o3 h3 e3 => ?_)
      refine ⟨rfl, ?_⟩
      have z3 : D3 207 0 = nI (nw S) := (congrFun (o3.1 207 (by decide)) 0).trans ((up2_o (by omega)).trans ((up2_o (by omega)).trans z1))
      refine x_if_eq (pc' := 75) rfl rfl (fun _ => ?_) (fun c72 => absurd (by decide) c72)
      refine x_aload (pc' := 139) rfl rfl rfl ?_
      refine x_getR (pc' := 142) rfl rfl rfl (by decide) rfl (by decide) rfl rfl ?_
      refine x_int (pc' := 143) (v := nI 0) rfl rfl rfl ?_
      refine x_dup2 (pc' := 144) rfl rfl rfl rfl ?_
      refine x_iald (pc' := 145) rfl rfl (by decide) rfl (by decide) (show _ < 560 by omega) ?_
      refine x_top (z3) ?_
      refine x_int (pc' := 146) (v := nI 1) rfl rfl rfl ?_
      refine y_iadd (pc' := 147) rfl rfl ?_
      refine x_iast (pc' := 148) rfl rfl (by decide) rfl (by decide) (show _ < 560 by omega) ?_
      refine x_vret rfl rfl ?_
      rw [wr_1 c46] at k0
      refine k0 c46 _ ?_ ⟨_, h3.h⟩
      · exact (((o1.h.tr OHd.up).tr OHd.up).tr o3.h).tr OHd.up
  · exact absurd c8 (by omega)
