/-! ===== the reference: a book ===== -/
def BkH (N0 N : Nat → Int32) (X : TW) (b m : Nat) : Prop := N (508 + 9 * b) = nI m ∧ (∀ j, j < m → N (508 + 9 * b + 1 + j) = X 10 (b * 8 + j)) ∧ ∀ i, (i < 508 + 9 * b ∨ 508 + 9 * b + 9 ≤ i) → N i = N0 i
theorem BkH.s {N0 N : Nat → Int32} {X : TW} {b m v : Nat} (h : BkH N0 N X b m) (hm : m < 8) {N' : Nat → Int32} (e0 : N' (508 + 9 * b) = nI (m + 1)) (e1 : N' (508 + 9 * b + (m + 1)) = nI v) (e : ∀ i, i ≠ 508 + 9 * b → i ≠ 508 + 9 * b + (m + 1) → N' i = N i) : BkH N0 N' (apS X b m v) b (m + 1) := by
  obtain ⟨h1, h2, h3⟩ := h
  have e10 : ∀ i, apS X b m v 10 i = if i = b * 8 + m then nI v else X 10 i := fun i => by
    unfold apS
    rw [bh_up2_ne _ _ _ (by decide), up2_at]
    by_cases q : i = b * 8 + m
    · rw [if_pos ⟨rfl, q⟩, if_pos q]
    · rw [if_neg (fun z => q z.2), if_neg q]
  refine ⟨e0, fun j hj => ?_, fun i hi => (e i (by omega) (by omega)).trans (h3 i hi)⟩
  rw [e10]
  by_cases q : j = m
  · rw [if_pos (by omega), q, show 508 + 9 * b + 1 + m = 508 + 9 * b + (m + 1) by omega]; exact e1
  · rw [if_neg (by omega), e _ (by omega) (by omega)]; exact h2 j (by omega)
theorem digB_i {tp : List Nat} {s : Nat} (h : digB tp s = true) : s < tp.length ∧ 48 ≤ tp.getD s 0 ∧ tp.getD s 0 ≤ 57 := by
  unfold digB isDg at h
  rw [Bool.and_eq_true] at h
  exact ⟨of_decide_eq_true h.1, of_decide_eq_true h.2⟩
set_option maxRecDepth 20000 in
set_option maxHeartbeats 1000000 in
theorem l_X10_readsBook {L : Nat → Nat → Int64} {Q : bh_Q} {d : Nat} (hd : 3 ≤ d) {tp : List Nat} {S : TW} {b : Nat} (hb : b < 4) {R : Nat × TW × Nat} {D0 : Nat → Nat → Int32} {N0 : Nat → Int32} (hN1 : N0 1 = nI b) {x1 : Int32} (k1 : ∀ X e m, (0, X, e) = R → 0 < m → m ≤ 8 → BkP S X b m → ∀ D' N, OHd D0 D' → MS D' tp e 0 → BkH N0 N X b m → D' 207 1 = nI (b + 1) → (∀ i, i ≠ 1 → D' 207 i = N i) → Q none (hp D' L)) (k0 : ∀ f, ¬ f = 0 → (f, S, 0) = R → ∀ D', OHd D0 D' → (∃ e, MS D' tp e f) → Q none (hp D' L)) : ∀ (f m : Nat) (X : TW) (a : Nat) (D : Nat → Nat → Int32) (a4 : Value), m + f = 9 → MS D tp a 0 → BkP S X b m → BkH N0 (D 207) X b m → OHd D0 D → bkF tp S b f m X a = R → m ≤ 8 → bw m_X10_readsBook d Q 33 [.ref 205, .int x1, .int (nI (508 + 9 * b)), .int (nI 1), a4] [] D L := by
  intro f
  induction f with
  | zero => intro m X a D a4 hf h hP hB o hr h8; omega
  | succ f ih =>
    intro m X a D a4 hf h hP hB o hr h8
    have hl4 := h.l4
    refine x_iload (pc' := 34) rfl rfl rfl ?_
    refine x_if_eq (pc' := 37) rfl rfl (fun c34 => absurd c34 (by decide)) (fun _ => ?_)
    refine x_aload (pc' := 38) rfl rfl rfl ?_
    refine x_int (pc' := 39) (v := nI 0) rfl rfl rfl ?_
    refine x_int (pc' := 41) (v := nI 65535) rfl rfl rfl ?_
    refine x_callV (pc' := 44) (d1 := 3) (Bs := [_, _]) rfl rfl rfl rfl rfl rfl rfl (Nat.le_of_ble_eq_true rfl) ⟨rfl, rfl⟩ (by decide) rfl (by omega) ?_
    refine w_X10_number (lo := 0) (hi := 65536) h (by decide) (by decide) (by decide) (fun D1 x1 o1 h1 e1 v1 b1 => ?_)
    refine ⟨rfl, ?_⟩
    have hns := nS_le (tp := tp) h.al
    have e207 := o1.1 207 (by decide)
    refine x_istore (pc' := 46) (lv' := [_, _, _, _, _]) rfl rfl (by decide) rfl ?_
    refine x_aload (pc' := 47) rfl rfl rfl ?_
    refine x_callV (pc' := 50) (d1 := 1) (Bs := []) rfl rfl rfl rfl rfl rfl rfl (Nat.le_of_ble_eq_true rfl) ⟨rfl, rfl⟩ (by decide) rfl (by omega) ?_
    refine w_X10_isRight h1 (fun c47 => ?_) (fun c47 => ?_)
    · have hx1 := v1 c47
      subst hx1
      rw [c47] at h1
      refine ⟨rfl, ?_⟩
      refine x_if_eq (pc' := 53) rfl rfl (fun c50 => absurd c50 (by decide)) (fun _ => ?_)
      refine x_aload (pc' := 54) rfl rfl rfl ?_
      refine x_getR (pc' := 57) rfl rfl rfl (by decide) rfl (by decide) rfl rfl ?_
      refine x_iload (pc' := 58) rfl rfl rfl ?_
      refine x_iald (pc' := 59) rfl rfl (by decide) rfl (by decide) (show _ < 560 by omega) ?_
      refine x_top ((congrFun e207 _).trans hB.1) ?_
      refine x_int (pc' := 61) (v := nI 8) rfl rfl rfl ?_
      refine y_ic_ne (pc' := 64) rfl rfl (by omega) (by omega) (fun c61 => ?_) (fun c61 => ?_)
      · refine x_aload (pc' := 74) rfl rfl rfl ?_
        refine x_callV (pc' := 77) (d1 := 1) (Bs := []) rfl rfl rfl rfl rfl rfl rfl (Nat.le_of_ble_eq_true rfl) ⟨rfl, rfl⟩ (by decide) rfl (by omega) ?_
        refine w_X10_isRight h1 (fun _ => ?_) (fun hf => absurd rfl hf)
        refine ⟨rfl, ?_⟩
        refine x_if_eq (pc' := 80) rfl rfl (fun c77 => absurd c77 (by decide)) (fun _ => ?_)
        refine x_aload (pc' := 81) rfl rfl rfl ?_
        refine x_getR (pc' := 84) rfl rfl rfl (by decide) rfl (by decide) rfl rfl ?_
        refine x_iload (pc' := 85) rfl rfl rfl ?_
        refine x_dup2 (pc' := 86) rfl rfl rfl rfl ?_
        refine x_iald (pc' := 87) rfl rfl (by decide) rfl (by decide) (show _ < 560 by omega) ?_
        refine x_top ((congrFun e207 _).trans hB.1) ?_
        refine x_int (pc' := 88) (v := nI 1) rfl rfl rfl ?_
        refine y_iadd (pc' := 89) rfl rfl ?_
        refine x_iast (pc' := 90) rfl rfl (by decide) rfl (by decide) (show _ < 560 by omega) ?_
        refine x_aload (pc' := 91) rfl rfl rfl ?_
        refine x_getR (pc' := 94) rfl rfl rfl (by decide) rfl (by decide) rfl rfl ?_
        refine x_iload (pc' := 95) rfl rfl rfl ?_
        refine x_aload (pc' := 96) rfl rfl rfl ?_
        refine x_getR (pc' := 99) rfl rfl rfl (by decide) rfl (by decide) rfl rfl ?_
        refine x_iload (pc' := 100) rfl rfl rfl ?_
        refine x_iald (pc' := 101) rfl rfl (by decide) rfl (by decide) (show _ < 560 by omega) ?_
        refine x_top (bh_up2_self _ _ _ _) ?_
        refine y_iadd (pc' := 102) rfl rfl ?_
        refine x_iload (pc' := 104) rfl rfl rfl ?_
        refine x_iast (pc' := 105) rfl rfl (by decide) rfl (by decide) (show _ < 560 by omega) ?_
        refine x_aload (pc' := 106) rfl rfl rfl ?_
        refine x_callV (pc' := 109) (d1 := 1) (Bs := []) rfl rfl rfl rfl rfl rfl rfl (Nat.le_of_ble_eq_true rfl) ⟨rfl, rfl⟩ (by decide) rfl (by omega) ?_
        refine w_X10_isRight h1.h.h (fun _ => ?_) (fun hf => absurd rfl hf)
        refine ⟨rfl, ?_⟩
        refine x_if_eq (pc' := 112) rfl rfl (fun c109 => absurd c109 (by decide)) (fun _ => ?_)
        refine x_aload (pc' := 113) rfl rfl rfl ?_
        refine x_callV (pc' := 116) (d1 := 2) (Bs := []) rfl rfl rfl rfl rfl rfl rfl (Nat.le_of_ble_eq_true rfl) ⟨rfl, rfl⟩ (by decide) rfl (by omega) ?_
        refine w_X10_next h1.h.h (fun D4 o4 h4 e4 => ?_)
        refine ⟨rfl, ?_⟩
        have e4h := o4.1 207 (by decide)
        have hB4 : BkH N0 (D4 207) (apS X b m (nV tp a)) b (m + 1) := (hB.s (v := nV tp a) (by omega) (by rw [e4h, up2_o (by omega)]; exact bh_up2_self _ _ _ _) (by rw [e4h]; exact bh_up2_self _ _ _ _) (fun i g1 g2 => by rw [e4h, up2_o g2, up2_o g1, e207]))
        refine x_i2l (pc' := 117) rfl rfl ?_
        refine x_long (pc' := 120) (v := (nI 48).toInt64) rfl rfl (by decide) ?_
        refine x_long (pc' := 123) (v := (nI 57).toInt64) rfl rfl (by decide) ?_
        refine x_callS (pc' := 126) (d1 := 1) (As := [_, _, _]) rfl rfl rfl rfl (by decide) rfl rfl (Nat.le_of_ble_eq_true rfl) ⟨rfl, rfl⟩ (by omega) ?_
        refine w_X10_in (fun g1 g2 => ?_) (fun g => ?_)
        · refine ⟨rfl, ?_⟩
          refine x_if_eq (pc' := 129) rfl rfl (fun c126 => absurd c126 (by decide)) (fun _ => ?_)
          refine x_int (pc' := 130) (v := nI 1) rfl rfl rfl ?_
          refine x_goto rfl ?_
          refine x_istore (pc' := 135) (lv' := [_, _, _, _, _]) rfl rfl (by decide) rfl ?_
          refine x_goto rfl ?_
          have hdg := (dig_sg (fun q => h4.b2 q)).mp ⟨g1, g2⟩
          have e : bkF tp S b (f + 1) m X a = bkF tp S b f (m + 1) (apS X b m (nV tp a)) (skp isBk tp (nE tp a)) := by rw [bkF_s, if_neg (fun z => z c47), if_neg c61, if_pos (digB_1 hdg.1 hdg.2)]
          rw [e] at hr
          exact ih (m + 1) _ _ D4 _ (by omega) h4 (bkPs hP (nF_in c47).2.1) hB4 (o.tr (((o1.h.tr OHd.up).tr OHd.up).tr o4.h)) hr (by omega)
        · refine ⟨rfl, ?_⟩
          refine x_if_eq (pc' := 129) rfl rfl (fun _ => ?_) (fun c126 => absurd (by decide) c126)
          refine x_int (pc' := 134) (v := nI 0) rfl rfl rfl ?_
          refine x_istore (pc' := 135) (lv' := [_, _, _, _, _]) rfl rfl (by decide) rfl ?_
          refine x_goto rfl ?_
          refine x_iload (pc' := 34) rfl rfl rfl ?_
          refine x_if_eq (pc' := 37) rfl rfl (fun _ => ?_) (fun c34 => absurd (by decide) c34)
          refine x_aload (pc' := 139) rfl rfl rfl ?_
          refine x_getR (pc' := 142) rfl rfl rfl (by decide) rfl (by decide) rfl rfl ?_
          refine x_int (pc' := 143) (v := nI 1) rfl rfl rfl ?_
          refine x_dup2 (pc' := 144) rfl rfl rfl rfl ?_
          refine x_iald (pc' := 145) rfl rfl (by decide) rfl (by decide) (show _ < 560 by omega) ?_
          refine x_top ((hB4.2.2 1 (by omega)).trans hN1) ?_
          refine x_int (pc' := 146) (v := nI 1) rfl rfl rfl ?_
          refine y_iadd (pc' := 147) rfl rfl ?_
          refine x_iast (pc' := 148) rfl rfl (by decide) rfl (by decide) (show _ < 560 by omega) ?_
          refine x_vret rfl rfl ?_
          have hdg : ¬ digB tp (skp isBk tp (nE tp a)) = true := fun z => g ((dig_sg (fun q => h4.b2 q)).mpr (digB_i z))
          have e : bkF tp S b (f + 1) m X a = (0, apS X b m (nV tp a), skp isBk tp (nE tp a)) := by rw [bkF_s, if_neg (fun z => z c47), if_neg c61, if_neg hdg]
          rw [e] at hr
          exact k1 _ _ (m + 1) hr (by omega) (by omega) (bkPs hP (nF_in c47).2.1) _ _ ((o.tr (((o1.h.tr OHd.up).tr OHd.up).tr o4.h)).tr OHd.up) h4.h hB4 (bh_up2_self _ _ _ _) (fun i hi => up2_o hi)
      · refine x_aload (pc' := 65) rfl rfl rfl ?_
        refine x_int (pc' := 66) (v := nI 3) rfl rfl rfl ?_
        refine x_aload (pc' := 67) rfl rfl rfl ?_
        refine x_getI (j := 10) (pc' := 70) rfl rfl rfl (by decide) rfl (by decide) rfl rfl ?_
        refine x_top (e1) ?_
        refine x_callV (pc' := 73) (d1 := 2) (Bs := [_, _]) rfl rfl rfl rfl rfl rfl rfl (Nat.le_of_ble_eq_true rfl) ⟨rfl, rfl⟩ (by decide) rfl (by omega) ?_
        refine w_X10_fails h1 (show nS tp a ≤ 400 by omega) (by decide) (by decide) (fun D9 o9 h9 e9 => ?_)
        rw [if_pos rfl] at h9
        refine ⟨rfl, ?_⟩
        refine x_aload (pc' := 74) rfl rfl rfl ?_
        refine x_callV (pc' := 77) (d1 := 1) (Bs := []) rfl rfl rfl rfl rfl rfl rfl (Nat.le_of_ble_eq_true rfl) ⟨rfl, rfl⟩ (by decide) rfl (by omega) ?_
        refine w_X10_isRight h9 (fun hf => absurd hf (by omega)) (fun _ => ?_)
        refine ⟨rfl, ?_⟩
        refine x_if_eq (pc' := 80) rfl rfl (fun _ => ?_) (fun c77 => absurd (by decide) c77)
        refine x_aload (pc' := 106) rfl rfl rfl ?_
        refine x_callV (pc' := 109) (d1 := 1) (Bs := []) rfl rfl rfl rfl rfl rfl rfl (Nat.le_of_ble_eq_true rfl) ⟨rfl, rfl⟩ (by decide) rfl (by omega) ?_
        refine w_X10_isRight h9 (fun hf => absurd hf (by omega)) (fun _ => ?_)
        refine ⟨rfl, ?_⟩
        refine x_if_eq (pc' := 112) rfl rfl (fun _ => ?_) (fun c109 => absurd (by decide) c109)
        refine x_int (pc' := 134) (v := nI 0) rfl rfl rfl ?_
        refine x_istore (pc' := 135) (lv' := [_, _, _, _, _]) rfl rfl (by decide) rfl ?_
        refine x_goto rfl ?_
        refine x_iload (pc' := 34) rfl rfl rfl ?_
        refine x_if_eq (pc' := 37) rfl rfl (fun _ => ?_) (fun c34 => absurd (by decide) c34)
        refine x_aload (pc' := 139) rfl rfl rfl ?_
        refine x_getR (pc' := 142) rfl rfl rfl (by decide) rfl (by decide) rfl rfl ?_
        refine x_int (pc' := 143) (v := nI 1) rfl rfl rfl ?_
        refine x_dup2 (pc' := 144) rfl rfl rfl rfl ?_
        refine x_iald (pc' := 145) rfl rfl (by decide) rfl (by decide) (show _ < 560 by omega) ?_
        refine x_top ((congrFun (o9.1 207 (by decide)) 1).trans ((congrFun e207 1).trans ((hB.2.2 1 (by omega)).trans hN1))) ?_
        refine x_int (pc' := 146) (v := nI 1) rfl rfl rfl ?_
        refine y_iadd (pc' := 147) rfl rfl ?_
        refine x_iast (pc' := 148) rfl rfl (by decide) rfl (by decide) (show _ < 560 by omega) ?_
        refine x_vret rfl rfl ?_
        have e : bkF tp S b (f + 1) m X a = (8 * nS tp a + 3, S, 0) := by rw [bkF_s, if_neg (fun z => z c47), if_pos c61]
        rw [e] at hr
        exact k0 _ (by omega) hr _ ((o.tr (o1.tr o9).h).tr OHd.up) ⟨_, h9.h⟩
    · refine ⟨rfl, ?_⟩
      refine x_if_eq (pc' := 53) rfl rfl (fun _ => ?_) (fun c50 => absurd (by decide) c50)
      refine x_aload (pc' := 74) rfl rfl rfl ?_
      refine x_callV (pc' := 77) (d1 := 1) (Bs := []) rfl rfl rfl rfl rfl rfl rfl (Nat.le_of_ble_eq_true rfl) ⟨rfl, rfl⟩ (by decide) rfl (by omega) ?_
      refine w_X10_isRight h1 (fun hf => absurd hf c47) (fun _ => ?_)
      refine ⟨rfl, ?_⟩
      refine x_if_eq (pc' := 80) rfl rfl (fun _ => ?_) (fun c77 => absurd (by decide) c77)
      refine x_aload (pc' := 106) rfl rfl rfl ?_
      refine x_callV (pc' := 109) (d1 := 1) (Bs := []) rfl rfl rfl rfl rfl rfl rfl (Nat.le_of_ble_eq_true rfl) ⟨rfl, rfl⟩ (by decide) rfl (by omega) ?_
      refine w_X10_isRight h1 (fun hf => absurd hf c47) (fun _ => ?_)
      refine ⟨rfl, ?_⟩
      refine x_if_eq (pc' := 112) rfl rfl (fun _ => ?_) (fun c109 => absurd (by decide) c109)
      refine x_int (pc' := 134) (v := nI 0) rfl rfl rfl ?_
      refine x_istore (pc' := 135) (lv' := [_, _, _, _, _]) rfl rfl (by decide) rfl ?_
      refine x_goto rfl ?_
      refine x_iload (pc' := 34) rfl rfl rfl ?_
      refine x_if_eq (pc' := 37) rfl rfl (fun _ => ?_) (fun c34 => absurd (by decide) c34)
      refine x_aload (pc' := 139) rfl rfl rfl ?_
      refine x_getR (pc' := 142) rfl rfl rfl (by decide) rfl (by decide) rfl rfl ?_
      refine x_int (pc' := 143) (v := nI 1) rfl rfl rfl ?_
      refine x_dup2 (pc' := 144) rfl rfl rfl rfl ?_
      refine x_iald (pc' := 145) rfl rfl (by decide) rfl (by decide) (show _ < 560 by omega) ?_
      refine x_top ((congrFun e207 1).trans ((hB.2.2 1 (by omega)).trans hN1)) ?_
      refine x_int (pc' := 146) (v := nI 1) rfl rfl rfl ?_
      refine y_iadd (pc' := 147) rfl rfl ?_
      refine x_iast (pc' := 148) rfl rfl (by decide) rfl (by decide) (show _ < 560 by omega) ?_
      refine x_vret rfl rfl ?_
      have e : bkF tp S b (f + 1) m X a = (nF tp 0 65536 a, S, 0) := by rw [bkF_s, if_pos c47]
      rw [e] at hr
      exact k0 _ c47 hr _ ((o.tr o1.h).tr OHd.up) ⟨_, h1.h⟩
set_option maxRecDepth 20000 in
set_option maxHeartbeats 1000000 in
theorem w_X10_readsBook {D : Nat → Nat → Int32} {L : Nat → Nat → Int64} {Q : bh_Q} {tp : List Nat} {S : TW} {a s : Nat} (h : MS D tp a 0) (hW : WF S) (hR : Rn S (D 207)) (hZ : HdZ S (D 207)) (hb : nb S < 4) (k1 : (pBk tp S a).1 = 0 → ∀ D', OHd D D' → MS D' tp (pBk tp S a).2.2 0 → Rn (pBk tp S a).2.1 (D' 207) → HdZ (pBk tp S a).2.1 (D' 207) → Q none (hp D' L)) (k0 : ¬ (pBk tp S a).1 = 0 → ∀ D', OHd D D' → (∃ e, MS D' tp e (pBk tp S a).1) → Q none (hp D' L)) : bh_wc 4 m_X10_readsBook [.ref 205, .int (nI s)] (hp D L) Q := by
  refine x_start (lv0 := [_, _, _, _, _]) (Nat.le_of_ble_eq_true rfl) rfl ?_
  refine x_aload (pc' := 1) rfl rfl rfl ?_
  refine x_getR (pc' := 4) rfl rfl rfl (by decide) rfl (by decide) rfl rfl ?_
  refine x_int (pc' := 5) (v := nI 1) rfl rfl rfl ?_
  refine x_iald (pc' := 6) rfl rfl (by decide) rfl (by decide) (show _ < 560 by omega) ?_
  refine x_top (hR.1.2.1.trans hW.enb) ?_
  refine x_int (pc' := 7) (v := nI 4) rfl rfl rfl ?_
  refine y_ic_ne (pc' := 10) rfl rfl (by omega) (by omega) (fun c7 => ?_) (fun c7 => ?_)
  · refine x_int (pc' := 20) (v := nI 508) rfl rfl rfl ?_
    refine x_int (pc' := 22) (v := nI 9) rfl rfl rfl ?_
    refine x_aload (pc' := 23) rfl rfl rfl ?_
    refine x_getR (pc' := 26) rfl rfl rfl (by decide) rfl (by decide) rfl rfl ?_
    refine x_int (pc' := 27) (v := nI 1) rfl rfl rfl ?_
    refine x_iald (pc' := 28) rfl rfl (by decide) rfl (by decide) (show _ < 560 by omega) ?_
    refine x_top (hR.1.2.1.trans hW.enb) ?_
    refine y_imul (pc' := 29) rfl rfl ?_
    refine y_iadd (pc' := 30) rfl rfl ?_
    refine x_istore (pc' := 31) (lv' := [_, _, _, _, _]) rfl rfl (by decide) rfl ?_
    refine x_int (pc' := 32) (v := nI 1) rfl rfl rfl ?_
    refine x_istore (pc' := 33) (lv' := [_, _, _, _, _]) rfl rfl (by decide) rfl ?_
    refine l_X10_readsBook (d := 3) (Nat.le_refl _) hb (R := pBk tp S a) (D0 := D) (N0 := D 207) (hR.1.2.1.trans hW.enb) (fun X e m er hm0 hm8 hP D5 N o5 h5 hB e1 ei => ?_) (fun f hf er D5 o5 h5 => ?_) 9 0 (abS S (nb S)) a D _ rfl h bkP0 ⟨hZ.2 (nb S) (Nat.le_refl _) hb, fun j hj => absurd hj (Nat.not_lt_zero j), fun i _ => rfl⟩ OHd.rf rfl (by decide)
    · rw [← er] at k1
      have hq := rn_bk hW hb hP hm8 hR hZ e1 (fun i h1 h2 => (ei i h1).trans (hB.2.2 i h2)) ((ei _ (by omega)).trans hB.1) (fun j hj => (ei _ (by omega)).trans (hB.2.1 j hj))
      exact k1 rfl D5 o5 h5 hq.1 hq.2
    · rw [← er] at k0; exact k0 hf D5 o5 h5
  · exact absurd c7 (by omega)
