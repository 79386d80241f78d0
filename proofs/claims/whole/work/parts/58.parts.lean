/-! ===== the class: parts ===== -/
def pUn (tp : List Nat) (S : TW) (w a : Nat) : Nat × Nat × Nat := if wdB tp (skp isBk tp a) (skp isLt tp (skp isBk tp a)) 8 = false then (8 * skp isBk tp a + 1, 0, 0) else if ¬ nF tp 0 w (skp isLt tp (skp isBk tp a)) = 0 then (nF tp 0 w (skp isLt tp (skp isBk tp a)), 0, 0) else if pu S w ≤ pu S (nV tp (skp isLt tp (skp isBk tp a))) then (8 * nS tp (skp isLt tp (skp isBk tp a)) + 4, 0, 0) else (0, nV tp (skp isLt tp (skp isBk tp a)), nE tp (skp isLt tp (skp isBk tp a)))
def letB (tp : List Nat) (s : Nat) : Bool := decide (s < tp.length) && isLt (tp.getD s 0)
def digB (tp : List Nat) (s : Nat) : Bool := decide (s < tp.length) && isDg (tp.getD s 0)
def wr3 (tp : List Nat) (S S2 : TW) (w s : Nat) : Nat × TW × Nat := if letB tp s = true then (if ¬ (pUn tp S2 w s).1 = 0 then ((pUn tp S2 w s).1, S, 0) else (0, suS S2 w (pUn tp S2 w s).2.1, (pUn tp S2 w s).2.2)) else (0, S2, s)
def wr2 (tp : List Nat) (S S1 : TW) (w e : Nat) : Nat × TW × Nat := if ¬ (pHab tp e).1 = 0 then ((pHab tp e).1, S, 0) else wr3 tp S (shS S1 w (pHab tp e).2.1 (pHab tp e).2.2.1 (pHab tp e).2.2.2.1) w (skp isBk tp (pHab tp e).2.2.2.2)
def pWr (tp : List Nat) (S : TW) (a : Nat) : Nat × TW × Nat := if ¬ nF tp 0 100 a = 0 then (nF tp 0 100 a, S, 0) else wr2 tp S (awS S (nw S) (nV tp a)) (nw S) (nE tp a)
def bkF (tp : List Nat) (S0 : TW) (b : Nat) : Nat → Nat → TW → Nat → Nat × TW × Nat
  | 0, _, S, a => (0, S, a)
  | f + 1, m, S, a => if ¬ nF tp 0 65536 a = 0 then (nF tp 0 65536 a, S0, 0) else if m = 8 then (8 * nS tp a + 3, S0, 0) else if digB tp (skp isBk tp (nE tp a)) = true then bkF tp S0 b f (m + 1) (apS S b m (nV tp a)) (skp isBk tp (nE tp a)) else (0, apS S b m (nV tp a), skp isBk tp (nE tp a))
theorem bkF_s {tp : List Nat} {S0 S : TW} {b f m a : Nat} : bkF tp S0 b (f + 1) m S a = if ¬ nF tp 0 65536 a = 0 then (nF tp 0 65536 a, S0, 0) else if m = 8 then (8 * nS tp a + 3, S0, 0) else if digB tp (skp isBk tp (nE tp a)) = true then bkF tp S0 b f (m + 1) (apS S b m (nV tp a)) (skp isBk tp (nE tp a)) else (0, apS S b m (nV tp a), skp isBk tp (nE tp a)) := rfl
def pBk (tp : List Nat) (S : TW) (a : Nat) : Nat × TW × Nat := bkF tp S (nb S) 9 0 (abS S (nb S)) a
def pPart (tp : List Nat) (S : TW) (a : Nat) : Nat × TW × Nat := if wdB tp (skp isBk tp a) (skp isLt tp (skp isBk tp a)) 0 = true then (if nw S = 12 then (8 * skp isBk tp a + 3, S, 0) else pWr tp S (skp isLt tp (skp isBk tp a))) else if wdB tp (skp isBk tp a) (skp isLt tp (skp isBk tp a)) 9 = true then (if nb S = 4 then (8 * skp isBk tp a + 3, S, 0) else pBk tp S (skp isLt tp (skp isBk tp a))) else (8 * skp isBk tp a + 1, S, 0)
def pAll (tp : List Nat) : Nat → TW → Nat → Nat × TW
  | 0, S, _ => (0, S)
  | f + 1, S, a => if ¬ (pPart tp S a).1 = 0 then ((pPart tp S a).1, S) else if tp.length ≤ skp isBk tp (pPart tp S a).2.2 then (0, (pPart tp S a).2.1) else if tp.getD (skp isBk tp (pPart tp S a).2.2) 0 = 59 then pAll tp f (pPart tp S a).2.1 (skp isBk tp (pPart tp S a).2.2 + 1) else (8 * skp isBk tp (pPart tp S a).2.2 + 1, S)
def pTell (tp : List Nat) (S : TW) : Nat × TW := if tp.length ≤ skp isBk tp 0 then (0, emS S) else pAll tp 401 (emS S) (skp isBk tp 0)
theorem letB_1 {tp : List Nat} {s : Nat} (h : s < tp.length) (h2 : 97 ≤ tp.getD s 0 ∧ tp.getD s 0 ≤ 122) : letB tp s = true := by unfold letB isLt; rw [decide_eq_true h, decide_eq_true h2]; rfl
theorem letB_0 {tp : List Nat} {s : Nat} (h : tp.length ≤ s) : ¬ letB tp s = true := by unfold letB; rw [decide_eq_false (by omega)]; exact Bool.false_ne_true
theorem letB_2 {tp : List Nat} {s : Nat} (h2 : ¬ (97 ≤ tp.getD s 0 ∧ tp.getD s 0 ≤ 122)) : ¬ letB tp s = true := by unfold letB isLt; rw [decide_eq_false h2, Bool.and_false]; exact Bool.false_ne_true
theorem digB_1 {tp : List Nat} {s : Nat} (h : s < tp.length) (h2 : 48 ≤ tp.getD s 0 ∧ tp.getD s 0 ≤ 57) : digB tp s = true := by unfold digB isDg; rw [decide_eq_true h, decide_eq_true h2]; rfl
theorem digB_0 {tp : List Nat} {s : Nat} (h : tp.length ≤ s) : ¬ digB tp s = true := by unfold digB; rw [decide_eq_false (by omega)]; exact Bool.false_ne_true
theorem digB_2 {tp : List Nat} {s : Nat} (h2 : ¬ (48 ≤ tp.getD s 0 ∧ tp.getD s 0 ≤ 57)) : ¬ digB tp s = true := by unfold digB isDg; rw [decide_eq_false h2, Bool.and_false]; exact Bool.false_ne_true
set_option maxRecDepth 20000 in
set_option maxHeartbeats 1000000 in
theorem w_X6_readUnder {D : Nat → Nat → Int32} {L : Nat → Nat → Int64} {Q : bh_Q} {tp : List Nat} {S : TW} {a w : Nat} (h : TS D tp a 0) (hT : tvt D 14 = S) (hw : w < 12) (hpu : ∀ u, u ≤ w → S 1 u = nI (pu S u) ∧ pu S u < 100) (k1 : (pUn tp S w a).1 = 0 → ∀ D', OT D D' → TS D' tp (pUn tp S w a).2.2 0 → tvt D' 14 = suS S w (pUn tp S w a).2.1 → Q (some (.int 1)) (hp D' L)) (k0 : ¬ (pUn tp S w a).1 = 0 → ∀ D', FL D D' tp (pUn tp S w a).1 → Q (some (.int 0)) (hp D' L)) : bh_wc 3 m_X6_readUnder [.ref 27, .ref 14, .int (nI w)] (hp D L) Q := by
  refine x_start (lv0 := [_, _, _, _]) (Nat.le_of_ble_eq_true rfl) rfl ?_
  have h4 := h.l4
  have ha := h.2.2.1
  have hskl := skp_le (p := isBk) ha
  have hel := skp_le (p := isLt) hskl
  have hn2 := nS_le (tp := tp) hel
  refine x_aload (pc' := 1) rfl rfl rfl ?_
  refine x_callV (pc' := 4) (d1 := 2) (Bs := []) rfl rfl rfl rfl rfl rfl rfl (Nat.le_of_ble_eq_true rfl) ⟨rfl, rfl⟩ (by decide) rfl (by decide) ?_
  refine w_X6_readWord h (fun D1 o1 h1 e1 => ?_)
  have hsl := skp_ge (p := isLt) (tp := tp) (skp isBk tp a)
  refine ⟨rfl, ?_⟩
  refine x_aload (pc' := 5) rfl rfl rfl ?_
  refine x_ldcS (pc' := 7) rfl rfl ?_
  refine x_callV (pc' := 10) (d1 := 1) (Bs := [_]) rfl rfl rfl rfl rfl rfl rfl (Nat.le_of_ble_eq_true rfl) ⟨rfl, rfl⟩ (by decide) rfl (by decide) ?_
  refine w_X6_wordIs h1 e1 hsl (wok_all 8 (by decide)) (fun hw8 => ?_) (fun hw8 => ?_)
  · refine ⟨rfl, ?_⟩
    refine x_if_ne (pc' := 13) rfl rfl (fun _ => ?_) (fun c10 => absurd c10 (by decide))
    refine x_aload (pc' := 24) rfl rfl rfl ?_
    refine x_int (pc' := 25) (v := nI 0) rfl rfl rfl ?_
    refine x_iload (pc' := 26) rfl rfl rfl ?_
    refine x_int (pc' := 27) (v := nI 1) rfl rfl rfl ?_
    refine x_isub (pc' := 28) rfl rfl ?_
    refine x_callV (pc' := 31) (d1 := 2) (Bs := [_, _]) rfl rfl rfl rfl rfl rfl rfl (Nat.le_of_ble_eq_true rfl) ⟨rfl, rfl⟩ (by decide) rfl (by decide) ?_
    refine w_X6_readNumber (lo := 0) (hi := w) h1 (by decide) (by omega) rfl (fun D2 x2 o2 h2 e2 v2 b2 => ?_)
    refine ⟨rfl, ?_⟩
    have efl2 := h2.2.2.2.2
    refine x_istore (pc' := 32) (lv' := [_, _, _, _]) rfl rfl (by decide) rfl ?_
    refine x_aload (pc' := 33) rfl rfl rfl ?_
    refine x_getI (j := 4) (pc' := 36) rfl rfl rfl (by decide) rfl (by decide) rfl rfl ?_
    refine x_top (h2.ft) ?_
    refine y_if_eq (pc' := 39) rfl rfl (by omega) (fun c36 => ?_) (fun c36 => ?_)
    · have hx2 := v2 c36
      subst hx2
      have hin := nF_in c36
      have hp1 := hpu (nV tp (skp isLt tp (skp isBk tp a))) (by omega)
      have hp2 := hpu w (Nat.le_refl _)
      have o12 := o1.tr o2
      refine x_aload (pc' := 42) rfl rfl rfl ?_
      refine x_getR (pc' := 45) rfl rfl rfl (by decide) rfl (by decide) rfl rfl ?_
      refine x_iload (pc' := 46) rfl rfl rfl ?_
      refine x_iald (pc' := 47) rfl rfl (by decide) rfl (by decide) (show _ < 12 by omega) ?_
      refine x_top (((congrFun (o12 15 (by decide)) _).trans ((congrFun (congrFun hT 1) _).trans hp1.1))) ?_
      refine x_aload (pc' := 48) rfl rfl rfl ?_
      refine x_getR (pc' := 51) rfl rfl rfl (by decide) rfl (by decide) rfl rfl ?_
      refine x_iload (pc' := 52) rfl rfl rfl ?_
      refine x_iald (pc' := 53) rfl rfl (by decide) rfl (by decide) (show _ < 12 by omega) ?_
      refine x_top (((congrFun (o12 15 (by decide)) _).trans ((congrFun (congrFun hT 1) _).trans hp2.1))) ?_
      refine y_ic_lt (pc' := 56) rfl rfl (by omega) (by omega) (fun c53 => ?_) (fun c53 => ?_)
      · refine x_aload (pc' := 67) rfl rfl rfl ?_
        refine x_getR (pc' := 70) rfl rfl rfl (by decide) rfl (by decide) rfl rfl ?_
        refine x_iload (pc' := 71) rfl rfl rfl ?_
        refine x_iload (pc' := 72) rfl rfl rfl ?_
        refine x_iast (pc' := 73) rfl rfl (by decide) rfl (by decide) (show _ < 12 by omega) ?_
        refine x_int (pc' := 74) (v := nI 1) rfl rfl rfl ?_
        refine x_zret rfl rfl (by decide) ?_
        have e : pUn tp S w a = (0, nV tp (skp isLt tp (skp isBk tp a)), nE tp (skp isLt tp (skp isBk tp a))) := by unfold pUn; rw [if_neg (show ¬ wdB tp (skp isBk tp a) (skp isLt tp (skp isBk tp a)) 8 = false by rw [hw8]; decide), if_neg (fun z => z c36), if_neg (by omega)]
        rw [e] at k1
        rw [c36] at h2
        exact k1 rfl _ ((o1.tr o2).ot.tr (OT.up (by decide) (by decide))) (h2.u (by decide) (by decide)) (by rw [tvt_up (j := 5) rfl (by decide), o2.t, o1.t, hT]; rfl)
      · refine x_aload (pc' := 57) rfl rfl rfl ?_
        refine x_aload (pc' := 58) rfl rfl rfl ?_
        refine x_getI (j := 3) (pc' := 61) rfl rfl rfl (by decide) rfl (by decide) rfl rfl ?_
        refine x_top (e2) ?_
        refine x_int (pc' := 62) (v := nI 4) rfl rfl rfl ?_
        refine x_callV (pc' := 65) (d1 := 1) (Bs := [_, _]) rfl rfl rfl rfl rfl rfl rfl (Nat.le_of_ble_eq_true rfl) ⟨rfl, rfl⟩ (by decide) rfl (by decide) ?_
        refine w_X6_refuse h2 (by omega) (by decide) (fun D9 o9 e9 h9 => ?_)
        refine ⟨rfl, ?_⟩
        refine x_zret rfl rfl (by decide) ?_
        have e : pUn tp S w a = (8 * nS tp (skp isLt tp (skp isBk tp a)) + 4, 0, 0) := by unfold pUn; rw [if_neg (show ¬ wdB tp (skp isBk tp a) (skp isLt tp (skp isBk tp a)) 8 = false by rw [hw8]; decide), if_neg (fun z => z c36), if_pos c53]
        rw [e] at k0
        exact k0 (by show ¬ 8 * _ + 4 = 0; omega) D9 (h9.fl ((o1.tr o2).tr o9).ot)
    · refine x_int (pc' := 40) (v := nI 0) rfl rfl rfl ?_
      refine x_zret rfl rfl (by decide) ?_
      have e : pUn tp S w a = (nF tp 0 w (skp isLt tp (skp isBk tp a)), 0, 0) := by unfold pUn; rw [if_neg (show ¬ wdB tp (skp isBk tp a) (skp isLt tp (skp isBk tp a)) 8 = false by rw [hw8]; decide), if_pos c36]
      rw [e] at k0
      exact k0 c36 D2 (h2.fl (o1.tr o2).ot)
  · refine ⟨rfl, ?_⟩
    refine x_if_ne (pc' := 13) rfl rfl (fun c10 => absurd (by decide) c10) (fun _ => ?_)
    refine x_aload (pc' := 14) rfl rfl rfl ?_
    refine x_aload (pc' := 15) rfl rfl rfl ?_
    refine x_getI (j := 3) (pc' := 18) rfl rfl rfl (by decide) rfl (by decide) rfl rfl ?_
    refine x_top (e1) ?_
    refine x_int (pc' := 19) (v := nI 1) rfl rfl rfl ?_
    refine x_callV (pc' := 22) (d1 := 1) (Bs := [_, _]) rfl rfl rfl rfl rfl rfl rfl (Nat.le_of_ble_eq_true rfl) ⟨rfl, rfl⟩ (by decide) rfl (by decide) ?_
    refine w_X6_refuse h1 (by omega) (by decide) (fun D9 o9 e9 h9 => ?_)
    refine ⟨rfl, ?_⟩
    refine x_zret rfl rfl (by decide) ?_
    have e : pUn tp S w a = (8 * (skp isBk tp a) + 1, 0, 0) := if_pos hw8
    rw [e] at k0
    exact k0 (by show ¬ 8 * _ + 1 = 0; omega) D9 (h9.fl (o1.tr o9).ot)
set_option maxRecDepth 20000 in
set_option maxHeartbeats 1000000 in
theorem w_X6_readSemicolon {D : Nat → Nat → Int32} {L : Nat → Nat → Int64} {Q : bh_Q} {tp : List Nat} {a : Nat} (h : TS D tp a 0) (kE : tp.length ≤ skp isBk tp a → ∀ D', O27 D D' → TS D' tp (skp isBk tp a) 0 → Q (some (.int 0)) (hp D' L)) (k1 : skp isBk tp a < tp.length → tp.getD (skp isBk tp a) 0 = 59 → ∀ D', O27 D D' → TS D' tp (skp isBk tp a + 1) 0 → Q (some (.int 1)) (hp D' L)) (k0 : skp isBk tp a < tp.length → ¬ tp.getD (skp isBk tp a) 0 = 59 → ∀ D', FL D D' tp (8 * skp isBk tp a + 1) → Q (some (.int 0)) (hp D' L)) : bh_wc 2 m_X6_readSemicolon [.ref 27] (hp D L) Q := by
  refine x_start (lv0 := [_]) (Nat.le_of_ble_eq_true rfl) rfl ?_
  have h4 := h.l4
  have ha := h.2.2.1
  have hskl := skp_le (p := isBk) ha
  refine x_aload (pc' := 1) rfl rfl rfl ?_
  refine x_callV (pc' := 4) (d1 := 1) (Bs := []) rfl rfl rfl rfl rfl rfl rfl (Nat.le_of_ble_eq_true rfl) ⟨rfl, rfl⟩ (by decide) rfl (by decide) ?_
  refine w_X6_skipBlanks h (fun D1 o1 h1 e1 => ?_)
  refine ⟨rfl, ?_⟩
  refine x_aload (pc' := 5) rfl rfl rfl ?_
  refine x_getI (j := 2) (pc' := 8) rfl rfl rfl (by decide) rfl (by decide) rfl rfl ?_
  refine x_top (h1.at) ?_
  refine x_aload (pc' := 9) rfl rfl rfl ?_
  refine x_getI (j := 1) (pc' := 12) rfl rfl rfl (by decide) rfl (by decide) rfl rfl ?_
  refine x_top (h1.len) ?_
  refine y_ic_lt (pc' := 15) rfl rfl (by first | omega | (have := h1.b2 (i := skp isBk tp a) (by omega); omega)) (by first | omega | (have := h1.b2 (i := skp isBk tp a) (by omega); omega)) (fun c12 => ?_) (fun c12 => ?_)
  · refine x_aload (pc' := 18) rfl rfl rfl ?_
    refine x_getR (pc' := 21) rfl rfl rfl (by decide) rfl (by decide) rfl rfl ?_
    refine x_aload (pc' := 22) rfl rfl rfl ?_
    refine x_getI (j := 2) (pc' := 25) rfl rfl rfl (by decide) rfl (by decide) rfl rfl ?_
    refine x_top (h1.at) ?_
    refine x_iald (pc' := 26) rfl rfl (by decide) rfl (by decide) (show _ < 400 by omega) ?_
    refine x_top (h1.by (by omega)) ?_
    refine x_int (pc' := 28) (v := nI 59) rfl rfl rfl ?_
    refine y_ic_eq (pc' := 31) rfl rfl (by first | omega | (have := h1.b2 (i := skp isBk tp a) (by omega); omega)) (by first | omega | (have := h1.b2 (i := skp isBk tp a) (by omega); omega)) (fun c28 => ?_) (fun c28 => ?_)
    · refine x_aload (pc' := 42) rfl rfl rfl ?_
      refine x_dup (pc' := 43) rfl rfl rfl ?_
      refine x_getI (j := 2) (pc' := 46) rfl rfl rfl (by decide) rfl (by decide) rfl rfl ?_
      refine x_top (h1.at) ?_
      refine x_int (pc' := 47) (v := nI 1) rfl rfl rfl ?_
      refine y_iadd (pc' := 48) rfl rfl ?_
      refine x_putI (j := 2) (pc' := 51) rfl rfl rfl (by decide) rfl (by decide) rfl rfl ?_
      refine x_int (pc' := 52) (v := nI 1) rfl rfl rfl ?_
      refine x_zret rfl rfl (by decide) ?_
      exact k1 c12 c28 _ (o1.tr O27.up) (h1.a (by omega))
    · refine x_aload (pc' := 32) rfl rfl rfl ?_
      refine x_aload (pc' := 33) rfl rfl rfl ?_
      refine x_getI (j := 2) (pc' := 36) rfl rfl rfl (by decide) rfl (by decide) rfl rfl ?_
      refine x_top (h1.at) ?_
      refine x_int (pc' := 37) (v := nI 1) rfl rfl rfl ?_
      refine x_callV (pc' := 40) (d1 := 1) (Bs := [_, _]) rfl rfl rfl rfl rfl rfl rfl (Nat.le_of_ble_eq_true rfl) ⟨rfl, rfl⟩ (by decide) rfl (by decide) ?_
      refine w_X6_refuse h1 (by omega) (by decide) (fun D9 o9 e9 h9 => ?_)
      refine ⟨rfl, ?_⟩
      refine x_zret rfl rfl (by decide) ?_
      exact k0 c12 c28 D9 (h9.fl (o1.tr o9).ot)
  · refine x_int (pc' := 16) (v := nI 0) rfl rfl rfl ?_
    refine x_zret rfl rfl (by decide) ?_
    exact kE c12 D1 o1 h1
theorem aw_pu {S : TW} {w v k x y u : Nat} : (shS (awS S w v) w k x y) 1 u = if u = w then nI v else S 1 u := by simp [shS, awS, up2_at]
theorem hpu_aw {S : TW} (hW : WF S) {v k x y : Nat} (hv : v < 100) : ∀ u, u ≤ nw S → (shS (awS S (nw S) v) (nw S) k x y) 1 u = nI (pu (shS (awS S (nw S) v) (nw S) k x y) u) ∧ pu (shS (awS S (nw S) v) (nw S) k x y) u < 100 := by
  intro u hu
  unfold pu
  rw [aw_pu]
  by_cases e : u = nw S
  · rw [if_pos e, nI_clamp (by omega)]; exact ⟨rfl, hv⟩
  · rw [if_neg e]; exact ⟨hW.epu (by omega), hW.pul (by omega)⟩
set_option maxRecDepth 20000 in
set_option maxHeartbeats 1000000 in
theorem w_X6_readWriter {D : Nat → Nat → Int32} {L : Nat → Nat → Int64} {Q : bh_Q} {tp : List Nat} {S : TW} {a : Nat} (h : TS D tp a 0) (hW : WF S) (hT : tvt D 14 = S) (hw : nw S < 12) (k1 : (pWr tp S a).1 = 0 → ∀ D', OT D D' → TS D' tp (pWr tp S a).2.2 0 → tvt D' 14 = (pWr tp S a).2.1 → Q (some (.int 1)) (hp D' L)) (k0 : ¬ (pWr tp S a).1 = 0 → ∀ D', FL D D' tp (pWr tp S a).1 → Q (some (.int 0)) (hp D' L)) : bh_wc 4 m_X6_readWriter [.ref 27, .ref 14] (hp D L) Q := by
  refine x_start (lv0 := [_, _, _, _]) (Nat.le_of_ble_eq_true rfl) rfl ?_
  have hw0 : D 14 0 = nI (nw S) := (congrFun (congrFun hT 0) 0).trans hW.enw
  have hl4 := h.l4
  refine x_aload (pc' := 1) rfl rfl rfl ?_
  refine x_getI (j := 0) (pc' := 4) rfl rfl rfl (by decide) rfl (by decide) rfl rfl ?_
  refine x_top (hw0) ?_
  refine x_istore (pc' := 5) (lv' := [_, _, _, _]) rfl rfl (by decide) rfl ?_
  refine x_aload (pc' := 6) rfl rfl rfl ?_
  refine x_int (pc' := 7) (v := nI 0) rfl rfl rfl ?_
  refine x_int (pc' := 9) (v := nI 99) rfl rfl rfl ?_
  refine x_callV (pc' := 12) (d1 := 2) (Bs := [_, _]) rfl rfl rfl rfl rfl rfl rfl (Nat.le_of_ble_eq_true rfl) ⟨rfl, rfl⟩ (by decide) rfl (by decide) ?_
  refine w_X6_readNumber (lo := 0) (hi := 100) h (by decide) (by decide) (by decide) (fun D1 x1 o1 h1 e1 v1 b1 => ?_)
  refine ⟨rfl, ?_⟩
  have efl1 := h1.2.2.2.2
  refine x_istore (pc' := 13) (lv' := [_, _, _, _]) rfl rfl (by decide) rfl ?_
  refine x_aload (pc' := 14) rfl rfl rfl ?_
  refine x_getI (j := 4) (pc' := 17) rfl rfl rfl (by decide) rfl (by decide) rfl rfl ?_
  refine x_top (h1.ft) ?_
  refine y_if_eq (pc' := 20) rfl rfl (by omega) (fun c17 => ?_) (fun c17 => ?_)
  · have hx1 := v1 c17
    subst hx1
    rw [c17] at h1
    refine x_aload (pc' := 23) rfl rfl rfl ?_
    refine x_iload (pc' := 24) rfl rfl rfl ?_
    refine x_callV (pc' := 27) (d1 := 2) (Bs := [_]) rfl rfl rfl rfl rfl rfl rfl (Nat.le_of_ble_eq_true rfl) ⟨rfl, rfl⟩ (by decide) rfl (by decide) ?_
    refine w14_addWriter (tp := tp) ((congrFun (o1 14 (by decide)) 0).trans hw0) hw (fun D2 o2 s2 t2 q2 => ?_)
    have h2 := s2 _ _ h1
    have t2 : tvt D2 14 = awS S (nw S) (nV tp a) := by rw [t2, o1.t, hT]
    refine ⟨rfl, ?_⟩
    refine x_aload (pc' := 28) rfl rfl rfl ?_
    refine x_aload (pc' := 29) rfl rfl rfl ?_
    refine x_iload (pc' := 30) rfl rfl rfl ?_
    refine x_callV (pc' := 33) (d1 := 3) (Bs := [_, _]) rfl rfl rfl rfl rfl rfl rfl (Nat.le_of_ble_eq_true rfl) ⟨rfl, rfl⟩ (by decide) rfl (by decide) ?_
    refine w_X6_readHabit h2 hw (fun hH D3 o3 h3 t3 => ?_) (fun hH D3 f3 => ?_)
    · rw [t2] at t3
      refine ⟨rfl, ?_⟩
      refine x_if_ne (pc' := 36) rfl rfl (fun _ => ?_) (fun c33 => absurd c33 (by decide))
      refine x_aload (pc' := 39) rfl rfl rfl ?_
      refine x_callV (pc' := 42) (d1 := 1) (Bs := []) rfl rfl rfl rfl rfl rfl rfl (Nat.le_of_ble_eq_true rfl) ⟨rfl, rfl⟩ (by decide) rfl (by decide) ?_
      refine w_X6_skipBlanks h3 (fun D4 o4 h4 e4 => ?_)
      have t4 := o4.t.trans t3
      have hel := h4.2.2.1
      refine ⟨rfl, ?_⟩
      refine x_aload (pc' := 43) rfl rfl rfl ?_
      refine x_getI (j := 2) (pc' := 46) rfl rfl rfl (by decide) rfl (by decide) rfl rfl ?_
      refine x_top (h4.at) ?_
      refine x_aload (pc' := 47) rfl rfl rfl ?_
      refine x_getI (j := 1) (pc' := 50) rfl rfl rfl (by decide) rfl (by decide) rfl rfl ?_
      refine x_top (h4.len) ?_
      refine y_ic_ge (pc' := 53) rfl rfl (by omega) (by omega) (fun c50 => ?_) (fun c50 => ?_)
      · refine x_int (pc' := 78) (v := nI 1) rfl rfl rfl ?_
        refine x_goto rfl ?_
        refine x_zret rfl rfl (by decide) ?_
        have e : pWr tp S a = (0, (shS (awS S (nw S) (nV tp a)) (nw S) (pHab tp (nE tp a)).2.1 (pHab tp (nE tp a)).2.2.1 (pHab tp (nE tp a)).2.2.2.1), (skp isBk tp (pHab tp (nE tp a)).2.2.2.2)) := by unfold pWr; rw [if_neg (fun z => z c17)]; unfold wr2; rw [if_neg (fun z => z hH)]; unfold wr3; rw [if_neg (letB_0 c50)]
        rw [e] at k1
        exact k1 rfl D4 (((o1.ot.tr o2).tr o3).tr o4.ot) h4 t4
      · refine x_aload (pc' := 54) rfl rfl rfl ?_
        refine x_getR (pc' := 57) rfl rfl rfl (by decide) rfl (by decide) rfl rfl ?_
        refine x_aload (pc' := 58) rfl rfl rfl ?_
        refine x_getI (j := 2) (pc' := 61) rfl rfl rfl (by decide) rfl (by decide) rfl rfl ?_
        refine x_top (h4.at) ?_
        refine x_iald (pc' := 62) rfl rfl (by decide) rfl (by decide) (show _ < 400 by omega) ?_
        refine x_top (h4.by c50) ?_
        refine x_callS (pc' := 65) (d1 := 1) (As := [_]) rfl rfl rfl rfl (by decide) rfl rfl (Nat.le_of_ble_eq_true rfl) ⟨rfl, rfl⟩ (by decide) ?_
        refine w_X6_isLetter (h4.b2 c50) (fun hc => ?_) (fun hc => ?_)
        · refine ⟨rfl, ?_⟩
          refine x_if_eq (pc' := 68) rfl rfl (fun c65 => absurd c65 (by decide)) (fun _ => ?_)
          refine x_aload (pc' := 69) rfl rfl rfl ?_
          refine x_aload (pc' := 70) rfl rfl rfl ?_
          refine x_iload (pc' := 71) rfl rfl rfl ?_
          refine x_callV (pc' := 74) (d1 := 3) (Bs := [_, _]) rfl rfl rfl rfl rfl rfl rfl (Nat.le_of_ble_eq_true rfl) ⟨rfl, rfl⟩ (by decide) rfl (by decide) ?_
          refine w_X6_readUnder h4 t4 hw (hpu_aw hW (nF_in c17).2.1) (fun hU D5 o5 h5 t5 => ?_) (fun hU D5 f5 => ?_)
          · refine ⟨rfl, ?_⟩
            refine x_if_eq (pc' := 77) rfl rfl (fun c74 => absurd c74 (by decide)) (fun _ => ?_)
            refine x_int (pc' := 78) (v := nI 1) rfl rfl rfl ?_
            refine x_goto rfl ?_
            refine x_zret rfl rfl (by decide) ?_
            have e : pWr tp S a = (0, suS (shS (awS S (nw S) (nV tp a)) (nw S) (pHab tp (nE tp a)).2.1 (pHab tp (nE tp a)).2.2.1 (pHab tp (nE tp a)).2.2.2.1) (nw S) (pUn tp (shS (awS S (nw S) (nV tp a)) (nw S) (pHab tp (nE tp a)).2.1 (pHab tp (nE tp a)).2.2.1 (pHab tp (nE tp a)).2.2.2.1) (nw S) (skp isBk tp (pHab tp (nE tp a)).2.2.2.2)).2.1, (pUn tp (shS (awS S (nw S) (nV tp a)) (nw S) (pHab tp (nE tp a)).2.1 (pHab tp (nE tp a)).2.2.1 (pHab tp (nE tp a)).2.2.2.1) (nw S) (skp isBk tp (pHab tp (nE tp a)).2.2.2.2)).2.2) := by unfold pWr; rw [if_neg (fun z => z c17)]; unfold wr2; rw [if_neg (fun z => z hH)]; unfold wr3; rw [if_pos (letB_1 c50 hc), if_neg (fun z => z hU)]
            rw [e] at k1
            exact k1 rfl D5 ((((o1.ot.tr o2).tr o3).tr o4.ot).tr o5) h5 t5
          · refine ⟨rfl, ?_⟩
            refine x_if_eq (pc' := 77) rfl rfl (fun _ => ?_) (fun c74 => absurd (by decide) c74)
            refine x_int (pc' := 82) (v := nI 0) rfl rfl rfl ?_
            refine x_zret rfl rfl (by decide) ?_
            have e : pWr tp S a = ((pUn tp (shS (awS S (nw S) (nV tp a)) (nw S) (pHab tp (nE tp a)).2.1 (pHab tp (nE tp a)).2.2.1 (pHab tp (nE tp a)).2.2.2.1) (nw S) (skp isBk tp (pHab tp (nE tp a)).2.2.2.2)).1, S, 0) := by unfold pWr; rw [if_neg (fun z => z c17)]; unfold wr2; rw [if_neg (fun z => z hH)]; unfold wr3; rw [if_pos (letB_1 c50 hc), if_pos hU]
            rw [e] at k0
            exact k0 hU D5 ⟨(((o1.ot.tr o2).tr o3).tr o4.ot).tr f5.1, f5.2⟩
        · refine ⟨rfl, ?_⟩
          refine x_if_eq (pc' := 68) rfl rfl (fun _ => ?_) (fun c65 => absurd (by decide) c65)
          refine x_int (pc' := 78) (v := nI 1) rfl rfl rfl ?_
          refine x_goto rfl ?_
          refine x_zret rfl rfl (by decide) ?_
          have e : pWr tp S a = (0, (shS (awS S (nw S) (nV tp a)) (nw S) (pHab tp (nE tp a)).2.1 (pHab tp (nE tp a)).2.2.1 (pHab tp (nE tp a)).2.2.2.1), (skp isBk tp (pHab tp (nE tp a)).2.2.2.2)) := by unfold pWr; rw [if_neg (fun z => z c17)]; unfold wr2; rw [if_neg (fun z => z hH)]; unfold wr3; rw [if_neg (letB_2 hc)]
          rw [e] at k1
          exact k1 rfl D4 (((o1.ot.tr o2).tr o3).tr o4.ot) h4 t4
    · refine ⟨rfl, ?_⟩
      refine x_if_ne (pc' := 36) rfl rfl (fun c33 => absurd (by decide) c33) (fun _ => ?_)
      refine x_int (pc' := 37) (v := nI 0) rfl rfl rfl ?_
      refine x_zret rfl rfl (by decide) ?_
      have e : pWr tp S a = ((pHab tp (nE tp a)).1, S, 0) := by unfold pWr; rw [if_neg (fun z => z c17)]; unfold wr2; rw [if_pos hH]
      rw [e] at k0
      exact k0 hH D3 ⟨(o1.ot.tr o2).tr f3.1, f3.2⟩
  · refine x_int (pc' := 21) (v := nI 0) rfl rfl rfl ?_
    refine x_zret rfl rfl (by decide) ?_
    have e : pWr tp S a = (nF tp 0 100 a, S, 0) := if_pos c17
    rw [e] at k0
    exact k0 c17 D1 (h1.fl o1.ot)
set_option maxRecDepth 20000 in
set_option maxHeartbeats 1000000 in
theorem l_X6_readBook {L : Nat → Nat → Int64} {Q : bh_Q} {d : Nat} (hd : 2 ≤ d) {tp : List Nat} {S0 : TW} {b : Nat} (hb : b < 4) {R : Nat × TW × Nat} {D0 : Nat → Nat → Int32} (k1 : ∀ S' e, (0, S', e) = R → ∀ D', OT D0 D' → TS D' tp e 0 → tvt D' 14 = S' → Q (some (.int 1)) (hp D' L)) (k0 : ∀ f, ¬ f = 0 → (f, S0, 0) = R → ∀ D', FL D0 D' tp f → Q (some (.int 0)) (hp D' L)) : ∀ (f m : Nat) (S : TW) (a : Nat) (D : Nat → Nat → Int32) (a3 : Value), m + f = 9 → TS D tp a 0 → tvt D 14 = S → S 0 1 = nI (b + 1) → S 9 b = nI m → OT D0 D → bkF tp S0 b f m S a = R → bw m_X6_readBook d Q 6 [.ref 27, .ref 14, .int (nI m), a3] [] D L := by
  intro f
  induction f with
  | zero =>
    intro m S a D a3 hf h hT hb1 hm9 o hr
    refine x_iload (pc' := 7) rfl rfl rfl ?_
    refine x_int (pc' := 9) (v := nI 8) rfl rfl rfl ?_
    refine y_ic_gt (pc' := 12) rfl rfl (by omega) (by omega) (fun c9 => ?_) (fun c9 => ?_)
    · refine x_int (pc' := 89) (v := nI 1) rfl rfl rfl ?_
      refine x_zret rfl rfl (by decide) ?_
      exact k1 S a hr D o h hT
    · exact absurd c9 (by omega)
  | succ f ih =>
    intro m S a D a3 hf h hT hb1 hm9 o hr
    have hl4 := h.l4
    refine x_iload (pc' := 7) rfl rfl rfl ?_
    refine x_int (pc' := 9) (v := nI 8) rfl rfl rfl ?_
    refine y_ic_gt (pc' := 12) rfl rfl (by omega) (by omega) (fun c9 => ?_) (fun c9 => ?_)
    · exact absurd c9 (by omega)
    · refine x_aload (pc' := 13) rfl rfl rfl ?_
      refine x_int (pc' := 14) (v := nI 0) rfl rfl rfl ?_
      refine x_int (pc' := 16) (v := nI 65535) rfl rfl rfl ?_
      refine x_callV (pc' := 19) (d1 := 2) (Bs := [_, _]) rfl rfl rfl rfl rfl rfl rfl (Nat.le_of_ble_eq_true rfl) ⟨rfl, rfl⟩ (by decide) rfl (by omega) ?_
      refine w_X6_readNumber (lo := 0) (hi := 65536) h (by decide) (by decide) (by decide) (fun D1 x1 o1 h1 e1 v1 b1 => ?_)
      refine ⟨rfl, ?_⟩
      have efl1 := h1.2.2.2.2
      have hns := nS_le (tp := tp) h.2.2.1
      refine x_istore (pc' := 20) (lv' := [_, _, _, _]) rfl rfl (by decide) rfl ?_
      refine x_aload (pc' := 21) rfl rfl rfl ?_
      refine x_getI (j := 4) (pc' := 24) rfl rfl rfl (by decide) rfl (by decide) rfl rfl ?_
      refine x_top (h1.ft) ?_
      refine y_if_eq (pc' := 27) rfl rfl (by omega) (fun c24 => ?_) (fun c24 => ?_)
      · have hx1 := v1 c24
        subst hx1
        rw [c24] at h1
        refine x_iload (pc' := 30) rfl rfl rfl ?_
        refine x_int (pc' := 32) (v := nI 8) rfl rfl rfl ?_
        refine y_ic_ne (pc' := 35) rfl rfl (by omega) (by omega) (fun c32 => ?_) (fun c32 => ?_)
        · refine x_aload (pc' := 46) rfl rfl rfl ?_
          refine x_iload (pc' := 47) rfl rfl rfl ?_
          refine x_callV (pc' := 50) (d1 := 1) (Bs := [_]) rfl rfl rfl rfl rfl rfl rfl (Nat.le_of_ble_eq_true rfl) ⟨rfl, rfl⟩ (by decide) rfl (by omega) ?_
          refine w14_addPage (tp := tp) ((congrFun (o1 14 (by decide)) 1).trans ((congrFun (congrFun hT 0) 1).trans hb1)) hb ((congrFun (o1 23 (by decide)) b).trans ((congrFun (congrFun hT 9) b).trans hm9)) (by omega) (fun D2 o2 s2 t2 q2 => ?_)
          have h2 := s2 _ _ h1
          have t2 : tvt D2 14 = apS S b m (nV tp a) := by rw [t2, o1.t, hT]
          refine ⟨rfl, ?_⟩
          refine x_aload (pc' := 51) rfl rfl rfl ?_
          refine x_callV (pc' := 54) (d1 := 1) (Bs := []) rfl rfl rfl rfl rfl rfl rfl (Nat.le_of_ble_eq_true rfl) ⟨rfl, rfl⟩ (by decide) rfl (by omega) ?_
          refine w_X6_skipBlanks h2 (fun D4 o4 h4 e4 => ?_)
          have t4 := o4.t.trans t2
          have hel := h4.2.2.1
          refine ⟨rfl, ?_⟩
          refine x_aload (pc' := 55) rfl rfl rfl ?_
          refine x_getI (j := 2) (pc' := 58) rfl rfl rfl (by decide) rfl (by decide) rfl rfl ?_
          refine x_top (h4.at) ?_
          refine x_aload (pc' := 59) rfl rfl rfl ?_
          refine x_getI (j := 1) (pc' := 62) rfl rfl rfl (by decide) rfl (by decide) rfl rfl ?_
          refine x_top (h4.len) ?_
          refine y_ic_ge (pc' := 65) rfl rfl (by omega) (by omega) (fun c62 => ?_) (fun c62 => ?_)
          · refine x_int (pc' := 81) (v := nI 1) rfl rfl rfl ?_
            refine x_zret rfl rfl (by decide) ?_
            have e : bkF tp S0 b (f + 1) m S a = (0, apS S b m (nV tp a), skp isBk tp (nE tp a)) := by rw [bkF_s, if_neg (fun z => z c24), if_neg c32, if_neg (digB_0 c62)]
            rw [e] at hr
            exact k1 _ _ hr D4 (o.tr ((o1.ot.tr o2).tr o4.ot)) h4 t4
          · refine x_aload (pc' := 66) rfl rfl rfl ?_
            refine x_getR (pc' := 69) rfl rfl rfl (by decide) rfl (by decide) rfl rfl ?_
            refine x_aload (pc' := 70) rfl rfl rfl ?_
            refine x_getI (j := 2) (pc' := 73) rfl rfl rfl (by decide) rfl (by decide) rfl rfl ?_
            refine x_top (h4.at) ?_
            refine x_iald (pc' := 74) rfl rfl (by decide) rfl (by decide) (show _ < 400 by omega) ?_
            refine x_top (h4.by c62) ?_
            refine x_callS (pc' := 77) (d1 := 1) (As := [_]) rfl rfl rfl rfl (by decide) rfl rfl (Nat.le_of_ble_eq_true rfl) ⟨rfl, rfl⟩ (by omega) ?_
            refine w_X6_isDigit (h4.b2 c62) (fun hc => ?_) (fun hc => ?_)
            · refine ⟨rfl, ?_⟩
              refine x_if_ne (pc' := 80) rfl rfl (fun _ => ?_) (fun c77 => absurd c77 (by decide))
              refine y_inc (pc' := 85) (lv' := [_, _, _, _]) rfl rfl rfl (by decide) rfl ?_
              refine x_goto rfl ?_
              have e : bkF tp S0 b (f + 1) m S a = bkF tp S0 b f (m + 1) (apS S b m (nV tp a)) (skp isBk tp (nE tp a)) := by rw [bkF_s, if_neg (fun z => z c24), if_neg c32, if_pos (digB_1 c62 hc)]
              rw [e] at hr
              exact ih (m + 1) _ _ D4 _ (by omega) h4 t4 (by show bh_up2 (bh_up2 S 10 _ _) 9 b _ 0 1 = _; rw [bh_up2_ne _ _ _ (by decide), bh_up2_ne _ _ _ (by decide)]; exact hb1) (bh_up2_self _ _ _ _) (o.tr ((o1.ot.tr o2).tr o4.ot)) hr
            · refine ⟨rfl, ?_⟩
              refine x_if_ne (pc' := 80) rfl rfl (fun c77 => absurd (by decide) c77) (fun _ => ?_)
              refine x_int (pc' := 81) (v := nI 1) rfl rfl rfl ?_
              refine x_zret rfl rfl (by decide) ?_
              have e : bkF tp S0 b (f + 1) m S a = (0, apS S b m (nV tp a), skp isBk tp (nE tp a)) := by rw [bkF_s, if_neg (fun z => z c24), if_neg c32, if_neg (digB_2 hc)]
              rw [e] at hr
              exact k1 _ _ hr D4 (o.tr ((o1.ot.tr o2).tr o4.ot)) h4 t4
        · refine x_aload (pc' := 36) rfl rfl rfl ?_
          refine x_aload (pc' := 37) rfl rfl rfl ?_
          refine x_getI (j := 3) (pc' := 40) rfl rfl rfl (by decide) rfl (by decide) rfl rfl ?_
          refine x_top (e1) ?_
          refine x_int (pc' := 41) (v := nI 3) rfl rfl rfl ?_
          refine x_callV (pc' := 44) (d1 := 1) (Bs := [_, _]) rfl rfl rfl rfl rfl rfl rfl (Nat.le_of_ble_eq_true rfl) ⟨rfl, rfl⟩ (by decide) rfl (by omega) ?_
          refine w_X6_refuse h1 (by omega) (by decide) (fun D9 o9 e9 h9 => ?_)
          refine ⟨rfl, ?_⟩
          refine x_zret rfl rfl (by decide) ?_
          have e : bkF tp S0 b (f + 1) m S a = (8 * nS tp a + 3, S0, 0) := by rw [bkF_s, if_neg (fun z => z c24), if_pos c32]
          rw [e] at hr
          exact k0 (8 * nS tp a + 3) (by omega) hr D9 ⟨o.tr (o1.tr o9).ot, (h9.fl OT.rf).2⟩
      · refine x_int (pc' := 28) (v := nI 0) rfl rfl rfl ?_
        refine x_zret rfl rfl (by decide) ?_
        have e : bkF tp S0 b (f + 1) m S a = (nF tp 0 65536 a, S0, 0) := if_pos c24
        rw [e] at hr
        exact k0 (nF tp 0 65536 a) c24 hr D1 ⟨o.tr o1.ot, (h1.fl OT.rf).2⟩
set_option maxRecDepth 20000 in
set_option maxHeartbeats 1000000 in
theorem w_X6_readBook {D : Nat → Nat → Int32} {L : Nat → Nat → Int64} {Q : bh_Q} {tp : List Nat} {S : TW} {a : Nat} (h : TS D tp a 0) (hW : WF S) (hT : tvt D 14 = S) (hb : nb S < 4) (k1 : (pBk tp S a).1 = 0 → ∀ D', OT D D' → TS D' tp (pBk tp S a).2.2 0 → tvt D' 14 = (pBk tp S a).2.1 → Q (some (.int 1)) (hp D' L)) (k0 : ¬ (pBk tp S a).1 = 0 → ∀ D', FL D D' tp (pBk tp S a).1 → Q (some (.int 0)) (hp D' L)) : bh_wc 3 m_X6_readBook [.ref 27, .ref 14] (hp D L) Q := by
  refine x_start (lv0 := [_, _, _, _]) (Nat.le_of_ble_eq_true rfl) rfl ?_
  refine x_aload (pc' := 1) rfl rfl rfl ?_
  refine x_callV (pc' := 4) (d1 := 1) (Bs := []) rfl rfl rfl rfl rfl rfl rfl (Nat.le_of_ble_eq_true rfl) ⟨rfl, rfl⟩ (by decide) rfl (by decide) ?_
  refine w14_addBook (tp := tp) ((congrFun (congrFun hT 0) 1).trans hW.enb) hb (fun D2 o2 s2 t2 q2 => ?_)
  have h2 := s2 _ _ h
  have t2 : tvt D2 14 = abS S (nb S) := by rw [t2, hT]
  refine ⟨rfl, ?_⟩
  refine x_int (pc' := 5) (v := nI 0) rfl rfl rfl ?_
  refine x_istore (pc' := 6) (lv' := [_, _, _, _]) rfl rfl (by decide) rfl ?_
  refine l_X6_readBook (d := 2) (Nat.le_refl _) hb (R := pBk tp S a) (D0 := D) (fun S2 e2 er D5 o5 h5 t5 => ?_) (fun f hf er D5 f5 => ?_) 9 0 _ a D2 _ rfl h2 t2 (bh_up2_self _ _ _ _) (by show bh_up2 (bh_up2 S 9 _ _) 0 1 _ 9 _ = _; rw [bh_up2_ne _ _ _ (by decide)]; exact bh_up2_self _ _ _ _) o2 rfl
  · rw [← er] at k1; exact k1 rfl D5 o5 h5 t5
  · rw [← er] at k0; exact k0 hf D5 f5
set_option maxRecDepth 20000 in
set_option maxHeartbeats 1000000 in
theorem w_X6_readPart {D : Nat → Nat → Int32} {L : Nat → Nat → Int64} {Q : bh_Q} {tp : List Nat} {S : TW} {a : Nat} (h : TS D tp a 0) (hW : WF S) (hT : tvt D 14 = S) (k1 : (pPart tp S a).1 = 0 → ∀ D', OT D D' → TS D' tp (pPart tp S a).2.2 0 → tvt D' 14 = (pPart tp S a).2.1 → Q (some (.int 1)) (hp D' L)) (k0 : ¬ (pPart tp S a).1 = 0 → ∀ D', FL D D' tp (pPart tp S a).1 → Q (some (.int 0)) (hp D' L)) : bh_wc 5 m_X6_readPart [.ref 27, .ref 14] (hp D L) Q := by
  refine x_start (lv0 := [_, _]) (Nat.le_of_ble_eq_true rfl) rfl ?_
  have h4 := h.l4
  have ha := h.2.2.1
  have hskl := skp_le (p := isBk) ha
  have hel := skp_le (p := isLt) hskl
  have h12 := hW.nwl
  have hb4 := hW.nbl
  refine x_aload (pc' := 1) rfl rfl rfl ?_
  refine x_callV (pc' := 4) (d1 := 2) (Bs := []) rfl rfl rfl rfl rfl rfl rfl (Nat.le_of_ble_eq_true rfl) ⟨rfl, rfl⟩ (by decide) rfl (by decide) ?_
  refine w_X6_readWord h (fun D1 o1 h1 e1 => ?_)
  have hsl := skp_ge (p := isLt) (tp := tp) (skp isBk tp a)
  have hT1 := o1.t.trans hT
  refine ⟨rfl, ?_⟩
  refine x_aload (pc' := 5) rfl rfl rfl ?_
  refine x_ldcS (pc' := 7) rfl rfl ?_
  refine x_callV (pc' := 10) (d1 := 1) (Bs := [_]) rfl rfl rfl rfl rfl rfl rfl (Nat.le_of_ble_eq_true rfl) ⟨rfl, rfl⟩ (by decide) rfl (by decide) ?_
  refine w_X6_wordIs h1 e1 hsl (wok_all 0 (by decide)) (fun hw0 => ?_) (fun hw0 => ?_)
  · refine ⟨rfl, ?_⟩
    refine x_if_eq (pc' := 13) rfl rfl (fun c10 => absurd c10 (by decide)) (fun _ => ?_)
    refine x_aload (pc' := 14) rfl rfl rfl ?_
    refine x_getI (j := 0) (pc' := 17) rfl rfl rfl (by decide) rfl (by decide) rfl rfl ?_
    refine x_top ((congrFun (congrFun hT1 0) 0).trans hW.enw) ?_
    refine x_int (pc' := 19) (v := nI 12) rfl rfl rfl ?_
    refine y_ic_ge (pc' := 22) rfl rfl (by omega) (by omega) (fun c19 => ?_) (fun c19 => ?_)
    · refine x_aload (pc' := 31) rfl rfl rfl ?_
      refine x_aload (pc' := 32) rfl rfl rfl ?_
      refine x_getI (j := 3) (pc' := 35) rfl rfl rfl (by decide) rfl (by decide) rfl rfl ?_
      refine x_top (e1) ?_
      refine x_int (pc' := 36) (v := nI 3) rfl rfl rfl ?_
      refine x_callV (pc' := 39) (d1 := 1) (Bs := [_, _]) rfl rfl rfl rfl rfl rfl rfl (Nat.le_of_ble_eq_true rfl) ⟨rfl, rfl⟩ (by decide) rfl (by decide) ?_
      refine w_X6_refuse h1 (by omega) (by decide) (fun D9 o9 e9 h9 => ?_)
      refine ⟨rfl, ?_⟩
      refine x_zret rfl rfl (by decide) ?_
      have e : pPart tp S a = (8 * (skp isBk tp a) + 3, S, 0) := by unfold pPart; rw [if_pos hw0, if_pos (by omega)]
      rw [e] at k0
      exact k0 (by show ¬ 8 * _ + 3 = 0; omega) D9 (h9.fl (o1.tr o9).ot)
    · refine x_aload (pc' := 23) rfl rfl rfl ?_
      refine x_aload (pc' := 24) rfl rfl rfl ?_
      refine x_callV (pc' := 27) (d1 := 4) (Bs := [_]) rfl rfl rfl rfl rfl rfl rfl (Nat.le_of_ble_eq_true rfl) ⟨rfl, rfl⟩ (by decide) rfl (by decide) ?_
      refine w_X6_readWriter h1 hW hT1 (by omega) (fun hf D2 o2 h2 t2 => ?_) (fun hf D2 f2 => ?_)
      · refine ⟨rfl, ?_⟩
        refine x_goto rfl ?_
        refine x_zret rfl rfl (by decide) ?_
        have e : pPart tp S a = pWr tp S (skp isLt tp (skp isBk tp a)) := by unfold pPart; rw [if_pos hw0, if_neg (by omega)]
        rw [e] at k1
        exact k1 hf D2 (o1.ot.tr o2) h2 t2
      · refine ⟨rfl, ?_⟩
        refine x_goto rfl ?_
        refine x_zret rfl rfl (by decide) ?_
        have e : pPart tp S a = pWr tp S (skp isLt tp (skp isBk tp a)) := by unfold pPart; rw [if_pos hw0, if_neg (by omega)]
        rw [e] at k0
        exact k0 hf D2 ⟨o1.ot.tr f2.1, f2.2⟩
  · refine ⟨rfl, ?_⟩
    refine x_if_eq (pc' := 13) rfl rfl (fun _ => ?_) (fun c10 => absurd (by decide) c10)
    refine x_aload (pc' := 41) rfl rfl rfl ?_
    refine x_ldcS (pc' := 43) rfl rfl ?_
    refine x_callV (pc' := 46) (d1 := 1) (Bs := [_]) rfl rfl rfl rfl rfl rfl rfl (Nat.le_of_ble_eq_true rfl) ⟨rfl, rfl⟩ (by decide) rfl (by decide) ?_
    refine w_X6_wordIs h1 e1 hsl (wok_all 9 (by decide)) (fun hw9 => ?_) (fun hw9 => ?_)
    · refine ⟨rfl, ?_⟩
      refine x_if_eq (pc' := 49) rfl rfl (fun c46 => absurd c46 (by decide)) (fun _ => ?_)
      refine x_aload (pc' := 50) rfl rfl rfl ?_
      refine x_getI (j := 1) (pc' := 53) rfl rfl rfl (by decide) rfl (by decide) rfl rfl ?_
      refine x_top ((congrFun (congrFun hT1 0) 1).trans hW.enb) ?_
      refine x_int (pc' := 54) (v := nI 4) rfl rfl rfl ?_
      refine y_ic_ge (pc' := 57) rfl rfl (by omega) (by omega) (fun c54 => ?_) (fun c54 => ?_)
      · refine x_aload (pc' := 66) rfl rfl rfl ?_
        refine x_aload (pc' := 67) rfl rfl rfl ?_
        refine x_getI (j := 3) (pc' := 70) rfl rfl rfl (by decide) rfl (by decide) rfl rfl ?_
        refine x_top (e1) ?_
        refine x_int (pc' := 71) (v := nI 3) rfl rfl rfl ?_
        refine x_callV (pc' := 74) (d1 := 1) (Bs := [_, _]) rfl rfl rfl rfl rfl rfl rfl (Nat.le_of_ble_eq_true rfl) ⟨rfl, rfl⟩ (by decide) rfl (by decide) ?_
        refine w_X6_refuse h1 (by omega) (by decide) (fun D9 o9 e9 h9 => ?_)
        refine ⟨rfl, ?_⟩
        refine x_zret rfl rfl (by decide) ?_
        have e : pPart tp S a = (8 * (skp isBk tp a) + 3, S, 0) := by unfold pPart; rw [if_neg (show ¬ wdB tp (skp isBk tp a) (skp isLt tp (skp isBk tp a)) 0 = true by rw [hw0]; decide), if_pos hw9, if_pos (by omega)]
        rw [e] at k0
        exact k0 (by show ¬ 8 * _ + 3 = 0; omega) D9 (h9.fl (o1.tr o9).ot)
      · refine x_aload (pc' := 58) rfl rfl rfl ?_
        refine x_aload (pc' := 59) rfl rfl rfl ?_
        refine x_callV (pc' := 62) (d1 := 3) (Bs := [_]) rfl rfl rfl rfl rfl rfl rfl (Nat.le_of_ble_eq_true rfl) ⟨rfl, rfl⟩ (by decide) rfl (by decide) ?_
        refine w_X6_readBook h1 hW hT1 (by omega) (fun hf D2 o2 h2 t2 => ?_) (fun hf D2 f2 => ?_)
        · refine ⟨rfl, ?_⟩
          refine x_goto rfl ?_
          refine x_zret rfl rfl (by decide) ?_
          have e : pPart tp S a = pBk tp S (skp isLt tp (skp isBk tp a)) := by unfold pPart; rw [if_neg (show ¬ wdB tp (skp isBk tp a) (skp isLt tp (skp isBk tp a)) 0 = true by rw [hw0]; decide), if_pos hw9, if_neg (by omega)]
          rw [e] at k1
          exact k1 hf D2 (o1.ot.tr o2) h2 t2
        · refine ⟨rfl, ?_⟩
          refine x_goto rfl ?_
          refine x_zret rfl rfl (by decide) ?_
          have e : pPart tp S a = pBk tp S (skp isLt tp (skp isBk tp a)) := by unfold pPart; rw [if_neg (show ¬ wdB tp (skp isBk tp a) (skp isLt tp (skp isBk tp a)) 0 = true by rw [hw0]; decide), if_pos hw9, if_neg (by omega)]
          rw [e] at k0
          exact k0 hf D2 ⟨o1.ot.tr f2.1, f2.2⟩
    · refine ⟨rfl, ?_⟩
      refine x_if_eq (pc' := 49) rfl rfl (fun _ => ?_) (fun c46 => absurd (by decide) c46)
      refine x_aload (pc' := 76) rfl rfl rfl ?_
      refine x_aload (pc' := 77) rfl rfl rfl ?_
      refine x_getI (j := 3) (pc' := 80) rfl rfl rfl (by decide) rfl (by decide) rfl rfl ?_
      refine x_top (e1) ?_
      refine x_int (pc' := 81) (v := nI 1) rfl rfl rfl ?_
      refine x_callV (pc' := 84) (d1 := 1) (Bs := [_, _]) rfl rfl rfl rfl rfl rfl rfl (Nat.le_of_ble_eq_true rfl) ⟨rfl, rfl⟩ (by decide) rfl (by decide) ?_
      refine w_X6_refuse h1 (by omega) (by decide) (fun D9 o9 e9 h9 => ?_)
      refine ⟨rfl, ?_⟩
      refine x_zret rfl rfl (by decide) ?_
      have e : pPart tp S a = (8 * (skp isBk tp a) + 1, S, 0) := by unfold pPart; rw [if_neg (show ¬ wdB tp (skp isBk tp a) (skp isLt tp (skp isBk tp a)) 0 = true by rw [hw0]; decide), if_neg (show ¬ wdB tp (skp isBk tp a) (skp isLt tp (skp isBk tp a)) 9 = true by rw [hw9]; decide)]
      rw [e] at k0
      exact k0 (by show ¬ 8 * _ + 1 = 0; omega) D9 (h9.fl (o1.tr o9).ot)
