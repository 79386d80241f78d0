/-! ===== the class: parts ===== -/
def pUn (tp : List Nat) (S : TW) (w a : Nat) : Nat × Nat × Nat := if wdB tp (skp isBk tp a) (skp isLt tp (skp isBk tp a)) 8 = false then (8 * skp isBk tp a + 1, 0, 0) else if ¬ nF tp 0 w (skp isLt tp (skp isBk tp a)) = 0 then (nF tp 0 w (skp isLt tp (skp isBk tp a)), 0, 0) else if pu S w ≤ pu S (nV tp (skp isLt tp (skp isBk tp a))) then (8 * nS tp (skp isLt tp (skp isBk tp a)) + 4, 0, 0) else (0, nV tp (skp isLt tp (skp isBk tp a)), nE tp (skp isLt tp (skp isBk tp a)))
def letB (tp : List Nat) (s : Nat) : Bool := decide (s < tp.length) && isLt (tp.getD s 0)
def digB (tp : List Nat) (s : Nat) : Bool := decide (s < tp.length) && isDg (tp.getD s 0)
def wr3 (tp : List Nat) (S S2 : TW) (w s : Nat) : Nat × TW × Nat := if letB tp s = true then (if ¬ (pUn tp S2 w s).1 = 0 then ((pUn tp S2 w s).1, S, 0) else (0, suS S2 w (pUn tp S2 w s).2.1, (pUn tp S2 w s).2.2)) else (0, S2, s)
def wr2 (tp : List Nat) (S S1 : TW) (w e : Nat) : Nat × TW × Nat := if ¬ (pHab tp e).1 = 0 then ((pHab tp e).1, S, 0) else wr3 tp S (shS S1 w (pHab tp e).2.1 (pHab tp e).2.2.1 (pHab tp e).2.2.2.1) w (skp isBk tp (pHab tp e).2.2.2.2)
def pWr (tp : List Nat) (S : TW) (a : Nat) : Nat × TW × Nat := if ¬ nF tp 0 100 a = 0 then (nF tp 0 100 a, S, 0) else wr2 tp S (awS S (nw S) (nV tp a)) (nw S) (nE tp a)
def bkF (tp : List Nat) (S0 : TW) (b : Nat) : Nat → Nat → TW → Nat → Nat × TW × Nat
  | 0, _, S, a => (0, S, a)
  | f + 1, m, S, a => if ¬ nF tp 0 65536 a = 0 then (nF tp 0 65536 a, S0, 0) else if m = 8 then (8 * nS tp a + 3, S0, 0) else if digB tp (skp isBk tp (nE tp a)) = true then bkF tp S0 b f (m + 1) (apS S b m (nV tp a)) (skp isBk tp (nE tp a)) else (0, apS S b m (nV tp a), skp isBk tp (nE tp a))
def pBk (tp : List Nat) (S : TW) (a : Nat) : Nat × TW × Nat := bkF tp S (nb S) 9 0 (abS S (nb S)) a
def pPart (tp : List Nat) (S : TW) (a : Nat) : Nat × TW × Nat := if wdB tp (skp isBk tp a) (skp isLt tp (skp isBk tp a)) 0 = true then (if nw S = 12 then (8 * skp isBk tp a + 3, S, 0) else pWr tp S (skp isLt tp (skp isBk tp a))) else if wdB tp (skp isBk tp a) (skp isLt tp (skp isBk tp a)) 9 = true then (if nb S = 4 then (8 * skp isBk tp a + 3, S, 0) else pBk tp S (skp isLt tp (skp isBk tp a))) else (8 * skp isBk tp a + 1, S, 0)
def pAll (tp : List Nat) : Nat → TW → Nat → Nat × TW
  | 0, S, _ => (0, S)
  | f + 1, S, a => if ¬ (pPart tp S a).1 = 0 then ((pPart tp S a).1, S) else if tp.length ≤ skp isBk tp (pPart tp S a).2.2 then (0, (pPart tp S a).2.1) else if tp.getD (skp isBk tp (pPart tp S a).2.2) 0 = 59 then pAll tp f (pPart tp S a).2.1 (skp isBk tp (pPart tp S a).2.2 + 1) else (8 * skp isBk tp (pPart tp S a).2.2 + 1, S)
def pTell (tp : List Nat) (S : TW) : Nat × TW := if tp.length ≤ skp isBk tp 0 then (0, emS S) else pAll tp 401 (emS S) (skp isBk tp 0)
theorem letB_1 {tp : List Nat} {s : Nat} (h : s < tp.length) (h2 : 97 ≤ tp.getD s 0 ∧ tp.getD s 0 ≤ 122) : letB tp s = true := by unfold letB isLt; rw [decide_eq_true h, decide_eq_true h2]; rfl
theorem letB_0 {tp : List Nat} {s : Nat} (h : tp.length ≤ s) : ¬ letB tp s = true := by unfold letB; rw [decide_eq_false (by omega)]; exact Bool.false_ne_true
theorem letB_2 {tp : List Nat} {s : Nat} (h2 : ¬ (97 ≤ tp.getD s 0 ∧ tp.getD s 0 ≤ 122)) : ¬ letB tp s = true := by unfold letB isLt; rw [decide_eq_false h2, Bool.and_false]; exact Bool.false_ne_true
theorem digB_1 {tp : List Nat} {s : Nat} (h : s < tp.length) (h2 : 48 ≤ tp.getD s 0 ∧ tp.getD s 0 ≤ 57) : digB tp s = true := by unfold digB isDg; rw [decide_eq_true h, decide_eq_true h2]; rfl
theorem digB_0 {tp : List Nat} {s : Nat} (h : tp.length ≤ s) : ¬ digB tp s = true := by unfold digB; rw [decide_eq_false (by omega)]; exact Bool.false_ne_true
theorem digB_2 {tp : List Nat} {s : Nat} (h2 : ¬ (48 ≤ tp.getD s 0 ∧ tp.getD s 0 ≤ 57)) : ¬ digB tp s = true := by unfold digB isDg; rw [decide_eq_false h2, Bool.and_false]; exact Bool.false_ne_true
set_option maxRecDepth 20000 in
set_option maxHeartbeats 1000000 in
theorem w_X6_readUnder {D : Nat → Nat → Int32} {L : Nat → Nat → Int64} {Q : bh_Q} {tp : List Nat} {S : TW} {a w : Nat} (h : TS D tp a 0) (hT : tvt D 14 = S) (hw : w < 12) (hpu : ∀ u, u ≤ w → S 1 u = nI (pu S u) ∧ pu S u < 100) (k1 : (pUn tp S w a).1 = 0 → ∀ D', OT D D' → TS D' tp (pUn tp S w a).2.2 0 → tvt D' 14 = suS S w (pUn tp S w a).2.1 → Q (some (.int 1)) (hp D' L)) (k0 : ¬ (pUn tp S w a).1 = 0 → ∀ D', FL D D' tp (pUn tp S w a).1 → Q (some (.int 0)) (hp D' L)) : bh_wc 3 m_X6_readUnder [.ref 27, .ref 14, .int (nI w)] (hp D L) Q := by
  refine x_start (lv0 := [_, _, _, _]) (Nat.le_of_ble_eq_true rfl) rfl ?_
  have h4 := h.l4
  have ha := h.2.2.1
  have hskl := skp_le (p := isBk) ha
  have hel := skp_le (p := isLt) hskl
  have hn2 := nS_le (tp := tp) hel
  refine x_aload (pc' := 1) rfl rfl rfl ?_
  refine x_callV (pc' := 4) (d1 := 2) (Bs := []) rfl rfl rfl rfl rfl rfl rfl (Nat.le_of_ble_eq_true rfl) ⟨rfl, rfl⟩ (by decide) rfl (by decide) ?_
  refine w_X6_readWord h (fun D1 o1 h1 e1 => ?_)
  have hsl := skp_ge (p := isLt) (tp := tp) (skp isBk tp a)
  refine ⟨rfl, ?_⟩
  refine x_aload (pc' := 5) rfl rfl rfl ?_
  refine x_ldcS (pc' := 7) rfl rfl ?_
  refine x_callV (pc' := 10) (d1 := 1) (Bs := [_]) rfl rfl rfl rfl rfl rfl rfl (Nat.le_of_ble_eq_true rfl) ⟨rfl, rfl⟩ (by decide) rfl (by decide) ?_
  refine w_X6_wordIs h1 e1 hsl (wok_all 8 (by decide)) (fun hw8 => ?_) (fun hw8 => ?_)
  · refine ⟨rfl, ?_⟩
    refine x_if_ne (pc' := 13) rfl rfl (fun _ => ?_) (fun c10 => absurd c10 (by decide))
    refine x_aload (pc' := 24) rfl rfl rfl ?_
    refine x_int (pc' := 25) (v := nI 0) rfl rfl rfl ?_
    refine x_iload (pc' := 26) rfl rfl rfl ?_
    refine x_int (pc' := 27) (v := nI 1) rfl rfl rfl ?_
    refine x_isub (pc' := 28) rfl rfl ?_
    refine x_callV (pc' := 31) (d1 := 2) (Bs := [_, _]) rfl rfl rfl rfl rfl rfl rfl (Nat.le_of_ble_eq_true rfl) ⟨rfl, rfl⟩ (by decide) rfl (by decide) ?_
    refine w_X6_readNumber (lo := 0) (hi := w) h1 (by decide) (by omega) rfl (fun D2 x2 o2 h2 e2 v2 b2 => ?_)
    refine ⟨rfl, ?_⟩
    have efl2 := h2.2.2.2.2
    refine x_istore (pc' := 32) (lv' := [_, _, _, _]) rfl rfl (by decide) rfl ?_
    refine x_aload (pc' := 33) rfl rfl rfl ?_
    refine x_getI (j := 4) (pc' := 36) rfl rfl rfl (by decide) rfl (by decide) rfl rfl ?_
    refine x_top (h2.ft) ?_
    refine y_if_eq (pc' := 39) rfl rfl (by omega) (fun c36 => ?_) (fun c36 => ?_)
    · have hx2 := v2 c36
      subst hx2
      have hin := nF_in c36
      have hp1 := hpu (nV tp (skp isLt tp (skp isBk tp a))) (by omega)
      have hp2 := hpu w (Nat.le_refl _)
      have o12 := o1.tr o2
      refine x_aload (pc' := 42) rfl rfl rfl ?_
      refine x_getR (pc' := 45) rfl rfl rfl (by decide) rfl (by decide) rfl rfl ?_
      refine x_iload (pc' := 46) rfl rfl rfl ?_
      refine x_iald (pc' := 47) rfl rfl (by decide) rfl (by decide) (show _ < 12 by omega) ?_
      refine x_top (((congrFun (o12 15 (by decide)) _).trans ((congrFun (congrFun hT 1) _).trans hp1.1))) ?_
      refine x_aload (pc' := 48) rfl rfl rfl ?_
      refine x_getR (pc' := 51) rfl rfl rfl (by decide) rfl (by decide) rfl rfl ?_
      refine x_iload (pc' := 52) rfl rfl rfl ?_
      refine x_iald (pc' := 53) rfl rfl (by decide) rfl (by decide) (show _ < 12 by omega) ?_
      refine x_top (((congrFun (o12 15 (by decide)) _).trans ((congrFun (congrFun hT 1) _).trans hp2.1))) ?_
      refine y_ic_lt (pc' := 56) rfl rfl (by omega) (by omega) (fun c53 => ?_) (fun c53 => ?_)
      · refine x_aload (pc' := 67) rfl rfl rfl ?_
        refine x_getR (pc' := 70) rfl rfl rfl (by decide) rfl (by decide) rfl rfl ?_
        refine x_iload (pc' := 71) rfl rfl rfl ?_
        refine x_iload (pc' := 72) rfl rfl rfl ?_
        refine x_iast (pc' := 73) rfl rfl (by decide) rfl (by decide) (show _ < 12 by omega) ?_
        refine x_int (pc' := 74) (v := nI 1) rfl rfl rfl ?_
        refine x_zret rfl rfl (by decide) ?_
        have e : pUn tp S w a = (0, nV tp (skp isLt tp (skp isBk tp a)), nE tp (skp isLt tp (skp isBk tp a))) := by unfold pUn; rw [if_neg (show ¬ wdB tp (skp isBk tp a) (skp isLt tp (skp isBk tp a)) 8 = false by rw [hw8]; decide), if_neg (fun z => z c36), if_neg (by omega)]
        rw [e] at k1
        rw [c36] at h2
        exact k1 rfl _ ((o1.tr o2).ot.tr (OT.up (by decide) (by decide))) (h2.u (by decide) (by decide)) (by rw [tvt_up (j := 5) rfl (by decide), o2.t, o1.t, hT]; rfl)
      · refine x_aload (pc' := 57) rfl rfl rfl ?_
        refine x_aload (pc' := 58) rfl rfl rfl ?_
        refine x_getI (j := 3) (pc' := 61) rfl rfl rfl (by decide) rfl (by decide) rfl rfl ?_
        refine x_top (e2) ?_
        refine x_int (pc' := 62) (v := nI 4) rfl rfl rfl ?_
        refine x_callV (pc' := 65) (d1 := 1) (Bs := [_, _]) rfl rfl rfl rfl rfl rfl rfl (Nat.le_of_ble_eq_true rfl) ⟨rfl, rfl⟩ (by decide) rfl (by decide) ?_
        refine w_X6_refuse h2 (by omega) (by decide) (fun D9 o9 e9 h9 => ?_)
        refine ⟨rfl, ?_⟩
        refine x_zret rfl rfl (by decide) ?_
        have e : pUn tp S w a = (8 * nS tp (skp isLt tp (skp isBk tp a)) + 4, 0, 0) := by unfold pUn; rw [if_neg (show ¬ wdB tp (skp isBk tp a) (skp isLt tp (skp isBk tp a)) 8 = false by rw [hw8]; decide), if_neg (fun z => z c36), if_pos c53]
        rw [e] at k0
        exact k0 (by show ¬ 8 * _ + 4 = 0; omega) D9 (h9.fl ((o1.tr o2).tr o9).ot)
    · refine x_int (pc' := 40) (v := nI 0) rfl rfl rfl ?_
      refine x_zret rfl rfl (by decide) ?_
      have e : pUn tp S w a = (nF tp 0 w (skp isLt tp (skp isBk tp a)), 0, 0) := by unfold pUn; rw [if_neg (show ¬ wdB tp (skp isBk tp a) (skp isLt tp (skp isBk tp a)) 8 = false by rw [hw8]; decide), if_pos c36]
      rw [e] at k0
      exact k0 c36 D2 (h2.fl (o1.tr o2).ot)
  · refine ⟨rfl, ?_⟩
    refine x_if_ne (pc' := 13) rfl rfl (fun c10 => absurd (by decide) c10) (fun _ => ?_)
    refine x_aload (pc' := 14) rfl rfl rfl ?_
    refine x_aload (pc' := 15) rfl rfl rfl ?_
    refine x_getI (j := 3) (pc' := 18) rfl rfl rfl (by decide) rfl (by decide) rfl rfl ?_
    refine x_top (e1) ?_
    refine x_int (pc' := 19) (v := nI 1) rfl rfl rfl ?_
    refine x_callV (pc' := 22) (d1 := 1) (Bs := [_, _]) rfl rfl rfl rfl rfl rfl rfl (Nat.le_of_ble_eq_true rfl) ⟨rfl, rfl⟩ (by decide) rfl (by decide) ?_
    refine w_X6_refuse h1 (by omega) (by decide) (fun D9 o9 e9 h9 => ?_)
    refine ⟨rfl, ?_⟩
    refine x_zret rfl rfl (by decide) ?_
    have e : pUn tp S w a = (8 * (skp isBk tp a) + 1, 0, 0) := if_pos hw8
    rw [e] at k0
    exact k0 (by show ¬ 8 * _ + 1 = 0; omega) D9 (h9.fl (o1.tr o9).ot)
set_option maxRecDepth 20000 in
set_option maxHeartbeats 1000000 in
theorem w_X6_readSemicolon {D : Nat → Nat → Int32} {L : Nat → Nat → Int64} {Q : bh_Q} {tp : List Nat} {a : Nat} (h : TS D tp a 0) (kE : tp.length ≤ skp isBk tp a → ∀ D', O27 D D' → TS D' tp (skp isBk tp a) 0 → Q (some (.int 0)) (hp D' L)) (k1 : skp isBk tp a < tp.length → tp.getD (skp isBk tp a) 0 = 59 → ∀ D', O27 D D' → TS D' tp (skp isBk tp a + 1) 0 → Q (some (.int 1)) (hp D' L)) (k0 : skp isBk tp a < tp.length → ¬ tp.getD (skp isBk tp a) 0 = 59 → ∀ D', FL D D' tp (8 * skp isBk tp a + 1) → Q (some (.int 0)) (hp D' L)) : bh_wc 2 m_X6_readSemicolon [.ref 27] (hp D L) Q := by
  refine x_start (lv0 := [_]) (Nat.le_of_ble_eq_true rfl) rfl ?_
  have h4 := h.l4
  have ha := h.2.2.1
  have hskl := skp_le (p := isBk) ha
  refine x_aload (pc' := 1) rfl rfl rfl ?_
  refine x_callV (pc' := 4) (d1 := 1) (Bs := []) rfl rfl rfl rfl rfl rfl rfl (Nat.le_of_ble_eq_true rfl) ⟨rfl, rfl⟩ (by decide) rfl (by decide) ?_
  refine w_X6_skipBlanks h (fun D1 o1 h1 e1 => ?_)
  refine ⟨rfl, ?_⟩
  refine x_aload (pc' := 5) rfl rfl rfl ?_
  refine x_getI (j := 2) (pc' := 8) rfl rfl rfl (by decide) rfl (by decide) rfl rfl ?_
  refine x_top (h1.at) ?_
  refine x_aload (pc' := 9) rfl rfl rfl ?_
  refine x_getI (j := 1) (pc' := 12) rfl rfl rfl (by decide) rfl (by decide) rfl rfl ?_
  refine x_top (h1.len) ?_
  refine y_ic_lt (pc' := 15) rfl rfl (by first | omega | (have := h1.b2 (i := skp isBk tp a) (by omega); omega)) (by first | omega | (have := h1.b2 (i := skp isBk tp a) (by omega); omega)) (fun c12 => ?_) (fun c12 => ?_)
  · refine x_aload (pc' := 18) rfl rfl rfl ?_
    refine x_getR (pc' := 21) rfl rfl rfl (by decide) rfl (by decide) rfl rfl ?_
    refine x_aload (pc' := 22) rfl rfl rfl ?_
    refine x_getI (j := 2) (pc' := 25) rfl rfl rfl (by decide) rfl (by decide) rfl rfl ?_
    refine x_top (h1.at) ?_
    refine x_iald (pc' := 26) rfl rfl (by decide) rfl (by decide) (show _ < 400 by omega) ?_
    refine x_top (h1.by (by omega)) ?_
    refine x_int (pc' := 28) (v := nI 59) rfl rfl rfl ?_
    refine y_ic_eq (pc' := 31) rfl rfl (by first | omega | (have := h1.b2 (i := skp isBk tp a) (by omega); omega)) (by first | omega | (have := h1.b2 (i := skp isBk tp a) (by omega); omega)) (fun c28 => ?_) (fun c28 => ?_)
    · refine x_aload (pc' := 42) rfl rfl rfl ?_
      refine x_dup (pc' := 43) rfl rfl rfl ?_
      refine x_getI (j := 2) (pc' := 46) rfl rfl rfl (by decide) rfl (by decide) rfl rfl ?_
      refine x_top (h1.at) ?_
      refine x_int (pc' := 47) (v := nI 1) rfl rfl rfl ?_
      refine y_iadd (pc' := 48) rfl rfl ?_
      refine x_putI (j := 2) (pc' := 51) rfl rfl rfl (by decide) rfl (by decide) rfl rfl ?_
      refine x_int (pc' := 52) (v := nI 1) rfl rfl rfl ?_
      refine x_zret rfl rfl (by decide) ?_
      exact k1 c12 c28 _ (o1.tr O27.up) (h1.a (by omega))
    · refine x_aload (pc' := 32) rfl rfl rfl ?_
      refine x_aload (pc' := 33) rfl rfl rfl ?_
      refine x_getI (j := 2) (pc' := 36) rfl rfl rfl (by decide) rfl (by decide) rfl rfl ?_
      refine x_top (h1.at) ?_
      refine x_int (pc' := 37) (v := nI 1) rfl rfl rfl ?_
      refine x_callV (pc' := 40) (d1 := 1) (Bs := [_, _]) rfl rfl rfl rfl rfl rfl rfl (Nat.le_of_ble_eq_true rfl) ⟨rfl, rfl⟩ (by decide) rfl (by decide) ?_
      refine w_X6_refuse h1 (by omega) (by decide) (fun D9 o9 e9 h9 => ?_)
      refine ⟨rfl, ?_⟩
      refine x_zret rfl rfl (by decide) ?_
      exact k0 c12 c28 D9 (h9.fl (o1.tr o9).ot)
  · refine x_int (pc' := 16) (v := nI 0) rfl rfl rfl ?_
    refine x_zret rfl rfl (by decide) ?_
    exact kE c12 D1 o1 h1
