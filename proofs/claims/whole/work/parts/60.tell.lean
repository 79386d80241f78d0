/-! ===== the class: tell ===== -/
theorem pAll_s {tp : List Nat} {f a : Nat} {S : TW} : pAll tp (f + 1) S a = if ¬ (pPart tp S a).1 = 0 then ((pPart tp S a).1, S) else if tp.length ≤ skp isBk tp (pPart tp S a).2.2 then (0, (pPart tp S a).2.1) else if tp.getD (skp isBk tp (pPart tp S a).2.2) 0 = 59 then pAll tp f (pPart tp S a).2.1 (skp isBk tp (pPart tp S a).2.2 + 1) else (8 * skp isBk tp (pPart tp S a).2.2 + 1, S) := rfl
theorem OT.pc {D D' : Nat → Nat → Int32} {tp : List Nat} (o : OT D D') (h : PC D tp) (e : D' 27 1 = D 27 1) : PC D' tp := by
  unfold PC
  rw [o 28 (by decide) (by decide), e]
  exact h
set_option maxRecDepth 20000 in
set_option maxHeartbeats 1000000 in
theorem l_X6_readInto {L : Nat → Nat → Int64} {Q : bh_Q} {d : Nat} (hd : 5 ≤ d) {tp : List Nat} {R : Nat × TW} {D0 : Nat → Nat → Int32} (k1 : ∀ S', (0, S') = R → ∀ D', OT D0 D' → PC D' tp → tvt D' 14 = S' → Q (some (.int (nI 0))) (hp D' L)) (k0 : ∀ f S', ¬ f = 0 → f < 10000 → (f, S') = R → ∀ D', OT D0 D' → PC D' tp → Q (some (.int (nI f))) (hp D' L)) : ∀ (f : Nat) (S : TW) (a i : Nat) (D : Nat → Nat → Int32), i + f = 401 → i ≤ a → TS D tp a 0 → WF S → tvt D 14 = S → OT D0 D → pAll tp f S a = R → bw m_X6_readInto d Q 37 [.ref 27, .ref 14, .int (nI 1), .int (nI i)] [] D L := by
  intro f
  induction f with
  | zero =>
    intro S a i D hf hia h hW hT o hr
    have h4 := h.l4
    have ha := h.2.2.1
    omega
  | succ f ih =>
    intro S a i D hf2 hia h hW hT o hr
    have h4 := h.l4
    have ha := h.2.2.1
    refine x_iload (pc' := 38) rfl rfl rfl ?_
    refine x_if_eq (pc' := 41) rfl rfl (fun c38 => absurd c38 (by decide)) (fun _ => ?_)
    refine x_iload (pc' := 42) rfl rfl rfl ?_
    refine x_int (pc' := 45) (v := nI 400) rfl rfl rfl ?_
    refine y_ic_gt (pc' := 48) rfl rfl (by omega) (by omega) (fun c45 => ?_) (fun c45 => ?_)
    · exact absurd c45 (by omega)
    · refine x_aload (pc' := 49) rfl rfl rfl ?_
      refine x_aload (pc' := 50) rfl rfl rfl ?_
      refine x_callV (pc' := 53) (d1 := 5) (Bs := [_]) rfl rfl rfl rfl rfl rfl rfl (Nat.le_of_ble_eq_true rfl) ⟨rfl, rfl⟩ (by decide) rfl (by omega) ?_
      refine w_X6_readPart h hW hT (fun hf D1 o1 h1 t1 => ?_) (fun hf D1 f1 => ?_)
      · have hok := pPart_ok hW hf
        have hsk := skp_ge (p := isBk) (tp := tp) (pPart tp S a).2.2
        refine ⟨rfl, ?_⟩
        refine x_if_eq (pc' := 56) rfl rfl (fun c53 => absurd c53 (by decide)) (fun _ => ?_)
        refine x_aload (pc' := 57) rfl rfl rfl ?_
        refine x_callV (pc' := 60) (d1 := 2) (Bs := []) rfl rfl rfl rfl rfl rfl rfl (Nat.le_of_ble_eq_true rfl) ⟨rfl, rfl⟩ (by decide) rfl (by omega) ?_
        refine w_X6_readSemicolon h1 (fun hc D2 o2 h2 => ?_) (fun hc hs D2 o2 h2 => ?_) (fun hc hs D2 f2 => ?_)
        · refine ⟨rfl, ?_⟩
          refine x_if_eq (pc' := 63) rfl rfl (fun _ => ?_) (fun c60 => absurd (by decide) c60)
          refine x_int (pc' := 68) (v := nI 0) rfl rfl rfl ?_
          refine x_istore (pc' := 69) (lv' := [_, _, _, _]) rfl rfl (by decide) rfl ?_
          refine y_inc (pc' := 72) (lv' := [_, _, _, _]) rfl rfl rfl (by decide) rfl ?_
          refine x_goto rfl ?_
          refine x_iload (pc' := 38) rfl rfl rfl ?_
          refine x_if_eq (pc' := 41) rfl rfl (fun _ => ?_) (fun c38 => absurd (by decide) c38)
          refine x_aload (pc' := 76) rfl rfl rfl ?_
          refine x_getI (j := 4) (pc' := 79) rfl rfl rfl (by decide) rfl (by decide) rfl rfl ?_
          refine x_top (h2.ft) ?_
          refine x_iret rfl rfl ?_
          have e : pAll tp (f + 1) S a = (0, (pPart tp S a).2.1) := by rw [pAll_s, if_neg (fun z => z hf), if_pos hc]
          rw [e] at hr
          exact k1 _ hr D2 (o.tr (o1.tr o2.ot)) h2.1 (o2.t.trans t1)
        · refine ⟨rfl, ?_⟩
          refine x_if_eq (pc' := 63) rfl rfl (fun c60 => absurd c60 (by decide)) (fun _ => ?_)
          refine x_int (pc' := 64) (v := nI 1) rfl rfl rfl ?_
          refine x_goto rfl ?_
          refine x_istore (pc' := 69) (lv' := [_, _, _, _]) rfl rfl (by decide) rfl ?_
          refine y_inc (pc' := 72) (lv' := [_, _, _, _]) rfl rfl rfl (by decide) rfl ?_
          refine x_goto rfl ?_
          have e : pAll tp (f + 1) S a = pAll tp f (pPart tp S a).2.1 (skp isBk tp (pPart tp S a).2.2 + 1) := by rw [pAll_s, if_neg (fun z => z hf), if_neg (by omega), if_pos hs]
          rw [e] at hr
          exact ih _ _ (i + 1) D2 (by omega) (by have := hok.2; omega) h2 hok.1 (o2.t.trans t1) (o.tr (o1.tr o2.ot)) hr
        · refine ⟨rfl, ?_⟩
          refine x_if_eq (pc' := 63) rfl rfl (fun _ => ?_) (fun c60 => absurd (by decide) c60)
          refine x_int (pc' := 68) (v := nI 0) rfl rfl rfl ?_
          refine x_istore (pc' := 69) (lv' := [_, _, _, _]) rfl rfl (by decide) rfl ?_
          refine y_inc (pc' := 72) (lv' := [_, _, _, _]) rfl rfl rfl (by decide) rfl ?_
          refine x_goto rfl ?_
          refine x_iload (pc' := 38) rfl rfl rfl ?_
          refine x_if_eq (pc' := 41) rfl rfl (fun _ => ?_) (fun c38 => absurd (by decide) c38)
          refine x_aload (pc' := 76) rfl rfl rfl ?_
          refine x_getI (j := 4) (pc' := 79) rfl rfl rfl (by decide) rfl (by decide) rfl rfl ?_
          refine x_top (f2.2.2.1) ?_
          refine x_iret rfl rfl ?_
          have e : pAll tp (f + 1) S a = (8 * skp isBk tp (pPart tp S a).2.2 + 1, S) := by rw [pAll_s, if_neg (fun z => z hf), if_neg (by omega), if_neg hs]
          rw [e] at hr
          exact k0 _ _ (by omega) f2.2.2.2 hr D2 (o.tr (o1.tr f2.1)) f2.2.1
      · refine ⟨rfl, ?_⟩
        refine x_if_eq (pc' := 56) rfl rfl (fun _ => ?_) (fun c53 => absurd (by decide) c53)
        refine x_int (pc' := 68) (v := nI 0) rfl rfl rfl ?_
        refine x_istore (pc' := 69) (lv' := [_, _, _, _]) rfl rfl (by decide) rfl ?_
        refine y_inc (pc' := 72) (lv' := [_, _, _, _]) rfl rfl rfl (by decide) rfl ?_
        refine x_goto rfl ?_
        refine x_iload (pc' := 38) rfl rfl rfl ?_
        refine x_if_eq (pc' := 41) rfl rfl (fun _ => ?_) (fun c38 => absurd (by decide) c38)
        refine x_aload (pc' := 76) rfl rfl rfl ?_
        refine x_getI (j := 4) (pc' := 79) rfl rfl rfl (by decide) rfl (by decide) rfl rfl ?_
        refine x_top (f1.2.2.1) ?_
        refine x_iret rfl rfl ?_
        have e : pAll tp (f + 1) S a = ((pPart tp S a).1, S) := by rw [pAll_s, if_pos hf]
        rw [e] at hr
        exact k0 _ _ hf f1.2.2.2 hr D1 (o.tr f1.1) f1.2.1
set_option maxRecDepth 20000 in
set_option maxHeartbeats 1000000 in
theorem w_X6_readInto {D : Nat → Nat → Int32} {L : Nat → Nat → Int64} {Q : bh_Q} {tp : List Nat} (hP : PC D tp) (hs : ∀ i, i < 384 → is (D 25 i) 65536) (k1 : (pTell tp (tvt D 14)).1 = 0 → ∀ D', OT D D' → PC D' tp → tvt D' 14 = (pTell tp (tvt D 14)).2 → Q (some (.int (nI 0))) (hp D' L)) (k0 : ¬ (pTell tp (tvt D 14)).1 = 0 → (pTell tp (tvt D 14)).1 < 10000 → ∀ D', OT D D' → PC D' tp → Q (some (.int (nI (pTell tp (tvt D 14)).1))) (hp D' L)) : bh_wc 6 m_X6_readInto [.ref 27, .ref 14] (hp D L) Q := by
  refine x_start (lv0 := [_, _, _, _]) (Nat.le_of_ble_eq_true rfl) rfl ?_
  have hE := emS_wf (S := tvt D 14) hs
  refine x_aload (pc' := 1) rfl rfl rfl ?_
  refine x_callV (pc' := 4) (d1 := 1) (Bs := []) rfl rfl rfl rfl rfl rfl rfl (Nat.le_of_ble_eq_true rfl) ⟨rfl, rfl⟩ (by decide) rfl (by decide) ?_
  refine w14_empty ?_
  refine ⟨rfl, ?_⟩
  refine x_aload (pc' := 5) rfl rfl rfl ?_
  refine x_int (pc' := 6) (v := nI 0) rfl rfl rfl ?_
  refine x_putI (j := 2) (pc' := 9) rfl rfl rfl (by decide) rfl (by decide) rfl rfl ?_
  refine x_aload (pc' := 10) rfl rfl rfl ?_
  refine x_int (pc' := 11) (v := nI 0) rfl rfl rfl ?_
  refine x_putI (j := 4) (pc' := 14) rfl rfl rfl (by decide) rfl (by decide) rfl rfl ?_
  have oE : OT D (bh_up2 (bh_up2 (bh_up2 (bh_up2 (bh_up2 (bh_up2 (bh_up2 (bh_up2 D 14 0 (nI 0)) 14 1 (nI 0)) 14 2 (nI 0)) 14 3 (nI 0)) 14 4 (nI 0)) 14 5 (nI 0)) 27 2 (nI 0)) 27 4 (nI 0)) := fun q g1 g2 => by
    rw [bh_up2_ne _ _ _ g1, bh_up2_ne _ _ _ g1, bh_up2_ne _ _ _ (by omega), bh_up2_ne _ _ _ (by omega), bh_up2_ne _ _ _ (by omega), bh_up2_ne _ _ _ (by omega), bh_up2_ne _ _ _ (by omega), bh_up2_ne _ _ _ (by omega)]
  have hTe : tvt (bh_up2 (bh_up2 (bh_up2 (bh_up2 (bh_up2 (bh_up2 (bh_up2 (bh_up2 D 14 0 (nI 0)) 14 1 (nI 0)) 14 2 (nI 0)) 14 3 (nI 0)) 14 4 (nI 0)) 14 5 (nI 0)) 27 2 (nI 0)) 27 4 (nI 0)) 14 = emS (tvt D 14) := by
    rw [(O27.up (j := 4)).t, (O27.up (j := 2)).t, tvt_up (j := 0) rfl (by decide), tvt_up (j := 0) rfl (by decide), tvt_up (j := 0) rfl (by decide), tvt_up (j := 0) rfl (by decide), tvt_up (j := 0) rfl (by decide), tvt_up (j := 0) rfl (by decide)]
    rfl
  have hTS : TS (bh_up2 (bh_up2 (bh_up2 (bh_up2 (bh_up2 (bh_up2 (bh_up2 (bh_up2 D 14 0 (nI 0)) 14 1 (nI 0)) 14 2 (nI 0)) 14 3 (nI 0)) 14 4 (nI 0)) 14 5 (nI 0)) 27 2 (nI 0)) 27 4 (nI 0)) tp 0 0 := ⟨oE.pc hP (by rw [up2_o (by decide), up2_o (by decide)]; rfl), (up2_o (by decide)).trans (bh_up2_self _ _ _ _), Nat.zero_le _, bh_up2_self _ _ _ _, by decide⟩
  refine x_aload (pc' := 15) rfl rfl rfl ?_
  refine x_callV (pc' := 18) (d1 := 1) (Bs := []) rfl rfl rfl rfl rfl rfl rfl (Nat.le_of_ble_eq_true rfl) ⟨rfl, rfl⟩ (by decide) rfl (by decide) ?_
  refine w_X6_skipBlanks hTS (fun D2 o2 h2 e2 => ?_)
  refine ⟨rfl, ?_⟩
  refine x_aload (pc' := 19) rfl rfl rfl ?_
  refine x_getI (j := 2) (pc' := 22) rfl rfl rfl (by decide) rfl (by decide) rfl rfl ?_
  refine x_top (h2.at) ?_
  refine x_aload (pc' := 23) rfl rfl rfl ?_
  refine x_getI (j := 1) (pc' := 26) rfl rfl rfl (by decide) rfl (by decide) rfl rfl ?_
  refine x_top (h2.len) ?_
  refine y_ic_ge (pc' := 29) rfl rfl (by (have := h2.l4; have := h2.2.2.1; omega)) (by (have := h2.l4; have := h2.2.2.1; omega)) (fun c26 => ?_) (fun c26 => ?_)
  · refine x_int (pc' := 34) (v := nI 0) rfl rfl rfl ?_
    refine x_istore (pc' := 35) (lv' := [_, _, _, _]) rfl rfl (by decide) rfl ?_
    refine x_int (pc' := 36) (v := nI 0) rfl rfl rfl ?_
    refine x_istore (pc' := 37) (lv' := [_, _, _, _]) rfl rfl (by decide) rfl ?_
    refine x_iload (pc' := 38) rfl rfl rfl ?_
    refine x_if_eq (pc' := 41) rfl rfl (fun _ => ?_) (fun c38 => absurd (by decide) c38)
    refine x_aload (pc' := 76) rfl rfl rfl ?_
    refine x_getI (j := 4) (pc' := 79) rfl rfl rfl (by decide) rfl (by decide) rfl rfl ?_
    refine x_top (h2.ft) ?_
    refine x_iret rfl rfl ?_
    have e : pTell tp (tvt D 14) = (0, emS (tvt D 14)) := if_pos c26
    rw [e] at k1
    exact k1 rfl D2 (oE.tr o2.ot) h2.1 (o2.t.trans hTe)
  · refine x_int (pc' := 30) (v := nI 1) rfl rfl rfl ?_
    refine x_goto rfl ?_
    refine x_istore (pc' := 35) (lv' := [_, _, _, _]) rfl rfl (by decide) rfl ?_
    refine x_int (pc' := 36) (v := nI 0) rfl rfl rfl ?_
    refine x_istore (pc' := 37) (lv' := [_, _, _, _]) rfl rfl (by decide) rfl ?_
    have e : pTell tp (tvt D 14) = pAll tp 401 (emS (tvt D 14)) (skp isBk tp 0) := if_neg (by omega)
    refine l_X6_readInto (d := 5) (Nat.le_refl _) (R := pTell tp (tvt D 14)) (D0 := D) (fun S2 er D5 o5 p5 t5 => ?_) (fun f S2 hf hfl er D5 o5 p5 => ?_) 401 (emS (tvt D 14)) (skp isBk tp 0) 0 D2 rfl (Nat.zero_le _) h2 hE.1 (o2.t.trans hTe) (oE.tr o2.ot) e.symm
    · rw [← er] at k1; exact k1 rfl D5 o5 p5 t5
    · rw [← er] at k0; exact k0 hf hfl D5 o5 p5
