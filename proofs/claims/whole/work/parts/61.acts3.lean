/-! ===== tell, end, undo, keep, back of the class, over the whole state ===== -/
theorem KC.off {D D' : Nat → Nat → Int32} {sh : Nat → Option TW} (h : KC D sh) (e : D' 0 15 = D 0 15) (c : ∀ k, 179 ≤ k → k < 205 → D' k = D k) : KC D' sh := by
  obtain ⟨kp, b1, b2, b3⟩ := h
  refine ⟨kp, b1, by rw [e]; exact b2, fun s hs => ⟨(b3 s hs).1, fun T hT => ?_⟩⟩
  rw [tvt_off (D := D) (fun i hi => c _ (by omega) (by omega))]
  exact (b3 s hs).2 T hT
theorem HC.off {D D' : Nat → Nat → Int32} {ps : List TW} (h : HC D ps) (e13 : D' 0 13 = D 0 13) (e14 : D' 0 14 = D 0 14) (c : ∀ k, 49 ≤ k → k < 179 → D' k = D k) : HC D' ps := by
  obtain ⟨a1, a2, e, a3, a4, a5⟩ := h
  refine ⟨a1, by rw [e14]; exact a2, e, a3, by rw [e13]; exact a4, fun j hj => ?_⟩
  rw [tvt_off (D := D) (fun i hi => c _ (by omega) (by omega))]
  exact a5 j hj
theorem HC.nil {D D' : Nat → Nat → Int32} {ps : List TW} (h : HC D ps) (e13 : D' 0 13 = D 0 13) (e14 : D' 0 14 = nI 0) : HC D' [] := by
  obtain ⟨a1, a2, e, a3, a4, a5⟩ := h
  exact ⟨Nat.zero_le _, e14, e, a3, by rw [e13]; exact a4, fun j hj => absurd hj (Nat.not_lt_zero j)⟩
theorem PC.off {D D' : Nat → Nat → Int32} {tp : List Nat} (h : PC D tp) (e1 : D' 27 1 = D 27 1) (c : D' 28 = D 28) : PC D' tp := by
  unfold PC
  rw [e1, c]
  exact h
theorem v_X9_undo {D : Nat → Nat → Int32} {L : Nat → Nat → Int64} {Q : bh_Q} {ps : List TW} {sh : Nat → Option TW} {tp : List Nat} (hI : InvC D ps sh tp) (k0 : ps = [] → Q (some (.int (-1))) (hp D L)) (k1 : ∀ T qs, ps = T :: qs → ∀ D', (∀ k, 205 ≤ k → D' k = D k) → TE T (tv D') → InvC D' qs sh tp → Q (some (.int (nI (ps.length - 1)))) (hp D' L)) : bh_wc 3 m_X9_undo [.ref 0] (hp D L) Q := by
  obtain ⟨hH, hK, hP, h25⟩ := hI
  refine w_X9_undo hH k0 (fun T qs e D' c e15 te hH' => k1 T qs e D' (fun k hk => c k (by omega)) te ⟨hH', hK.off e15 (fun k a _ => c k (by omega)), hP.off (by rw [c 27 (by decide)]) (c 28 (by decide)), by rw [c 25 (by decide)]; exact h25⟩)
theorem v_X9_keep {D : Nat → Nat → Int32} {L : Nat → Nat → Int64} {Q : bh_Q} {ps : List TW} {sh : Nat → Option TW} {tp : List Nat} {x : Int32} (hW : WF (tv D)) (hI : InvC D ps sh tp) (k0 : ¬ okN 2 x → Q (some (.int (-1))) (hp D L)) (k1 : ∀ s, s < 2 → x = nI s → ∀ D', (∀ k, 205 ≤ k → D' k = D k) → tv D' = tv D → InvC D' ps (fun i => if i = s then some (tv D) else sh i) tp → Q (some (.int (nI (nw (tv D))))) (hp D' L)) : bh_wc 3 m_X9_keep [.ref 0, .int x] (hp D L) Q := by
  obtain ⟨hH, hK, hP, h25⟩ := hI
  refine w_X9_keep hW hK k0 (fun s hs e D' c e13 e14 hK' => k1 s hs e D' (fun k hk => c k (by omega) (by omega)) (tvt_off (t := 1) (fun j hj => c _ (by omega) (by omega))) ⟨hH.off e13 e14 (fun k a b => c k (by omega) (by omega)), hK', hP.off (by rw [c 27 (by decide) (by decide)]) (c 28 (by decide) (by decide)), by rw [c 25 (by decide) (by decide)]; exact h25⟩)

set_option maxRecDepth 20000 in
set_option maxHeartbeats 1000000 in
theorem v_X9_back {D : Nat → Nat → Int32} {L : Nat → Nat → Int64} {Q : bh_Q} {ps : List TW} {sh : Nat → Option TW} {tp : List Nat} {x : Int32} (hI : InvC D ps sh tp) (hG : GS sh) (k0 : ¬ okN 2 x → Q (some (.int (-1))) (hp D L)) (k2 : ∀ s, s < 2 → x = nI s → sh s = none → Q (some (.int (-2))) (hp D L)) (k1 : ∀ s, s < 2 → x = nI s → ∀ T, sh s = some T → ∀ D', (∀ k, 205 ≤ k → D' k = D k) → TE T (tv D') → InvC D' [] sh tp → Q (some (.int (nI (nw T)))) (hp D' L)) : bh_wc 3 m_X9_back [.ref 0, .int x] (hp D L) Q := by
  refine x_start (lv0 := [_, _]) (Nat.le_of_ble_eq_true rfl) rfl ?_
  obtain ⟨hH, hK, hP, h25⟩ := hI
  have hK0 := hK
  obtain ⟨kp, hkp, hk, hks⟩ := hK0
  refine x_iload (pc' := 1) rfl rfl rfl ?_
  refine x_callS (pc' := 4) (d1 := 1) (As := [_]) rfl rfl rfl rfl (by decide) rfl rfl (Nat.le_of_ble_eq_true rfl) ⟨rfl, rfl⟩ (by decide) ?_
  refine w_X9_isShelf (fun s hs e => ?_) (fun h1 => ?_)
  · subst e
    have ht := (sr s hs).2
    refine ⟨rfl, ?_⟩
    refine x_if_ne (pc' := 7) rfl rfl (fun _ => ?_) (fun c4 => absurd c4 (by decide))
    refine x_aload (pc' := 10) rfl rfl rfl ?_
    refine x_getI (j := 15) (pc' := 13) rfl rfl rfl (by decide) rfl (by decide) rfl rfl ?_
    refine x_top (hk) ?_
    refine x_iload (pc' := 14) rfl rfl rfl ?_
    refine y_ishr (pc' := 15) rfl rfl (by omega) (by omega) ?_
    refine x_int (pc' := 16) (v := nI 1) rfl rfl rfl ?_
    refine y_iand (pc' := 17) rfl rfl ?_
    refine y_if_ne (pc' := 20) rfl rfl (and1 _) (fun c17 => ?_) (fun c17 => ?_)
    · have hbs : (sh s).isSome = true := by rw [← (hks s hs).1, ← Bool.not_eq_false]; exact fun e => c17 (tb0.mpr e)
      obtain ⟨T, hT⟩ := Option.isSome_iff_exists.mp hbs
      refine x_aload (pc' := 24) rfl rfl rfl ?_
      refine x_getR (pc' := 27) rfl rfl rfl (by decide) rfl (by decide) rfl rfl ?_
      refine x_aload (pc' := 28) rfl rfl rfl ?_
      refine x_getR (pc' := 31) rfl rfl rfl (by decide) rfl (by decide) rfl rfl ?_
      refine x_iload (pc' := 32) rfl rfl rfl ?_
      refine x_aald (pc' := 33) rfl rfl (by decide) rfl (by decide) hs (sr s hs).1 ?_
      refine x_callV (pc' := 36) (d1 := 2) (Bs := [_]) rfl rfl rfl rfl rfl rfl rfl (Nat.le_of_ble_eq_true rfl) ⟨rfl, rfl⟩ (by decide) rfl (by decide) ?_
      refine w_X7_copyFrom (by decide) ht (by omega) (fun D1 c1 => ?_)
      refine ⟨rfl, ?_⟩
      have hte : TE T (tv D1) := ((hks s hs).2 T hT).tr c1.te
      have hw1 : (bh_up2 D1 0 14 (nI 0)) 1 0 = nI (nw T) := (hte 0 (by decide) 0 (by decide)).trans (hG s hs T hT).enw
      refine x_aload (pc' := 37) rfl rfl rfl ?_
      refine x_int (pc' := 38) (v := nI 0) rfl rfl rfl ?_
      refine x_putI (j := 14) (pc' := 41) rfl rfl rfl (by decide) rfl (by decide) rfl rfl ?_
      refine x_aload (pc' := 42) rfl rfl rfl ?_
      refine x_getR (pc' := 45) rfl rfl rfl (by decide) rfl (by decide) rfl rfl ?_
      refine x_getI (j := 0) (pc' := 48) rfl rfl rfl (by decide) rfl (by decide) rfl rfl ?_
      refine x_top (hw1) ?_
      refine x_iret rfl rfl ?_
      have hc : ∀ k, k ≠ 0 → 14 ≤ k → bh_up2 D1 0 14 (nI 0) k = D k := fun k hk0 hk => by rw [bh_up2_ne _ _ _ hk0, c1.2 k (by omega)]
      have e0 : ∀ j, j ≠ 14 → bh_up2 D1 0 14 (nI 0) 0 j = D 0 j := fun j hj => by rw [up2_o hj, c1.2 0 (by omega)]
      refine k1 s hs rfl T hT _ (fun k hk => hc k (by omega) (by omega)) (by rw [show tv (bh_up2 D1 0 14 (nI 0)) = tv D1 from tvt_off (t := 1) (fun j _ => bh_up2_ne _ _ _ (by omega))]; exact hte) ⟨hH.nil (e0 13 (by decide)) (bh_up2_self _ _ _ _), hK.off (e0 15 (by decide)) (fun k a b => hc k (by omega) (by omega)), hP.off (by rw [hc 27 (by decide) (by decide)]) (hc 28 (by decide) (by decide)), by rw [hc 25 (by decide) (by decide)]; exact h25⟩
    · refine x_int (pc' := 22) (v := (-2)) rfl rfl rfl ?_
      refine x_iret rfl rfl ?_
      refine k2 s hs rfl ?_
      have := (hks s hs).1
      rw [tb0.mp c17] at this
      cases h : sh s with
      | none => rfl
      | some T => rw [h] at this; cases this
  · refine ⟨rfl, ?_⟩
    refine x_if_ne (pc' := 7) rfl rfl (fun c4 => absurd (by decide) c4) (fun _ => ?_)
    refine x_int (pc' := 8) (v := (-1)) rfl rfl rfl ?_
    refine x_iret rfl rfl ?_
    exact k0 h1
theorem pTell_wf {tp : List Nat} {S : TW} (hs : ∀ i, i < 384 → is (S 11 i) 65536) (h : (pTell tp S).1 = 0) : WF (pTell tp S).2 := by
  unfold pTell at h ⊢
  by_cases h0 : tp.length ≤ skp isBk tp 0
  · rw [if_pos h0]; exact (emS_wf hs).1
  · rw [if_neg h0] at h ⊢; exact pAll_wf _ _ _ (emS_wf hs).1 h
theorem nF_lt {tp : List Nat} {lo hi a : Nat} (h : tp.length ≤ 400) (ha : a ≤ tp.length) : nF tp lo hi a < 10000 := by
  have := nS_le (tp := tp) ha
  unfold nF
  split
  · omega
  · split <;> omega
set_option maxRecDepth 20000 in
set_option maxHeartbeats 1000000 in
theorem w_X9_tell {D : Nat → Nat → Int32} {L : Nat → Nat → Int64} {Q : bh_Q} {ps : List TW} {sh : Nat → Option TW} {tp : List Nat} (hI : InvC D ps sh tp) (k1 : (pTell tp (tvt D 14)).1 = 0 → ∀ D', (∀ k, 205 ≤ k → D' k = D k) → TE (pTell tp (tvt D 14)).2 (tv D') → InvC D' [] sh [] → Q (some (.int (nI (nw (pTell tp (tvt D 14)).2)))) (hp D' L)) (k0 : ¬ (pTell tp (tvt D 14)).1 = 0 → ∀ D', (∀ k, 205 ≤ k → D' k = D k) → tv D' = tv D → InvC D' ps sh [] → Q (some (.int (-2 - nI (pTell tp (tvt D 14)).1))) (hp D' L)) : bh_wc 7 m_X9_tell [.ref 0] (hp D L) Q := by
  refine x_start (lv0 := [_, _]) (Nat.le_of_ble_eq_true rfl) rfl ?_
  obtain ⟨hH, hK, hP, h25⟩ := hI
  refine x_aload (pc' := 1) rfl rfl rfl ?_
  refine x_getR (pc' := 4) rfl rfl rfl (by decide) rfl (by decide) rfl rfl ?_
  refine x_aload (pc' := 5) rfl rfl rfl ?_
  refine x_getR (pc' := 8) rfl rfl rfl (by decide) rfl (by decide) rfl rfl ?_
  refine x_callV (pc' := 11) (d1 := 6) (Bs := [_]) rfl rfl rfl rfl rfl rfl rfl (Nat.le_of_ble_eq_true rfl) ⟨rfl, rfl⟩ (by decide) rfl (by decide) ?_
  refine w_X6_readInto hP h25 (fun hf D1 o1 p1 t1 => ?_) (fun hf hfl D1 o1 p1 => ?_)
  · refine ⟨rfl, ?_⟩
    refine x_istore (pc' := 12) (lv' := [_, _]) rfl rfl (by decide) rfl ?_
    refine x_aload (pc' := 13) rfl rfl rfl ?_
    refine x_getR (pc' := 16) rfl rfl rfl (by decide) rfl (by decide) rfl rfl ?_
    refine x_int (pc' := 17) (v := nI 0) rfl rfl rfl ?_
    refine x_putI (j := 1) (pc' := 20) rfl rfl rfl (by decide) rfl (by decide) rfl rfl ?_
    refine x_iload (pc' := 21) rfl rfl rfl ?_
    refine x_if_eq (pc' := 24) rfl rfl (fun _ => ?_) (fun c21 => absurd (by decide) c21)
    refine x_aload (pc' := 30) rfl rfl rfl ?_
    refine x_getR (pc' := 33) rfl rfl rfl (by decide) rfl (by decide) rfl rfl ?_
    refine x_aload (pc' := 34) rfl rfl rfl ?_
    refine x_getR (pc' := 37) rfl rfl rfl (by decide) rfl (by decide) rfl rfl ?_
    refine x_callV (pc' := 40) (d1 := 2) (Bs := [_]) rfl rfl rfl rfl rfl rfl rfl (Nat.le_of_ble_eq_true rfl) ⟨rfl, rfl⟩ (by decide) rfl (by decide) ?_
    refine w_X7_copyFrom (t := 1) (u := 14) (by decide) (by decide) (by decide) (fun D2 c2 => ?_)
    have hte : TE (pTell tp (tvt D 14)).2 (tv D2) := by
      have := c2.te
      rw [show tvt (bh_up2 D1 27 1 (nI 0)) 14 = tvt D1 14 from (O27.up (j := 1)).t, t1] at this
      exact this
    have hWn := pTell_wf (S := tvt D 14) h25 hf
    have hw1 : (bh_up2 D2 0 14 (nI 0)) 1 0 = nI (nw (pTell tp (tvt D 14)).2) := (hte 0 (by decide) 0 (by decide)).trans hWn.enw
    refine ⟨rfl, ?_⟩
    refine x_aload (pc' := 41) rfl rfl rfl ?_
    refine x_int (pc' := 42) (v := nI 0) rfl rfl rfl ?_
    refine x_putI (j := 14) (pc' := 45) rfl rfl rfl (by decide) rfl (by decide) rfl rfl ?_
    refine x_aload (pc' := 46) rfl rfl rfl ?_
    refine x_getR (pc' := 49) rfl rfl rfl (by decide) rfl (by decide) rfl rfl ?_
    refine x_getI (j := 0) (pc' := 52) rfl rfl rfl (by decide) rfl (by decide) rfl rfl ?_
    refine x_top (hw1) ?_
    refine x_iret rfl rfl ?_
    have hc : ∀ k, k ≠ 0 → k ≠ 27 → 25 ≤ k → bh_up2 D2 0 14 (nI 0) k = D k := fun k g0 g1 g2 => by rw [bh_up2_ne _ _ _ g0, c2.2 k (by omega), bh_up2_ne _ _ _ g1, o1 k g1 (by omega)]
    have e0 : ∀ j, j ≠ 14 → bh_up2 D2 0 14 (nI 0) 0 j = D 0 j := fun j hj => by rw [up2_o hj, c2.2 0 (by omega), bh_up2_ne _ _ _ (by decide), o1 0 (by decide) (by decide)]
    refine k1 hf _ (fun k hk => hc k (by omega) (by omega) (by omega)) (by rw [show tv (bh_up2 D2 0 14 (nI 0)) = tv D2 from tvt_off (t := 1) (fun j _ => bh_up2_ne _ _ _ (by omega))]; exact hte) ⟨hH.nil (e0 13 (by decide)) (bh_up2_self _ _ _ _), hK.off (e0 15 (by decide)) (fun k a b => hc k (by omega) (by omega) (by omega)), ⟨Nat.zero_le _, ?_, fun i hi => absurd hi (Nat.not_lt_zero i)⟩, by rw [hc 25 (by decide) (by decide) (by decide)]; exact h25⟩
    rw [bh_up2_ne _ _ _ (by decide), c2.2 27 (by omega)]; exact bh_up2_self _ _ _ _
  · refine ⟨rfl, ?_⟩
    refine x_istore (pc' := 12) (lv' := [_, _]) rfl rfl (by decide) rfl ?_
    refine x_aload (pc' := 13) rfl rfl rfl ?_
    refine x_getR (pc' := 16) rfl rfl rfl (by decide) rfl (by decide) rfl rfl ?_
    refine x_int (pc' := 17) (v := nI 0) rfl rfl rfl ?_
    refine x_putI (j := 1) (pc' := 20) rfl rfl rfl (by decide) rfl (by decide) rfl rfl ?_
    refine x_iload (pc' := 21) rfl rfl rfl ?_
    refine y_if_eq (pc' := 24) rfl rfl (by omega) (fun c21 => ?_) (fun c21 => ?_)
    · exact absurd c21 hf
    · refine x_int (pc' := 26) (v := (-2)) rfl rfl rfl ?_
      refine x_iload (pc' := 27) rfl rfl rfl ?_
      refine x_isub (pc' := 28) rfl rfl ?_
      refine x_iret rfl rfl ?_
      refine k0 hf _ (fun k hk => ?_) (tvt_off (t := 1) (fun j hj => ?_)) ⟨hH.off ?_ ?_ (fun k a b => ?_), hK.off ?_ (fun k a b => ?_), ⟨Nat.zero_le _, bh_up2_self _ _ _ _, fun i hi => absurd hi (Nat.not_lt_zero i)⟩, ?_⟩
      · rw [bh_up2_ne _ _ _ (by omega), o1 k (by omega) (by omega)]
      · rw [bh_up2_ne _ _ _ (by omega), o1 _ (by omega) (by omega)]
      · rw [bh_up2_ne _ _ _ (by decide), o1 0 (by decide) (by decide)]
      · rw [bh_up2_ne _ _ _ (by decide), o1 0 (by decide) (by decide)]
      · rw [bh_up2_ne _ _ _ (by omega), o1 k (by omega) (by omega)]
      · rw [bh_up2_ne _ _ _ (by decide), o1 0 (by decide) (by decide)]
      · rw [bh_up2_ne _ _ _ (by omega), o1 k (by omega) (by omega)]
      · rw [bh_up2_ne _ _ _ (by decide), o1 25 (by decide) (by decide)]; exact h25
set_option maxRecDepth 20000 in
set_option maxHeartbeats 1000000 in
theorem w_X9_end {D : Nat → Nat → Int32} {L : Nat → Nat → Int64} {Q : bh_Q} {ps : List TW} {sh : Nat → Option TW} {tp : List Nat} {x : Int32} (hI : InvC D ps sh tp) (k0 : ¬ okN (tp.length + 1) x → Q (some (.int (-1))) (hp D L)) (k1 : ∀ n, n ≤ tp.length → x = nI n → ∀ D', (∀ k, 205 ≤ k → D' k = D k) → tv D' = tv D → InvC D' ps sh (tp.take n) → Q (some (.int (nI n))) (hp D' L)) : bh_wc 1 m_X9_end [.ref 0, .int x] (hp D L) Q := by
  refine x_start (lv0 := [_, _]) (Nat.le_of_ble_eq_true rfl) rfl ?_
  obtain ⟨hH, hK, hP, h25⟩ := hI
  have h400 := hP.1
  refine x_iload (pc' := 1) rfl rfl rfl ?_
  refine x_if_lt (pc' := 4) rfl rfl (fun c1 => ?_) (fun c1 => ?_)
  · refine x_int (pc' := 16) (v := (-1)) rfl rfl rfl ?_
    refine x_iret rfl rfl ?_
    first
      | (exact k0 (okN_neg (by omega) c1))
      | (exact k0 (okN_gt (by omega) (Int32.not_le.mp c12)))
  · refine x_iload (pc' := 5) rfl rfl rfl ?_
    refine x_aload (pc' := 6) rfl rfl rfl ?_
    refine x_getR (pc' := 9) rfl rfl rfl (by decide) rfl (by decide) rfl rfl ?_
    refine x_getI (j := 1) (pc' := 12) rfl rfl rfl (by decide) rfl (by decide) rfl rfl ?_
    refine x_top (hP.2.1) ?_
    refine x_ic_le (pc' := 15) rfl rfl (fun c12 => ?_) (fun c12 => ?_)
    · obtain ⟨n, hn, rfl⟩ := le_ofI (n := tp.length) c1 c12 (by omega)
      refine x_aload (pc' := 18) rfl rfl rfl ?_
      refine x_getR (pc' := 21) rfl rfl rfl (by decide) rfl (by decide) rfl rfl ?_
      refine x_iload (pc' := 22) rfl rfl rfl ?_
      refine x_putI (j := 1) (pc' := 25) rfl rfl rfl (by decide) rfl (by decide) rfl rfl ?_
      refine x_iload (pc' := 26) rfl rfl rfl ?_
      refine x_iret rfl rfl ?_
      refine k1 n (by omega) rfl _ (fun k hk => bh_up2_ne _ _ _ (by omega)) (tvt_off (t := 1) (fun j hj => bh_up2_ne _ _ _ (by omega))) ⟨hH.off (by rw [bh_up2_ne _ _ _ (by decide)]) (by rw [bh_up2_ne _ _ _ (by decide)]) (fun k a b => bh_up2_ne _ _ _ (by omega)), hK.off (by rw [bh_up2_ne _ _ _ (by decide)]) (fun k a b => bh_up2_ne _ _ _ (by omega)), ⟨?_, ?_, fun i hi => ?_⟩, by rw [bh_up2_ne _ _ _ (by decide)]; exact h25⟩
      · rw [List.length_take]; omega
      · rw [List.length_take, Nat.min_eq_left (by omega)]; exact bh_up2_self _ _ _ _
      · rw [List.length_take] at hi
        have e : (tp.take n).getD i 0 = tp.getD i 0 := by rw [List.getD_eq_getElem?_getD, List.getElem?_take_of_lt (by omega), ← List.getD_eq_getElem?_getD]
        rw [e, bh_up2_ne _ _ _ (by decide)]
        exact hP.2.2 i (by omega)
    · refine x_int (pc' := 16) (v := (-1)) rfl rfl rfl ?_
      refine x_iret rfl rfl ?_
      first
        | (exact k0 (okN_neg (by omega) c1))
        | (exact k0 (okN_gt (by omega) (Int32.not_le.mp c12)))
