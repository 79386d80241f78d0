/-! ===== acts: sack, blame, see, forget ===== -/
theorem actC {D D1 D2 : Nat → Nat → Int32} {L : Nat → Nat → Int64} {Q : bh_Q} {ps : List TW} {sh : Nat → Option TW} {tp : List Nat} {R : Int32 × Option TW} {v : Int32} {T2 : TW} (hI : InvC D ps sh tp) (f1 : FrC D D1) (g1 : D1 0 15 = D 0 15) (hH1 : HC D1 ((tv D :: ps).take 10)) (k1 : ∀ D1, (∀ k, 205 ≤ k → D1 k = D k) → tv D1 = nxT (tv D) R.2 → InvC D1 (nxP (tv D) ps R.2) sh tp → Q (some (.int R.1)) (hp D1 L)) (e : R = (v, some T2)) (h0 : D2 0 = D1 0) (h1 : ∀ k, 14 ≤ k → (k < 31 ∨ 49 ≤ k) → D2 k = D1 k) (ht : tv D2 = T2) : Q (some (.int v)) (hp D2 L) := by
  subst e
  exact k1 D2 (fun k hk => by rw [h1 k (by omega) (by omega), f1 k (by omega) (by omega)]) ht (invC_off (invC_rem hI f1 g1 hH1) h0 (fun k a b _ => h1 k (by omega) b))
theorem actM {D D1 D2 : Nat → Nat → Int32} {L : Nat → Nat → Int64} {Q : bh_Q} {T T2 : TW} {ps : List TW} {sh : Nat → Option TW} {tp : List Nat} {R : Int32 × Option TW} {v : Int32} (hI : InvM D T ps sh tp) (f1 : OffL [205, 208] D D1) (g1 : ∀ j, j ≠ 5 → D1 205 j = D 205 j) (hH : HM D1 ((T :: ps).take 10)) (k1 : ∀ D1, (∀ k, (k < 205 ∨ 228 ≤ k) → D1 k = D k) → InvM D1 (nxT T R.2) (nxP T ps R.2) sh tp → Q (some (.int R.1)) (hp D1 L)) (e : R = (v, some T2)) (o2 : ∀ k, k ≠ 206 → k ≠ 205 → (k < 212 ∨ 228 ≤ k) → D2 k = D1 k) (o3 : ∀ j, j < 8 → D2 205 j = D1 205 j) (hR : Rn T2 (D2 206)) : Q (some (.int v)) (hp D2 L) := by
  subst e
  exact k1 D2 (fun k hk => by rw [o2 k (by omega) (by omega) (by omega), f1 k (fun q => by simp at q; omega)]) (invM_rem hI f1 g1 hH (fun k a b c => o2 k a b (Or.inl c)) o3 hR)
theorem good_nx {T : TW} {ps : List TW} {sh : Nat → Option TW} {n : Option TW} (hG : Good T ps sh) (h : ∀ T', n = some T' → WF T') : Good (nxT T n) (nxP T ps n) sh := by
  cases n with
  | none => exact hG
  | some T' => exact ⟨h T' rfl, gp_next hG.1 hG.2.1, hG.2.2⟩
theorem kc {c : Prop} {Q : Prop} (h : c) (k : c → Q) : Q := k h
theorem dN_lt {n j : Nat} {x : Int32} (hn : n < 2 ^ 31) (h : dN n x = some j) : j < n ∧ x = nI j := by
  unfold dN at h
  split at h
  next hq =>
    obtain ⟨i, hi, hx⟩ := vp_in_of (vp_in_iff.mpr hq) hn
    cases h
    rw [hx, nI_clamp (by omega)]
    exact ⟨hi, rfl⟩
  next => cases h
theorem hire_good {T : TW} {ps : List TW} {sh : Nat → Option TW} (x y : Int32) (hG : Good T ps sh) : Good (nxT T (hireR T x y).2) (nxP T ps (hireR T x y).2) sh := by
  refine good_nx hG (fun T' h => ?_)
  have h12 := hG.1.nwl
  unfold hireR at h
  split at h
  next w u hw hu =>
    obtain ⟨lw, ex⟩ := dN_lt (by omega) hw
    obtain ⟨lu, ey⟩ := dN_lt (by omega) hu
    split at h
    · cases h
    split at h
    · cases h
    split at h
    · cases h
    · cases h
      exact wf_un hG.1 lw (Or.inr ⟨is_nI lu (by omega), by rw [nI_clamp (by omega)]; omega⟩)
  next => cases h
theorem sack_good {T : TW} {ps : List TW} {sh : Nat → Option TW} (x : Int32) (hG : Good T ps sh) : Good (nxT T (sackR T x).2) (nxP T ps (sackR T x).2) sh := by
  refine good_nx hG (fun T' h => ?_)
  have h12 := hG.1.nwl
  unfold sackR at h
  split at h
  next w hw =>
    obtain ⟨lw, ex⟩ := dN_lt (by omega) hw
    split at h
    · cases h
    split at h
    · cases h
    · cases h
      exact wf_un hG.1 lw (Or.inl rfl)
  next => cases h
theorem blame_good {T : TW} {ps : List TW} {sh : Nat → Option TW} (x y : Int32) (hG : Good T ps sh) : Good (nxT T (blameR T x y).2) (nxP T ps (blameR T x y).2) sh := by
  refine good_nx hG (fun T' h => ?_)
  unfold blameR at h
  split at h
  · cases h
    exact wf_67 hG.1 (Or.inl rfl) _
  next => cases h
theorem see_wf {T : TW} (hW : WF T) {j n : Nat} (hj : j < 65536) (hn : ns T = n) (h16 : n ≠ 16) : WF (bh_up2 (bh_up2 T 12 n (nI j)) 0 2 (nI (n + 1))) := by
  have h1 := hW.nsl
  refine ⟨⟨hW.1.1, hW.1.2.1, is_nI (by omega) (by decide), hW.1.2.2.2.1, hW.1.2.2.2.2⟩, hW.2.1, hW.2.2.1, hW.2.2.2.1, fun i hi => ?_⟩
  have hi2 : i < (nI (n + 1)).toNatClampNeg := hi
  rw [nI_clamp (by omega)] at hi2
  show is (bh_up2 (bh_up2 T 12 n (nI j)) 0 2 (nI (n + 1)) 12 i) 65536
  rw [bh_up2_ne _ _ _ (by decide), bh_up2_k]
  dsimp only
  by_cases e : i = n
  · rw [if_pos e]; exact is_nI hj (by decide)
  · rw [if_neg e]; exact hW.2.2.2.2 i (by omega)
theorem see_good {T : TW} {ps : List TW} {sh : Nat → Option TW} (x : Int32) (hG : Good T ps sh) : Good (nxT T (seeR T x).2) (nxP T ps (seeR T x).2) sh := by
  refine good_nx hG (fun T' h => ?_)
  unfold seeR at h
  split at h
  next j hj =>
    obtain ⟨lj, ex⟩ := dN_lt (by decide) hj
    split at h
    · cases h
    next h16 =>
      cases h
      rw [ex]
      exact see_wf hG.1 lj rfl h16
  next => cases h
theorem forget_wf {T : TW} (hW : WF T) : WF (bh_up2 T 0 2 (nI 0)) := by
  refine ⟨⟨hW.1.1, hW.1.2.1, is_nI (by decide) (by decide), hW.1.2.2.2.1, hW.1.2.2.2.2⟩, hW.2.1, hW.2.2.1, hW.2.2.2.1, fun i hi => absurd hi ?_⟩
  show ¬ i < (nI 0).toNatClampNeg
  rw [nI_clamp (by decide)]
  omega
theorem forget_good {T : TW} {ps : List TW} {sh : Nat → Option TW} (hG : Good T ps sh) : Good (nxT T (forgetR T).2) (nxP T ps (forgetR T).2) sh := by
  refine good_nx hG (fun T' h => ?_)
  unfold forgetR at h
  split at h
  · cases h
  · cases h
    exact forget_wf hG.1
theorem rn_see {T : TW} {N : Nat → Int32} (hW : WF T) (hR : Rn T N) {j n : Nat} (hn : ns T = n) (h16 : n ≠ 16) : Rn (bh_up2 (bh_up2 T 12 n (nI j)) 0 2 (nI (n + 1))) (fun k => if k = 2 then nI (n + 1) else if k = 544 + n then nI j else N k) := by
  have h1 := hW.nsl
  have h12 := hW.nwl
  have h4 := hW.nbl
  have X : ∀ k, k ≠ 2 → k ≠ 544 + n → (if k = 2 then nI (n + 1) else if k = 544 + n then nI j else N k) = N k := fun k a b => by rw [if_neg a, if_neg b]
  refine ⟨⟨(X 0 (by decide) (by omega)).trans hR.1.1, (X 1 (by decide) (by omega)).trans hR.1.2.1, if_pos rfl, (X 3 (by decide) (by omega)).trans hR.1.2.2.2⟩, fun w hw => ?_, fun b hb => ⟨(X _ (by omega) (by have : b < nb T := hb; omega)).trans (hR.2.2.1 b hb).1, fun q hq => (X _ (by omega) (by have : b < nb T := hb; have : q < lng T b := hq; have := hW.lngl hb; omega)).trans ((hR.2.2.1 b hb).2 q hq)⟩, fun w b q hw hb hq hs => (X _ (by omega) (by have : b < nb T := hb; have : w < nw T := hw; have : q < lng T b := hq; have := hW.lngl hb; omega)).trans (hR.2.2.2.1 w b q hw hb hq hs), fun i hi => ?_⟩
  · have h := hR.2.1 w hw
    have hw3 : w < nw T := hw
    refine ⟨(X _ (by omega) (by omega)).trans h.1, (X _ (by omega) (by omega)).trans h.2.1, fun hk => (X _ (by omega) (by omega)).trans (h.2.2.1 hk), fun hk => (X _ (by omega) (by omega)).trans (h.2.2.2.1 hk), (X _ (by omega) (by omega)).trans h.2.2.2.2.1, (X _ (by omega) (by omega)).trans h.2.2.2.2.2.1, (X _ (by omega) (by omega)).trans h.2.2.2.2.2.2.1, (X _ (by omega) (by omega)).trans h.2.2.2.2.2.2.2.1, (X _ (by omega) (by omega)).trans h.2.2.2.2.2.2.2.2.1, (X _ (by omega) (by omega)).trans h.2.2.2.2.2.2.2.2.2⟩
  · have hi2 : i < (nI (n + 1)).toNatClampNeg := hi
    rw [nI_clamp (by omega)] at hi2
    show (if 544 + i = 2 then nI (n + 1) else if 544 + i = 544 + n then nI j else N (544 + i)) = bh_up2 (bh_up2 T 12 n (nI j)) 0 2 (nI (n + 1)) 12 i
    rw [bh_up2_ne _ _ _ (by decide), bh_up2_k]
    dsimp only
    rw [if_neg (by omega)]
    by_cases e : i = n
    · rw [if_pos (by omega), if_pos e]
    · rw [if_neg (by omega), if_neg e]
      exact hR.2.2.2.2 i (by omega)
theorem rn_forget {T : TW} {N : Nat → Int32} (hR : Rn T N) : Rn (bh_up2 T 0 2 (nI 0)) (fun k => if k = 2 then nI 0 else N k) := by
  have X : ∀ k, k ≠ 2 → (if k = 2 then nI 0 else N k) = N k := fun k a => if_neg a
  refine ⟨⟨(X 0 (by decide)).trans hR.1.1, (X 1 (by decide)).trans hR.1.2.1, if_pos rfl, (X 3 (by decide)).trans hR.1.2.2.2⟩, fun w hw => ?_, fun b hb => ⟨(X _ (by omega)).trans (hR.2.2.1 b hb).1, fun q hq => (X _ (by omega)).trans ((hR.2.2.1 b hb).2 q hq)⟩, fun w b q hw hb hq hs => (X _ (by omega)).trans (hR.2.2.2.1 w b q hw hb hq hs), fun i hi => absurd hi ?_⟩
  · have h := hR.2.1 w hw
    refine ⟨(X _ (by omega)).trans h.1, (X _ (by omega)).trans h.2.1, fun hk => (X _ (by omega)).trans (h.2.2.1 hk), fun hk => (X _ (by omega)).trans (h.2.2.2.1 hk), (X _ (by omega)).trans h.2.2.2.2.1, (X _ (by omega)).trans h.2.2.2.2.2.1, (X _ (by omega)).trans h.2.2.2.2.2.2.1, (X _ (by omega)).trans h.2.2.2.2.2.2.2.1, (X _ (by omega)).trans h.2.2.2.2.2.2.2.2.1, (X _ (by omega)).trans h.2.2.2.2.2.2.2.2.2⟩
  · show ¬ i < (nI 0).toNatClampNeg
    rw [nI_clamp (by decide)]
    omega
set_option maxRecDepth 20000 in
set_option maxHeartbeats 1000000 in
theorem w_X9_sack {D : Nat → Nat → Int32} {L : Nat → Nat → Int64} {Q : bh_Q} {ps : List TW} {sh : Nat → Option TW} {tp : List Nat} (hI : InvC D ps sh tp) (hG : Good (tv D) ps sh) {x : Int32} (k1 : ∀ D1, (∀ k, 205 ≤ k → D1 k = D k) → tv D1 = nxT (tv D) (sackR (tv D) x).2 → InvC D1 (nxP (tv D) ps (sackR (tv D) x).2) sh tp → Q (some (.int (sackR (tv D) x).1)) (hp D1 L)) : bh_wc 4 m_X9_sack [.ref 0, .int x] (hp D L) Q := by
  refine x_start (lv0 := [_, _, _]) (Nat.le_of_ble_eq_true rfl) rfl ?_
  have hW := hG.1
  have h12 := hW.nwl
  have hH := hI.1
  refine x_aload (pc' := 1) rfl rfl rfl ?_
  refine x_getR (pc' := 4) rfl rfl rfl (by decide) rfl (by decide) rfl rfl ?_
  refine x_iload (pc' := 5) rfl rfl rfl ?_
  refine x_callV (pc' := 8) (d1 := 1) (Bs := [_]) rfl rfl rfl rfl rfl rfl rfl (Nat.le_of_ble_eq_true rfl) ⟨rfl, rfl⟩ (by decide) rfl (by decide) ?_
  refine w_X7_isWriter hW (fun h5w h5l e => ?_) (fun h5 => ?_)
  · subst e
    refine ⟨rfl, ?_⟩
    refine x_if_ne (pc' := 11) rfl rfl (fun _ => ?_) (fun c8 => absurd c8 (by decide))
    refine x_aload (pc' := 14) rfl rfl rfl ?_
    refine x_getR (pc' := 17) rfl rfl rfl (by decide) rfl (by decide) rfl rfl ?_
    refine x_iload (pc' := 18) rfl rfl rfl ?_
    refine x_callV (pc' := 21) (d1 := 1) (Bs := [_]) rfl rfl rfl rfl rfl rfl rfl (Nat.le_of_ble_eq_true rfl) ⟨rfl, rfl⟩ (by decide) rfl (by decide) ?_
    refine w_X7_isDead hW (by assumption) (fun h18 => ?_) (fun h18 => ?_)
    · refine ⟨rfl, ?_⟩
      refine x_if_eq (pc' := 24) rfl rfl (fun c21 => absurd c21 (by decide)) (fun _ => ?_)
      refine x_int (pc' := 26) (v := (-4)) rfl rfl rfl ?_
      refine x_iret rfl rfl ?_
      have e : sackR (tv D) (nI h5w) = (-4, none) := by unfold sackR; rw [dN_some h5l (by omega)]; exact if_pos h18
      rw [e] at k1
      exact k1 D (fun _ _ => rfl) rfl hI
    · refine ⟨rfl, ?_⟩
      refine x_if_eq (pc' := 24) rfl rfl (fun _ => ?_) (fun c21 => absurd (by decide) c21)
      refine x_aload (pc' := 28) rfl rfl rfl ?_
      refine x_getR (pc' := 31) rfl rfl rfl (by decide) rfl (by decide) rfl rfl ?_
      refine x_getR (pc' := 34) rfl rfl rfl (by decide) rfl (by decide) rfl rfl ?_
      refine x_iload (pc' := 35) rfl rfl rfl ?_
      refine x_iald (pc' := 36) rfl rfl (by decide) rfl (by decide) (show _ < 12 by omega) ?_
      refine x_istore (pc' := 37) (lv' := [_, _, _]) rfl rfl (by decide) rfl ?_
      refine x_iload (pc' := 38) rfl rfl rfl ?_
      refine x_int (pc' := 39) (v := (-1)) rfl rfl rfl ?_
      refine x_ic_ne (pc' := 42) rfl rfl (fun c39 => ?_) (fun c39 => ?_)
      · refine x_aload (pc' := 46) rfl rfl rfl ?_
        refine x_callV (pc' := 49) (d1 := 3) (Bs := []) rfl rfl rfl rfl rfl rfl rfl (Nat.le_of_ble_eq_true rfl) ⟨rfl, rfl⟩ (by decide) rfl (by decide) ?_
        refine w_X9_remember hH (fun D1 f1 g1 hH1 => ?_)
        refine ⟨rfl, ?_⟩
        refine x_aload (pc' := 50) rfl rfl rfl ?_
        refine x_getR (pc' := 53) rfl rfl rfl (by decide) rfl (by decide) rfl rfl ?_
        refine x_getR (pc' := 56) rfl rfl rfl (by decide) rfl (by decide) rfl rfl ?_
        refine x_iload (pc' := 57) rfl rfl rfl ?_
        refine x_int (pc' := 58) (v := (-1)) rfl rfl rfl ?_
        refine x_iast (pc' := 59) rfl rfl (by decide) rfl (by decide) (show _ < 12 by omega) ?_
        refine x_iload (pc' := 60) rfl rfl rfl ?_
        refine x_iret rfl rfl ?_
        have e : sackR (tv D) (nI h5w) = (tv D 5 h5w, some (bh_up2 (tv D) 5 h5w (-1))) := by unfold sackR; rw [dN_some h5l (by omega)]; dsimp only; rw [if_neg (by rw [h18]; decide)]; exact if_neg c39
        refine actC hI f1 g1 hH1 k1 e rfl (fun k a b => ?_) ?_
        · rw [bh_up2_ne _ _ _ (by omega)]
        · rw [tv_up (j := 5) rfl (by decide), frc_tv f1]
      · refine x_int (pc' := 44) (v := (-2)) rfl rfl rfl ?_
        refine x_iret rfl rfl ?_
        have e : sackR (tv D) (nI h5w) = (-2, none) := by unfold sackR; rw [dN_some h5l (by omega)]; dsimp only; rw [if_neg (by rw [h18]; decide)]; exact if_pos c39
        rw [e] at k1
        exact k1 D (fun _ _ => rfl) rfl hI
  · refine ⟨rfl, ?_⟩
    refine x_if_ne (pc' := 11) rfl rfl (fun c8 => absurd (by decide) c8) (fun _ => ?_)
    refine x_int (pc' := 12) (v := (-1)) rfl rfl rfl ?_
    refine x_iret rfl rfl ?_
    have e : sackR (tv D) x = (-1, none) := by unfold sackR; rw [dN_none (by omega) h5]
    rw [e] at k1
    exact k1 D (fun _ _ => rfl) rfl hI
set_option maxRecDepth 20000 in
set_option maxHeartbeats 1000000 in
theorem w_X10_sack {D : Nat → Nat → Int32} {L : Nat → Nat → Int64} {Q : bh_Q} {T : TW} {ps : List TW} {sh : Nat → Option TW} {tp : List Nat} (hI : InvM D T ps sh tp) (hG : Good T ps sh) {x : Int32} (k1 : ∀ D1, (∀ k, (k < 205 ∨ 228 ≤ k) → D1 k = D k) → InvM D1 (nxT T (sackR T x).2) (nxP T ps (sackR T x).2) sh tp → Q (some (.int (sackR T x).1)) (hp D1 L)) : bh_wc 3 m_X10_sack [.ref 205, .int x] (hp D L) Q := by
  refine x_start (lv0 := [_, _, _]) (Nat.le_of_ble_eq_true rfl) rfl ?_
  have hW := hG.1
  have h12x := hW.nwl
  have hR := hI.1
  refine x_aload (pc' := 1) rfl rfl rfl ?_
  refine x_iload (pc' := 2) rfl rfl rfl ?_
  refine x_callV (pc' := 5) (d1 := 2) (Bs := [_]) rfl rfl rfl rfl rfl rfl rfl (Nat.le_of_ble_eq_true rfl) ⟨rfl, rfl⟩ (by decide) rfl (by decide) ?_
  refine w_X10_isWriter hW hR (fun h2w h2l e => ?_) (fun h2 => ?_)
  · subst e
    refine ⟨rfl, ?_⟩
    refine x_if_ne (pc' := 8) rfl rfl (fun _ => ?_) (fun c5 => absurd c5 (by decide))
    refine x_aload (pc' := 11) rfl rfl rfl ?_
    refine x_iload (pc' := 12) rfl rfl rfl ?_
    refine x_callV (pc' := 15) (d1 := 2) (Bs := [_]) rfl rfl rfl rfl rfl rfl rfl (Nat.le_of_ble_eq_true rfl) ⟨rfl, rfl⟩ (by decide) rfl (by decide) ?_
    refine w_X10_isDead hW hR (by assumption) (fun h12 => ?_) (fun h12 => ?_)
    · refine ⟨rfl, ?_⟩
      refine x_if_eq (pc' := 18) rfl rfl (fun c15 => absurd c15 (by decide)) (fun _ => ?_)
      refine x_int (pc' := 20) (v := (-4)) rfl rfl rfl ?_
      refine x_iret rfl rfl ?_
      have e : sackR T (nI h2w) = (-4, none) := by unfold sackR; rw [dN_some h2l (by omega)]; exact if_pos h12
      rw [e] at k1
      exact k1 D (fun _ _ => rfl) hI
    · refine ⟨rfl, ?_⟩
      refine x_if_eq (pc' := 18) rfl rfl (fun _ => ?_) (fun c15 => absurd (by decide) c15)
      refine x_aload (pc' := 22) rfl rfl rfl ?_
      refine x_iload (pc' := 23) rfl rfl rfl ?_
      refine x_callV (pc' := 26) (d1 := 2) (Bs := [_]) rfl rfl rfl rfl rfl rfl rfl (Nat.le_of_ble_eq_true rfl) ⟨rfl, rfl⟩ (by decide) rfl (by decide) ?_
      refine w_X10_under hW hR h2l ?_
      refine ⟨rfl, ?_⟩
      refine x_int (pc' := 27) (v := (-1)) rfl rfl rfl ?_
      refine x_ic_ne (pc' := 30) rfl rfl (fun c27 => ?_) (fun c27 => ?_)
      · refine x_aload (pc' := 34) rfl rfl rfl ?_
        refine x_callV (pc' := 37) (d1 := 2) (Bs := []) rfl rfl rfl rfl rfl rfl rfl (Nat.le_of_ble_eq_true rfl) ⟨rfl, rfl⟩ (by decide) rfl (by decide) ?_
        refine w_X10_keepsPast hW hR hI.2.1 hG.2.1 (fun D1 f1 g1 hH1 => ?_)
        refine ⟨rfl, ?_⟩
        have hR1 : Rn T (D1 206) := by rw [f1 206 (by decide)]; exact hR
        refine x_aload (pc' := 38) rfl rfl rfl ?_
        refine x_iload (pc' := 39) rfl rfl rfl ?_
        refine x_callV (pc' := 42) (d1 := 2) (Bs := [_]) rfl rfl rfl rfl rfl rfl rfl (Nat.le_of_ble_eq_true rfl) ⟨rfl, rfl⟩ (by decide) rfl (by decide) ?_
        refine w_X10_under (D := D1) hW hR1 h2l ?_
        refine ⟨rfl, ?_⟩
        refine x_istore (pc' := 43) (lv' := [_, _, _]) rfl rfl (by decide) rfl ?_
        refine x_aload (pc' := 44) rfl rfl rfl ?_
        refine x_iload (pc' := 45) rfl rfl rfl ?_
        refine x_int (pc' := 46) (v := nI 4) rfl rfl rfl ?_
        refine x_int (pc' := 47) (v := (-1)) rfl rfl rfl ?_
        refine x_callV (pc' := 50) (d1 := 1) (Bs := [_, _, _]) rfl rfl rfl rfl rfl rfl rfl (Nat.le_of_ble_eq_true rfl) ⟨rfl, rfl⟩ (by decide) rfl (by decide) ?_
        refine w_X10_puts_ (by omega) (by decide) ?_
        refine ⟨rfl, ?_⟩
        refine x_iload (pc' := 51) rfl rfl rfl ?_
        refine x_iret rfl rfl ?_
        have e : sackR T (nI h2w) = (T 5 h2w, some (bh_up2 T 5 h2w (-1))) := by unfold sackR; rw [dN_some h2l (by omega)]; dsimp only; rw [if_neg (by rw [h12]; decide)]; exact if_neg c27
        refine actM hI f1 g1 hH1 k1 e (fun k a b c => ?_) (fun j hj => rfl) ?_
        · rw [bh_up2_ne _ _ _ a]
        · rw [bh_up2_k]; exact rn_up5 hW hR1 h2l _
      · refine x_int (pc' := 32) (v := (-2)) rfl rfl rfl ?_
        refine x_iret rfl rfl ?_
        have e : sackR T (nI h2w) = (-2, none) := by unfold sackR; rw [dN_some h2l (by omega)]; dsimp only; rw [if_neg (by rw [h12]; decide)]; exact if_pos c27
        rw [e] at k1
        exact k1 D (fun _ _ => rfl) hI
  · refine ⟨rfl, ?_⟩
    refine x_if_ne (pc' := 8) rfl rfl (fun c5 => absurd (by decide) c5) (fun _ => ?_)
    refine x_int (pc' := 9) (v := (-1)) rfl rfl rfl ?_
    refine x_iret rfl rfl ?_
    have e : sackR T x = (-1, none) := by unfold sackR; rw [dN_none (by omega) h2]
    rw [e] at k1
    exact k1 D (fun _ _ => rfl) hI
set_option maxRecDepth 20000 in
set_option maxHeartbeats 1000000 in
theorem w_X9_blame {D : Nat → Nat → Int32} {L : Nat → Nat → Int64} {Q : bh_Q} {ps : List TW} {sh : Nat → Option TW} {tp : List Nat} (hI : InvC D ps sh tp) (hG : Good (tv D) ps sh) {x y : Int32} (k1 : ∀ D1, (∀ k, 205 ≤ k → D1 k = D k) → tv D1 = nxT (tv D) (blameR (tv D) x y).2 → InvC D1 (nxP (tv D) ps (blameR (tv D) x y).2) sh tp → Q (some (.int (blameR (tv D) x y).1)) (hp D1 L)) : bh_wc 4 m_X9_blame [.ref 0, .int x, .int y] (hp D L) Q := by
  refine x_start (lv0 := [_, _, _]) (Nat.le_of_ble_eq_true rfl) rfl ?_
  have hW := hG.1
  have h12 := hW.nwl
  have hH := hI.1
  refine x_aload (pc' := 1) rfl rfl rfl ?_
  refine x_getR (pc' := 4) rfl rfl rfl (by decide) rfl (by decide) rfl rfl ?_
  refine x_iload (pc' := 5) rfl rfl rfl ?_
  refine x_callV (pc' := 8) (d1 := 1) (Bs := [_]) rfl rfl rfl rfl rfl rfl rfl (Nat.le_of_ble_eq_true rfl) ⟨rfl, rfl⟩ (by decide) rfl (by decide) ?_
  refine w_X7_isWriter hW (fun h5w h5l e => ?_) (fun h5 => ?_)
  · subst e
    refine ⟨rfl, ?_⟩
    refine x_if_eq (pc' := 11) rfl rfl (fun c8 => absurd c8 (by decide)) (fun _ => ?_)
    refine x_iload (pc' := 12) rfl rfl rfl ?_
    refine x_callS (pc' := 15) (d1 := 1) (As := [_]) rfl rfl rfl rfl (by decide) rfl rfl (Nat.le_of_ble_eq_true rfl) ⟨rfl, rfl⟩ (by decide) ?_
    refine w_X9_isGift (fun h12w h12a h12l h12e => ?_) (fun h12 => ?_)
    · subst h12e
      refine ⟨rfl, ?_⟩
      refine x_if_ne (pc' := 18) rfl rfl (fun _ => ?_) (fun c15 => absurd c15 (by decide))
      refine x_aload (pc' := 21) rfl rfl rfl ?_
      refine x_callV (pc' := 24) (d1 := 3) (Bs := []) rfl rfl rfl rfl rfl rfl rfl (Nat.le_of_ble_eq_true rfl) ⟨rfl, rfl⟩ (by decide) rfl (by decide) ?_
      refine w_X9_remember hH (fun D1 f1 g1 hH1 => ?_)
      refine ⟨rfl, ?_⟩
      refine x_aload (pc' := 25) rfl rfl rfl ?_
      refine x_getR (pc' := 28) rfl rfl rfl (by decide) rfl (by decide) rfl rfl ?_
      refine x_getR (pc' := 31) rfl rfl rfl (by decide) rfl (by decide) rfl rfl ?_
      refine x_iload (pc' := 32) rfl rfl rfl ?_
      refine x_dup2 (pc' := 33) rfl rfl rfl rfl ?_
      refine x_iald (pc' := 34) rfl rfl (by decide) rfl (by decide) (show _ < 12 by omega) ?_
      refine x_iload (pc' := 35) rfl rfl rfl ?_
      refine x_isub (pc' := 36) rfl rfl ?_
      refine x_iast (pc' := 37) rfl rfl (by decide) rfl (by decide) (show _ < 12 by omega) ?_
      refine x_aload (pc' := 38) rfl rfl rfl ?_
      refine x_getR (pc' := 41) rfl rfl rfl (by decide) rfl (by decide) rfl rfl ?_
      refine x_getR (pc' := 44) rfl rfl rfl (by decide) rfl (by decide) rfl rfl ?_
      refine x_iload (pc' := 45) rfl rfl rfl ?_
      refine x_iald (pc' := 46) rfl rfl (by decide) rfl (by decide) (show _ < 12 by omega) ?_
      refine x_iret rfl rfl ?_
      have ev : D1 7 = D 7 := f1 7 (by decide) (by decide)
      have e : blameR (tv D) (nI h5w) (nI h12w) = (tv D 6 h5w - nI h12w, some (bh_up2 (tv D) 6 h5w (tv D 6 h5w - nI h12w))) := by unfold blameR; rw [dN_some h5l (by omega), gift_some h12a h12l]
      rw [ev]
      have e3 : (bh_up2 D1 7 h5w (D 7 h5w - nI h12w)) 7 h5w = tv D 6 h5w - nI h12w := by rw [bh_up2_k]; exact if_pos rfl
      rw [e3]
      refine actC hI f1 g1 hH1 k1 e rfl (fun k a b => ?_) ?_
      · rw [bh_up2_ne _ _ _ (by omega)]
      · rw [tv_up (j := 6) rfl (by decide), frc_tv f1]; rfl
    · refine ⟨rfl, ?_⟩
      refine x_if_ne (pc' := 18) rfl rfl (fun c15 => absurd (by decide) c15) (fun _ => ?_)
      refine x_int (pc' := 19) (v := (-1)) rfl rfl rfl ?_
      refine x_iret rfl rfl ?_
      first
        | (have e : blameR (tv D) x y = (-1, none) := by unfold blameR; rw [dN_none (by omega) h5]
           rw [e] at k1
           exact k1 D (fun _ _ => rfl) rfl hI)
        | (have e : blameR (tv D) (nI h5w) y = (-1, none) := by unfold blameR; rw [dN_some h5l (by omega), gift_none h12]
           rw [e] at k1
           exact k1 D (fun _ _ => rfl) rfl hI)
  · refine ⟨rfl, ?_⟩
    refine x_if_eq (pc' := 11) rfl rfl (fun _ => ?_) (fun c8 => absurd (by decide) c8)
    refine x_int (pc' := 19) (v := (-1)) rfl rfl rfl ?_
    refine x_iret rfl rfl ?_
    first
      | (have e : blameR (tv D) x y = (-1, none) := by unfold blameR; rw [dN_none (by omega) h5]
         rw [e] at k1
         exact k1 D (fun _ _ => rfl) rfl hI)
      | (have e : blameR (tv D) (nI h5w) y = (-1, none) := by unfold blameR; rw [dN_some h5l (by omega), gift_none h12]
         rw [e] at k1
         exact k1 D (fun _ _ => rfl) rfl hI)
set_option maxRecDepth 20000 in
set_option maxHeartbeats 1000000 in
theorem w_X10_blame {D : Nat → Nat → Int32} {L : Nat → Nat → Int64} {Q : bh_Q} {T : TW} {ps : List TW} {sh : Nat → Option TW} {tp : List Nat} (hI : InvM D T ps sh tp) (hG : Good T ps sh) {x y : Int32} (k1 : ∀ D1, (∀ k, (k < 205 ∨ 228 ≤ k) → D1 k = D k) → InvM D1 (nxT T (blameR T x y).2) (nxP T ps (blameR T x y).2) sh tp → Q (some (.int (blameR T x y).1)) (hp D1 L)) : bh_wc 3 m_X10_blame [.ref 205, .int x, .int y] (hp D L) Q := by
  refine x_start (lv0 := [_, _, _]) (Nat.le_of_ble_eq_true rfl) rfl ?_
  have hW := hG.1
  have h12 := hW.nwl
  have hR := hI.1
  refine x_aload (pc' := 1) rfl rfl rfl ?_
  refine x_iload (pc' := 2) rfl rfl rfl ?_
  refine x_callV (pc' := 5) (d1 := 2) (Bs := [_]) rfl rfl rfl rfl rfl rfl rfl (Nat.le_of_ble_eq_true rfl) ⟨rfl, rfl⟩ (by decide) rfl (by decide) ?_
  refine w_X10_isWriter hW hR (fun h2w h2l e => ?_) (fun h2 => ?_)
  · subst e
    refine ⟨rfl, ?_⟩
    refine x_if_eq (pc' := 8) rfl rfl (fun c5 => absurd c5 (by decide)) (fun _ => ?_)
    refine x_iload (pc' := 9) rfl rfl rfl ?_
    refine x_i2l (pc' := 10) rfl rfl ?_
    refine x_long (pc' := 11) (v := (nI 1).toInt64) rfl rfl (by decide) ?_
    refine x_long (pc' := 14) (v := (nI 9999).toInt64) rfl rfl (by decide) ?_
    refine x_callS (pc' := 17) (d1 := 1) (As := [_, _, _]) rfl rfl rfl rfl (by decide) rfl rfl (Nat.le_of_ble_eq_true rfl) ⟨rfl, rfl⟩ (by decide) ?_
    refine w_X10_in (fun h14a h14l => ?_) (fun h14 => ?_)
    · obtain ⟨h14w, h14b, h14c, rfl⟩ := toI_gift h14a h14l
      refine ⟨rfl, ?_⟩
      refine x_if_ne (pc' := 20) rfl rfl (fun _ => ?_) (fun c17 => absurd c17 (by decide))
      refine x_aload (pc' := 23) rfl rfl rfl ?_
      refine x_callV (pc' := 26) (d1 := 2) (Bs := []) rfl rfl rfl rfl rfl rfl rfl (Nat.le_of_ble_eq_true rfl) ⟨rfl, rfl⟩ (by decide) rfl (by decide) ?_
      refine w_X10_keepsPast hW hR hI.2.1 hG.2.1 (fun D1 f1 g1 hH1 => ?_)
      refine ⟨rfl, ?_⟩
      have hR1 : Rn T (D1 206) := by rw [f1 206 (by decide)]; exact hR
      refine x_aload (pc' := 27) rfl rfl rfl ?_
      refine x_iload (pc' := 28) rfl rfl rfl ?_
      refine x_int (pc' := 29) (v := nI 5) rfl rfl rfl ?_
      refine x_aload (pc' := 30) rfl rfl rfl ?_
      refine x_iload (pc' := 31) rfl rfl rfl ?_
      refine x_int (pc' := 32) (v := nI 5) rfl rfl rfl ?_
      refine x_callV (pc' := 35) (d1 := 1) (Bs := [_, _]) rfl rfl rfl rfl rfl rfl rfl (Nat.le_of_ble_eq_true rfl) ⟨rfl, rfl⟩ (by decide) rfl (by decide) ?_
      refine w_X10_of (D := D1) (by omega) (by decide) ?_
      refine ⟨rfl, ?_⟩
      refine x_top (hR1.rfame h2l) ?_
      refine x_iload (pc' := 36) rfl rfl rfl ?_
      refine x_isub (pc' := 37) rfl rfl ?_
      refine x_callV (pc' := 40) (d1 := 1) (Bs := [_, _, _]) rfl rfl rfl rfl rfl rfl rfl (Nat.le_of_ble_eq_true rfl) ⟨rfl, rfl⟩ (by decide) rfl (by decide) ?_
      refine w_X10_puts_ (by omega) (by decide) ?_
      refine ⟨rfl, ?_⟩
      refine x_aload (pc' := 41) rfl rfl rfl ?_
      refine x_iload (pc' := 42) rfl rfl rfl ?_
      refine x_int (pc' := 43) (v := nI 5) rfl rfl rfl ?_
      refine x_callV (pc' := 46) (d1 := 1) (Bs := [_, _]) rfl rfl rfl rfl rfl rfl rfl (Nat.le_of_ble_eq_true rfl) ⟨rfl, rfl⟩ (by decide) rfl (by decide) ?_
      refine w_X10_of (by omega) (by decide) ?_
      refine ⟨rfl, ?_⟩
      refine x_iret rfl rfl ?_
      have e : blameR T (nI h2w) (nI h14w) = (T 6 h2w - nI h14w, some (bh_up2 T 6 h2w (T 6 h2w - nI h14w))) := by unfold blameR; rw [dN_some h2l (by omega), gift_some h14b h14c]
      have e3 : (bh_up2 D1 206 (4 + 10 * h2w + 5) (T 6 h2w - nI h14w)) 206 (4 + 10 * h2w + 5) = T 6 h2w - nI h14w := by rw [bh_up2_k]; exact if_pos rfl
      rw [e3]
      refine actM hI f1 g1 hH1 k1 e (fun k a b c => ?_) (fun j hj => rfl) ?_
      · rw [bh_up2_ne _ _ _ a]
      · rw [bh_up2_k]; exact rn_up6 hW hR1 h2l _
    · refine ⟨rfl, ?_⟩
      refine x_if_ne (pc' := 20) rfl rfl (fun c17 => absurd (by decide) c17) (fun _ => ?_)
      refine x_int (pc' := 21) (v := (-1)) rfl rfl rfl ?_
      refine x_iret rfl rfl ?_
      first
        | (have e : blameR T x y = (-1, none) := by unfold blameR; rw [dN_none (by omega) h2]
           rw [e] at k1
           exact k1 D (fun _ _ => rfl) hI)
        | (have e : blameR T (nI h2w) y = (-1, none) := by unfold blameR; rw [dN_some h2l (by omega), gift_none (gift_in h14)]
           rw [e] at k1
           exact k1 D (fun _ _ => rfl) hI)
  · refine ⟨rfl, ?_⟩
    refine x_if_eq (pc' := 8) rfl rfl (fun _ => ?_) (fun c5 => absurd (by decide) c5)
    refine x_int (pc' := 21) (v := (-1)) rfl rfl rfl ?_
    refine x_iret rfl rfl ?_
    first
      | (have e : blameR T x y = (-1, none) := by unfold blameR; rw [dN_none (by omega) h2]
         rw [e] at k1
         exact k1 D (fun _ _ => rfl) hI)
      | (have e : blameR T (nI h2w) y = (-1, none) := by unfold blameR; rw [dN_some h2l (by omega), gift_none (gift_in h14)]
         rw [e] at k1
         exact k1 D (fun _ _ => rfl) hI)
set_option maxRecDepth 20000 in
set_option maxHeartbeats 1000000 in
theorem w_X9_see {D : Nat → Nat → Int32} {L : Nat → Nat → Int64} {Q : bh_Q} {ps : List TW} {sh : Nat → Option TW} {tp : List Nat} (hI : InvC D ps sh tp) (hG : Good (tv D) ps sh) {x : Int32} (k1 : ∀ D1, (∀ k, 205 ≤ k → D1 k = D k) → tv D1 = nxT (tv D) (seeR (tv D) x).2 → InvC D1 (nxP (tv D) ps (seeR (tv D) x).2) sh tp → Q (some (.int (seeR (tv D) x).1)) (hp D1 L)) : bh_wc 4 m_X9_see [.ref 0, .int x] (hp D L) Q := by
  refine x_start (lv0 := [_, _]) (Nat.le_of_ble_eq_true rfl) rfl ?_
  have hW := hG.1
  have h12 := hW.nwl
  have hH := hI.1
  have h16 := hW.nsl
  refine x_iload (pc' := 1) rfl rfl rfl ?_
  refine x_callS (pc' := 4) (d1 := 1) (As := [_]) rfl rfl rfl rfl (by decide) rfl rfl (Nat.le_of_ble_eq_true rfl) ⟨rfl, rfl⟩ (by decide) ?_
  refine w_X9_isRow (fun h1w h1l h1e => ?_) (fun h1 => ?_)
  · subst h1e
    refine ⟨rfl, ?_⟩
    refine x_if_ne (pc' := 7) rfl rfl (fun _ => ?_) (fun c4 => absurd c4 (by decide))
    refine x_aload (pc' := 10) rfl rfl rfl ?_
    refine x_getR (pc' := 13) rfl rfl rfl (by decide) rfl (by decide) rfl rfl ?_
    refine x_getI (j := 2) (pc' := 16) rfl rfl rfl (by decide) rfl (by decide) rfl rfl ?_
    refine x_top (hW.ens) ?_
    refine x_int (pc' := 18) (v := nI 16) rfl rfl rfl ?_
    refine y_ic_lt (pc' := 21) rfl rfl (by omega) (by omega) (fun c18 => ?_) (fun c18 => ?_)
    · refine x_aload (pc' := 25) rfl rfl rfl ?_
      refine x_callV (pc' := 28) (d1 := 3) (Bs := []) rfl rfl rfl rfl rfl rfl rfl (Nat.le_of_ble_eq_true rfl) ⟨rfl, rfl⟩ (by decide) rfl (by decide) ?_
      refine w_X9_remember hH (fun D1 f1 g1 hH1 => ?_)
      refine ⟨rfl, ?_⟩
      refine x_aload (pc' := 29) rfl rfl rfl ?_
      refine x_getR (pc' := 32) rfl rfl rfl (by decide) rfl (by decide) rfl rfl ?_
      refine x_getR (pc' := 35) rfl rfl rfl (by decide) rfl (by decide) rfl rfl ?_
      refine x_aload (pc' := 36) rfl rfl rfl ?_
      refine x_getR (pc' := 39) rfl rfl rfl (by decide) rfl (by decide) rfl rfl ?_
      refine x_getI (j := 2) (pc' := 42) rfl rfl rfl (by decide) rfl (by decide) rfl rfl ?_
      refine x_top ((congrFun (f1 1 (by decide) (by decide)) 2).trans hW.ens) ?_
      refine x_iload (pc' := 43) rfl rfl rfl ?_
      refine x_iast (pc' := 44) rfl rfl (by decide) rfl (by decide) (show _ < 16 by omega) ?_
      refine x_aload (pc' := 45) rfl rfl rfl ?_
      refine x_getR (pc' := 48) rfl rfl rfl (by decide) rfl (by decide) rfl rfl ?_
      refine x_dup (pc' := 49) rfl rfl rfl ?_
      refine x_getI (j := 2) (pc' := 52) rfl rfl rfl (by decide) rfl (by decide) rfl rfl ?_
      refine x_top ((congrFun (f1 1 (by decide) (by decide)) 2).trans hW.ens) ?_
      refine x_int (pc' := 53) (v := nI 1) rfl rfl rfl ?_
      refine y_iadd (pc' := 54) rfl rfl ?_
      refine x_putI (j := 2) (pc' := 57) rfl rfl rfl (by decide) rfl (by decide) rfl rfl ?_
      refine x_aload (pc' := 58) rfl rfl rfl ?_
      refine x_getR (pc' := 61) rfl rfl rfl (by decide) rfl (by decide) rfl rfl ?_
      refine x_getI (j := 2) (pc' := 64) rfl rfl rfl (by decide) rfl (by decide) rfl rfl ?_
      refine x_iret rfl rfl ?_
      have e : seeR (tv D) (nI h1w) = (nI (ns (tv D) + 1), some (bh_up2 (bh_up2 (tv D) 12 (ns (tv D)) (nI h1w)) 0 2 (nI (ns (tv D) + 1)))) := by unfold seeR; rw [dN_some h1l (by decide)]; exact if_neg (by omega)
      refine actC hI f1 g1 hH1 k1 e rfl (fun k a b => ?_) ?_
      · rw [bh_up2_ne _ _ _ (by omega), bh_up2_ne _ _ _ (by omega)]
      · rw [tv_up (j := 0) rfl (by decide), tv_up (j := 12) rfl (by decide), frc_tv f1]
    · refine x_int (pc' := 23) (v := (-3)) rfl rfl rfl ?_
      refine x_iret rfl rfl ?_
      have e : seeR (tv D) (nI h1w) = (-3, none) := by unfold seeR; rw [dN_some h1l (by decide)]; exact if_pos (by have := hW.nsl; omega)
      rw [e] at k1
      exact k1 D (fun _ _ => rfl) rfl hI
  · refine ⟨rfl, ?_⟩
    refine x_if_ne (pc' := 7) rfl rfl (fun c4 => absurd (by decide) c4) (fun _ => ?_)
    refine x_int (pc' := 8) (v := (-1)) rfl rfl rfl ?_
    refine x_iret rfl rfl ?_
    have e : seeR (tv D) x = (-1, none) := by unfold seeR; rw [dN_none (by decide) h1]
    rw [e] at k1
    exact k1 D (fun _ _ => rfl) rfl hI
set_option maxRecDepth 20000 in
set_option maxHeartbeats 1000000 in
theorem w_X10_see {D : Nat → Nat → Int32} {L : Nat → Nat → Int64} {Q : bh_Q} {T : TW} {ps : List TW} {sh : Nat → Option TW} {tp : List Nat} (hI : InvM D T ps sh tp) (hG : Good T ps sh) {x : Int32} (k1 : ∀ D1, (∀ k, (k < 205 ∨ 228 ≤ k) → D1 k = D k) → InvM D1 (nxT T (seeR T x).2) (nxP T ps (seeR T x).2) sh tp → Q (some (.int (seeR T x).1)) (hp D1 L)) : bh_wc 3 m_X10_see [.ref 205, .int x] (hp D L) Q := by
  refine x_start (lv0 := [_, _]) (Nat.le_of_ble_eq_true rfl) rfl ?_
  have hW := hG.1
  have h12 := hW.nwl
  have hR := hI.1
  have h16 := hW.nsl
  refine x_iload (pc' := 1) rfl rfl rfl ?_
  refine x_i2l (pc' := 2) rfl rfl ?_
  refine x_long (pc' := 3) (v := (nI 0).toInt64) rfl rfl (by decide) ?_
  refine x_long (pc' := 6) (v := (nI 65535).toInt64) rfl rfl (by decide) ?_
  refine x_callS (pc' := 9) (d1 := 1) (As := [_, _, _]) rfl rfl rfl rfl (by decide) rfl rfl (Nat.le_of_ble_eq_true rfl) ⟨rfl, rfl⟩ (by decide) ?_
  refine w_X10_in (fun h6a h6l => ?_) (fun h6 => ?_)
  · obtain ⟨h6w, h6m, rfl⟩ := in_okL (n := 65535) (by decide) h6a h6l
    refine ⟨rfl, ?_⟩
    refine x_if_ne (pc' := 12) rfl rfl (fun _ => ?_) (fun c9 => absurd c9 (by decide))
    refine x_aload (pc' := 15) rfl rfl rfl ?_
    refine x_getR (pc' := 18) rfl rfl rfl (by decide) rfl (by decide) rfl rfl ?_
    refine x_int (pc' := 19) (v := nI 2) rfl rfl rfl ?_
    refine x_iald (pc' := 20) rfl rfl (by decide) rfl (by decide) (show _ < 560 by omega) ?_
    refine x_top (hR.1.2.2.1.trans hW.ens) ?_
    refine x_int (pc' := 22) (v := nI 16) rfl rfl rfl ?_
    refine y_ic_ne (pc' := 25) rfl rfl (by omega) (by omega) (fun c22 => ?_) (fun c22 => ?_)
    · refine x_aload (pc' := 29) rfl rfl rfl ?_
      refine x_callV (pc' := 32) (d1 := 2) (Bs := []) rfl rfl rfl rfl rfl rfl rfl (Nat.le_of_ble_eq_true rfl) ⟨rfl, rfl⟩ (by decide) rfl (by decide) ?_
      refine w_X10_keepsPast hW hR hI.2.1 hG.2.1 (fun D1 f1 g1 hH1 => ?_)
      refine ⟨rfl, ?_⟩
      refine x_aload (pc' := 33) rfl rfl rfl ?_
      refine x_getR (pc' := 36) rfl rfl rfl (by decide) rfl (by decide) rfl rfl ?_
      refine x_int (pc' := 39) (v := nI 544) rfl rfl rfl ?_
      refine x_aload (pc' := 40) rfl rfl rfl ?_
      refine x_getR (pc' := 43) rfl rfl rfl (by decide) rfl (by decide) rfl rfl ?_
      refine x_int (pc' := 44) (v := nI 2) rfl rfl rfl ?_
      refine x_iald (pc' := 45) rfl rfl (by decide) rfl (by decide) (show _ < 560 by omega) ?_
      refine x_top ((congrFun (f1 206 (by decide)) 2).trans (hR.1.2.2.1.trans hW.ens)) ?_
      refine y_iadd (pc' := 46) rfl rfl ?_
      refine x_iload (pc' := 47) rfl rfl rfl ?_
      refine x_iast (pc' := 48) rfl rfl (by decide) rfl (by decide) (show _ < 560 by omega) ?_
      refine x_aload (pc' := 49) rfl rfl rfl ?_
      refine x_getR (pc' := 52) rfl rfl rfl (by decide) rfl (by decide) rfl rfl ?_
      refine x_int (pc' := 53) (v := nI 2) rfl rfl rfl ?_
      refine x_dup2 (pc' := 54) rfl rfl rfl rfl ?_
      refine x_iald (pc' := 55) rfl rfl (by decide) rfl (by decide) (show _ < 560 by omega) ?_
      refine x_top ((if_neg (by omega)).trans ((congrFun (f1 206 (by decide)) 2).trans (hR.1.2.2.1.trans hW.ens))) ?_
      refine x_int (pc' := 56) (v := nI 1) rfl rfl rfl ?_
      refine y_iadd (pc' := 57) rfl rfl ?_
      refine x_iast (pc' := 58) rfl rfl (by decide) rfl (by decide) (show _ < 560 by omega) ?_
      refine x_aload (pc' := 59) rfl rfl rfl ?_
      refine x_getR (pc' := 62) rfl rfl rfl (by decide) rfl (by decide) rfl rfl ?_
      refine x_int (pc' := 63) (v := nI 2) rfl rfl rfl ?_
      refine x_iald (pc' := 64) rfl rfl (by decide) rfl (by decide) (show _ < 560 by omega) ?_
      refine x_iret rfl rfl ?_
      have e : seeR T (nI h6w) = (nI (ns T + 1), some (bh_up2 (bh_up2 T 12 (ns T) (nI h6w)) 0 2 (nI (ns T + 1)))) := by unfold seeR; rw [dN_some h6m (by decide)]; exact if_neg c22
      refine actM hI f1 g1 hH1 k1 e (fun k a b c => ?_) (fun j hj => rfl) ?_
      · rw [bh_up2_ne _ _ _ a, bh_up2_ne _ _ _ a]
      · rw [bh_up2_k, bh_up2_k, f1 206 (by decide)]; exact rn_see hW hR rfl c22
    · refine x_int (pc' := 27) (v := (-3)) rfl rfl rfl ?_
      refine x_iret rfl rfl ?_
      have e : seeR T (nI h6w) = (-3, none) := by unfold seeR; rw [dN_some h6m (by decide)]; exact if_pos c22
      rw [e] at k1
      exact k1 D (fun _ _ => rfl) hI
  · refine ⟨rfl, ?_⟩
    refine x_if_ne (pc' := 12) rfl rfl (fun c9 => absurd (by decide) c9) (fun _ => ?_)
    refine x_int (pc' := 13) (v := (-1)) rfl rfl rfl ?_
    refine x_iret rfl rfl ?_
    have e : seeR T x = (-1, none) := by unfold seeR; rw [dN_none (by decide) (okN_inL (by decide) h6)]
    rw [e] at k1
    exact k1 D (fun _ _ => rfl) hI
set_option maxRecDepth 20000 in
set_option maxHeartbeats 1000000 in
theorem w_X9_forget {D : Nat → Nat → Int32} {L : Nat → Nat → Int64} {Q : bh_Q} {ps : List TW} {sh : Nat → Option TW} {tp : List Nat} (hI : InvC D ps sh tp) (hG : Good (tv D) ps sh) (k1 : ∀ D1, (∀ k, 205 ≤ k → D1 k = D k) → tv D1 = nxT (tv D) (forgetR (tv D)).2 → InvC D1 (nxP (tv D) ps (forgetR (tv D)).2) sh tp → Q (some (.int (forgetR (tv D)).1)) (hp D1 L)) : bh_wc 4 m_X9_forget [.ref 0] (hp D L) Q := by
  refine x_start (lv0 := [_, _]) (Nat.le_of_ble_eq_true rfl) rfl ?_
  have hW := hG.1
  have h12 := hW.nwl
  have hH := hI.1
  have h16 := hW.nsl
  refine x_aload (pc' := 1) rfl rfl rfl ?_
  refine x_getR (pc' := 4) rfl rfl rfl (by decide) rfl (by decide) rfl rfl ?_
  refine x_getI (j := 2) (pc' := 7) rfl rfl rfl (by decide) rfl (by decide) rfl rfl ?_
  refine x_top (hW.ens) ?_
  refine x_istore (pc' := 8) (lv' := [_, _]) rfl rfl (by decide) rfl ?_
  refine x_iload (pc' := 9) rfl rfl rfl ?_
  refine y_if_ne (pc' := 12) rfl rfl (by omega) (fun c9 => ?_) (fun c9 => ?_)
  · refine x_aload (pc' := 15) rfl rfl rfl ?_
    refine x_callV (pc' := 18) (d1 := 3) (Bs := []) rfl rfl rfl rfl rfl rfl rfl (Nat.le_of_ble_eq_true rfl) ⟨rfl, rfl⟩ (by decide) rfl (by decide) ?_
    refine w_X9_remember hH (fun D1 f1 g1 hH1 => ?_)
    refine ⟨rfl, ?_⟩
    refine x_aload (pc' := 19) rfl rfl rfl ?_
    refine x_getR (pc' := 22) rfl rfl rfl (by decide) rfl (by decide) rfl rfl ?_
    refine x_int (pc' := 23) (v := nI 0) rfl rfl rfl ?_
    refine x_putI (j := 2) (pc' := 26) rfl rfl rfl (by decide) rfl (by decide) rfl rfl ?_
    refine x_iload (pc' := 27) rfl rfl rfl ?_
    refine x_iret rfl rfl ?_
    have e : forgetR (tv D) = (nI (ns (tv D)), some (bh_up2 (tv D) 0 2 (nI 0))) := if_neg (by omega)
    refine actC hI f1 g1 hH1 k1 e rfl (fun k a b => ?_) ?_
    · rw [bh_up2_ne _ _ _ (by omega)]
    · rw [tv_up (j := 0) rfl (by decide), frc_tv f1]
  · refine x_int (pc' := 13) (v := (-1)) rfl rfl rfl ?_
    refine x_iret rfl rfl ?_
    have e : forgetR (tv D) = (-1, none) := if_pos (by omega)
    rw [e] at k1
    exact k1 D (fun _ _ => rfl) rfl hI
set_option maxRecDepth 20000 in
set_option maxHeartbeats 1000000 in
theorem w_X10_forget {D : Nat → Nat → Int32} {L : Nat → Nat → Int64} {Q : bh_Q} {T : TW} {ps : List TW} {sh : Nat → Option TW} {tp : List Nat} (hI : InvM D T ps sh tp) (hG : Good T ps sh) (k1 : ∀ D1, (∀ k, (k < 205 ∨ 228 ≤ k) → D1 k = D k) → InvM D1 (nxT T (forgetR T).2) (nxP T ps (forgetR T).2) sh tp → Q (some (.int (forgetR T).1)) (hp D1 L)) : bh_wc 3 m_X10_forget [.ref 205] (hp D L) Q := by
  refine x_start (lv0 := [_, _]) (Nat.le_of_ble_eq_true rfl) rfl ?_
  have hW := hG.1
  have h12 := hW.nwl
  have hR := hI.1
  have h16 := hW.nsl
  refine x_aload (pc' := 1) rfl rfl rfl ?_
  refine x_getR (pc' := 4) rfl rfl rfl (by decide) rfl (by decide) rfl rfl ?_
  refine x_int (pc' := 5) (v := nI 2) rfl rfl rfl ?_
  refine x_iald (pc' := 6) rfl rfl (by decide) rfl (by decide) (show _ < 560 by omega) ?_
  refine x_top (hR.1.2.2.1.trans hW.ens) ?_
  refine y_if_ne (pc' := 9) rfl rfl (by omega) (fun c6 => ?_) (fun c6 => ?_)
  · refine x_aload (pc' := 12) rfl rfl rfl ?_
    refine x_callV (pc' := 15) (d1 := 2) (Bs := []) rfl rfl rfl rfl rfl rfl rfl (Nat.le_of_ble_eq_true rfl) ⟨rfl, rfl⟩ (by decide) rfl (by decide) ?_
    refine w_X10_keepsPast hW hR hI.2.1 hG.2.1 (fun D1 f1 g1 hH1 => ?_)
    refine ⟨rfl, ?_⟩
    refine x_aload (pc' := 16) rfl rfl rfl ?_
    refine x_getR (pc' := 19) rfl rfl rfl (by decide) rfl (by decide) rfl rfl ?_
    refine x_int (pc' := 20) (v := nI 2) rfl rfl rfl ?_
    refine x_iald (pc' := 21) rfl rfl (by decide) rfl (by decide) (show _ < 560 by omega) ?_
    refine x_top ((congrFun (f1 206 (by decide)) 2).trans (hR.1.2.2.1.trans hW.ens)) ?_
    refine x_istore (pc' := 22) (lv' := [_, _]) rfl rfl (by decide) rfl ?_
    refine x_aload (pc' := 23) rfl rfl rfl ?_
    refine x_getR (pc' := 26) rfl rfl rfl (by decide) rfl (by decide) rfl rfl ?_
    refine x_int (pc' := 27) (v := nI 2) rfl rfl rfl ?_
    refine x_int (pc' := 28) (v := nI 0) rfl rfl rfl ?_
    refine x_iast (pc' := 29) rfl rfl (by decide) rfl (by decide) (show _ < 560 by omega) ?_
    refine x_iload (pc' := 30) rfl rfl rfl ?_
    refine x_iret rfl rfl ?_
    have e : forgetR T = (nI (ns T), some (bh_up2 T 0 2 (nI 0))) := if_neg (by omega)
    refine actM hI f1 g1 hH1 k1 e (fun k a b c => ?_) (fun j hj => rfl) ?_
    · rw [bh_up2_ne _ _ _ a]
    · rw [bh_up2_k, f1 206 (by decide)]; exact rn_forget hR
  · refine x_int (pc' := 10) (v := (-1)) rfl rfl rfl ?_
    refine x_iret rfl rfl ?_
    have e : forgetR T = (-1, none) := if_pos (by omega)
    rw [e] at k1
    exact k1 D (fun _ _ => rfl) hI
