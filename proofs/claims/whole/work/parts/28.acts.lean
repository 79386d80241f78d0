/-! ===== acts: what they answer, what they make of the town ===== -/
def hireR (T : TW) (x y : Int32) : Int32 × Option TW := match dN (nw T) x, dN (nw T) y with
  | some w, some u => if isD T w = true ∨ isD T u = true then (-4, none) else if T 5 w = nI u then (-2, none) else if pu T w ≤ pu T u then (-3, none) else (nI (ch (bh_up2 T 5 w (nI u)) w).length, some (bh_up2 T 5 w (nI u)))
  | _, _ => (-1, none)
def sackR (T : TW) (x : Int32) : Int32 × Option TW := match dN (nw T) x with
  | some w => if isD T w = true then (-4, none) else if T 5 w = -1 then (-2, none) else (T 5 w, some (bh_up2 T 5 w (-1)))
  | _ => (-1, none)
def gift (x : Int32) : Option Nat := match dN 10000 x with
  | some n => if n = 0 then none else some n
  | none => none
theorem gift_some {n : Nat} (h1 : 1 ≤ n) (h2 : n ≤ 9999) : gift (nI n) = some n := by
  unfold gift
  rw [dN_some (by omega) (by decide)]
  dsimp only
  rw [if_neg (by omega)]
theorem gift_none {x : Int32} (h : ¬ okG x) : gift x = none := by
  unfold gift
  cases hd : dN 10000 x with
  | none => rfl
  | some n =>
    dsimp only
    by_cases e : n = 0
    · rw [if_pos e]
    · exfalso
      unfold dN at hd
      split at hd
      next hq =>
        obtain ⟨j, hj, hx⟩ := vp_in_of (vp_in_iff.mpr hq) (by decide)
        cases hd
        refine h ⟨j, ?_, by omega, hx⟩
        rw [hx, nI_clamp (by omega)] at e
        omega
      next => cases hd
def blameR (T : TW) (x y : Int32) : Int32 × Option TW := match dN (nw T) x, gift y with
  | some w, some _ => (T 6 w - y, some (bh_up2 T 6 w (T 6 w - y)))
  | _, _ => (-1, none)
def seeR (T : TW) (x : Int32) : Int32 × Option TW := match dN 65536 x with
  | some _ => if ns T = 16 then (-3, none) else (nI (ns T + 1), some (bh_up2 (bh_up2 T 12 (ns T) x) 0 2 (nI (ns T + 1))))
  | _ => (-1, none)
def forgetR (T : TW) : Int32 × Option TW := if ns T = 0 then (-1, none) else (nI (ns T), some (bh_up2 T 0 2 (nI 0)))
theorem nd2 {a b : Bool} (ha : a = false) (hb : b = false) : ¬ (a = true ∨ b = true) := by rintro (h | h) <;> simp_all
theorem toI_gift {x : Int32} (h1 : (nI 1) ≤ x) (h2 : x ≤ nI 9999) : ∃ j : Nat, 1 ≤ j ∧ j ≤ 9999 ∧ x = nI j := by
  obtain ⟨j, hj, rfl⟩ := in_okL (n := 9999) (by decide) (Int32.le_trans (by decide) h1) h2
  exact ⟨j, (nI_leI (a := 1) (by decide) (by omega)).mp h1, by omega, rfl⟩
theorem gift_in {x : Int32} (h : ¬ (nI 1 ≤ x ∧ x ≤ nI 9999)) : ¬ okG x := by
  rintro ⟨j, h1, h2, rfl⟩
  exact h ⟨nI_le h1 (by omega), nI_le h2 (by decide)⟩
set_option maxRecDepth 20000 in
set_option maxHeartbeats 1000000 in
theorem w_X9_hire {D : Nat → Nat → Int32} {L : Nat → Nat → Int64} {Q : bh_Q} {ps : List TW} {sh : Nat → Option TW} {tp : List Nat} (hI : InvC D ps sh tp) (hG : Good (tv D) ps sh) {x y : Int32} (k1 : ∀ D1, (∀ k, 205 ≤ k → D1 k = D k) → tv D1 = nxT (tv D) (hireR (tv D) x y).2 → InvC D1 (nxP (tv D) ps (hireR (tv D) x y).2) sh tp → Q (some (.int (hireR (tv D) x y).1)) (hp D1 L)) : bh_wc 4 m_X9_hire [.ref 0, .int x, .int y] (hp D L) Q := by
  refine x_start (lv0 := [_, _, _]) (Nat.le_of_ble_eq_true rfl) rfl ?_
  have hW := hG.1
  have h12 := hW.nwl
  have hH := hI.1
  refine x_aload (pc' := 1) rfl rfl rfl ?_
  refine x_getR (pc' := 4) rfl rfl rfl (by decide) rfl (by decide) rfl rfl ?_
  refine x_iload (pc' := 5) rfl rfl rfl ?_
  refine x_callV (pc' := 8) (d1 := 1) (Bs := [_]) rfl rfl rfl rfl rfl rfl rfl (Nat.le_of_ble_eq_true rfl) ⟨rfl, rfl⟩ (by decide) rfl (by decide) ?_
  refine w_X7_isWriter hW (fun h5w h5l e => ?_) (fun h5 => ?_)
  · subst e
    refine ⟨rfl, ?_⟩
    refine x_if_eq (pc' := 11) rfl rfl (fun c8 => absurd c8 (by decide)) (fun _ => ?_)
    refine x_aload (pc' := 12) rfl rfl rfl ?_
    refine x_getR (pc' := 15) rfl rfl rfl (by decide) rfl (by decide) rfl rfl ?_
    refine x_iload (pc' := 16) rfl rfl rfl ?_
    refine x_callV (pc' := 19) (d1 := 1) (Bs := [_]) rfl rfl rfl rfl rfl rfl rfl (Nat.le_of_ble_eq_true rfl) ⟨rfl, rfl⟩ (by decide) rfl (by decide) ?_
    refine w_X7_isWriter hW (fun h16w h16l e => ?_) (fun h16 => ?_)
    · subst e
      refine ⟨rfl, ?_⟩
      refine x_if_ne (pc' := 22) rfl rfl (fun _ => ?_) (fun c19 => absurd c19 (by decide))
      refine x_aload (pc' := 25) rfl rfl rfl ?_
      refine x_getR (pc' := 28) rfl rfl rfl (by decide) rfl (by decide) rfl rfl ?_
      refine x_iload (pc' := 29) rfl rfl rfl ?_
      refine x_callV (pc' := 32) (d1 := 1) (Bs := [_]) rfl rfl rfl rfl rfl rfl rfl (Nat.le_of_ble_eq_true rfl) ⟨rfl, rfl⟩ (by decide) rfl (by decide) ?_
      refine w_X7_isDead hW (by assumption) (fun h29 => ?_) (fun h29 => ?_)
      · refine ⟨rfl, ?_⟩
        refine x_if_ne (pc' := 35) rfl rfl (fun _ => ?_) (fun c32 => absurd c32 (by decide))
        refine x_int (pc' := 48) (v := (-4)) rfl rfl rfl ?_
        refine x_iret rfl rfl ?_
        first
          | (have e : hireR (tv D) (nI h5w) (nI h16w) = (-4, none) := by unfold hireR; rw [dN_some h5l (by omega), dN_some h16l (by omega)]; dsimp only; rw [if_pos (Or.inl h29)]
             rw [e] at k1
             exact k1 D (fun _ _ => rfl) rfl hI)
          | (have e : hireR (tv D) (nI h5w) (nI h16w) = (-4, none) := by unfold hireR; rw [dN_some h5l (by omega), dN_some h16l (by omega)]; dsimp only; rw [if_pos (Or.inr h40)]
             rw [e] at k1
             exact k1 D (fun _ _ => rfl) rfl hI)
      · refine ⟨rfl, ?_⟩
        refine x_if_ne (pc' := 35) rfl rfl (fun c32 => absurd (by decide) c32) (fun _ => ?_)
        refine x_aload (pc' := 36) rfl rfl rfl ?_
        refine x_getR (pc' := 39) rfl rfl rfl (by decide) rfl (by decide) rfl rfl ?_
        refine x_iload (pc' := 40) rfl rfl rfl ?_
        refine x_callV (pc' := 43) (d1 := 1) (Bs := [_]) rfl rfl rfl rfl rfl rfl rfl (Nat.le_of_ble_eq_true rfl) ⟨rfl, rfl⟩ (by decide) rfl (by decide) ?_
        refine w_X7_isDead hW (by assumption) (fun h40 => ?_) (fun h40 => ?_)
        · refine ⟨rfl, ?_⟩
          refine x_if_eq (pc' := 46) rfl rfl (fun c43 => absurd c43 (by decide)) (fun _ => ?_)
          refine x_int (pc' := 48) (v := (-4)) rfl rfl rfl ?_
          refine x_iret rfl rfl ?_
          first
            | (have e : hireR (tv D) (nI h5w) (nI h16w) = (-4, none) := by unfold hireR; rw [dN_some h5l (by omega), dN_some h16l (by omega)]; dsimp only; rw [if_pos (Or.inl h29)]
               rw [e] at k1
               exact k1 D (fun _ _ => rfl) rfl hI)
            | (have e : hireR (tv D) (nI h5w) (nI h16w) = (-4, none) := by unfold hireR; rw [dN_some h5l (by omega), dN_some h16l (by omega)]; dsimp only; rw [if_pos (Or.inr h40)]
               rw [e] at k1
               exact k1 D (fun _ _ => rfl) rfl hI)
        · refine ⟨rfl, ?_⟩
          refine x_if_eq (pc' := 46) rfl rfl (fun _ => ?_) (fun c43 => absurd (by decide) c43)
          refine x_aload (pc' := 50) rfl rfl rfl ?_
          refine x_getR (pc' := 53) rfl rfl rfl (by decide) rfl (by decide) rfl rfl ?_
          refine x_getR (pc' := 56) rfl rfl rfl (by decide) rfl (by decide) rfl rfl ?_
          refine x_iload (pc' := 57) rfl rfl rfl ?_
          refine x_iald (pc' := 58) rfl rfl (by decide) rfl (by decide) (show _ < 12 by omega) ?_
          refine x_iload (pc' := 59) rfl rfl rfl ?_
          refine x_ic_ne (pc' := 62) rfl rfl (fun c59 => ?_) (fun c59 => ?_)
          · refine x_aload (pc' := 66) rfl rfl rfl ?_
            refine x_getR (pc' := 69) rfl rfl rfl (by decide) rfl (by decide) rfl rfl ?_
            refine x_getR (pc' := 72) rfl rfl rfl (by decide) rfl (by decide) rfl rfl ?_
            refine x_iload (pc' := 73) rfl rfl rfl ?_
            refine x_iald (pc' := 74) rfl rfl (by decide) rfl (by decide) (show _ < 12 by omega) ?_
            refine x_top (hW.epu (by assumption)) ?_
            refine x_aload (pc' := 75) rfl rfl rfl ?_
            refine x_getR (pc' := 78) rfl rfl rfl (by decide) rfl (by decide) rfl rfl ?_
            refine x_getR (pc' := 81) rfl rfl rfl (by decide) rfl (by decide) rfl rfl ?_
            refine x_iload (pc' := 82) rfl rfl rfl ?_
            refine x_iald (pc' := 83) rfl rfl (by decide) rfl (by decide) (show _ < 12 by omega) ?_
            refine x_top (hW.epu (by assumption)) ?_
            refine y_ic_lt (pc' := 86) rfl rfl (by first | omega | (have := hW.pul h5l; have := hW.pul h16l; omega)) (by first | omega | (have := hW.pul h5l; have := hW.pul h16l; omega)) (fun c83 => ?_) (fun c83 => ?_)
            · refine x_aload (pc' := 90) rfl rfl rfl ?_
              refine x_callV (pc' := 93) (d1 := 3) (Bs := []) rfl rfl rfl rfl rfl rfl rfl (Nat.le_of_ble_eq_true rfl) ⟨rfl, rfl⟩ (by decide) rfl (by decide) ?_
              refine w_X9_remember hH (fun D1 f1 g1 hH1 => ?_)
              refine ⟨rfl, ?_⟩
              refine x_aload (pc' := 94) rfl rfl rfl ?_
              refine x_getR (pc' := 97) rfl rfl rfl (by decide) rfl (by decide) rfl rfl ?_
              refine x_getR (pc' := 100) rfl rfl rfl (by decide) rfl (by decide) rfl rfl ?_
              refine x_iload (pc' := 101) rfl rfl rfl ?_
              refine x_iload (pc' := 102) rfl rfl rfl ?_
              refine x_iast (pc' := 103) rfl rfl (by decide) rfl (by decide) (show _ < 12 by omega) ?_
              have e2 : tv (bh_up2 D1 6 h5w (nI h16w)) = bh_up2 (tv D) 5 h5w (nI h16w) := by rw [tv_up (j := 5) rfl (by decide), frc_tv f1]
              have hW2 : WF (tv (bh_up2 D1 6 h5w (nI h16w))) := by rw [e2]; exact wf_un hW h5l (Or.inr ⟨is_nI h16l (by omega), by rw [nI_clamp (by omega)]; exact c83⟩)
              refine x_aload (pc' := 104) rfl rfl rfl ?_
              refine x_iload (pc' := 105) rfl rfl rfl ?_
              refine x_callV (pc' := 108) (d1 := 3) (Bs := [_]) rfl rfl rfl rfl rfl rfl rfl (Nat.le_of_ble_eq_true rfl) ⟨rfl, rfl⟩ (by decide) rfl (by decide) ?_
              refine w_X9_handsOf (D := bh_up2 D1 6 h5w (nI h16w)) hW2 (by rw [e2]; exact h5l) (fun D3 o3 h3 => ?_)
              refine ⟨rfl, ?_⟩
              refine x_iret rfl rfl ?_
              have e : hireR (tv D) (nI h5w) (nI h16w) = (nI (ch (bh_up2 (tv D) 5 h5w (nI h16w)) h5w).length, some (bh_up2 (tv D) 5 h5w (nI h16w))) := by unfold hireR; rw [dN_some h5l (by omega), dN_some h16l (by omega)]; dsimp only; rw [if_neg (nd2 h29 h40)]; exact (if_neg c59).trans (if_neg (by omega))
              rw [e] at k1
              rw [e2]
              refine k1 D3 (fun k hk => ?_) (by rw [o3.tv, e2]; rfl) (invC_off (invC_rem hI f1 g1 hH1) (by rw [o3 0 (by decide) (by decide)]; rfl) (fun k h1 h2 h3 => by rw [o3 k (by omega) (by omega), bh_up2_ne _ _ _ (by omega)]))
              rw [o3 k (by omega) (by omega), bh_up2_ne _ _ _ (by omega), f1 k (by omega) (by omega)]
            · refine x_int (pc' := 88) (v := (-3)) rfl rfl rfl ?_
              refine x_iret rfl rfl ?_
              have e : hireR (tv D) (nI h5w) (nI h16w) = (-3, none) := by unfold hireR; rw [dN_some h5l (by omega), dN_some h16l (by omega)]; dsimp only; rw [if_neg (nd2 h29 h40)]; exact (if_neg c59).trans (if_pos c83)
              rw [e] at k1
              exact k1 D (fun _ _ => rfl) rfl hI
          · refine x_int (pc' := 64) (v := (-2)) rfl rfl rfl ?_
            refine x_iret rfl rfl ?_
            have e : hireR (tv D) (nI h5w) (nI h16w) = (-2, none) := by unfold hireR; rw [dN_some h5l (by omega), dN_some h16l (by omega)]; dsimp only; rw [if_neg (nd2 h29 h40)]; exact if_pos c59
            rw [e] at k1
            exact k1 D (fun _ _ => rfl) rfl hI
    · refine ⟨rfl, ?_⟩
      refine x_if_ne (pc' := 22) rfl rfl (fun c19 => absurd (by decide) c19) (fun _ => ?_)
      refine x_int (pc' := 23) (v := (-1)) rfl rfl rfl ?_
      refine x_iret rfl rfl ?_
      first
        | (have e : hireR (tv D) x y = (-1, none) := by unfold hireR; rw [dN_none (by omega) h5]
           rw [e] at k1
           exact k1 D (fun _ _ => rfl) rfl hI)
        | (have e : hireR (tv D) (nI h5w) y = (-1, none) := by unfold hireR; rw [dN_some h5l (by omega), dN_none (by omega) h16]
           rw [e] at k1
           exact k1 D (fun _ _ => rfl) rfl hI)
  · refine ⟨rfl, ?_⟩
    refine x_if_eq (pc' := 11) rfl rfl (fun _ => ?_) (fun c8 => absurd (by decide) c8)
    refine x_int (pc' := 23) (v := (-1)) rfl rfl rfl ?_
    refine x_iret rfl rfl ?_
    first
      | (have e : hireR (tv D) x y = (-1, none) := by unfold hireR; rw [dN_none (by omega) h5]
         rw [e] at k1
         exact k1 D (fun _ _ => rfl) rfl hI)
      | (have e : hireR (tv D) (nI h5w) y = (-1, none) := by unfold hireR; rw [dN_some h5l (by omega), dN_none (by omega) h16]
         rw [e] at k1
         exact k1 D (fun _ _ => rfl) rfl hI)
set_option maxRecDepth 20000 in
set_option maxHeartbeats 1000000 in
theorem w_X10_hire {D : Nat → Nat → Int32} {L : Nat → Nat → Int64} {Q : bh_Q} {T : TW} {ps : List TW} {sh : Nat → Option TW} {tp : List Nat} (hI : InvM D T ps sh tp) (hG : Good T ps sh) {x y : Int32} (k1 : ∀ D1, (∀ k, (k < 205 ∨ 228 ≤ k) → D1 k = D k) → InvM D1 (nxT T (hireR T x y).2) (nxP T ps (hireR T x y).2) sh tp → Q (some (.int (hireR T x y).1)) (hp D1 L)) : bh_wc 4 m_X10_hire [.ref 205, .int x, .int y] (hp D L) Q := by
  refine x_start (lv0 := [_, _, _]) (Nat.le_of_ble_eq_true rfl) rfl ?_
  have hW := hG.1
  have h12 := hW.nwl
  have hR := hI.1
  refine x_aload (pc' := 1) rfl rfl rfl ?_
  refine x_iload (pc' := 2) rfl rfl rfl ?_
  refine x_callV (pc' := 5) (d1 := 2) (Bs := [_]) rfl rfl rfl rfl rfl rfl rfl (Nat.le_of_ble_eq_true rfl) ⟨rfl, rfl⟩ (by decide) rfl (by decide) ?_
  refine w_X10_isWriter hW hR (fun h2w h2l e => ?_) (fun h2 => ?_)
  · subst e
    refine ⟨rfl, ?_⟩
    refine x_if_eq (pc' := 8) rfl rfl (fun c5 => absurd c5 (by decide)) (fun _ => ?_)
    refine x_aload (pc' := 9) rfl rfl rfl ?_
    refine x_iload (pc' := 10) rfl rfl rfl ?_
    refine x_callV (pc' := 13) (d1 := 2) (Bs := [_]) rfl rfl rfl rfl rfl rfl rfl (Nat.le_of_ble_eq_true rfl) ⟨rfl, rfl⟩ (by decide) rfl (by decide) ?_
    refine w_X10_isWriter hW hR (fun h10w h10l e => ?_) (fun h10 => ?_)
    · subst e
      refine ⟨rfl, ?_⟩
      refine x_if_ne (pc' := 16) rfl rfl (fun _ => ?_) (fun c13 => absurd c13 (by decide))
      refine x_aload (pc' := 19) rfl rfl rfl ?_
      refine x_iload (pc' := 20) rfl rfl rfl ?_
      refine x_callV (pc' := 23) (d1 := 2) (Bs := [_]) rfl rfl rfl rfl rfl rfl rfl (Nat.le_of_ble_eq_true rfl) ⟨rfl, rfl⟩ (by decide) rfl (by decide) ?_
      refine w_X10_isDead hW hR (by assumption) (fun h20 => ?_) (fun h20 => ?_)
      · refine ⟨rfl, ?_⟩
        refine x_if_ne (pc' := 26) rfl rfl (fun _ => ?_) (fun c23 => absurd c23 (by decide))
        refine x_int (pc' := 36) (v := (-4)) rfl rfl rfl ?_
        refine x_iret rfl rfl ?_
        first
          | (have e : hireR T (nI h2w) (nI h10w) = (-4, none) := by unfold hireR; rw [dN_some h2l (by omega), dN_some h10l (by omega)]; dsimp only; rw [if_pos (Or.inl h20)]
             rw [e] at k1
             exact k1 D (fun _ _ => rfl) hI)
          | (have e : hireR T (nI h2w) (nI h10w) = (-4, none) := by unfold hireR; rw [dN_some h2l (by omega), dN_some h10l (by omega)]; dsimp only; rw [if_pos (Or.inr h28)]
             rw [e] at k1
             exact k1 D (fun _ _ => rfl) hI)
      · refine ⟨rfl, ?_⟩
        refine x_if_ne (pc' := 26) rfl rfl (fun c23 => absurd (by decide) c23) (fun _ => ?_)
        refine x_aload (pc' := 27) rfl rfl rfl ?_
        refine x_iload (pc' := 28) rfl rfl rfl ?_
        refine x_callV (pc' := 31) (d1 := 2) (Bs := [_]) rfl rfl rfl rfl rfl rfl rfl (Nat.le_of_ble_eq_true rfl) ⟨rfl, rfl⟩ (by decide) rfl (by decide) ?_
        refine w_X10_isDead hW hR (by assumption) (fun h28 => ?_) (fun h28 => ?_)
        · refine ⟨rfl, ?_⟩
          refine x_if_eq (pc' := 34) rfl rfl (fun c31 => absurd c31 (by decide)) (fun _ => ?_)
          refine x_int (pc' := 36) (v := (-4)) rfl rfl rfl ?_
          refine x_iret rfl rfl ?_
          first
            | (have e : hireR T (nI h2w) (nI h10w) = (-4, none) := by unfold hireR; rw [dN_some h2l (by omega), dN_some h10l (by omega)]; dsimp only; rw [if_pos (Or.inl h20)]
               rw [e] at k1
               exact k1 D (fun _ _ => rfl) hI)
            | (have e : hireR T (nI h2w) (nI h10w) = (-4, none) := by unfold hireR; rw [dN_some h2l (by omega), dN_some h10l (by omega)]; dsimp only; rw [if_pos (Or.inr h28)]
               rw [e] at k1
               exact k1 D (fun _ _ => rfl) hI)
        · refine ⟨rfl, ?_⟩
          refine x_if_eq (pc' := 34) rfl rfl (fun _ => ?_) (fun c31 => absurd (by decide) c31)
          refine x_aload (pc' := 38) rfl rfl rfl ?_
          refine x_iload (pc' := 39) rfl rfl rfl ?_
          refine x_callV (pc' := 42) (d1 := 2) (Bs := [_]) rfl rfl rfl rfl rfl rfl rfl (Nat.le_of_ble_eq_true rfl) ⟨rfl, rfl⟩ (by decide) rfl (by decide) ?_
          refine w_X10_under hW hR (by assumption) ?_
          refine ⟨rfl, ?_⟩
          refine x_iload (pc' := 43) rfl rfl rfl ?_
          refine x_ic_ne (pc' := 46) rfl rfl (fun c43 => ?_) (fun c43 => ?_)
          · refine x_aload (pc' := 50) rfl rfl rfl ?_
            refine x_iload (pc' := 51) rfl rfl rfl ?_
            refine x_int (pc' := 52) (v := nI 0) rfl rfl rfl ?_
            refine x_callV (pc' := 55) (d1 := 1) (Bs := [_, _]) rfl rfl rfl rfl rfl rfl rfl (Nat.le_of_ble_eq_true rfl) ⟨rfl, rfl⟩ (by decide) rfl (by decide) ?_
            refine w_X10_of (by omega) (by omega) ?_
            refine ⟨rfl, ?_⟩
            refine x_top ((hR.rpu h10l).trans (hW.epu h10l)) ?_
            refine x_aload (pc' := 56) rfl rfl rfl ?_
            refine x_iload (pc' := 57) rfl rfl rfl ?_
            refine x_int (pc' := 58) (v := nI 0) rfl rfl rfl ?_
            refine x_callV (pc' := 61) (d1 := 1) (Bs := [_, _]) rfl rfl rfl rfl rfl rfl rfl (Nat.le_of_ble_eq_true rfl) ⟨rfl, rfl⟩ (by decide) rfl (by decide) ?_
            refine w_X10_of (by omega) (by omega) ?_
            refine ⟨rfl, ?_⟩
            refine x_top ((hR.rpu h2l).trans (hW.epu h2l)) ?_
            refine y_ic_lt (pc' := 64) rfl rfl (by first | omega | (have := hW.pul h2l; have := hW.pul h10l; omega)) (by first | omega | (have := hW.pul h2l; have := hW.pul h10l; omega)) (fun c61 => ?_) (fun c61 => ?_)
            · refine x_aload (pc' := 68) rfl rfl rfl ?_
              refine x_callV (pc' := 71) (d1 := 2) (Bs := []) rfl rfl rfl rfl rfl rfl rfl (Nat.le_of_ble_eq_true rfl) ⟨rfl, rfl⟩ (by decide) rfl (by decide) ?_
              refine w_X10_keepsPast hW hR hI.2.1 hG.2.1 (fun D1 f1 g1 hH1 => ?_)
              refine ⟨rfl, ?_⟩
              refine x_aload (pc' := 72) rfl rfl rfl ?_
              refine x_iload (pc' := 73) rfl rfl rfl ?_
              refine x_int (pc' := 74) (v := nI 4) rfl rfl rfl ?_
              refine x_iload (pc' := 75) rfl rfl rfl ?_
              refine x_callV (pc' := 78) (d1 := 1) (Bs := [_, _, _]) rfl rfl rfl rfl rfl rfl rfl (Nat.le_of_ble_eq_true rfl) ⟨rfl, rfl⟩ (by decide) rfl (by decide) ?_
              refine w_X10_puts_ (by omega) (by decide) ?_
              refine ⟨rfl, ?_⟩
              have hR2 : Rn (bh_up2 T 5 h2w (nI h10w)) ((bh_up2 D1 206 (4 + 10 * h2w + 4) (nI h10w)) 206) := by rw [bh_up2_k, f1 206 (by decide)]; exact rn_up5 hW hR h2l _
              have hW2 : WF (bh_up2 T 5 h2w (nI h10w)) := wf_un hW h2l (Or.inr ⟨is_nI h10l (by omega), by rw [nI_clamp (by omega)]; exact c61⟩)
              refine x_aload (pc' := 79) rfl rfl rfl ?_
              refine x_iload (pc' := 80) rfl rfl rfl ?_
              refine x_callV (pc' := 83) (d1 := 3) (Bs := [_]) rfl rfl rfl rfl rfl rfl rfl (Nat.le_of_ble_eq_true rfl) ⟨rfl, rfl⟩ (by decide) rfl (by decide) ?_
              refine w_X10_hands (D := bh_up2 D1 206 (4 + 10 * h2w + 4) (nI h10w)) hW2 hR2 h2l (fun D3 o3 h3 => ?_)
              refine ⟨rfl, ?_⟩
              refine x_iret rfl rfl ?_
              have e : hireR T (nI h2w) (nI h10w) = (nI (ch (bh_up2 T 5 h2w (nI h10w)) h2w).length, some (bh_up2 T 5 h2w (nI h10w))) := by unfold hireR; rw [dN_some h2l (by omega), dN_some h10l (by omega)]; dsimp only; rw [if_neg (nd2 h20 h28)]; exact (if_neg c43).trans (if_neg (by omega))
              rw [e] at k1
              refine k1 D3 (fun k hk => ?_) (invM_rem hI f1 g1 hH1 (fun k h1 h2 h3 => by rw [o3 k (fun q => by rw [List.mem_singleton] at q; omega), bh_up2_ne _ _ _ h1]) (fun j hj => by rw [o3 205 (by decide)]; rfl) (by rw [o3 206 (by decide)]; exact hR2))
              rw [o3 k (fun q => by rw [List.mem_singleton] at q; omega), bh_up2_ne _ _ _ (by omega), f1 k (fun q => by simp at q; omega)]
            · refine x_int (pc' := 66) (v := (-3)) rfl rfl rfl ?_
              refine x_iret rfl rfl ?_
              have e : hireR T (nI h2w) (nI h10w) = (-3, none) := by unfold hireR; rw [dN_some h2l (by omega), dN_some h10l (by omega)]; dsimp only; rw [if_neg (nd2 h20 h28)]; exact (if_neg c43).trans (if_pos c61)
              rw [e] at k1
              exact k1 D (fun _ _ => rfl) hI
          · refine x_int (pc' := 48) (v := (-2)) rfl rfl rfl ?_
            refine x_iret rfl rfl ?_
            have e : hireR T (nI h2w) (nI h10w) = (-2, none) := by unfold hireR; rw [dN_some h2l (by omega), dN_some h10l (by omega)]; dsimp only; rw [if_neg (nd2 h20 h28)]; exact if_pos c43
            rw [e] at k1
            exact k1 D (fun _ _ => rfl) hI
    · refine ⟨rfl, ?_⟩
      refine x_if_ne (pc' := 16) rfl rfl (fun c13 => absurd (by decide) c13) (fun _ => ?_)
      refine x_int (pc' := 17) (v := (-1)) rfl rfl rfl ?_
      refine x_iret rfl rfl ?_
      first
        | (have e : hireR T x y = (-1, none) := by unfold hireR; rw [dN_none (by omega) h2]
           rw [e] at k1
           exact k1 D (fun _ _ => rfl) hI)
        | (have e : hireR T (nI h2w) y = (-1, none) := by unfold hireR; rw [dN_some h2l (by omega), dN_none (by omega) h10]
           rw [e] at k1
           exact k1 D (fun _ _ => rfl) hI)
  · refine ⟨rfl, ?_⟩
    refine x_if_eq (pc' := 8) rfl rfl (fun _ => ?_) (fun c5 => absurd (by decide) c5)
    refine x_int (pc' := 17) (v := (-1)) rfl rfl rfl ?_
    refine x_iret rfl rfl ?_
    first
      | (have e : hireR T x y = (-1, none) := by unfold hireR; rw [dN_none (by omega) h2]
         rw [e] at k1
         exact k1 D (fun _ _ => rfl) hI)
      | (have e : hireR T (nI h2w) y = (-1, none) := by unfold hireR; rw [dN_some h2l (by omega), dN_none (by omega) h10]
         rw [e] at k1
         exact k1 D (fun _ _ => rfl) hI)
