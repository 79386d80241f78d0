/-! ===== store, die ===== -/
theorem chF_cg {T T' : TW} (h : T' 5 = T 5) : ∀ f w, chF T' f w = chF T f w := by
  intro f
  induction f with
  | zero => intro w; rfl
  | succ f ih =>
    intro w
    show w :: (if T' 5 w = -1 then [] else chF T' f (T' 5 w).toNatClampNeg) = w :: (if T 5 w = -1 then [] else chF T f (T 5 w).toNatClampNeg)
    rw [h, ih]
theorem lnC_cg {T T' : TW} {b q : Nat} (h0 : T' 0 = T 0) (h2 : T' 2 = T 2) (h3 : T' 3 = T 3) (h4 : T' 4 = T 4) (h10 : T' 10 = T 10) (h8 : ∀ x, isD T x = true → T' 8 x = T 8 x ∧ T' 11 ((x * 4 + b) * 8 + q) = T 11 ((x * 4 + b) * 8 + q)) : ∀ c, lnC T' b q c = lnC T b q c := by
  have eD : ∀ x, isD T' x = isD T x := fun x => by unfold isD de; rw [h0]
  have eM : ∀ x, isM T' x = isM T x := fun x => by unfold isM mo; rw [h0]
  intro c
  induction c with
  | nil => unfold lnC pg; rw [h10]
  | cons x c ih =>
    unfold lnC
    rw [eD, ih]
    by_cases hd : isD T x = true
    · rw [if_pos hd, if_pos hd]
      unfold sk stk
      rw [(h8 x hd).1, (h8 x hd).2]
    · rw [if_neg hd, if_neg hd, eM]
      unfold kd fa fb
      rw [h2, h3, h4]
theorem lnC_all {T : TW} {b q q' : Nat} : ∀ c, lnC T b q c = none → lnC T b q' c = none := by
  intro c
  induction c with
  | nil => intro h; cases h
  | cons x c ih =>
    unfold lnC
    intro h
    by_cases hd : isD T x = true
    · rw [if_pos hd] at h ⊢
      by_cases hs : (sk T x).testBit b = true
      · rw [if_pos hs] at h; cases h
      · rw [if_neg hs]
    · rw [if_neg hd] at h ⊢
      rw [Option.map_eq_none_iff] at h ⊢
      exact ih h
theorem lnO_all {T : TW} {w b q : Nat} (q' : Nat) (h : lnO T w b q = none) : lnO T w b q' = none := lnC_all _ h
theorem toI_none {T : TW} (hW : WF T) {w b q : Nat} (hw : w < nw T) (hb : b < nb T) (hq : q < lng T b) : toI (lnO T w b q) = -2 ↔ lnO T w b q = none := by
  cases h : lnO T w b q with
  | none => exact ⟨fun _ => rfl, fun _ => rfl⟩
  | some r =>
    refine ⟨fun e => ?_, fun e => by cases e⟩
    exact absurd e (nI_m2 (by have := lnO_lt hW hw hb hq h; omega))
/-- the first p pages of book b stand in the stock of w, whose books in stock are s -/
def stP (T : TW) (w b p s : Nat) : TW := fun j i => if j = 8 ∧ i = w then nI s else if j = 11 ∧ (w * 4 + b) * 8 ≤ i ∧ i < (w * 4 + b) * 8 + p then toI (lnO T w b (i - (w * 4 + b) * 8)) else T j i
section bh_st
variable {T : TW} {w b p s : Nat}
theorem stP_j {j : Nat} (h8 : j ≠ 8) (h11 : j ≠ 11) : stP T w b p s j = T j := by
  funext i
  show (if _ then _ else if _ then _ else _) = _
  rw [if_neg (fun h => h8 h.1), if_neg (fun h => h11 h.1)]
theorem stP_8 (v : Nat) : stP T w b p s 8 v = if v = w then nI s else T 8 v := by
  show (if _ then _ else if _ then _ else _) = _
  by_cases e : v = w
  · rw [if_pos ⟨rfl, e⟩, if_pos e]
  · rw [if_neg (fun h => e h.2), if_neg (fun h => absurd h.1 (by decide)), if_neg e]
theorem stP_11 (i : Nat) : stP T w b p s 11 i = if (w * 4 + b) * 8 ≤ i ∧ i < (w * 4 + b) * 8 + p then toI (lnO T w b (i - (w * 4 + b) * 8)) else T 11 i := by
  show (if _ then _ else if _ then _ else _) = _
  rw [if_neg (fun h => absurd h.1 (by decide))]
  by_cases e : (w * 4 + b) * 8 ≤ i ∧ i < (w * 4 + b) * 8 + p
  · rw [if_pos ⟨rfl, e⟩, if_pos e]
  · rw [if_neg (fun h => e h.2), if_neg e]
theorem stP_0 (hW : WF T) (hw : w < nw T) : stP T w b 0 (sk T w) = T := by
  funext j i
  by_cases h8 : j = 8
  · subst h8
    rw [stP_8]
    by_cases e : i = w
    · rw [if_pos e, e]; exact (hW.esk hw).symm
    · rw [if_neg e]
  · by_cases h11 : j = 11
    · subst h11
      rw [stP_11, if_neg (by omega)]
    · rw [stP_j h8 h11]
theorem stP_s {s' : Nat} : bh_up2 (bh_up2 (stP T w b p s) 11 ((w * 4 + b) * 8 + p) (toI (lnO T w b p))) 8 w (nI s') = stP T w b (p + 1) s' := by
  funext j i
  by_cases h8 : j = 8
  · subst h8
    rw [bh_up2_k, stP_8]
    dsimp only
    by_cases e : i = w
    · rw [if_pos e, if_pos e]
    · rw [if_neg e, if_neg e, bh_up2_ne _ _ _ (by decide), stP_8, if_neg e]
  · rw [bh_up2_ne _ _ _ h8]
    by_cases h11 : j = 11
    · subst h11
      rw [bh_up2_k, stP_11]
      dsimp only
      by_cases e : i = (w * 4 + b) * 8 + p
      · rw [if_pos e, if_pos (by omega), e, Nat.add_sub_cancel_left]
      · rw [if_neg e, stP_11]
        by_cases e2 : (w * 4 + b) * 8 ≤ i ∧ i < (w * 4 + b) * 8 + p
        · rw [if_pos e2, if_pos (by omega)]
        · rw [if_neg e2, if_neg (by omega)]
    · rw [bh_up2_ne _ _ _ h11, stP_j h8 h11, stP_j h8 h11]
theorem stP_ln (hd : isD T w = false) (hb : b < 4) (hp : p ≤ 8) {v b' q : Nat} (hb' : b' < 4) (hq : q < 8) : lnO (stP T w b p s) v b' q = lnO T v b' q := by
  unfold lnO ch
  rw [chF_cg (stP_j (by decide) (by decide))]
  refine lnC_cg (stP_j (by decide) (by decide)) (stP_j (by decide) (by decide)) (stP_j (by decide) (by decide)) (stP_j (by decide) (by decide)) (stP_j (by decide) (by decide)) (fun x hx => ?_) _
  have hne : x ≠ w := fun e => by rw [e, hd] at hx; cases hx
  rw [stP_8, if_neg hne, stP_11, if_neg (by omega)]
  exact ⟨rfl, rfl⟩
theorem stP_nw : nw (stP T w b p s) = nw T := by unfold nw; rw [stP_j (by decide) (by decide)]
theorem stP_nb : nb (stP T w b p s) = nb T := by unfold nb; rw [stP_j (by decide) (by decide)]
theorem stP_lng {b' : Nat} : lng (stP T w b p s) b' = lng T b' := by unfold lng; rw [stP_j (by decide) (by decide)]
theorem stP_wf (hW : WF T) (hw : w < nw T) (hb : b < nb T) (hp : p ≤ lng T b) (hs : s < 2 ^ nb T) (hl : lnO T w b 0 ≠ none) : WF (stP T w b p s) := by
  have h12 := hW.nwl
  have h4 := hW.nbl
  refine ⟨hW.1, fun v hv => ?_, hW.2.2.1, fun i hi => ?_, hW.2.2.2.2⟩
  · obtain ⟨a1, a2, a3, a4, a5, a6, a7⟩ := hW.2.1 v hv
    refine ⟨a1, a2, a3, a4, a5, ?_, a7⟩
    rw [stP_8]
    by_cases e : v = w
    · rw [if_pos e]
      exact is_nI hs (Nat.lt_of_le_of_lt (Nat.pow_le_pow_right (by decide) h4) (by decide))
    · rw [if_neg e]; exact a6
  · rw [stP_11]
    by_cases e : (w * 4 + b) * 8 ≤ i ∧ i < (w * 4 + b) * 8 + p
    · rw [if_pos e]
      cases h : lnO T w b (i - (w * 4 + b) * 8) with
      | none => exact absurd (lnO_all 0 h) hl
      | some r => exact is_nI (lnO_lt hW hw hb (by omega) h) (by decide)
    · rw [if_neg e]; exact hW.2.2.2.1 i hi
theorem rn_st {N N' : Nat → Int32} (hW : WF T) (hR : Rn T N) (hw : w < nw T) (hb : b < nb T) (hp : p ≤ lng T b) (h9 : N' (4 + 10 * w + 9) = nI s) (hN : ∀ k, k ≠ 4 + 10 * w + 9 → (∀ q, q < p → k ≠ 124 + 8 * (4 * w + b) + q) → N' k = N k) (hS : ∀ q, q < p → N' (124 + 8 * (4 * w + b) + q) = toI (lnO T w b q)) (hs : s < 2 ^ 31) (hb1 : ∀ b', b' ≠ b → s.testBit b' = (sk T w).testBit b') (hb2 : s.testBit b = true → (sk T w).testBit b = true ∨ p = lng T b) : Rn (stP T w b p s) N' := by
  have h1 := hW.nsl
  have h12 := hW.nwl
  have h4 := hW.nbl
  have h8 := hW.lngl hb
  refine ⟨⟨(hN 0 (by omega) (by omega)).trans hR.1.1, (hN 1 (by omega) (by omega)).trans hR.1.2.1, (hN 2 (by omega) (by omega)).trans hR.1.2.2.1, (hN 3 (by omega) (by omega)).trans hR.1.2.2.2⟩, fun v hv => ?_, fun b hb => ⟨(hN _ (by have : b < nb T := hb; omega) (by have : b < nb T := hb; omega)).trans (hR.2.2.1 b hb).1, fun q hq => (hN _ (by have : b < nb T := hb; omega) (by have : b < nb T := hb; omega)).trans ((hR.2.2.1 b hb).2 q hq)⟩, fun v b' q hv hb' hq hs' => ?_, fun i hi => (hN _ (by omega) (by omega)).trans (hR.2.2.2.2 i hi)⟩
  · have h := hR.2.1 v hv
    have hw3 : v < nw T := hv
    refine ⟨(hN _ (by omega) (by omega)).trans h.1, (hN _ (by omega) (by omega)).trans h.2.1, fun hk => (hN _ (by omega) (by omega)).trans (h.2.2.1 hk), fun hk => (hN _ (by omega) (by omega)).trans (h.2.2.2.1 hk), (hN _ (by omega) (by omega)).trans h.2.2.2.2.1, (hN _ (by omega) (by omega)).trans h.2.2.2.2.2.1, (hN _ (by omega) (by omega)).trans h.2.2.2.2.2.2.1, (hN _ (by omega) (by omega)).trans h.2.2.2.2.2.2.2.1, (hN _ (by omega) (by omega)).trans h.2.2.2.2.2.2.2.2.1, ?_⟩
    rw [stP_8]
    by_cases e : v = w
    · rw [if_pos e, e]; exact h9
    · rw [if_neg e, hN _ (by omega) (by omega)]; exact h.2.2.2.2.2.2.2.2.2
  · have hv' : v < nw T := hv
    have hb3 : b' < nb T := hb'
    have hq' : q < lng T b' := hq
    have hl8 := hW.lngl hb3
    have hs2 : ((stP T w b p s 8 v).toNatClampNeg).testBit b' = true := hs'
    rw [stP_8] at hs2
    rw [stP_11]
    by_cases e : v = w
    · rw [if_pos e, nI_clamp hs] at hs2
      subst e
      by_cases e2 : b' = b
      · subst e2
        by_cases e3 : q < p
        · rw [if_pos (by omega), Nat.add_sub_cancel_left]; exact hS q e3
        · rw [if_neg (by omega), hN _ (by omega) (by omega)]
          rcases hb2 hs2 with h | h
          · exact hR.2.2.2.1 v b' q hv' hb3 hq' h
          · omega
      · rw [hb1 b' e2] at hs2
        rw [if_neg (by omega), hN _ (by omega) (by omega)]
        exact hR.2.2.2.1 v b' q hv' hb3 hq' hs2
    · rw [if_neg e] at hs2
      rw [if_neg (by omega), hN _ (by omega) (by omega)]
      exact hR.2.2.2.1 v b' q hv' hb3 hq' hs2
end bh_st
def storeR (T : TW) (x y : Int32) : Int32 × Option TW := match dN (nw T) x, dN (nb T) y with
  | some w, some b => if isD T w = true then (-4, none) else if lnO T w b 0 = none then (-2, none) else (nI (lng T b), some (stP T w b (lng T b) (sk T w ||| 1 <<< b)))
  | _, _ => (-1, none)
theorem sk_or {T : TW} (hW : WF T) {w b : Nat} (hw : w < nw T) (hb : b < nb T) : sk T w ||| 1 <<< b < 2 ^ nb T := by
  refine Nat.or_lt_two_pow (hW.skl hw) ?_
  rw [Nat.one_shiftLeft]
  exact Nat.pow_lt_pow_right (by decide) hb
theorem store_good {T : TW} {ps : List TW} {sh : Nat → Option TW} (x y : Int32) (hG : Good T ps sh) : Good (nxT T (storeR T x y).2) (nxP T ps (storeR T x y).2) sh := by
  refine good_nx hG (fun T' h => ?_)
  have h12 := hG.1.nwl
  have h4 := hG.1.nbl
  unfold storeR at h
  split at h
  next w b hw hb =>
    have hw' := (dN_lt (by omega) hw).1
    have hb' := (dN_lt (by omega) hb).1
    split at h
    · cases h
    split at h
    · cases h
    next hl =>
      cases h
      exact stP_wf hG.1 hw' hb' (Nat.le_refl _) (sk_or hG.1 hw' hb') hl
  next => cases h
set_option maxRecDepth 20000 in
set_option maxHeartbeats 1000000 in
theorem w_X9_lineOf {D : Nat → Nat → Int32} {L : Nat → Nat → Int64} {Q : bh_Q} (hW : WF (tv D)) {w b q : Nat} (hw : w < nw (tv D)) (hb : b < nb (tv D)) (hq : q < lng (tv D) b) (k1 : ∀ D', OffH D D' → Q (some (.int (toI (lnO (tv D) w b q)))) (hp D' L)) : bh_wc 4 m_X9_lineOf [.ref 0, .int (nI w), .int (nI b), .int (nI q)] (hp D L) Q := by
  refine x_start (lv0 := [_, _, _, _]) (Nat.le_of_ble_eq_true rfl) rfl ?_
  refine x_aload (pc' := 1) rfl rfl rfl ?_
  refine x_getR (pc' := 4) rfl rfl rfl (by decide) rfl (by decide) rfl rfl ?_
  refine x_aload (pc' := 5) rfl rfl rfl ?_
  refine x_getR (pc' := 8) rfl rfl rfl (by decide) rfl (by decide) rfl rfl ?_
  refine x_iload (pc' := 9) rfl rfl rfl ?_
  refine x_iload (pc' := 10) rfl rfl rfl ?_
  refine x_iload (pc' := 11) rfl rfl rfl ?_
  refine x_callV (pc' := 14) (d1 := 3) (Bs := [_, _, _, _]) rfl rfl rfl rfl rfl rfl rfl (Nat.le_of_ble_eq_true rfl) ⟨rfl, rfl⟩ (by decide) rfl (by decide) ?_
  refine w_X2_lineOf hW hw hb hq (fun D1 o1 => ?_)
  refine ⟨rfl, ?_⟩
  refine x_iret rfl rfl ?_
  exact k1 D1 o1
set_option maxRecDepth 20000 in
set_option maxHeartbeats 1000000 in
theorem w_X7_putStock {D : Nat → Nat → Int32} {L : Nat → Nat → Int64} {Q : bh_Q} {w b q s : Nat} {v : Int32} (hw : w < 12) (hb : b < 4) (hq : q < 8) (hs : D 9 w = nI s) (k1 : Q none (hp (bh_up2 (bh_up2 D 12 ((w * 4 + b) * 8 + q) v) 9 w (nI (s ||| 1 <<< b))) L)) : bh_wc 1 m_X7_putStock [.ref 1, .int (nI w), .int (nI b), .int (nI q), .int v] (hp D L) Q := by
  refine x_start (lv0 := [_, _, _, _, _]) (Nat.le_of_ble_eq_true rfl) rfl ?_
  refine x_aload (pc' := 1) rfl rfl rfl ?_
  refine x_getR (pc' := 4) rfl rfl rfl (by decide) rfl (by decide) rfl rfl ?_
  refine x_iload (pc' := 5) rfl rfl rfl ?_
  refine x_int (pc' := 6) (v := nI 4) rfl rfl rfl ?_
  refine y_imul (pc' := 7) rfl rfl ?_
  refine x_iload (pc' := 8) rfl rfl rfl ?_
  refine y_iadd (pc' := 9) rfl rfl ?_
  refine x_int (pc' := 11) (v := nI 8) rfl rfl rfl ?_
  refine y_imul (pc' := 12) rfl rfl ?_
  refine x_iload (pc' := 13) rfl rfl rfl ?_
  refine y_iadd (pc' := 14) rfl rfl ?_
  refine x_iload (pc' := 16) rfl rfl rfl ?_
  refine x_iast (pc' := 17) rfl rfl (by decide) rfl (by decide) (show _ < 384 by omega) ?_
  refine x_aload (pc' := 18) rfl rfl rfl ?_
  refine x_getR (pc' := 21) rfl rfl rfl (by decide) rfl (by decide) rfl rfl ?_
  refine x_iload (pc' := 22) rfl rfl rfl ?_
  refine x_dup2 (pc' := 23) rfl rfl rfl rfl ?_
  refine x_iald (pc' := 24) rfl rfl (by decide) rfl (by decide) (show _ < 12 by omega) ?_
  refine x_top (hs) ?_
  refine x_int (pc' := 25) (v := nI 1) rfl rfl rfl ?_
  refine x_iload (pc' := 26) rfl rfl rfl ?_
  refine y_ishl (pc' := 27) rfl rfl (by omega) ?_
  refine y_ior (pc' := 28) rfl rfl ?_
  refine x_iast (pc' := 29) rfl rfl (by decide) rfl (by decide) (show _ < 12 by omega) ?_
  refine x_vret rfl rfl ?_
  exact k1
set_option maxRecDepth 20000 in
set_option maxHeartbeats 1000000 in
theorem l_X9_store {T : TW} {w b : Nat} (hW : WF T) (hd : isD T w = false) (hw : w < nw T) (hb : b < nb T) (hl : lnO T w b 0 ≠ none) {d : Nat} (hd2 : 4 ≤ d) {L : Nat → Nat → Int64} {Q : bh_Q} : ∀ (f i s : Nat) (D : Nat → Nat → Int32), i + f = lng T b → tv D = stP T w b i s → (s = sk T w ∨ s = sk T w ||| 1 <<< b) → (∀ D', (∀ k, k ≠ 31 → k ≠ 32 → k ≠ 12 → k ≠ 9 → D' k = D k) → tv D' = stP T w b (lng T b) (sk T w ||| 1 <<< b) → Q (some (.int (nI (lng T b)))) (hp D' L)) → (i = 0 → s = sk T w ∨ True) → (0 < i → s = sk T w ||| 1 <<< b) → bw m_X9_store d Q 70 [.ref 0, .int (nI w), .int (nI b), .int (nI (lng T b)), .int (nI i)] [] D L := by
  have h12 := hW.nwl
  have h4 := hW.nbl
  have h8 := hW.lngl hb
  intro f
  induction f with
  | zero =>
    intro i s D hf ht hs k _ hs1
    have hs := hs1 (by have := hW.lng0 hb; omega)
    refine x_iload (pc' := 72) rfl rfl rfl ?_
    refine x_iload (pc' := 73) rfl rfl rfl ?_
    refine y_ic_ge (pc' := 76) rfl rfl (by omega) (by omega) (fun c73 => ?_) (fun c73 => ?_)
    · refine x_iload (pc' := 102) rfl rfl rfl ?_
      refine x_iret rfl rfl ?_
      have ei : i = lng T b := by omega
      subst ei
      subst hs
      skip
      exact k D (fun _ _ _ _ _ => rfl) ht
    · exact absurd c73 (by omega)
  | succ f ih =>
    intro i s D hf ht hs k _ _
    have hs2 : s < 2 ^ nb T := by rcases hs with rfl | rfl; exact hW.skl hw; exact sk_or hW hw hb
    refine x_iload (pc' := 72) rfl rfl rfl ?_
    refine x_iload (pc' := 73) rfl rfl rfl ?_
    refine y_ic_ge (pc' := 76) rfl rfl (by omega) (by omega) (fun c73 => ?_) (fun c73 => ?_)
    · exact absurd c73 (by omega)
    · refine x_aload (pc' := 77) rfl rfl rfl ?_
      refine x_getR (pc' := 80) rfl rfl rfl (by decide) rfl (by decide) rfl rfl ?_
      refine x_iload (pc' := 81) rfl rfl rfl ?_
      refine x_iload (pc' := 82) rfl rfl rfl ?_
      refine x_iload (pc' := 84) rfl rfl rfl ?_
      refine x_aload (pc' := 85) rfl rfl rfl ?_
      refine x_iload (pc' := 86) rfl rfl rfl ?_
      refine x_iload (pc' := 87) rfl rfl rfl ?_
      refine x_iload (pc' := 89) rfl rfl rfl ?_
      refine x_callV (pc' := 92) (d1 := 4) (Bs := [_, _, _]) rfl rfl rfl rfl rfl rfl rfl (Nat.le_of_ble_eq_true rfl) ⟨rfl, rfl⟩ (by decide) rfl (by omega) ?_
      have hWD : WF (tv D) := by rw [ht]; exact stP_wf hW hw hb (by omega) hs2 hl
      refine w_X9_lineOf hWD (by rw [ht, stP_nw]; exact hw) (by rw [ht, stP_nb]; exact hb) (by rw [ht, stP_lng]; omega) (fun D1 o1 => ?_)
      refine ⟨rfl, ?_⟩
      have ev : toI (lnO (tv D) w b i) = toI (lnO T w b i) := by rw [ht, stP_ln hd (by omega) (by omega) (by omega) (by omega)]
      refine x_top ev ?_
      have hs9 : D1 9 w = nI s := by
        rw [o1 9 (by decide) (by decide)]
        have := congrFun (congrFun ht 8) w
        rw [stP_8, if_pos rfl] at this
        exact this
      refine x_callV (pc' := 95) (d1 := 1) (Bs := [_, _, _, _]) rfl rfl rfl rfl rfl rfl rfl (Nat.le_of_ble_eq_true rfl) ⟨rfl, rfl⟩ (by decide) rfl (by omega) ?_
      refine w_X7_putStock (by omega) (by omega) (by omega) hs9 ?_
      refine ⟨rfl, ?_⟩
      refine y_inc (pc' := 98) (lv' := [_, _, _, _, _]) rfl rfl rfl (by decide) rfl ?_
      refine x_goto rfl ?_
      have hso : s ||| 1 <<< b = sk T w ||| 1 <<< b := by rcases hs with rfl | rfl; rfl; rw [Nat.or_assoc, Nat.or_self]
      refine ih (i + 1) (s ||| 1 <<< b) _ (by omega) ?_ (Or.inr hso) (fun D2 f2 t2 => k D2 (fun q h1 h2 h3 h4 => (f2 q h1 h2 h3 h4).trans (by rw [bh_up2_ne _ _ _ h4, bh_up2_ne _ _ _ h3, o1 q h1 h2])) t2) (fun _ => Or.inr trivial) (fun _ => hso)
      · show tv _ = stP T w b (i + 1) (s ||| 1 <<< b)
        rw [tv_up (j := 8) rfl (by decide), tv_up (j := 11) rfl (by decide), o1.tv, ht, stP_s]
set_option maxRecDepth 20000 in
set_option maxHeartbeats 1000000 in
theorem w_X9_store {D : Nat → Nat → Int32} {L : Nat → Nat → Int64} {Q : bh_Q} {ps : List TW} {sh : Nat → Option TW} {tp : List Nat} (hI : InvC D ps sh tp) (hG : Good (tv D) ps sh) {x y : Int32} (k1 : ∀ D1, (∀ k, 205 ≤ k → D1 k = D k) → tv D1 = nxT (tv D) (storeR (tv D) x y).2 → InvC D1 (nxP (tv D) ps (storeR (tv D) x y).2) sh tp → Q (some (.int (storeR (tv D) x y).1)) (hp D1 L)) : bh_wc 5 m_X9_store [.ref 0, .int x, .int y] (hp D L) Q := by
  refine x_start (lv0 := [_, _, _, _, _]) (Nat.le_of_ble_eq_true rfl) rfl ?_
  have hW := hG.1
  have h12 := hW.nwl
  have hH := hI.1
  have h4 := hW.nbl
  have hHo : ∀ {D0 : Nat → Nat → Int32}, OffH D D0 → HC D0 ps := fun o0 => (invC_off hI (o0 0 (by decide) (by decide)) (fun k a b c => o0 k (by omega) (by omega))).1
  refine x_aload (pc' := 1) rfl rfl rfl ?_
  refine x_getR (pc' := 4) rfl rfl rfl (by decide) rfl (by decide) rfl rfl ?_
  refine x_iload (pc' := 5) rfl rfl rfl ?_
  refine x_callV (pc' := 8) (d1 := 1) (Bs := [_]) rfl rfl rfl rfl rfl rfl rfl (Nat.le_of_ble_eq_true rfl) ⟨rfl, rfl⟩ (by decide) rfl (by decide) ?_
  refine w_X7_isWriter hW (fun h5w h5l e => ?_) (fun h5 => ?_)
  · subst e
    refine ⟨rfl, ?_⟩
    refine x_if_eq (pc' := 11) rfl rfl (fun c8 => absurd c8 (by decide)) (fun _ => ?_)
    refine x_aload (pc' := 12) rfl rfl rfl ?_
    refine x_getR (pc' := 15) rfl rfl rfl (by decide) rfl (by decide) rfl rfl ?_
    refine x_iload (pc' := 16) rfl rfl rfl ?_
    refine x_callV (pc' := 19) (d1 := 1) (Bs := [_]) rfl rfl rfl rfl rfl rfl rfl (Nat.le_of_ble_eq_true rfl) ⟨rfl, rfl⟩ (by decide) rfl (by decide) ?_
    refine w_X7_isBook hW (fun h16w h16l e => ?_) (fun h16 => ?_)
    · subst e
      refine ⟨rfl, ?_⟩
      refine x_if_ne (pc' := 22) rfl rfl (fun _ => ?_) (fun c19 => absurd c19 (by decide))
      refine x_aload (pc' := 25) rfl rfl rfl ?_
      refine x_getR (pc' := 28) rfl rfl rfl (by decide) rfl (by decide) rfl rfl ?_
      refine x_iload (pc' := 29) rfl rfl rfl ?_
      refine x_callV (pc' := 32) (d1 := 1) (Bs := [_]) rfl rfl rfl rfl rfl rfl rfl (Nat.le_of_ble_eq_true rfl) ⟨rfl, rfl⟩ (by decide) rfl (by decide) ?_
      refine w_X7_isDead hW (by assumption) (fun h29 => ?_) (fun h29 => ?_)
      · refine ⟨rfl, ?_⟩
        refine x_if_eq (pc' := 35) rfl rfl (fun c32 => absurd c32 (by decide)) (fun _ => ?_)
        refine x_int (pc' := 37) (v := (-4)) rfl rfl rfl ?_
        refine x_iret rfl rfl ?_
        have e : storeR (tv D) (nI h5w) (nI h16w) = (-4, none) := by unfold storeR; rw [dN_some h5l (by omega), dN_some h16l (by omega)]; exact if_pos h29
        rw [e] at k1
        exact k1 D (fun _ _ => rfl) rfl hI
      · refine ⟨rfl, ?_⟩
        refine x_if_eq (pc' := 35) rfl rfl (fun _ => ?_) (fun c32 => absurd (by decide) c32)
        refine x_aload (pc' := 39) rfl rfl rfl ?_
        refine x_iload (pc' := 40) rfl rfl rfl ?_
        refine x_iload (pc' := 41) rfl rfl rfl ?_
        refine x_int (pc' := 42) (v := nI 0) rfl rfl rfl ?_
        refine x_callV (pc' := 45) (d1 := 4) (Bs := [_, _, _]) rfl rfl rfl rfl rfl rfl rfl (Nat.le_of_ble_eq_true rfl) ⟨rfl, rfl⟩ (by decide) rfl (by decide) ?_
        refine w_X9_lineOf hW h5l h16l (hW.lng0 h16l) (fun D0 o0 => ?_)
        refine ⟨rfl, ?_⟩
        refine x_int (pc' := 47) (v := (-2)) rfl rfl rfl ?_
        refine x_ic_ne (pc' := 50) rfl rfl (fun c47 => ?_) (fun c47 => ?_)
        · refine x_aload (pc' := 54) rfl rfl rfl ?_
          refine x_callV (pc' := 57) (d1 := 3) (Bs := []) rfl rfl rfl rfl rfl rfl rfl (Nat.le_of_ble_eq_true rfl) ⟨rfl, rfl⟩ (by decide) rfl (by decide) ?_
          refine w_X9_remember (D := D0) (hHo o0) (fun D1 f1 g1 hH1 => ?_)
          refine ⟨rfl, ?_⟩
          refine x_aload (pc' := 58) rfl rfl rfl ?_
          refine x_getR (pc' := 61) rfl rfl rfl (by decide) rfl (by decide) rfl rfl ?_
          refine x_getR (pc' := 64) rfl rfl rfl (by decide) rfl (by decide) rfl rfl ?_
          refine x_iload (pc' := 65) rfl rfl rfl ?_
          refine x_iald (pc' := 66) rfl rfl (by decide) rfl (by decide) (show _ < 4 by omega) ?_
          refine x_top ((congrFun (f1 10 (by decide) (by decide)) h16w).trans ((congrFun (o0 10 (by decide) (by decide)) h16w).trans (hW.elng h16l))) ?_
          refine x_istore (pc' := 67) (lv' := [_, _, _, _, _]) rfl rfl (by decide) rfl ?_
          refine x_int (pc' := 68) (v := nI 0) rfl rfl rfl ?_
          refine x_istore (pc' := 70) (lv' := [_, _, _, _, _]) rfl rfl (by decide) rfl ?_
          have hl : lnO (tv D) h5w h16w 0 ≠ none := fun q => c47 ((toI_none hW h5l h16l (hW.lng0 h16l)).mpr q)
          have tD1 : tv D1 = tv D := by rw [frc_tv f1, o0.tv]
          refine l_X9_store hW h29 h5l h16l hl (by decide) (lng (tv D) h16w) 0 (sk (tv D) h5w) D1 (Nat.zero_add _) (by rw [stP_0 hW h5l]; exact tD1) (Or.inl rfl) (fun D2 f2 t2 => ?_) (fun _ => Or.inr trivial) (fun q => absurd q (by decide))
          have e : storeR (tv D) (nI h5w) (nI h16w) = (nI (lng (tv D) h16w), some (stP (tv D) h5w h16w (lng (tv D) h16w) (sk (tv D) h5w ||| 1 <<< h16w))) := by unfold storeR; rw [dN_some h5l (by omega), dN_some h16l (by omega)]; dsimp only; rw [if_neg (by rw [h29]; decide)]; exact if_neg hl
          rw [e] at k1
          have hI0 : InvC D0 ps sh tp := invC_off hI (o0 0 (by decide) (by decide)) (fun k a b c => o0 k (by omega) (by omega))
          rw [o0.tv] at hH1
          exact k1 D2 (fun k hk => by rw [f2 k (by omega) (by omega) (by omega) (by omega), f1 k (by omega) (by omega), o0 k (by omega) (by omega)]) t2 (invC_off (invC_rem hI0 f1 g1 hH1) (f2 0 (by decide) (by decide) (by decide) (by decide)) (fun k a b c => f2 k (by omega) (by omega) (by omega) (by omega)))
        · refine x_int (pc' := 52) (v := (-2)) rfl rfl rfl ?_
          refine x_iret rfl rfl ?_
          have e : storeR (tv D) (nI h5w) (nI h16w) = (-2, none) := by unfold storeR; rw [dN_some h5l (by omega), dN_some h16l (by omega)]; dsimp only; rw [if_neg (by rw [h29]; decide)]; exact if_pos ((toI_none hW h5l h16l (hW.lng0 h16l)).mp c47)
          rw [e] at k1
          exact k1 D0 (fun k hk => o0 k (by omega) (by omega)) o0.tv (invC_off hI (o0 0 (by decide) (by decide)) (fun k a b c => o0 k (by omega) (by omega)))
    · refine ⟨rfl, ?_⟩
      refine x_if_ne (pc' := 22) rfl rfl (fun c19 => absurd (by decide) c19) (fun _ => ?_)
      refine x_int (pc' := 23) (v := (-1)) rfl rfl rfl ?_
      refine x_iret rfl rfl ?_
      first
        | (have e : storeR (tv D) x y = (-1, none) := by unfold storeR; rw [dN_none (by omega) h5]
           rw [e] at k1
           exact k1 D (fun _ _ => rfl) rfl hI)
        | (have e : storeR (tv D) (nI h5w) y = (-1, none) := by unfold storeR; rw [dN_some h5l (by omega), dN_none (by omega) h16]
           rw [e] at k1
           exact k1 D (fun _ _ => rfl) rfl hI)
  · refine ⟨rfl, ?_⟩
    refine x_if_eq (pc' := 11) rfl rfl (fun _ => ?_) (fun c8 => absurd (by decide) c8)
    refine x_int (pc' := 23) (v := (-1)) rfl rfl rfl ?_
    refine x_iret rfl rfl ?_
    first
      | (have e : storeR (tv D) x y = (-1, none) := by unfold storeR; rw [dN_none (by omega) h5]
         rw [e] at k1
         exact k1 D (fun _ _ => rfl) rfl hI)
      | (have e : storeR (tv D) (nI h5w) y = (-1, none) := by unfold storeR; rw [dN_some h5l (by omega), dN_none (by omega) h16]
         rw [e] at k1
         exact k1 D (fun _ _ => rfl) rfl hI)
set_option maxRecDepth 20000 in
set_option maxHeartbeats 1000000 in
theorem l_X10_hasAll {T : TW} (hW : WF T) {w b : Nat} (hw : w < nw T) (hb : b < nb T) {d : Nat} (hd : 5 ≤ d) {L : Nat → Nat → Int64} {Q : bh_Q} : ∀ (f i : Nat) (D : Nat → Nat → Int32), i + f = lng T b → Rn T (D 206) → (0 < i → lnO T w b 0 ≠ none) → (k1 : lnO T w b 0 ≠ none → ∀ D', OffL [212] D D' → Q (some (.int 1)) (hp D' L)) → (k0 : lnO T w b 0 = none → ∀ D', OffL [212] D D' → Q (some (.int 0)) (hp D' L)) → bw m_X10_hasAll d Q 2 [.ref 205, .int (nI w), .int (nI b), .int (nI i)] [] D L := by
  have h12 := hW.nwl
  have h4 := hW.nbl
  have h8 := hW.lngl hb
  intro f
  induction f with
  | zero =>
    intro i D hf hR hi k1 k0
    refine x_iload (pc' := 3) rfl rfl rfl ?_
    refine x_aload (pc' := 4) rfl rfl rfl ?_
    refine x_iload (pc' := 5) rfl rfl rfl ?_
    refine x_callV (pc' := 8) (d1 := 1) (Bs := [_]) rfl rfl rfl rfl rfl rfl rfl (Nat.le_of_ble_eq_true rfl) ⟨rfl, rfl⟩ (by decide) rfl (by omega) ?_
    refine w_X10_pagesOf hW hR hb ?_
    refine ⟨rfl, ?_⟩
    refine y_ic_ge (pc' := 11) rfl rfl (by omega) (by omega) (fun c8 => ?_) (fun c8 => ?_)
    · refine x_int (pc' := 32) (v := nI 1) rfl rfl rfl ?_
      refine x_zret rfl rfl (by decide) ?_
      exact k1 (hi (by have := hW.lng0 hb; omega)) D OffL.rf
    · exact absurd c8 (by omega)
  | succ f ih =>
    intro i D hf hR hi k1 k0
    refine x_iload (pc' := 3) rfl rfl rfl ?_
    refine x_aload (pc' := 4) rfl rfl rfl ?_
    refine x_iload (pc' := 5) rfl rfl rfl ?_
    refine x_callV (pc' := 8) (d1 := 1) (Bs := [_]) rfl rfl rfl rfl rfl rfl rfl (Nat.le_of_ble_eq_true rfl) ⟨rfl, rfl⟩ (by decide) rfl (by omega) ?_
    refine w_X10_pagesOf hW hR hb ?_
    refine ⟨rfl, ?_⟩
    refine y_ic_ge (pc' := 11) rfl rfl (by omega) (by omega) (fun c8 => ?_) (fun c8 => ?_)
    · exact absurd c8 (by omega)
    · refine x_aload (pc' := 12) rfl rfl rfl ?_
      refine x_iload (pc' := 13) rfl rfl rfl ?_
      refine x_iload (pc' := 14) rfl rfl rfl ?_
      refine x_iload (pc' := 15) rfl rfl rfl ?_
      refine x_callV (pc' := 18) (d1 := 5) (Bs := [_, _, _]) rfl rfl rfl rfl rfl rfl rfl (Nat.le_of_ble_eq_true rfl) ⟨rfl, rfl⟩ (by decide) rfl (by omega) ?_
      refine w_X10_lineOf hW hR hw hb (by omega) (fun D1 o1 => ?_)
      refine ⟨rfl, ?_⟩
      refine x_int (pc' := 20) (v := (-2)) rfl rfl rfl ?_
      refine x_ic_ne (pc' := 23) rfl rfl (fun c20 => ?_) (fun c20 => ?_)
      · refine y_inc (pc' := 28) (lv' := [_, _, _, _]) rfl rfl rfl (by decide) rfl ?_
        refine x_goto rfl ?_
        refine ih (i + 1) D1 (by omega) (OffL212.rn o1 hR) (fun _ q => c20 ((toI_none hW hw hb (by omega)).mpr (lnO_all i q))) (fun h D2 o2 => k1 h D2 (OffL.tr o1 o2)) (fun h D2 o2 => k0 h D2 (OffL.tr o1 o2))
      · refine x_int (pc' := 24) (v := nI 0) rfl rfl rfl ?_
        refine x_zret rfl rfl (by decide) ?_
        exact k0 (lnO_all 0 ((toI_none hW hw hb (by omega)).mp c20)) D1 o1
set_option maxRecDepth 20000 in
set_option maxHeartbeats 1000000 in
theorem w_X10_hasAll {D : Nat → Nat → Int32} {L : Nat → Nat → Int64} {Q : bh_Q} {T : TW} (hW : WF T) (hR : Rn T (D 206)) {w b : Nat} (hw : w < nw T) (hb : b < nb T) (k1 : lnO T w b 0 ≠ none → ∀ D', OffL [212] D D' → Q (some (.int 1)) (hp D' L)) (k0 : lnO T w b 0 = none → ∀ D', OffL [212] D D' → Q (some (.int 0)) (hp D' L)) : bh_wc 6 m_X10_hasAll [.ref 205, .int (nI w), .int (nI b)] (hp D L) Q := by
  refine x_start (lv0 := [_, _, _, _]) (Nat.le_of_ble_eq_true rfl) rfl ?_
  refine x_int (pc' := 1) (v := nI 0) rfl rfl rfl ?_
  refine x_istore (pc' := 2) (lv' := [_, _, _, _]) rfl rfl (by decide) rfl ?_
  exact l_X10_hasAll hW hw hb (by decide) (lng T b) 0 D (Nat.zero_add _) hR (fun q => absurd q (by decide)) k1 k0
set_option maxRecDepth 20000 in
set_option maxHeartbeats 1000000 in
theorem l_X10_store {T : TW} {w b : Nat} (hW : WF T) (hd : isD T w = false) (hw : w < nw T) (hb : b < nb T) (hl : lnO T w b 0 ≠ none) {N : Nat → Int32} (hRN : Rn T N) {d : Nat} (hd2 : 5 ≤ d) {L : Nat → Nat → Int64} {Q : bh_Q} : ∀ (f i : Nat) (D : Nat → Nat → Int32), i + f = lng T b → (∀ k, (∀ q, q < i → k ≠ 124 + 8 * (4 * w + b) + q) → D 206 k = N k) → (∀ q, q < i → D 206 (124 + 8 * (4 * w + b) + q) = toI (lnO T w b q)) → (∀ D', OffL [206, 212] D D' → (∀ k, (∀ q, q < lng T b → k ≠ 124 + 8 * (4 * w + b) + q) → D' 206 k = N k) → (∀ q, q < lng T b → D' 206 (124 + 8 * (4 * w + b) + q) = toI (lnO T w b q)) → bw m_X10_store d Q 80 [.ref 205, .int (nI w), .int (nI b), .int (nI (lng T b))] [] D' L) → bw m_X10_store d Q 47 [.ref 205, .int (nI w), .int (nI b), .int (nI i)] [] D L := by
  have h12 := hW.nwl
  have h4 := hW.nbl
  have h8 := hW.lngl hb
  intro f
  induction f with
  | zero =>
    intro i D hf hN hS k
    have hRs : Rn (stP T w b i (sk T w)) (D 206) := rn_st (s := sk T w) hW hRN hw hb (by omega) ((hN _ (by omega)).trans ((hRN.rsk hw).trans (hW.esk hw))) (fun k _ q => hN k q) hS (by have := hW.sk4 hw; omega) (fun _ _ => rfl) (fun h => Or.inl h)
    have hWs : WF (stP T w b i (sk T w)) := stP_wf hW hw hb (by omega) (hW.skl hw) hl
    refine x_iload (pc' := 48) rfl rfl rfl ?_
    refine x_aload (pc' := 49) rfl rfl rfl ?_
    refine x_iload (pc' := 50) rfl rfl rfl ?_
    refine x_callV (pc' := 53) (d1 := 1) (Bs := [_]) rfl rfl rfl rfl rfl rfl rfl (Nat.le_of_ble_eq_true rfl) ⟨rfl, rfl⟩ (by decide) rfl (by omega) ?_
    refine w_X10_pagesOf hWs hRs (by rw [stP_nb]; exact hb) ?_
    refine ⟨rfl, ?_⟩
    refine x_top (congrArg nI stP_lng) ?_
    refine y_ic_ge (pc' := 56) rfl rfl (by omega) (by omega) (fun c53 => ?_) (fun c53 => ?_)
    · have ei : i = lng T b := by omega
      subst ei
      exact k D OffL.rf hN hS
    · exact absurd c53 (by omega)
  | succ f ih =>
    intro i D hf hN hS k
    have hRs : Rn (stP T w b i (sk T w)) (D 206) := rn_st (s := sk T w) hW hRN hw hb (by omega) ((hN _ (by omega)).trans ((hRN.rsk hw).trans (hW.esk hw))) (fun k _ q => hN k q) hS (by have := hW.sk4 hw; omega) (fun _ _ => rfl) (fun h => Or.inl h)
    have hWs : WF (stP T w b i (sk T w)) := stP_wf hW hw hb (by omega) (hW.skl hw) hl
    refine x_iload (pc' := 48) rfl rfl rfl ?_
    refine x_aload (pc' := 49) rfl rfl rfl ?_
    refine x_iload (pc' := 50) rfl rfl rfl ?_
    refine x_callV (pc' := 53) (d1 := 1) (Bs := [_]) rfl rfl rfl rfl rfl rfl rfl (Nat.le_of_ble_eq_true rfl) ⟨rfl, rfl⟩ (by decide) rfl (by omega) ?_
    refine w_X10_pagesOf hWs hRs (by rw [stP_nb]; exact hb) ?_
    refine ⟨rfl, ?_⟩
    refine x_top (congrArg nI stP_lng) ?_
    refine y_ic_ge (pc' := 56) rfl rfl (by omega) (by omega) (fun c53 => ?_) (fun c53 => ?_)
    · exact absurd c53 (by omega)
    · refine x_aload (pc' := 57) rfl rfl rfl ?_
      refine x_getR (pc' := 60) rfl rfl rfl (by decide) rfl (by decide) rfl rfl ?_
      refine x_iload (pc' := 61) rfl rfl rfl ?_
      refine x_iload (pc' := 62) rfl rfl rfl ?_
      refine x_iload (pc' := 63) rfl rfl rfl ?_
      refine x_callS (pc' := 66) (d1 := 1) (As := [_, _, _]) rfl rfl rfl rfl (by decide) rfl rfl (Nat.le_of_ble_eq_true rfl) ⟨rfl, rfl⟩ (by omega) ?_
      refine w_X10_stockAt ?_
      refine ⟨rfl, ?_⟩
      refine x_aload (pc' := 67) rfl rfl rfl ?_
      refine x_iload (pc' := 68) rfl rfl rfl ?_
      refine x_iload (pc' := 69) rfl rfl rfl ?_
      refine x_iload (pc' := 70) rfl rfl rfl ?_
      refine x_callV (pc' := 73) (d1 := 5) (Bs := [_, _, _]) rfl rfl rfl rfl rfl rfl rfl (Nat.le_of_ble_eq_true rfl) ⟨rfl, rfl⟩ (by decide) rfl (by omega) ?_
      refine w_X10_lineOf (D := D) hWs hRs (by rw [stP_nw]; exact hw) (by rw [stP_nb]; exact hb) (by rw [stP_lng]; omega) (fun D1 o1 => ?_)
      refine ⟨rfl, ?_⟩
      have ev : toI (lnO (stP T w b i (sk T w)) w b i) = toI (lnO T w b i) := by rw [stP_ln hd (by omega) (by omega) (by omega) (by omega)]
      refine x_top ev ?_
      refine x_iast (pc' := 74) rfl rfl (by decide) rfl (by decide) (show _ < 560 by omega) ?_
      refine y_inc (pc' := 77) (lv' := [_, _, _, _]) rfl rfl rfl (by decide) rfl ?_
      refine x_goto rfl ?_
      refine ih (i + 1) _ (by omega) ?_ ?_ (fun D2 f2 h2 h3 => k D2 (OffL.tr (OffL.tr (o1.wk (by decide)) (OffL.up (by decide))) f2) h2 h3)
      · intro k hk
        rw [bh_up2_k]; dsimp only
        rw [if_neg (hk i (by omega)), o1 206 (by decide)]; exact hN k (fun q hq => hk q (by omega))
      · intro q hq
        rw [bh_up2_k]; dsimp only
        by_cases e : q = i
        · rw [if_pos (by omega), e]
        · rw [if_neg (by omega), o1 206 (by decide)]; exact hS q (by omega)
set_option maxRecDepth 20000 in
set_option maxHeartbeats 1000000 in
theorem w_X10_store {D : Nat → Nat → Int32} {L : Nat → Nat → Int64} {Q : bh_Q} {T : TW} {ps : List TW} {sh : Nat → Option TW} {tp : List Nat} (hI : InvM D T ps sh tp) (hG : Good T ps sh) {x y : Int32} (k1 : ∀ D1, (∀ k, (k < 205 ∨ 228 ≤ k) → D1 k = D k) → InvM D1 (nxT T (storeR T x y).2) (nxP T ps (storeR T x y).2) sh tp → Q (some (.int (storeR T x y).1)) (hp D1 L)) : bh_wc 7 m_X10_store [.ref 205, .int x, .int y] (hp D L) Q := by
  refine x_start (lv0 := [_, _, _, _]) (Nat.le_of_ble_eq_true rfl) rfl ?_
  have hW := hG.1
  have h12 := hW.nwl
  have hR := hI.1
  have h4 := hW.nbl
  refine x_aload (pc' := 1) rfl rfl rfl ?_
  refine x_iload (pc' := 2) rfl rfl rfl ?_
  refine x_callV (pc' := 5) (d1 := 2) (Bs := [_]) rfl rfl rfl rfl rfl rfl rfl (Nat.le_of_ble_eq_true rfl) ⟨rfl, rfl⟩ (by decide) rfl (by decide) ?_
  refine w_X10_isWriter hW hR (fun h2w h2l e => ?_) (fun h2 => ?_)
  · subst e
    refine ⟨rfl, ?_⟩
    refine x_if_eq (pc' := 8) rfl rfl (fun c5 => absurd c5 (by decide)) (fun _ => ?_)
    refine x_aload (pc' := 9) rfl rfl rfl ?_
    refine x_iload (pc' := 10) rfl rfl rfl ?_
    refine x_callV (pc' := 13) (d1 := 2) (Bs := [_]) rfl rfl rfl rfl rfl rfl rfl (Nat.le_of_ble_eq_true rfl) ⟨rfl, rfl⟩ (by decide) rfl (by decide) ?_
    refine w_X10_isBook hW hR (fun h10w h10l e => ?_) (fun h10 => ?_)
    · subst e
      refine ⟨rfl, ?_⟩
      refine x_if_ne (pc' := 16) rfl rfl (fun _ => ?_) (fun c13 => absurd c13 (by decide))
      refine x_aload (pc' := 19) rfl rfl rfl ?_
      refine x_iload (pc' := 20) rfl rfl rfl ?_
      refine x_callV (pc' := 23) (d1 := 2) (Bs := [_]) rfl rfl rfl rfl rfl rfl rfl (Nat.le_of_ble_eq_true rfl) ⟨rfl, rfl⟩ (by decide) rfl (by decide) ?_
      refine w_X10_isDead hW hR (by assumption) (fun h20 => ?_) (fun h20 => ?_)
      · refine ⟨rfl, ?_⟩
        refine x_if_eq (pc' := 26) rfl rfl (fun c23 => absurd c23 (by decide)) (fun _ => ?_)
        refine x_int (pc' := 28) (v := (-4)) rfl rfl rfl ?_
        refine x_iret rfl rfl ?_
        have e : storeR T (nI h2w) (nI h10w) = (-4, none) := by unfold storeR; rw [dN_some h2l (by omega), dN_some h10l (by omega)]; exact if_pos h20
        rw [e] at k1
        exact k1 D (fun _ _ => rfl) hI
      · refine ⟨rfl, ?_⟩
        refine x_if_eq (pc' := 26) rfl rfl (fun _ => ?_) (fun c23 => absurd (by decide) c23)
        refine x_aload (pc' := 30) rfl rfl rfl ?_
        refine x_iload (pc' := 31) rfl rfl rfl ?_
        refine x_iload (pc' := 32) rfl rfl rfl ?_
        refine x_callV (pc' := 35) (d1 := 6) (Bs := [_, _]) rfl rfl rfl rfl rfl rfl rfl (Nat.le_of_ble_eq_true rfl) ⟨rfl, rfl⟩ (by decide) rfl (by decide) ?_
        refine w_X10_hasAll hW hR h2l h10l (fun hl D0 o0 => ?_) (fun hl D0 o0 => ?_)
        · refine ⟨rfl, ?_⟩
          refine x_if_ne (pc' := 38) rfl rfl (fun _ => ?_) (fun c35 => absurd c35 (by decide))
          refine x_aload (pc' := 42) rfl rfl rfl ?_
          refine x_callV (pc' := 45) (d1 := 2) (Bs := []) rfl rfl rfl rfl rfl rfl rfl (Nat.le_of_ble_eq_true rfl) ⟨rfl, rfl⟩ (by decide) rfl (by decide) ?_
          have hI2 : InvM D0 T ps sh tp := invM_off hI (fun k a b c => o0 k (fun q => by rw [List.mem_singleton] at q; omega)) (by rw [o0 205 (by decide)]) (by rw [o0 205 (by decide)])
          refine w_X10_keepsPast (D := D0) hW hI2.1 hI2.2.1 hG.2.1 (fun D1 f1 g1 hH1 => ?_)
          refine ⟨rfl, ?_⟩
          refine x_int (pc' := 46) (v := nI 0) rfl rfl rfl ?_
          refine x_istore (pc' := 47) (lv' := [_, _, _, _]) rfl rfl (by decide) rfl ?_
          have hR1 : Rn T (D1 206) := by rw [f1 206 (by decide)]; exact hI2.1
          have e : storeR T (nI h2w) (nI h10w) = (nI (lng T h10w), some (stP T h2w h10w (lng T h10w) (sk T h2w ||| 1 <<< h10w))) := by unfold storeR; rw [dN_some h2l (by omega), dN_some h10l (by omega)]; dsimp only; rw [if_neg (by rw [h20]; decide)]; exact if_neg hl
          have k2 : ∀ D1, (∀ k, (k < 205 ∨ 228 ≤ k) → D1 k = D0 k) → InvM D1 (nxT T (storeR T (nI h2w) (nI h10w)).2) (nxP T ps (storeR T (nI h2w) (nI h10w)).2) sh tp → Q (some (.int (storeR T (nI h2w) (nI h10w)).1)) (hp D1 L) := fun D9 h9 i9 => k1 D9 (fun k hk => (h9 k hk).trans (o0 k (fun q => by rw [List.mem_singleton] at q; omega))) i9
          refine l_X10_store hW h20 h2l h10l hl hR1 (by decide) (lng T h10w) 0 D1 (Nat.zero_add _) (fun _ _ => rfl) (fun q hq => absurd hq (Nat.not_lt_zero q)) (fun D2 o2 hN2 hS2 => ?_)
          refine x_aload (pc' := 81) rfl rfl rfl ?_
          refine x_iload (pc' := 82) rfl rfl rfl ?_
          refine x_int (pc' := 84) (v := nI 9) rfl rfl rfl ?_
          refine x_aload (pc' := 85) rfl rfl rfl ?_
          refine x_iload (pc' := 86) rfl rfl rfl ?_
          refine x_int (pc' := 88) (v := nI 9) rfl rfl rfl ?_
          refine x_callV (pc' := 91) (d1 := 1) (Bs := [_, _]) rfl rfl rfl rfl rfl rfl rfl (Nat.le_of_ble_eq_true rfl) ⟨rfl, rfl⟩ (by decide) rfl (by decide) ?_
          refine w_X10_of (D := D2) (by omega) (by decide) ?_
          refine ⟨rfl, ?_⟩
          refine x_top ((hN2 _ (by omega)).trans ((hR1.rsk h2l).trans (hW.esk h2l))) ?_
          refine x_int (pc' := 92) (v := nI 1) rfl rfl rfl ?_
          refine x_iload (pc' := 93) rfl rfl rfl ?_
          refine y_ishl (pc' := 94) rfl rfl (by omega) ?_
          refine y_ior (pc' := 95) rfl rfl ?_
          refine x_callV (pc' := 98) (d1 := 1) (Bs := [_, _, _]) rfl rfl rfl rfl rfl rfl rfl (Nat.le_of_ble_eq_true rfl) ⟨rfl, rfl⟩ (by decide) rfl (by decide) ?_
          refine w_X10_puts_ (by omega) (by decide) ?_
          refine ⟨rfl, ?_⟩
          have hs4 := sk_or hW h2l h10l
          have hs5 : 2 ^ nb T ≤ 16 := Nat.pow_le_pow_right (by decide) h4
          have hR5 : Rn (stP T h2w h10w (lng T h10w) (sk T h2w ||| 1 <<< h10w)) ((bh_up2 D2 206 (4 + 10 * h2w + 9) (nI (sk T h2w ||| 1 <<< h10w))) 206) := by
            rw [bh_up2_k]
            refine rn_st hW hR1 h2l h10l (Nat.le_refl _) (if_pos rfl) (fun k h9 hq => ?_) (fun q hq => ?_) (by omega) (fun b2 hb2 => ?_) (fun _ => Or.inr rfl)
            · exact (if_neg h9).trans (hN2 k hq)
            · exact (if_neg (by omega)).trans (hS2 q hq)
            · rw [Nat.testBit_or, Nat.one_shiftLeft, Nat.testBit_two_pow]; simp [Ne.symm hb2]
          refine x_aload (pc' := 99) rfl rfl rfl ?_
          refine x_iload (pc' := 100) rfl rfl rfl ?_
          refine x_callV (pc' := 103) (d1 := 1) (Bs := [_]) rfl rfl rfl rfl rfl rfl rfl (Nat.le_of_ble_eq_true rfl) ⟨rfl, rfl⟩ (by decide) rfl (by decide) ?_
          refine w_X10_pagesOf (T := stP T h2w h10w (lng T h10w) (sk T h2w ||| 1 <<< h10w)) (stP_wf hW h2l h10l (Nat.le_refl _) (sk_or hW h2l h10l) hl) hR5 (by rw [stP_nb]; exact h10l) ?_
          refine ⟨rfl, ?_⟩
          refine x_top (congrArg nI stP_lng) ?_
          refine x_iret rfl rfl ?_
          refine actM hI2 f1 g1 hH1 k2 e (fun k a b c => ?_) (fun j hj => ?_) hR5
          · rw [bh_up2_ne _ _ _ a, o2 k (fun q => by simp at q; omega)]
          · rw [bh_up2_ne _ _ _ (by decide), o2 205 (by decide)]
        · refine ⟨rfl, ?_⟩
          refine x_if_ne (pc' := 38) rfl rfl (fun c35 => absurd (by decide) c35) (fun _ => ?_)
          refine x_int (pc' := 40) (v := (-2)) rfl rfl rfl ?_
          refine x_iret rfl rfl ?_
          have e : storeR T (nI h2w) (nI h10w) = (-2, none) := by unfold storeR; rw [dN_some h2l (by omega), dN_some h10l (by omega)]; dsimp only; rw [if_neg (by rw [h20]; decide)]; exact if_pos hl
          rw [e] at k1
          exact k1 D0 (fun k hk => o0 k (fun q => by rw [List.mem_singleton] at q; omega)) (invM_off hI (fun k a b c => o0 k (fun q => by rw [List.mem_singleton] at q; omega)) (by rw [o0 205 (by decide)]) (by rw [o0 205 (by decide)]))
    · refine ⟨rfl, ?_⟩
      refine x_if_ne (pc' := 16) rfl rfl (fun c13 => absurd (by decide) c13) (fun _ => ?_)
      refine x_int (pc' := 17) (v := (-1)) rfl rfl rfl ?_
      refine x_iret rfl rfl ?_
      first
        | (have e : storeR T x y = (-1, none) := by unfold storeR; rw [dN_none (by omega) h2]
           rw [e] at k1
           exact k1 D (fun _ _ => rfl) hI)
        | (have e : storeR T (nI h2w) y = (-1, none) := by unfold storeR; rw [dN_some h2l (by omega), dN_none (by omega) h10]
           rw [e] at k1
           exact k1 D (fun _ _ => rfl) hI)
  · refine ⟨rfl, ?_⟩
    refine x_if_eq (pc' := 8) rfl rfl (fun _ => ?_) (fun c5 => absurd (by decide) c5)
    refine x_int (pc' := 17) (v := (-1)) rfl rfl rfl ?_
    refine x_iret rfl rfl ?_
    first
      | (have e : storeR T x y = (-1, none) := by unfold storeR; rw [dN_none (by omega) h2]
         rw [e] at k1
         exact k1 D (fun _ _ => rfl) hI)
      | (have e : storeR T (nI h2w) y = (-1, none) := by unfold storeR; rw [dN_some h2l (by omega), dN_none (by omega) h10]
         rw [e] at k1
         exact k1 D (fun _ _ => rfl) hI)
