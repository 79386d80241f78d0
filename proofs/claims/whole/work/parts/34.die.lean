/-! ===== die ===== -/
def lacksF (T : TW) (v : Nat) : Nat → Bool
  | 0 => false
  | i + 1 => lacksF T v i || (lnO T v i 0).isNone
def lacks (T : TW) (v : Nat) : Bool := lacksF T v (nb T)
def cntF (f : Nat → Bool) : Nat → Nat
  | 0 => 0
  | i + 1 => cntF f i + (if f i then 1 else 0)
theorem cntF_le (f : Nat → Bool) : ∀ n, cntF f n ≤ n := by
  intro n
  induction n with
  | zero => exact Nat.le_refl _
  | succ n ih => show cntF f n + _ ≤ _; split <;> omega
theorem lacksF_mono {T : TW} {v i : Nat} (h : lnO T v i 0 = none) : ∀ n, i < n → lacksF T v n = true := by
  intro n
  induction n with
  | zero => intro h; omega
  | succ n ih =>
    intro hi
    show (lacksF T v n || (lnO T v n 0).isNone) = true
    by_cases e : i = n
    · subst e; rw [h]; simp
    · rw [ih (by omega)]; rfl
theorem lacksF_0 {T : TW} {v i : Nat} (h : ¬ lnO T v i 0 = none) (h1 : lacksF T v i = false) : lacksF T v (i + 1) = false := by
  show (lacksF T v i || (lnO T v i 0).isNone) = false
  rw [h1]
  cases hh : lnO T v i 0 with
  | none => exact absurd hh h
  | some r => rfl
def dieT (T : TW) (w : Nat) : TW := bh_up2 T 0 5 (nI (de T ||| 1 <<< w))
def dieR (T : TW) (x : Int32) : Int32 × Option TW := match dN (nw T) x with
  | some w => if isD T w = true then (-4, none) else (nI (cntF (lacks (dieT T w)) (nw T)), some (dieT T w))
  | none => (-1, none)
theorem de_or {T : TW} (hW : WF T) {w : Nat} (hw : w < nw T) : de T ||| 1 <<< w < 2 ^ nw T := by
  refine Nat.or_lt_two_pow hW.del ?_
  rw [Nat.one_shiftLeft]
  exact Nat.pow_lt_pow_right (by decide) hw
theorem die_wf {T : TW} (hW : WF T) {w : Nat} (hw : w < nw T) : WF (dieT T w) := by
  refine ⟨⟨hW.1.1, hW.1.2.1, hW.1.2.2.1, hW.1.2.2.2.1, ?_⟩, hW.2.1, hW.2.2.1, hW.2.2.2.1, hW.2.2.2.2⟩
  show is (nI (de T ||| 1 <<< w)) (2 ^ nw T)
  exact is_nI (de_or hW hw) (Nat.lt_of_le_of_lt (Nat.pow_le_pow_right (by decide) hW.nwl) (by decide))
theorem die_good {T : TW} {ps : List TW} {sh : Nat → Option TW} (x : Int32) (hG : Good T ps sh) : Good (nxT T (dieR T x).2) (nxP T ps (dieR T x).2) sh := by
  refine good_nx hG (fun T' h => ?_)
  have h12 := hG.1.nwl
  unfold dieR at h
  split at h
  next w hw =>
    split at h
    · cases h
    · cases h
      exact die_wf hG.1 (dN_lt (by omega) hw).1
  next => cases h
theorem die_isD {T : TW} (hW : WF T) {w v : Nat} (hw : w < nw T) : isD (dieT T w) v = if v = w then true else isD T v := by
  have h1 := de_or hW hw
  have h2 := p12 hW.nwl
  unfold isD
  have e : de (dieT T w) = de T ||| 1 <<< w := nI_clamp (by omega)
  rw [e, Nat.testBit_or, Nat.one_shiftLeft, Nat.testBit_two_pow]
  by_cases e : v = w
  · subst e; simp
  · rw [if_neg e]; simp [Ne.symm e]
theorem rn_die {T : TW} {N : Nat → Int32} (hW : WF T) (hR : Rn T N) {w : Nat} (hw : w < nw T) : Rn (dieT T w) (fun q => if q = 4 + 10 * w + 8 then nI 1 else N q) := by
  have h1 := hW.nsl
  have h12 := hW.nwl
  have h4 := hW.nbl
  have X : ∀ q, q ≠ 4 + 10 * w + 8 → (if q = 4 + 10 * w + 8 then nI 1 else N q) = N q := fun k a => if_neg a
  refine ⟨⟨(X 0 (by omega)).trans hR.1.1, (X 1 (by omega)).trans hR.1.2.1, (X 2 (by omega)).trans hR.1.2.2.1, (X 3 (by omega)).trans hR.1.2.2.2⟩, fun v hv => ?_, fun b hb => ⟨(X _ (by omega)).trans (hR.2.2.1 b hb).1, fun q hq => (X _ (by omega)).trans ((hR.2.2.1 b hb).2 q hq)⟩, fun w b q hw hb hq hs => (X _ (by omega)).trans (hR.2.2.2.1 w b q hw hb hq hs), fun i hi => (X _ (by omega)).trans (hR.2.2.2.2 i hi)⟩
  have h := hR.2.1 v hv
  have hw3 : v < nw T := hv
  refine ⟨(X _ (by omega)).trans h.1, (X _ (by omega)).trans h.2.1, fun hk => (X _ (by omega)).trans (h.2.2.1 hk), fun hk => (X _ (by omega)).trans (h.2.2.2.1 hk), (X _ (by omega)).trans h.2.2.2.2.1, (X _ (by omega)).trans h.2.2.2.2.2.1, (X _ (by omega)).trans h.2.2.2.2.2.2.1, (X _ (by omega)).trans h.2.2.2.2.2.2.2.1, ?_, (X _ (by omega)).trans h.2.2.2.2.2.2.2.2.2⟩
  rw [die_isD hW hw]
  by_cases e : v = w
  · rw [if_pos e, e]; exact if_pos rfl
  · rw [if_neg e]; exact (X _ (by omega)).trans h.2.2.2.2.2.2.2.2.1
set_option maxRecDepth 20000 in
set_option maxHeartbeats 1000000 in
theorem l_X9_lacksLines {w : Nat} {d : Nat} (hd : 4 ≤ d) {L : Nat → Nat → Int64} {Q : bh_Q} : ∀ (f i : Nat) (D : Nat → Nat → Int32), WF (tv D) → w < nw (tv D) → i + f = nb (tv D) → lacksF (tv D) w i = false → (lacks (tv D) w = true → ∀ D', OffH D D' → Q (some (.int 1)) (hp D' L)) → (lacks (tv D) w = false → ∀ D', OffH D D' → Q (some (.int 0)) (hp D' L)) → bw m_X9_lacksLines d Q 2 [.ref 0, .int (nI w), .int (nI i)] [] D L := by
  intro f
  induction f with
  | zero =>
    intro i D hW hw hf hi k1 k0
    have h4 := hW.nbl
    refine x_iload (pc' := 3) rfl rfl rfl ?_
    refine x_aload (pc' := 4) rfl rfl rfl ?_
    refine x_getR (pc' := 7) rfl rfl rfl (by decide) rfl (by decide) rfl rfl ?_
    refine x_getI (j := 1) (pc' := 10) rfl rfl rfl (by decide) rfl (by decide) rfl rfl ?_
    refine x_top (hW.enb) ?_
    refine y_ic_ge (pc' := 13) rfl rfl (by omega) (by omega) (fun c10 => ?_) (fun c10 => ?_)
    · refine x_int (pc' := 34) (v := nI 0) rfl rfl rfl ?_
      refine x_zret rfl rfl (by decide) ?_
      have e : i = nb (tv D) := by omega
      subst e
      exact k0 hi D OffH.rf
    · exact absurd c10 (by omega)
  | succ f ih =>
    intro i D hW hw hf hi k1 k0
    have h4 := hW.nbl
    refine x_iload (pc' := 3) rfl rfl rfl ?_
    refine x_aload (pc' := 4) rfl rfl rfl ?_
    refine x_getR (pc' := 7) rfl rfl rfl (by decide) rfl (by decide) rfl rfl ?_
    refine x_getI (j := 1) (pc' := 10) rfl rfl rfl (by decide) rfl (by decide) rfl rfl ?_
    refine x_top (hW.enb) ?_
    refine y_ic_ge (pc' := 13) rfl rfl (by omega) (by omega) (fun c10 => ?_) (fun c10 => ?_)
    · exact absurd c10 (by omega)
    · refine x_aload (pc' := 14) rfl rfl rfl ?_
      refine x_iload (pc' := 15) rfl rfl rfl ?_
      refine x_iload (pc' := 16) rfl rfl rfl ?_
      refine x_int (pc' := 17) (v := nI 0) rfl rfl rfl ?_
      refine x_callV (pc' := 20) (d1 := 4) (Bs := [_, _, _]) rfl rfl rfl rfl rfl rfl rfl (Nat.le_of_ble_eq_true rfl) ⟨rfl, rfl⟩ (by decide) rfl (by omega) ?_
      refine w_X9_lineOf hW hw (by omega) (hW.lng0 (by omega)) (fun D1 o1 => ?_)
      refine ⟨rfl, ?_⟩
      refine x_int (pc' := 22) (v := (-2)) rfl rfl rfl ?_
      refine x_ic_ne (pc' := 25) rfl rfl (fun c22 => ?_) (fun c22 => ?_)
      · refine y_inc (pc' := 30) (lv' := [_, _, _]) rfl rfl rfl (by decide) rfl ?_
        refine x_goto rfl ?_
        have hn : ¬ lnO (tv D) w i 0 = none := fun q => c22 ((toI_none hW hw (by omega) (hW.lng0 (by omega))).mpr q)
        have t1 := o1.tv
        refine ih (i + 1) D1 (by rw [t1]; exact hW) (by rw [t1]; exact hw) (by rw [t1]; omega) (by rw [t1]; exact lacksF_0 hn hi) (fun h D2 o2 => k1 (by rw [t1] at h; exact h) D2 (o1.tr o2)) (fun h D2 o2 => k0 (by rw [t1] at h; exact h) D2 (o1.tr o2))
      · refine x_int (pc' := 26) (v := nI 1) rfl rfl rfl ?_
        refine x_zret rfl rfl (by decide) ?_
        exact k1 (lacksF_mono ((toI_none hW hw (by omega) (hW.lng0 (by omega))).mp c22) _ (by omega)) D1 o1
set_option maxRecDepth 20000 in
set_option maxHeartbeats 1000000 in
theorem w_X9_lacksLines {D : Nat → Nat → Int32} {L : Nat → Nat → Int64} {Q : bh_Q} (hW : WF (tv D)) {w : Nat} (hw : w < nw (tv D)) (k1 : lacks (tv D) w = true → ∀ D', OffH D D' → Q (some (.int 1)) (hp D' L)) (k0 : lacks (tv D) w = false → ∀ D', OffH D D' → Q (some (.int 0)) (hp D' L)) : bh_wc 5 m_X9_lacksLines [.ref 0, .int (nI w)] (hp D L) Q := by
  refine x_start (lv0 := [_, _, _]) (Nat.le_of_ble_eq_true rfl) rfl ?_
  refine x_int (pc' := 1) (v := nI 0) rfl rfl rfl ?_
  refine x_istore (pc' := 2) (lv' := [_, _, _]) rfl rfl (by decide) rfl ?_
  exact l_X9_lacksLines (by decide) (nb (tv D)) 0 D hW hw (Nat.zero_add _) rfl k1 k0
set_option maxRecDepth 20000 in
set_option maxHeartbeats 1000000 in
theorem l_X9_die {d : Nat} (hd : 5 ≤ d) {L : Nat → Nat → Int64} {Q : bh_Q} {v : Int32} : ∀ (f i : Nat) (D : Nat → Nat → Int32), WF (tv D) → i + f = nw (tv D) → (∀ D', OffH D D' → Q (some (.int (nI (cntF (lacks (tv D)) (nw (tv D)))))) (hp D' L)) → bw m_X9_die d Q 50 [.ref 0, .int v, .int (nI (cntF (lacks (tv D)) i)), .int (nI i)] [] D L := by
  intro f
  induction f with
  | zero =>
    intro i D hW hf k
    have h12 := hW.nwl
    refine x_iload (pc' := 51) rfl rfl rfl ?_
    refine x_aload (pc' := 52) rfl rfl rfl ?_
    refine x_getR (pc' := 55) rfl rfl rfl (by decide) rfl (by decide) rfl rfl ?_
    refine x_getI (j := 0) (pc' := 58) rfl rfl rfl (by decide) rfl (by decide) rfl rfl ?_
    refine x_top (hW.enw) ?_
    refine y_ic_ge (pc' := 61) rfl rfl (by omega) (by omega) (fun c58 => ?_) (fun c58 => ?_)
    · refine x_iload (pc' := 79) rfl rfl rfl ?_
      refine x_iret rfl rfl ?_
      have e : i = nw (tv D) := by omega
      subst e
      exact k D OffH.rf
    · exact absurd c58 (by omega)
  | succ f ih =>
    intro i D hW hf k
    have h12 := hW.nwl
    refine x_iload (pc' := 51) rfl rfl rfl ?_
    refine x_aload (pc' := 52) rfl rfl rfl ?_
    refine x_getR (pc' := 55) rfl rfl rfl (by decide) rfl (by decide) rfl rfl ?_
    refine x_getI (j := 0) (pc' := 58) rfl rfl rfl (by decide) rfl (by decide) rfl rfl ?_
    refine x_top (hW.enw) ?_
    refine y_ic_ge (pc' := 61) rfl rfl (by first | omega | (have := cntF_le (lacks (tv D)) i; omega)) (by first | omega | (have := cntF_le (lacks (tv D)) i; omega)) (fun c58 => ?_) (fun c58 => ?_)
    · exact absurd c58 (by omega)
    · refine x_aload (pc' := 62) rfl rfl rfl ?_
      refine x_iload (pc' := 63) rfl rfl rfl ?_
      refine x_callV (pc' := 66) (d1 := 5) (Bs := [_]) rfl rfl rfl rfl rfl rfl rfl (Nat.le_of_ble_eq_true rfl) ⟨rfl, rfl⟩ (by decide) rfl (by omega) ?_
      refine w_X9_lacksLines hW (by omega) (fun h63 D1 o1 => ?_) (fun h63 D1 o1 => ?_)
      · refine ⟨rfl, ?_⟩
        refine x_if_eq (pc' := 69) rfl rfl (fun c66 => absurd c66 (by decide)) (fun _ => ?_)
        refine y_inc (pc' := 72) (lv' := [_, _, _, _]) rfl rfl rfl (by decide) rfl ?_
        refine y_inc (pc' := 75) (lv' := [_, _, _, _]) rfl rfl rfl (by decide) rfl ?_
        refine x_goto rfl ?_
        have t1 := o1.tv
        have ec : cntF (lacks (tv D)) (i + 1) = cntF (lacks (tv D)) i + (if lacks (tv D) i then 1 else 0) := rfl
        rw [h63] at ec
        have hh := ih (i + 1) D1 (by rw [t1]; exact hW) (by rw [t1]; omega) (fun D2 o2 => by rw [t1]; exact k D2 (o1.tr o2))
        rw [t1, ec] at hh
        exact hh
      · refine ⟨rfl, ?_⟩
        refine x_if_eq (pc' := 69) rfl rfl (fun _ => ?_) (fun c66 => absurd (by decide) c66)
        refine y_inc (pc' := 75) (lv' := [_, _, _, _]) rfl rfl rfl (by decide) rfl ?_
        refine x_goto rfl ?_
        have t1 := o1.tv
        have ec : cntF (lacks (tv D)) (i + 1) = cntF (lacks (tv D)) i + (if lacks (tv D) i then 1 else 0) := rfl
        rw [h63] at ec
        have hh := ih (i + 1) D1 (by rw [t1]; exact hW) (by rw [t1]; omega) (fun D2 o2 => by rw [t1]; exact k D2 (o1.tr o2))
        rw [t1, ec] at hh
        exact hh
set_option maxRecDepth 20000 in
set_option maxHeartbeats 1000000 in
theorem w_X9_die {D : Nat → Nat → Int32} {L : Nat → Nat → Int64} {Q : bh_Q} {ps : List TW} {sh : Nat → Option TW} {tp : List Nat} (hI : InvC D ps sh tp) (hG : Good (tv D) ps sh) {x : Int32} (k1 : ∀ D1, (∀ k, 205 ≤ k → D1 k = D k) → tv D1 = nxT (tv D) (dieR (tv D) x).2 → InvC D1 (nxP (tv D) ps (dieR (tv D) x).2) sh tp → Q (some (.int (dieR (tv D) x).1)) (hp D1 L)) : bh_wc 6 m_X9_die [.ref 0, .int x] (hp D L) Q := by
  refine x_start (lv0 := [_, _, _, _]) (Nat.le_of_ble_eq_true rfl) rfl ?_
  have hW := hG.1
  have h12 := hW.nwl
  have hH := hI.1
  refine x_aload (pc' := 1) rfl rfl rfl ?_
  refine x_getR (pc' := 4) rfl rfl rfl (by decide) rfl (by decide) rfl rfl ?_
  refine x_iload (pc' := 5) rfl rfl rfl ?_
  refine x_callV (pc' := 8) (d1 := 1) (Bs := [_]) rfl rfl rfl rfl rfl rfl rfl (Nat.le_of_ble_eq_true rfl) ⟨rfl, rfl⟩ (by decide) rfl (by decide) ?_
  refine w_X7_isWriter hW (fun h5w h5l e => ?_) (fun h5 => ?_)
  · subst e
    refine ⟨rfl, ?_⟩
    refine x_if_ne (pc' := 11) rfl rfl (fun _ => ?_) (fun c8 => absurd c8 (by decide))
    refine x_aload (pc' := 14) rfl rfl rfl ?_
    refine x_getR (pc' := 17) rfl rfl rfl (by decide) rfl (by decide) rfl rfl ?_
    refine x_iload (pc' := 18) rfl rfl rfl ?_
    refine x_callV (pc' := 21) (d1 := 1) (Bs := [_]) rfl rfl rfl rfl rfl rfl rfl (Nat.le_of_ble_eq_true rfl) ⟨rfl, rfl⟩ (by decide) rfl (by decide) ?_
    refine w_X7_isDead hW (by assumption) (fun h18 => ?_) (fun h18 => ?_)
    · refine ⟨rfl, ?_⟩
      refine x_if_eq (pc' := 24) rfl rfl (fun c21 => absurd c21 (by decide)) (fun _ => ?_)
      refine x_int (pc' := 26) (v := (-4)) rfl rfl rfl ?_
      refine x_iret rfl rfl ?_
      have e : dieR (tv D) (nI h5w) = (-4, none) := by unfold dieR; rw [dN_some h5l (by omega)]; exact if_pos h18
      rw [e] at k1
      exact k1 D (fun _ _ => rfl) rfl hI
    · refine ⟨rfl, ?_⟩
      refine x_if_eq (pc' := 24) rfl rfl (fun _ => ?_) (fun c21 => absurd (by decide) c21)
      refine x_aload (pc' := 28) rfl rfl rfl ?_
      refine x_callV (pc' := 31) (d1 := 3) (Bs := []) rfl rfl rfl rfl rfl rfl rfl (Nat.le_of_ble_eq_true rfl) ⟨rfl, rfl⟩ (by decide) rfl (by decide) ?_
      refine w_X9_remember hH (fun D1 f1 g1 hH1 => ?_)
      refine ⟨rfl, ?_⟩
      refine x_aload (pc' := 32) rfl rfl rfl ?_
      refine x_getR (pc' := 35) rfl rfl rfl (by decide) rfl (by decide) rfl rfl ?_
      refine x_dup (pc' := 36) rfl rfl rfl ?_
      refine x_getI (j := 5) (pc' := 39) rfl rfl rfl (by decide) rfl (by decide) rfl rfl ?_
      refine x_top ((congrFun (f1 1 (by decide) (by decide)) 5).trans hW.ede) ?_
      refine x_int (pc' := 40) (v := nI 1) rfl rfl rfl ?_
      refine x_iload (pc' := 41) rfl rfl rfl ?_
      refine y_ishl (pc' := 42) rfl rfl (by omega) ?_
      refine y_ior (pc' := 43) rfl rfl ?_
      refine x_putI (j := 5) (pc' := 46) rfl rfl rfl (by decide) rfl (by decide) rfl rfl ?_
      refine x_int (pc' := 47) (v := nI 0) rfl rfl rfl ?_
      refine x_istore (pc' := 48) (lv' := [_, _, _, _]) rfl rfl (by decide) rfl ?_
      refine x_int (pc' := 49) (v := nI 0) rfl rfl rfl ?_
      refine x_istore (pc' := 50) (lv' := [_, _, _, _]) rfl rfl (by decide) rfl ?_
      have t2 : tv (bh_up2 D1 1 5 (nI (de (tv D) ||| 1 <<< h5w))) = dieT (tv D) h5w := by rw [tv_up (j := 0) rfl (by decide), frc_tv f1]; rfl
      have hW2 : WF (tv (bh_up2 D1 1 5 (nI (de (tv D) ||| 1 <<< h5w)))) := by rw [t2]; exact die_wf hW h5l
      have hh := l_X9_die (d := 5) (L := L) (Q := Q) (v := nI h5w) (by decide) (nw (tv D)) 0 (bh_up2 D1 1 5 (nI (de (tv D) ||| 1 <<< h5w))) hW2 (by rw [t2, Nat.zero_add]; rfl) (fun D3 o3 => ?_)
      · exact hh
      have e : dieR (tv D) (nI h5w) = (nI (cntF (lacks (dieT (tv D) h5w)) (nw (tv D))), some (dieT (tv D) h5w)) := by unfold dieR; rw [dN_some h5l (by omega)]; exact if_neg (by rw [h18]; decide)
      rw [t2]
      refine actC hI f1 g1 hH1 k1 e ?_ (fun k a b => ?_) ?_
      · rw [o3 0 (by decide) (by decide)]; rfl
      · rw [o3 k (by omega) (by omega), bh_up2_ne _ _ _ (by omega)]
      · rw [o3.tv, t2]
  · refine ⟨rfl, ?_⟩
    refine x_if_ne (pc' := 11) rfl rfl (fun c8 => absurd (by decide) c8) (fun _ => ?_)
    refine x_int (pc' := 12) (v := (-1)) rfl rfl rfl ?_
    refine x_iret rfl rfl ?_
    have e : dieR (tv D) x = (-1, none) := by unfold dieR; rw [dN_none (by omega) h5]
    rw [e] at k1
    exact k1 D (fun _ _ => rfl) rfl hI
theorem lz1 {T : TW} {v i : Nat} (h : lacksF T v i = true) : lacksF T v (i + 1) = true := by
  show (lacksF T v i || _) = true
  rw [h]; rfl
set_option maxRecDepth 20000 in
set_option maxHeartbeats 1000000 in
theorem l1_X10_die {T : TW} (hW : WF T) {v : Nat} (hv : v < nw T) {d : Nat} (hd : 6 ≤ d) {L : Nat → Nat → Int64} {Q : bh_Q} {a1 a2 : Int32} : ∀ (f i : Nat) (D : Nat → Nat → Int32), i + f = nb T → Rn T (D 206) → (∀ D', OffL [212] D D' → ∀ a5, bw m_X10_die d Q 92 [.ref 205, .int a1, .int a2, .int (nI v), .int (if lacks T v then nI 0 else nI 1), a5] [] D' L) → bw m_X10_die d Q 53 [.ref 205, .int a1, .int a2, .int (nI v), .int (if lacksF T v i then nI 0 else nI 1), .int (nI i)] [] D L := by
  have h12 := hW.nwl
  have h4 := hW.nbl
  intro f
  induction f with
  | zero =>
    intro i D hf hR k
    refine x_iload (pc' := 55) rfl rfl rfl ?_
    refine x_aload (pc' := 56) rfl rfl rfl ?_
    refine x_getR (pc' := 59) rfl rfl rfl (by decide) rfl (by decide) rfl rfl ?_
    refine x_int (pc' := 60) (v := nI 1) rfl rfl rfl ?_
    refine x_iald (pc' := 61) rfl rfl (by decide) rfl (by decide) (show _ < 560 by omega) ?_
    refine x_top (hR.1.2.1.trans hW.enb) ?_
    refine y_ic_ge (pc' := 64) rfl rfl (by omega) (by omega) (fun c61 => ?_) (fun c61 => ?_)
    · have e : i = nb T := by omega
      subst e
      exact k D OffL.rf _
    · exact absurd c61 (by omega)
  | succ f ih =>
    intro i D hf hR k
    refine x_iload (pc' := 55) rfl rfl rfl ?_
    refine x_aload (pc' := 56) rfl rfl rfl ?_
    refine x_getR (pc' := 59) rfl rfl rfl (by decide) rfl (by decide) rfl rfl ?_
    refine x_int (pc' := 60) (v := nI 1) rfl rfl rfl ?_
    refine x_iald (pc' := 61) rfl rfl (by decide) rfl (by decide) (show _ < 560 by omega) ?_
    refine x_top (hR.1.2.1.trans hW.enb) ?_
    refine y_ic_ge (pc' := 64) rfl rfl (by omega) (by omega) (fun c61 => ?_) (fun c61 => ?_)
    · exact absurd c61 (by omega)
    · refine x_iload (pc' := 66) rfl rfl rfl ?_
      refine x_if_eq (pc' := 69) rfl rfl (fun c66 => ?_) (fun c66 => ?_)
      · cases hz : lacksF T v i
        · rw [hz] at c66; exact absurd c66 (by decide)
        · have e1 := lz1 hz
          refine x_int (pc' := 84) (v := nI 0) rfl rfl rfl ?_
          refine x_istore (pc' := 86) (lv' := [_, _, _, _, _, _]) rfl rfl (by decide) rfl ?_
          refine y_inc (pc' := 89) (lv' := [_, _, _, _, _, _]) rfl rfl rfl (by decide) rfl ?_
          refine x_goto rfl ?_
          have hh := ih (i + 1) D (by omega) hR k
          rw [e1] at hh
          exact hh
      · refine x_aload (pc' := 70) rfl rfl rfl ?_
        refine x_iload (pc' := 71) rfl rfl rfl ?_
        refine x_iload (pc' := 73) rfl rfl rfl ?_
        refine x_callV (pc' := 76) (d1 := 6) (Bs := [_, _]) rfl rfl rfl rfl rfl rfl rfl (Nat.le_of_ble_eq_true rfl) ⟨rfl, rfl⟩ (by decide) rfl (by omega) ?_
        refine w_X10_hasAll hW hR hv (by omega) (fun hl D1 o1 => ?_) (fun hl D1 o1 => ?_)
        · refine ⟨rfl, ?_⟩
          refine x_if_eq (pc' := 79) rfl rfl (fun c76 => absurd c76 (by decide)) (fun _ => ?_)
          refine x_int (pc' := 80) (v := nI 1) rfl rfl rfl ?_
          refine x_goto rfl ?_
          refine x_istore (pc' := 86) (lv' := [_, _, _, _, _, _]) rfl rfl (by decide) rfl ?_
          refine y_inc (pc' := 89) (lv' := [_, _, _, _, _, _]) rfl rfl rfl (by decide) rfl ?_
          refine x_goto rfl ?_
          have hz : lacksF T v i = false := by cases hz : lacksF T v i; rfl; rw [hz] at c66; exact absurd rfl c66
          have hh := ih (i + 1) D1 (by omega) (OffL212.rn o1 hR) (fun D2 o2 => k D2 (OffL.tr o1 o2))
          first
            | (rw [lacksF_0 hl hz] at hh; exact hh)
            | (rw [lacksF_mono hl (i + 1) (by omega)] at hh; exact hh)
        · refine ⟨rfl, ?_⟩
          refine x_if_eq (pc' := 79) rfl rfl (fun _ => ?_) (fun c76 => absurd (by decide) c76)
          refine x_int (pc' := 84) (v := nI 0) rfl rfl rfl ?_
          refine x_istore (pc' := 86) (lv' := [_, _, _, _, _, _]) rfl rfl (by decide) rfl ?_
          refine y_inc (pc' := 89) (lv' := [_, _, _, _, _, _]) rfl rfl rfl (by decide) rfl ?_
          refine x_goto rfl ?_
          have hz : lacksF T v i = false := by cases hz : lacksF T v i; rfl; rw [hz] at c66; exact absurd rfl c66
          have hh := ih (i + 1) D1 (by omega) (OffL212.rn o1 hR) (fun D2 o2 => k D2 (OffL.tr o1 o2))
          first
            | (rw [lacksF_0 hl hz] at hh; exact hh)
            | (rw [lacksF_mono hl (i + 1) (by omega)] at hh; exact hh)
set_option maxRecDepth 20000 in
set_option maxHeartbeats 1000000 in
theorem l2_X10_die {T : TW} (hW : WF T) {d : Nat} (hd : 6 ≤ d) {L : Nat → Nat → Int64} {Q : bh_Q} {a1 : Int32} : ∀ (f v : Nat) (D : Nat → Nat → Int32), v + f = nw T → Rn T (D 206) → (∀ D', OffL [212] D D' → Q (some (.int (nI (cntF (lacks T) (nw T))))) (hp D' L)) → ∀ a4 a5, bw m_X10_die d Q 37 [.ref 205, .int a1, .int (nI (cntF (lacks T) v)), .int (nI v), a4, a5] [] D L := by
  have h12 := hW.nwl
  have h4 := hW.nbl
  intro f
  induction f with
  | zero =>
    intro v D hf hR k a4 a5
    refine x_iload (pc' := 38) rfl rfl rfl ?_
    refine x_aload (pc' := 39) rfl rfl rfl ?_
    refine x_getR (pc' := 42) rfl rfl rfl (by decide) rfl (by decide) rfl rfl ?_
    refine x_int (pc' := 43) (v := nI 0) rfl rfl rfl ?_
    refine x_iald (pc' := 44) rfl rfl (by decide) rfl (by decide) (show _ < 560 by omega) ?_
    refine x_top (hR.1.1.trans hW.enw) ?_
    refine y_ic_ge (pc' := 47) rfl rfl (by omega) (by omega) (fun c44 => ?_) (fun c44 => ?_)
    · refine x_iload (pc' := 115) rfl rfl rfl ?_
      refine x_iret rfl rfl ?_
      have e : v = nw T := by omega
      subst e
      exact k D OffL.rf
    · exact absurd c44 (by omega)
  | succ f ih =>
    intro v D hf hR k a4 a5
    refine x_iload (pc' := 38) rfl rfl rfl ?_
    refine x_aload (pc' := 39) rfl rfl rfl ?_
    refine x_getR (pc' := 42) rfl rfl rfl (by decide) rfl (by decide) rfl rfl ?_
    refine x_int (pc' := 43) (v := nI 0) rfl rfl rfl ?_
    refine x_iald (pc' := 44) rfl rfl (by decide) rfl (by decide) (show _ < 560 by omega) ?_
    refine x_top (hR.1.1.trans hW.enw) ?_
    refine y_ic_ge (pc' := 47) rfl rfl (by omega) (by omega) (fun c44 => ?_) (fun c44 => ?_)
    · exact absurd c44 (by omega)
    · refine x_int (pc' := 48) (v := nI 1) rfl rfl rfl ?_
      refine x_istore (pc' := 50) (lv' := [_, _, _, _, _, _]) rfl rfl (by decide) rfl ?_
      refine x_int (pc' := 51) (v := nI 0) rfl rfl rfl ?_
      refine x_istore (pc' := 53) (lv' := [_, _, _, _, _, _]) rfl rfl (by decide) rfl ?_
      refine l1_X10_die hW (v := v) (by omega) hd (nb T) 0 D (Nat.zero_add _) hR (fun D1 o1 a5 => ?_)
      refine x_iload (pc' := 93) rfl rfl rfl ?_
      refine x_iload (pc' := 95) rfl rfl rfl ?_
      refine x_if_ne (pc' := 98) rfl rfl (fun c95 => ?_) (fun c95 => ?_)
      · refine x_int (pc' := 103) (v := nI 0) rfl rfl rfl ?_
        refine x_callS (pc' := 106) (d1 := 1) (As := [_]) rfl rfl rfl rfl (by decide) rfl rfl (Nat.le_of_ble_eq_true rfl) ⟨rfl, rfl⟩ (by omega) ?_
        refine w_X10_truth (by first | exact Or.inl rfl | exact Or.inr rfl) ?_
        refine ⟨rfl, ?_⟩
        refine y_iadd (pc' := 107) rfl rfl ?_
        refine x_istore (pc' := 108) (lv' := [_, _, _, _, _, _]) rfl rfl (by decide) rfl ?_
        refine y_inc (pc' := 111) (lv' := [_, _, _, _, _, _]) rfl rfl rfl (by decide) rfl ?_
        refine x_goto rfl ?_
        have ec : cntF (lacks T) (v + 1) = cntF (lacks T) v + (if lacks T v then 1 else 0) := rfl
        have hh := ih (v + 1) D1 (by omega) (OffL212.rn o1 hR) (fun D2 o2 => k D2 (OffL.tr o1 o2))
        rw [ec] at hh
        cases hz : lacks T v
        · first
            | (rw [hz] at c95; exact absurd rfl c95)
            | (rw [hz] at hh; exact hh _ _)
            | (exfalso; rw [hz] at c95; exact absurd c95 (by decide))
        · first
            | (rw [hz] at hh; exact hh _ _)
            | (exfalso; rw [hz] at c95; exact absurd c95 (by decide))
            | (exfalso; rw [hz] at c95; exact c95 rfl)
      · refine x_int (pc' := 99) (v := nI 1) rfl rfl rfl ?_
        refine x_goto rfl ?_
        refine x_callS (pc' := 106) (d1 := 1) (As := [_]) rfl rfl rfl rfl (by decide) rfl rfl (Nat.le_of_ble_eq_true rfl) ⟨rfl, rfl⟩ (by omega) ?_
        refine w_X10_truth (by first | exact Or.inl rfl | exact Or.inr rfl) ?_
        refine ⟨rfl, ?_⟩
        refine y_iadd (pc' := 107) rfl rfl ?_
        refine x_istore (pc' := 108) (lv' := [_, _, _, _, _, _]) rfl rfl (by decide) rfl ?_
        refine y_inc (pc' := 111) (lv' := [_, _, _, _, _, _]) rfl rfl rfl (by decide) rfl ?_
        refine x_goto rfl ?_
        have ec : cntF (lacks T) (v + 1) = cntF (lacks T) v + (if lacks T v then 1 else 0) := rfl
        have hh := ih (v + 1) D1 (by omega) (OffL212.rn o1 hR) (fun D2 o2 => k D2 (OffL.tr o1 o2))
        rw [ec] at hh
        cases hz : lacks T v
        · first
            | (rw [hz] at c95; exact absurd rfl c95)
            | (rw [hz] at hh; exact hh _ _)
            | (exfalso; rw [hz] at c95; exact absurd c95 (by decide))
        · first
            | (rw [hz] at hh; exact hh _ _)
            | (exfalso; rw [hz] at c95; exact absurd c95 (by decide))
            | (exfalso; rw [hz] at c95; exact c95 rfl)
set_option maxRecDepth 20000 in
set_option maxHeartbeats 1000000 in
theorem w_X10_die {D : Nat → Nat → Int32} {L : Nat → Nat → Int64} {Q : bh_Q} {T : TW} {ps : List TW} {sh : Nat → Option TW} {tp : List Nat} (hI : InvM D T ps sh tp) (hG : Good T ps sh) {x : Int32} (k1 : ∀ D1, (∀ k, (k < 205 ∨ 228 ≤ k) → D1 k = D k) → InvM D1 (nxT T (dieR T x).2) (nxP T ps (dieR T x).2) sh tp → Q (some (.int (dieR T x).1)) (hp D1 L)) : bh_wc 7 m_X10_die [.ref 205, .int x] (hp D L) Q := by
  refine x_start (lv0 := [_, _, _, _, _, _]) (Nat.le_of_ble_eq_true rfl) rfl ?_
  have hW := hG.1
  have h12x := hW.nwl
  have hR := hI.1
  refine x_aload (pc' := 1) rfl rfl rfl ?_
  refine x_iload (pc' := 2) rfl rfl rfl ?_
  refine x_callV (pc' := 5) (d1 := 2) (Bs := [_]) rfl rfl rfl rfl rfl rfl rfl (Nat.le_of_ble_eq_true rfl) ⟨rfl, rfl⟩ (by decide) rfl (by decide) ?_
  refine w_X10_isWriter hW hR (fun h2w h2l e => ?_) (fun h2 => ?_)
  · subst e
    refine ⟨rfl, ?_⟩
    refine x_if_ne (pc' := 8) rfl rfl (fun _ => ?_) (fun c5 => absurd c5 (by decide))
    refine x_aload (pc' := 11) rfl rfl rfl ?_
    refine x_iload (pc' := 12) rfl rfl rfl ?_
    refine x_callV (pc' := 15) (d1 := 2) (Bs := [_]) rfl rfl rfl rfl rfl rfl rfl (Nat.le_of_ble_eq_true rfl) ⟨rfl, rfl⟩ (by decide) rfl (by decide) ?_
    refine w_X10_isDead hW hR (by assumption) (fun h12 => ?_) (fun h12 => ?_)
    · refine ⟨rfl, ?_⟩
      refine x_if_eq (pc' := 18) rfl rfl (fun c15 => absurd c15 (by decide)) (fun _ => ?_)
      refine x_int (pc' := 20) (v := (-4)) rfl rfl rfl ?_
      refine x_iret rfl rfl ?_
      have e : dieR T (nI h2w) = (-4, none) := by unfold dieR; rw [dN_some h2l (by omega)]; exact if_pos h12
      rw [e] at k1
      exact k1 D (fun _ _ => rfl) hI
    · refine ⟨rfl, ?_⟩
      refine x_if_eq (pc' := 18) rfl rfl (fun _ => ?_) (fun c15 => absurd (by decide) c15)
      refine x_aload (pc' := 22) rfl rfl rfl ?_
      refine x_callV (pc' := 25) (d1 := 2) (Bs := []) rfl rfl rfl rfl rfl rfl rfl (Nat.le_of_ble_eq_true rfl) ⟨rfl, rfl⟩ (by decide) rfl (by decide) ?_
      refine w_X10_keepsPast hW hR hI.2.1 hG.2.1 (fun D1 f1 g1 hH1 => ?_)
      refine ⟨rfl, ?_⟩
      have hR1 : Rn T (D1 206) := by rw [f1 206 (by decide)]; exact hR
      refine x_aload (pc' := 26) rfl rfl rfl ?_
      refine x_iload (pc' := 27) rfl rfl rfl ?_
      refine x_int (pc' := 29) (v := nI 8) rfl rfl rfl ?_
      refine x_int (pc' := 30) (v := nI 1) rfl rfl rfl ?_
      refine x_callV (pc' := 33) (d1 := 1) (Bs := [_, _, _]) rfl rfl rfl rfl rfl rfl rfl (Nat.le_of_ble_eq_true rfl) ⟨rfl, rfl⟩ (by decide) rfl (by decide) ?_
      refine w_X10_puts_ (by omega) (by decide) ?_
      refine ⟨rfl, ?_⟩
      refine x_int (pc' := 34) (v := nI 0) rfl rfl rfl ?_
      refine x_istore (pc' := 35) (lv' := [_, _, _, _, _, _]) rfl rfl (by decide) rfl ?_
      refine x_int (pc' := 36) (v := nI 0) rfl rfl rfl ?_
      refine x_istore (pc' := 37) (lv' := [_, _, _, _, _, _]) rfl rfl (by decide) rfl ?_
      have hR2 : Rn (dieT T h2w) ((bh_up2 D1 206 (4 + 10 * h2w + 8) (nI 1)) 206) := by rw [bh_up2_k]; exact rn_die hW hR1 h2l
      have e : dieR T (nI h2w) = (nI (cntF (lacks (dieT T h2w)) (nw T)), some (dieT T h2w)) := by unfold dieR; rw [dN_some h2l (by omega)]; exact if_neg (by rw [h12]; decide)
      refine l2_X10_die (T := dieT T h2w) (die_wf hW h2l) (by decide) (nw T) 0 _ (Nat.zero_add _) hR2 (fun D3 o3 => ?_) _ _
      refine actM hI f1 g1 hH1 k1 e (fun k a b c => ?_) (fun j hj => ?_) (OffL212.rn o3 hR2)
      · rw [o3 k (fun q => by rw [List.mem_singleton] at q; omega), bh_up2_ne _ _ _ a]
      · rw [o3 205 (by decide)]; rfl
  · refine ⟨rfl, ?_⟩
    refine x_if_ne (pc' := 8) rfl rfl (fun c5 => absurd (by decide) c5) (fun _ => ?_)
    refine x_int (pc' := 9) (v := (-1)) rfl rfl rfl ?_
    refine x_iret rfl rfl ?_
    have e : dieR T x = (-1, none) := by unfold dieR; rw [dN_none (by omega) h2]
    rw [e] at k1
    exact k1 D (fun _ _ => rfl) hI
