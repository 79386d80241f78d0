/-! ===== a day ===== -/
def dR (s : Int32) : Int32 := (s.toUInt32 >>> ((nI 16).toUInt32 &&& Int32.toUInt32 31)).toInt32 - (s.toUInt32 >>> ((nI 16).toUInt32 &&& Int32.toUInt32 31)).toInt32 / nI 3 * nI 3
def daS (T : TW) (x : Int32) : Nat → Int32
  | 0 => x
  | i + 1 => if T 5 i = -1 then nI 1103515245 * daS T x i + nI 12345 else daS T x i
def daB (T : TW) (x : Int32) (i : Nat) : Bool := if T 5 i = -1 then decide (dR (nI 1103515245 * daS T x i + nI 12345) = 0) else isM T (un T i)
def daM (T : TW) (x : Int32) : Nat → Nat
  | 0 => 0
  | i + 1 => daM T x i ||| ((if daB T x i then 1 else 0) <<< i)
section bh_day
variable {T : TW} {x : Int32} {i : Nat}
theorem daS_r (e : T 5 i = -1) : daS T x (i + 1) = nI 1103515245 * daS T x i + nI 12345 := if_pos e
theorem daS_n (e : ¬ T 5 i = -1) : daS T x (i + 1) = daS T x i := if_neg e
theorem daB_r1 (e : T 5 i = -1) (h : dR (nI 1103515245 * daS T x i + nI 12345) = 0) : daB T x i = true := by unfold daB; rw [if_pos e]; exact decide_eq_true h
theorem daB_r0 (e : T 5 i = -1) (h : ¬ dR (nI 1103515245 * daS T x i + nI 12345) = 0) : daB T x i = false := by unfold daB; rw [if_pos e]; exact decide_eq_false h
theorem daB_n (e : ¬ T 5 i = -1) {b : Bool} (h : isM T (un T i) = b) : daB T x i = b := by unfold daB; rw [if_neg e]; exact h
theorem daM_1 (e : daB T x i = true) : daM T x (i + 1) = daM T x i ||| 1 <<< i := by show _ ||| _ = _; rw [e]; rfl
theorem daM_0 (e : daB T x i = false) : daM T x (i + 1) = daM T x i := by show _ ||| _ = _; rw [e]; simp
theorem daM_bit (j : Nat) : ∀ i, (daM T x i).testBit j = (decide (j < i) && daB T x j) := by
  intro i
  induction i with
  | zero => show Nat.testBit 0 j = _; simp
  | succ i ih =>
    show (daM T x i ||| ((if daB T x i then 1 else 0) <<< i)).testBit j = _
    rw [Nat.testBit_or, ih, Nat.testBit_shiftLeft]
    by_cases e : j = i
    · subst e
      cases daB T x j <;> simp
    · by_cases h : j < i
      · have : ¬ i ≤ j := by omega
        have h2 : j < i + 1 := by omega
        simp [h, this, h2]
      · have h3 : i ≤ j := by omega
        have h4 : ¬ j < i + 1 := by omega
        have h5 : 0 < j - i := by omega
        have h6 : (if daB T x i then 1 else 0 : Nat).testBit (j - i) = false := by
          obtain ⟨q, hq⟩ : ∃ q, j - i = q + 1 := ⟨j - i - 1, by omega⟩
          rw [hq]
          cases daB T x i <;> simp [Nat.testBit_succ]
        simp [h, h3, h4, h6]
theorem daM_lt : ∀ i, daM T x i < 2 ^ i := by
  intro i
  refine Nat.lt_pow_two_of_testBit _ (fun j hj => ?_)
  rw [daM_bit, decide_eq_false (by omega)]
  rfl
end bh_day
def dayT (T : TW) (x : Int32) : TW := bh_up2 (bh_up2 T 0 4 (nI (daM T x (nw T)))) 0 3 (T 0 3 + nI 1)
def dayR (T : TW) (x : Int32) : Int32 × Option TW := (nI (daM T x (nw T)), some (dayT T x))
theorem wf_day {T : TW} (hW : WF T) (x : Int32) : WF (dayT T x) := by
  refine ⟨⟨hW.1.1, hW.1.2.1, hW.1.2.2.1, ?_, hW.1.2.2.2.2⟩, hW.2.1, hW.2.2.1, hW.2.2.2.1, hW.2.2.2.2⟩
  show is (nI (daM T x (nw T))) (2 ^ nw T)
  exact is_nI (daM_lt _) (Nat.lt_of_le_of_lt (Nat.pow_le_pow_right (by decide) hW.nwl) (by decide))
theorem day_good {T : TW} {ps : List TW} {sh : Nat → Option TW} (x : Int32) (hG : Good T ps sh) : Good (nxT T (dayR T x).2) (nxP T ps (dayR T x).2) sh := good_nx hG (fun T' h => by cases h; exact wf_day hG.1 x)
theorem day_mo {T : TW} (hW : WF T) (x : Int32) : mo (dayT T x) = daM T x (nw T) := by
  show (nI (daM T x (nw T))).toNatClampNeg = _
  exact nI_clamp (Nat.lt_of_lt_of_le (daM_lt _) (Nat.le_trans (Nat.pow_le_pow_right (by decide) hW.nwl) (by decide)))
theorem mod_bit (m i : Nat) : m % 2 ^ (i + 1) = m % 2 ^ i ||| ((if m.testBit i then 1 else 0) <<< i) := by
  refine Nat.eq_of_testBit_eq (fun j => ?_)
  rw [Nat.testBit_or, Nat.testBit_mod_two_pow, Nat.testBit_mod_two_pow, Nat.testBit_shiftLeft]
  by_cases e : j = i
  · subst e
    cases h : m.testBit j <;> simp
  · by_cases h : j < i
    · have h1 : ¬ i ≤ j := by omega
      have h2 : j < i + 1 := by omega
      simp [h, h1, h2]
    · have h4 : ¬ j < i + 1 := by omega
      have h5 : 0 < j - i := by omega
      obtain ⟨q, hq⟩ : ∃ q, j - i = q + 1 := ⟨j - i - 1, by omega⟩
      rw [hq]
      cases m.testBit i <;> simp [h, h4, Nat.testBit_succ]
theorem p12 {n : Nat} (h : n ≤ 12) : (2 : Nat) ^ n ≤ 4096 := Nat.pow_le_pow_right (by decide) h
set_option maxRecDepth 20000 in
set_option maxHeartbeats 1000000 in
theorem l_X9_day {D : Nat → Nat → Int32} (hW : WF (tv D)) {d : Nat} (hd : 1 ≤ d) {L : Nat → Nat → Int64} {Q : bh_Q} {x : Int32} (k : ∀ s j a5 a6, bw m_X9_day d Q 98 [.ref 0, .int x, s, .int (nI (daM (tv D) x (nw (tv D)))), j, a5, a6] [] D L) : ∀ (f i : Nat) (a5 a6 : Value), i + f = nw (tv D) → bw m_X9_day d Q 11 [.ref 0, .int x, .int (daS (tv D) x i), .int (nI (daM (tv D) x i)), .int (nI i), a5, a6] [] D L := by
  have h12 := hW.nwl
  intro f
  induction f with
  | zero =>
    intro i a5 a6 hf
    refine x_iload (pc' := 13) rfl rfl rfl ?_
    refine x_aload (pc' := 14) rfl rfl rfl ?_
    refine x_getR (pc' := 17) rfl rfl rfl (by decide) rfl (by decide) rfl rfl ?_
    refine x_getI (j := 0) (pc' := 20) rfl rfl rfl (by decide) rfl (by decide) rfl rfl ?_
    refine x_top (hW.enw) ?_
    refine y_ic_ge (pc' := 23) rfl rfl (by omega) (by omega) (fun c20 => ?_) (fun c20 => ?_)
    · have e0 : i = nw (tv D) := by omega
      subst e0
      exact k _ _ _ _
    · exact absurd c20 (by omega)
  | succ f ih =>
    intro i a5 a6 hf
    refine x_iload (pc' := 13) rfl rfl rfl ?_
    refine x_aload (pc' := 14) rfl rfl rfl ?_
    refine x_getR (pc' := 17) rfl rfl rfl (by decide) rfl (by decide) rfl rfl ?_
    refine x_getI (j := 0) (pc' := 20) rfl rfl rfl (by decide) rfl (by decide) rfl rfl ?_
    refine x_top (hW.enw) ?_
    refine y_ic_ge (pc' := 23) rfl rfl (by omega) (by omega) (fun c20 => ?_) (fun c20 => ?_)
    · exact absurd c20 (by omega)
    · refine x_aload (pc' := 24) rfl rfl rfl ?_
      refine x_getR (pc' := 27) rfl rfl rfl (by decide) rfl (by decide) rfl rfl ?_
      refine x_getR (pc' := 30) rfl rfl rfl (by decide) rfl (by decide) rfl rfl ?_
      refine x_iload (pc' := 32) rfl rfl rfl ?_
      refine x_iald (pc' := 33) rfl rfl (by decide) rfl (by decide) (show _ < 12 by omega) ?_
      have hi : i < nw (tv D) := by omega
      rcases hW.eun hi with e5 | ⟨e5, e6, e7⟩
      · refine x_top e5 ?_
        refine x_istore (pc' := 35) (lv' := [_, _, _, _, _, _, _]) rfl rfl (by decide) rfl ?_
        refine x_iload (pc' := 37) rfl rfl rfl ?_
        refine x_int (pc' := 38) (v := (-1)) rfl rfl rfl ?_
        refine x_ic_ne (pc' := 41) rfl rfl (fun c38 => absurd (by decide) c38) (fun _ => ?_)
        refine x_int (pc' := 43) (v := nI 1103515245) rfl rfl rfl ?_
        refine x_iload (pc' := 44) rfl rfl rfl ?_
        refine x_imul (pc' := 45) rfl rfl ?_
        refine x_int (pc' := 48) (v := nI 12345) rfl rfl rfl ?_
        refine x_iadd (pc' := 49) rfl rfl ?_
        refine x_istore (pc' := 50) (lv' := [_, _, _, _, _, _, _]) rfl rfl (by decide) rfl ?_
        refine x_iload (pc' := 51) rfl rfl rfl ?_
        refine x_int (pc' := 53) (v := nI 16) rfl rfl rfl ?_
        refine x_iushr (pc' := 54) rfl rfl ?_
        refine x_int (pc' := 55) (v := nI 3) rfl rfl rfl ?_
        refine x_irem (pc' := 56) rfl rfl (by decide) ?_
        refine x_if_ne (pc' := 59) rfl rfl (fun c56 => ?_) (fun c56 => ?_)
        · refine x_int (pc' := 64) (v := nI 0) rfl rfl rfl ?_
          refine x_istore (pc' := 66) (lv' := [_, _, _, _, _, _, _]) rfl rfl (by decide) rfl ?_
          refine x_goto rfl ?_
          refine x_iload (pc' := 82) rfl rfl rfl ?_
          refine x_if_eq (pc' := 85) rfl rfl (fun _ => ?_) (fun c82 => absurd (by decide) c82)
          refine y_inc (pc' := 95) (lv' := [_, _, _, _, _, _, _]) rfl rfl rfl (by decide) rfl ?_
          refine x_goto rfl ?_
          first
            | (have es := daS_r (x := x) e5
               have em := daM_1 (daB_r1 (x := x) e5 c56)
               have hh : ∀ a b, _ := fun a b => ih (i + 1) a b (by omega)
               rw [es, em] at hh
               exact hh _ _)
            | (have es := daS_r (x := x) e5
               have em := daM_0 (daB_r0 (x := x) e5 c56)
               have hh : ∀ a b, _ := fun a b => ih (i + 1) a b (by omega)
               rw [es, em] at hh
               exact hh _ _)
            | (have es := daS_n (x := x) e8
               have em := daM_1 (daB_n (x := x) e8 h75)
               have hh : ∀ a b, _ := fun a b => ih (i + 1) a b (by omega)
               rw [es, em] at hh
               exact hh _ _)
            | (have es := daS_n (x := x) e8
               have em := daM_0 (daB_n (x := x) e8 h75)
               have hh : ∀ a b, _ := fun a b => ih (i + 1) a b (by omega)
               rw [es, em] at hh
               exact hh _ _)
        · refine x_int (pc' := 60) (v := nI 1) rfl rfl rfl ?_
          refine x_goto rfl ?_
          refine x_istore (pc' := 66) (lv' := [_, _, _, _, _, _, _]) rfl rfl (by decide) rfl ?_
          refine x_goto rfl ?_
          refine x_iload (pc' := 82) rfl rfl rfl ?_
          refine x_if_eq (pc' := 85) rfl rfl (fun c82 => absurd c82 (by decide)) (fun _ => ?_)
          refine x_iload (pc' := 86) rfl rfl rfl ?_
          refine x_int (pc' := 87) (v := nI 1) rfl rfl rfl ?_
          refine x_iload (pc' := 89) rfl rfl rfl ?_
          refine y_ishl (pc' := 90) rfl rfl (by omega) ?_
          refine y_ior (pc' := 91) rfl rfl ?_
          refine x_istore (pc' := 92) (lv' := [_, _, _, _, _, _, _]) rfl rfl (by decide) rfl ?_
          refine y_inc (pc' := 95) (lv' := [_, _, _, _, _, _, _]) rfl rfl rfl (by decide) rfl ?_
          refine x_goto rfl ?_
          first
            | (have es := daS_r (x := x) e5
               have em := daM_1 (daB_r1 (x := x) e5 c56)
               have hh : ∀ a b, _ := fun a b => ih (i + 1) a b (by omega)
               rw [es, em] at hh
               exact hh _ _)
            | (have es := daS_r (x := x) e5
               have em := daM_0 (daB_r0 (x := x) e5 c56)
               have hh : ∀ a b, _ := fun a b => ih (i + 1) a b (by omega)
               rw [es, em] at hh
               exact hh _ _)
            | (have es := daS_n (x := x) e8
               have em := daM_1 (daB_n (x := x) e8 h75)
               have hh : ∀ a b, _ := fun a b => ih (i + 1) a b (by omega)
               rw [es, em] at hh
               exact hh _ _)
            | (have es := daS_n (x := x) e8
               have em := daM_0 (daB_n (x := x) e8 h75)
               have hh : ∀ a b, _ := fun a b => ih (i + 1) a b (by omega)
               rw [es, em] at hh
               exact hh _ _)
      · have e8 : ¬ tv D 5 i = -1 := by rw [e5]; exact nI_m1 (by omega)
        refine x_top e5 ?_
        refine x_istore (pc' := 35) (lv' := [_, _, _, _, _, _, _]) rfl rfl (by decide) rfl ?_
        refine x_iload (pc' := 37) rfl rfl rfl ?_
        refine x_int (pc' := 38) (v := (-1)) rfl rfl rfl ?_
        refine x_ic_ne (pc' := 41) rfl rfl (fun c38 => ?_) (fun c38 => ?_)
        · refine x_aload (pc' := 70) rfl rfl rfl ?_
          refine x_getR (pc' := 73) rfl rfl rfl (by decide) rfl (by decide) rfl rfl ?_
          refine x_iload (pc' := 75) rfl rfl rfl ?_
          refine x_callV (pc' := 78) (d1 := 1) (Bs := [_]) rfl rfl rfl rfl rfl rfl rfl (Nat.le_of_ble_eq_true rfl) ⟨rfl, rfl⟩ (by decide) rfl (by omega) ?_
          refine w_X7_inMood hW e6 (fun h75 => ?_) (fun h75 => ?_)
          · refine ⟨rfl, ?_⟩
            refine x_istore (pc' := 80) (lv' := [_, _, _, _, _, _, _]) rfl rfl (by decide) rfl ?_
            refine x_iload (pc' := 82) rfl rfl rfl ?_
            refine x_if_eq (pc' := 85) rfl rfl (fun c82 => absurd c82 (by decide)) (fun _ => ?_)
            refine x_iload (pc' := 86) rfl rfl rfl ?_
            refine x_int (pc' := 87) (v := nI 1) rfl rfl rfl ?_
            refine x_iload (pc' := 89) rfl rfl rfl ?_
            refine y_ishl (pc' := 90) rfl rfl (by omega) ?_
            refine y_ior (pc' := 91) rfl rfl ?_
            refine x_istore (pc' := 92) (lv' := [_, _, _, _, _, _, _]) rfl rfl (by decide) rfl ?_
            refine y_inc (pc' := 95) (lv' := [_, _, _, _, _, _, _]) rfl rfl rfl (by decide) rfl ?_
            refine x_goto rfl ?_
            first
              | (have es := daS_r (x := x) e5
                 have em := daM_1 (daB_r1 (x := x) e5 c56)
                 have hh : ∀ a b, _ := fun a b => ih (i + 1) a b (by omega)
                 rw [es, em] at hh
                 exact hh _ _)
              | (have es := daS_r (x := x) e5
                 have em := daM_0 (daB_r0 (x := x) e5 c56)
                 have hh : ∀ a b, _ := fun a b => ih (i + 1) a b (by omega)
                 rw [es, em] at hh
                 exact hh _ _)
              | (have es := daS_n (x := x) e8
                 have em := daM_1 (daB_n (x := x) e8 h75)
                 have hh : ∀ a b, _ := fun a b => ih (i + 1) a b (by omega)
                 rw [es, em] at hh
                 exact hh _ _)
              | (have es := daS_n (x := x) e8
                 have em := daM_0 (daB_n (x := x) e8 h75)
                 have hh : ∀ a b, _ := fun a b => ih (i + 1) a b (by omega)
                 rw [es, em] at hh
                 exact hh _ _)
          · refine ⟨rfl, ?_⟩
            refine x_istore (pc' := 80) (lv' := [_, _, _, _, _, _, _]) rfl rfl (by decide) rfl ?_
            refine x_iload (pc' := 82) rfl rfl rfl ?_
            refine x_if_eq (pc' := 85) rfl rfl (fun _ => ?_) (fun c82 => absurd (by decide) c82)
            refine y_inc (pc' := 95) (lv' := [_, _, _, _, _, _, _]) rfl rfl rfl (by decide) rfl ?_
            refine x_goto rfl ?_
            first
              | (have es := daS_r (x := x) e5
                 have em := daM_1 (daB_r1 (x := x) e5 c56)
                 have hh : ∀ a b, _ := fun a b => ih (i + 1) a b (by omega)
                 rw [es, em] at hh
                 exact hh _ _)
              | (have es := daS_r (x := x) e5
                 have em := daM_0 (daB_r0 (x := x) e5 c56)
                 have hh : ∀ a b, _ := fun a b => ih (i + 1) a b (by omega)
                 rw [es, em] at hh
                 exact hh _ _)
              | (have es := daS_n (x := x) e8
                 have em := daM_1 (daB_n (x := x) e8 h75)
                 have hh : ∀ a b, _ := fun a b => ih (i + 1) a b (by omega)
                 rw [es, em] at hh
                 exact hh _ _)
              | (have es := daS_n (x := x) e8
                 have em := daM_0 (daB_n (x := x) e8 h75)
                 have hh : ∀ a b, _ := fun a b => ih (i + 1) a b (by omega)
                 rw [es, em] at hh
                 exact hh _ _)
        · exact absurd c38 (nI_m1 (by omega))
set_option maxRecDepth 20000 in
set_option maxHeartbeats 1000000 in
theorem w_X9_day {D : Nat → Nat → Int32} {L : Nat → Nat → Int64} {Q : bh_Q} {ps : List TW} {sh : Nat → Option TW} {tp : List Nat} (hI : InvC D ps sh tp) (hG : Good (tv D) ps sh) {x : Int32} (k1 : ∀ D1, (∀ k, 205 ≤ k → D1 k = D k) → tv D1 = nxT (tv D) (dayR (tv D) x).2 → InvC D1 (nxP (tv D) ps (dayR (tv D) x).2) sh tp → Q (some (.int (dayR (tv D) x).1)) (hp D1 L)) : bh_wc 4 m_X9_day [.ref 0, .int x] (hp D L) Q := by
  refine x_start (lv0 := [_, _, _, _, _, _, _]) (Nat.le_of_ble_eq_true rfl) rfl ?_
  have hW := hG.1
  have h12 := hW.nwl
  have hH := hI.1
  refine x_aload (pc' := 1) rfl rfl rfl ?_
  refine x_callV (pc' := 4) (d1 := 3) (Bs := []) rfl rfl rfl rfl rfl rfl rfl (Nat.le_of_ble_eq_true rfl) ⟨rfl, rfl⟩ (by decide) rfl (by decide) ?_
  refine w_X9_remember hH (fun D1 f1 g1 hH1 => ?_)
  refine ⟨rfl, ?_⟩
  refine x_iload (pc' := 5) rfl rfl rfl ?_
  refine x_istore (pc' := 6) (lv' := [_, _, _, _, _, _, _]) rfl rfl (by decide) rfl ?_
  refine x_int (pc' := 7) (v := nI 0) rfl rfl rfl ?_
  refine x_istore (pc' := 8) (lv' := [_, _, _, _, _, _, _]) rfl rfl (by decide) rfl ?_
  refine x_int (pc' := 9) (v := nI 0) rfl rfl rfl ?_
  refine x_istore (pc' := 11) (lv' := [_, _, _, _, _, _, _]) rfl rfl (by decide) rfl ?_
  have hW1 : WF (tv D1) := by rw [frc_tv f1]; exact hW
  refine l_X9_day hW1 (by decide) (fun s j a5 a6 => ?_) (nw (tv D1)) 0 _ _ (Nat.zero_add _)
  refine x_aload (pc' := 99) rfl rfl rfl ?_
  refine x_getR (pc' := 102) rfl rfl rfl (by decide) rfl (by decide) rfl rfl ?_
  refine x_iload (pc' := 103) rfl rfl rfl ?_
  refine x_putI (j := 4) (pc' := 106) rfl rfl rfl (by decide) rfl (by decide) rfl rfl ?_
  refine x_aload (pc' := 107) rfl rfl rfl ?_
  refine x_getR (pc' := 110) rfl rfl rfl (by decide) rfl (by decide) rfl rfl ?_
  refine x_dup (pc' := 111) rfl rfl rfl ?_
  refine x_getI (j := 3) (pc' := 114) rfl rfl rfl (by decide) rfl (by decide) rfl rfl ?_
  refine x_int (pc' := 115) (v := nI 1) rfl rfl rfl ?_
  refine x_iadd (pc' := 116) rfl rfl ?_
  refine x_putI (j := 3) (pc' := 119) rfl rfl rfl (by decide) rfl (by decide) rfl rfl ?_
  refine x_iload (pc' := 120) rfl rfl rfl ?_
  refine x_iret rfl rfl ?_
  have e : dayR (tv D) x = (nI (daM (tv D1) x (nw (tv D1))), some (dayT (tv D1) x)) := by rw [frc_tv f1]; rfl
  refine actC hI f1 g1 hH1 k1 e rfl (fun k a b => ?_) ?_
  · rw [bh_up2_ne _ _ _ (by omega), bh_up2_ne _ _ _ (by omega)]
  · rw [tv_up (j := 0) rfl (by decide), tv_up (j := 0) rfl (by decide)]; rfl
set_option maxRecDepth 20000 in
theorem l_X10_moods {D : Nat → Nat → Int32} {T : TW} (hW : WF T) (hR : Rn T (D 206)) {d : Nat} (hd : 1 ≤ d) {L : Nat → Nat → Int64} {Q : bh_Q} (k1 : Q (some (.int (nI (mo T)))) (hp D L)) : ∀ (f i : Nat), i + f = nw T → bw m_X10_moods d Q 4 [.ref 205, .int (nI (mo T % 2 ^ i)), .int (nI i)] [] D L := by
  have h12 := hW.nwl
  intro f
  induction f with
  | zero =>
    intro i hf
    refine x_iload (pc' := 5) rfl rfl rfl ?_
    refine x_aload (pc' := 6) rfl rfl rfl ?_
    refine x_getR (pc' := 9) rfl rfl rfl (by decide) rfl (by decide) rfl rfl ?_
    refine x_int (pc' := 10) (v := nI 0) rfl rfl rfl ?_
    refine x_iald (pc' := 11) rfl rfl (by decide) rfl (by decide) (show _ < 560 by omega) ?_
    refine x_top (hR.1.1.trans hW.enw) ?_
    refine y_ic_ge (pc' := 14) rfl rfl (by omega) (by omega) (fun c11 => ?_) (fun c11 => ?_)
    · refine x_iload (pc' := 33) rfl rfl rfl ?_
      refine x_iret rfl rfl ?_
      have e0 : i = nw T := by omega
      subst e0
      rw [Nat.mod_eq_of_lt hW.mol]
      exact k1
    · exact absurd c11 (by omega)
  | succ f ih =>
    intro i hf
    refine x_iload (pc' := 5) rfl rfl rfl ?_
    refine x_aload (pc' := 6) rfl rfl rfl ?_
    refine x_getR (pc' := 9) rfl rfl rfl (by decide) rfl (by decide) rfl rfl ?_
    refine x_int (pc' := 10) (v := nI 0) rfl rfl rfl ?_
    refine x_iald (pc' := 11) rfl rfl (by decide) rfl (by decide) (show _ < 560 by omega) ?_
    refine x_top (hR.1.1.trans hW.enw) ?_
    refine y_ic_ge (pc' := 14) rfl rfl (by omega) (by omega) (fun c11 => ?_) (fun c11 => ?_)
    · exact absurd c11 (by omega)
    · refine x_iload (pc' := 15) rfl rfl rfl ?_
      refine x_aload (pc' := 16) rfl rfl rfl ?_
      refine x_iload (pc' := 17) rfl rfl rfl ?_
      refine x_int (pc' := 19) (v := nI 7) rfl rfl rfl ?_
      refine x_callV (pc' := 22) (d1 := 1) (Bs := [_, _]) rfl rfl rfl rfl rfl rfl rfl (Nat.le_of_ble_eq_true rfl) ⟨rfl, rfl⟩ (by decide) rfl (by omega) ?_
      refine w_X10_of (by omega) (by decide) ?_
      refine ⟨rfl, ?_⟩
      refine x_top (hR.rmo (by omega)) ?_
      refine x_iload (pc' := 23) rfl rfl rfl ?_
      refine y_ishl (pc' := 24) rfl rfl (by omega) ?_
      refine y_ior (pc' := 25) rfl rfl ?_
      refine x_istore (pc' := 26) (lv' := [_, _, _]) rfl rfl (by decide) rfl ?_
      refine y_inc (pc' := 29) (lv' := [_, _, _]) rfl rfl rfl (by decide) rfl ?_
      refine x_goto rfl ?_
      have hh := ih (i + 1) (by omega)
      rw [mod_bit] at hh
      exact hh
set_option maxRecDepth 20000 in
set_option maxHeartbeats 1000000 in
theorem w_X10_moods {D : Nat → Nat → Int32} {L : Nat → Nat → Int64} {Q : bh_Q} {T : TW} (hW : WF T) (hR : Rn T (D 206)) (k1 : Q (some (.int (nI (mo T)))) (hp D L)) : bh_wc 2 m_X10_moods [.ref 205] (hp D L) Q := by
  refine x_start (lv0 := [_, _, _]) (Nat.le_of_ble_eq_true rfl) rfl ?_
  refine x_int (pc' := 1) (v := nI 0) rfl rfl rfl ?_
  refine x_istore (pc' := 2) (lv' := [_, _, _]) rfl rfl (by decide) rfl ?_
  refine x_int (pc' := 3) (v := nI 0) rfl rfl rfl ?_
  refine x_istore (pc' := 4) (lv' := [_, _, _]) rfl rfl (by decide) rfl ?_
  have hh := l_X10_moods (d := 1) hW hR (by decide) k1 (nw T) 0 (Nat.zero_add _)
  rw [Nat.pow_zero, Nat.mod_one] at hh
  exact hh
set_option maxRecDepth 20000 in
set_option maxHeartbeats 1000000 in
theorem l1_X10_day {T : TW} (hW : WF T) {d : Nat} (hd : 2 ≤ d) {L : Nat → Nat → Int64} {Q : bh_Q} {x : Int32} : ∀ (f i : Nat) (D : Nat → Nat → Int32), i + f = nw T → Rn T (D 206) → (∀ j, j < i → D 213 j = nI (if daB T x j then 1 else 0)) → (∀ D', OffL [213] D D' → (∀ j, j < nw T → D' 213 j = nI (if daB T x j then 1 else 0)) → ∀ (s : Int32) j, bw m_X10_day d Q 86 [.ref 205, .int x, .int s, j] [] D' L) → bw m_X10_day d Q 8 [.ref 205, .int x, .int (daS T x i), .int (nI i)] [] D L := by
  have h12 := hW.nwl
  intro f
  induction f with
  | zero =>
    intro i D hf hR hB k
    refine x_iload (pc' := 9) rfl rfl rfl ?_
    refine x_aload (pc' := 10) rfl rfl rfl ?_
    refine x_getR (pc' := 13) rfl rfl rfl (by decide) rfl (by decide) rfl rfl ?_
    refine x_int (pc' := 14) (v := nI 0) rfl rfl rfl ?_
    refine x_iald (pc' := 15) rfl rfl (by decide) rfl (by decide) (show _ < 560 by omega) ?_
    refine x_top (hR.1.1.trans hW.enw) ?_
    refine y_ic_ge (pc' := 18) rfl rfl (by omega) (by omega) (fun c15 => ?_) (fun c15 => ?_)
    · have e0 : i = nw T := by omega
      subst e0
      exact k D OffL.rf hB _ _
    · exact absurd c15 (by omega)
  | succ f ih =>
    intro i D hf hR hB k
    refine x_iload (pc' := 9) rfl rfl rfl ?_
    refine x_aload (pc' := 10) rfl rfl rfl ?_
    refine x_getR (pc' := 13) rfl rfl rfl (by decide) rfl (by decide) rfl rfl ?_
    refine x_int (pc' := 14) (v := nI 0) rfl rfl rfl ?_
    refine x_iald (pc' := 15) rfl rfl (by decide) rfl (by decide) (show _ < 560 by omega) ?_
    refine x_top (hR.1.1.trans hW.enw) ?_
    refine y_ic_ge (pc' := 18) rfl rfl (by omega) (by omega) (fun c15 => ?_) (fun c15 => ?_)
    · exact absurd c15 (by omega)
    · have hi : i < nw T := by omega
      refine x_aload (pc' := 19) rfl rfl rfl ?_
      refine x_iload (pc' := 20) rfl rfl rfl ?_
      refine x_callV (pc' := 23) (d1 := 2) (Bs := [_]) rfl rfl rfl rfl rfl rfl rfl (Nat.le_of_ble_eq_true rfl) ⟨rfl, rfl⟩ (by decide) rfl (by omega) ?_
      refine w_X10_under hW hR hi ?_
      refine ⟨rfl, ?_⟩
      rcases hW.eun hi with e5 | ⟨e5, e6, e7⟩
      · refine x_top e5 ?_
        refine x_int (pc' := 24) (v := (-1)) rfl rfl rfl ?_
        refine x_ic_eq (pc' := 27) rfl rfl (fun _ => ?_) (fun c24 => absurd (by decide) c24)
        refine x_int (pc' := 50) (v := nI 1103515245) rfl rfl rfl ?_
        refine x_iload (pc' := 51) rfl rfl rfl ?_
        refine x_imul (pc' := 52) rfl rfl ?_
        refine x_int (pc' := 55) (v := nI 12345) rfl rfl rfl ?_
        refine x_iadd (pc' := 56) rfl rfl ?_
        refine x_istore (pc' := 57) (lv' := [_, _, _, _]) rfl rfl (by decide) rfl ?_
        refine x_aload (pc' := 58) rfl rfl rfl ?_
        refine x_getR (pc' := 61) rfl rfl rfl (by decide) rfl (by decide) rfl rfl ?_
        refine x_iload (pc' := 62) rfl rfl rfl ?_
        refine x_iload (pc' := 63) rfl rfl rfl ?_
        refine x_int (pc' := 65) (v := nI 16) rfl rfl rfl ?_
        refine x_iushr (pc' := 66) rfl rfl ?_
        refine x_int (pc' := 67) (v := nI 3) rfl rfl rfl ?_
        refine x_irem (pc' := 68) rfl rfl (by decide) ?_
        refine x_if_ne (pc' := 71) rfl rfl (fun c68 => ?_) (fun c68 => ?_)
        · refine x_int (pc' := 76) (v := nI 0) rfl rfl rfl ?_
          refine x_callS (pc' := 79) (d1 := 1) (As := [_]) rfl rfl rfl rfl (by decide) rfl rfl (Nat.le_of_ble_eq_true rfl) ⟨rfl, rfl⟩ (by omega) ?_
          refine w_X10_truth (by first | exact Or.inl rfl | exact Or.inr rfl) ?_
          refine ⟨rfl, ?_⟩
          refine x_iast (pc' := 80) rfl rfl (by decide) rfl (by decide) (show _ < 12 by omega) ?_
          refine y_inc (pc' := 83) (lv' := [_, _, _, _]) rfl rfl rfl (by decide) rfl ?_
          refine x_goto rfl ?_
          first
            | (have es := daS_r (x := x) e5
               have em : daB T x i = true := daB_r1 e5 c68
               have hh := ih (i + 1) (bh_up2 D 213 i (nI 1)) (by omega) hR ?_ (fun D1 o1 h1 => k D1 (OffL.tr (OffL.up (by decide)) o1) h1)
               · rw [es] at hh
                 exact hh
               · intro j hj
                 rw [bh_up2_k]; dsimp only
                 by_cases e : j = i
                 · rw [if_pos e, e, em]; try rfl
                 · rw [if_neg e]; exact hB j (by omega))
            | (have es := daS_r (x := x) e5
               have em : daB T x i = false := daB_r0 e5 c68
               have hh := ih (i + 1) (bh_up2 D 213 i (nI 0)) (by omega) hR ?_ (fun D1 o1 h1 => k D1 (OffL.tr (OffL.up (by decide)) o1) h1)
               · rw [es] at hh
                 exact hh
               · intro j hj
                 rw [bh_up2_k]; dsimp only
                 by_cases e : j = i
                 · rw [if_pos e, e, em]; try rfl
                 · rw [if_neg e]; exact hB j (by omega))
            | (have es := daS_n (x := x) e8
               have em : daB T x i = isM T (un T i) := daB_n e8 rfl
               have hh := ih (i + 1) (bh_up2 D 213 i (nI (if isM T (un T i) then 1 else 0))) (by omega) hR ?_ (fun D1 o1 h1 => k D1 (OffL.tr (OffL.up (by decide)) o1) h1)
               · rw [es] at hh
                 exact hh
               · intro j hj
                 rw [bh_up2_k]; dsimp only
                 by_cases e : j = i
                 · rw [if_pos e, e, em]; try rfl
                 · rw [if_neg e]; exact hB j (by omega))
        · refine x_int (pc' := 72) (v := nI 1) rfl rfl rfl ?_
          refine x_goto rfl ?_
          refine x_callS (pc' := 79) (d1 := 1) (As := [_]) rfl rfl rfl rfl (by decide) rfl rfl (Nat.le_of_ble_eq_true rfl) ⟨rfl, rfl⟩ (by omega) ?_
          refine w_X10_truth (by first | exact Or.inl rfl | exact Or.inr rfl) ?_
          refine ⟨rfl, ?_⟩
          refine x_iast (pc' := 80) rfl rfl (by decide) rfl (by decide) (show _ < 12 by omega) ?_
          refine y_inc (pc' := 83) (lv' := [_, _, _, _]) rfl rfl rfl (by decide) rfl ?_
          refine x_goto rfl ?_
          first
            | (have es := daS_r (x := x) e5
               have em : daB T x i = true := daB_r1 e5 c68
               have hh := ih (i + 1) (bh_up2 D 213 i (nI 1)) (by omega) hR ?_ (fun D1 o1 h1 => k D1 (OffL.tr (OffL.up (by decide)) o1) h1)
               · rw [es] at hh
                 exact hh
               · intro j hj
                 rw [bh_up2_k]; dsimp only
                 by_cases e : j = i
                 · rw [if_pos e, e, em]; try rfl
                 · rw [if_neg e]; exact hB j (by omega))
            | (have es := daS_r (x := x) e5
               have em : daB T x i = false := daB_r0 e5 c68
               have hh := ih (i + 1) (bh_up2 D 213 i (nI 0)) (by omega) hR ?_ (fun D1 o1 h1 => k D1 (OffL.tr (OffL.up (by decide)) o1) h1)
               · rw [es] at hh
                 exact hh
               · intro j hj
                 rw [bh_up2_k]; dsimp only
                 by_cases e : j = i
                 · rw [if_pos e, e, em]; try rfl
                 · rw [if_neg e]; exact hB j (by omega))
            | (have es := daS_n (x := x) e8
               have em : daB T x i = isM T (un T i) := daB_n e8 rfl
               have hh := ih (i + 1) (bh_up2 D 213 i (nI (if isM T (un T i) then 1 else 0))) (by omega) hR ?_ (fun D1 o1 h1 => k D1 (OffL.tr (OffL.up (by decide)) o1) h1)
               · rw [es] at hh
                 exact hh
               · intro j hj
                 rw [bh_up2_k]; dsimp only
                 by_cases e : j = i
                 · rw [if_pos e, e, em]; try rfl
                 · rw [if_neg e]; exact hB j (by omega))
      · have e8 : ¬ T 5 i = -1 := by rw [e5]; exact nI_m1 (by omega)
        refine x_top e5 ?_
        refine x_int (pc' := 24) (v := (-1)) rfl rfl rfl ?_
        refine x_ic_eq (pc' := 27) rfl rfl (fun c24 => ?_) (fun c24 => ?_)
        · exact absurd c24 (nI_m1 (by omega))
        · refine x_aload (pc' := 28) rfl rfl rfl ?_
          refine x_getR (pc' := 31) rfl rfl rfl (by decide) rfl (by decide) rfl rfl ?_
          refine x_iload (pc' := 32) rfl rfl rfl ?_
          refine x_aload (pc' := 33) rfl rfl rfl ?_
          refine x_aload (pc' := 34) rfl rfl rfl ?_
          refine x_iload (pc' := 35) rfl rfl rfl ?_
          refine x_callV (pc' := 38) (d1 := 2) (Bs := [_]) rfl rfl rfl rfl rfl rfl rfl (Nat.le_of_ble_eq_true rfl) ⟨rfl, rfl⟩ (by decide) rfl (by omega) ?_
          refine w_X10_under hW hR hi ?_
          refine ⟨rfl, ?_⟩
          refine x_top e5 ?_
          refine x_int (pc' := 40) (v := nI 7) rfl rfl rfl ?_
          refine x_callV (pc' := 43) (d1 := 1) (Bs := [_, _]) rfl rfl rfl rfl rfl rfl rfl (Nat.le_of_ble_eq_true rfl) ⟨rfl, rfl⟩ (by decide) rfl (by omega) ?_
          refine w_X10_of (by omega) (by decide) ?_
          refine ⟨rfl, ?_⟩
          refine x_top (hR.rmo e6) ?_
          refine x_iast (pc' := 44) rfl rfl (by decide) rfl (by decide) (show _ < 12 by omega) ?_
          refine x_goto rfl ?_
          refine y_inc (pc' := 83) (lv' := [_, _, _, _]) rfl rfl rfl (by decide) rfl ?_
          refine x_goto rfl ?_
          first
            | (have es := daS_r (x := x) e5
               have em : daB T x i = true := daB_r1 e5 c68
               have hh := ih (i + 1) (bh_up2 D 213 i (nI 1)) (by omega) hR ?_ (fun D1 o1 h1 => k D1 (OffL.tr (OffL.up (by decide)) o1) h1)
               · rw [es] at hh
                 exact hh
               · intro j hj
                 rw [bh_up2_k]; dsimp only
                 by_cases e : j = i
                 · rw [if_pos e, e, em]; try rfl
                 · rw [if_neg e]; exact hB j (by omega))
            | (have es := daS_r (x := x) e5
               have em : daB T x i = false := daB_r0 e5 c68
               have hh := ih (i + 1) (bh_up2 D 213 i (nI 0)) (by omega) hR ?_ (fun D1 o1 h1 => k D1 (OffL.tr (OffL.up (by decide)) o1) h1)
               · rw [es] at hh
                 exact hh
               · intro j hj
                 rw [bh_up2_k]; dsimp only
                 by_cases e : j = i
                 · rw [if_pos e, e, em]; try rfl
                 · rw [if_neg e]; exact hB j (by omega))
            | (have es := daS_n (x := x) e8
               have em : daB T x i = isM T (un T i) := daB_n e8 rfl
               have hh := ih (i + 1) (bh_up2 D 213 i (nI (if isM T (un T i) then 1 else 0))) (by omega) hR ?_ (fun D1 o1 h1 => k D1 (OffL.tr (OffL.up (by decide)) o1) h1)
               · rw [es] at hh
                 exact hh
               · intro j hj
                 rw [bh_up2_k]; dsimp only
                 by_cases e : j = i
                 · rw [if_pos e, e, em]; try rfl
                 · rw [if_neg e]; exact hB j (by omega))
set_option maxRecDepth 20000 in
set_option maxHeartbeats 1000000 in
theorem l2_X10_day {n : Nat} (h12 : n ≤ 12) {N : Nat → Int32} (hn : N 0 = nI n) {g : Nat → Int32} {d : Nat} (hd : 2 ≤ d) {L : Nat → Nat → Int64} {Q : bh_Q} {x : Int32} {s : Int32} : ∀ (f i : Nat) (D : Nat → Nat → Int32), i + f = n → (∀ j, j < n → D 213 j = g j) → (∀ q, (∀ j, j < i → q ≠ 4 + 10 * j + 7) → D 206 q = N q) → (∀ j, j < i → D 206 (4 + 10 * j + 7) = g j) → (∀ D', OffL [206] D D' → (∀ q, (∀ j, j < n → q ≠ 4 + 10 * j + 7) → D' 206 q = N q) → (∀ j, j < n → D' 206 (4 + 10 * j + 7) = g j) → ∀ j, bw m_X10_day d Q 117 [.ref 205, .int x, .int s, j] [] D' L) → bw m_X10_day d Q 88 [.ref 205, .int x, .int s, .int (nI i)] [] D L := by
  intro f
  induction f with
  | zero =>
    intro i D hf hB hN hS k
    refine x_iload (pc' := 89) rfl rfl rfl ?_
    refine x_aload (pc' := 90) rfl rfl rfl ?_
    refine x_getR (pc' := 93) rfl rfl rfl (by decide) rfl (by decide) rfl rfl ?_
    refine x_int (pc' := 94) (v := nI 0) rfl rfl rfl ?_
    refine x_iald (pc' := 95) rfl rfl (by decide) rfl (by decide) (show _ < 560 by omega) ?_
    refine x_top ((hN 0 (fun j hj => by omega)).trans hn) ?_
    refine y_ic_ge (pc' := 98) rfl rfl (by omega) (by omega) (fun c95 => ?_) (fun c95 => ?_)
    · have e0 : i = n := by omega
      subst e0
      exact k D OffL.rf hN hS _
    · exact absurd c95 (by omega)
  | succ f ih =>
    intro i D hf hB hN hS k
    refine x_iload (pc' := 89) rfl rfl rfl ?_
    refine x_aload (pc' := 90) rfl rfl rfl ?_
    refine x_getR (pc' := 93) rfl rfl rfl (by decide) rfl (by decide) rfl rfl ?_
    refine x_int (pc' := 94) (v := nI 0) rfl rfl rfl ?_
    refine x_iald (pc' := 95) rfl rfl (by decide) rfl (by decide) (show _ < 560 by omega) ?_
    refine x_top ((hN 0 (fun j hj => by omega)).trans hn) ?_
    refine y_ic_ge (pc' := 98) rfl rfl (by omega) (by omega) (fun c95 => ?_) (fun c95 => ?_)
    · exact absurd c95 (by omega)
    · refine x_aload (pc' := 99) rfl rfl rfl ?_
      refine x_iload (pc' := 100) rfl rfl rfl ?_
      refine x_int (pc' := 102) (v := nI 7) rfl rfl rfl ?_
      refine x_aload (pc' := 103) rfl rfl rfl ?_
      refine x_getR (pc' := 106) rfl rfl rfl (by decide) rfl (by decide) rfl rfl ?_
      refine x_iload (pc' := 107) rfl rfl rfl ?_
      refine x_iald (pc' := 108) rfl rfl (by decide) rfl (by decide) (show _ < 12 by omega) ?_
      refine x_callV (pc' := 111) (d1 := 1) (Bs := [_, _, _]) rfl rfl rfl rfl rfl rfl rfl (Nat.le_of_ble_eq_true rfl) ⟨rfl, rfl⟩ (by decide) rfl (by omega) ?_
      refine w_X10_puts_ (by omega) (by decide) ?_
      refine ⟨rfl, ?_⟩
      refine y_inc (pc' := 114) (lv' := [_, _, _, _]) rfl rfl rfl (by decide) rfl ?_
      refine x_goto rfl ?_
      refine ih (i + 1) _ (by omega) ?_ ?_ ?_ (fun D1 o1 h1 h2 => k D1 (OffL.tr (OffL.up (by decide)) o1) h1 h2)
      · intro j hj; exact hB j hj
      · intro q hq
        rw [bh_up2_k]; dsimp only
        rw [if_neg (hq i (by omega))]; exact hN q (fun j hj => hq j (by omega))
      · intro j hj
        rw [bh_up2_k]; dsimp only
        by_cases e : j = i
        · rw [if_pos (by omega), e]; exact hB i (by omega)
        · rw [if_neg (by omega)]; exact hS j (by omega)
theorem rn_day {T : TW} {N N' : Nat → Int32} (hW : WF T) (hR : Rn T N) {x : Int32} (h3 : N' 3 = N 3 + nI 1) (hN : ∀ q, q ≠ 3 → (∀ j, j < nw T → q ≠ 4 + 10 * j + 7) → N' q = N q) (hS : ∀ j, j < nw T → N' (4 + 10 * j + 7) = nI (if daB T x j then 1 else 0)) : Rn (dayT T x) N' := by
  have h1 := hW.nsl
  have h12 := hW.nwl
  have h4 := hW.nbl
  refine ⟨⟨(hN 0 (by omega) (by omega)).trans hR.1.1, (hN 1 (by omega) (by omega)).trans hR.1.2.1, (hN 2 (by omega) (by omega)).trans hR.1.2.2.1, ?_⟩, fun w hw => ?_, fun b hb => ⟨(hN _ (by omega) (by omega)).trans (hR.2.2.1 b hb).1, fun q hq => (hN _ (by omega) (by omega)).trans ((hR.2.2.1 b hb).2 q hq)⟩, fun w b q hw hb hq hs => (hN _ (by omega) (by omega)).trans (hR.2.2.2.1 w b q hw hb hq hs), fun i hi => (hN _ (by omega) (by omega)).trans (hR.2.2.2.2 i hi)⟩
  · rw [h3, hR.1.2.2.2]; rfl
  · have h := hR.2.1 w hw
    have hw3 : w < nw T := hw
    have eM : isM (dayT T x) w = daB T x w := by
      unfold isM
      rw [day_mo hW, daM_bit, decide_eq_true hw3]
      rfl
    refine ⟨(hN _ (by omega) (by omega)).trans h.1, (hN _ (by omega) (by omega)).trans h.2.1, fun hk => (hN _ (by omega) (by omega)).trans (h.2.2.1 hk), fun hk => (hN _ (by omega) (by omega)).trans (h.2.2.2.1 hk), (hN _ (by omega) (by omega)).trans h.2.2.2.2.1, (hN _ (by omega) (by omega)).trans h.2.2.2.2.2.1, (hN _ (by omega) (by omega)).trans h.2.2.2.2.2.2.1, ?_, (hN _ (by omega) (by omega)).trans h.2.2.2.2.2.2.2.2.1, (hN _ (by omega) (by omega)).trans h.2.2.2.2.2.2.2.2.2⟩
    rw [eM]
    exact hS w hw3
set_option maxRecDepth 20000 in
set_option maxHeartbeats 1000000 in
theorem w_X10_day {D : Nat → Nat → Int32} {L : Nat → Nat → Int64} {Q : bh_Q} {T : TW} {ps : List TW} {sh : Nat → Option TW} {tp : List Nat} (hI : InvM D T ps sh tp) (hG : Good T ps sh) {x : Int32} (k1 : ∀ D1, (∀ k, (k < 205 ∨ 228 ≤ k) → D1 k = D k) → InvM D1 (nxT T (dayR T x).2) (nxP T ps (dayR T x).2) sh tp → Q (some (.int (dayR T x).1)) (hp D1 L)) : bh_wc 3 m_X10_day [.ref 205, .int x] (hp D L) Q := by
  refine x_start (lv0 := [_, _, _, _]) (Nat.le_of_ble_eq_true rfl) rfl ?_
  have hW := hG.1
  have h12 := hW.nwl
  have hR := hI.1
  refine x_aload (pc' := 1) rfl rfl rfl ?_
  refine x_callV (pc' := 4) (d1 := 2) (Bs := []) rfl rfl rfl rfl rfl rfl rfl (Nat.le_of_ble_eq_true rfl) ⟨rfl, rfl⟩ (by decide) rfl (by decide) ?_
  refine w_X10_keepsPast hW hR hI.2.1 hG.2.1 (fun D1 f1 g1 hH1 => ?_)
  refine ⟨rfl, ?_⟩
  have hR1 : Rn T (D1 206) := by rw [f1 206 (by decide)]; exact hR
  refine x_iload (pc' := 5) rfl rfl rfl ?_
  refine x_istore (pc' := 6) (lv' := [_, _, _, _]) rfl rfl (by decide) rfl ?_
  refine x_int (pc' := 7) (v := nI 0) rfl rfl rfl ?_
  refine x_istore (pc' := 8) (lv' := [_, _, _, _]) rfl rfl (by decide) rfl ?_
  refine l1_X10_day hW (by decide) (nw T) 0 D1 (Nat.zero_add _) hR1 (fun j hj => absurd hj (Nat.not_lt_zero j)) (fun D2 o2 h2 s j => ?_)
  refine x_int (pc' := 87) (v := nI 0) rfl rfl rfl ?_
  refine x_istore (pc' := 88) (lv' := [_, _, _, _]) rfl rfl (by decide) rfl ?_
  refine l2_X10_day (n := nw T) (N := D1 206) (g := fun j => nI (if daB T x j then 1 else 0)) h12 (hR1.1.1.trans hW.enw) (by decide) (nw T) 0 D2 (Nat.zero_add _) h2 (fun q _ => by rw [o2 206 (by decide)]) (fun j hj => absurd hj (Nat.not_lt_zero j)) (fun D4 o4 hN4 hS4 j => ?_)
  refine x_aload (pc' := 118) rfl rfl rfl ?_
  refine x_getR (pc' := 121) rfl rfl rfl (by decide) rfl (by decide) rfl rfl ?_
  refine x_int (pc' := 122) (v := nI 3) rfl rfl rfl ?_
  refine x_dup2 (pc' := 123) rfl rfl rfl rfl ?_
  refine x_iald (pc' := 124) rfl rfl (by decide) rfl (by decide) (show _ < 560 by omega) ?_
  refine x_int (pc' := 125) (v := nI 1) rfl rfl rfl ?_
  refine x_iadd (pc' := 126) rfl rfl ?_
  refine x_iast (pc' := 127) rfl rfl (by decide) rfl (by decide) (show _ < 560 by omega) ?_
  refine x_aload (pc' := 128) rfl rfl rfl ?_
  refine x_callV (pc' := 131) (d1 := 2) (Bs := []) rfl rfl rfl rfl rfl rfl rfl (Nat.le_of_ble_eq_true rfl) ⟨rfl, rfl⟩ (by decide) rfl (by decide) ?_
  have hR5 : Rn (dayT T x) ((bh_up2 D4 206 3 (D4 206 3 + nI 1)) 206) := by
    refine rn_day hW hR1 ?_ (fun q h3 hq => ?_) (fun j hj => ?_)
    · rw [bh_up2_k]; dsimp only; rw [if_pos rfl, hN4 3 (fun j hj => by omega)]
    · rw [bh_up2_k]; dsimp only; rw [if_neg h3]; exact hN4 q hq
    · rw [bh_up2_k]; dsimp only; rw [if_neg (by omega)]; exact hS4 j hj
  refine w_X10_moods (wf_day hW x) hR5 ?_
  refine ⟨rfl, ?_⟩
  refine x_iret rfl rfl ?_
  rw [day_mo hW]
  refine actM hI f1 g1 hH1 k1 rfl (fun k a b c => ?_) (fun j hj => ?_) hR5
  · rw [bh_up2_ne _ _ _ a, o4 k (fun q => by rw [List.mem_singleton] at q; omega), o2 k (fun q => by rw [List.mem_singleton] at q; omega)]
  · rw [bh_up2_ne _ _ _ (by decide), o4 205 (by decide), o2 205 (by decide)]
