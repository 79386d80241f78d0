/-! ===== trace, own, pay ===== -/
set_option maxRecDepth 20000 in
set_option maxHeartbeats 1000000 in
theorem l_X8_changedBy {D : Nat → Nat → Int32} {L : Nat → Nat → Int64} {Q : bh_Q} {d : Nat} (hd : 0 ≤ d) (hW : WF (tv D)) {x : Int32} (k1 : Q (some (.int (nI (setF (fun i => decide (D 35 i = x)) 16)))) (hp D L)) : ∀ (f i : Nat), i + f = 16 → bw m_X8_changedBy d Q 4 [.ref 33, .int x, .int (nI (setF (fun i => decide (D 35 i = x)) i)), .int (nI i)] [] D L := by
  have h12 := hW.nwl
  have h4 := hW.nbl
  intro f
  induction f with
  | zero =>
    intro i hf
    refine x_iload (pc' := 5) rfl rfl rfl ?_
    refine x_int (pc' := 7) (v := nI 16) rfl rfl rfl ?_
    refine y_ic_ge (pc' := 10) rfl rfl (by omega) (by omega) (fun c7 => ?_) (fun c7 => ?_)
    · refine x_iload (pc' := 33) rfl rfl rfl ?_
      refine x_iret rfl rfl ?_
      have e : i = 16 := by omega
      subst e
      exact k1
    · exact absurd c7 (by omega)
  | succ f ih =>
    intro i hf
    refine x_iload (pc' := 5) rfl rfl rfl ?_
    refine x_int (pc' := 7) (v := nI 16) rfl rfl rfl ?_
    refine y_ic_ge (pc' := 10) rfl rfl (by omega) (by omega) (fun c7 => ?_) (fun c7 => ?_)
    · exact absurd c7 (by omega)
    · refine x_aload (pc' := 11) rfl rfl rfl ?_
      refine x_getR (pc' := 14) rfl rfl rfl (by decide) rfl (by decide) rfl rfl ?_
      refine x_iload (pc' := 15) rfl rfl rfl ?_
      refine x_iald (pc' := 16) rfl rfl (by decide) rfl (by decide) (show _ < 16 by omega) ?_
      refine x_iload (pc' := 17) rfl rfl rfl ?_
      refine x_ic_ne (pc' := 20) rfl rfl (fun c17 => ?_) (fun c17 => ?_)
      · refine y_inc (pc' := 29) (lv' := [_, _, _, _]) rfl rfl rfl (by decide) rfl ?_
        refine x_goto rfl ?_
        first
          | (have e := setF_1 (f := (fun i => decide (D 35 i = x))) (i := i) (decide_eq_true c17)
             have hh := ih (i + 1) (by omega)
             rw [e] at hh
             exact hh)
          | (have e := setF_0 (f := (fun i => decide (D 35 i = x))) (i := i) (decide_eq_false c17)
             have hh := ih (i + 1) (by omega)
             rw [e] at hh
             exact hh)
      · refine x_iload (pc' := 21) rfl rfl rfl ?_
        refine x_int (pc' := 22) (v := nI 1) rfl rfl rfl ?_
        refine x_iload (pc' := 23) rfl rfl rfl ?_
        refine y_ishl (pc' := 24) rfl rfl (by omega) ?_
        refine y_ior (pc' := 25) rfl rfl ?_
        refine x_istore (pc' := 26) (lv' := [_, _, _, _]) rfl rfl (by decide) rfl ?_
        refine y_inc (pc' := 29) (lv' := [_, _, _, _]) rfl rfl rfl (by decide) rfl ?_
        refine x_goto rfl ?_
        first
          | (have e := setF_1 (f := (fun i => decide (D 35 i = x))) (i := i) (decide_eq_true c17)
             have hh := ih (i + 1) (by omega)
             rw [e] at hh
             exact hh)
          | (have e := setF_0 (f := (fun i => decide (D 35 i = x))) (i := i) (decide_eq_false c17)
             have hh := ih (i + 1) (by omega)
             rw [e] at hh
             exact hh)
set_option maxRecDepth 20000 in
set_option maxHeartbeats 1000000 in
theorem w_X8_changedBy {D : Nat → Nat → Int32} {L : Nat → Nat → Int64} {Q : bh_Q} (hW : WF (tv D)) {x : Int32} (k1 : Q (some (.int (nI (setF (fun i => decide (D 35 i = x)) 16)))) (hp D L)) : bh_wc 1 m_X8_changedBy [.ref 33, .int x] (hp D L) Q := by
  refine x_start (lv0 := [_, _, _, _]) (Nat.le_of_ble_eq_true rfl) rfl ?_
  refine x_int (pc' := 1) (v := nI 0) rfl rfl rfl ?_
  refine x_istore (pc' := 2) (lv' := [_, _, _, _]) rfl rfl (by decide) rfl ?_
  refine x_int (pc' := 3) (v := nI 0) rfl rfl rfl ?_
  refine x_istore (pc' := 4) (lv' := [_, _, _, _]) rfl rfl (by decide) rfl ?_
  exact l_X8_changedBy (d := 0) (Nat.zero_le _) hW k1 16 0 rfl
set_option maxRecDepth 20000 in
set_option maxHeartbeats 1000000 in
theorem w_X9_followTrail {D : Nat → Nat → Int32} {L : Nat → Nat → Int64} {Q : bh_Q} (hW : WF (tv D)) {w b q : Nat} (hw : w < nw (tv D)) (hb : b < nb (tv D)) (hq : q < lng (tv D) b) (k1 : anyD (tv D) (ch (tv D) w) = false → ∀ D', OffC D D' → (∀ i, i < 16 → D' 34 i = trOF (tv D) (ch (tv D) w) i) → (∀ i, i < 16 → D' 35 i = trCF (tv D) (pg (tv D) b q) (ch (tv D) w) i) → HdL D' (ch (tv D) w) → Q (some (.int 1)) (hp D' L)) (k0 : anyD (tv D) (ch (tv D) w) = true → ∀ D', OffC D D' → Q (some (.int 0)) (hp D' L)) : bh_wc 4 m_X9_followTrail [.ref 0, .int (nI w), .int (nI b), .int (nI q)] (hp D L) Q := by
  refine x_start (lv0 := [_, _, _, _]) (Nat.le_of_ble_eq_true rfl) rfl ?_
  have h12 := hW.nwl
  refine x_aload (pc' := 1) rfl rfl rfl ?_
  refine x_getR (pc' := 4) rfl rfl rfl (by decide) rfl (by decide) rfl rfl ?_
  refine x_aload (pc' := 5) rfl rfl rfl ?_
  refine x_getR (pc' := 8) rfl rfl rfl (by decide) rfl (by decide) rfl rfl ?_
  refine x_iload (pc' := 9) rfl rfl rfl ?_
  refine x_callV (pc' := 12) (d1 := 2) (Bs := [_, _]) rfl rfl rfl rfl rfl rfl rfl (Nat.le_of_ble_eq_true rfl) ⟨rfl, rfl⟩ (by decide) rfl (by decide) ?_
  refine w_X2_listFrom hW hw (fun D1 o1 hH => ?_)
  have t1 := o1.tv
  have hW1 : WF (tv D1) := by rw [t1]; exact hW
  have hl12 := (isH_of hW hw).2.1
  have hm := ch_mem hW hw
  refine ⟨rfl, ?_⟩
  refine x_aload (pc' := 13) rfl rfl rfl ?_
  refine x_getR (pc' := 16) rfl rfl rfl (by decide) rfl (by decide) rfl rfl ?_
  refine x_aload (pc' := 17) rfl rfl rfl ?_
  refine x_getR (pc' := 20) rfl rfl rfl (by decide) rfl (by decide) rfl rfl ?_
  refine x_callV (pc' := 23) (d1 := 2) (Bs := [_]) rfl rfl rfl rfl rfl rfl rfl (Nat.le_of_ble_eq_true rfl) ⟨rfl, rfl⟩ (by decide) rfl (by decide) ?_
  refine w_X2_anyDead hW1 hH hl12 (fun x hx => by have := hm x hx; omega) (fun h20 => ?_) (fun h20 => ?_)
  · refine ⟨rfl, ?_⟩
    refine x_if_eq (pc' := 26) rfl rfl (fun c23 => absurd c23 (by decide)) (fun _ => ?_)
    refine x_int (pc' := 27) (v := nI 0) rfl rfl rfl ?_
    refine x_zret rfl rfl (by decide) ?_
    rw [t1] at h20
    exact k0 h20 D1 o1.c
  · refine ⟨rfl, ?_⟩
    refine x_if_eq (pc' := 26) rfl rfl (fun _ => ?_) (fun c23 => absurd (by decide) c23)
    refine x_aload (pc' := 29) rfl rfl rfl ?_
    refine x_getR (pc' := 32) rfl rfl rfl (by decide) rfl (by decide) rfl rfl ?_
    refine x_aload (pc' := 33) rfl rfl rfl ?_
    refine x_getR (pc' := 36) rfl rfl rfl (by decide) rfl (by decide) rfl rfl ?_
    refine x_aload (pc' := 37) rfl rfl rfl ?_
    refine x_getR (pc' := 40) rfl rfl rfl (by decide) rfl (by decide) rfl rfl ?_
    refine x_aload (pc' := 41) rfl rfl rfl ?_
    refine x_getR (pc' := 44) rfl rfl rfl (by decide) rfl (by decide) rfl rfl ?_
    refine x_iload (pc' := 45) rfl rfl rfl ?_
    refine x_iload (pc' := 46) rfl rfl rfl ?_
    refine x_callV (pc' := 49) (d1 := 1) (Bs := [_, _]) rfl rfl rfl rfl rfl rfl rfl (Nat.le_of_ble_eq_true rfl) ⟨rfl, rfl⟩ (by decide) rfl (by decide) ?_
    refine w_X7_rowOf hW1 (by rw [t1]; exact hb) (by rw [t1]; exact hq) ?_
    refine ⟨rfl, ?_⟩
    refine x_top (show nI (pg (tv D1) b q) = nI (pg (tv D) b q) by rw [t1]) ?_
    refine x_callV (pc' := 52) (d1 := 3) (Bs := [_, _, _]) rfl rfl rfl rfl rfl rfl rfl (Nat.le_of_ble_eq_true rfl) ⟨rfl, rfl⟩ (by decide) rfl (by decide) ?_
    refine w_X8_follow hW1 (hW.pgl hb hq) hH hl12 (by rw [t1]; exact hm) (fun D2 o2 u2 v2 => ?_)
    refine ⟨rfl, ?_⟩
    refine x_int (pc' := 53) (v := nI 1) rfl rfl rfl ?_
    refine x_zret rfl rfl (by decide) ?_
    rw [t1] at h20 u2 v2
    exact k1 h20 D2 (o1.c.tr o2.c) u2 v2 (o2.hd hH)
