/-! ===== the reference: undo, keep, back ===== -/
theorem okN_in1 {x : Int32} (h : ¬ (nI 0 ≤ x ∧ x ≤ nI 1)) : ¬ okN 2 x := okN_inL (n := 1) (by decide) h
theorem in1_okN {x : Int32} (h1 : nI 0 ≤ x) (h2 : x ≤ nI 1) : ∃ j : Nat, j < 2 ∧ x = nI j := in_okL (n := 1) (by decide) h1 h2
set_option maxRecDepth 20000 in
set_option maxHeartbeats 1000000 in
theorem w_X10_undo {D : Nat → Nat → Int32} {L : Nat → Nat → Int64} {Q : bh_Q} {ps : List TW} (hH : HM D ps) (hG : GP ps) (k0 : ps = [] → Q (some (.int (-1))) (hp D L)) (k1 : ∀ T qs, ps = T :: qs → ∀ D', OffL [205, 206] D D' → (∀ j, j ≠ 5 → D' 205 j = D 205 j) → Rn T (D' 206) → HM D' qs → Q (some (.int (nI (ps.length - 1)))) (hp D' L)) : bh_wc 2 m_X10_undo [.ref 205] (hp D L) Q := by
  refine x_start (lv0 := [_]) (Nat.le_of_ble_eq_true rfl) rfl ?_
  obtain ⟨hu0, hu, hps⟩ := hH
  refine x_aload (pc' := 1) rfl rfl rfl ?_
  refine x_getI (j := 5) (pc' := 4) rfl rfl rfl (by decide) rfl (by decide) rfl rfl ?_
  refine x_top (hu) ?_
  refine y_if_ne (pc' := 7) rfl rfl (by omega) (fun c4 => ?_) (fun c4 => ?_)
  · have hu1 : (bh_up2 D 205 5 (nI (ps.length - 1))) 205 5 = nI (ps.length - 1) := rfl
    refine x_aload (pc' := 10) rfl rfl rfl ?_
    refine x_dup (pc' := 11) rfl rfl rfl ?_
    refine x_getI (j := 5) (pc' := 14) rfl rfl rfl (by decide) rfl (by decide) rfl rfl ?_
    refine x_top (hu) ?_
    refine x_int (pc' := 15) (v := nI 1) rfl rfl rfl ?_
    refine y_isub (pc' := 16) rfl rfl (by omega) ?_
    refine x_putI (j := 5) (pc' := 19) rfl rfl rfl (by decide) rfl (by decide) rfl rfl ?_
    refine x_aload (pc' := 20) rfl rfl rfl ?_
    refine x_getR (pc' := 23) rfl rfl rfl (by decide) rfl (by decide) rfl rfl ?_
    refine x_int (pc' := 26) (v := nI 560) rfl rfl rfl ?_
    refine x_aload (pc' := 27) rfl rfl rfl ?_
    refine x_getI (j := 5) (pc' := 30) rfl rfl rfl (by decide) rfl (by decide) rfl rfl ?_
    refine x_top (hu1) ?_
    refine y_imul (pc' := 31) rfl rfl ?_
    refine x_aload (pc' := 32) rfl rfl rfl ?_
    refine x_getR (pc' := 35) rfl rfl rfl (by decide) rfl (by decide) rfl rfl ?_
    refine x_int (pc' := 36) (v := nI 0) rfl rfl rfl ?_
    refine x_callS (pc' := 39) (d1 := 1) (As := [_, _, _, _]) rfl rfl rfl rfl (by decide) rfl rfl (Nat.le_of_ble_eq_true rfl) ⟨rfl, rfl⟩ (by decide) ?_
    refine w_X10_moves (by decide) (by decide) rfl rfl (show 560 * (ps.length - 1) + 560 ≤ 5600 by omega) (by decide) (by decide) (by decide) (by decide) (fun D2 v2 => ?_)
    have hu2 : D2 205 5 = nI (ps.length - 1) := by rw [v2.2.2 205 (by decide)]; exact hu1
    refine ⟨rfl, ?_⟩
    refine x_aload (pc' := 40) rfl rfl rfl ?_
    refine x_getI (j := 5) (pc' := 43) rfl rfl rfl (by decide) rfl (by decide) rfl rfl ?_
    refine x_top (hu2) ?_
    refine x_iret rfl rfl ?_
    obtain ⟨T, qs, rfl⟩ : ∃ T qs, ps = T :: qs := by
      cases ps with
      | nil => exact absurd rfl c4
      | cons T qs => exact ⟨T, qs, rfl⟩
    have hl : (T :: qs).length = qs.length + 1 := List.length_cons
    refine k1 T qs rfl D2 (fun k hk => ?_) (fun j hj => ?_) ?_ ⟨by omega, by rw [hu2, hl]; rfl, fun j hj => ?_⟩
    · have a1 : k ≠ 205 := fun e => hk (by rw [e]; decide)
      have a2 : k ≠ 206 := fun e => hk (by rw [e]; decide)
      rw [v2.2.2 k a2, bh_up2_ne _ _ _ a1]
    · rw [v2.2.2 205 (by decide), bh_up2_k]
      dsimp only
      rw [if_neg hj]
    · refine rn_row (hG 0 (by omega)) (fun k hk => ?_) (hps 0 (by omega))
      have := v2.1 k hk
      rw [Nat.zero_add] at this
      rw [this]
      show D 208 _ = D 208 (560 * ((T :: qs).length - 1 - 0) + k)
      rw [Nat.sub_zero]
    · have r1 := hps (j + 1) (by omega)
      have e1 : (fun k => D2 208 (560 * (qs.length - 1 - j) + k)) = fun k => D 208 (560 * ((T :: qs).length - 1 - (j + 1)) + k) := by
        funext k
        rw [v2.2.2 208 (by decide), hl, show qs.length + 1 - 1 - (j + 1) = qs.length - 1 - j by omega]
        rfl
      rw [e1]
      exact r1
  · refine x_int (pc' := 8) (v := (-1)) rfl rfl rfl ?_
    refine x_iret rfl rfl ?_
    exact k0 (List.length_eq_zero_iff.mp c4)
set_option maxRecDepth 20000 in
set_option maxHeartbeats 1000000 in
theorem w_X10_keep {D : Nat → Nat → Int32} {L : Nat → Nat → Int64} {Q : bh_Q} {T : TW} (hW : WF T) (hR : Rn T (D 206)) {sh : Nat → Option TW} {x : Int32} (hK : KM D sh) (hG : GS sh) (k0 : ¬ okN 2 x → Q (some (.int (-1))) (hp D L)) (k1 : ∀ s, s < 2 → x = nI s → ∀ D', OffL [209, 210] D D' → KM D' (fun i => if i = s then some T else sh i) → Q (some (.int (nI (nw T)))) (hp D' L)) : bh_wc 2 m_X10_keep [.ref 205, .int x] (hp D L) Q := by
  refine x_start (lv0 := [_, _]) (Nat.le_of_ble_eq_true rfl) rfl ?_
  refine x_iload (pc' := 1) rfl rfl rfl ?_
  refine x_i2l (pc' := 2) rfl rfl ?_
  refine x_long (pc' := 3) (v := (nI 0).toInt64) rfl rfl (by decide) ?_
  refine x_long (pc' := 4) (v := (nI 1).toInt64) rfl rfl (by decide) ?_
  refine x_callS (pc' := 7) (d1 := 1) (As := [_, _, _]) rfl rfl rfl rfl (by decide) rfl rfl (Nat.le_of_ble_eq_true rfl) ⟨rfl, rfl⟩ (by decide) ?_
  refine w_X10_in (fun h4a h4b => ?_) (fun h4 => ?_)
  · obtain ⟨s, hs, e⟩ := in1_okN h4a h4b
    subst e
    refine ⟨rfl, ?_⟩
    refine x_if_ne (pc' := 10) rfl rfl (fun _ => ?_) (fun c7 => absurd c7 (by decide))
    refine x_aload (pc' := 13) rfl rfl rfl ?_
    refine x_getR (pc' := 16) rfl rfl rfl (by decide) rfl (by decide) rfl rfl ?_
    refine x_int (pc' := 17) (v := nI 0) rfl rfl rfl ?_
    refine x_aload (pc' := 18) rfl rfl rfl ?_
    refine x_getR (pc' := 21) rfl rfl rfl (by decide) rfl (by decide) rfl rfl ?_
    refine x_int (pc' := 24) (v := nI 560) rfl rfl rfl ?_
    refine x_iload (pc' := 25) rfl rfl rfl ?_
    refine y_imul (pc' := 26) rfl rfl ?_
    refine x_callS (pc' := 29) (d1 := 1) (As := [_, _, _, _]) rfl rfl rfl rfl (by decide) rfl rfl (Nat.le_of_ble_eq_true rfl) ⟨rfl, rfl⟩ (by decide) ?_
    refine w_X10_moves (by decide) (by decide) rfl rfl (by decide) (show 560 * s + 560 ≤ 1120 by omega) (by decide) (by decide) (by decide) (fun D2 v2 => ?_)
    have hw2 : D2 206 0 = nI (nw T) := by rw [v2.2.2 206 (by decide)]; exact hR.1.1.trans hW.enw
    refine ⟨rfl, ?_⟩
    refine x_aload (pc' := 30) rfl rfl rfl ?_
    refine x_getR (pc' := 33) rfl rfl rfl (by decide) rfl (by decide) rfl rfl ?_
    refine x_iload (pc' := 34) rfl rfl rfl ?_
    refine x_int (pc' := 35) (v := nI 1) rfl rfl rfl ?_
    refine x_zast (pc' := 36) rfl rfl (by decide) rfl (by decide) (show _ < 2 by omega) ?_
    refine x_aload (pc' := 37) rfl rfl rfl ?_
    refine x_getR (pc' := 40) rfl rfl rfl (by decide) rfl (by decide) rfl rfl ?_
    refine x_int (pc' := 41) (v := nI 0) rfl rfl rfl ?_
    refine x_iald (pc' := 42) rfl rfl (by decide) rfl (by decide) (show _ < 560 by omega) ?_
    refine x_top (hw2) ?_
    refine x_iret rfl rfl ?_
    refine k1 s hs rfl _ (fun k hk => ?_) ?_
    · have a1 : k ≠ 209 := fun e => hk (by rw [e]; decide)
      have a2 : k ≠ 210 := fun e => hk (by rw [e]; decide)
      rw [bh_up2_ne _ _ _ a2, v2.2.2 k a1]
    · intro s2 hs2
      dsimp only
      by_cases e : s2 = s
      · subst e
        rw [if_pos rfl]
        refine ⟨by rw [bh_up2_self]; show vp_nar .boolean (nI 1) = nI 1; decide, fun T2 hT2 => ?_⟩
        cases hT2
        exact rn_row hW (fun k hk => by have := v2.1 k hk; rw [Nat.zero_add] at this; exact this) hR
      · rw [if_neg e]
        refine ⟨?_, fun T2 hT2 => ?_⟩
        · rw [bh_up2_k]
          dsimp only
          rw [if_neg e, v2.2.2 210 (by decide)]
          exact (hK s2 hs2).1
        · refine rn_row (hG s2 hs2 T2 hT2) (fun k hk => ?_) ((hK s2 hs2).2 T2 hT2)
          exact v2.2.1 _ (by omega)
  · refine ⟨rfl, ?_⟩
    refine x_if_ne (pc' := 10) rfl rfl (fun c7 => absurd (by decide) c7) (fun _ => ?_)
    refine x_int (pc' := 11) (v := (-1)) rfl rfl rfl ?_
    refine x_iret rfl rfl ?_
    exact k0 (okN_in1 h4)
set_option maxRecDepth 20000 in
set_option maxHeartbeats 1000000 in
theorem w_X10_back {D : Nat → Nat → Int32} {L : Nat → Nat → Int64} {Q : bh_Q} {sh : Nat → Option TW} {x : Int32} (hK : KM D sh) (hG : GS sh) (k0 : ¬ okN 2 x → Q (some (.int (-1))) (hp D L)) (k2 : ∀ s, s < 2 → x = nI s → sh s = none → Q (some (.int (-2))) (hp D L)) (k1 : ∀ s, s < 2 → x = nI s → ∀ T, sh s = some T → ∀ D', OffL [205, 206] D D' → (∀ j, j ≠ 5 → D' 205 j = D 205 j) → D' 205 5 = nI 0 → Rn T (D' 206) → Q (some (.int (nI (nw T)))) (hp D' L)) : bh_wc 2 m_X10_back [.ref 205, .int x] (hp D L) Q := by
  refine x_start (lv0 := [_, _]) (Nat.le_of_ble_eq_true rfl) rfl ?_
  refine x_iload (pc' := 1) rfl rfl rfl ?_
  refine x_i2l (pc' := 2) rfl rfl ?_
  refine x_long (pc' := 3) (v := (nI 0).toInt64) rfl rfl (by decide) ?_
  refine x_long (pc' := 4) (v := (nI 1).toInt64) rfl rfl (by decide) ?_
  refine x_callS (pc' := 7) (d1 := 1) (As := [_, _, _]) rfl rfl rfl rfl (by decide) rfl rfl (Nat.le_of_ble_eq_true rfl) ⟨rfl, rfl⟩ (by decide) ?_
  refine w_X10_in (fun h4a h4b => ?_) (fun h4 => ?_)
  · obtain ⟨s, hs, e⟩ := in1_okN h4a h4b
    subst e
    refine ⟨rfl, ?_⟩
    refine x_if_ne (pc' := 10) rfl rfl (fun _ => ?_) (fun c7 => absurd c7 (by decide))
    refine x_aload (pc' := 13) rfl rfl rfl ?_
    refine x_getR (pc' := 16) rfl rfl rfl (by decide) rfl (by decide) rfl rfl ?_
    refine x_iload (pc' := 17) rfl rfl rfl ?_
    refine x_bald (pc' := 18) rfl rfl (by decide) (Or.inr rfl) (by decide) (show _ < 2 by omega) ?_
    refine x_top ((hK s hs).1) ?_
    refine y_if_ne (pc' := 21) rfl rfl (by first | omega | (have := b01_le (sh s).isSome; omega)) (fun c18 => ?_) (fun c18 => ?_)
    · obtain ⟨T, hT⟩ : ∃ T, sh s = some T := by
        cases h : sh s with
        | none => rw [h] at c18; exact absurd rfl c18
        | some T => exact ⟨T, rfl⟩
      refine x_aload (pc' := 25) rfl rfl rfl ?_
      refine x_getR (pc' := 28) rfl rfl rfl (by decide) rfl (by decide) rfl rfl ?_
      refine x_int (pc' := 31) (v := nI 560) rfl rfl rfl ?_
      refine x_iload (pc' := 32) rfl rfl rfl ?_
      refine y_imul (pc' := 33) rfl rfl ?_
      refine x_aload (pc' := 34) rfl rfl rfl ?_
      refine x_getR (pc' := 37) rfl rfl rfl (by decide) rfl (by decide) rfl rfl ?_
      refine x_int (pc' := 38) (v := nI 0) rfl rfl rfl ?_
      refine x_callS (pc' := 41) (d1 := 1) (As := [_, _, _, _]) rfl rfl rfl rfl (by decide) rfl rfl (Nat.le_of_ble_eq_true rfl) ⟨rfl, rfl⟩ (by decide) ?_
      refine w_X10_moves (by decide) (by decide) rfl rfl (show 560 * s + 560 ≤ 1120 by omega) (by decide) (by decide) (by decide) (by decide) (fun D2 v2 => ?_)
      have hR2 : Rn T (D2 206) := rn_row (hG s hs T hT) (fun k hk => by have := v2.1 k hk; rw [Nat.zero_add] at this; exact this) ((hK s hs).2 T hT)
      have hw2 : D2 206 0 = nI (nw T) := hR2.1.1.trans (hG s hs T hT).enw
      refine ⟨rfl, ?_⟩
      refine x_aload (pc' := 42) rfl rfl rfl ?_
      refine x_int (pc' := 43) (v := nI 0) rfl rfl rfl ?_
      refine x_putI (j := 5) (pc' := 46) rfl rfl rfl (by decide) rfl (by decide) rfl rfl ?_
      refine x_aload (pc' := 47) rfl rfl rfl ?_
      refine x_getR (pc' := 50) rfl rfl rfl (by decide) rfl (by decide) rfl rfl ?_
      refine x_int (pc' := 51) (v := nI 0) rfl rfl rfl ?_
      refine x_iald (pc' := 52) rfl rfl (by decide) rfl (by decide) (show _ < 560 by omega) ?_
      refine x_top (hw2) ?_
      refine x_iret rfl rfl ?_
      refine k1 s hs rfl T hT _ (fun k hk => ?_) (fun j hj => ?_) rfl hR2
      · have a1 : k ≠ 205 := fun e => hk (by rw [e]; decide)
        have a2 : k ≠ 206 := fun e => hk (by rw [e]; decide)
        rw [bh_up2_ne _ _ _ a1, v2.2.2 k a2]
      · rw [bh_up2_k]
        dsimp only
        rw [if_neg hj, v2.2.2 205 (by decide)]
    · refine x_int (pc' := 23) (v := (-2)) rfl rfl rfl ?_
      refine x_iret rfl rfl ?_
      refine k2 s hs rfl ?_
      cases h : sh s with
      | none => rfl
      | some T => rw [h] at c18; cases c18
  · refine ⟨rfl, ?_⟩
    refine x_if_ne (pc' := 10) rfl rfl (fun c7 => absurd (by decide) c7) (fun _ => ?_)
    refine x_int (pc' := 11) (v := (-1)) rfl rfl rfl ?_
    refine x_iret rfl rfl ?_
    exact k0 (okN_in1 h4)
