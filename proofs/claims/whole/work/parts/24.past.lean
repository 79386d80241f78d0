/-! ===== what was, what is kept: the class ===== -/
def tz : TW := fun _ _ => 0
def HC (D : Nat → Nat → Int32) (ps : List TW) : Prop := ps.length ≤ 10 ∧ D 0 14 = nI ps.length ∧ ∃ e, e < 10 ∧ D 0 13 = nI e ∧ ∀ j, j < ps.length → TE (ps.getD j tz) (tvt D (49 + 13 * ((e + 9 - j) % 10)))
def KC (D : Nat → Nat → Int32) (sh : Nat → Option TW) : Prop := ∃ kp, kp < 4 ∧ D 0 15 = nI kp ∧ ∀ s, s < 2 → kp.testBit s = (sh s).isSome ∧ ∀ T, sh s = some T → TE T (tvt D (179 + 13 * s))
def FrC (D D' : Nat → Nat → Int32) : Prop := ∀ k, k ≠ 0 → (k < 49 ∨ 179 ≤ k) → D' k = D k
theorem tvt_off {D D' : Nat → Nat → Int32} {t : Nat} (h : ∀ j, j < 13 → D' (t + j) = D (t + j)) : tvt D' t = tvt D t := by
  funext j i
  unfold tvt
  split
  next hj => rw [h j hj]
  next => rfl
theorem er : ∀ e, e < 10 → bh_R0 29 e = some (49 + 13 * e) ∧ 49 + 13 * e ∈ bh_tws := by decide +kernel
theorem sr : ∀ s, s < 2 → bh_R0 30 s = some (179 + 13 * s) ∧ 179 + 13 * s ∈ bh_tws := by decide +kernel
theorem min10 {u : Nat} (h : u ≤ 10) : (if nI 10 < nI (u + 1) then nI 10 else nI (u + 1)) = nI (min (u + 1) 10) := by
  by_cases e : u = 10
  · subst e; decide
  · rw [if_neg (nI_nlt (by omega) (by decide)), Nat.min_eq_left (by omega)]
theorem take10_len {ps : List TW} {T : TW} : ((T :: ps).take 10).length = min (ps.length + 1) 10 := by rw [List.length_take, List.length_cons, Nat.min_comm]
theorem take10_get {ps : List TW} {T : TW} {j : Nat} (h : j + 1 < ((T :: ps).take 10).length) : ((T :: ps).take 10).getD (j + 1) tz = ps.getD j tz := by
  have h2 : j + 1 < 10 := by rw [List.length_take] at h; omega
  rw [List.getD_eq_getElem?_getD, List.getElem?_take_of_lt h2, List.getElem?_cons_succ, ← List.getD_eq_getElem?_getD]
set_option maxRecDepth 20000 in
set_option maxHeartbeats 1000000 in
theorem w_X9_remember {D : Nat → Nat → Int32} {L : Nat → Nat → Int64} {Q : bh_Q} {ps : List TW} (hH : HC D ps) (k1 : ∀ D', FrC D D' → D' 0 15 = D 0 15 → HC D' ((tv D :: ps).take 10) → Q none (hp D' L)) : bh_wc 3 m_X9_remember [.ref 0] (hp D L) Q := by
  refine x_start (lv0 := [_]) (Nat.le_of_ble_eq_true rfl) rfl ?_
  obtain ⟨hu0, hu, e, he0, he, hps⟩ := hH
  have ht := (er e he0).2
  refine x_aload (pc' := 1) rfl rfl rfl ?_
  refine x_getR (pc' := 4) rfl rfl rfl (by decide) rfl (by decide) rfl rfl ?_
  refine x_aload (pc' := 5) rfl rfl rfl ?_
  refine x_getI (j := 13) (pc' := 8) rfl rfl rfl (by decide) rfl (by decide) rfl rfl ?_
  refine x_top (he) ?_
  refine x_aald (pc' := 9) rfl rfl (by decide) rfl (by decide) (show _ < 10 by omega) (er e he0).1 ?_
  refine x_aload (pc' := 10) rfl rfl rfl ?_
  refine x_getR (pc' := 13) rfl rfl rfl (by decide) rfl (by decide) rfl rfl ?_
  refine x_callV (pc' := 16) (d1 := 2) (Bs := [_]) rfl rfl rfl rfl rfl rfl rfl (Nat.le_of_ble_eq_true rfl) ⟨rfl, rfl⟩ (tw_lt ht) (tw_tg ht) (by decide) ?_
  refine w_X7_copyFrom ht (by decide) (by omega) (fun D1 c1 => ?_)
  have he1 : D1 0 13 = nI e := by rw [c1.2 0 (by omega)]; exact he
  have hu1 : D1 0 14 = nI ps.length := by rw [c1.2 0 (by omega)]; exact hu
  refine ⟨rfl, ?_⟩
  refine x_aload (pc' := 17) rfl rfl rfl ?_
  refine x_aload (pc' := 18) rfl rfl rfl ?_
  refine x_getI (j := 13) (pc' := 21) rfl rfl rfl (by decide) rfl (by decide) rfl rfl ?_
  refine x_top (he1) ?_
  refine x_int (pc' := 22) (v := nI 1) rfl rfl rfl ?_
  refine y_iadd (pc' := 23) rfl rfl ?_
  refine x_int (pc' := 25) (v := nI 10) rfl rfl rfl ?_
  refine y_irem (pc' := 26) rfl rfl (by omega) (by omega) (by omega) ?_
  refine x_putI (j := 13) (pc' := 29) rfl rfl rfl (by decide) rfl (by decide) rfl rfl ?_
  refine x_aload (pc' := 30) rfl rfl rfl ?_
  refine x_aload (pc' := 31) rfl rfl rfl ?_
  refine x_getI (j := 14) (pc' := 34) rfl rfl rfl (by decide) rfl (by decide) rfl rfl ?_
  refine x_top (hu1) ?_
  refine x_int (pc' := 35) (v := nI 1) rfl rfl rfl ?_
  refine y_iadd (pc' := 36) rfl rfl ?_
  refine x_int (pc' := 38) (v := nI 10) rfl rfl rfl ?_
  refine x_min (pc' := 41) rfl rfl (Nat.le_of_ble_eq_true rfl) (min10 hu0) ?_
  refine x_putI (j := 14) (pc' := 44) rfl rfl rfl (by decide) rfl (by decide) rfl rfl ?_
  refine x_vret rfl rfl ?_
  refine k1 _ (fun k hk0 hk => ?_) ?_ ⟨?_, ?_, (e + 1) % 10, by omega, ?_, fun j hj => ?_⟩
  · rw [bh_up2_ne _ _ _ hk0, bh_up2_ne _ _ _ hk0, c1.2 k (by omega)]
  · show D1 0 15 = _
    rw [c1.2 0 (by omega)]
  · rw [take10_len]; omega
  · show nI (min (ps.length + 1) 10) = _
    rw [take10_len]
  · rfl
  · have hlen : j < min (ps.length + 1) 10 := by rw [take10_len] at hj; exact hj
    have hoff : ∀ t, 1 ≤ t → tvt (bh_up2 (bh_up2 D1 0 13 (nI ((e + 1) % 10))) 0 14 (nI (min (ps.length + 1) 10))) t = tvt D1 t := fun t ht1 => tvt_off (fun j _ => by rw [bh_up2_ne _ _ _ (by omega), bh_up2_ne _ _ _ (by omega)])
    rw [hoff _ (by omega)]
    cases j with
    | zero =>
      have e1 : ((e + 1) % 10 + 9 - 0) % 10 = e := by omega
      rw [e1]
      exact c1.te
    | succ j =>
      have e1 : ((e + 1) % 10 + 9 - (j + 1)) % 10 = (e + 9 - j) % 10 := by omega
      have e2 : (e + 9 - j) % 10 ≠ e := by omega
      rw [e1, take10_get hj, tvt_off (D := D) (fun i hi => c1.2 _ (by omega))]
      exact hps j (by omega)
set_option maxRecDepth 20000 in
set_option maxHeartbeats 1000000 in
theorem w_X9_undo {D : Nat → Nat → Int32} {L : Nat → Nat → Int64} {Q : bh_Q} {ps : List TW} (hH : HC D ps) (k0 : ps = [] → Q (some (.int (-1))) (hp D L)) (k1 : ∀ T qs, ps = T :: qs → ∀ D', (∀ k, (14 ≤ k) → D' k = D k) → D' 0 15 = D 0 15 → TE T (tv D') → HC D' qs → Q (some (.int (nI (ps.length - 1)))) (hp D' L)) : bh_wc 3 m_X9_undo [.ref 0] (hp D L) Q := by
  refine x_start (lv0 := [_]) (Nat.le_of_ble_eq_true rfl) rfl ?_
  obtain ⟨hu0, hu, e, he0, he, hps⟩ := hH
  refine x_aload (pc' := 1) rfl rfl rfl ?_
  refine x_getI (j := 14) (pc' := 4) rfl rfl rfl (by decide) rfl (by decide) rfl rfl ?_
  refine x_top (hu) ?_
  refine y_if_ne (pc' := 7) rfl rfl (by omega) (fun c4 => ?_) (fun c4 => ?_)
  · have ht := (er ((e + 10 - 1) % 10) (Nat.mod_lt _ (by decide))).2
    have he2 : (bh_up2 (bh_up2 D 0 14 (nI (ps.length - 1))) 0 13 (nI ((e + 10 - 1) % 10))) 0 13 = nI ((e + 10 - 1) % 10) := rfl
    refine x_aload (pc' := 10) rfl rfl rfl ?_
    refine x_dup (pc' := 11) rfl rfl rfl ?_
    refine x_getI (j := 14) (pc' := 14) rfl rfl rfl (by decide) rfl (by decide) rfl rfl ?_
    refine x_top (hu) ?_
    refine x_int (pc' := 15) (v := nI 1) rfl rfl rfl ?_
    refine y_isub (pc' := 16) rfl rfl (by omega) ?_
    refine x_putI (j := 14) (pc' := 19) rfl rfl rfl (by decide) rfl (by decide) rfl rfl ?_
    refine x_aload (pc' := 20) rfl rfl rfl ?_
    refine x_aload (pc' := 21) rfl rfl rfl ?_
    refine x_getI (j := 13) (pc' := 24) rfl rfl rfl (by decide) rfl (by decide) rfl rfl ?_
    refine x_top (he) ?_
    refine x_int (pc' := 26) (v := nI 10) rfl rfl rfl ?_
    refine y_iadd (pc' := 27) rfl rfl ?_
    refine x_int (pc' := 28) (v := nI 1) rfl rfl rfl ?_
    refine y_isub (pc' := 29) rfl rfl (by omega) ?_
    refine x_int (pc' := 31) (v := nI 10) rfl rfl rfl ?_
    refine y_irem (pc' := 32) rfl rfl (by omega) (by omega) (by omega) ?_
    refine x_putI (j := 13) (pc' := 35) rfl rfl rfl (by decide) rfl (by decide) rfl rfl ?_
    refine x_aload (pc' := 36) rfl rfl rfl ?_
    refine x_getR (pc' := 39) rfl rfl rfl (by decide) rfl (by decide) rfl rfl ?_
    refine x_aload (pc' := 40) rfl rfl rfl ?_
    refine x_getR (pc' := 43) rfl rfl rfl (by decide) rfl (by decide) rfl rfl ?_
    refine x_aload (pc' := 44) rfl rfl rfl ?_
    refine x_getI (j := 13) (pc' := 47) rfl rfl rfl (by decide) rfl (by decide) rfl rfl ?_
    refine x_top (he2) ?_
    refine x_aald (pc' := 48) rfl rfl (by decide) rfl (by decide) (show _ < 10 from Nat.mod_lt _ (by decide)) (er _ (Nat.mod_lt _ (by decide))).1 ?_
    refine x_callV (pc' := 51) (d1 := 2) (Bs := [_]) rfl rfl rfl rfl rfl rfl rfl (Nat.le_of_ble_eq_true rfl) ⟨rfl, rfl⟩ (by decide) rfl (by decide) ?_
    refine w_X7_copyFrom (by decide) ht (by omega) (fun D1 c1 => ?_)
    have hu3 : D1 0 14 = nI (ps.length - 1) := by rw [c1.2 0 (by omega)]; rfl
    refine ⟨rfl, ?_⟩
    refine x_aload (pc' := 52) rfl rfl rfl ?_
    refine x_getI (j := 14) (pc' := 55) rfl rfl rfl (by decide) rfl (by decide) rfl rfl ?_
    refine x_top (hu3) ?_
    refine x_iret rfl rfl ?_
    obtain ⟨T, qs, rfl⟩ : ∃ T qs, ps = T :: qs := by
      cases ps with
      | nil => exact absurd rfl c4
      | cons T qs => exact ⟨T, qs, rfl⟩
    have hoff : ∀ t, 14 ≤ t → tvt D1 t = tvt D t := fun t ht1 => tvt_off (fun j _ => by rw [c1.2 _ (by omega), bh_up2_ne _ _ _ (by omega), bh_up2_ne _ _ _ (by omega)])
    have hoff0 : tvt (bh_up2 (bh_up2 D 0 14 (nI ((T :: qs).length - 1))) 0 13 (nI ((e + 10 - 1) % 10))) (49 + 13 * ((e + 10 - 1) % 10)) = tvt D (49 + 13 * ((e + 10 - 1) % 10)) := tvt_off (fun j _ => by rw [bh_up2_ne _ _ _ (by omega), bh_up2_ne _ _ _ (by omega)])
    refine k1 T qs rfl D1 (fun k hk => ?_) ?_ ?_ ⟨?_, ?_, (e + 10 - 1) % 10, Nat.mod_lt _ (by decide), ?_, fun j hj => ?_⟩
    · rw [c1.2 k (by omega), bh_up2_ne _ _ _ (by omega), bh_up2_ne _ _ _ (by omega)]
    · rw [c1.2 0 (by omega)]; rfl
    · have t1 := hps 0 (by simp)
      have t2 := c1.te
      rw [hoff0] at t2
      rw [show (e + 10 - 1) % 10 = (e + 9 - 0) % 10 by omega] at t2
      exact t1.tr t2
    · rw [List.length_cons] at hu0; omega
    · rw [hu3]; simp
    · rw [c1.2 0 (by omega)]; rfl
    · rw [hoff _ (by omega)]
      have hu9 : qs.length ≤ 9 := by simpa using hu0
      have e1 : ((e + 10 - 1) % 10 + 9 - j) % 10 = (e + 9 - (j + 1)) % 10 := by omega
      rw [e1]
      exact hps (j + 1) (by simp; omega)
  · refine x_int (pc' := 8) (v := (-1)) rfl rfl rfl ?_
    refine x_iret rfl rfl ?_
    exact k0 (List.length_eq_zero_iff.mp c4)
set_option maxRecDepth 20000 in
set_option maxHeartbeats 1000000 in
theorem w_X9_keep {D : Nat → Nat → Int32} {L : Nat → Nat → Int64} {Q : bh_Q} {sh : Nat → Option TW} {x : Int32} (hW : WF (tv D)) (hK : KC D sh) (k0 : ¬ okN 2 x → Q (some (.int (-1))) (hp D L)) (k1 : ∀ s, s < 2 → x = nI s → ∀ D', (∀ k, k ≠ 0 → (k < 179 ∨ 205 ≤ k) → D' k = D k) → D' 0 13 = D 0 13 → D' 0 14 = D 0 14 → KC D' (fun i => if i = s then some (tv D) else sh i) → Q (some (.int (nI (nw (tv D))))) (hp D' L)) : bh_wc 3 m_X9_keep [.ref 0, .int x] (hp D L) Q := by
  refine x_start (lv0 := [_, _]) (Nat.le_of_ble_eq_true rfl) rfl ?_
  obtain ⟨kp, hkp, hk, hks⟩ := hK
  refine x_iload (pc' := 1) rfl rfl rfl ?_
  refine x_callS (pc' := 4) (d1 := 1) (As := [_]) rfl rfl rfl rfl (by decide) rfl rfl (Nat.le_of_ble_eq_true rfl) ⟨rfl, rfl⟩ (by decide) ?_
  refine w_X9_isShelf (fun s hs e => ?_) (fun h1 => ?_)
  · subst e
    have ht := (sr s hs).2
    refine ⟨rfl, ?_⟩
    refine x_if_ne (pc' := 7) rfl rfl (fun _ => ?_) (fun c4 => absurd c4 (by decide))
    refine x_aload (pc' := 10) rfl rfl rfl ?_
    refine x_getR (pc' := 13) rfl rfl rfl (by decide) rfl (by decide) rfl rfl ?_
    refine x_iload (pc' := 14) rfl rfl rfl ?_
    refine x_aald (pc' := 15) rfl rfl (by decide) rfl (by decide) hs (sr s hs).1 ?_
    refine x_aload (pc' := 16) rfl rfl rfl ?_
    refine x_getR (pc' := 19) rfl rfl rfl (by decide) rfl (by decide) rfl rfl ?_
    refine x_callV (pc' := 22) (d1 := 2) (Bs := [_]) rfl rfl rfl rfl rfl rfl rfl (Nat.le_of_ble_eq_true rfl) ⟨rfl, rfl⟩ (tw_lt ht) (tw_tg ht) (by decide) ?_
    refine w_X7_copyFrom ht (by decide) (by omega) (fun D1 c1 => ?_)
    have hk1 : D1 0 15 = nI kp := by rw [c1.2 0 (by omega)]; exact hk
    have hw1 : D1 1 0 = nI (nw (tv D)) := by rw [c1.2 1 (by omega)]; exact hW.enw
    refine ⟨rfl, ?_⟩
    refine x_aload (pc' := 23) rfl rfl rfl ?_
    refine x_dup (pc' := 24) rfl rfl rfl ?_
    refine x_getI (j := 15) (pc' := 27) rfl rfl rfl (by decide) rfl (by decide) rfl rfl ?_
    refine x_top (hk1) ?_
    refine x_int (pc' := 28) (v := nI 1) rfl rfl rfl ?_
    refine x_iload (pc' := 29) rfl rfl rfl ?_
    refine y_ishl (pc' := 30) rfl rfl (by omega) ?_
    refine y_ior (pc' := 31) rfl rfl ?_
    refine x_putI (j := 15) (pc' := 34) rfl rfl rfl (by decide) rfl (by decide) rfl rfl ?_
    refine x_aload (pc' := 35) rfl rfl rfl ?_
    refine x_getR (pc' := 38) rfl rfl rfl (by decide) rfl (by decide) rfl rfl ?_
    refine x_getI (j := 0) (pc' := 41) rfl rfl rfl (by decide) rfl (by decide) rfl rfl ?_
    refine x_top (hw1) ?_
    refine x_iret rfl rfl ?_
    refine k1 s hs rfl _ (fun k hk0 hk => ?_) ?_ ?_ ⟨kp ||| (1 <<< s), ?_, rfl, fun s2 hs2 => ⟨?_, fun T hT => ?_⟩⟩
    · rw [bh_up2_ne _ _ _ hk0, c1.2 k (by omega)]
    · show D1 0 13 = _
      rw [c1.2 0 (by omega)]
    · show D1 0 14 = _
      rw [c1.2 0 (by omega)]
    · show _ < 2 ^ 2
      exact Nat.or_lt_two_pow hkp (by rw [Nat.one_shiftLeft]; exact Nat.pow_lt_pow_right (by decide) hs)
    · dsimp only
      rw [Nat.testBit_or, one_shl_bit]
      by_cases e : s2 = s
      · subst e; rw [if_pos rfl]; simp
      · have e2 : ¬ s = s2 := fun q => e q.symm
        rw [if_neg e, (hks s2 hs2).1]; simp [e2]
    · rw [tvt_off (D := D1) (fun j _ => bh_up2_ne _ _ _ (by omega))]
      dsimp only at hT
      by_cases e : s2 = s
      · subst e
        rw [if_pos rfl] at hT
        cases hT
        exact c1.te
      · rw [if_neg e] at hT
        rw [tvt_off (D := D) (fun j hj => c1.2 _ (by omega))]
        exact (hks s2 hs2).2 T hT
  · refine ⟨rfl, ?_⟩
    refine x_if_ne (pc' := 7) rfl rfl (fun c4 => absurd (by decide) c4) (fun _ => ?_)
    refine x_int (pc' := 8) (v := (-1)) rfl rfl rfl ?_
    refine x_iret rfl rfl ?_
    exact k0 h1
set_option maxRecDepth 20000 in
set_option maxHeartbeats 1000000 in
theorem w_X9_back {D : Nat → Nat → Int32} {L : Nat → Nat → Int64} {Q : bh_Q} {sh : Nat → Option TW} {x : Int32} (hK : KC D sh) (hG : ∀ s, s < 2 → ∀ T, sh s = some T → WF T) (k0 : ¬ okN 2 x → Q (some (.int (-1))) (hp D L)) (k2 : ∀ s, s < 2 → x = nI s → sh s = none → Q (some (.int (-2))) (hp D L)) (k1 : ∀ s, s < 2 → x = nI s → ∀ T, sh s = some T → ∀ D', (∀ k, k ≠ 0 → 14 ≤ k → D' k = D k) → D' 0 15 = D 0 15 → D' 0 14 = nI 0 → TE T (tv D') → Q (some (.int (nI (nw T)))) (hp D' L)) : bh_wc 3 m_X9_back [.ref 0, .int x] (hp D L) Q := by
  refine x_start (lv0 := [_, _]) (Nat.le_of_ble_eq_true rfl) rfl ?_
  obtain ⟨kp, hkp, hk, hks⟩ := hK
  refine x_iload (pc' := 1) rfl rfl rfl ?_
  refine x_callS (pc' := 4) (d1 := 1) (As := [_]) rfl rfl rfl rfl (by decide) rfl rfl (Nat.le_of_ble_eq_true rfl) ⟨rfl, rfl⟩ (by decide) ?_
  refine w_X9_isShelf (fun s hs e => ?_) (fun h1 => ?_)
  · subst e
    have ht := (sr s hs).2
    refine ⟨rfl, ?_⟩
    refine x_if_ne (pc' := 7) rfl rfl (fun _ => ?_) (fun c4 => absurd c4 (by decide))
    refine x_aload (pc' := 10) rfl rfl rfl ?_
    refine x_getI (j := 15) (pc' := 13) rfl rfl rfl (by decide) rfl (by decide) rfl rfl ?_
    refine x_top (hk) ?_
    refine x_iload (pc' := 14) rfl rfl rfl ?_
    refine y_ishr (pc' := 15) rfl rfl (by omega) (by omega) ?_
    refine x_int (pc' := 16) (v := nI 1) rfl rfl rfl ?_
    refine y_iand (pc' := 17) rfl rfl ?_
    refine y_if_ne (pc' := 20) rfl rfl (and1 _) (fun c17 => ?_) (fun c17 => ?_)
    · have hbs : (sh s).isSome = true := by rw [← (hks s hs).1, ← Bool.not_eq_false]; exact fun e => c17 (tb0.mpr e)
      obtain ⟨T, hT⟩ := Option.isSome_iff_exists.mp hbs
      refine x_aload (pc' := 24) rfl rfl rfl ?_
      refine x_getR (pc' := 27) rfl rfl rfl (by decide) rfl (by decide) rfl rfl ?_
      refine x_aload (pc' := 28) rfl rfl rfl ?_
      refine x_getR (pc' := 31) rfl rfl rfl (by decide) rfl (by decide) rfl rfl ?_
      refine x_iload (pc' := 32) rfl rfl rfl ?_
      refine x_aald (pc' := 33) rfl rfl (by decide) rfl (by decide) hs (sr s hs).1 ?_
      refine x_callV (pc' := 36) (d1 := 2) (Bs := [_]) rfl rfl rfl rfl rfl rfl rfl (Nat.le_of_ble_eq_true rfl) ⟨rfl, rfl⟩ (by decide) rfl (by decide) ?_
      refine w_X7_copyFrom (by decide) ht (by omega) (fun D1 c1 => ?_)
      refine ⟨rfl, ?_⟩
      have hte : TE T (tv D1) := ((hks s hs).2 T hT).tr c1.te
      have hw1 : (bh_up2 D1 0 14 (nI 0)) 1 0 = nI (nw T) := (hte 0 (by decide) 0 (by decide)).trans (hG s hs T hT).enw
      refine x_aload (pc' := 37) rfl rfl rfl ?_
      refine x_int (pc' := 38) (v := nI 0) rfl rfl rfl ?_
      refine x_putI (j := 14) (pc' := 41) rfl rfl rfl (by decide) rfl (by decide) rfl rfl ?_
      refine x_aload (pc' := 42) rfl rfl rfl ?_
      refine x_getR (pc' := 45) rfl rfl rfl (by decide) rfl (by decide) rfl rfl ?_
      refine x_getI (j := 0) (pc' := 48) rfl rfl rfl (by decide) rfl (by decide) rfl rfl ?_
      refine x_top (hw1) ?_
      refine x_iret rfl rfl ?_
      refine k1 s hs rfl T hT _ (fun k hk0 hk => ?_) ?_ ?_ (by rw [show tv (bh_up2 D1 0 14 (nI 0)) = tv D1 from tvt_off (t := 1) (fun j _ => bh_up2_ne _ _ _ (by omega))]; exact hte)
      · rw [bh_up2_ne _ _ _ hk0, c1.2 k (by omega)]
      · show D1 0 15 = _
        rw [c1.2 0 (by omega)]
      · rfl
    · refine x_int (pc' := 22) (v := (-2)) rfl rfl rfl ?_
      refine x_iret rfl rfl ?_
      refine k2 s hs rfl ?_
      have := (hks s hs).1
      rw [tb0.mp c17] at this
      cases h : sh s with
      | none => rfl
      | some T => rw [h] at this; cases this
  · refine ⟨rfl, ?_⟩
    refine x_if_ne (pc' := 7) rfl rfl (fun c4 => absurd (by decide) c4) (fun _ => ?_)
    refine x_int (pc' := 8) (v := (-1)) rfl rfl rfl ?_
    refine x_iret rfl rfl ?_
    exact k0 h1
