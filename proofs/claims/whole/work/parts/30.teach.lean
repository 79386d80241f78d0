/-! ===== teach ===== -/
def dH (x y z : Int32) : Option (Nat × Nat × Nat) := match dN 7 x with
  | none => none
  | some k => if k = 0 then some (0, 0, 0) else match dN 16 y with
    | none => none
    | some a => if k = 4 ∧ a = 0 then none else if k < 5 then some (k, a, 0) else match dN 16 z with
      | none => none
      | some b => if a = b then none else some (k, a, b)
section bh_dH
variable {k a b : Nat} {x y z : Int32}
theorem dH_0 : dH (nI 0) y z = some (0, 0, 0) := by unfold dH; rw [dN_some (by decide) (by decide)]; rfl
theorem dH_1 (h1 : 1 ≤ k) (h5 : k < 5) (ha : a < 16) (h : ¬ (k = 4 ∧ a = 0)) : dH (nI k) (nI a) z = some (k, a, 0) := by
  unfold dH
  rw [dN_some (by omega) (by decide), dN_some ha (by decide)]
  dsimp only
  rw [if_neg (by omega), if_neg h, if_pos h5]
theorem dH_2 (h1 : 5 ≤ k) (h5 : k < 7) (ha : a < 16) (hb : b < 16) (h : a ≠ b) : dH (nI k) (nI a) (nI b) = some (k, a, b) := by
  unfold dH
  rw [dN_some h5 (by decide), dN_some ha (by decide), dN_some hb (by decide)]
  dsimp only
  rw [if_neg (by omega), if_neg (by omega), if_neg (by omega), if_neg h]
theorem dH_nx (h : ¬ okN 7 x) : dH x y z = none := by unfold dH; rw [dN_none (by decide) h]
theorem dH_ny (h1 : 1 ≤ k) (h7 : k < 7) (h : ¬ okN 16 y) : dH (nI k) y z = none := by
  unfold dH
  rw [dN_some h7 (by decide), dN_none (by decide) h]
  dsimp only
  rw [if_neg (by omega)]
theorem dH_n4 : dH (nI 4) (nI 0) z = none := by
  unfold dH
  rw [dN_some (by decide) (by decide), dN_some (by decide) (by decide)]
  rfl
theorem dH_nz (h1 : 5 ≤ k) (h5 : k < 7) (ha : a < 16) (h : ¬ okN 16 z) : dH (nI k) (nI a) z = none := by
  unfold dH
  rw [dN_some h5 (by decide), dN_some ha (by decide), dN_none (by decide) h]
  dsimp only
  rw [if_neg (by omega), if_neg (by omega), if_neg (by omega)]
theorem dH_ab (h1 : 5 ≤ k) (h5 : k < 7) (ha : a < 16) : dH (nI k) (nI a) (nI a) = none := by
  unfold dH
  rw [dN_some h5 (by decide), dN_some ha (by decide)]
  dsimp only
  rw [if_neg (by omega), if_neg (by omega), if_neg (by omega), if_pos rfl]
theorem dH_hok (h : dH x y z = some (k, a, b)) : hok k a b := by
  unfold dH at h
  cases hx : dN 7 x with
  | none => rw [hx] at h; cases h
  | some k' =>
    have hk := (dN_lt (by decide) hx).1
    rw [hx] at h
    dsimp only at h
    split at h
    · cases h; exact ⟨by decide, by decide, by decide, fun _ => rfl, fun _ => rfl, fun h => absurd h (by decide), fun h => absurd h (by decide)⟩
    · cases hy : dN 16 y with
      | none => rw [hy] at h; cases h
      | some a' =>
        have ha := (dN_lt (by decide) hy).1
        rw [hy] at h
        dsimp only at h
        split at h
        · cases h
        split at h
        · cases h
          exact ⟨by omega, ha, by decide, fun h => by omega, fun _ => rfl, fun h => by omega, fun h => by omega⟩
        · cases hz : dN 16 z with
          | none => rw [hz] at h; cases h
          | some b' =>
            have hb := (dN_lt (by decide) hz).1
            rw [hz] at h
            dsimp only at h
            split at h
            · cases h
            · cases h
              exact ⟨by omega, ha, hb, fun h => by omega, fun h => by omega, fun h => by omega, fun _ => by omega⟩
end bh_dH
theorem hok_1 {k a : Nat} (h1 : 1 ≤ k) (h5 : k < 5) (ha : a < 16) (h : ¬ (k = 4 ∧ a = 0)) : hok k a 0 := ⟨by omega, ha, by decide, fun h => by omega, fun _ => rfl, fun h => by omega, fun h => by omega⟩
theorem hok_2 {k a b : Nat} (h1 : 5 ≤ k) (h5 : k < 7) (ha : a < 16) (hb : b < 16) (h : a ≠ b) : hok k a b := ⟨h5, ha, hb, fun h => by omega, fun h => by omega, fun h => by omega, fun _ => h⟩
theorem hok_0 : hok 0 0 0 := ⟨by decide, by decide, by decide, fun _ => rfl, fun _ => rfl, fun h => absurd h (by decide), fun h => absurd h (by decide)⟩
theorem sg0 : sg 0 = 0 := rfl
theorem sg1 {k : Nat} (h1 : 1 ≤ k) (h : k < 5) : sg k = 1 := by unfold sg; rw [if_neg (by omega), if_neg (by omega)]
theorem sg2 {k : Nat} (h : 5 ≤ k) : sg k = 2 := by unfold sg; rw [if_neg (by omega), if_pos h]
theorem sg_lt (k : Nat) : sg k < 3 := by unfold sg; split <;> (try split) <;> decide
set_option maxRecDepth 20000 in
set_option maxHeartbeats 1000000 in
theorem w_X1_stands {D : Nat → Nat → Int32} {L : Nat → Nat → Int64} {Q : bh_Q} {x y z : Int32} (k10 : x = nI 0 → Q (some (.int 1)) (hp D L)) (k11 : ∀ k a : Nat, 1 ≤ k → k < 5 → a < 16 → ¬ (k = 4 ∧ a = 0) → x = nI k → y = nI a → Q (some (.int 1)) (hp D L)) (k12 : ∀ k a b : Nat, 5 ≤ k → k < 7 → a < 16 → b < 16 → a ≠ b → x = nI k → y = nI a → z = nI b → Q (some (.int 1)) (hp D L)) (k0 : dH x y z = none → Q (some (.int 0)) (hp D L)) : bh_wc 2 m_X1_stands [.int x, .int y, .int z] (hp D L) Q := by
  refine x_start (lv0 := [_, _, _]) (Nat.le_of_ble_eq_true rfl) rfl ?_
  refine x_iload (pc' := 1) rfl rfl rfl ?_
  refine x_if_lt (pc' := 4) rfl rfl (fun c1 => ?_) (fun c1 => ?_)
  · refine x_int (pc' := 11) (v := nI 0) rfl rfl rfl ?_
    refine x_zret rfl rfl (by decide) ?_
    first
      | exact k0 (dH_nx (okN_neg (by decide) c1))
      | exact k0 (dH_nx (okN_gt (n := 6) (by decide) (Int32.not_le.mp c7)))
  · refine x_iload (pc' := 5) rfl rfl rfl ?_
    refine x_int (pc' := 7) (v := nI 6) rfl rfl rfl ?_
    refine x_ic_le (pc' := 10) rfl rfl (fun c7 => ?_) (fun c7 => ?_)
    · obtain ⟨k, kl, rfl⟩ := le_of (n := 6) (by decide) c1 (Int32.not_lt.mpr c7)
      refine x_iload (pc' := 13) rfl rfl rfl ?_
      refine y_if_ne (pc' := 16) rfl rfl (by first | omega | (have := sg_lt k; omega)) (fun c13 => ?_) (fun c13 => ?_)
      · refine x_iload (pc' := 19) rfl rfl rfl ?_
        refine x_callS (pc' := 22) (d1 := 1) (As := [_]) rfl rfl rfl rfl (by decide) rfl rfl (Nat.le_of_ble_eq_true rfl) ⟨rfl, rfl⟩ (by decide) ?_
        refine w_X9_isSign (fun h19w h19l h19e => ?_) (fun h19 => ?_)
        · subst h19e
          refine ⟨rfl, ?_⟩
          refine x_if_eq (pc' := 25) rfl rfl (fun c22 => absurd c22 (by decide)) (fun _ => ?_)
          refine x_iload (pc' := 26) rfl rfl rfl ?_
          refine x_int (pc' := 27) (v := nI 4) rfl rfl rfl ?_
          refine y_ic_ne (pc' := 30) rfl rfl (by first | omega | (have := sg_lt k; omega)) (by first | omega | (have := sg_lt k; omega)) (fun c27 => ?_) (fun c27 => ?_)
          · refine x_iload (pc' := 37) rfl rfl rfl ?_
            refine x_callS (pc' := 40) (d1 := 1) (As := [_]) rfl rfl rfl rfl (by decide) rfl rfl (Nat.le_of_ble_eq_true rfl) ⟨rfl, rfl⟩ (by decide) ?_
            refine w_X1_signsOf kl ?_
            refine ⟨rfl, ?_⟩
            refine x_int (pc' := 41) (v := nI 1) rfl rfl rfl ?_
            refine y_ic_eq (pc' := 44) rfl rfl (by first | omega | (have := sg_lt k; omega)) (by first | omega | (have := sg_lt k; omega)) (fun c41 => ?_) (fun c41 => ?_)
            · refine x_int (pc' := 57) (v := nI 1) rfl rfl rfl ?_
              refine x_goto rfl ?_
              refine x_zret rfl rfl (by decide) ?_
              have s5 : k < 5 ∨ 5 ≤ k := by omega
              rcases s5 with s5 | s5
              · have s6 := sg1 (by omega) s5
                first
                  | exact k11 k h19w (by omega) s5 h19l (by omega) rfl rfl
                  | (exfalso; omega)
              · have s6 := sg2 s5
                first
                  | (exfalso; omega)
                  | exact k12 k h19w h45w s5 kl h19l h45l (by omega) rfl rfl rfl
                  | exact k0 (dH_nz s5 kl h19l h45)
                  | (subst c53; exact k0 (dH_ab s5 kl h19l))
            · refine x_iload (pc' := 45) rfl rfl rfl ?_
              refine x_callS (pc' := 48) (d1 := 1) (As := [_]) rfl rfl rfl rfl (by decide) rfl rfl (Nat.le_of_ble_eq_true rfl) ⟨rfl, rfl⟩ (by decide) ?_
              refine w_X9_isSign (fun h45w h45l h45e => ?_) (fun h45 => ?_)
              · subst h45e
                refine ⟨rfl, ?_⟩
                refine x_if_eq (pc' := 51) rfl rfl (fun c48 => absurd c48 (by decide)) (fun _ => ?_)
                refine x_iload (pc' := 52) rfl rfl rfl ?_
                refine x_iload (pc' := 53) rfl rfl rfl ?_
                refine y_ic_eq (pc' := 56) rfl rfl (by first | omega | (have := sg_lt k; omega)) (by first | omega | (have := sg_lt k; omega)) (fun c53 => ?_) (fun c53 => ?_)
                · refine x_int (pc' := 61) (v := nI 0) rfl rfl rfl ?_
                  refine x_zret rfl rfl (by decide) ?_
                  have s5 : k < 5 ∨ 5 ≤ k := by omega
                  rcases s5 with s5 | s5
                  · have s6 := sg1 (by omega) s5
                    first
                      | exact k11 k h19w (by omega) s5 h19l (by omega) rfl rfl
                      | (exfalso; omega)
                  · have s6 := sg2 s5
                    first
                      | (exfalso; omega)
                      | exact k12 k h19w h45w s5 kl h19l h45l (by omega) rfl rfl rfl
                      | exact k0 (dH_nz s5 kl h19l h45)
                      | (subst c53; exact k0 (dH_ab s5 kl h19l))
                · refine x_int (pc' := 57) (v := nI 1) rfl rfl rfl ?_
                  refine x_goto rfl ?_
                  refine x_zret rfl rfl (by decide) ?_
                  have s5 : k < 5 ∨ 5 ≤ k := by omega
                  rcases s5 with s5 | s5
                  · have s6 := sg1 (by omega) s5
                    first
                      | exact k11 k h19w (by omega) s5 h19l (by omega) rfl rfl
                      | (exfalso; omega)
                  · have s6 := sg2 s5
                    first
                      | (exfalso; omega)
                      | exact k12 k h19w h45w s5 kl h19l h45l (by omega) rfl rfl rfl
                      | exact k0 (dH_nz s5 kl h19l h45)
                      | (subst c53; exact k0 (dH_ab s5 kl h19l))
              · refine ⟨rfl, ?_⟩
                refine x_if_eq (pc' := 51) rfl rfl (fun _ => ?_) (fun c48 => absurd (by decide) c48)
                refine x_int (pc' := 61) (v := nI 0) rfl rfl rfl ?_
                refine x_zret rfl rfl (by decide) ?_
                have s5 : k < 5 ∨ 5 ≤ k := by omega
                rcases s5 with s5 | s5
                · have s6 := sg1 (by omega) s5
                  first
                    | exact k11 k h19w (by omega) s5 h19l (by omega) rfl rfl
                    | (exfalso; omega)
                · have s6 := sg2 s5
                  first
                    | (exfalso; omega)
                    | exact k12 k h19w h45w s5 kl h19l h45l (by omega) rfl rfl rfl
                    | exact k0 (dH_nz s5 kl h19l h45)
                    | (subst c53; exact k0 (dH_ab s5 kl h19l))
          · refine x_iload (pc' := 31) rfl rfl rfl ?_
            refine y_if_ne (pc' := 34) rfl rfl (by first | omega | (have := sg_lt k; omega)) (fun c31 => ?_) (fun c31 => ?_)
            · refine x_iload (pc' := 37) rfl rfl rfl ?_
              refine x_callS (pc' := 40) (d1 := 1) (As := [_]) rfl rfl rfl rfl (by decide) rfl rfl (Nat.le_of_ble_eq_true rfl) ⟨rfl, rfl⟩ (by decide) ?_
              refine w_X1_signsOf kl ?_
              refine ⟨rfl, ?_⟩
              refine x_int (pc' := 41) (v := nI 1) rfl rfl rfl ?_
              refine y_ic_eq (pc' := 44) rfl rfl (by first | omega | (have := sg_lt k; omega)) (by first | omega | (have := sg_lt k; omega)) (fun c41 => ?_) (fun c41 => ?_)
              · refine x_int (pc' := 57) (v := nI 1) rfl rfl rfl ?_
                refine x_goto rfl ?_
                refine x_zret rfl rfl (by decide) ?_
                have s5 : k < 5 ∨ 5 ≤ k := by omega
                rcases s5 with s5 | s5
                · have s6 := sg1 (by omega) s5
                  first
                    | exact k11 k h19w (by omega) s5 h19l (by omega) rfl rfl
                    | (exfalso; omega)
                · have s6 := sg2 s5
                  first
                    | (exfalso; omega)
                    | exact k12 k h19w h45w s5 kl h19l h45l (by omega) rfl rfl rfl
                    | exact k0 (dH_nz s5 kl h19l h45)
                    | (subst c53; exact k0 (dH_ab s5 kl h19l))
              · refine x_iload (pc' := 45) rfl rfl rfl ?_
                refine x_callS (pc' := 48) (d1 := 1) (As := [_]) rfl rfl rfl rfl (by decide) rfl rfl (Nat.le_of_ble_eq_true rfl) ⟨rfl, rfl⟩ (by decide) ?_
                refine w_X9_isSign (fun h45w h45l h45e => ?_) (fun h45 => ?_)
                · subst h45e
                  refine ⟨rfl, ?_⟩
                  refine x_if_eq (pc' := 51) rfl rfl (fun c48 => absurd c48 (by decide)) (fun _ => ?_)
                  refine x_iload (pc' := 52) rfl rfl rfl ?_
                  refine x_iload (pc' := 53) rfl rfl rfl ?_
                  refine y_ic_eq (pc' := 56) rfl rfl (by first | omega | (have := sg_lt k; omega)) (by first | omega | (have := sg_lt k; omega)) (fun c53 => ?_) (fun c53 => ?_)
                  · refine x_int (pc' := 61) (v := nI 0) rfl rfl rfl ?_
                    refine x_zret rfl rfl (by decide) ?_
                    have s5 : k < 5 ∨ 5 ≤ k := by omega
                    rcases s5 with s5 | s5
                    · have s6 := sg1 (by omega) s5
                      first
                        | exact k11 k h19w (by omega) s5 h19l (by omega) rfl rfl
                        | (exfalso; omega)
                    · have s6 := sg2 s5
                      first
                        | (exfalso; omega)
                        | exact k12 k h19w h45w s5 kl h19l h45l (by omega) rfl rfl rfl
                        | exact k0 (dH_nz s5 kl h19l h45)
                        | (subst c53; exact k0 (dH_ab s5 kl h19l))
                  · refine x_int (pc' := 57) (v := nI 1) rfl rfl rfl ?_
                    refine x_goto rfl ?_
                    refine x_zret rfl rfl (by decide) ?_
                    have s5 : k < 5 ∨ 5 ≤ k := by omega
                    rcases s5 with s5 | s5
                    · have s6 := sg1 (by omega) s5
                      first
                        | exact k11 k h19w (by omega) s5 h19l (by omega) rfl rfl
                        | (exfalso; omega)
                    · have s6 := sg2 s5
                      first
                        | (exfalso; omega)
                        | exact k12 k h19w h45w s5 kl h19l h45l (by omega) rfl rfl rfl
                        | exact k0 (dH_nz s5 kl h19l h45)
                        | (subst c53; exact k0 (dH_ab s5 kl h19l))
                · refine ⟨rfl, ?_⟩
                  refine x_if_eq (pc' := 51) rfl rfl (fun _ => ?_) (fun c48 => absurd (by decide) c48)
                  refine x_int (pc' := 61) (v := nI 0) rfl rfl rfl ?_
                  refine x_zret rfl rfl (by decide) ?_
                  have s5 : k < 5 ∨ 5 ≤ k := by omega
                  rcases s5 with s5 | s5
                  · have s6 := sg1 (by omega) s5
                    first
                      | exact k11 k h19w (by omega) s5 h19l (by omega) rfl rfl
                      | (exfalso; omega)
                  · have s6 := sg2 s5
                    first
                      | (exfalso; omega)
                      | exact k12 k h19w h45w s5 kl h19l h45l (by omega) rfl rfl rfl
                      | exact k0 (dH_nz s5 kl h19l h45)
                      | (subst c53; exact k0 (dH_ab s5 kl h19l))
            · refine x_int (pc' := 35) (v := nI 0) rfl rfl rfl ?_
              refine x_zret rfl rfl (by decide) ?_
              first
                | exact k0 (dH_ny (by omega) kl h19)
                | (subst c27; subst c31; exact k0 dH_n4)
        · refine ⟨rfl, ?_⟩
          refine x_if_eq (pc' := 25) rfl rfl (fun _ => ?_) (fun c22 => absurd (by decide) c22)
          refine x_int (pc' := 35) (v := nI 0) rfl rfl rfl ?_
          refine x_zret rfl rfl (by decide) ?_
          first
            | exact k0 (dH_ny (by omega) kl h19)
            | (subst c27; subst c31; exact k0 dH_n4)
      · refine x_int (pc' := 17) (v := nI 1) rfl rfl rfl ?_
        refine x_zret rfl rfl (by decide) ?_
        subst c13
        exact k10 rfl
    · refine x_int (pc' := 11) (v := nI 0) rfl rfl rfl ?_
      refine x_zret rfl rfl (by decide) ?_
      first
        | exact k0 (dH_nx (okN_neg (by decide) c1))
        | exact k0 (dH_nx (okN_gt (n := 6) (by decide) (Int32.not_le.mp c7)))
set_option maxRecDepth 20000 in
set_option maxHeartbeats 1000000 in
theorem w_X10_needs {D : Nat → Nat → Int32} {L : Nat → Nat → Int64} {Q : bh_Q} {k : Nat} (hk : k < 7) (k1 : Q (some (.int (nI (sg k)))) (hp D L)) : bh_wc 1 m_X10_needs [.int (nI k)] (hp D L) Q := by
  refine x_start (lv0 := [_]) (Nat.le_of_ble_eq_true rfl) rfl ?_
  refine x_iload (pc' := 1) rfl rfl rfl ?_
  refine y_if_ne (pc' := 4) rfl rfl (by omega) (fun c1 => ?_) (fun c1 => ?_)
  · refine x_iload (pc' := 9) rfl rfl rfl ?_
    refine x_int (pc' := 10) (v := nI 5) rfl rfl rfl ?_
    refine y_ic_ge (pc' := 13) rfl rfl (by omega) (by omega) (fun c10 => ?_) (fun c10 => ?_)
    · refine x_int (pc' := 18) (v := nI 2) rfl rfl rfl ?_
      refine x_iret rfl rfl ?_
      have s : k = 0 ∨ (1 ≤ k ∧ k < 5) ∨ 5 ≤ k := by omega
      rcases s with rfl | ⟨s1, s2⟩ | s
      · first
          | exact k1
          | (exfalso; omega)
      · rw [sg1 s1 s2] at k1
        first
          | exact k1
          | (exfalso; omega)
      · rw [sg2 s] at k1
        first
          | exact k1
          | (exfalso; omega)
    · refine x_int (pc' := 14) (v := nI 1) rfl rfl rfl ?_
      refine x_goto rfl ?_
      refine x_iret rfl rfl ?_
      have s : k = 0 ∨ (1 ≤ k ∧ k < 5) ∨ 5 ≤ k := by omega
      rcases s with rfl | ⟨s1, s2⟩ | s
      · first
          | exact k1
          | (exfalso; omega)
      · rw [sg1 s1 s2] at k1
        first
          | exact k1
          | (exfalso; omega)
      · rw [sg2 s] at k1
        first
          | exact k1
          | (exfalso; omega)
  · refine x_int (pc' := 5) (v := nI 0) rfl rfl rfl ?_
    refine x_goto rfl ?_
    refine x_iret rfl rfl ?_
    have s : k = 0 ∨ (1 ≤ k ∧ k < 5) ∨ 5 ≤ k := by omega
    rcases s with rfl | ⟨s1, s2⟩ | s
    · first
        | exact k1
        | (exfalso; omega)
    · rw [sg1 s1 s2] at k1
      first
        | exact k1
        | (exfalso; omega)
    · rw [sg2 s] at k1
      first
        | exact k1
        | (exfalso; omega)
theorem in_one {x : Int32} (h1 : nI 1 ≤ x) (h2 : x ≤ nI 15) : ∃ j : Nat, 1 ≤ j ∧ j < 16 ∧ x = nI j := by
  obtain ⟨j, hj, rfl⟩ := in_okL (n := 15) (by decide) (Int32.le_trans (by decide) h1) h2
  exact ⟨j, (nI_leI (a := 1) (by decide) (by omega)).mp h1, by omega, rfl⟩
theorem dH_four {y z : Int32} (h : ¬ (nI 1 ≤ y ∧ y ≤ nI 15)) : dH (nI 4) y z = none := by
  by_cases q : okN 16 y
  · obtain ⟨j, hj, rfl⟩ := q
    by_cases e : j = 0
    · subst e; exact dH_n4
    · exact absurd ⟨nI_le (by omega) (by omega), nI_le (by omega) (by decide)⟩ h
  · exact dH_ny (by decide) (by decide) q
set_option maxRecDepth 20000 in
set_option maxHeartbeats 1000000 in
theorem w_X10_isHabit {D : Nat → Nat → Int32} {L : Nat → Nat → Int64} {Q : bh_Q} {x y z : Int32} (k10 : x = nI 0 → Q (some (.int 1)) (hp D L)) (k11 : ∀ k a : Nat, 1 ≤ k → k < 5 → a < 16 → ¬ (k = 4 ∧ a = 0) → x = nI k → y = nI a → Q (some (.int 1)) (hp D L)) (k12 : ∀ k a b : Nat, 5 ≤ k → k < 7 → a < 16 → b < 16 → a ≠ b → x = nI k → y = nI a → z = nI b → Q (some (.int 1)) (hp D L)) (k0 : dH x y z = none → Q (some (.int 0)) (hp D L)) : bh_wc 2 m_X10_isHabit [.int x, .int y, .int z] (hp D L) Q := by
  refine x_start (lv0 := [_, _, _, _]) (Nat.le_of_ble_eq_true rfl) rfl ?_
  refine x_iload (pc' := 1) rfl rfl rfl ?_
  refine x_i2l (pc' := 2) rfl rfl ?_
  refine x_long (pc' := 3) (v := (nI 0).toInt64) rfl rfl (by decide) ?_
  refine x_long (pc' := 6) (v := (nI 6).toInt64) rfl rfl (by decide) ?_
  refine x_callS (pc' := 9) (d1 := 1) (As := [_, _, _]) rfl rfl rfl rfl (by decide) rfl rfl (Nat.le_of_ble_eq_true rfl) ⟨rfl, rfl⟩ (by decide) ?_
  refine w_X10_in (fun h6a h6l => ?_) (fun h6 => ?_)
  · obtain ⟨k, kl, rfl⟩ := in_okL (n := 6) (by decide) h6a h6l
    refine ⟨rfl, ?_⟩
    refine x_if_ne (pc' := 12) rfl rfl (fun _ => ?_) (fun c9 => absurd c9 (by decide))
    refine x_iload (pc' := 15) rfl rfl rfl ?_
    refine x_callS (pc' := 18) (d1 := 1) (As := [_]) rfl rfl rfl rfl (by decide) rfl rfl (Nat.le_of_ble_eq_true rfl) ⟨rfl, rfl⟩ (by decide) ?_
    refine w_X10_needs kl ?_
    refine ⟨rfl, ?_⟩
    refine y_if_eq (pc' := 21) rfl rfl (by first | omega | (have := sg_lt k; omega)) (fun c18 => ?_) (fun c18 => ?_)
    · refine x_int (pc' := 43) (v := nI 1) rfl rfl rfl ?_
      refine x_goto rfl ?_
      refine x_istore (pc' := 48) (lv' := [_, _, _, _]) rfl rfl (by decide) rfl ?_
      refine x_iload (pc' := 49) rfl rfl rfl ?_
      refine x_if_eq (pc' := 52) rfl rfl (fun c49 => absurd c49 (by decide)) (fun _ => ?_)
      refine x_iload (pc' := 53) rfl rfl rfl ?_
      refine x_callS (pc' := 56) (d1 := 1) (As := [_]) rfl rfl rfl rfl (by decide) rfl rfl (Nat.le_of_ble_eq_true rfl) ⟨rfl, rfl⟩ (by decide) ?_
      refine w_X10_needs kl ?_
      refine ⟨rfl, ?_⟩
      refine x_int (pc' := 57) (v := nI 2) rfl rfl rfl ?_
      refine y_ic_lt (pc' := 60) rfl rfl (by first | omega | (have := sg_lt k; omega)) (by first | omega | (have := sg_lt k; omega)) (fun c57 => ?_) (fun c57 => ?_)
      · refine x_int (pc' := 78) (v := nI 1) rfl rfl rfl ?_
        refine x_goto rfl ?_
        refine x_zret rfl rfl (by decide) ?_
        have s5 : k = 0 ∨ (1 ≤ k ∧ k < 5) ∨ 5 ≤ k := by omega
        rcases s5 with rfl | ⟨s4, s5⟩ | s5
        · first
            | exact k10 rfl
            | (exfalso; exact c18 rfl)
            | (have s6 := sg0; exfalso; omega)
        · have s6 := sg1 s4 s5
          first
            | (exfalso; omega)
            | (obtain ⟨a, al, rfl⟩ := in_okL (n := 15) (by decide) h36a h36l; exact k11 k a s4 s5 al (by omega) rfl rfl)
            | (obtain ⟨a, a0, al, rfl⟩ := in_one h36a h36l; exact k11 k a s4 s5 al (by omega) rfl rfl)
            | exact k0 (dH_ny s4 (by omega) (okN_inL (by decide) h36))
            | (subst c25; exact k0 (dH_four h36))
        · have s6 := sg2 s5
          first
            | (exfalso; omega)
            | exact k0 (dH_ny (by omega) kl (okN_inL (by decide) h36))
            | (obtain ⟨a, al, rfl⟩ := in_okL (n := 15) (by decide) h36a h36l; exact k0 (dH_nz s5 kl al (okN_inL (by decide) h66)))
            | (obtain ⟨a, al, rfl⟩ := in_okL (n := 15) (by decide) h36a h36l; obtain ⟨b, bl, rfl⟩ := in_okL (n := 15) (by decide) h66a h66l; exact k12 k a b s5 kl al bl (fun e => c74 (by rw [e])) rfl rfl rfl)
            | (obtain ⟨a, al, rfl⟩ := in_okL (n := 15) (by decide) h36a h36l; subst c74; exact k0 (dH_ab s5 kl al))
      · refine x_iload (pc' := 61) rfl rfl rfl ?_
        refine x_i2l (pc' := 62) rfl rfl ?_
        refine x_long (pc' := 63) (v := (nI 0).toInt64) rfl rfl (by decide) ?_
        refine x_long (pc' := 66) (v := (nI 15).toInt64) rfl rfl (by decide) ?_
        refine x_callS (pc' := 69) (d1 := 1) (As := [_, _, _]) rfl rfl rfl rfl (by decide) rfl rfl (Nat.le_of_ble_eq_true rfl) ⟨rfl, rfl⟩ (by decide) ?_
        refine w_X10_in (fun h66a h66l => ?_) (fun h66 => ?_)
        · refine ⟨rfl, ?_⟩
          refine x_if_eq (pc' := 72) rfl rfl (fun c69 => absurd c69 (by decide)) (fun _ => ?_)
          refine x_iload (pc' := 73) rfl rfl rfl ?_
          refine x_iload (pc' := 74) rfl rfl rfl ?_
          refine x_ic_eq (pc' := 77) rfl rfl (fun c74 => ?_) (fun c74 => ?_)
          · refine x_int (pc' := 82) (v := nI 0) rfl rfl rfl ?_
            refine x_zret rfl rfl (by decide) ?_
            have s5 : k = 0 ∨ (1 ≤ k ∧ k < 5) ∨ 5 ≤ k := by omega
            rcases s5 with rfl | ⟨s4, s5⟩ | s5
            · first
                | exact k10 rfl
                | (exfalso; exact c18 rfl)
                | (have s6 := sg0; exfalso; omega)
            · have s6 := sg1 s4 s5
              first
                | (exfalso; omega)
                | (obtain ⟨a, al, rfl⟩ := in_okL (n := 15) (by decide) h36a h36l; exact k11 k a s4 s5 al (by omega) rfl rfl)
                | (obtain ⟨a, a0, al, rfl⟩ := in_one h36a h36l; exact k11 k a s4 s5 al (by omega) rfl rfl)
                | exact k0 (dH_ny s4 (by omega) (okN_inL (by decide) h36))
                | (subst c25; exact k0 (dH_four h36))
            · have s6 := sg2 s5
              first
                | (exfalso; omega)
                | exact k0 (dH_ny (by omega) kl (okN_inL (by decide) h36))
                | (obtain ⟨a, al, rfl⟩ := in_okL (n := 15) (by decide) h36a h36l; exact k0 (dH_nz s5 kl al (okN_inL (by decide) h66)))
                | (obtain ⟨a, al, rfl⟩ := in_okL (n := 15) (by decide) h36a h36l; obtain ⟨b, bl, rfl⟩ := in_okL (n := 15) (by decide) h66a h66l; exact k12 k a b s5 kl al bl (fun e => c74 (by rw [e])) rfl rfl rfl)
                | (obtain ⟨a, al, rfl⟩ := in_okL (n := 15) (by decide) h36a h36l; subst c74; exact k0 (dH_ab s5 kl al))
          · refine x_int (pc' := 78) (v := nI 1) rfl rfl rfl ?_
            refine x_goto rfl ?_
            refine x_zret rfl rfl (by decide) ?_
            have s5 : k = 0 ∨ (1 ≤ k ∧ k < 5) ∨ 5 ≤ k := by omega
            rcases s5 with rfl | ⟨s4, s5⟩ | s5
            · first
                | exact k10 rfl
                | (exfalso; exact c18 rfl)
                | (have s6 := sg0; exfalso; omega)
            · have s6 := sg1 s4 s5
              first
                | (exfalso; omega)
                | (obtain ⟨a, al, rfl⟩ := in_okL (n := 15) (by decide) h36a h36l; exact k11 k a s4 s5 al (by omega) rfl rfl)
                | (obtain ⟨a, a0, al, rfl⟩ := in_one h36a h36l; exact k11 k a s4 s5 al (by omega) rfl rfl)
                | exact k0 (dH_ny s4 (by omega) (okN_inL (by decide) h36))
                | (subst c25; exact k0 (dH_four h36))
            · have s6 := sg2 s5
              first
                | (exfalso; omega)
                | exact k0 (dH_ny (by omega) kl (okN_inL (by decide) h36))
                | (obtain ⟨a, al, rfl⟩ := in_okL (n := 15) (by decide) h36a h36l; exact k0 (dH_nz s5 kl al (okN_inL (by decide) h66)))
                | (obtain ⟨a, al, rfl⟩ := in_okL (n := 15) (by decide) h36a h36l; obtain ⟨b, bl, rfl⟩ := in_okL (n := 15) (by decide) h66a h66l; exact k12 k a b s5 kl al bl (fun e => c74 (by rw [e])) rfl rfl rfl)
                | (obtain ⟨a, al, rfl⟩ := in_okL (n := 15) (by decide) h36a h36l; subst c74; exact k0 (dH_ab s5 kl al))
        · refine ⟨rfl, ?_⟩
          refine x_if_eq (pc' := 72) rfl rfl (fun _ => ?_) (fun c69 => absurd (by decide) c69)
          refine x_int (pc' := 82) (v := nI 0) rfl rfl rfl ?_
          refine x_zret rfl rfl (by decide) ?_
          have s5 : k = 0 ∨ (1 ≤ k ∧ k < 5) ∨ 5 ≤ k := by omega
          rcases s5 with rfl | ⟨s4, s5⟩ | s5
          · first
              | exact k10 rfl
              | (exfalso; exact c18 rfl)
              | (have s6 := sg0; exfalso; omega)
          · have s6 := sg1 s4 s5
            first
              | (exfalso; omega)
              | (obtain ⟨a, al, rfl⟩ := in_okL (n := 15) (by decide) h36a h36l; exact k11 k a s4 s5 al (by omega) rfl rfl)
              | (obtain ⟨a, a0, al, rfl⟩ := in_one h36a h36l; exact k11 k a s4 s5 al (by omega) rfl rfl)
              | exact k0 (dH_ny s4 (by omega) (okN_inL (by decide) h36))
              | (subst c25; exact k0 (dH_four h36))
          · have s6 := sg2 s5
            first
              | (exfalso; omega)
              | exact k0 (dH_ny (by omega) kl (okN_inL (by decide) h36))
              | (obtain ⟨a, al, rfl⟩ := in_okL (n := 15) (by decide) h36a h36l; exact k0 (dH_nz s5 kl al (okN_inL (by decide) h66)))
              | (obtain ⟨a, al, rfl⟩ := in_okL (n := 15) (by decide) h36a h36l; obtain ⟨b, bl, rfl⟩ := in_okL (n := 15) (by decide) h66a h66l; exact k12 k a b s5 kl al bl (fun e => c74 (by rw [e])) rfl rfl rfl)
              | (obtain ⟨a, al, rfl⟩ := in_okL (n := 15) (by decide) h36a h36l; subst c74; exact k0 (dH_ab s5 kl al))
    · refine x_iload (pc' := 22) rfl rfl rfl ?_
      refine x_i2l (pc' := 23) rfl rfl ?_
      refine x_iload (pc' := 24) rfl rfl rfl ?_
      refine x_int (pc' := 25) (v := nI 4) rfl rfl rfl ?_
      refine y_ic_ne (pc' := 28) rfl rfl (by first | omega | (have := sg_lt k; omega)) (by first | omega | (have := sg_lt k; omega)) (fun c25 => ?_) (fun c25 => ?_)
      · refine x_long (pc' := 33) (v := (nI 0).toInt64) rfl rfl (by decide) ?_
        refine x_long (pc' := 36) (v := (nI 15).toInt64) rfl rfl (by decide) ?_
        refine x_callS (pc' := 39) (d1 := 1) (As := [_, _, _]) rfl rfl rfl rfl (by decide) rfl rfl (Nat.le_of_ble_eq_true rfl) ⟨rfl, rfl⟩ (by decide) ?_
        refine w_X10_in (fun h36a h36l => ?_) (fun h36 => ?_)
        · refine ⟨rfl, ?_⟩
          refine x_if_eq (pc' := 42) rfl rfl (fun c39 => absurd c39 (by decide)) (fun _ => ?_)
          refine x_int (pc' := 43) (v := nI 1) rfl rfl rfl ?_
          refine x_goto rfl ?_
          refine x_istore (pc' := 48) (lv' := [_, _, _, _]) rfl rfl (by decide) rfl ?_
          refine x_iload (pc' := 49) rfl rfl rfl ?_
          refine x_if_eq (pc' := 52) rfl rfl (fun c49 => absurd c49 (by decide)) (fun _ => ?_)
          refine x_iload (pc' := 53) rfl rfl rfl ?_
          refine x_callS (pc' := 56) (d1 := 1) (As := [_]) rfl rfl rfl rfl (by decide) rfl rfl (Nat.le_of_ble_eq_true rfl) ⟨rfl, rfl⟩ (by decide) ?_
          refine w_X10_needs kl ?_
          refine ⟨rfl, ?_⟩
          refine x_int (pc' := 57) (v := nI 2) rfl rfl rfl ?_
          refine y_ic_lt (pc' := 60) rfl rfl (by first | omega | (have := sg_lt k; omega)) (by first | omega | (have := sg_lt k; omega)) (fun c57 => ?_) (fun c57 => ?_)
          · refine x_int (pc' := 78) (v := nI 1) rfl rfl rfl ?_
            refine x_goto rfl ?_
            refine x_zret rfl rfl (by decide) ?_
            have s5 : k = 0 ∨ (1 ≤ k ∧ k < 5) ∨ 5 ≤ k := by omega
            rcases s5 with rfl | ⟨s4, s5⟩ | s5
            · first
                | exact k10 rfl
                | (exfalso; exact c18 rfl)
                | (have s6 := sg0; exfalso; omega)
            · have s6 := sg1 s4 s5
              first
                | (exfalso; omega)
                | (obtain ⟨a, al, rfl⟩ := in_okL (n := 15) (by decide) h36a h36l; exact k11 k a s4 s5 al (by omega) rfl rfl)
                | (obtain ⟨a, a0, al, rfl⟩ := in_one h36a h36l; exact k11 k a s4 s5 al (by omega) rfl rfl)
                | exact k0 (dH_ny s4 (by omega) (okN_inL (by decide) h36))
                | (subst c25; exact k0 (dH_four h36))
            · have s6 := sg2 s5
              first
                | (exfalso; omega)
                | exact k0 (dH_ny (by omega) kl (okN_inL (by decide) h36))
                | (obtain ⟨a, al, rfl⟩ := in_okL (n := 15) (by decide) h36a h36l; exact k0 (dH_nz s5 kl al (okN_inL (by decide) h66)))
                | (obtain ⟨a, al, rfl⟩ := in_okL (n := 15) (by decide) h36a h36l; obtain ⟨b, bl, rfl⟩ := in_okL (n := 15) (by decide) h66a h66l; exact k12 k a b s5 kl al bl (fun e => c74 (by rw [e])) rfl rfl rfl)
                | (obtain ⟨a, al, rfl⟩ := in_okL (n := 15) (by decide) h36a h36l; subst c74; exact k0 (dH_ab s5 kl al))
          · refine x_iload (pc' := 61) rfl rfl rfl ?_
            refine x_i2l (pc' := 62) rfl rfl ?_
            refine x_long (pc' := 63) (v := (nI 0).toInt64) rfl rfl (by decide) ?_
            refine x_long (pc' := 66) (v := (nI 15).toInt64) rfl rfl (by decide) ?_
            refine x_callS (pc' := 69) (d1 := 1) (As := [_, _, _]) rfl rfl rfl rfl (by decide) rfl rfl (Nat.le_of_ble_eq_true rfl) ⟨rfl, rfl⟩ (by decide) ?_
            refine w_X10_in (fun h66a h66l => ?_) (fun h66 => ?_)
            · refine ⟨rfl, ?_⟩
              refine x_if_eq (pc' := 72) rfl rfl (fun c69 => absurd c69 (by decide)) (fun _ => ?_)
              refine x_iload (pc' := 73) rfl rfl rfl ?_
              refine x_iload (pc' := 74) rfl rfl rfl ?_
              refine x_ic_eq (pc' := 77) rfl rfl (fun c74 => ?_) (fun c74 => ?_)
              · refine x_int (pc' := 82) (v := nI 0) rfl rfl rfl ?_
                refine x_zret rfl rfl (by decide) ?_
                have s5 : k = 0 ∨ (1 ≤ k ∧ k < 5) ∨ 5 ≤ k := by omega
                rcases s5 with rfl | ⟨s4, s5⟩ | s5
                · first
                    | exact k10 rfl
                    | (exfalso; exact c18 rfl)
                    | (have s6 := sg0; exfalso; omega)
                · have s6 := sg1 s4 s5
                  first
                    | (exfalso; omega)
                    | (obtain ⟨a, al, rfl⟩ := in_okL (n := 15) (by decide) h36a h36l; exact k11 k a s4 s5 al (by omega) rfl rfl)
                    | (obtain ⟨a, a0, al, rfl⟩ := in_one h36a h36l; exact k11 k a s4 s5 al (by omega) rfl rfl)
                    | exact k0 (dH_ny s4 (by omega) (okN_inL (by decide) h36))
                    | (subst c25; exact k0 (dH_four h36))
                · have s6 := sg2 s5
                  first
                    | (exfalso; omega)
                    | exact k0 (dH_ny (by omega) kl (okN_inL (by decide) h36))
                    | (obtain ⟨a, al, rfl⟩ := in_okL (n := 15) (by decide) h36a h36l; exact k0 (dH_nz s5 kl al (okN_inL (by decide) h66)))
                    | (obtain ⟨a, al, rfl⟩ := in_okL (n := 15) (by decide) h36a h36l; obtain ⟨b, bl, rfl⟩ := in_okL (n := 15) (by decide) h66a h66l; exact k12 k a b s5 kl al bl (fun e => c74 (by rw [e])) rfl rfl rfl)
                    | (obtain ⟨a, al, rfl⟩ := in_okL (n := 15) (by decide) h36a h36l; subst c74; exact k0 (dH_ab s5 kl al))
              · refine x_int (pc' := 78) (v := nI 1) rfl rfl rfl ?_
                refine x_goto rfl ?_
                refine x_zret rfl rfl (by decide) ?_
                have s5 : k = 0 ∨ (1 ≤ k ∧ k < 5) ∨ 5 ≤ k := by omega
                rcases s5 with rfl | ⟨s4, s5⟩ | s5
                · first
                    | exact k10 rfl
                    | (exfalso; exact c18 rfl)
                    | (have s6 := sg0; exfalso; omega)
                · have s6 := sg1 s4 s5
                  first
                    | (exfalso; omega)
                    | (obtain ⟨a, al, rfl⟩ := in_okL (n := 15) (by decide) h36a h36l; exact k11 k a s4 s5 al (by omega) rfl rfl)
                    | (obtain ⟨a, a0, al, rfl⟩ := in_one h36a h36l; exact k11 k a s4 s5 al (by omega) rfl rfl)
                    | exact k0 (dH_ny s4 (by omega) (okN_inL (by decide) h36))
                    | (subst c25; exact k0 (dH_four h36))
                · have s6 := sg2 s5
                  first
                    | (exfalso; omega)
                    | exact k0 (dH_ny (by omega) kl (okN_inL (by decide) h36))
                    | (obtain ⟨a, al, rfl⟩ := in_okL (n := 15) (by decide) h36a h36l; exact k0 (dH_nz s5 kl al (okN_inL (by decide) h66)))
                    | (obtain ⟨a, al, rfl⟩ := in_okL (n := 15) (by decide) h36a h36l; obtain ⟨b, bl, rfl⟩ := in_okL (n := 15) (by decide) h66a h66l; exact k12 k a b s5 kl al bl (fun e => c74 (by rw [e])) rfl rfl rfl)
                    | (obtain ⟨a, al, rfl⟩ := in_okL (n := 15) (by decide) h36a h36l; subst c74; exact k0 (dH_ab s5 kl al))
            · refine ⟨rfl, ?_⟩
              refine x_if_eq (pc' := 72) rfl rfl (fun _ => ?_) (fun c69 => absurd (by decide) c69)
              refine x_int (pc' := 82) (v := nI 0) rfl rfl rfl ?_
              refine x_zret rfl rfl (by decide) ?_
              have s5 : k = 0 ∨ (1 ≤ k ∧ k < 5) ∨ 5 ≤ k := by omega
              rcases s5 with rfl | ⟨s4, s5⟩ | s5
              · first
                  | exact k10 rfl
                  | (exfalso; exact c18 rfl)
                  | (have s6 := sg0; exfalso; omega)
              · have s6 := sg1 s4 s5
                first
                  | (exfalso; omega)
                  | (obtain ⟨a, al, rfl⟩ := in_okL (n := 15) (by decide) h36a h36l; exact k11 k a s4 s5 al (by omega) rfl rfl)
                  | (obtain ⟨a, a0, al, rfl⟩ := in_one h36a h36l; exact k11 k a s4 s5 al (by omega) rfl rfl)
                  | exact k0 (dH_ny s4 (by omega) (okN_inL (by decide) h36))
                  | (subst c25; exact k0 (dH_four h36))
              · have s6 := sg2 s5
                first
                  | (exfalso; omega)
                  | exact k0 (dH_ny (by omega) kl (okN_inL (by decide) h36))
                  | (obtain ⟨a, al, rfl⟩ := in_okL (n := 15) (by decide) h36a h36l; exact k0 (dH_nz s5 kl al (okN_inL (by decide) h66)))
                  | (obtain ⟨a, al, rfl⟩ := in_okL (n := 15) (by decide) h36a h36l; obtain ⟨b, bl, rfl⟩ := in_okL (n := 15) (by decide) h66a h66l; exact k12 k a b s5 kl al bl (fun e => c74 (by rw [e])) rfl rfl rfl)
                  | (obtain ⟨a, al, rfl⟩ := in_okL (n := 15) (by decide) h36a h36l; subst c74; exact k0 (dH_ab s5 kl al))
        · refine ⟨rfl, ?_⟩
          refine x_if_eq (pc' := 42) rfl rfl (fun _ => ?_) (fun c39 => absurd (by decide) c39)
          refine x_int (pc' := 47) (v := nI 0) rfl rfl rfl ?_
          refine x_istore (pc' := 48) (lv' := [_, _, _, _]) rfl rfl (by decide) rfl ?_
          refine x_iload (pc' := 49) rfl rfl rfl ?_
          refine x_if_eq (pc' := 52) rfl rfl (fun _ => ?_) (fun c49 => absurd (by decide) c49)
          refine x_int (pc' := 82) (v := nI 0) rfl rfl rfl ?_
          refine x_zret rfl rfl (by decide) ?_
          have s5 : k = 0 ∨ (1 ≤ k ∧ k < 5) ∨ 5 ≤ k := by omega
          rcases s5 with rfl | ⟨s4, s5⟩ | s5
          · first
              | exact k10 rfl
              | (exfalso; exact c18 rfl)
              | (have s6 := sg0; exfalso; omega)
          · have s6 := sg1 s4 s5
            first
              | (exfalso; omega)
              | (obtain ⟨a, al, rfl⟩ := in_okL (n := 15) (by decide) h36a h36l; exact k11 k a s4 s5 al (by omega) rfl rfl)
              | (obtain ⟨a, a0, al, rfl⟩ := in_one h36a h36l; exact k11 k a s4 s5 al (by omega) rfl rfl)
              | exact k0 (dH_ny s4 (by omega) (okN_inL (by decide) h36))
              | (subst c25; exact k0 (dH_four h36))
          · have s6 := sg2 s5
            first
              | (exfalso; omega)
              | exact k0 (dH_ny (by omega) kl (okN_inL (by decide) h36))
              | (obtain ⟨a, al, rfl⟩ := in_okL (n := 15) (by decide) h36a h36l; exact k0 (dH_nz s5 kl al (okN_inL (by decide) h66)))
              | (obtain ⟨a, al, rfl⟩ := in_okL (n := 15) (by decide) h36a h36l; obtain ⟨b, bl, rfl⟩ := in_okL (n := 15) (by decide) h66a h66l; exact k12 k a b s5 kl al bl (fun e => c74 (by rw [e])) rfl rfl rfl)
              | (obtain ⟨a, al, rfl⟩ := in_okL (n := 15) (by decide) h36a h36l; subst c74; exact k0 (dH_ab s5 kl al))
      · refine x_long (pc' := 29) (v := (nI 1).toInt64) rfl rfl (by decide) ?_
        refine x_goto rfl ?_
        refine x_long (pc' := 36) (v := (nI 15).toInt64) rfl rfl (by decide) ?_
        refine x_callS (pc' := 39) (d1 := 1) (As := [_, _, _]) rfl rfl rfl rfl (by decide) rfl rfl (Nat.le_of_ble_eq_true rfl) ⟨rfl, rfl⟩ (by decide) ?_
        refine w_X10_in (fun h36a h36l => ?_) (fun h36 => ?_)
        · refine ⟨rfl, ?_⟩
          refine x_if_eq (pc' := 42) rfl rfl (fun c39 => absurd c39 (by decide)) (fun _ => ?_)
          refine x_int (pc' := 43) (v := nI 1) rfl rfl rfl ?_
          refine x_goto rfl ?_
          refine x_istore (pc' := 48) (lv' := [_, _, _, _]) rfl rfl (by decide) rfl ?_
          refine x_iload (pc' := 49) rfl rfl rfl ?_
          refine x_if_eq (pc' := 52) rfl rfl (fun c49 => absurd c49 (by decide)) (fun _ => ?_)
          refine x_iload (pc' := 53) rfl rfl rfl ?_
          refine x_callS (pc' := 56) (d1 := 1) (As := [_]) rfl rfl rfl rfl (by decide) rfl rfl (Nat.le_of_ble_eq_true rfl) ⟨rfl, rfl⟩ (by decide) ?_
          refine w_X10_needs kl ?_
          refine ⟨rfl, ?_⟩
          refine x_int (pc' := 57) (v := nI 2) rfl rfl rfl ?_
          refine y_ic_lt (pc' := 60) rfl rfl (by first | omega | (have := sg_lt k; omega)) (by first | omega | (have := sg_lt k; omega)) (fun c57 => ?_) (fun c57 => ?_)
          · refine x_int (pc' := 78) (v := nI 1) rfl rfl rfl ?_
            refine x_goto rfl ?_
            refine x_zret rfl rfl (by decide) ?_
            have s5 : k = 0 ∨ (1 ≤ k ∧ k < 5) ∨ 5 ≤ k := by omega
            rcases s5 with rfl | ⟨s4, s5⟩ | s5
            · first
                | exact k10 rfl
                | (exfalso; exact c18 rfl)
                | (have s6 := sg0; exfalso; omega)
            · have s6 := sg1 s4 s5
              first
                | (exfalso; omega)
                | (obtain ⟨a, al, rfl⟩ := in_okL (n := 15) (by decide) h36a h36l; exact k11 k a s4 s5 al (by omega) rfl rfl)
                | (obtain ⟨a, a0, al, rfl⟩ := in_one h36a h36l; exact k11 k a s4 s5 al (by omega) rfl rfl)
                | exact k0 (dH_ny s4 (by omega) (okN_inL (by decide) h36))
                | (subst c25; exact k0 (dH_four h36))
            · have s6 := sg2 s5
              first
                | (exfalso; omega)
                | exact k0 (dH_ny (by omega) kl (okN_inL (by decide) h36))
                | (obtain ⟨a, al, rfl⟩ := in_okL (n := 15) (by decide) h36a h36l; exact k0 (dH_nz s5 kl al (okN_inL (by decide) h66)))
                | (obtain ⟨a, al, rfl⟩ := in_okL (n := 15) (by decide) h36a h36l; obtain ⟨b, bl, rfl⟩ := in_okL (n := 15) (by decide) h66a h66l; exact k12 k a b s5 kl al bl (fun e => c74 (by rw [e])) rfl rfl rfl)
                | (obtain ⟨a, al, rfl⟩ := in_okL (n := 15) (by decide) h36a h36l; subst c74; exact k0 (dH_ab s5 kl al))
          · refine x_iload (pc' := 61) rfl rfl rfl ?_
            refine x_i2l (pc' := 62) rfl rfl ?_
            refine x_long (pc' := 63) (v := (nI 0).toInt64) rfl rfl (by decide) ?_
            refine x_long (pc' := 66) (v := (nI 15).toInt64) rfl rfl (by decide) ?_
            refine x_callS (pc' := 69) (d1 := 1) (As := [_, _, _]) rfl rfl rfl rfl (by decide) rfl rfl (Nat.le_of_ble_eq_true rfl) ⟨rfl, rfl⟩ (by decide) ?_
            refine w_X10_in (fun h66a h66l => ?_) (fun h66 => ?_)
            · refine ⟨rfl, ?_⟩
              refine x_if_eq (pc' := 72) rfl rfl (fun c69 => absurd c69 (by decide)) (fun _ => ?_)
              refine x_iload (pc' := 73) rfl rfl rfl ?_
              refine x_iload (pc' := 74) rfl rfl rfl ?_
              refine x_ic_eq (pc' := 77) rfl rfl (fun c74 => ?_) (fun c74 => ?_)
              · refine x_int (pc' := 82) (v := nI 0) rfl rfl rfl ?_
                refine x_zret rfl rfl (by decide) ?_
                have s5 : k = 0 ∨ (1 ≤ k ∧ k < 5) ∨ 5 ≤ k := by omega
                rcases s5 with rfl | ⟨s4, s5⟩ | s5
                · first
                    | exact k10 rfl
                    | (exfalso; exact c18 rfl)
                    | (have s6 := sg0; exfalso; omega)
                · have s6 := sg1 s4 s5
                  first
                    | (exfalso; omega)
                    | (obtain ⟨a, al, rfl⟩ := in_okL (n := 15) (by decide) h36a h36l; exact k11 k a s4 s5 al (by omega) rfl rfl)
                    | (obtain ⟨a, a0, al, rfl⟩ := in_one h36a h36l; exact k11 k a s4 s5 al (by omega) rfl rfl)
                    | exact k0 (dH_ny s4 (by omega) (okN_inL (by decide) h36))
                    | (subst c25; exact k0 (dH_four h36))
                · have s6 := sg2 s5
                  first
                    | (exfalso; omega)
                    | exact k0 (dH_ny (by omega) kl (okN_inL (by decide) h36))
                    | (obtain ⟨a, al, rfl⟩ := in_okL (n := 15) (by decide) h36a h36l; exact k0 (dH_nz s5 kl al (okN_inL (by decide) h66)))
                    | (obtain ⟨a, al, rfl⟩ := in_okL (n := 15) (by decide) h36a h36l; obtain ⟨b, bl, rfl⟩ := in_okL (n := 15) (by decide) h66a h66l; exact k12 k a b s5 kl al bl (fun e => c74 (by rw [e])) rfl rfl rfl)
                    | (obtain ⟨a, al, rfl⟩ := in_okL (n := 15) (by decide) h36a h36l; subst c74; exact k0 (dH_ab s5 kl al))
              · refine x_int (pc' := 78) (v := nI 1) rfl rfl rfl ?_
                refine x_goto rfl ?_
                refine x_zret rfl rfl (by decide) ?_
                have s5 : k = 0 ∨ (1 ≤ k ∧ k < 5) ∨ 5 ≤ k := by omega
                rcases s5 with rfl | ⟨s4, s5⟩ | s5
                · first
                    | exact k10 rfl
                    | (exfalso; exact c18 rfl)
                    | (have s6 := sg0; exfalso; omega)
                · have s6 := sg1 s4 s5
                  first
                    | (exfalso; omega)
                    | (obtain ⟨a, al, rfl⟩ := in_okL (n := 15) (by decide) h36a h36l; exact k11 k a s4 s5 al (by omega) rfl rfl)
                    | (obtain ⟨a, a0, al, rfl⟩ := in_one h36a h36l; exact k11 k a s4 s5 al (by omega) rfl rfl)
                    | exact k0 (dH_ny s4 (by omega) (okN_inL (by decide) h36))
                    | (subst c25; exact k0 (dH_four h36))
                · have s6 := sg2 s5
                  first
                    | (exfalso; omega)
                    | exact k0 (dH_ny (by omega) kl (okN_inL (by decide) h36))
                    | (obtain ⟨a, al, rfl⟩ := in_okL (n := 15) (by decide) h36a h36l; exact k0 (dH_nz s5 kl al (okN_inL (by decide) h66)))
                    | (obtain ⟨a, al, rfl⟩ := in_okL (n := 15) (by decide) h36a h36l; obtain ⟨b, bl, rfl⟩ := in_okL (n := 15) (by decide) h66a h66l; exact k12 k a b s5 kl al bl (fun e => c74 (by rw [e])) rfl rfl rfl)
                    | (obtain ⟨a, al, rfl⟩ := in_okL (n := 15) (by decide) h36a h36l; subst c74; exact k0 (dH_ab s5 kl al))
            · refine ⟨rfl, ?_⟩
              refine x_if_eq (pc' := 72) rfl rfl (fun _ => ?_) (fun c69 => absurd (by decide) c69)
              refine x_int (pc' := 82) (v := nI 0) rfl rfl rfl ?_
              refine x_zret rfl rfl (by decide) ?_
              have s5 : k = 0 ∨ (1 ≤ k ∧ k < 5) ∨ 5 ≤ k := by omega
              rcases s5 with rfl | ⟨s4, s5⟩ | s5
              · first
                  | exact k10 rfl
                  | (exfalso; exact c18 rfl)
                  | (have s6 := sg0; exfalso; omega)
              · have s6 := sg1 s4 s5
                first
                  | (exfalso; omega)
                  | (obtain ⟨a, al, rfl⟩ := in_okL (n := 15) (by decide) h36a h36l; exact k11 k a s4 s5 al (by omega) rfl rfl)
                  | (obtain ⟨a, a0, al, rfl⟩ := in_one h36a h36l; exact k11 k a s4 s5 al (by omega) rfl rfl)
                  | exact k0 (dH_ny s4 (by omega) (okN_inL (by decide) h36))
                  | (subst c25; exact k0 (dH_four h36))
              · have s6 := sg2 s5
                first
                  | (exfalso; omega)
                  | exact k0 (dH_ny (by omega) kl (okN_inL (by decide) h36))
                  | (obtain ⟨a, al, rfl⟩ := in_okL (n := 15) (by decide) h36a h36l; exact k0 (dH_nz s5 kl al (okN_inL (by decide) h66)))
                  | (obtain ⟨a, al, rfl⟩ := in_okL (n := 15) (by decide) h36a h36l; obtain ⟨b, bl, rfl⟩ := in_okL (n := 15) (by decide) h66a h66l; exact k12 k a b s5 kl al bl (fun e => c74 (by rw [e])) rfl rfl rfl)
                  | (obtain ⟨a, al, rfl⟩ := in_okL (n := 15) (by decide) h36a h36l; subst c74; exact k0 (dH_ab s5 kl al))
        · refine ⟨rfl, ?_⟩
          refine x_if_eq (pc' := 42) rfl rfl (fun _ => ?_) (fun c39 => absurd (by decide) c39)
          refine x_int (pc' := 47) (v := nI 0) rfl rfl rfl ?_
          refine x_istore (pc' := 48) (lv' := [_, _, _, _]) rfl rfl (by decide) rfl ?_
          refine x_iload (pc' := 49) rfl rfl rfl ?_
          refine x_if_eq (pc' := 52) rfl rfl (fun _ => ?_) (fun c49 => absurd (by decide) c49)
          refine x_int (pc' := 82) (v := nI 0) rfl rfl rfl ?_
          refine x_zret rfl rfl (by decide) ?_
          have s5 : k = 0 ∨ (1 ≤ k ∧ k < 5) ∨ 5 ≤ k := by omega
          rcases s5 with rfl | ⟨s4, s5⟩ | s5
          · first
              | exact k10 rfl
              | (exfalso; exact c18 rfl)
              | (have s6 := sg0; exfalso; omega)
          · have s6 := sg1 s4 s5
            first
              | (exfalso; omega)
              | (obtain ⟨a, al, rfl⟩ := in_okL (n := 15) (by decide) h36a h36l; exact k11 k a s4 s5 al (by omega) rfl rfl)
              | (obtain ⟨a, a0, al, rfl⟩ := in_one h36a h36l; exact k11 k a s4 s5 al (by omega) rfl rfl)
              | exact k0 (dH_ny s4 (by omega) (okN_inL (by decide) h36))
              | (subst c25; exact k0 (dH_four h36))
          · have s6 := sg2 s5
            first
              | (exfalso; omega)
              | exact k0 (dH_ny (by omega) kl (okN_inL (by decide) h36))
              | (obtain ⟨a, al, rfl⟩ := in_okL (n := 15) (by decide) h36a h36l; exact k0 (dH_nz s5 kl al (okN_inL (by decide) h66)))
              | (obtain ⟨a, al, rfl⟩ := in_okL (n := 15) (by decide) h36a h36l; obtain ⟨b, bl, rfl⟩ := in_okL (n := 15) (by decide) h66a h66l; exact k12 k a b s5 kl al bl (fun e => c74 (by rw [e])) rfl rfl rfl)
              | (obtain ⟨a, al, rfl⟩ := in_okL (n := 15) (by decide) h36a h36l; subst c74; exact k0 (dH_ab s5 kl al))
  · refine ⟨rfl, ?_⟩
    refine x_if_ne (pc' := 12) rfl rfl (fun c9 => absurd (by decide) c9) (fun _ => ?_)
    refine x_int (pc' := 13) (v := nI 0) rfl rfl rfl ?_
    refine x_zret rfl rfl (by decide) ?_
    exact k0 (dH_nx (okN_inL (by decide) h6))
def upH (T : TW) (w k a b : Nat) : TW := bh_up2 (bh_up2 (bh_up2 T 2 w (nI k)) 3 w (nI a)) 4 w (nI b)
def teachR (T : TW) (x u y z : Int32) : Int32 × Option TW := match dN (nw T) x, dH u y z with
  | some w, some (k, a, b) => if isD T w = true then (-4, none) else if kd T w = k ∧ fa T w = a ∧ fb T w = b then (-2, none) else (T 2 w, some (upH T w k a b))
  | _, _ => (-1, none)
theorem upH_2 (T : TW) (w k a b v : Nat) : upH T w k a b 2 v = if v = w then nI k else T 2 v := by
  unfold upH; rw [bh_up2_ne _ _ _ (by decide), bh_up2_ne _ _ _ (by decide), bh_up2_k]
theorem upH_3 (T : TW) (w k a b v : Nat) : upH T w k a b 3 v = if v = w then nI a else T 3 v := by
  unfold upH; rw [bh_up2_ne _ _ _ (by decide), bh_up2_k]; rfl
theorem upH_4 (T : TW) (w k a b v : Nat) : upH T w k a b 4 v = if v = w then nI b else T 4 v := by
  unfold upH; rw [bh_up2_k]; rfl
theorem wf_hab {T : TW} (hW : WF T) {w k a b : Nat} (h : hok k a b) : WF (upH T w k a b) := by
  refine ⟨hW.1, fun v hv => ?_, hW.2.2.1, hW.2.2.2.1, hW.2.2.2.2⟩
  obtain ⟨a1, a2, a3, a4, a5, a6, a7⟩ := hW.2.1 v hv
  refine ⟨a1, ?_, ?_, ?_, ?_, a6, a7⟩
  · rw [upH_2]; by_cases e : v = w
    · rw [if_pos e]; exact is_nI h.1 (by decide)
    · rw [if_neg e]; exact a2
  · rw [upH_3]; by_cases e : v = w
    · rw [if_pos e]; exact is_nI h.2.1 (by decide)
    · rw [if_neg e]; exact a3
  · rw [upH_4]; by_cases e : v = w
    · rw [if_pos e]; exact is_nI h.2.2.1 (by decide)
    · rw [if_neg e]; exact a4
  · unfold kd fa fb
    rw [upH_2, upH_3, upH_4]; by_cases e : v = w
    · rw [if_pos e, if_pos e, if_pos e, nI_clamp (by have := h.1; omega), nI_clamp (by have := h.2.1; omega), nI_clamp (by have := h.2.2.1; omega)]; exact h
    · rw [if_neg e, if_neg e, if_neg e]; exact a5
theorem teach_good {T : TW} {ps : List TW} {sh : Nat → Option TW} (x u y z : Int32) (hG : Good T ps sh) : Good (nxT T (teachR T x u y z).2) (nxP T ps (teachR T x u y z).2) sh := by
  refine good_nx hG (fun T' h => ?_)
  have h12 := hG.1.nwl
  unfold teachR at h
  split at h
  next w k a b hw hd =>
    split at h
    · cases h
    split at h
    · cases h
    · cases h
      exact wf_hab hG.1 (dH_hok hd)
  next => cases h
theorem rn_hab {T : TW} {N : Nat → Int32} (hW : WF T) (hR : Rn T N) {w k a b : Nat} {y z : Int32} (hw : w < nw T) (hk : k < 7) (hy : 1 ≤ k → y = nI a) (hz : 5 ≤ k → z = nI b) : Rn (upH T w k a b) (fun q => if q = 4 + 10 * w + 3 then z else if q = 4 + 10 * w + 2 then y else if q = 4 + 10 * w + 1 then nI k else N q) := by
  have h1 := hW.nsl
  have h12 := hW.nwl
  have h4 := hW.nbl
  have X : ∀ q, q ≠ 4 + 10 * w + 3 → q ≠ 4 + 10 * w + 2 → q ≠ 4 + 10 * w + 1 → (if q = 4 + 10 * w + 3 then z else if q = 4 + 10 * w + 2 then y else if q = 4 + 10 * w + 1 then nI k else N q) = N q := fun k a b c => by rw [if_neg a, if_neg b, if_neg c]
  refine ⟨⟨(X 0 (by omega) (by omega) (by omega)).trans hR.1.1, (X 1 (by omega) (by omega) (by omega)).trans hR.1.2.1, (X 2 (by omega) (by omega) (by omega)).trans hR.1.2.2.1, (X 3 (by omega) (by omega) (by omega)).trans hR.1.2.2.2⟩, fun v hv => ?_, fun b hb => ⟨(X _ (by omega) (by omega) (by omega)).trans (hR.2.2.1 b hb).1, fun q hq => (X _ (by omega) (by omega) (by omega)).trans ((hR.2.2.1 b hb).2 q hq)⟩, fun w b q hw hb hq hs => (X _ (by omega) (by omega) (by omega)).trans (hR.2.2.2.1 w b q hw hb hq hs), fun i hi => (X _ (by omega) (by omega) (by omega)).trans (hR.2.2.2.2 i hi)⟩
  have h := hR.2.1 v hv
  have hw3 : v < nw T := hv
  refine ⟨(X _ (by omega) (by omega) (by omega)).trans h.1, ?_, fun hk => ?_, fun hk => ?_, (X _ (by omega) (by omega) (by omega)).trans h.2.2.2.2.1, (X _ (by omega) (by omega) (by omega)).trans h.2.2.2.2.2.1, (X _ (by omega) (by omega) (by omega)).trans h.2.2.2.2.2.2.1, (X _ (by omega) (by omega) (by omega)).trans h.2.2.2.2.2.2.2.1, (X _ (by omega) (by omega) (by omega)).trans h.2.2.2.2.2.2.2.2.1, (X _ (by omega) (by omega) (by omega)).trans h.2.2.2.2.2.2.2.2.2⟩
  · rw [upH_2]
    dsimp only
    by_cases e : v = w
    · rw [if_neg (by omega), if_neg (by omega), if_pos (by omega), if_pos e]
    · rw [if_neg e, X _ (by omega) (by omega) (by omega)]; exact h.2.1
  · have hk2 : 1 ≤ (upH T w k a b 2 v).toNatClampNeg := hk
    rw [upH_2] at hk2
    rw [upH_3]
    dsimp only
    by_cases e : v = w
    · rw [if_pos e, nI_clamp (by omega)] at hk2
      rw [if_neg (by omega), if_pos (by omega), if_pos e, hy hk2]
    · rw [if_neg e] at hk2
      rw [if_neg e, X _ (by omega) (by omega) (by omega)]; exact h.2.2.1 hk2
  · have hk2 : 5 ≤ (upH T w k a b 2 v).toNatClampNeg := hk
    rw [upH_2] at hk2
    rw [upH_4]
    dsimp only
    by_cases e : v = w
    · rw [if_pos e, nI_clamp (by omega)] at hk2
      rw [if_pos (by omega), if_pos e, hz hk2]
    · rw [if_neg e] at hk2
      rw [if_neg e, X _ (by omega) (by omega) (by omega)]; exact h.2.2.2.1 hk2
set_option maxRecDepth 20000 in
set_option maxHeartbeats 1000000 in
theorem w_X7_setHabit {D : Nat → Nat → Int32} {L : Nat → Nat → Int64} {Q : bh_Q} {w : Nat} {x y z : Int32} (hw : w < 12) (k1 : Q none (hp (bh_up2 (bh_up2 (bh_up2 D 3 w x) 4 w y) 5 w z) L)) : bh_wc 1 m_X7_setHabit [.ref 1, .int (nI w), .int x, .int y, .int z] (hp D L) Q := by
  refine x_start (lv0 := [_, _, _, _, _]) (Nat.le_of_ble_eq_true rfl) rfl ?_
  refine x_aload (pc' := 1) rfl rfl rfl ?_
  refine x_getR (pc' := 4) rfl rfl rfl (by decide) rfl (by decide) rfl rfl ?_
  refine x_iload (pc' := 5) rfl rfl rfl ?_
  refine x_iload (pc' := 6) rfl rfl rfl ?_
  refine x_iast (pc' := 7) rfl rfl (by decide) rfl (by decide) (show _ < 12 by omega) ?_
  refine x_aload (pc' := 8) rfl rfl rfl ?_
  refine x_getR (pc' := 11) rfl rfl rfl (by decide) rfl (by decide) rfl rfl ?_
  refine x_iload (pc' := 12) rfl rfl rfl ?_
  refine x_iload (pc' := 13) rfl rfl rfl ?_
  refine x_iast (pc' := 14) rfl rfl (by decide) rfl (by decide) (show _ < 12 by omega) ?_
  refine x_aload (pc' := 15) rfl rfl rfl ?_
  refine x_getR (pc' := 18) rfl rfl rfl (by decide) rfl (by decide) rfl rfl ?_
  refine x_iload (pc' := 19) rfl rfl rfl ?_
  refine x_iload (pc' := 21) rfl rfl rfl ?_
  refine x_iast (pc' := 22) rfl rfl (by decide) rfl (by decide) (show _ < 12 by omega) ?_
  refine x_vret rfl rfl ?_
  exact k1
set_option maxRecDepth 20000 in
set_option maxHeartbeats 1000000 in
theorem w_X9_teach {D : Nat → Nat → Int32} {L : Nat → Nat → Int64} {Q : bh_Q} {ps : List TW} {sh : Nat → Option TW} {tp : List Nat} (hI : InvC D ps sh tp) (hG : Good (tv D) ps sh) {x u y z : Int32} (k1 : ∀ D1, (∀ k, 205 ≤ k → D1 k = D k) → tv D1 = nxT (tv D) (teachR (tv D) x u y z).2 → InvC D1 (nxP (tv D) ps (teachR (tv D) x u y z).2) sh tp → Q (some (.int (teachR (tv D) x u y z).1)) (hp D1 L)) : bh_wc 4 m_X9_teach [.ref 0, .int x, .int u, .int y, .int z] (hp D L) Q := by
  refine x_start (lv0 := [_, _, _, _, _, _, _, _]) (Nat.le_of_ble_eq_true rfl) rfl ?_
  have hW := hG.1
  have h12 := hW.nwl
  have hH := hI.1
  refine x_aload (pc' := 1) rfl rfl rfl ?_
  refine x_getR (pc' := 4) rfl rfl rfl (by decide) rfl (by decide) rfl rfl ?_
  refine x_iload (pc' := 5) rfl rfl rfl ?_
  refine x_callV (pc' := 8) (d1 := 1) (Bs := [_]) rfl rfl rfl rfl rfl rfl rfl (Nat.le_of_ble_eq_true rfl) ⟨rfl, rfl⟩ (by decide) rfl (by decide) ?_
  refine w_X7_isWriter hW (fun h5w h5l e => ?_) (fun h5 => ?_)
  · subst e
    refine ⟨rfl, ?_⟩
    refine x_if_eq (pc' := 11) rfl rfl (fun c8 => absurd c8 (by decide)) (fun _ => ?_)
    refine x_iload (pc' := 12) rfl rfl rfl ?_
    refine x_iload (pc' := 13) rfl rfl rfl ?_
    refine x_iload (pc' := 15) rfl rfl rfl ?_
    refine x_callS (pc' := 18) (d1 := 2) (As := [_, _, _]) rfl rfl rfl rfl (by decide) rfl rfl (Nat.le_of_ble_eq_true rfl) ⟨rfl, rfl⟩ (by decide) ?_
    refine w_X1_stands (fun e15 => ?_) (fun k a k1l k5l al n4 e15 f15 => ?_) (fun k a b k5l k7l al bl nab e15 f15 g15 => ?_) (fun hs => ?_)
    · subst e15
      refine ⟨rfl, ?_⟩
      refine x_if_ne (pc' := 21) rfl rfl (fun _ => ?_) (fun c18 => absurd c18 (by decide))
      refine x_aload (pc' := 24) rfl rfl rfl ?_
      refine x_getR (pc' := 27) rfl rfl rfl (by decide) rfl (by decide) rfl rfl ?_
      refine x_iload (pc' := 28) rfl rfl rfl ?_
      refine x_callV (pc' := 31) (d1 := 1) (Bs := [_]) rfl rfl rfl rfl rfl rfl rfl (Nat.le_of_ble_eq_true rfl) ⟨rfl, rfl⟩ (by decide) rfl (by decide) ?_
      refine w_X7_isDead hW (by assumption) (fun h28 => ?_) (fun h28 => ?_)
      · refine ⟨rfl, ?_⟩
        refine x_if_eq (pc' := 34) rfl rfl (fun c31 => absurd c31 (by decide)) (fun _ => ?_)
        refine x_int (pc' := 36) (v := (-4)) rfl rfl rfl ?_
        refine x_iret rfl rfl ?_
        have e : teachR (tv D) (nI h5w) (nI 0) y z = (-4, none) := by unfold teachR; rw [dN_some h5l (by omega), dH_0]; dsimp only; exact if_pos h28
        rw [e] at k1
        exact k1 D (fun _ _ => rfl) rfl hI
      · refine ⟨rfl, ?_⟩
        refine x_if_eq (pc' := 34) rfl rfl (fun _ => ?_) (fun c31 => absurd (by decide) c31)
        refine x_iload (pc' := 38) rfl rfl rfl ?_
        refine x_callS (pc' := 41) (d1 := 1) (As := [_]) rfl rfl rfl rfl (by decide) rfl rfl (Nat.le_of_ble_eq_true rfl) ⟨rfl, rfl⟩ (by decide) ?_
        refine w_X1_signsOf (by omega) ?_
        refine ⟨rfl, ?_⟩
        refine x_top (congrArg nI (sg0)) ?_
        refine x_if_le (pc' := 44) rfl rfl (fun _ => ?_) (fun c41 => absurd (by decide) c41)
        refine x_int (pc' := 49) (v := nI 0) rfl rfl rfl ?_
        refine x_istore (pc' := 51) (lv' := [_, _, _, _, _, _, _, _]) rfl rfl (by decide) rfl ?_
        refine x_iload (pc' := 52) rfl rfl rfl ?_
        refine x_callS (pc' := 55) (d1 := 1) (As := [_]) rfl rfl rfl rfl (by decide) rfl rfl (Nat.le_of_ble_eq_true rfl) ⟨rfl, rfl⟩ (by decide) ?_
        refine w_X1_signsOf (by omega) ?_
        refine ⟨rfl, ?_⟩
        refine x_top (congrArg nI (sg0)) ?_
        refine x_int (pc' := 56) (v := nI 1) rfl rfl rfl ?_
        refine x_ic_le (pc' := 59) rfl rfl (fun _ => ?_) (fun c56 => absurd (by decide) c56)
        refine x_int (pc' := 65) (v := nI 0) rfl rfl rfl ?_
        refine x_istore (pc' := 67) (lv' := [_, _, _, _, _, _, _, _]) rfl rfl (by decide) rfl ?_
        refine x_aload (pc' := 68) rfl rfl rfl ?_
        refine x_getR (pc' := 71) rfl rfl rfl (by decide) rfl (by decide) rfl rfl ?_
        refine x_iload (pc' := 72) rfl rfl rfl ?_
        refine x_iload (pc' := 73) rfl rfl rfl ?_
        refine x_iload (pc' := 75) rfl rfl rfl ?_
        refine x_iload (pc' := 77) rfl rfl rfl ?_
        refine x_callV (pc' := 80) (d1 := 1) (Bs := [_, _, _, _]) rfl rfl rfl rfl rfl rfl rfl (Nat.le_of_ble_eq_true rfl) ⟨rfl, rfl⟩ (by decide) rfl (by decide) ?_
        refine w_X7_hasHabit hW h5l (by omega) (by omega) (by omega) (fun q1 q2 q3 => ?_) (fun h77 => ?_)
        · refine ⟨rfl, ?_⟩
          refine x_if_eq (pc' := 83) rfl rfl (fun c80 => absurd c80 (by decide)) (fun _ => ?_)
          refine x_int (pc' := 85) (v := (-2)) rfl rfl rfl ?_
          refine x_iret rfl rfl ?_
          have e : teachR (tv D) (nI h5w) (nI 0) y z = (-2, none) := by unfold teachR; rw [dN_some h5l (by omega), dH_0]; dsimp only; rw [if_neg (by rw [h28]; decide)]; exact if_pos ⟨q1, q2, q3⟩
          rw [e] at k1
          exact k1 D (fun _ _ => rfl) rfl hI
        · refine ⟨rfl, ?_⟩
          refine x_if_eq (pc' := 83) rfl rfl (fun _ => ?_) (fun c80 => absurd (by decide) c80)
          refine x_aload (pc' := 87) rfl rfl rfl ?_
          refine x_callV (pc' := 90) (d1 := 3) (Bs := []) rfl rfl rfl rfl rfl rfl rfl (Nat.le_of_ble_eq_true rfl) ⟨rfl, rfl⟩ (by decide) rfl (by decide) ?_
          refine w_X9_remember hH (fun D1 f1 g1 hH1 => ?_)
          refine ⟨rfl, ?_⟩
          refine x_aload (pc' := 91) rfl rfl rfl ?_
          refine x_getR (pc' := 94) rfl rfl rfl (by decide) rfl (by decide) rfl rfl ?_
          refine x_getR (pc' := 97) rfl rfl rfl (by decide) rfl (by decide) rfl rfl ?_
          refine x_iload (pc' := 98) rfl rfl rfl ?_
          refine x_iald (pc' := 99) rfl rfl (by decide) rfl (by decide) (show _ < 12 by omega) ?_
          refine x_top (congrFun (f1 3 (by decide) (by decide)) h5w) ?_
          refine x_istore (pc' := 101) (lv' := [_, _, _, _, _, _, _, _]) rfl rfl (by decide) rfl ?_
          refine x_aload (pc' := 102) rfl rfl rfl ?_
          refine x_getR (pc' := 105) rfl rfl rfl (by decide) rfl (by decide) rfl rfl ?_
          refine x_iload (pc' := 106) rfl rfl rfl ?_
          refine x_iload (pc' := 107) rfl rfl rfl ?_
          refine x_iload (pc' := 109) rfl rfl rfl ?_
          refine x_iload (pc' := 111) rfl rfl rfl ?_
          refine x_callV (pc' := 114) (d1 := 1) (Bs := [_, _, _, _]) rfl rfl rfl rfl rfl rfl rfl (Nat.le_of_ble_eq_true rfl) ⟨rfl, rfl⟩ (by decide) rfl (by decide) ?_
          refine w_X7_setHabit (by omega) ?_
          refine ⟨rfl, ?_⟩
          refine x_iload (pc' := 116) rfl rfl rfl ?_
          refine x_iret rfl rfl ?_
          have e : teachR (tv D) (nI h5w) (nI 0) y z = (tv D 2 h5w, some (upH (tv D) h5w 0 0 0)) := by unfold teachR; rw [dN_some h5l (by omega), dH_0]; dsimp only; rw [if_neg (by rw [h28]; decide)]; exact if_neg h77
          refine actC hI f1 g1 hH1 k1 e rfl (fun k a b => ?_) ?_
          · rw [bh_up2_ne _ _ _ (by omega), bh_up2_ne _ _ _ (by omega), bh_up2_ne _ _ _ (by omega)]
          · rw [tv_up (j := 4) rfl (by decide), tv_up (j := 3) rfl (by decide), tv_up (j := 2) rfl (by decide), frc_tv f1]; rfl
    · subst e15; subst f15
      refine ⟨rfl, ?_⟩
      refine x_if_ne (pc' := 21) rfl rfl (fun _ => ?_) (fun c18 => absurd c18 (by decide))
      refine x_aload (pc' := 24) rfl rfl rfl ?_
      refine x_getR (pc' := 27) rfl rfl rfl (by decide) rfl (by decide) rfl rfl ?_
      refine x_iload (pc' := 28) rfl rfl rfl ?_
      refine x_callV (pc' := 31) (d1 := 1) (Bs := [_]) rfl rfl rfl rfl rfl rfl rfl (Nat.le_of_ble_eq_true rfl) ⟨rfl, rfl⟩ (by decide) rfl (by decide) ?_
      refine w_X7_isDead hW (by assumption) (fun h28 => ?_) (fun h28 => ?_)
      · refine ⟨rfl, ?_⟩
        refine x_if_eq (pc' := 34) rfl rfl (fun c31 => absurd c31 (by decide)) (fun _ => ?_)
        refine x_int (pc' := 36) (v := (-4)) rfl rfl rfl ?_
        refine x_iret rfl rfl ?_
        have e : teachR (tv D) (nI h5w) (nI k) (nI a) z = (-4, none) := by unfold teachR; rw [dN_some h5l (by omega), dH_1 k1l k5l al n4]; dsimp only; exact if_pos h28
        rw [e] at k1
        exact k1 D (fun _ _ => rfl) rfl hI
      · refine ⟨rfl, ?_⟩
        refine x_if_eq (pc' := 34) rfl rfl (fun _ => ?_) (fun c31 => absurd (by decide) c31)
        refine x_iload (pc' := 38) rfl rfl rfl ?_
        refine x_callS (pc' := 41) (d1 := 1) (As := [_]) rfl rfl rfl rfl (by decide) rfl rfl (Nat.le_of_ble_eq_true rfl) ⟨rfl, rfl⟩ (by decide) ?_
        refine w_X1_signsOf (by omega) ?_
        refine ⟨rfl, ?_⟩
        refine x_top (congrArg nI (sg1 k1l k5l)) ?_
        refine x_if_le (pc' := 44) rfl rfl (fun c41 => absurd c41 (by decide)) (fun _ => ?_)
        refine x_iload (pc' := 45) rfl rfl rfl ?_
        refine x_goto rfl ?_
        refine x_istore (pc' := 51) (lv' := [_, _, _, _, _, _, _, _]) rfl rfl (by decide) rfl ?_
        refine x_iload (pc' := 52) rfl rfl rfl ?_
        refine x_callS (pc' := 55) (d1 := 1) (As := [_]) rfl rfl rfl rfl (by decide) rfl rfl (Nat.le_of_ble_eq_true rfl) ⟨rfl, rfl⟩ (by decide) ?_
        refine w_X1_signsOf (by omega) ?_
        refine ⟨rfl, ?_⟩
        refine x_top (congrArg nI (sg1 k1l k5l)) ?_
        refine x_int (pc' := 56) (v := nI 1) rfl rfl rfl ?_
        refine x_ic_le (pc' := 59) rfl rfl (fun _ => ?_) (fun c56 => absurd (by decide) c56)
        refine x_int (pc' := 65) (v := nI 0) rfl rfl rfl ?_
        refine x_istore (pc' := 67) (lv' := [_, _, _, _, _, _, _, _]) rfl rfl (by decide) rfl ?_
        refine x_aload (pc' := 68) rfl rfl rfl ?_
        refine x_getR (pc' := 71) rfl rfl rfl (by decide) rfl (by decide) rfl rfl ?_
        refine x_iload (pc' := 72) rfl rfl rfl ?_
        refine x_iload (pc' := 73) rfl rfl rfl ?_
        refine x_iload (pc' := 75) rfl rfl rfl ?_
        refine x_iload (pc' := 77) rfl rfl rfl ?_
        refine x_callV (pc' := 80) (d1 := 1) (Bs := [_, _, _, _]) rfl rfl rfl rfl rfl rfl rfl (Nat.le_of_ble_eq_true rfl) ⟨rfl, rfl⟩ (by decide) rfl (by decide) ?_
        refine w_X7_hasHabit hW h5l (by omega) (by omega) (by omega) (fun q1 q2 q3 => ?_) (fun h77 => ?_)
        · refine ⟨rfl, ?_⟩
          refine x_if_eq (pc' := 83) rfl rfl (fun c80 => absurd c80 (by decide)) (fun _ => ?_)
          refine x_int (pc' := 85) (v := (-2)) rfl rfl rfl ?_
          refine x_iret rfl rfl ?_
          have e : teachR (tv D) (nI h5w) (nI k) (nI a) z = (-2, none) := by unfold teachR; rw [dN_some h5l (by omega), dH_1 k1l k5l al n4]; dsimp only; rw [if_neg (by rw [h28]; decide)]; exact if_pos ⟨q1, q2, q3⟩
          rw [e] at k1
          exact k1 D (fun _ _ => rfl) rfl hI
        · refine ⟨rfl, ?_⟩
          refine x_if_eq (pc' := 83) rfl rfl (fun _ => ?_) (fun c80 => absurd (by decide) c80)
          refine x_aload (pc' := 87) rfl rfl rfl ?_
          refine x_callV (pc' := 90) (d1 := 3) (Bs := []) rfl rfl rfl rfl rfl rfl rfl (Nat.le_of_ble_eq_true rfl) ⟨rfl, rfl⟩ (by decide) rfl (by decide) ?_
          refine w_X9_remember hH (fun D1 f1 g1 hH1 => ?_)
          refine ⟨rfl, ?_⟩
          refine x_aload (pc' := 91) rfl rfl rfl ?_
          refine x_getR (pc' := 94) rfl rfl rfl (by decide) rfl (by decide) rfl rfl ?_
          refine x_getR (pc' := 97) rfl rfl rfl (by decide) rfl (by decide) rfl rfl ?_
          refine x_iload (pc' := 98) rfl rfl rfl ?_
          refine x_iald (pc' := 99) rfl rfl (by decide) rfl (by decide) (show _ < 12 by omega) ?_
          refine x_top (congrFun (f1 3 (by decide) (by decide)) h5w) ?_
          refine x_istore (pc' := 101) (lv' := [_, _, _, _, _, _, _, _]) rfl rfl (by decide) rfl ?_
          refine x_aload (pc' := 102) rfl rfl rfl ?_
          refine x_getR (pc' := 105) rfl rfl rfl (by decide) rfl (by decide) rfl rfl ?_
          refine x_iload (pc' := 106) rfl rfl rfl ?_
          refine x_iload (pc' := 107) rfl rfl rfl ?_
          refine x_iload (pc' := 109) rfl rfl rfl ?_
          refine x_iload (pc' := 111) rfl rfl rfl ?_
          refine x_callV (pc' := 114) (d1 := 1) (Bs := [_, _, _, _]) rfl rfl rfl rfl rfl rfl rfl (Nat.le_of_ble_eq_true rfl) ⟨rfl, rfl⟩ (by decide) rfl (by decide) ?_
          refine w_X7_setHabit (by omega) ?_
          refine ⟨rfl, ?_⟩
          refine x_iload (pc' := 116) rfl rfl rfl ?_
          refine x_iret rfl rfl ?_
          have e : teachR (tv D) (nI h5w) (nI k) (nI a) z = (tv D 2 h5w, some (upH (tv D) h5w k a 0)) := by unfold teachR; rw [dN_some h5l (by omega), dH_1 k1l k5l al n4]; dsimp only; rw [if_neg (by rw [h28]; decide)]; exact if_neg h77
          refine actC hI f1 g1 hH1 k1 e rfl (fun k a b => ?_) ?_
          · rw [bh_up2_ne _ _ _ (by omega), bh_up2_ne _ _ _ (by omega), bh_up2_ne _ _ _ (by omega)]
          · rw [tv_up (j := 4) rfl (by decide), tv_up (j := 3) rfl (by decide), tv_up (j := 2) rfl (by decide), frc_tv f1]; rfl
    · subst e15; subst f15; subst g15
      refine ⟨rfl, ?_⟩
      refine x_if_ne (pc' := 21) rfl rfl (fun _ => ?_) (fun c18 => absurd c18 (by decide))
      refine x_aload (pc' := 24) rfl rfl rfl ?_
      refine x_getR (pc' := 27) rfl rfl rfl (by decide) rfl (by decide) rfl rfl ?_
      refine x_iload (pc' := 28) rfl rfl rfl ?_
      refine x_callV (pc' := 31) (d1 := 1) (Bs := [_]) rfl rfl rfl rfl rfl rfl rfl (Nat.le_of_ble_eq_true rfl) ⟨rfl, rfl⟩ (by decide) rfl (by decide) ?_
      refine w_X7_isDead hW (by assumption) (fun h28 => ?_) (fun h28 => ?_)
      · refine ⟨rfl, ?_⟩
        refine x_if_eq (pc' := 34) rfl rfl (fun c31 => absurd c31 (by decide)) (fun _ => ?_)
        refine x_int (pc' := 36) (v := (-4)) rfl rfl rfl ?_
        refine x_iret rfl rfl ?_
        have e : teachR (tv D) (nI h5w) (nI k) (nI a) (nI b) = (-4, none) := by unfold teachR; rw [dN_some h5l (by omega), dH_2 k5l k7l al bl nab]; dsimp only; exact if_pos h28
        rw [e] at k1
        exact k1 D (fun _ _ => rfl) rfl hI
      · refine ⟨rfl, ?_⟩
        refine x_if_eq (pc' := 34) rfl rfl (fun _ => ?_) (fun c31 => absurd (by decide) c31)
        refine x_iload (pc' := 38) rfl rfl rfl ?_
        refine x_callS (pc' := 41) (d1 := 1) (As := [_]) rfl rfl rfl rfl (by decide) rfl rfl (Nat.le_of_ble_eq_true rfl) ⟨rfl, rfl⟩ (by decide) ?_
        refine w_X1_signsOf (by omega) ?_
        refine ⟨rfl, ?_⟩
        refine x_top (congrArg nI (sg2 k5l)) ?_
        refine x_if_le (pc' := 44) rfl rfl (fun c41 => absurd c41 (by decide)) (fun _ => ?_)
        refine x_iload (pc' := 45) rfl rfl rfl ?_
        refine x_goto rfl ?_
        refine x_istore (pc' := 51) (lv' := [_, _, _, _, _, _, _, _]) rfl rfl (by decide) rfl ?_
        refine x_iload (pc' := 52) rfl rfl rfl ?_
        refine x_callS (pc' := 55) (d1 := 1) (As := [_]) rfl rfl rfl rfl (by decide) rfl rfl (Nat.le_of_ble_eq_true rfl) ⟨rfl, rfl⟩ (by decide) ?_
        refine w_X1_signsOf (by omega) ?_
        refine ⟨rfl, ?_⟩
        refine x_top (congrArg nI (sg2 k5l)) ?_
        refine x_int (pc' := 56) (v := nI 1) rfl rfl rfl ?_
        refine x_ic_le (pc' := 59) rfl rfl (fun c56 => absurd c56 (by decide)) (fun _ => ?_)
        refine x_iload (pc' := 61) rfl rfl rfl ?_
        refine x_goto rfl ?_
        refine x_istore (pc' := 67) (lv' := [_, _, _, _, _, _, _, _]) rfl rfl (by decide) rfl ?_
        refine x_aload (pc' := 68) rfl rfl rfl ?_
        refine x_getR (pc' := 71) rfl rfl rfl (by decide) rfl (by decide) rfl rfl ?_
        refine x_iload (pc' := 72) rfl rfl rfl ?_
        refine x_iload (pc' := 73) rfl rfl rfl ?_
        refine x_iload (pc' := 75) rfl rfl rfl ?_
        refine x_iload (pc' := 77) rfl rfl rfl ?_
        refine x_callV (pc' := 80) (d1 := 1) (Bs := [_, _, _, _]) rfl rfl rfl rfl rfl rfl rfl (Nat.le_of_ble_eq_true rfl) ⟨rfl, rfl⟩ (by decide) rfl (by decide) ?_
        refine w_X7_hasHabit hW h5l (by omega) (by omega) (by omega) (fun q1 q2 q3 => ?_) (fun h77 => ?_)
        · refine ⟨rfl, ?_⟩
          refine x_if_eq (pc' := 83) rfl rfl (fun c80 => absurd c80 (by decide)) (fun _ => ?_)
          refine x_int (pc' := 85) (v := (-2)) rfl rfl rfl ?_
          refine x_iret rfl rfl ?_
          have e : teachR (tv D) (nI h5w) (nI k) (nI a) (nI b) = (-2, none) := by unfold teachR; rw [dN_some h5l (by omega), dH_2 k5l k7l al bl nab]; dsimp only; rw [if_neg (by rw [h28]; decide)]; exact if_pos ⟨q1, q2, q3⟩
          rw [e] at k1
          exact k1 D (fun _ _ => rfl) rfl hI
        · refine ⟨rfl, ?_⟩
          refine x_if_eq (pc' := 83) rfl rfl (fun _ => ?_) (fun c80 => absurd (by decide) c80)
          refine x_aload (pc' := 87) rfl rfl rfl ?_
          refine x_callV (pc' := 90) (d1 := 3) (Bs := []) rfl rfl rfl rfl rfl rfl rfl (Nat.le_of_ble_eq_true rfl) ⟨rfl, rfl⟩ (by decide) rfl (by decide) ?_
          refine w_X9_remember hH (fun D1 f1 g1 hH1 => ?_)
          refine ⟨rfl, ?_⟩
          refine x_aload (pc' := 91) rfl rfl rfl ?_
          refine x_getR (pc' := 94) rfl rfl rfl (by decide) rfl (by decide) rfl rfl ?_
          refine x_getR (pc' := 97) rfl rfl rfl (by decide) rfl (by decide) rfl rfl ?_
          refine x_iload (pc' := 98) rfl rfl rfl ?_
          refine x_iald (pc' := 99) rfl rfl (by decide) rfl (by decide) (show _ < 12 by omega) ?_
          refine x_top (congrFun (f1 3 (by decide) (by decide)) h5w) ?_
          refine x_istore (pc' := 101) (lv' := [_, _, _, _, _, _, _, _]) rfl rfl (by decide) rfl ?_
          refine x_aload (pc' := 102) rfl rfl rfl ?_
          refine x_getR (pc' := 105) rfl rfl rfl (by decide) rfl (by decide) rfl rfl ?_
          refine x_iload (pc' := 106) rfl rfl rfl ?_
          refine x_iload (pc' := 107) rfl rfl rfl ?_
          refine x_iload (pc' := 109) rfl rfl rfl ?_
          refine x_iload (pc' := 111) rfl rfl rfl ?_
          refine x_callV (pc' := 114) (d1 := 1) (Bs := [_, _, _, _]) rfl rfl rfl rfl rfl rfl rfl (Nat.le_of_ble_eq_true rfl) ⟨rfl, rfl⟩ (by decide) rfl (by decide) ?_
          refine w_X7_setHabit (by omega) ?_
          refine ⟨rfl, ?_⟩
          refine x_iload (pc' := 116) rfl rfl rfl ?_
          refine x_iret rfl rfl ?_
          have e : teachR (tv D) (nI h5w) (nI k) (nI a) (nI b) = (tv D 2 h5w, some (upH (tv D) h5w k a b)) := by unfold teachR; rw [dN_some h5l (by omega), dH_2 k5l k7l al bl nab]; dsimp only; rw [if_neg (by rw [h28]; decide)]; exact if_neg h77
          refine actC hI f1 g1 hH1 k1 e rfl (fun k a b => ?_) ?_
          · rw [bh_up2_ne _ _ _ (by omega), bh_up2_ne _ _ _ (by omega), bh_up2_ne _ _ _ (by omega)]
          · rw [tv_up (j := 4) rfl (by decide), tv_up (j := 3) rfl (by decide), tv_up (j := 2) rfl (by decide), frc_tv f1]; rfl
    · refine ⟨rfl, ?_⟩
      refine x_if_ne (pc' := 21) rfl rfl (fun c18 => absurd (by decide) c18) (fun _ => ?_)
      refine x_int (pc' := 22) (v := (-1)) rfl rfl rfl ?_
      refine x_iret rfl rfl ?_
      first
        | (have e : teachR (tv D) x u y z = (-1, none) := by unfold teachR; rw [dN_none (by omega) h5]
           rw [e] at k1
           exact k1 D (fun _ _ => rfl) rfl hI)
        | (have e : teachR (tv D) (nI h5w) u y z = (-1, none) := by unfold teachR; rw [dN_some h5l (by omega), hs]
           rw [e] at k1
           exact k1 D (fun _ _ => rfl) rfl hI)
  · refine ⟨rfl, ?_⟩
    refine x_if_eq (pc' := 11) rfl rfl (fun _ => ?_) (fun c8 => absurd (by decide) c8)
    refine x_int (pc' := 22) (v := (-1)) rfl rfl rfl ?_
    refine x_iret rfl rfl ?_
    first
      | (have e : teachR (tv D) x u y z = (-1, none) := by unfold teachR; rw [dN_none (by omega) h5]
         rw [e] at k1
         exact k1 D (fun _ _ => rfl) rfl hI)
      | (have e : teachR (tv D) (nI h5w) u y z = (-1, none) := by unfold teachR; rw [dN_some h5l (by omega), hs]
         rw [e] at k1
         exact k1 D (fun _ _ => rfl) rfl hI)
set_option maxRecDepth 20000 in
set_option maxHeartbeats 1000000 in
theorem w_X10_hasHabit0 {D : Nat → Nat → Int32} {L : Nat → Nat → Int64} {Q : bh_Q} {T : TW} (hW : WF T) (hR : Rn T (D 206)) {w : Nat} (hw : w < nw T) {y z : Int32} (k1 : kd T w = 0 → fa T w = 0 → fb T w = 0 → Q (some (.int 1)) (hp D L)) (k0 : ¬ (kd T w = 0 ∧ fa T w = 0 ∧ fb T w = 0) → Q (some (.int 0)) (hp D L)) : bh_wc 2 m_X10_hasHabit [.ref 205, .int (nI w), .int (nI 0), .int y, .int z] (hp D L) Q := by
  refine x_start (lv0 := [_, _, _, _, _]) (Nat.le_of_ble_eq_true rfl) rfl ?_
  have h12 := hW.nwl
  refine x_aload (pc' := 1) rfl rfl rfl ?_
  refine x_iload (pc' := 2) rfl rfl rfl ?_
  refine x_int (pc' := 3) (v := nI 1) rfl rfl rfl ?_
  refine x_callV (pc' := 6) (d1 := 1) (Bs := [_, _]) rfl rfl rfl rfl rfl rfl rfl (Nat.le_of_ble_eq_true rfl) ⟨rfl, rfl⟩ (by decide) rfl (by decide) ?_
  refine w_X10_of (by omega) (by decide) ?_
  refine ⟨rfl, ?_⟩
  refine x_top ((hR.rkd hw).trans (hW.ekd hw)) ?_
  refine x_iload (pc' := 7) rfl rfl rfl ?_
  refine y_ic_ne (pc' := 10) rfl rfl (by first | omega | (have := hW.kdl hw; have := hW.fal hw; have := hW.fbl hw; omega)) (by first | omega | (have := hW.kdl hw; have := hW.fal hw; have := hW.fbl hw; omega)) (fun c7 => ?_) (fun c7 => ?_)
  · refine x_int (pc' := 51) (v := nI 0) rfl rfl rfl ?_
    refine x_zret rfl rfl (by decide) ?_
    have q4 := (hW.ehok hw).2.2.2.1
    have q5 := (hW.ehok hw).2.2.2.2.1
    first
      | exact k1 (by omega) (by omega) (by omega)
      | exact k0 (by omega)
  · refine x_iload (pc' := 11) rfl rfl rfl ?_
    refine x_callS (pc' := 14) (d1 := 1) (As := [_]) rfl rfl rfl rfl (by decide) rfl rfl (Nat.le_of_ble_eq_true rfl) ⟨rfl, rfl⟩ (by decide) ?_
    refine w_X10_needs (by omega) ?_
    refine ⟨rfl, ?_⟩
    refine x_top (congrArg nI (sg0)) ?_
    refine x_if_eq (pc' := 17) rfl rfl (fun _ => ?_) (fun c14 => absurd (by decide) c14)
    refine x_iload (pc' := 28) rfl rfl rfl ?_
    refine x_callS (pc' := 31) (d1 := 1) (As := [_]) rfl rfl rfl rfl (by decide) rfl rfl (Nat.le_of_ble_eq_true rfl) ⟨rfl, rfl⟩ (by decide) ?_
    refine w_X10_needs (by omega) ?_
    refine ⟨rfl, ?_⟩
    refine x_top (congrArg nI (sg0)) ?_
    refine x_int (pc' := 32) (v := nI 2) rfl rfl rfl ?_
    refine x_ic_lt (pc' := 35) rfl rfl (fun _ => ?_) (fun c32 => absurd (by decide) c32)
    refine x_int (pc' := 47) (v := nI 1) rfl rfl rfl ?_
    refine x_goto rfl ?_
    refine x_zret rfl rfl (by decide) ?_
    have q4 := (hW.ehok hw).2.2.2.1
    have q5 := (hW.ehok hw).2.2.2.2.1
    first
      | exact k1 (by omega) (by omega) (by omega)
      | exact k0 (by omega)
set_option maxRecDepth 20000 in
set_option maxHeartbeats 1000000 in
theorem w_X10_learns0 {D : Nat → Nat → Int32} {L : Nat → Nat → Int64} {Q : bh_Q} {w : Nat} (hw : w < 12) {y z : Int32} (k1 : Q none (hp (bh_up2 (bh_up2 (bh_up2 D 206 (4 + 10 * w + 1) (nI 0)) 206 (4 + 10 * w + 2) (-1)) 206 (4 + 10 * w + 3) (-1)) L)) : bh_wc 2 m_X10_learns [.ref 205, .int (nI w), .int (nI 0), .int y, .int z] (hp D L) Q := by
  refine x_start (lv0 := [_, _, _, _, _]) (Nat.le_of_ble_eq_true rfl) rfl ?_
  refine x_aload (pc' := 1) rfl rfl rfl ?_
  refine x_iload (pc' := 2) rfl rfl rfl ?_
  refine x_int (pc' := 3) (v := nI 1) rfl rfl rfl ?_
  refine x_iload (pc' := 4) rfl rfl rfl ?_
  refine x_callV (pc' := 7) (d1 := 1) (Bs := [_, _, _]) rfl rfl rfl rfl rfl rfl rfl (Nat.le_of_ble_eq_true rfl) ⟨rfl, rfl⟩ (by decide) rfl (by decide) ?_
  refine w_X10_puts_ (by omega) (by decide) ?_
  refine ⟨rfl, ?_⟩
  refine x_aload (pc' := 8) rfl rfl rfl ?_
  refine x_iload (pc' := 9) rfl rfl rfl ?_
  refine x_int (pc' := 10) (v := nI 2) rfl rfl rfl ?_
  refine x_iload (pc' := 11) rfl rfl rfl ?_
  refine x_callS (pc' := 14) (d1 := 1) (As := [_]) rfl rfl rfl rfl (by decide) rfl rfl (Nat.le_of_ble_eq_true rfl) ⟨rfl, rfl⟩ (by decide) ?_
  refine w_X10_needs (by omega) ?_
  refine ⟨rfl, ?_⟩
  refine x_top (congrArg nI (sg0)) ?_
  refine x_if_le (pc' := 17) rfl rfl (fun _ => ?_) (fun c14 => absurd (by decide) c14)
  refine x_int (pc' := 22) (v := (-1)) rfl rfl rfl ?_
  refine x_callV (pc' := 25) (d1 := 1) (Bs := [_, _, _]) rfl rfl rfl rfl rfl rfl rfl (Nat.le_of_ble_eq_true rfl) ⟨rfl, rfl⟩ (by decide) rfl (by decide) ?_
  refine w_X10_puts_ (by omega) (by decide) ?_
  refine ⟨rfl, ?_⟩
  refine x_aload (pc' := 26) rfl rfl rfl ?_
  refine x_iload (pc' := 27) rfl rfl rfl ?_
  refine x_int (pc' := 28) (v := nI 3) rfl rfl rfl ?_
  refine x_iload (pc' := 29) rfl rfl rfl ?_
  refine x_callS (pc' := 32) (d1 := 1) (As := [_]) rfl rfl rfl rfl (by decide) rfl rfl (Nat.le_of_ble_eq_true rfl) ⟨rfl, rfl⟩ (by decide) ?_
  refine w_X10_needs (by omega) ?_
  refine ⟨rfl, ?_⟩
  refine x_top (congrArg nI (sg0)) ?_
  refine x_int (pc' := 33) (v := nI 1) rfl rfl rfl ?_
  refine x_ic_le (pc' := 36) rfl rfl (fun _ => ?_) (fun c33 => absurd (by decide) c33)
  refine x_int (pc' := 42) (v := (-1)) rfl rfl rfl ?_
  refine x_callV (pc' := 45) (d1 := 1) (Bs := [_, _, _]) rfl rfl rfl rfl rfl rfl rfl (Nat.le_of_ble_eq_true rfl) ⟨rfl, rfl⟩ (by decide) rfl (by decide) ?_
  refine w_X10_puts_ (by omega) (by decide) ?_
  refine ⟨rfl, ?_⟩
  refine x_vret rfl rfl ?_
  exact k1
set_option maxRecDepth 20000 in
set_option maxHeartbeats 1000000 in
theorem w_X10_hasHabit1 {D : Nat → Nat → Int32} {L : Nat → Nat → Int64} {Q : bh_Q} {T : TW} (hW : WF T) (hR : Rn T (D 206)) {w : Nat} (hw : w < nw T) {k a : Nat} {z : Int32} (k1l : 1 ≤ k) (k5l : k < 5) (al : a < 16) (k1 : kd T w = k → fa T w = a → fb T w = 0 → Q (some (.int 1)) (hp D L)) (k0 : ¬ (kd T w = k ∧ fa T w = a ∧ fb T w = 0) → Q (some (.int 0)) (hp D L)) : bh_wc 2 m_X10_hasHabit [.ref 205, .int (nI w), .int (nI k), .int (nI a), .int z] (hp D L) Q := by
  refine x_start (lv0 := [_, _, _, _, _]) (Nat.le_of_ble_eq_true rfl) rfl ?_
  have h12 := hW.nwl
  refine x_aload (pc' := 1) rfl rfl rfl ?_
  refine x_iload (pc' := 2) rfl rfl rfl ?_
  refine x_int (pc' := 3) (v := nI 1) rfl rfl rfl ?_
  refine x_callV (pc' := 6) (d1 := 1) (Bs := [_, _]) rfl rfl rfl rfl rfl rfl rfl (Nat.le_of_ble_eq_true rfl) ⟨rfl, rfl⟩ (by decide) rfl (by decide) ?_
  refine w_X10_of (by omega) (by decide) ?_
  refine ⟨rfl, ?_⟩
  refine x_top ((hR.rkd hw).trans (hW.ekd hw)) ?_
  refine x_iload (pc' := 7) rfl rfl rfl ?_
  refine y_ic_ne (pc' := 10) rfl rfl (by first | omega | (have := hW.kdl hw; have := hW.fal hw; have := hW.fbl hw; omega)) (by first | omega | (have := hW.kdl hw; have := hW.fal hw; have := hW.fbl hw; omega)) (fun c7 => ?_) (fun c7 => ?_)
  · refine x_int (pc' := 51) (v := nI 0) rfl rfl rfl ?_
    refine x_zret rfl rfl (by decide) ?_
    have q4 := (hW.ehok hw).2.2.2.1
    have q5 := (hW.ehok hw).2.2.2.2.1
    first
      | exact k1 (by omega) (by omega) (by omega)
      | exact k0 (by omega)
  · refine x_iload (pc' := 11) rfl rfl rfl ?_
    refine x_callS (pc' := 14) (d1 := 1) (As := [_]) rfl rfl rfl rfl (by decide) rfl rfl (Nat.le_of_ble_eq_true rfl) ⟨rfl, rfl⟩ (by decide) ?_
    refine w_X10_needs (by omega) ?_
    refine ⟨rfl, ?_⟩
    refine x_top (congrArg nI (sg1 k1l k5l)) ?_
    refine x_if_eq (pc' := 17) rfl rfl (fun c14 => absurd c14 (by decide)) (fun _ => ?_)
    refine x_aload (pc' := 18) rfl rfl rfl ?_
    refine x_iload (pc' := 19) rfl rfl rfl ?_
    refine x_int (pc' := 20) (v := nI 2) rfl rfl rfl ?_
    refine x_callV (pc' := 23) (d1 := 1) (Bs := [_, _]) rfl rfl rfl rfl rfl rfl rfl (Nat.le_of_ble_eq_true rfl) ⟨rfl, rfl⟩ (by decide) rfl (by decide) ?_
    refine w_X10_of (by omega) (by decide) ?_
    refine ⟨rfl, ?_⟩
    refine x_top ((hR.rfa hw (by omega)).trans (hW.efa hw)) ?_
    refine x_iload (pc' := 24) rfl rfl rfl ?_
    refine y_ic_ne (pc' := 27) rfl rfl (by first | omega | (have := hW.kdl hw; have := hW.fal hw; have := hW.fbl hw; omega)) (by first | omega | (have := hW.kdl hw; have := hW.fal hw; have := hW.fbl hw; omega)) (fun c24 => ?_) (fun c24 => ?_)
    · refine x_int (pc' := 51) (v := nI 0) rfl rfl rfl ?_
      refine x_zret rfl rfl (by decide) ?_
      have q4 := (hW.ehok hw).2.2.2.1
      have q5 := (hW.ehok hw).2.2.2.2.1
      first
        | exact k1 (by omega) (by omega) (by omega)
        | exact k0 (by omega)
    · refine x_iload (pc' := 28) rfl rfl rfl ?_
      refine x_callS (pc' := 31) (d1 := 1) (As := [_]) rfl rfl rfl rfl (by decide) rfl rfl (Nat.le_of_ble_eq_true rfl) ⟨rfl, rfl⟩ (by decide) ?_
      refine w_X10_needs (by omega) ?_
      refine ⟨rfl, ?_⟩
      refine x_top (congrArg nI (sg1 k1l k5l)) ?_
      refine x_int (pc' := 32) (v := nI 2) rfl rfl rfl ?_
      refine x_ic_lt (pc' := 35) rfl rfl (fun _ => ?_) (fun c32 => absurd (by decide) c32)
      refine x_int (pc' := 47) (v := nI 1) rfl rfl rfl ?_
      refine x_goto rfl ?_
      refine x_zret rfl rfl (by decide) ?_
      have q4 := (hW.ehok hw).2.2.2.1
      have q5 := (hW.ehok hw).2.2.2.2.1
      first
        | exact k1 (by omega) (by omega) (by omega)
        | exact k0 (by omega)
set_option maxRecDepth 20000 in
set_option maxHeartbeats 1000000 in
theorem w_X10_learns1 {D : Nat → Nat → Int32} {L : Nat → Nat → Int64} {Q : bh_Q} {w : Nat} (hw : w < 12) {k a : Nat} {z : Int32} (k1l : 1 ≤ k) (k5l : k < 5) (al : a < 16) (k1 : Q none (hp (bh_up2 (bh_up2 (bh_up2 D 206 (4 + 10 * w + 1) (nI k)) 206 (4 + 10 * w + 2) (nI a)) 206 (4 + 10 * w + 3) (-1)) L)) : bh_wc 2 m_X10_learns [.ref 205, .int (nI w), .int (nI k), .int (nI a), .int z] (hp D L) Q := by
  refine x_start (lv0 := [_, _, _, _, _]) (Nat.le_of_ble_eq_true rfl) rfl ?_
  refine x_aload (pc' := 1) rfl rfl rfl ?_
  refine x_iload (pc' := 2) rfl rfl rfl ?_
  refine x_int (pc' := 3) (v := nI 1) rfl rfl rfl ?_
  refine x_iload (pc' := 4) rfl rfl rfl ?_
  refine x_callV (pc' := 7) (d1 := 1) (Bs := [_, _, _]) rfl rfl rfl rfl rfl rfl rfl (Nat.le_of_ble_eq_true rfl) ⟨rfl, rfl⟩ (by decide) rfl (by decide) ?_
  refine w_X10_puts_ (by omega) (by decide) ?_
  refine ⟨rfl, ?_⟩
  refine x_aload (pc' := 8) rfl rfl rfl ?_
  refine x_iload (pc' := 9) rfl rfl rfl ?_
  refine x_int (pc' := 10) (v := nI 2) rfl rfl rfl ?_
  refine x_iload (pc' := 11) rfl rfl rfl ?_
  refine x_callS (pc' := 14) (d1 := 1) (As := [_]) rfl rfl rfl rfl (by decide) rfl rfl (Nat.le_of_ble_eq_true rfl) ⟨rfl, rfl⟩ (by decide) ?_
  refine w_X10_needs (by omega) ?_
  refine ⟨rfl, ?_⟩
  refine x_top (congrArg nI (sg1 k1l k5l)) ?_
  refine x_if_le (pc' := 17) rfl rfl (fun c14 => absurd c14 (by decide)) (fun _ => ?_)
  refine x_iload (pc' := 18) rfl rfl rfl ?_
  refine x_goto rfl ?_
  refine x_callV (pc' := 25) (d1 := 1) (Bs := [_, _, _]) rfl rfl rfl rfl rfl rfl rfl (Nat.le_of_ble_eq_true rfl) ⟨rfl, rfl⟩ (by decide) rfl (by decide) ?_
  refine w_X10_puts_ (by omega) (by decide) ?_
  refine ⟨rfl, ?_⟩
  refine x_aload (pc' := 26) rfl rfl rfl ?_
  refine x_iload (pc' := 27) rfl rfl rfl ?_
  refine x_int (pc' := 28) (v := nI 3) rfl rfl rfl ?_
  refine x_iload (pc' := 29) rfl rfl rfl ?_
  refine x_callS (pc' := 32) (d1 := 1) (As := [_]) rfl rfl rfl rfl (by decide) rfl rfl (Nat.le_of_ble_eq_true rfl) ⟨rfl, rfl⟩ (by decide) ?_
  refine w_X10_needs (by omega) ?_
  refine ⟨rfl, ?_⟩
  refine x_top (congrArg nI (sg1 k1l k5l)) ?_
  refine x_int (pc' := 33) (v := nI 1) rfl rfl rfl ?_
  refine x_ic_le (pc' := 36) rfl rfl (fun _ => ?_) (fun c33 => absurd (by decide) c33)
  refine x_int (pc' := 42) (v := (-1)) rfl rfl rfl ?_
  refine x_callV (pc' := 45) (d1 := 1) (Bs := [_, _, _]) rfl rfl rfl rfl rfl rfl rfl (Nat.le_of_ble_eq_true rfl) ⟨rfl, rfl⟩ (by decide) rfl (by decide) ?_
  refine w_X10_puts_ (by omega) (by decide) ?_
  refine ⟨rfl, ?_⟩
  refine x_vret rfl rfl ?_
  exact k1
set_option maxRecDepth 20000 in
set_option maxHeartbeats 1000000 in
theorem w_X10_hasHabit2 {D : Nat → Nat → Int32} {L : Nat → Nat → Int64} {Q : bh_Q} {T : TW} (hW : WF T) (hR : Rn T (D 206)) {w : Nat} (hw : w < nw T) {k a b : Nat} (k5l : 5 ≤ k) (k7l : k < 7) (al : a < 16) (bl : b < 16) (k1 : kd T w = k → fa T w = a → fb T w = b → Q (some (.int 1)) (hp D L)) (k0 : ¬ (kd T w = k ∧ fa T w = a ∧ fb T w = b) → Q (some (.int 0)) (hp D L)) : bh_wc 2 m_X10_hasHabit [.ref 205, .int (nI w), .int (nI k), .int (nI a), .int (nI b)] (hp D L) Q := by
  refine x_start (lv0 := [_, _, _, _, _]) (Nat.le_of_ble_eq_true rfl) rfl ?_
  have h12 := hW.nwl
  refine x_aload (pc' := 1) rfl rfl rfl ?_
  refine x_iload (pc' := 2) rfl rfl rfl ?_
  refine x_int (pc' := 3) (v := nI 1) rfl rfl rfl ?_
  refine x_callV (pc' := 6) (d1 := 1) (Bs := [_, _]) rfl rfl rfl rfl rfl rfl rfl (Nat.le_of_ble_eq_true rfl) ⟨rfl, rfl⟩ (by decide) rfl (by decide) ?_
  refine w_X10_of (by omega) (by decide) ?_
  refine ⟨rfl, ?_⟩
  refine x_top ((hR.rkd hw).trans (hW.ekd hw)) ?_
  refine x_iload (pc' := 7) rfl rfl rfl ?_
  refine y_ic_ne (pc' := 10) rfl rfl (by first | omega | (have := hW.kdl hw; have := hW.fal hw; have := hW.fbl hw; omega)) (by first | omega | (have := hW.kdl hw; have := hW.fal hw; have := hW.fbl hw; omega)) (fun c7 => ?_) (fun c7 => ?_)
  · refine x_int (pc' := 51) (v := nI 0) rfl rfl rfl ?_
    refine x_zret rfl rfl (by decide) ?_
    have q4 := (hW.ehok hw).2.2.2.1
    have q5 := (hW.ehok hw).2.2.2.2.1
    first
      | exact k1 (by omega) (by omega) (by omega)
      | exact k0 (by omega)
  · refine x_iload (pc' := 11) rfl rfl rfl ?_
    refine x_callS (pc' := 14) (d1 := 1) (As := [_]) rfl rfl rfl rfl (by decide) rfl rfl (Nat.le_of_ble_eq_true rfl) ⟨rfl, rfl⟩ (by decide) ?_
    refine w_X10_needs (by omega) ?_
    refine ⟨rfl, ?_⟩
    refine x_top (congrArg nI (sg2 k5l)) ?_
    refine x_if_eq (pc' := 17) rfl rfl (fun c14 => absurd c14 (by decide)) (fun _ => ?_)
    refine x_aload (pc' := 18) rfl rfl rfl ?_
    refine x_iload (pc' := 19) rfl rfl rfl ?_
    refine x_int (pc' := 20) (v := nI 2) rfl rfl rfl ?_
    refine x_callV (pc' := 23) (d1 := 1) (Bs := [_, _]) rfl rfl rfl rfl rfl rfl rfl (Nat.le_of_ble_eq_true rfl) ⟨rfl, rfl⟩ (by decide) rfl (by decide) ?_
    refine w_X10_of (by omega) (by decide) ?_
    refine ⟨rfl, ?_⟩
    refine x_top ((hR.rfa hw (by omega)).trans (hW.efa hw)) ?_
    refine x_iload (pc' := 24) rfl rfl rfl ?_
    refine y_ic_ne (pc' := 27) rfl rfl (by first | omega | (have := hW.kdl hw; have := hW.fal hw; have := hW.fbl hw; omega)) (by first | omega | (have := hW.kdl hw; have := hW.fal hw; have := hW.fbl hw; omega)) (fun c24 => ?_) (fun c24 => ?_)
    · refine x_int (pc' := 51) (v := nI 0) rfl rfl rfl ?_
      refine x_zret rfl rfl (by decide) ?_
      have q4 := (hW.ehok hw).2.2.2.1
      have q5 := (hW.ehok hw).2.2.2.2.1
      first
        | exact k1 (by omega) (by omega) (by omega)
        | exact k0 (by omega)
    · refine x_iload (pc' := 28) rfl rfl rfl ?_
      refine x_callS (pc' := 31) (d1 := 1) (As := [_]) rfl rfl rfl rfl (by decide) rfl rfl (Nat.le_of_ble_eq_true rfl) ⟨rfl, rfl⟩ (by decide) ?_
      refine w_X10_needs (by omega) ?_
      refine ⟨rfl, ?_⟩
      refine x_top (congrArg nI (sg2 k5l)) ?_
      refine x_int (pc' := 32) (v := nI 2) rfl rfl rfl ?_
      refine x_ic_lt (pc' := 35) rfl rfl (fun c32 => absurd c32 (by decide)) (fun _ => ?_)
      refine x_aload (pc' := 36) rfl rfl rfl ?_
      refine x_iload (pc' := 37) rfl rfl rfl ?_
      refine x_int (pc' := 38) (v := nI 3) rfl rfl rfl ?_
      refine x_callV (pc' := 41) (d1 := 1) (Bs := [_, _]) rfl rfl rfl rfl rfl rfl rfl (Nat.le_of_ble_eq_true rfl) ⟨rfl, rfl⟩ (by decide) rfl (by decide) ?_
      refine w_X10_of (by omega) (by decide) ?_
      refine ⟨rfl, ?_⟩
      refine x_top ((hR.rfb hw (by omega)).trans (hW.efb hw)) ?_
      refine x_iload (pc' := 43) rfl rfl rfl ?_
      refine y_ic_ne (pc' := 46) rfl rfl (by first | omega | (have := hW.kdl hw; have := hW.fal hw; have := hW.fbl hw; omega)) (by first | omega | (have := hW.kdl hw; have := hW.fal hw; have := hW.fbl hw; omega)) (fun c43 => ?_) (fun c43 => ?_)
      · refine x_int (pc' := 51) (v := nI 0) rfl rfl rfl ?_
        refine x_zret rfl rfl (by decide) ?_
        have q4 := (hW.ehok hw).2.2.2.1
        have q5 := (hW.ehok hw).2.2.2.2.1
        first
          | exact k1 (by omega) (by omega) (by omega)
          | exact k0 (by omega)
      · refine x_int (pc' := 47) (v := nI 1) rfl rfl rfl ?_
        refine x_goto rfl ?_
        refine x_zret rfl rfl (by decide) ?_
        have q4 := (hW.ehok hw).2.2.2.1
        have q5 := (hW.ehok hw).2.2.2.2.1
        first
          | exact k1 (by omega) (by omega) (by omega)
          | exact k0 (by omega)
set_option maxRecDepth 20000 in
set_option maxHeartbeats 1000000 in
theorem w_X10_learns2 {D : Nat → Nat → Int32} {L : Nat → Nat → Int64} {Q : bh_Q} {w : Nat} (hw : w < 12) {k a b : Nat} (k5l : 5 ≤ k) (k7l : k < 7) (al : a < 16) (bl : b < 16) (k1 : Q none (hp (bh_up2 (bh_up2 (bh_up2 D 206 (4 + 10 * w + 1) (nI k)) 206 (4 + 10 * w + 2) (nI a)) 206 (4 + 10 * w + 3) (nI b)) L)) : bh_wc 2 m_X10_learns [.ref 205, .int (nI w), .int (nI k), .int (nI a), .int (nI b)] (hp D L) Q := by
  refine x_start (lv0 := [_, _, _, _, _]) (Nat.le_of_ble_eq_true rfl) rfl ?_
  refine x_aload (pc' := 1) rfl rfl rfl ?_
  refine x_iload (pc' := 2) rfl rfl rfl ?_
  refine x_int (pc' := 3) (v := nI 1) rfl rfl rfl ?_
  refine x_iload (pc' := 4) rfl rfl rfl ?_
  refine x_callV (pc' := 7) (d1 := 1) (Bs := [_, _, _]) rfl rfl rfl rfl rfl rfl rfl (Nat.le_of_ble_eq_true rfl) ⟨rfl, rfl⟩ (by decide) rfl (by decide) ?_
  refine w_X10_puts_ (by omega) (by decide) ?_
  refine ⟨rfl, ?_⟩
  refine x_aload (pc' := 8) rfl rfl rfl ?_
  refine x_iload (pc' := 9) rfl rfl rfl ?_
  refine x_int (pc' := 10) (v := nI 2) rfl rfl rfl ?_
  refine x_iload (pc' := 11) rfl rfl rfl ?_
  refine x_callS (pc' := 14) (d1 := 1) (As := [_]) rfl rfl rfl rfl (by decide) rfl rfl (Nat.le_of_ble_eq_true rfl) ⟨rfl, rfl⟩ (by decide) ?_
  refine w_X10_needs (by omega) ?_
  refine ⟨rfl, ?_⟩
  refine x_top (congrArg nI (sg2 k5l)) ?_
  refine x_if_le (pc' := 17) rfl rfl (fun c14 => absurd c14 (by decide)) (fun _ => ?_)
  refine x_iload (pc' := 18) rfl rfl rfl ?_
  refine x_goto rfl ?_
  refine x_callV (pc' := 25) (d1 := 1) (Bs := [_, _, _]) rfl rfl rfl rfl rfl rfl rfl (Nat.le_of_ble_eq_true rfl) ⟨rfl, rfl⟩ (by decide) rfl (by decide) ?_
  refine w_X10_puts_ (by omega) (by decide) ?_
  refine ⟨rfl, ?_⟩
  refine x_aload (pc' := 26) rfl rfl rfl ?_
  refine x_iload (pc' := 27) rfl rfl rfl ?_
  refine x_int (pc' := 28) (v := nI 3) rfl rfl rfl ?_
  refine x_iload (pc' := 29) rfl rfl rfl ?_
  refine x_callS (pc' := 32) (d1 := 1) (As := [_]) rfl rfl rfl rfl (by decide) rfl rfl (Nat.le_of_ble_eq_true rfl) ⟨rfl, rfl⟩ (by decide) ?_
  refine w_X10_needs (by omega) ?_
  refine ⟨rfl, ?_⟩
  refine x_top (congrArg nI (sg2 k5l)) ?_
  refine x_int (pc' := 33) (v := nI 1) rfl rfl rfl ?_
  refine x_ic_le (pc' := 36) rfl rfl (fun c33 => absurd c33 (by decide)) (fun _ => ?_)
  refine x_iload (pc' := 38) rfl rfl rfl ?_
  refine x_goto rfl ?_
  refine x_callV (pc' := 45) (d1 := 1) (Bs := [_, _, _]) rfl rfl rfl rfl rfl rfl rfl (Nat.le_of_ble_eq_true rfl) ⟨rfl, rfl⟩ (by decide) rfl (by decide) ?_
  refine w_X10_puts_ (by omega) (by decide) ?_
  refine ⟨rfl, ?_⟩
  refine x_vret rfl rfl ?_
  exact k1
set_option maxRecDepth 20000 in
set_option maxHeartbeats 1000000 in
theorem w_X10_teach {D : Nat → Nat → Int32} {L : Nat → Nat → Int64} {Q : bh_Q} {T : TW} {ps : List TW} {sh : Nat → Option TW} {tp : List Nat} (hI : InvM D T ps sh tp) (hG : Good T ps sh) {x u y z : Int32} (k1 : ∀ D1, (∀ k, (k < 205 ∨ 228 ≤ k) → D1 k = D k) → InvM D1 (nxT T (teachR T x u y z).2) (nxP T ps (teachR T x u y z).2) sh tp → Q (some (.int (teachR T x u y z).1)) (hp D1 L)) : bh_wc 3 m_X10_teach [.ref 205, .int x, .int u, .int y, .int z] (hp D L) Q := by
  refine x_start (lv0 := [_, _, _, _, _, _]) (Nat.le_of_ble_eq_true rfl) rfl ?_
  have hW := hG.1
  have h12 := hW.nwl
  have hR := hI.1
  refine x_aload (pc' := 1) rfl rfl rfl ?_
  refine x_iload (pc' := 2) rfl rfl rfl ?_
  refine x_callV (pc' := 5) (d1 := 2) (Bs := [_]) rfl rfl rfl rfl rfl rfl rfl (Nat.le_of_ble_eq_true rfl) ⟨rfl, rfl⟩ (by decide) rfl (by decide) ?_
  refine w_X10_isWriter hW hR (fun h2w h2l e => ?_) (fun h2 => ?_)
  · subst e
    refine ⟨rfl, ?_⟩
    refine x_if_eq (pc' := 8) rfl rfl (fun c5 => absurd c5 (by decide)) (fun _ => ?_)
    refine x_iload (pc' := 9) rfl rfl rfl ?_
    refine x_iload (pc' := 10) rfl rfl rfl ?_
    refine x_iload (pc' := 12) rfl rfl rfl ?_
    refine x_callS (pc' := 15) (d1 := 2) (As := [_, _, _]) rfl rfl rfl rfl (by decide) rfl rfl (Nat.le_of_ble_eq_true rfl) ⟨rfl, rfl⟩ (by decide) ?_
    refine w_X10_isHabit (fun e15 => ?_) (fun k a k1l k5l al n4 e15 f15 => ?_) (fun k a b k5l k7l al bl nab e15 f15 g15 => ?_) (fun hs => ?_)
    · subst e15
      refine ⟨rfl, ?_⟩
      refine x_if_ne (pc' := 18) rfl rfl (fun _ => ?_) (fun c15 => absurd c15 (by decide))
      refine x_aload (pc' := 21) rfl rfl rfl ?_
      refine x_iload (pc' := 22) rfl rfl rfl ?_
      refine x_callV (pc' := 25) (d1 := 2) (Bs := [_]) rfl rfl rfl rfl rfl rfl rfl (Nat.le_of_ble_eq_true rfl) ⟨rfl, rfl⟩ (by decide) rfl (by decide) ?_
      refine w_X10_isDead hW hR (by assumption) (fun h22 => ?_) (fun h22 => ?_)
      · refine ⟨rfl, ?_⟩
        refine x_if_eq (pc' := 28) rfl rfl (fun c25 => absurd c25 (by decide)) (fun _ => ?_)
        refine x_int (pc' := 30) (v := (-4)) rfl rfl rfl ?_
        refine x_iret rfl rfl ?_
        have e : teachR T (nI h2w) (nI 0) y z = (-4, none) := by unfold teachR; rw [dN_some h2l (by omega), dH_0]; dsimp only; exact if_pos h22
        rw [e] at k1
        exact k1 D (fun _ _ => rfl) hI
      · refine ⟨rfl, ?_⟩
        refine x_if_eq (pc' := 28) rfl rfl (fun _ => ?_) (fun c25 => absurd (by decide) c25)
        refine x_aload (pc' := 32) rfl rfl rfl ?_
        refine x_iload (pc' := 33) rfl rfl rfl ?_
        refine x_iload (pc' := 34) rfl rfl rfl ?_
        refine x_iload (pc' := 35) rfl rfl rfl ?_
        refine x_iload (pc' := 37) rfl rfl rfl ?_
        refine x_callV (pc' := 40) (d1 := 2) (Bs := [_, _, _, _]) rfl rfl rfl rfl rfl rfl rfl (Nat.le_of_ble_eq_true rfl) ⟨rfl, rfl⟩ (by decide) rfl (by decide) ?_
        refine w_X10_hasHabit0 hW hR h2l (fun q1 q2 q3 => ?_) (fun h37 => ?_)
        · refine ⟨rfl, ?_⟩
          refine x_if_eq (pc' := 43) rfl rfl (fun c40 => absurd c40 (by decide)) (fun _ => ?_)
          refine x_int (pc' := 45) (v := (-2)) rfl rfl rfl ?_
          refine x_iret rfl rfl ?_
          have e : teachR T (nI h2w) (nI 0) y z = (-2, none) := by unfold teachR; rw [dN_some h2l (by omega), dH_0]; dsimp only; rw [if_neg (by rw [h22]; decide)]; exact if_pos ⟨q1, q2, q3⟩
          rw [e] at k1
          exact k1 D (fun _ _ => rfl) hI
        · refine ⟨rfl, ?_⟩
          refine x_if_eq (pc' := 43) rfl rfl (fun _ => ?_) (fun c40 => absurd (by decide) c40)
          refine x_aload (pc' := 47) rfl rfl rfl ?_
          refine x_callV (pc' := 50) (d1 := 2) (Bs := []) rfl rfl rfl rfl rfl rfl rfl (Nat.le_of_ble_eq_true rfl) ⟨rfl, rfl⟩ (by decide) rfl (by decide) ?_
          refine w_X10_keepsPast hW hR hI.2.1 hG.2.1 (fun D1 f1 g1 hH1 => ?_)
          refine ⟨rfl, ?_⟩
          have hR1 : Rn T (D1 206) := by rw [f1 206 (by decide)]; exact hR
          refine x_aload (pc' := 51) rfl rfl rfl ?_
          refine x_iload (pc' := 52) rfl rfl rfl ?_
          refine x_int (pc' := 53) (v := nI 1) rfl rfl rfl ?_
          refine x_callV (pc' := 56) (d1 := 1) (Bs := [_, _]) rfl rfl rfl rfl rfl rfl rfl (Nat.le_of_ble_eq_true rfl) ⟨rfl, rfl⟩ (by decide) rfl (by decide) ?_
          refine w_X10_of (D := D1) (by omega) (by decide) ?_
          refine ⟨rfl, ?_⟩
          refine x_top (hR1.rkd h2l) ?_
          refine x_istore (pc' := 58) (lv' := [_, _, _, _, _, _]) rfl rfl (by decide) rfl ?_
          refine x_aload (pc' := 59) rfl rfl rfl ?_
          refine x_iload (pc' := 60) rfl rfl rfl ?_
          refine x_iload (pc' := 61) rfl rfl rfl ?_
          refine x_iload (pc' := 62) rfl rfl rfl ?_
          refine x_iload (pc' := 64) rfl rfl rfl ?_
          refine x_callV (pc' := 67) (d1 := 2) (Bs := [_, _, _, _]) rfl rfl rfl rfl rfl rfl rfl (Nat.le_of_ble_eq_true rfl) ⟨rfl, rfl⟩ (by decide) rfl (by decide) ?_
          refine w_X10_learns0 (by omega) ?_
          refine ⟨rfl, ?_⟩
          refine x_iload (pc' := 69) rfl rfl rfl ?_
          refine x_iret rfl rfl ?_
          have e : teachR T (nI h2w) (nI 0) y z = (T 2 h2w, some (upH T h2w 0 0 0)) := by unfold teachR; rw [dN_some h2l (by omega), dH_0]; dsimp only; rw [if_neg (by rw [h22]; decide)]; exact if_neg h37
          refine actM hI f1 g1 hH1 k1 e (fun k a b c => ?_) (fun j hj => rfl) ?_
          · rw [bh_up2_ne _ _ _ a, bh_up2_ne _ _ _ a, bh_up2_ne _ _ _ a]
          · rw [bh_up2_k, bh_up2_k, bh_up2_k]; exact rn_hab hW hR1 h2l (by omega) (fun q => by omega) (fun q => by omega)
    · subst e15; subst f15
      refine ⟨rfl, ?_⟩
      refine x_if_ne (pc' := 18) rfl rfl (fun _ => ?_) (fun c15 => absurd c15 (by decide))
      refine x_aload (pc' := 21) rfl rfl rfl ?_
      refine x_iload (pc' := 22) rfl rfl rfl ?_
      refine x_callV (pc' := 25) (d1 := 2) (Bs := [_]) rfl rfl rfl rfl rfl rfl rfl (Nat.le_of_ble_eq_true rfl) ⟨rfl, rfl⟩ (by decide) rfl (by decide) ?_
      refine w_X10_isDead hW hR (by assumption) (fun h22 => ?_) (fun h22 => ?_)
      · refine ⟨rfl, ?_⟩
        refine x_if_eq (pc' := 28) rfl rfl (fun c25 => absurd c25 (by decide)) (fun _ => ?_)
        refine x_int (pc' := 30) (v := (-4)) rfl rfl rfl ?_
        refine x_iret rfl rfl ?_
        have e : teachR T (nI h2w) (nI k) (nI a) z = (-4, none) := by unfold teachR; rw [dN_some h2l (by omega), dH_1 k1l k5l al n4]; dsimp only; exact if_pos h22
        rw [e] at k1
        exact k1 D (fun _ _ => rfl) hI
      · refine ⟨rfl, ?_⟩
        refine x_if_eq (pc' := 28) rfl rfl (fun _ => ?_) (fun c25 => absurd (by decide) c25)
        refine x_aload (pc' := 32) rfl rfl rfl ?_
        refine x_iload (pc' := 33) rfl rfl rfl ?_
        refine x_iload (pc' := 34) rfl rfl rfl ?_
        refine x_iload (pc' := 35) rfl rfl rfl ?_
        refine x_iload (pc' := 37) rfl rfl rfl ?_
        refine x_callV (pc' := 40) (d1 := 2) (Bs := [_, _, _, _]) rfl rfl rfl rfl rfl rfl rfl (Nat.le_of_ble_eq_true rfl) ⟨rfl, rfl⟩ (by decide) rfl (by decide) ?_
        refine w_X10_hasHabit1 hW hR h2l k1l k5l al (fun q1 q2 q3 => ?_) (fun h37 => ?_)
        · refine ⟨rfl, ?_⟩
          refine x_if_eq (pc' := 43) rfl rfl (fun c40 => absurd c40 (by decide)) (fun _ => ?_)
          refine x_int (pc' := 45) (v := (-2)) rfl rfl rfl ?_
          refine x_iret rfl rfl ?_
          have e : teachR T (nI h2w) (nI k) (nI a) z = (-2, none) := by unfold teachR; rw [dN_some h2l (by omega), dH_1 k1l k5l al n4]; dsimp only; rw [if_neg (by rw [h22]; decide)]; exact if_pos ⟨q1, q2, q3⟩
          rw [e] at k1
          exact k1 D (fun _ _ => rfl) hI
        · refine ⟨rfl, ?_⟩
          refine x_if_eq (pc' := 43) rfl rfl (fun _ => ?_) (fun c40 => absurd (by decide) c40)
          refine x_aload (pc' := 47) rfl rfl rfl ?_
          refine x_callV (pc' := 50) (d1 := 2) (Bs := []) rfl rfl rfl rfl rfl rfl rfl (Nat.le_of_ble_eq_true rfl) ⟨rfl, rfl⟩ (by decide) rfl (by decide) ?_
          refine w_X10_keepsPast hW hR hI.2.1 hG.2.1 (fun D1 f1 g1 hH1 => ?_)
          refine ⟨rfl, ?_⟩
          have hR1 : Rn T (D1 206) := by rw [f1 206 (by decide)]; exact hR
          refine x_aload (pc' := 51) rfl rfl rfl ?_
          refine x_iload (pc' := 52) rfl rfl rfl ?_
          refine x_int (pc' := 53) (v := nI 1) rfl rfl rfl ?_
          refine x_callV (pc' := 56) (d1 := 1) (Bs := [_, _]) rfl rfl rfl rfl rfl rfl rfl (Nat.le_of_ble_eq_true rfl) ⟨rfl, rfl⟩ (by decide) rfl (by decide) ?_
          refine w_X10_of (D := D1) (by omega) (by decide) ?_
          refine ⟨rfl, ?_⟩
          refine x_top (hR1.rkd h2l) ?_
          refine x_istore (pc' := 58) (lv' := [_, _, _, _, _, _]) rfl rfl (by decide) rfl ?_
          refine x_aload (pc' := 59) rfl rfl rfl ?_
          refine x_iload (pc' := 60) rfl rfl rfl ?_
          refine x_iload (pc' := 61) rfl rfl rfl ?_
          refine x_iload (pc' := 62) rfl rfl rfl ?_
          refine x_iload (pc' := 64) rfl rfl rfl ?_
          refine x_callV (pc' := 67) (d1 := 2) (Bs := [_, _, _, _]) rfl rfl rfl rfl rfl rfl rfl (Nat.le_of_ble_eq_true rfl) ⟨rfl, rfl⟩ (by decide) rfl (by decide) ?_
          refine w_X10_learns1 (by omega) k1l k5l al ?_
          refine ⟨rfl, ?_⟩
          refine x_iload (pc' := 69) rfl rfl rfl ?_
          refine x_iret rfl rfl ?_
          have e : teachR T (nI h2w) (nI k) (nI a) z = (T 2 h2w, some (upH T h2w k a 0)) := by unfold teachR; rw [dN_some h2l (by omega), dH_1 k1l k5l al n4]; dsimp only; rw [if_neg (by rw [h22]; decide)]; exact if_neg h37
          refine actM hI f1 g1 hH1 k1 e (fun k a b c => ?_) (fun j hj => rfl) ?_
          · rw [bh_up2_ne _ _ _ a, bh_up2_ne _ _ _ a, bh_up2_ne _ _ _ a]
          · rw [bh_up2_k, bh_up2_k, bh_up2_k]; exact rn_hab hW hR1 h2l (by omega) (fun q => rfl) (fun q => by omega)
    · subst e15; subst f15; subst g15
      refine ⟨rfl, ?_⟩
      refine x_if_ne (pc' := 18) rfl rfl (fun _ => ?_) (fun c15 => absurd c15 (by decide))
      refine x_aload (pc' := 21) rfl rfl rfl ?_
      refine x_iload (pc' := 22) rfl rfl rfl ?_
      refine x_callV (pc' := 25) (d1 := 2) (Bs := [_]) rfl rfl rfl rfl rfl rfl rfl (Nat.le_of_ble_eq_true rfl) ⟨rfl, rfl⟩ (by decide) rfl (by decide) ?_
      refine w_X10_isDead hW hR (by assumption) (fun h22 => ?_) (fun h22 => ?_)
      · refine ⟨rfl, ?_⟩
        refine x_if_eq (pc' := 28) rfl rfl (fun c25 => absurd c25 (by decide)) (fun _ => ?_)
        refine x_int (pc' := 30) (v := (-4)) rfl rfl rfl ?_
        refine x_iret rfl rfl ?_
        have e : teachR T (nI h2w) (nI k) (nI a) (nI b) = (-4, none) := by unfold teachR; rw [dN_some h2l (by omega), dH_2 k5l k7l al bl nab]; dsimp only; exact if_pos h22
        rw [e] at k1
        exact k1 D (fun _ _ => rfl) hI
      · refine ⟨rfl, ?_⟩
        refine x_if_eq (pc' := 28) rfl rfl (fun _ => ?_) (fun c25 => absurd (by decide) c25)
        refine x_aload (pc' := 32) rfl rfl rfl ?_
        refine x_iload (pc' := 33) rfl rfl rfl ?_
        refine x_iload (pc' := 34) rfl rfl rfl ?_
        refine x_iload (pc' := 35) rfl rfl rfl ?_
        refine x_iload (pc' := 37) rfl rfl rfl ?_
        refine x_callV (pc' := 40) (d1 := 2) (Bs := [_, _, _, _]) rfl rfl rfl rfl rfl rfl rfl (Nat.le_of_ble_eq_true rfl) ⟨rfl, rfl⟩ (by decide) rfl (by decide) ?_
        refine w_X10_hasHabit2 hW hR h2l k5l k7l al bl (fun q1 q2 q3 => ?_) (fun h37 => ?_)
        · refine ⟨rfl, ?_⟩
          refine x_if_eq (pc' := 43) rfl rfl (fun c40 => absurd c40 (by decide)) (fun _ => ?_)
          refine x_int (pc' := 45) (v := (-2)) rfl rfl rfl ?_
          refine x_iret rfl rfl ?_
          have e : teachR T (nI h2w) (nI k) (nI a) (nI b) = (-2, none) := by unfold teachR; rw [dN_some h2l (by omega), dH_2 k5l k7l al bl nab]; dsimp only; rw [if_neg (by rw [h22]; decide)]; exact if_pos ⟨q1, q2, q3⟩
          rw [e] at k1
          exact k1 D (fun _ _ => rfl) hI
        · refine ⟨rfl, ?_⟩
          refine x_if_eq (pc' := 43) rfl rfl (fun _ => ?_) (fun c40 => absurd (by decide) c40)
          refine x_aload (pc' := 47) rfl rfl rfl ?_
          refine x_callV (pc' := 50) (d1 := 2) (Bs := []) rfl rfl rfl rfl rfl rfl rfl (Nat.le_of_ble_eq_true rfl) ⟨rfl, rfl⟩ (by decide) rfl (by decide) ?_
          refine w_X10_keepsPast hW hR hI.2.1 hG.2.1 (fun D1 f1 g1 hH1 => ?_)
          refine ⟨rfl, ?_⟩
          have hR1 : Rn T (D1 206) := by rw [f1 206 (by decide)]; exact hR
          refine x_aload (pc' := 51) rfl rfl rfl ?_
          refine x_iload (pc' := 52) rfl rfl rfl ?_
          refine x_int (pc' := 53) (v := nI 1) rfl rfl rfl ?_
          refine x_callV (pc' := 56) (d1 := 1) (Bs := [_, _]) rfl rfl rfl rfl rfl rfl rfl (Nat.le_of_ble_eq_true rfl) ⟨rfl, rfl⟩ (by decide) rfl (by decide) ?_
          refine w_X10_of (D := D1) (by omega) (by decide) ?_
          refine ⟨rfl, ?_⟩
          refine x_top (hR1.rkd h2l) ?_
          refine x_istore (pc' := 58) (lv' := [_, _, _, _, _, _]) rfl rfl (by decide) rfl ?_
          refine x_aload (pc' := 59) rfl rfl rfl ?_
          refine x_iload (pc' := 60) rfl rfl rfl ?_
          refine x_iload (pc' := 61) rfl rfl rfl ?_
          refine x_iload (pc' := 62) rfl rfl rfl ?_
          refine x_iload (pc' := 64) rfl rfl rfl ?_
          refine x_callV (pc' := 67) (d1 := 2) (Bs := [_, _, _, _]) rfl rfl rfl rfl rfl rfl rfl (Nat.le_of_ble_eq_true rfl) ⟨rfl, rfl⟩ (by decide) rfl (by decide) ?_
          refine w_X10_learns2 (by omega) k5l k7l al bl ?_
          refine ⟨rfl, ?_⟩
          refine x_iload (pc' := 69) rfl rfl rfl ?_
          refine x_iret rfl rfl ?_
          have e : teachR T (nI h2w) (nI k) (nI a) (nI b) = (T 2 h2w, some (upH T h2w k a b)) := by unfold teachR; rw [dN_some h2l (by omega), dH_2 k5l k7l al bl nab]; dsimp only; rw [if_neg (by rw [h22]; decide)]; exact if_neg h37
          refine actM hI f1 g1 hH1 k1 e (fun k a b c => ?_) (fun j hj => rfl) ?_
          · rw [bh_up2_ne _ _ _ a, bh_up2_ne _ _ _ a, bh_up2_ne _ _ _ a]
          · rw [bh_up2_k, bh_up2_k, bh_up2_k]; exact rn_hab hW hR1 h2l (by omega) (fun q => rfl) (fun q => rfl)
    · refine ⟨rfl, ?_⟩
      refine x_if_ne (pc' := 18) rfl rfl (fun c15 => absurd (by decide) c15) (fun _ => ?_)
      refine x_int (pc' := 19) (v := (-1)) rfl rfl rfl ?_
      refine x_iret rfl rfl ?_
      first
        | (have e : teachR T x u y z = (-1, none) := by unfold teachR; rw [dN_none (by omega) h2]
           rw [e] at k1
           exact k1 D (fun _ _ => rfl) hI)
        | (have e : teachR T (nI h2w) u y z = (-1, none) := by unfold teachR; rw [dN_some h2l (by omega), hs]
           rw [e] at k1
           exact k1 D (fun _ _ => rfl) hI)
  · refine ⟨rfl, ?_⟩
    refine x_if_eq (pc' := 8) rfl rfl (fun _ => ?_) (fun c5 => absurd (by decide) c5)
    refine x_int (pc' := 19) (v := (-1)) rfl rfl rfl ?_
    refine x_iret rfl rfl ?_
    first
      | (have e : teachR T x u y z = (-1, none) := by unfold teachR; rw [dN_none (by omega) h2]
         rw [e] at k1
         exact k1 D (fun _ _ => rfl) hI)
      | (have e : teachR T (nI h2w) u y z = (-1, none) := by unfold teachR; rw [dN_some h2l (by omega), hs]
         rw [e] at k1
         exact k1 D (fun _ _ => rfl) hI)
