/-! ===== the reference: kinds ===== -/
set_option maxRecDepth 20000 in
set_option maxHeartbeats 1000000 in
theorem w_X10_takes {D : Nat → Nat → Int32} {L : Nat → Nat → Int64} {Q : bh_Q} {tp : List Nat} {a f j : Nat} (h : MS D tp a f) (hj : j < 20) (k1 : f = 0 → wdB tp (skp isBk tp a) (skp isLt tp (skp isBk tp a)) j = true → ∀ D', O205 D D' → MS D' tp (skp isLt tp (skp isBk tp a)) 0 → D' 205 10 = D 205 10 → Q (some (.int 1)) (hp D' L)) (k0 : ¬ (f = 0 ∧ wdB tp (skp isBk tp a) (skp isLt tp (skp isBk tp a)) j = true) → ∀ D', O205 D D' → MS D' tp (skp isBk tp a) f → D' 205 10 = D 205 10 → Q (some (.int 0)) (hp D' L)) : bh_wc 3 m_X10_takes [.ref 205, .ref (1100 + j)] (hp D L) Q := by
  refine x_start (lv0 := [_, _]) (Nat.le_of_ble_eq_true rfl) rfl ?_
  refine x_aload (pc' := 1) rfl rfl rfl ?_
  refine x_callV (pc' := 4) (d1 := 2) (Bs := []) rfl rfl rfl rfl rfl rfl rfl (Nat.le_of_ble_eq_true rfl) ⟨rfl, rfl⟩ (by decide) rfl (by decide) ?_
  refine w_X10_next h (fun D1 o1 h1 e1 => ?_)
  refine ⟨rfl, ?_⟩
  have hsl := h1.al
  refine x_pop (pc' := 5) rfl rfl rfl ?_
  refine x_aload (pc' := 6) rfl rfl rfl ?_
  refine x_callV (pc' := 9) (d1 := 1) (Bs := []) rfl rfl rfl rfl rfl rfl rfl (Nat.le_of_ble_eq_true rfl) ⟨rfl, rfl⟩ (by decide) rfl (by decide) ?_
  refine w_X10_isRight h1 (fun hf => ?_) (fun hf => ?_)
  · refine ⟨rfl, ?_⟩
    refine x_if_eq (pc' := 12) rfl rfl (fun c9 => absurd c9 (by decide)) (fun _ => ?_)
    refine x_aload (pc' := 13) rfl rfl rfl ?_
    refine x_aload (pc' := 14) rfl rfl rfl ?_
    refine x_callV (pc' := 17) (d1 := 2) (Bs := [_]) rfl rfl rfl rfl rfl rfl rfl (Nat.le_of_ble_eq_true rfl) ⟨rfl, rfl⟩ (by decide) rfl (by decide) ?_
    refine w_X10_isWord h1 hj (fun hw => ?_) (fun hw => ?_)
    · refine ⟨rfl, ?_⟩
      refine x_if_ne (pc' := 20) rfl rfl (fun _ => ?_) (fun c17 => absurd c17 (by decide))
      refine x_aload (pc' := 23) rfl rfl rfl ?_
      refine x_dup (pc' := 24) rfl rfl rfl ?_
      refine x_getI (j := 8) (pc' := 27) rfl rfl rfl (by decide) rfl (by decide) rfl rfl ?_
      refine x_top (h1.at) ?_
      refine x_aload (pc' := 28) rfl rfl rfl ?_
      refine x_slen (pc' := 31) rfl rfl (wok_all j hj).1 (Nat.le_of_ble_eq_true rfl) ?_
      refine y_iadd (pc' := 32) rfl rfl ?_
      refine x_putI (j := 8) (pc' := 35) rfl rfl rfl (by decide) rfl (by decide) rfl rfl ?_
      refine x_int (pc' := 36) (v := nI 1) rfl rfl rfl ?_
      refine x_zret rfl rfl (by decide) ?_
      subst hf
      have hln := wdB_len hw
      have hge := skp_ge (p := isLt) (tp := tp) (skp isBk tp a)
      have hle := skp_le (p := isLt) (tp := tp) hsl
      have e : skp isBk tp a + bh_sl j = skp isLt tp (skp isBk tp a) := by omega
      rw [e]
      exact k1 rfl hw _ (o1.tr (O205.up (Or.inl rfl))) (h1.a hle) ((up2_o (by decide)).trans e1)
    · refine ⟨rfl, ?_⟩
      refine x_if_ne (pc' := 20) rfl rfl (fun c17 => absurd (by decide) c17) (fun _ => ?_)
      refine x_int (pc' := 21) (v := nI 0) rfl rfl rfl ?_
      refine x_zret rfl rfl (by decide) ?_
      exact k0 (fun z => by rw [hw] at z; exact absurd z.2 (by decide)) D1 o1 h1 e1
  · refine ⟨rfl, ?_⟩
    refine x_if_eq (pc' := 12) rfl rfl (fun _ => ?_) (fun c9 => absurd (by decide) c9)
    refine x_int (pc' := 21) (v := nI 0) rfl rfl rfl ?_
    refine x_zret rfl rfl (by decide) ?_
    exact k0 (fun z => hf z.1) D1 o1 h1 e1
theorem jM : ∀ k, k < 7 → bh_sl (11 + k) = bh_sl (kwJ k) ∧ ∀ q, q < bh_sl (kwJ k) → scN (11 + k) q = scN (kwJ k) q := by decide +kernel
theorem jN : (bh_sl 10 = bh_sl 0 ∧ ∀ q, q < bh_sl 0 → scN 10 q = scN 0 q) ∧ (bh_sl 18 = bh_sl 8 ∧ ∀ q, q < bh_sl 8 → scN 18 q = scN 8 q) ∧ (bh_sl 19 = bh_sl 9 ∧ ∀ q, q < bh_sl 9 → scN 19 q = scN 9 q) := by decide +kernel
theorem kwM {tp : List Nat} {s e k : Nat} (hk : k < 7) : wdB tp s e (11 + k) = wdB tp s e (kwJ k) := wdB_c (jM k hk).1 (jM k hk).2
theorem wM10 {tp : List Nat} {s e : Nat} : wdB tp s e 10 = wdB tp s e 0 := wdB_c jN.1.1 jN.1.2
theorem wM18 {tp : List Nat} {s e : Nat} : wdB tp s e 18 = wdB tp s e 8 := wdB_c jN.2.1.1 jN.2.1.2
theorem wM19 {tp : List Nat} {s e : Nat} : wdB tp s e 19 = wdB tp s e 9 := wdB_c jN.2.2.1 jN.2.2.2
theorem kwF_1 {tp : List Nat} {s e f k : Nat} (h : wdB tp s e (11 + k) = true) (hk : k < 7) : kwF tp s e (f + 1) k = some k := if_pos (by rw [← kwM hk]; exact h)
theorem kwF_0 {tp : List Nat} {s e f k : Nat} (h : ¬ wdB tp s e (11 + k) = true) (hk : k < 7) : kwF tp s e (f + 1) k = kwF tp s e f (k + 1) := if_neg (by rw [← kwM hk]; exact h)
set_option maxRecDepth 20000 in
set_option maxHeartbeats 1000000 in
theorem w_X10_kindTold {D : Nat → Nat → Int32} {L : Nat → Nat → Int64} {Q : bh_Q} {tp : List Nat} {a : Nat} (h : MS D tp a 0) (k1 : ∀ k, kw tp (skp isBk tp a) (skp isLt tp (skp isBk tp a)) = some k → ∀ D', O205 D D' → MS D' tp (skp isLt tp (skp isBk tp a)) 0 → D' 205 10 = D 205 10 → Q (some (.int (nI k))) (hp D' L)) (k0 : kw tp (skp isBk tp a) (skp isLt tp (skp isBk tp a)) = none → ∀ D', O205 D D' → MS D' tp (skp isBk tp a) (8 * skp isBk tp a + 1) → D' 205 10 = D 205 10 → Q (some (.int (-1))) (hp D' L)) : bh_wc 4 m_X10_kindTold [.ref 205] (hp D L) Q := by
  refine x_start (lv0 := [_, _]) (Nat.le_of_ble_eq_true rfl) rfl ?_
  have ha := h.al
  have h4 := h.l4
  have hsl := skp_le (p := isBk) ha
  refine x_aload (pc' := 1) rfl rfl rfl ?_
  refine x_ldcS (pc' := 3) rfl rfl ?_
  refine x_callV (pc' := 6) (d1 := 3) (Bs := [_]) rfl rfl rfl rfl rfl rfl rfl (Nat.le_of_ble_eq_true rfl) ⟨rfl, rfl⟩ (by decide) rfl (by decide) ?_
  refine w_X10_takes h (by decide) (fun f0 w0 D1 o1 h1 e1 => ?_) (fun w0 D1 o1 h1 e1 => ?_)
  · refine ⟨rfl, ?_⟩
    refine x_if_eq (pc' := 9) rfl rfl (fun c6 => absurd c6 (by decide)) (fun _ => ?_)
    refine x_int (pc' := 10) (v := nI 0) rfl rfl rfl ?_
    refine x_goto rfl ?_
    refine x_istore (pc' := 67) (lv' := [_, _]) rfl rfl (by decide) rfl ?_
    refine x_iload (pc' := 68) rfl rfl rfl ?_
    refine x_int (pc' := 69) (v := (-1)) rfl rfl rfl ?_
    refine x_ic_eq (pc' := 72) rfl rfl (fun c69 => absurd c69 (by decide)) (fun _ => ?_)
    refine x_iload (pc' := 73) rfl rfl rfl ?_
    refine x_iret rfl rfl ?_
    have hk : kw tp (skp isBk tp a) (skp isLt tp (skp isBk tp a)) = some 0 := (kwF_1 (f := 6) (k := 0) w0 (by decide))
    exact k1 0 hk D1 o1 h1 e1
  · have w0 : ¬ wdB tp (skp isBk tp a) (skp isLt tp (skp isBk tp a)) (11 + 0) = true := fun z => w0 ⟨rfl, z⟩
    refine ⟨rfl, ?_⟩
    refine x_if_eq (pc' := 9) rfl rfl (fun _ => ?_) (fun c6 => absurd (by decide) c6)
    refine x_aload (pc' := 14) rfl rfl rfl ?_
    refine x_ldcS (pc' := 16) rfl rfl ?_
    refine x_callV (pc' := 19) (d1 := 3) (Bs := [_]) rfl rfl rfl rfl rfl rfl rfl (Nat.le_of_ble_eq_true rfl) ⟨rfl, rfl⟩ (by decide) rfl (by decide) ?_
    refine w_X10_takes h1 (by decide) (fun f1 w1 D2 o2 h2 e2 => ?_) (fun w1 D2 o2 h2 e2 => ?_)
    · rw [skp_fix ha] at w1 h2
      refine ⟨rfl, ?_⟩
      refine x_if_eq (pc' := 22) rfl rfl (fun c19 => absurd c19 (by decide)) (fun _ => ?_)
      refine x_int (pc' := 23) (v := nI 1) rfl rfl rfl ?_
      refine x_goto rfl ?_
      refine x_istore (pc' := 67) (lv' := [_, _]) rfl rfl (by decide) rfl ?_
      refine x_iload (pc' := 68) rfl rfl rfl ?_
      refine x_int (pc' := 69) (v := (-1)) rfl rfl rfl ?_
      refine x_ic_eq (pc' := 72) rfl rfl (fun c69 => absurd c69 (by decide)) (fun _ => ?_)
      refine x_iload (pc' := 73) rfl rfl rfl ?_
      refine x_iret rfl rfl ?_
      have hk : kw tp (skp isBk tp a) (skp isLt tp (skp isBk tp a)) = some 1 := ((kwF_0 (f := 6) (k := 0) w0 (by decide)).trans (kwF_1 (f := 5) (k := 1) w1 (by decide)))
      exact k1 1 hk D2 (o1.tr o2) h2 (e2.trans e1)
    · rw [skp_fix ha] at w1 h2
      have w1 : ¬ wdB tp (skp isBk tp a) (skp isLt tp (skp isBk tp a)) (11 + 1) = true := fun z => w1 ⟨rfl, z⟩
      refine ⟨rfl, ?_⟩
      refine x_if_eq (pc' := 22) rfl rfl (fun _ => ?_) (fun c19 => absurd (by decide) c19)
      refine x_aload (pc' := 27) rfl rfl rfl ?_
      refine x_ldcS (pc' := 29) rfl rfl ?_
      refine x_callV (pc' := 32) (d1 := 3) (Bs := [_]) rfl rfl rfl rfl rfl rfl rfl (Nat.le_of_ble_eq_true rfl) ⟨rfl, rfl⟩ (by decide) rfl (by decide) ?_
      refine w_X10_takes h2 (by decide) (fun f2 w2 D3 o3 h3 e3 => ?_) (fun w2 D3 o3 h3 e3 => ?_)
      · rw [skp_fix ha] at w2 h3
        refine ⟨rfl, ?_⟩
        refine x_if_eq (pc' := 35) rfl rfl (fun c32 => absurd c32 (by decide)) (fun _ => ?_)
        refine x_int (pc' := 36) (v := nI 2) rfl rfl rfl ?_
        refine x_goto rfl ?_
        refine x_istore (pc' := 67) (lv' := [_, _]) rfl rfl (by decide) rfl ?_
        refine x_iload (pc' := 68) rfl rfl rfl ?_
        refine x_int (pc' := 69) (v := (-1)) rfl rfl rfl ?_
        refine x_ic_eq (pc' := 72) rfl rfl (fun c69 => absurd c69 (by decide)) (fun _ => ?_)
        refine x_iload (pc' := 73) rfl rfl rfl ?_
        refine x_iret rfl rfl ?_
        have hk : kw tp (skp isBk tp a) (skp isLt tp (skp isBk tp a)) = some 2 := ((kwF_0 (f := 6) (k := 0) w0 (by decide)).trans ((kwF_0 (f := 5) (k := 1) w1 (by decide)).trans (kwF_1 (f := 4) (k := 2) w2 (by decide))))
        exact k1 2 hk D3 ((o1.tr o2).tr o3) h3 (e3.trans (e2.trans e1))
      · rw [skp_fix ha] at w2 h3
        have w2 : ¬ wdB tp (skp isBk tp a) (skp isLt tp (skp isBk tp a)) (11 + 2) = true := fun z => w2 ⟨rfl, z⟩
        refine ⟨rfl, ?_⟩
        refine x_if_eq (pc' := 35) rfl rfl (fun _ => ?_) (fun c32 => absurd (by decide) c32)
        refine x_aload (pc' := 40) rfl rfl rfl ?_
        refine x_ldcS (pc' := 42) rfl rfl ?_
        refine x_callV (pc' := 45) (d1 := 3) (Bs := [_]) rfl rfl rfl rfl rfl rfl rfl (Nat.le_of_ble_eq_true rfl) ⟨rfl, rfl⟩ (by decide) rfl (by decide) ?_
        refine w_X10_takes h3 (by decide) (fun f3 w3 D4 o4 h4 e4 => ?_) (fun w3 D4 o4 h4 e4 => ?_)
        · rw [skp_fix ha] at w3 h4
          refine ⟨rfl, ?_⟩
          refine x_if_eq (pc' := 48) rfl rfl (fun c45 => absurd c45 (by decide)) (fun _ => ?_)
          refine x_int (pc' := 49) (v := nI 3) rfl rfl rfl ?_
          refine x_goto rfl ?_
          refine x_istore (pc' := 67) (lv' := [_, _]) rfl rfl (by decide) rfl ?_
          refine x_iload (pc' := 68) rfl rfl rfl ?_
          refine x_int (pc' := 69) (v := (-1)) rfl rfl rfl ?_
          refine x_ic_eq (pc' := 72) rfl rfl (fun c69 => absurd c69 (by decide)) (fun _ => ?_)
          refine x_iload (pc' := 73) rfl rfl rfl ?_
          refine x_iret rfl rfl ?_
          have hk : kw tp (skp isBk tp a) (skp isLt tp (skp isBk tp a)) = some 3 := ((kwF_0 (f := 6) (k := 0) w0 (by decide)).trans ((kwF_0 (f := 5) (k := 1) w1 (by decide)).trans ((kwF_0 (f := 4) (k := 2) w2 (by decide)).trans (kwF_1 (f := 3) (k := 3) w3 (by decide)))))
          exact k1 3 hk D4 (((o1.tr o2).tr o3).tr o4) h4 (e4.trans (e3.trans (e2.trans e1)))
        · rw [skp_fix ha] at w3 h4
          have w3 : ¬ wdB tp (skp isBk tp a) (skp isLt tp (skp isBk tp a)) (11 + 3) = true := fun z => w3 ⟨rfl, z⟩
          refine ⟨rfl, ?_⟩
          refine x_if_eq (pc' := 48) rfl rfl (fun _ => ?_) (fun c45 => absurd (by decide) c45)
          refine x_aload (pc' := 53) rfl rfl rfl ?_
          refine x_ldcS (pc' := 55) rfl rfl ?_
          refine x_callV (pc' := 58) (d1 := 3) (Bs := [_]) rfl rfl rfl rfl rfl rfl rfl (Nat.le_of_ble_eq_true rfl) ⟨rfl, rfl⟩ (by decide) rfl (by decide) ?_
          refine w_X10_takes h4 (by decide) (fun f4 w4 D5 o5 h5 e5 => ?_) (fun w4 D5 o5 h5 e5 => ?_)
          · rw [skp_fix ha] at w4 h5
            refine ⟨rfl, ?_⟩
            refine x_if_eq (pc' := 61) rfl rfl (fun c58 => absurd c58 (by decide)) (fun _ => ?_)
            refine x_int (pc' := 62) (v := nI 4) rfl rfl rfl ?_
            refine x_goto rfl ?_
            refine x_istore (pc' := 67) (lv' := [_, _]) rfl rfl (by decide) rfl ?_
            refine x_iload (pc' := 68) rfl rfl rfl ?_
            refine x_int (pc' := 69) (v := (-1)) rfl rfl rfl ?_
            refine x_ic_eq (pc' := 72) rfl rfl (fun c69 => absurd c69 (by decide)) (fun _ => ?_)
            refine x_iload (pc' := 73) rfl rfl rfl ?_
            refine x_iret rfl rfl ?_
            have hk : kw tp (skp isBk tp a) (skp isLt tp (skp isBk tp a)) = some 4 := ((kwF_0 (f := 6) (k := 0) w0 (by decide)).trans ((kwF_0 (f := 5) (k := 1) w1 (by decide)).trans ((kwF_0 (f := 4) (k := 2) w2 (by decide)).trans ((kwF_0 (f := 3) (k := 3) w3 (by decide)).trans (kwF_1 (f := 2) (k := 4) w4 (by decide))))))
            exact k1 4 hk D5 ((((o1.tr o2).tr o3).tr o4).tr o5) h5 (e5.trans (e4.trans (e3.trans (e2.trans e1))))
          · rw [skp_fix ha] at w4 h5
            have w4 : ¬ wdB tp (skp isBk tp a) (skp isLt tp (skp isBk tp a)) (11 + 4) = true := fun z => w4 ⟨rfl, z⟩
            refine ⟨rfl, ?_⟩
            refine x_if_eq (pc' := 61) rfl rfl (fun _ => ?_) (fun c58 => absurd (by decide) c58)
            refine x_int (pc' := 66) (v := (-1)) rfl rfl rfl ?_
            refine x_istore (pc' := 67) (lv' := [_, _]) rfl rfl (by decide) rfl ?_
            refine x_iload (pc' := 68) rfl rfl rfl ?_
            refine x_int (pc' := 69) (v := (-1)) rfl rfl rfl ?_
            refine x_ic_eq (pc' := 72) rfl rfl (fun _ => ?_) (fun c69 => absurd (by decide) c69)
            refine x_aload (pc' := 75) rfl rfl rfl ?_
            refine x_ldcS (pc' := 77) rfl rfl ?_
            refine x_callV (pc' := 80) (d1 := 3) (Bs := [_]) rfl rfl rfl rfl rfl rfl rfl (Nat.le_of_ble_eq_true rfl) ⟨rfl, rfl⟩ (by decide) rfl (by decide) ?_
            refine w_X10_takes h5 (by decide) (fun f5 w5 D6 o6 h6 e6 => ?_) (fun w5 D6 o6 h6 e6 => ?_)
            · rw [skp_fix ha] at w5 h6
              refine ⟨rfl, ?_⟩
              refine x_if_eq (pc' := 83) rfl rfl (fun c80 => absurd c80 (by decide)) (fun _ => ?_)
              refine x_int (pc' := 84) (v := nI 5) rfl rfl rfl ?_
              refine x_goto rfl ?_
              refine x_istore (pc' := 103) (lv' := [_, _]) rfl rfl (by decide) rfl ?_
              refine x_iload (pc' := 104) rfl rfl rfl ?_
              refine x_int (pc' := 105) (v := (-1)) rfl rfl rfl ?_
              refine x_ic_ne (pc' := 108) rfl rfl (fun _ => ?_) (fun c105 => absurd c105 (by decide))
              refine x_iload (pc' := 118) rfl rfl rfl ?_
              refine x_iret rfl rfl ?_
              have hk : kw tp (skp isBk tp a) (skp isLt tp (skp isBk tp a)) = some 5 := ((kwF_0 (f := 6) (k := 0) w0 (by decide)).trans ((kwF_0 (f := 5) (k := 1) w1 (by decide)).trans ((kwF_0 (f := 4) (k := 2) w2 (by decide)).trans ((kwF_0 (f := 3) (k := 3) w3 (by decide)).trans ((kwF_0 (f := 2) (k := 4) w4 (by decide)).trans (kwF_1 (f := 1) (k := 5) w5 (by decide)))))))
              exact k1 5 hk D6 (((((o1.tr o2).tr o3).tr o4).tr o5).tr o6) h6 (e6.trans (e5.trans (e4.trans (e3.trans (e2.trans e1)))))
            · rw [skp_fix ha] at w5 h6
              have w5 : ¬ wdB tp (skp isBk tp a) (skp isLt tp (skp isBk tp a)) (11 + 5) = true := fun z => w5 ⟨rfl, z⟩
              refine ⟨rfl, ?_⟩
              refine x_if_eq (pc' := 83) rfl rfl (fun _ => ?_) (fun c80 => absurd (by decide) c80)
              refine x_aload (pc' := 88) rfl rfl rfl ?_
              refine x_ldcS (pc' := 90) rfl rfl ?_
              refine x_callV (pc' := 93) (d1 := 3) (Bs := [_]) rfl rfl rfl rfl rfl rfl rfl (Nat.le_of_ble_eq_true rfl) ⟨rfl, rfl⟩ (by decide) rfl (by decide) ?_
              refine w_X10_takes h6 (by decide) (fun f6 w6 D7 o7 h7 e7 => ?_) (fun w6 D7 o7 h7 e7 => ?_)
              · rw [skp_fix ha] at w6 h7
                refine ⟨rfl, ?_⟩
                refine x_if_eq (pc' := 96) rfl rfl (fun c93 => absurd c93 (by decide)) (fun _ => ?_)
                refine x_int (pc' := 98) (v := nI 6) rfl rfl rfl ?_
                refine x_goto rfl ?_
                refine x_istore (pc' := 103) (lv' := [_, _]) rfl rfl (by decide) rfl ?_
                refine x_iload (pc' := 104) rfl rfl rfl ?_
                refine x_int (pc' := 105) (v := (-1)) rfl rfl rfl ?_
                refine x_ic_ne (pc' := 108) rfl rfl (fun _ => ?_) (fun c105 => absurd c105 (by decide))
                refine x_iload (pc' := 118) rfl rfl rfl ?_
                refine x_iret rfl rfl ?_
                have hk : kw tp (skp isBk tp a) (skp isLt tp (skp isBk tp a)) = some 6 := ((kwF_0 (f := 6) (k := 0) w0 (by decide)).trans ((kwF_0 (f := 5) (k := 1) w1 (by decide)).trans ((kwF_0 (f := 4) (k := 2) w2 (by decide)).trans ((kwF_0 (f := 3) (k := 3) w3 (by decide)).trans ((kwF_0 (f := 2) (k := 4) w4 (by decide)).trans ((kwF_0 (f := 1) (k := 5) w5 (by decide)).trans (kwF_1 (f := 0) (k := 6) w6 (by decide))))))))
                exact k1 6 hk D7 ((((((o1.tr o2).tr o3).tr o4).tr o5).tr o6).tr o7) h7 (e7.trans (e6.trans (e5.trans (e4.trans (e3.trans (e2.trans e1))))))
              · rw [skp_fix ha] at w6 h7
                have w6 : ¬ wdB tp (skp isBk tp a) (skp isLt tp (skp isBk tp a)) (11 + 6) = true := fun z => w6 ⟨rfl, z⟩
                refine ⟨rfl, ?_⟩
                refine x_if_eq (pc' := 96) rfl rfl (fun _ => ?_) (fun c93 => absurd (by decide) c93)
                refine x_int (pc' := 102) (v := (-1)) rfl rfl rfl ?_
                refine x_istore (pc' := 103) (lv' := [_, _]) rfl rfl (by decide) rfl ?_
                refine x_iload (pc' := 104) rfl rfl rfl ?_
                refine x_int (pc' := 105) (v := (-1)) rfl rfl rfl ?_
                refine x_ic_ne (pc' := 108) rfl rfl (fun c105 => absurd (by decide) c105) (fun _ => ?_)
                refine x_aload (pc' := 109) rfl rfl rfl ?_
                refine x_int (pc' := 110) (v := nI 1) rfl rfl rfl ?_
                refine x_aload (pc' := 111) rfl rfl rfl ?_
                refine x_getI (j := 8) (pc' := 114) rfl rfl rfl (by decide) rfl (by decide) rfl rfl ?_
                refine x_top (h7.at) ?_
                refine x_callV (pc' := 117) (d1 := 2) (Bs := [_, _]) rfl rfl rfl rfl rfl rfl rfl (Nat.le_of_ble_eq_true rfl) ⟨rfl, rfl⟩ (by decide) rfl (by decide) ?_
                refine w_X10_fails h7 (by omega) (by decide) (by decide) (fun D9 o9 h9 e9 => ?_)
                refine ⟨rfl, ?_⟩
                refine x_iload (pc' := 118) rfl rfl rfl ?_
                refine x_iret rfl rfl ?_
                have hk : kw tp (skp isBk tp a) (skp isLt tp (skp isBk tp a)) = none := ((kwF_0 (f := 6) (k := 0) w0 (by decide)).trans ((kwF_0 (f := 5) (k := 1) w1 (by decide)).trans ((kwF_0 (f := 4) (k := 2) w2 (by decide)).trans ((kwF_0 (f := 3) (k := 3) w3 (by decide)).trans ((kwF_0 (f := 2) (k := 4) w4 (by decide)).trans ((kwF_0 (f := 1) (k := 5) w5 (by decide)).trans ((kwF_0 (f := 0) (k := 6) w6 (by decide)).trans rfl)))))))
                exact k0 hk D9 (((((((o1.tr o2).tr o3).tr o4).tr o5).tr o6).tr o7).tr o9) h9 (e9.trans (e7.trans (e6.trans (e5.trans (e4.trans (e3.trans (e2.trans e1)))))))
