/-! ===== the reference: numbers and words ===== -/
theorem cap_st2 {v c : Nat} (hc : 48 ≤ c ∧ c ≤ 57) : min 999999 (10 * min 999999 v + c - 48) = min 999999 (10 * v + (c - 48)) := by omega
theorem sgV_1 {tp : List Nat} {a : Nat} (h : a < tp.length) : sgV tp a = nI (tp.getD a 0) := if_pos h
set_option maxRecDepth 20000 in
set_option maxHeartbeats 1000000 in
theorem l_X10_number {L : Nat → Nat → Int64} {Q : bh_Q} {d : Nat} (hd : 2 ≤ d) {tp : List Nat} {f s : Nat} {x y : Int32} : ∀ (n m : Nat) (D : Nat → Nat → Int32), tp.length - (s + m) < n → MS D tp (s + m) f → (∀ D' m', O205 D D' → MS D' tp (s + m') f → D' 205 10 = D 205 10 → skp isDg tp (s + m) = s + m' → bw m_X10_number d Q 78 [.ref 205, .int x, .int y, .int (nI (min 999999 (nmV tp s m')))] [] D' L) → bw m_X10_number d Q 40 [.ref 205, .int x, .int y, .int (nI (min 999999 (nmV tp s m)))] [] D L := by
  intro n
  induction n with
  | zero => intro m D hn; omega
  | succ n ih =>
    intro m D hn h k1
    have h4 := h.l4
    have hi := h.al
    have hml : min 999999 (nmV tp s m) ≤ 999999 := Nat.min_le_left _ _
    refine x_aload (pc' := 41) rfl rfl rfl ?_
    refine x_callV (pc' := 44) (d1 := 2) (Bs := []) rfl rfl rfl rfl rfl rfl rfl (Nat.le_of_ble_eq_true rfl) ⟨rfl, rfl⟩ (by decide) rfl (by omega) ?_
    refine w_X10_isDigit h (fun hc => ?_) (fun hc => ?_)
    · refine ⟨rfl, ?_⟩
      refine x_if_eq (pc' := 47) rfl rfl (fun c44 => absurd c44 (by decide)) (fun _ => ?_)
      refine x_int (pc' := 49) (v := nI 999999) rfl rfl rfl ?_
      refine x_int (pc' := 51) (v := nI 10) rfl rfl rfl ?_
      refine x_iload (pc' := 52) rfl rfl rfl ?_
      refine y_imul (pc' := 53) rfl rfl ?_
      refine x_aload (pc' := 54) rfl rfl rfl ?_
      refine x_callV (pc' := 57) (d1 := 1) (Bs := []) rfl rfl rfl rfl rfl rfl rfl (Nat.le_of_ble_eq_true rfl) ⟨rfl, rfl⟩ (by decide) rfl (by omega) ?_
      refine w_X10_sign h ?_
      refine ⟨rfl, ?_⟩
      refine x_top (sgV_1 hc.1) ?_
      refine y_iadd (pc' := 58) rfl rfl ?_
      refine x_int (pc' := 60) (v := nI 48) rfl rfl rfl ?_
      refine y_isub (pc' := 61) rfl rfl (by first | omega | (have := h.b2 (i := s + m) hc.1; omega)) ?_
      refine x_min (pc' := 64) rfl rfl (Nat.le_of_ble_eq_true rfl) (nI_min (by decide) (by have := h.b2 (i := s + m) hc.1; omega)) ?_
      refine x_istore (pc' := 65) (lv' := [_, _, _, _]) rfl rfl (by decide) rfl ?_
      refine x_aload (pc' := 66) rfl rfl rfl ?_
      refine x_dup (pc' := 67) rfl rfl rfl ?_
      refine x_getI (j := 8) (pc' := 70) rfl rfl rfl (by decide) rfl (by decide) rfl rfl ?_
      refine x_top (h.at) ?_
      refine x_int (pc' := 71) (v := nI 1) rfl rfl rfl ?_
      refine y_iadd (pc' := 72) rfl rfl ?_
      refine x_putI (j := 8) (pc' := 75) rfl rfl rfl (by decide) rfl (by decide) rfl rfl ?_
      refine x_goto rfl ?_
      have hh := ih (m + 1) _ (by omega) (h.a (b := s + (m + 1)) (by omega)) (fun D2 m2 o2 h2 e2 hh2 => k1 D2 m2 ((O205.up (Or.inl rfl)).tr o2) h2 (e2.trans (up2_o (by decide))) ((skp_1 hc.1 (show isDg (tp.getD (s + m) 0) = true from decide_eq_true hc.2)).trans hh2))
      have ec := cap_st2 (v := nmV tp s m) hc.2
      rw [show nmV tp s (m + 1) = 10 * nmV tp s m + (tp.getD (s + m) 0 - 48) from rfl, ← ec] at hh
      exact hh
    · refine ⟨rfl, ?_⟩
      refine x_if_eq (pc' := 47) rfl rfl (fun _ => ?_) (fun c44 => absurd (by decide) c44)
      have ee : skp isDg tp (s + m) = s + m := by
        rcases Nat.lt_or_ge (s + m) tp.length with g | g
        · exact skp_0 g (show isDg (tp.getD (s + m) 0) = false from decide_eq_false (fun e => hc ⟨g, e⟩))
        · exact skp_e g
      exact k1 D m O205.rf h rfl ee
set_option maxRecDepth 20000 in
set_option maxHeartbeats 1000000 in
theorem w_X10_number {D : Nat → Nat → Int32} {L : Nat → Nat → Int64} {Q : bh_Q} {tp : List Nat} {a lo hi : Nat} {y : Int32} (h : MS D tp a 0) (hlo : lo < 100) (hhi : hi ≤ 65536) (hy : y = nI hi - 1) (k1 : ∀ D' x, O205 D D' → MS D' tp (nE tp a) (nF tp lo hi a) → D' 205 10 = nI (nS tp a) → (nF tp lo hi a = 0 → x = nI (nV tp a)) → (∃ v, v < 65536 ∧ x = nI v) → Q (some (.int x)) (hp D' L)) : bh_wc 3 m_X10_number [.ref 205, .int (nI lo), .int y] (hp D L) Q := by
  refine x_start (lv0 := [_, _, _, _]) (Nat.le_of_ble_eq_true rfl) rfl ?_
  have h4 := h.l4
  have ha := h.al
  refine x_aload (pc' := 1) rfl rfl rfl ?_
  refine x_callV (pc' := 4) (d1 := 2) (Bs := []) rfl rfl rfl rfl rfl rfl rfl (Nat.le_of_ble_eq_true rfl) ⟨rfl, rfl⟩ (by decide) rfl (by decide) ?_
  refine w_X10_next h (fun D1 o1 h1 e1 => ?_)
  refine ⟨rfl, ?_⟩
  refine x_pop (pc' := 5) rfl rfl rfl ?_
  refine x_aload (pc' := 6) rfl rfl rfl ?_
  refine x_aload (pc' := 7) rfl rfl rfl ?_
  refine x_getI (j := 8) (pc' := 10) rfl rfl rfl (by decide) rfl (by decide) rfl rfl ?_
  refine x_top (h1.at) ?_
  refine x_putI (j := 10) (pc' := 13) rfl rfl rfl (by decide) rfl (by decide) rfl rfl ?_
  have h1n : MS (bh_up2 D1 205 10 (nI (nS tp a))) tp (nS tp a) 0 := h1.n
  have oo : O205 D (bh_up2 D1 205 10 (nI (nS tp a))) := o1.tr (O205.up (Or.inr (Or.inr rfl)))
  have hsl := nS_le (tp := tp) ha
  refine x_aload (pc' := 14) rfl rfl rfl ?_
  refine x_callV (pc' := 17) (d1 := 1) (Bs := []) rfl rfl rfl rfl rfl rfl rfl (Nat.le_of_ble_eq_true rfl) ⟨rfl, rfl⟩ (by decide) rfl (by decide) ?_
  refine w_X10_isRight h1n (fun hf => ?_) (fun hf => absurd rfl hf)
  refine ⟨rfl, ?_⟩
  refine x_if_eq (pc' := 20) rfl rfl (fun c17 => absurd c17 (by decide)) (fun _ => ?_)
  refine x_aload (pc' := 21) rfl rfl rfl ?_
  refine x_callV (pc' := 24) (d1 := 2) (Bs := []) rfl rfl rfl rfl rfl rfl rfl (Nat.le_of_ble_eq_true rfl) ⟨rfl, rfl⟩ (by decide) rfl (by decide) ?_
  refine w_X10_isDigit h1n (fun hc => ?_) (fun hc => ?_)
  · refine ⟨rfl, ?_⟩
    refine x_if_ne (pc' := 27) rfl rfl (fun _ => ?_) (fun c24 => absurd c24 (by decide))
    refine x_int (pc' := 39) (v := nI 0) rfl rfl rfl ?_
    refine x_istore (pc' := 40) (lv' := [_, _, _, _]) rfl rfl (by decide) rfl ?_
    have hh := l_X10_number (L := L) (Q := Q) (d := 2) (Nat.le_refl _) (s := nS tp a) (x := nI lo) (y := y) (tp.length - nS tp a + 1) 0 (bh_up2 D1 205 10 (nI (nS tp a))) (by omega) h1n (fun D2 m o2 h2 e2 hm => ?kk)
    case kk =>
      have e2 : D2 205 10 = nI (nS tp a) := e2.trans (bh_up2_self _ _ _ _)
      have eE : nE tp a = nS tp a + m := hm
      have eV : nV tp a = nmV tp (nS tp a) m := by unfold nV; rw [eE, show nS tp a + m - nS tp a = m by omega]
      have hml : min 999999 (nmV tp (nS tp a) m) ≤ 999999 := Nat.min_le_left _ _
      have hne : ¬ nE tp a = nS tp a := fun z => by
        have e1 : skp isDg tp (nS tp a) = skp isDg tp (nS tp a + 1) := skp_1 hc.1 (show isDg (tp.getD (nS tp a) 0) = true from decide_eq_true hc.2)
        have := skp_ge (p := isDg) (tp := tp) (nS tp a + 1)
        have z : skp isDg tp (nS tp a) = nS tp a := z
        omega
      have cIn : nI lo ≤ nI (min 999999 (nmV tp (nS tp a) m)) → nI (min 999999 (nmV tp (nS tp a) m)) ≤ y → lo ≤ nV tp a ∧ nV tp a < hi := fun c c2 => by
        rw [hy] at c2
        have := (nI_leI (by omega) (by omega)).mp c
        rcases Nat.lt_or_ge (nmV tp (nS tp a) m) hi with q | q
        · omega
        · exfalso; have := Int32.lt_of_le_of_lt c2 (sub1_lt (f := hi) (by omega)); have := (nI_ltI (by omega) (by omega)).mp this; omega
      have cOut : ¬ (nI lo ≤ nI (min 999999 (nmV tp (nS tp a) m)) ∧ nI (min 999999 (nmV tp (nS tp a) m)) ≤ y) → nV tp a < lo ∨ hi ≤ nV tp a := fun c => by
        rcases Nat.lt_or_ge (nV tp a) lo with q | q
        · exact Or.inl q
        · refine Or.inr ?_
          rcases Nat.lt_or_ge (nV tp a) hi with q2 | q2
          · exfalso; apply c; refine ⟨nI_le (by omega) (by omega), ?_⟩; obtain ⟨g, rfl⟩ : ∃ g, hi = g + 1 := ⟨hi - 1, by omega⟩; rw [hy, nI_pred]; exact nI_le (by omega) (by omega)
          · exact q2
      refine x_iload (pc' := 79) rfl rfl rfl ?_
      refine x_i2l (pc' := 80) rfl rfl ?_
      refine x_iload (pc' := 81) rfl rfl rfl ?_
      refine x_i2l (pc' := 82) rfl rfl ?_
      refine x_iload (pc' := 83) rfl rfl rfl ?_
      refine x_i2l (pc' := 84) rfl rfl ?_
      refine x_callS (pc' := 87) (d1 := 1) (As := [_, _, _]) rfl rfl rfl rfl (by decide) rfl rfl (Nat.le_of_ble_eq_true rfl) ⟨rfl, rfl⟩ (by decide) ?_
      refine w_X10_in (fun g1 g2 => ?_) (fun g => ?_)
      · refine ⟨rfl, ?_⟩
        refine x_if_ne (pc' := 90) rfl rfl (fun _ => ?_) (fun c87 => absurd c87 (by decide))
        refine x_iload (pc' := 102) rfl rfl rfl ?_
        refine x_iret rfl rfl ?_
        have hin := cIn g1 g2
        have ef : nF tp lo hi a = 0 := by unfold nF; rw [if_neg hne, if_neg (by omega)]
        rw [ef] at k1
        exact k1 D2 _ (oo.tr o2) (by rw [eE]; exact h2) e2 (fun _ => congrArg nI (by omega)) ⟨_, by omega, rfl⟩
      · refine ⟨rfl, ?_⟩
        refine x_if_ne (pc' := 90) rfl rfl (fun c87 => absurd (by decide) c87) (fun _ => ?_)
        refine x_aload (pc' := 91) rfl rfl rfl ?_
        refine x_int (pc' := 92) (v := nI 2) rfl rfl rfl ?_
        refine x_aload (pc' := 93) rfl rfl rfl ?_
        refine x_getI (j := 10) (pc' := 96) rfl rfl rfl (by decide) rfl (by decide) rfl rfl ?_
        refine x_top (e2) ?_
        refine x_callV (pc' := 99) (d1 := 2) (Bs := [_, _]) rfl rfl rfl rfl rfl rfl rfl (Nat.le_of_ble_eq_true rfl) ⟨rfl, rfl⟩ (by decide) rfl (by decide) ?_
        refine w_X10_fails h2 (show nS tp a ≤ 400 by omega) (by decide) (by decide) (fun D3 o3 h3 e3 => ?_)
        refine ⟨rfl, ?_⟩
        refine x_iload (pc' := 100) rfl rfl rfl ?_
        refine x_iret rfl rfl ?_
        have ef : nF tp lo hi a = 8 * nS tp a + 2 := by unfold nF; rw [if_neg hne, if_pos (cOut g)]
        rw [ef] at k1
        exact k1 D3 _ ((oo.tr o2).tr o3) (by rw [eE]; exact h3) (e3.trans e2) (fun z => absurd z (by omega)) ⟨lo, by omega, rfl⟩
    exact hh
  · refine ⟨rfl, ?_⟩
    refine x_if_ne (pc' := 27) rfl rfl (fun c24 => absurd (by decide) c24) (fun _ => ?_)
    refine x_aload (pc' := 28) rfl rfl rfl ?_
    refine x_int (pc' := 29) (v := nI 1) rfl rfl rfl ?_
    refine x_aload (pc' := 30) rfl rfl rfl ?_
    refine x_getI (j := 8) (pc' := 33) rfl rfl rfl (by decide) rfl (by decide) rfl rfl ?_
    refine x_top (h1n.at) ?_
    refine x_callV (pc' := 36) (d1 := 2) (Bs := [_, _]) rfl rfl rfl rfl rfl rfl rfl (Nat.le_of_ble_eq_true rfl) ⟨rfl, rfl⟩ (by decide) rfl (by decide) ?_
    refine w_X10_fails h1n (show nS tp a ≤ 400 by omega) (by decide) (by decide) (fun D3 o3 h3 e3 => ?_)
    refine ⟨rfl, ?_⟩
    refine x_iload (pc' := 37) rfl rfl rfl ?_
    refine x_iret rfl rfl ?_
    have eE : nE tp a = nS tp a := by
      show skp isDg tp (nS tp a) = nS tp a
      rcases Nat.lt_or_ge (nS tp a) tp.length with g | g
      · exact skp_0 g (show isDg (tp.getD (nS tp a) 0) = false from decide_eq_false (fun e => hc ⟨g, e⟩))
      · exact skp_e g
    have ef : nF tp lo hi a = 8 * nS tp a + 1 := if_pos eE
    rw [ef] at k1
    exact k1 D3 _ (oo.tr o3) (by rw [eE]; exact h3) (e3.trans (bh_up2_self _ _ _ _)) (fun z => absurd z (by omega)) ⟨lo, by omega, rfl⟩
