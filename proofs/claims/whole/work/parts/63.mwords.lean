/-! ===== the reference: numbers and words ===== -/
theorem cap_st2 {v c : Nat} (hc : 48 ≤ c ∧ c ≤ 57) : min 999999 (10 * min 999999 v + c - 48) = min 999999 (10 * v + (c - 48)) := by omega
theorem sgV_1 {tp : List Nat} {a : Nat} (h : a < tp.length) : sgV tp a = nI (tp.getD a 0) := if_pos h
set_option maxRecDepth 20000 in
set_option maxHeartbeats 1000000 in
theorem l_X10_number {L : Nat → Nat → Int64} {Q : bh_Q} {d : Nat} (hd : 2 ≤ d) {tp : List Nat} {f s : Nat} {x y : Int32} : ∀ (n m : Nat) (D : Nat → Nat → Int32), tp.length - (s + m) < n → MS D tp (s + m) f → (∀ D' m', O205 D D' → MS D' tp (s + m') f → D' 205 10 = D 205 10 → skp isDg tp (s + m) = s + m' → bw m_X10_number d Q 78 [.ref 205, .int x, .int y, .int (nI (min 999999 (nmV tp s m')))] [] D' L) → bw m_X10_number d Q 40 [.ref 205, .int x, .int y, .int (nI (min 999999 (nmV tp s m)))] [] D L := by
  intro n
  induction n with
  | zero => intro m D hn; omega
  | succ n ih =>
    intro m D hn h k1
    have h4 := h.l4
    have hi := h.al
    have hml : min 999999 (nmV tp s m) ≤ 999999 := Nat.min_le_left _ _
    refine x_aload (pc' := 41) rfl rfl rfl ?_
    refine x_callV (pc' := 44) (d1 := 2) (Bs := []) rfl rfl rfl rfl rfl rfl rfl (Nat.le_of_ble_eq_true rfl) ⟨rfl, rfl⟩ (by decide) rfl (by omega) ?_
    refine w_X10_isDigit h (fun hc => ?_) (fun hc => ?_)
    · refine ⟨rfl, ?_⟩
      refine x_if_eq (pc' := 47) rfl rfl (fun c44 => absurd c44 (by decide)) (fun _ => ?_)
      refine x_int (pc' := 49) (v := nI 999999) rfl rfl rfl ?_
      refine x_int (pc' := 51) (v := nI 10) rfl rfl rfl ?_
      refine x_iload (pc' := 52) rfl rfl rfl ?_
      refine y_imul (pc' := 53) rfl rfl ?_
      refine x_aload (pc' := 54) rfl rfl rfl ?_
      refine x_callV (pc' := 57) (d1 := 1) (Bs := []) rfl rfl rfl rfl rfl rfl rfl (Nat.le_of_ble_eq_true rfl) ⟨rfl, rfl⟩ (by decide) rfl (by omega) ?_
      refine w_X10_sign h ?_
      refine ⟨rfl, ?_⟩
      refine x_top (sgV_1 hc.1) ?_
      refine y_iadd (pc' := 58) rfl rfl ?_
      refine x_int (pc' := 60) (v := nI 48) rfl rfl rfl ?_
      refine y_isub (pc' := 61) rfl rfl (by first | omega | (have := h.b2 (i := s + m) hc.1; omega)) ?_
      refine x_min (pc' := 64) rfl rfl (Nat.le_of_ble_eq_true rfl) (nI_min (by decide) (by have := h.b2 (i := s + m) hc.1; omega)) ?_
      refine x_istore (pc' := 65) (lv' := [_, _, _, _]) rfl rfl (by decide) rfl ?_
      refine x_aload (pc' := 66) rfl rfl rfl ?_
      refine x_dup (pc' := 67) rfl rfl rfl ?_
      refine x_getI (j := 8) (pc' := 70) rfl rfl rfl (by decide) rfl (by decide) rfl rfl ?_
      refine x_top (h.at) ?_
      refine x_int (pc' := 71) (v := nI 1) rfl rfl rfl ?_
      refine y_iadd (pc' := 72) rfl rfl ?_
      refine x_putI (j := 8) (pc' := 75) rfl rfl rfl (by decide) rfl (by decide) rfl rfl ?_
      refine x_goto rfl ?_
      have hh := ih (m + 1) _ (by omega) (h.a (b := s + (m + 1)) (by omega)) (fun D2 m2 o2 h2 e2 hh2 => k1 D2 m2 ((O205.up (Or.inl rfl)).tr o2) h2 (e2.trans (up2_o (by decide))) ((skp_1 hc.1 (show isDg (tp.getD (s + m) 0) = true from decide_eq_true hc.2)).trans hh2))
      have ec := cap_st2 (v := nmV tp s m) hc.2
      rw [show nmV tp s (m + 1) = 10 * nmV tp s m + (tp.getD (s + m) 0 - 48) from rfl, ← ec] at hh
      exact hh
    · refine ⟨rfl, ?_⟩
      refine x_if_eq (pc' := 47) rfl rfl (fun _ => ?_) (fun c44 => absurd (by decide) c44)
      have ee : skp isDg tp (s + m) = s + m := by
        rcases Nat.lt_or_ge (s + m) tp.length with g | g
        · exact skp_0 g (show isDg (tp.getD (s + m) 0) = false from decide_eq_false (fun e => hc ⟨g, e⟩))
        · exact skp_e g
      exact k1 D m O205.rf h rfl ee
set_option maxRecDepth 20000 in
set_option maxHeartbeats 1000000 in
theorem w_X10_number {D : Nat → Nat → Int32} {L : Nat → Nat → Int64} {Q : bh_Q} {tp : List Nat} {a lo hi : Nat} {y : Int32} (h : MS D tp a 0) (hlo : lo < 100) (hhi : hi ≤ 65536) (hy : y = nI hi - 1) (k1 : ∀ D' x, O205 D D' → MS D' tp (nE tp a) (nF tp lo hi a) → D' 205 10 = nI (nS tp a) → (nF tp lo hi a = 0 → x = nI (nV tp a)) → (∃ v, v < 65536 ∧ x = nI v) → Q (some (.int x)) (hp D' L)) : bh_wc 3 m_X10_number [.ref 205, .int (nI lo), .int y] (hp D L) Q := by
  refine x_start (lv0 := [_, _, _, _]) (Nat.le_of_ble_eq_true rfl) rfl ?_
  have h4 := h.l4
  have ha := h.al
  refine x_aload (pc' := 1) rfl rfl rfl ?_
  refine x_callV (pc' := 4) (d1 := 2) (Bs := []) rfl rfl rfl rfl rfl rfl rfl (Nat.le_of_ble_eq_true rfl) ⟨rfl, rfl⟩ (by decide) rfl (by decide) ?_
  refine w_X10_next h (fun D1 o1 h1 e1 => ?_)
  refine ⟨rfl, ?_⟩
  refine x_pop (pc' := 5) rfl rfl rfl ?_
  refine x_aload (pc' := 6) rfl rfl rfl ?_
  refine x_aload (pc' := 7) rfl rfl rfl ?_
  refine x_getI (j := 8) (pc' := 10) rfl rfl rfl (by decide) rfl (by decide) rfl rfl ?_
  refine x_top (h1.at) ?_
  refine x_putI (j := 10) (pc' := 13) rfl rfl rfl (by decide) rfl (by decide) rfl rfl ?_
  have h1n : MS (bh_up2 D1 205 10 (nI (nS tp a))) tp (nS tp a) 0 := h1.n
  have oo : O205 D (bh_up2 D1 205 10 (nI (nS tp a))) := o1.tr (O205.up (Or.inr (Or.inr rfl)))
  have hsl := nS_le (tp := tp) ha
  refine x_aload (pc' := 14) rfl rfl rfl ?_
  refine x_callV (pc' := 17) (d1 := 1) (Bs := []) rfl rfl rfl rfl rfl rfl rfl (Nat.le_of_ble_eq_true rfl) ⟨rfl, rfl⟩ (by decide) rfl (by decide) ?_
  refine w_X10_isRight h1n (fun hf => ?_) (fun hf => absurd rfl hf)
  refine ⟨rfl, ?_⟩
  refine x_if_eq (pc' := 20) rfl rfl (fun c17 => absurd c17 (by decide)) (fun _ => ?_)
  refine x_aload (pc' := 21) rfl rfl rfl ?_
  refine x_callV (pc' := 24) (d1 := 2) (Bs := []) rfl rfl rfl rfl rfl rfl rfl (Nat.le_of_ble_eq_true rfl) ⟨rfl, rfl⟩ (by decide) rfl (by decide) ?_
  refine w_X10_isDigit h1n (fun hc => ?_) (fun hc => ?_)
  · refine ⟨rfl, ?_⟩
    refine x_if_ne (pc' := 27) rfl rfl (fun _ => ?_) (fun c24 => absurd c24 (by decide))
    refine x_int (pc' := 39) (v := nI 0) rfl rfl rfl ?_
    refine x_istore (pc' := 40) (lv' := [_, _, _, _]) rfl rfl (by decide) rfl ?_
    have hh := l_X10_number (L := L) (Q := Q) (d := 2) (Nat.le_refl _) (s := nS tp a) (x := nI lo) (y := y) (tp.length - nS tp a + 1) 0 (bh_up2 D1 205 10 (nI (nS tp a))) (by omega) h1n (fun D2 m o2 h2 e2 hm => ?kk)
    case kk =>
      have e2 : D2 205 10 = nI (nS tp a) := e2.trans (bh_up2_self _ _ _ _)
      have eE : nE tp a = nS tp a + m := hm
      have eV : nV tp a = nmV tp (nS tp a) m := by unfold nV; rw [eE, show nS tp a + m - nS tp a = m by omega]
      have hml : min 999999 (nmV tp (nS tp a) m) ≤ 999999 := Nat.min_le_left _ _
      have hne : ¬ nE tp a = nS tp a := fun z => by
        have e1 : skp isDg tp (nS tp a) = skp isDg tp (nS tp a + 1) := skp_1 hc.1 (show isDg (tp.getD (nS tp a) 0) = true from decide_eq_true hc.2)
        have := skp_ge (p := isDg) (tp := tp) (nS tp a + 1)
        have z : skp isDg tp (nS tp a) = nS tp a := z
        omega
      have cIn : nI lo ≤ nI (min 999999 (nmV tp (nS tp a) m)) → nI (min 999999 (nmV tp (nS tp a) m)) ≤ y → lo ≤ nV tp a ∧ nV tp a < hi := fun c c2 => by
        rw [hy] at c2
        have := (nI_leI (by omega) (by omega)).mp c
        rcases Nat.lt_or_ge (nmV tp (nS tp a) m) hi with q | q
        · omega
        · exfalso; have := Int32.lt_of_le_of_lt c2 (sub1_lt (f := hi) (by omega)); have := (nI_ltI (by omega) (by omega)).mp this; omega
      have cOut : ¬ (nI lo ≤ nI (min 999999 (nmV tp (nS tp a) m)) ∧ nI (min 999999 (nmV tp (nS tp a) m)) ≤ y) → nV tp a < lo ∨ hi ≤ nV tp a := fun c => by
        rcases Nat.lt_or_ge (nV tp a) lo with q | q
        · exact Or.inl q
        · refine Or.inr ?_
          rcases Nat.lt_or_ge (nV tp a) hi with q2 | q2
          · exfalso; apply c; refine ⟨nI_le (by omega) (by omega), ?_⟩; obtain ⟨g, rfl⟩ : ∃ g, hi = g + 1 := ⟨hi - 1, by omega⟩; rw [hy, nI_pred]; exact nI_le (by omega) (by omega)
          · exact q2
      refine x_iload (pc' := 79) rfl rfl rfl ?_
      refine x_i2l (pc' := 80) rfl rfl ?_
      refine x_iload (pc' := 81) rfl rfl rfl ?_
      refine x_i2l (pc' := 82) rfl rfl ?_
      refine x_iload (pc' := 83) rfl rfl rfl ?_
      refine x_i2l (pc' := 84) rfl rfl ?_
      refine x_callS (pc' := 87) (d1 := 1) (As := [_, _, _]) rfl rfl rfl rfl (by decide) rfl rfl (Nat.le_of_ble_eq_true rfl) ⟨rfl, rfl⟩ (by decide) ?_
      refine w_X10_in (fun g1 g2 => ?_) (fun g => ?_)
      · refine ⟨rfl, ?_⟩
        refine x_if_ne (pc' := 90) rfl rfl (fun _ => ?_) (fun c87 => absurd c87 (by decide))
        refine x_iload (pc' := 102) rfl rfl rfl ?_
        refine x_iret rfl rfl ?_
        have hin := cIn g1 g2
        have ef : nF tp lo hi a = 0 := by unfold nF; rw [if_neg hne, if_neg (by omega)]
        rw [ef] at k1
        exact k1 D2 _ (oo.tr o2) (by rw [eE]; exact h2) e2 (fun _ => congrArg nI (by omega)) ⟨_, by omega, rfl⟩
      · refine ⟨rfl, ?_⟩
        refine x_if_ne (pc' := 90) rfl rfl (fun c87 => absurd (by decide) c87) (fun _ => ?_)
        refine x_aload (pc' := 91) rfl rfl rfl ?_
        refine x_int (pc' := 92) (v := nI 2) rfl rfl rfl ?_
        refine x_aload (pc' := 93) rfl rfl rfl ?_
        refine x_getI (j := 10) (pc' := 96) rfl rfl rfl (by decide) rfl (by decide) rfl rfl ?_
        refine x_top (e2) ?_
        refine x_callV (pc' := 99) (d1 := 2) (Bs := [_, _]) rfl rfl rfl rfl rfl rfl rfl (Nat.le_of_ble_eq_true rfl) ⟨rfl, rfl⟩ (by decide) rfl (by decide) ?_
        refine w_X10_fails h2 (show nS tp a ≤ 400 by omega) (by decide) (by decide) (fun D3 o3 h3 e3 => ?_)
        refine ⟨rfl, ?_⟩
        refine x_iload (pc' := 100) rfl rfl rfl ?_
        refine x_iret rfl rfl ?_
        have ef : nF tp lo hi a = 8 * nS tp a + 2 := by unfold nF; rw [if_neg hne, if_pos (cOut g)]
        rw [ef] at k1
        exact k1 D3 _ ((oo.tr o2).tr o3) (by rw [eE]; exact h3) (e3.trans e2) (fun z => absurd z (by omega)) ⟨lo, by omega, rfl⟩
    exact hh
  · refine ⟨rfl, ?_⟩
    refine x_if_ne (pc' := 27) rfl rfl (fun c24 => absurd (by decide) c24) (fun _ => ?_)
    refine x_aload (pc' := 28) rfl rfl rfl ?_
    refine x_int (pc' := 29) (v := nI 1) rfl rfl rfl ?_
    refine x_aload (pc' := 30) rfl rfl rfl ?_
    refine x_getI (j := 8) (pc' := 33) rfl rfl rfl (by decide) rfl (by decide) rfl rfl ?_
    refine x_top (h1n.at) ?_
    refine x_callV (pc' := 36) (d1 := 2) (Bs := [_, _]) rfl rfl rfl rfl rfl rfl rfl (Nat.le_of_ble_eq_true rfl) ⟨rfl, rfl⟩ (by decide) rfl (by decide) ?_
    refine w_X10_fails h1n (show nS tp a ≤ 400 by omega) (by decide) (by decide) (fun D3 o3 h3 e3 => ?_)
    refine ⟨rfl, ?_⟩
    refine x_iload (pc' := 37) rfl rfl rfl ?_
    refine x_iret rfl rfl ?_
    have eE : nE tp a = nS tp a := by
      show skp isDg tp (nS tp a) = nS tp a
      rcases Nat.lt_or_ge (nS tp a) tp.length with g | g
      · exact skp_0 g (show isDg (tp.getD (nS tp a) 0) = false from decide_eq_false (fun e => hc ⟨g, e⟩))
      · exact skp_e g
    have ef : nF tp lo hi a = 8 * nS tp a + 1 := if_pos eE
    rw [ef] at k1
    exact k1 D3 _ (oo.tr o3) (by rw [eE]; exact h3) (e3.trans (bh_up2_self _ _ _ _)) (fun z => absurd z (by omega)) ⟨lo, by omega, rfl⟩
theorem sc128 : ∀ j, j < 20 → ∀ k, k < bh_sl j → scN j k < 128 := by decide +kernel
theorem wdB_c {tp : List Nat} {s e j j' : Nat} (h1 : bh_sl j = bh_sl j') (h2 : ∀ k, k < bh_sl j' → scN j k = scN j' k) : wdB tp s e j = wdB tp s e j' := by
  unfold wdB
  rw [h1]
  congr 1
  rw [Bool.eq_iff_iff, List.all_eq_true, List.all_eq_true]
  exact ⟨fun h k hk => by have := h k hk; rw [h2 k (List.mem_range.mp hk)] at this; exact this, fun h k hk => by rw [h2 k (List.mem_range.mp hk)]; exact h k hk⟩
set_option maxRecDepth 20000 in
set_option maxHeartbeats 1000000 in
theorem l0_X10_isWord {D : Nat → Nat → Int32} {L : Nat → Nat → Int64} {Q : bh_Q} {d : Nat} (hd : 1 ≤ d) {tp : List Nat} {a f j : Nat} {a3 a4 : Value} (h : MS D tp a f) : ∀ (n m : Nat), tp.length - (a + m) < n → a + m ≤ tp.length → (∀ m', skp isLt tp (a + m) = a + m' → bw m_X10_isWord d Q 45 [.ref 205, .ref (1100 + j), .int (nI m'), a3, a4] [] D L) → bw m_X10_isWord d Q 2 [.ref 205, .ref (1100 + j), .int (nI m), a3, a4] [] D L := by
  intro n
  induction n with
  | zero => intro m hn; omega
  | succ n ih =>
    intro m hn hm k1
    have h4 := h.l4
    refine x_aload (pc' := 3) rfl rfl rfl ?_
    refine x_getI (j := 8) (pc' := 6) rfl rfl rfl (by decide) rfl (by decide) rfl rfl ?_
    refine x_top (h.at) ?_
    refine x_iload (pc' := 7) rfl rfl rfl ?_
    refine y_iadd (pc' := 8) rfl rfl ?_
    refine x_aload (pc' := 9) rfl rfl rfl ?_
    refine x_getI (j := 7) (pc' := 12) rfl rfl rfl (by decide) rfl (by decide) rfl rfl ?_
    refine x_top (h.len) ?_
    refine y_ic_ge (pc' := 15) rfl rfl (by omega) (by omega) (fun c12 => ?_) (fun c12 => ?_)
    · first
        | (exact k1 m (skp_0 (show a + m < tp.length by omega) (show isLt (tp.getD (a + m) 0) = false from decide_eq_false (fun e => g ((bS_lt _ (h.b2 (i := a + m) (by omega))).mpr e)))))
        | (exact k1 m (skp_e (by omega)))
    · refine x_aload (pc' := 16) rfl rfl rfl ?_
      refine x_getR (pc' := 19) rfl rfl rfl (by decide) rfl (by decide) rfl rfl ?_
      refine x_aload (pc' := 20) rfl rfl rfl ?_
      refine x_getI (j := 8) (pc' := 23) rfl rfl rfl (by decide) rfl (by decide) rfl rfl ?_
      refine x_top (h.at) ?_
      refine x_iload (pc' := 24) rfl rfl rfl ?_
      refine y_iadd (pc' := 25) rfl rfl ?_
      refine x_bald (pc' := 26) rfl rfl (by decide) (Or.inl rfl) (by decide) (show _ < 400 by omega) ?_
      refine x_top (h.by (i := a + m) (by omega)) ?_
      refine x_i2l (pc' := 27) rfl rfl ?_
      refine x_long (pc' := 30) (v := (nI 97).toInt64) rfl rfl (by decide) ?_
      refine x_long (pc' := 33) (v := (nI 122).toInt64) rfl rfl (by decide) ?_
      refine x_callS (pc' := 36) (d1 := 1) (As := [_, _, _]) rfl rfl rfl rfl (by decide) rfl rfl (Nat.le_of_ble_eq_true rfl) ⟨rfl, rfl⟩ (by omega) ?_
      refine w_X10_in (fun g1 g2 => ?_) (fun g => ?_)
      · refine ⟨rfl, ?_⟩
        refine x_if_eq (pc' := 39) rfl rfl (fun c36 => absurd c36 (by decide)) (fun _ => ?_)
        refine y_inc (pc' := 42) (lv' := [_, _, _, _, _]) rfl rfl rfl (by decide) rfl ?_
        refine x_goto rfl ?_
        have hl := (bS_lt _ (h.b2 (i := a + m) (by omega))).mp ⟨g1, g2⟩
        exact ih (m + 1) (by omega) (by omega) (fun m2 e => k1 m2 ((skp_1 (show a + m < tp.length by omega) (show isLt (tp.getD (a + m) 0) = true from decide_eq_true hl)).trans e))
      · refine ⟨rfl, ?_⟩
        refine x_if_eq (pc' := 39) rfl rfl (fun _ => ?_) (fun c36 => absurd (by decide) c36)
        first
          | (exact k1 m (skp_0 (show a + m < tp.length by omega) (show isLt (tp.getD (a + m) 0) = false from decide_eq_false (fun e => g ((bS_lt _ (h.b2 (i := a + m) (by omega))).mpr e)))))
          | (exact k1 m (skp_e (by omega)))
set_option maxRecDepth 20000 in
set_option maxHeartbeats 1000000 in
theorem l1_X10_isWord {L : Nat → Nat → Int64} {Q : bh_Q} {d : Nat} (hd : 0 ≤ d) {D0 : Nat → Nat → Int32} {tp : List Nat} {a f j : Nat} (h : MS D0 tp a f) (hj : j < 20) (hl : a + bh_sl j ≤ tp.length) (k1 : (∀ q, q < bh_sl j → tp.getD (a + q) 0 = scN j q) → Q (some (.int 1)) (hp D0 L)) (k0 : ¬ (∀ q, q < bh_sl j → tp.getD (a + q) 0 = scN j q) → Q (some (.int 0)) (hp D0 L)) : ∀ (f i : Nat) (D : Nat → Nat → Int32), i + f = bh_sl j → (D0 = D) → (∀ q, q < i → tp.getD (a + q) 0 = scN j q) → bw m_X10_isWord d Q 62 [.ref 205, .ref (1100 + j), .int (nI (bh_sl j)), .int (nI 1), .int (nI i)] [] D L := by
  intro f
  induction f with
  | zero =>
    intro i D hf hD h0
    subst hD
    have h4 := h.l4
    have hjw := wok_all j hj
    have hjl := hjw.2.1
    refine x_iload (pc' := 64) rfl rfl rfl ?_
    refine x_iload (pc' := 65) rfl rfl rfl ?_
    refine y_ic_ge (pc' := 68) rfl rfl (by omega) (by omega) (fun c65 => ?_) (fun c65 => ?_)
    · refine x_iload (pc' := 106) rfl rfl rfl ?_
      refine x_zret rfl rfl (by decide) ?_
      obtain rfl : i = bh_sl j := by omega
      exact k1 h0
    · exact absurd c65 (by omega)
  | succ f ih =>
    intro i D hf hD h0
    subst hD
    have h4 := h.l4
    have hjw := wok_all j hj
    have hjl := hjw.2.1
    refine x_iload (pc' := 64) rfl rfl rfl ?_
    refine x_iload (pc' := 65) rfl rfl rfl ?_
    refine y_ic_ge (pc' := 68) rfl rfl (by omega) (by omega) (fun c65 => ?_) (fun c65 => ?_)
    · exact absurd c65 (by omega)
    · refine x_iload (pc' := 69) rfl rfl rfl ?_
      refine x_if_eq (pc' := 72) rfl rfl (fun c69 => absurd c69 (by decide)) (fun _ => ?_)
      refine x_aload (pc' := 73) rfl rfl rfl ?_
      refine x_getR (pc' := 76) rfl rfl rfl (by decide) rfl (by decide) rfl rfl ?_
      refine x_aload (pc' := 77) rfl rfl rfl ?_
      refine x_getI (j := 8) (pc' := 80) rfl rfl rfl (by decide) rfl (by decide) rfl rfl ?_
      refine x_top (h.at) ?_
      refine x_iload (pc' := 82) rfl rfl rfl ?_
      refine y_iadd (pc' := 83) rfl rfl ?_
      refine x_bald (pc' := 84) rfl rfl (by decide) (Or.inl rfl) (by decide) (show _ < 400 by omega) ?_
      refine x_top (h.by (i := a + i) (by omega)) ?_
      refine x_aload (pc' := 85) rfl rfl rfl ?_
      refine x_iload (pc' := 87) rfl rfl rfl ?_
      refine x_char (pc' := 90) rfl rfl hjw.1 (Nat.le_of_ble_eq_true rfl) (show i < bh_sl j by omega) hjl ?_
      refine x_top (show bh_sc j i = nI (scN j i) from rfl) ?_
      refine x_ic_ne (pc' := 93) rfl rfl (fun c90 => ?_) (fun c90 => ?_)
      · refine x_int (pc' := 98) (v := nI 0) rfl rfl rfl ?_
        refine x_istore (pc' := 99) (lv' := [_, _, _, _, _]) rfl rfl (by decide) rfl ?_
        refine y_inc (pc' := 102) (lv' := [_, _, _, _, _]) rfl rfl rfl (by decide) rfl ?_
        refine x_goto rfl ?_
        refine x_iload (pc' := 64) rfl rfl rfl ?_
        refine x_iload (pc' := 65) rfl rfl rfl ?_
        refine y_ic_ge (pc' := 68) rfl rfl (by omega) (by omega) (fun c65 => ?_) (fun c65 => ?_)
        · refine x_iload (pc' := 106) rfl rfl rfl ?_
          refine x_zret rfl rfl (by decide) ?_
          exact k0 (fun z => c90 ((bS_eq _ (h.b2 (i := a + i) (by omega)) _ (sc128 j hj i (by omega))).mpr (z i (by omega))))
        · refine x_iload (pc' := 69) rfl rfl rfl ?_
          refine x_if_eq (pc' := 72) rfl rfl (fun _ => ?_) (fun c69 => absurd (by decide) c69)
          refine x_iload (pc' := 106) rfl rfl rfl ?_
          refine x_zret rfl rfl (by decide) ?_
          exact k0 (fun z => c90 ((bS_eq _ (h.b2 (i := a + i) (by omega)) _ (sc128 j hj i (by omega))).mpr (z i (by omega))))
      · refine x_int (pc' := 94) (v := nI 1) rfl rfl rfl ?_
        refine x_goto rfl ?_
        refine x_istore (pc' := 99) (lv' := [_, _, _, _, _]) rfl rfl (by decide) rfl ?_
        refine y_inc (pc' := 102) (lv' := [_, _, _, _, _]) rfl rfl rfl (by decide) rfl ?_
        refine x_goto rfl ?_
        refine ih (i + 1) _ (by omega) rfl (fun q hq => ?_)
        by_cases eq : q = i
        · rw [eq]; exact (bS_eq _ (h.b2 (i := a + i) (by omega)) _ (sc128 j hj i (by omega))).mp c90
        · exact h0 q (by omega)
theorem wdB_all {tp : List Nat} {s e j : Nat} (h : wdB tp s e j = true) : ∀ k, k < bh_sl j → tp.getD (s + k) 0 = scN j k := by
  unfold wdB at h
  rw [Bool.and_eq_true, List.all_eq_true] at h
  exact fun k hk => of_decide_eq_true (h.2 k (List.mem_range.mpr hk))
theorem wdB_len {tp : List Nat} {s e j : Nat} (h : wdB tp s e j = true) : bh_sl j = e - s := by
  unfold wdB at h
  rw [Bool.and_eq_true] at h
  exact of_decide_eq_true h.1
set_option maxRecDepth 20000 in
set_option maxHeartbeats 1000000 in
theorem w_X10_isWord {D : Nat → Nat → Int32} {L : Nat → Nat → Int64} {Q : bh_Q} {tp : List Nat} {a f j : Nat} (h : MS D tp a f) (hj : j < 20) (k1 : wdB tp a (skp isLt tp a) j = true → Q (some (.int 1)) (hp D L)) (k0 : wdB tp a (skp isLt tp a) j = false → Q (some (.int 0)) (hp D L)) : bh_wc 2 m_X10_isWord [.ref 205, .ref (1100 + j)] (hp D L) Q := by
  refine x_start (lv0 := [_, _, _, _, _]) (Nat.le_of_ble_eq_true rfl) rfl ?_
  have h4 := h.l4
  have ha := h.al
  refine x_int (pc' := 1) (v := nI 0) rfl rfl rfl ?_
  refine x_istore (pc' := 2) (lv' := [_, _, _, _, _]) rfl rfl (by decide) rfl ?_
  refine l0_X10_isWord (d := 1) (Nat.le_refl _) h (tp.length - a + 1) 0 (by omega) (by omega) (fun m hm => ?_)
  have hm : skp isLt tp a = a + m := hm
  have hge := skp_le (p := isLt) (tp := tp) h.al
  refine x_iload (pc' := 46) rfl rfl rfl ?_
  refine x_aload (pc' := 47) rfl rfl rfl ?_
  refine x_slen (pc' := 50) rfl rfl (wok_all j hj).1 (Nat.le_of_ble_eq_true rfl) ?_
  refine y_ic_ne (pc' := 53) rfl rfl (by first | omega | (have := (wok_all j hj).2.1; omega)) (by first | omega | (have := (wok_all j hj).2.1; omega)) (fun c50 => ?_) (fun c50 => ?_)
  · refine x_int (pc' := 58) (v := nI 0) rfl rfl rfl ?_
    refine x_istore (pc' := 59) (lv' := [_, _, _, _, _]) rfl rfl (by decide) rfl ?_
    refine x_int (pc' := 60) (v := nI 0) rfl rfl rfl ?_
    refine x_istore (pc' := 62) (lv' := [_, _, _, _, _]) rfl rfl (by decide) rfl ?_
    skip
    refine x_iload (pc' := 64) rfl rfl rfl ?_
    refine x_iload (pc' := 65) rfl rfl rfl ?_
    refine y_ic_ge (pc' := 68) rfl rfl (by first | omega | (have := (wok_all j hj).2.1; omega)) (by first | omega | (have := (wok_all j hj).2.1; omega)) (fun c65 => ?_) (fun c65 => ?_)
    · refine x_iload (pc' := 106) rfl rfl rfl ?_
      refine x_zret rfl rfl (by decide) ?_
      refine k0 (wdB_0 (fun z => c50 (by omega)))
    · refine x_iload (pc' := 69) rfl rfl rfl ?_
      refine x_if_eq (pc' := 72) rfl rfl (fun _ => ?_) (fun c69 => absurd (by decide) c69)
      refine x_iload (pc' := 106) rfl rfl rfl ?_
      refine x_zret rfl rfl (by decide) ?_
      refine k0 (wdB_0 (fun z => c50 (by omega)))
  · refine x_int (pc' := 54) (v := nI 1) rfl rfl rfl ?_
    refine x_goto rfl ?_
    refine x_istore (pc' := 59) (lv' := [_, _, _, _, _]) rfl rfl (by decide) rfl ?_
    refine x_int (pc' := 60) (v := nI 0) rfl rfl rfl ?_
    refine x_istore (pc' := 62) (lv' := [_, _, _, _, _]) rfl rfl (by decide) rfl ?_
    subst c50
    have hse := hm
    exact l1_X10_isWord (d := 1) (Nat.zero_le _) h hj (by omega) (fun hq => k1 (wdB_1 (by omega) hq)) (fun hq => k0 (Bool.eq_false_iff.mpr (fun z => hq (wdB_all z)))) (bh_sl j) 0 D (Nat.zero_add _) rfl (fun q hq => absurd hq (Nat.not_lt_zero q))
