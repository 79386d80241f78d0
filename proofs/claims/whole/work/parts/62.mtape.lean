/-! ===== the reference: its tape ===== -/
def bS (c : Nat) : Int32 := (nI c).toInt8.toInt32
theorem bS_and : ∀ c, c < 256 → bS c &&& nI 255 = nI c := by decide +kernel
theorem bS_lt : ∀ c, c < 256 → ((nI 97 ≤ bS c ∧ bS c ≤ nI 122) ↔ (97 ≤ c ∧ c ≤ 122)) := by decide +kernel
theorem bS_eq : ∀ c, c < 256 → ∀ d, d < 128 → (bS c = nI d ↔ c = d) := by decide +kernel
def fI (f : Nat) : Int32 := if f = 0 then -1 else nI f
theorem fI_0 {f : Nat} (hf : f < 10000) : fI f = -1 ↔ f = 0 := by
  unfold fI
  by_cases h : f = 0
  · rw [if_pos h]; exact ⟨fun _ => h, fun _ => rfl⟩
  · rw [if_neg h]; exact ⟨fun e => absurd e (nI_m1 (by omega)), fun e => absurd e h⟩
def MS (D : Nat → Nat → Int32) (tp : List Nat) (a f : Nat) : Prop := PM D tp ∧ (tp.length ≤ 400 ∧ ∀ i, i < tp.length → tp.getD i 0 < 256) ∧ D 205 8 = nI a ∧ a ≤ tp.length ∧ D 205 9 = fI f ∧ f < 10000
def O205 (D D' : Nat → Nat → Int32) : Prop := (∀ k, k ≠ 205 → D' k = D k) ∧ ∀ j, j ≠ 8 → j ≠ 9 → j ≠ 10 → D' 205 j = D 205 j
theorem O205.rf {D : Nat → Nat → Int32} : O205 D D := ⟨fun _ _ => rfl, fun _ _ _ _ => rfl⟩
theorem O205.tr {D D1 D2 : Nat → Nat → Int32} (h1 : O205 D D1) (h2 : O205 D1 D2) : O205 D D2 := ⟨fun k a => (h2.1 k a).trans (h1.1 k a), fun j a b c => (h2.2 j a b c).trans (h1.2 j a b c)⟩
theorem O205.up {D : Nat → Nat → Int32} {j : Nat} {x : Int32} (h : j = 8 ∨ j = 9 ∨ j = 10) : O205 D (bh_up2 D 205 j x) := ⟨fun k hk => bh_up2_ne _ _ _ hk, fun i h8 h9 h10 => up2_o (by omega)⟩
theorem MS.upd {D : Nat → Nat → Int32} {tp : List Nat} {a f : Nat} (h : MS D tp a f) {D' : Nat → Nat → Int32} (o : O205 D D') {b g : Nat} (h8 : D' 205 8 = nI b) (hb : b ≤ tp.length) (h9 : D' 205 9 = fI g) (hg : g < 10000) : MS D' tp b g := by
  obtain ⟨⟨p1, p2⟩, q, _, _, _, _⟩ := h
  exact ⟨⟨(o.2 7 (by decide) (by decide) (by decide)).trans p1, fun i hi => by rw [o.1 211 (by decide)]; exact p2 i hi⟩, q, h8, hb, h9, hg⟩
theorem MS.a {D : Nat → Nat → Int32} {tp : List Nat} {a b f : Nat} (h : MS D tp a f) (hb : b ≤ tp.length) : MS (bh_up2 D 205 8 (nI b)) tp b f := h.upd (O205.up (Or.inl rfl)) (bh_up2_self _ _ _ _) hb ((up2_o (by decide)).trans h.2.2.2.2.1) h.2.2.2.2.2
theorem MS.n {D : Nat → Nat → Int32} {tp : List Nat} {a f : Nat} {x : Int32} (h : MS D tp a f) : MS (bh_up2 D 205 10 x) tp a f := h.upd (O205.up (Or.inr (Or.inr rfl))) ((up2_o (by decide)).trans h.2.2.1) h.2.2.2.1 ((up2_o (by decide)).trans h.2.2.2.2.1) h.2.2.2.2.2
theorem MS.f {D : Nat → Nat → Int32} {tp : List Nat} {a f g : Nat} (h : MS D tp a f) (hg : g < 10000) (hg0 : ¬ g = 0) : MS (bh_up2 D 205 9 (nI g)) tp a g := h.upd (O205.up (Or.inr (Or.inl rfl))) ((up2_o (by decide)).trans h.2.2.1) h.2.2.2.1 ((bh_up2_self _ _ _ _).trans (if_neg hg0).symm) hg
theorem MS.len {D : Nat → Nat → Int32} {tp : List Nat} {a f : Nat} (h : MS D tp a f) : D 205 7 = nI tp.length := h.1.1
theorem MS.at {D : Nat → Nat → Int32} {tp : List Nat} {a f : Nat} (h : MS D tp a f) : D 205 8 = nI a := h.2.2.1
theorem MS.ft {D : Nat → Nat → Int32} {tp : List Nat} {a f : Nat} (h : MS D tp a f) : D 205 9 = fI f := h.2.2.2.2.1
theorem MS.l4 {D : Nat → Nat → Int32} {tp : List Nat} {a f : Nat} (h : MS D tp a f) : tp.length ≤ 400 := h.2.1.1
theorem MS.al {D : Nat → Nat → Int32} {tp : List Nat} {a f : Nat} (h : MS D tp a f) : a ≤ tp.length := h.2.2.2.1
theorem MS.fl {D : Nat → Nat → Int32} {tp : List Nat} {a f : Nat} (h : MS D tp a f) : f < 10000 := h.2.2.2.2.2
theorem MS.by {D : Nat → Nat → Int32} {tp : List Nat} {a f i : Nat} (h : MS D tp a f) (hi : i < tp.length) : D 211 i = bS (tp.getD i 0) := h.1.2 i hi
theorem MS.b2 {D : Nat → Nat → Int32} {tp : List Nat} {a f i : Nat} (h : MS D tp a f) (hi : i < tp.length) : tp.getD i 0 < 256 := h.2.1.2 i hi
def sgV (tp : List Nat) (a : Nat) : Int32 := if a < tp.length then nI (tp.getD a 0) else -1
set_option maxRecDepth 20000 in
set_option maxHeartbeats 1000000 in
theorem w_X10_sign {D : Nat → Nat → Int32} {L : Nat → Nat → Int64} {Q : bh_Q} {tp : List Nat} {a f : Nat} (h : MS D tp a f) (k1 : Q (some (.int (sgV tp a))) (hp D L)) : bh_wc 1 m_X10_sign [.ref 205] (hp D L) Q := by
  refine x_start (lv0 := [_]) (Nat.le_of_ble_eq_true rfl) rfl ?_
  have h4 := h.l4
  have ha := h.al
  refine x_aload (pc' := 1) rfl rfl rfl ?_
  refine x_getI (j := 8) (pc' := 4) rfl rfl rfl (by decide) rfl (by decide) rfl rfl ?_
  refine x_top (h.at) ?_
  refine x_aload (pc' := 5) rfl rfl rfl ?_
  refine x_getI (j := 7) (pc' := 8) rfl rfl rfl (by decide) rfl (by decide) rfl rfl ?_
  refine x_top (h.len) ?_
  refine y_ic_ge (pc' := 11) rfl rfl (by omega) (by omega) (fun c8 => ?_) (fun c8 => ?_)
  · refine x_int (pc' := 28) (v := (-1)) rfl rfl rfl ?_
    refine x_iret rfl rfl ?_
    first
      | (have e : sgV tp a = nI (tp.getD a 0) := if_pos (show a < tp.length by omega)
         rw [e, ← bS_and _ (h.b2 (show a < tp.length by omega))] at k1
         exact k1)
      | (have e : sgV tp a = -1 := if_neg (by omega)
         rw [e] at k1
         exact k1)
  · refine x_aload (pc' := 12) rfl rfl rfl ?_
    refine x_getR (pc' := 15) rfl rfl rfl (by decide) rfl (by decide) rfl rfl ?_
    refine x_aload (pc' := 16) rfl rfl rfl ?_
    refine x_getI (j := 8) (pc' := 19) rfl rfl rfl (by decide) rfl (by decide) rfl rfl ?_
    refine x_top (h.at) ?_
    refine x_bald (pc' := 20) rfl rfl (by decide) (Or.inl rfl) (by decide) (show _ < 400 by omega) ?_
    rw [h.by (show a < tp.length by omega)]
    refine x_int (pc' := 23) (v := nI 255) rfl rfl rfl ?_
    refine x_iand (pc' := 24) rfl rfl ?_
    refine x_goto rfl ?_
    refine x_iret rfl rfl ?_
    first
      | (have e : sgV tp a = nI (tp.getD a 0) := if_pos (show a < tp.length by omega)
         rw [e, ← bS_and _ (h.b2 (show a < tp.length by omega))] at k1
         exact k1)
      | (have e : sgV tp a = -1 := if_neg (by omega)
         rw [e] at k1
         exact k1)
theorem sgV_eq {tp : List Nat} {a c : Nat} (hc : c < 256) (hb : a < tp.length → tp.getD a 0 < 256) : sgV tp a = nI c ↔ (a < tp.length ∧ tp.getD a 0 = c) := by
  unfold sgV
  by_cases h : a < tp.length
  · rw [if_pos h]
    have := hb h
    exact ⟨fun e => ⟨h, nI_inj (by omega) (by omega) e⟩, fun e => by rw [e.2]⟩
  · rw [if_neg h]; exact ⟨fun e => absurd e.symm (nI_m1 (by omega)), fun e => absurd e.1 h⟩
set_option maxRecDepth 20000 in
set_option maxHeartbeats 1000000 in
theorem l_X10_next {L : Nat → Nat → Int64} {Q : bh_Q} {d : Nat} (hd : 1 ≤ d) {tp : List Nat} {f : Nat} : ∀ (n i : Nat) (D : Nat → Nat → Int32), tp.length - i < n → MS D tp i f → (∀ D', O205 D D' → MS D' tp (skp isBk tp i) f → D' 205 10 = D 205 10 → Q (some (.int (sgV tp (skp isBk tp i)))) (hp D' L)) → bw m_X10_next d Q 0 [.ref 205] [] D L := by
  intro n
  induction n with
  | zero => intro i D hn; omega
  | succ n ih =>
    intro i D hn h k1
    have h4 := h.l4
    have hi := h.al
    refine x_aload (pc' := 1) rfl rfl rfl ?_
    refine x_callV (pc' := 4) (d1 := 1) (Bs := []) rfl rfl rfl rfl rfl rfl rfl (Nat.le_of_ble_eq_true rfl) ⟨rfl, rfl⟩ (by decide) rfl (by omega) ?_
    refine w_X10_sign h ?_
    refine ⟨rfl, ?_⟩
    refine x_int (pc' := 6) (v := nI 32) rfl rfl rfl ?_
    refine x_ic_ne (pc' := 9) rfl rfl (fun c6 => ?_) (fun c6 => ?_)
    · refine x_aload (pc' := 23) rfl rfl rfl ?_
      refine x_callV (pc' := 26) (d1 := 1) (Bs := []) rfl rfl rfl rfl rfl rfl rfl (Nat.le_of_ble_eq_true rfl) ⟨rfl, rfl⟩ (by decide) rfl (by omega) ?_
      refine w_X10_sign h ?_
      refine ⟨rfl, ?_⟩
      refine x_iret rfl rfl ?_
      have es : skp isBk tp i = i := by
        rcases Nat.lt_or_ge i tp.length with g | g
        · exact skp_0 g (show isBk (tp.getD i 0) = false from decide_eq_false (fun e => c6 ((sgV_eq (by decide) (fun g => h.b2 g)).mpr ⟨g, e⟩)))
        · exact skp_e g
      rw [es] at k1
      exact k1 D O205.rf h rfl
    · refine x_aload (pc' := 10) rfl rfl rfl ?_
      refine x_dup (pc' := 11) rfl rfl rfl ?_
      refine x_getI (j := 8) (pc' := 14) rfl rfl rfl (by decide) rfl (by decide) rfl rfl ?_
      refine x_top (h.at) ?_
      refine x_int (pc' := 15) (v := nI 1) rfl rfl rfl ?_
      refine y_iadd (pc' := 16) rfl rfl ?_
      refine x_putI (j := 8) (pc' := 19) rfl rfl rfl (by decide) rfl (by decide) rfl rfl ?_
      refine x_goto rfl ?_
      have hq := (sgV_eq (by decide) (fun g => h.b2 g)).mp c6
      refine ih (i + 1) _ (by omega) (h.a (by omega)) (fun D2 o2 h2 e2 => ?_)
      rw [← skp_1 hq.1 (show isBk (tp.getD i 0) = true from decide_eq_true hq.2)] at h2 ⊢
      exact k1 D2 ((O205.up (Or.inl rfl)).tr o2) h2 (e2.trans (up2_o (by decide)))
set_option maxRecDepth 20000 in
set_option maxHeartbeats 1000000 in
theorem w_X10_next {D : Nat → Nat → Int32} {L : Nat → Nat → Int64} {Q : bh_Q} {tp : List Nat} {a f : Nat} (h : MS D tp a f) (k1 : ∀ D', O205 D D' → MS D' tp (skp isBk tp a) f → D' 205 10 = D 205 10 → Q (some (.int (sgV tp (skp isBk tp a)))) (hp D' L)) : bh_wc 2 m_X10_next [.ref 205] (hp D L) Q := by
  refine x_start (lv0 := [_]) (Nat.le_of_ble_eq_true rfl) rfl ?_
  exact l_X10_next (Nat.le_refl _) (tp.length - a + 1) a D (by omega) h k1
set_option maxRecDepth 20000 in
set_option maxHeartbeats 1000000 in
theorem w_X10_isRight {D : Nat → Nat → Int32} {L : Nat → Nat → Int64} {Q : bh_Q} {tp : List Nat} {a f : Nat} (h : MS D tp a f) (k1 : f = 0 → Q (some (.int 1)) (hp D L)) (k0 : ¬ f = 0 → Q (some (.int 0)) (hp D L)) : bh_wc 1 m_X10_isRight [.ref 205] (hp D L) Q := by
  refine x_start (lv0 := [_]) (Nat.le_of_ble_eq_true rfl) rfl ?_
  refine x_aload (pc' := 1) rfl rfl rfl ?_
  refine x_getI (j := 9) (pc' := 4) rfl rfl rfl (by decide) rfl (by decide) rfl rfl ?_
  refine x_int (pc' := 5) (v := (-1)) rfl rfl rfl ?_
  refine x_ic_ne (pc' := 8) rfl rfl (fun c5 => ?_) (fun c5 => ?_)
  · refine x_int (pc' := 13) (v := nI 0) rfl rfl rfl ?_
    refine x_zret rfl rfl (by decide) ?_
    first
      | (exact k0 (fun e => c5 (h.ft.trans ((fI_0 h.fl).mpr e))))
      | (exact k1 ((fI_0 h.fl).mp (h.ft.symm.trans c5)))
  · refine x_int (pc' := 9) (v := nI 1) rfl rfl rfl ?_
    refine x_goto rfl ?_
    refine x_zret rfl rfl (by decide) ?_
    first
      | (exact k0 (fun e => c5 (h.ft.trans ((fI_0 h.fl).mpr e))))
      | (exact k1 ((fI_0 h.fl).mp (h.ft.symm.trans c5)))
set_option maxRecDepth 20000 in
set_option maxHeartbeats 1000000 in
theorem w_X10_fails {D : Nat → Nat → Int32} {L : Nat → Nat → Int64} {Q : bh_Q} {tp : List Nat} {a f c s : Nat} (h : MS D tp a f) (hs : s ≤ 400) (hc : c < 8) (hc0 : 0 < c) (k1 : ∀ D', O205 D D' → MS D' tp a (if f = 0 then 8 * s + c else f) → D' 205 10 = D 205 10 → Q none (hp D' L)) : bh_wc 2 m_X10_fails [.ref 205, .int (nI c), .int (nI s)] (hp D L) Q := by
  refine x_start (lv0 := [_, _, _]) (Nat.le_of_ble_eq_true rfl) rfl ?_
  refine x_aload (pc' := 1) rfl rfl rfl ?_
  refine x_callV (pc' := 4) (d1 := 1) (Bs := []) rfl rfl rfl rfl rfl rfl rfl (Nat.le_of_ble_eq_true rfl) ⟨rfl, rfl⟩ (by decide) rfl (by decide) ?_
  refine w_X10_isRight h (fun hf => ?_) (fun hf => ?_)
  · refine ⟨rfl, ?_⟩
    refine x_if_eq (pc' := 7) rfl rfl (fun c4 => absurd c4 (by decide)) (fun _ => ?_)
    refine x_aload (pc' := 8) rfl rfl rfl ?_
    refine x_int (pc' := 10) (v := nI 8) rfl rfl rfl ?_
    refine x_iload (pc' := 11) rfl rfl rfl ?_
    refine y_imul (pc' := 12) rfl rfl ?_
    refine x_iload (pc' := 13) rfl rfl rfl ?_
    refine y_iadd (pc' := 14) rfl rfl ?_
    refine x_putI (j := 9) (pc' := 17) rfl rfl rfl (by decide) rfl (by decide) rfl rfl ?_
    refine x_vret rfl rfl ?_
    rw [if_pos hf] at k1
    exact k1 _ (O205.up (Or.inr (Or.inl rfl))) (h.f (by omega) (by omega)) (up2_o (by decide))
  · refine ⟨rfl, ?_⟩
    refine x_if_eq (pc' := 7) rfl rfl (fun _ => ?_) (fun c4 => absurd (by decide) c4)
    refine x_vret rfl rfl ?_
    rw [if_neg hf] at k1
    exact k1 D O205.rf h rfl
theorem dig_sg {tp : List Nat} {a : Nat} (hb : a < tp.length → tp.getD a 0 < 256) : (nI 48 ≤ sgV tp a ∧ sgV tp a ≤ nI 57) ↔ (a < tp.length ∧ 48 ≤ tp.getD a 0 ∧ tp.getD a 0 ≤ 57) := by
  unfold sgV
  by_cases h : a < tp.length
  · rw [if_pos h]
    have := hb h
    rw [nI_leI (by omega) (by omega), nI_leI (by omega) (by omega)]
    exact ⟨fun z => ⟨h, z⟩, fun z => z.2⟩
  · rw [if_neg h]; exact ⟨fun z => absurd z.1 (by decide), fun z => absurd z.1 h⟩
set_option maxRecDepth 20000 in
set_option maxHeartbeats 1000000 in
theorem w_X10_isDigit {D : Nat → Nat → Int32} {L : Nat → Nat → Int64} {Q : bh_Q} {tp : List Nat} {a f : Nat} (h : MS D tp a f) (k1 : (a < tp.length ∧ 48 ≤ tp.getD a 0 ∧ tp.getD a 0 ≤ 57) → Q (some (.int 1)) (hp D L)) (k0 : ¬ (a < tp.length ∧ 48 ≤ tp.getD a 0 ∧ tp.getD a 0 ≤ 57) → Q (some (.int 0)) (hp D L)) : bh_wc 2 m_X10_isDigit [.ref 205] (hp D L) Q := by
  refine x_start (lv0 := [_]) (Nat.le_of_ble_eq_true rfl) rfl ?_
  refine x_aload (pc' := 1) rfl rfl rfl ?_
  refine x_callV (pc' := 4) (d1 := 1) (Bs := []) rfl rfl rfl rfl rfl rfl rfl (Nat.le_of_ble_eq_true rfl) ⟨rfl, rfl⟩ (by decide) rfl (by decide) ?_
  refine w_X10_sign h ?_
  refine ⟨rfl, ?_⟩
  refine x_i2l (pc' := 5) rfl rfl ?_
  refine x_long (pc' := 8) (v := (nI 48).toInt64) rfl rfl (by decide) ?_
  refine x_long (pc' := 11) (v := (nI 57).toInt64) rfl rfl (by decide) ?_
  refine x_callS (pc' := 14) (d1 := 1) (As := [_, _, _]) rfl rfl rfl rfl (by decide) rfl rfl (Nat.le_of_ble_eq_true rfl) ⟨rfl, rfl⟩ (by decide) ?_
  refine w_X10_in (fun g1 g2 => ?_) (fun g => ?_)
  · refine ⟨rfl, ?_⟩
    refine x_zret rfl rfl (by decide) ?_
    have hd := (dig_sg (fun g => h.b2 g)).mp ⟨g1, g2⟩
    exact k1 hd
  · refine ⟨rfl, ?_⟩
    refine x_zret rfl rfl (by decide) ?_
    exact k0 (fun z => g ((dig_sg (fun g => h.b2 g)).mpr z))
