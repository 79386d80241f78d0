/-! ===== the class: words, habits ===== -/
theorem wdB_0 {tp : List Nat} {s e j : Nat} (h : ¬ bh_sl j = e - s) : wdB tp s e j = false := by unfold wdB; rw [decide_eq_false h]; rfl
theorem wdB_1 {tp : List Nat} {s e j : Nat} (h : bh_sl j = e - s) (h2 : ∀ k, k < bh_sl j → tp.getD (s + k) 0 = scN j k) : wdB tp s e j = true := by
  unfold wdB
  rw [decide_eq_true h, Bool.true_and, List.all_eq_true]
  exact fun k hk => decide_eq_true (h2 k (List.mem_range.mp hk))
theorem wdB_2 {tp : List Nat} {s e j k : Nat} (hk : k < bh_sl j) (h2 : ¬ tp.getD (s + k) 0 = scN j k) : wdB tp s e j = false := by
  unfold wdB
  rw [Bool.and_eq_false_iff]
  refine Or.inr (Bool.eq_false_iff.mpr (fun h => ?_))
  rw [List.all_eq_true] at h
  exact h2 (of_decide_eq_true (h k (List.mem_range.mpr hk)))
def wok (j : Nat) : Prop := j < bh_ST.length ∧ bh_sl j < 100 ∧ ∀ k, k < bh_sl j → scN j k < 256
set_option maxRecDepth 20000 in
set_option maxHeartbeats 1000000 in
theorem l_X6_wordIs {L : Nat → Nat → Int64} {Q : bh_Q} {d : Nat} (hd : 0 ≤ d) {tp : List Nat} {e s f j : Nat} {D0 : Nat → Nat → Int32} (h : TS D0 tp e f) (hb : D0 27 3 = nI s) (hse : s ≤ e) (hj : wok j) (hl : bh_sl j = e - s) (k1 : wdB tp s e j = true → Q (some (.int 1)) (hp D0 L)) (k0 : wdB tp s e j = false → Q (some (.int 0)) (hp D0 L)) : ∀ (f i : Nat) (D : Nat → Nat → Int32), i + f = bh_sl j → (D0 = D) → (∀ k, k < i → tp.getD (s + k) 0 = scN j k) → bw m_X6_wordIs d Q 20 [.ref 27, .ref (1100 + j), .int (nI i)] [] D L := by
  intro f
  induction f with
  | zero =>
    intro i D hf hD h0
    subst hD
    have hjl := hj.2.1
    have h4 := h.l4
    have hel := h.2.2.1
    refine x_iload (pc' := 21) rfl rfl rfl ?_
    refine x_aload (pc' := 22) rfl rfl rfl ?_
    refine x_slen (pc' := 25) rfl rfl hj.1 (Nat.le_of_ble_eq_true rfl) ?_
    refine y_ic_ge (pc' := 28) rfl rfl (by first | omega | (have := h.b2 (i := s + i) (by omega); have := hj.2.2 i (by omega); omega)) (by first | omega | (have := h.b2 (i := s + i) (by omega); have := hj.2.2 i (by omega); omega)) (fun c25 => ?_) (fun c25 => ?_)
    · refine x_int (pc' := 56) (v := nI 1) rfl rfl rfl ?_
      refine x_zret rfl rfl (by decide) ?_
      obtain rfl : i = bh_sl j := by omega
      exact k1 (wdB_1 hl h0)
    · exact absurd c25 (by omega)
  | succ f ih =>
    intro i D hf hD h0
    subst hD
    have hjl := hj.2.1
    have h4 := h.l4
    have hel := h.2.2.1
    refine x_iload (pc' := 21) rfl rfl rfl ?_
    refine x_aload (pc' := 22) rfl rfl rfl ?_
    refine x_slen (pc' := 25) rfl rfl hj.1 (Nat.le_of_ble_eq_true rfl) ?_
    refine y_ic_ge (pc' := 28) rfl rfl (by first | omega | (have := h.b2 (i := s + i) (by omega); have := hj.2.2 i (by omega); omega)) (by first | omega | (have := h.b2 (i := s + i) (by omega); have := hj.2.2 i (by omega); omega)) (fun c25 => ?_) (fun c25 => ?_)
    · exact absurd c25 (by omega)
    · refine x_aload (pc' := 29) rfl rfl rfl ?_
      refine x_getR (pc' := 32) rfl rfl rfl (by decide) rfl (by decide) rfl rfl ?_
      refine x_aload (pc' := 33) rfl rfl rfl ?_
      refine x_getI (j := 3) (pc' := 36) rfl rfl rfl (by decide) rfl (by decide) rfl rfl ?_
      refine x_top (hb) ?_
      refine x_iload (pc' := 37) rfl rfl rfl ?_
      refine y_iadd (pc' := 38) rfl rfl ?_
      refine x_iald (pc' := 39) rfl rfl (by decide) rfl (by decide) (show _ < 400 by omega) ?_
      refine x_top (h.by (i := s + i) (by omega)) ?_
      refine x_aload (pc' := 40) rfl rfl rfl ?_
      refine x_iload (pc' := 41) rfl rfl rfl ?_
      refine x_char (pc' := 44) rfl rfl hj.1 (Nat.le_of_ble_eq_true rfl) (show i < bh_sl j by omega) hjl ?_
      refine x_top (show bh_sc j i = nI (scN j i) from rfl) ?_
      refine y_ic_eq (pc' := 47) rfl rfl (by first | omega | (have := h.b2 (i := s + i) (by omega); have := hj.2.2 i (by omega); omega)) (by first | omega | (have := h.b2 (i := s + i) (by omega); have := hj.2.2 i (by omega); omega)) (fun c44 => ?_) (fun c44 => ?_)
      · refine y_inc (pc' := 52) (lv' := [_, _, _]) rfl rfl rfl (by decide) rfl ?_
        refine x_goto rfl ?_
        refine ih (i + 1) D0 (by omega) rfl (fun k hk => ?_)
        by_cases ek : k = i
        · rw [ek]; exact c44
        · exact h0 k (by omega)
      · refine x_int (pc' := 48) (v := nI 0) rfl rfl rfl ?_
        refine x_zret rfl rfl (by decide) ?_
        exact k0 (wdB_2 (show i < bh_sl j by omega) c44)
set_option maxRecDepth 20000 in
set_option maxHeartbeats 1000000 in
theorem w_X6_wordIs {D : Nat → Nat → Int32} {L : Nat → Nat → Int64} {Q : bh_Q} {tp : List Nat} {e s f j : Nat} (h : TS D tp e f) (hb : D 27 3 = nI s) (hse : s ≤ e) (hj : wok j) (k1 : wdB tp s e j = true → Q (some (.int 1)) (hp D L)) (k0 : wdB tp s e j = false → Q (some (.int 0)) (hp D L)) : bh_wc 1 m_X6_wordIs [.ref 27, .ref (1100 + j)] (hp D L) Q := by
  refine x_start (lv0 := [_, _, _]) (Nat.le_of_ble_eq_true rfl) rfl ?_
  have hjl := hj.2.1
  have h4 := h.l4
  have hel := h.2.2.1
  refine x_aload (pc' := 1) rfl rfl rfl ?_
  refine x_slen (pc' := 4) rfl rfl hj.1 (Nat.le_of_ble_eq_true rfl) ?_
  refine x_aload (pc' := 5) rfl rfl rfl ?_
  refine x_getI (j := 2) (pc' := 8) rfl rfl rfl (by decide) rfl (by decide) rfl rfl ?_
  refine x_top (h.at) ?_
  refine x_aload (pc' := 9) rfl rfl rfl ?_
  refine x_getI (j := 3) (pc' := 12) rfl rfl rfl (by decide) rfl (by decide) rfl rfl ?_
  refine x_top (hb) ?_
  refine y_isub (pc' := 13) rfl rfl (by omega) ?_
  refine y_ic_eq (pc' := 16) rfl rfl (by omega) (by omega) (fun c13 => ?_) (fun c13 => ?_)
  · refine x_int (pc' := 19) (v := nI 0) rfl rfl rfl ?_
    refine x_istore (pc' := 20) (lv' := [_, _, _]) rfl rfl (by decide) rfl ?_
    exact l_X6_wordIs (d := 0) (Nat.zero_le _) h hb hse hj c13 k1 k0 (bh_sl j) 0 D (Nat.zero_add _) rfl (fun k hk => absurd hk (Nat.not_lt_zero k))
  · refine x_int (pc' := 17) (v := nI 0) rfl rfl rfl ?_
    refine x_zret rfl rfl (by decide) ?_
    exact k0 (wdB_0 c13)
def kwJ (k : Nat) : Nat := if k = 0 then 7 else k
theorem wok_all : ∀ j, j < 20 → wok j := by
  have h : ∀ j, j < 20 → (j < bh_ST.length ∧ bh_sl j < 100 ∧ ∀ k, k < bh_sl j → scN j k < 256) := by decide +kernel
  exact h
def kwF (tp : List Nat) (s e : Nat) : Nat → Nat → Option Nat
  | 0, _ => none
  | f + 1, k => if wdB tp s e (kwJ k) = true then some k else kwF tp s e f (k + 1)
def kw (tp : List Nat) (s e : Nat) : Option Nat := kwF tp s e 7 0
def kI (o : Option Nat) : Int32 := match o with
  | some k => nI k
  | none => -1
set_option maxRecDepth 20000 in
set_option maxHeartbeats 1000000 in
theorem w_X6_wordOfKind {D : Nat → Nat → Int32} {L : Nat → Nat → Int64} {Q : bh_Q} {k : Nat} (hk : k < 7) (k1 : Q (some (.ref (1100 + kwJ k))) (hp D L)) : bh_wc 1 m_X6_wordOfKind [.int (nI k)] (hp D L) Q := by
  refine x_start (lv0 := [_]) (Nat.le_of_ble_eq_true rfl) rfl ?_
  refine x_iload (pc' := 1) rfl rfl rfl ?_
  rcases k7 hk with rfl | rfl | rfl | rfl | rfl | rfl | rfl
  · refine x_tab1O rfl (Or.inl (by decide)) (by decide) ?_
    refine x_ldcS (pc' := 60) rfl rfl ?_
    refine x_aret rfl rfl ?_
    exact k1
  · refine x_tab1N (n := 0) (t := 40) rfl (by decide) rfl ?_
    refine x_ldcS (pc' := 42) rfl rfl ?_
    refine x_aret rfl rfl ?_
    exact k1
  · refine x_tab1N (n := 1) (t := 43) rfl (by decide) rfl ?_
    refine x_ldcS (pc' := 45) rfl rfl ?_
    refine x_aret rfl rfl ?_
    exact k1
  · refine x_tab1N (n := 2) (t := 46) rfl (by decide) rfl ?_
    refine x_ldcS (pc' := 48) rfl rfl ?_
    refine x_aret rfl rfl ?_
    exact k1
  · refine x_tab1N (n := 3) (t := 49) rfl (by decide) rfl ?_
    refine x_ldcS (pc' := 51) rfl rfl ?_
    refine x_aret rfl rfl ?_
    exact k1
  · refine x_tab1N (n := 4) (t := 52) rfl (by decide) rfl ?_
    refine x_ldcS (pc' := 54) rfl rfl ?_
    refine x_aret rfl rfl ?_
    exact k1
  · refine x_tab1N (n := 5) (t := 55) rfl (by decide) rfl ?_
    refine x_ldcS (pc' := 57) rfl rfl ?_
    refine x_aret rfl rfl ?_
    exact k1
set_option maxRecDepth 20000 in
set_option maxHeartbeats 1000000 in
theorem l_X6_kindOfWord {L : Nat → Nat → Int64} {Q : bh_Q} {d : Nat} (hd : 1 ≤ d) {tp : List Nat} {e s f : Nat} {D0 : Nat → Nat → Int32} (h : TS D0 tp e f) (hb : D0 27 3 = nI s) (hse : s ≤ e) {r : Option Nat} (k1 : Q (some (.int (kI r))) (hp D0 L)) : ∀ (f i : Nat) (D : Nat → Nat → Int32), i + f = 7 → (D0 = D) → (kwF tp s e (7 - i) i = r) → bw m_X6_kindOfWord d Q 2 [.ref 27, .int (nI i)] [] D L := by
  intro f
  induction f with
  | zero =>
    intro i D hf hD hr
    subst hD
    refine x_iload (pc' := 3) rfl rfl rfl ?_
    refine x_int (pc' := 5) (v := nI 6) rfl rfl rfl ?_
    refine y_ic_gt (pc' := 8) rfl rfl (by omega) (by omega) (fun c5 => ?_) (fun c5 => ?_)
    · refine x_int (pc' := 28) (v := (-1)) rfl rfl rfl ?_
      refine x_iret rfl rfl ?_
      obtain rfl : i = 7 := by omega
      have er : r = none := hr.symm
      rw [er] at k1
      exact k1
    · exact absurd c5 (by omega)
  | succ f ih =>
    intro i D hf hD hr
    subst hD
    refine x_iload (pc' := 3) rfl rfl rfl ?_
    refine x_int (pc' := 5) (v := nI 6) rfl rfl rfl ?_
    refine y_ic_gt (pc' := 8) rfl rfl (by omega) (by omega) (fun c5 => ?_) (fun c5 => ?_)
    · exact absurd c5 (by omega)
    · refine x_aload (pc' := 9) rfl rfl rfl ?_
      refine x_iload (pc' := 10) rfl rfl rfl ?_
      refine x_callS (pc' := 13) (d1 := 1) (As := [_]) rfl rfl rfl rfl (by decide) rfl rfl (Nat.le_of_ble_eq_true rfl) ⟨rfl, rfl⟩ (by omega) ?_
      refine w_X6_wordOfKind (by omega) ?_
      refine ⟨rfl, ?_⟩
      refine x_callV (pc' := 16) (d1 := 1) (Bs := [_]) rfl rfl rfl rfl rfl rfl rfl (Nat.le_of_ble_eq_true rfl) ⟨rfl, rfl⟩ (by decide) rfl (by omega) ?_
      refine w_X6_wordIs h hb hse (wok_all _ (by unfold kwJ; split <;> omega)) (fun hw => ?_) (fun hw => ?_)
      · refine ⟨rfl, ?_⟩
        refine x_if_eq (pc' := 19) rfl rfl (fun c16 => absurd c16 (by decide)) (fun _ => ?_)
        refine x_iload (pc' := 20) rfl rfl rfl ?_
        refine x_iret rfl rfl ?_
        have e7 : 7 - i = (7 - (i + 1)) + 1 := by omega
        rw [e7] at hr
        have er : kwF tp s e ((7 - (i + 1)) + 1) i = some i := if_pos hw
        rw [← hr, er] at k1
        exact k1
      · refine ⟨rfl, ?_⟩
        refine x_if_eq (pc' := 19) rfl rfl (fun _ => ?_) (fun c16 => absurd (by decide) c16)
        refine y_inc (pc' := 24) (lv' := [_, _]) rfl rfl rfl (by decide) rfl ?_
        refine x_goto rfl ?_
        have e7 : 7 - i = (7 - (i + 1)) + 1 := by omega
        rw [e7] at hr
        have er : kwF tp s e ((7 - (i + 1)) + 1) i = kwF tp s e (7 - (i + 1)) (i + 1) := if_neg (by rw [hw]; decide)
        exact ih (i + 1) D0 (by omega) rfl (er.symm.trans hr)
set_option maxRecDepth 20000 in
set_option maxHeartbeats 1000000 in
theorem w_X6_kindOfWord {D : Nat → Nat → Int32} {L : Nat → Nat → Int64} {Q : bh_Q} {tp : List Nat} {e s f : Nat} (h : TS D tp e f) (hb : D 27 3 = nI s) (hse : s ≤ e) (k1 : Q (some (.int (kI (kw tp s e)))) (hp D L)) : bh_wc 2 m_X6_kindOfWord [.ref 27] (hp D L) Q := by
  refine x_start (lv0 := [_, _]) (Nat.le_of_ble_eq_true rfl) rfl ?_
  refine x_int (pc' := 1) (v := nI 0) rfl rfl rfl ?_
  refine x_istore (pc' := 2) (lv' := [_, _]) rfl rfl (by decide) rfl ?_
  exact l_X6_kindOfWord (d := 1) (Nat.le_refl _) h hb hse k1 7 0 D rfl rfl rfl
