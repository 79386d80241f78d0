/-! ===== a call of the class and the same call of the reference ===== -/
def LI (s0 s1 : Nat → Int32) (h : bh_H) : Prop := ∃ D L, h = hp D L ∧ SI s0 s1 h ∧ ∃ ps sh tp, Good (tv D) ps sh ∧ InvC D ps sh tp ∧ InvM D (tv D) ps sh tp
def Mid (s0 s1 : Nat → Int32) (m10 : Nat) (As : List Value) (r : Option Value) (h : bh_H) (x : Value) : Prop := r = some x ∧ h.1 = 228 ∧ SI s0 s1 h ∧ bh_wc 16 m10 (.ref 205 :: As) h (fun r2 t2 => r2 = some x ∧ LI s0 s1 t2)
theorem pr_M {s0 s1 : Nat → Int32} {m10 d2 : Nat} {As : List Value} {t : bh_H} {x : Value} (hS : SI s0 s1 t) (hd : d2 ≤ 16) (H : bh_wc d2 m10 As t (fun r2 t2 => SI s0 s1 t2 → r2 = some x ∧ LI s0 s1 t2)) : bh_wc 16 m10 As t (fun r2 t2 => r2 = some x ∧ LI s0 s1 t2) :=
  bh_wc_le hd (bh_wc_mono (fun _ _ z => z.2 z.1) (bh_wc_si hS H))
theorem pr_C {s0 s1 : Nat → Int32} {m9 m10 d1 : Nat} {As : List Value} {h : bh_H} (hS : SI s0 s1 h) (hd : d1 ≤ 16) (H : bh_wc d1 m9 (.ref 0 :: As) h (fun r t => SI s0 s1 t → ∃ v : Int32, r = some (.int v) ∧ t.1 = 228 ∧ bh_wc 16 m10 (.ref 205 :: As) t (fun r2 t2 => r2 = some (.int v) ∧ LI s0 s1 t2))) : bh_wc 16 m9 (.ref 0 :: As) h (fun r t => ∃ v : Int32, Mid s0 s1 m10 As r t (.int v)) :=
  bh_wc_le hd (bh_wc_mono (fun _ _ z => by obtain ⟨v, e, n, w⟩ := z.2 z.1; exact ⟨v, e, n, z.1, w⟩) (bh_wc_si hS H))
theorem pr_L {s0 s1 : Nat → Int32} {m9 m10 d1 : Nat} {As : List Value} {h : bh_H} (hS : SI s0 s1 h) (hd : d1 ≤ 16) (H : bh_wc d1 m9 (.ref 0 :: As) h (fun r t => SI s0 s1 t → ∃ v : Int64, r = some (.long v) ∧ t.1 = 228 ∧ bh_wc 16 m10 (.ref 205 :: As) t (fun r2 t2 => r2 = some (.long v) ∧ LI s0 s1 t2))) : bh_wc 16 m9 (.ref 0 :: As) h (fun r t => ∃ v : Int64, Mid s0 s1 m10 As r t (.long v)) :=
  bh_wc_le hd (bh_wc_mono (fun _ _ z => by obtain ⟨v, e, n, w⟩ := z.2 z.1; exact ⟨v, e, n, z.1, w⟩) (bh_wc_si hS H))
theorem hi_M {D D1 : Nat → Nat → Int32} {T : TW} {ps : List TW} {sh : Nat → Option TW} {tp : List Nat} (o : ∀ k, 205 ≤ k → D1 k = D k) (h : InvM D T ps sh tp) : InvM D1 T ps sh tp := invM_off h (fun k a _ _ => o k (by omega)) (by rw [o 205 (by decide)]) (by rw [o 205 (by decide)])
theorem lo_tv {D D1 : Nat → Nat → Int32} (o : ∀ k, k < 205 → D1 k = D k) : tv D1 = tv D := tvt_off (t := 1) (fun j hj => o _ (by omega))
theorem lo_C {D D1 : Nat → Nat → Int32} {ps : List TW} {sh : Nat → Option TW} {tp : List Nat} (o : ∀ k, k < 205 → D1 k = D k) (h : InvC D ps sh tp) : InvC D1 ps sh tp := invC_off h (o 0 (by decide)) (fun k _ _ b => o k b)
theorem te_rf (T : TW) : TE T T := fun _ _ _ _ => rfl
theorem te_of {T T' : TW} (h : T' = T) : TE T T' := by subst h; exact te_rf _
theorem fin_A {s0 s1 : Nat → Int32} {D1 D2 : Nat → Nat → Int32} {L : Nat → Nat → Int64} {T : TW} {ps : List TW} {sh : Nat → Option TW} {tp : List Nat} (hS : SI s0 s1 (hp D2 L)) (o : ∀ k, k < 205 → D2 k = D1 k) (e : TE T (tv D1)) (hG : Good T ps sh) (hC : InvC D1 ps sh tp) (hM : InvM D2 T ps sh tp) : LI s0 s1 (hp D2 L) := by
  refine ⟨D2, L, rfl, hS, ps, sh, tp, ?_, lo_C o hC, ?_⟩
  · rw [lo_tv o]; exact ⟨te_wf e hG.1, hG.2⟩
  · rw [lo_tv o]; exact ⟨te_rn e hG.1 hM.1, hM.2⟩
theorem offC_hi {D D1 : Nat → Nat → Int32} (o : OffC D D1) : ∀ k, 205 ≤ k → D1 k = D k := fun k hk => o k (by omega)
theorem offM_lo {D D1 : Nat → Nat → Int32} (o : OffM D D1) : ∀ k, k < 205 → D1 k = D k := fun k hk => o.1 k (by omega) (by omega)
theorem offC_tv {D D1 : Nat → Nat → Int32} (o : OffC D D1) : tv D1 = tv D := tvt_off (t := 1) (fun j hj => o _ (by omega))
theorem good_keep {T : TW} {ps : List TW} {sh : Nat → Option TW} (hG : Good T ps sh) (s : Nat) : Good T ps (fun i => if i = s then some T else sh i) := by
  refine ⟨hG.1, hG.2.1, fun i hi T2 h => ?_⟩
  dsimp only at h
  by_cases e : i = s
  · rw [if_pos e] at h; cases h; exact hG.1
  · rw [if_neg e] at h; exact hG.2.2 i hi T2 h
theorem gp_nil : GP [] := fun j hj => absurd hj (Nat.not_lt_zero j)
theorem gp_tl {T : TW} {qs : List TW} (h : GP (T :: qs)) : WF T ∧ GP qs := ⟨h 0 (Nat.succ_pos _), fun j hj => h (j + 1) (Nat.succ_lt_succ hj)⟩
theorem okN_u {a b : Nat} {x : Int32} (h : x = nI a) (h2 : x = nI b) (ha : a < 2 ^ 31) (hb : b < 2 ^ 31) : a = b := nI_inj ha hb (h.symm.trans h2)
theorem pr_hire {s0 s1 : Nat → Int32} {h : bh_H} {x1 x2 : Int32} (hI : LI s0 s1 h) : bh_wc 16 m_X9_hire (.ref 0 :: [.int x1, .int x2]) h (fun r t => ∃ v : Int32, Mid s0 s1 m_X10_hire [.int x1, .int x2] r t (.int v)) := by
  obtain ⟨D, L, rfl, hS, ps, sh, tp, hG, hC, hM⟩ := hI
  exact pr_C hS (by decide) (w_X9_hire hC hG (fun D1 o1 e1 i1 si => ⟨_, rfl, rfl, pr_M si (by decide) (w_X10_hire (hi_M o1 hM) hG (fun D2 o2 i2 si2 => ⟨rfl, fin_A si2 (fun k hk => o2 k (Or.inl hk)) (te_of e1) (hire_good x1 x2 hG) i1 i2⟩))⟩))
theorem pr_sack {s0 s1 : Nat → Int32} {h : bh_H} {x1 : Int32} (hI : LI s0 s1 h) : bh_wc 16 m_X9_sack (.ref 0 :: [.int x1]) h (fun r t => ∃ v : Int32, Mid s0 s1 m_X10_sack [.int x1] r t (.int v)) := by
  obtain ⟨D, L, rfl, hS, ps, sh, tp, hG, hC, hM⟩ := hI
  exact pr_C hS (by decide) (w_X9_sack hC hG (fun D1 o1 e1 i1 si => ⟨_, rfl, rfl, pr_M si (by decide) (w_X10_sack (hi_M o1 hM) hG (fun D2 o2 i2 si2 => ⟨rfl, fin_A si2 (fun k hk => o2 k (Or.inl hk)) (te_of e1) (sack_good x1 hG) i1 i2⟩))⟩))
theorem pr_teach {s0 s1 : Nat → Int32} {h : bh_H} {x1 x2 x3 x4 : Int32} (hI : LI s0 s1 h) : bh_wc 16 m_X9_teach (.ref 0 :: [.int x1, .int x2, .int x3, .int x4]) h (fun r t => ∃ v : Int32, Mid s0 s1 m_X10_teach [.int x1, .int x2, .int x3, .int x4] r t (.int v)) := by
  obtain ⟨D, L, rfl, hS, ps, sh, tp, hG, hC, hM⟩ := hI
  exact pr_C hS (by decide) (w_X9_teach hC hG (fun D1 o1 e1 i1 si => ⟨_, rfl, rfl, pr_M si (by decide) (w_X10_teach (hi_M o1 hM) hG (fun D2 o2 i2 si2 => ⟨rfl, fin_A si2 (fun k hk => o2 k (Or.inl hk)) (te_of e1) (teach_good x1 x2 x3 x4 hG) i1 i2⟩))⟩))
theorem pr_praise {s0 s1 : Nat → Int32} {h : bh_H} {x1 x2 : Int32} (hI : LI s0 s1 h) : bh_wc 16 m_X9_praise (.ref 0 :: [.int x1, .int x2]) h (fun r t => ∃ v : Int32, Mid s0 s1 m_X10_praise [.int x1, .int x2] r t (.int v)) := by
  obtain ⟨D, L, rfl, hS, ps, sh, tp, hG, hC, hM⟩ := hI
  exact pr_C hS (by decide) (w_X9_praise hC hG (fun D1 o1 e1 i1 si => ⟨_, rfl, rfl, pr_M si (by decide) (w_X10_praise (hi_M o1 hM) hG (fun D2 o2 i2 si2 => ⟨rfl, fin_A si2 (fun k hk => o2 k (Or.inl hk)) (te_of e1) (praise_good x1 x2 hG) i1 i2⟩))⟩))
theorem pr_blame {s0 s1 : Nat → Int32} {h : bh_H} {x1 x2 : Int32} (hI : LI s0 s1 h) : bh_wc 16 m_X9_blame (.ref 0 :: [.int x1, .int x2]) h (fun r t => ∃ v : Int32, Mid s0 s1 m_X10_blame [.int x1, .int x2] r t (.int v)) := by
  obtain ⟨D, L, rfl, hS, ps, sh, tp, hG, hC, hM⟩ := hI
  exact pr_C hS (by decide) (w_X9_blame hC hG (fun D1 o1 e1 i1 si => ⟨_, rfl, rfl, pr_M si (by decide) (w_X10_blame (hi_M o1 hM) hG (fun D2 o2 i2 si2 => ⟨rfl, fin_A si2 (fun k hk => o2 k (Or.inl hk)) (te_of e1) (blame_good x1 x2 hG) i1 i2⟩))⟩))
theorem pr_order {s0 s1 : Nat → Int32} {h : bh_H} {x1 x2 : Int32} (hI : LI s0 s1 h) : bh_wc 16 m_X9_order (.ref 0 :: [.int x1, .int x2]) h (fun r t => ∃ v : Int32, Mid s0 s1 m_X10_order [.int x1, .int x2] r t (.int v)) := by
  obtain ⟨D, L, rfl, hS, ps, sh, tp, hG, hC, hM⟩ := hI
  exact pr_C hS (by decide) (w_X9_order hC hG (fun D1 o1 e1 i1 si => ⟨_, rfl, rfl, pr_M si (by decide) (w_X10_order (hi_M o1 hM) hG (fun D2 o2 i2 si2 => ⟨rfl, fin_A si2 (fun k hk => o2 k (Or.inl hk)) (te_of e1) (order_good x1 x2 hG) i1 i2⟩))⟩))
theorem pr_day {s0 s1 : Nat → Int32} {h : bh_H} {x1 : Int32} (hI : LI s0 s1 h) : bh_wc 16 m_X9_day (.ref 0 :: [.int x1]) h (fun r t => ∃ v : Int32, Mid s0 s1 m_X10_day [.int x1] r t (.int v)) := by
  obtain ⟨D, L, rfl, hS, ps, sh, tp, hG, hC, hM⟩ := hI
  exact pr_C hS (by decide) (w_X9_day hC hG (fun D1 o1 e1 i1 si => ⟨_, rfl, rfl, pr_M si (by decide) (w_X10_day (hi_M o1 hM) hG (fun D2 o2 i2 si2 => ⟨rfl, fin_A si2 (fun k hk => o2 k (Or.inl hk)) (te_of e1) (day_good x1 hG) i1 i2⟩))⟩))
theorem pr_store {s0 s1 : Nat → Int32} {h : bh_H} {x1 x2 : Int32} (hI : LI s0 s1 h) : bh_wc 16 m_X9_store (.ref 0 :: [.int x1, .int x2]) h (fun r t => ∃ v : Int32, Mid s0 s1 m_X10_store [.int x1, .int x2] r t (.int v)) := by
  obtain ⟨D, L, rfl, hS, ps, sh, tp, hG, hC, hM⟩ := hI
  exact pr_C hS (by decide) (w_X9_store hC hG (fun D1 o1 e1 i1 si => ⟨_, rfl, rfl, pr_M si (by decide) (w_X10_store (hi_M o1 hM) hG (fun D2 o2 i2 si2 => ⟨rfl, fin_A si2 (fun k hk => o2 k (Or.inl hk)) (te_of e1) (store_good x1 x2 hG) i1 i2⟩))⟩))
theorem pr_die {s0 s1 : Nat → Int32} {h : bh_H} {x1 : Int32} (hI : LI s0 s1 h) : bh_wc 16 m_X9_die (.ref 0 :: [.int x1]) h (fun r t => ∃ v : Int32, Mid s0 s1 m_X10_die [.int x1] r t (.int v)) := by
  obtain ⟨D, L, rfl, hS, ps, sh, tp, hG, hC, hM⟩ := hI
  exact pr_C hS (by decide) (w_X9_die hC hG (fun D1 o1 e1 i1 si => ⟨_, rfl, rfl, pr_M si (by decide) (w_X10_die (hi_M o1 hM) hG (fun D2 o2 i2 si2 => ⟨rfl, fin_A si2 (fun k hk => o2 k (Or.inl hk)) (te_of e1) (die_good x1 hG) i1 i2⟩))⟩))
theorem pr_see {s0 s1 : Nat → Int32} {h : bh_H} {x1 : Int32} (hI : LI s0 s1 h) : bh_wc 16 m_X9_see (.ref 0 :: [.int x1]) h (fun r t => ∃ v : Int32, Mid s0 s1 m_X10_see [.int x1] r t (.int v)) := by
  obtain ⟨D, L, rfl, hS, ps, sh, tp, hG, hC, hM⟩ := hI
  exact pr_C hS (by decide) (w_X9_see hC hG (fun D1 o1 e1 i1 si => ⟨_, rfl, rfl, pr_M si (by decide) (w_X10_see (hi_M o1 hM) hG (fun D2 o2 i2 si2 => ⟨rfl, fin_A si2 (fun k hk => o2 k (Or.inl hk)) (te_of e1) (see_good x1 hG) i1 i2⟩))⟩))
theorem pr_forget {s0 s1 : Nat → Int32} {h : bh_H} (hI : LI s0 s1 h) : bh_wc 16 m_X9_forget (.ref 0 :: []) h (fun r t => ∃ v : Int32, Mid s0 s1 m_X10_forget [] r t (.int v)) := by
  obtain ⟨D, L, rfl, hS, ps, sh, tp, hG, hC, hM⟩ := hI
  exact pr_C hS (by decide) (w_X9_forget hC hG (fun D1 o1 e1 i1 si => ⟨_, rfl, rfl, pr_M si (by decide) (w_X10_forget (hi_M o1 hM) hG (fun D2 o2 i2 si2 => ⟨rfl, fin_A si2 (fun k hk => o2 k (Or.inl hk)) (te_of e1) (forget_good  hG) i1 i2⟩))⟩))
theorem pr_writer {s0 s1 : Nat → Int32} {h : bh_H} {x1 x2 : Int32} (hI : LI s0 s1 h) : bh_wc 16 m_X9_writer (.ref 0 :: [.int x1, .int x2]) h (fun r t => ∃ v : Int32, Mid s0 s1 m_X10_writer [.int x1, .int x2] r t (.int v)) := by
  obtain ⟨D, L, rfl, hS, ps, sh, tp, hG, hC, hM⟩ := hI
  exact pr_C hS (by decide) (w_X9_writer hG.1 (fun D1 o1 si => ⟨_, rfl, rfl, pr_M si (by decide) (w_X10_writer hG.1 (hi_M (offC_hi o1) hM).1 (fun D2 o2 si2 => ⟨rfl, fin_A si2 (offM_lo o2) (te_of (offC_tv o1)) hG (OffC.inv o1 hC) (OffM.inv o2 (hi_M (offC_hi o1) hM))⟩))⟩))
theorem pr_page {s0 s1 : Nat → Int32} {h : bh_H} {x1 x2 : Int32} (hI : LI s0 s1 h) : bh_wc 16 m_X9_page (.ref 0 :: [.int x1, .int x2]) h (fun r t => ∃ v : Int32, Mid s0 s1 m_X10_page [.int x1, .int x2] r t (.int v)) := by
  obtain ⟨D, L, rfl, hS, ps, sh, tp, hG, hC, hM⟩ := hI
  exact pr_C hS (by decide) (w_X9_page hG.1 (fun si => ⟨_, rfl, rfl, pr_M si (by decide) (w_X10_page hG.1 (hi_M (offC_hi OffC.rf) hM).1 (fun si2 => ⟨rfl, fin_A si2 (offM_lo OffM.rf) (te_of (offC_tv OffC.rf)) hG (OffC.inv OffC.rf hC) (OffM.inv OffM.rf (hi_M (offC_hi OffC.rf) hM))⟩))⟩))
theorem pr_line {s0 s1 : Nat → Int32} {h : bh_H} {x1 x2 x3 : Int32} (hI : LI s0 s1 h) : bh_wc 16 m_X9_line (.ref 0 :: [.int x1, .int x2, .int x3]) h (fun r t => ∃ v : Int32, Mid s0 s1 m_X10_line [.int x1, .int x2, .int x3] r t (.int v)) := by
  obtain ⟨D, L, rfl, hS, ps, sh, tp, hG, hC, hM⟩ := hI
  exact pr_C hS (by decide) (w_X9_line hG.1 (fun D1 o1 si => ⟨_, rfl, rfl, pr_M si (by decide) (w_X10_line hG.1 (hi_M (offC_hi o1) hM).1 (fun D2 o2 si2 => ⟨rfl, fin_A si2 (offM_lo o2) (te_of (offC_tv o1)) hG (OffC.inv o1 hC) (OffM.inv o2 (hi_M (offC_hi o1) hM))⟩))⟩))
theorem pr_trace {s0 s1 : Nat → Int32} {h : bh_H} {x1 x2 x3 x4 x5 : Int32} (hI : LI s0 s1 h) : bh_wc 16 m_X9_trace (.ref 0 :: [.int x1, .int x2, .int x3, .int x4, .int x5]) h (fun r t => ∃ v : Int32, Mid s0 s1 m_X10_trace [.int x1, .int x2, .int x3, .int x4, .int x5] r t (.int v)) := by
  obtain ⟨D, L, rfl, hS, ps, sh, tp, hG, hC, hM⟩ := hI
  exact pr_C hS (by decide) (w_X9_trace hG.1 (fun D1 o1 si => ⟨_, rfl, rfl, pr_M si (by decide) (w_X10_trace hG.1 (hi_M (offC_hi o1) hM).1 (fun D2 o2 si2 => ⟨rfl, fin_A si2 (offM_lo o2) (te_of (offC_tv o1)) hG (OffC.inv o1 hC) (OffM.inv o2 (hi_M (offC_hi o1) hM))⟩))⟩))
theorem pr_own {s0 s1 : Nat → Int32} {h : bh_H} {x1 x2 x3 : Int32} (hI : LI s0 s1 h) : bh_wc 16 m_X9_own (.ref 0 :: [.int x1, .int x2, .int x3]) h (fun r t => ∃ v : Int32, Mid s0 s1 m_X10_own [.int x1, .int x2, .int x3] r t (.int v)) := by
  obtain ⟨D, L, rfl, hS, ps, sh, tp, hG, hC, hM⟩ := hI
  exact pr_C hS (by decide) (w_X9_own hG.1 (fun D1 o1 si => ⟨_, rfl, rfl, pr_M si (by decide) (w_X10_own hG.1 (hi_M (offC_hi o1) hM).1 (fun D2 o2 si2 => ⟨rfl, fin_A si2 (offM_lo o2) (te_of (offC_tv o1)) hG (OffC.inv o1 hC) (OffM.inv o2 (hi_M (offC_hi o1) hM))⟩))⟩))
theorem pr_pay {s0 s1 : Nat → Int32} {h : bh_H} {x1 x2 x3 : Int32} (hI : LI s0 s1 h) : bh_wc 16 m_X9_pay (.ref 0 :: [.int x1, .int x2, .int x3]) h (fun r t => ∃ v : Int32, Mid s0 s1 m_X10_pay [.int x1, .int x2, .int x3] r t (.int v)) := by
  obtain ⟨D, L, rfl, hS, ps, sh, tp, hG, hC, hM⟩ := hI
  exact pr_C hS (by decide) (w_X9_pay hG.1 (fun D1 o1 si => ⟨_, rfl, rfl, pr_M si (by decide) (w_X10_pay hG.1 (hi_M (offC_hi o1) hM).1 (fun D2 o2 si2 => ⟨rfl, fin_A si2 (offM_lo o2) (te_of (offC_tv o1)) hG (OffC.inv o1 hC) (OffM.inv o2 (hi_M (offC_hi o1) hM))⟩))⟩))
theorem pr_alike {s0 s1 : Nat → Int32} {h : bh_H} {x1 x2 : Int32} (hI : LI s0 s1 h) : bh_wc 16 m_X9_alike (.ref 0 :: [.int x1, .int x2]) h (fun r t => ∃ v : Int32, Mid s0 s1 m_X10_alike [.int x1, .int x2] r t (.int v)) := by
  obtain ⟨D, L, rfl, hS, ps, sh, tp, hG, hC, hM⟩ := hI
  exact pr_C hS (by decide) (w_X9_alike hG.1 (fun D1 o1 si => ⟨_, rfl, rfl, pr_M si (by decide) (w_X10_alike hG.1 (hi_M (offC_hi o1) hM).1 (fun D2 o2 si2 => ⟨rfl, fin_A si2 (offM_lo o2) (te_of (offC_tv o1)) hG (OffC.inv o1 hC) (OffM.inv o2 (hi_M (offC_hi o1) hM))⟩))⟩))
theorem pr_fits {s0 s1 : Nat → Int32} {h : bh_H} {x1 x2 : Int32} (hI : LI s0 s1 h) : bh_wc 16 m_X9_fits (.ref 0 :: [.int x1, .int x2]) h (fun r t => ∃ v : Int32, Mid s0 s1 m_X10_fits [.int x1, .int x2] r t (.int v)) := by
  obtain ⟨D, L, rfl, hS, ps, sh, tp, hG, hC, hM⟩ := hI
  exact pr_C hS (by decide) (w_X9_fits hG.1 (fun D1 o1 si => ⟨_, rfl, rfl, pr_M si (by decide) (w_X10_fits hG.1 (hi_M (offC_hi o1) hM).1 (fun D2 o2 si2 => ⟨rfl, fin_A si2 (offM_lo o2) (te_of (offC_tv o1)) hG (OffC.inv o1 hC) (OffM.inv o2 (hi_M (offC_hi o1) hM))⟩))⟩))
theorem pr_likeliest {s0 s1 : Nat → Int32} {h : bh_H} {x1 x2 : Int32} (hI : LI s0 s1 h) : bh_wc 16 m_X9_likeliest (.ref 0 :: [.int x1, .int x2]) h (fun r t => ∃ v : Int32, Mid s0 s1 m_X10_likeliest [.int x1, .int x2] r t (.int v)) := by
  obtain ⟨D, L, rfl, hS, ps, sh, tp, hG, hC, hM⟩ := hI
  exact pr_C hS (by decide) (w_X9_likeliest hG.1 (fun D1 o1 si => ⟨_, rfl, rfl, pr_M si (by decide) (w_X10_likeliest hG.1 (hi_M (offC_hi o1) hM).1 (fun D2 o2 si2 => ⟨rfl, fin_A si2 (offM_lo o2) (te_of (offC_tv o1)) hG (OffC.inv o1 hC) (OffM.inv o2 (hi_M (offC_hi o1) hM))⟩))⟩))
theorem pr_matches {s0 s1 : Nat → Int32} {h : bh_H} {x1 x2 : Int32} (hI : LI s0 s1 h) : bh_wc 16 m_X9_matches (.ref 0 :: [.int x1, .int x2]) h (fun r t => ∃ v : Int64, Mid s0 s1 m_X10_matches [.int x1, .int x2] r t (.long v)) := by
  obtain ⟨D, L, rfl, hS, ps, sh, tp, hG, hC, hM⟩ := hI
  exact pr_L hS (by decide) (w_X9_matches hG.1 (fun D1 o1 si => ⟨_, rfl, rfl, pr_M si (by decide) (w_X10_matches hG.1 (hi_M (offC_hi o1) hM).1 (fun D2 o2 si2 => ⟨rfl, fin_A si2 (offM_lo o2) (te_of (offC_tv o1)) hG (OffC.inv o1 hC) (OffM.inv o2 (hi_M (offC_hi o1) hM))⟩))⟩))
theorem pr_trees {s0 s1 : Nat → Int32} {h : bh_H} {x1 x2 : Int32} (hI : LI s0 s1 h) : bh_wc 16 m_X9_trees (.ref 0 :: [.int x1, .int x2]) h (fun r t => ∃ v : Int64, Mid s0 s1 m_X10_trees [.int x1, .int x2] r t (.long v)) := by
  obtain ⟨D, L, rfl, hS, ps, sh, tp, hG, hC, hM⟩ := hI
  exact pr_L hS (by decide) (w_X9_trees hG.1 (fun si => ⟨_, rfl, rfl, pr_M si (by decide) (w_X10_trees hG.1 (hi_M (offC_hi OffC.rf) hM).1 (fun si2 => ⟨rfl, fin_A si2 (offM_lo OffM.rf) (te_of (offC_tv OffC.rf)) hG (OffC.inv OffC.rf hC) (OffM.inv OffM.rf (hi_M (offC_hi OffC.rf) hM))⟩))⟩))
theorem pr_under {s0 s1 : Nat → Int32} {h : bh_H} {x1 x2 x3 : Int32} (hI : LI s0 s1 h) : bh_wc 16 m_X9_under (.ref 0 :: [.int x1, .int x2, .int x3]) h (fun r t => ∃ v : Int32, Mid s0 s1 m_X10_under_ [.int x1, .int x2, .int x3] r t (.int v)) := by
  obtain ⟨D, L, rfl, hS, ps, sh, tp, hG, hC, hM⟩ := hI
  exact pr_C hS (by decide) (w_X9_under hG.1 (fun si => ⟨_, rfl, rfl, pr_M si (by decide) (w_X10_under_ hG.1 (hi_M (offC_hi OffC.rf) hM).1 (fun si2 => ⟨rfl, fin_A si2 (offM_lo OffM.rf) (te_of (offC_tv OffC.rf)) hG (OffC.inv OffC.rf hC) (OffM.inv OffM.rf (hi_M (offC_hi OffC.rf) hM))⟩))⟩))
theorem pr_breaks {s0 s1 : Nat → Int32} {h : bh_H} {x1 x2 x3 : Int32} (hI : LI s0 s1 h) : bh_wc 16 m_X9_breaks (.ref 0 :: [.int x1, .int x2, .int x3]) h (fun r t => ∃ v : Int32, Mid s0 s1 m_X10_breaks [.int x1, .int x2, .int x3] r t (.int v)) := by
  obtain ⟨D, L, rfl, hS, ps, sh, tp, hG, hC, hM⟩ := hI
  exact pr_C hS (by decide) (w_X9_breaks hG.1 (fun D1 o1 si => ⟨_, rfl, rfl, pr_M si (by decide) (w_X10_breaks hG.1 (hi_M (offC_hi o1) hM).1 (fun D2 o2 si2 => ⟨rfl, fin_A si2 (offM_lo o2) (te_of (offC_tv o1)) hG (OffC.inv o1 hC) (OffM.inv o2 (hi_M (offC_hi o1) hM))⟩))⟩))
theorem pr_untangle {s0 s1 : Nat → Int32} {h : bh_H} {x1 x2 x3 x4 : Int32} (hI : LI s0 s1 h) : bh_wc 16 m_X9_untangle (.ref 0 :: [.int x1, .int x2, .int x3, .int x4]) h (fun r t => ∃ v : Int64, Mid s0 s1 m_X10_untangle [.int x1, .int x2, .int x3, .int x4] r t (.long v)) := by
  obtain ⟨D, L, rfl, hS, ps, sh, tp, hG, hC, hM⟩ := hI
  exact pr_L hS (by decide) (w_X9_untangle hG.1 (fun D1 L1 o1 si => ⟨_, rfl, rfl, pr_M si (by decide) (w_X10_untangle hG.1 (hi_M (offC_hi o1) hM).1 (fun D2 L2 o2 si2 => ⟨rfl, fin_A si2 (offM_lo o2) (te_of (offC_tv o1)) hG (OffC.inv o1 hC) (OffM.inv o2 (hi_M (offC_hi o1) hM))⟩))⟩))
theorem pr_tells {s0 s1 : Nat → Int32} {h : bh_H} {x1 x2 x3 : Int32} (hI : LI s0 s1 h) : bh_wc 16 m_X9_tells (.ref 0 :: [.int x1, .int x2, .int x3]) h (fun r t => ∃ v : Int32, Mid s0 s1 m_X10_tells [.int x1, .int x2, .int x3] r t (.int v)) := by
  obtain ⟨D, L, rfl, hS, ps, sh, tp, hG, hC, hM⟩ := hI
  exact pr_C hS (by decide) (w_X9_tells hG.1 (fun D1 o1 si => ⟨_, rfl, rfl, pr_M si (by decide) (w_X10_tells hG.1 (hi_M (offC_hi o1) hM).1 (fun D2 o2 si2 => ⟨rfl, fin_A si2 (offM_lo o2) (te_of (offC_tv o1)) hG (OffC.inv o1 hC) (OffM.inv o2 (hi_M (offC_hi o1) hM))⟩))⟩))
theorem pr_slips {s0 s1 : Nat → Int32} {h : bh_H} {x1 x2 x3 x4 x5 : Int32} (hI : LI s0 s1 h) : bh_wc 16 m_X9_slips (.ref 0 :: [.int x1, .int x2, .int x3, .int x4, .int x5]) h (fun r t => ∃ v : Int32, Mid s0 s1 m_X10_slips [.int x1, .int x2, .int x3, .int x4, .int x5] r t (.int v)) := by
  obtain ⟨D, L, rfl, hS, ps, sh, tp, hG, hC, hM⟩ := hI
  exact pr_C hS (by decide) (w_X9_slips hG.1 (fun D1 o1 si => ⟨_, rfl, rfl, pr_M si (by decide) (w_X10_slips hG.1 (hi_M (offC_hi o1) hM).1 (fun D2 o2 si2 => ⟨rfl, fin_A si2 (offM_lo o2) (te_of (offC_tv o1)) hG (OffC.inv o1 hC) (OffM.inv o2 (hi_M (offC_hi o1) hM))⟩))⟩))
theorem pr_errors {s0 s1 : Nat → Int32} {h : bh_H} {x1 x2 x3 : Int32} (hI : LI s0 s1 h) : bh_wc 16 m_X9_errors (.ref 0 :: [.int x1, .int x2, .int x3]) h (fun r t => ∃ v : Int32, Mid s0 s1 m_X10_errors [.int x1, .int x2, .int x3] r t (.int v)) := by
  obtain ⟨D, L, rfl, hS, ps, sh, tp, hG, hC, hM⟩ := hI
  exact pr_C hS (by decide) (w_X9_errors hG.1 (fun D1 o1 si => ⟨_, rfl, rfl, pr_M si (by decide) (w_X10_errors hG.1 (hi_M (offC_hi o1) hM).1 (fun D2 o2 si2 => ⟨rfl, fin_A si2 (offM_lo o2) (te_of (offC_tv o1)) hG (OffC.inv o1 hC) (OffM.inv o2 (hi_M (offC_hi o1) hM))⟩))⟩))
theorem pr_nested {s0 s1 : Nat → Int32} {h : bh_H} {x1 x2 x3 : Int32} (hI : LI s0 s1 h) : bh_wc 16 m_X9_nested (.ref 0 :: [.int x1, .int x2, .int x3]) h (fun r t => ∃ v : Int32, Mid s0 s1 m_X10_nested [.int x1, .int x2, .int x3] r t (.int v)) := by
  obtain ⟨D, L, rfl, hS, ps, sh, tp, hG, hC, hM⟩ := hI
  exact pr_C hS (by decide) (w_X9_nested hG.1 (fun D1 o1 si => ⟨_, rfl, rfl, pr_M si (by decide) (w_X10_nested hG.1 (hi_M (offC_hi o1) hM).1 (fun D2 o2 si2 => ⟨rfl, fin_A si2 (offM_lo o2) (te_of (offC_tv o1)) hG (OffC.inv o1 hC) (OffM.inv o2 (hi_M (offC_hi o1) hM))⟩))⟩))
theorem pr_shared {s0 s1 : Nat → Int32} {h : bh_H} {x1 x2 : Int32} (hI : LI s0 s1 h) : bh_wc 16 m_X9_shared (.ref 0 :: [.int x1, .int x2]) h (fun r t => ∃ v : Int32, Mid s0 s1 m_X10_shared [.int x1, .int x2] r t (.int v)) := by
  obtain ⟨D, L, rfl, hS, ps, sh, tp, hG, hC, hM⟩ := hI
  exact pr_C hS (by decide) (w_X9_shared hG.1 (fun D1 o1 si => ⟨_, rfl, rfl, pr_M si (by decide) (w_X10_shared hG.1 (hi_M (offC_hi o1) hM).1 (fun si2 => ⟨rfl, fin_A si2 (offM_lo OffM.rf) (te_of (offC_tv o1)) hG (OffC.inv o1 hC) (OffM.inv OffM.rf (hi_M (offC_hi o1) hM))⟩))⟩))
theorem pr_quarrel {s0 s1 : Nat → Int32} {h : bh_H} {x1 x2 x3 x4 : Int32} (hI : LI s0 s1 h) : bh_wc 16 m_X9_quarrel (.ref 0 :: [.int x1, .int x2, .int x3, .int x4]) h (fun r t => ∃ v : Int32, Mid s0 s1 m_X10_quarrel [.int x1, .int x2, .int x3, .int x4] r t (.int v)) := by
  obtain ⟨D, L, rfl, hS, ps, sh, tp, hG, hC, hM⟩ := hI
  exact pr_C hS (by decide) (w_X9_quarrel hG.1 (fun D1 o1 si => ⟨_, rfl, rfl, pr_M si (by decide) (w_X10_quarrel hG.1 (hi_M (offC_hi o1) hM).1 (fun D2 o2 si2 => ⟨rfl, fin_A si2 (offM_lo o2) (te_of (offC_tv o1)) hG (OffC.inv o1 hC) (OffM.inv o2 (hi_M (offC_hi o1) hM))⟩))⟩))
theorem pr_served {s0 s1 : Nat → Int32} {h : bh_H} {x1 x2 : Int32} (hI : LI s0 s1 h) : bh_wc 16 m_X9_served (.ref 0 :: [.int x1, .int x2]) h (fun r t => ∃ v : Int32, Mid s0 s1 m_X10_served [.int x1, .int x2] r t (.int v)) := by
  obtain ⟨D, L, rfl, hS, ps, sh, tp, hG, hC, hM⟩ := hI
  exact pr_C hS (by decide) (w_X9_served hG.1 (fun D1 o1 si => ⟨_, rfl, rfl, pr_M si (by decide) (w_X10_served hG.1 (hi_M (offC_hi o1) hM).1 (fun si2 => ⟨rfl, fin_A si2 (offM_lo OffM.rf) (te_of (offC_tv o1)) hG (OffC.inv o1 hC) (OffM.inv OffM.rf (hi_M (offC_hi o1) hM))⟩))⟩))
theorem pr_between {s0 s1 : Nat → Int32} {h : bh_H} {x1 x2 x3 : Int32} (hI : LI s0 s1 h) : bh_wc 16 m_X9_between (.ref 0 :: [.int x1, .int x2, .int x3]) h (fun r t => ∃ v : Int32, Mid s0 s1 m_X10_between [.int x1, .int x2, .int x3] r t (.int v)) := by
  obtain ⟨D, L, rfl, hS, ps, sh, tp, hG, hC, hM⟩ := hI
  exact pr_C hS (by decide) (w_X9_between hG.1 (fun D1 o1 si => ⟨_, rfl, rfl, pr_M si (by decide) (w_X10_between hG.1 (hi_M (offC_hi o1) hM).1 (fun D2 o2 si2 => ⟨rfl, fin_A si2 (offM_lo o2) (te_of (offC_tv o1)) hG (OffC.inv o1 hC) (OffM.inv o2 (hi_M (offC_hi o1) hM))⟩))⟩))
theorem pr_count {s0 s1 : Nat → Int32} {h : bh_H} {x1 : Int32} (hI : LI s0 s1 h) : bh_wc 16 m_X9_count (.ref 0 :: [.int x1]) h (fun r t => ∃ v : Int32, Mid s0 s1 m_X10_count [.int x1] r t (.int v)) := by
  obtain ⟨D, L, rfl, hS, ps, sh, tp, hG, hC, hM⟩ := hI
  exact pr_C hS (by decide) (w_X9_count hG.1 hC (fun D1 o1 si => ⟨_, rfl, rfl, pr_M si (by decide) (w_X10_count hG.1 (hi_M (offC_hi o1) hM) (fun D2 o2 si2 => ⟨rfl, fin_A si2 (offM_lo o2) (te_of (offC_tv o1)) hG (OffC.inv o1 hC) (OffM.inv o2 (hi_M (offC_hi o1) hM))⟩))⟩))
theorem pr_feed {s0 s1 : Nat → Int32} {h : bh_H} {x1 x2 x3 x4 x5 : Int32} (hI : LI s0 s1 h) : bh_wc 16 m_X9_feed (.ref 0 :: [.int x1, .int x2, .int x3, .int x4, .int x5]) h (fun r t => ∃ v : Int32, Mid s0 s1 m_X10_feed [.int x1, .int x2, .int x3, .int x4, .int x5] r t (.int v)) := by
  obtain ⟨D, L, rfl, hS, ps, sh, tp, hG, hC, hM⟩ := hI
  refine pr_C hS (by decide) (w_X9_feed hC (fun n1 si => ?_) (fun n1 D1 o1 e1 i1 si => ?_))
  · exact ⟨_, rfl, rfl, pr_M si (by decide) (w_X10_feed hM hC.2.2.1.1 (fun _ si2 => ⟨rfl, fin_A si2 (fun _ _ => rfl) (te_rf _) hG hC hM⟩) (fun n2 => absurd n2 n1))⟩
  · exact ⟨_, rfl, rfl, pr_M si (by decide) (w_X10_feed (hi_M o1 hM) hC.2.2.1.1 (fun n2 => absurd n1 n2) (fun _ D2 o2 i2 si2 => ⟨rfl, fin_A si2 o2 (te_of e1) hG i1 i2⟩))⟩
theorem pr_end {s0 s1 : Nat → Int32} {h : bh_H} {x1 : Int32} (hI : LI s0 s1 h) : bh_wc 16 m_X9_end (.ref 0 :: [.int x1]) h (fun r t => ∃ v : Int32, Mid s0 s1 m_X10_end [.int x1] r t (.int v)) := by
  obtain ⟨D, L, rfl, hS, ps, sh, tp, hG, hC, hM⟩ := hI
  have h4 := hC.2.2.1.1
  refine pr_C hS (by decide) (w_X9_end hC (fun n1 si => ?_) (fun n hn ex D1 o1 e1 i1 si => ?_))
  · exact ⟨_, rfl, rfl, pr_M si (by decide) (w_X10_end hM h4 (fun _ si2 => ⟨rfl, fin_A si2 (fun _ _ => rfl) (te_rf _) hG hC hM⟩) (fun n hn ex => absurd ⟨n, Nat.lt_succ_of_le hn, ex⟩ n1))⟩
  · refine ⟨_, rfl, rfl, pr_M si (by decide) (w_X10_end (hi_M o1 hM) h4 (fun n2 => absurd ⟨n, Nat.lt_succ_of_le hn, ex⟩ n2) (fun n' hn' ex' D2 o2 i2 si2 => ?_))⟩
    obtain rfl : n' = n := okN_u ex' ex (by omega) (by omega)
    exact ⟨rfl, fin_A si2 o2 (te_of e1) hG i1 i2⟩
theorem pr_tell {s0 s1 : Nat → Int32} {h : bh_H} (hI : LI s0 s1 h) : bh_wc 16 m_X9_tell (.ref 0 :: []) h (fun r t => ∃ v : Int32, Mid s0 s1 m_X10_tell [] r t (.int v)) := by
  obtain ⟨D, L, rfl, hS, ps, sh, tp, hG, hC, hM⟩ := hI
  have hP := hC.2.2.1
  refine pr_C hS (by decide) (w_X9_tell hC (fun n1 D1 o1 e1 i1 si => ?_) (fun n1 D1 o1 e1 i1 si => ?_))
  · exact ⟨_, rfl, rfl, pr_M si (by decide) (w_X10_tell (S0 := tvt D 14) (hi_M o1 hM) ⟨hP.1, fun i hi => (hP.2.2 i hi).1⟩ hC.2.2.2 (fun _ D2 o2 i2 si2 => ⟨rfl, fin_A si2 o2 e1 ⟨pTell_wf hC.2.2.2 n1, gp_nil, hG.2.2⟩ i1 i2⟩) (fun n2 => absurd n1 n2))⟩
  · exact ⟨_, rfl, rfl, pr_M si (by decide) (w_X10_tell (S0 := tvt D 14) (hi_M o1 hM) ⟨hP.1, fun i hi => (hP.2.2 i hi).1⟩ hC.2.2.2 (fun n2 => absurd n2 n1) (fun _ D2 o2 i2 si2 => ⟨rfl, fin_A si2 o2 (te_of e1) hG i1 i2⟩))⟩
theorem pr_undo {s0 s1 : Nat → Int32} {h : bh_H} (hI : LI s0 s1 h) : bh_wc 16 m_X9_undo (.ref 0 :: []) h (fun r t => ∃ v : Int32, Mid s0 s1 m_X10_undo [] r t (.int v)) := by
  obtain ⟨D, L, rfl, hS, ps, sh, tp, hG, hC, hM⟩ := hI
  refine pr_C hS (by decide) (v_X9_undo hC (fun n1 si => ?_) (fun T qs e D1 o1 e1 i1 si => ?_))
  · exact ⟨_, rfl, rfl, pr_M si (by decide) (v_X10_undo hM hG.2.1 (fun _ si2 => ⟨rfl, fin_A si2 (fun _ _ => rfl) (te_rf _) hG hC hM⟩) (fun T qs e => absurd (e.symm.trans n1) (List.cons_ne_nil _ _)))⟩
  · subst e
    refine ⟨_, rfl, rfl, pr_M si (by decide) (v_X10_undo (hi_M o1 hM) hG.2.1 (fun n2 => absurd n2 (List.cons_ne_nil _ _)) (fun T' qs' e' D2 o2 i2 si2 => ?_))⟩
    cases e'
    exact ⟨rfl, fin_A si2 o2 e1 ⟨(gp_tl hG.2.1).1, (gp_tl hG.2.1).2, hG.2.2⟩ i1 i2⟩
theorem pr_keep {s0 s1 : Nat → Int32} {h : bh_H} {x1 : Int32} (hI : LI s0 s1 h) : bh_wc 16 m_X9_keep (.ref 0 :: [.int x1]) h (fun r t => ∃ v : Int32, Mid s0 s1 m_X10_keep [.int x1] r t (.int v)) := by
  obtain ⟨D, L, rfl, hS, ps, sh, tp, hG, hC, hM⟩ := hI
  refine pr_C hS (by decide) (v_X9_keep hG.1 hC (fun n1 si => ?_) (fun s hs ex D1 o1 e1 i1 si => ?_))
  · exact ⟨_, rfl, rfl, pr_M si (by decide) (v_X10_keep hG.1 hM hG.2.2 (fun _ si2 => ⟨rfl, fin_A si2 (fun _ _ => rfl) (te_rf _) hG hC hM⟩) (fun s hs ex => absurd ⟨s, hs, ex⟩ n1))⟩
  · refine ⟨_, rfl, rfl, pr_M si (by decide) (v_X10_keep hG.1 (hi_M o1 hM) hG.2.2 (fun n2 => absurd ⟨s, hs, ex⟩ n2) (fun s' hs' ex' D2 o2 i2 si2 => ?_))⟩
    obtain rfl : s' = s := okN_u ex' ex (by omega) (by omega)
    exact ⟨rfl, fin_A si2 o2 (te_of e1) (good_keep hG s') i1 i2⟩
theorem pr_back {s0 s1 : Nat → Int32} {h : bh_H} {x1 : Int32} (hI : LI s0 s1 h) : bh_wc 16 m_X9_back (.ref 0 :: [.int x1]) h (fun r t => ∃ v : Int32, Mid s0 s1 m_X10_back [.int x1] r t (.int v)) := by
  obtain ⟨D, L, rfl, hS, ps, sh, tp, hG, hC, hM⟩ := hI
  refine pr_C hS (by decide) (v_X9_back hC hG.2.2 (fun n1 si => ?_) (fun s hs ex en si => ?_) (fun s hs ex T eT D1 o1 e1 i1 si => ?_))
  · exact ⟨_, rfl, rfl, pr_M si (by decide) (v_X10_back hM hG.2.2 (fun _ si2 => ⟨rfl, fin_A si2 (fun _ _ => rfl) (te_rf _) hG hC hM⟩) (fun s hs ex => absurd ⟨s, hs, ex⟩ n1) (fun s hs ex => absurd ⟨s, hs, ex⟩ n1))⟩
  · refine ⟨_, rfl, rfl, pr_M si (by decide) (v_X10_back hM hG.2.2 (fun n2 => absurd ⟨s, hs, ex⟩ n2) (fun s' hs' ex' en' si2 => ⟨rfl, fin_A si2 (fun _ _ => rfl) (te_rf _) hG hC hM⟩) (fun s' hs' ex' T eT => ?_))⟩
    obtain rfl : s' = s := okN_u ex' ex (by omega) (by omega)
    rw [en] at eT; cases eT
  · refine ⟨_, rfl, rfl, pr_M si (by decide) (v_X10_back (hi_M o1 hM) hG.2.2 (fun n2 => absurd ⟨s, hs, ex⟩ n2) (fun s' hs' ex' en' => ?_) (fun s' hs' ex' T' eT' D2 o2 i2 si2 => ?_))⟩
    · obtain rfl : s' = s := okN_u ex' ex (by omega) (by omega)
      rw [en'] at eT; cases eT
    · obtain rfl : s' = s := okN_u ex' ex (by omega) (by omega)
      obtain rfl : T' = T := by rw [eT] at eT'; exact (Option.some.inj eT').symm
      exact ⟨rfl, fin_A si2 o2 e1 ⟨hG.2.2 s' hs _ eT, gp_nil, hG.2.2⟩ i1 i2⟩
