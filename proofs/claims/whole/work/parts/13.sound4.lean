/-! ===== soundness: what is so of the picture is so of the machine ===== -/
section bh_sound4
variable {g : bh_G} {m0 d : Nat} {p : Program} {l : Launch} {e : Env} {R : Room} {S0 : State} {m : MethodId} {args : Array Value} {below : List Frame} {meth : Method} {c : Code} {Qf : State → Prop} {call : Nat → List Value → bh_H → bh_Q → Prop} {Q : bh_Q}
set_option maxHeartbeats 4000000 in
theorem bh_sound1 {d0 : Nat} (cx : bh_Cx g m0 (d0 + 9) p R S0 m args meth c) (hcall : ∀ m1 As h Q, m1 < 261 → m1 ≠ m_L_law → call m1 As h Q → bh_Mt g l d0 m1 As h Q)
    (hret : ∀ (r : Option Value) (v : List Value) (pc : Nat) (u : Nat × Nat) (h : bh_H) (H : Heap) (locs : List Loc) (ls : Array Slot), ((∃ x, r = some (.int x) ∧ decode (bh_B m0) pc = .ok (.ireturn, 1) ∧ (bh_rt m0 = some .int ∨ (bh_rt m0 = some .boolean ∧ (x = 0 ∨ x = 1)))) ∨ (∃ x, r = some (.long x) ∧ decode (bh_B m0) pc = .ok (.lreturn, 1) ∧ bh_rt m0 = some .long) ∨ (∃ x, r = some (.ref x) ∧ decode (bh_B m0) pc = .ok (.areturn, 1) ∧ bh_rt m0 = some (.object "java/lang/String")) ∨ (r = none ∧ decode (bh_B m0) pc = .ok (.return_, 1) ∧ bh_rt m0 = none)) →
      (u.1 ≤ bh_mc m0 ∧ u.2 ≤ bh_ms m0) → Q r h → va_P (bh_gD g) bh_cls (bh_ws g h) H → va_S (bh_rg g) S0.heap H locs → bh_scr g h → W p l e R S0 m args below meth c H locs u.1 u.2 Qf (F0 m pc ls (r.map (bh_tr g)).toList)) :
    ∀ pc lv st u h, bh_st m0 call (bh_MP g m0 p l e R S0 m args below meth c Qf) Q pc lv st u h → bh_MP g m0 p l e R S0 m args below meth c Qf pc lv st u h := by
  intro pc lv st u h H1
  have hok := bh_ok_of cx.2.2.2.2.2.1 pc
  unfold bh_st at H1
  unfold bh_ok at hok
  generalize bh_cod m0 pc = q at H1 hok
  obtain ⟨op, len, a, cn, l9⟩ := q
  dsimp only at H1 hok
  split at H1
  · match a, hok with
    | 0, hok => exact bs_1_0 cx hok H1
    | 1, hok => exact bs_1_1 cx hok H1
    | 2, hok => exact bs_1_2 cx hok H1
    | 3, hok => exact bs_1_3 cx hok H1
    | n + 4, hok => exact bs_1_4 cx hok H1
  · match a, hok with
    | 0, hok =>
      have hok : (if cn = 0 then bh_d1 m0 pc len (.lconst 0) else decide (cn = 1) && bh_d1 m0 pc len (.lconst 1)) = true := hok
      split at hok
      next e => subst e; exact bs_2_0 cx hok H1
      next e =>
        simp only [Bool.and_eq_true, decide_eq_true_eq] at hok
        obtain ⟨e1, hok⟩ := hok
        subst e1
        exact bs_2_1 cx hok H1
    | n + 1, hok => exact bs_2_2 cx hok H1
  · exact bs_3 cx hok H1
  · exact bs_4 cx hok H1
  · exact bs_5 cx hok H1
  · exact bs_6 cx hok H1
  · exact bs_7 cx hok H1
  · exact bs_8 cx hok H1
  · exact bs_9 cx hok H1
  · exact bs_10 cx hok H1
  · exact bs_11 cx hok H1
  · exact bs_12 cx hok H1
  · exact bs_13 cx hok H1
  · exact bs_14 cx hok H1
  · exact bs_15 cx hok H1
  · exact bs_16 cx hok H1
  · exact bs_17 cx hok H1
  · exact bs_18 cx hok H1
  · exact bs_19 cx hok H1
  · exact bs_20 cx hok H1
  · exact bs_21 cx hok H1
  · exact bs_22 cx hok H1
  · exact bs_23 cx hok H1
  · exact bs_24 cx hok H1
  · exact bs_25 cx hok H1
  · exact bs_26 cx hok H1
  · exact bs_27 cx hok H1
  · exact bs_28 cx hok H1
  · exact bs_29 cx hok H1
  · exact bs_30 cx hok H1
  · exact bs_31 cx hok H1
  · exact bs_32 cx hok H1
  · exact bs_33 cx hok H1
  · exact bs_34 cx hok H1
  · exact bs_35 cx hok H1
  · exact bs_36 cx hok H1
  · exact bs_37 cx hok H1
  · exact bs_38 cx hok H1
  · exact bs_39 cx (by omega) hok H1
  · exact bs_40 cx (Nat.le_refl _) hcall hok H1
  · obtain ⟨x, rfl, hu, hrt, hq⟩ := H1
    simp only [bh_d1, bh_dc, Bool.and_eq_true, decide_eq_true_eq] at hok
    intro H locs ls hP hS hN hX hl
    exact hret (some (.int x)) [] pc u h H locs ls (Or.inl ⟨x, rfl, hok.2, hrt⟩) hu hq hP hS hX
  · obtain ⟨x, rfl, hu, hrt, hq⟩ := H1
    simp only [bh_d1, bh_dc, Bool.and_eq_true, decide_eq_true_eq] at hok
    intro H locs ls hP hS hN hX hl
    exact hret (some (.long x)) [] pc u h H locs ls (Or.inr (Or.inl ⟨x, rfl, hok.2, hrt⟩)) hu hq hP hS hX
  · obtain ⟨x, rfl, hu, hrt, hq⟩ := H1
    simp only [bh_d1, bh_dc, Bool.and_eq_true, decide_eq_true_eq] at hok
    intro H locs ls hP hS hN hX hl
    exact hret (some (.ref x)) [] pc u h H locs ls (Or.inr (Or.inr (Or.inl ⟨x, rfl, hok.2, hrt⟩))) hu hq hP hS hX
  · obtain ⟨rfl, hu, hrt, hq⟩ := H1
    simp only [bh_d1, bh_dc, Bool.and_eq_true, decide_eq_true_eq] at hok
    intro H locs ls hP hS hN hX hl
    exact hret none [] pc u h H locs ls (Or.inr (Or.inr (Or.inr ⟨rfl, hok.2, hrt⟩))) hu hq hP hS hX
  · exact bs_45 cx hok H1
  · exact bs_46 cx (by omega) hok H1
  · exact bs_47 cx (by omega) hok H1
  · exact bs_48 cx (by omega) hok H1
  · exact bs_49 cx (by omega) hok H1
  · exact bs_50 cx (by omega) hok H1
  · exact H1.elim
end bh_sound4
theorem bh_sl_len (g : bh_G) : ∀ As : List Value, (lg_sl (As.map (bh_tr g))).length = (bh_lay As).length := by
  intro As
  induction As with
  | nil => rfl
  | cons a l ih =>
    cases a <;> simp [lg_sl, bh_lay, bh_tr, Value.category] at ih ⊢ <;> omega
theorem bh_entry {g : bh_G} {m : Nat} {As : List Value} {ls : Array Slot} (h : lv_has ls (bh_mL m) (lv_args 0 (As.map (bh_tr g)))) : lv_has ls (bh_mL m) (bh_pr g (bh_ent m As)) := by
  refine ⟨h.1, h.2.1, fun q hq => h.2.2 q ?_⟩
  obtain ⟨v, hv, hn, he⟩ := bh_pr_mem.mp hq
  obtain ⟨i, w⟩ := q
  dsimp only at hv he
  subst he
  unfold bh_ent at hv
  by_cases hi : i < (bh_lay As).length
  · rw [List.getElem?_append_left hi] at hv
    have := bh_lay_at g As i v 0 hv hn
    rw [Nat.zero_add] at this
    exact this
  · rw [List.getElem?_append_right (by omega)] at hv
    have := List.mem_of_getElem? hv
    rw [List.mem_replicate] at this
    exact absurd this.2 hn
set_option maxHeartbeats 4000000 in
/-- a contract of the picture is a contract of the machine -/
theorem bh_sound (g : bh_G) (l : Launch) : ∀ (d m : Nat) (As : List Value) (h : bh_H) (Q : bh_Q), m < 261 → m ≠ m_L_law → bh_wc d m As h Q → bh_Mt g l d m As h Q := by
  intro d
  induction d with
  | zero => intro m As h Q _ _ H; exact H.elim
  | succ d ih =>
    intro m As h Q hm hL HH
    obtain ⟨hlen, HH⟩ := HH
    unfold bh_Mt
    refine Met.ofW (cc := bh_B m) (maxL := bh_mL m) (ret := bh_rt m) (bh_plain hm) rfl ?_
    intro p e s mm args below meth c s₁ B hml hv
    obtain ⟨rfl, hsz, hP, hE, hX⟩ := hv
    have hr := B.returns
    have hts : ∀ w ∈ bh_wsm m, w.before _ s = true := atoms_spec (ws := bh_wsm m) B.pre
    have hown : s.vm.findClass (bh_O m) = some mm.cls := findClass_of_methodNamed B.named
    have hlocks := B.notSynchronized
    have hname : meth.name = (bh_Y m).name := (name_of_methodNamed B.named B.method).1
    have hb := B.bytes
    have hx := B.exec
    have hl := lv_entry (As.map (bh_tr g)) (n := bh_mL m) (by rw [bh_sl_len]; exact hlen)
    rw [lg_entry_eq]
    generalize (lg_sl (As.map (bh_tr g)) ++ List.replicate (bh_mL m - (lg_sl (As.map (bh_tr g))).length) Slot.unset).toArray = ls at hl ⊢
    have cx : bh_Cx g m (d + 9) p (headSpec (bh_wsm m) (bh_rm (d + 1) m)).room s mm (As.map (bh_tr g)).toArray meth c :=
      ⟨hx, hb, hml, hown, fun w hw => hts w (List.mem_cons_of_mem _ hw), hm, hE, ⟨Nat.le_refl _, Nat.le_refl _, rfl, rfl⟩, by omega, fun e => hname.trans e⟩
    refine HH (bh_MP g m p l e (headSpec (bh_wsm m) (bh_rm (d + 1) m)).room s mm (As.map (bh_tr g)).toArray below meth c (MQ below (bh_Qc g Q) (As.map (bh_tr g)).toArray s (bh_mc m) (bh_ms m) (bh_rg g))) (bh_sound1 cx ih ?_) s.heap [] ls hP va_S.rf hsz hX (bh_entry hl)
    intro r v pc u h' H locs ls' hrr hu hq hP' hS' hX'
    refine W.widen hu.1 hu.2 ?_
    have hqq : ∀ t : State, t.heap = H → s.WarmedH t.vm → bh_Qc g Q (As.map (bh_tr g)).toArray s (.returned (r.map (bh_tr g))) t := fun t ht hW => ⟨⟨r, h', rfl, hq, by rw [ht]; exact hP', hX'⟩, hS'.F ht⟩
    rcases hrr with ⟨x, rfl, hd, hrt⟩ | ⟨x, rfl, hd, hrt⟩ | ⟨x, rfl, hd, hrt⟩ | ⟨rfl, hd, hrt⟩
    · rcases hrt with hrt | ⟨hrt, hx01⟩
      · exact W.iret (v := x) hx hb (hr.trans hrt) hqq hS'.2.2 hd
      · exact W.zret (v := x) (ty := .boolean) hx hb (hr.trans hrt) (by rcases hx01 with rfl | rfl <;> rfl) hqq hS'.2.2 hd
    · exact W.lret (v := x) hx hb (hr.trans hrt) hqq hS'.2.2 hd
    · exact W.aret (v := .ref (bh_ad g x)) hx hb (hr.trans hrt) (Or.inl ⟨_, rfl⟩) (Or.inr ⟨_, rfl⟩) hqq hS'.2.2 hd
    · exact W.vret hx hb (hr.trans hrt) hqq hS'.2.2 hd
