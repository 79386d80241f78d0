/-! ===== a step of the picture is steps of the machine ===== -/
theorem bh_ad_own {g : bh_G} {h : bh_H} {k : Nat} (hk : k < h.1) (hX : bh_scr g h) : bh_ad g k = bh_gB g + k := by
  have := hX.2.2
  unfold bh_ad
  rw [if_pos (by omega)]
theorem bh_ne_own {g : bh_G} {h : bh_H} {k : Nat} (hk : k < h.1) (hX : bh_scr g h) : 1000 ≠ k ∧ 1001 ≠ k := by
  have := hX.2.2
  omega
section bh_sound
variable {g : bh_G} {m0 d : Nat} {p : Program} {l : Launch} {e : Env} {R : Room} {S0 : State} {m : MethodId} {args : Array Value} {below : List Frame} {meth : Method} {c : Code} {Qf : State → Prop} {pc len a : Nat} {cn : Int} {l9 : List Nat} {lv st : List Value} {u : Nat × Nat} {h : bh_H}
set_option maxHeartbeats 1000000 in
theorem bs_1_0 (cx : bh_Cx g m0 d p R S0 m args meth c) (hok : bh_d1 m0 pc len (.iconst cn) = true) (H1 : (bh_MP g m0 p l e R S0 m args below meth c Qf) (pc + len) lv (.int (Int32.ofInt cn) :: st) u h) : bh_MP g m0 p l e R S0 m args below meth c Qf pc lv st u h := by
  obtain ⟨hx, hb, hml, hown, hts, hm0, hE, hR, hB, hini⟩ := id cx
  simp only [bh_d1, bh_dc, Bool.and_eq_true, decide_eq_true_eq] at hok
  obtain ⟨rfl, hd⟩ := hok
  intro H locs ls hP hS hN hX hl
  exact lv_iconst hx hb hd rfl (H1 H locs ls hP hS hN hX hl)
set_option maxHeartbeats 1000000 in
theorem bs_1_1 (cx : bh_Cx g m0 d p R S0 m args meth c) (hok : (decide (len = 2) && bh_dc m0 pc (.bipush cn) 2 && decide ((Int8.ofInt cn).toInt32 = Int32.ofInt cn)) = true) (H1 : (bh_MP g m0 p l e R S0 m args below meth c Qf) (pc + len) lv (.int (Int32.ofInt cn) :: st) u h) : bh_MP g m0 p l e R S0 m args below meth c Qf pc lv st u h := by
  obtain ⟨hx, hb, hml, hown, hts, hm0, hE, hR, hB, hini⟩ := id cx
  simp only [bh_dc, Bool.and_eq_true, decide_eq_true_eq] at hok
  obtain ⟨⟨rfl, hd⟩, hv⟩ := hok
  intro H locs ls hP hS hN hX hl
  exact lv_bipush hx hb hd hv (H1 H locs ls hP hS hN hX hl)
set_option maxHeartbeats 1000000 in
theorem bs_1_2 (cx : bh_Cx g m0 d p R S0 m args meth c) (hok : (decide (len = 3) && bh_dc m0 pc (.sipush cn) 3 && decide ((Int16.ofInt cn).toInt32 = Int32.ofInt cn)) = true) (H1 : (bh_MP g m0 p l e R S0 m args below meth c Qf) (pc + len) lv (.int (Int32.ofInt cn) :: st) u h) : bh_MP g m0 p l e R S0 m args below meth c Qf pc lv st u h := by
  obtain ⟨hx, hb, hml, hown, hts, hm0, hE, hR, hB, hini⟩ := id cx
  simp only [bh_dc, Bool.and_eq_true, decide_eq_true_eq] at hok
  obtain ⟨⟨rfl, hd⟩, hv⟩ := hok
  intro H locs ls hP hS hN hX hl
  exact lv_sipush hx hb hd hv (H1 H locs ls hP hS hN hX hl)
set_option maxHeartbeats 1000000 in
theorem bs_1_3 (cx : bh_Cx g m0 d p R S0 m args meth c) (hok : (decide (len = 2) && bh_dc m0 pc (.ldc (l9.getD 0 0)) 2 && bh_at (l9.getD 1 0) (.constant (bh_O m0) (l9.getD 0 0) (Int32.ofInt cn))) = true) (H1 : (bh_MP g m0 p l e R S0 m args below meth c Qf) (pc + len) lv (.int (Int32.ofInt cn) :: st) u h) : bh_MP g m0 p l e R S0 m args below meth c Qf pc lv st u h := by
  obtain ⟨hx, hb, hml, hown, hts, hm0, hE, hR, hB, hini⟩ := id cx
  simp only [bh_dc, Bool.and_eq_true, decide_eq_true_eq] at hok
  obtain ⟨⟨rfl, hd⟩, hv⟩ := hok
  intro H locs ls hP hS hN hX hl
  exact W.ldc hx hb hown (hts _ (bh_at_WS hv)) (g := F0 m pc ls (st.map (bh_tr g))) rfl hd (H1 H locs ls hP hS hN hX hl)
set_option maxHeartbeats 1000000 in
theorem bs_1_4 (cx : bh_Cx g m0 d p R S0 m args meth c) (hok : (bh_d3 m0 pc len (.ldc_w (l9.getD 0 0)) && bh_at (l9.getD 1 0) (.constant (bh_O m0) (l9.getD 0 0) (Int32.ofInt cn))) = true) (H1 : (bh_MP g m0 p l e R S0 m args below meth c Qf) (pc + len) lv (.int (Int32.ofInt cn) :: st) u h) : bh_MP g m0 p l e R S0 m args below meth c Qf pc lv st u h := by
  obtain ⟨hx, hb, hml, hown, hts, hm0, hE, hR, hB, hini⟩ := id cx
  simp only [bh_d3, bh_dc, Bool.and_eq_true, decide_eq_true_eq] at hok
  obtain ⟨⟨rfl, hd⟩, hv⟩ := hok
  intro H locs ls hP hS hN hX hl
  exact lv_ldcw hx hb hown (hts _ (bh_at_WS hv)) hd (H1 H locs ls hP hS hN hX hl)
set_option maxHeartbeats 1000000 in
theorem bs_2_0 (cx : bh_Cx g m0 d p R S0 m args meth c) (hok : bh_d1 m0 pc len (.lconst 0) = true) (H1 : (bh_MP g m0 p l e R S0 m args below meth c Qf) (pc + len) lv (.long (Int64.ofInt 0) :: st) u h) : bh_MP g m0 p l e R S0 m args below meth c Qf pc lv st u h := by
  obtain ⟨hx, hb, hml, hown, hts, hm0, hE, hR, hB, hini⟩ := id cx
  simp only [bh_d1, bh_dc, Bool.and_eq_true, decide_eq_true_eq] at hok
  obtain ⟨rfl, hd⟩ := hok
  intro H locs ls hP hS hN hX hl
  exact lv_lconst hx hb hd rfl (H1 H locs ls hP hS hN hX hl)
set_option maxHeartbeats 1000000 in
theorem bs_2_1 (cx : bh_Cx g m0 d p R S0 m args meth c) (hok : bh_d1 m0 pc len (.lconst 1) = true) (H1 : (bh_MP g m0 p l e R S0 m args below meth c Qf) (pc + len) lv (.long (Int64.ofInt 1) :: st) u h) : bh_MP g m0 p l e R S0 m args below meth c Qf pc lv st u h := by
  obtain ⟨hx, hb, hml, hown, hts, hm0, hE, hR, hB, hini⟩ := id cx
  simp only [bh_d1, bh_dc, Bool.and_eq_true, decide_eq_true_eq] at hok
  obtain ⟨rfl, hd⟩ := hok
  intro H locs ls hP hS hN hX hl
  exact lv_lconst hx hb hd rfl (H1 H locs ls hP hS hN hX hl)
set_option maxHeartbeats 1000000 in
theorem bs_2_2 (cx : bh_Cx g m0 d p R S0 m args meth c) (hok : (bh_d3 m0 pc len (.ldc2_w (l9.getD 0 0)) && bh_at (l9.getD 1 0) (.constantLong (bh_O m0) (l9.getD 0 0) (Int64.ofInt cn))) = true) (H1 : (bh_MP g m0 p l e R S0 m args below meth c Qf) (pc + len) lv (.long (Int64.ofInt cn) :: st) u h) : bh_MP g m0 p l e R S0 m args below meth c Qf pc lv st u h := by
  obtain ⟨hx, hb, hml, hown, hts, hm0, hE, hR, hB, hini⟩ := id cx
  simp only [bh_d3, bh_dc, Bool.and_eq_true, decide_eq_true_eq] at hok
  obtain ⟨⟨rfl, hd⟩, hv⟩ := hok
  intro H locs ls hP hS hN hX hl
  exact W.ldc2 hx hb hown (hts _ (bh_at_WS hv)) (g := F0 m pc ls (st.map (bh_tr g))) rfl hd (H1 H locs ls hP hS hN hX hl)
set_option maxHeartbeats 1000000 in
theorem bs_3 (cx : bh_Cx g m0 d p R S0 m args meth c) (hok : bh_d4 m0 pc len a cn .iload_n .iload = true) (H1 : ∃ x, lv[a]? = some (.int x) ∧ (bh_MP g m0 p l e R S0 m args below meth c Qf) (pc + len) lv (.int x :: st) u h) : bh_MP g m0 p l e R S0 m args below meth c Qf pc lv st u h := by
  obtain ⟨hx, hb, hml, hown, hts, hm0, hE, hR, hB, hini⟩ := id cx
  obtain ⟨x, hxv, H1⟩ := H1
  unfold bh_d4 at hok
  intro H locs ls hP hS hN hX hl
  have hat := bh_pr_at hl hxv (by intro h; cases h)
  split at hok
  · split at hok
    next ha =>
      simp only [bh_dc, Bool.and_eq_true, decide_eq_true_eq] at hok
      obtain ⟨rfl, hd⟩ := hok
      exact lv_iload_n hx hb hd rfl hat (H1 H locs ls hP hS hN hX hl)
    next => cases hok
  · simp only [bh_dc, Bool.and_eq_true, decide_eq_true_eq] at hok
    obtain ⟨rfl, hd⟩ := hok
    exact lv_iload hx hb hd hat (H1 H locs ls hP hS hN hX hl)
set_option maxHeartbeats 1000000 in
theorem bs_4 (cx : bh_Cx g m0 d p R S0 m args meth c) (hok : bh_d4 m0 pc len a cn .lload_n .lload = true) (H1 : ∃ x, lv[a]? = some (.long x) ∧ (bh_MP g m0 p l e R S0 m args below meth c Qf) (pc + len) lv (.long x :: st) u h) : bh_MP g m0 p l e R S0 m args below meth c Qf pc lv st u h := by
  obtain ⟨hx, hb, hml, hown, hts, hm0, hE, hR, hB, hini⟩ := id cx
  obtain ⟨x, hxv, H1⟩ := H1
  unfold bh_d4 at hok
  intro H locs ls hP hS hN hX hl
  have hat := bh_pr_at hl hxv (by intro h; cases h)
  split at hok
  · split at hok
    next ha =>
      simp only [bh_dc, Bool.and_eq_true, decide_eq_true_eq] at hok
      obtain ⟨rfl, hd⟩ := hok
      exact lv_lload_n hx hb hd rfl hat (H1 H locs ls hP hS hN hX hl)
    next => cases hok
  · simp only [bh_dc, Bool.and_eq_true, decide_eq_true_eq] at hok
    obtain ⟨rfl, hd⟩ := hok
    exact lv_lload hx hb hd hat (H1 H locs ls hP hS hN hX hl)
set_option maxHeartbeats 1000000 in
theorem bs_5 (cx : bh_Cx g m0 d p R S0 m args meth c) (hok : bh_d4 m0 pc len a cn .aload_n .aload = true) (H1 : ∃ x, lv[a]? = some (.ref x) ∧ (bh_MP g m0 p l e R S0 m args below meth c Qf) (pc + len) lv (.ref x :: st) u h) : bh_MP g m0 p l e R S0 m args below meth c Qf pc lv st u h := by
  obtain ⟨hx, hb, hml, hown, hts, hm0, hE, hR, hB, hini⟩ := id cx
  obtain ⟨x, hxv, H1⟩ := H1
  unfold bh_d4 at hok
  intro H locs ls hP hS hN hX hl
  have hat := bh_pr_at hl hxv (by intro h; cases h)
  split at hok
  · split at hok
    next ha =>
      simp only [bh_dc, Bool.and_eq_true, decide_eq_true_eq] at hok
      obtain ⟨rfl, hd⟩ := hok
      exact lv_aload_n hx hb hd rfl hat (H1 H locs ls hP hS hN hX hl)
    next => cases hok
  · simp only [bh_dc, Bool.and_eq_true, decide_eq_true_eq] at hok
    obtain ⟨rfl, hd⟩ := hok
    exact lv_aload hx hb hd hat (H1 H locs ls hP hS hN hX hl)
set_option maxHeartbeats 1000000 in
theorem bs_6 (cx : bh_Cx g m0 d p R S0 m args meth c) (hok : bh_d4 m0 pc len a cn .istore_n .istore = true) (H1 : ∃ x s, st = .int x :: s ∧ a < bh_mL m0 ∧ (bh_MP g m0 p l e R S0 m args below meth c Qf) (pc + len) (bh_sto lv a (.int x)) s u h) : bh_MP g m0 p l e R S0 m args below meth c Qf pc lv st u h := by
  obtain ⟨hx, hb, hml, hown, hts, hm0, hE, hR, hB, hini⟩ := id cx
  obtain ⟨x, sk, rfl, hlt, H1⟩ := H1
  unfold bh_d4 at hok
  intro H locs ls hP hS hN hX hl
  split at hok
  · split at hok
    next ha =>
      simp only [bh_dc, Bool.and_eq_true, decide_eq_true_eq] at hok
      obtain ⟨rfl, hd⟩ := hok
      exact lv_istore_n hx hb hd rfl hl hlt rfl (fun ls' hl' => H1 H locs ls' hP hS hN hX (bh_sto_has rfl hl'))
    next => cases hok
  · simp only [bh_dc, Bool.and_eq_true, decide_eq_true_eq] at hok
    obtain ⟨rfl, hd⟩ := hok
    exact lv_istore hx hb hd hl hlt rfl (fun ls' hl' => H1 H locs ls' hP hS hN hX (bh_sto_has rfl hl'))
set_option maxHeartbeats 1000000 in
theorem bs_7 (cx : bh_Cx g m0 d p R S0 m args meth c) (hok : bh_d4 m0 pc len a cn .lstore_n .lstore = true) (H1 : ∃ x s, st = .long x :: s ∧ a + 1 < bh_mL m0 ∧ (bh_MP g m0 p l e R S0 m args below meth c Qf) (pc + len) (bh_stoL lv a (.long x)) s u h) : bh_MP g m0 p l e R S0 m args below meth c Qf pc lv st u h := by
  obtain ⟨hx, hb, hml, hown, hts, hm0, hE, hR, hB, hini⟩ := id cx
  obtain ⟨x, sk, rfl, hlt, H1⟩ := H1
  unfold bh_d4 at hok
  intro H locs ls hP hS hN hX hl
  split at hok
  · split at hok
    next ha =>
      simp only [bh_dc, Bool.and_eq_true, decide_eq_true_eq] at hok
      obtain ⟨rfl, hd⟩ := hok
      exact lv_lstore_n hx hb hd rfl hl hlt rfl (fun ls' hl' => H1 H locs ls' hP hS hN hX (bh_stoL_has hl'))
    next => cases hok
  · simp only [bh_dc, Bool.and_eq_true, decide_eq_true_eq] at hok
    obtain ⟨rfl, hd⟩ := hok
    exact lv_lstore hx hb hd hl hlt rfl (fun ls' hl' => H1 H locs ls' hP hS hN hX (bh_stoL_has hl'))
set_option maxHeartbeats 1000000 in
theorem bs_8 (cx : bh_Cx g m0 d p R S0 m args meth c) (hok : bh_d4 m0 pc len a cn .astore_n .astore = true) (H1 : ∃ x s, st = .ref x :: s ∧ a < bh_mL m0 ∧ (bh_MP g m0 p l e R S0 m args below meth c Qf) (pc + len) (bh_sto lv a (.ref x)) s u h) : bh_MP g m0 p l e R S0 m args below meth c Qf pc lv st u h := by
  obtain ⟨hx, hb, hml, hown, hts, hm0, hE, hR, hB, hini⟩ := id cx
  obtain ⟨x, sk, rfl, hlt, H1⟩ := H1
  unfold bh_d4 at hok
  intro H locs ls hP hS hN hX hl
  split at hok
  · split at hok
    next ha =>
      simp only [bh_dc, Bool.and_eq_true, decide_eq_true_eq] at hok
      obtain ⟨rfl, hd⟩ := hok
      exact lv_astore_n hx hb hd rfl hl hlt rfl (fun ls' hl' => H1 H locs ls' hP hS hN hX (bh_sto_has rfl hl'))
    next => cases hok
  · simp only [bh_dc, Bool.and_eq_true, decide_eq_true_eq] at hok
    obtain ⟨rfl, hd⟩ := hok
    exact lv_astore hx hb hd hl hlt rfl (fun ls' hl' => H1 H locs ls' hP hS hN hX (bh_sto_has rfl hl'))
set_option maxHeartbeats 1000000 in
theorem bs_9 (cx : bh_Cx g m0 d p R S0 m args meth c) (hok : bh_d3 m0 pc len (.iinc a cn) = true) (H1 : ∃ x, lv[a]? = some (.int x) ∧ a < bh_mL m0 ∧ (bh_MP g m0 p l e R S0 m args below meth c Qf) (pc + len) (bh_sto lv a (.int (x + Int32.ofInt cn))) st u h) : bh_MP g m0 p l e R S0 m args below meth c Qf pc lv st u h := by
  obtain ⟨hx, hb, hml, hown, hts, hm0, hE, hR, hB, hini⟩ := id cx
  simp only [bh_d3, bh_dc, Bool.and_eq_true, decide_eq_true_eq] at hok
  obtain ⟨rfl, hd⟩ := hok
  obtain ⟨x, hxv, hlt, H1⟩ := H1
  intro H locs ls hP hS hN hX hl
  obtain ⟨k, hk⟩ := List.getElem?_of_mem (bh_pr_mem.mpr ⟨.int x, hxv, by (intro h; cases h), rfl⟩ : (a, Value.int x) ∈ bh_pr g lv)
  exact lv_iinc hx hb hd hl hk rfl hlt rfl (fun ls' hl' => H1 H locs ls' hP hS hN hX (bh_sto_has rfl hl'))
set_option maxHeartbeats 1000000 in
theorem bs_10 (cx : bh_Cx g m0 d p R S0 m args meth c) (hok : bh_d1 m0 pc len (bh_ibI a) = true) (H1 : ∃ x y s, st = .int y :: .int x :: s ∧ (bh_MP g m0 p l e R S0 m args below meth c Qf) (pc + len) lv (.int (bh_ib a x y) :: s) u h) : bh_MP g m0 p l e R S0 m args below meth c Qf pc lv st u h := by
  obtain ⟨hx, hb, hml, hown, hts, hm0, hE, hR, hB, hini⟩ := id cx
  simp only [bh_d1, bh_dc, Bool.and_eq_true, decide_eq_true_eq] at hok
  obtain ⟨rfl, hd⟩ := hok
  obtain ⟨x, y, sk, rfl, H1⟩ := H1
  intro H locs ls hP hS hN hX hl
  have H2 := H1 H locs ls hP hS hN hX hl
  match a, hd, H2 with
  | 0, hd, H2 => exact lv_iadd hx hb hd H2
  | 1, hd, H2 => exact lv_isub hx hb hd H2
  | 2, hd, H2 => exact lv_imul hx hb hd H2
  | 3, hd, H2 => exact lv_iand hx hb hd H2
  | 4, hd, H2 => exact lv_ior hx hb hd H2
  | 5, hd, H2 => exact lv_ixor hx hb hd H2
  | 6, hd, H2 => exact lv_ishl hx hb hd H2
  | 7, hd, H2 => exact lv_ishr hx hb hd H2
  | n + 8, hd, H2 => exact lv_iushr hx hb hd rfl H2
set_option maxHeartbeats 1000000 in
theorem bs_11 (cx : bh_Cx g m0 d p R S0 m args meth c) (hok : bh_d1 m0 pc len .idiv = true) (H1 : ∃ x y s, st = .int y :: .int x :: s ∧ ¬ y = 0 ∧ (bh_MP g m0 p l e R S0 m args below meth c Qf) (pc + len) lv (.int (x / y) :: s) u h) : bh_MP g m0 p l e R S0 m args below meth c Qf pc lv st u h := by
  obtain ⟨hx, hb, hml, hown, hts, hm0, hE, hR, hB, hini⟩ := id cx
  simp only [bh_d1, bh_dc, Bool.and_eq_true, decide_eq_true_eq] at hok
  obtain ⟨rfl, hd⟩ := hok
  obtain ⟨x, y, sk, rfl, hy, H1⟩ := H1
  intro H locs ls hP hS hN hX hl
  exact lv_idiv hx hb hd hy (H1 H locs ls hP hS hN hX hl)
set_option maxHeartbeats 1000000 in
theorem bs_12 (cx : bh_Cx g m0 d p R S0 m args meth c) (hok : bh_d1 m0 pc len .irem = true) (H1 : ∃ x y s, st = .int y :: .int x :: s ∧ ¬ y = 0 ∧ (bh_MP g m0 p l e R S0 m args below meth c Qf) (pc + len) lv (.int (x - x / y * y) :: s) u h) : bh_MP g m0 p l e R S0 m args below meth c Qf pc lv st u h := by
  obtain ⟨hx, hb, hml, hown, hts, hm0, hE, hR, hB, hini⟩ := id cx
  simp only [bh_d1, bh_dc, Bool.and_eq_true, decide_eq_true_eq] at hok
  obtain ⟨rfl, hd⟩ := hok
  obtain ⟨x, y, sk, rfl, hy, H1⟩ := H1
  intro H locs ls hP hS hN hX hl
  exact lv_irem hx hb hd hy (H1 H locs ls hP hS hN hX hl)
set_option maxHeartbeats 1000000 in
theorem bs_13 (cx : bh_Cx g m0 d p R S0 m args meth c) (hok : bh_d1 m0 pc len (bh_lbI a) = true) (H1 : ∃ x y s, st = .long y :: .long x :: s ∧ (bh_MP g m0 p l e R S0 m args below meth c Qf) (pc + len) lv (.long (bh_lb a x y) :: s) u h) : bh_MP g m0 p l e R S0 m args below meth c Qf pc lv st u h := by
  obtain ⟨hx, hb, hml, hown, hts, hm0, hE, hR, hB, hini⟩ := id cx
  simp only [bh_d1, bh_dc, Bool.and_eq_true, decide_eq_true_eq] at hok
  obtain ⟨rfl, hd⟩ := hok
  obtain ⟨x, y, sk, rfl, H1⟩ := H1
  intro H locs ls hP hS hN hX hl
  have H2 := H1 H locs ls hP hS hN hX hl
  match a, hd, H2 with
  | 0, hd, H2 => exact lv_ladd hx hb hd H2
  | 1, hd, H2 => exact lv_lmul hx hb hd H2
  | n + 2, hd, H2 => exact lv_lor hx hb hd H2
set_option maxHeartbeats 1000000 in
theorem bs_14 (cx : bh_Cx g m0 d p R S0 m args meth c) (hok : bh_d1 m0 pc len .lshl = true) (H1 : ∃ (x : Int64) (y : Int32) (s : List Value), st = .int y :: .long x :: s ∧ (bh_MP g m0 p l e R S0 m args below meth c Qf) (pc + len) lv (.long (x <<< (y.toInt64 &&& 63)) :: s) u h) : bh_MP g m0 p l e R S0 m args below meth c Qf pc lv st u h := by
  obtain ⟨hx, hb, hml, hown, hts, hm0, hE, hR, hB, hini⟩ := id cx
  simp only [bh_d1, bh_dc, Bool.and_eq_true, decide_eq_true_eq] at hok
  obtain ⟨rfl, hd⟩ := hok
  obtain ⟨x, y, sk, rfl, H1⟩ := H1
  intro H locs ls hP hS hN hX hl
  exact lv_lshl hx hb hd rfl (H1 H locs ls hP hS hN hX hl)
set_option maxHeartbeats 1000000 in
theorem bs_15 (cx : bh_Cx g m0 d p R S0 m args meth c) (hok : bh_d1 m0 pc len .i2l = true) (H1 : ∃ (x : Int32) (s : List Value), st = .int x :: s ∧ (bh_MP g m0 p l e R S0 m args below meth c Qf) (pc + len) lv (.long x.toInt64 :: s) u h) : bh_MP g m0 p l e R S0 m args below meth c Qf pc lv st u h := by
  obtain ⟨hx, hb, hml, hown, hts, hm0, hE, hR, hB, hini⟩ := id cx
  simp only [bh_d1, bh_dc, Bool.and_eq_true, decide_eq_true_eq] at hok
  obtain ⟨rfl, hd⟩ := hok
  obtain ⟨x, sk, rfl, H1⟩ := H1
  intro H locs ls hP hS hN hX hl
  exact lv_i2l hx hb hd rfl (H1 H locs ls hP hS hN hX hl)
set_option maxHeartbeats 1000000 in
theorem bs_16 (cx : bh_Cx g m0 d p R S0 m args meth c) (hok : bh_d1 m0 pc len .i2b = true) (H1 : ∃ (x : Int32) (s : List Value), st = .int x :: s ∧ (bh_MP g m0 p l e R S0 m args below meth c Qf) (pc + len) lv (.int x.toInt8.toInt32 :: s) u h) : bh_MP g m0 p l e R S0 m args below meth c Qf pc lv st u h := by
  obtain ⟨hx, hb, hml, hown, hts, hm0, hE, hR, hB, hini⟩ := id cx
  simp only [bh_d1, bh_dc, Bool.and_eq_true, decide_eq_true_eq] at hok
  obtain ⟨rfl, hd⟩ := hok
  obtain ⟨x, sk, rfl, H1⟩ := H1
  intro H locs ls hP hS hN hX hl
  exact lv_i2b hx hb hd rfl (H1 H locs ls hP hS hN hX hl)
set_option maxHeartbeats 1000000 in
theorem bs_17 (cx : bh_Cx g m0 d p R S0 m args meth c) (hok : bh_d1 m0 pc len .lcmp = true) (H1 : ∃ x y s, st = .long y :: .long x :: s ∧ (bh_MP g m0 p l e R S0 m args below meth c Qf) (pc + len) lv (.int (lg_cmp x y) :: s) u h) : bh_MP g m0 p l e R S0 m args below meth c Qf pc lv st u h := by
  obtain ⟨hx, hb, hml, hown, hts, hm0, hE, hR, hB, hini⟩ := id cx
  simp only [bh_d1, bh_dc, Bool.and_eq_true, decide_eq_true_eq] at hok
  obtain ⟨rfl, hd⟩ := hok
  obtain ⟨x, y, sk, rfl, H1⟩ := H1
  intro H locs ls hP hS hN hX hl
  exact W.lcmp hx hb hd (H1 H locs ls hP hS hN hX hl)
set_option maxHeartbeats 1000000 in
theorem bs_18 (cx : bh_Cx g m0 d p R S0 m args meth c) (hok : bh_d1 m0 pc len .dup = true) (H1 : ∃ v s, st = v :: s ∧ v.category = 1 ∧ (bh_MP g m0 p l e R S0 m args below meth c Qf) (pc + len) lv (v :: v :: s) u h) : bh_MP g m0 p l e R S0 m args below meth c Qf pc lv st u h := by
  obtain ⟨hx, hb, hml, hown, hts, hm0, hE, hR, hB, hini⟩ := id cx
  simp only [bh_d1, bh_dc, Bool.and_eq_true, decide_eq_true_eq] at hok
  obtain ⟨rfl, hd⟩ := hok
  obtain ⟨v, sk, rfl, hc, H1⟩ := H1
  intro H locs ls hP hS hN hX hl
  exact lv_dup hx hb hd ((bh_tr_cat g v).trans hc) (H1 H locs ls hP hS hN hX hl)
set_option maxHeartbeats 1000000 in
theorem bs_19 (cx : bh_Cx g m0 d p R S0 m args meth c) (hok : bh_d1 m0 pc len .pop = true) (H1 : ∃ v s, st = v :: s ∧ v.category = 1 ∧ (bh_MP g m0 p l e R S0 m args below meth c Qf) (pc + len) lv s u h) : bh_MP g m0 p l e R S0 m args below meth c Qf pc lv st u h := by
  obtain ⟨hx, hb, hml, hown, hts, hm0, hE, hR, hB, hini⟩ := id cx
  simp only [bh_d1, bh_dc, Bool.and_eq_true, decide_eq_true_eq] at hok
  obtain ⟨rfl, hd⟩ := hok
  obtain ⟨v, sk, rfl, hc, H1⟩ := H1
  intro H locs ls hP hS hN hX hl
  exact lv_pop hx hb hd ((bh_tr_cat g v).trans hc) (H1 H locs ls hP hS hN hX hl)
set_option maxHeartbeats 1000000 in
theorem bs_20 (cx : bh_Cx g m0 d p R S0 m args meth c) (hok : bh_d1 m0 pc len .dup2 = true) (H1 : ∃ v w s, st = v :: w :: s ∧ v.category = 1 ∧ w.category = 1 ∧ (bh_MP g m0 p l e R S0 m args below meth c Qf) (pc + len) lv (v :: w :: v :: w :: s) u h) : bh_MP g m0 p l e R S0 m args below meth c Qf pc lv st u h := by
  obtain ⟨hx, hb, hml, hown, hts, hm0, hE, hR, hB, hini⟩ := id cx
  simp only [bh_d1, bh_dc, Bool.and_eq_true, decide_eq_true_eq] at hok
  obtain ⟨rfl, hd⟩ := hok
  obtain ⟨v, w, sk, rfl, hc, hc2, H1⟩ := H1
  intro H locs ls hP hS hN hX hl
  exact lv_dup2_11 hx hb hd ((bh_tr_cat g v).trans hc) ((bh_tr_cat g w).trans hc2) (H1 H locs ls hP hS hN hX hl)
set_option maxHeartbeats 1000000 in
theorem bs_21 (cx : bh_Cx g m0 d p R S0 m args meth c) (hok : bh_d3 m0 pc len (.ifCond (bh_cc cn) ((a : Int) - pc)) = true) (H1 : ∃ x s, st = .int x :: s ∧ (bh_cmp cn x 0 → (bh_MP g m0 p l e R S0 m args below meth c Qf) a lv s u h) ∧ (¬ bh_cmp cn x 0 → (bh_MP g m0 p l e R S0 m args below meth c Qf) (pc + len) lv s u h)) : bh_MP g m0 p l e R S0 m args below meth c Qf pc lv st u h := by
  obtain ⟨hx, hb, hml, hown, hts, hm0, hE, hR, hB, hini⟩ := id cx
  simp only [bh_d3, bh_dc, Bool.and_eq_true, decide_eq_true_eq] at hok
  obtain ⟨rfl, hd⟩ := hok
  obtain ⟨x, sk, rfl, H1, H2⟩ := H1
  intro H locs ls hP hS hN hX hl
  have kt := fun z => H1 z H locs ls hP hS hN hX hl
  have kf := fun z => H2 z H locs ls hP hS hN hX hl
  have ht : (pc : Int) + ((a : Int) - pc) = (a : Int) := by omega
  by_cases h0 : cn = 0
  · subst h0
    exact lv_if_eq hx hb hd ht kt kf
  by_cases h1 : cn = 1
  · subst h1
    exact lv_if_ne hx hb hd ht kt (fun z => kf (fun q => q z))
  by_cases h2 : cn = 2
  · subst h2
    exact lv_if_lt hx hb hd ht kt kf
  by_cases h3 : cn = 3
  · subst h3
    exact lv_if_ge hx hb hd ht kt kf
  by_cases h4 : cn = 4
  · subst h4
    exact lv_if_gt hx hb hd ht kt kf
  have e1 : bh_cc cn = .le := by unfold bh_cc; split <;> first | contradiction | rfl
  have e2 : ∀ v w : Int32, bh_cmp cn v w = (v ≤ w) := fun v w => by unfold bh_cmp; split <;> first | contradiction | rfl
  rw [e1] at hd
  rw [e2] at kt kf
  exact lv_if_le hx hb hd ht kt kf
set_option maxHeartbeats 1000000 in
theorem bs_22 (cx : bh_Cx g m0 d p R S0 m args meth c) (hok : bh_d3 m0 pc len (.if_icmp (bh_cc cn) ((a : Int) - pc)) = true) (H1 : ∃ x y s, st = .int y :: .int x :: s ∧ (bh_cmp cn x y → (bh_MP g m0 p l e R S0 m args below meth c Qf) a lv s u h) ∧ (¬ bh_cmp cn x y → (bh_MP g m0 p l e R S0 m args below meth c Qf) (pc + len) lv s u h)) : bh_MP g m0 p l e R S0 m args below meth c Qf pc lv st u h := by
  obtain ⟨hx, hb, hml, hown, hts, hm0, hE, hR, hB, hini⟩ := id cx
  simp only [bh_d3, bh_dc, Bool.and_eq_true, decide_eq_true_eq] at hok
  obtain ⟨rfl, hd⟩ := hok
  obtain ⟨x, y, sk, rfl, H1, H2⟩ := H1
  intro H locs ls hP hS hN hX hl
  have kt := fun z => H1 z H locs ls hP hS hN hX hl
  have kf := fun z => H2 z H locs ls hP hS hN hX hl
  have ht : (pc : Int) + ((a : Int) - pc) = (a : Int) := by omega
  by_cases h0 : cn = 0
  · subst h0
    exact lv_icmp_eq hx hb hd ht kt kf
  by_cases h1 : cn = 1
  · subst h1
    exact lv_icmp_ne hx hb hd ht kt (fun z => kf (fun q => q z))
  by_cases h2 : cn = 2
  · subst h2
    exact lv_icmp_lt hx hb hd ht kt kf
  by_cases h3 : cn = 3
  · subst h3
    exact lv_icmp_ge hx hb hd ht kt kf
  by_cases h4 : cn = 4
  · subst h4
    exact lv_icmp_gt hx hb hd ht kt kf
  have e1 : bh_cc cn = .le := by unfold bh_cc; split <;> first | contradiction | rfl
  have e2 : ∀ v w : Int32, bh_cmp cn v w = (v ≤ w) := fun v w => by unfold bh_cmp; split <;> first | contradiction | rfl
  rw [e1] at hd
  rw [e2] at kt kf
  exact lv_icmp_le hx hb hd ht kt kf
set_option maxHeartbeats 1000000 in
theorem bs_23 (cx : bh_Cx g m0 d p R S0 m args meth c) (hok : bh_d3 m0 pc len (.goto ((a : Int) - pc)) = true) (H1 : (bh_MP g m0 p l e R S0 m args below meth c Qf) a lv st u h) : bh_MP g m0 p l e R S0 m args below meth c Qf pc lv st u h := by
  obtain ⟨hx, hb, hml, hown, hts, hm0, hE, hR, hB, hini⟩ := id cx
  simp only [bh_d3, bh_dc, Bool.and_eq_true, decide_eq_true_eq] at hok
  obtain ⟨rfl, hd⟩ := hok
  intro H locs ls hP hS hN hX hl
  exact lv_goto hx hb hd (by omega) (H1 H locs ls hP hS hN hX hl)
set_option maxHeartbeats 1000000 in
theorem bs_24 (cx : bh_Cx g m0 d p R S0 m args meth c) (hok : bh_dc m0 pc (.tableswitch ((a : Int) - pc) cn (cn + l9.length - 1) (l9.map (fun t : Nat => (t : Int) - pc)).toArray) len = true) (H1 : ∃ x s, st = .int x :: s ∧ ((¬ x.toInt < cn ∧ ¬ cn + l9.length - 1 < x.toInt) → ∃ t, l9[(x.toInt - cn).toNat]? = some t ∧ (bh_MP g m0 p l e R S0 m args below meth c Qf) t lv s u h) ∧ ((x.toInt < cn ∨ cn + l9.length - 1 < x.toInt) → (bh_MP g m0 p l e R S0 m args below meth c Qf) a lv s u h)) : bh_MP g m0 p l e R S0 m args below meth c Qf pc lv st u h := by
  obtain ⟨hx, hb, hml, hown, hts, hm0, hE, hR, hB, hini⟩ := id cx
  simp only [bh_dc, decide_eq_true_eq] at hok
  obtain ⟨x, sk, rfl, H1, H2⟩ := H1
  intro H locs ls hP hS hN hX hl
  by_cases hq : x.toInt < cn ∨ cn + l9.length - 1 < x.toInt
  · exact lv_tableOut hx hb hok hq (by omega) (H2 hq H locs ls hP hS hN hX hl)
  · have h1 : ¬ x.toInt < cn := fun z => hq (Or.inl z)
    have h2 : ¬ cn + l9.length - 1 < x.toInt := fun z => hq (Or.inr z)
    obtain ⟨t, ht, H3⟩ := H1 ⟨h1, h2⟩
    exact lv_tableIn (off := (t : Int) - pc) hx hb hok h1 h2 (by simp [ht]) (by omega) (H3 H locs ls hP hS hN hX hl)
set_option maxHeartbeats 1000000 in
theorem bs_25 (cx : bh_Cx g m0 d p R S0 m args meth c) (hok : (match bh_FL[a]? with
      | some q => bh_d3 m0 pc len (.getfield q.2.1) && decide (q.1 = bh_O m0)
      | none => false) = true) (H1 : ∃ k s, st = .ref k :: s ∧ k < h.1 ∧ ∃ q, bh_FL[a]? = some q ∧ bh_tg k = q.2.2.1 ∧ q.2.2.2 < bh_ln k ∧ ((bh_fr q.2.2.1 q.2.2.2 = true ∧ ∃ r, h.2.1 k q.2.2.2 = some r ∧ (bh_MP g m0 p l e R S0 m args below meth c Qf) (pc + len) lv (.ref r :: s) u h) ∨ (bh_fr q.2.2.1 q.2.2.2 = false ∧ (bh_MP g m0 p l e R S0 m args below meth c Qf) (pc + len) lv (.int (h.2.2.1 k q.2.2.2) :: s) u h))) : bh_MP g m0 p l e R S0 m args below meth c Qf pc lv st u h := by
  obtain ⟨hx, hb, hml, hown, hts, hm0, hE, hR, hB, hini⟩ := id cx
  obtain ⟨k, sk, rfl, hk, q, hq, htg, hjl, H1⟩ := H1
  rw [hq] at hok
  simp only [bh_d3, bh_dc, Bool.and_eq_true, decide_eq_true_eq] at hok
  obtain ⟨⟨rfl, hd⟩, ho⟩ := hok
  obtain ⟨t, htc, htk, htw⟩ := bh_fok_of hq
  obtain ⟨hu1, hu2, hu3, hu4⟩ := bh_uok_of htc
  intro H locs ls hP hS hN hX hl
  rw [← ho] at hown
  have hci : q.2.2.1 < 20 := Nat.lt_of_lt_of_le (bh_cls_of htc) (by decide)
  have hE0 := bh_E_obj (g := g) (h := h) htg hci
  have he := bh_ws_at g hk
  rw [hE0] at he
  have hX2 := hX.2.2
  show W p l e R S0 m args below meth c H locs u.1 u.2 Qf (F0 m pc ls (.ref (bh_ad g k) :: sk.map (bh_tr g)))
  rw [bh_ad_own hk hX]
  refine va_get (C := t.1) (T := t.2.1) (N := t.2.2) (v := bh_fv g h q.2.2.1 k q.2.2.2) hx hb hts hu1 hown hE.1 hP k he htc q.2.2.2 htk (hts _ htw) (fun _ z => z) (bh_fs_at hjl) hd ?_
  rcases H1 with ⟨hf, r, hr, H1⟩ | ⟨hf, H1⟩
  · have e1 : bh_fv g h q.2.2.1 k q.2.2.2 = .ref (bh_ad g r) := by unfold bh_fv; rw [if_pos hf, hr]; rfl
    rw [e1]
    exact H1 H locs ls hP hS hN hX hl
  · have e1 : bh_fv g h q.2.2.1 k q.2.2.2 = .int (h.2.2.1 k q.2.2.2) := by unfold bh_fv; rw [if_neg (by rw [hf]; decide)]
    rw [e1]
    exact H1 H locs ls hP hS hN hX hl
set_option maxHeartbeats 1000000 in
theorem bs_26 (cx : bh_Cx g m0 d p R S0 m args meth c) (hok : (match bh_FL[a]? with
      | some q => bh_d3 m0 pc len (.putfield q.2.1) && decide (q.1 = bh_O m0) && (match bh_cls[q.2.2.1]? with
        | some t => (t.2.1 q.2.2.2).2.2.2 == bh_fr q.2.2.1 q.2.2.2 && (!(bh_fr q.2.2.1 q.2.2.2) || (decide ((bh_Y m0).name = "<init>") && decide ((t.2.1 q.2.2.2).1 = bh_O m0)))
        | none => false)
      | none => false) = true) (H1 : ∃ q, bh_FL[a]? = some q ∧
        ((bh_fr q.2.2.1 q.2.2.2 = true ∧ ∃ r k s, st = .ref r :: .ref k :: s ∧ k < h.1 ∧ r < h.1 ∧ bh_tg k = q.2.2.1 ∧ q.2.2.2 < bh_ln k ∧ (bh_MP g m0 p l e R S0 m args below meth c Qf) (pc + len) lv s u (h.1, bh_up2 h.2.1 k q.2.2.2 (some r), h.2.2.1, h.2.2.2)) ∨
         (bh_fr q.2.2.1 q.2.2.2 = false ∧ ∃ x k s, st = .int x :: .ref k :: s ∧ k < h.1 ∧ bh_tg k = q.2.2.1 ∧ q.2.2.2 < bh_ln k ∧ (bh_MP g m0 p l e R S0 m args below meth c Qf) (pc + len) lv s u (h.1, h.2.1, bh_up2 h.2.2.1 k q.2.2.2 x, h.2.2.2)))) : bh_MP g m0 p l e R S0 m args below meth c Qf pc lv st u h := by
  obtain ⟨hx, hb, hml, hown, hts, hm0, hE, hR, hB, hini⟩ := id cx
  obtain ⟨q, hq, H1⟩ := H1
  rw [hq] at hok
  obtain ⟨t, htc, htk, htw⟩ := bh_fok_of hq
  obtain ⟨hu1, hu2, hu3, hu4⟩ := bh_uok_of htc
  dsimp only at hok
  rw [htc] at hok
  simp only [bh_d3, bh_dc, Bool.and_eq_true, decide_eq_true_eq] at hok
  obtain ⟨⟨⟨rfl, hd⟩, ho⟩, hfin, hin⟩ := hok
  intro H locs ls hP hS hN hX hl
  have hown2 := hown
  rw [← ho] at hown2
  have hX2 := hX.2.2
  have hci : q.2.2.1 < 20 := Nat.lt_of_lt_of_le (bh_cls_of htc) (by decide)
  rcases H1 with ⟨hf, r, k, sk, rfl, hk, hr, htg, hjl, H1⟩ | ⟨hf, x, k, sk, rfl, hk, htg, hjl, H1⟩
  · have hE0 := bh_E_obj (g := g) (h := h) htg hci
    have he := bh_ws_at g hk
    rw [hE0] at he
    rw [hf] at hfin hin
    simp only [Bool.not_true, Bool.false_or, Bool.and_eq_true, decide_eq_true_eq] at hin
    obtain ⟨hn1, hn2⟩ := (hu3 _ htk).1 hf
    show W p l e R S0 m args below meth c H locs u.1 u.2 Qf (F0 m pc ls (.ref (bh_ad g r) :: .ref (bh_ad g k) :: sk.map (bh_tr g)))
    rw [bh_ad_own hk hX]
    have hnar : narrow (bh_ty q.2.2.1 q.2.2.2) (.ref (bh_ad g r)) = .ref (bh_ad g r) := by cases bh_ty q.2.2.1 q.2.2.2 <;> rfl
    have hfit : fits (bh_ty q.2.2.1 q.2.2.2) (.ref (bh_ad g r)) = true := by
      revert hn2
      cases bh_ty q.2.2.1 q.2.2.2 <;> intro hn2 <;> first | rfl | cases hn2
    refine va_putF (C := t.1) (T := t.2.1) (N := t.2.2) hx hb hts hu1 (bh_ty q.2.2.1) hu2 hu4 hown2 hE.1 hP (bh_ws_D g h) hS k he htc q.2.2.2 htk (hts _ htw) (fun _ z => z) (by simpa using hfin) (hini hin.1) (by rw [hin.2, ho]) (hu2 _ htk) hnar hfit (by simpa using hjl) hd (fun H2 locs2 hP2 hD2 hS2 => ?_)
    have e1 : (bh_ws g h).set k (bh_gB g + k, .inr (q.2.2.1, ((List.range (bh_ln k)).map (bh_fv g h q.2.2.1 k)).set q.2.2.2 (.ref (bh_ad g r)))) = bh_ws g (h.1, bh_up2 h.2.1 k q.2.2.2 (some r), h.2.2.1, h.2.2.2) := by
      refine bh_ws_set (by rfl) hk ?_ (fun j hj => bh_E_congr (bh_up2_ne _ _ _ hj) rfl rfl)
      rw [bh_E_obj htg hci]
      congr 2
      refine (bh_fs_set ?_ (fun i hi => ?_)).symm
      · unfold bh_fv
        rw [if_pos hf]
        dsimp only
        rw [bh_up2_self]
        rfl
      · unfold bh_fv
        dsimp only
        rw [bh_up2_k]
        dsimp only
        rw [if_neg hi]
    rw [e1] at hP2
    exact H1 H2 locs2 ls hP2 hS2 hN hX hl
  · have hE0 := bh_E_obj (g := g) (h := h) htg hci
    have he := bh_ws_at g hk
    rw [hE0] at he
    have hfin2 : (t.2.1 q.2.2.2).2.2.2 = false := by rw [hf] at hfin; simpa using hfin
    have hty := (hu3 _ htk).2 hf
    show W p l e R S0 m args below meth c H locs u.1 u.2 Qf (F0 m pc ls (.int x :: .ref (bh_ad g k) :: sk.map (bh_tr g)))
    rw [bh_ad_own hk hX]
    refine va_put (C := t.1) (T := t.2.1) (N := t.2.2) (ty := .int) hx hb hts hu1 (bh_ty q.2.2.1) hu2 hu4 hown2 hE.1 hP (bh_ws_D g h) hS k he htc q.2.2.2 htk (hts _ htw) (fun _ z => z) hfin2 (by rw [hu2 _ htk, hty]) rfl rfl (by simpa using hjl) hd (fun H2 locs2 hP2 hD2 hS2 => ?_)
    have e1 : (bh_ws g h).set k (bh_gB g + k, .inr (q.2.2.1, ((List.range (bh_ln k)).map (bh_fv g h q.2.2.1 k)).set q.2.2.2 (.int x))) = bh_ws g (h.1, h.2.1, bh_up2 h.2.2.1 k q.2.2.2 x, h.2.2.2) := by
      refine bh_ws_set (by rfl) hk ?_ (fun j hj => bh_E_congr rfl (bh_up2_ne _ _ _ hj) rfl)
      rw [bh_E_obj htg hci]
      congr 2
      refine (bh_fs_set ?_ (fun i hi => ?_)).symm
      · unfold bh_fv
        rw [if_neg (by rw [hf]; decide)]
        dsimp only
        rw [bh_up2_self]
      · unfold bh_fv
        dsimp only
        rw [bh_up2_k]
        dsimp only
        rw [if_neg hi]
    rw [e1] at hP2
    have hk2 := bh_ne_own hk hX
    exact H1 H2 locs2 ls hP2 hS2 hN ⟨(bh_up2_ne _ _ _ hk2.1).trans hX.1, by show bh_up2 h.2.2.1 k q.2.2.2 x 1001 0 = _; rw [bh_up2_ne _ _ _ hk2.2]; exact hX.2.1, hX.2.2⟩ hl
set_option maxHeartbeats 1000000 in
theorem bs_27 (cx : bh_Cx g m0 d p R S0 m args meth c) (hok : bh_d1 m0 pc len .iaload = true) (H1 : ∃ i k s, st = .int i :: .ref k :: s ∧ ((k < h.1 ∧ bh_tg k = 20 ∧ vp_in i (bh_ln k) ∧ (bh_MP g m0 p l e R S0 m args below meth c Qf) (pc + len) lv (.int (h.2.2.1 k i.toNatClampNeg) :: s) u h) ∨ (k = 1000 ∧ vp_in i (h.2.2.1 1001 0).toNatClampNeg ∧ (bh_MP g m0 p l e R S0 m args below meth c Qf) (pc + len) lv (.int (h.2.2.1 1000 i.toNatClampNeg) :: s) u h))) : bh_MP g m0 p l e R S0 m args below meth c Qf pc lv st u h := by
  obtain ⟨hx, hb, hml, hown, hts, hm0, hE, hR, hB, hini⟩ := id cx
  simp only [bh_d1, bh_dc, Bool.and_eq_true, decide_eq_true_eq] at hok
  obtain ⟨rfl, hd⟩ := hok
  obtain ⟨i, k, sk, rfl, H1⟩ := H1
  intro H locs ls hP hS hN hX hl
  have hX2 := hX.2.2
  show W p l e R S0 m args below meth c H locs u.1 u.2 Qf (F0 m pc ls (.int i :: .ref (bh_ad g k) :: sk.map (bh_tr g)))
  rcases H1 with ⟨hk, htg, hin, H1⟩ | ⟨rfl, hin, H1⟩
  · have he := bh_ws_at g hk
    rw [bh_E_int htg (Or.inl rfl)] at he
    rw [bh_ad_own hk hX]
    exact va_iald hx hb hE.1 hP k 0 he rfl hin hd (H1 H locs ls hP hS hN hX hl)
  · have hb2 := hE.2.2.2.2.2.1
    rw [show bh_ad g 1000 = bh_gX g 1000 from rfl]
    have h7 := hE.2.2.2.2.2.2.1
    rw [hX.2.1, nI_clamp (by omega)] at hin
    refine va_sld hx hb hE.2.2.2.2.1 (Nat.lt_of_lt_of_le hb2 hB) (show ¬ bh_gB g ≤ bh_gX g 1000 by omega) hS hin hd ?_
    have H2 := H1 H locs ls hP hS hN hX hl
    rw [hX.1] at H2
    exact H2
set_option maxHeartbeats 1000000 in
theorem bs_28 (cx : bh_Cx g m0 d p R S0 m args meth c) (hok : bh_d1 m0 pc len .iastore = true) (H1 : ∃ x i k s, st = .int x :: .int i :: .ref k :: s ∧ k < h.1 ∧ bh_tg k = 20 ∧ vp_in i (bh_ln k) ∧ (bh_MP g m0 p l e R S0 m args below meth c Qf) (pc + len) lv s u (h.1, h.2.1, bh_up2 h.2.2.1 k i.toNatClampNeg x, h.2.2.2)) : bh_MP g m0 p l e R S0 m args below meth c Qf pc lv st u h := by
  obtain ⟨hx, hb, hml, hown, hts, hm0, hE, hR, hB, hini⟩ := id cx
  simp only [bh_d1, bh_dc, Bool.and_eq_true, decide_eq_true_eq] at hok
  obtain ⟨rfl, hd⟩ := hok
  obtain ⟨x, i, k, sk, rfl, hk, htg, hin, H1⟩ := H1
  intro H locs ls hP hS hN hX hl
  have hX2 := hX.2.2
  show W p l e R S0 m args below meth c H locs u.1 u.2 Qf (F0 m pc ls (.int x :: .int i :: .ref (bh_ad g k) :: sk.map (bh_tr g)))
  have he := bh_ws_at g hk
  rw [bh_E_int htg (Or.inl rfl)] at he
  rw [bh_ad_own hk hX]
  refine va_iast hx hb hE.1 hP (bh_ws_D g h) hS k 0 he rfl hin hd (fun H2 locs2 hP2 hD2 hS2 => ?_)
  rw [bh_ws_set (h' := (h.1, h.2.1, bh_up2 h.2.2.1 k i.toNatClampNeg x, h.2.2.2)) (by rfl) hk (by rw [bh_E_int htg (Or.inl rfl)]; dsimp only; rw [bh_up2_k]; rfl) (fun j hj => bh_E_congr rfl (bh_up2_ne _ _ _ hj) rfl)] at hP2
  have hk2 := bh_ne_own hk hX
  exact H1 H2 locs2 ls hP2 hS2 hN ⟨(bh_up2_ne _ _ _ hk2.1).trans hX.1, by show bh_up2 h.2.2.1 k _ x 1001 0 = _; rw [bh_up2_ne _ _ _ hk2.2]; exact hX.2.1, hX.2.2⟩ hl
set_option maxHeartbeats 1000000 in
theorem bs_29 (cx : bh_Cx g m0 d p R S0 m args meth c) (hok : bh_d1 m0 pc len .baload = true) (H1 : ∃ i k s, st = .int i :: .ref k :: s ∧ k < h.1 ∧ (bh_tg k = 22 ∨ bh_tg k = 23) ∧ vp_in i (bh_ln k) ∧ (bh_MP g m0 p l e R S0 m args below meth c Qf) (pc + len) lv (.int (h.2.2.1 k i.toNatClampNeg) :: s) u h) : bh_MP g m0 p l e R S0 m args below meth c Qf pc lv st u h := by
  obtain ⟨hx, hb, hml, hown, hts, hm0, hE, hR, hB, hini⟩ := id cx
  simp only [bh_d1, bh_dc, Bool.and_eq_true, decide_eq_true_eq] at hok
  obtain ⟨rfl, hd⟩ := hok
  obtain ⟨i, k, sk, rfl, hk, htg, hin, H1⟩ := H1
  intro H locs ls hP hS hN hX hl
  have hX2 := hX.2.2
  show W p l e R S0 m args below meth c H locs u.1 u.2 Qf (F0 m pc ls (.int i :: .ref (bh_ad g k) :: sk.map (bh_tr g)))
  have he := bh_ws_at g hk
  rw [bh_ad_own hk hX]
  rcases htg with htg | htg
  · rw [bh_E_int htg (Or.inr (Or.inl rfl))] at he
    exact va_bald hx hb hE.1 hP k 2 he rfl hin hd (H1 H locs ls hP hS hN hX hl)
  · rw [bh_E_int htg (Or.inr (Or.inr rfl))] at he
    exact va_zald hx hb hE.1 hP k 3 he rfl hin hd (H1 H locs ls hP hS hN hX hl)
set_option maxHeartbeats 1000000 in
theorem bs_30 (cx : bh_Cx g m0 d p R S0 m args meth c) (hok : bh_d1 m0 pc len .bastore = true) (H1 : ∃ x i k s, st = .int x :: .int i :: .ref k :: s ∧ k < h.1 ∧ vp_in i (bh_ln k) ∧ ((bh_tg k = 22 ∧ (bh_MP g m0 p l e R S0 m args below meth c Qf) (pc + len) lv s u (h.1, h.2.1, bh_up2 h.2.2.1 k i.toNatClampNeg (vp_nar .byte x), h.2.2.2)) ∨ (bh_tg k = 23 ∧ (bh_MP g m0 p l e R S0 m args below meth c Qf) (pc + len) lv s u (h.1, h.2.1, bh_up2 h.2.2.1 k i.toNatClampNeg (vp_nar .boolean x), h.2.2.2)))) : bh_MP g m0 p l e R S0 m args below meth c Qf pc lv st u h := by
  obtain ⟨hx, hb, hml, hown, hts, hm0, hE, hR, hB, hini⟩ := id cx
  simp only [bh_d1, bh_dc, Bool.and_eq_true, decide_eq_true_eq] at hok
  obtain ⟨rfl, hd⟩ := hok
  obtain ⟨x, i, k, sk, rfl, hk, hin, H1⟩ := H1
  intro H locs ls hP hS hN hX hl
  have hX2 := hX.2.2
  show W p l e R S0 m args below meth c H locs u.1 u.2 Qf (F0 m pc ls (.int x :: .int i :: .ref (bh_ad g k) :: sk.map (bh_tr g)))
  have he := bh_ws_at g hk
  have hk2 := bh_ne_own hk hX
  rw [bh_ad_own hk hX]
  rcases H1 with ⟨htg, H1⟩ | ⟨htg, H1⟩
  · rw [bh_E_int htg (Or.inr (Or.inl rfl))] at he
    refine va_bast hx hb hE.1 hP (bh_ws_D g h) hS k 2 he rfl hin hd (fun H2 locs2 hP2 hD2 hS2 => ?_)
    rw [bh_ws_set (h' := (h.1, h.2.1, bh_up2 h.2.2.1 k i.toNatClampNeg (vp_nar .byte x), h.2.2.2)) (by rfl) hk (by rw [bh_E_int htg (Or.inr (Or.inl rfl))]; dsimp only; rw [bh_up2_k]; rfl) (fun j hj => bh_E_congr rfl (bh_up2_ne _ _ _ hj) rfl)] at hP2
    exact H1 H2 locs2 ls hP2 hS2 hN ⟨(bh_up2_ne _ _ _ hk2.1).trans hX.1, by show bh_up2 h.2.2.1 k _ _ 1001 0 = _; rw [bh_up2_ne _ _ _ hk2.2]; exact hX.2.1, hX.2.2⟩ hl
  · rw [bh_E_int htg (Or.inr (Or.inr rfl))] at he
    refine va_zast hx hb hE.1 hP (bh_ws_D g h) hS k 3 he rfl hin hd (fun H2 locs2 hP2 hD2 hS2 => ?_)
    rw [bh_ws_set (h' := (h.1, h.2.1, bh_up2 h.2.2.1 k i.toNatClampNeg (vp_nar .boolean x), h.2.2.2)) (by rfl) hk (by rw [bh_E_int htg (Or.inr (Or.inr rfl))]; dsimp only; rw [bh_up2_k]; rfl) (fun j hj => bh_E_congr rfl (bh_up2_ne _ _ _ hj) rfl)] at hP2
    exact H1 H2 locs2 ls hP2 hS2 hN ⟨(bh_up2_ne _ _ _ hk2.1).trans hX.1, by show bh_up2 h.2.2.1 k _ _ 1001 0 = _; rw [bh_up2_ne _ _ _ hk2.2]; exact hX.2.1, hX.2.2⟩ hl
set_option maxHeartbeats 1000000 in
theorem bs_31 (cx : bh_Cx g m0 d p R S0 m args meth c) (hok : bh_d1 m0 pc len .laload = true) (H1 : ∃ i k s, st = .int i :: .ref k :: s ∧ k < h.1 ∧ bh_tg k = 21 ∧ vp_in i (bh_ln k) ∧ (bh_MP g m0 p l e R S0 m args below meth c Qf) (pc + len) lv (.long (h.2.2.2 k i.toNatClampNeg) :: s) u h) : bh_MP g m0 p l e R S0 m args below meth c Qf pc lv st u h := by
  obtain ⟨hx, hb, hml, hown, hts, hm0, hE, hR, hB, hini⟩ := id cx
  simp only [bh_d1, bh_dc, Bool.and_eq_true, decide_eq_true_eq] at hok
  obtain ⟨rfl, hd⟩ := hok
  obtain ⟨i, k, sk, rfl, hk, htg, hin, H1⟩ := H1
  intro H locs ls hP hS hN hX hl
  have hX2 := hX.2.2
  show W p l e R S0 m args below meth c H locs u.1 u.2 Qf (F0 m pc ls (.int i :: .ref (bh_ad g k) :: sk.map (bh_tr g)))
  have he := bh_ws_at g hk
  rw [bh_E_long htg] at he
  rw [bh_ad_own hk hX]
  exact va_lald hx hb hE.1 hP k 1 he rfl hin hd (H1 H locs ls hP hS hN hX hl)
set_option maxHeartbeats 1000000 in
theorem bs_32 (cx : bh_Cx g m0 d p R S0 m args meth c) (hok : bh_d1 m0 pc len .lastore = true) (H1 : ∃ x i k s, st = .long x :: .int i :: .ref k :: s ∧ k < h.1 ∧ bh_tg k = 21 ∧ vp_in i (bh_ln k) ∧ (bh_MP g m0 p l e R S0 m args below meth c Qf) (pc + len) lv s u (h.1, h.2.1, h.2.2.1, bh_up2 h.2.2.2 k i.toNatClampNeg x)) : bh_MP g m0 p l e R S0 m args below meth c Qf pc lv st u h := by
  obtain ⟨hx, hb, hml, hown, hts, hm0, hE, hR, hB, hini⟩ := id cx
  simp only [bh_d1, bh_dc, Bool.and_eq_true, decide_eq_true_eq] at hok
  obtain ⟨rfl, hd⟩ := hok
  obtain ⟨x, i, k, sk, rfl, hk, htg, hin, H1⟩ := H1
  intro H locs ls hP hS hN hX hl
  have hX2 := hX.2.2
  show W p l e R S0 m args below meth c H locs u.1 u.2 Qf (F0 m pc ls (.long x :: .int i :: .ref (bh_ad g k) :: sk.map (bh_tr g)))
  have he := bh_ws_at g hk
  rw [bh_E_long htg] at he
  rw [bh_ad_own hk hX]
  refine va_last hx hb hE.1 hP (bh_ws_D g h) hS k 1 he rfl hin hd (fun H2 locs2 hP2 hD2 hS2 => ?_)
  rw [bh_ws_set (h' := (h.1, h.2.1, h.2.2.1, bh_up2 h.2.2.2 k i.toNatClampNeg x)) (by rfl) hk (by rw [bh_E_long htg]; dsimp only; rw [bh_up2_k]; rfl) (fun j hj => bh_E_congr rfl rfl (bh_up2_ne _ _ _ hj))] at hP2
  exact H1 H2 locs2 ls hP2 hS2 hN hX hl
set_option maxHeartbeats 1000000 in
theorem bs_33 (cx : bh_Cx g m0 d p R S0 m args meth c) (hok : bh_d1 m0 pc len .aaload = true) (H1 : ∃ i k s r, st = .int i :: .ref k :: s ∧ k < h.1 ∧ bh_tg k = 24 ∧ vp_in i (bh_ln k) ∧ h.2.1 k i.toNatClampNeg = some r ∧ (bh_MP g m0 p l e R S0 m args below meth c Qf) (pc + len) lv (.ref r :: s) u h) : bh_MP g m0 p l e R S0 m args below meth c Qf pc lv st u h := by
  obtain ⟨hx, hb, hml, hown, hts, hm0, hE, hR, hB, hini⟩ := id cx
  simp only [bh_d1, bh_dc, Bool.and_eq_true, decide_eq_true_eq] at hok
  obtain ⟨rfl, hd⟩ := hok
  obtain ⟨i, k, sk, r, rfl, hk, htg, hin, hr, H1⟩ := H1
  intro H locs ls hP hS hN hX hl
  have hX2 := hX.2.2
  show W p l e R S0 m args below meth c H locs u.1 u.2 Qf (F0 m pc ls (.int i :: .ref (bh_ad g k) :: sk.map (bh_tr g)))
  have he := bh_ws_at g hk
  rw [bh_E_ref htg] at he
  rw [bh_ad_own hk hX]
  refine va_aldq hx hb hE.1 hP k 4 he rfl hin hd ?_
  rw [hr]
  exact H1 H locs ls hP hS hN hX hl
set_option maxHeartbeats 1000000 in
theorem bs_34 (cx : bh_Cx g m0 d p R S0 m args meth c) (hok : bh_d1 m0 pc len .aastore = true) (H1 : ∃ r i k s, st = .ref r :: .int i :: .ref k :: s ∧ k < h.1 ∧ r < h.1 ∧ bh_tg k = 24 ∧ bh_tg r = 7 ∧ vp_in i (bh_ln k) ∧ (bh_MP g m0 p l e R S0 m args below meth c Qf) (pc + len) lv s u (h.1, bh_up2 h.2.1 k i.toNatClampNeg (some r), h.2.2.1, h.2.2.2)) : bh_MP g m0 p l e R S0 m args below meth c Qf pc lv st u h := by
  obtain ⟨hx, hb, hml, hown, hts, hm0, hE, hR, hB, hini⟩ := id cx
  simp only [bh_d1, bh_dc, Bool.and_eq_true, decide_eq_true_eq] at hok
  obtain ⟨rfl, hd⟩ := hok
  obtain ⟨r, i, k, sk, rfl, hk, hr, htg, htr, hin, H1⟩ := H1
  intro H locs ls hP hS hN hX hl
  have hX2 := hX.2.2
  show W p l e R S0 m args below meth c H locs u.1 u.2 Qf (F0 m pc ls (.ref (bh_ad g r) :: .int i :: .ref (bh_ad g k) :: sk.map (bh_tr g)))
  have he := bh_ws_at g hk
  rw [bh_E_ref htg] at he
  have he2 := bh_ws_at g hr
  rw [bh_E_obj htr (by decide)] at he2
  have ear : bh_ad g r = bh_gB g + r := bh_ad_own hr hX
  rw [bh_ad_own hk hX]
  rw [ear]
  refine va_astq (r := (RX7, TX7, 18)) hx hb hE.1 hP (bh_ws_D g h) hS k 4 r 7 he rfl he2 rfl hin hd (fun H2 locs2 hP2 hD2 hS2 => ?_)
  rw [bh_ws_set (h' := (h.1, bh_up2 h.2.1 k i.toNatClampNeg (some r), h.2.2.1, h.2.2.2)) (by rfl) hk (by
    rw [bh_E_ref htg]
    dsimp only
    rw [bh_up2_k]
    congr 7
    funext j
    unfold va_up
    by_cases hj : j = i.toNatClampNeg
    · rw [if_pos hj]; dsimp only; rw [if_pos hj, ← ear]; rfl
    · rw [if_neg hj]; dsimp only; rw [if_neg hj]) (fun j hj => bh_E_congr (bh_up2_ne _ _ _ hj) rfl rfl)] at hP2
  exact H1 H2 locs2 ls hP2 hS2 hN hX hl
set_option maxHeartbeats 1000000 in
theorem bs_35 (cx : bh_Cx g m0 d p R S0 m args meth c) (hok : bh_d1 m0 pc len .arraylength = true) (H1 : ∃ k s, st = .ref k :: s ∧ ((k < h.1 ∧ 20 ≤ bh_tg k ∧ bh_tg k ≤ 24 ∧ (bh_MP g m0 p l e R S0 m args below meth c Qf) (pc + len) lv (.int (nI (bh_ln k)) :: s) u h) ∨ (k = 1000 ∧ (bh_MP g m0 p l e R S0 m args below meth c Qf) (pc + len) lv (.int (h.2.2.1 1001 0) :: s) u h))) : bh_MP g m0 p l e R S0 m args below meth c Qf pc lv st u h := by
  obtain ⟨hx, hb, hml, hown, hts, hm0, hE, hR, hB, hini⟩ := id cx
  simp only [bh_d1, bh_dc, Bool.and_eq_true, decide_eq_true_eq] at hok
  obtain ⟨rfl, hd⟩ := hok
  obtain ⟨k, sk, rfl, H1⟩ := H1
  intro H locs ls hP hS hN hX hl
  have hX2 := hX.2.2
  show W p l e R S0 m args below meth c H locs u.1 u.2 Qf (F0 m pc ls (.ref (bh_ad g k) :: sk.map (bh_tr g)))
  rcases H1 with ⟨hk, ht1, ht2, H1⟩ | ⟨rfl, H1⟩
  · have he := bh_ws_at g hk
    have e1 : bh_E g h k = .inl (bh_gA g (bh_tg k), bh_ar g h k) := by unfold bh_E; rw [if_neg (by omega)]
    rw [e1] at he
    rw [bh_ad_own hk hX]
    have hz : bh_tg k = 20 ∨ bh_tg k = 21 ∨ bh_tg k = 22 ∨ bh_tg k = 23 ∨ bh_tg k = 24 := by omega
    have H2 := H1 H locs ls hP hS hN hX hl
    rcases hz with z | z | z | z | z <;> rw [z] at he
    · exact va_alen hx hb hE.1 hP k 0 he rfl rfl hd H2
    · exact va_alen hx hb hE.1 hP k 1 he rfl rfl hd H2
    · exact va_alen hx hb hE.1 hP k 2 he rfl rfl hd H2
    · exact va_alen hx hb hE.1 hP k 3 he rfl rfl hd H2
    · exact va_alen hx hb hE.1 hP k 4 he rfl rfl hd H2
  · have hb2 := hE.2.2.2.2.2.1
    have H2 := H1 H locs ls hP hS hN hX hl
    rw [hX.2.1] at H2
    exact va_slen hx hb hE.2.2.2.2.1 (Nat.lt_of_lt_of_le hb2 hB) (show ¬ bh_gB g ≤ bh_gX g 1000 by omega) hS hd H2
end bh_sound
