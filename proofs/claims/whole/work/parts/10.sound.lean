/-! ===== a step of the picture is steps of the machine ===== -/
section bh_sound
variable {g : bh_G} {m0 d : Nat} {p : Program} {l : Launch} {e : Env} {R : Room} {s : State} {m : MethodId} {args : Array Value} {below : List Frame} {meth : Method} {c : Code} {Qf : State → Prop} {pc len a : Nat} {cn : Int} {l9 : List Nat} {lv st : List Value} {u : Nat × Nat} {h : bh_H}
/-- one more on the stack -/
set_option maxHeartbeats 1000000 in
theorem bs_1_0 (cx : bh_Cx g m0 d p R s m args meth c) (hok : bh_d1 m0 pc len (.iconst cn) = true) (H1 : (bh_MP g m0 p l e R s m args below meth c Qf) (pc + len) lv (.int (Int32.ofInt cn) :: st) u h) : bh_MP g m0 p l e R s m args below meth c Qf pc lv st u h := by
  obtain ⟨hx, hb, hml, hown, hts, hm0, hE, hR, hB, hini⟩ := id cx
  simp only [bh_d1, bh_dc, Bool.and_eq_true, decide_eq_true_eq] at hok
  obtain ⟨rfl, hd⟩ := hok
  intro H locs ls hP hS hN hX hl
  exact lv_iconst hx hb hd rfl (H1 H locs ls hP hS hN hX hl)
set_option maxHeartbeats 1000000 in
theorem bs_1_1 (cx : bh_Cx g m0 d p R s m args meth c) (hok : (decide (len = 2) && bh_dc m0 pc (.bipush cn) 2 && decide ((Int8.ofInt cn).toInt32 = Int32.ofInt cn)) = true) (H1 : (bh_MP g m0 p l e R s m args below meth c Qf) (pc + len) lv (.int (Int32.ofInt cn) :: st) u h) : bh_MP g m0 p l e R s m args below meth c Qf pc lv st u h := by
  obtain ⟨hx, hb, hml, hown, hts, hm0, hE, hR, hB, hini⟩ := id cx
  simp only [bh_dc, Bool.and_eq_true, decide_eq_true_eq] at hok
  obtain ⟨⟨rfl, hd⟩, hv⟩ := hok
  intro H locs ls hP hS hN hX hl
  exact lv_bipush hx hb hd hv (H1 H locs ls hP hS hN hX hl)
set_option maxHeartbeats 1000000 in
theorem bs_1_2 (cx : bh_Cx g m0 d p R s m args meth c) (hok : (decide (len = 3) && bh_dc m0 pc (.sipush cn) 3 && decide ((Int16.ofInt cn).toInt32 = Int32.ofInt cn)) = true) (H1 : (bh_MP g m0 p l e R s m args below meth c Qf) (pc + len) lv (.int (Int32.ofInt cn) :: st) u h) : bh_MP g m0 p l e R s m args below meth c Qf pc lv st u h := by
  obtain ⟨hx, hb, hml, hown, hts, hm0, hE, hR, hB, hini⟩ := id cx
  simp only [bh_dc, Bool.and_eq_true, decide_eq_true_eq] at hok
  obtain ⟨⟨rfl, hd⟩, hv⟩ := hok
  intro H locs ls hP hS hN hX hl
  exact lv_sipush hx hb hd hv (H1 H locs ls hP hS hN hX hl)
set_option maxHeartbeats 1000000 in
theorem bs_1_3 (cx : bh_Cx g m0 d p R s m args meth c) (hok : (decide (len = 2) && bh_dc m0 pc (.ldc (l9.getD 0 0)) 2 && bh_at (l9.getD 1 0) (.constant (bh_O m0) (l9.getD 0 0) (Int32.ofInt cn))) = true) (H1 : (bh_MP g m0 p l e R s m args below meth c Qf) (pc + len) lv (.int (Int32.ofInt cn) :: st) u h) : bh_MP g m0 p l e R s m args below meth c Qf pc lv st u h := by
  obtain ⟨hx, hb, hml, hown, hts, hm0, hE, hR, hB, hini⟩ := id cx
  simp only [bh_dc, Bool.and_eq_true, decide_eq_true_eq] at hok
  obtain ⟨⟨rfl, hd⟩, hv⟩ := hok
  intro H locs ls hP hS hN hX hl
  exact W.ldc hx hb hown (hts _ (bh_at_WS hv)) (g := F0 m pc ls (st.map (bh_tr g))) rfl hd (H1 H locs ls hP hS hN hX hl)
set_option maxHeartbeats 1000000 in
theorem bs_1_4 (cx : bh_Cx g m0 d p R s m args meth c) (hok : (bh_d3 m0 pc len (.ldc_w (l9.getD 0 0)) && bh_at (l9.getD 1 0) (.constant (bh_O m0) (l9.getD 0 0) (Int32.ofInt cn))) = true) (H1 : (bh_MP g m0 p l e R s m args below meth c Qf) (pc + len) lv (.int (Int32.ofInt cn) :: st) u h) : bh_MP g m0 p l e R s m args below meth c Qf pc lv st u h := by
  obtain ⟨hx, hb, hml, hown, hts, hm0, hE, hR, hB, hini⟩ := id cx
  simp only [bh_d3, bh_dc, Bool.and_eq_true, decide_eq_true_eq] at hok
  obtain ⟨⟨rfl, hd⟩, hv⟩ := hok
  intro H locs ls hP hS hN hX hl
  exact lv_ldcw hx hb hown (hts _ (bh_at_WS hv)) hd (H1 H locs ls hP hS hN hX hl)
set_option maxHeartbeats 1000000 in
theorem bs_2_0 (cx : bh_Cx g m0 d p R s m args meth c) (hok : bh_d1 m0 pc len (.lconst 0) = true) (H1 : (bh_MP g m0 p l e R s m args below meth c Qf) (pc + len) lv (.long (Int64.ofInt 0) :: st) u h) : bh_MP g m0 p l e R s m args below meth c Qf pc lv st u h := by
  obtain ⟨hx, hb, hml, hown, hts, hm0, hE, hR, hB, hini⟩ := id cx
  simp only [bh_d1, bh_dc, Bool.and_eq_true, decide_eq_true_eq] at hok
  obtain ⟨rfl, hd⟩ := hok
  intro H locs ls hP hS hN hX hl
  exact lv_lconst hx hb hd rfl (H1 H locs ls hP hS hN hX hl)
set_option maxHeartbeats 1000000 in
theorem bs_2_1 (cx : bh_Cx g m0 d p R s m args meth c) (hok : bh_d1 m0 pc len (.lconst 1) = true) (H1 : (bh_MP g m0 p l e R s m args below meth c Qf) (pc + len) lv (.long (Int64.ofInt 1) :: st) u h) : bh_MP g m0 p l e R s m args below meth c Qf pc lv st u h := by
  obtain ⟨hx, hb, hml, hown, hts, hm0, hE, hR, hB, hini⟩ := id cx
  simp only [bh_d1, bh_dc, Bool.and_eq_true, decide_eq_true_eq] at hok
  obtain ⟨rfl, hd⟩ := hok
  intro H locs ls hP hS hN hX hl
  exact lv_lconst hx hb hd rfl (H1 H locs ls hP hS hN hX hl)
set_option maxHeartbeats 1000000 in
theorem bs_2_2 (cx : bh_Cx g m0 d p R s m args meth c) (hok : (bh_d3 m0 pc len (.ldc2_w (l9.getD 0 0)) && bh_at (l9.getD 1 0) (.constantLong (bh_O m0) (l9.getD 0 0) (Int64.ofInt cn))) = true) (H1 : (bh_MP g m0 p l e R s m args below meth c Qf) (pc + len) lv (.long (Int64.ofInt cn) :: st) u h) : bh_MP g m0 p l e R s m args below meth c Qf pc lv st u h := by
  obtain ⟨hx, hb, hml, hown, hts, hm0, hE, hR, hB, hini⟩ := id cx
  simp only [bh_d3, bh_dc, Bool.and_eq_true, decide_eq_true_eq] at hok
  obtain ⟨⟨rfl, hd⟩, hv⟩ := hok
  intro H locs ls hP hS hN hX hl
  exact W.ldc2 hx hb hown (hts _ (bh_at_WS hv)) (g := F0 m pc ls (st.map (bh_tr g))) rfl hd (H1 H locs ls hP hS hN hX hl)
set_option maxHeartbeats 1000000 in
theorem bs_3 (cx : bh_Cx g m0 d p R s m args meth c) (hok : bh_d4 m0 pc len a cn .iload_n .iload = true) (H1 : ∃ x, lv[a]? = some (.int x) ∧ (bh_MP g m0 p l e R s m args below meth c Qf) (pc + len) lv (.int x :: st) u h) : bh_MP g m0 p l e R s m args below meth c Qf pc lv st u h := by
  obtain ⟨hx, hb, hml, hown, hts, hm0, hE, hR, hB, hini⟩ := id cx
  obtain ⟨x, hxv, H1⟩ := H1
  unfold bh_d4 at hok
  intro H locs ls hP hS hN hX hl
  have hat := bh_pr_at hl hxv (by intro h; cases h)
  split at hok
  · split at hok
    next ha =>
      simp only [bh_dc, Bool.and_eq_true, decide_eq_true_eq] at hok
      obtain ⟨rfl, hd⟩ := hok
      exact lv_iload_n hx hb hd rfl hat (H1 H locs ls hP hS hN hX hl)
    next => cases hok
  · simp only [bh_dc, Bool.and_eq_true, decide_eq_true_eq] at hok
    obtain ⟨rfl, hd⟩ := hok
    exact lv_iload hx hb hd hat (H1 H locs ls hP hS hN hX hl)
set_option maxHeartbeats 1000000 in
theorem bs_4 (cx : bh_Cx g m0 d p R s m args meth c) (hok : bh_d4 m0 pc len a cn .lload_n .lload = true) (H1 : ∃ x, lv[a]? = some (.long x) ∧ (bh_MP g m0 p l e R s m args below meth c Qf) (pc + len) lv (.long x :: st) u h) : bh_MP g m0 p l e R s m args below meth c Qf pc lv st u h := by
  obtain ⟨hx, hb, hml, hown, hts, hm0, hE, hR, hB, hini⟩ := id cx
  obtain ⟨x, hxv, H1⟩ := H1
  unfold bh_d4 at hok
  intro H locs ls hP hS hN hX hl
  have hat := bh_pr_at hl hxv (by intro h; cases h)
  split at hok
  · split at hok
    next ha =>
      simp only [bh_dc, Bool.and_eq_true, decide_eq_true_eq] at hok
      obtain ⟨rfl, hd⟩ := hok
      exact lv_lload_n hx hb hd rfl hat (H1 H locs ls hP hS hN hX hl)
    next => cases hok
  · simp only [bh_dc, Bool.and_eq_true, decide_eq_true_eq] at hok
    obtain ⟨rfl, hd⟩ := hok
    exact lv_lload hx hb hd hat (H1 H locs ls hP hS hN hX hl)
set_option maxHeartbeats 1000000 in
theorem bs_5 (cx : bh_Cx g m0 d p R s m args meth c) (hok : bh_d4 m0 pc len a cn .aload_n .aload = true) (H1 : ∃ x, lv[a]? = some (.ref x) ∧ (bh_MP g m0 p l e R s m args below meth c Qf) (pc + len) lv (.ref x :: st) u h) : bh_MP g m0 p l e R s m args below meth c Qf pc lv st u h := by
  obtain ⟨hx, hb, hml, hown, hts, hm0, hE, hR, hB, hini⟩ := id cx
  obtain ⟨x, hxv, H1⟩ := H1
  unfold bh_d4 at hok
  intro H locs ls hP hS hN hX hl
  have hat := bh_pr_at hl hxv (by intro h; cases h)
  split at hok
  · split at hok
    next ha =>
      simp only [bh_dc, Bool.and_eq_true, decide_eq_true_eq] at hok
      obtain ⟨rfl, hd⟩ := hok
      exact lv_aload_n hx hb hd rfl hat (H1 H locs ls hP hS hN hX hl)
    next => cases hok
  · simp only [bh_dc, Bool.and_eq_true, decide_eq_true_eq] at hok
    obtain ⟨rfl, hd⟩ := hok
    exact lv_aload hx hb hd hat (H1 H locs ls hP hS hN hX hl)
set_option maxHeartbeats 1000000 in
theorem bs_6 (cx : bh_Cx g m0 d p R s m args meth c) (hok : bh_d4 m0 pc len a cn .istore_n .istore = true) (H1 : ∃ x s, st = .int x :: s ∧ a < bh_mL m0 ∧ (bh_MP g m0 p l e R s m args below meth c Qf) (pc + len) (bh_sto lv a (.int x)) s u h) : bh_MP g m0 p l e R s m args below meth c Qf pc lv st u h := by
  obtain ⟨hx, hb, hml, hown, hts, hm0, hE, hR, hB, hini⟩ := id cx
  obtain ⟨x, sk, rfl, hlt, H1⟩ := H1
  unfold bh_d4 at hok
  intro H locs ls hP hS hN hX hl
  split at hok
  · split at hok
    next ha =>
      simp only [bh_dc, Bool.and_eq_true, decide_eq_true_eq] at hok
      obtain ⟨rfl, hd⟩ := hok
      exact lv_istore_n hx hb hd rfl hl hlt rfl (fun ls' hl' => H1 H locs ls' hP hS hN hX (bh_sto_has rfl hl'))
    next => cases hok
  · simp only [bh_dc, Bool.and_eq_true, decide_eq_true_eq] at hok
    obtain ⟨rfl, hd⟩ := hok
    exact lv_istore hx hb hd hl hlt rfl (fun ls' hl' => H1 H locs ls' hP hS hN hX (bh_sto_has rfl hl'))
set_option maxHeartbeats 1000000 in
theorem bs_7 (cx : bh_Cx g m0 d p R s m args meth c) (hok : bh_d4 m0 pc len a cn .lstore_n .lstore = true) (H1 : ∃ x s, st = .long x :: s ∧ a + 1 < bh_mL m0 ∧ (bh_MP g m0 p l e R s m args below meth c Qf) (pc + len) (bh_stoL lv a (.long x)) s u h) : bh_MP g m0 p l e R s m args below meth c Qf pc lv st u h := by
  obtain ⟨hx, hb, hml, hown, hts, hm0, hE, hR, hB, hini⟩ := id cx
  obtain ⟨x, sk, rfl, hlt, H1⟩ := H1
  unfold bh_d4 at hok
  intro H locs ls hP hS hN hX hl
  split at hok
  · split at hok
    next ha =>
      simp only [bh_dc, Bool.and_eq_true, decide_eq_true_eq] at hok
      obtain ⟨rfl, hd⟩ := hok
      exact lv_lstore_n hx hb hd rfl hl hlt rfl (fun ls' hl' => H1 H locs ls' hP hS hN hX (bh_stoL_has hl'))
    next => cases hok
  · simp only [bh_dc, Bool.and_eq_true, decide_eq_true_eq] at hok
    obtain ⟨rfl, hd⟩ := hok
    exact lv_lstore hx hb hd hl hlt rfl (fun ls' hl' => H1 H locs ls' hP hS hN hX (bh_stoL_has hl'))
set_option maxHeartbeats 1000000 in
theorem bs_8 (cx : bh_Cx g m0 d p R s m args meth c) (hok : bh_d4 m0 pc len a cn .astore_n .astore = true) (H1 : ∃ x s, st = .ref x :: s ∧ a < bh_mL m0 ∧ (bh_MP g m0 p l e R s m args below meth c Qf) (pc + len) (bh_sto lv a (.ref x)) s u h) : bh_MP g m0 p l e R s m args below meth c Qf pc lv st u h := by
  obtain ⟨hx, hb, hml, hown, hts, hm0, hE, hR, hB, hini⟩ := id cx
  obtain ⟨x, sk, rfl, hlt, H1⟩ := H1
  unfold bh_d4 at hok
  intro H locs ls hP hS hN hX hl
  split at hok
  · split at hok
    next ha =>
      simp only [bh_dc, Bool.and_eq_true, decide_eq_true_eq] at hok
      obtain ⟨rfl, hd⟩ := hok
      exact lv_astore_n hx hb hd rfl hl hlt rfl (fun ls' hl' => H1 H locs ls' hP hS hN hX (bh_sto_has rfl hl'))
    next => cases hok
  · simp only [bh_dc, Bool.and_eq_true, decide_eq_true_eq] at hok
    obtain ⟨rfl, hd⟩ := hok
    exact lv_astore hx hb hd hl hlt rfl (fun ls' hl' => H1 H locs ls' hP hS hN hX (bh_sto_has rfl hl'))
set_option maxHeartbeats 1000000 in
theorem bs_9 (cx : bh_Cx g m0 d p R s m args meth c) (hok : bh_d3 m0 pc len (.iinc a cn) = true) (H1 : ∃ x, lv[a]? = some (.int x) ∧ a < bh_mL m0 ∧ (bh_MP g m0 p l e R s m args below meth c Qf) (pc + len) (bh_sto lv a (.int (x + Int32.ofInt cn))) st u h) : bh_MP g m0 p l e R s m args below meth c Qf pc lv st u h := by
  obtain ⟨hx, hb, hml, hown, hts, hm0, hE, hR, hB, hini⟩ := id cx
  simp only [bh_d3, bh_dc, Bool.and_eq_true, decide_eq_true_eq] at hok
  obtain ⟨rfl, hd⟩ := hok
  obtain ⟨x, hxv, hlt, H1⟩ := H1
  intro H locs ls hP hS hN hX hl
  obtain ⟨k, hk⟩ := List.getElem?_of_mem (bh_pr_mem.mpr ⟨.int x, hxv, by (intro h; cases h), rfl⟩ : (a, Value.int x) ∈ bh_pr g lv)
  exact lv_iinc hx hb hd hl hk rfl hlt rfl (fun ls' hl' => H1 H locs ls' hP hS hN hX (bh_sto_has rfl hl'))
set_option maxHeartbeats 1000000 in
theorem bs_10 (cx : bh_Cx g m0 d p R s m args meth c) (hok : bh_d1 m0 pc len (bh_ibI a) = true) (H1 : ∃ x y s, st = .int y :: .int x :: s ∧ (bh_MP g m0 p l e R s m args below meth c Qf) (pc + len) lv (.int (bh_ib a x y) :: s) u h) : bh_MP g m0 p l e R s m args below meth c Qf pc lv st u h := by
  obtain ⟨hx, hb, hml, hown, hts, hm0, hE, hR, hB, hini⟩ := id cx
  simp only [bh_d1, bh_dc, Bool.and_eq_true, decide_eq_true_eq] at hok
  obtain ⟨rfl, hd⟩ := hok
  obtain ⟨x, y, sk, rfl, H1⟩ := H1
  intro H locs ls hP hS hN hX hl
  have H2 := H1 H locs ls hP hS hN hX hl
  match a, hd, H2 with
  | 0, hd, H2 => exact lv_iadd hx hb hd H2
  | 1, hd, H2 => exact lv_isub hx hb hd H2
  | 2, hd, H2 => exact lv_imul hx hb hd H2
  | 3, hd, H2 => exact lv_iand hx hb hd H2
  | 4, hd, H2 => exact lv_ior hx hb hd H2
  | 5, hd, H2 => exact lv_ixor hx hb hd H2
  | 6, hd, H2 => exact lv_ishl hx hb hd H2
  | 7, hd, H2 => exact lv_ishr hx hb hd H2
  | n + 8, hd, H2 => exact lv_iushr hx hb hd rfl H2
set_option maxHeartbeats 1000000 in
theorem bs_11 (cx : bh_Cx g m0 d p R s m args meth c) (hok : bh_d1 m0 pc len .idiv = true) (H1 : ∃ x y s, st = .int y :: .int x :: s ∧ ¬ y = 0 ∧ (bh_MP g m0 p l e R s m args below meth c Qf) (pc + len) lv (.int (x / y) :: s) u h) : bh_MP g m0 p l e R s m args below meth c Qf pc lv st u h := by
  obtain ⟨hx, hb, hml, hown, hts, hm0, hE, hR, hB, hini⟩ := id cx
  simp only [bh_d1, bh_dc, Bool.and_eq_true, decide_eq_true_eq] at hok
  obtain ⟨rfl, hd⟩ := hok
  obtain ⟨x, y, sk, rfl, hy, H1⟩ := H1
  intro H locs ls hP hS hN hX hl
  exact lv_idiv hx hb hd hy (H1 H locs ls hP hS hN hX hl)
set_option maxHeartbeats 1000000 in
theorem bs_12 (cx : bh_Cx g m0 d p R s m args meth c) (hok : bh_d1 m0 pc len .irem = true) (H1 : ∃ x y s, st = .int y :: .int x :: s ∧ ¬ y = 0 ∧ (bh_MP g m0 p l e R s m args below meth c Qf) (pc + len) lv (.int (x - x / y * y) :: s) u h) : bh_MP g m0 p l e R s m args below meth c Qf pc lv st u h := by
  obtain ⟨hx, hb, hml, hown, hts, hm0, hE, hR, hB, hini⟩ := id cx
  simp only [bh_d1, bh_dc, Bool.and_eq_true, decide_eq_true_eq] at hok
  obtain ⟨rfl, hd⟩ := hok
  obtain ⟨x, y, sk, rfl, hy, H1⟩ := H1
  intro H locs ls hP hS hN hX hl
  exact lv_irem hx hb hd hy (H1 H locs ls hP hS hN hX hl)
set_option maxHeartbeats 1000000 in
theorem bs_13 (cx : bh_Cx g m0 d p R s m args meth c) (hok : bh_d1 m0 pc len (bh_lbI a) = true) (H1 : ∃ x y s, st = .long y :: .long x :: s ∧ (bh_MP g m0 p l e R s m args below meth c Qf) (pc + len) lv (.long (bh_lb a x y) :: s) u h) : bh_MP g m0 p l e R s m args below meth c Qf pc lv st u h := by
  obtain ⟨hx, hb, hml, hown, hts, hm0, hE, hR, hB, hini⟩ := id cx
  simp only [bh_d1, bh_dc, Bool.and_eq_true, decide_eq_true_eq] at hok
  obtain ⟨rfl, hd⟩ := hok
  obtain ⟨x, y, sk, rfl, H1⟩ := H1
  intro H locs ls hP hS hN hX hl
  have H2 := H1 H locs ls hP hS hN hX hl
  match a, hd, H2 with
  | 0, hd, H2 => exact lv_ladd hx hb hd H2
  | 1, hd, H2 => exact lv_lmul hx hb hd H2
  | n + 2, hd, H2 => exact lv_lor hx hb hd H2
set_option maxHeartbeats 1000000 in
theorem bs_14 (cx : bh_Cx g m0 d p R s m args meth c) (hok : bh_d1 m0 pc len .lshl = true) (H1 : ∃ (x : Int64) (y : Int32) (s : List Value), st = .int y :: .long x :: s ∧ (bh_MP g m0 p l e R s m args below meth c Qf) (pc + len) lv (.long (x <<< (y.toInt64 &&& 63)) :: s) u h) : bh_MP g m0 p l e R s m args below meth c Qf pc lv st u h := by
  obtain ⟨hx, hb, hml, hown, hts, hm0, hE, hR, hB, hini⟩ := id cx
  simp only [bh_d1, bh_dc, Bool.and_eq_true, decide_eq_true_eq] at hok
  obtain ⟨rfl, hd⟩ := hok
  obtain ⟨x, y, sk, rfl, H1⟩ := H1
  intro H locs ls hP hS hN hX hl
  exact lv_lshl hx hb hd rfl (H1 H locs ls hP hS hN hX hl)
set_option maxHeartbeats 1000000 in
theorem bs_15 (cx : bh_Cx g m0 d p R s m args meth c) (hok : bh_d1 m0 pc len .i2l = true) (H1 : ∃ (x : Int32) (s : List Value), st = .int x :: s ∧ (bh_MP g m0 p l e R s m args below meth c Qf) (pc + len) lv (.long x.toInt64 :: s) u h) : bh_MP g m0 p l e R s m args below meth c Qf pc lv st u h := by
  obtain ⟨hx, hb, hml, hown, hts, hm0, hE, hR, hB, hini⟩ := id cx
  simp only [bh_d1, bh_dc, Bool.and_eq_true, decide_eq_true_eq] at hok
  obtain ⟨rfl, hd⟩ := hok
  obtain ⟨x, sk, rfl, H1⟩ := H1
  intro H locs ls hP hS hN hX hl
  exact lv_i2l hx hb hd rfl (H1 H locs ls hP hS hN hX hl)
set_option maxHeartbeats 1000000 in
theorem bs_16 (cx : bh_Cx g m0 d p R s m args meth c) (hok : bh_d1 m0 pc len .i2b = true) (H1 : ∃ (x : Int32) (s : List Value), st = .int x :: s ∧ (bh_MP g m0 p l e R s m args below meth c Qf) (pc + len) lv (.int x.toInt8.toInt32 :: s) u h) : bh_MP g m0 p l e R s m args below meth c Qf pc lv st u h := by
  obtain ⟨hx, hb, hml, hown, hts, hm0, hE, hR, hB, hini⟩ := id cx
  simp only [bh_d1, bh_dc, Bool.and_eq_true, decide_eq_true_eq] at hok
  obtain ⟨rfl, hd⟩ := hok
  obtain ⟨x, sk, rfl, H1⟩ := H1
  intro H locs ls hP hS hN hX hl
  exact lv_i2b hx hb hd rfl (H1 H locs ls hP hS hN hX hl)
set_option maxHeartbeats 1000000 in
theorem bs_17 (cx : bh_Cx g m0 d p R s m args meth c) (hok : bh_d1 m0 pc len .lcmp = true) (H1 : ∃ x y s, st = .long y :: .long x :: s ∧ (bh_MP g m0 p l e R s m args below meth c Qf) (pc + len) lv (.int (lg_cmp x y) :: s) u h) : bh_MP g m0 p l e R s m args below meth c Qf pc lv st u h := by
  obtain ⟨hx, hb, hml, hown, hts, hm0, hE, hR, hB, hini⟩ := id cx
  simp only [bh_d1, bh_dc, Bool.and_eq_true, decide_eq_true_eq] at hok
  obtain ⟨rfl, hd⟩ := hok
  obtain ⟨x, y, sk, rfl, H1⟩ := H1
  intro H locs ls hP hS hN hX hl
  exact W.lcmp hx hb hd (H1 H locs ls hP hS hN hX hl)
set_option maxHeartbeats 1000000 in
theorem bs_18 (cx : bh_Cx g m0 d p R s m args meth c) (hok : bh_d1 m0 pc len .dup = true) (H1 : ∃ v s, st = v :: s ∧ v.category = 1 ∧ (bh_MP g m0 p l e R s m args below meth c Qf) (pc + len) lv (v :: v :: s) u h) : bh_MP g m0 p l e R s m args below meth c Qf pc lv st u h := by
  obtain ⟨hx, hb, hml, hown, hts, hm0, hE, hR, hB, hini⟩ := id cx
  simp only [bh_d1, bh_dc, Bool.and_eq_true, decide_eq_true_eq] at hok
  obtain ⟨rfl, hd⟩ := hok
  obtain ⟨v, sk, rfl, hc, H1⟩ := H1
  intro H locs ls hP hS hN hX hl
  exact lv_dup hx hb hd ((bh_tr_cat g v).trans hc) (H1 H locs ls hP hS hN hX hl)
set_option maxHeartbeats 1000000 in
theorem bs_19 (cx : bh_Cx g m0 d p R s m args meth c) (hok : bh_d1 m0 pc len .pop = true) (H1 : ∃ v s, st = v :: s ∧ v.category = 1 ∧ (bh_MP g m0 p l e R s m args below meth c Qf) (pc + len) lv s u h) : bh_MP g m0 p l e R s m args below meth c Qf pc lv st u h := by
  obtain ⟨hx, hb, hml, hown, hts, hm0, hE, hR, hB, hini⟩ := id cx
  simp only [bh_d1, bh_dc, Bool.and_eq_true, decide_eq_true_eq] at hok
  obtain ⟨rfl, hd⟩ := hok
  obtain ⟨v, sk, rfl, hc, H1⟩ := H1
  intro H locs ls hP hS hN hX hl
  exact lv_pop hx hb hd ((bh_tr_cat g v).trans hc) (H1 H locs ls hP hS hN hX hl)
set_option maxHeartbeats 1000000 in
theorem bs_20 (cx : bh_Cx g m0 d p R s m args meth c) (hok : bh_d1 m0 pc len .dup2 = true) (H1 : ∃ v w s, st = v :: w :: s ∧ v.category = 1 ∧ w.category = 1 ∧ (bh_MP g m0 p l e R s m args below meth c Qf) (pc + len) lv (v :: w :: v :: w :: s) u h) : bh_MP g m0 p l e R s m args below meth c Qf pc lv st u h := by
  obtain ⟨hx, hb, hml, hown, hts, hm0, hE, hR, hB, hini⟩ := id cx
  simp only [bh_d1, bh_dc, Bool.and_eq_true, decide_eq_true_eq] at hok
  obtain ⟨rfl, hd⟩ := hok
  obtain ⟨v, w, sk, rfl, hc, hc2, H1⟩ := H1
  intro H locs ls hP hS hN hX hl
  exact lv_dup2_11 hx hb hd ((bh_tr_cat g v).trans hc) ((bh_tr_cat g w).trans hc2) (H1 H locs ls hP hS hN hX hl)
set_option maxHeartbeats 1000000 in
theorem bs_21 (cx : bh_Cx g m0 d p R s m args meth c) (hok : bh_d3 m0 pc len (.ifCond (bh_cc cn) ((a : Int) - pc)) = true) (H1 : ∃ x s, st = .int x :: s ∧ (bh_cmp cn x 0 → (bh_MP g m0 p l e R s m args below meth c Qf) a lv s u h) ∧ (¬ bh_cmp cn x 0 → (bh_MP g m0 p l e R s m args below meth c Qf) (pc + len) lv s u h)) : bh_MP g m0 p l e R s m args below meth c Qf pc lv st u h := by
  obtain ⟨hx, hb, hml, hown, hts, hm0, hE, hR, hB, hini⟩ := id cx
  simp only [bh_d3, bh_dc, Bool.and_eq_true, decide_eq_true_eq] at hok
  obtain ⟨rfl, hd⟩ := hok
  obtain ⟨x, sk, rfl, H1, H2⟩ := H1
  intro H locs ls hP hS hN hX hl
  have kt := fun z => H1 z H locs ls hP hS hN hX hl
  have kf := fun z => H2 z H locs ls hP hS hN hX hl
  have ht : (pc : Int) + ((a : Int) - pc) = (a : Int) := by omega
  unfold bh_cmp at kt kf
  unfold bh_cc at hd
  split at hd <;> dsimp only at kt kf
  · exact lv_if_eq hx hb hd ht kt kf
  · exact lv_if_ne hx hb hd ht kt kf
  · exact lv_if_lt hx hb hd ht kt kf
  · exact lv_if_ge hx hb hd ht kt kf
  · exact lv_if_gt hx hb hd ht kt kf
  · rename_i n0 n1 n2 n3 n4
    split at kt <;> first | contradiction | exact lv_if_le hx hb hd ht kt (by split at kf <;> first | contradiction | exact kf)
set_option maxHeartbeats 1000000 in
theorem bs_22 (cx : bh_Cx g m0 d p R s m args meth c) (hok : bh_d3 m0 pc len (.if_icmp (bh_cc cn) ((a : Int) - pc)) = true) (H1 : ∃ x y s, st = .int y :: .int x :: s ∧ (bh_cmp cn x y → (bh_MP g m0 p l e R s m args below meth c Qf) a lv s u h) ∧ (¬ bh_cmp cn x y → (bh_MP g m0 p l e R s m args below meth c Qf) (pc + len) lv s u h)) : bh_MP g m0 p l e R s m args below meth c Qf pc lv st u h := by
  obtain ⟨hx, hb, hml, hown, hts, hm0, hE, hR, hB, hini⟩ := id cx
  simp only [bh_d3, bh_dc, Bool.and_eq_true, decide_eq_true_eq] at hok
  obtain ⟨rfl, hd⟩ := hok
  obtain ⟨x, y, sk, rfl, H1, H2⟩ := H1
  intro H locs ls hP hS hN hX hl
  have kt := fun z => H1 z H locs ls hP hS hN hX hl
  have kf := fun z => H2 z H locs ls hP hS hN hX hl
  have ht : (pc : Int) + ((a : Int) - pc) = (a : Int) := by omega
  unfold bh_cmp at kt kf
  unfold bh_cc at hd
  split at hd <;> dsimp only at kt kf
  · exact lv_icmp_eq hx hb hd ht kt kf
  · exact lv_icmp_ne hx hb hd ht kt kf
  · exact lv_icmp_lt hx hb hd ht kt kf
  · exact lv_icmp_ge hx hb hd ht kt kf
  · exact lv_icmp_gt hx hb hd ht kt kf
  · rename_i n0 n1 n2 n3 n4
    split at kt <;> first | contradiction | exact lv_icmp_le hx hb hd ht kt (by split at kf <;> first | contradiction | exact kf)
set_option maxHeartbeats 1000000 in
theorem bs_23 (cx : bh_Cx g m0 d p R s m args meth c) (hok : bh_d3 m0 pc len (.goto ((a : Int) - pc)) = true) (H1 : (bh_MP g m0 p l e R s m args below meth c Qf) a lv st u h) : bh_MP g m0 p l e R s m args below meth c Qf pc lv st u h := by
  obtain ⟨hx, hb, hml, hown, hts, hm0, hE, hR, hB, hini⟩ := id cx
  simp only [bh_d3, bh_dc, Bool.and_eq_true, decide_eq_true_eq] at hok
  obtain ⟨rfl, hd⟩ := hok
  intro H locs ls hP hS hN hX hl
  exact lv_goto hx hb hd (by omega) (H1 H locs ls hP hS hN hX hl)
set_option maxHeartbeats 1000000 in
theorem bs_24 (cx : bh_Cx g m0 d p R s m args meth c) (hok : bh_dc m0 pc (.tableswitch ((a : Int) - pc) cn (cn + l9.length - 1) (l9.map (fun t : Nat => (t : Int) - pc)).toArray) len = true) (H1 : ∃ x s, st = .int x :: s ∧ ((¬ x.toInt < cn ∧ ¬ cn + l9.length - 1 < x.toInt) → ∃ t, l9[(x.toInt - cn).toNat]? = some t ∧ (bh_MP g m0 p l e R s m args below meth c Qf) t lv s u h) ∧ ((x.toInt < cn ∨ cn + l9.length - 1 < x.toInt) → (bh_MP g m0 p l e R s m args below meth c Qf) a lv s u h)) : bh_MP g m0 p l e R s m args below meth c Qf pc lv st u h := by
  obtain ⟨hx, hb, hml, hown, hts, hm0, hE, hR, hB, hini⟩ := id cx
  simp only [bh_dc, decide_eq_true_eq] at hok
  obtain ⟨x, sk, rfl, H1, H2⟩ := H1
  intro H locs ls hP hS hN hX hl
  by_cases hq : x.toInt < cn ∨ cn + l9.length - 1 < x.toInt
  · exact lv_tableOut hx hb hok hq (by omega) (H2 hq H locs ls hP hS hN hX hl)
  · have h1 : ¬ x.toInt < cn := fun z => hq (Or.inl z)
    have h2 : ¬ cn + l9.length - 1 < x.toInt := fun z => hq (Or.inr z)
    obtain ⟨t, ht, H3⟩ := H1 ⟨h1, h2⟩
    exact lv_tableIn (off := (t : Int) - pc) hx hb hok h1 h2 (by simp [ht]) (by omega) (H3 H locs ls hP hS hN hX hl)
end bh_sound
