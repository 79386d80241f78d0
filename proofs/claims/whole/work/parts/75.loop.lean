/-! ===== the law's loop ===== -/
theorem and63 (x : Int32) : ∃ j : Nat, j < 64 ∧ x &&& nI 63 = nI j := by
  refine ⟨x.toUInt32.toNat % 64, Nat.mod_lt _ (by decide), ?_⟩
  apply Int32.toBitVec_inj.mp
  apply BitVec.eq_of_toNat_eq
  rw [Int32.toBitVec_and, BitVec.toNat_and, nI_bv, nI_bv, BitVec.toNat_ofNat, BitVec.toNat_ofNat]
  show x.toUInt32.toNat &&& (2 ^ 6 - 1) = x.toUInt32.toNat % 64 % 2 ^ 32
  rw [Nat.and_two_pow_sub_one_eq_mod, Nat.mod_eq_of_lt (show x.toUInt32.toNat % 64 < 2 ^ 32 from Nat.lt_trans (Nat.mod_lt _ (by decide)) (by decide))]
theorem law_le {n i : Nat} (hn : n < 10000) (hi : i < 20000) (h : ¬ nI n - nI 6 < nI i) : i + 6 ≤ n := by
  by_cases h6 : 6 ≤ n
  · rw [show nI n - nI 6 = nI (n - 6) from pk_sub h6, nI_ltI (by omega) (by omega)] at h
    omega
  · exfalso
    apply h
    have e : nI n - nI 6 < 0 := by
      have : ∀ q : Nat, q < 6 → nI q - nI 6 < 0 := by decide
      exact this n (by omega)
    have e2 := nI_pos (n := i) (by omega)
    rw [Int32.lt_iff_toInt_lt] at e e2 ⊢
    omega
set_option maxRecDepth 20000 in
set_option maxHeartbeats 1000000 in
theorem law_sw {s0 s1 : Nat → Int32} {n i j : Nat} {h : bh_H} {Q : bh_Q} (h1 : s1 0 = nI n) (hn : n < 10000) (hi : i + 6 ≤ n) (hj : j < 64) (li : LI s0 s1 h) (kN : ∀ t, LI s0 s1 t → bg m_L_law 16 Q 1631 [.ref 1000, .ref 0, .ref 205, .int (nI i)] [] (228, 17198) t) : bg m_L_law 16 Q 33 [.ref 1000, .ref 0, .ref 205, .int (nI i)] [.int (nI j)] (228, 17198) h := by
  have hall : ∀ t ∈ ([208, 271, 294, 307, 340, 363, 416, 449, 482, 515, 538, 571, 594, 617, 630, 643, 666, 689, 722, 755, 798, 861, 904, 947, 980, 1013, 1046, 1080, 1114, 1157, 1200, 1254, 1297, 1360, 1403, 1446, 1479, 1532, 1565, 1608] : List Nat), bg m_L_law 16 Q t [.ref 1000, .ref 0, .ref 205, .int (nI i)] [] (228, 17198) h := List.forall_mem_cons.mpr ⟨lc_0 h1 hn hi li kN, List.forall_mem_cons.mpr ⟨lc_1 h1 hn hi li kN, List.forall_mem_cons.mpr ⟨lc_2 h1 hn hi li kN, List.forall_mem_cons.mpr ⟨lc_3 h1 hn hi li kN, List.forall_mem_cons.mpr ⟨lc_4 h1 hn hi li kN, List.forall_mem_cons.mpr ⟨lc_5 h1 hn hi li kN, List.forall_mem_cons.mpr ⟨lc_6 h1 hn hi li kN, List.forall_mem_cons.mpr ⟨lc_7 h1 hn hi li kN, List.forall_mem_cons.mpr ⟨lc_8 h1 hn hi li kN, List.forall_mem_cons.mpr ⟨lc_9 h1 hn hi li kN, List.forall_mem_cons.mpr ⟨lc_10 h1 hn hi li kN, List.forall_mem_cons.mpr ⟨lc_11 h1 hn hi li kN, List.forall_mem_cons.mpr ⟨lc_12 h1 hn hi li kN, List.forall_mem_cons.mpr ⟨lc_13 h1 hn hi li kN, List.forall_mem_cons.mpr ⟨lc_14 h1 hn hi li kN, List.forall_mem_cons.mpr ⟨lc_15 h1 hn hi li kN, List.forall_mem_cons.mpr ⟨lc_16 h1 hn hi li kN, List.forall_mem_cons.mpr ⟨lc_17 h1 hn hi li kN, List.forall_mem_cons.mpr ⟨lc_18 h1 hn hi li kN, List.forall_mem_cons.mpr ⟨lc_19 h1 hn hi li kN, List.forall_mem_cons.mpr ⟨lc_20 h1 hn hi li kN, List.forall_mem_cons.mpr ⟨lc_21 h1 hn hi li kN, List.forall_mem_cons.mpr ⟨lc_22 h1 hn hi li kN, List.forall_mem_cons.mpr ⟨lc_23 h1 hn hi li kN, List.forall_mem_cons.mpr ⟨lc_24 h1 hn hi li kN, List.forall_mem_cons.mpr ⟨lc_25 h1 hn hi li kN, List.forall_mem_cons.mpr ⟨lc_26 h1 hn hi li kN, List.forall_mem_cons.mpr ⟨lc_27 h1 hn hi li kN, List.forall_mem_cons.mpr ⟨lc_28 h1 hn hi li kN, List.forall_mem_cons.mpr ⟨lc_29 h1 hn hi li kN, List.forall_mem_cons.mpr ⟨lc_30 h1 hn hi li kN, List.forall_mem_cons.mpr ⟨lc_31 h1 hn hi li kN, List.forall_mem_cons.mpr ⟨lc_32 h1 hn hi li kN, List.forall_mem_cons.mpr ⟨lc_33 h1 hn hi li kN, List.forall_mem_cons.mpr ⟨lc_34 h1 hn hi li kN, List.forall_mem_cons.mpr ⟨lc_35 h1 hn hi li kN, List.forall_mem_cons.mpr ⟨lc_36 h1 hn hi li kN, List.forall_mem_cons.mpr ⟨lc_37 h1 hn hi li kN, List.forall_mem_cons.mpr ⟨lc_38 h1 hn hi li kN, List.forall_mem_cons.mpr ⟨lc_39 h1 hn hi li kN, fun _ h => absurd h List.not_mem_nil⟩⟩⟩⟩⟩⟩⟩⟩⟩⟩⟩⟩⟩⟩⟩⟩⟩⟩⟩⟩⟩⟩⟩⟩⟩⟩⟩⟩⟩⟩⟩⟩⟩⟩⟩⟩⟩⟩⟩⟩
  exact z_sw rfl (by omega) rfl (fun t ht => hall t (List.mem_of_getElem? ht)) (fun _ => kN h li)
set_option maxRecDepth 20000 in
set_option maxHeartbeats 1000000 in
theorem law_loop {s0 s1 : Nat → Int32} {n : Nat} {Q : bh_Q} (h1 : s1 0 = nI n) (hn : n < 10000) (hQ : ∀ t, Q (some (.int 1)) t) : ∀ (f i : Nat) (h : bh_H), n < i + f → i < 20000 → LI s0 s1 h → bg m_L_law 16 Q 18 [.ref 1000, .ref 0, .ref 205, .int (nI i)] [] (228, 17198) h := by
  intro f
  induction f with
  | zero =>
    intro i h hf hi li
    refine z_iload (pc' := 19) rfl rfl rfl ?_
    refine z_aload (pc' := 20) rfl rfl rfl ?_
    refine z_alen (pc' := 21) rfl rfl li.s h1 ?_
    refine z_int (pc' := 23) (v := nI 6) rfl rfl rfl ?_
    refine z_ib (pc' := 24) (v := nI n - nI 6) rfl rfl rfl ?_
    refine z_ic (c := 4) (pc' := 27) rfl rfl (fun _ => ?_) (fun z => absurd (law_le hn hi z) (by omega))
    refine z_int (pc' := 1638) (v := 1) rfl rfl rfl ?_
    exact z_iret rfl (Nat.le_of_ble_eq_true rfl) (Nat.le_of_ble_eq_true rfl) (Or.inr ⟨rfl, Or.inr rfl⟩) (hQ h)
  | succ f ih =>
    intro i h hf hi li
    refine z_iload (pc' := 19) rfl rfl rfl ?_
    refine z_aload (pc' := 20) rfl rfl rfl ?_
    refine z_alen (pc' := 21) rfl rfl li.s h1 ?_
    refine z_int (pc' := 23) (v := nI 6) rfl rfl rfl ?_
    refine z_ib (pc' := 24) (v := nI n - nI 6) rfl rfl rfl ?_
    refine z_ic (c := 4) (pc' := 27) rfl rfl (fun _ => ?_) (fun z => ?_)
    · refine z_int (pc' := 1638) (v := 1) rfl rfl rfl ?_
      exact z_iret rfl (Nat.le_of_ble_eq_true rfl) (Nat.le_of_ble_eq_true rfl) (Or.inr ⟨rfl, Or.inr rfl⟩) (hQ h)
    · have hi6 := law_le hn hi z
      obtain ⟨j, hj, ej⟩ := and63 (s0 i)
      refine z_aload (pc' := 28) rfl rfl rfl ?_
      refine z_iload (pc' := 29) rfl rfl rfl ?_
      refine z_scr (pc' := 30) (n := n) (i := i) rfl rfl li.s h1 hn (by omega) rfl ?_
      refine z_int (pc' := 32) (v := nI 63) rfl rfl rfl ?_
      refine z_ib (pc' := 33) (a := 3) (v := nI j) rfl rfl ej ?_
      refine law_sw h1 hn hi6 hj li (fun t li2 => ?_)
      refine z_iinc (pc' := 1634) (v := nI (i + 6)) (lv' := [_, _, _, _]) rfl rfl rfl (by decide) (nI_add i 6) rfl ?_
      refine z_goto rfl ?_
      exact ih (i + 6) t (by omega) (by omega) li2
def lwD (s0 s1 : Nat → Int32) : Nat → Nat → Int32 := fun k => if k = 1000 then s0 else if k = 1001 then s1 else fun _ => 0
theorem lwD_0 {s0 s1 : Nat → Int32} : ∀ a, a < 228 → lwD s0 s1 a = fun _ => 0 := fun a h => by unfold lwD; rw [if_neg (by omega), if_neg (by omega)]
theorem li_0 {s0 s1 : Nat → Int32} {L : Nat → Nat → Int64} : LI s0 s1 (hp (lwD s0 s1) L) := by
  have z : ∀ a, a < 228 → ∀ j, lwD s0 s1 a j = nI 0 := fun a h j => by rw [lwD_0 a h]; rfl
  have t0 : ∀ j, j < 13 → ∀ i, tv (lwD s0 s1) j i = nI 0 := fun j hj i => by
    show tvt (lwD s0 s1) 1 j i = nI 0
    unfold tvt
    rw [if_pos hj]
    exact z _ (by omega) i
  have ew : nw (tv (lwD s0 s1)) = 0 := by show (tv (lwD s0 s1) 0 0).toNatClampNeg = 0; rw [t0 0 (by decide)]; rfl
  have eb : nb (tv (lwD s0 s1)) = 0 := by show (tv (lwD s0 s1) 0 1).toNatClampNeg = 0; rw [t0 0 (by decide)]; rfl
  have es : ns (tv (lwD s0 s1)) = 0 := by show (tv (lwD s0 s1) 0 2).toNatClampNeg = 0; rw [t0 0 (by decide)]; rfl
  have i0 : ∀ n, 0 < n → is (nI 0) n := fun n hn => ⟨rfl, hn⟩
  refine ⟨_, L, rfl, ⟨Nat.le_of_ble_eq_true rfl, rfl, rfl⟩, [], fun _ => none, [], ⟨?_, gp_nil, fun s hs T h => by cases h⟩, ⟨⟨Nat.zero_le _, z 0 (by decide) 14, 0, by decide, z 0 (by decide) 13, fun j hj => absurd hj (Nat.not_lt_zero j)⟩, ⟨0, by decide, z 0 (by decide) 15, fun s hs => ⟨Nat.zero_testBit s, fun T h => by cases h⟩⟩, ⟨Nat.zero_le _, z 27 (by decide) 1, fun i hi => absurd hi (Nat.not_lt_zero i)⟩, fun i hi => by rw [z 25 (by decide)]; exact i0 _ (by decide)⟩, ⟨?_, ⟨Nat.zero_le _, z 205 (by decide) 5, fun j hj => absurd hj (Nat.not_lt_zero j)⟩, fun s hs => ⟨z 210 (by decide) s, fun T h => by cases h⟩, z 205 (by decide) 7, fun i hi => absurd hi (Nat.not_lt_zero i)⟩⟩
  · refine ⟨⟨?_, ?_, ?_, ?_, ?_⟩, fun w hw => ?_, fun b hb => ?_, fun i hi => ?_, fun i hi => ?_⟩
    · rw [t0 0 (by decide)]; exact i0 _ (by decide)
    · rw [t0 0 (by decide)]; exact i0 _ (by decide)
    · rw [t0 0 (by decide)]; exact i0 _ (by decide)
    · rw [t0 0 (by decide)]; exact i0 _ (Nat.two_pow_pos _)
    · rw [t0 0 (by decide)]; exact i0 _ (Nat.two_pow_pos _)
    · rw [ew] at hw; exact absurd hw (Nat.not_lt_zero _)
    · rw [eb] at hb; exact absurd hb (Nat.not_lt_zero _)
    · rw [t0 11 (by decide)]; exact i0 _ (by decide)
    · rw [es] at hi; exact absurd hi (Nat.not_lt_zero _)
  · refine ⟨⟨?_, ?_, ?_, ?_⟩, fun w hw => ?_, fun b hb => ?_, fun w b q hw => ?_, fun i hi => ?_⟩
    · rw [t0 0 (by decide), z 206 (by decide)]
    · rw [t0 0 (by decide), z 206 (by decide)]
    · rw [t0 0 (by decide), z 206 (by decide)]
    · rw [t0 0 (by decide), z 206 (by decide)]
    · rw [ew] at hw; exact absurd hw (Nat.not_lt_zero _)
    · rw [eb] at hb; exact absurd hb (Nat.not_lt_zero _)
    · rw [ew] at hw; exact absurd hw (Nat.not_lt_zero _)
    · rw [es] at hi; exact absurd hi (Nat.not_lt_zero _)
set_option maxRecDepth 20000 in
set_option maxHeartbeats 1000000 in
theorem law_all {s0 s1 : Nat → Int32} {n : Nat} {Q : bh_Q} (h1 : s1 0 = nI n) (hn : n < 10000) (hQ : ∀ t, Q (some (.int 1)) t) : bg m_L_law 16 Q 0 [.ref 1000, .null, .null, .null] [] (0, 0) (0, bh_R0, lwD s0 s1, fun _ _ => 0) := by
  refine z_new (pc' := 3) (v1 := 1) (v2 := 16) (N' := 1) rfl rfl (by decide) rfl (by decide) rfl rfl (Nat.le_of_ble_eq_true rfl) rfl (Nat.le_of_ble_eq_true rfl) rfl (lwD_0 _ (by decide)) ?_
  refine z_dup (pc' := 4) rfl rfl ?_
  refine z_call (pc' := 7) (d1 := 2) (Bs := []) (v1 := 205) (v2 := 8546) (N := 1) (N' := 205) rfl rfl rfl rfl (by decide) rfl rfl (by decide) rfl rfl (Nat.le_of_ble_eq_true rfl) (Nat.le_of_ble_eq_true rfl) rfl (by decide) (fun _ => rfl) rfl (by decide) ?_
  refine w_X9_init lwD_0 (fun _ => rfl) ⟨rfl, ?_⟩
  refine z_astore (pc' := 8) (lv' := [_, _, _, _]) rfl rfl (by decide) rfl ?_
  refine z_new (pc' := 11) (v1 := 206) (v2 := 8579) (N' := 206) rfl rfl (by decide) rfl (by decide) rfl rfl (Nat.le_of_ble_eq_true rfl) rfl (Nat.le_of_ble_eq_true rfl) rfl (lwD_0 _ (by decide)) ?_
  refine z_dup (pc' := 12) rfl rfl ?_
  refine z_call (pc' := 15) (d1 := 1) (Bs := []) (v1 := 228) (v2 := 17198) (N := 206) (N' := 228) rfl rfl rfl rfl (by decide) rfl rfl (by decide) rfl rfl (Nat.le_of_ble_eq_true rfl) (Nat.le_of_ble_eq_true rfl) rfl (by decide) (fun _ => rfl) rfl (by decide) ?_
  refine w_X10_init_205 rfl lwD_0 (fun _ => rfl) ⟨rfl, ?_⟩
  refine z_astore (pc' := 16) (lv' := [_, _, _, _]) rfl rfl (by decide) rfl ?_
  refine z_int (pc' := 17) (v := nI 0) rfl rfl rfl ?_
  refine z_istore (pc' := 18) (lv' := [_, _, _, _]) rfl rfl (by decide) rfl ?_
  exact law_loop h1 hn hQ (n + 1) 0 _ (by omega) (by omega) li_0
