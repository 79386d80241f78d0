/-! ===== what stands outside the picture, at the law's entry ===== -/
def bh_fl : List Jvm.Cond := flatC (Jvm.Cond.and given_1 narrow_1)
theorem bh_fl_at {args : Array Value} {s : State} (h : (Jvm.Cond.and given_1 narrow_1).before args s = true) {i : Nat} {w : Jvm.Cond} (hi : bh_fl[i]? = some w) : w.before args s = true := flat_of_before _ h w (List.mem_of_getElem? hi)
/-- where the words on a string begin -/
def bh_stb : List Nat := [9, 19, 28, 37, 49, 61, 74, 88, 104, 121, 138, 158, 178, 198, 218, 241, 264, 288, 313, 340]
def bh_tm (j : Nat) : Jvm.Term := .string (bh_ST.getD j ("", 0, "")).1 (bh_ST.getD j ("", 0, "")).2.1
def bh_tf (j : Nat) : Jvm.Term := .field (bh_tm j) "java/lang/String" "value" "[B"
def bh_sok (j : Nat) : Bool := decide (bh_fl[bh_stb.getD j 0]? = some (.exactly (bh_tm j) "java/lang/String")) && decide (bh_fl[bh_stb.getD j 0 + 1]? = some (.eq (.field (bh_tm j) "java/lang/String" "coder" "B") (.int 0))) && decide (bh_fl[bh_stb.getD j 0 + 2]? = some (.arrayOf (bh_tf j) .byte)) && decide (bh_fl[bh_stb.getD j 0 + 3]? = some (.eq (.length (bh_tf j)) (.int (nI (bh_sl j))))) && (List.range (bh_sl j)).all (fun i => decide (bh_fl[bh_stb.getD j 0 + 4 + i]? = some (.eq (.elem (bh_tf j) (.int (nI i))) (.int (bh_sc j i)))))
set_option maxRecDepth 100000 in
theorem bh_sok_all : (List.range 20).all bh_sok = true := by decide +kernel
theorem bh_str0 {args : Array Value} {s : State} (hg : (Jvm.Cond.and given_1 narrow_1).before args s = true) {j : Nat} (hj : j < 20) : ∃ a : Nat, (bh_tm j).eval args s none [] s = some (.ref a) ∧ ∃ (d : Addr) (arr : Cell), (Jvm.Cond.exactly (.arg 0) "java/lang/String").before #[.ref a] s = true ∧ s.fieldOf? a "java/lang/String" "coder" "B" = some (.int 0) ∧ s.fieldOf? a "java/lang/String" "value" "[B" = some (.ref d) ∧ s.heap[d]? = some arr ∧ s.isArrayOf arr .byte ∧ arr.vm ≠ .unknown ∧ bh_sl j ≤ arr.slots.size ∧ arr.slots.size.toInt32 = nI (bh_sl j) ∧ ∀ i, i < bh_sl j → arr.slots[i]? = some (.int (bh_sc j i)) := by
  have hsl := bh_sl_small j hj
  have hk := List.all_eq_true.mp bh_sok_all j (List.mem_range.mpr hj)
  unfold bh_sok at hk
  simp only [Bool.and_eq_true, decide_eq_true_eq, List.all_eq_true, List.mem_range] at hk
  obtain ⟨⟨⟨⟨k1, k2⟩, k3⟩, k4⟩, k5⟩ := hk
  have c1 := bh_fl_at hg k1
  have c2 := bh_fl_at hg k2
  have c3 := bh_fl_at hg k3
  have c4 := bh_fl_at hg k4
  obtain ⟨a, c, cell, kk, q1, q2, q3, q4, q5, q6, -⟩ := Cond.exactly_spec c1
  have q1 : (bh_tm j).eval args s none [] s = some (.ref a) := q1
  have f2 : s.fieldOf? a "java/lang/String" "coder" "B" = some (.int 0) := (va_fe q1).symm.trans (Cond.eq_int c2 rfl)
  obtain ⟨d, arr, t1, t2, t3⟩ := Term.length_spec (Cond.eq_int (n := nI (bh_sl j)) c4 rfl)
  have f3 : s.fieldOf? a "java/lang/String" "value" "[B" = some (.ref d) := (va_fe q1).symm.trans t1
  obtain ⟨p1, p2, -⟩ := State.arrayAt?_spec t2
  obtain ⟨r1, r2⟩ := Cond.arrayOf_spec c3 t1 p1
  have hs : ∀ i, i < bh_sl j → arr.slots[i]? = some (.int (bh_sc j i)) := fun i hi => by
    obtain ⟨a', jj, cell', e1, e2, e3, -, e5⟩ := Term.elem_spec (Cond.eq_int (n := bh_sc j i) (bh_fl_at hg (k5 i hi)) rfl)
    cases t1.symm.trans e1
    cases t2.symm.trans e3
    have e2 : some (Value.int (nI i)) = some (.int jj) := e2
    have e3 := Value.int.inj (Option.some.inj e2)
    rw [← e3, nI_clamp (by omega)] at e5
    exact e5
  refine ⟨a, q1, d, arr, ?_, f2, f3, p1, r1, r2, ?_, (Value.int.inj t3).symm, hs⟩
  · have e : (Jvm.Term.arg 0).eval #[Value.ref a] s none [] s = some (.ref a) := rfl
    have c1 : (Jvm.Cond.exactly (bh_tm j) "java/lang/String").before args s = true := c1
    simp only [Jvm.Cond.before, Jvm.Cond.holds, Jvm.Cond.value, q1] at c1
    simp only [Jvm.Cond.before, Jvm.Cond.holds, Jvm.Cond.value, e]
    exact c1
  · by_cases hz : bh_sl j ≤ arr.slots.size
    · exact hz
    · have h0 := hs arr.slots.size (by omega)
      rw [Array.getElem?_eq_none (Nat.le_refl _)] at h0
      cases h0
theorem bh_Zs {C n d : String} {v : Value} {A : Nat → Prop} {s : State} (h : va_Z C n d v A s s.heap) : Cold.StaticIs s C n d v := by
  obtain ⟨cf, kf, fi, f, a, cell, h1, h2, h3, h4, h5, h6, h7, -⟩ := h
  exact ⟨cf, fi, kf, f, a, cell, h1, h2, h3, h4, h5, fun e => by rw [e] at h6; exact absurd (show false = true from h6) (by decide), h7⟩
theorem bh_tw1 : Jvm.Cond.laysStatic "java/lang/String" "COMPACT_STRINGS" "Z" ∈ lw_tbl := List.mem_of_getElem? (i := 473) (by decide +kernel)
theorem bh_tw2 : Jvm.Cond.laysStatic "jdk/internal/util/Preconditions" "SIOOBE_FORMATTER" "Ljava/util/function/BiFunction;" ∈ lw_tbl := List.mem_of_getElem? (i := 489) (by decide +kernel)
theorem bh_tw3 : Jvm.Cond.arrayOver (.object "BorrowedHands$Town") ∈ lw_tbl := List.mem_of_getElem? (i := 250) (by decide +kernel)
theorem bh_fw1 : bh_fl[4]? = some (Jvm.Cond.eq (.static "java/lang/String" "COMPACT_STRINGS" "Z") (.int 1)) := by decide +kernel
theorem bh_fw2 : bh_fl[5]? = some (Jvm.Cond.isRef (.static "jdk/internal/util/Preconditions" "SIOOBE_FORMATTER" "Ljava/util/function/BiFunction;")) := by decide +kernel
theorem bh_stat0 {args : Array Value} {s : State} (hts : ∀ w ∈ lw_tbl, w.before args s = true) (hg : (Jvm.Cond.and given_1 narrow_1).before args s = true) : Cold.StaticIs s "java/lang/String" "COMPACT_STRINGS" "Z" (.int 1) ∧ ∃ fmt : Value, ((∃ q, fmt = .ref q) ∨ fmt = .null) ∧ Cold.StaticIs s "jdk/internal/util/Preconditions" "SIOOBE_FORMATTER" "Ljava/util/function/BiFunction;" fmt := by
  refine ⟨bh_Zs (va_Zof (A := fun _ => False) (hts _ bh_tw1) (hts _ (bh_WS_tbl bh_sw1)) (va_eqi (bh_fl_at hg bh_fw1)) (fun _ _ h => h)), ?_⟩
  rcases va_Zqof (A := fun _ => False) (hts _ bh_tw2) (hts _ (bh_WS_tbl bh_sw3)) (bh_fl_at hg bh_fw2) (fun _ _ h => h) with h | ⟨t, h⟩
  · exact ⟨.null, Or.inr rfl, bh_Zs h⟩
  · exact ⟨.ref t, Or.inl ⟨t, rfl⟩, bh_Zs h⟩
/-- classes -/
def bh_ins : List (Nat × Nat) := [(337, 3), (337, 3), (252, 2), (353, 2), (289, 7), (318, 3), (228, 5), (130, 18), (271, 3), (122, 16), (1059, 33)]
def bh_iok (k : Nat) : Bool := match bh_cls[k]? with
  | some q => bh_at (bh_ins.getD k (0, 0)).1 (.instantiable q.1 (bh_ins.getD k (0, 0)).2)
  | none => false
set_option maxRecDepth 100000 in
theorem bh_iok_all : (List.range 11).all bh_iok = true := by decide +kernel
theorem bh_Kc {args : Array Value} {s : State} (hts : ∀ w ∈ bh_WS, w.before args s = true) : ∃ (dC : Nat → ClassId) (dI : Nat → Nat → Nat), ∀ (k : Nat) (q : vw_C), bh_cls[k]? = some q → u_Kn s q.1 q.2.1 q.2.2 (dC k) (dI k) := by
  have h : ∀ k : Nat, ∃ p : ClassId × (Nat → Nat), ∀ q : vw_C, bh_cls[k]? = some q → u_Kn s q.1 q.2.1 q.2.2 p.1 p.2 := by
    intro k
    by_cases hk : k < 11
    · have hq : ∃ q, bh_cls[k]? = some q := ⟨_, List.getElem?_eq_getElem hk⟩
      obtain ⟨q, hq⟩ := hq
      have h1 := List.all_eq_true.mp bh_iok_all k (List.mem_range.mpr hk)
      unfold bh_iok at h1
      rw [hq] at h1
      have h1 : bh_at (bh_ins.getD k (0, 0)).1 (.instantiable q.1 (bh_ins.getD k (0, 0)).2) = true := h1
      obtain ⟨cC, iS, hn⟩ := u_known (T := q.2.1) (N := q.2.2) hts (bh_uok_of hq).1 (hts _ (bh_at_WS h1))
      exact ⟨(cC, iS), fun q' h => by cases hq.symm.trans h; exact hn⟩
    · exact ⟨(0, fun _ => 0), fun q h => absurd (bh_cls_of h) hk⟩
  obtain ⟨f, hf⟩ := Classical.axiomOfChoice h
  exact ⟨fun k => (f k).1, fun k => (f k).2, fun k q hq => hf k q hq⟩
theorem bh_arr0 {args : Array Value} {s : State} {ty : FieldType} (h : (Jvm.Cond.arrayClass ty).before args s = true) : ∃ c : ClassId, ArrOfT s c ty ∧ s.vm.findClass ("[" ++ ty.toString) = some c := by
  obtain ⟨c, k, comp, h1, h2, h3⟩ := Cond.arrayClass_spec h
  exact ⟨c, fun N z => ⟨(fun k h => by cases h), k, h2, comp, h3⟩, h1⟩
/-- links to members of nest mates -/
def bh_nst : List Nat := [131, 229, 253, 272, 290, 319, 338, 354, 636]
def bh_nok (q : String × Nat × Nat × Nat) : Bool := (decide (q.2.2.2 ≠ 3) && decide (q.2.2.2 ≠ 4)) || bh_nst.any (fun i => decide (lw_tbl[i]? = some (.methodLinkNest q.1 q.2.1 (bh_Y q.2.2.1) "BorrowedHands")))
set_option maxRecDepth 100000 in
theorem bh_nok_all : bh_ML.all bh_nok = true := by decide +kernel
theorem bh_nst_of {q : String × Nat × Nat × Nat} (hq : q ∈ bh_ML) (h : q.2.2.2 = 3 ∨ q.2.2.2 = 4) : Jvm.Cond.methodLinkNest q.1 q.2.1 (bh_Y q.2.2.1) "BorrowedHands" ∈ lw_tbl := by
  have h1 := List.all_eq_true.mp bh_nok_all q hq
  unfold bh_nok at h1
  rw [Bool.or_eq_true] at h1
  rcases h1 with h1 | h1
  · simp only [Bool.and_eq_true, decide_eq_true_eq] at h1
    rcases h with h | h
    · exact absurd h h1.1
    · exact absurd h h1.2
  · obtain ⟨i, -, h2⟩ := List.any_eq_true.mp h1
    exact List.mem_of_getElem? (of_decide_eq_true h2)
/-- strings, as the tables have them -/
def bh_srp : List Nat := [459, 550, 551, 552, 553, 554, 555, 556, 565, 566, 1193, 1241, 1242, 1243, 1244, 1245, 1246, 1247, 1251, 1252]
def bh_srk (j : Nat) : Bool := decide (lw_tbl[bh_srp.getD j 0]? = some (.stringRef (bh_ST.getD j ("", 0, "")).1 (bh_ST.getD j ("", 0, "")).2.1 (bh_ST.getD j ("", 0, "")).2.2))
set_option maxRecDepth 100000 in
theorem bh_srk_all : (List.range 20).all bh_srk = true := by decide +kernel
theorem bh_srk_of {j : Nat} (hj : j < 20) : Jvm.Cond.stringRef (bh_ST.getD j ("", 0, "")).1 (bh_ST.getD j ("", 0, "")).2.1 (bh_ST.getD j ("", 0, "")).2.2 ∈ lw_tbl := by
  have h1 := List.all_eq_true.mp bh_srk_all j (List.mem_range.mpr hj)
  exact List.mem_of_getElem? (of_decide_eq_true h1)
theorem bh_ext0 {args : Array Value} {s : State} {b L : Nat} {xs : Nat → Int32} (hts : ∀ w ∈ lw_tbl, w.before args s = true) (hg : (Jvm.Cond.and given_1 narrow_1).before args s = true) (hX : va_X b L xs s s.heap) (hb : b < s.heap.size) (hL : L ≤ 3072) : ∃ g : bh_G, bh_Ext g s s.heap ∧ bh_gB g = s.heap.size ∧ bh_gX g 1000 = b ∧ bh_gL g = L ∧ bh_gS g = xs := by
  have hws : ∀ w ∈ bh_WS, w.before args s = true := fun w hw => hts w (bh_WS_tbl hw)
  obtain ⟨dC, dI, hKc⟩ := bh_Kc hws
  obtain ⟨cI, aI, fI⟩ : ∃ c : ClassId, ArrOfT s c .int ∧ s.vm.findClass ("[" ++ FieldType.int.toString) = some c := bh_arr0 (hws _ bh_arwI)
  obtain ⟨cJ, aJ, fJ⟩ : ∃ c : ClassId, ArrOfT s c .long ∧ s.vm.findClass ("[" ++ FieldType.long.toString) = some c := bh_arr0 (hws _ bh_arwJ)
  obtain ⟨cB, aB, fB⟩ : ∃ c : ClassId, ArrOfT s c .byte ∧ s.vm.findClass ("[" ++ FieldType.byte.toString) = some c := bh_arr0 (hws _ bh_arwB)
  obtain ⟨cZ, aZ, fZ⟩ : ∃ c : ClassId, ArrOfT s c .boolean ∧ s.vm.findClass ("[" ++ FieldType.boolean.toString) = some c := bh_arr0 (hws _ bh_arwZ)
  obtain ⟨comp, cT, kT, w1, w2, w3, w4, w5⟩ := Cond.arrayOver_spec (hts _ bh_tw3)
  have hst : ∀ j : Nat, ∃ a : Nat, j < 20 → (bh_tm j).eval args s none [] s = some (.ref a) ∧ ∃ (d : Addr) (arr : Cell), (Jvm.Cond.exactly (.arg 0) "java/lang/String").before #[.ref a] s = true ∧ s.fieldOf? a "java/lang/String" "coder" "B" = some (.int 0) ∧ s.fieldOf? a "java/lang/String" "value" "[B" = some (.ref d) ∧ s.heap[d]? = some arr ∧ s.isArrayOf arr .byte ∧ arr.vm ≠ .unknown ∧ bh_sl j ≤ arr.slots.size ∧ arr.slots.size.toInt32 = nI (bh_sl j) ∧ ∀ i, i < bh_sl j → arr.slots[i]? = some (.int (bh_sc j i)) := by
    intro j
    by_cases hj : j < 20
    · obtain ⟨a, h⟩ := bh_str0 hg hj
      exact ⟨a, fun _ => h⟩
    · exact ⟨0, fun h => absurd h hj⟩
  obtain ⟨X, hXs⟩ := Classical.axiomOfChoice hst
  obtain ⟨Xf, x0, xj⟩ : ∃ Xf : Nat → Nat, Xf 1000 = b ∧ ∀ j, Xf (1100 + j) = X j := ⟨fun k => if k = 1000 then b else X (k - 1100), if_pos rfl, fun j => by dsimp only; rw [if_neg (by omega), Nat.add_sub_cancel_left]⟩
  obtain ⟨cA, c0, c1, c2, c3, c4⟩ : ∃ cA : Nat → ClassId, cA 20 = cI ∧ cA 21 = cJ ∧ cA 22 = cB ∧ cA 23 = cZ ∧ cA 24 = cT := ⟨fun t => if t = 20 then cI else if t = 21 then cJ else if t = 22 then cB else if t = 23 then cZ else cT, rfl, rfl, rfl, rfl, rfl⟩
  refine ⟨(dC, dI, cA, s.heap.size, Xf, L, xs), ⟨⟨fun k q hq => hKc k q hq, ?_⟩, fun q hq hk => va_Nw.of rfl (hts _ (bh_nst_of hq hk)), va_AO.of (hts _ bh_tw3), ?_, ?_, ?_, hL, ?_⟩, rfl, x0, rfl, rfl⟩
  · intro k q hq
    match k, hq with
    | 0, hq =>
      have hq : some (cA 20, FieldType.int) = some q := hq
      cases hq
      rw [c0]
      exact ⟨aI, fI⟩
    | 1, hq =>
      have hq : some (cA 21, FieldType.long) = some q := hq
      cases hq
      rw [c1]
      exact ⟨aJ, fJ⟩
    | 2, hq =>
      have hq : some (cA 22, FieldType.byte) = some q := hq
      cases hq
      rw [c2]
      exact ⟨aB, fB⟩
    | 3, hq =>
      have hq : some (cA 23, FieldType.boolean) = some q := hq
      cases hq
      rw [c3]
      exact ⟨aZ, fZ⟩
    | 4, hq =>
      have hq : some (cA 24, FieldType.object "BorrowedHands$Town") = some q := hq
      cases hq
      rw [c4]
      exact ⟨fun N z => ⟨(fun k h => by cases h), kT, w3, comp, w4⟩, kT, comp, w3, w4, w1, w5⟩
    | k + 5, hq => simp [bh_tys] at hq
  · intro j q hq
    have hj : j < 20 := (List.getElem?_eq_some_iff.mp hq).1
    have e : bh_ST.getD j ("", 0, "") = q := by rw [List.getD_eq_getElem?_getD, hq]; rfl
    have h1 := hts _ (bh_srk_of hj)
    have h2 := (hXs j hj).1
    unfold bh_tm at h2
    rw [e] at h1 h2
    show vk_R q.1 q.2.1 q.2.2 (Xf (1100 + j)) s
    rw [xj]
    exact vk_R.of h1 h2
  · show va_X (Xf 1000) L xs s s.heap
    rw [x0]; exact hX
  · show Xf 1000 < s.heap.size
    rw [x0]; exact hb
  · refine ⟨s, State.WarmedH.refl s, fun _ _ => rfl, Nat.le_refl _, fun j hj => ?_, bh_stat0 hts hg⟩
    show ∃ (d : Addr) (arr : Cell), (Jvm.Cond.exactly (.arg 0) "java/lang/String").before #[.ref (Xf (1100 + j))] s = true ∧ s.fieldOf? (Xf (1100 + j)) "java/lang/String" "coder" "B" = some (.int 0) ∧ s.fieldOf? (Xf (1100 + j)) "java/lang/String" "value" "[B" = some (.ref d) ∧ s.heap[d]? = some arr ∧ s.isArrayOf arr .byte ∧ arr.vm ≠ .unknown ∧ bh_sl j ≤ arr.slots.size ∧ arr.slots.size.toInt32 = nI (bh_sl j) ∧ ∀ i, i < bh_sl j → arr.slots[i]? = some (.int (bh_sc j i))
    rw [xj]
    exact (hXs j hj).2
