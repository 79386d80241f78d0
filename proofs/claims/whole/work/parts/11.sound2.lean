theorem bh_catmap (g : bh_G) (l : List Value) : ((l.map (bh_tr g)).map fun v => v.category).sum = bh_catsum l := by
  unfold bh_catsum
  rw [List.map_map]
  congr 1
  exact List.map_congr_left fun v _ => bh_tr_cat g v
theorem bh_pln {k : Nat} {t : vw_C} (h : bh_cls[bh_tg k]? = some t) : t.2.2 = bh_ln k := by
  by_cases hk : k < 228
  · have h1 := List.all_eq_true.mp bh_pok_all k (List.mem_range.mpr (by rw [bh_plan_len]; exact hk))
    unfold bh_pok at h1
    rw [h] at h1
    simp only [Bool.and_eq_true] at h1
    exact of_decide_eq_true h1.1
  · have e : bh_tg k = 99 := by
      unfold bh_tg
      rw [List.getD_eq_getElem?_getD, List.getElem?_eq_none (by rw [bh_plan_len]; omega)]
      rfl
    rw [e] at h
    cases h
set_option maxRecDepth 100000 in
theorem bh_arwI : Jvm.Cond.arrayClass (newarray.typeOf (bh_nat 20)) ∈ bh_WS := bh_WS_of (i := 226) (by decide +kernel) (by decide +kernel)
set_option maxRecDepth 100000 in
theorem bh_arwJ : Jvm.Cond.arrayClass (newarray.typeOf (bh_nat 21)) ∈ bh_WS := bh_WS_of (i := 415) (by decide +kernel) (by decide +kernel)
set_option maxRecDepth 100000 in
theorem bh_arwB : Jvm.Cond.arrayClass (newarray.typeOf (bh_nat 22)) ∈ bh_WS := bh_WS_of (i := 595) (by decide +kernel) (by decide +kernel)
set_option maxRecDepth 100000 in
theorem bh_arwZ : Jvm.Cond.arrayClass (newarray.typeOf (bh_nat 23)) ∈ bh_WS := bh_WS_of (i := 1164) (by decide +kernel) (by decide +kernel)
set_option maxRecDepth 100000 in
theorem bh_objI : Jvm.Cond.instanceMethod Lib.objectInit ∈ bh_WS := bh_WS_of (i := 127) (by decide +kernel) (by decide +kernel)
set_option maxRecDepth 100000 in
theorem bh_objC : Jvm.Cond.code Lib.objectInit ⟨#[0xb1]⟩ 1 none ∈ bh_WS := bh_WS_of (i := 128) (by decide +kernel) (by decide +kernel)
set_option maxRecDepth 100000 in
theorem bh_maxS : Jvm.Cond.static Lib.Math.max.name ∈ bh_WS := bh_WS_of (i := 1018) (by decide +kernel) (by decide +kernel)
set_option maxRecDepth 100000 in
theorem bh_minS : Jvm.Cond.static Lib.Math.min.name ∈ bh_WS := bh_WS_of (i := 525) (by decide +kernel) (by decide +kernel)
set_option maxRecDepth 100000 in
theorem bh_mathI : Jvm.Cond.initialized "java/lang/Math" ∈ bh_WS := bh_WS_of (i := 117) (by decide +kernel) (by decide +kernel)
set_option maxRecDepth 100000 in
theorem bh_maxC : Jvm.Cond.code Lib.Math.max.name Lib.Math.max.code 2 (some .int) ∈ bh_WS := bh_WS_of (i := 1019) (by decide +kernel) (by decide +kernel)
set_option maxRecDepth 100000 in
theorem bh_minC : Jvm.Cond.code Lib.Math.min.name Lib.Math.min.code 2 (some .int) ∈ bh_WS := bh_WS_of (i := 526) (by decide +kernel) (by decide +kernel)
set_option maxRecDepth 100000 in
theorem bh_acN : Jvm.Cond.native arraycopyName ∈ bh_WS := bh_WS_of (i := 594) (by decide +kernel) (by decide +kernel)
set_option maxRecDepth 100000 in
theorem bh_acS : Jvm.Cond.static arraycopyName ∈ bh_WS := bh_WS_of (i := 593) (by decide +kernel) (by decide +kernel)
set_option maxRecDepth 100000 in
theorem bh_acI : Jvm.Cond.initialized "java/lang/System" ∈ bh_WS := bh_WS_of (i := 119) (by decide +kernel) (by decide +kernel)
theorem bh_acW {n r d : Nat} (h : n ≤ 8) (h2 : 64 * d ≤ r) (h3 : 1 ≤ d) : n + (nativeFrameWords "java/lang/System" "arraycopy" 5 + 11) ≤ r := by
  have e : nativeFrameWords "java/lang/System" "arraycopy" 5 = 7 := by decide +kernel
  rw [e]
  omega
/-! ===== making, calling, the library ===== -/
section bh_sound2
variable {g : bh_G} {m0 d : Nat} {p : Program} {l : Launch} {e : Env} {R : Room} {S0 : State} {m : MethodId} {args : Array Value} {below : List Frame} {meth : Method} {c : Code} {Qf : State → Prop} {pc len a : Nat} {cn : Int} {l9 : List Nat} {lv st : List Value} {u : Nat × Nat} {h : bh_H}
set_option maxHeartbeats 1000000 in
theorem bs_36 (cx : bh_Cx g m0 d p R S0 m args meth c) (hok : (match bh_cls[a]? with
      | some t => bh_d3 m0 pc len (.new cn.toNat) && bh_at (l9.getD 0 0) (.classLink (bh_O m0) cn.toNat t.1) && bh_at (l9.getD 1 0) (.instantiable t.1 t.2.2) && bh_at (l9.getD 2 0) (.initialized t.1)
      | none => false) = true) (H1 : h.1 < 1000 ∧ bh_tg h.1 = a ∧ a < 20 ∧ u.1 + 1 ≤ bh_mc m0 ∧ u.2 + bh_ln h.1 ≤ bh_ms m0 ∧
        (bh_MP g m0 p l e R S0 m args below meth c Qf) (pc + len) lv (.ref h.1 :: st) (u.1 + 1, u.2 + bh_ln h.1) (h.1 + 1, bh_upr h.2.1 h.1 (fun _ => none), bh_upr h.2.2.1 h.1 (fun _ => 0), h.2.2.2)) : bh_MP g m0 p l e R S0 m args below meth c Qf pc lv st u h := by
  obtain ⟨hx, hb, hml, hown, hts, hm0, hE, hR, hB, hini⟩ := id cx
  obtain ⟨h1, htg, hci, hc1, hc2, H1⟩ := H1
  cases htc : bh_cls[a]? with
  | none => rw [htc] at hok; cases hok
  | some t =>
    rw [htc] at hok
    dsimp only at hok
    simp only [bh_d3, bh_dc, Bool.and_eq_true, decide_eq_true_eq] at hok
    obtain ⟨⟨⟨⟨rfl, hd⟩, hw1⟩, hw2⟩, hw3⟩ := hok
    obtain ⟨hu1, hu2, hu3, hu4⟩ := bh_uok_of htc
    have hln : t.2.2 = bh_ln h.1 := bh_pln (by rw [htg]; exact htc)
    intro H locs ls hP hS hN hX hl
    refine bh_size hP hS hB hN (fun hsz => ?_)
    have hKn := hE.1.1 a _ htc
    refine W.newcK hx hb hown (hts _ (bh_at_WS hw1)) (hts _ (bh_at_WS hw2)) (hts _ (bh_at_WS hw3)) rfl hd (by rw [hR.2.2.1]; exact hc1) (by rw [hR.2.2.2, hln]; exact hc2) hKn.2.1 rfl fun H2 kC hkC e1 z1 o1 => ?_
    have hk : ∀ (k : Nat) (x : Nat × va_E), (bh_ws g h)[k]? = some x → H2[x.1]? = H[x.1]? := fun k x hx => o1 x.1 ((hP k x hx).lt)
    have hS2 : va_S (bh_rg g) S0.heap H2 locs := ⟨Nat.le_trans hS.1 (by omega), fun x h1 h2 => (o1 x (Nat.lt_of_lt_of_le h1 hS.1)).trans (hS.2.1 x h1 h2), hS.2.2⟩
    have hP2 : va_P (bh_gD g) bh_cls (bh_ws g (h.1 + 1, bh_upr h.2.1 h.1 (fun _ => none), bh_upr h.2.2.1 h.1 (fun _ => 0), h.2.2.2)) H2 := by
      rw [← bh_ws_push (g := g) (h := h) (h' := (h.1 + 1, bh_upr h.2.1 h.1 (fun _ => none), bh_upr h.2.2.1 h.1 (fun _ => 0), h.2.2.2)) rfl (bh_E_obj htg hci) (fun j hj => bh_E_congr (bh_upr_ne _ _ (by omega)) (bh_upr_ne _ _ (by omega)) rfl)]
      refine (hP.kept hk).app (fun k x hx => ?_)
      have hz : k < 1 := (List.getElem?_eq_some_iff.mp hx).1
      rw [show k = 0 by omega] at hx
      cases hx
      refine ⟨_, htc, ?_⟩
      rw [← hsz]
      refine (u_born (bh_ty a) hts hu1 hKn hkC e1 hu2).to (fun j hj => ?_)
      unfold vp_V
      rw [List.getD_eq_getElem?_getD, bh_fs_at (by rw [← hln]; exact hj)]
      show defaultValue (bh_ty a j) = bh_fv g _ a h.1 j
      unfold bh_fv
      cases hf : bh_fr a j with
      | true => rw [((hu3 j hj).1 hf).2]; dsimp only; rw [if_pos rfl, bh_upr_self]; rfl
      | false => rw [(hu3 j hj).2 hf]; dsimp only; rw [if_neg (by decide), bh_upr_self]; rfl
    have had : Value.ref H.size = bh_tr g (.ref h.1) := by
      show _ = Value.ref (bh_ad g h.1)
      unfold bh_ad
      rw [if_pos h1, hsz]
    rw [had, hln]
    refine H1 H2 locs ls hP2 hS2 (by dsimp only; omega) ⟨(bh_upr_ne _ _ (by omega)).trans hX.1, by show bh_upr h.2.2.1 h.1 _ 1001 0 = _; rw [bh_upr_ne _ _ (by omega)]; exact hX.2.1, by dsimp only; omega⟩ hl
set_option maxHeartbeats 1000000 in
theorem bs_37 (cx : bh_Cx g m0 d p R S0 m args meth c) (hok : (decide (20 ≤ a ∧ a ≤ 23) && decide (len = 2) && bh_dc m0 pc (.newarray (bh_nat a)) 2) = true) (H1 : ∃ n s, st = .int n :: s ∧ h.1 < 1000 ∧ bh_tg h.1 = a ∧ ¬ n < 0 ∧ n.toNatClampNeg = bh_ln h.1 ∧ bh_ln h.1 < 10000 ∧ u.1 + 1 ≤ bh_mc m0 ∧ u.2 + bh_ln h.1 ≤ bh_ms m0 ∧
        (bh_MP g m0 p l e R S0 m args below meth c Qf) (pc + len) lv (.ref h.1 :: s) (u.1 + 1, u.2 + bh_ln h.1) (h.1 + 1, h.2.1, bh_upr h.2.2.1 h.1 (fun _ => 0), bh_upr h.2.2.2 h.1 (fun _ => 0))) : bh_MP g m0 p l e R S0 m args below meth c Qf pc lv st u h := by
  obtain ⟨hx, hb, hml, hown, hts, hm0, hE, hR, hB, hini⟩ := id cx
  obtain ⟨n, sk, rfl, h1, htg, hn, hnl, hlb, hc1, hc2, H1⟩ := H1
  simp only [bh_dc, Bool.and_eq_true, decide_eq_true_eq] at hok
  obtain ⟨⟨har, rfl⟩, hd⟩ := hok
  intro H locs ls hP hS hN hX hl
  refine bh_size hP hS hB hN (fun hsz => ?_)
  have hac : (Jvm.Cond.arrayClass (newarray.typeOf (bh_nat a))).before args S0 = true := by
    have hz : a = 20 ∨ a = 21 ∨ a = 22 ∨ a = 23 := by omega
    rcases hz with rfl | rfl | rfl | rfl
    · exact hts _ bh_arwI
    · exact hts _ bh_arwJ
    · exact hts _ bh_arwB
    · exact hts _ bh_arwZ
  have hcb : bh_ln h.1 * componentBytes (newarray.typeOf (bh_nat a)) ≤ 536870912 := by
    have hz : a = 20 ∨ a = 21 ∨ a = 22 ∨ a = 23 := by omega
    have hc8 : componentBytes (newarray.typeOf (bh_nat a)) ≤ 8 := by rcases hz with rfl | rfl | rfl | rfl <;> decide
    exact Nat.le_trans (Nat.mul_le_mul (Nat.le_of_lt hlb) hc8) (by decide)
  refine va_newaK (g := F0 m pc ls (.int n :: sk.map (bh_tr g))) hx hb hac rfl hd rfl hn hnl hcb (by rw [hR.2.2.1]; exact hc1) (by rw [hR.2.2.2]; exact hc2) rfl fun H2 cA e1 z1 o1 hAr hNm => ?_
  have hk : ∀ (k : Nat) (x : Nat × va_E), (bh_ws g h)[k]? = some x → H2[x.1]? = H[x.1]? := fun k x hx => o1 x.1 ((hP k x hx).lt)
  have hS2 : va_S (bh_rg g) S0.heap H2 locs := ⟨Nat.le_trans hS.1 (by omega), fun x h1 h2 => (o1 x (Nat.lt_of_lt_of_le h1 hS.1)).trans (hS.2.1 x h1 h2), hS.2.2⟩
  have hcA : cA = bh_gA g a := by
    have hz : a = 20 ∨ a = 21 ∨ a = 22 ∨ a = 23 := by omega
    rcases hz with rfl | rfl | rfl | rfl
    · exact Option.some.inj ((show S0.vm.findClass ("[" ++ FieldType.int.toString) = some cA from hNm).symm.trans (hE.1.2 0 (bh_gA g 20, .int) rfl).2)
    · exact Option.some.inj ((show S0.vm.findClass ("[" ++ FieldType.long.toString) = some cA from hNm).symm.trans (hE.1.2 1 (bh_gA g 21, .long) rfl).2)
    · exact Option.some.inj ((show S0.vm.findClass ("[" ++ FieldType.byte.toString) = some cA from hNm).symm.trans (hE.1.2 2 (bh_gA g 22, .byte) rfl).2)
    · exact Option.some.inj ((show S0.vm.findClass ("[" ++ FieldType.boolean.toString) = some cA from hNm).symm.trans (hE.1.2 3 (bh_gA g 23, .boolean) rfl).2)
  have hP2 : va_P (bh_gD g) bh_cls (bh_ws g (h.1 + 1, h.2.1, bh_upr h.2.2.1 h.1 (fun _ => 0), bh_upr h.2.2.2 h.1 (fun _ => 0))) H2 := by
    rw [← bh_ws_push (g := g) (h := h) (h' := (h.1 + 1, h.2.1, bh_upr h.2.2.1 h.1 (fun _ => 0), bh_upr h.2.2.2 h.1 (fun _ => 0))) rfl rfl (fun j hj => bh_E_congr rfl (bh_upr_ne _ _ (by omega)) (bh_upr_ne _ _ (by omega)))]
    refine (hP.kept hk).app (fun k x hx => ?_)
    have hz : k < 1 := (List.getElem?_eq_some_iff.mp hx).1
    rw [show k = 0 by omega] at hx
    cases hx
    have hz : a = 20 ∨ a = 21 ∨ a = 22 ∨ a = 23 := by omega
    rcases hz with rfl | rfl | rfl | rfl
    · rw [bh_E_int htg (Or.inl rfl)]
      show H2[bh_gB g + h.1]? = some (vp_cell _ _)
      rw [← hsz, e1, hcA]
      dsimp only
      rw [bh_upr_self]
      rfl
    · rw [bh_E_long htg]
      show H2[bh_gB g + h.1]? = some (vp_cell _ _)
      rw [← hsz, e1, hcA]
      dsimp only
      rw [bh_upr_self]
      rfl
    · rw [bh_E_int htg (Or.inr (Or.inl rfl))]
      show H2[bh_gB g + h.1]? = some (vp_cell _ _)
      rw [← hsz, e1, hcA]
      dsimp only
      rw [bh_upr_self]
      rfl
    · rw [bh_E_int htg (Or.inr (Or.inr rfl))]
      show H2[bh_gB g + h.1]? = some (vp_cell _ _)
      rw [← hsz, e1, hcA]
      dsimp only
      rw [bh_upr_self]
      rfl
  have had : Value.ref H.size = bh_tr g (.ref h.1) := by
    show _ = Value.ref (bh_ad g h.1)
    unfold bh_ad
    rw [if_pos h1, hsz]
  rw [had]
  refine H1 H2 locs ls hP2 hS2 (by dsimp only; omega) ⟨(bh_upr_ne _ _ (by omega)).trans hX.1, by show bh_upr h.2.2.1 h.1 _ 1001 0 = _; rw [bh_upr_ne _ _ (by omega)]; exact hX.2.1, by dsimp only; omega⟩ hl
set_option maxHeartbeats 1000000 in
theorem bs_38 (cx : bh_Cx g m0 d p R S0 m args meth c) (hok : (bh_d3 m0 pc len (.anewarray cn.toNat) && bh_at (l9.getD 0 0) (.classLink (bh_O m0) cn.toNat "BorrowedHands$Town")) = true) (H1 : ∃ n s, st = .int n :: s ∧ h.1 < 1000 ∧ bh_tg h.1 = 24 ∧ ¬ n < 0 ∧ n.toNatClampNeg = bh_ln h.1 ∧ bh_ln h.1 < 10000 ∧ u.1 + 1 ≤ bh_mc m0 ∧ u.2 + bh_ln h.1 ≤ bh_ms m0 ∧
        (bh_MP g m0 p l e R S0 m args below meth c Qf) (pc + len) lv (.ref h.1 :: s) (u.1 + 1, u.2 + bh_ln h.1) (h.1 + 1, bh_upr h.2.1 h.1 (fun _ => none), h.2.2.1, h.2.2.2)) : bh_MP g m0 p l e R S0 m args below meth c Qf pc lv st u h := by
  obtain ⟨hx, hb, hml, hown, hts, hm0, hE, hR, hB, hini⟩ := id cx
  obtain ⟨n, sk, rfl, h1, htg, hn, hnl, hlb, hc1, hc2, H1⟩ := H1
  simp only [bh_d3, bh_dc, Bool.and_eq_true, decide_eq_true_eq] at hok
  obtain ⟨⟨rfl, hd⟩, hw⟩ := hok
  intro H locs ls hP hS hN hX hl
  refine bh_size hP hS hB hN (fun hsz => ?_)
  refine W.anew (g := F0 m pc ls (.int n :: sk.map (bh_tr g))) hx hb hown (hts _ (bh_at_WS hw)) (va_AO.use hE.2.2.1) rfl hd rfl hn (by omega) (by rw [hR.2.2.1]; exact hc1) (by rw [hR.2.2.2, hnl]; exact hc2) fun cA kA comp f1 f2 f3 f4 => ?_
  generalize hH2 : H.push ({ cls := cA, slots := Array.replicate n.toNatClampNeg .null, vm := .none } : Cell) = H2
  have z1 : H2.size = H.size + 1 := by rw [← hH2, Array.size_push]
  have e1 : H2[H.size]? = some (arrV cA n.toNatClampNeg (fun _ => .null)) := by rw [← hH2, Array.getElem?_push_size, ← arrV_new]
  have o1 : ∀ q : Nat, q < H.size → H2[q]? = H[q]? := fun q hq => by rw [← hH2, Array.getElem?_push, if_neg (Nat.ne_of_lt hq)]
  have hk : ∀ (k : Nat) (x : Nat × va_E), (bh_ws g h)[k]? = some x → H2[x.1]? = H[x.1]? := fun k x hx => o1 x.1 ((hP k x hx).lt)
  have hS2 : va_S (bh_rg g) S0.heap H2 locs := ⟨Nat.le_trans hS.1 (by omega), fun x h1 h2 => (o1 x (Nat.lt_of_lt_of_le h1 hS.1)).trans (hS.2.1 x h1 h2), hS.2.2⟩
  have hcA : cA = bh_gA g 24 := by
    obtain ⟨_, _, _, _, _, hz⟩ := (hE.1.2 4 (bh_gA g 24, .object "BorrowedHands$Town") rfl).2
    exact Option.some.inj (f1.symm.trans hz)
  have hP2 : va_P (bh_gD g) bh_cls (bh_ws g (h.1 + 1, bh_upr h.2.1 h.1 (fun _ => none), h.2.2.1, h.2.2.2)) H2 := by
    rw [← bh_ws_push (g := g) (h := h) (h' := (h.1 + 1, bh_upr h.2.1 h.1 (fun _ => none), h.2.2.1, h.2.2.2)) rfl (bh_E_ref htg) (fun j hj => bh_E_congr (bh_upr_ne _ _ (by omega)) rfl rfl)]
    refine (hP.kept hk).app (fun k x hx => ?_)
    have hz : k < 1 := (List.getElem?_eq_some_iff.mp hx).1
    rw [show k = 0 by omega] at hx
    cases hx
    show H2[bh_gB g + h.1]? = some (vp_cell _ _)
    rw [← hsz, e1, hcA, hnl]
    dsimp only
    rw [bh_upr_self]
    rfl
  have had : Value.ref H.size = bh_tr g (.ref h.1) := by
    show _ = Value.ref (bh_ad g h.1)
    unfold bh_ad
    rw [if_pos h1, hsz]
  rw [had, hnl]
  refine H1 H2 locs ls hP2 hS2 (by dsimp only; omega) ⟨hX.1, hX.2.1, by dsimp only; omega⟩ hl
set_option maxHeartbeats 1000000 in
theorem bs_39 (cx : bh_Cx g m0 d p R S0 m args meth c) (hd1 : 1 ≤ d) (hok : (bh_d3 m0 pc len (.invokespecial cn.toNat) && bh_at (l9.getD 0 0) (.methodLink (bh_O m0) cn.toNat Lib.objectInit)) = true) (H1 : ∃ k s, st = .ref k :: s ∧ bh_catsum s ≤ 8 ∧ (bh_MP g m0 p l e R S0 m args below meth c Qf) (pc + len) lv s u h) : bh_MP g m0 p l e R S0 m args below meth c Qf pc lv st u h := by
  obtain ⟨hx, hb, hml, hown, hts, hm0, hE, hR, hB, hini⟩ := id cx
  obtain ⟨k, sk, rfl, hcs, H1⟩ := H1
  simp only [bh_d3, bh_dc, Bool.and_eq_true, decide_eq_true_eq] at hok
  obtain ⟨⟨rfl, hd⟩, hw⟩ := hok
  intro H locs ls hP hS hN hX hl
  refine W.objInit (g := F0 m pc ls (.ref (bh_ad g k) :: sk.map (bh_tr g))) hx hb hown (hts _ (bh_at_WS hw)) (hts _ bh_objI) (hts _ bh_objC) rfl (by rw [hml]; exact hl.1) rfl hd (by omega) (by
    show 2 * 0 + ((sk.map (bh_tr g)).map fun v => v.category).sum + 12 ≤ _
    rw [bh_catmap]
    omega) (H1 H locs ls hP hS hN hX hl)
set_option maxHeartbeats 1000000 in
theorem bs_49 (cx : bh_Cx g m0 d p R S0 m args meth c) (hd1 : 1 ≤ d) (hok : (bh_d3 m0 pc len (.invokestatic cn.toNat) && bh_at (l9.getD 0 0) (.methodLink (bh_O m0) cn.toNat Lib.Math.max.name)) = true) (H1 : ∃ x y s, st = .int y :: .int x :: s ∧ bh_catsum s ≤ 8 ∧ (u.1 ≤ bh_mc m0 ∧ u.2 ≤ bh_ms m0) ∧ (bh_MP g m0 p l e R S0 m args below meth c Qf) (pc + len) lv (.int (if x < y then y else x) :: s) u h) : bh_MP g m0 p l e R S0 m args below meth c Qf pc lv st u h := by
  obtain ⟨hx, hb, hml, hown, hts, hm0, hE, hR, hB, hini⟩ := id cx
  obtain ⟨x, y, sk, rfl, hcs, hcu, H1⟩ := H1
  simp only [bh_d3, bh_dc, Bool.and_eq_true, decide_eq_true_eq] at hok
  obtain ⟨⟨rfl, hd⟩, hw⟩ := hok
  intro H locs ls hP hS hN hX hl
  exact va_mmax hx hb (by rw [hml]; exact hl.1.symm) hown (hts _ (bh_at_WS hw)) (hts _ bh_maxS) (hts _ bh_mathI) (hts _ bh_maxC) (by omega) (by rw [bh_catmap]; omega) (by rw [hR.2.2.1]; exact hcu.1) (by rw [hR.2.2.2]; exact hcu.2) hd (H1 H locs ls hP hS hN hX hl)
set_option maxHeartbeats 1000000 in
theorem bs_50 (cx : bh_Cx g m0 d p R S0 m args meth c) (hd1 : 1 ≤ d) (hok : (bh_d3 m0 pc len (.invokestatic cn.toNat) && bh_at (l9.getD 0 0) (.methodLink (bh_O m0) cn.toNat Lib.Math.min.name)) = true) (H1 : ∃ x y s, st = .int y :: .int x :: s ∧ bh_catsum s ≤ 8 ∧ (u.1 ≤ bh_mc m0 ∧ u.2 ≤ bh_ms m0) ∧ (bh_MP g m0 p l e R S0 m args below meth c Qf) (pc + len) lv (.int (if y < x then y else x) :: s) u h) : bh_MP g m0 p l e R S0 m args below meth c Qf pc lv st u h := by
  obtain ⟨hx, hb, hml, hown, hts, hm0, hE, hR, hB, hini⟩ := id cx
  obtain ⟨x, y, sk, rfl, hcs, hcu, H1⟩ := H1
  simp only [bh_d3, bh_dc, Bool.and_eq_true, decide_eq_true_eq] at hok
  obtain ⟨⟨rfl, hd⟩, hw⟩ := hok
  intro H locs ls hP hS hN hX hl
  exact va_mmin hx hb (by rw [hml]; exact hl.1.symm) hown (hts _ (bh_at_WS hw)) (hts _ bh_minS) (hts _ bh_mathI) (hts _ bh_minC) (by omega) (by rw [bh_catmap]; omega) (by rw [hR.2.2.1]; exact hcu.1) (by rw [hR.2.2.2]; exact hcu.2) hd (H1 H locs ls hP hS hN hX hl)
set_option maxHeartbeats 1000000 in
theorem bs_48 (cx : bh_Cx g m0 d p R S0 m args meth c) (hd1 : 1 ≤ d) (hok : (bh_d3 m0 pc len (.invokestatic cn.toNat) && bh_at (l9.getD 0 0) (.methodLink (bh_O m0) cn.toNat arraycopyName)) = true) (H1 : ∃ n k s, st = .int n :: .int 0 :: .ref k :: .int 0 :: s ∧ ∃ k0 s0, s = .ref k0 :: s0 ∧ bh_catsum s0 ≤ 8 ∧ k < h.1 ∧ k0 < h.1 ∧ bh_tg k = 20 ∧ bh_tg k0 = 20 ∧ ¬ n < 0 ∧ n.toNatClampNeg ≤ bh_ln k ∧ n.toNatClampNeg ≤ bh_ln k0 ∧ k ≠ k0 ∧
        (bh_MP g m0 p l e R S0 m args below meth c Qf) (pc + len) lv s0 u (h.1, h.2.1, bh_upr h.2.2.1 k (va_cpy (h.2.2.1 k0) (h.2.2.1 k) 0 0 n.toNatClampNeg), h.2.2.2)) : bh_MP g m0 p l e R S0 m args below meth c Qf pc lv st u h := by
  obtain ⟨hx, hb, hml, hown, hts, hm0, hE, hR, hB, hini⟩ := id cx
  obtain ⟨n, k, sk, rfl, k0, s0, rfl, hcs, hk, hk0, htg, htg0, hn, hn1, hn2, hne, H1⟩ := H1
  simp only [bh_d3, bh_dc, Bool.and_eq_true, decide_eq_true_eq] at hok
  obtain ⟨⟨rfl, hd⟩, hw⟩ := hok
  intro H locs ls hP hS hN hX hl
  show W p l e R S0 m args below meth c H locs u.1 u.2 Qf (F0 m pc ls (.int n :: .int 0 :: .ref (bh_ad g k) :: .int 0 :: .ref (bh_ad g k0) :: s0.map (bh_tr g)))
  have he := bh_ws_at g hk
  rw [bh_E_int htg (Or.inl rfl)] at he
  have he0 := bh_ws_at g hk0
  rw [bh_E_int htg0 (Or.inl rfl)] at he0
  rw [bh_ad_own hk hX, bh_ad_own hk0 hX]
  refine va_copyi hx hb (by rw [hml]; exact hl.1.symm) hown (hts _ (bh_at_WS hw)) (hts _ bh_acN) (hts _ bh_acS) (hts _ bh_acI) hE.1 hP (bh_ws_D g h) hS k0 k 0 0 (ty := .int) he0 he rfl rfl rfl (sp := 0) (dp := 0) (by decide) (by decide) hn (by simpa using hn2) (by simpa using hn1) (fun i _ => rfl) (by omega) (by rw [bh_catmap]; exact bh_acW hcs hR.2.1 hd1) hd (fun H2 locs2 hP2 hD2 hS2 => ?_)
  rw [bh_ws_set (h' := (h.1, h.2.1, bh_upr h.2.2.1 k (va_cpy (h.2.2.1 k0) (h.2.2.1 k) 0 0 n.toNatClampNeg), h.2.2.2)) (by rfl) hk (by rw [bh_E_int htg (Or.inl rfl)]; dsimp only; rw [bh_upr_self]; rfl) (fun j hj => bh_E_congr rfl (bh_upr_ne _ _ hj) rfl)] at hP2
  have hk2 := bh_ne_own hk hX
  exact H1 H2 locs2 ls hP2 hS2 hN ⟨(bh_upr_ne _ _ hk2.1).trans hX.1, by show bh_upr h.2.2.1 k _ 1001 0 = _; rw [bh_upr_ne _ _ hk2.2]; exact hX.2.1, hX.2.2⟩ hl
end bh_sound2
