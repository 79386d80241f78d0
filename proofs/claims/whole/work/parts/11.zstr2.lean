/-- a free theorem of the library that changes nothing, as a contract over the picture -/
theorem bh_pure {g : bh_G} {l : Launch} {y : MethodName} {bytes : ByteArray} {maxL : Nat} {ret : Option FieldType} {S : Spec} {As : List Value} {h : bh_H} {v : Int32} {P : State → Prop} (hc0 : S.room.cells = 0) (hs0 : S.room.slots = 0)
    (hM : ∀ (V : State), P V → ∃ (P' : Array Value → State → Prop) (Q' : Array Value → State → Outcome → State → Prop), MetFree l y S P' (fun _ _ _ _ _ => True) Q' ∧ S.pre.before (As.map (bh_tr g)).toArray V = true ∧ P' (As.map (bh_tr g)).toArray V ∧ ∀ a s o t, Q' a s o t → PureEnd s o t ∧ o = .returned (some (.int v))) :
    Met l y [.code y bytes maxL ret] S.room (fun a U => bh_Pc g As h a U ∧ ∀ V : State, V.vm = U.vm → V.heap = U.heap → P V) (bh_Qc g (fun r h' => r = some (.int v) ∧ h' = h)) 0 0 (bh_rg g) := by
  intro p e ha hc hk s m args below hf happ hP hT
  obtain ⟨⟨rfl, hsz, hPw, hE, hX⟩, hV⟩ := hP
  obtain ⟨P', Q', hMF, hpre, hP', hQ'⟩ := hM s (hV s rfl rfl)
  have h1 := (Spec.appliesLoose_iff hf).mp happ
  have happ2 : S.appliesLoose y e.platform s = true := (Spec.appliesLoose_iff hf).mpr ⟨h1.1, h1.2.1, h1.2.2.1, h1.2.2.2.1, h1.2.2.2.2.1, h1.2.2.2.2.2.1, h1.2.2.2.2.2.2.1, hpre⟩
  obtain ⟨n, o, r1, r2, r3, hq⟩ := hMF p e ha hc hk s m _ below hf happ2 hP' trivial
  obtain ⟨⟨hret, hW, hsame⟩, ho⟩ := hQ' _ _ _ _ hq
  have hh : (stepsAlone p.tables e n s).heap = s.heap := by
    have := congrArg State.heap (State.sameBut_nil.mp hsame)
    exact this
  refine ⟨n, o, r1, r2, r3, ⟨⟨some (.int v), h, ho, ⟨rfl, rfl⟩, by rw [hh]; exact hPw, hX⟩, by rw [hh]; exact Nat.le_refl _, fun q _ _ => by rw [hh]⟩, [], ⟨hret, hW, State.sameBut.sameButNew hsame 0 0⟩, fun q hq => absurd hq List.not_mem_nil⟩
theorem bh_pure_blind {g : bh_G} {As : List Value} {h : bh_H} {P : State → Prop} : FrameBlind (fun a U => bh_Pc g As h a U ∧ ∀ V : State, V.vm = U.vm → V.heap = U.heap → P V) := by
  rintro a U f mk ⟨h1, h2⟩
  exact ⟨bh_Pc_blind g As h a U f mk h1, fun V e1 e2 => h2 V e1 e2⟩
section bh_strT
variable {g : bh_G} {m0 d : Nat} {p : Program} {l : Launch} {e : Env} {R : Room} {S0 : State} {m : MethodId} {args : Array Value} {below : List Frame} {meth : Method} {c : Code} {Qf : State → Prop} {pc len a : Nat} {cn : Int} {l9 : List Nat} {lv st : List Value} {u : Nat × Nat} {h : bh_H}
set_option maxHeartbeats 1000000 in
theorem bs_46 (cx : bh_Cx g m0 d p R S0 m args meth c) (hd1 : 3 ≤ d) (hok : (bh_d3 m0 pc len (.invokevirtual cn.toNat) && bh_at (l9.getD 0 0) (.methodLink (bh_O m0) cn.toNat yJ0_length_8abf5)) = true) (H1 : ∃ j s, st = .ref (1100 + j) :: s ∧ j < bh_ST.length ∧ bh_catsum s ≤ 8 ∧ (u.1 ≤ bh_mc m0 ∧ u.2 ≤ bh_ms m0) ∧ (bh_MP g m0 p l e R S0 m args below meth c Qf) (pc + len) lv (.int (nI (bh_sl j)) :: s) u h) : bh_MP g m0 p l e R S0 m args below meth c Qf pc lv st u h := by
  obtain ⟨hx, hb, hml, hown, hts, hm0, hE, hR, hB, hini⟩ := id cx
  have hSX : bh_SXd g S0 S0.heap := hE.2.2.2.2.2.2.2
  obtain ⟨j, sk, rfl, hj, hcs, hcu, H1⟩ := H1
  have hj : j < 20 := hj
  simp only [bh_d3, bh_dc, Bool.and_eq_true, decide_eq_true_eq] at hok
  obtain ⟨⟨rfl, hd⟩, hw⟩ := hok
  have had : bh_ad g (1100 + j) = bh_gX g (1100 + j) := if_neg (by omega)
  intro H locs ls hP hS hN hX hl
  refine bh_size hP hS hB hN (fun hsz => ?_)
  have hkp : ∀ q, q < bh_gB g → H[q]? = S0.heap[q]? := fun z hz => hS.2.1 z (Nat.lt_of_lt_of_le hz hB) (show ¬ bh_gB g ≤ z by omega)
  have hSH : bh_SXd g S0 H := bh_SXd_kept hkp hSX
  have hSV : ∀ V : State, S0.WarmedH V.vm → V.heap = H → bh_SF g V := fun V hW hh => bh_SXat (by rw [hh]; exact bh_SXd_warm hW hSH)
  have hM : Met l Str.length.name [.code Str.length.name Lib.String.length.code 1 (some .int)] Cold.length.spec.room (fun a U => bh_Pc g [.ref (1100 + j)] h a U ∧ ∀ V : State, V.vm = U.vm → V.heap = U.heap → (S0.WarmedH V.vm ∧ bh_SF g V)) (bh_Qc g (fun r h' => r = some (.int (nI (bh_sl j))) ∧ h' = h)) 0 0 (bh_rg g) := by
    refine bh_pure rfl rfl (fun V hV => ?_)
    obtain ⟨q, arr, a1, a2, a3⟩ := bh_lenA hts hV.1 hV.2 hj
    refine ⟨_, _, Cold.length.met l (bh_gX g (1100 + j)) q 1 arr, ?_, ?_, fun a s o t hq => ⟨hq.1, by rw [hq.2, a3]⟩⟩
    · show Cold.length.spec.pre.before #[.ref (bh_ad g (1100 + j))] V = true
      rw [had]; exact a1
    · show Cold.length.P _ _ _ _ #[.ref (bh_ad g (1100 + j))] V
      rw [had]; exact a2
  have hG : GoodIn bh_WS [Jvm.Cond.code Str.length.name Lib.String.length.code 1 (some .int)] := by
    intro w hw
    cases List.mem_singleton.mp hw
    exact ⟨bh_sw6, good_of_word (bh_WS_good bh_sw6)⟩
  have hrec : ∃ cell : Cell, H[bh_gX g (1100 + j)]? = some cell ∧ cell.vm.isStatics = false ∧ S0.vm.findClass "java/lang/String" = some cell.cls := by
    obtain ⟨q, arr, a1, -⟩ := (hSV { S0 with heap := H } (State.WarmedH.refl S0) rfl).1 j hj
    obtain ⟨a, c, cell, k, q1, q2, q3, q4, q5, q6, -⟩ := Cond.exactly_spec a1
    have e : a = bh_gX g (1100 + j) := by
      have : some (Value.ref (bh_gX g (1100 + j))) = some (.ref a) := q1
      cases this; rfl
    rw [e] at q3
    exact ⟨cell, q3, q5, by rw [q6]; exact q2⟩
  refine bh_callW (va_runV (y := Str.length.name) (As := []) (b := bh_gX g (1100 + j)) (rest := sk.map (bh_tr g)) (Ts := bh_WS) (n := 0) ⟨hx, hb, hml, hown, hts⟩ hM ⟨callB_of (bytes := Lib.String.length.code) (maxL := 1) (ret := some .int) _ hts hG rfl rfl rfl (hts _ bh_sw1) (hts _ (bh_at_WS hw)) ⟨by decide, by decide, by decide +kernel⟩ ?_, hts _ bh_sw4, hts _ bh_sw5⟩ ⟨bh_pure_blind, hrec, ?_⟩ rfl rfl hl.1 ?_ ?_ hd ?_) hS ?_
  · show 1 + 1 ≤ R.frames ∧ 8 + (1 + 11) + 24 ≤ R.locals
    omega
  · intro U hU hW
    refine ⟨⟨?_, by rw [hU, hsz], by rw [hU]; exact hP, ?_, hX⟩, fun V e1 e2 => ?_⟩
    · show #[Value.ref (bh_gX g (1100 + j))] = #[.ref (bh_ad g (1100 + j))]
      rw [had]
    · rw [hU]
      exact bh_Ext_warm hW (bh_Ext_kept hkp hE)
    · have hW2 : S0.WarmedH V.vm := by rw [e1]; exact hW
      exact ⟨hW2, hSV V hW2 (e2.trans hU)⟩
  · show bh_tr g (.ref (1100 + j)) :: sk.map (bh_tr g) = _
    show Value.ref (bh_ad g (1100 + j)) :: sk.map (bh_tr g) = _
    rw [had]; rfl
  · rw [bh_catmap]
    show 2 * 0 + _ ≤ 8
    omega
  · rw [hR.2.2.1, hR.2.2.2]
    exact ⟨hcu.1, hcu.2⟩
  · intro r h' H2 locs2 hq2 hP2 hX2 hS2
    obtain ⟨rfl, rfl⟩ := hq2
    exact H1 H2 locs2 ls hP2 hS2 hN hX2 hl
set_option maxHeartbeats 1000000 in
theorem bs_47 (cx : bh_Cx g m0 d p R S0 m args meth c) (hd1 : 6 ≤ d) (hok : (bh_d3 m0 pc len (.invokevirtual cn.toNat) && bh_at (l9.getD 0 0) (.methodLink (bh_O m0) cn.toNat yJ0_charAt_5068e)) = true) (H1 : ∃ i j s, st = .int i :: .ref (1100 + j) :: s ∧ j < bh_ST.length ∧ bh_catsum s ≤ 8 ∧ (u.1 ≤ bh_mc m0 ∧ u.2 ≤ bh_ms m0) ∧ vp_in i (bh_sl j) ∧ (bh_MP g m0 p l e R S0 m args below meth c Qf) (pc + len) lv (.int (bh_sc j i.toNatClampNeg) :: s) u h) : bh_MP g m0 p l e R S0 m args below meth c Qf pc lv st u h := by
  obtain ⟨hx, hb, hml, hown, hts, hm0, hE, hR, hB, hini⟩ := id cx
  have hSX : bh_SXd g S0 S0.heap := hE.2.2.2.2.2.2.2
  obtain ⟨i0, j, sk, rfl, hj, hcs, hcu, hin, H1⟩ := H1
  have hj : j < 20 := hj
  have hsl := bh_sl_small j hj
  obtain ⟨i, hi, rfl⟩ := vp_in_of hin (by omega)
  rw [nI_clamp (by omega)] at H1
  simp only [bh_d3, bh_dc, Bool.and_eq_true, decide_eq_true_eq] at hok
  obtain ⟨⟨rfl, hd⟩, hw⟩ := hok
  have had : bh_ad g (1100 + j) = bh_gX g (1100 + j) := if_neg (by omega)
  intro H locs ls hP hS hN hX hl
  refine bh_size hP hS hB hN (fun hsz => ?_)
  have hkp : ∀ q, q < bh_gB g → H[q]? = S0.heap[q]? := fun z hz => hS.2.1 z (Nat.lt_of_lt_of_le hz hB) (show ¬ bh_gB g ≤ z by omega)
  have hSH : bh_SXd g S0 H := bh_SXd_kept hkp hSX
  have hSV : ∀ V : State, S0.WarmedH V.vm → V.heap = H → bh_SF g V := fun V hW hh => bh_SXat (by rw [hh]; exact bh_SXd_warm hW hSH)
  have hM : Met l Str.charAt.name [.code Str.charAt.name Str.charAt.code 2 (some .char)] Cold.charAt.spec.room (fun a U => bh_Pc g [.ref (1100 + j), .int (nI i)] h a U ∧ ∀ V : State, V.vm = U.vm → V.heap = U.heap → (S0.WarmedH V.vm ∧ bh_SF g V)) (bh_Qc g (fun r h' => r = some (.int (bh_sc j i)) ∧ h' = h)) 0 0 (bh_rg g) := by
    refine bh_pure rfl rfl (fun V hV => ?_)
    obtain ⟨q, fmt, arr, a1, a2⟩ := bh_charA hts hV.1 hV.2 hj hi
    refine ⟨_, _, Cold.charAt.met l (bh_gX g (1100 + j)) q (nI i) (bh_sc j i) 1 fmt arr, ?_, ?_, fun a s o t hq => ⟨hq.1, by rw [hq.2, bh_sc_again j hj i hi]⟩⟩
    · show Cold.charAt.spec.pre.before #[.ref (bh_ad g (1100 + j)), .int (nI i)] V = true
      rw [had]; exact a1
    · show Cold.charAt.P _ _ _ _ _ _ _ #[.ref (bh_ad g (1100 + j)), .int (nI i)] V
      rw [had]; exact a2
  have hG : GoodIn bh_WS [Jvm.Cond.code Str.charAt.name Str.charAt.code 2 (some .char)] := by
    intro w hw
    cases List.mem_singleton.mp hw
    exact ⟨bh_sw14, good_of_word (bh_WS_good bh_sw14)⟩
  have hrec : ∃ cell : Cell, H[bh_gX g (1100 + j)]? = some cell ∧ cell.vm.isStatics = false ∧ S0.vm.findClass "java/lang/String" = some cell.cls := by
    obtain ⟨q, arr, a1, -⟩ := (hSV { S0 with heap := H } (State.WarmedH.refl S0) rfl).1 j hj
    obtain ⟨a, c, cell, k, q1, q2, q3, q4, q5, q6, -⟩ := Cond.exactly_spec a1
    have e : a = bh_gX g (1100 + j) := by
      have : some (Value.ref (bh_gX g (1100 + j))) = some (.ref a) := q1
      cases this; rfl
    rw [e] at q3
    exact ⟨cell, q3, q5, by rw [q6]; exact q2⟩
  refine bh_callW (va_runV (y := Str.charAt.name) (As := [.int (nI i)]) (b := bh_gX g (1100 + j)) (rest := sk.map (bh_tr g)) (Ts := bh_WS) (n := 1) ⟨hx, hb, hml, hown, hts⟩ hM ⟨callB_of (bytes := Str.charAt.code) (maxL := 2) (ret := some .char) _ hts hG rfl rfl rfl (hts _ bh_sw1) (hts _ (bh_at_WS hw)) ⟨by decide, by decide, by decide +kernel⟩ ?_, hts _ bh_sw12, hts _ bh_sw13⟩ ⟨bh_pure_blind, hrec, ?_⟩ rfl rfl hl.1 ?_ ?_ hd ?_) hS ?_
  · show 3 + 1 ≤ R.frames ∧ 8 + (2 + 11) + 72 ≤ R.locals
    omega
  · intro U hU hW
    refine ⟨⟨?_, by rw [hU, hsz], by rw [hU]; exact hP, ?_, hX⟩, fun V e1 e2 => ?_⟩
    · show #[Value.ref (bh_gX g (1100 + j)), Value.int (nI i)] = #[.ref (bh_ad g (1100 + j)), .int (nI i)]
      rw [had]
    · rw [hU]
      exact bh_Ext_warm hW (bh_Ext_kept hkp hE)
    · have hW2 : S0.WarmedH V.vm := by rw [e1]; exact hW
      exact ⟨hW2, hSV V hW2 (e2.trans hU)⟩
  · show Value.int (nI i) :: Value.ref (bh_ad g (1100 + j)) :: sk.map (bh_tr g) = _
    rw [had]; rfl
  · rw [bh_catmap]
    show 2 * 0 + _ ≤ 8
    omega
  · rw [hR.2.2.1, hR.2.2.2]
    exact ⟨hcu.1, hcu.2⟩
  · intro r h' H2 locs2 hq2 hP2 hX2 hS2
    obtain ⟨rfl, rfl⟩ := hq2
    exact H1 H2 locs2 ls hP2 hS2 hN hX2 hl
end bh_strT
