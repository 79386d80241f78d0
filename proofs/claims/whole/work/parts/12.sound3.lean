/-! ===== calls ===== -/
theorem bh_ML_law : bh_ML.all (fun q => decide (q.2.2.1 ≠ m_L_law)) = true := by decide +kernel
theorem bh_mok_of {i : Nat} {q : String × Nat × Nat × Nat} (h : bh_ML[i]? = some q) : q.2.2.1 < 261 ∧ q.2.2.1 ≠ m_L_law ∧ Jvm.Cond.initialized (bh_Y q.2.2.1).cls ∈ bh_WS ∧ ((bh_Y q.2.2.1).cls ≠ "java/lang/invoke/MethodHandle" ∧ (bh_Y q.2.2.1).cls ≠ "java/lang/invoke/VarHandle") ∧
    ((q.2.2.2 = 0 ∧ Jvm.Cond.methodLink q.1 q.2.1 (bh_Y q.2.2.1) ∈ bh_WS ∧ Jvm.Cond.instanceMethod (bh_Y q.2.2.1) ∈ bh_WS ∧ Jvm.Cond.selects (bh_Y q.2.2.1).cls (bh_Y q.2.2.1) (bh_Y q.2.2.1) ∈ bh_WS ∧ (parseMethodDescriptor (bh_Y q.2.2.1).desc).map (fun d => d.parameters.length + 1) = some (bh_na q.2.2.1) ∧ (bh_cls[bh_ci q.2.2.1]?).map (fun t => t.1) = some (bh_Y q.2.2.1).cls) ∨
     (q.2.2.2 = 1 ∧ Jvm.Cond.methodLink q.1 q.2.1 (bh_Y q.2.2.1) ∈ bh_WS ∧ Jvm.Cond.static (bh_Y q.2.2.1) ∈ bh_WS ∧ (parseMethodDescriptor (bh_Y q.2.2.1).desc).map (fun d => d.parameters.length) = some (bh_na q.2.2.1)) ∨
     (q.2.2.2 = 2 ∧ Jvm.Cond.methodLink q.1 q.2.1 (bh_Y q.2.2.1) ∈ bh_WS ∧ Jvm.Cond.instanceMethod (bh_Y q.2.2.1) ∈ bh_WS ∧ (bh_Y q.2.2.1).name = "<init>" ∧ bh_rt q.2.2.1 = none ∧ (parseMethodDescriptor (bh_Y q.2.2.1).desc).map (fun d => d.parameters.length + 1) = some (bh_na q.2.2.1)) ∨
     (q.2.2.2 = 3 ∧ Jvm.Cond.static (bh_Y q.2.2.1) ∈ bh_WS ∧ (parseMethodDescriptor (bh_Y q.2.2.1).desc).map (fun d => d.parameters.length) = some (bh_na q.2.2.1)) ∨
     (q.2.2.2 = 4 ∧ Jvm.Cond.instanceMethod (bh_Y q.2.2.1) ∈ bh_WS ∧ (bh_Y q.2.2.1).name = "<init>" ∧ bh_rt q.2.2.1 = none ∧ (parseMethodDescriptor (bh_Y q.2.2.1).desc).map (fun d => d.parameters.length + 1) = some (bh_na q.2.2.1))) := by
  have hlen : bh_ML.length = 291 := by decide +kernel
  have hi : i < 291 := by
    have := (List.getElem?_eq_some_iff.mp h).1
    rw [hlen] at this
    exact this
  have h1 := mok_all hi
  unfold bh_mok at h1
  rw [h] at h1
  have hlaw : q.2.2.1 ≠ m_L_law := of_decide_eq_true (List.all_eq_true.mp bh_ML_law q (List.mem_of_getElem? h))
  cases hp : bh_MLp[i]? with
  | none => rw [hp] at h1; cases h1
  | some w =>
    rw [hp] at h1
    dsimp only at h1
    simp only [Bool.and_eq_true] at h1
    obtain ⟨⟨⟨h2, h3⟩, h4⟩, h5⟩ := h1
    unfold bh_mh at h4
    simp only [Bool.and_eq_true, decide_eq_true_eq] at h4
    refine ⟨of_decide_eq_true h2, hlaw, bh_at_WS h3, h4, ?_⟩
    split at h5
    next e =>
      simp only [Bool.and_eq_true, decide_eq_true_eq] at h5
      obtain ⟨⟨⟨⟨a1, a2⟩, a3⟩, a4⟩, a5⟩ := h5
      exact Or.inl ⟨e, bh_at_WS a1, bh_at_WS a2, bh_at_WS a3, a4, a5⟩
    next e =>
      simp only [Bool.and_eq_true, decide_eq_true_eq] at h5
      obtain ⟨⟨a1, a2⟩, a3⟩ := h5
      exact Or.inr (Or.inl ⟨e, bh_at_WS a1, bh_at_WS a2, a3⟩)
    next e =>
      simp only [Bool.and_eq_true, decide_eq_true_eq] at h5
      obtain ⟨⟨⟨⟨a1, a2⟩, a3⟩, a4⟩, a5⟩ := h5
      exact Or.inr (Or.inr (Or.inl ⟨e, bh_at_WS a1, bh_at_WS a2, a3, a4, a5⟩))
    next e =>
      simp only [Bool.and_eq_true, decide_eq_true_eq] at h5
      obtain ⟨⟨a1, a2⟩, a3⟩ := h5
      exact Or.inr (Or.inr (Or.inr (Or.inl ⟨e, bh_at_WS a2, a3⟩)))
    next e =>
      simp only [Bool.and_eq_true, decide_eq_true_eq] at h5
      obtain ⟨⟨⟨⟨a1, a2⟩, a3⟩, a4⟩, a5⟩ := h5
      exact Or.inr (Or.inr (Or.inr (Or.inr ⟨e, bh_at_WS a2, a3, a4, a5⟩)))
    next => cases h5
theorem bh_par {y : MethodName} {n : Nat} (h : (parseMethodDescriptor y.desc).map (fun d => d.parameters.length + 1) = some (n + 1)) : (parseMethodDescriptor y.desc).map (fun d => d.parameters.length) = some n := by
  cases hp : parseMethodDescriptor y.desc with
  | none => rw [hp] at h; cases h
  | some sg =>
    rw [hp] at h
    have h2 : sg.parameters.length + 1 = n + 1 := Option.some.inj h
    show some sg.parameters.length = some n
    rw [Nat.succ.inj h2]
theorem bh_mL40 {m : Nat} (hm : m < 261) : bh_mL m ≤ 40 := by
  have h1 := cok_all hm
  unfold bh_cok at h1
  simp only [Bool.and_eq_true, decide_eq_true_eq] at h1
  exact h1.1.1.2
theorem bh_plain {m : Nat} (hm : m < 261) : plainName (bh_Y m).cls = true := by
  have h1 := cok_all hm
  unfold bh_cok at h1
  simp only [Bool.and_eq_true, decide_eq_true_eq] at h1
  exact h1.1.1.1
theorem bh_rmap (g : bh_G) (r : Option Value) (s : List Value) : (r.map (bh_tr g)).toList ++ s.map (bh_tr g) = (r.toList ++ s).map (bh_tr g) := by cases r <;> rfl
section bh_sound3
variable {g : bh_G} {m0 d : Nat} {p : Program} {l : Launch} {e : Env} {R : Room} {S0 : State} {m : MethodId} {args : Array Value} {below : List Frame} {meth : Method} {c : Code} {Qf : State → Prop} {pc len a : Nat} {cn : Int} {l9 : List Nat} {lv st : List Value} {u : Nat × Nat} {h : bh_H} {call : Nat → List Value → bh_H → bh_Q → Prop}
set_option maxHeartbeats 1000000 in
theorem bs_40 (cx : bh_Cx g m0 d p R S0 m args meth c) {d0 : Nat} (hd0 : d0 + 9 ≤ d) (hcall : ∀ m1 As h Q, m1 < 261 → m1 ≠ m_L_law → call m1 As h Q → bh_Mt g l d0 m1 As h Q) (hok : (match bh_ML[a]? with
      | some q => decide (q.1 = bh_O m0) && bh_d3 m0 pc len (match q.2.2.2 with
        | 0 => .invokevirtual q.2.1
        | 1 => .invokestatic q.2.1
        | 2 => .invokespecial q.2.1
        | 3 => .invokestatic q.2.1
        | _ => .invokespecial q.2.1)
      | none => false) = true) (H1 : ∃ q As s, bh_ML[a]? = some q ∧ st = As.reverse ++ s ∧ As.length = bh_na q.2.2.1 ∧ bh_catsum s ≤ 8 ∧ u.1 + bh_mc q.2.2.1 ≤ bh_mc m0 ∧ u.2 + bh_ms q.2.2.1 ≤ bh_ms m0 ∧
        (q.2.2.2 = 0 → ∃ k Bs, As = .ref k :: Bs ∧ k < h.1 ∧ bh_tg k = bh_ci q.2.2.1) ∧ (q.2.2.2 = 2 ∨ q.2.2.2 = 4 → ∃ k Bs, As = .ref k :: Bs) ∧
        call q.2.2.1 As h (fun r h' => h'.1 = h.1 + bh_mc q.2.2.1 ∧ (bh_MP g m0 p l e R S0 m args below meth c Qf) (pc + len) lv (r.toList ++ s) (u.1 + bh_mc q.2.2.1, u.2 + bh_ms q.2.2.1) h')) : bh_MP g m0 p l e R S0 m args below meth c Qf pc lv st u h := by
  obtain ⟨hx, hb, hml, hown, hts, hm0, hE, hR, hB, hini⟩ := id cx
  obtain ⟨q, As, sk, hq, rfl, hna, hcs, hc1, hc2, hk0, hk2, H1⟩ := H1
  rw [hq] at hok
  dsimp only at hok
  simp only [bh_d3, bh_dc, Bool.and_eq_true, decide_eq_true_eq] at hok
  obtain ⟨ho, rfl, hd⟩ := hok
  obtain ⟨hm1, hm2, hw1, hw2, hw3⟩ := bh_mok_of hq
  have hM := hcall _ _ _ _ hm1 hm2 H1
  unfold bh_Mt at hM
  have h40 := bh_mL40 hm1
  intro H locs ls hP hS hN hX hl
  refine bh_size hP hS hB hN (fun hsz => ?_)
  have hown2 := hown
  rw [← ho] at hown2
  have hG := bh_good _ hm1 hm2
  have hRR : (bh_rm d0 q.2.2.1).frames + 1 ≤ R.frames ∧ 8 + (bh_mL q.2.2.1 + 11) + (bh_rm d0 q.2.2.1).locals ≤ R.locals := by
    show d0 + 8 + 1 ≤ R.frames ∧ 8 + (bh_mL q.2.2.1 + 11) + 64 * (d0 + 8) ≤ R.locals
    omega
  have hf : u.1 + bh_mc q.2.2.1 ≤ R.cells ∧ u.2 + bh_ms q.2.2.1 ≤ R.slots := by
    rw [hR.2.2.1, hR.2.2.2]
    exact ⟨hc1, hc2⟩
  have hPc : ∀ U : State, U.heap = H → S0.WarmedH U.vm → bh_Pc g As h (As.map (bh_tr g)).toArray U := by
    intro U hU hW
    refine ⟨rfl, by rw [hU, hsz], by rw [hU]; exact hP, ?_, hX⟩
    rw [hU]
    exact bh_Ext_warm hW (bh_Ext_kept (fun z hz => hS.2.1 z (Nat.lt_of_lt_of_le hz hB) (show ¬ bh_gB g ≤ z by omega)) hE)
  have hW8 : 2 * (F0 m pc ls ((As.reverse ++ sk).map (bh_tr g))).monitorRoom + ((sk.map (bh_tr g)).map fun v => v.category).sum ≤ 8 := by
    rw [bh_catmap]
    show 2 * 0 + _ ≤ 8
    omega
  have hback : ∀ (r : Option Value) (h' : bh_H) (H2 : Heap) (locs2 : List Loc), (h'.1 = h.1 + bh_mc q.2.2.1 ∧ bh_MP g m0 p l e R S0 m args below meth c Qf (pc + 3) lv (r.toList ++ sk) (u.1 + bh_mc q.2.2.1, u.2 + bh_ms q.2.2.1) h') → va_P (bh_gD g) bh_cls (bh_ws g h') H2 → bh_scr g h' → va_S (bh_rg g) S0.heap H2 locs2 → W p l e R S0 m args below meth c H2 locs2 (u.1 + bh_mc q.2.2.1) (u.2 + bh_ms q.2.2.1) Qf (F0 m (pc + 3) ls ((r.map (bh_tr g)).toList ++ sk.map (bh_tr g))) := by
    intro r h' H2 locs2 hq2 hP2 hX2 hS2
    rw [bh_rmap]
    exact hq2.2 H2 locs2 ls hP2 hS2 (by rw [hq2.1]; dsimp only; omega) hX2 hl
  rcases hw3 with ⟨hk, w1, w2, w3, w4, w5⟩ | ⟨hk, w1, w2, w4⟩ | ⟨hk, w1, w2, w3, w5, w4⟩ | ⟨hk, w2, w4⟩ | ⟨hk, w2, w3, w5, w4⟩
  · obtain ⟨k, Bs, rfl, hkN, htg⟩ := hk0 hk
    rw [hk] at hd
    have hn2 : (parseMethodDescriptor (bh_Y q.2.2.1).desc).map (fun d => d.parameters.length) = some Bs.length := by
      rw [← hna] at w4
      exact bh_par w4
    cases hcc : bh_cls[bh_ci q.2.2.1]? with
    | none => rw [hcc] at w5; cases w5
    | some t =>
      rw [hcc] at w5
      have htn : t.1 = (bh_Y q.2.2.1).cls := Option.some.inj w5
      have hci : bh_ci q.2.2.1 < 20 := Nat.lt_of_lt_of_le (bh_cls_of hcc) (by decide)
      have he := bh_ws_at g hkN
      rw [bh_E_obj htg hci] at he
      have hrec := va_recv hE.1 hP hcc he
      rw [htn] at hrec
      have had : bh_ad g k = bh_gB g + k := bh_ad_own hkN hX
      refine bh_callW (va_runV (As := Bs.map (bh_tr g)) (b := bh_gB g + k) (rest := sk.map (bh_tr g)) (Ts := bh_WS) (n := Bs.length) ⟨hx, hb, hml, hown2, hts⟩ hM ⟨callB_of (bytes := bh_B q.2.2.1) (maxL := bh_mL q.2.2.1) (ret := bh_rt q.2.2.1) _ hts hG rfl rfl rfl (hts _ hw1) (hts _ w1) ⟨hw2.1, hw2.2, hn2⟩ hRR, hts _ w2, hts _ w3⟩ ⟨bh_Pc_blind _ _ _, hrec, ?_⟩ rfl (by simp) hl.1 ?_ hW8 hd hf) hS hback
      · intro U hU hW
        have := hPc U hU hW
        rw [← had]
        exact this
      · rw [← had]
        simp [bh_tr]
  · rw [hk] at hd
    refine bh_callW (va_runS (As := As.map (bh_tr g)) (rest := sk.map (bh_tr g)) (Ts := bh_WS) (n := As.length) ⟨hx, hb, hml, hown2, hts⟩ hM ⟨callB_of (bytes := bh_B q.2.2.1) (maxL := bh_mL q.2.2.1) (ret := bh_rt q.2.2.1) _ hts hG rfl rfl rfl (hts _ hw1) (hts _ w1) ⟨hw2.1, hw2.2, by rw [hna]; exact w4⟩ hRR, hts _ w2⟩ ⟨bh_Pc_blind _ _ _, hPc⟩ rfl (by simp) hl.1 (by simp) hW8 hd hf) hS hback
  · obtain ⟨k, Bs, rfl⟩ := hk2 (Or.inl hk)
    rw [hk] at hd
    have hn2 : (parseMethodDescriptor (bh_Y q.2.2.1).desc).map (fun d => d.parameters.length) = some Bs.length := by
      rw [← hna] at w4
      exact bh_par w4
    have hG' := hG
    unfold bh_wsm at hG'
    rw [w5] at hG'
    have hM' := hM
    unfold bh_wsm at hM'
    rw [w5] at hM'
    refine bh_callW (va_runI (As := Bs.map (bh_tr g)) (b := bh_ad g k) (rest := sk.map (bh_tr g)) (Ts := bh_WS) (n := Bs.length) ⟨hx, hb, hml, hown2, hts⟩ hM' ⟨callB_of (bytes := bh_B q.2.2.1) (maxL := bh_mL q.2.2.1) (ret := none) _ hts hG' rfl rfl rfl (hts _ hw1) (hts _ w1) ⟨hw2.1, hw2.2, hn2⟩ hRR, w3, hts _ w2⟩ ⟨bh_Pc_blind _ _ _, hPc⟩ rfl (by simp) hl.1 (by simp [bh_tr]) hW8 hd hf) hS hback
  · rw [hk] at hd
    have hnw := hE.2.1 q (List.mem_of_getElem? hq) (Or.inl hk)
    refine bh_callW (va_runSN (As := As.map (bh_tr g)) (rest := sk.map (bh_tr g)) (Ts := bh_WS) (n := As.length) ⟨hx, hb, hml, hown2, hts⟩ hM ⟨va_cnB (bytes := bh_B q.2.2.1) (maxL := bh_mL q.2.2.1) (ret := bh_rt q.2.2.1) _ hts hG rfl rfl rfl hnw (hts _ hw1) ⟨hw2.1, hw2.2, by rw [hna]; exact w4⟩ hRR, hts _ w2, trivial⟩ ⟨bh_Pc_blind _ _ _, hPc⟩ rfl (by simp) hl.1 (by simp) hW8 hd hf) hS hback
  · obtain ⟨k, Bs, rfl⟩ := hk2 (Or.inr hk)
    rw [hk] at hd
    have hnw := hE.2.1 q (List.mem_of_getElem? hq) (Or.inr hk)
    have hn2 : (parseMethodDescriptor (bh_Y q.2.2.1).desc).map (fun d => d.parameters.length) = some Bs.length := by
      rw [← hna] at w4
      exact bh_par w4
    have hG' := hG
    unfold bh_wsm at hG'
    rw [w5] at hG'
    have hM' := hM
    unfold bh_wsm at hM'
    rw [w5] at hM'
    refine bh_callW (va_runIN (As := Bs.map (bh_tr g)) (b := bh_ad g k) (rest := sk.map (bh_tr g)) (Ts := bh_WS) (n := Bs.length) ⟨hx, hb, hml, hown2, hts⟩ hM' ⟨va_cnB (bytes := bh_B q.2.2.1) (maxL := bh_mL q.2.2.1) (ret := none) _ hts hG' rfl rfl rfl hnw (hts _ hw1) ⟨hw2.1, hw2.2, hn2⟩ hRR, w3, hts _ w2⟩ ⟨bh_Pc_blind _ _ _, hPc⟩ rfl (by simp) hl.1 (by simp [bh_tr]) hW8 hd hf) hS hback
set_option maxHeartbeats 1000000 in
theorem bs_45 (cx : bh_Cx g m0 d p R S0 m args meth c) (hok : (decide (len = 2) && bh_dc m0 pc (.ldc cn.toNat) 2 && (match bh_ST[a]? with
      | some q => decide (q.1 = bh_O m0 ∧ q.2.1 = cn.toNat)
      | none => false)) = true) (H1 : (bh_MP g m0 p l e R S0 m args below meth c Qf) (pc + len) lv (.ref (1100 + a) :: st) u h) : bh_MP g m0 p l e R S0 m args below meth c Qf pc lv st u h := by
  obtain ⟨hx, hb, hml, hown, hts, hm0, hE, hR, hB, hini⟩ := id cx
  simp only [bh_dc, Bool.and_eq_true, decide_eq_true_eq] at hok
  obtain ⟨⟨rfl, hd⟩, hw⟩ := hok
  cases hq : bh_ST[a]? with
  | none => rw [hq] at hw; cases hw
  | some q =>
    rw [hq] at hw
    dsimp only at hw
    obtain ⟨e1, e2⟩ := of_decide_eq_true hw
    intro H locs ls hP hS hN hX hl
    have hR2 := hE.2.2.2.1 a q hq
    rw [e1, e2] at hR2
    refine va_ldcS hx hb hown hR2 hd ?_
    have had : Value.ref (bh_gX g (1100 + a)) = bh_tr g (.ref (1100 + a)) := by
      show _ = Value.ref (bh_ad g (1100 + a))
      unfold bh_ad
      rw [if_neg (by omega)]
    rw [had]
    exact H1 H locs ls hP hS hN hX hl
end bh_sound3
