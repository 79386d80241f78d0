/-! ===== nothing writes the script ===== -/
def SI (s0 s1 : Nat → Int32) (h : bh_H) : Prop := h.1 ≤ 1000 ∧ h.2.2.1 1000 = s0 ∧ h.2.2.1 1001 = s1
theorem SI.up {s0 s1 : Nat → Int32} {h : bh_H} (hi : SI s0 s1 h) {k : Nat} (hk : k < h.1) {R : Nat → Nat → Option Nat} {j : Nat} {x : Int32} {L : Nat → Nat → Int64} : SI s0 s1 (h.1, R, bh_up2 h.2.2.1 k j x, L) := by
  have := hi.1
  exact ⟨hi.1, (bh_up2_ne _ _ _ (by omega)).trans hi.2.1, (bh_up2_ne _ _ _ (by omega)).trans hi.2.2⟩
theorem SI.upr {s0 s1 : Nat → Int32} {h : bh_H} (hi : SI s0 s1 h) {k n : Nat} (hk : k < 1000) (hn : n ≤ 1000) {R : Nat → Nat → Option Nat} {f : Nat → Int32} {L : Nat → Nat → Int64} : SI s0 s1 (n, R, bh_upr h.2.2.1 k f, L) :=
  ⟨hn, (bh_upr_ne _ _ (by omega)).trans hi.2.1, (bh_upr_ne _ _ (by omega)).trans hi.2.2⟩
theorem bh_st_si {s0 s1 : Nat → Int32} {m : Nat} {c1 c2 : Nat → List Value → bh_H → bh_Q → Prop} {P1 P2 : bh_P} {Q1 Q2 : bh_Q} (hc : ∀ m As h q1 q2, SI s0 s1 h → (∀ r t, SI s0 s1 t → q1 r t → q2 r t) → c1 m As h q1 → c2 m As h q2) (hP : ∀ pc lv st u h, P1 pc lv st u h → SI s0 s1 h → P2 pc lv st u h) (hQ : ∀ r h, SI s0 s1 h → Q1 r h → Q2 r h)
    {pc : Nat} {lv st : List Value} {u : Nat × Nat} {h : bh_H} (hi : SI s0 s1 h) (H : bh_st m c1 P1 Q1 pc lv st u h) : bh_st m c2 P2 Q2 pc lv st u h := by
  have hi1 := hi.1
  unfold bh_st at H ⊢
  generalize bh_cod m pc = q at H ⊢
  obtain ⟨op, len, a, c, l⟩ := q
  dsimp only at H ⊢
  split at H
  case h_24 => obtain ⟨x, s, h1, h2, h3⟩ := H; exact ⟨x, s, h1, fun z => by obtain ⟨t, h4, h5⟩ := h2 z; exact ⟨t, h4, hP _ _ _ _ _ h5 hi⟩, fun z => hP _ _ _ _ _ (h3 z) hi⟩
  case h_25 =>
    obtain ⟨k, s, h1, h2, q, h3, h4, h5, h6⟩ := H
    refine ⟨k, s, h1, h2, q, h3, h4, h5, ?_⟩
    rcases h6 with ⟨h7, r, h8, h9⟩ | ⟨h7, h8⟩
    · exact Or.inl ⟨h7, r, h8, hP _ _ _ _ _ h9 hi⟩
    · exact Or.inr ⟨h7, hP _ _ _ _ _ h8 hi⟩
  case h_26 =>
    obtain ⟨q, h1, h2⟩ := H
    refine ⟨q, h1, ?_⟩
    rcases h2 with ⟨h3, r, k, s, h4, h5, h6, h7, h8, h9⟩ | ⟨h3, x, k, s, h4, h5, h6, h7, h8⟩
    · exact Or.inl ⟨h3, r, k, s, h4, h5, h6, h7, h8, hP _ _ _ _ _ h9 hi⟩
    · exact Or.inr ⟨h3, x, k, s, h4, h5, h6, h7, hP _ _ _ _ _ h8 (hi.up h5)⟩
  case h_27 =>
    obtain ⟨i, k, s, h1, h2⟩ := H
    refine ⟨i, k, s, h1, ?_⟩
    rcases h2 with ⟨h3, h4, h5, h6⟩ | ⟨h3, h4, h5⟩
    · exact Or.inl ⟨h3, h4, h5, hP _ _ _ _ _ h6 hi⟩
    · exact Or.inr ⟨h3, h4, hP _ _ _ _ _ h5 hi⟩
  case h_28 => obtain ⟨x, y, k, s, h1, h2, h3, h4, h5⟩ := H; exact ⟨x, y, k, s, h1, h2, h3, h4, hP _ _ _ _ _ h5 (hi.up h2)⟩
  case h_30 =>
    obtain ⟨x, i, k, s, h1, h2, h3, h4⟩ := H
    refine ⟨x, i, k, s, h1, h2, h3, ?_⟩
    rcases h4 with ⟨h5, h6⟩ | ⟨h5, h6⟩
    · exact Or.inl ⟨h5, hP _ _ _ _ _ h6 (hi.up h2)⟩
    · exact Or.inr ⟨h5, hP _ _ _ _ _ h6 (hi.up h2)⟩
  case h_32 => obtain ⟨x, y, k, s, h1, h2, h3, h4, h5⟩ := H; exact ⟨x, y, k, s, h1, h2, h3, h4, hP _ _ _ _ _ h5 hi⟩
  case h_34 => obtain ⟨x, y, k, s, h1, h2, h3, h4, h5, h6, h7⟩ := H; exact ⟨x, y, k, s, h1, h2, h3, h4, h5, h6, hP _ _ _ _ _ h7 hi⟩
  case h_35 =>
    obtain ⟨k, s, h1, h2⟩ := H
    refine ⟨k, s, h1, ?_⟩
    rcases h2 with ⟨h3, h4, h5, h6⟩ | ⟨h3, h4⟩
    · exact Or.inl ⟨h3, h4, h5, hP _ _ _ _ _ h6 hi⟩
    · exact Or.inr ⟨h3, hP _ _ _ _ _ h4 hi⟩
  case h_36 => obtain ⟨h1, h2, h3, h4, h5, h6⟩ := H; exact ⟨h1, h2, h3, h4, h5, hP _ _ _ _ _ h6 (hi.upr h1 (by omega))⟩
  case h_37 => obtain ⟨n, s, h1, h2, h3, h4, h5, h6, h7, h8, h9⟩ := H; exact ⟨n, s, h1, h2, h3, h4, h5, h6, h7, h8, hP _ _ _ _ _ h9 (hi.upr h2 (by omega))⟩
  case h_38 => obtain ⟨n, s, h1, h2, h3, h4, h5, h6, h7, h8, h9⟩ := H; exact ⟨n, s, h1, h2, h3, h4, h5, h6, h7, h8, hP _ _ _ _ _ h9 ⟨by show h.1 + 1 ≤ 1000; omega, hi.2.1, hi.2.2⟩⟩
  case h_40 =>
    obtain ⟨q, As, s, h1, h2, h3, h4, h5, h6, h7, h8, h9⟩ := H
    exact ⟨q, As, s, h1, h2, h3, h4, h5, h6, h7, h8, hc _ _ _ _ _ hi (fun r t w z => ⟨z.1, hP _ _ _ _ _ z.2 w⟩) h9⟩
  case h_41 => obtain ⟨x, h1, h0, h2, h3⟩ := H; exact ⟨x, h1, h0, h2, hQ _ _ hi h3⟩
  case h_42 => obtain ⟨x, h1, h0, h2, h3⟩ := H; exact ⟨x, h1, h0, h2, hQ _ _ hi h3⟩
  case h_43 => obtain ⟨x, h1, h0, h2, h3⟩ := H; exact ⟨x, h1, h0, h2, hQ _ _ hi h3⟩
  case h_44 => obtain ⟨h1, h0, h2, h3⟩ := H; exact ⟨h1, h0, h2, hQ _ _ hi h3⟩
  case h_46 => obtain ⟨x, s, h1, h2, h3, h4, h5⟩ := H; exact ⟨x, s, h1, h2, h3, h4, hP _ _ _ _ _ h5 hi⟩
  case h_47 => obtain ⟨x, y, s, h1, h2, h3, h4, h5, h6⟩ := H; exact ⟨x, y, s, h1, h2, h3, h4, h5, hP _ _ _ _ _ h6 hi⟩
  case h_48 =>
    obtain ⟨n, k, s, h1, k0, s0, h2, h3, h4, h5, h6, h7, h8, h9, h10, h11, h12⟩ := H
    exact ⟨n, k, s, h1, k0, s0, h2, h3, h4, h5, h6, h7, h8, h9, h10, h11, hP _ _ _ _ _ h12 (hi.upr (Nat.lt_of_lt_of_le h4 hi1) hi1)⟩
  all_goals first
    | exact hP _ _ _ _ _ H hi
    | (obtain ⟨x, h1, h2⟩ := H; exact ⟨x, h1, hP _ _ _ _ _ h2 hi⟩)
    | (obtain ⟨x, h1, h2, h3⟩ := H; exact ⟨x, h1, h2, hP _ _ _ _ _ h3 hi⟩)
    | (obtain ⟨x, s, h1, h2⟩ := H; exact ⟨x, s, h1, hP _ _ _ _ _ h2 hi⟩)
    | (obtain ⟨x, s, h1, h2, h3⟩ := H; exact ⟨x, s, h1, h2, hP _ _ _ _ _ h3 hi⟩)
    | (obtain ⟨x, s, h1, h2, h3⟩ := H; exact ⟨x, s, h1, fun z => hP _ _ _ _ _ (h2 z) hi, fun z => hP _ _ _ _ _ (h3 z) hi⟩)
    | (obtain ⟨x, y, s, h1, h2⟩ := H; exact ⟨x, y, s, h1, hP _ _ _ _ _ h2 hi⟩)
    | (obtain ⟨x, y, s, h1, h2, h3⟩ := H; exact ⟨x, y, s, h1, h2, hP _ _ _ _ _ h3 hi⟩)
    | (obtain ⟨x, y, s, h1, h2, h3⟩ := H; exact ⟨x, y, s, h1, fun z => hP _ _ _ _ _ (h2 z) hi, fun z => hP _ _ _ _ _ (h3 z) hi⟩)
    | (obtain ⟨x, y, s, h1, h2, h3, h4⟩ := H; exact ⟨x, y, s, h1, h2, h3, hP _ _ _ _ _ h4 hi⟩)
    | (obtain ⟨x, y, s, h1, h2, h3, h4, h5⟩ := H; exact ⟨x, y, s, h1, h2, h3, h4, hP _ _ _ _ _ h5 hi⟩)
    | (obtain ⟨x, y, k, s, h1, h2, h3, h4, h5, h6⟩ := H; exact ⟨x, y, k, s, h1, h2, h3, h4, h5, hP _ _ _ _ _ h6 hi⟩)
    | exact H
theorem bh_wc_si {s0 s1 : Nat → Int32} : ∀ {d m : Nat} {As : List Value} {h : bh_H} {Q : bh_Q}, SI s0 s1 h → bh_wc d m As h Q → bh_wc d m As h (fun r t => SI s0 s1 t ∧ Q r t) := by
  intro d
  induction d with
  | zero => intro m As h Q _ H; exact H
  | succ d ih =>
    intro m As h Q hi H
    refine ⟨H.1, fun P hP => H.2 (fun pc lv st u h => SI s0 s1 h → P pc lv st u h) (fun pc lv st u h z hi => ?_) hi⟩
    exact hP _ _ _ _ _ (bh_st_si (s0 := s0) (s1 := s1) (c1 := bh_wc d) (c2 := bh_wc d) (fun m As h q1 q2 hi hq z => bh_wc_mono (fun r t w => hq r t w.1 w.2) (ih hi z)) (fun _ _ _ _ _ y hi => y hi) (fun r h hi q => ⟨hi, q⟩) hi z)
/-! ===== rules of the picture at any use of room, on any heap ===== -/
abbrev bg (m d : Nat) (Q : bh_Q) (pc : Nat) (lv st : List Value) (u : Nat × Nat) (h : bh_H) : Prop := bh_wf m (bh_wc d) Q pc lv st u h
section bh_rulez
variable {m d : Nat} {Q : bh_Q} {pc pc' len a : Nat} {c : Int} {l : List Nat} {lv lv' st : List Value} {u : Nat × Nat} {h : bh_H}
theorem z_int (hc : bh_cod m pc = (1, len, a, c, l)) (hp0 : pc + len = pc') {v : Int32} (hv : Int32.ofInt c = v) (k : bg m d Q pc' lv (.int v :: st) u h) : bg m d Q pc lv st u h := by
  subst hp0; subst hv; apply bh_go; unfold bh_st; rw [hc]; exact k
theorem z_iload (hc : bh_cod m pc = (3, len, a, c, l)) (hp0 : pc + len = pc') {x : Int32} (hx : lv[a]? = some (.int x)) (k : bg m d Q pc' lv (.int x :: st) u h) : bg m d Q pc lv st u h := by
  subst hp0; apply bh_go; unfold bh_st; rw [hc]; exact ⟨x, hx, k⟩
theorem z_aload (hc : bh_cod m pc = (5, len, a, c, l)) (hp0 : pc + len = pc') {x : Nat} (hx : lv[a]? = some (.ref x)) (k : bg m d Q pc' lv (.ref x :: st) u h) : bg m d Q pc lv st u h := by
  subst hp0; apply bh_go; unfold bh_st; rw [hc]; exact ⟨x, hx, k⟩
theorem z_istore (hc : bh_cod m pc = (6, len, a, c, l)) (hp0 : pc + len = pc') {x : Int32} (ha : a < bh_mL m) (hl : bh_sto lv a (.int x) = lv') (k : bg m d Q pc' lv' st u h) : bg m d Q pc lv (.int x :: st) u h := by
  subst hp0; subst hl; apply bh_go; unfold bh_st; rw [hc]; exact ⟨x, st, rfl, ha, k⟩
theorem z_astore (hc : bh_cod m pc = (8, len, a, c, l)) (hp0 : pc + len = pc') {x : Nat} (ha : a < bh_mL m) (hl : bh_sto lv a (.ref x) = lv') (k : bg m d Q pc' lv' st u h) : bg m d Q pc lv (.ref x :: st) u h := by
  subst hp0; subst hl; apply bh_go; unfold bh_st; rw [hc]; exact ⟨x, st, rfl, ha, k⟩
theorem z_iinc (hc : bh_cod m pc = (9, len, a, c, l)) (hp0 : pc + len = pc') {x v : Int32} (hx : lv[a]? = some (.int x)) (ha : a < bh_mL m) (hv : x + Int32.ofInt c = v) (hl : bh_sto lv a (.int v) = lv') (k : bg m d Q pc' lv' st u h) : bg m d Q pc lv st u h := by
  subst hp0; subst hv; subst hl; apply bh_go; unfold bh_st; rw [hc]; exact ⟨x, hx, ha, k⟩
theorem z_ib (hc : bh_cod m pc = (10, len, a, c, l)) (hp0 : pc + len = pc') {x y v : Int32} (hv : bh_ib a x y = v) (k : bg m d Q pc' lv (.int v :: st) u h) : bg m d Q pc lv (.int y :: .int x :: st) u h := by
  subst hp0; subst hv; apply bh_go; unfold bh_st; rw [hc]; exact ⟨x, y, st, rfl, k⟩
theorem z_dup (hc : bh_cod m pc = (18, len, a, c, l)) (hp0 : pc + len = pc') {x : Nat} (k : bg m d Q pc' lv (.ref x :: .ref x :: st) u h) : bg m d Q pc lv (.ref x :: st) u h := by
  subst hp0; apply bh_go; unfold bh_st; rw [hc]; exact ⟨.ref x, st, rfl, rfl, k⟩
theorem z_ic (hc : bh_cod m pc = (22, len, a, c, l)) (hp0 : pc + len = pc') {x y : Int32} (k1 : bh_cmp c x y → bg m d Q a lv st u h) (k2 : ¬ bh_cmp c x y → bg m d Q pc' lv st u h) : bg m d Q pc lv (.int y :: .int x :: st) u h := by
  subst hp0; apply bh_go; unfold bh_st; rw [hc]; exact ⟨x, y, st, rfl, k1, k2⟩
theorem z_goto (hc : bh_cod m pc = (23, len, a, c, l)) (k : bg m d Q a lv st u h) : bg m d Q pc lv st u h := by
  apply bh_go; unfold bh_st; rw [hc]; exact k
theorem z_sw (hc : bh_cod m pc = (24, len, a, c, l)) {n : Nat} (hn : n < 2 ^ 31) (hc0 : c = 0) (k1 : ∀ t, l[n]? = some t → bg m d Q t lv st u h) (k2 : l.length ≤ n → bg m d Q a lv st u h) : bg m d Q pc lv (.int (nI n) :: st) u h := by
  have e : (nI n).toInt = (n : Int) := nI_toInt hn
  subst hc0
  apply bh_go; unfold bh_st; rw [hc]
  refine ⟨nI n, st, rfl, fun hz => ?_, fun hz => k2 (by rw [e] at hz; omega)⟩
  rw [e] at hz
  have hl : n < l.length := by omega
  refine ⟨l[n], ?_, k1 _ (List.getElem?_eq_getElem hl)⟩
  rw [e, show ((n : Int) - 0).toNat = n by omega]
  exact List.getElem?_eq_getElem hl
theorem z_getR {k0 r : Nat} {q : String × Nat × Nat × Nat} (hc : bh_cod m pc = (25, len, a, c, l)) (hp0 : pc + len = pc') (hq : bh_FL[a]? = some q) (hk : k0 < h.1) (ht : bh_tg k0 = q.2.2.1) (hj : q.2.2.2 < bh_ln k0) (hf : bh_fr q.2.2.1 q.2.2.2 = true) (hr : h.2.1 k0 q.2.2.2 = some r) (k : bg m d Q pc' lv (.ref r :: st) u h) : bg m d Q pc lv (.ref k0 :: st) u h := by
  subst hp0; apply bh_go; unfold bh_st; rw [hc]; exact ⟨k0, st, rfl, hk, q, hq, ht, hj, Or.inl ⟨hf, r, hr, k⟩⟩
theorem z_putR {k0 r N : Nat} {R R' : Nat → Nat → Option Nat} {D : Nat → Nat → Int32} {L : Nat → Nat → Int64} {q : String × Nat × Nat × Nat} (hc : bh_cod m pc = (26, len, a, c, l)) (hp0 : pc + len = pc') (hq : bh_FL[a]? = some q) (hf : bh_fr q.2.2.1 q.2.2.2 = true) (hk : k0 < N) (hrr : r < N) (ht : bh_tg k0 = q.2.2.1) (hj : q.2.2.2 < bh_ln k0) (hR : bh_up2 R k0 q.2.2.2 (some r) = R') (k : bg m d Q pc' lv st u (N, R', D, L)) : bg m d Q pc lv (.ref r :: .ref k0 :: st) u (N, R, D, L) := by
  subst hp0; subst hR; apply bh_go; unfold bh_st; rw [hc]; exact ⟨q, hq, Or.inl ⟨hf, r, k0, st, rfl, hk, hrr, ht, hj, k⟩⟩
theorem z_scr {n i : Nat} {x : Int32} {s0 s1 : Nat → Int32} (hc : bh_cod m pc = (27, len, a, c, l)) (hp0 : pc + len = pc') (hS : SI s0 s1 h) (h1 : s1 0 = nI n) (hn : n < 10000) (hi : i < n) (hx : s0 i = x) (k : bg m d Q pc' lv (.int x :: st) u h) : bg m d Q pc lv (.int (nI i) :: .ref 1000 :: st) u h := by
  subst hp0; subst hx; apply bh_go; unfold bh_st; rw [hc]
  refine ⟨nI i, 1000, st, rfl, Or.inr ⟨rfl, ?_, ?_⟩⟩
  · rw [hS.2.2, h1, nI_clamp (by omega)]; exact vp_in_nI hi (by omega)
  · rw [hS.2.1, nI_clamp (by omega)]; exact k
theorem z_aast {k0 r n N : Nat} {R R' : Nat → Nat → Option Nat} {D : Nat → Nat → Int32} {L : Nat → Nat → Int64} (hc : bh_cod m pc = (34, len, a, c, l)) (hp0 : pc + len = pc') (hk : k0 < N) (hr : r < N) (ht : bh_tg k0 = 24) (ht2 : bh_tg r = 7) (hn : n < bh_ln k0) (hl : bh_ln k0 ≤ 10000) (hR : bh_up2 R k0 n (some r) = R') (k : bg m d Q pc' lv st u (N, R', D, L)) : bg m d Q pc lv (.ref r :: .int (nI n) :: .ref k0 :: st) u (N, R, D, L) := by
  subst hp0; subst hR; apply bh_go; unfold bh_st; rw [hc]
  refine ⟨r, nI n, k0, st, rfl, hk, hr, ht, ht2, vp_in_nI hn (by omega), ?_⟩
  rw [nI_clamp (by omega)]; exact k
theorem z_alen {n : Nat} {s0 s1 : Nat → Int32} (hc : bh_cod m pc = (35, len, a, c, l)) (hp0 : pc + len = pc') (hS : SI s0 s1 h) (h1 : s1 0 = nI n) (k : bg m d Q pc' lv (.int (nI n) :: st) u h) : bg m d Q pc lv (.ref 1000 :: st) u h := by
  subst hp0; apply bh_go; unfold bh_st; rw [hc]
  refine ⟨1000, st, rfl, Or.inr ⟨rfl, ?_⟩⟩
  rw [hS.2.2, h1]; exact k
theorem z_new {N N' u1 u2 v1 v2 : Nat} {R R' : Nat → Nat → Option Nat} {D : Nat → Nat → Int32} {L : Nat → Nat → Int64} (hc : bh_cod m pc = (36, len, a, c, l)) (hp0 : pc + len = pc') (h1 : N < 1000) (h2 : bh_tg N = a) (h3 : a < 20) (hv1 : u1 + 1 = v1) (hN : N + 1 = N') (h4 : v1 ≤ bh_mc m) (h5 : u2 + bh_ln N = v2) (h6 : v2 ≤ bh_ms m) (hR : bh_upr R N (fun _ => none) = R') (hD : D N = fun _ => 0) (k : bg m d Q pc' lv (.ref N :: st) (v1, v2) (N', R', D, L)) : bg m d Q pc lv st (u1, u2) (N, R, D, L) := by
  subst hp0; subst hR; subst h5; subst hv1; subst hN; apply bh_go; unfold bh_st; rw [hc]
  refine ⟨h1, h2, h3, h4, h6, ?_⟩
  have e : bh_upr D N (fun _ => 0) = D := by
    funext k
    by_cases q : k = N
    · subst q; rw [bh_upr_self, hD]
    · rw [bh_upr_ne _ _ q]
  show bh_wf m (bh_wc d) Q _ lv _ _ (N + 1, bh_upr R N (fun _ => none), bh_upr D N (fun _ => 0), L)
  rw [e]; exact k
theorem z_newa {N N' u1 u2 v1 v2 n : Nat} {R : Nat → Nat → Option Nat} {D : Nat → Nat → Int32} {L : Nat → Nat → Int64} (hc : bh_cod m pc = (37, len, a, c, l)) (hp0 : pc + len = pc') (h1 : N < 1000) (h2 : bh_tg N = a) (hn : bh_ln N = n) (hn2 : n < 10000) (hv1 : u1 + 1 = v1) (hN : N + 1 = N') (h4 : v1 ≤ bh_mc m) (h5 : u2 + n = v2) (h6 : v2 ≤ bh_ms m) (hD : D N = fun _ => 0) (hL : L N = fun _ => 0) (k : bg m d Q pc' lv (.ref N :: st) (v1, v2) (N', R, D, L)) : bg m d Q pc lv (.int (nI n) :: st) (u1, u2) (N, R, D, L) := by
  subst hp0; subst hn; subst h5; subst hv1; subst hN; apply bh_go; unfold bh_st; rw [hc]
  refine ⟨nI (bh_ln N), st, rfl, h1, h2, nI_pos (by omega), nI_clamp (by omega), hn2, h4, h6, ?_⟩
  have e : bh_upr D N (fun _ => 0) = D := by
    funext k
    by_cases q : k = N
    · subst q; rw [bh_upr_self, hD]
    · rw [bh_upr_ne _ _ q]
  have e2 : bh_upr L N (fun _ => 0) = L := by
    funext k
    by_cases q : k = N
    · subst q; rw [bh_upr_self, hL]
    · rw [bh_upr_ne _ _ q]
  show bh_wf m (bh_wc d) Q _ lv _ _ (N + 1, R, bh_upr D N (fun _ => 0), bh_upr L N (fun _ => 0))
  rw [e, e2]; exact k
theorem z_anew {N N' u1 u2 v1 v2 n : Nat} {R R' : Nat → Nat → Option Nat} {D : Nat → Nat → Int32} {L : Nat → Nat → Int64} (hc : bh_cod m pc = (38, len, a, c, l)) (hp0 : pc + len = pc') (h1 : N < 1000) (h2 : bh_tg N = 24) (hn : bh_ln N = n) (hn2 : n < 10000) (hv1 : u1 + 1 = v1) (hN : N + 1 = N') (h4 : v1 ≤ bh_mc m) (h5 : u2 + n = v2) (h6 : v2 ≤ bh_ms m) (hR : bh_upr R N (fun _ => none) = R') (k : bg m d Q pc' lv (.ref N :: st) (v1, v2) (N', R', D, L)) : bg m d Q pc lv (.int (nI n) :: st) (u1, u2) (N, R, D, L) := by
  subst hp0; subst hn; subst h5; subst hR; subst hv1; subst hN; apply bh_go; unfold bh_st; rw [hc]
  exact ⟨nI (bh_ln N), st, rfl, h1, h2, nI_pos (by omega), nI_clamp (by omega), hn2, h4, h6, k⟩
theorem z_oi (hc : bh_cod m pc = (39, len, a, c, l)) (hp0 : pc + len = pc') {x : Nat} (hs : bh_catsum st ≤ 8) (k : bg m d Q pc' lv st u h) : bg m d Q pc lv (.ref x :: st) u h := by
  subst hp0; apply bh_go; unfold bh_st; rw [hc]; exact ⟨x, st, rfl, hs, k⟩
theorem z_call {k0 d1 m1 u1 u2 v1 v2 N N' : Nat} {q : String × Nat × Nat × Nat} {Bs rest : List Value} (hc : bh_cod m pc = (40, len, a, c, l)) (hp0 : pc + len = pc') (hq : bh_ML[a]? = some q) (hm : q.2.2.1 = m1) (hkd : q.2.2.2 = 0 ∨ q.2.2.2 = 2 ∨ q.2.2.2 = 4) (hst : st = Bs.reverse ++ .ref k0 :: rest) (hn : Bs.length + 1 = bh_na m1) (hcat : bh_catsum rest ≤ 8) (hv1 : u1 + bh_mc m1 = v1) (hv2 : u2 + bh_ms m1 = v2) (hz1 : v1 ≤ bh_mc m) (hz2 : v2 ≤ bh_ms m) (hN : h.1 = N) (hk : k0 < N) (ht : q.2.2.2 = 0 → bh_tg k0 = bh_ci m1) (hN' : N + bh_mc m1 = N') (hd : d1 ≤ d)
    (k : bh_wc d1 m1 (.ref k0 :: Bs) h (fun r h' => h'.1 = N' ∧ bh_wf m (bh_wc d) Q pc' lv (r.toList ++ rest) (v1, v2) h')) : bg m d Q pc lv st (u1, u2) h := by
  subst hp0
  subst hm
  subst hst
  subst hv1
  subst hv2
  subst hN
  subst hN'
  apply bh_go
  unfold bh_st
  rw [hc]
  refine ⟨q, .ref k0 :: Bs, rest, hq, by simp, hn, hcat, hz1, hz2, fun e => ⟨k0, Bs, rfl, hk, ht e⟩, fun _ => ⟨k0, Bs, rfl⟩, ?_⟩
  exact bh_wc_le hd k
theorem z_iret {x : Int32} {u1 u2 : Nat} (hc : bh_cod m pc = (41, len, a, c, l)) (h1 : u1 ≤ bh_mc m) (h2 : u2 ≤ bh_ms m) (hr : bh_rt m = some .int ∨ (bh_rt m = some .boolean ∧ (x = 0 ∨ x = 1))) (k : Q (some (.int x)) h) : bg m d Q pc lv [.int x] (u1, u2) h := by
  apply bh_go; unfold bh_st; rw [hc]; exact ⟨x, rfl, ⟨h1, h2⟩, hr, k⟩
theorem z_vret {u1 u2 : Nat} (hc : bh_cod m pc = (44, len, a, c, l)) (h1 : u1 ≤ bh_mc m) (h2 : u2 ≤ bh_ms m) (hr : bh_rt m = none) (k : Q none h) : bg m d Q pc lv [] (u1, u2) h := by
  apply bh_go; unfold bh_st; rw [hc]; exact ⟨rfl, ⟨h1, h2⟩, hr, k⟩
theorem z_start {m1 : Nat} {As lv0 : List Value} (h1 : (bh_lay As).length ≤ bh_mL m1) (h2 : bh_ent m1 As = lv0) (k : bg m1 d Q 0 lv0 [] (0, 0) h) : bh_wc (d + 1) m1 As h Q := ⟨h1, by rw [h2]; exact k⟩
end bh_rulez
