/-! ===== what is told is a town ===== -/
section bh_tw
variable {S : TW} {w v k x y u i j : Nat}
theorem x00 : (shS (awS S w v) w k x y) 0 0 = nI (w + 1) := by simp only [shS, awS, up2_at]; simp
theorem x0j (h : j ≠ 0) : (shS (awS S w v) w k x y) 0 j = S 0 j := by simp only [shS, awS, up2_at]; simp [h]
theorem x1 : (shS (awS S w v) w k x y) 1 u = if u = w then nI v else S 1 u := aw_pu
theorem x2 : (shS (awS S w v) w k x y) 2 u = if u = w then nI k else S 2 u := by simp only [shS, awS, up2_at]; by_cases e : u = w <;> simp [e]
theorem x3 : (shS (awS S w v) w k x y) 3 u = if u = w then nI x else S 3 u := by simp only [shS, awS, up2_at]; by_cases e : u = w <;> simp [e]
theorem x4 : (shS (awS S w v) w k x y) 4 u = if u = w then nI y else S 4 u := by simp only [shS, awS, up2_at]; by_cases e : u = w <;> simp [e]
theorem x5 : (shS (awS S w v) w k x y) 5 u = if u = w then -1 else S 5 u := by simp only [shS, awS, up2_at]; by_cases e : u = w <;> simp [e]
theorem x6 : (shS (awS S w v) w k x y) 6 u = if u = w then nI 0 else S 6 u := by simp only [shS, awS, up2_at]; by_cases e : u = w <;> simp [e]
theorem x7 : (shS (awS S w v) w k x y) 7 u = if u = w then nI 0 else S 7 u := by simp only [shS, awS, up2_at]; by_cases e : u = w <;> simp [e]
theorem x8 : (shS (awS S w v) w k x y) 8 u = if u = w then nI 0 else S 8 u := by simp only [shS, awS, up2_at]; by_cases e : u = w <;> simp [e]
theorem x9 (h : 9 ≤ j) : (shS (awS S w v) w k x y) j u = S j u := by
  simp only [shS, awS, up2_at]
  have h0 : j ≠ 0 := by omega
  have h1 : j ≠ 1 := by omega
  have h2 : j ≠ 2 := by omega
  have h3 : j ≠ 3 := by omega
  have h4 : j ≠ 4 := by omega
  have h5 : j ≠ 5 := by omega
  have h6 : j ≠ 6 := by omega
  have h7 : j ≠ 7 := by omega
  have h8 : j ≠ 8 := by omega
  simp [h0, h1, h2, h3, h4, h5, h6, h7, h8]
end bh_tw
/-- a writer more: what the rows must say -/
def AwP (S X : TW) (w v k x y : Nat) (o : Int32) : Prop := X 0 0 = nI (w + 1) ∧ (∀ j, j ≠ 0 → X 0 j = S 0 j) ∧ (∀ u, u ≠ w → ∀ j, 1 ≤ j → j < 9 → X j u = S j u) ∧ (∀ j, 9 ≤ j → X j = S j) ∧ X 1 w = nI v ∧ X 2 w = nI k ∧ X 3 w = nI x ∧ X 4 w = nI y ∧ X 5 w = o ∧ X 6 w = nI 0 ∧ X 7 w = nI 0 ∧ X 8 w = nI 0
theorem awP1 {S : TW} {w v k x y : Nat} : AwP S (shS (awS S w v) w k x y) w v k x y (-1) := by
  refine ⟨x00, fun j h => x0j h, fun u hu j h1 h2 => ?_, fun j h => funext fun i => x9 h, ?_, ?_, ?_, ?_, ?_, ?_, ?_, ?_⟩
  · rcases (show j = 1 ∨ j = 2 ∨ j = 3 ∨ j = 4 ∨ j = 5 ∨ j = 6 ∨ j = 7 ∨ j = 8 by omega) with rfl | rfl | rfl | rfl | rfl | rfl | rfl | rfl
    · rw [x1, if_neg hu]
    · rw [x2, if_neg hu]
    · rw [x3, if_neg hu]
    · rw [x4, if_neg hu]
    · rw [x5, if_neg hu]
    · rw [x6, if_neg hu]
    · rw [x7, if_neg hu]
    · rw [x8, if_neg hu]
  · rw [x1, if_pos rfl]
  · rw [x2, if_pos rfl]
  · rw [x3, if_pos rfl]
  · rw [x4, if_pos rfl]
  · rw [x5, if_pos rfl]
  · rw [x6, if_pos rfl]
  · rw [x7, if_pos rfl]
  · rw [x8, if_pos rfl]
theorem awP2 {S X : TW} {w v k x y u : Nat} {o : Int32} (h : AwP S X w v k x y o) : AwP S (suS X w u) w v k x y (nI u) := by
  obtain ⟨h0, h1, h2, h3, h4, h5, h6, h7, h8, h9, h10, h11⟩ := h
  have e : ∀ j i, j ≠ 5 → suS X w u j i = X j i := fun j i hj => by unfold suS; rw [up2_at, if_neg (fun z => hj z.1)]
  refine ⟨(e 0 0 (by decide)).trans h0, fun j hj => (e 0 j (by decide)).trans (h1 j hj), fun v hv j g1 g2 => ?_, fun j hj => funext fun i => (e j i (by omega)).trans (congrFun (h3 j hj) i), (e _ _ (by decide)).trans h4, (e _ _ (by decide)).trans h5, (e _ _ (by decide)).trans h6, (e _ _ (by decide)).trans h7, bh_up2_self _ _ _ _, (e _ _ (by decide)).trans h9, (e _ _ (by decide)).trans h10, (e _ _ (by decide)).trans h11⟩
  by_cases h5 : j = 5
  · subst h5; unfold suS; rw [up2_at, if_neg (fun z => hv z.2)]; exact h2 v hv 5 (by decide) (by decide)
  · exact (e j v h5).trans (h2 v hv j g1 g2)
theorem is_mono {x : Int32} {a b : Nat} (h : is x a) (hab : a ≤ b) : is x b := ⟨h.1, Nat.lt_of_lt_of_le h.2 hab⟩
theorem aw_wf {S X : TW} (hW : WF S) {v k x y : Nat} {o : Int32} (hw : nw S < 12) (h : AwP S X (nw S) v k x y o) (hv : v < 100) (hk : hok k x y) (ho : o = -1 ∨ ∃ u, u < nw S ∧ o = nI u ∧ pu S u < v) : WF X := by
  obtain ⟨h0, h1, h2, h3, h4, h5, h6, h7, h8, h9, h10, h11⟩ := h
  have enw : nw X = nw S + 1 := by show (X 0 0).toNatClampNeg = _; rw [h0, nI_clamp (by omega)]
  have enb : nb X = nb S := by show (X 0 1).toNatClampNeg = _; rw [h1 1 (by decide)]; rfl
  have ens : ns X = ns S := by show (X 0 2).toNatClampNeg = _; rw [h1 2 (by decide)]; rfl
  have epu : ∀ u, u ≠ nw S → pu X u = pu S u := fun u hu => by show (X 1 u).toNatClampNeg = _; rw [h2 u hu 1 (by decide) (by decide)]; rfl
  have eun : ∀ u, u ≠ nw S → un X u = un S u := fun u hu => by show (X 5 u).toNatClampNeg = _; rw [h2 u hu 5 (by decide) (by decide)]; rfl
  obtain ⟨⟨a0, a1, a2, a3, a4⟩, bW, bB, bS, bV⟩ := hW
  refine ⟨⟨?_, ?_, ?_, ?_, ?_⟩, ?_, ?_, ?_, ?_⟩
  · rw [h0]; exact is_nI (by omega) (by decide)
  · rw [h1 1 (by decide)]; exact a1
  · rw [h1 2 (by decide)]; exact a2
  · rw [h1 4 (by decide), enw]; exact is_mono a3 (Nat.pow_le_pow_right (by decide) (by omega))
  · rw [h1 5 (by decide), enw]; exact is_mono a4 (Nat.pow_le_pow_right (by decide) (by omega))
  · intro u hu
    rw [enw] at hu
    by_cases e : u = nw S
    · subst e
      have ek : kd X (nw S) = k := by show (X 2 (nw S)).toNatClampNeg = _; rw [h5, nI_clamp (by have := hk.1; omega)]
      have ex : fa X (nw S) = x := by show (X 3 (nw S)).toNatClampNeg = _; rw [h6, nI_clamp (by have := hk.2.1; omega)]
      have ey : fb X (nw S) = y := by show (X 4 (nw S)).toNatClampNeg = _; rw [h7, nI_clamp (by have := hk.2.2.1; omega)]
      have ep : pu X (nw S) = v := by show (X 1 (nw S)).toNatClampNeg = _; rw [h4, nI_clamp (by omega)]
      refine ⟨?_, ?_, ?_, ?_, ?_, ?_, ?_⟩
      · rw [h4]; exact is_nI hv (by decide)
      · rw [h5]; exact is_nI hk.1 (by decide)
      · rw [h6]; exact is_nI hk.2.1 (by decide)
      · rw [h7]; exact is_nI hk.2.2.1 (by decide)
      · rw [ek, ex, ey]; exact hk
      · rw [h11, enb]; exact ⟨by rw [nI_clamp (by decide)], by rw [nI_clamp (by decide)]; exact Nat.two_pow_pos _⟩
      · rcases ho with e | ⟨u, hu, e, hp⟩
        · exact Or.inl (h8.trans e)
        · right
          have e5 : un X (nw S) = u := by show (X 5 (nw S)).toNatClampNeg = _; rw [h8, e, nI_clamp (by omega)]
          rw [e5, ep, epu u (by omega)]
          refine ⟨?_, hp⟩
          rw [h8, e, enw]; exact is_nI (by omega) (by omega)
    · have hu : u < nw S := by omega
      obtain ⟨c1, c2, c3, c4, c5, c6, c7⟩ := bW u hu
      have ek : kd X u = kd S u := by show (X 2 u).toNatClampNeg = _; rw [h2 u e 2 (by decide) (by decide)]; rfl
      have ex : fa X u = fa S u := by show (X 3 u).toNatClampNeg = _; rw [h2 u e 3 (by decide) (by decide)]; rfl
      have ey : fb X u = fb S u := by show (X 4 u).toNatClampNeg = _; rw [h2 u e 4 (by decide) (by decide)]; rfl
      rw [h2 u e 1 (by decide) (by decide), h2 u e 2 (by decide) (by decide), h2 u e 3 (by decide) (by decide), h2 u e 4 (by decide) (by decide), h2 u e 5 (by decide) (by decide), h2 u e 8 (by decide) (by decide), ek, ex, ey, enb, eun u e, epu u e, enw]
      refine ⟨c1, c2, c3, c4, c5, c6, ?_⟩
      rcases c7 with c7 | ⟨c7, c8⟩
      · exact Or.inl c7
      · right
        have hlt : un S u < nw S := c7.2
        rw [epu _ (by omega)]
        exact ⟨is_mono c7 (by omega), c8⟩
  · intro b hb
    rw [enb] at hb
    have e9 : lng X b = lng S b := by show (X 9 b).toNatClampNeg = _; rw [h3 9 (by decide)]; rfl
    rw [h3 9 (by decide), e9, h3 10 (by decide)]
    exact bB b hb
  · intro i hi; rw [h3 11 (by decide)]; exact bS i hi
  · intro i hi; rw [ens] at hi; rw [h3 12 (by decide)]; exact bV i hi
/-- a book more, so far -/
def BkP (S X : TW) (b m : Nat) : Prop := (∀ j, j ≠ 0 → j ≠ 9 → j ≠ 10 → X j = S j) ∧ (∀ i, i ≠ 1 → X 0 i = S 0 i) ∧ X 0 1 = nI (b + 1) ∧ (∀ i, i ≠ b → X 9 i = S 9 i) ∧ X 9 b = nI m ∧ (∀ i, i < b * 8 → X 10 i = S 10 i) ∧ ∀ j, j < m → is (X 10 (b * 8 + j)) 65536
theorem bkP0 {S : TW} {b : Nat} : BkP S (abS S b) b 0 := by
  have e : ∀ j i, j ≠ 0 → j ≠ 9 → abS S b j i = S j i := fun j i h0 h9 => by unfold abS; rw [up2_at, if_neg (fun z => h0 z.1), up2_at, if_neg (fun z => h9 z.1)]
  refine ⟨fun j h0 h9 _ => funext fun i => e j i h0 h9, fun i hi => ?_, bh_up2_self _ _ _ _, fun i hi => ?_, ?_, fun i _ => e 10 i (by decide) (by decide), fun j hj => absurd hj (Nat.not_lt_zero j)⟩
  · unfold abS; rw [up2_at, if_neg (fun z => hi z.2), bh_up2_ne _ _ _ (by decide)]
  · unfold abS; rw [bh_up2_ne _ _ _ (by decide), up2_at, if_neg (fun z => hi z.2)]
  · unfold abS; rw [bh_up2_ne _ _ _ (by decide)]; exact bh_up2_self _ _ _ _
theorem bkPs {S X : TW} {b m v : Nat} (h : BkP S X b m) (hv : v < 65536) : BkP S (apS X b m v) b (m + 1) := by
  obtain ⟨h1, h2, h3, h4, h5, h6, h7⟩ := h
  have e : ∀ j i, j ≠ 9 → j ≠ 10 → apS X b m v j i = X j i := fun j i h0 h9 => by unfold apS; rw [up2_at, if_neg (fun z => h0 z.1), up2_at, if_neg (fun z => h9 z.1)]
  have e10 : ∀ i, apS X b m v 10 i = if i = b * 8 + m then nI v else X 10 i := fun i => by
    unfold apS
    rw [bh_up2_ne _ _ _ (by decide), up2_at]
    by_cases q : i = b * 8 + m
    · rw [if_pos ⟨rfl, q⟩, if_pos q]
    · rw [if_neg (fun z => q z.2), if_neg q]
  refine ⟨fun j h0 h9 h10 => funext fun i => (e j i h9 h10).trans (congrFun (h1 j h0 h9 h10) i), fun i hi => (e 0 i (by decide) (by decide)).trans (h2 i hi), (e 0 1 (by decide) (by decide)).trans h3, fun i hi => ?_, bh_up2_self _ _ _ _, fun i hi => ?_, fun j hj => ?_⟩
  · unfold apS; rw [up2_at, if_neg (fun z => hi z.2), bh_up2_ne _ _ _ (by decide)]; exact h4 i hi
  · rw [e10, if_neg (by omega)]; exact h6 i hi
  · rw [e10]
    by_cases q : j = m
    · rw [if_pos (by omega)]; exact is_nI hv (by decide)
    · rw [if_neg (by omega)]; exact h7 j (by omega)
theorem bk_wf {S X : TW} (hW : WF S) {m : Nat} (hb : nb S < 4) (h : BkP S X (nb S) m) (hm : 0 < m) (hm8 : m ≤ 8) : WF X := by
  obtain ⟨h1, h2, h3, h4, h5, h6, h7⟩ := h
  have enw : nw X = nw S := by show (X 0 0).toNatClampNeg = _; rw [h2 0 (by decide)]; rfl
  have enb : nb X = nb S + 1 := by show (X 0 1).toNatClampNeg = _; rw [h3, nI_clamp (by omega)]
  have ens : ns X = ns S := by show (X 0 2).toNatClampNeg = _; rw [h2 2 (by decide)]; rfl
  have r : ∀ j, j ≠ 0 → j ≠ 9 → j ≠ 10 → X j = S j := h1
  obtain ⟨⟨a0, a1, a2, a3, a4⟩, bW, bB, bS, bV⟩ := hW
  refine ⟨⟨?_, ?_, ?_, ?_, ?_⟩, ?_, ?_, ?_, ?_⟩
  · rw [h2 0 (by decide)]; exact a0
  · rw [h3]; exact is_nI (by omega) (by decide)
  · rw [h2 2 (by decide)]; exact a2
  · rw [h2 4 (by decide), enw]; exact a3
  · rw [h2 5 (by decide), enw]; exact a4
  · intro u hu
    rw [enw] at hu
    obtain ⟨c1, c2, c3, c4, c5, c6, c7⟩ := bW u hu
    have ek : kd X u = kd S u := by show (X 2 u).toNatClampNeg = _; rw [r 2 (by decide) (by decide) (by decide)]; rfl
    have ex : fa X u = fa S u := by show (X 3 u).toNatClampNeg = _; rw [r 3 (by decide) (by decide) (by decide)]; rfl
    have ey : fb X u = fb S u := by show (X 4 u).toNatClampNeg = _; rw [r 4 (by decide) (by decide) (by decide)]; rfl
    have ep : pu X = pu S := funext fun u => by show (X 1 u).toNatClampNeg = _; rw [r 1 (by decide) (by decide) (by decide)]; rfl
    have eu : un X u = un S u := by show (X 5 u).toNatClampNeg = _; rw [r 5 (by decide) (by decide) (by decide)]; rfl
    rw [r 1 (by decide) (by decide) (by decide), r 2 (by decide) (by decide) (by decide), r 3 (by decide) (by decide) (by decide), r 4 (by decide) (by decide) (by decide), r 5 (by decide) (by decide) (by decide), r 8 (by decide) (by decide) (by decide), ek, ex, ey, ep, eu, enw, enb]
    exact ⟨c1, c2, c3, c4, c5, is_mono c6 (Nat.pow_le_pow_right (by decide) (by omega)), c7⟩
  · intro c hc
    rw [enb] at hc
    by_cases e : c = nb S
    · subst e
      have el : lng X (nb S) = m := by show (X 9 (nb S)).toNatClampNeg = _; rw [h5, nI_clamp (by omega)]
      rw [el, h5]
      exact ⟨is_nI (by omega) (by decide), hm, fun q hq => h7 q hq⟩
    · have el : lng X c = lng S c := by show (X 9 c).toNatClampNeg = _; rw [h4 c e]; rfl
      rw [el, h4 c e]
      obtain ⟨d1, d2, d3⟩ := bB c (by omega)
      have h8 : lng S c < 9 := d1.2
      exact ⟨d1, d2, fun q hq => by rw [h6 _ (by omega)]; exact d3 q hq⟩
  · intro i hi; rw [r 11 (by decide) (by decide) (by decide)]; exact bS i hi
  · intro i hi; rw [ens] at hi; rw [r 12 (by decide) (by decide) (by decide)]; exact bV i hi
/-- a habit that is read can be -/
theorem hab2_ok {tp : List Nat} {k e : Nat} (hk : k < 7) (h : (hab2 tp k e).1 = 0) : hok (hab2 tp k e).2.1 (hab2 tp k e).2.2.1 (hab2 tp k e).2.2.2.1 ∧ e ≤ (hab2 tp k e).2.2.2.2 := by
  have hs := sgA k
  unfold hab2 at h ⊢
  by_cases h0 : sg k = 0
  · rw [if_pos h0]; show hok k 0 0 ∧ e ≤ e; exact ⟨⟨hk, by decide, by decide, fun _ => rfl, fun _ => rfl, fun z => by omega, fun z => by omega⟩, Nat.le_refl _⟩
  · rw [if_neg h0] at h ⊢
    by_cases h1 : nF tp (lo4 k) 16 e = 0
    · rw [if_neg (fun z => z h1)] at h ⊢
      have i1 := nF_in h1
      have g1 : e ≤ nE tp e := Nat.le_trans (nS_ge tp e) (nE_ge tp e)
      have hl : lo4 k = if k = 4 then 1 else 0 := rfl
      by_cases h2 : sg k = 1
      · rw [if_pos h2]
        show hok k (nV tp e) 0 ∧ e ≤ nE tp e
        refine ⟨⟨hk, i1.2.1, by decide, fun z => by omega, fun _ => rfl, fun z => ?_, fun z => by omega⟩, g1⟩
        rw [hl, if_pos z] at i1; show nV tp e ≠ 0; omega
      · rw [if_neg h2] at h ⊢
        by_cases h3 : nF tp 0 16 (nE tp e) = 0
        · rw [if_neg (fun z => z h3)] at h ⊢
          have i3 := nF_in h3
          by_cases h4 : nV tp (nE tp e) = nV tp e
          · rw [if_pos h4] at h; exact absurd h (by show ¬ 8 * _ + 2 = 0; omega)
          · rw [if_neg h4]
            show hok k (nV tp e) (nV tp (nE tp e)) ∧ e ≤ nE tp (nE tp e)
            refine ⟨⟨hk, i1.2.1, i3.2.1, fun z => by omega, fun z => by omega, fun z => by omega, fun _ z => h4 z.symm⟩, ?_⟩
            exact Nat.le_trans g1 (Nat.le_trans (nS_ge tp _) (nE_ge tp _))
        · rw [if_pos h3] at h; exact absurd h h3
    · rw [if_pos h1] at h; exact absurd h h1
theorem pHab_ok {tp : List Nat} {a : Nat} (h : (pHab tp a).1 = 0) : hok (pHab tp a).2.1 (pHab tp a).2.2.1 (pHab tp a).2.2.2.1 ∧ a ≤ (pHab tp a).2.2.2.2 := by
  cases hk : kw tp (skp isBk tp a) (skp isLt tp (skp isBk tp a)) with
  | none => rw [pHab_n hk] at h; exact absurd h (by show ¬ 8 * _ + 1 = 0; omega)
  | some k =>
    rw [pHab_s hk] at h ⊢
    have := hab2_ok (kw_lt hk) h
    exact ⟨this.1, Nat.le_trans (Nat.le_trans (skp_ge (p := isBk) a) (skp_ge (p := isLt) _)) this.2⟩
theorem pUn_ok {tp : List Nat} {S : TW} {w a : Nat} (h : (pUn tp S w a).1 = 0) : (pUn tp S w a).2.1 < w ∧ pu S (pUn tp S w a).2.1 < pu S w ∧ a ≤ (pUn tp S w a).2.2 := by
  unfold pUn at h ⊢
  by_cases h0 : wdB tp (skp isBk tp a) (skp isLt tp (skp isBk tp a)) 8 = false
  · rw [if_pos h0] at h; exact absurd h (by show ¬ 8 * _ + 1 = 0; omega)
  · rw [if_neg h0] at h ⊢
    by_cases h1 : nF tp 0 w (skp isLt tp (skp isBk tp a)) = 0
    · rw [if_neg (fun z => z h1)] at h ⊢
      by_cases h2 : pu S w ≤ pu S (nV tp (skp isLt tp (skp isBk tp a)))
      · rw [if_pos h2] at h; exact absurd h (by show ¬ 8 * _ + 4 = 0; omega)
      · rw [if_neg h2]
        exact ⟨(nF_in h1).2.1, Nat.lt_of_not_le h2, Nat.le_trans (Nat.le_trans (skp_ge (p := isBk) a) (skp_ge (p := isLt) _)) (Nat.le_trans (nS_ge tp _) (nE_ge tp _))⟩
    · rw [if_pos h1] at h; exact absurd h h1
theorem pWr_ok {tp : List Nat} {S : TW} (hW : WF S) (hw : nw S < 12) {a : Nat} (h : (pWr tp S a).1 = 0) : WF (pWr tp S a).2.1 ∧ a ≤ (pWr tp S a).2.2 := by
  unfold pWr at h ⊢
  by_cases h0 : nF tp 0 100 a = 0
  · rw [if_neg (fun z => z h0)] at h ⊢
    have i0 := nF_in h0
    have g0 : a ≤ nE tp a := Nat.le_trans (nS_ge tp a) (nE_ge tp a)
    unfold wr2 at h ⊢
    by_cases h1 : (pHab tp (nE tp a)).1 = 0
    · rw [if_neg (fun z => z h1)] at h ⊢
      have i1 := pHab_ok h1
      generalize (pHab tp (nE tp a)).2.1 = k at h i1 ⊢
      generalize (pHab tp (nE tp a)).2.2.1 = x at h i1 ⊢
      generalize (pHab tp (nE tp a)).2.2.2.1 = y at h i1 ⊢
      generalize (pHab tp (nE tp a)).2.2.2.2 = e at h i1 ⊢
      have g1 := skp_ge (p := isBk) (tp := tp) e
      unfold wr3 at h ⊢
      by_cases h2 : letB tp (skp isBk tp e) = true
      · rw [if_pos h2] at h ⊢
        by_cases h3 : (pUn tp (shS (awS S (nw S) (nV tp a)) (nw S) k x y) (nw S) (skp isBk tp e)).1 = 0
        · rw [if_neg (fun z => z h3)]
          have i3 := pUn_ok h3
          have hpw : pu (shS (awS S (nw S) (nV tp a)) (nw S) k x y) (nw S) = nV tp a := by unfold pu; rw [aw_pu, if_pos rfl, nI_clamp (by omega)]
          have hpu : ∀ u, u < nw S → pu (shS (awS S (nw S) (nV tp a)) (nw S) k x y) u = pu S u := fun u hu => by unfold pu; rw [aw_pu, if_neg (by omega)]
          refine ⟨aw_wf hW hw (awP2 awP1) i0.2.1 i1.1 (Or.inr ⟨_, i3.1, rfl, ?_⟩), ?_⟩
          · have q := i3.2.1; rw [hpw, hpu _ i3.1] at q; exact q
          · show a ≤ (pUn tp (shS (awS S (nw S) (nV tp a)) (nw S) k x y) (nw S) (skp isBk tp e)).2.2
            omega
        · rw [if_pos h3] at h; exact absurd h h3
      · rw [if_neg h2]
        refine ⟨aw_wf hW hw awP1 i0.2.1 i1.1 (Or.inl rfl), ?_⟩
        show a ≤ skp isBk tp e
        omega
    · rw [if_pos h1] at h; exact absurd h h1
  · rw [if_pos h0] at h; exact absurd h h0
theorem bkF_ok {tp : List Nat} {S : TW} (hW : WF S) (hb : nb S < 4) : ∀ f m X a, m + f = 9 → BkP S X (nb S) m → (bkF tp S (nb S) f m X a).1 = 0 → (0 < f ∨ 0 < m) → m ≤ 8 → WF (bkF tp S (nb S) f m X a).2.1 ∧ a ≤ (bkF tp S (nb S) f m X a).2.2 := by
  intro f
  induction f with
  | zero => intro m X a hf hB _ _ h8; omega
  | succ f ih =>
    intro m X a hf hB h _ h8
    rw [bkF_s] at h ⊢
    have g0 : a ≤ nE tp a := Nat.le_trans (nS_ge tp a) (nE_ge tp a)
    have g1 := skp_ge (p := isBk) (tp := tp) (nE tp a)
    by_cases h0 : nF tp 0 65536 a = 0
    · rw [if_neg (fun z => z h0)] at h ⊢
      have i0 := nF_in h0
      by_cases h1 : m = 8
      · rw [if_pos h1] at h; exact absurd h (by show ¬ 8 * _ + 3 = 0; omega)
      · rw [if_neg h1] at h ⊢
        have hB2 := bkPs hB i0.2.1
        by_cases h2 : digB tp (skp isBk tp (nE tp a)) = true
        · rw [if_pos h2] at h ⊢
          have := ih (m + 1) _ _ (by omega) hB2 h (Or.inr (by omega)) (by omega)
          exact ⟨this.1, by omega⟩
        · rw [if_neg h2]
          exact ⟨bk_wf hW hb hB2 (by omega) (by omega), by show a ≤ skp isBk tp (nE tp a); omega⟩
    · rw [if_pos h0] at h; exact absurd h h0
theorem pPart_ok {tp : List Nat} {S : TW} (hW : WF S) {a : Nat} (h : (pPart tp S a).1 = 0) : WF (pPart tp S a).2.1 ∧ a ≤ (pPart tp S a).2.2 := by
  have h12 := hW.nwl
  have h4 := hW.nbl
  have g0 : a ≤ skp isLt tp (skp isBk tp a) := Nat.le_trans (skp_ge (p := isBk) a) (skp_ge (p := isLt) _)
  unfold pPart at h ⊢
  by_cases h0 : wdB tp (skp isBk tp a) (skp isLt tp (skp isBk tp a)) 0 = true
  · rw [if_pos h0] at h ⊢
    by_cases h1 : nw S = 12
    · rw [if_pos h1] at h; exact absurd h (by show ¬ 8 * _ + 3 = 0; omega)
    · rw [if_neg h1] at h ⊢
      have := pWr_ok hW (by omega) h
      exact ⟨this.1, by omega⟩
  · rw [if_neg h0] at h ⊢
    by_cases h9 : wdB tp (skp isBk tp a) (skp isLt tp (skp isBk tp a)) 9 = true
    · rw [if_pos h9] at h ⊢
      by_cases h1 : nb S = 4
      · rw [if_pos h1] at h; exact absurd h (by show ¬ 8 * _ + 3 = 0; omega)
      · rw [if_neg h1] at h ⊢
        have := bkF_ok hW (by omega) 9 0 _ _ rfl bkP0 h (Or.inl (by decide)) (by decide)
        exact ⟨this.1, Nat.le_trans g0 this.2⟩
    · rw [if_neg h9] at h; exact absurd h (by show ¬ 8 * _ + 1 = 0; omega)
theorem emS_wf {S : TW} (hs : ∀ i, i < 384 → is (S 11 i) 65536) : WF (emS S) ∧ nw (emS S) = 0 ∧ nb (emS S) = 0 := by
  have e0 : ∀ i, i < 6 → emS S 0 i = nI 0 := fun i hi => by
    rcases (show i = 0 ∨ i = 1 ∨ i = 2 ∨ i = 3 ∨ i = 4 ∨ i = 5 by omega) with rfl | rfl | rfl | rfl | rfl | rfl <;> simp [emS, up2_at]
  have e : ∀ j i, j ≠ 0 → emS S j i = S j i := fun j i hj => by simp [emS, up2_at, hj]
  have z : (nI 0).toNatClampNeg = 0 := nI_clamp (by decide)
  have n0 : nw (emS S) = 0 := by show (emS S 0 0).toNatClampNeg = 0; rw [e0 0 (by decide), z]
  have n1 : nb (emS S) = 0 := by show (emS S 0 1).toNatClampNeg = 0; rw [e0 1 (by decide), z]
  have n2 : ns (emS S) = 0 := by show (emS S 0 2).toNatClampNeg = 0; rw [e0 2 (by decide), z]
  refine ⟨⟨⟨?_, ?_, ?_, ?_, ?_⟩, ?_, ?_, ?_, ?_⟩, n0, n1⟩
  · rw [e0 0 (by decide)]; exact is_nI (by decide) (by decide)
  · rw [e0 1 (by decide)]; exact is_nI (by decide) (by decide)
  · rw [e0 2 (by decide)]; exact is_nI (by decide) (by decide)
  · rw [e0 4 (by decide), n0]; exact is_nI (by decide) (by decide)
  · rw [e0 5 (by decide), n0]; exact is_nI (by decide) (by decide)
  · intro w hw; rw [n0] at hw; exact absurd hw (Nat.not_lt_zero w)
  · intro w hw; rw [n1] at hw; exact absurd hw (Nat.not_lt_zero w)
  · intro i hi; rw [e 11 i (by decide)]; exact hs i hi
  · intro w hw; rw [n2] at hw; exact absurd hw (Nat.not_lt_zero w)
theorem pAll_wf {tp : List Nat} : ∀ f S a, WF S → (pAll tp f S a).1 = 0 → WF (pAll tp f S a).2 := by
  intro f
  induction f with
  | zero => intro S a hW _; exact hW
  | succ f ih =>
    intro S a hW h
    unfold pAll at h ⊢
    by_cases h0 : (pPart tp S a).1 = 0
    · rw [if_neg (fun z => z h0)] at h ⊢
      have i0 := pPart_ok hW h0
      by_cases h1 : tp.length ≤ skp isBk tp (pPart tp S a).2.2
      · rw [if_pos h1]; exact i0.1
      · rw [if_neg h1] at h ⊢
        by_cases h2 : tp.getD (skp isBk tp (pPart tp S a).2.2) 0 = 59
        · rw [if_pos h2] at h ⊢; exact ih _ _ i0.1 h
        · rw [if_neg h2] at h; exact absurd h (by show ¬ 8 * _ + 1 = 0; omega)
    · rw [if_pos h0] at h; exact absurd h h0

