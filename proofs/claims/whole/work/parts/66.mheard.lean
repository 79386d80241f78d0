/-! ===== the reference: what is heard is the town ===== -/
def HdZ (S : TW) (N : Nat → Int32) : Prop := (∀ w, nw S ≤ w → w < 12 → ∀ j, 5 ≤ j → j < 10 → N (4 + 10 * w + j) = nI 0) ∧ ∀ b, nb S ≤ b → b < 4 → N (508 + 9 * b) = nI 0
theorem tb_out {m n : Nat} (h : m < 2 ^ n) : m.testBit n = false := Nat.testBit_lt_two_pow h
theorem rn_aw {S X : TW} (hW : WF S) {v k x y : Nat} {o : Int32} (hw : nw S < 12) (h : AwP S X (nw S) v k x y o) (hk : hok k x y) {N N' : Nat → Int32} (hR : Rn S N) (hZ : HdZ S N) (e0 : N' 0 = nI (nw S + 1)) (e : ∀ i, i ≠ 0 → (i < 4 + 10 * nw S ∨ 4 + 10 * nw S + 5 ≤ i) → N' i = N i) (r0 : N' (4 + 10 * nw S + 0) = nI v) (r1 : N' (4 + 10 * nw S + 1) = nI k) (r2 : 1 ≤ k → N' (4 + 10 * nw S + 2) = nI x) (r3 : 5 ≤ k → N' (4 + 10 * nw S + 3) = nI y) (r4 : N' (4 + 10 * nw S + 4) = o) : Rn X N' ∧ HdZ X N' := by
  obtain ⟨h0, h1, h2, h3, h4, h5, h6, h7, h8, h9, h10, h11⟩ := h
  have enw : nw X = nw S + 1 := by show (X 0 0).toNatClampNeg = _; rw [h0, nI_clamp (by omega)]
  have enb : nb X = nb S := by show (X 0 1).toNatClampNeg = _; rw [h1 1 (by decide)]; rfl
  have ens : ns X = ns S := by show (X 0 2).toNatClampNeg = _; rw [h1 2 (by decide)]; rfl
  have emo : mo X = mo S := by show (X 0 4).toNatClampNeg = _; rw [h1 4 (by decide)]; rfl
  have ede : de X = de S := by show (X 0 5).toNatClampNeg = _; rw [h1 5 (by decide)]; rfl
  have hb4 := hW.nbl
  have hs16 := hW.nsl
  obtain ⟨⟨a0, a1, a2, a3⟩, bW, bB, bS, bV⟩ := hR
  refine ⟨⟨⟨?_, ?_, ?_, ?_⟩, fun u hu => ?_, fun b hb => ?_, fun u b q hu hb hq hs => ?_, fun i hi => ?_⟩, fun u h1' h2' j j5 j10 => ?_, fun b g1 g2 => ?_⟩
  · rw [e0, h0]
  · rw [e 1 (by decide) (by omega), h1 1 (by decide)]; exact a1
  · rw [e 2 (by decide) (by omega), h1 2 (by decide)]; exact a2
  · rw [e 3 (by decide) (by omega), h1 3 (by decide)]; exact a3
  · rw [enw] at hu
    by_cases eu : u = nw S
    · subst eu
      have ek : kd X (nw S) = k := by show (X 2 (nw S)).toNatClampNeg = _; rw [h5, nI_clamp (by have := hk.1; omega)]
      have em : isM X (nw S) = false := by unfold isM; rw [emo]; exact tb_out hW.mol
      have ed : isD X (nw S) = false := by unfold isD; rw [ede]; exact tb_out hW.del
      have z := fun j a b => (e (4 + 10 * nw S + j) (by omega) (by omega)).trans (hZ.1 (nw S) (Nat.le_refl _) hw j a b)
      refine ⟨r0.trans h4.symm, r1.trans h5.symm, fun g => ?_, fun g => ?_, r4.trans h8.symm, ?_, ?_, ?_, ?_, ?_⟩
      · rw [ek] at g; exact (r2 g).trans h6.symm
      · rw [ek] at g; exact (r3 g).trans h7.symm
      · exact (z 5 (by decide) (by decide)).trans h9.symm
      · exact (z 6 (by decide) (by decide)).trans h10.symm
      · rw [em]; exact z 7 (by decide) (by decide)
      · rw [ed]; exact z 8 (by decide) (by decide)
      · exact (z 9 (by decide) (by decide)).trans h11.symm
    · have hu : u < nw S := by omega
      have z := fun j (hj : j < 10) => e (4 + 10 * u + j) (by omega) (by omega)
      have r := fun j a b => h2 u eu j a b
      have ek : kd X u = kd S u := by show (X 2 u).toNatClampNeg = _; rw [r 2 (by decide) (by decide)]; rfl
      have em : isM X u = isM S u := by unfold isM; rw [emo]
      have ed : isD X u = isD S u := by unfold isD; rw [ede]
      have g := bW u hu
      unfold Rw at g ⊢
      rw [z 0 (by decide), z 1 (by decide), z 2 (by decide), z 3 (by decide), z 4 (by decide), z 5 (by decide), z 6 (by decide), z 7 (by decide), z 8 (by decide), z 9 (by decide), r 1 (by decide) (by decide), r 2 (by decide) (by decide), r 3 (by decide) (by decide), r 4 (by decide) (by decide), r 5 (by decide) (by decide), r 6 (by decide) (by decide), r 7 (by decide) (by decide), r 8 (by decide) (by decide), ek, em, ed]
      exact g
  · rw [enb] at hb
    have el : lng X b = lng S b := by show (X 9 b).toNatClampNeg = _; rw [h3 9 (by decide)]; rfl
    have h8' := hW.lngl hb
    rw [el, h3 9 (by decide), h3 10 (by decide), e (508 + 9 * b) (by omega) (by omega)]
    exact ⟨(bB b hb).1, fun q hq => by rw [e (508 + 9 * b + 1 + q) (by omega) (by omega)]; exact (bB b hb).2 q hq⟩
  · rw [enw] at hu
    rw [enb] at hb
    have el : lng X b = lng S b := by show (X 9 b).toNatClampNeg = _; rw [h3 9 (by decide)]; rfl
    rw [el] at hq
    have h8' := hW.lngl hb
    by_cases eu : u = nw S
    · subst eu
      have es : sk X (nw S) = 0 := by show (X 8 (nw S)).toNatClampNeg = _; rw [h11, nI_clamp (by decide)]
      rw [es, Nat.zero_testBit] at hs
      cases hs
    · have es : sk X u = sk S u := by show (X 8 u).toNatClampNeg = _; rw [h2 u eu 8 (by decide) (by decide)]; rfl
      rw [es] at hs
      rw [h3 11 (by decide), e (124 + 8 * (4 * u + b) + q) (by omega) (by omega)]
      exact bS u b q (by omega) hb hq hs
  · rw [ens] at hi
    rw [h3 12 (by decide), e (544 + i) (by omega) (by omega)]
    exact bV i hi
  · rw [enw] at h1'
    rw [e _ (by omega) (by omega)]
    exact hZ.1 u (by omega) h2' j j5 j10
  · rw [enb] at g1
    rw [e _ (by omega) (by omega)]
    exact hZ.2 b g1 g2
theorem rn_bk {S X : TW} (hW : WF S) {m : Nat} (hb : nb S < 4) (h : BkP S X (nb S) m) (hm8 : m ≤ 8) {N N' : Nat → Int32} (hR : Rn S N) (hZ : HdZ S N) (e1 : N' 1 = nI (nb S + 1)) (e : ∀ i, i ≠ 1 → (i < 508 + 9 * nb S ∨ 508 + 9 * nb S + 9 ≤ i) → N' i = N i) (r0 : N' (508 + 9 * nb S) = nI m) (r : ∀ j, j < m → N' (508 + 9 * nb S + 1 + j) = X 10 (nb S * 8 + j)) : Rn X N' ∧ HdZ X N' := by
  obtain ⟨h1, h2, h3, h4, h5, h6, h7⟩ := h
  have enw : nw X = nw S := by show (X 0 0).toNatClampNeg = _; rw [h2 0 (by decide)]; rfl
  have enb : nb X = nb S + 1 := by show (X 0 1).toNatClampNeg = _; rw [h3, nI_clamp (by omega)]
  have ens : ns X = ns S := by show (X 0 2).toNatClampNeg = _; rw [h2 2 (by decide)]; rfl
  have emo : mo X = mo S := by show (X 0 4).toNatClampNeg = _; rw [h2 4 (by decide)]; rfl
  have ede : de X = de S := by show (X 0 5).toNatClampNeg = _; rw [h2 5 (by decide)]; rfl
  have h12 := hW.nwl
  have hs16 := hW.nsl
  have rw' : ∀ j, j ≠ 0 → j ≠ 9 → j ≠ 10 → X j = S j := h1
  have esk : ∀ u, sk X u = sk S u := fun u => by show (X 8 u).toNatClampNeg = _; rw [rw' 8 (by decide) (by decide) (by decide)]; rfl
  obtain ⟨⟨a0, a1, a2, a3⟩, bW, bB, bS, bV⟩ := hR
  refine ⟨⟨⟨?_, ?_, ?_, ?_⟩, fun u hu => ?_, fun b hb' => ?_, fun u b q hu hb' hq hs => ?_, fun i hi => ?_⟩, fun u g1 g2 j j5 j10 => ?_, fun b g1 g2 => ?_⟩
  · rw [e 0 (by decide) (by omega), h2 0 (by decide)]; exact a0
  · rw [e1, h3]
  · rw [e 2 (by decide) (by omega), h2 2 (by decide)]; exact a2
  · rw [e 3 (by decide) (by omega), h2 3 (by decide)]; exact a3
  · rw [enw] at hu
    have z := fun j (hj : j < 10) => e (4 + 10 * u + j) (by omega) (by omega)
    have ek : kd X u = kd S u := by show (X 2 u).toNatClampNeg = _; rw [rw' 2 (by decide) (by decide) (by decide)]; rfl
    have em : isM X u = isM S u := by unfold isM; rw [emo]
    have ed : isD X u = isD S u := by unfold isD; rw [ede]
    have g := bW u hu
    unfold Rw at g ⊢
    rw [z 0 (by decide), z 1 (by decide), z 2 (by decide), z 3 (by decide), z 4 (by decide), z 5 (by decide), z 6 (by decide), z 7 (by decide), z 8 (by decide), z 9 (by decide), rw' 1 (by decide) (by decide) (by decide), rw' 2 (by decide) (by decide) (by decide), rw' 3 (by decide) (by decide) (by decide), rw' 4 (by decide) (by decide) (by decide), rw' 5 (by decide) (by decide) (by decide), rw' 6 (by decide) (by decide) (by decide), rw' 7 (by decide) (by decide) (by decide), rw' 8 (by decide) (by decide) (by decide), ek, em, ed]
    exact g
  · rw [enb] at hb'
    by_cases eb : b = nb S
    · subst eb
      have el : lng X (nb S) = m := by show (X 9 (nb S)).toNatClampNeg = _; rw [h5, nI_clamp (by omega)]
      rw [el]
      exact ⟨r0.trans h5.symm, fun q hq => r q hq⟩
    · have hb2 : b < nb S := by omega
      have el : lng X b = lng S b := by show (X 9 b).toNatClampNeg = _; rw [h4 b eb]; rfl
      have h8' := hW.lngl hb2
      rw [el, h4 b eb, e (508 + 9 * b) (by omega) (by omega)]
      exact ⟨(bB b hb2).1, fun q hq => by rw [h6 _ (by omega), e (508 + 9 * b + 1 + q) (by omega) (by omega)]; exact (bB b hb2).2 q hq⟩
  · rw [enw] at hu
    rw [enb] at hb'
    rw [esk] at hs
    by_cases eb : b = nb S
    · subst eb
      rw [tb_out (hW.skl hu)] at hs
      cases hs
    · have hb2 : b < nb S := by omega
      have el : lng X b = lng S b := by show (X 9 b).toNatClampNeg = _; rw [h4 b eb]; rfl
      rw [el] at hq
      have h8' := hW.lngl hb2
      rw [rw' 11 (by decide) (by decide) (by decide), e (124 + 8 * (4 * u + b) + q) (by omega) (by omega)]
      exact bS u b q hu hb2 hq hs
  · rw [ens] at hi
    rw [rw' 12 (by decide) (by decide) (by decide), e (544 + i) (by omega) (by omega)]
    exact bV i hi
  · rw [enw] at g1
    rw [e _ (by omega) (by omega)]
    exact hZ.1 u g1 g2 j j5 j10
  · rw [enb] at g1
    rw [e _ (by omega) (by omega)]
    exact hZ.2 b (by omega) g2

