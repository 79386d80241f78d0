/-! ===== towns with the same rows ===== -/
def TE (T T' : TW) : Prop := ∀ j, j < 13 → ∀ i, i < tl j → T' j i = T j i
def tvt (D : Nat → Nat → Int32) (t : Nat) : TW := fun j i => if j < 13 then D (t + j) i else 0
theorem tvt1 (D : Nat → Nat → Int32) : tvt D 1 = tv D := rfl
theorem Cp.te {D D' : Nat → Nat → Int32} {t u : Nat} (h : Cp D D' t u 13) : TE (tvt D u) (tvt D' t) := by
  intro j hj i hi
  unfold tvt
  rw [if_pos hj, if_pos hj]
  exact h.1 j hj i hi
theorem TE.rf {T : TW} : TE T T := fun _ _ _ _ => rfl
theorem TE.tr {T T1 T2 : TW} (h1 : TE T T1) (h2 : TE T1 T2) : TE T T2 := fun j hj i hi => (h2 j hj i hi).trans (h1 j hj i hi)
theorem TE.sy {T T1 : TW} (h1 : TE T T1) : TE T1 T := fun j hj i hi => (h1 j hj i hi).symm
theorem te_nw {T T' : TW} (h : TE T T') : nw T' = nw T := by unfold nw; rw [h 0 (by decide) 0 (by decide)]
theorem te_nb {T T' : TW} (h : TE T T') : nb T' = nb T := by unfold nb; rw [h 0 (by decide) 1 (by decide)]
theorem te_ns {T T' : TW} (h : TE T T') : ns T' = ns T := by unfold ns; rw [h 0 (by decide) 2 (by decide)]
theorem te_mo {T T' : TW} (h : TE T T') : mo T' = mo T := by unfold mo; rw [h 0 (by decide) 4 (by decide)]
theorem te_de {T T' : TW} (h : TE T T') : de T' = de T := by unfold de; rw [h 0 (by decide) 5 (by decide)]
theorem te_row {T T' : TW} (h : TE T T') {w : Nat} (hw : w < 12) (j : Nat) (hj : 1 ≤ j ∧ j ≤ 8) : T' j w = T j w := by
  refine h j (by omega) w ?_
  have : tl j = 12 := by
    have : j = 1 ∨ j = 2 ∨ j = 3 ∨ j = 4 ∨ j = 5 ∨ j = 6 ∨ j = 7 ∨ j = 8 := by omega
    rcases this with rfl | rfl | rfl | rfl | rfl | rfl | rfl | rfl <;> rfl
  rw [this]
  exact hw
theorem te_pu {T T' : TW} (h : TE T T') {w : Nat} (hw : w < 12) : pu T' w = pu T w := by unfold pu; rw [te_row h hw 1 (by decide)]
theorem te_kd {T T' : TW} (h : TE T T') {w : Nat} (hw : w < 12) : kd T' w = kd T w := by unfold kd; rw [te_row h hw 2 (by decide)]
theorem te_fa {T T' : TW} (h : TE T T') {w : Nat} (hw : w < 12) : fa T' w = fa T w := by unfold fa; rw [te_row h hw 3 (by decide)]
theorem te_fb {T T' : TW} (h : TE T T') {w : Nat} (hw : w < 12) : fb T' w = fb T w := by unfold fb; rw [te_row h hw 4 (by decide)]
theorem te_un {T T' : TW} (h : TE T T') {w : Nat} (hw : w < 12) : un T' w = un T w := by unfold un; rw [te_row h hw 5 (by decide)]
theorem te_sk {T T' : TW} (h : TE T T') {w : Nat} (hw : w < 12) : sk T' w = sk T w := by unfold sk; rw [te_row h hw 8 (by decide)]
theorem te_lng {T T' : TW} (h : TE T T') {b : Nat} (hb : b < 4) : lng T' b = lng T b := by unfold lng; rw [h 9 (by decide) b hb]
theorem te_isM {T T' : TW} (h : TE T T') (w : Nat) : isM T' w = isM T w := by unfold isM; rw [te_mo h]
theorem te_isD {T T' : TW} (h : TE T T') (w : Nat) : isD T' w = isD T w := by unfold isD; rw [te_de h]
theorem te_wf {T T' : TW} (h : TE T T') (hW : WF T) : WF T' := by
  have h12 := hW.nwl
  have h4 := hW.nbl
  have h16 := hW.nsl
  refine ⟨⟨?_, ?_, ?_, ?_, ?_⟩, fun w hw => ?_, fun b hb => ?_, fun i hi => ?_, fun i hi => ?_⟩
  · rw [h 0 (by decide) 0 (by decide)]; exact hW.1.1
  · rw [h 0 (by decide) 1 (by decide)]; exact hW.1.2.1
  · rw [h 0 (by decide) 2 (by decide)]; exact hW.1.2.2.1
  · rw [h 0 (by decide) 4 (by decide), te_nw h]; exact hW.1.2.2.2.1
  · rw [h 0 (by decide) 5 (by decide), te_nw h]; exact hW.1.2.2.2.2
  · rw [te_nw h] at hw
    have hw2 : w < 12 := by omega
    rw [te_row h hw2 1 (by decide), te_row h hw2 2 (by decide), te_row h hw2 3 (by decide), te_row h hw2 4 (by decide), te_row h hw2 8 (by decide), te_row h hw2 5 (by decide), te_kd h hw2, te_fa h hw2, te_fb h hw2, te_nb h, te_nw h, te_pu h hw2, te_un h hw2]
    obtain ⟨a1, a2, a3, a4, a5, a6, a7⟩ := hW.2.1 w hw
    refine ⟨a1, a2, a3, a4, a5, a6, ?_⟩
    rcases a7 with e | ⟨e1, e2⟩
    · exact Or.inl e
    · refine Or.inr ⟨e1, ?_⟩
      have : un T w < 12 := by have := e1.2; unfold un; omega
      rw [te_pu h this]
      exact e2
  · rw [te_nb h] at hb
    have hb2 : b < 4 := by omega
    rw [h 9 (by decide) b hb2, te_lng h hb2]
    have h8 := hW.lngl hb
    obtain ⟨a1, a2, a3⟩ := hW.2.2.1 b hb
    refine ⟨a1, a2, fun q hq => ?_⟩
    rw [h 10 (by decide) (b * 8 + q) (show b * 8 + q < 32 by omega)]
    exact a3 q hq
  · rw [h 11 (by decide) i hi]
    exact hW.2.2.2.1 i hi
  · rw [te_ns h] at hi
    rw [h 12 (by decide) i (show i < 16 by omega)]
    exact hW.2.2.2.2 i hi
theorem te_rn {T T' : TW} {N : Nat → Int32} (h : TE T T') (hW : WF T) (hR : Rn T N) : Rn T' N := by
  have h12 := hW.nwl
  have h4 := hW.nbl
  have h16 := hW.nsl
  refine ⟨⟨?_, ?_, ?_, ?_⟩, fun w hw => ?_, fun b hb => ?_, fun w b q hw hb hq hs => ?_, fun i hi => ?_⟩
  · rw [h 0 (by decide) 0 (by decide)]; exact hR.1.1
  · rw [h 0 (by decide) 1 (by decide)]; exact hR.1.2.1
  · rw [h 0 (by decide) 2 (by decide)]; exact hR.1.2.2.1
  · rw [h 0 (by decide) 3 (by decide)]; exact hR.1.2.2.2
  · rw [te_nw h] at hw
    have hw2 : w < 12 := by omega
    unfold Rw
    rw [te_row h hw2 1 (by decide), te_row h hw2 2 (by decide), te_row h hw2 3 (by decide), te_row h hw2 4 (by decide), te_row h hw2 8 (by decide), te_row h hw2 5 (by decide), te_row h hw2 6 (by decide), te_row h hw2 7 (by decide), te_kd h hw2, te_isM h, te_isD h]
    exact hR.2.1 w hw
  · rw [te_nb h] at hb
    have hb2 : b < 4 := by omega
    rw [h 9 (by decide) b hb2, te_lng h hb2]
    have h8 := hW.lngl hb
    refine ⟨(hR.2.2.1 b hb).1, fun q hq => ?_⟩
    rw [h 10 (by decide) (b * 8 + q) (show b * 8 + q < 32 by omega)]
    exact (hR.2.2.1 b hb).2 q hq
  · rw [te_nw h] at hw
    rw [te_nb h] at hb
    rw [te_lng h (by omega)] at hq
    rw [te_sk h (by omega)] at hs
    have h8 := hW.lngl hb
    rw [h 11 (by decide) ((w * 4 + b) * 8 + q) (show (w * 4 + b) * 8 + q < 384 by omega)]
    exact hR.2.2.2.1 w b q hw hb hq hs
  · rw [te_ns h] at hi
    rw [h 12 (by decide) i (show i < 16 by omega)]
    exact hR.2.2.2.2 i hi
/-- the reference's row may go on behind its 560 places -/
theorem rn_row {T : TW} {N N' : Nat → Int32} (hW : WF T) (h : ∀ k, k < 560 → N' k = N k) (hR : Rn T N) : Rn T N' := by
  have h12 := hW.nwl
  have h4 := hW.nbl
  have h16 := hW.nsl
  refine ⟨⟨?_, ?_, ?_, ?_⟩, fun w hw => ?_, fun b hb => ?_, fun w b q hw hb hq hs => ?_, fun i hi => ?_⟩
  · rw [h 0 (by decide)]; exact hR.1.1
  · rw [h 1 (by decide)]; exact hR.1.2.1
  · rw [h 2 (by decide)]; exact hR.1.2.2.1
  · rw [h 3 (by decide)]; exact hR.1.2.2.2
  · unfold Rw
    rw [h (4 + 10 * w + 0) (by omega), h (4 + 10 * w + 1) (by omega), h (4 + 10 * w + 2) (by omega), h (4 + 10 * w + 3) (by omega), h (4 + 10 * w + 4) (by omega), h (4 + 10 * w + 5) (by omega), h (4 + 10 * w + 6) (by omega), h (4 + 10 * w + 7) (by omega), h (4 + 10 * w + 8) (by omega), h (4 + 10 * w + 9) (by omega)]
    exact hR.2.1 w hw
  · have h8 := hW.lngl hb
    rw [h (508 + 9 * b) (by omega)]
    refine ⟨(hR.2.2.1 b hb).1, fun q hq => ?_⟩
    rw [h (508 + 9 * b + 1 + q) (by omega)]
    exact (hR.2.2.1 b hb).2 q hq
  · have h8 := hW.lngl hb
    rw [h (124 + 8 * (4 * w + b) + q) (by omega)]
    exact hR.2.2.2.1 w b q hw hb hq hs
  · rw [h (544 + i) (by omega)]
    exact hR.2.2.2.2 i hi
