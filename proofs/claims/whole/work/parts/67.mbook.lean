/-! ===== the reference: a book ===== -/
def BkH (N0 N : Nat → Int32) (X : TW) (b m : Nat) : Prop := N (508 + 9 * b) = nI m ∧ (∀ j, j < m → N (508 + 9 * b + 1 + j) = X 10 (b * 8 + j)) ∧ ∀ i, (i < 508 + 9 * b ∨ 508 + 9 * b + 9 ≤ i) → N i = N0 i
theorem BkH.s {N0 N : Nat → Int32} {X : TW} {b m v : Nat} (h : BkH N0 N X b m) (hm : m < 8) {N' : Nat → Int32} (e0 : N' (508 + 9 * b) = nI (m + 1)) (e1 : N' (508 + 9 * b + (m + 1)) = nI v) (e : ∀ i, i ≠ 508 + 9 * b → i ≠ 508 + 9 * b + (m + 1) → N' i = N i) : BkH N0 N' (apS X b m v) b (m + 1) := by
  obtain ⟨h1, h2, h3⟩ := h
  have e10 : ∀ i, apS X b m v 10 i = if i = b * 8 + m then nI v else X 10 i := fun i => by
    unfold apS
    rw [bh_up2_ne _ _ _ (by decide), up2_at]
    by_cases q : i = b * 8 + m
    · rw [if_pos ⟨rfl, q⟩, if_pos q]
    · rw [if_neg (fun z => q z.2), if_neg q]
  refine ⟨e0, fun j hj => ?_, fun i hi => (e i (by omega) (by omega)).trans (h3 i hi)⟩
  rw [e10]
  by_cases q : j = m
  · rw [if_pos (by omega), q, show 508 + 9 * b + 1 + m = 508 + 9 * b + (m + 1) by omega]; exact e1
  · rw [if_neg (by omega), e _ (by omega) (by omega)]; exact h2 j (by omega)
theorem digB_i {tp : List Nat} {s : Nat} (h : digB tp s = true) : s < tp.length ∧ 48 ≤ tp.getD s 0 ∧ tp.getD s 0 ≤ 57 := by
  unfold digB isDg at h
  rw [Bool.and_eq_true] at h
  exact ⟨of_decide_eq_true h.1, of_decide_eq_true h.2⟩
