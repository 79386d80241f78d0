/-! links of fields -/
set_option maxRecDepth 100000 in
theorem bh_fok_all : (List.range bh_FL.length).all bh_fok = true := by decide +kernel
theorem bh_fok_of {i : Nat} {q : String × Nat × Nat × Nat} (h : bh_FL[i]? = some q) : ∃ t, bh_cls[q.2.2.1]? = some t ∧ q.2.2.2 < t.2.2 ∧ Jvm.Cond.fieldLink q.1 q.2.1 (t.2.1 q.2.2.2).1 (t.2.1 q.2.2.2).2.1 (t.2.1 q.2.2.2).2.2.1 ∈ bh_WS := by
  have h1 := List.all_eq_true.mp bh_fok_all i (List.mem_range.mpr (List.getElem?_eq_some_iff.mp h).1)
  unfold bh_fok at h1
  rw [h] at h1
  cases hp : bh_FLp[i]? with
  | none => rw [hp] at h1; cases h1
  | some p =>
    rw [hp] at h1
    simp only [Bool.and_eq_true] at h1
    obtain ⟨h2, h3⟩ := h1
    have h4 := bh_at_WS h2
    unfold bh_fw at h4
    cases ht : bh_cls[q.2.2.1]? with
    | none => rw [ht] at h3; cases h3
    | some t =>
      rw [ht] at h3 h4
      exact ⟨t, rfl, of_decide_eq_true h3, h4⟩
/-! links of methods -/
set_option maxRecDepth 100000 in
theorem mok_0 : (List.range' 0 10).all bh_mok = true := by decide +kernel
set_option maxRecDepth 100000 in
theorem mok_1 : (List.range' 10 10).all bh_mok = true := by decide +kernel
set_option maxRecDepth 100000 in
theorem mok_2 : (List.range' 20 10).all bh_mok = true := by decide +kernel
set_option maxRecDepth 100000 in
theorem mok_3 : (List.range' 30 10).all bh_mok = true := by decide +kernel
set_option maxRecDepth 100000 in
theorem mok_4 : (List.range' 40 10).all bh_mok = true := by decide +kernel
set_option maxRecDepth 100000 in
theorem mok_5 : (List.range' 50 10).all bh_mok = true := by decide +kernel
set_option maxRecDepth 100000 in
theorem mok_6 : (List.range' 60 10).all bh_mok = true := by decide +kernel
set_option maxRecDepth 100000 in
theorem mok_7 : (List.range' 70 10).all bh_mok = true := by decide +kernel
set_option maxRecDepth 100000 in
theorem mok_8 : (List.range' 80 10).all bh_mok = true := by decide +kernel
set_option maxRecDepth 100000 in
theorem mok_9 : (List.range' 90 10).all bh_mok = true := by decide +kernel
set_option maxRecDepth 100000 in
theorem mok_10 : (List.range' 100 10).all bh_mok = true := by decide +kernel
set_option maxRecDepth 100000 in
theorem mok_11 : (List.range' 110 10).all bh_mok = true := by decide +kernel
set_option maxRecDepth 100000 in
theorem mok_12 : (List.range' 120 10).all bh_mok = true := by decide +kernel
set_option maxRecDepth 100000 in
theorem mok_13 : (List.range' 130 10).all bh_mok = true := by decide +kernel
set_option maxRecDepth 100000 in
theorem mok_14 : (List.range' 140 10).all bh_mok = true := by decide +kernel
set_option maxRecDepth 100000 in
theorem mok_15 : (List.range' 150 10).all bh_mok = true := by decide +kernel
set_option maxRecDepth 100000 in
theorem mok_16 : (List.range' 160 10).all bh_mok = true := by decide +kernel
set_option maxRecDepth 100000 in
theorem mok_17 : (List.range' 170 10).all bh_mok = true := by decide +kernel
set_option maxRecDepth 100000 in
theorem mok_18 : (List.range' 180 10).all bh_mok = true := by decide +kernel
set_option maxRecDepth 100000 in
theorem mok_19 : (List.range' 190 10).all bh_mok = true := by decide +kernel
set_option maxRecDepth 100000 in
theorem mok_20 : (List.range' 200 10).all bh_mok = true := by decide +kernel
set_option maxRecDepth 100000 in
theorem mok_21 : (List.range' 210 10).all bh_mok = true := by decide +kernel
set_option maxRecDepth 100000 in
theorem mok_22 : (List.range' 220 10).all bh_mok = true := by decide +kernel
set_option maxRecDepth 100000 in
theorem mok_23 : (List.range' 230 10).all bh_mok = true := by decide +kernel
set_option maxRecDepth 100000 in
theorem mok_24 : (List.range' 240 10).all bh_mok = true := by decide +kernel
set_option maxRecDepth 100000 in
theorem mok_25 : (List.range' 250 10).all bh_mok = true := by decide +kernel
set_option maxRecDepth 100000 in
theorem mok_26 : (List.range' 260 10).all bh_mok = true := by decide +kernel
set_option maxRecDepth 100000 in
theorem mok_27 : (List.range' 270 10).all bh_mok = true := by decide +kernel
set_option maxRecDepth 100000 in
theorem mok_28 : (List.range' 280 10).all bh_mok = true := by decide +kernel
set_option maxRecDepth 100000 in
theorem mok_29 : (List.range' 290 1).all bh_mok = true := by decide +kernel
theorem mok_all {m : Nat} (hm : m < 291) : bh_mok m = true := by
  have h : (0 ≤ m ∧ m < 10) ∨ (10 ≤ m ∧ m < 20) ∨ (20 ≤ m ∧ m < 30) ∨ (30 ≤ m ∧ m < 40) ∨ (40 ≤ m ∧ m < 50) ∨ (50 ≤ m ∧ m < 60) ∨ (60 ≤ m ∧ m < 70) ∨ (70 ≤ m ∧ m < 80) ∨ (80 ≤ m ∧ m < 90) ∨ (90 ≤ m ∧ m < 100) ∨ (100 ≤ m ∧ m < 110) ∨ (110 ≤ m ∧ m < 120) ∨ (120 ≤ m ∧ m < 130) ∨ (130 ≤ m ∧ m < 140) ∨ (140 ≤ m ∧ m < 150) ∨ (150 ≤ m ∧ m < 160) ∨ (160 ≤ m ∧ m < 170) ∨ (170 ≤ m ∧ m < 180) ∨ (180 ≤ m ∧ m < 190) ∨ (190 ≤ m ∧ m < 200) ∨ (200 ≤ m ∧ m < 210) ∨ (210 ≤ m ∧ m < 220) ∨ (220 ≤ m ∧ m < 230) ∨ (230 ≤ m ∧ m < 240) ∨ (240 ≤ m ∧ m < 250) ∨ (250 ≤ m ∧ m < 260) ∨ (260 ≤ m ∧ m < 270) ∨ (270 ≤ m ∧ m < 280) ∨ (280 ≤ m ∧ m < 290) ∨ (290 ≤ m ∧ m < 291) := by omega
  rcases h with h | h | h | h | h | h | h | h | h | h | h | h | h | h | h | h | h | h | h | h | h | h | h | h | h | h | h | h | h | h
  · exact List.all_eq_true.mp mok_0 m (List.mem_range'_1.mpr (by omega))
  · exact List.all_eq_true.mp mok_1 m (List.mem_range'_1.mpr (by omega))
  · exact List.all_eq_true.mp mok_2 m (List.mem_range'_1.mpr (by omega))
  · exact List.all_eq_true.mp mok_3 m (List.mem_range'_1.mpr (by omega))
  · exact List.all_eq_true.mp mok_4 m (List.mem_range'_1.mpr (by omega))
  · exact List.all_eq_true.mp mok_5 m (List.mem_range'_1.mpr (by omega))
  · exact List.all_eq_true.mp mok_6 m (List.mem_range'_1.mpr (by omega))
  · exact List.all_eq_true.mp mok_7 m (List.mem_range'_1.mpr (by omega))
  · exact List.all_eq_true.mp mok_8 m (List.mem_range'_1.mpr (by omega))
  · exact List.all_eq_true.mp mok_9 m (List.mem_range'_1.mpr (by omega))
  · exact List.all_eq_true.mp mok_10 m (List.mem_range'_1.mpr (by omega))
  · exact List.all_eq_true.mp mok_11 m (List.mem_range'_1.mpr (by omega))
  · exact List.all_eq_true.mp mok_12 m (List.mem_range'_1.mpr (by omega))
  · exact List.all_eq_true.mp mok_13 m (List.mem_range'_1.mpr (by omega))
  · exact List.all_eq_true.mp mok_14 m (List.mem_range'_1.mpr (by omega))
  · exact List.all_eq_true.mp mok_15 m (List.mem_range'_1.mpr (by omega))
  · exact List.all_eq_true.mp mok_16 m (List.mem_range'_1.mpr (by omega))
  · exact List.all_eq_true.mp mok_17 m (List.mem_range'_1.mpr (by omega))
  · exact List.all_eq_true.mp mok_18 m (List.mem_range'_1.mpr (by omega))
  · exact List.all_eq_true.mp mok_19 m (List.mem_range'_1.mpr (by omega))
  · exact List.all_eq_true.mp mok_20 m (List.mem_range'_1.mpr (by omega))
  · exact List.all_eq_true.mp mok_21 m (List.mem_range'_1.mpr (by omega))
  · exact List.all_eq_true.mp mok_22 m (List.mem_range'_1.mpr (by omega))
  · exact List.all_eq_true.mp mok_23 m (List.mem_range'_1.mpr (by omega))
  · exact List.all_eq_true.mp mok_24 m (List.mem_range'_1.mpr (by omega))
  · exact List.all_eq_true.mp mok_25 m (List.mem_range'_1.mpr (by omega))
  · exact List.all_eq_true.mp mok_26 m (List.mem_range'_1.mpr (by omega))
  · exact List.all_eq_true.mp mok_27 m (List.mem_range'_1.mpr (by omega))
  · exact List.all_eq_true.mp mok_28 m (List.mem_range'_1.mpr (by omega))
  · exact List.all_eq_true.mp mok_29 m (List.mem_range'_1.mpr (by omega))
/-! the code of each method, but the law's, stands in the words; no name is a strange one; locals are few -/
set_option maxRecDepth 100000 in
theorem cok_0 : (List.range' 0 10).all bh_cok = true := by decide +kernel
set_option maxRecDepth 100000 in
theorem cok_1 : (List.range' 10 10).all bh_cok = true := by decide +kernel
set_option maxRecDepth 100000 in
theorem cok_2 : (List.range' 20 10).all bh_cok = true := by decide +kernel
set_option maxRecDepth 100000 in
theorem cok_3 : (List.range' 30 10).all bh_cok = true := by decide +kernel
set_option maxRecDepth 100000 in
theorem cok_4 : (List.range' 40 10).all bh_cok = true := by decide +kernel
set_option maxRecDepth 100000 in
theorem cok_5 : (List.range' 50 10).all bh_cok = true := by decide +kernel
set_option maxRecDepth 100000 in
theorem cok_6 : (List.range' 60 10).all bh_cok = true := by decide +kernel
set_option maxRecDepth 100000 in
theorem cok_7 : (List.range' 70 10).all bh_cok = true := by decide +kernel
set_option maxRecDepth 100000 in
theorem cok_8 : (List.range' 80 10).all bh_cok = true := by decide +kernel
set_option maxRecDepth 100000 in
theorem cok_9 : (List.range' 90 10).all bh_cok = true := by decide +kernel
set_option maxRecDepth 100000 in
theorem cok_10 : (List.range' 100 10).all bh_cok = true := by decide +kernel
set_option maxRecDepth 100000 in
theorem cok_11 : (List.range' 110 10).all bh_cok = true := by decide +kernel
set_option maxRecDepth 100000 in
theorem cok_12 : (List.range' 120 10).all bh_cok = true := by decide +kernel
set_option maxRecDepth 100000 in
theorem cok_13 : (List.range' 130 10).all bh_cok = true := by decide +kernel
set_option maxRecDepth 100000 in
theorem cok_14 : (List.range' 140 10).all bh_cok = true := by decide +kernel
set_option maxRecDepth 100000 in
theorem cok_15 : (List.range' 150 10).all bh_cok = true := by decide +kernel
set_option maxRecDepth 100000 in
theorem cok_16 : (List.range' 160 10).all bh_cok = true := by decide +kernel
set_option maxRecDepth 100000 in
theorem cok_17 : (List.range' 170 10).all bh_cok = true := by decide +kernel
set_option maxRecDepth 100000 in
theorem cok_18 : (List.range' 180 10).all bh_cok = true := by decide +kernel
set_option maxRecDepth 100000 in
theorem cok_19 : (List.range' 190 10).all bh_cok = true := by decide +kernel
set_option maxRecDepth 100000 in
theorem cok_20 : (List.range' 200 10).all bh_cok = true := by decide +kernel
set_option maxRecDepth 100000 in
theorem cok_21 : (List.range' 210 10).all bh_cok = true := by decide +kernel
set_option maxRecDepth 100000 in
theorem cok_22 : (List.range' 220 10).all bh_cok = true := by decide +kernel
set_option maxRecDepth 100000 in
theorem cok_23 : (List.range' 230 10).all bh_cok = true := by decide +kernel
set_option maxRecDepth 100000 in
theorem cok_24 : (List.range' 240 10).all bh_cok = true := by decide +kernel
set_option maxRecDepth 100000 in
theorem cok_25 : (List.range' 250 10).all bh_cok = true := by decide +kernel
set_option maxRecDepth 100000 in
theorem cok_26 : (List.range' 260 1).all bh_cok = true := by decide +kernel
theorem cok_all {m : Nat} (hm : m < 261) : bh_cok m = true := by
  have h : (0 ≤ m ∧ m < 10) ∨ (10 ≤ m ∧ m < 20) ∨ (20 ≤ m ∧ m < 30) ∨ (30 ≤ m ∧ m < 40) ∨ (40 ≤ m ∧ m < 50) ∨ (50 ≤ m ∧ m < 60) ∨ (60 ≤ m ∧ m < 70) ∨ (70 ≤ m ∧ m < 80) ∨ (80 ≤ m ∧ m < 90) ∨ (90 ≤ m ∧ m < 100) ∨ (100 ≤ m ∧ m < 110) ∨ (110 ≤ m ∧ m < 120) ∨ (120 ≤ m ∧ m < 130) ∨ (130 ≤ m ∧ m < 140) ∨ (140 ≤ m ∧ m < 150) ∨ (150 ≤ m ∧ m < 160) ∨ (160 ≤ m ∧ m < 170) ∨ (170 ≤ m ∧ m < 180) ∨ (180 ≤ m ∧ m < 190) ∨ (190 ≤ m ∧ m < 200) ∨ (200 ≤ m ∧ m < 210) ∨ (210 ≤ m ∧ m < 220) ∨ (220 ≤ m ∧ m < 230) ∨ (230 ≤ m ∧ m < 240) ∨ (240 ≤ m ∧ m < 250) ∨ (250 ≤ m ∧ m < 260) ∨ (260 ≤ m ∧ m < 261) := by omega
  rcases h with h | h | h | h | h | h | h | h | h | h | h | h | h | h | h | h | h | h | h | h | h | h | h | h | h | h | h
  · exact List.all_eq_true.mp cok_0 m (List.mem_range'_1.mpr (by omega))
  · exact List.all_eq_true.mp cok_1 m (List.mem_range'_1.mpr (by omega))
  · exact List.all_eq_true.mp cok_2 m (List.mem_range'_1.mpr (by omega))
  · exact List.all_eq_true.mp cok_3 m (List.mem_range'_1.mpr (by omega))
  · exact List.all_eq_true.mp cok_4 m (List.mem_range'_1.mpr (by omega))
  · exact List.all_eq_true.mp cok_5 m (List.mem_range'_1.mpr (by omega))
  · exact List.all_eq_true.mp cok_6 m (List.mem_range'_1.mpr (by omega))
  · exact List.all_eq_true.mp cok_7 m (List.mem_range'_1.mpr (by omega))
  · exact List.all_eq_true.mp cok_8 m (List.mem_range'_1.mpr (by omega))
  · exact List.all_eq_true.mp cok_9 m (List.mem_range'_1.mpr (by omega))
  · exact List.all_eq_true.mp cok_10 m (List.mem_range'_1.mpr (by omega))
  · exact List.all_eq_true.mp cok_11 m (List.mem_range'_1.mpr (by omega))
  · exact List.all_eq_true.mp cok_12 m (List.mem_range'_1.mpr (by omega))
  · exact List.all_eq_true.mp cok_13 m (List.mem_range'_1.mpr (by omega))
  · exact List.all_eq_true.mp cok_14 m (List.mem_range'_1.mpr (by omega))
  · exact List.all_eq_true.mp cok_15 m (List.mem_range'_1.mpr (by omega))
  · exact List.all_eq_true.mp cok_16 m (List.mem_range'_1.mpr (by omega))
  · exact List.all_eq_true.mp cok_17 m (List.mem_range'_1.mpr (by omega))
  · exact List.all_eq_true.mp cok_18 m (List.mem_range'_1.mpr (by omega))
  · exact List.all_eq_true.mp cok_19 m (List.mem_range'_1.mpr (by omega))
  · exact List.all_eq_true.mp cok_20 m (List.mem_range'_1.mpr (by omega))
  · exact List.all_eq_true.mp cok_21 m (List.mem_range'_1.mpr (by omega))
  · exact List.all_eq_true.mp cok_22 m (List.mem_range'_1.mpr (by omega))
  · exact List.all_eq_true.mp cok_23 m (List.mem_range'_1.mpr (by omega))
  · exact List.all_eq_true.mp cok_24 m (List.mem_range'_1.mpr (by omega))
  · exact List.all_eq_true.mp cok_25 m (List.mem_range'_1.mpr (by omega))
  · exact List.all_eq_true.mp cok_26 m (List.mem_range'_1.mpr (by omega))
/-! fields of each class: their words, their types -/
theorem bh_cls_of {ci : Nat} {t : vw_C} (h : bh_cls[ci]? = some t) : ci < 11 := by
  have := (List.getElem?_eq_some_iff.mp h).1
  exact this
set_option maxRecDepth 100000 in
theorem bh_uok_all : (List.range 11).all bh_uok = true := by decide +kernel
theorem bh_uok_of {ci : Nat} {t : vw_C} (h : bh_cls[ci]? = some t) : (∀ w ∈ u_ws t.1 t.2.1 t.2.2, w ∈ bh_WS) ∧ (∀ k, k < t.2.2 → parseFieldDescriptor (t.2.1 k).2.2.1 = some (bh_ty ci k)) ∧ (∀ k, k < t.2.2 → (bh_fr ci k = true → bh_ty ci k ≠ .int ∧ defaultValue (bh_ty ci k) = .null) ∧ (bh_fr ci k = false → bh_ty ci k = .int)) ∧ ∀ a, a < t.2.2 → ∀ b, b < t.2.2 → a ≠ b → (t.2.1 a).2.1 ≠ (t.2.1 b).2.1 := by
  have h1 := List.all_eq_true.mp bh_uok_all ci (List.mem_range.mpr (bh_cls_of h))
  unfold bh_uok at h1
  rw [h] at h1
  simp only [Bool.and_eq_true] at h1
  obtain ⟨⟨h2, h3⟩, h4⟩ := h1
  refine ⟨fun w hw => of_decide_eq_true (List.all_eq_true.mp h2 w hw), fun k hk => ?_, fun k hk => ?_, fun a ha b hb hab => ?_⟩
  · have := List.all_eq_true.mp h3 k (List.mem_range.mpr hk)
    simp only [Bool.and_eq_true] at this
    exact of_decide_eq_true this.1
  · have := List.all_eq_true.mp h3 k (List.mem_range.mpr hk)
    simp only [Bool.and_eq_true] at this
    have h5 := this.2
    refine ⟨fun e => ?_, fun e => ?_⟩
    · rw [if_pos e] at h5
      simp only [Bool.and_eq_true] at h5
      exact ⟨of_decide_eq_true h5.1, of_decide_eq_true h5.2⟩
    · rw [if_neg (by rw [e]; decide)] at h5
      exact of_decide_eq_true h5
  · have := List.all_eq_true.mp (List.all_eq_true.mp h4 a (List.mem_range.mpr ha)) b (List.mem_range.mpr hb)
    simp only [Bool.or_eq_true] at this
    rcases this with h5 | h5
    · exact absurd (of_decide_eq_true h5) hab
    · exact of_decide_eq_true h5
/-! the plan -/
set_option maxRecDepth 100000 in
theorem bh_pok_all : (List.range bh_plan.length).all bh_pok = true := by decide +kernel
theorem bh_plan_len : bh_plan.length = 228 := by decide +kernel
