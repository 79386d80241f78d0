set_option maxRecDepth 100000 in
theorem okm_0 : (List.range' 0 10).all bh_okm = true := by decide +kernel
set_option maxRecDepth 100000 in
theorem okm_1 : (List.range' 10 10).all bh_okm = true := by decide +kernel
set_option maxRecDepth 100000 in
theorem okm_2 : (List.range' 20 10).all bh_okm = true := by decide +kernel
set_option maxRecDepth 100000 in
theorem okm_3 : (List.range' 30 10).all bh_okm = true := by decide +kernel
set_option maxRecDepth 100000 in
theorem okm_4 : (List.range' 40 10).all bh_okm = true := by decide +kernel
set_option maxRecDepth 100000 in
theorem okm_5 : (List.range' 50 10).all bh_okm = true := by decide +kernel
set_option maxRecDepth 100000 in
theorem okm_6 : (List.range' 60 10).all bh_okm = true := by decide +kernel
set_option maxRecDepth 100000 in
theorem okm_7 : (List.range' 70 10).all bh_okm = true := by decide +kernel
set_option maxRecDepth 100000 in
theorem okm_8 : (List.range' 80 10).all bh_okm = true := by decide +kernel
set_option maxRecDepth 100000 in
theorem okm_9 : (List.range' 90 10).all bh_okm = true := by decide +kernel
set_option maxRecDepth 100000 in
theorem okm_10 : (List.range' 100 10).all bh_okm = true := by decide +kernel
set_option maxRecDepth 100000 in
theorem okm_11 : (List.range' 110 10).all bh_okm = true := by decide +kernel
set_option maxRecDepth 100000 in
theorem okm_12 : (List.range' 120 10).all bh_okm = true := by decide +kernel
set_option maxRecDepth 100000 in
theorem okm_13 : (List.range' 130 10).all bh_okm = true := by decide +kernel
set_option maxRecDepth 100000 in
theorem okm_14 : (List.range' 140 10).all bh_okm = true := by decide +kernel
set_option maxRecDepth 100000 in
theorem okm_15 : (List.range' 150 10).all bh_okm = true := by decide +kernel
set_option maxRecDepth 100000 in
theorem okm_16 : (List.range' 160 10).all bh_okm = true := by decide +kernel
set_option maxRecDepth 100000 in
theorem okm_17 : (List.range' 170 10).all bh_okm = true := by decide +kernel
set_option maxRecDepth 100000 in
theorem okm_18 : (List.range' 180 10).all bh_okm = true := by decide +kernel
set_option maxRecDepth 100000 in
theorem okm_19 : (List.range' 190 10).all bh_okm = true := by decide +kernel
set_option maxRecDepth 100000 in
theorem okm_20 : (List.range' 200 10).all bh_okm = true := by decide +kernel
set_option maxRecDepth 100000 in
theorem okm_21 : (List.range' 210 10).all bh_okm = true := by decide +kernel
set_option maxRecDepth 100000 in
theorem okm_22 : (List.range' 220 10).all bh_okm = true := by decide +kernel
set_option maxRecDepth 100000 in
theorem okm_23 : (List.range' 230 10).all bh_okm = true := by decide +kernel
set_option maxRecDepth 100000 in
theorem okm_24 : (List.range' 240 10).all bh_okm = true := by decide +kernel
set_option maxRecDepth 100000 in
theorem okm_25 : (List.range' 250 9).all bh_okm = true := by decide +kernel
theorem okm_all {m : Nat} (hm : m < 259) : bh_okm m = true := by
  have h : (0 ≤ m ∧ m < 10) ∨ (10 ≤ m ∧ m < 20) ∨ (20 ≤ m ∧ m < 30) ∨ (30 ≤ m ∧ m < 40) ∨ (40 ≤ m ∧ m < 50) ∨ (50 ≤ m ∧ m < 60) ∨ (60 ≤ m ∧ m < 70) ∨ (70 ≤ m ∧ m < 80) ∨ (80 ≤ m ∧ m < 90) ∨ (90 ≤ m ∧ m < 100) ∨ (100 ≤ m ∧ m < 110) ∨ (110 ≤ m ∧ m < 120) ∨ (120 ≤ m ∧ m < 130) ∨ (130 ≤ m ∧ m < 140) ∨ (140 ≤ m ∧ m < 150) ∨ (150 ≤ m ∧ m < 160) ∨ (160 ≤ m ∧ m < 170) ∨ (170 ≤ m ∧ m < 180) ∨ (180 ≤ m ∧ m < 190) ∨ (190 ≤ m ∧ m < 200) ∨ (200 ≤ m ∧ m < 210) ∨ (210 ≤ m ∧ m < 220) ∨ (220 ≤ m ∧ m < 230) ∨ (230 ≤ m ∧ m < 240) ∨ (240 ≤ m ∧ m < 250) ∨ (250 ≤ m ∧ m < 259) := by omega
  rcases h with h | h | h | h | h | h | h | h | h | h | h | h | h | h | h | h | h | h | h | h | h | h | h | h | h | h
  · exact List.all_eq_true.mp okm_0 m (List.mem_range'_1.mpr (by omega))
  · exact List.all_eq_true.mp okm_1 m (List.mem_range'_1.mpr (by omega))
  · exact List.all_eq_true.mp okm_2 m (List.mem_range'_1.mpr (by omega))
  · exact List.all_eq_true.mp okm_3 m (List.mem_range'_1.mpr (by omega))
  · exact List.all_eq_true.mp okm_4 m (List.mem_range'_1.mpr (by omega))
  · exact List.all_eq_true.mp okm_5 m (List.mem_range'_1.mpr (by omega))
  · exact List.all_eq_true.mp okm_6 m (List.mem_range'_1.mpr (by omega))
  · exact List.all_eq_true.mp okm_7 m (List.mem_range'_1.mpr (by omega))
  · exact List.all_eq_true.mp okm_8 m (List.mem_range'_1.mpr (by omega))
  · exact List.all_eq_true.mp okm_9 m (List.mem_range'_1.mpr (by omega))
  · exact List.all_eq_true.mp okm_10 m (List.mem_range'_1.mpr (by omega))
  · exact List.all_eq_true.mp okm_11 m (List.mem_range'_1.mpr (by omega))
  · exact List.all_eq_true.mp okm_12 m (List.mem_range'_1.mpr (by omega))
  · exact List.all_eq_true.mp okm_13 m (List.mem_range'_1.mpr (by omega))
  · exact List.all_eq_true.mp okm_14 m (List.mem_range'_1.mpr (by omega))
  · exact List.all_eq_true.mp okm_15 m (List.mem_range'_1.mpr (by omega))
  · exact List.all_eq_true.mp okm_16 m (List.mem_range'_1.mpr (by omega))
  · exact List.all_eq_true.mp okm_17 m (List.mem_range'_1.mpr (by omega))
  · exact List.all_eq_true.mp okm_18 m (List.mem_range'_1.mpr (by omega))
  · exact List.all_eq_true.mp okm_19 m (List.mem_range'_1.mpr (by omega))
  · exact List.all_eq_true.mp okm_20 m (List.mem_range'_1.mpr (by omega))
  · exact List.all_eq_true.mp okm_21 m (List.mem_range'_1.mpr (by omega))
  · exact List.all_eq_true.mp okm_22 m (List.mem_range'_1.mpr (by omega))
  · exact List.all_eq_true.mp okm_23 m (List.mem_range'_1.mpr (by omega))
  · exact List.all_eq_true.mp okm_24 m (List.mem_range'_1.mpr (by omega))
  · exact List.all_eq_true.mp okm_25 m (List.mem_range'_1.mpr (by omega))
set_option maxRecDepth 100000 in
theorem okm_260 : bh_okm 260 = true := by decide +kernel
