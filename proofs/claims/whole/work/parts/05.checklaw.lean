set_option maxRecDepth 100000 in
theorem okL_0 : ((cd_L_law.zipIdx.drop 0).take 60).all (fun q => bh_ok 259 q.2 q.1) = true := by decide +kernel
set_option maxRecDepth 100000 in
theorem okL_1 : ((cd_L_law.zipIdx.drop 60).take 60).all (fun q => bh_ok 259 q.2 q.1) = true := by decide +kernel
set_option maxRecDepth 100000 in
theorem okL_2 : ((cd_L_law.zipIdx.drop 120).take 60).all (fun q => bh_ok 259 q.2 q.1) = true := by decide +kernel
set_option maxRecDepth 100000 in
theorem okL_3 : ((cd_L_law.zipIdx.drop 180).take 60).all (fun q => bh_ok 259 q.2 q.1) = true := by decide +kernel
set_option maxRecDepth 100000 in
theorem okL_4 : ((cd_L_law.zipIdx.drop 240).take 60).all (fun q => bh_ok 259 q.2 q.1) = true := by decide +kernel
set_option maxRecDepth 100000 in
theorem okL_5 : ((cd_L_law.zipIdx.drop 300).take 60).all (fun q => bh_ok 259 q.2 q.1) = true := by decide +kernel
set_option maxRecDepth 100000 in
theorem okL_6 : ((cd_L_law.zipIdx.drop 360).take 60).all (fun q => bh_ok 259 q.2 q.1) = true := by decide +kernel
set_option maxRecDepth 100000 in
theorem okL_7 : ((cd_L_law.zipIdx.drop 420).take 60).all (fun q => bh_ok 259 q.2 q.1) = true := by decide +kernel
set_option maxRecDepth 100000 in
theorem okL_8 : ((cd_L_law.zipIdx.drop 480).take 60).all (fun q => bh_ok 259 q.2 q.1) = true := by decide +kernel
set_option maxRecDepth 100000 in
theorem okL_9 : ((cd_L_law.zipIdx.drop 540).take 60).all (fun q => bh_ok 259 q.2 q.1) = true := by decide +kernel
set_option maxRecDepth 100000 in
theorem okL_10 : ((cd_L_law.zipIdx.drop 600).take 60).all (fun q => bh_ok 259 q.2 q.1) = true := by decide +kernel
set_option maxRecDepth 100000 in
theorem okL_11 : ((cd_L_law.zipIdx.drop 660).take 60).all (fun q => bh_ok 259 q.2 q.1) = true := by decide +kernel
set_option maxRecDepth 100000 in
theorem okL_12 : ((cd_L_law.zipIdx.drop 720).take 60).all (fun q => bh_ok 259 q.2 q.1) = true := by decide +kernel
set_option maxRecDepth 100000 in
theorem okL_13 : ((cd_L_law.zipIdx.drop 780).take 60).all (fun q => bh_ok 259 q.2 q.1) = true := by decide +kernel
set_option maxRecDepth 100000 in
theorem okL_14 : ((cd_L_law.zipIdx.drop 840).take 60).all (fun q => bh_ok 259 q.2 q.1) = true := by decide +kernel
set_option maxRecDepth 100000 in
theorem okL_15 : ((cd_L_law.zipIdx.drop 900).take 60).all (fun q => bh_ok 259 q.2 q.1) = true := by decide +kernel
set_option maxRecDepth 100000 in
theorem okL_16 : ((cd_L_law.zipIdx.drop 960).take 60).all (fun q => bh_ok 259 q.2 q.1) = true := by decide +kernel
set_option maxRecDepth 100000 in
theorem okL_17 : ((cd_L_law.zipIdx.drop 1020).take 60).all (fun q => bh_ok 259 q.2 q.1) = true := by decide +kernel
set_option maxRecDepth 100000 in
theorem okL_18 : ((cd_L_law.zipIdx.drop 1080).take 60).all (fun q => bh_ok 259 q.2 q.1) = true := by decide +kernel
set_option maxRecDepth 100000 in
theorem okL_19 : ((cd_L_law.zipIdx.drop 1140).take 60).all (fun q => bh_ok 259 q.2 q.1) = true := by decide +kernel
set_option maxRecDepth 100000 in
theorem okL_20 : ((cd_L_law.zipIdx.drop 1200).take 60).all (fun q => bh_ok 259 q.2 q.1) = true := by decide +kernel
set_option maxRecDepth 100000 in
theorem okL_21 : ((cd_L_law.zipIdx.drop 1260).take 60).all (fun q => bh_ok 259 q.2 q.1) = true := by decide +kernel
set_option maxRecDepth 100000 in
theorem okL_22 : ((cd_L_law.zipIdx.drop 1320).take 60).all (fun q => bh_ok 259 q.2 q.1) = true := by decide +kernel
set_option maxRecDepth 100000 in
theorem okL_23 : ((cd_L_law.zipIdx.drop 1380).take 60).all (fun q => bh_ok 259 q.2 q.1) = true := by decide +kernel
set_option maxRecDepth 100000 in
theorem okL_24 : ((cd_L_law.zipIdx.drop 1440).take 60).all (fun q => bh_ok 259 q.2 q.1) = true := by decide +kernel
set_option maxRecDepth 100000 in
theorem okL_25 : ((cd_L_law.zipIdx.drop 1500).take 60).all (fun q => bh_ok 259 q.2 q.1) = true := by decide +kernel
set_option maxRecDepth 100000 in
theorem okL_26 : ((cd_L_law.zipIdx.drop 1560).take 60).all (fun q => bh_ok 259 q.2 q.1) = true := by decide +kernel
set_option maxRecDepth 100000 in
theorem okL_27 : ((cd_L_law.zipIdx.drop 1620).take 60).all (fun q => bh_ok 259 q.2 q.1) = true := by decide +kernel
theorem okL_chunk {a n pc : Nat} {l : List bh_I} (h : ((l.zipIdx.drop a).take n).all (fun q => bh_ok 259 q.2 q.1) = true) (h1 : a ≤ pc) (h2 : pc < a + n) {i : bh_I} (hi : l[pc]? = some i) : bh_ok 259 pc i = true := by
  refine List.all_eq_true.mp h (i, pc) (List.mem_of_getElem? (i := pc - a) ?_)
  rw [List.getElem?_take_of_lt (by omega), List.getElem?_drop, show a + (pc - a) = pc by omega, List.getElem?_zipIdx, hi]
  simp
theorem okL_len : cd_L_law.length = 1639 := by decide +kernel
theorem okL_all {pc : Nat} {i : bh_I} (hi : cd_L_law[pc]? = some i) : bh_ok 259 pc i = true := by
  have hl := (List.getElem?_eq_some_iff.mp hi).1
  rw [okL_len] at hl
  have h : (0 ≤ pc ∧ pc < 60) ∨ (60 ≤ pc ∧ pc < 120) ∨ (120 ≤ pc ∧ pc < 180) ∨ (180 ≤ pc ∧ pc < 240) ∨ (240 ≤ pc ∧ pc < 300) ∨ (300 ≤ pc ∧ pc < 360) ∨ (360 ≤ pc ∧ pc < 420) ∨ (420 ≤ pc ∧ pc < 480) ∨ (480 ≤ pc ∧ pc < 540) ∨ (540 ≤ pc ∧ pc < 600) ∨ (600 ≤ pc ∧ pc < 660) ∨ (660 ≤ pc ∧ pc < 720) ∨ (720 ≤ pc ∧ pc < 780) ∨ (780 ≤ pc ∧ pc < 840) ∨ (840 ≤ pc ∧ pc < 900) ∨ (900 ≤ pc ∧ pc < 960) ∨ (960 ≤ pc ∧ pc < 1020) ∨ (1020 ≤ pc ∧ pc < 1080) ∨ (1080 ≤ pc ∧ pc < 1140) ∨ (1140 ≤ pc ∧ pc < 1200) ∨ (1200 ≤ pc ∧ pc < 1260) ∨ (1260 ≤ pc ∧ pc < 1320) ∨ (1320 ≤ pc ∧ pc < 1380) ∨ (1380 ≤ pc ∧ pc < 1440) ∨ (1440 ≤ pc ∧ pc < 1500) ∨ (1500 ≤ pc ∧ pc < 1560) ∨ (1560 ≤ pc ∧ pc < 1620) ∨ (1620 ≤ pc ∧ pc < 1680) := by omega
  rcases h with h | h | h | h | h | h | h | h | h | h | h | h | h | h | h | h | h | h | h | h | h | h | h | h | h | h | h | h
  · exact okL_chunk okL_0 h.1 h.2 hi
  · exact okL_chunk okL_1 h.1 h.2 hi
  · exact okL_chunk okL_2 h.1 h.2 hi
  · exact okL_chunk okL_3 h.1 h.2 hi
  · exact okL_chunk okL_4 h.1 h.2 hi
  · exact okL_chunk okL_5 h.1 h.2 hi
  · exact okL_chunk okL_6 h.1 h.2 hi
  · exact okL_chunk okL_7 h.1 h.2 hi
  · exact okL_chunk okL_8 h.1 h.2 hi
  · exact okL_chunk okL_9 h.1 h.2 hi
  · exact okL_chunk okL_10 h.1 h.2 hi
  · exact okL_chunk okL_11 h.1 h.2 hi
  · exact okL_chunk okL_12 h.1 h.2 hi
  · exact okL_chunk okL_13 h.1 h.2 hi
  · exact okL_chunk okL_14 h.1 h.2 hi
  · exact okL_chunk okL_15 h.1 h.2 hi
  · exact okL_chunk okL_16 h.1 h.2 hi
  · exact okL_chunk okL_17 h.1 h.2 hi
  · exact okL_chunk okL_18 h.1 h.2 hi
  · exact okL_chunk okL_19 h.1 h.2 hi
  · exact okL_chunk okL_20 h.1 h.2 hi
  · exact okL_chunk okL_21 h.1 h.2 hi
  · exact okL_chunk okL_22 h.1 h.2 hi
  · exact okL_chunk okL_23 h.1 h.2 hi
  · exact okL_chunk okL_24 h.1 h.2 hi
  · exact okL_chunk okL_25 h.1 h.2 hi
  · exact okL_chunk okL_26 h.1 h.2 hi
  · exact okL_chunk okL_27 h.1 h.2 hi
theorem bh_ok_of {m : Nat} (hm : m < 261) (pc : Nat) : bh_ok m pc (bh_cod m pc) = true := by
  by_cases hL : m = 259
  · subst hL
    show bh_ok 259 pc (cd_L_law.getD pc bz) = true
    rw [List.getD_eq_getElem?_getD]
    cases hi : cd_L_law[pc]? with
    | none => rfl
    | some i => exact okL_all hi
  · have h0 : bh_okm m = true := by
      by_cases h2 : m = 260
      · subst h2; exact okm_260
      · exact okm_all (by omega)
    unfold bh_okm at h0
    unfold bh_cod
    generalize bh_codes.getD m [] = l at h0 ⊢
    by_cases h : pc < l.length
    · have h1 := List.all_eq_true.mp h0 (l[pc], pc) (List.mem_zipIdx_iff_getElem?.mpr (List.getElem?_eq_getElem h))
      rw [List.getD_eq_getElem?_getD, List.getElem?_eq_getElem h]
      exact h1
    · rw [List.getD_eq_getElem?_getD, List.getElem?_eq_none (by omega)]
      rfl
