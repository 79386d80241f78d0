/-! ===== how many bits ===== -/
def bc1 (x : Nat) : Nat := x - (x >>> 1 &&& 1431655765)
def bc2 (x : Nat) : Nat := (bc1 x &&& 858993459) + (bc1 x >>> 2 &&& 858993459)
def bc3 (x : Nat) : Nat := bc2 x + bc2 x >>> 4 &&& 252645135
def bc4 (x : Nat) : Nat := bc3 x + bc3 x >>> 8
def bc5 (x : Nat) : Nat := bc4 x + bc4 x >>> 16
def bcN (x : Nat) : Nat := bc5 x &&& 63
def pc8 (x : Nat) : Nat := x % 2 + x / 2 % 2 + x / 4 % 2 + x / 8 % 2 + x / 16 % 2 + x / 32 % 2 + x / 64 % 2 + x / 128 % 2
def bck : Nat → Nat → Bool
  | _, 0 => true
  | h, n + 1 => Nat.beq (bcN (256 * h + n)) (pc8 h + pc8 n) && bck h n
def bck2 : Nat → Bool
  | 0 => true
  | h + 1 => bck h 256 && bck2 h
set_option maxRecDepth 20000 in
theorem bck_all : bck2 256 = true := by decide +kernel
theorem bck_of {h : Nat} : ∀ n, bck h n = true → ∀ l, l < n → bcN (256 * h + l) = pc8 h + pc8 l := by
  intro n
  induction n with
  | zero => intro _ l hl; omega
  | succ n ih =>
    intro hc l hl
    rw [bck, Bool.and_eq_true] at hc
    rcases Nat.lt_or_ge l n with h2 | h2
    · exact ih hc.2 l h2
    · obtain rfl : l = n := by omega
      exact Nat.eq_of_beq_eq_true hc.1
theorem bck2_of : ∀ n, bck2 n = true → ∀ h, h < n → ∀ l, l < 256 → bcN (256 * h + l) = pc8 h + pc8 l := by
  intro n
  induction n with
  | zero => intro _ l hl; omega
  | succ n ih =>
    intro hc h hh
    rw [bck2, Bool.and_eq_true] at hc
    rcases Nat.lt_or_ge h n with h2 | h2
    · exact ih hc.2 h h2
    · obtain rfl : h = n := by omega
      exact bck_of 256 hc.1
def pcn (x : Nat) : Nat := cntF (fun i => x.testBit i) 16
theorem tbit (x i : Nat) : (if x.testBit i then 1 else 0 : Nat) = x / 2 ^ i % 2 := by
  rw [Nat.testBit_eq_decide_div_mod_eq]
  rcases Nat.mod_two_eq_zero_or_one (x / 2 ^ i) with h | h
  · rw [h]; rfl
  · rw [h]; rfl
theorem pcn_eq (x : Nat) : pcn x = pc8 (x / 256) + pc8 (x % 256) := by
  have a0 : x % 256 / 1 % 2 = x / 1 % 2 := by omega
  have b0 : x / 256 / 1 % 2 = x / 256 % 2 := by omega
  have a1 : x % 256 / 2 % 2 = x / 2 % 2 := by omega
  have b1 : x / 256 / 2 % 2 = x / 512 % 2 := by omega
  have a2 : x % 256 / 4 % 2 = x / 4 % 2 := by omega
  have b2 : x / 256 / 4 % 2 = x / 1024 % 2 := by omega
  have a3 : x % 256 / 8 % 2 = x / 8 % 2 := by omega
  have b3 : x / 256 / 8 % 2 = x / 2048 % 2 := by omega
  have a4 : x % 256 / 16 % 2 = x / 16 % 2 := by omega
  have b4 : x / 256 / 16 % 2 = x / 4096 % 2 := by omega
  have a5 : x % 256 / 32 % 2 = x / 32 % 2 := by omega
  have b5 : x / 256 / 32 % 2 = x / 8192 % 2 := by omega
  have a6 : x % 256 / 64 % 2 = x / 64 % 2 := by omega
  have b6 : x / 256 / 64 % 2 = x / 16384 % 2 := by omega
  have a7 : x % 256 / 128 % 2 = x / 128 % 2 := by omega
  have b7 : x / 256 / 128 % 2 = x / 32768 % 2 := by omega
  have a : x % 256 % 2 = x / 1 % 2 := by omega
  have b : x / 256 % 2 = x / 256 % 2 := rfl
  unfold pcn pc8
  simp only [cntF, tbit, Nat.reducePow]
  rw [a, a1, a2, a3, a4, a5, a6, a7, b1, b2, b3, b4, b5, b6, b7]
  generalize x / 1 % 2 = c0
  generalize x / 2 % 2 = c1
  generalize x / 4 % 2 = c2
  generalize x / 8 % 2 = c3
  generalize x / 16 % 2 = c4
  generalize x / 32 % 2 = c5
  generalize x / 64 % 2 = c6
  generalize x / 128 % 2 = c7
  generalize x / 256 % 2 = c8
  generalize x / 512 % 2 = c9
  generalize x / 1024 % 2 = d0
  generalize x / 2048 % 2 = d1
  generalize x / 4096 % 2 = d2
  generalize x / 8192 % 2 = d3
  generalize x / 16384 % 2 = d4
  generalize x / 32768 % 2 = d5
  clear a0 a1 a2 a3 a4 a5 a6 a7 b0 b1 b2 b3 b4 b5 b6 b7 a b
  omega
theorem bcN_eq {x : Nat} (hx : x < 65536) : bcN x = pcn x := by
  have h := bck2_of 256 bck_all (x / 256) (by omega) (x % 256) (by omega)
  have e : 256 * (x / 256) + x % 256 = x := by omega
  rw [e] at h
  rw [h, pcn_eq]
theorem shr_le (x n : Nat) : x >>> n ≤ x := by rw [Nat.shiftRight_eq_div_pow]; exact Nat.div_le_self _ _
theorem bc1_lt {x : Nat} (hx : x < 65536) : bc1 x < 65536 := Nat.lt_of_le_of_lt (Nat.sub_le _ _) hx
theorem bc2_lt {x : Nat} (hx : x < 65536) : bc2 x < 131072 := by
  have h1 := bc1_lt hx
  have h2 : bc1 x &&& 858993459 ≤ bc1 x := Nat.and_le_left
  have h3 : bc1 x >>> 2 &&& 858993459 ≤ bc1 x := Nat.le_trans Nat.and_le_left (shr_le _ _)
  show (bc1 x &&& 858993459) + (bc1 x >>> 2 &&& 858993459) < _
  omega
theorem bc3_lt {x : Nat} (hx : x < 65536) : bc3 x < 262144 := by
  have h1 := bc2_lt hx
  have h3 := shr_le (bc2 x) 4
  exact Nat.lt_of_le_of_lt Nat.and_le_left (by omega)
theorem bc4_lt {x : Nat} (hx : x < 65536) : bc4 x < 524288 := by
  have h1 := bc3_lt hx
  have h3 := shr_le (bc3 x) 8
  show bc3 x + bc3 x >>> 8 < _
  omega
theorem cntF_mono {f g : Nat → Bool} : ∀ n, (∀ i, i < n → f i = true → g i = true) → cntF f n ≤ cntF g n := by
  intro n
  induction n with
  | zero => intro _; exact Nat.le_refl _
  | succ n ih =>
    intro h
    have h1 := ih (fun i hi => h i (by omega))
    have h2 := h n (by omega)
    show cntF f n + _ ≤ cntF g n + _
    cases hf : f n
    · simp; omega
    · rw [h2 hf]; simp; omega
theorem cntF_cg {f g : Nat → Bool} : ∀ n, (∀ i, i < n → f i = g i) → cntF f n = cntF g n := by
  intro n
  induction n with
  | zero => intro _; rfl
  | succ n ih => intro h; show cntF f n + _ = cntF g n + _; rw [ih (fun i hi => h i (by omega)), h n (by omega)]
theorem cntF_lt {f g : Nat → Bool} : ∀ n, (∀ i, i < n → f i = true → g i = true) → ∀ j, j < n → f j = false → g j = true → cntF f n < cntF g n := by
  intro n
  induction n with
  | zero => intro _ j hj; omega
  | succ n ih =>
    intro h j hj h1 h2
    show cntF f n + _ < cntF g n + _
    rcases Nat.lt_or_ge j n with h3 | h3
    · have := ih (fun i hi => h i (by omega)) j h3 h1 h2
      have h4 := h n (by omega)
      cases hf : f n
      · simp; omega
      · rw [h4 hf]; simp; omega
    · obtain rfl : j = n := by omega
      have := cntF_mono j (fun i hi => h i (by omega))
      rw [h1, h2]; simp; omega
theorem pcn_le (x : Nat) : pcn x ≤ 16 := cntF_le _ 16
theorem setF_bit {f : Nat → Bool} : ∀ (n i : Nat), (setF f n).testBit i = (decide (i < n) && f i) := by
  intro n
  induction n with
  | zero => intro i; simp [setF]
  | succ n ih =>
    intro i
    cases hf : f n
    · rw [setF_0 hf, ih]
      by_cases e : i = n
      · subst e; simp [hf]
      · have : (i < n + 1) ↔ (i < n) := by omega
        simp [this]
    · rw [setF_1 hf, Nat.testBit_or, ih, Nat.testBit_shiftLeft]
      by_cases e : i = n
      · subst e; simp [hf]
      · have : (i < n + 1) ↔ (i < n) := by omega
        have h2 : (decide (n ≤ i) && Nat.testBit 1 (i - n)) = false := by
          by_cases h3 : n ≤ i
          · have : i - n ≠ 0 := by omega
            have h5 : Nat.testBit 1 (i - n) = false := by
              cases h6 : Nat.testBit 1 (i - n)
              · rfl
              · exact absurd (Nat.testBit_one_eq_true_iff_self_eq_zero.mp h6) this
            rw [h5]; simp
          · simp [h3]
        simp [this, h2]
theorem setF_lt {f : Nat → Bool} (n : Nat) : setF f n < 2 ^ n := by
  refine Nat.lt_pow_two_of_testBit _ (fun i hi => ?_)
  rw [setF_bit]
  have : ¬ i < n := by omega
  simp [this]
theorem setF_cg {f g : Nat → Bool} (n : Nat) (h : ∀ i, i < n → f i = g i) : setF f n = setF g n := by
  refine Nat.eq_of_testBit_eq (fun i => ?_)
  rw [setF_bit, setF_bit]
  by_cases hi : i < n
  · rw [h i hi]
  · simp [hi]
theorem pcn_setF {f : Nat → Bool} : pcn (setF f 16) = cntF f 16 := by
  unfold pcn
  refine cntF_cg 16 (fun i hi => ?_)
  show (setF f 16).testBit i = f i
  rw [setF_bit]; simp [hi]
set_option maxRecDepth 20000 in
set_option maxHeartbeats 1000000 in
theorem w_bitCount {D : Nat → Nat → Int32} {L : Nat → Nat → Int64} {Q : bh_Q} {x : Nat} (hx : x < 65536) (k1 : Q (some (.int (nI (pcn x)))) (hp D L)) : bh_wc 1 m_J6_bitCount_0f7a4 [.int (nI x)] (hp D L) Q := by
  refine x_start (lv0 := [_]) (Nat.le_of_ble_eq_true rfl) rfl ?_
  refine x_iload (pc' := 1) rfl rfl rfl ?_
  refine x_iload (pc' := 2) rfl rfl rfl ?_
  refine x_int (pc' := 3) (v := nI 1) rfl rfl rfl ?_
  refine y_iushr (pc' := 4) rfl rfl (by first | omega | (have := bc1_lt hx; have := bc2_lt hx; have := bc3_lt hx; have := bc4_lt hx; omega)) (by first | omega | (have := bc1_lt hx; have := bc2_lt hx; have := bc3_lt hx; have := bc4_lt hx; omega)) ?_
  refine x_int (pc' := 7) (v := nI 1431655765) rfl rfl rfl ?_
  refine y_iand (pc' := 8) rfl rfl ?_
  refine y_isub (pc' := 9) rfl rfl (Nat.le_trans Nat.and_le_left (shr_le _ _)) ?_
  refine x_istore (pc' := 10) (lv' := [_]) rfl rfl (by decide) rfl ?_
  refine x_iload (pc' := 11) rfl rfl rfl ?_
  refine x_int (pc' := 14) (v := nI 858993459) rfl rfl rfl ?_
  refine y_iand (pc' := 15) rfl rfl ?_
  refine x_iload (pc' := 16) rfl rfl rfl ?_
  refine x_int (pc' := 17) (v := nI 2) rfl rfl rfl ?_
  refine y_iushr (pc' := 18) rfl rfl (show bc1 x < 2 ^ 32 by have := bc1_lt hx; omega) (by decide) ?_
  refine x_int (pc' := 21) (v := nI 858993459) rfl rfl rfl ?_
  refine y_iand (pc' := 22) rfl rfl ?_
  refine y_iadd (pc' := 23) rfl rfl ?_
  refine x_istore (pc' := 24) (lv' := [_]) rfl rfl (by decide) rfl ?_
  refine x_iload (pc' := 25) rfl rfl rfl ?_
  refine x_iload (pc' := 26) rfl rfl rfl ?_
  refine x_int (pc' := 27) (v := nI 4) rfl rfl rfl ?_
  refine y_iushr (pc' := 28) rfl rfl (show bc2 x < 2 ^ 32 by have := bc2_lt hx; omega) (by decide) ?_
  refine y_iadd (pc' := 29) rfl rfl ?_
  refine x_int (pc' := 32) (v := nI 252645135) rfl rfl rfl ?_
  refine y_iand (pc' := 33) rfl rfl ?_
  refine x_istore (pc' := 34) (lv' := [_]) rfl rfl (by decide) rfl ?_
  refine x_iload (pc' := 35) rfl rfl rfl ?_
  refine x_iload (pc' := 36) rfl rfl rfl ?_
  refine x_int (pc' := 38) (v := nI 8) rfl rfl rfl ?_
  refine y_iushr (pc' := 39) rfl rfl (show bc3 x < 2 ^ 32 by have := bc3_lt hx; omega) (by decide) ?_
  refine y_iadd (pc' := 40) rfl rfl ?_
  refine x_istore (pc' := 41) (lv' := [_]) rfl rfl (by decide) rfl ?_
  refine x_iload (pc' := 42) rfl rfl rfl ?_
  refine x_iload (pc' := 43) rfl rfl rfl ?_
  refine x_int (pc' := 45) (v := nI 16) rfl rfl rfl ?_
  refine y_iushr (pc' := 46) rfl rfl (show bc4 x < 2 ^ 32 by have := bc4_lt hx; omega) (by decide) ?_
  refine y_iadd (pc' := 47) rfl rfl ?_
  refine x_istore (pc' := 48) (lv' := [_]) rfl rfl (by decide) rfl ?_
  refine x_iload (pc' := 49) rfl rfl rfl ?_
  refine x_int (pc' := 51) (v := nI 63) rfl rfl rfl ?_
  refine y_iand (pc' := 52) rfl rfl ?_
  refine x_iret rfl rfl ?_
  have k2 : Q (some (.int (nI (bcN x)))) (hp D L) := by rw [bcN_eq hx]; exact k1
  exact k2
