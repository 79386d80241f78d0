/-! ===== rules where the numbers are natural ones ===== -/
theorem lt_of {x : Int32} {n : Nat} (hn : n < 2 ^ 31) (h1 : ¬ x < 0) (h2 : ¬ nI n ≤ x) : ∃ j : Nat, j < n ∧ x = nI j := by
  rcases pk_ix x hn with h | h | h
  · exact absurd h h1
  · exact absurd h h2
  · exact h
theorem nI_and (a b : Nat) : nI a &&& nI b = nI (a &&& b) := by
  apply Int32.toBitVec_inj.mp
  show BitVec.ofNat 32 a &&& BitVec.ofNat 32 b = BitVec.ofNat 32 (a &&& b)
  apply BitVec.eq_of_getLsbD_eq
  intro i hi
  simp [hi, Nat.testBit_and]
theorem nI_or (a b : Nat) : nI a ||| nI b = nI (a ||| b) := by
  apply Int32.toBitVec_inj.mp
  show BitVec.ofNat 32 a ||| BitVec.ofNat 32 b = BitVec.ofNat 32 (a ||| b)
  apply BitVec.eq_of_getLsbD_eq
  intro i hi
  simp [hi, Nat.testBit_or]
theorem nI_xor (a b : Nat) : nI a ^^^ nI b = nI (a ^^^ b) := by
  apply Int32.toBitVec_inj.mp
  show BitVec.ofNat 32 a ^^^ BitVec.ofNat 32 b = BitVec.ofNat 32 (a ^^^ b)
  apply BitVec.eq_of_getLsbD_eq
  intro i hi
  simp [hi, Nat.testBit_xor]
theorem nI_sl : ∀ s, s < 32 → ((nI s &&& 31).toBitVec.smod 32).toNat = s := by decide +kernel
theorem nI_su : ∀ s, s < 32 → (((nI s).toUInt32 &&& Int32.toUInt32 31).toBitVec % 32).toNat = s := by decide +kernel
theorem nI_shl (a : Nat) {s : Nat} (hs : s < 32) : nI a <<< (nI s &&& 31) = nI (a <<< s) := by
  apply Int32.toBitVec_inj.mp
  apply BitVec.eq_of_toNat_eq
  rw [pk_shl (nI a) (nI s &&& 31) s (nI_sl s hs)]
  show (BitVec.ofNat 32 a).toNat * 2 ^ s % 2 ^ 32 = (BitVec.ofNat 32 (a <<< s)).toNat
  rw [BitVec.toNat_ofNat, BitVec.toNat_ofNat, Nat.shiftLeft_eq, Nat.mod_mul_mod]
theorem nI_shr {a : Nat} (ha : a < 2 ^ 31) {s : Nat} (hs : s < 32) : nI a >>> (nI s &&& 31) = nI (a >>> s) := by
  rw [pk_shrN ha (nI s &&& 31) s (nI_sl s hs), Nat.shiftRight_eq_div_pow]
theorem nI_ushr {a : Nat} (ha : a < 2 ^ 32) {s : Nat} (hs : s < 32) : ((nI a).toUInt32 >>> ((nI s).toUInt32 &&& Int32.toUInt32 31)).toInt32 = nI (a >>> s) := by
  rw [pk_ushrN ha (nI s) s (nI_su s hs), Nat.shiftRight_eq_div_pow]
theorem nI_m1 {n : Nat} (h : n < 2 ^ 31) : ¬ nI n = -1 := by
  intro e
  have := congrArg Int32.toInt e
  rw [nI_toInt h] at this
  have h1 : (-1 : Int32).toInt = -1 := by decide
  omega
theorem nI_m2 {n : Nat} (h : n < 2 ^ 31) : ¬ nI n = -2 := by
  intro e
  have := congrArg Int32.toInt e
  rw [nI_toInt h] at this
  have h1 : (-2 : Int32).toInt = -2 := by decide
  omega
theorem nI_inj {a b : Nat} (ha : a < 2 ^ 31) (hb : b < 2 ^ 31) (h : nI a = nI b) : a = b := (nI_eq ha hb).mp h
section bh_nat
variable {m d : Nat} {Q : bh_Q} {pc pc' len a : Nat} {c : Int} {l : List Nat} {lv lv' st : List Value} {D : Nat → Nat → Int32} {L : Nat → Nat → Int64} {x y : Nat}
theorem x_top {p q : Int32} (h : p = q) (k : bw m d Q pc lv (.int q :: st) D L) : bw m d Q pc lv (.int p :: st) D L := by
  subst h
  exact k
theorem x_topl {p q : Int64} (h : p = q) (k : bw m d Q pc lv (.long q :: st) D L) : bw m d Q pc lv (.long p :: st) D L := by
  subst h
  exact k
theorem y_iadd (hc : bh_cod m pc = (10, len, 0, c, l)) (hp0 : pc + len = pc') (k : bw m d Q pc' lv (.int (nI (x + y)) :: st) D L) : bw m d Q pc lv (.int (nI y) :: .int (nI x) :: st) D L := x_iadd hc hp0 (x_top (nI_add x y) k)
theorem y_isub (hc : bh_cod m pc = (10, len, 1, c, l)) (hp0 : pc + len = pc') (h : y ≤ x) (k : bw m d Q pc' lv (.int (nI (x - y)) :: st) D L) : bw m d Q pc lv (.int (nI y) :: .int (nI x) :: st) D L := x_isub hc hp0 (x_top (pk_sub h) k)
theorem y_imul (hc : bh_cod m pc = (10, len, 2, c, l)) (hp0 : pc + len = pc') (k : bw m d Q pc' lv (.int (nI (x * y)) :: st) D L) : bw m d Q pc lv (.int (nI y) :: .int (nI x) :: st) D L := x_imul hc hp0 (x_top (pk_mul x y) k)
theorem y_iand (hc : bh_cod m pc = (10, len, 3, c, l)) (hp0 : pc + len = pc') (k : bw m d Q pc' lv (.int (nI (x &&& y)) :: st) D L) : bw m d Q pc lv (.int (nI y) :: .int (nI x) :: st) D L := x_iand hc hp0 (x_top (nI_and x y) k)
theorem y_ior (hc : bh_cod m pc = (10, len, 4, c, l)) (hp0 : pc + len = pc') (k : bw m d Q pc' lv (.int (nI (x ||| y)) :: st) D L) : bw m d Q pc lv (.int (nI y) :: .int (nI x) :: st) D L := x_ior hc hp0 (x_top (nI_or x y) k)
theorem y_ixor (hc : bh_cod m pc = (10, len, 5, c, l)) (hp0 : pc + len = pc') (k : bw m d Q pc' lv (.int (nI (x ^^^ y)) :: st) D L) : bw m d Q pc lv (.int (nI y) :: .int (nI x) :: st) D L := x_ixor hc hp0 (x_top (nI_xor x y) k)
theorem y_ishl (hc : bh_cod m pc = (10, len, 6, c, l)) (hp0 : pc + len = pc') (h : y < 32) (k : bw m d Q pc' lv (.int (nI (x <<< y)) :: st) D L) : bw m d Q pc lv (.int (nI y) :: .int (nI x) :: st) D L := x_ishl hc hp0 (x_top (nI_shl x h) k)
theorem y_ishr (hc : bh_cod m pc = (10, len, 7, c, l)) (hp0 : pc + len = pc') (hx : x < 2 ^ 31) (h : y < 32) (k : bw m d Q pc' lv (.int (nI (x >>> y)) :: st) D L) : bw m d Q pc lv (.int (nI y) :: .int (nI x) :: st) D L := x_ishr hc hp0 (x_top (nI_shr hx h) k)
theorem y_iushr (hc : bh_cod m pc = (10, len, 8, c, l)) (hp0 : pc + len = pc') (hx : x < 2 ^ 32) (h : y < 32) (k : bw m d Q pc' lv (.int (nI (x >>> y)) :: st) D L) : bw m d Q pc lv (.int (nI y) :: .int (nI x) :: st) D L := x_iushr hc hp0 (x_top (nI_ushr hx h) k)
theorem y_idiv (hc : bh_cod m pc = (11, len, a, c, l)) (hp0 : pc + len = pc') (hx : x < 2 ^ 31) (h0 : 0 < y) (hy : y < 2 ^ 31) (k : bw m d Q pc' lv (.int (nI (x / y)) :: st) D L) : bw m d Q pc lv (.int (nI y) :: .int (nI x) :: st) D L := x_idiv hc hp0 (nI_ne0 h0 hy) (x_top (pk_div hx h0 hy) k)
theorem y_irem (hc : bh_cod m pc = (12, len, a, c, l)) (hp0 : pc + len = pc') (hx : x < 2 ^ 31) (h0 : 0 < y) (hy : y < 2 ^ 31) (k : bw m d Q pc' lv (.int (nI (x % y)) :: st) D L) : bw m d Q pc lv (.int (nI y) :: .int (nI x) :: st) D L := x_irem hc hp0 (nI_ne0 h0 hy) (x_top (pk_rem hx h0 hy) k)
theorem y_if_eq (hc : bh_cod m pc = (21, len, a, 0, l)) (hp0 : pc + len = pc') (hx : x < 2 ^ 31) (k1 : x = 0 → bw m d Q a lv st D L) (k2 : ¬ x = 0 → bw m d Q pc' lv st D L) : bw m d Q pc lv (.int (nI x) :: st) D L := x_if_eq hc hp0 (fun h => k1 (nI_inj hx (by decide) h)) (fun h => k2 (fun e => h (by rw [e]; rfl)))
theorem y_if_ne (hc : bh_cod m pc = (21, len, a, 1, l)) (hp0 : pc + len = pc') (hx : x < 2 ^ 31) (k1 : ¬ x = 0 → bw m d Q a lv st D L) (k2 : x = 0 → bw m d Q pc' lv st D L) : bw m d Q pc lv (.int (nI x) :: st) D L := x_if_ne hc hp0 (fun h => k1 (fun e => h (by rw [e]; rfl))) (fun h => k2 (nI_inj hx (by decide) h))
theorem y_if_lt (hc : bh_cod m pc = (21, len, a, 2, l)) (hp0 : pc + len = pc') (hx : x < 2 ^ 31) (k2 : bw m d Q pc' lv st D L) : bw m d Q pc lv (.int (nI x) :: st) D L := x_if_lt hc hp0 (fun h => absurd h (nI_pos hx)) (fun _ => k2)
theorem y_if_ge (hc : bh_cod m pc = (21, len, a, 3, l)) (hp0 : pc + len = pc') (hx : x < 2 ^ 31) (k1 : bw m d Q a lv st D L) : bw m d Q pc lv (.int (nI x) :: st) D L := x_if_ge hc hp0 (fun _ => k1) (fun h => absurd (nI_pos' hx) h)
theorem y_if_gt (hc : bh_cod m pc = (21, len, a, 4, l)) (hp0 : pc + len = pc') (hx : x < 2 ^ 31) (k1 : 0 < x → bw m d Q a lv st D L) (k2 : x = 0 → bw m d Q pc' lv st D L) : bw m d Q pc lv (.int (nI x) :: st) D L := x_if_gt hc hp0 (fun h => k1 ((nI_ltI (a := 0) (by decide) hx).mp h)) (fun h => k2 (by
  rcases Nat.eq_zero_or_pos x with e | e
  · exact e
  · exact absurd ((nI_ltI (a := 0) (by decide) hx).mpr e) h))
theorem y_if_le (hc : bh_cod m pc = (21, len, a, 5, l)) (hp0 : pc + len = pc') (hx : x < 2 ^ 31) (k1 : x = 0 → bw m d Q a lv st D L) (k2 : 0 < x → bw m d Q pc' lv st D L) : bw m d Q pc lv (.int (nI x) :: st) D L := x_if_le hc hp0 (fun h => k1 (Nat.le_zero.mp ((nI_leI (b := 0) hx (by decide)).mp h))) (fun h => k2 (by
  rcases Nat.eq_zero_or_pos x with e | e
  · exact absurd (by rw [e]; exact (nI_leI (a := 0) (b := 0) (by decide) (by decide)).mpr (Nat.le_refl 0)) h
  · exact e))
theorem y_ic_eq (hc : bh_cod m pc = (22, len, a, 0, l)) (hp0 : pc + len = pc') (hx : x < 2 ^ 31) (hy : y < 2 ^ 31) (k1 : x = y → bw m d Q a lv st D L) (k2 : ¬ x = y → bw m d Q pc' lv st D L) : bw m d Q pc lv (.int (nI y) :: .int (nI x) :: st) D L := x_ic_eq hc hp0 (fun h => k1 (nI_inj hx hy h)) (fun h => k2 (fun e => h (by rw [e])))
theorem y_ic_ne (hc : bh_cod m pc = (22, len, a, 1, l)) (hp0 : pc + len = pc') (hx : x < 2 ^ 31) (hy : y < 2 ^ 31) (k1 : ¬ x = y → bw m d Q a lv st D L) (k2 : x = y → bw m d Q pc' lv st D L) : bw m d Q pc lv (.int (nI y) :: .int (nI x) :: st) D L := x_ic_ne hc hp0 (fun h => k1 (fun e => h (by rw [e]))) (fun h => k2 (nI_inj hx hy h))
theorem y_ic_lt (hc : bh_cod m pc = (22, len, a, 2, l)) (hp0 : pc + len = pc') (hx : x < 2 ^ 31) (hy : y < 2 ^ 31) (k1 : x < y → bw m d Q a lv st D L) (k2 : y ≤ x → bw m d Q pc' lv st D L) : bw m d Q pc lv (.int (nI y) :: .int (nI x) :: st) D L := x_ic_lt hc hp0 (fun h => k1 ((nI_ltI hx hy).mp h)) (fun h => k2 (Nat.le_of_not_lt (fun e => h ((nI_ltI hx hy).mpr e))))
theorem y_ic_ge (hc : bh_cod m pc = (22, len, a, 3, l)) (hp0 : pc + len = pc') (hx : x < 2 ^ 31) (hy : y < 2 ^ 31) (k1 : y ≤ x → bw m d Q a lv st D L) (k2 : x < y → bw m d Q pc' lv st D L) : bw m d Q pc lv (.int (nI y) :: .int (nI x) :: st) D L := x_ic_ge hc hp0 (fun h => k1 ((nI_leI hy hx).mp h)) (fun h => k2 (Nat.lt_of_not_le (fun e => h ((nI_leI hy hx).mpr e))))
theorem y_ic_gt (hc : bh_cod m pc = (22, len, a, 4, l)) (hp0 : pc + len = pc') (hx : x < 2 ^ 31) (hy : y < 2 ^ 31) (k1 : y < x → bw m d Q a lv st D L) (k2 : x ≤ y → bw m d Q pc' lv st D L) : bw m d Q pc lv (.int (nI y) :: .int (nI x) :: st) D L := x_ic_gt hc hp0 (fun h => k1 ((nI_ltI hy hx).mp h)) (fun h => k2 (Nat.le_of_not_lt (fun e => h ((nI_ltI hy hx).mpr e))))
theorem y_ic_le (hc : bh_cod m pc = (22, len, a, 5, l)) (hp0 : pc + len = pc') (hx : x < 2 ^ 31) (hy : y < 2 ^ 31) (k1 : x ≤ y → bw m d Q a lv st D L) (k2 : y < x → bw m d Q pc' lv st D L) : bw m d Q pc lv (.int (nI y) :: .int (nI x) :: st) D L := x_ic_le hc hp0 (fun h => k1 ((nI_leI hx hy).mp h)) (fun h => k2 (Nat.lt_of_not_le (fun e => h ((nI_leI hx hy).mpr e))))
theorem y_inc (hc : bh_cod m pc = (9, len, a, 1, l)) (hp0 : pc + len = pc') (hx : lv[a]? = some (.int (nI x))) (ha : a < bh_mL m) (hl : bh_sto lv a (.int (nI (x + 1))) = lv') (k : bw m d Q pc' lv' st D L) : bw m d Q pc lv st D L := x_iinc hc hp0 hx rfl ha (nI_1 x) hl k
theorem y_dec (hc : bh_cod m pc = (9, len, a, -1, l)) (hp0 : pc + len = pc') (hx : lv[a]? = some (.int (nI (x + 1)))) (ha : a < bh_mL m) (hl : bh_sto lv a (.int (nI x)) = lv') (k : bw m d Q pc' lv' st D L) : bw m d Q pc lv st D L := x_iinc hc hp0 hx rfl ha (pk_m1 x) hl k
end bh_nat
