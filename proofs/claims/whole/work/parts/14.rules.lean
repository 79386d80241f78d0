/-! ===== rules of the picture: heaps of the one shape ===== -/
def bh_rfT : List (List (Option Nat)) := [[some 1, some 14, some 27, some 29, some 30, some 31, some 33, some 37, some 38, some 41, some 44, some 47, some 48, none, none, none], [none, none, none, none, none, none, some 2, some 3, some 4, some 5, some 6, some 7, some 8, some 9, some 10, some 11, some 12, some 13], [], [], [], [], [], [], [], [], [], [], [], [], [none, none, none, none, none, none, some 15, some 16, some 17, some 18, some 19, some 20, some 21, some 22, some 23, some 24, some 25, some 26], [], [], [], [], [], [], [], [], [], [], [], [], [some 28], [], [some 49, some 62, some 75, some 88, some 101, some 114, some 127, some 140, some 153, some 166], [some 179, some 192], [some 32], [], [some 34, some 35, some 36], [], [], [], [], [some 39, some 40], [], [], [some 42, some 43], [], [], [some 45, some 46], [], [], [], [], [none, none, none, none, none, none, some 50, some 51, some 52, some 53, some 54, some 55, some 56, some 57, some 58, some 59, some 60, some 61], [], [], [], [], [], [], [], [], [], [], [], [], [none, none, none, none, none, none, some 63, some 64, some 65, some 66, some 67, some 68, some 69, some 70, some 71, some 72, some 73, some 74], [], [], [], [], [], [], [], [], [], [], [], [], [none, none, none, none, none, none, some 76, some 77, some 78, some 79, some 80, some 81, some 82, some 83, some 84, some 85, some 86, some 87], [], [], [], [], [], [], [], [], [], [], [], [], [none, none, none, none, none, none, some 89, some 90, some 91, some 92, some 93, some 94, some 95, some 96, some 97, some 98, some 99, some 100], [], [], [], [], [], [], [], [], [], [], [], [], [none, none, none, none, none, none, some 102, some 103, some 104, some 105, some 106, some 107, some 108, some 109, some 110, some 111, some 112, some 113], [], [], [], [], [], [], [], [], [], [], [], [], [none, none, none, none, none, none, some 115, some 116, some 117, some 118, some 119, some 120, some 121, some 122, some 123, some 124, some 125, some 126], [], [], [], [], [], [], [], [], [], [], [], [], [none, none, none, none, none, none, some 128, some 129, some 130, some 131, some 132, some 133, some 134, some 135, some 136, some 137, some 138, some 139], [], [], [], [], [], [], [], [], [], [], [], [], [none, none, none, none, none, none, some 141, some 142, some 143, some 144, some 145, some 146, some 147, some 148, some 149, some 150, some 151, some 152], [], [], [], [], [], [], [], [], [], [], [], [], [none, none, none, none, none, none, some 154, some 155, some 156, some 157, some 158, some 159, some 160, some 161, some 162, some 163, some 164, some 165], [], [], [], [], [], [], [], [], [], [], [], [], [none, none, none, none, none, none, some 167, some 168, some 169, some 170, some 171, some 172, some 173, some 174, some 175, some 176, some 177, some 178], [], [], [], [], [], [], [], [], [], [], [], [], [none, none, none, none, none, none, some 180, some 181, some 182, some 183, some 184, some 185, some 186, some 187, some 188, some 189, some 190, some 191], [], [], [], [], [], [], [], [], [], [], [], [], [none, none, none, none, none, none, some 193, some 194, some 195, some 196, some 197, some 198, some 199, some 200, some 201, some 202, some 203, some 204], [], [], [], [], [], [], [], [], [], [], [], [], [some 206, some 207, some 208, some 209, some 210, none, some 211, none, none, none, none, some 212, none, some 213, some 214, some 215, some 216, some 217, some 218, some 219, some 220, some 221, some 222, some 223, some 224, none, none, none, none, none, some 225, some 226, some 227]]
def bh_R0 (k j : Nat) : Option Nat := (bh_rfT.getD k []).getD j none
abbrev hp (D : Nat → Nat → Int32) (L : Nat → Nat → Int64) : bh_H := (228, bh_R0, D, L)
/-- a method at a place, on such a heap -/
abbrev bw (m d : Nat) (Q : bh_Q) (pc : Nat) (lv st : List Value) (D : Nat → Nat → Int32) (L : Nat → Nat → Int64) : Prop := bh_wf m (bh_wc d) Q pc lv st (0, 0) (hp D L)
section bh_rules
variable {m d : Nat} {Q : bh_Q} {pc pc' len a : Nat} {c : Int} {l : List Nat} {lv lv' st : List Value} {D : Nat → Nat → Int32} {L : Nat → Nat → Int64}
theorem x_int (hc : bh_cod m pc = (1, len, a, c, l)) (hp0 : pc + len = pc') {v : Int32} (hv : Int32.ofInt c = v) (k : bw m d Q pc' lv (.int v :: st) D L) : bw m d Q pc lv (st) D L := by
  subst hp0
  apply bh_go
  unfold bh_st
  rw [hc]
  subst hv
  exact k
theorem x_long (hc : bh_cod m pc = (2, len, a, c, l)) (hp0 : pc + len = pc') {v : Int64} (hv : Int64.ofInt c = v) (k : bw m d Q pc' lv (.long v :: st) D L) : bw m d Q pc lv (st) D L := by
  subst hp0
  apply bh_go
  unfold bh_st
  rw [hc]
  subst hv
  exact k
theorem x_iload (hc : bh_cod m pc = (3, len, a, c, l)) (hp0 : pc + len = pc') {x : Int32} (hx : lv[a]? = some (.int x)) (k : bw m d Q pc' lv (.int x :: st) D L) : bw m d Q pc lv (st) D L := by
  subst hp0
  apply bh_go
  unfold bh_st
  rw [hc]
  exact ⟨x, hx, k⟩
theorem x_lload (hc : bh_cod m pc = (4, len, a, c, l)) (hp0 : pc + len = pc') {x : Int64} (hx : lv[a]? = some (.long x)) (k : bw m d Q pc' lv (.long x :: st) D L) : bw m d Q pc lv (st) D L := by
  subst hp0
  apply bh_go
  unfold bh_st
  rw [hc]
  exact ⟨x, hx, k⟩
theorem x_aload (hc : bh_cod m pc = (5, len, a, c, l)) (hp0 : pc + len = pc') {x : Nat} (hx : lv[a]? = some (.ref x)) (k : bw m d Q pc' lv (.ref x :: st) D L) : bw m d Q pc lv (st) D L := by
  subst hp0
  apply bh_go
  unfold bh_st
  rw [hc]
  exact ⟨x, hx, k⟩
theorem x_istore (hc : bh_cod m pc = (6, len, a, c, l)) (hp0 : pc + len = pc') {x : Int32} (ha : a < bh_mL m) (hx : bh_sto lv a (.int x) = lv') (k : bw m d Q pc' lv' (st) D L) : bw m d Q pc lv (.int x :: st) D L := by
  subst hp0
  apply bh_go
  unfold bh_st
  rw [hc]
  subst hx
  exact ⟨x, st, rfl, ha, k⟩
theorem x_lstore (hc : bh_cod m pc = (7, len, a, c, l)) (hp0 : pc + len = pc') {x : Int64} (ha : a + 1 < bh_mL m) (hx : bh_stoL lv a (.long x) = lv') (k : bw m d Q pc' lv' (st) D L) : bw m d Q pc lv (.long x :: st) D L := by
  subst hp0
  apply bh_go
  unfold bh_st
  rw [hc]
  subst hx
  exact ⟨x, st, rfl, ha, k⟩
theorem x_astore (hc : bh_cod m pc = (8, len, a, c, l)) (hp0 : pc + len = pc') {x : Nat} (ha : a < bh_mL m) (hx : bh_sto lv a (.ref x) = lv') (k : bw m d Q pc' lv' (st) D L) : bw m d Q pc lv (.ref x :: st) D L := by
  subst hp0
  apply bh_go
  unfold bh_st
  rw [hc]
  subst hx
  exact ⟨x, st, rfl, ha, k⟩
theorem x_iinc (hc : bh_cod m pc = (9, len, a, c, l)) (hp0 : pc + len = pc') {x v w : Int32} (hx : lv[a]? = some (.int x)) (hw : Int32.ofInt c = w) (ha : a < bh_mL m) (hv : x + w = v) (hl : bh_sto lv a (.int v) = lv') (k : bw m d Q pc' lv' (st) D L) : bw m d Q pc lv (st) D L := by
  subst hp0
  apply bh_go
  unfold bh_st
  rw [hc]
  subst hw
  subst hv
  subst hl
  exact ⟨x, hx, ha, k⟩
theorem x_iadd {x y : Int32} (hc : bh_cod m pc = (10, len, 0, c, l)) (hp0 : pc + len = pc') (k : bw m d Q pc' lv (.int (x + y) :: st) D L) : bw m d Q pc lv (.int y :: .int x :: st) D L := by
  subst hp0
  apply bh_go
  unfold bh_st
  rw [hc]
  exact ⟨x, y, st, rfl, k⟩
theorem x_isub {x y : Int32} (hc : bh_cod m pc = (10, len, 1, c, l)) (hp0 : pc + len = pc') (k : bw m d Q pc' lv (.int (x - y) :: st) D L) : bw m d Q pc lv (.int y :: .int x :: st) D L := by
  subst hp0
  apply bh_go
  unfold bh_st
  rw [hc]
  exact ⟨x, y, st, rfl, k⟩
theorem x_imul {x y : Int32} (hc : bh_cod m pc = (10, len, 2, c, l)) (hp0 : pc + len = pc') (k : bw m d Q pc' lv (.int (x * y) :: st) D L) : bw m d Q pc lv (.int y :: .int x :: st) D L := by
  subst hp0
  apply bh_go
  unfold bh_st
  rw [hc]
  exact ⟨x, y, st, rfl, k⟩
theorem x_iand {x y : Int32} (hc : bh_cod m pc = (10, len, 3, c, l)) (hp0 : pc + len = pc') (k : bw m d Q pc' lv (.int (x &&& y) :: st) D L) : bw m d Q pc lv (.int y :: .int x :: st) D L := by
  subst hp0
  apply bh_go
  unfold bh_st
  rw [hc]
  exact ⟨x, y, st, rfl, k⟩
theorem x_ior {x y : Int32} (hc : bh_cod m pc = (10, len, 4, c, l)) (hp0 : pc + len = pc') (k : bw m d Q pc' lv (.int (x ||| y) :: st) D L) : bw m d Q pc lv (.int y :: .int x :: st) D L := by
  subst hp0
  apply bh_go
  unfold bh_st
  rw [hc]
  exact ⟨x, y, st, rfl, k⟩
theorem x_ixor {x y : Int32} (hc : bh_cod m pc = (10, len, 5, c, l)) (hp0 : pc + len = pc') (k : bw m d Q pc' lv (.int (x ^^^ y) :: st) D L) : bw m d Q pc lv (.int y :: .int x :: st) D L := by
  subst hp0
  apply bh_go
  unfold bh_st
  rw [hc]
  exact ⟨x, y, st, rfl, k⟩
theorem x_ishl {x y : Int32} (hc : bh_cod m pc = (10, len, 6, c, l)) (hp0 : pc + len = pc') (k : bw m d Q pc' lv (.int (x <<< (y &&& 31)) :: st) D L) : bw m d Q pc lv (.int y :: .int x :: st) D L := by
  subst hp0
  apply bh_go
  unfold bh_st
  rw [hc]
  exact ⟨x, y, st, rfl, k⟩
theorem x_ishr {x y : Int32} (hc : bh_cod m pc = (10, len, 7, c, l)) (hp0 : pc + len = pc') (k : bw m d Q pc' lv (.int (x >>> (y &&& 31)) :: st) D L) : bw m d Q pc lv (.int y :: .int x :: st) D L := by
  subst hp0
  apply bh_go
  unfold bh_st
  rw [hc]
  exact ⟨x, y, st, rfl, k⟩
theorem x_iushr {x y : Int32} (hc : bh_cod m pc = (10, len, 8, c, l)) (hp0 : pc + len = pc') (k : bw m d Q pc' lv (.int ((x.toUInt32 >>> (y.toUInt32 &&& Int32.toUInt32 31)).toInt32) :: st) D L) : bw m d Q pc lv (.int y :: .int x :: st) D L := by
  subst hp0
  apply bh_go
  unfold bh_st
  rw [hc]
  exact ⟨x, y, st, rfl, k⟩
theorem x_idiv (hc : bh_cod m pc = (11, len, a, c, l)) (hp0 : pc + len = pc') {x y : Int32} (hy : ¬ y = 0) (k : bw m d Q pc' lv (.int (x / y) :: st) D L) : bw m d Q pc lv (.int y :: .int x :: st) D L := by
  subst hp0
  apply bh_go
  unfold bh_st
  rw [hc]
  exact ⟨x, y, st, rfl, hy, k⟩
theorem x_irem (hc : bh_cod m pc = (12, len, a, c, l)) (hp0 : pc + len = pc') {x y : Int32} (hy : ¬ y = 0) (k : bw m d Q pc' lv (.int (x - x / y * y) :: st) D L) : bw m d Q pc lv (.int y :: .int x :: st) D L := by
  subst hp0
  apply bh_go
  unfold bh_st
  rw [hc]
  exact ⟨x, y, st, rfl, hy, k⟩
theorem x_ladd {x y : Int64} (hc : bh_cod m pc = (13, len, 0, c, l)) (hp0 : pc + len = pc') (k : bw m d Q pc' lv (.long (x + y) :: st) D L) : bw m d Q pc lv (.long y :: .long x :: st) D L := by
  subst hp0
  apply bh_go
  unfold bh_st
  rw [hc]
  exact ⟨x, y, st, rfl, k⟩
theorem x_lmul {x y : Int64} (hc : bh_cod m pc = (13, len, 1, c, l)) (hp0 : pc + len = pc') (k : bw m d Q pc' lv (.long (x * y) :: st) D L) : bw m d Q pc lv (.long y :: .long x :: st) D L := by
  subst hp0
  apply bh_go
  unfold bh_st
  rw [hc]
  exact ⟨x, y, st, rfl, k⟩
theorem x_lor {x y : Int64} (hc : bh_cod m pc = (13, len, 2, c, l)) (hp0 : pc + len = pc') (k : bw m d Q pc' lv (.long (x ||| y) :: st) D L) : bw m d Q pc lv (.long y :: .long x :: st) D L := by
  subst hp0
  apply bh_go
  unfold bh_st
  rw [hc]
  exact ⟨x, y, st, rfl, k⟩
theorem x_lshl (hc : bh_cod m pc = (14, len, a, c, l)) (hp0 : pc + len = pc') {x : Int64} {y : Int32} (k : bw m d Q pc' lv (.long (x <<< (y.toInt64 &&& 63)) :: st) D L) : bw m d Q pc lv (.int y :: .long x :: st) D L := by
  subst hp0
  apply bh_go
  unfold bh_st
  rw [hc]
  exact ⟨x, y, st, rfl, k⟩
theorem x_i2l (hc : bh_cod m pc = (15, len, a, c, l)) (hp0 : pc + len = pc') {x : Int32} (k : bw m d Q pc' lv (.long x.toInt64 :: st) D L) : bw m d Q pc lv (.int x :: st) D L := by
  subst hp0
  apply bh_go
  unfold bh_st
  rw [hc]
  exact ⟨x, st, rfl, k⟩
theorem x_i2b (hc : bh_cod m pc = (16, len, a, c, l)) (hp0 : pc + len = pc') {x : Int32} (k : bw m d Q pc' lv (.int x.toInt8.toInt32 :: st) D L) : bw m d Q pc lv (.int x :: st) D L := by
  subst hp0
  apply bh_go
  unfold bh_st
  rw [hc]
  exact ⟨x, st, rfl, k⟩
theorem x_lcmp (hc : bh_cod m pc = (17, len, a, c, l)) (hp0 : pc + len = pc') {x y : Int64} (k : bw m d Q pc' lv (.int (lg_cmp x y) :: st) D L) : bw m d Q pc lv (.long y :: .long x :: st) D L := by
  subst hp0
  apply bh_go
  unfold bh_st
  rw [hc]
  exact ⟨x, y, st, rfl, k⟩
theorem x_dup (hc : bh_cod m pc = (18, len, a, c, l)) (hp0 : pc + len = pc') {v : Value} (hv : v.category = 1) (k : bw m d Q pc' lv (v :: v :: st) D L) : bw m d Q pc lv (v :: st) D L := by
  subst hp0
  apply bh_go
  unfold bh_st
  rw [hc]
  exact ⟨v, st, rfl, hv, k⟩
theorem x_pop (hc : bh_cod m pc = (19, len, a, c, l)) (hp0 : pc + len = pc') {v : Value} (hv : v.category = 1) (k : bw m d Q pc' lv (st) D L) : bw m d Q pc lv (v :: st) D L := by
  subst hp0
  apply bh_go
  unfold bh_st
  rw [hc]
  exact ⟨v, st, rfl, hv, k⟩
theorem x_dup2 (hc : bh_cod m pc = (20, len, a, c, l)) (hp0 : pc + len = pc') {v w : Value} (hv : v.category = 1) (hw : w.category = 1) (k : bw m d Q pc' lv (v :: w :: v :: w :: st) D L) : bw m d Q pc lv (v :: w :: st) D L := by
  subst hp0
  apply bh_go
  unfold bh_st
  rw [hc]
  exact ⟨v, w, st, rfl, hv, hw, k⟩
theorem x_if_eq {x : Int32} (hc : bh_cod m pc = (21, len, a, 0, l)) (hp0 : pc + len = pc') (k1 : x = 0 → bw m d Q a lv st D L) (k2 : ¬ (x = 0) → bw m d Q pc' lv st D L) : bw m d Q pc lv (.int x :: st) D L := by
  subst hp0
  apply bh_go
  unfold bh_st
  rw [hc]
  exact ⟨x, st, rfl, k1, k2⟩
theorem x_ic_eq {x y : Int32} (hc : bh_cod m pc = (22, len, a, 0, l)) (hp0 : pc + len = pc') (k1 : x = y → bw m d Q a lv st D L) (k2 : ¬ (x = y) → bw m d Q pc' lv st D L) : bw m d Q pc lv (.int y :: .int x :: st) D L := by
  subst hp0
  apply bh_go
  unfold bh_st
  rw [hc]
  exact ⟨x, y, st, rfl, k1, k2⟩
theorem x_if_ne {x : Int32} (hc : bh_cod m pc = (21, len, a, 1, l)) (hp0 : pc + len = pc') (k1 : ¬ x = 0 → bw m d Q a lv st D L) (k2 : x = 0 → bw m d Q pc' lv st D L) : bw m d Q pc lv (.int x :: st) D L := by
  subst hp0
  apply bh_go
  unfold bh_st
  rw [hc]
  exact ⟨x, st, rfl, k1, fun h => k2 (Classical.not_not.mp h)⟩
theorem x_ic_ne {x y : Int32} (hc : bh_cod m pc = (22, len, a, 1, l)) (hp0 : pc + len = pc') (k1 : ¬ x = y → bw m d Q a lv st D L) (k2 : x = y → bw m d Q pc' lv st D L) : bw m d Q pc lv (.int y :: .int x :: st) D L := by
  subst hp0
  apply bh_go
  unfold bh_st
  rw [hc]
  exact ⟨x, y, st, rfl, k1, fun h => k2 (Classical.not_not.mp h)⟩
theorem x_if_lt {x : Int32} (hc : bh_cod m pc = (21, len, a, 2, l)) (hp0 : pc + len = pc') (k1 : x < 0 → bw m d Q a lv st D L) (k2 : ¬ (x < 0) → bw m d Q pc' lv st D L) : bw m d Q pc lv (.int x :: st) D L := by
  subst hp0
  apply bh_go
  unfold bh_st
  rw [hc]
  exact ⟨x, st, rfl, k1, k2⟩
theorem x_ic_lt {x y : Int32} (hc : bh_cod m pc = (22, len, a, 2, l)) (hp0 : pc + len = pc') (k1 : x < y → bw m d Q a lv st D L) (k2 : ¬ (x < y) → bw m d Q pc' lv st D L) : bw m d Q pc lv (.int y :: .int x :: st) D L := by
  subst hp0
  apply bh_go
  unfold bh_st
  rw [hc]
  exact ⟨x, y, st, rfl, k1, k2⟩
theorem x_if_ge {x : Int32} (hc : bh_cod m pc = (21, len, a, 3, l)) (hp0 : pc + len = pc') (k1 : 0 ≤ x → bw m d Q a lv st D L) (k2 : ¬ (0 ≤ x) → bw m d Q pc' lv st D L) : bw m d Q pc lv (.int x :: st) D L := by
  subst hp0
  apply bh_go
  unfold bh_st
  rw [hc]
  exact ⟨x, st, rfl, k1, k2⟩
theorem x_ic_ge {x y : Int32} (hc : bh_cod m pc = (22, len, a, 3, l)) (hp0 : pc + len = pc') (k1 : y ≤ x → bw m d Q a lv st D L) (k2 : ¬ (y ≤ x) → bw m d Q pc' lv st D L) : bw m d Q pc lv (.int y :: .int x :: st) D L := by
  subst hp0
  apply bh_go
  unfold bh_st
  rw [hc]
  exact ⟨x, y, st, rfl, k1, k2⟩
theorem x_if_gt {x : Int32} (hc : bh_cod m pc = (21, len, a, 4, l)) (hp0 : pc + len = pc') (k1 : 0 < x → bw m d Q a lv st D L) (k2 : ¬ (0 < x) → bw m d Q pc' lv st D L) : bw m d Q pc lv (.int x :: st) D L := by
  subst hp0
  apply bh_go
  unfold bh_st
  rw [hc]
  exact ⟨x, st, rfl, k1, k2⟩
theorem x_ic_gt {x y : Int32} (hc : bh_cod m pc = (22, len, a, 4, l)) (hp0 : pc + len = pc') (k1 : y < x → bw m d Q a lv st D L) (k2 : ¬ (y < x) → bw m d Q pc' lv st D L) : bw m d Q pc lv (.int y :: .int x :: st) D L := by
  subst hp0
  apply bh_go
  unfold bh_st
  rw [hc]
  exact ⟨x, y, st, rfl, k1, k2⟩
theorem x_if_le {x : Int32} (hc : bh_cod m pc = (21, len, a, 5, l)) (hp0 : pc + len = pc') (k1 : x ≤ 0 → bw m d Q a lv st D L) (k2 : ¬ (x ≤ 0) → bw m d Q pc' lv st D L) : bw m d Q pc lv (.int x :: st) D L := by
  subst hp0
  apply bh_go
  unfold bh_st
  rw [hc]
  exact ⟨x, st, rfl, k1, k2⟩
theorem x_ic_le {x y : Int32} (hc : bh_cod m pc = (22, len, a, 5, l)) (hp0 : pc + len = pc') (k1 : x ≤ y → bw m d Q a lv st D L) (k2 : ¬ (x ≤ y) → bw m d Q pc' lv st D L) : bw m d Q pc lv (.int y :: .int x :: st) D L := by
  subst hp0
  apply bh_go
  unfold bh_st
  rw [hc]
  exact ⟨x, y, st, rfl, k1, k2⟩
theorem x_goto (hc : bh_cod m pc = (23, len, a, c, l)) (k : bw m d Q a lv st D L) : bw m d Q pc lv st D L := by
  apply bh_go
  unfold bh_st
  rw [hc]
  exact k
/-- a switch at a number that is known -/
theorem x_tabN {n t : Nat} (hc : bh_cod m pc = (24, len, a, 0, l)) (hn : n < 2 ^ 31) (ht : l[n]? = some t) (k : bw m d Q t lv st D L) : bw m d Q pc lv (.int (nI n) :: st) D L := by
  have hl := (List.getElem?_eq_some_iff.mp ht).1
  apply bh_go
  unfold bh_st
  rw [hc]
  refine ⟨nI n, st, rfl, fun _ => ⟨t, ?_, k⟩, fun h => ?_⟩
  · rw [nI_toInt hn, Int.sub_zero, Int.toNat_natCast]
    exact ht
  · rw [nI_toInt hn] at h
    omega
theorem x_tabO {x : Int32} (hc : bh_cod m pc = (24, len, a, 0, l)) (hx : x < 0 ∨ nI l.length ≤ x) (hl : l.length < 2 ^ 31) (k : bw m d Q a lv st D L) : bw m d Q pc lv (.int x :: st) D L := by
  apply bh_go
  unfold bh_st
  rw [hc]
  have h1 : x.toInt < 0 ∨ (l.length : Int) ≤ x.toInt := by
    rcases hx with h | h
    · exact Or.inl (by simpa using Int32.lt_iff_toInt_lt.mp h)
    · have := Int32.le_iff_toInt_le.mp h
      rw [nI_toInt hl] at this
      exact Or.inr this
  refine ⟨x, st, rfl, fun h => ?_, fun _ => k⟩
  omega
/-- a switch from 1 on -/
theorem x_tab1N {n t : Nat} (hc : bh_cod m pc = (24, len, a, 1, l)) (hn : n + 1 < 2 ^ 31) (ht : l[n]? = some t) (k : bw m d Q t lv st D L) : bw m d Q pc lv (.int (nI (n + 1)) :: st) D L := by
  have hl := (List.getElem?_eq_some_iff.mp ht).1
  apply bh_go
  unfold bh_st
  rw [hc]
  refine ⟨nI (n + 1), st, rfl, fun _ => ⟨t, ?_, k⟩, fun h => ?_⟩
  · rw [nI_toInt hn, show ((n + 1 : Nat) : Int) - 1 = (n : Int) by omega, Int.toNat_natCast]
    exact ht
  · rw [nI_toInt hn] at h
    omega
theorem x_tab1O {x : Int32} (hc : bh_cod m pc = (24, len, a, 1, l)) (hx : x < 1 ∨ nI l.length < x) (hl : l.length < 2 ^ 31) (k : bw m d Q a lv st D L) : bw m d Q pc lv (.int x :: st) D L := by
  apply bh_go
  unfold bh_st
  rw [hc]
  have h1 : x.toInt < 1 ∨ (l.length : Int) < x.toInt := by
    rcases hx with h | h
    · exact Or.inl (by simpa using Int32.lt_iff_toInt_lt.mp h)
    · have := Int32.lt_iff_toInt_lt.mp h
      rw [nI_toInt hl] at this
      exact Or.inr this
  refine ⟨x, st, rfl, fun h => ?_, fun _ => k⟩
  omega
theorem x_getR {k0 r : Nat} {q : String × Nat × Nat × Nat} (hc : bh_cod m pc = (25, len, a, c, l)) (hp0 : pc + len = pc') (hq : bh_FL[a]? = some q) (hk : k0 < 228) (ht : bh_tg k0 = q.2.2.1) (hj : q.2.2.2 < bh_ln k0) (hf : bh_fr q.2.2.1 q.2.2.2 = true) (hr : bh_R0 k0 q.2.2.2 = some r) (k : bw m d Q pc' lv (.ref r :: st) D L) : bw m d Q pc lv (.ref k0 :: st) D L := by
  subst hp0
  apply bh_go
  unfold bh_st
  rw [hc]
  exact ⟨k0, st, rfl, hk, q, hq, ht, hj, Or.inl ⟨hf, r, hr, k⟩⟩
theorem x_getI {k0 j : Nat} {q : String × Nat × Nat × Nat} (hc : bh_cod m pc = (25, len, a, c, l)) (hp0 : pc + len = pc') (hq : bh_FL[a]? = some q) (hk : k0 < 228) (ht : bh_tg k0 = q.2.2.1) (hj : q.2.2.2 < bh_ln k0) (hf : bh_fr q.2.2.1 q.2.2.2 = false) (hjj : q.2.2.2 = j) (k : bw m d Q pc' lv (.int (D k0 j) :: st) D L) : bw m d Q pc lv (.ref k0 :: st) D L := by
  subst hp0
  subst hjj
  apply bh_go
  unfold bh_st
  rw [hc]
  exact ⟨k0, st, rfl, hk, q, hq, ht, hj, Or.inr ⟨hf, k⟩⟩
theorem x_putI {k0 j : Nat} {x : Int32} {q : String × Nat × Nat × Nat} (hc : bh_cod m pc = (26, len, a, c, l)) (hp0 : pc + len = pc') (hq : bh_FL[a]? = some q) (hk : k0 < 228) (ht : bh_tg k0 = q.2.2.1) (hj : q.2.2.2 < bh_ln k0) (hf : bh_fr q.2.2.1 q.2.2.2 = false) (hjj : q.2.2.2 = j) (k : bw m d Q pc' lv st (bh_up2 D k0 j x) L) : bw m d Q pc lv (.int x :: .ref k0 :: st) D L := by
  subst hp0
  subst hjj
  apply bh_go
  unfold bh_st
  rw [hc]
  exact ⟨q, hq, Or.inr ⟨hf, x, k0, st, rfl, hk, ht, hj, k⟩⟩
theorem x_iald {k0 n : Nat} (hc : bh_cod m pc = (27, len, a, c, l)) (hp0 : pc + len = pc') (hk : k0 < 228) (ht : bh_tg k0 = 20) (hl : bh_ln k0 ≤ 10000) (hn : n < bh_ln k0) (k : bw m d Q pc' lv (.int (D k0 n) :: st) D L) : bw m d Q pc lv (.int (nI n) :: .ref k0 :: st) D L := by
  subst hp0
  apply bh_go
  unfold bh_st
  rw [hc]
  refine ⟨nI n, k0, st, rfl, Or.inl ⟨hk, ht, vp_in_nI hn (by omega), ?_⟩⟩
  rw [nI_clamp (by omega)]
  exact k
theorem x_iast {k0 n : Nat} {x : Int32} (hc : bh_cod m pc = (28, len, a, c, l)) (hp0 : pc + len = pc') (hk : k0 < 228) (ht : bh_tg k0 = 20) (hl : bh_ln k0 ≤ 10000) (hn : n < bh_ln k0) (k : bw m d Q pc' lv st (bh_up2 D k0 n x) L) : bw m d Q pc lv (.int x :: .int (nI n) :: .ref k0 :: st) D L := by
  subst hp0
  apply bh_go
  unfold bh_st
  rw [hc]
  refine ⟨x, nI n, k0, st, rfl, hk, ht, vp_in_nI hn (by omega), ?_⟩
  rw [nI_clamp (by omega)]
  exact k
theorem x_bald {k0 n : Nat} (hc : bh_cod m pc = (29, len, a, c, l)) (hp0 : pc + len = pc') (hk : k0 < 228) (ht : bh_tg k0 = 22 ∨ bh_tg k0 = 23) (hl : bh_ln k0 ≤ 10000) (hn : n < bh_ln k0) (k : bw m d Q pc' lv (.int (D k0 n) :: st) D L) : bw m d Q pc lv (.int (nI n) :: .ref k0 :: st) D L := by
  subst hp0
  apply bh_go
  unfold bh_st
  rw [hc]
  refine ⟨nI n, k0, st, rfl, hk, ht, vp_in_nI hn (by omega), ?_⟩
  rw [nI_clamp (by omega)]
  exact k
theorem x_bast {k0 n : Nat} {x : Int32} (hc : bh_cod m pc = (30, len, a, c, l)) (hp0 : pc + len = pc') (hk : k0 < 228) (ht : bh_tg k0 = 22) (hl : bh_ln k0 ≤ 10000) (hn : n < bh_ln k0) (k : bw m d Q pc' lv st (bh_up2 D k0 n (vp_nar .byte x)) L) : bw m d Q pc lv (.int x :: .int (nI n) :: .ref k0 :: st) D L := by
  subst hp0
  apply bh_go
  unfold bh_st
  rw [hc]
  refine ⟨x, nI n, k0, st, rfl, hk, vp_in_nI hn (by omega), Or.inl ⟨ht, ?_⟩⟩
  rw [nI_clamp (by omega)]
  exact k
theorem x_zast {k0 n : Nat} {x : Int32} (hc : bh_cod m pc = (30, len, a, c, l)) (hp0 : pc + len = pc') (hk : k0 < 228) (ht : bh_tg k0 = 23) (hl : bh_ln k0 ≤ 10000) (hn : n < bh_ln k0) (k : bw m d Q pc' lv st (bh_up2 D k0 n (vp_nar .boolean x)) L) : bw m d Q pc lv (.int x :: .int (nI n) :: .ref k0 :: st) D L := by
  subst hp0
  apply bh_go
  unfold bh_st
  rw [hc]
  refine ⟨x, nI n, k0, st, rfl, hk, vp_in_nI hn (by omega), Or.inr ⟨ht, ?_⟩⟩
  rw [nI_clamp (by omega)]
  exact k
theorem x_lald {k0 n : Nat} (hc : bh_cod m pc = (31, len, a, c, l)) (hp0 : pc + len = pc') (hk : k0 < 228) (ht : bh_tg k0 = 21) (hl : bh_ln k0 ≤ 10000) (hn : n < bh_ln k0) (k : bw m d Q pc' lv (.long (L k0 n) :: st) D L) : bw m d Q pc lv (.int (nI n) :: .ref k0 :: st) D L := by
  subst hp0
  apply bh_go
  unfold bh_st
  rw [hc]
  refine ⟨nI n, k0, st, rfl, hk, ht, vp_in_nI hn (by omega), ?_⟩
  rw [nI_clamp (by omega)]
  exact k
theorem x_last {k0 n : Nat} {x : Int64} (hc : bh_cod m pc = (32, len, a, c, l)) (hp0 : pc + len = pc') (hk : k0 < 228) (ht : bh_tg k0 = 21) (hl : bh_ln k0 ≤ 10000) (hn : n < bh_ln k0) (k : bw m d Q pc' lv st D (bh_up2 L k0 n x)) : bw m d Q pc lv (.long x :: .int (nI n) :: .ref k0 :: st) D L := by
  subst hp0
  apply bh_go
  unfold bh_st
  rw [hc]
  refine ⟨x, nI n, k0, st, rfl, hk, ht, vp_in_nI hn (by omega), ?_⟩
  rw [nI_clamp (by omega)]
  exact k
theorem x_aald {k0 n r : Nat} (hc : bh_cod m pc = (33, len, a, c, l)) (hp0 : pc + len = pc') (hk : k0 < 228) (ht : bh_tg k0 = 24) (hl : bh_ln k0 ≤ 10000) (hn : n < bh_ln k0) (hr : bh_R0 k0 n = some r) (k : bw m d Q pc' lv (.ref r :: st) D L) : bw m d Q pc lv (.int (nI n) :: .ref k0 :: st) D L := by
  subst hp0
  apply bh_go
  unfold bh_st
  rw [hc]
  refine ⟨nI n, k0, st, r, rfl, hk, ht, vp_in_nI hn (by omega), ?_, k⟩
  rw [nI_clamp (by omega)]
  exact hr
theorem x_alen {k0 n : Nat} (hc : bh_cod m pc = (35, len, a, c, l)) (hp0 : pc + len = pc') (hk : k0 < 228) (ht : 20 ≤ bh_tg k0 ∧ bh_tg k0 ≤ 24) (hn : bh_ln k0 = n) (k : bw m d Q pc' lv (.int (nI n) :: st) D L) : bw m d Q pc lv (.ref k0 :: st) D L := by
  subst hp0
  subst hn
  apply bh_go
  unfold bh_st
  rw [hc]
  exact ⟨k0, st, rfl, Or.inl ⟨hk, ht.1, ht.2, k⟩⟩
/-- a call of an ordinary method: at most d1 deep -/
theorem x_callV {k0 d1 m1 : Nat} {q : String × Nat × Nat × Nat} {Bs rest : List Value} (hc : bh_cod m pc = (40, len, a, c, l)) (hp0 : pc + len = pc') (hq : bh_ML[a]? = some q) (hm : q.2.2.1 = m1) (hkd : q.2.2.2 = 0) (hst : st = Bs.reverse ++ .ref k0 :: rest) (hn : Bs.length + 1 = bh_na m1) (hcat : bh_catsum rest ≤ 8) (hz : bh_mc m1 = 0 ∧ bh_ms m1 = 0) (hk : k0 < 228) (ht : bh_tg k0 = bh_ci m1) (hd : d1 ≤ d)
    (k : bh_wc d1 m1 (.ref k0 :: Bs) (hp D L) (fun r h' => h'.1 = 228 ∧ bh_wf m (bh_wc d) Q pc' lv (r.toList ++ rest) (0, 0) h')) : bw m d Q pc lv st D L := by
  subst hp0
  subst hm
  subst hst
  apply bh_go
  unfold bh_st
  rw [hc]
  refine ⟨q, .ref k0 :: Bs, rest, hq, by simp, hn, hcat, by rw [hz.1]; exact Nat.zero_le _, by rw [hz.2]; exact Nat.zero_le _, fun _ => ⟨k0, Bs, rfl, hk, ht⟩, fun h => by omega, ?_⟩
  refine bh_wc_le hd (bh_wc_mono ?_ k)
  rintro r h' ⟨h1, h2⟩
  rw [hz.1, hz.2]
  exact ⟨h1, h2⟩
theorem x_callS {d1 m1 : Nat} {q : String × Nat × Nat × Nat} {As rest : List Value} (hc : bh_cod m pc = (40, len, a, c, l)) (hp0 : pc + len = pc') (hq : bh_ML[a]? = some q) (hm : q.2.2.1 = m1) (hkd : q.2.2.2 = 1 ∨ q.2.2.2 = 3) (hst : st = As.reverse ++ rest) (hn : As.length = bh_na m1) (hcat : bh_catsum rest ≤ 8) (hz : bh_mc m1 = 0 ∧ bh_ms m1 = 0) (hd : d1 ≤ d)
    (k : bh_wc d1 m1 As (hp D L) (fun r h' => h'.1 = 228 ∧ bh_wf m (bh_wc d) Q pc' lv (r.toList ++ rest) (0, 0) h')) : bw m d Q pc lv st D L := by
  subst hp0
  subst hm
  subst hst
  apply bh_go
  unfold bh_st
  rw [hc]
  refine ⟨q, As, rest, hq, rfl, hn, hcat, by rw [hz.1]; exact Nat.zero_le _, by rw [hz.2]; exact Nat.zero_le _, fun h => by omega, fun h => by omega, ?_⟩
  refine bh_wc_le hd (bh_wc_mono ?_ k)
  rintro r h' ⟨h1, h2⟩
  rw [hz.1, hz.2]
  exact ⟨h1, h2⟩
theorem x_iret {x : Int32} (hc : bh_cod m pc = (41, len, a, c, l)) (hr : bh_rt m = some .int) (k : Q (some (.int x)) (hp D L)) : bw m d Q pc lv [.int x] D L := by
  apply bh_go
  unfold bh_st
  rw [hc]
  exact ⟨x, rfl, ⟨Nat.zero_le _, Nat.zero_le _⟩, Or.inl hr, k⟩
theorem x_zret {x : Int32} (hc : bh_cod m pc = (41, len, a, c, l)) (hr : bh_rt m = some .boolean) (hx : x = 0 ∨ x = 1) (k : Q (some (.int x)) (hp D L)) : bw m d Q pc lv [.int x] D L := by
  apply bh_go
  unfold bh_st
  rw [hc]
  exact ⟨x, rfl, ⟨Nat.zero_le _, Nat.zero_le _⟩, Or.inr ⟨hr, hx⟩, k⟩
theorem x_lret {x : Int64} (hc : bh_cod m pc = (42, len, a, c, l)) (hr : bh_rt m = some .long) (k : Q (some (.long x)) (hp D L)) : bw m d Q pc lv [.long x] D L := by
  apply bh_go
  unfold bh_st
  rw [hc]
  exact ⟨x, rfl, ⟨Nat.zero_le _, Nat.zero_le _⟩, hr, k⟩
theorem x_aret {x : Nat} (hc : bh_cod m pc = (43, len, a, c, l)) (hr : bh_rt m = some (.object "java/lang/String")) (k : Q (some (.ref x)) (hp D L)) : bw m d Q pc lv [.ref x] D L := by
  apply bh_go
  unfold bh_st
  rw [hc]
  exact ⟨x, rfl, ⟨Nat.zero_le _, Nat.zero_le _⟩, hr, k⟩
theorem x_vret (hc : bh_cod m pc = (44, len, a, c, l)) (hr : bh_rt m = none) (k : Q none (hp D L)) : bw m d Q pc lv [] D L := by
  apply bh_go
  unfold bh_st
  rw [hc]
  exact ⟨rfl, ⟨Nat.zero_le _, Nat.zero_le _⟩, hr, k⟩
theorem x_ldcS (hc : bh_cod m pc = (45, len, a, c, l)) (hp0 : pc + len = pc') (k : bw m d Q pc' lv (.ref (1100 + a) :: st) D L) : bw m d Q pc lv st D L := by
  subst hp0
  apply bh_go
  unfold bh_st
  rw [hc]
  exact k
theorem x_slen {j : Nat} (hc : bh_cod m pc = (46, len, a, c, l)) (hp0 : pc + len = pc') (hj : j < bh_ST.length) (hcat : bh_catsum st ≤ 8) (k : bw m d Q pc' lv (.int (nI (bh_sl j)) :: st) D L) : bw m d Q pc lv (.ref (1100 + j) :: st) D L := by
  subst hp0
  apply bh_go
  unfold bh_st
  rw [hc]
  exact ⟨j, st, rfl, hj, hcat, ⟨Nat.zero_le _, Nat.zero_le _⟩, k⟩
theorem x_char {j n : Nat} (hc : bh_cod m pc = (47, len, a, c, l)) (hp0 : pc + len = pc') (hj : j < bh_ST.length) (hcat : bh_catsum st ≤ 8) (hn : n < bh_sl j) (hs : bh_sl j < 100) (k : bw m d Q pc' lv (.int (bh_sc j n) :: st) D L) : bw m d Q pc lv (.int (nI n) :: .ref (1100 + j) :: st) D L := by
  subst hp0
  apply bh_go
  unfold bh_st
  rw [hc]
  refine ⟨nI n, j, st, rfl, hj, hcat, ⟨Nat.zero_le _, Nat.zero_le _⟩, vp_in_nI hn (by omega), ?_⟩
  rw [nI_clamp (by omega)]
  exact k
theorem x_copy {k0 k1 n : Nat} (hc : bh_cod m pc = (48, len, a, c, l)) (hp0 : pc + len = pc') (hcat : bh_catsum st ≤ 8) (hk : k1 < 228) (hk0 : k0 < 228) (ht : bh_tg k1 = 20) (ht0 : bh_tg k0 = 20) (hl : bh_ln k1 ≤ 10000) (hn : n ≤ bh_ln k1) (hn0 : n ≤ bh_ln k0) (hne : k1 ≠ k0) (k : bw m d Q pc' lv st (bh_upr D k1 (va_cpy (D k0) (D k1) 0 0 n)) L) : bw m d Q pc lv (.int (nI n) :: .int 0 :: .ref k1 :: .int 0 :: .ref k0 :: st) D L := by
  subst hp0
  apply bh_go
  unfold bh_st
  rw [hc]
  refine ⟨nI n, k1, _, rfl, k0, st, rfl, hcat, hk, hk0, ht, ht0, nI_pos (by omega), by rw [nI_clamp (by omega)]; exact hn, by rw [nI_clamp (by omega)]; exact hn0, hne, ?_⟩
  rw [nI_clamp (by omega)]
  exact k
theorem x_max {x y v : Int32} (hc : bh_cod m pc = (49, len, a, c, l)) (hp0 : pc + len = pc') (hcat : bh_catsum st ≤ 8) (hv : (if x < y then y else x) = v) (k : bw m d Q pc' lv (.int v :: st) D L) : bw m d Q pc lv (.int y :: .int x :: st) D L := by
  subst hp0
  subst hv
  apply bh_go
  unfold bh_st
  rw [hc]
  exact ⟨x, y, st, rfl, hcat, ⟨Nat.zero_le _, Nat.zero_le _⟩, k⟩
theorem x_min {x y v : Int32} (hc : bh_cod m pc = (50, len, a, c, l)) (hp0 : pc + len = pc') (hcat : bh_catsum st ≤ 8) (hv : (if y < x then y else x) = v) (k : bw m d Q pc' lv (.int v :: st) D L) : bw m d Q pc lv (.int y :: .int x :: st) D L := by
  subst hp0
  subst hv
  apply bh_go
  unfold bh_st
  rw [hc]
  exact ⟨x, y, st, rfl, hcat, ⟨Nat.zero_le _, Nat.zero_le _⟩, k⟩
/-- a contract begins -/
theorem x_start {m1 : Nat} {As lv0 : List Value} (h1 : (bh_lay As).length ≤ bh_mL m1) (h2 : bh_ent m1 As = lv0) (k : bw m1 d Q 0 lv0 [] D L) : bh_wc (d + 1) m1 As (hp D L) Q := ⟨h1, by rw [h2]; exact k⟩
end bh_rules
