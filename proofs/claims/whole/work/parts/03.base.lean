/-! ===== the machine over a picture: one step, the least fixed point, contracts by depth ===== -/
def bh_Y (m : Nat) : MethodName := bh_ys.getD m ⟨"", "", ""⟩
def bh_B (m : Nat) : ByteArray := bh_bs.getD m ByteArray.empty
def bh_mL (m : Nat) : Nat := bh_mls.getD m 0
def bh_rt (m : Nat) : Option FieldType := bh_rts.getD m none
def bh_na (m : Nat) : Nat := bh_nas.getD m 0
def bh_ci (m : Nat) : Nat := bh_cis.getD m 99
def bh_mc (m : Nat) : Nat := bh_mcs.getD m 0
def bh_ms (m : Nat) : Nat := bh_mss.getD m 0
def bh_cod (m pc : Nat) : bh_I := (bh_codes.getD m []).getD pc bz
/-- how many cells there are; the references; the ints (fields, elements); the longs -/
abbrev bh_H : Type := Nat × (Nat → Nat → Option Nat) × (Nat → Nat → Int32) × (Nat → Nat → Int64)
/-- the plan of the cells: what each is (a class's number; 20 int[], 21 long[], 22 byte[], 23 boolean[], 24 Town[]) and how long -/
def bh_plan : List (Nat × Nat) :=
  let tw : List (Nat × Nat) := (7, 18) :: (List.replicate 8 (20, 12) ++ [(20, 4), (20, 32), (20, 384), (20, 16)])
  (9, 16) :: (tw ++ tw ++ [(6, 5), (20, 400), (24, 10), (24, 2), (2, 2), (20, 12), (8, 3), (20, 16), (20, 16), (20, 16), (4, 7), (5, 3), (20, 16), (20, 16), (0, 3), (20, 96), (20, 144), (3, 2), (20, 16), (20, 16), (20, 12), (21, 17)]
    ++ (List.replicate 12 tw).flatten
    ++ [(10, 33), (20, 560), (20, 560), (20, 5600), (20, 1120), (23, 2), (22, 400), (20, 12), (20, 12), (20, 16), (20, 16), (20, 16), (20, 16), (20, 16), (20, 16), (20, 16), (20, 16), (20, 16), (21, 17), (20, 144), (20, 16), (20, 16), (20, 16)])
def bh_tg (k : Nat) : Nat := (bh_plan.getD k (99, 0)).1
def bh_ln (k : Nat) : Nat := (bh_plan.getD k (99, 0)).2
/-- whether a class's field holds a reference -/
def bh_fr (ci j : Nat) : Bool := match bh_cls[ci]? with
  | some q => decide (1 < (q.2.1 j).2.2.1.length)
  | none => false
