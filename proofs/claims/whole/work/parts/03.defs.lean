/-! ===== the table is the code: every instruction, every link ===== -/
def bh_O (m : Nat) : String := (bh_Y m).cls
def bh_at (i : Nat) (w : Jvm.Cond) : Bool := decide (lw_tbl[i]? = some w) && goodWord w
theorem bh_at_WS {i : Nat} {w : Jvm.Cond} (h : bh_at i w = true) : w ∈ bh_WS := by
  simp only [bh_at, Bool.and_eq_true, decide_eq_true_eq] at h
  exact bh_WS_of h.1 h.2
def bh_cc (c : Int) : Jvm.ClassFile.Cond := match c with
  | 0 => .eq
  | 1 => .ne
  | 2 => .lt
  | 3 => .ge
  | 4 => .gt
  | _ => .le
def bh_dc (m pc : Nat) (i : Instr) (len : Nat) : Bool := decide (decode (bh_B m) pc = .ok (i, len))
/-- the short form of an instruction with a place, or the long one -/
def bh_d4 (m pc len a : Nat) (c : Int) (f : Fin 4 → Instr) (g : Nat → Instr) : Bool :=
  if c = 1 then (if h : a < 4 then decide (len = 1) && bh_dc m pc (f ⟨a, h⟩) 1 else false) else decide (len = 2) && bh_dc m pc (g a) 2
def bh_ibI (a : Nat) : Instr := match a with
  | 0 => .iadd
  | 1 => .isub
  | 2 => .imul
  | 3 => .iand
  | 4 => .ior
  | 5 => .ixor
  | 6 => .ishl
  | 7 => .ishr
  | _ => .iushr
def bh_lbI (a : Nat) : Instr := match a with
  | 0 => .ladd
  | 1 => .lmul
  | _ => .lor
def bh_nat (a : Nat) : ArrayType := match a with
  | 20 => .int
  | 21 => .long
  | 22 => .byte
  | _ => .boolean
def bh_d1 (m pc len : Nat) (i : Instr) : Bool := decide (len = 1) && bh_dc m pc i 1
def bh_d3 (m pc len : Nat) (i : Instr) : Bool := decide (len = 3) && bh_dc m pc i 3
def bh_ok (m pc : Nat) (i : bh_I) : Bool :=
  match i with
  | (op, len, a, c, l) =>
    match op with
    | 0 => true
    | 1 => match a with
      | 0 => bh_d1 m pc len (.iconst c)
      | 1 => decide (len = 2) && bh_dc m pc (.bipush c) 2 && decide ((Int8.ofInt c).toInt32 = Int32.ofInt c)
      | 2 => decide (len = 3) && bh_dc m pc (.sipush c) 3 && decide ((Int16.ofInt c).toInt32 = Int32.ofInt c)
      | 3 => decide (len = 2) && bh_dc m pc (.ldc (l.getD 0 0)) 2 && bh_at (l.getD 1 0) (.constant (bh_O m) (l.getD 0 0) (Int32.ofInt c))
      | _ => bh_d3 m pc len (.ldc_w (l.getD 0 0)) && bh_at (l.getD 1 0) (.constant (bh_O m) (l.getD 0 0) (Int32.ofInt c))
    | 2 => match a with
      | 0 => if c = 0 then bh_d1 m pc len (.lconst 0) else decide (c = 1) && bh_d1 m pc len (.lconst 1)
      | _ => bh_d3 m pc len (.ldc2_w (l.getD 0 0)) && bh_at (l.getD 1 0) (.constantLong (bh_O m) (l.getD 0 0) (Int64.ofInt c))
    | 3 => bh_d4 m pc len a c .iload_n .iload
    | 4 => bh_d4 m pc len a c .lload_n .lload
    | 5 => bh_d4 m pc len a c .aload_n .aload
    | 6 => bh_d4 m pc len a c .istore_n .istore
    | 7 => bh_d4 m pc len a c .lstore_n .lstore
    | 8 => bh_d4 m pc len a c .astore_n .astore
    | 9 => bh_d3 m pc len (.iinc a c)
    | 10 => bh_d1 m pc len (bh_ibI a)
    | 11 => bh_d1 m pc len .idiv
    | 12 => bh_d1 m pc len .irem
    | 13 => bh_d1 m pc len (bh_lbI a)
    | 14 => bh_d1 m pc len .lshl
    | 15 => bh_d1 m pc len .i2l
    | 16 => bh_d1 m pc len .i2b
    | 17 => bh_d1 m pc len .lcmp
    | 18 => bh_d1 m pc len .dup
    | 19 => bh_d1 m pc len .pop
    | 20 => bh_d1 m pc len .dup2
    | 21 => bh_d3 m pc len (.ifCond (bh_cc c) ((a : Int) - pc))
    | 22 => bh_d3 m pc len (.if_icmp (bh_cc c) ((a : Int) - pc))
    | 23 => bh_d3 m pc len (.goto ((a : Int) - pc))
    | 24 => bh_dc m pc (.tableswitch ((a : Int) - pc) c (c + l.length - 1) (l.map (fun t : Nat => (t : Int) - pc)).toArray) len
    | 25 => match bh_FL[a]? with
      | some q => bh_d3 m pc len (.getfield q.2.1) && decide (q.1 = bh_O m)
      | none => false
    | 26 => match bh_FL[a]? with
      | some q => bh_d3 m pc len (.putfield q.2.1) && decide (q.1 = bh_O m) && (match bh_cls[q.2.2.1]? with
        | some t => (t.2.1 q.2.2.2).2.2.2 == bh_fr q.2.2.1 q.2.2.2 && (!(bh_fr q.2.2.1 q.2.2.2) || (decide ((bh_Y m).name = "<init>") && decide ((t.2.1 q.2.2.2).1 = bh_O m)))
        | none => false)
      | none => false
    | 27 => bh_d1 m pc len .iaload
    | 28 => bh_d1 m pc len .iastore
    | 29 => bh_d1 m pc len .baload
    | 30 => bh_d1 m pc len .bastore
    | 31 => bh_d1 m pc len .laload
    | 32 => bh_d1 m pc len .lastore
    | 33 => bh_d1 m pc len .aaload
    | 34 => bh_d1 m pc len .aastore
    | 35 => bh_d1 m pc len .arraylength
    | 36 => match bh_cls[a]? with
      | some t => bh_d3 m pc len (.new c.toNat) && bh_at (l.getD 0 0) (.classLink (bh_O m) c.toNat t.1) && bh_at (l.getD 1 0) (.instantiable t.1 t.2.2) && bh_at (l.getD 2 0) (.initialized t.1)
      | none => false
    | 37 => decide (20 ≤ a ∧ a ≤ 23) && decide (len = 2) && bh_dc m pc (.newarray (bh_nat a)) 2
    | 38 => bh_d3 m pc len (.anewarray c.toNat) && bh_at (l.getD 0 0) (.classLink (bh_O m) c.toNat "BorrowedHands$Town")
    | 39 => bh_d3 m pc len (.invokespecial c.toNat) && bh_at (l.getD 0 0) (.methodLink (bh_O m) c.toNat Lib.objectInit)
    | 40 => match bh_ML[a]? with
      | some q => decide (q.1 = bh_O m) && bh_d3 m pc len (match q.2.2.2 with
        | 0 => .invokevirtual q.2.1
        | 1 => .invokestatic q.2.1
        | 2 => .invokespecial q.2.1
        | 3 => .invokestatic q.2.1
        | _ => .invokespecial q.2.1)
      | none => false
    | 41 => bh_d1 m pc len .ireturn
    | 42 => bh_d1 m pc len .lreturn
    | 43 => bh_d1 m pc len .areturn
    | 44 => bh_d1 m pc len .return_
    | 45 => decide (len = 2) && bh_dc m pc (.ldc c.toNat) 2 && (match bh_ST[a]? with
      | some q => decide (q.1 = bh_O m ∧ q.2.1 = c.toNat)
      | none => false)
    | 46 => bh_d3 m pc len (.invokevirtual c.toNat) && bh_at (l.getD 0 0) (.methodLink (bh_O m) c.toNat yJ0_length_8abf5)
    | 47 => bh_d3 m pc len (.invokevirtual c.toNat) && bh_at (l.getD 0 0) (.methodLink (bh_O m) c.toNat yJ0_charAt_5068e)
    | 48 => bh_d3 m pc len (.invokestatic c.toNat) && bh_at (l.getD 0 0) (.methodLink (bh_O m) c.toNat arraycopyName)
    | 49 => bh_d3 m pc len (.invokestatic c.toNat) && bh_at (l.getD 0 0) (.methodLink (bh_O m) c.toNat Lib.Math.max.name)
    | 50 => bh_d3 m pc len (.invokestatic c.toNat) && bh_at (l.getD 0 0) (.methodLink (bh_O m) c.toNat Lib.Math.min.name)
    | _ => false
def bh_okm (m : Nat) : Bool := (bh_codes.getD m []).zipIdx.all (fun q => bh_ok m q.2 q.1)
def bh_fw (q : String × Nat × Nat × Nat) : Jvm.Cond := match bh_cls[q.2.2.1]? with
  | some t => .fieldLink q.1 q.2.1 (t.2.1 q.2.2.2).1 (t.2.1 q.2.2.2).2.1 (t.2.1 q.2.2.2).2.2.1
  | none => .count 0
def bh_fok (i : Nat) : Bool := match bh_FL[i]?, bh_FLp[i]? with
  | some q, some p => bh_at p (bh_fw q) && (match bh_cls[q.2.2.1]? with
    | some t => decide (q.2.2.2 < t.2.2)
    | none => false)
  | _, _ => false
def bh_mh (y : MethodName) : Bool := decide (y.cls ≠ "java/lang/invoke/MethodHandle") && decide (y.cls ≠ "java/lang/invoke/VarHandle")
def bh_mok (i : Nat) : Bool := match bh_ML[i]?, bh_MLp[i]? with
  | some q, some p => decide (q.2.2.1 < 261) && bh_at p.2.2.2 (.initialized (bh_Y q.2.2.1).cls) && bh_mh (bh_Y q.2.2.1) && (match q.2.2.2 with
    | 0 => bh_at p.1 (.methodLink q.1 q.2.1 (bh_Y q.2.2.1)) && bh_at p.2.1 (.instanceMethod (bh_Y q.2.2.1)) && bh_at p.2.2.1 (.selects (bh_Y q.2.2.1).cls (bh_Y q.2.2.1) (bh_Y q.2.2.1)) && decide ((parseMethodDescriptor (bh_Y q.2.2.1).desc).map (fun d => d.parameters.length + 1) = some (bh_na q.2.2.1)) && decide ((bh_cls[bh_ci q.2.2.1]?).map (fun t => t.1) = some (bh_Y q.2.2.1).cls)
    | 1 => bh_at p.1 (.methodLink q.1 q.2.1 (bh_Y q.2.2.1)) && bh_at p.2.1 (.static (bh_Y q.2.2.1)) && decide ((parseMethodDescriptor (bh_Y q.2.2.1).desc).map (fun d => d.parameters.length) = some (bh_na q.2.2.1))
    | 2 => bh_at p.1 (.methodLink q.1 q.2.1 (bh_Y q.2.2.1)) && bh_at p.2.1 (.instanceMethod (bh_Y q.2.2.1)) && decide ((bh_Y q.2.2.1).name = "<init>") && decide (bh_rt q.2.2.1 = none) && decide ((parseMethodDescriptor (bh_Y q.2.2.1).desc).map (fun d => d.parameters.length + 1) = some (bh_na q.2.2.1))
    | 3 => decide (lw_tbl[p.1]? = some (.methodLinkNest q.1 q.2.1 (bh_Y q.2.2.1) "BorrowedHands")) && bh_at p.2.1 (.static (bh_Y q.2.2.1)) && decide ((parseMethodDescriptor (bh_Y q.2.2.1).desc).map (fun d => d.parameters.length) = some (bh_na q.2.2.1))
    | 4 => decide (lw_tbl[p.1]? = some (.methodLinkNest q.1 q.2.1 (bh_Y q.2.2.1) "BorrowedHands")) && bh_at p.2.1 (.instanceMethod (bh_Y q.2.2.1)) && decide ((bh_Y q.2.2.1).name = "<init>") && decide (bh_rt q.2.2.1 = none) && decide ((parseMethodDescriptor (bh_Y q.2.2.1).desc).map (fun d => d.parameters.length + 1) = some (bh_na q.2.2.1))
    | _ => false)
  | _, _ => false
def bh_cok (m : Nat) : Bool := plainName (bh_Y m).cls && decide (bh_mL m ≤ 40) && decide (bh_na m ≤ bh_mL m) && (decide (m = m_L_law) || bh_at (bh_cdp.getD m 0) (.code (bh_Y m) (bh_B m) (bh_mL m) (bh_rt m)))
def bh_ty (ci : Nat) : Nat → FieldType := match ci with
  | 0 => tyX0
  | 1 => tyX1
  | 2 => tyX2
  | 3 => tyX3
  | 4 => tyX4
  | 5 => tyX5
  | 6 => tyX6
  | 7 => tyX7
  | 8 => tyX8
  | 9 => tyX9
  | _ => tyX10
def bh_uok (ci : Nat) : Bool := match bh_cls[ci]? with
  | some t => (u_ws t.1 t.2.1 t.2.2).all (fun w => decide (w ∈ bh_WS)) && (List.range t.2.2).all (fun k => decide (parseFieldDescriptor (t.2.1 k).2.2.1 = some (bh_ty ci k)) && (if bh_fr ci k then decide (bh_ty ci k ≠ .int) && decide (defaultValue (bh_ty ci k) = .null) else decide (bh_ty ci k = .int))) && (List.range t.2.2).all (fun a => (List.range t.2.2).all (fun b => decide (a = b) || decide ((t.2.1 a).2.1 ≠ (t.2.1 b).2.1)))
  | none => false
def bh_pok (k : Nat) : Bool := (match bh_cls[bh_tg k]? with
  | some t => decide (t.2.2 = bh_ln k)
  | none => true) && decide (bh_ln k < 10000)
