/-! ===== strings: what stands in them, and the library's two methods ===== -/
theorem bh_sw1 : Jvm.Cond.initialized "java/lang/String" ∈ bh_WS := bh_WS_of (i := 113) (by decide +kernel) (by decide +kernel)
theorem bh_sw2 : Jvm.Cond.initialized "java/lang/StringLatin1" ∈ bh_WS := bh_WS_of (i := 114) (by decide +kernel) (by decide +kernel)
theorem bh_sw3 : Jvm.Cond.initialized "jdk/internal/util/Preconditions" ∈ bh_WS := bh_WS_of (i := 115) (by decide +kernel) (by decide +kernel)
theorem bh_sw4 : Jvm.Cond.instanceMethod Str.length.name ∈ bh_WS := bh_WS_of (i := 465) (by decide +kernel) (by decide +kernel)
theorem bh_sw5 : Jvm.Cond.selects "java/lang/String" Str.length.name Str.length.name ∈ bh_WS := bh_WS_of (i := 466) (by decide +kernel) (by decide +kernel)
theorem bh_sw6 : Jvm.Cond.code Str.length.name Lib.String.length.code 1 (some .int) ∈ bh_WS := bh_WS_of (i := 467) (by decide +kernel) (by decide +kernel)
theorem bh_sw7 : Jvm.Cond.methodLink "java/lang/String" 335 Lib.String.coder.name ∈ bh_WS := bh_WS_of (i := 468) (by decide +kernel) (by decide +kernel)
theorem bh_sw8 : Jvm.Cond.instanceMethod Lib.String.coder.name ∈ bh_WS := bh_WS_of (i := 469) (by decide +kernel) (by decide +kernel)
theorem bh_sw9 : Jvm.Cond.selects "java/lang/String" Lib.String.coder.name Lib.String.coder.name ∈ bh_WS := bh_WS_of (i := 470) (by decide +kernel) (by decide +kernel)
theorem bh_sw10 : Jvm.Cond.code Lib.String.coder.name Lib.String.coder.code 1 (some .byte) ∈ bh_WS := bh_WS_of (i := 471) (by decide +kernel) (by decide +kernel)
theorem bh_sw11 : Jvm.Cond.fieldLink "java/lang/String" 38 "java/lang/String" "COMPACT_STRINGS" "Z" ∈ bh_WS := bh_WS_of (i := 472) (by decide +kernel) (by decide +kernel)
theorem bh_sw12 : Jvm.Cond.instanceMethod Str.charAt.name ∈ bh_WS := bh_WS_of (i := 475) (by decide +kernel) (by decide +kernel)
theorem bh_sw13 : Jvm.Cond.selects "java/lang/String" Str.charAt.name Str.charAt.name ∈ bh_WS := bh_WS_of (i := 476) (by decide +kernel) (by decide +kernel)
theorem bh_sw14 : Jvm.Cond.code Str.charAt.name Str.charAt.code 2 (some .char) ∈ bh_WS := bh_WS_of (i := 477) (by decide +kernel) (by decide +kernel)
theorem bh_sw15 : Jvm.Cond.methodLink "java/lang/String" 492 Str.isLatin1.name ∈ bh_WS := bh_WS_of (i := 478) (by decide +kernel) (by decide +kernel)
theorem bh_sw16 : Jvm.Cond.instanceMethod Str.isLatin1.name ∈ bh_WS := bh_WS_of (i := 479) (by decide +kernel) (by decide +kernel)
theorem bh_sw17 : Jvm.Cond.selects "java/lang/String" Str.isLatin1.name Str.isLatin1.name ∈ bh_WS := bh_WS_of (i := 480) (by decide +kernel) (by decide +kernel)
theorem bh_sw18 : Jvm.Cond.code Str.isLatin1.name Lib.String.isLatin1.code 1 (some .boolean) ∈ bh_WS := bh_WS_of (i := 481) (by decide +kernel) (by decide +kernel)
theorem bh_sw19 : Jvm.Cond.methodLink "java/lang/String" 495 SL1.charAt.name ∈ bh_WS := bh_WS_of (i := 482) (by decide +kernel) (by decide +kernel)
theorem bh_sw20 : Jvm.Cond.static SL1.charAt.name ∈ bh_WS := bh_WS_of (i := 483) (by decide +kernel) (by decide +kernel)
theorem bh_sw21 : Jvm.Cond.code SL1.charAt.name SL1.charAt.code 2 (some .char) ∈ bh_WS := bh_WS_of (i := 484) (by decide +kernel) (by decide +kernel)
theorem bh_sw22 : Jvm.Cond.methodLink "java/lang/StringLatin1" 9 Str.checkIndex.name ∈ bh_WS := bh_WS_of (i := 485) (by decide +kernel) (by decide +kernel)
theorem bh_sw23 : Jvm.Cond.static Str.checkIndex.name ∈ bh_WS := bh_WS_of (i := 486) (by decide +kernel) (by decide +kernel)
theorem bh_sw24 : Jvm.Cond.code Str.checkIndex.name Str.checkIndex.code 2 none ∈ bh_WS := bh_WS_of (i := 487) (by decide +kernel) (by decide +kernel)
theorem bh_sw25 : Jvm.Cond.fieldLink "java/lang/String" 1053 "jdk/internal/util/Preconditions" "SIOOBE_FORMATTER" "Ljava/util/function/BiFunction;" ∈ bh_WS := bh_WS_of (i := 488) (by decide +kernel) (by decide +kernel)
theorem bh_sw26 : Jvm.Cond.methodLink "java/lang/String" 1059 Preconditions.checkIndex.name ∈ bh_WS := bh_WS_of (i := 490) (by decide +kernel) (by decide +kernel)
theorem bh_sw27 : Jvm.Cond.static Preconditions.checkIndex.name ∈ bh_WS := bh_WS_of (i := 491) (by decide +kernel) (by decide +kernel)
theorem bh_sw28 : Jvm.Cond.code Preconditions.checkIndex.name Preconditions.checkIndex.code Preconditions.checkIndex.maxLocals (some .int) ∈ bh_WS := bh_WS_of (i := 492) (by decide +kernel) (by decide +kernel)
theorem bh_sw29 : Jvm.Cond.fieldLink "java/lang/String" 9 "java/lang/String" "value" "[B" ∈ bh_WS := bh_WS_of (i := 1639) (by decide +kernel) (by decide +kernel)
theorem bh_sw30 : Jvm.Cond.fieldLink "java/lang/String" 15 "java/lang/String" "coder" "B" ∈ bh_WS := bh_WS_of (i := 1640) (by decide +kernel) (by decide +kernel)
/-- a word of the tables at any later state -/
theorem bh_wAt {args A : Array Value} {S0 V : State} (hts : ∀ w ∈ bh_WS, w.before args S0 = true) (hW : S0.WarmedH V.vm) {w : Jvm.Cond} (hw : w ∈ bh_WS) : w.before A V = true :=
  word_at hW (good_of_word (bh_WS_good hw)) (hts w hw)
theorem fo_tr {S V : State} (hv : S.vm.Alike V.vm) {a : Addr} (hh : V.heap[a]? = S.heap[a]?) (c n d : String) : V.fieldOf? a c n d = S.fieldOf? a c n d := by
  rw [← State.fieldOf?_setVm hv a c n d]
  simp only [State.fieldOf?, State.heap_setVm, hh]
  rfl
theorem ex_tr {S V : State} (hv : S.vm.Alike V.vm) {a : Addr} (hh : V.heap[a]? = S.heap[a]?) {c : String} {A B : Array Value} (hA : A[0]? = some (.ref a)) (hB : B[0]? = some (.ref a)) (h : (Jvm.Cond.exactly (.arg 0) c).before A S = true) : (Jvm.Cond.exactly (.arg 0) c).before B V = true := by
  rw [← Cond.exactly_arg_setVm hv] at h
  simp only [Jvm.Cond.before, Jvm.Cond.holds, Jvm.Cond.value, Jvm.Term.eval, State.vm_setVm, State.heap_setVm, hA, hB] at h ⊢
  cases hc : V.vm.findClass c with
  | none => rw [hc] at h; exact h
  | some k =>
    rw [hc] at h
    dsimp only at h ⊢
    rw [hh]
    exact h
theorem si_tr {S V : State} {cls name desc : String} {v : Value} {B : Nat} (h : Cold.StaticIs S cls name desc v) (hv : S.vm.Alike V.vm) (hsz : S.heap.size ≤ B) (hh : ∀ q, q < B → V.heap[q]? = S.heap[q]?) : Cold.StaticIs V cls name desc v := by
  obtain ⟨cf, i, k, f, a₁, cell₁, h1, h2, h3, h4, h5, h6, h7⟩ := h
  obtain ⟨k', hk', he⟩ := State.fieldFound?_setVm hv h1
  refine ⟨cf, i, k', f, a₁, cell₁, hk', h2, by rw [he]; exact h3, by rw [he]; exact h4, ?_, h6, h7⟩
  rw [hh a₁ (Nat.lt_of_lt_of_le (Array.getElem?_eq_some_iff.mp h5).1 hsz)]
  exact h5
theorem sig_of {V : State} {A : Array Value} {y : MethodName} {b : ByteArray} {n : Nat} {r : Option FieldType} (h1 : (Jvm.Cond.static y).before A V = true) (h2 : (Jvm.Cond.code y b n r).before A V = true) : Cold.Sig V y := by
  obtain ⟨mk, hn⟩ : ∃ mk, V.methodNamed? y = some mk := by
    cases h : V.methodNamed? y with
    | none => simp [Jvm.Cond.before, Jvm.Cond.holds, Jvm.Cond.value, h] at h1
    | some mk => exact ⟨mk, rfl⟩
  obtain ⟨meth', c, hm', -, -, -, -, -, -, hs⟩ := Cond.code_spec hn h2
  exact ⟨mk, meth', hn, hm', hs⟩
theorem dec_of {V : State} {A : Array Value} {y : MethodName} {b : ByteArray} {n : Nat} {r : Option FieldType} (h1 : (Jvm.Cond.instanceMethod y).before A V = true) (h2 : (Jvm.Cond.code y b n r).before A V = true) : (Jvm.Cond.declares y).before A V = true := by
  obtain ⟨mk, meth, hn, hm, hst, -⟩ := Cond.instanceMethod_spec h1
  obtain ⟨meth', c, hm', -, -, -, -, -, -, hs⟩ := Cond.code_spec hn h2
  cases hm.symm.trans hm'
  simp [Jvm.Cond.before, Jvm.Cond.holds, Jvm.Cond.value, hn, hm, hst, hs]
/-- what stands in the strings and in the library's two fields, at a state -/
def bh_SF (g : bh_G) (S : State) : Prop := (∀ j, j < 20 → ∃ (d : Addr) (arr : Cell), (Jvm.Cond.exactly (.arg 0) "java/lang/String").before #[.ref (bh_gX g (1100 + j))] S = true ∧ S.fieldOf? (bh_gX g (1100 + j)) "java/lang/String" "coder" "B" = some (.int 0) ∧ S.fieldOf? (bh_gX g (1100 + j)) "java/lang/String" "value" "[B" = some (.ref d) ∧ S.heap[d]? = some arr ∧ S.isArrayOf arr .byte ∧ arr.vm ≠ .unknown ∧ bh_sl j ≤ arr.slots.size ∧ arr.slots.size.toInt32 = nI (bh_sl j) ∧ ∀ i, i < bh_sl j → arr.slots[i]? = some (.int (bh_sc j i))) ∧
  Cold.StaticIs S "java/lang/String" "COMPACT_STRINGS" "Z" (.int 1) ∧ ∃ fmt : Value, ((∃ q, fmt = .ref q) ∨ fmt = .null) ∧ Cold.StaticIs S "jdk/internal/util/Preconditions" "SIOOBE_FORMATTER" "Ljava/util/function/BiFunction;" fmt
def bh_SXd (g : bh_G) (U : State) (H : Heap) : Prop := ∃ S : State, S.WarmedH U.vm ∧ (∀ q, q < bh_gB g → H[q]? = S.heap[q]?) ∧ S.heap.size ≤ bh_gB g ∧ bh_SF g S
theorem bh_SXd_warm {g : bh_G} {s U : State} {H : Heap} (hW : s.WarmedH U.vm) (h : bh_SXd g s H) : bh_SXd g U H := by
  obtain ⟨S, h1, h2⟩ := h
  exact ⟨S, State.WarmedH.trans h1 hW, h2⟩
theorem bh_SXd_same {g : bh_G} {s U : State} {H : Heap} (hv : U.vm = s.vm) (h : bh_SXd g s H) : bh_SXd g U H := by
  obtain ⟨S, h1, h2⟩ := h
  exact ⟨S, by rw [hv]; exact h1, h2⟩
theorem bh_SXd_kept {g : bh_G} {U : State} {H H1 : Heap} (hk : ∀ q, q < bh_gB g → H1[q]? = H[q]?) (h : bh_SXd g U H) : bh_SXd g U H1 := by
  obtain ⟨S, h1, h2, h3⟩ := h
  exact ⟨S, h1, fun q hq => (hk q hq).trans (h2 q hq), h3⟩
theorem bh_SXat {g : bh_G} {V : State} (h : bh_SXd g V V.heap) : bh_SF g V := by
  obtain ⟨S, hW, hh, hsz, hF, hC, fmt, hf, hP⟩ := h
  have ha := hW.alike
  have hlt : ∀ {q : Nat} {c : Cell}, S.heap[q]? = some c → V.heap[q]? = some c := fun {q} {c} hq => by
    rw [hh q (Nat.lt_of_lt_of_le (Array.getElem?_eq_some_iff.mp hq).1 hsz)]; exact hq
  refine ⟨fun j hj => ?_, si_tr hC ha hsz hh, fmt, hf, si_tr hP ha hsz hh⟩
  obtain ⟨d, arr, h1, h2, h3, h4, h5, h6, h7, h8, h9⟩ := hF j hj
  have hq : V.heap[bh_gX g (1100 + j)]? = S.heap[bh_gX g (1100 + j)]? := by
    obtain ⟨a, c, cell, k, q1, q2, q3, -⟩ := Cond.exactly_spec h1
    have e : a = bh_gX g (1100 + j) := by
      have : some (Value.ref (bh_gX g (1100 + j))) = some (.ref a) := q1
      cases this; rfl
    rw [e] at q3
    rw [hlt q3, q3]
  exact ⟨d, arr, ex_tr ha hq rfl rfl h1, (fo_tr ha hq _ _ _).trans h2, (fo_tr ha hq _ _ _).trans h3, hlt h4, State.isArrayOf_alike ha h5, h6, h7, h8, h9⟩
theorem bh_lenA {g : bh_G} {args : Array Value} {S0 V : State} (hts : ∀ w ∈ bh_WS, w.before args S0 = true) (hW : S0.WarmedH V.vm) (hF : bh_SF g V) {j : Nat} (hj : j < 20) : ∃ d arr, Cold.length.spec.pre.before #[.ref (bh_gX g (1100 + j))] V = true ∧ Cold.length.P (bh_gX g (1100 + j)) d 1 arr #[.ref (bh_gX g (1100 + j))] V ∧ arr.slots.size.toInt32 = nI (bh_sl j) := by
  obtain ⟨d, arr, h1, h2, h3, h4, h5, h6, h7, h8, h9⟩ := hF.1 j hj
  have W := fun {A : Array Value} {w : Jvm.Cond} (hw : w ∈ bh_WS) => bh_wAt (A := A) hts hW hw
  refine ⟨d, arr, ?_, ⟨rfl, (va_fe rfl).trans h3, h4, h5, ?_, rfl, hF.2.1, by decide, (va_fe rfl).trans h2⟩, h8⟩
  · simp only [Cold.length.spec, Cond.before_and, Bool.and_eq_true]
    exact ⟨W bh_sw6, rfl, h1, W bh_sw29, W bh_sw7, dec_of (W bh_sw8) (W bh_sw10), W bh_sw9, W bh_sw8, W bh_sw1⟩
  · simp only [Cold.coder.spec, Cond.before_and, Bool.and_eq_true]
    exact ⟨W bh_sw10, rfl, W bh_sw11, W bh_sw30⟩
theorem bh_sl_small : ∀ j, j < 20 → bh_sl j < 100 := by decide +kernel
theorem bh_sc_again : ∀ j, j < 20 → ∀ i, i < bh_sl j → ((bh_sc j i &&& 255).toUInt32.toUInt16.toUInt32.toInt32) = bh_sc j i := by decide +kernel
theorem bh_charA {g : bh_G} {args : Array Value} {S0 V : State} (hts : ∀ w ∈ bh_WS, w.before args S0 = true) (hW : S0.WarmedH V.vm) (hF : bh_SF g V) {j i : Nat} (hj : j < 20) (hi : i < bh_sl j) : ∃ d fmt arr, Cold.charAt.spec.pre.before #[.ref (bh_gX g (1100 + j)), .int (nI i)] V = true ∧ Cold.charAt.P (bh_gX g (1100 + j)) d (nI i) (bh_sc j i) 1 fmt arr #[.ref (bh_gX g (1100 + j)), .int (nI i)] V := by
  obtain ⟨hS, hC, fmt, hf, hP⟩ := hF
  obtain ⟨d, arr, h1, h2, h3, h4, h5, h6, h7, h8, h9⟩ := hS j hj
  have hs := bh_sl_small j hj
  have W := fun {A : Array Value} {w : Jvm.Cond} (hw : w ∈ bh_WS) => bh_wAt (A := A) hts hW hw
  have ei : (nI i).toNatClampNeg = i := nI_clamp (by omega)
  refine ⟨d, fmt, arr, ?_, rfl, (va_fe rfl).trans h3, sig_of (W (A := #[]) bh_sw20) (W bh_sw21), ?_, ⟨rfl, hC, by decide, (va_fe rfl).trans h2⟩, ?_, rfl, h4, h5, h6, ?_, by rw [ei]; exact h9 i hi, sig_of (W (A := #[]) bh_sw23) (W bh_sw24), ?_, rfl, hP, sig_of (W (A := #[]) bh_sw27) (W bh_sw28), ?_⟩
  · simp only [Cold.charAt.spec, Cond.before_and, Bool.and_eq_true]
    exact ⟨W bh_sw14, rfl, ex_tr (Vm.Alike.refl _) rfl rfl rfl h1, W bh_sw15, dec_of (W bh_sw16) (W bh_sw18), W bh_sw17, W bh_sw16, W bh_sw29, W bh_sw19, W bh_sw20, W bh_sw2, W bh_sw1⟩
  · simp only [Cold.isLatin1.spec, Cond.before_and, Bool.and_eq_true]
    exact ⟨W bh_sw18, rfl, W bh_sw11, W bh_sw30⟩
  · simp only [Cold.latin1.spec, Cond.before_and, Bool.and_eq_true]
    exact ⟨W bh_sw21, rfl, W bh_sw22, W bh_sw23, W bh_sw1⟩
  · rw [ei]
    rintro (h | h)
    · exact nI_pos (by omega) h
    · omega
  · simp only [Cold.checkIndex.spec, Cond.before_and, Bool.and_eq_true]
    exact ⟨W bh_sw24, rfl, W bh_sw25, W bh_sw26, W bh_sw27, W bh_sw3⟩
  · rw [h8]
    simp only [Preconditions.checkIndex.spec, Cond.before_and, Bool.and_eq_true]
    refine ⟨W bh_sw28, rfl, rfl, rfl, ?_, ?_, ?_⟩
    · rcases hf with ⟨q, rfl⟩ | rfl <;> rfl
    · show (some (decide ((0 : Int32) ≤ nI i)) == some true) = true
      rw [decide_eq_true (Int32.not_lt.mp (nI_pos (by omega)))]; rfl
    · show (some (decide (nI i < nI (bh_sl j))) == some true) = true
      rw [decide_eq_true (nI_lt hi (by omega))]; rfl
