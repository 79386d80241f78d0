/-! ===== what stands outside the picture ===== -/
/-- strings: what the library's own methods need of them -/
def bh_SX (g : bh_G) (U : State) (H : Heap) : Prop := bh_SXd g U H
theorem bh_SX_warm {g : bh_G} {s U : State} {H : Heap} (hW : s.WarmedH U.vm) (h : bh_SX g s H) : bh_SX g U H := bh_SXd_warm hW h
theorem bh_SX_same {g : bh_G} {s U : State} {H : Heap} (hv : U.vm = s.vm) (h : bh_SX g s H) : bh_SX g U H := bh_SXd_same hv h
theorem bh_SX_kept {g : bh_G} {U : State} {H H1 : Heap} (hk : ∀ q, q < bh_gB g → H1[q]? = H[q]?) (h : bh_SX g U H) : bh_SX g U H1 := bh_SXd_kept hk h
def bh_Ext (g : bh_G) (U : State) (H : Heap) : Prop :=
  va_K (bh_gD g) bh_cls (bh_tys g) U ∧ (∀ q ∈ bh_ML, q.2.2.2 = 3 ∨ q.2.2.2 = 4 → va_Nw (.methodLinkNest q.1 q.2.1 (bh_Y q.2.2.1) "BorrowedHands") U) ∧ va_AO "BorrowedHands$Town" U ∧
  (∀ (j : Nat) (q : String × Nat × String), bh_ST[j]? = some q → vk_R q.1 q.2.1 q.2.2 (bh_gX g (1100 + j)) U) ∧ va_X (bh_gX g 1000) (bh_gL g) (bh_gS g) U H ∧ bh_gX g 1000 < bh_gB g ∧ bh_gL g ≤ 3072 ∧ bh_SX g U H
theorem bh_Ext_warm {g : bh_G} {s U : State} {H : Heap} (hW : s.WarmedH U.vm) (h : bh_Ext g s H) : bh_Ext g U H := by
  obtain ⟨h1, h2, h3, h4, h5, h6, h7, h8⟩ := h
  exact ⟨h1.moved hW.alike, fun q hq hk => va_Nw.warmM hW (h2 q hq hk), h3.moved hW.alike, fun j q hj => (h4 j q hj).warm hW, h5.moved hW.alike, h6, h7, bh_SX_warm hW h8⟩
theorem bh_Ext_same {g : bh_G} {s U : State} {H : Heap} (hv : U.vm = s.vm) (h : bh_Ext g s H) : bh_Ext g U H := by
  obtain ⟨h1, h2, h3, h4, h5, h6, h7, h8⟩ := h
  have ha : s.vm.Alike U.vm := by rw [hv]; exact Vm.Alike.refl _
  exact ⟨h1.moved ha, fun q hq hk => va_Nw.same rfl hv.symm (h2 q hq hk), h3.moved ha, fun j q hj => (h4 j q hj).same hv, h5.moved ha, h6, h7, bh_SX_same hv h8⟩
theorem bh_Ext_kept {g : bh_G} {U : State} {H H1 : Heap} (hk : ∀ q, q < bh_gB g → H1[q]? = H[q]?) (h : bh_Ext g U H) : bh_Ext g U H1 := by
  obtain ⟨h1, h2, h3, h4, h5, h6, h7, h8⟩ := h
  exact ⟨h1, h2, h3, h4, h5.kept (hk _ h6), h6, h7, bh_SX_kept hk h8⟩
/-- the script in the picture -/
def bh_scr (g : bh_G) (h : bh_H) : Prop := h.2.2.1 1000 = bh_gS g ∧ h.2.2.1 1001 0 = nI (bh_gL g) ∧ h.1 ≤ 1000
def bh_rm (d m : Nat) : Room := { frames := d + 8, cells := bh_mc m, slots := bh_ms m, locals := 64 * (d + 8) }
def bh_wsm (m : Nat) : List Jvm.Cond := Jvm.Cond.code (bh_Y m) (bh_B m) (bh_mL m) (bh_rt m) :: bh_WS
def bh_Pc (g : bh_G) (As : List Value) (h : bh_H) : Array Value → State → Prop := fun v U => v = (As.map (bh_tr g)).toArray ∧ bh_gB g + h.1 = U.heap.size ∧ va_P (bh_gD g) bh_cls (bh_ws g h) U.heap ∧ bh_Ext g U U.heap ∧ bh_scr g h
def bh_Qc (g : bh_G) (Q : bh_Q) : Array Value → State → Outcome → State → Prop := fun _ st oc t => (∃ (r : Option Value) (h : bh_H), oc = .returned (r.map (bh_tr g)) ∧ Q r h ∧ va_P (bh_gD g) bh_cls (bh_ws g h) t.heap ∧ bh_scr g h) ∧ va_F (bh_rg g) st t
/-- what 'bh_wc' says of the machine -/
def bh_Mt (g : bh_G) (l : Launch) (d m : Nat) (As : List Value) (h : bh_H) (Q : bh_Q) : Prop := Met l (bh_Y m) (bh_wsm m) (bh_rm d m) (bh_Pc g As h) (bh_Qc g Q) (bh_mc m) (bh_ms m) (bh_rg g)
theorem bh_Pc_blind (g : bh_G) (As : List Value) (h : bh_H) : FrameBlind (bh_Pc g As h) := by
  rintro a U f mk ⟨h1, h2, h3, h4, h5⟩
  exact ⟨h1, h2, h3, bh_Ext_same (s := U) rfl h4, h5⟩
section bh_ctx
variable {p : Program} {l : Launch} {e : Env} {R : Room} {s : State} {m : MethodId} {args : Array Value} {below : List Frame} {meth : Method} {c : Code} {H : Heap} {locs : List Loc} {cells slots : Nat} {Qf : State → Prop}
/-- where a method stands -/
def bh_Cx (g : bh_G) (m0 d : Nat) (p : Program) (R : Room) (s : State) (m : MethodId) (args : Array Value) (meth : Method) (c : Code) : Prop :=
  p.tables.exec = Jvm.exec ∧ c.code = bh_B m0 ∧ c.maxLocals = bh_mL m0 ∧ s.vm.findClass (bh_O m0) = some m.cls ∧ (∀ w ∈ bh_WS, w.before args s = true) ∧ m0 < 261 ∧ bh_Ext g s s.heap ∧ (d ≤ R.frames ∧ 64 * d ≤ R.locals ∧ R.cells = bh_mc m0 ∧ R.slots = bh_ms m0) ∧ bh_gB g ≤ s.heap.size ∧ ((bh_Y m0).name = "<init>" → meth.name = "<init>")
def bh_MP (g : bh_G) (m0 : Nat) (p : Program) (l : Launch) (e : Env) (R : Room) (s : State) (m : MethodId) (args : Array Value) (below : List Frame) (meth : Method) (c : Code) (Qf : State → Prop) : bh_P := fun pc lv st u h =>
  ∀ (H : Heap) (locs : List Loc) (ls : Array Slot), va_P (bh_gD g) bh_cls (bh_ws g h) H → va_S (bh_rg g) s.heap H locs → bh_gB g + h.1 = s.heap.size + u.1 → bh_scr g h → lv_has ls (bh_mL m0) (bh_pr g lv) → W p l e R s m args below meth c H locs u.1 u.2 Qf (F0 m pc ls (st.map (bh_tr g)))
/-- the heap is as large as the picture says -/
theorem bh_size {g : bh_G} {h : bh_H} {f : JFrame} (hP : va_P (bh_gD g) bh_cls (bh_ws g h) H) (hS : va_S (bh_rg g) s.heap H locs) (hB : bh_gB g ≤ s.heap.size) (hN : bh_gB g + h.1 = s.heap.size + cells) (k : H.size = bh_gB g + h.1 → W p l e R s m args below meth c H locs cells slots Qf f) : W p l e R s m args below meth c H locs cells slots Qf f := by
  intro T hT X
  have h1 := X.heapSize
  have h2 : bh_gB g + h.1 ≤ H.size := by
    by_cases h0 : h.1 = 0
    · have := hS.1
      omega
    · have h3 := (hP (h.1 - 1) _ (bh_ws_at g (by omega))).lt
      have h4 : bh_gB g + (h.1 - 1) < H.size := h3
      omega
  exact k (by rw [hT] at h1; omega) T hT X
/-- behind a call -/
theorem bh_callW {g : bh_G} {Q : bh_Q} {mc ms pc : Nat} {ls : Array Slot} {st0 rest : List Value} {a : Array Value} (hr : va_Run p l e R s m args below meth c H locs cells slots mc ms (F0 m pc ls st0) rest (bh_Qc g Q a) (bh_rg g)) (hS : va_S (bh_rg g) s.heap H locs)
    (kk : ∀ (r : Option Value) (h : bh_H) (H1 : Heap) (locs1 : List Loc), Q r h → va_P (bh_gD g) bh_cls (bh_ws g h) H1 → bh_scr g h → va_S (bh_rg g) s.heap H1 locs1 → W p l e R s m args below meth c H1 locs1 (cells + mc) (slots + ms) Qf (F0 m (pc + 3) ls ((r.map (bh_tr g)).toList ++ rest))) : W p l e R s m args below meth c H locs cells slots Qf (F0 m pc ls st0) := by
  intro T hT X
  obtain ⟨v, st₀, t, T', L, h0, X', hL, e1, e2, ⟨⟨r, h, hv, hq, hp, hx⟩, hz, hk⟩, st⟩ := hr T hT X
  cases hv
  rw [h0] at hz hk
  obtain ⟨t2, a1, b1⟩ := kk r h T'.heap (locs ++ L) hq (by rw [e1]; exact hp) hx ⟨Nat.le_trans hS.1 (by rw [e1]; exact hz), fun q h1 h2 => by rw [e1, hk q (Nat.lt_of_lt_of_le h1 hS.1) h2]; exact hS.2.1 q h1 h2, fun q hq => by
      rcases List.mem_append.mp hq with h | h
      · exact hS.2.2 q h
      · exact hL q h⟩ T' rfl X'
  exact ⟨t2, st t2 a1, b1⟩
end bh_ctx
theorem bh_good (m : Nat) (hm : m < 261) (hL : m ≠ m_L_law) : GoodIn bh_WS (bh_wsm m) := by
  intro w hw
  rcases List.mem_cons.mp hw with rfl | hw
  · have h1 := cok_all hm
    unfold bh_cok at h1
    simp only [Bool.and_eq_true, Bool.or_eq_true, decide_eq_true_eq] at h1
    rcases h1.2 with h2 | h2
    · exact absurd h2 hL
    · exact ⟨bh_at_WS h2, good_of_word (bh_WS_good (bh_at_WS h2))⟩
  · exact ⟨hw, good_of_word (bh_WS_good hw)⟩
theorem bh_native_good : goodWord (Jvm.Cond.native arraycopyName) = true := by decide +kernel
