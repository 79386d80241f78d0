/-! THE CLAIM OUT OF ONE WALK OF THE LAW'S BODY. Your part is whole_start (and what it stands on); all else here is the same for every law, but numbers. -/
def R_law : String := "BorrowedHandsLaw"
def lw_P (b : Addr) (xs : List Int32) (args : Array Value) (s : State) : Prop := args = #[.ref b] ∧ s.IntsAt b xs ∧ xs.length ≤ 3072 ∧ (Jvm.Cond.and given_1 narrow_1).before args s = true
def lw_Q (_ : Array Value) (s : State) (o : Outcome) (t : State) : Prop := o = .returned (some (.int 1)) ∧ Framed s o t [] 600000 7302250
def lw_Z (below : List Frame) (a : Array Value) (s : State) : State → Prop := fun t => ∃ o, t.status = .running ∧ Ended t below o ∧ lw_Q a s o t
/-- the law's own end, with 1 on the stack, nothing written that was there before, its room as the claim has it -/
theorem lw_ret {p : Program} {l : Launch} {e : Env} {s : State} {m : MethodId} {below : List Frame} {meth : Method} {c : Code} {b : Nat} (hx : p.tables.exec = Jvm.exec) (hb : c.code = code) (hr : meth.sig.returnType = ret) (hlocks : meth.locks = false) {pc : Nat} {H : Heap} {ls : Array Slot} (hdg : decode code pc = .ok (.ireturn, 1)) : W p l e room_1 s m #[Value.ref b] below meth c H [] 600000 7302250 (lw_Z below #[Value.ref b] s) (F0 m pc ls [.int 1]) := by
  intro T hT X
  obtain ⟨fs, hret, hrun, hended, hW, hframe⟩ := X.leave (v := some (.int 1)) (hlocks := hlocks) (fun h => by rw [hr] at h; cases h)
  have hmeth' : T.vm.method? m = some meth := X.method'
  refine ⟨T.setFrames fs, ?_, .returned (some (.int 1)), hrun, hended, rfl, ⟨_, rfl⟩, hW, hframe⟩
  jvm_step X.here [X.here.top, hx, hb, hdg, hmeth', hr, ret, narrow_b1]
  (try refine ⟨rfl, ?_⟩); (try refine ⟨rfl, ?_⟩)
  first | (intro acts; rw [hret _ acts rfl rfl rfl]) | rw [hret _ _ rfl rfl rfl]
  exact Steps.refl _
/-- what holds at the law's entry: the machine, the code, the tables' words (any of lw_tbl by 'hts w (by decide +kernel)'), the script of L ints xs at the cell b, what the Statement gives of the start (any of its parts by flat_of_before) -/
def lw_At (p : Program) (s : State) (m : MethodId) (meth : Method) (c : Code) (b L : Nat) (xs : Nat → Int32) : Prop :=
  p.tables.exec = Jvm.exec ∧ c.code = code ∧ meth.sig.returnType = ret ∧ c.maxLocals = 4 ∧ s.vm.findClass R_law = some m.cls ∧ (∀ w ∈ lw_tbl, w.before #[Value.ref b] s = true) ∧ va_X b L xs s s.heap ∧ b < s.heap.size ∧ meth.locks = false ∧ (Jvm.Cond.and given_1 narrow_1).before #[Value.ref b] s = true
theorem bh_B_law : bh_B m_L_law = code := rfl
theorem bh_mc_law : bh_mc m_L_law = 600000 := rfl
theorem bh_ms_law : bh_ms m_L_law = 7302250 := rfl
theorem bh_nm_law : ¬ (bh_Y m_L_law).name = "<init>" := by decide +kernel
theorem whole_start {p : Program} {e : Env} {s : State} {m : MethodId} {below : List Frame} {meth : Method} {c : Code} (l : Launch) (hflags : l.flags = flags0) {b L : Nat} {xs : Nat → Int32} (hL : L ≤ 3072) (C0 : lw_At p s m meth c b L xs) : W p l e room_1 s m #[Value.ref b] below meth c s.heap [] 0 0 (lw_Z below #[Value.ref b] s) (entryFrame m ([Value.ref b] : List Value).toArray 4) := by
  obtain ⟨hx, hb, hr, hml, hown, hts, hX, hbl, hlocks, hgv⟩ := id C0
  obtain ⟨g, hE, eB, e0, eL, eS⟩ := bh_ext0 hts hgv hX hbl hL
  have cx : bh_Cx g m_L_law (16 + 9) p room_1 s m #[Value.ref b] meth c := ⟨hx, hb.trans bh_B_law.symm, hml, hown, fun w hw => hts w (bh_WS_tbl hw), Nat.le_of_ble_eq_true rfl, hE, ⟨Nat.le_of_ble_eq_true rfl, Nat.le_of_ble_eq_true rfl, bh_mc_law.symm, bh_ms_law.symm⟩, by rw [eB]; exact Nat.le_refl _, fun h => absurd h bh_nm_law⟩
  have hl := lv_entry ([.ref b]) (n := 4) (Nat.le_of_ble_eq_true rfl)
  rw [lg_entry_eq]
  generalize (lg_sl ([.ref b]) ++ List.replicate (4 - (lg_sl ([.ref b])).length) Slot.unset).toArray = ls at hl ⊢
  have had : bh_ad g 1000 = b := (if_neg (by decide)).trans e0
  have hl1 : lv_has ls (bh_mL m_L_law) (lv_args 0 ([Value.ref 1000].map (bh_tr g))) := by
    show lv_has ls 4 (lv_args 0 [Value.ref (bh_ad g 1000)])
    rw [had]
    exact hl
  have hl2 : lv_has ls (bh_mL m_L_law) (bh_pr g [.ref 1000, .null, .null, .null]) := bh_entry hl1
  have hlaw := law_all (s0 := xs) (s1 := fun _ => nI L) (n := L) (Q := fun r _ => r = some (.int 1)) rfl (by omega) (fun _ => rfl)
  refine hlaw (bh_MP g m_L_law p l e room_1 s m #[Value.ref b] below meth c (lw_Z below #[Value.ref b] s)) (bh_sound1 (d0 := 16) cx (fun m1 As h Q h1 h2 h3 => bh_sound g l 16 m1 As h Q h1 h2 h3) ?_) s.heap [] ls (fun k q h => by simp [bh_ws] at h) va_S.rf (by rw [eB]) ⟨by rw [eS]; rfl, by rw [eL]; rfl, Nat.zero_le _⟩ hl2
  intro r v pc u h' H locs ls' hrr hu hq hP' hS' hX'
  have hq : r = some (.int 1) := hq
  subst hq
  rw [bh_mc_law, bh_ms_law] at hu
  refine va_forget (fun q hq => by have h9 := hS'.2.2 q hq; rw [← eB]; exact h9) ?_
  refine W.widen hu.1 hu.2 ?_
  rcases hrr with ⟨x, e1, hd, -⟩ | ⟨x, e1, -⟩ | ⟨x, e1, -⟩ | ⟨e1, -⟩
  · rw [bh_B_law] at hd
    exact lw_ret hx hb hr hlocks hd
  · cases e1
  · cases e1
  · cases e1
