/-! ===== served ===== -/
theorem nI_min {a b : Nat} (ha : a < 2 ^ 31) (hb : b < 2 ^ 31) : (if nI b < nI a then nI b else nI a) = nI (min a b) := by
  by_cases h : b < a
  · rw [if_pos (Int32.not_le.mp (fun q => by have := (nI_leI ha hb).mp q; omega)), Nat.min_eq_right (by omega)]
  · rw [if_neg (Int32.not_lt.mpr (nI_le (by omega) hb)), Nat.min_eq_left (by omega)]
def able (T : TW) (w : Nat) : Nat := if isD T w = true then 0 else pu T w
def bsN (s n w : Nat) : Nat := if s.testBit w = true then n else 0
def mkF (T : TW) (s n : Nat) : Nat → Nat → Nat
  | 0, _ => 0
  | f + 1, w => min (bsN s n w + sumN (fun o => if T 5 o = nI w then mkF T s n f o else 0) (nw T)) (able T w)
def ru (T : TW) (w : Nat) : Nat := (List.range (nw T)).countP (fun v => decide (pu T w < pu T v))
theorem ru_lt {T : TW} {w : Nat} (hw : w < nw T) : ru T w < nw T := by
  have h1 : (List.range (nw T)).countP (fun v => decide (pu T w < pu T v)) ≠ (List.range (nw T)).length := by
    intro e
    have := List.countP_eq_length.mp e w (List.mem_range.mpr hw)
    simp at this
  have h2 := List.countP_le_length (p := fun v => decide (pu T w < pu T v)) (l := List.range (nw T))
  rw [List.length_range] at h1 h2
  unfold ru
  omega
theorem ru_un {T : TW} {u w : Nat} (hu : u < nw T) (h : pu T w < pu T u) : ru T u < ru T w := by
  unfold ru
  refine countP_lt (x := u) _ (fun a _ ha => ?_) (List.mem_range.mpr hu) (by simp) (by simpa using h)
  simp at ha ⊢
  omega
theorem un_pu {T : TW} (hW : WF T) {o w : Nat} (ho : o < nw T) (hw : w < nw T) (h : T 5 o = nI w) : pu T w < pu T o := by
  have h12 := hW.nwl
  rcases hW.eun ho with e | ⟨e, e2, e3⟩
  · rw [e] at h; exact absurd h.symm (nI_m1 (by omega))
  · rw [e] at h
    have := nI_inj (by omega) (by omega) h
    rw [this] at e3
    exact e3
theorem mkF_st {T : TW} (hW : WF T) {s n : Nat} : ∀ (f g w : Nat), w < nw T → ru T w < f → ru T w < g → mkF T s n f w = mkF T s n g w := by
  intro f
  induction f with
  | zero => intro g w _ h; omega
  | succ f ih =>
    intro g w hw hf hg
    cases g with
    | zero => omega
    | succ g =>
      show min (_ + _) _ = min (_ + _) _
      rw [sumN_cg (g := fun o => if T 5 o = nI w then mkF T s n g o else 0) (nw T) (fun o ho => ?_)]
      by_cases h : T 5 o = nI w
      · rw [if_pos h, if_pos h]
        have := ru_un ho (un_pu hW ho hw h)
        exact ih g o ho (by omega) (by omega)
      · rw [if_neg h, if_neg h]
def mk (T : TW) (s n w : Nat) : Nat := mkF T s n 12 w
theorem mk_eq {T : TW} (hW : WF T) {s n w : Nat} (hw : w < nw T) : mk T s n w = min (bsN s n w + sumN (fun o => if T 5 o = nI w then mk T s n o else 0) (nw T)) (able T w) := by
  have h1 := ru_lt hw
  have h12 := hW.nwl
  unfold mk
  rw [mkF_st hW 12 13 w hw (by omega) (by omega)]
  rfl
theorem able_le {T : TW} (hW : WF T) {w : Nat} (hw : w < nw T) : able T w ≤ 99 := by have := hW.pul hw; unfold able; split <;> omega
theorem mk_le {T : TW} (hW : WF T) {s n w : Nat} (hw : w < nw T) : mk T s n w ≤ 99 := by rw [mk_eq hW hw]; have := able_le hW hw; omega
theorem bsN_le {s n w : Nat} (hn : n < 100) : bsN s n w ≤ 99 := by unfold bsN; split <;> omega
def servV (T : TW) (s n : Nat) : Nat := sumN (fun w => if T 5 w = -1 then mk T s n w else 0) (nw T)
def servedQ (T : TW) (x y : Int32) : Int32 := onN (2 ^ nw T) x (-1) fun s => onN 100 y (-1) fun n => nI (servV T s n)
theorem sumN_upd {f g : Nat → Nat} {k : Nat} : ∀ n, k < n → f k = 0 → (∀ o, o ≠ k → g o = f o) → sumN g n = sumN f n + g k := by
  intro n
  induction n with
  | zero => intro h; omega
  | succ n ih =>
    intro hk h0 h
    show sumN g n + g n = sumN f n + f n + g k
    rcases Nat.lt_or_ge k n with h1 | h1
    · rw [ih h1 h0 h, h n (by omega)]; omega
    · obtain rfl : k = n := by omega
      rw [sumN_cg (g := f) k (fun o ho => h o (by omega)), h0]
      omega
/-- what has come to each, what is at its end, when those that P says have been looked at -/
def flS (T : TW) (s n : Nat) (P : Nat → Prop) [DecidablePred P] (j : Nat) : Nat := bsN s n j + sumN (fun o => if P o ∧ T 5 o = nI j then mk T s n o else 0) (nw T)
def alS (T : TW) (s n : Nat) (P : Nat → Prop) [DecidablePred P] : Nat := sumN (fun o => if P o ∧ T 5 o = -1 then mk T s n o else 0) (nw T)
theorem flS_cg {T : TW} {s n : Nat} {P P' : Nat → Prop} [DecidablePred P] [DecidablePred P'] {j : Nat} (h : ∀ o, o < nw T → (P' o ↔ P o)) : flS T s n P' j = flS T s n P j := by
  unfold flS
  rw [sumN_cg (g := fun o => if P o ∧ T 5 o = nI j then mk T s n o else 0) (nw T) (fun o ho => ?_)]
  have := h o ho
  by_cases h1 : P o ∧ T 5 o = nI j
  · rw [if_pos h1, if_pos ⟨this.mpr h1.1, h1.2⟩]
  · rw [if_neg h1, if_neg (fun z => h1 ⟨this.mp z.1, z.2⟩)]
theorem alS_cg {T : TW} {s n : Nat} {P P' : Nat → Prop} [DecidablePred P] [DecidablePred P'] (h : ∀ o, o < nw T → (P' o ↔ P o)) : alS T s n P' = alS T s n P := by
  unfold alS
  rw [sumN_cg (g := fun o => if P o ∧ T 5 o = -1 then mk T s n o else 0) (nw T) (fun o ho => ?_)]
  have := h o ho
  by_cases h1 : P o ∧ T 5 o = -1
  · rw [if_pos h1, if_pos ⟨this.mpr h1.1, h1.2⟩]
  · rw [if_neg h1, if_neg (fun z => h1 ⟨this.mp z.1, z.2⟩)]
theorem sum_add {T : TW} {s n : Nat} {P P' : Nat → Prop} [DecidablePred P] [DecidablePred P'] {v : Int32} {k : Nat} (hk : k < nw T) (h0 : ¬ P k) (h1 : P' k) (h : ∀ o, o ≠ k → (P' o ↔ P o)) : sumN (fun o => if P' o ∧ T 5 o = v then mk T s n o else 0) (nw T) = sumN (fun o => if P o ∧ T 5 o = v then mk T s n o else 0) (nw T) + (if T 5 k = v then mk T s n k else 0) := by
  rw [sumN_upd (f := fun o => if P o ∧ T 5 o = v then mk T s n o else 0) (k := k) (nw T) hk (if_neg (fun z => h0 z.1)) (fun o ho => ?_)]
  · congr 1
    by_cases e : T 5 k = v
    · simp only [if_pos e]; exact if_pos ⟨h1, e⟩
    · simp only [if_neg e]; exact if_neg (fun z => e z.2)
  · have := h o ho
    by_cases h1 : P o ∧ T 5 o = v
    · simp only [if_pos h1]; exact if_pos ⟨this.mpr h1.1, h1.2⟩
    · simp only [if_neg h1]; exact if_neg (fun z => h1 ⟨this.mp z.1, z.2⟩)
theorem flS_add {T : TW} {s n : Nat} {P P' : Nat → Prop} [DecidablePred P] [DecidablePred P'] {j k : Nat} (hk : k < nw T) (h0 : ¬ P k) (h1 : P' k) (h : ∀ o, o ≠ k → (P' o ↔ P o)) : flS T s n P' j = flS T s n P j + (if T 5 k = nI j then mk T s n k else 0) := by
  unfold flS
  rw [sum_add (P := P) hk h0 h1 h, Nat.add_assoc]
theorem alS_add {T : TW} {s n : Nat} {P P' : Nat → Prop} [DecidablePred P] [DecidablePred P'] {k : Nat} (hk : k < nw T) (h0 : ¬ P k) (h1 : P' k) (h : ∀ o, o ≠ k → (P' o ↔ P o)) : alS T s n P' = alS T s n P + (if T 5 k = -1 then mk T s n k else 0) := sum_add (P := P) hk h0 h1 h
theorem flS_le {T : TW} {s n : Nat} {P : Nat → Prop} [DecidablePred P] (hW : WF T) (hn : n < 100) {j : Nat} : flS T s n P j ≤ 1300 := by
  have h12 := hW.nwl
  have h1 := sumN_le (f := fun o => if P o ∧ T 5 o = nI j then mk T s n o else 0) (c := 99) (nw T) (fun o ho => by split; exact mk_le hW ho; omega)
  have h2 := bsN_le (s := s) (w := j) hn
  have h3 : nw T * 99 ≤ 12 * 99 := Nat.mul_le_mul_right _ h12
  unfold flS
  omega
theorem alS_le {T : TW} {s n : Nat} {P : Nat → Prop} [DecidablePred P] (hW : WF T) : alS T s n P ≤ 1300 := by
  have h12 := hW.nwl
  have h1 := sumN_le (f := fun o => if P o ∧ T 5 o = -1 then mk T s n o else 0) (c := 99) (nw T) (fun o ho => by split; exact mk_le hW ho; omega)
  have h3 : nw T * 99 ≤ 12 * 99 := Nat.mul_le_mul_right _ h12
  unfold alS
  omega
theorem flS_mk {T : TW} {s n : Nat} {P : Nat → Prop} [DecidablePred P] (hW : WF T) {k : Nat} (hk : k < nw T) (h : ∀ o, o < nw T → pu T k < pu T o → P o) : min (able T k) (flS T s n P k) = mk T s n k := by
  rw [mk_eq hW hk, Nat.min_comm]
  congr 1
  unfold flS
  rw [sumN_cg (g := fun o => if T 5 o = nI k then mk T s n o else 0) (nw T) (fun o ho => ?_)]
  by_cases e : T 5 o = nI k
  · rw [if_pos e, if_pos ⟨h o ho (un_pu hW ho hk e), e⟩]
  · rw [if_neg e, if_neg (fun z => e z.2)]
theorem alS_all {T : TW} {s n : Nat} {P : Nat → Prop} [DecidablePred P] (h : ∀ o, o < nw T → P o) : alS T s n P = servV T s n := by
  refine sumN_cg (nw T) (fun o ho => ?_)
  by_cases e : T 5 o = -1
  · rw [if_pos e, if_pos ⟨h o ho, e⟩]
  · rw [if_neg e, if_neg (fun z => e z.2)]
theorem flS_no {T : TW} {s n j : Nat} {P : Nat → Prop} [DecidablePred P] (h : ∀ o, o < nw T → ¬ P o) : flS T s n P j = bsN s n j := by
  unfold flS
  rw [sumN_pre (nw T) (fun o ho => if_neg (fun z => h o ho z.1))]
  rfl
theorem alS_no {T : TW} {s n : Nat} {P : Nat → Prop} [DecidablePred P] (h : ∀ o, o < nw T → ¬ P o) : alS T s n P = 0 := sumN_pre (nw T) (fun o ho => if_neg (fun z => h o ho z.1))
theorem bs_mul (s n w : Nat) : (s >>> w &&& 1) * n = bsN s n w := by
  unfold bsN
  rw [tb]
  cases s.testBit w <;> simp
set_option maxRecDepth 20000 in
set_option maxHeartbeats 1000000 in
theorem w_X9_sendDown {D : Nat → Nat → Int32} {L : Nat → Nat → Int64} {Q : bh_Q} (hW : WF (tv D)) {w : Nat} (hw : w < nw (tv D)) {fl : Nat → Nat} (hfl : ∀ j, j < nw (tv D) → D 47 j = nI (fl j)) (hfb : ∀ j, j < nw (tv D) → fl j ≤ 1300) (k1 : tv D 5 w = -1 → Q (some (.int (nI (min (able (tv D) w) (fl w))))) (hp D L)) (k0 : ∀ u, u < nw (tv D) → tv D 5 w = nI u → Q (some (.int (nI 0))) (hp (bh_up2 D 47 u (nI (fl u + min (able (tv D) w) (fl w)))) L)) : bh_wc 2 m_X9_sendDown [.ref 0, .int (nI w)] (hp D L) Q := by
  refine x_start (lv0 := [_, _, _, _, _]) (Nat.le_of_ble_eq_true rfl) rfl ?_
  have h12 := hW.nwl
  refine x_aload (pc' := 1) rfl rfl rfl ?_
  refine x_getR (pc' := 4) rfl rfl rfl (by decide) rfl (by decide) rfl rfl ?_
  refine x_iload (pc' := 5) rfl rfl rfl ?_
  refine x_callV (pc' := 8) (d1 := 1) (Bs := [_]) rfl rfl rfl rfl rfl rfl rfl (Nat.le_of_ble_eq_true rfl) ⟨rfl, rfl⟩ (by decide) rfl (by decide) ?_
  refine w_X7_isDead hW hw (fun h5 => ?_) (fun h5 => ?_)
  · refine ⟨rfl, ?_⟩
    refine x_if_eq (pc' := 11) rfl rfl (fun c8 => absurd c8 (by decide)) (fun _ => ?_)
    refine x_int (pc' := 12) (v := nI 0) rfl rfl rfl ?_
    refine x_goto rfl ?_
    refine x_istore (pc' := 25) (lv' := [_, _, _, _, _]) rfl rfl (by decide) rfl ?_
    refine x_iload (pc' := 26) rfl rfl rfl ?_
    refine x_aload (pc' := 27) rfl rfl rfl ?_
    refine x_getR (pc' := 30) rfl rfl rfl (by decide) rfl (by decide) rfl rfl ?_
    refine x_iload (pc' := 31) rfl rfl rfl ?_
    refine x_iald (pc' := 32) rfl rfl (by decide) rfl (by decide) (show _ < 12 by omega) ?_
    refine x_top (hfl w hw) ?_
    refine x_min (pc' := 35) rfl rfl (Nat.le_of_ble_eq_true rfl) (nI_min (by first | omega | (have := hW.pul hw; omega)) (by have := hfb w hw; omega)) ?_
    refine x_istore (pc' := 36) (lv' := [_, _, _, _, _]) rfl rfl (by decide) rfl ?_
    refine x_aload (pc' := 37) rfl rfl rfl ?_
    refine x_getR (pc' := 40) rfl rfl rfl (by decide) rfl (by decide) rfl rfl ?_
    refine x_getR (pc' := 43) rfl rfl rfl (by decide) rfl (by decide) rfl rfl ?_
    refine x_iload (pc' := 44) rfl rfl rfl ?_
    refine x_iald (pc' := 45) rfl rfl (by decide) rfl (by decide) (show _ < 12 by omega) ?_
    refine x_istore (pc' := 47) (lv' := [_, _, _, _, _]) rfl rfl (by decide) rfl ?_
    refine x_iload (pc' := 49) rfl rfl rfl ?_
    refine x_int (pc' := 50) (v := (-1)) rfl rfl rfl ?_
    refine x_ic_ne (pc' := 53) rfl rfl (fun c50 => ?_) (fun c50 => ?_)
    · rcases hW.eun hw with e | ⟨e1, e2, e3⟩
      · exact absurd e c50
      have e1a : D 6 w = nI (un (tv D) w) := e1
      rw [e1a]
      refine x_aload (pc' := 56) rfl rfl rfl ?_
      refine x_getR (pc' := 59) rfl rfl rfl (by decide) rfl (by decide) rfl rfl ?_
      refine x_iload (pc' := 61) rfl rfl rfl ?_
      refine x_dup2 (pc' := 62) rfl rfl rfl rfl ?_
      refine x_iald (pc' := 63) rfl rfl (by decide) rfl (by decide) (show _ < 12 by omega) ?_
      refine x_top (hfl _ e2) ?_
      refine x_iload (pc' := 64) rfl rfl rfl ?_
      refine y_iadd (pc' := 65) rfl rfl ?_
      refine x_iast (pc' := 66) rfl rfl (by decide) rfl (by decide) (show _ < 12 by omega) ?_
      refine x_int (pc' := 67) (v := nI 0) rfl rfl rfl ?_
      refine x_iret rfl rfl ?_
      first
        | (have ea : able (tv D) w = 0 := if_pos h5
           rw [ea] at k0
           exact k0 (un (tv D) w) e2 e1)
        | (have ea : able (tv D) w = pu (tv D) w := if_neg (by rw [h5]; decide)
           rw [ea] at k0
           exact k0 (un (tv D) w) e2 e1)
    · refine x_iload (pc' := 54) rfl rfl rfl ?_
      refine x_iret rfl rfl ?_
      first
        | (have ea : able (tv D) w = 0 := if_pos h5
           rw [ea] at k1
           exact k1 c50)
        | (have ea : able (tv D) w = pu (tv D) w := if_neg (by rw [h5]; decide)
           rw [ea] at k1
           exact k1 c50)
  · refine ⟨rfl, ?_⟩
    refine x_if_eq (pc' := 11) rfl rfl (fun _ => ?_) (fun c8 => absurd (by decide) c8)
    refine x_aload (pc' := 16) rfl rfl rfl ?_
    refine x_getR (pc' := 19) rfl rfl rfl (by decide) rfl (by decide) rfl rfl ?_
    refine x_getR (pc' := 22) rfl rfl rfl (by decide) rfl (by decide) rfl rfl ?_
    refine x_iload (pc' := 23) rfl rfl rfl ?_
    refine x_iald (pc' := 24) rfl rfl (by decide) rfl (by decide) (show _ < 12 by omega) ?_
    refine x_top (hW.epu hw) ?_
    refine x_istore (pc' := 25) (lv' := [_, _, _, _, _]) rfl rfl (by decide) rfl ?_
    refine x_iload (pc' := 26) rfl rfl rfl ?_
    refine x_aload (pc' := 27) rfl rfl rfl ?_
    refine x_getR (pc' := 30) rfl rfl rfl (by decide) rfl (by decide) rfl rfl ?_
    refine x_iload (pc' := 31) rfl rfl rfl ?_
    refine x_iald (pc' := 32) rfl rfl (by decide) rfl (by decide) (show _ < 12 by omega) ?_
    refine x_top (hfl w hw) ?_
    refine x_min (pc' := 35) rfl rfl (Nat.le_of_ble_eq_true rfl) (nI_min (by first | omega | (have := hW.pul hw; omega)) (by have := hfb w hw; omega)) ?_
    refine x_istore (pc' := 36) (lv' := [_, _, _, _, _]) rfl rfl (by decide) rfl ?_
    refine x_aload (pc' := 37) rfl rfl rfl ?_
    refine x_getR (pc' := 40) rfl rfl rfl (by decide) rfl (by decide) rfl rfl ?_
    refine x_getR (pc' := 43) rfl rfl rfl (by decide) rfl (by decide) rfl rfl ?_
    refine x_iload (pc' := 44) rfl rfl rfl ?_
    refine x_iald (pc' := 45) rfl rfl (by decide) rfl (by decide) (show _ < 12 by omega) ?_
    refine x_istore (pc' := 47) (lv' := [_, _, _, _, _]) rfl rfl (by decide) rfl ?_
    refine x_iload (pc' := 49) rfl rfl rfl ?_
    refine x_int (pc' := 50) (v := (-1)) rfl rfl rfl ?_
    refine x_ic_ne (pc' := 53) rfl rfl (fun c50 => ?_) (fun c50 => ?_)
    · rcases hW.eun hw with e | ⟨e1, e2, e3⟩
      · exact absurd e c50
      have e1a : D 6 w = nI (un (tv D) w) := e1
      rw [e1a]
      refine x_aload (pc' := 56) rfl rfl rfl ?_
      refine x_getR (pc' := 59) rfl rfl rfl (by decide) rfl (by decide) rfl rfl ?_
      refine x_iload (pc' := 61) rfl rfl rfl ?_
      refine x_dup2 (pc' := 62) rfl rfl rfl rfl ?_
      refine x_iald (pc' := 63) rfl rfl (by decide) rfl (by decide) (show _ < 12 by omega) ?_
      refine x_top (hfl _ e2) ?_
      refine x_iload (pc' := 64) rfl rfl rfl ?_
      refine y_iadd (pc' := 65) rfl rfl ?_
      refine x_iast (pc' := 66) rfl rfl (by decide) rfl (by decide) (show _ < 12 by omega) ?_
      refine x_int (pc' := 67) (v := nI 0) rfl rfl rfl ?_
      refine x_iret rfl rfl ?_
      first
        | (have ea : able (tv D) w = 0 := if_pos h5
           rw [ea] at k0
           exact k0 (un (tv D) w) e2 e1)
        | (have ea : able (tv D) w = pu (tv D) w := if_neg (by rw [h5]; decide)
           rw [ea] at k0
           exact k0 (un (tv D) w) e2 e1)
    · refine x_iload (pc' := 54) rfl rfl rfl ?_
      refine x_iret rfl rfl ?_
      first
        | (have ea : able (tv D) w = 0 := if_pos h5
           rw [ea] at k1
           exact k1 c50)
        | (have ea : able (tv D) w = pu (tv D) w := if_neg (by rw [h5]; decide)
           rw [ea] at k1
           exact k1 c50)
set_option maxRecDepth 20000 in
set_option maxHeartbeats 1000000 in
theorem l0_X9_served {L : Nat → Nat → Int64} {Q : bh_Q} {d : Nat} (hd : 0 ≤ d) {s n : Nat} (hs : s < 4096) {a4 a5 : Value} {D0 : Nat → Nat → Int32} (kE : ∀ D, OffC D0 D → (∀ j, j < 12 → D 47 j = nI (bsN s n j)) → bw m_X9_served d Q 47 [.ref 0, .int (nI s), .int (nI n), .int (nI 12), a4, a5] [] D L) : ∀ (f i : Nat) (D : Nat → Nat → Int32), i + f = 12 → (OffC D0 D) → (∀ j, j < i → D 47 j = nI (bsN s n j)) → bw m_X9_served d Q 22 [.ref 0, .int (nI s), .int (nI n), .int (nI i), a4, a5] [] D L := by
  intro f
  induction f with
  | zero =>
    intro i D hf o h0
    refine x_iload (pc' := 23) rfl rfl rfl ?_
    refine x_int (pc' := 25) (v := nI 12) rfl rfl rfl ?_
    refine y_ic_ge (pc' := 28) rfl rfl (by omega) (by omega) (fun c25 => ?_) (fun c25 => ?_)
    · obtain rfl : i = 12 := by omega
      exact kE D o h0
    · exact absurd c25 (by omega)
  | succ f ih =>
    intro i D hf o h0
    refine x_iload (pc' := 23) rfl rfl rfl ?_
    refine x_int (pc' := 25) (v := nI 12) rfl rfl rfl ?_
    refine y_ic_ge (pc' := 28) rfl rfl (by omega) (by omega) (fun c25 => ?_) (fun c25 => ?_)
    · exact absurd c25 (by omega)
    · refine x_aload (pc' := 29) rfl rfl rfl ?_
      refine x_getR (pc' := 32) rfl rfl rfl (by decide) rfl (by decide) rfl rfl ?_
      refine x_iload (pc' := 33) rfl rfl rfl ?_
      refine x_iload (pc' := 34) rfl rfl rfl ?_
      refine x_iload (pc' := 35) rfl rfl rfl ?_
      refine y_ishr (pc' := 36) rfl rfl (by omega) (by omega) ?_
      refine x_int (pc' := 37) (v := nI 1) rfl rfl rfl ?_
      refine y_iand (pc' := 38) rfl rfl ?_
      refine x_iload (pc' := 39) rfl rfl rfl ?_
      refine y_imul (pc' := 40) rfl rfl ?_
      refine x_iast (pc' := 41) rfl rfl (by decide) rfl (by decide) (show _ < 12 by omega) ?_
      refine y_inc (pc' := 44) (lv' := [_, _, _, _, _, _]) rfl rfl rfl (by decide) rfl ?_
      refine x_goto rfl ?_
      refine ih (i + 1) _ (by omega) (o.tr (OffC.up (by decide) (by decide))) (fun j hj => ?_)
      rw [up2_at]
      by_cases e : j = i
      · rw [if_pos ⟨rfl, e⟩, bs_mul, e]
      · rw [if_neg (fun z => e z.2)]; exact h0 j (by omega)
abbrev dS (T : TW) (c k o : Nat) : Prop := c < pu T o ∨ (pu T o = c ∧ o < k)
theorem dS_0 {T : TW} {c k : Nat} (h : ¬ pu T k = c) (o : Nat) : dS T c (k + 1) o ↔ dS T c k o := ⟨fun z => z.elim Or.inl (fun q => Or.inr ⟨q.1, by have : o ≠ k := fun e => h (e ▸ q.1); omega⟩), fun z => z.elim Or.inl (fun q => Or.inr ⟨q.1, by omega⟩)⟩
theorem dS_1 {T : TW} {c k : Nat} (o : Nat) (ho : o ≠ k) : dS T c (k + 1) o ↔ dS T c k o := ⟨fun z => z.elim Or.inl (fun q => Or.inr ⟨q.1, by omega⟩), fun z => z.elim Or.inl (fun q => Or.inr ⟨q.1, by omega⟩)⟩
theorem dS_e {T : TW} {c : Nat} (o : Nat) (ho : o < nw T) : c ≤ pu T o ↔ dS T c (nw T) o := ⟨fun z => by rcases Nat.lt_or_ge c (pu T o) with h | h; exact Or.inl h; exact Or.inr ⟨by omega, ho⟩, fun z => by rcases z with h | h; omega; omega⟩
theorem dS_s {T : TW} {c : Nat} (o : Nat) : dS T c 0 o ↔ c + 1 ≤ pu T o := ⟨fun z => by rcases z with h | h; omega; omega, fun z => Or.inl (by omega)⟩
set_option maxRecDepth 20000 in
set_option maxHeartbeats 1000000 in
theorem l1_X9_served {L : Nat → Nat → Int64} {Q : bh_Q} {d : Nat} (hd : 2 ≤ d) {T : TW} (hW : WF T) {s n c : Nat} (hn : n < 100) (hc : c < 100) {D0 : Nat → Nat → Int32} (kE : ∀ D, OffC D0 D → tv D = T → (∀ j, j < nw T → D 47 j = nI (flS T s n (dS T c (nw T)) j)) → bw m_X9_served d Q 103 [.ref 0, .int (nI s), .int (nI n), .int (nI (alS T s n (dS T c (nw T)))), .int (nI c), .int (nI (nw T))] [] D L) : ∀ (f i : Nat) (D : Nat → Nat → Int32), i + f = nw T → (OffC D0 D) → (tv D = T) → (∀ j, j < nw T → D 47 j = nI (flS T s n (dS T c i) j)) → bw m_X9_served d Q 61 [.ref 0, .int (nI s), .int (nI n), .int (nI (alS T s n (dS T c i))), .int (nI c), .int (nI i)] [] D L := by
  intro f
  induction f with
  | zero =>
    intro i D hf o hT hfl
    subst hT
    have h12 := hW.nwl
    refine x_iload (pc' := 63) rfl rfl rfl ?_
    refine x_aload (pc' := 64) rfl rfl rfl ?_
    refine x_getR (pc' := 67) rfl rfl rfl (by decide) rfl (by decide) rfl rfl ?_
    refine x_getI (j := 0) (pc' := 70) rfl rfl rfl (by decide) rfl (by decide) rfl rfl ?_
    refine x_top (hW.enw) ?_
    refine y_ic_ge (pc' := 73) rfl rfl (by first | omega | (have := hW.pul (w := i) (by omega); omega)) (by first | omega | (have := hW.pul (w := i) (by omega); omega)) (fun c70 => ?_) (fun c70 => ?_)
    · obtain rfl : i = nw (tv D) := by omega
      exact kE D o rfl hfl
    · exact absurd c70 (by omega)
  | succ f ih =>
    intro i D hf o hT hfl
    subst hT
    have h12 := hW.nwl
    refine x_iload (pc' := 63) rfl rfl rfl ?_
    refine x_aload (pc' := 64) rfl rfl rfl ?_
    refine x_getR (pc' := 67) rfl rfl rfl (by decide) rfl (by decide) rfl rfl ?_
    refine x_getI (j := 0) (pc' := 70) rfl rfl rfl (by decide) rfl (by decide) rfl rfl ?_
    refine x_top (hW.enw) ?_
    refine y_ic_ge (pc' := 73) rfl rfl (by first | omega | (have := hW.pul (w := i) (by omega); omega)) (by first | omega | (have := hW.pul (w := i) (by omega); omega)) (fun c70 => ?_) (fun c70 => ?_)
    · exact absurd c70 (by omega)
    · refine x_aload (pc' := 74) rfl rfl rfl ?_
      refine x_getR (pc' := 77) rfl rfl rfl (by decide) rfl (by decide) rfl rfl ?_
      refine x_getR (pc' := 80) rfl rfl rfl (by decide) rfl (by decide) rfl rfl ?_
      refine x_iload (pc' := 82) rfl rfl rfl ?_
      refine x_iald (pc' := 83) rfl rfl (by decide) rfl (by decide) (show _ < 12 by omega) ?_
      refine x_top (hW.epu (by omega)) ?_
      refine x_iload (pc' := 85) rfl rfl rfl ?_
      refine y_ic_ne (pc' := 88) rfl rfl (by first | omega | (have := hW.pul (w := i) (by omega); omega)) (by first | omega | (have := hW.pul (w := i) (by omega); omega)) (fun c85 => ?_) (fun c85 => ?_)
      · refine y_inc (pc' := 100) (lv' := [_, _, _, _, _, _]) rfl rfl rfl (by decide) rfl ?_
        refine x_goto rfl ?_
        first
          | (have ec := alS_cg (T := tv D) (s := s) (n := n) (P := dS (tv D) c i) (P' := dS (tv D) c (i + 1)) (fun o _ => dS_0 c85 o)
             have hh := ih (i + 1) D (by omega) o rfl (fun j hj => by rw [flS_cg (T := tv D) (P := dS (tv D) c i) (fun o _ => dS_0 c85 o)]; exact hfl j hj)
             rw [ec] at hh
             exact hh)
          | (skip
             have hmk := flS_mk (T := tv D) (s := s) (n := n) (P := dS (tv D) c i) hW (show i < nw (tv D) by omega) (fun o _ h => Or.inl (by omega))
             have hp0 : ¬ dS (tv D) c i i := fun z => by rcases z with h | h; omega; omega
             have hp1 : dS (tv D) c (i + 1) i := Or.inr ⟨c85, by omega⟩
             have ea := alS_add (T := tv D) (s := s) (n := n) (P := dS (tv D) c i) (P' := dS (tv D) c (i + 1)) (show i < nw (tv D) by omega) hp0 hp1 (fun o ho => dS_1 o ho)
             have ef := fun j => flS_add (T := tv D) (s := s) (n := n) (P := dS (tv D) c i) (P' := dS (tv D) c (i + 1)) (j := j) (show i < nw (tv D) by omega) hp0 hp1 (fun o ho => dS_1 o ho)
             rw [if_pos hu] at ea
             have hh := ih (i + 1) D (by omega) o rfl (fun j hj => by rw [ef j, if_neg (fun z => nI_m1 (n := j) (by omega) (z.symm.trans hu))]; exact hfl j hj)
             rw [ea, ← hmk] at hh
             exact hh)
          | (skip
             have hmk := flS_mk (T := tv D) (s := s) (n := n) (P := dS (tv D) c i) hW (show i < nw (tv D) by omega) (fun o _ h => Or.inl (by omega))
             have hp0 : ¬ dS (tv D) c i i := fun z => by rcases z with h | h; omega; omega
             have hp1 : dS (tv D) c (i + 1) i := Or.inr ⟨c85, by omega⟩
             have ea := alS_add (T := tv D) (s := s) (n := n) (P := dS (tv D) c i) (P' := dS (tv D) c (i + 1)) (show i < nw (tv D) by omega) hp0 hp1 (fun o ho => dS_1 o ho)
             have ef := fun j => flS_add (T := tv D) (s := s) (n := n) (P := dS (tv D) c i) (P' := dS (tv D) c (i + 1)) (j := j) (show i < nw (tv D) by omega) hp0 hp1 (fun o ho => dS_1 o ho)
             rw [if_neg (fun z => nI_m1 (n := u) (by omega) (hu.symm.trans z))] at ea
             have hh := ih (i + 1) (bh_up2 D 47 u (nI (flS (tv D) s n (dS (tv D) c i) u + min (able (tv D) i) (flS (tv D) s n (dS (tv D) c i) i)))) (by omega) (o.tr (OffC.up (by decide) (by decide))) (OffC.up (D := D) (by decide) (by decide)).tv (fun j hj => by
               rw [up2_at, ef j, hmk]
               by_cases e : j = u
               · rw [if_pos ⟨rfl, e⟩, e, if_pos hu]
               · rw [if_neg (fun z => e z.2), if_neg (fun z => e (nI_inj (by omega) (by omega) (z.symm.trans hu)))]; exact hfl j hj)
             rw [ea] at hh
             exact hh)
      · refine x_iload (pc' := 89) rfl rfl rfl ?_
        refine x_aload (pc' := 90) rfl rfl rfl ?_
        refine x_iload (pc' := 92) rfl rfl rfl ?_
        refine x_callV (pc' := 95) (d1 := 2) (Bs := [_]) rfl rfl rfl rfl rfl rfl rfl (Nat.le_of_ble_eq_true rfl) ⟨rfl, rfl⟩ (by decide) rfl (by omega) ?_
        refine w_X9_sendDown hW (show i < nw (tv D) by omega) hfl (fun j _ => flS_le hW hn) (fun hu => ?_) (fun u hul hu => ?_)
        · refine ⟨rfl, ?_⟩
          refine y_iadd (pc' := 96) rfl rfl ?_
          refine x_istore (pc' := 97) (lv' := [_, _, _, _, _, _]) rfl rfl (by decide) rfl ?_
          refine y_inc (pc' := 100) (lv' := [_, _, _, _, _, _]) rfl rfl rfl (by decide) rfl ?_
          refine x_goto rfl ?_
          first
            | (have ec := alS_cg (T := tv D) (s := s) (n := n) (P := dS (tv D) c i) (P' := dS (tv D) c (i + 1)) (fun o _ => dS_0 c85 o)
               have hh := ih (i + 1) D (by omega) o rfl (fun j hj => by rw [flS_cg (T := tv D) (P := dS (tv D) c i) (fun o _ => dS_0 c85 o)]; exact hfl j hj)
               rw [ec] at hh
               exact hh)
            | (skip
               have hmk := flS_mk (T := tv D) (s := s) (n := n) (P := dS (tv D) c i) hW (show i < nw (tv D) by omega) (fun o _ h => Or.inl (by omega))
               have hp0 : ¬ dS (tv D) c i i := fun z => by rcases z with h | h; omega; omega
               have hp1 : dS (tv D) c (i + 1) i := Or.inr ⟨c85, by omega⟩
               have ea := alS_add (T := tv D) (s := s) (n := n) (P := dS (tv D) c i) (P' := dS (tv D) c (i + 1)) (show i < nw (tv D) by omega) hp0 hp1 (fun o ho => dS_1 o ho)
               have ef := fun j => flS_add (T := tv D) (s := s) (n := n) (P := dS (tv D) c i) (P' := dS (tv D) c (i + 1)) (j := j) (show i < nw (tv D) by omega) hp0 hp1 (fun o ho => dS_1 o ho)
               rw [if_pos hu] at ea
               have hh := ih (i + 1) D (by omega) o rfl (fun j hj => by rw [ef j, if_neg (fun z => nI_m1 (n := j) (by omega) (z.symm.trans hu))]; exact hfl j hj)
               rw [ea, ← hmk] at hh
               exact hh)
            | (skip
               have hmk := flS_mk (T := tv D) (s := s) (n := n) (P := dS (tv D) c i) hW (show i < nw (tv D) by omega) (fun o _ h => Or.inl (by omega))
               have hp0 : ¬ dS (tv D) c i i := fun z => by rcases z with h | h; omega; omega
               have hp1 : dS (tv D) c (i + 1) i := Or.inr ⟨c85, by omega⟩
               have ea := alS_add (T := tv D) (s := s) (n := n) (P := dS (tv D) c i) (P' := dS (tv D) c (i + 1)) (show i < nw (tv D) by omega) hp0 hp1 (fun o ho => dS_1 o ho)
               have ef := fun j => flS_add (T := tv D) (s := s) (n := n) (P := dS (tv D) c i) (P' := dS (tv D) c (i + 1)) (j := j) (show i < nw (tv D) by omega) hp0 hp1 (fun o ho => dS_1 o ho)
               rw [if_neg (fun z => nI_m1 (n := u) (by omega) (hu.symm.trans z))] at ea
               have hh := ih (i + 1) (bh_up2 D 47 u (nI (flS (tv D) s n (dS (tv D) c i) u + min (able (tv D) i) (flS (tv D) s n (dS (tv D) c i) i)))) (by omega) (o.tr (OffC.up (by decide) (by decide))) (OffC.up (D := D) (by decide) (by decide)).tv (fun j hj => by
                 rw [up2_at, ef j, hmk]
                 by_cases e : j = u
                 · rw [if_pos ⟨rfl, e⟩, e, if_pos hu]
                 · rw [if_neg (fun z => e z.2), if_neg (fun z => e (nI_inj (by omega) (by omega) (z.symm.trans hu)))]; exact hfl j hj)
               rw [ea] at hh
               exact hh)
        · refine ⟨rfl, ?_⟩
          refine y_iadd (pc' := 96) rfl rfl ?_
          refine x_istore (pc' := 97) (lv' := [_, _, _, _, _, _]) rfl rfl (by decide) rfl ?_
          refine y_inc (pc' := 100) (lv' := [_, _, _, _, _, _]) rfl rfl rfl (by decide) rfl ?_
          refine x_goto rfl ?_
          first
            | (have ec := alS_cg (T := tv D) (s := s) (n := n) (P := dS (tv D) c i) (P' := dS (tv D) c (i + 1)) (fun o _ => dS_0 c85 o)
               have hh := ih (i + 1) D (by omega) o rfl (fun j hj => by rw [flS_cg (T := tv D) (P := dS (tv D) c i) (fun o _ => dS_0 c85 o)]; exact hfl j hj)
               rw [ec] at hh
               exact hh)
            | (skip
               have hmk := flS_mk (T := tv D) (s := s) (n := n) (P := dS (tv D) c i) hW (show i < nw (tv D) by omega) (fun o _ h => Or.inl (by omega))
               have hp0 : ¬ dS (tv D) c i i := fun z => by rcases z with h | h; omega; omega
               have hp1 : dS (tv D) c (i + 1) i := Or.inr ⟨c85, by omega⟩
               have ea := alS_add (T := tv D) (s := s) (n := n) (P := dS (tv D) c i) (P' := dS (tv D) c (i + 1)) (show i < nw (tv D) by omega) hp0 hp1 (fun o ho => dS_1 o ho)
               have ef := fun j => flS_add (T := tv D) (s := s) (n := n) (P := dS (tv D) c i) (P' := dS (tv D) c (i + 1)) (j := j) (show i < nw (tv D) by omega) hp0 hp1 (fun o ho => dS_1 o ho)
               rw [if_pos hu] at ea
               have hh := ih (i + 1) D (by omega) o rfl (fun j hj => by rw [ef j, if_neg (fun z => nI_m1 (n := j) (by omega) (z.symm.trans hu))]; exact hfl j hj)
               rw [ea, ← hmk] at hh
               exact hh)
            | (skip
               have hmk := flS_mk (T := tv D) (s := s) (n := n) (P := dS (tv D) c i) hW (show i < nw (tv D) by omega) (fun o _ h => Or.inl (by omega))
               have hp0 : ¬ dS (tv D) c i i := fun z => by rcases z with h | h; omega; omega
               have hp1 : dS (tv D) c (i + 1) i := Or.inr ⟨c85, by omega⟩
               have ea := alS_add (T := tv D) (s := s) (n := n) (P := dS (tv D) c i) (P' := dS (tv D) c (i + 1)) (show i < nw (tv D) by omega) hp0 hp1 (fun o ho => dS_1 o ho)
               have ef := fun j => flS_add (T := tv D) (s := s) (n := n) (P := dS (tv D) c i) (P' := dS (tv D) c (i + 1)) (j := j) (show i < nw (tv D) by omega) hp0 hp1 (fun o ho => dS_1 o ho)
               rw [if_neg (fun z => nI_m1 (n := u) (by omega) (hu.symm.trans z))] at ea
               have hh := ih (i + 1) (bh_up2 D 47 u (nI (flS (tv D) s n (dS (tv D) c i) u + min (able (tv D) i) (flS (tv D) s n (dS (tv D) c i) i)))) (by omega) (o.tr (OffC.up (by decide) (by decide))) (OffC.up (D := D) (by decide) (by decide)).tv (fun j hj => by
                 rw [up2_at, ef j, hmk]
                 by_cases e : j = u
                 · rw [if_pos ⟨rfl, e⟩, e, if_pos hu]
                 · rw [if_neg (fun z => e z.2), if_neg (fun z => e (nI_inj (by omega) (by omega) (z.symm.trans hu)))]; exact hfl j hj)
               rw [ea] at hh
               exact hh)
set_option maxRecDepth 20000 in
set_option maxHeartbeats 1000000 in
theorem l2_X9_served {L : Nat → Nat → Int64} {Q : bh_Q} {d : Nat} (hd : 2 ≤ d) {T : TW} (hW : WF T) {s n : Nat} (hn : n < 100) {D0 : Nat → Nat → Int32} (k1 : ∀ D, OffC D0 D → Q (some (.int (nI (servV T s n)))) (hp D L)) : ∀ (c : Nat) (D : Nat → Nat → Int32) (v : Int32) (a5 : Value), c ≤ 100 → v = nI c - 1 → OffC D0 D → tv D = T → (∀ j, j < nw T → D 47 j = nI (flS T s n (fun o => c ≤ pu T o) j)) → bw m_X9_served d Q 53 [.ref 0, .int (nI s), .int (nI n), .int (nI (alS T s n (fun o => c ≤ pu T o))), .int v, a5] [] D L := by
  intro c
  induction c with
  | zero =>
    intro D v a5 hc hv o hT hfl
    subst hT
    refine x_iload (pc' := 55) rfl rfl rfl ?_
    refine x_if_lt (pc' := 58) rfl rfl (fun c55 => ?_) (fun c55 => ?_)
    · refine x_iload (pc' := 110) rfl rfl rfl ?_
      refine x_iret rfl rfl ?_
      have e : alS (tv D) s n (fun o => 0 ≤ pu (tv D) o) = servV (tv D) s n := alS_all (fun o _ => Nat.zero_le _)
      rw [e]
      exact k1 D o
    · exact absurd (by rw [hv]; exact sub1_lt (by omega)) c55
  | succ c ih =>
    intro D v a5 hc hv o hT hfl
    have h12 := hW.nwl
    have hv : v = nI c := by rw [hv]; exact nI_pred _
    subst hv
    refine x_iload (pc' := 55) rfl rfl rfl ?_
    refine y_if_lt (pc' := 58) rfl rfl (by omega) ?_
    refine x_int (pc' := 59) (v := nI 0) rfl rfl rfl ?_
    refine x_istore (pc' := 61) (lv' := [_, _, _, _, _, _]) rfl rfl (by decide) rfl ?_
    have ec := alS_cg (T := T) (s := s) (n := n) (P := fun o => c + 1 ≤ pu T o) (P' := dS T c 0) (fun o _ => dS_s o)
    rw [← ec]
    refine l1_X9_served (d := d) hd hW hn (by omega) (D0 := D0) (fun D2 o2 t2 h2 => ?_) (nw T) 0 D (Nat.zero_add _) o hT (fun j hj => by rw [flS_cg (T := T) (P := fun o => c + 1 ≤ pu T o) (fun o _ => dS_s o)]; exact hfl j hj)
    refine x_iinc (pc' := 106) (w := (-1)) (lv' := [_, _, _, _, _, _]) rfl rfl rfl rfl (by decide) (add_m1 _) rfl ?_
    refine x_goto rfl ?_
    have ec := alS_cg (T := T) (s := s) (n := n) (P := dS T c (nw T)) (P' := fun o => c ≤ pu T o) (fun o ho => dS_e o ho)
    have hh := ih D2 (nI c - 1) (.int (nI (nw T))) (by omega) rfl o2 t2 (fun j hj => by rw [flS_cg (T := T) (P := dS T c (nw T)) (fun o ho => dS_e o ho)]; exact h2 j hj)
    rw [ec] at hh
    exact hh
set_option maxRecDepth 20000 in
set_option maxHeartbeats 1000000 in
theorem w_X9_served {D : Nat → Nat → Int32} {L : Nat → Nat → Int64} {Q : bh_Q} (hW : WF (tv D)) {x y : Int32} (k1 : ∀ D1, OffC D D1 → Q (some (.int (servedQ (tv D) x y))) (hp D1 L)) : bh_wc 3 m_X9_served [.ref 0, .int x, .int y] (hp D L) Q := by
  refine x_start (lv0 := [_, _, _, _, _, _]) (Nat.le_of_ble_eq_true rfl) rfl ?_
  have h12 := hW.nwl
  have hpw := pw12 hW
  refine x_aload (pc' := 1) rfl rfl rfl ?_
  refine x_iload (pc' := 2) rfl rfl rfl ?_
  refine x_callV (pc' := 5) (d1 := 1) (Bs := [_]) rfl rfl rfl rfl rfl rfl rfl (Nat.le_of_ble_eq_true rfl) ⟨rfl, rfl⟩ (by decide) rfl (by decide) ?_
  refine w_X9_isSetOfWriters hW (fun s hs e => ?_) (fun hs => ?_)
  · subst e
    refine ⟨rfl, ?_⟩
    refine x_if_eq (pc' := 8) rfl rfl (fun c5 => absurd c5 (by decide)) (fun _ => ?_)
    refine x_iload (pc' := 9) rfl rfl rfl ?_
    refine x_if_lt (pc' := 12) rfl rfl (fun c9 => ?_) (fun c9 => ?_)
    · have hv := okN_neg (n := 100) (by decide) c9
      refine x_int (pc' := 19) (v := (-1)) rfl rfl rfl ?_
      refine x_iret rfl rfl ?_
      simp (disch := first | assumption | omega) only [servedQ, onN_1, onN_0, onP_1, onP_0, ↓reduceIte] at k1
      exact k1 D OffC.rf
    · refine x_iload (pc' := 13) rfl rfl rfl ?_
      refine x_int (pc' := 15) (v := nI 99) rfl rfl rfl ?_
      refine x_ic_le (pc' := 18) rfl rfl (fun c15 => ?_) (fun c15 => ?_)
      · obtain ⟨n, hm, rfl⟩ := le_ofI (n := 99) c9 c15
        refine x_int (pc' := 21) (v := nI 0) rfl rfl rfl ?_
        refine x_istore (pc' := 22) (lv' := [_, _, _, _, _, _]) rfl rfl (by decide) rfl ?_
        simp (disch := first | assumption | omega) only [servedQ, onN_1, onN_0, onP_1, onP_0, ↓reduceIte] at k1
        refine l0_X9_served (d := 2) (Nat.zero_le _) (by omega) (D0 := D) (fun D1 o1 h1 => ?_) 12 0 D rfl OffC.rf (fun j hj => absurd hj (Nat.not_lt_zero j))
        refine x_int (pc' := 48) (v := nI 0) rfl rfl rfl ?_
        refine x_istore (pc' := 49) (lv' := [_, _, _, _, _, _]) rfl rfl (by decide) rfl ?_
        refine x_int (pc' := 51) (v := nI 99) rfl rfl rfl ?_
        refine x_istore (pc' := 53) (lv' := [_, _, _, _, _, _]) rfl rfl (by decide) rfl ?_
        have hno : ∀ o, o < nw (tv D) → ¬ 100 ≤ pu (tv D) o := fun o ho => by have := hW.pul ho; omega
        have hh := l2_X9_served (L := L) (Q := Q) (d := 2) (Nat.le_refl _) hW (s := s) hm (D0 := D) k1 100 D1 (nI 100 - 1) .null (Nat.le_refl _) rfl o1 o1.tv (fun j hj => by rw [flS_no hno]; exact h1 j (by omega))
        rw [alS_no hno, show nI 100 - 1 = nI 99 from nI_pred 99] at hh
        exact hh
      · have hv := okN_gt (n := 99) (by decide) (Int32.not_le.mp c15)
        refine x_int (pc' := 19) (v := (-1)) rfl rfl rfl ?_
        refine x_iret rfl rfl ?_
        simp (disch := first | assumption | omega) only [servedQ, onN_1, onN_0, onP_1, onP_0, ↓reduceIte] at k1
        exact k1 D OffC.rf
  · refine ⟨rfl, ?_⟩
    refine x_if_eq (pc' := 8) rfl rfl (fun _ => ?_) (fun c5 => absurd (by decide) c5)
    refine x_int (pc' := 19) (v := (-1)) rfl rfl rfl ?_
    refine x_iret rfl rfl ?_
    simp (disch := first | assumption | omega) only [servedQ, onN_1, onN_0, onP_1, onP_0, ↓reduceIte] at k1
    exact k1 D OffC.rf
set_option maxRecDepth 20000 in
set_option maxHeartbeats 1000000 in
theorem l_X10_makes {D : Nat → Nat → Int32} {L : Nat → Nat → Int64} {Q : bh_Q} {d : Nat} (hd : 2 ≤ d) {T : TW} (hW : WF T) (hR : Rn T (D 206)) {w s n fr : Nat} (hfd : fr + 3 ≤ d) (hw : w < nw T) (hn : n < 100) (hrec : ∀ o, o < nw T → T 5 o = nI w → ∀ {Q : bh_Q}, Q (some (.int (nI (mk T s n o)))) (hp D L) → bh_wc (fr + 3) m_X10_makes [.ref 205, .int (nI o), .int (nI s), .int (nI n)] (hp D L) Q) (k1 : Q (some (.int (nI (mk T s n w)))) (hp D L)) : ∀ (f i : Nat), i + f = nw T → bw m_X10_makes d Q 18 [.ref 205, .int (nI w), .int (nI s), .int (nI n), .int (nI (bsN s n w + sumN (fun o => if T 5 o = nI w then mk T s n o else 0) i)), .int (nI i)] [] D L := by
  have h12 := hW.nwl
  have h4 := hW.nbl
  have hb := bsN_le (s := s) (w := w) hn
  have hsl := sumN_le (f := (fun o => if T 5 o = nI w then mk T s n o else 0)) (c := 99) (nw T) (fun o ho => by split; exact mk_le hW ho; omega)
  have hsm : nw T * 99 ≤ 12 * 99 := Nat.mul_le_mul_right _ h12
  intro f
  induction f with
  | zero =>
    intro i hf
    refine x_iload (pc' := 20) rfl rfl rfl ?_
    refine x_aload (pc' := 21) rfl rfl rfl ?_
    refine x_getR (pc' := 24) rfl rfl rfl (by decide) rfl (by decide) rfl rfl ?_
    refine x_int (pc' := 25) (v := nI 0) rfl rfl rfl ?_
    refine x_iald (pc' := 26) rfl rfl (by decide) rfl (by decide) (show _ < 560 by omega) ?_
    refine x_top (hR.1.1.trans hW.enw) ?_
    refine y_ic_ge (pc' := 29) rfl rfl (by omega) (by omega) (fun c26 => ?_) (fun c26 => ?_)
    · refine x_iload (pc' := 64) rfl rfl rfl ?_
      refine x_aload (pc' := 65) rfl rfl rfl ?_
      refine x_iload (pc' := 66) rfl rfl rfl ?_
      refine x_callV (pc' := 69) (d1 := 2) (Bs := [_]) rfl rfl rfl rfl rfl rfl rfl (Nat.le_of_ble_eq_true rfl) ⟨rfl, rfl⟩ (by decide) rfl (by omega) ?_
      refine w_X10_isDead hW hR hw (fun h66 => ?_) (fun h66 => ?_)
      · refine ⟨rfl, ?_⟩
        refine x_if_eq (pc' := 72) rfl rfl (fun c69 => absurd c69 (by decide)) (fun _ => ?_)
        refine x_int (pc' := 73) (v := nI 0) rfl rfl rfl ?_
        refine x_goto rfl ?_
        refine x_min (pc' := 85) rfl rfl (Nat.le_of_ble_eq_true rfl) (nI_min (by have h1 := sumN_le (f := (fun o => if T 5 o = nI w then mk T s n o else 0)) (c := 99) i (fun o ho => by split; exact mk_le hW (by omega); omega); have h2 : i * 99 ≤ 12 * 99 := Nat.mul_le_mul_right _ (by omega); omega) (by first | omega | (have := hW.pul hw; omega))) ?_
        refine x_iret rfl rfl ?_
        obtain rfl : i = nw T := by omega
        have em := mk_eq hW (s := s) (n := n) hw
        first
          | (rw [show able T w = 0 from if_pos h66] at em
             rw [em] at k1
             exact k1)
          | (rw [show able T w = pu T w from if_neg (by rw [h66]; decide)] at em
             rw [em] at k1
             exact k1)
      · refine ⟨rfl, ?_⟩
        refine x_if_eq (pc' := 72) rfl rfl (fun _ => ?_) (fun c69 => absurd (by decide) c69)
        refine x_aload (pc' := 77) rfl rfl rfl ?_
        refine x_iload (pc' := 78) rfl rfl rfl ?_
        refine x_int (pc' := 79) (v := nI 0) rfl rfl rfl ?_
        refine x_callV (pc' := 82) (d1 := 1) (Bs := [_, _]) rfl rfl rfl rfl rfl rfl rfl (Nat.le_of_ble_eq_true rfl) ⟨rfl, rfl⟩ (by decide) rfl (by omega) ?_
        refine w_X10_of (by omega) (by decide) ?_
        refine ⟨rfl, ?_⟩
        refine x_top ((hR.rpu hw).trans (hW.epu hw)) ?_
        refine x_min (pc' := 85) rfl rfl (Nat.le_of_ble_eq_true rfl) (nI_min (by have h1 := sumN_le (f := (fun o => if T 5 o = nI w then mk T s n o else 0)) (c := 99) i (fun o ho => by split; exact mk_le hW (by omega); omega); have h2 : i * 99 ≤ 12 * 99 := Nat.mul_le_mul_right _ (by omega); omega) (by first | omega | (have := hW.pul hw; omega))) ?_
        refine x_iret rfl rfl ?_
        obtain rfl : i = nw T := by omega
        have em := mk_eq hW (s := s) (n := n) hw
        first
          | (rw [show able T w = 0 from if_pos h66] at em
             rw [em] at k1
             exact k1)
          | (rw [show able T w = pu T w from if_neg (by rw [h66]; decide)] at em
             rw [em] at k1
             exact k1)
    · exact absurd c26 (by omega)
  | succ f ih =>
    intro i hf
    refine x_iload (pc' := 20) rfl rfl rfl ?_
    refine x_aload (pc' := 21) rfl rfl rfl ?_
    refine x_getR (pc' := 24) rfl rfl rfl (by decide) rfl (by decide) rfl rfl ?_
    refine x_int (pc' := 25) (v := nI 0) rfl rfl rfl ?_
    refine x_iald (pc' := 26) rfl rfl (by decide) rfl (by decide) (show _ < 560 by omega) ?_
    refine x_top (hR.1.1.trans hW.enw) ?_
    refine y_ic_ge (pc' := 29) rfl rfl (by omega) (by omega) (fun c26 => ?_) (fun c26 => ?_)
    · exact absurd c26 (by omega)
    · refine x_iload (pc' := 31) rfl rfl rfl ?_
      refine x_aload (pc' := 32) rfl rfl rfl ?_
      refine x_iload (pc' := 34) rfl rfl rfl ?_
      refine x_callV (pc' := 37) (d1 := 2) (Bs := [_]) rfl rfl rfl rfl rfl rfl rfl (Nat.le_of_ble_eq_true rfl) ⟨rfl, rfl⟩ (by decide) rfl (by omega) ?_
      refine w_X10_under hW hR (by omega) ?_
      refine ⟨rfl, ?_⟩
      refine x_iload (pc' := 38) rfl rfl rfl ?_
      refine x_ic_ne (pc' := 41) rfl rfl (fun c38 => ?_) (fun c38 => ?_)
      · refine x_int (pc' := 53) (v := nI 0) rfl rfl rfl ?_
        refine y_iadd (pc' := 54) rfl rfl ?_
        refine x_istore (pc' := 56) (lv' := [_, _, _, _, _, _]) rfl rfl (by decide) rfl ?_
        refine y_inc (pc' := 59) (lv' := [_, _, _, _, _, _]) rfl rfl rfl (by decide) rfl ?_
        refine x_goto rfl ?_
        have es : sumN (fun o => if T 5 o = nI w then mk T s n o else 0) (i + 1) = sumN (fun o => if T 5 o = nI w then mk T s n o else 0) i + (if T 5 i = nI w then mk T s n i else 0) := rfl
        first
          | (rw [if_pos c38] at es
             have hh := ih (i + 1) (by omega)
             rw [es, ← Nat.add_assoc] at hh
             exact hh)
          | (rw [if_neg c38] at es
             have hh := ih (i + 1) (by omega)
             rw [es, ← Nat.add_assoc] at hh
             exact hh)
      · refine x_aload (pc' := 42) rfl rfl rfl ?_
        refine x_iload (pc' := 44) rfl rfl rfl ?_
        refine x_iload (pc' := 45) rfl rfl rfl ?_
        refine x_iload (pc' := 46) rfl rfl rfl ?_
        refine x_callV (pc' := 49) (d1 := (fr + 3)) (Bs := [_, _, _]) rfl rfl rfl rfl rfl rfl rfl (Nat.le_of_ble_eq_true rfl) ⟨rfl, rfl⟩ (by decide) rfl (by omega) ?_
        refine hrec i (by omega) c38 ?_
        refine ⟨rfl, ?_⟩
        refine x_goto rfl ?_
        refine y_iadd (pc' := 54) rfl rfl ?_
        refine x_istore (pc' := 56) (lv' := [_, _, _, _, _, _]) rfl rfl (by decide) rfl ?_
        refine y_inc (pc' := 59) (lv' := [_, _, _, _, _, _]) rfl rfl rfl (by decide) rfl ?_
        refine x_goto rfl ?_
        have es : sumN (fun o => if T 5 o = nI w then mk T s n o else 0) (i + 1) = sumN (fun o => if T 5 o = nI w then mk T s n o else 0) i + (if T 5 i = nI w then mk T s n i else 0) := rfl
        first
          | (rw [if_pos c38] at es
             have hh := ih (i + 1) (by omega)
             rw [es, ← Nat.add_assoc] at hh
             exact hh)
          | (rw [if_neg c38] at es
             have hh := ih (i + 1) (by omega)
             rw [es, ← Nat.add_assoc] at hh
             exact hh)
set_option maxRecDepth 20000 in
set_option maxHeartbeats 1000000 in
theorem r_X10_makes {D : Nat → Nat → Int32} {L : Nat → Nat → Int64} {T : TW} (hW : WF T) (hR : Rn T (D 206)) {s n : Nat} (hs : s < 4096) (hn : n < 100) : ∀ (fr w : Nat), w < nw T → ru T w < fr → ∀ {Q : bh_Q}, Q (some (.int (nI (mk T s n w)))) (hp D L) → bh_wc (fr + 3) m_X10_makes [.ref 205, .int (nI w), .int (nI s), .int (nI n)] (hp D L) Q := by
  have h12 := hW.nwl
  intro fr
  induction fr with
  | zero => intro w _ h; omega
  | succ fr ih =>
    intro w hw hf Q k1
    show bh_wc (fr + 3 + 1) _ _ _ _
    refine x_start (lv0 := [_, _, _, _, _, _]) (Nat.le_of_ble_eq_true rfl) rfl ?_
    refine x_iload (pc' := 1) rfl rfl rfl ?_
    refine x_iload (pc' := 2) rfl rfl rfl ?_
    refine x_callS (pc' := 5) (d1 := 1) (As := [_, _]) rfl rfl rfl rfl (by decide) rfl rfl (Nat.le_of_ble_eq_true rfl) ⟨rfl, rfl⟩ (by omega) ?_
    refine w_X10_has (by omega) (by omega) (fun hh => ?_) (fun hh => ?_)
    · refine ⟨rfl, ?_⟩
      refine x_if_eq (pc' := 8) rfl rfl (fun c5 => absurd c5 (by decide)) (fun _ => ?_)
      refine x_iload (pc' := 9) rfl rfl rfl ?_
      refine x_goto rfl ?_
      refine x_istore (pc' := 15) (lv' := [_, _, _, _, _, _]) rfl rfl (by decide) rfl ?_
      refine x_int (pc' := 16) (v := nI 0) rfl rfl rfl ?_
      refine x_istore (pc' := 18) (lv' := [_, _, _, _, _, _]) rfl rfl (by decide) rfl ?_
      first
        | (have e : bsN s n w = n := if_pos hh
           have hg := l_X10_makes (d := fr + 3) (fr := fr) (L := L) (Q := Q) (by omega) hW hR (Nat.le_refl _) hw hn (fun o ho e2 Q1 q1 => ih o ho (by have := ru_un ho (un_pu hW ho hw e2); omega) q1) k1 (nw T) 0 (Nat.zero_add _)
           rw [e] at hg
           exact hg)
        | (have e : bsN s n w = 0 := if_neg (by rw [hh]; decide)
           have hg := l_X10_makes (d := fr + 3) (fr := fr) (L := L) (Q := Q) (by omega) hW hR (Nat.le_refl _) hw hn (fun o ho e2 Q1 q1 => ih o ho (by have := ru_un ho (un_pu hW ho hw e2); omega) q1) k1 (nw T) 0 (Nat.zero_add _)
           rw [e] at hg
           exact hg)
    · refine ⟨rfl, ?_⟩
      refine x_if_eq (pc' := 8) rfl rfl (fun _ => ?_) (fun c5 => absurd (by decide) c5)
      refine x_int (pc' := 13) (v := nI 0) rfl rfl rfl ?_
      refine x_istore (pc' := 15) (lv' := [_, _, _, _, _, _]) rfl rfl (by decide) rfl ?_
      refine x_int (pc' := 16) (v := nI 0) rfl rfl rfl ?_
      refine x_istore (pc' := 18) (lv' := [_, _, _, _, _, _]) rfl rfl (by decide) rfl ?_
      first
        | (have e : bsN s n w = n := if_pos hh
           have hg := l_X10_makes (d := fr + 3) (fr := fr) (L := L) (Q := Q) (by omega) hW hR (Nat.le_refl _) hw hn (fun o ho e2 Q1 q1 => ih o ho (by have := ru_un ho (un_pu hW ho hw e2); omega) q1) k1 (nw T) 0 (Nat.zero_add _)
           rw [e] at hg
           exact hg)
        | (have e : bsN s n w = 0 := if_neg (by rw [hh]; decide)
           have hg := l_X10_makes (d := fr + 3) (fr := fr) (L := L) (Q := Q) (by omega) hW hR (Nat.le_refl _) hw hn (fun o ho e2 Q1 q1 => ih o ho (by have := ru_un ho (un_pu hW ho hw e2); omega) q1) k1 (nw T) 0 (Nat.zero_add _)
           rw [e] at hg
           exact hg)
set_option maxRecDepth 20000 in
set_option maxHeartbeats 1000000 in
theorem l_X10_served {D : Nat → Nat → Int32} {L : Nat → Nat → Int64} {Q : bh_Q} {d : Nat} (hd : 15 ≤ d) {T : TW} (hW : WF T) (hR : Rn T (D 206)) {s n : Nat} (hs : s < 4096) (hn : n < 100) (k1 : Q (some (.int (nI (servV T s n)))) (hp D L)) : ∀ (f i : Nat), i + f = nw T → bw m_X10_served d Q 27 [.ref 205, .int (nI s), .int (nI n), .int (nI (sumN (fun w => if T 5 w = -1 then mk T s n w else 0) i)), .int (nI i)] [] D L := by
  have h12 := hW.nwl
  have h4 := hW.nbl
  intro f
  induction f with
  | zero =>
    intro i hf
    refine x_iload (pc' := 29) rfl rfl rfl ?_
    refine x_aload (pc' := 30) rfl rfl rfl ?_
    refine x_getR (pc' := 33) rfl rfl rfl (by decide) rfl (by decide) rfl rfl ?_
    refine x_int (pc' := 34) (v := nI 0) rfl rfl rfl ?_
    refine x_iald (pc' := 35) rfl rfl (by decide) rfl (by decide) (show _ < 560 by omega) ?_
    refine x_top (hR.1.1.trans hW.enw) ?_
    refine y_ic_ge (pc' := 38) rfl rfl (by omega) (by omega) (fun c35 => ?_) (fun c35 => ?_)
    · refine x_iload (pc' := 70) rfl rfl rfl ?_
      refine x_iret rfl rfl ?_
      obtain rfl : i = nw T := by omega
      exact k1
    · exact absurd c35 (by omega)
  | succ f ih =>
    intro i hf
    refine x_iload (pc' := 29) rfl rfl rfl ?_
    refine x_aload (pc' := 30) rfl rfl rfl ?_
    refine x_getR (pc' := 33) rfl rfl rfl (by decide) rfl (by decide) rfl rfl ?_
    refine x_int (pc' := 34) (v := nI 0) rfl rfl rfl ?_
    refine x_iald (pc' := 35) rfl rfl (by decide) rfl (by decide) (show _ < 560 by omega) ?_
    refine x_top (hR.1.1.trans hW.enw) ?_
    refine y_ic_ge (pc' := 38) rfl rfl (by omega) (by omega) (fun c35 => ?_) (fun c35 => ?_)
    · exact absurd c35 (by omega)
    · refine x_iload (pc' := 39) rfl rfl rfl ?_
      refine x_aload (pc' := 40) rfl rfl rfl ?_
      refine x_iload (pc' := 42) rfl rfl rfl ?_
      refine x_callV (pc' := 45) (d1 := 2) (Bs := [_]) rfl rfl rfl rfl rfl rfl rfl (Nat.le_of_ble_eq_true rfl) ⟨rfl, rfl⟩ (by decide) rfl (by omega) ?_
      refine w_X10_under hW hR (by omega) ?_
      refine ⟨rfl, ?_⟩
      refine x_int (pc' := 46) (v := (-1)) rfl rfl rfl ?_
      refine x_ic_ne (pc' := 49) rfl rfl (fun c46 => ?_) (fun c46 => ?_)
      · refine x_int (pc' := 61) (v := nI 0) rfl rfl rfl ?_
        refine y_iadd (pc' := 62) rfl rfl ?_
        refine x_istore (pc' := 63) (lv' := [_, _, _, _, _]) rfl rfl (by decide) rfl ?_
        refine y_inc (pc' := 66) (lv' := [_, _, _, _, _]) rfl rfl rfl (by decide) rfl ?_
        refine x_goto rfl ?_
        have es : sumN (fun w => if T 5 w = -1 then mk T s n w else 0) (i + 1) = sumN (fun w => if T 5 w = -1 then mk T s n w else 0) i + (if T 5 i = -1 then mk T s n i else 0) := rfl
        first
          | (rw [if_pos c46] at es
             have hh := ih (i + 1) (by omega)
             rw [es] at hh
             exact hh)
          | (rw [if_neg c46] at es
             have hh := ih (i + 1) (by omega)
             rw [es] at hh
             exact hh)
      · refine x_aload (pc' := 50) rfl rfl rfl ?_
        refine x_iload (pc' := 52) rfl rfl rfl ?_
        refine x_iload (pc' := 53) rfl rfl rfl ?_
        refine x_iload (pc' := 54) rfl rfl rfl ?_
        refine x_callV (pc' := 57) (d1 := 15) (Bs := [_, _, _]) rfl rfl rfl rfl rfl rfl rfl (Nat.le_of_ble_eq_true rfl) ⟨rfl, rfl⟩ (by decide) rfl (by omega) ?_
        refine r_X10_makes hW hR hs hn 12 i (by omega) (by have := ru_lt (T := T) (w := i) (by omega); omega) ?_
        refine ⟨rfl, ?_⟩
        refine x_goto rfl ?_
        refine y_iadd (pc' := 62) rfl rfl ?_
        refine x_istore (pc' := 63) (lv' := [_, _, _, _, _]) rfl rfl (by decide) rfl ?_
        refine y_inc (pc' := 66) (lv' := [_, _, _, _, _]) rfl rfl rfl (by decide) rfl ?_
        refine x_goto rfl ?_
        have es : sumN (fun w => if T 5 w = -1 then mk T s n w else 0) (i + 1) = sumN (fun w => if T 5 w = -1 then mk T s n w else 0) i + (if T 5 i = -1 then mk T s n i else 0) := rfl
        first
          | (rw [if_pos c46] at es
             have hh := ih (i + 1) (by omega)
             rw [es] at hh
             exact hh)
          | (rw [if_neg c46] at es
             have hh := ih (i + 1) (by omega)
             rw [es] at hh
             exact hh)
set_option maxRecDepth 20000 in
set_option maxHeartbeats 1000000 in
theorem w_X10_served {D : Nat → Nat → Int32} {L : Nat → Nat → Int64} {Q : bh_Q} {T : TW} (hW : WF T) (hR : Rn T (D 206)) {x y : Int32} (k1 : Q (some (.int (servedQ T x y))) (hp D L)) : bh_wc 16 m_X10_served [.ref 205, .int x, .int y] (hp D L) Q := by
  refine x_start (lv0 := [_, _, _, _, _]) (Nat.le_of_ble_eq_true rfl) rfl ?_
  have h12 := hW.nwl
  have hpw := pw12 hW
  refine x_aload (pc' := 1) rfl rfl rfl ?_
  refine x_iload (pc' := 2) rfl rfl rfl ?_
  refine x_callV (pc' := 5) (d1 := 2) (Bs := [_]) rfl rfl rfl rfl rfl rfl rfl (Nat.le_of_ble_eq_true rfl) ⟨rfl, rfl⟩ (by decide) rfl (by decide) ?_
  refine w_X10_isSet hW hR (fun s hs e => ?_) (fun hs => ?_)
  · subst e
    refine ⟨rfl, ?_⟩
    refine x_if_eq (pc' := 8) rfl rfl (fun c5 => absurd c5 (by decide)) (fun _ => ?_)
    refine x_iload (pc' := 9) rfl rfl rfl ?_
    refine x_i2l (pc' := 10) rfl rfl ?_
    refine x_long (pc' := 11) (v := (nI 0).toInt64) rfl rfl (by decide) ?_
    refine x_long (pc' := 14) (v := (nI 99).toInt64) rfl rfl (by decide) ?_
    refine x_callS (pc' := 17) (d1 := 1) (As := [_, _, _]) rfl rfl rfl rfl (by decide) rfl rfl (Nat.le_of_ble_eq_true rfl) ⟨rfl, rfl⟩ (by decide) ?_
    refine w_X10_in (fun h14a h14b => ?_) (fun h14 => ?_)
    · obtain ⟨h14w, h14l, rfl⟩ := in_okL (n := 99) (by decide) h14a h14b
      refine ⟨rfl, ?_⟩
      refine x_if_ne (pc' := 20) rfl rfl (fun _ => ?_) (fun c17 => absurd c17 (by decide))
      refine x_int (pc' := 23) (v := nI 0) rfl rfl rfl ?_
      refine x_istore (pc' := 24) (lv' := [_, _, _, _, _]) rfl rfl (by decide) rfl ?_
      refine x_int (pc' := 25) (v := nI 0) rfl rfl rfl ?_
      refine x_istore (pc' := 27) (lv' := [_, _, _, _, _]) rfl rfl (by decide) rfl ?_
      simp (disch := first | assumption | omega) only [servedQ, onN_1, onN_0, onP_1, onP_0, ↓reduceIte] at k1
      exact l_X10_served (d := 15) (Nat.le_refl _) hW hR (by omega) h14l k1 (nw T) 0 (Nat.zero_add _)
    · have h14 := okN_inL (n := 99) (by decide) h14
      refine ⟨rfl, ?_⟩
      refine x_if_ne (pc' := 20) rfl rfl (fun c17 => absurd (by decide) c17) (fun _ => ?_)
      refine x_int (pc' := 21) (v := (-1)) rfl rfl rfl ?_
      refine x_iret rfl rfl ?_
      simp (disch := first | assumption | omega) only [servedQ, onN_1, onN_0, onP_1, onP_0, ↓reduceIte] at k1
      exact k1
  · refine ⟨rfl, ?_⟩
    refine x_if_eq (pc' := 8) rfl rfl (fun _ => ?_) (fun c5 => absurd (by decide) c5)
    refine x_int (pc' := 21) (v := (-1)) rfl rfl rfl ?_
    refine x_iret rfl rfl ?_
    simp (disch := first | assumption | omega) only [servedQ, onN_1, onN_0, onP_1, onP_0, ↓reduceIte] at k1
    exact k1
