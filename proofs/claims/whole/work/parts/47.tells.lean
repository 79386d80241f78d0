/-! ===== tells ===== -/
theorem pos_nI {x : Int32} (h : ¬ x < 0) : ∃ j : Nat, j < 2 ^ 31 ∧ x = nI j := ⟨x.toNatClampNeg, x.toNatClampNeg_lt, (Int32.ofNat_toNatClampNeg x (Int32.not_lt.mp h)).symm⟩
theorem shr0 {j n : Nat} (h : j >>> n = 0) : j < 2 ^ n := by
  rw [Nat.shiftRight_eq_div_pow] at h
  rcases Nat.div_eq_zero_iff.mp h with h | h
  · exact absurd h (by have := Nat.two_pow_pos n; omega)
  · exact h
theorem shr1 {j n : Nat} (h : j < 2 ^ n) : j >>> n = 0 := by rw [Nat.shiftRight_eq_div_pow]; exact Nat.div_eq_of_lt h
theorem pw12 {T : TW} (hW : WF T) : 2 ^ nw T ≤ 4096 := Nat.pow_le_pow_right (n := 2) (by decide) hW.nwl
theorem pw8 {T : TW} (hW : WF T) {b : Nat} (hb : b < nb T) : 2 ^ lng T b ≤ 256 := Nat.pow_le_pow_right (n := 2) (by decide) (hW.lngl hb)
def unl (T : TW) (b w o : Nat) : Nat := setF (fun q => !decide (toI (lnO T w b q) = toI (lnO T o b q))) (lng T b)
theorem unl_lt {T : TW} (hW : WF T) {b : Nat} (hb : b < nb T) (w o : Nat) : unl T b w o < 256 := Nat.lt_of_lt_of_le (setF_lt _) (pw8 hW hb)
theorem unl_sym (T : TW) (b w o : Nat) : unl T b w o = unl T b o w := setF_cg _ (fun i _ => congrArg (fun z => !z) (decide_eq_decide.mpr ⟨Eq.symm, Eq.symm⟩))
def twI (T : TW) (b s w : Nat) : Nat → List Nat
  | 0 => []
  | m + 1 => if w < m ∧ s.testBit w = true ∧ s.testBit m = true then twI T b s w m ++ [unl T b w m] else twI T b s w m
def twO (T : TW) (b s : Nat) : Nat → List Nat
  | 0 => []
  | n + 1 => twO T b s n ++ twI T b s n (nw T)
def apI (T : TW) (b s w : Nat) : Nat → List Nat
  | 0 => []
  | m + 1 => if s.testBit w = true ∧ s.testBit m = true then apI T b s w m ++ [unl T b w m] else apI T b s w m
def apO (T : TW) (b s : Nat) : Nat → List Nat
  | 0 => []
  | n + 1 => apO T b s n ++ apI T b s n n
theorem twI_le {T : TW} {b s w : Nat} : ∀ m, (twI T b s w m).length ≤ m := by
  intro m
  induction m with
  | zero => exact Nat.le_refl _
  | succ m ih => unfold twI; split; rw [List.length_append]; exact Nat.succ_le_succ ih; omega
theorem apI_le {T : TW} {b s w : Nat} : ∀ m, (apI T b s w m).length ≤ m := by
  intro m
  induction m with
  | zero => exact Nat.le_refl _
  | succ m ih => unfold apI; split; rw [List.length_append]; exact Nat.succ_le_succ ih; omega
theorem twO_le {T : TW} (hW : WF T) {b s : Nat} : ∀ n, (twO T b s n).length ≤ 12 * n := by
  intro n
  induction n with
  | zero => exact Nat.le_refl _
  | succ n ih => have h := twI_le (T := T) (b := b) (s := s) (w := n) (nw T); have := hW.nwl; unfold twO; rw [List.length_append]; omega
theorem apO_le {T : TW} {b s : Nat} : ∀ n, n ≤ 12 → (apO T b s n).length ≤ 12 * n := by
  intro n
  induction n with
  | zero => intro _; exact Nat.le_refl _
  | succ n ih => intro hn; have h := apI_le (T := T) (b := b) (s := s) (w := n) n; have := ih (by omega); unfold apO; rw [List.length_append]; omega
theorem twI_mem {T : TW} {b s w x : Nat} : ∀ m, x ∈ twI T b s w m ↔ ∃ o, o < m ∧ w < o ∧ s.testBit w = true ∧ s.testBit o = true ∧ x = unl T b w o := by
  intro m
  induction m with
  | zero => exact ⟨(fun h => by cases h), (fun ⟨o, h, _⟩ => absurd h (Nat.not_lt_zero _))⟩
  | succ m ih =>
    unfold twI
    split
    · rename_i hc
      rw [List.mem_append, ih, List.mem_singleton]
      constructor
      · rintro (⟨o, h1, h2⟩ | h)
        · exact ⟨o, by omega, h2⟩
        · exact ⟨m, by omega, hc.1, hc.2.1, hc.2.2, h⟩
      · rintro ⟨o, h1, h2⟩
        rcases Nat.lt_or_ge o m with h3 | h3
        · exact Or.inl ⟨o, h3, h2⟩
        · obtain rfl : o = m := by omega
          exact Or.inr h2.2.2.2
    · rename_i hc
      rw [ih]
      constructor
      · rintro ⟨o, h1, h2⟩; exact ⟨o, by omega, h2⟩
      · rintro ⟨o, h1, h2⟩
        rcases Nat.lt_or_ge o m with h3 | h3
        · exact ⟨o, h3, h2⟩
        · obtain rfl : o = m := by omega
          exact absurd ⟨h2.1, h2.2.1, h2.2.2.1⟩ hc
theorem apI_mem {T : TW} {b s w x : Nat} : ∀ m, x ∈ apI T b s w m ↔ ∃ o, o < m ∧ s.testBit w = true ∧ s.testBit o = true ∧ x = unl T b w o := by
  intro m
  induction m with
  | zero => exact ⟨(fun h => by cases h), (fun ⟨o, h, _⟩ => absurd h (Nat.not_lt_zero _))⟩
  | succ m ih =>
    unfold apI
    split
    · rename_i hc
      rw [List.mem_append, ih, List.mem_singleton]
      constructor
      · rintro (⟨o, h1, h2⟩ | h)
        · exact ⟨o, by omega, h2⟩
        · exact ⟨m, by omega, hc.1, hc.2, h⟩
      · rintro ⟨o, h1, h2⟩
        rcases Nat.lt_or_ge o m with h3 | h3
        · exact Or.inl ⟨o, h3, h2⟩
        · obtain rfl : o = m := by omega
          exact Or.inr h2.2.2
    · rename_i hc
      rw [ih]
      constructor
      · rintro ⟨o, h1, h2⟩; exact ⟨o, by omega, h2⟩
      · rintro ⟨o, h1, h2⟩
        rcases Nat.lt_or_ge o m with h3 | h3
        · exact ⟨o, h3, h2⟩
        · obtain rfl : o = m := by omega
          exact absurd ⟨h2.1, h2.2.1⟩ hc
theorem twO_mem {T : TW} {b s x : Nat} : ∀ n, x ∈ twO T b s n ↔ ∃ w o, w < n ∧ o < nw T ∧ w < o ∧ s.testBit w = true ∧ s.testBit o = true ∧ x = unl T b w o := by
  intro n
  induction n with
  | zero => exact ⟨(fun h => by cases h), (fun ⟨w, o, h, _⟩ => absurd h (Nat.not_lt_zero _))⟩
  | succ n ih =>
    show x ∈ twO T b s n ++ twI T b s n (nw T) ↔ _
    rw [List.mem_append, ih, twI_mem]
    constructor
    · rintro (⟨w, o, h1, h2⟩ | ⟨o, h1, h2⟩)
      · exact ⟨w, o, by omega, h2⟩
      · exact ⟨n, o, by omega, h1, h2⟩
    · rintro ⟨w, o, h1, h2⟩
      rcases Nat.lt_or_ge w n with h3 | h3
      · exact Or.inl ⟨w, o, h3, h2⟩
      · obtain rfl : w = n := by omega
        exact Or.inr ⟨o, h2⟩
theorem apO_mem {T : TW} {b s x : Nat} : ∀ n, x ∈ apO T b s n ↔ ∃ w o, w < n ∧ o < w ∧ s.testBit w = true ∧ s.testBit o = true ∧ x = unl T b w o := by
  intro n
  induction n with
  | zero => exact ⟨(fun h => by cases h), (fun ⟨w, o, h, _⟩ => absurd h (Nat.not_lt_zero _))⟩
  | succ n ih =>
    show x ∈ apO T b s n ++ apI T b s n n ↔ _
    rw [List.mem_append, ih, apI_mem]
    constructor
    · rintro (⟨w, o, h1, h2⟩ | ⟨o, h1, h2⟩)
      · exact ⟨w, o, by omega, h2⟩
      · exact ⟨n, o, by omega, h1, h2⟩
    · rintro ⟨w, o, h1, h2⟩
      rcases Nat.lt_or_ge w n with h3 | h3
      · exact Or.inl ⟨w, o, h3, h2⟩
      · obtain rfl : w = n := by omega
        exact Or.inr ⟨o, h2⟩
def allA (l : List Nat) (pages : Nat) : Bool := l.all (fun x => !decide (x &&& pages = 0))
theorem allA_eq {T : TW} {b s : Nat} (pages : Nat) : allA (twO T b s (nw T)) pages = allA (apO T b s (nw T)) pages := by
  have h : ∀ x, x ∈ twO T b s (nw T) ↔ x ∈ apO T b s (nw T) := by
    intro x
    rw [twO_mem, apO_mem]
    constructor
    · rintro ⟨w, o, h1, h2, h3, h4, h5, h6⟩; exact ⟨o, w, h2, h3, h5, h4, by rw [h6]; exact unl_sym T b w o⟩
    · rintro ⟨w, o, h1, h2, h3, h4, h5⟩; exact ⟨o, w, by omega, h1, h2, h4, h3, by rw [h5]; exact unl_sym T b w o⟩
  unfold allA
  rw [Bool.eq_iff_iff, List.all_eq_true, List.all_eq_true]
  exact ⟨fun q x hx => q x ((h x).mpr hx), fun q x hx => q x ((h x).mp hx)⟩
def bstF (A : Nat → Bool) : Nat → Nat
  | 0 => 0
  | n + 1 => if A (n + 1) = true ∧ (bstF A n = 0 ∨ pcn (n + 1) < pcn (bstF A n)) then n + 1 else bstF A n
theorem bstF_le {A : Nat → Bool} : ∀ n, bstF A n ≤ n := by
  intro n
  induction n with
  | zero => exact Nat.le_refl _
  | succ n ih => unfold bstF; split <;> omega
theorem bstF_cg {A B : Nat → Bool} (h : ∀ i, A i = B i) : ∀ n, bstF A n = bstF B n := by
  intro n
  induction n with
  | zero => rfl
  | succ n ih => unfold bstF; rw [ih, h]
def tellsV (r m : Nat) : Int32 := if r = 0 then -2 else if m = 0 then nI (pcn r) else nI r
def tellsQ (T : TW) (y s v : Int32) : Int32 := onN (nb T) y (-1) fun b => onN (2 ^ nw T) s (-1) fun t => onN 2 v (-1) fun m => if pcn t < 2 then -1 else tellsV (bstF (allA (twO T b t (nw T))) (2 ^ lng T b - 1)) m
/-- a row that holds a list -/
def LsR (a : Nat → Int32) (l : List Nat) : Prop := ∀ j, j < l.length → a j = nI (l.getD j 0)
theorem LsR.app {a : Nat → Int32} {l : List Nat} {x : Nat} (h : LsR a l) : LsR (fun j => if j = l.length then nI x else a j) (l ++ [x]) := by
  intro j hj
  rw [List.length_append] at hj
  show (if j = l.length then nI x else a j) = _
  rw [List.getD_eq_getElem?_getD]
  by_cases e : j = l.length
  · rw [if_pos e, e, List.getElem?_append_right (Nat.le_refl _), Nat.sub_self]; rfl
  · have hj : j < l.length := by simp at hj; omega
    rw [if_neg e, List.getElem?_append_left hj, ← List.getD_eq_getElem?_getD]
    exact h j hj
set_option maxRecDepth 20000 in
set_option maxHeartbeats 1000000 in
theorem w_X9_isSetOfWriters {D : Nat → Nat → Int32} {L : Nat → Nat → Int64} {Q : bh_Q} (hW : WF (tv D)) {x : Int32} (k1 : ∀ j, j < 2 ^ nw (tv D) → x = nI j → Q (some (.int 1)) (hp D L)) (k0 : ¬ okN (2 ^ nw (tv D)) x → Q (some (.int 0)) (hp D L)) : bh_wc 1 m_X9_isSetOfWriters [.ref 0, .int x] (hp D L) Q := by
  refine x_start (lv0 := [_, _]) (Nat.le_of_ble_eq_true rfl) rfl ?_
  have h12 := hW.nwl
  have hpw := pw12 hW
  refine x_iload (pc' := 1) rfl rfl rfl ?_
  refine x_if_lt (pc' := 4) rfl rfl (fun c1 => ?_) (fun c1 => ?_)
  · refine x_int (pc' := 21) (v := nI 0) rfl rfl rfl ?_
    refine x_zret rfl rfl (by decide) ?_
    first
      | (exact k1 j (shr0 c13) rfl)
      | (exact k0 (fun ⟨i, hi, e⟩ => c13 (by rw [nI_inj hj (by omega) e]; exact shr1 hi)))
      | (exact k0 (okN_neg (by omega) c1))
  · obtain ⟨j, hj, rfl⟩ := pos_nI c1
    refine x_iload (pc' := 5) rfl rfl rfl ?_
    refine x_aload (pc' := 6) rfl rfl rfl ?_
    refine x_getR (pc' := 9) rfl rfl rfl (by decide) rfl (by decide) rfl rfl ?_
    refine x_getI (j := 0) (pc' := 12) rfl rfl rfl (by decide) rfl (by decide) rfl rfl ?_
    refine x_top (hW.enw) ?_
    refine y_ishr (pc' := 13) rfl rfl (by first | omega | (have := shr_le j (nw (tv D)); omega)) (by first | omega | (have := shr_le j (nw (tv D)); omega)) ?_
    refine y_if_ne (pc' := 16) rfl rfl (by first | omega | (have := shr_le j (nw (tv D)); omega)) (fun c13 => ?_) (fun c13 => ?_)
    · refine x_int (pc' := 21) (v := nI 0) rfl rfl rfl ?_
      refine x_zret rfl rfl (by decide) ?_
      first
        | (exact k1 j (shr0 c13) rfl)
        | (exact k0 (fun ⟨i, hi, e⟩ => c13 (by rw [nI_inj hj (by omega) e]; exact shr1 hi)))
        | (exact k0 (okN_neg (by omega) c1))
    · refine x_int (pc' := 17) (v := nI 1) rfl rfl rfl ?_
      refine x_goto rfl ?_
      refine x_zret rfl rfl (by decide) ?_
      first
        | (exact k1 j (shr0 c13) rfl)
        | (exact k0 (fun ⟨i, hi, e⟩ => c13 (by rw [nI_inj hj (by omega) e]; exact shr1 hi)))
        | (exact k0 (okN_neg (by omega) c1))
set_option maxRecDepth 20000 in
set_option maxHeartbeats 1000000 in
theorem w_X10_isSet {D : Nat → Nat → Int32} {L : Nat → Nat → Int64} {Q : bh_Q} {T : TW} (hW : WF T) (hR : Rn T (D 206)) {x : Int32} (k1 : ∀ j, j < 2 ^ nw T → x = nI j → Q (some (.int 1)) (hp D L)) (k0 : ¬ okN (2 ^ nw T) x → Q (some (.int 0)) (hp D L)) : bh_wc 2 m_X10_isSet [.ref 205, .int x] (hp D L) Q := by
  refine x_start (lv0 := [_, _]) (Nat.le_of_ble_eq_true rfl) rfl ?_
  have h12 := hW.nwl
  have hpw := pw12 hW
  refine x_iload (pc' := 1) rfl rfl rfl ?_
  refine x_i2l (pc' := 2) rfl rfl ?_
  refine x_long (pc' := 3) (v := (nI 0).toInt64) rfl rfl (by decide) ?_
  refine x_int (pc' := 4) (v := nI 1) rfl rfl rfl ?_
  refine x_aload (pc' := 5) rfl rfl rfl ?_
  refine x_getR (pc' := 8) rfl rfl rfl (by decide) rfl (by decide) rfl rfl ?_
  refine x_int (pc' := 9) (v := nI 0) rfl rfl rfl ?_
  refine x_iald (pc' := 10) rfl rfl (by decide) rfl (by decide) (show _ < 560 by omega) ?_
  refine x_top (hR.1.1.trans hW.enw) ?_
  refine y_ishl (pc' := 11) rfl rfl (by omega) ?_
  refine x_int (pc' := 12) (v := nI 1) rfl rfl rfl ?_
  refine x_isub (pc' := 13) rfl rfl ?_
  refine x_i2l (pc' := 14) rfl rfl ?_
  refine x_callS (pc' := 17) (d1 := 1) (As := [_, _, _]) rfl rfl rfl rfl (by decide) rfl rfl (Nat.le_of_ble_eq_true rfl) ⟨rfl, rfl⟩ (by decide) ?_
  refine w_X10_in (fun ha hc => ?_) (fun hc => ?_)
  · rw [Nat.one_shiftLeft] at hc
    refine ⟨rfl, ?_⟩
    refine x_zret rfl rfl (by decide) ?_
    obtain ⟨j, hj, e⟩ := in_okN (by omega) ha hc
    exact k1 j hj e
  · rw [Nat.one_shiftLeft] at hc
    refine ⟨rfl, ?_⟩
    refine x_zret rfl rfl (by decide) ?_
    exact k0 (okN_in (by omega) hc)
set_option maxRecDepth 20000 in
set_option maxHeartbeats 1000000 in
theorem l0_X0_fillRows {L : Nat → Nat → Int64} {Q : bh_Q} {d : Nat} (hd : 3 ≤ d) {T : TW} (hW : WF T) {D0 : Nat → Nat → Int32} {b s u : Nat} (hb : b < nb T) (hu : u < nw T) (kE : ∀ D, OffC D0 D → tv D = T → (∀ q, q < lng T b → D 42 (u * 8 + q) = toI (lnO T u b q)) → (∀ j, (j < u * 8 ∨ u * 8 + 8 ≤ j) → D 42 j = D0 42 j) → bw m_X0_fillRows d Q 66 [.ref 41, .ref 1, .ref 31, .int (nI b), .int (nI s), .int (nI u), .int (nI (lng T b))] [] D L) : ∀ (f i : Nat) (D : Nat → Nat → Int32), i + f = lng T b → (OffC D0 D) → (tv D = T) → (∀ q, q < i → D 42 (u * 8 + q) = toI (lnO T u b q)) → (∀ j, (j < u * 8 ∨ u * 8 + 8 ≤ j) → D 42 j = D0 42 j) → bw m_X0_fillRows d Q 26 [.ref 41, .ref 1, .ref 31, .int (nI b), .int (nI s), .int (nI u), .int (nI i)] [] D L := by
  intro f
  induction f with
  | zero =>
    intro i D hf o hT h1 h2
    subst hT
    have h12 := hW.nwl
    have h8 := hW.lngl hb
    have h4 := hW.nbl
    refine x_iload (pc' := 28) rfl rfl rfl ?_
    refine x_aload (pc' := 29) rfl rfl rfl ?_
    refine x_getR (pc' := 32) rfl rfl rfl (by decide) rfl (by decide) rfl rfl ?_
    refine x_iload (pc' := 33) rfl rfl rfl ?_
    refine x_iald (pc' := 34) rfl rfl (by decide) rfl (by decide) (show _ < 4 by omega) ?_
    refine x_top (hW.elng hb) ?_
    refine y_ic_ge (pc' := 37) rfl rfl (by omega) (by omega) (fun c34 => ?_) (fun c34 => ?_)
    · obtain rfl : i = lng (tv D) b := by omega
      exact kE D o rfl h1 h2
    · exact absurd c34 (by omega)
  | succ f ih =>
    intro i D hf o hT h1 h2
    subst hT
    have h12 := hW.nwl
    have h8 := hW.lngl hb
    have h4 := hW.nbl
    refine x_iload (pc' := 28) rfl rfl rfl ?_
    refine x_aload (pc' := 29) rfl rfl rfl ?_
    refine x_getR (pc' := 32) rfl rfl rfl (by decide) rfl (by decide) rfl rfl ?_
    refine x_iload (pc' := 33) rfl rfl rfl ?_
    refine x_iald (pc' := 34) rfl rfl (by decide) rfl (by decide) (show _ < 4 by omega) ?_
    refine x_top (hW.elng hb) ?_
    refine y_ic_ge (pc' := 37) rfl rfl (by omega) (by omega) (fun c34 => ?_) (fun c34 => ?_)
    · exact absurd c34 (by omega)
    · refine x_aload (pc' := 38) rfl rfl rfl ?_
      refine x_getR (pc' := 41) rfl rfl rfl (by decide) rfl (by decide) rfl rfl ?_
      refine x_iload (pc' := 43) rfl rfl rfl ?_
      refine x_int (pc' := 45) (v := nI 8) rfl rfl rfl ?_
      refine y_imul (pc' := 46) rfl rfl ?_
      refine x_iload (pc' := 48) rfl rfl rfl ?_
      refine y_iadd (pc' := 49) rfl rfl ?_
      refine x_aload (pc' := 50) rfl rfl rfl ?_
      refine x_aload (pc' := 51) rfl rfl rfl ?_
      refine x_iload (pc' := 53) rfl rfl rfl ?_
      refine x_iload (pc' := 54) rfl rfl rfl ?_
      refine x_iload (pc' := 56) rfl rfl rfl ?_
      refine x_callV (pc' := 59) (d1 := 3) (Bs := [_, _, _, _]) rfl rfl rfl rfl rfl rfl rfl (Nat.le_of_ble_eq_true rfl) ⟨rfl, rfl⟩ (by decide) rfl (by omega) ?_
      refine w_X2_lineOf hW (show u < nw (tv D) by omega) hb (by omega) (fun D1 o1 => ?_)
      refine ⟨rfl, ?_⟩
      refine x_iast (pc' := 60) rfl rfl (by decide) rfl (by decide) (show _ < 96 by omega) ?_
      refine y_inc (pc' := 63) (lv' := [_, _, _, _, _, _, _]) rfl rfl rfl (by decide) rfl ?_
      refine x_goto rfl ?_
      refine ih (i + 1) _ (by omega) ((o.tr o1.c).tr (OffC.up (by decide) (by decide))) ((OffC.up (D := D1) (by decide) (by decide)).tv.trans o1.tv) (fun q hq => ?_) (fun j hj => ?_)
      · rw [up2_at]
        by_cases e : q = i
        · rw [if_pos ⟨rfl, by omega⟩, e]
        · rw [if_neg (fun z => e (by omega)), o1 42 (by decide) (by decide)]; exact h1 q (by omega)
      · rw [up2_at, if_neg (fun z => by omega), o1 42 (by decide) (by decide)]; exact h2 j hj
set_option maxRecDepth 20000 in
set_option maxHeartbeats 1000000 in
theorem l1_X0_fillRows {L : Nat → Nat → Int64} {Q : bh_Q} {d : Nat} (hd : 3 ≤ d) {T : TW} (hW : WF T) {D0 : Nat → Nat → Int32} {b s : Nat} (hb : b < nb T) (hs : s < 2 ^ nw T) (kE : ∀ D, OffC D0 D → tv D = T → (∀ v, v < nw T → s.testBit v = true → ∀ q, q < lng T b → D 42 (v * 8 + q) = toI (lnO T v b q)) → Q none (hp D L)) : ∀ (f i : Nat) (D : Nat → Nat → Int32) (a6 : Value), i + f = nw T → (OffC D0 D) → (tv D = T) → (∀ v, v < i → s.testBit v = true → ∀ q, q < lng T b → D 42 (v * 8 + q) = toI (lnO T v b q)) → bw m_X0_fillRows d Q 3 [.ref 41, .ref 1, .ref 31, .int (nI b), .int (nI s), .int (nI i), a6] [] D L := by
  intro f
  induction f with
  | zero =>
    intro i D a6 hf o hT h1
    subst hT
    have h12 := hW.nwl
    have hpw := pw12 hW
    refine x_iload (pc' := 5) rfl rfl rfl ?_
    refine x_aload (pc' := 6) rfl rfl rfl ?_
    refine x_getI (j := 0) (pc' := 9) rfl rfl rfl (by decide) rfl (by decide) rfl rfl ?_
    refine x_top (hW.enw) ?_
    refine y_ic_ge (pc' := 12) rfl rfl (by first | omega | (have := sb_le s i; omega)) (by first | omega | (have := sb_le s i; omega)) (fun c9 => ?_) (fun c9 => ?_)
    · refine x_vret rfl rfl ?_
      obtain rfl : i = nw (tv D) := by omega
      exact kE D o rfl h1
    · exact absurd c9 (by omega)
  | succ f ih =>
    intro i D a6 hf o hT h1
    subst hT
    have h12 := hW.nwl
    have hpw := pw12 hW
    refine x_iload (pc' := 5) rfl rfl rfl ?_
    refine x_aload (pc' := 6) rfl rfl rfl ?_
    refine x_getI (j := 0) (pc' := 9) rfl rfl rfl (by decide) rfl (by decide) rfl rfl ?_
    refine x_top (hW.enw) ?_
    refine y_ic_ge (pc' := 12) rfl rfl (by first | omega | (have := sb_le s i; omega)) (by first | omega | (have := sb_le s i; omega)) (fun c9 => ?_) (fun c9 => ?_)
    · exact absurd c9 (by omega)
    · refine x_iload (pc' := 14) rfl rfl rfl ?_
      refine x_iload (pc' := 16) rfl rfl rfl ?_
      refine y_ishr (pc' := 17) rfl rfl (by first | omega | (have := sb_le s i; omega)) (by first | omega | (have := sb_le s i; omega)) ?_
      refine x_int (pc' := 18) (v := nI 1) rfl rfl rfl ?_
      refine y_iand (pc' := 19) rfl rfl ?_
      refine x_int (pc' := 20) (v := nI 1) rfl rfl rfl ?_
      refine y_ic_ne (pc' := 23) rfl rfl (by first | omega | (have := sb_le s i; omega)) (by first | omega | (have := sb_le s i; omega)) (fun c20 => ?_) (fun c20 => ?_)
      · refine y_inc (pc' := 69) (lv' := [_, _, _, _, _, _, _]) rfl rfl rfl (by decide) rfl ?_
        refine x_goto rfl ?_
        refine ih (i + 1) D _ (by omega) o rfl (fun v hv hv2 q hq => ?_)
        by_cases e : v = i
        · subst e; exact absurd hv2 (sb0 c20)
        · exact h1 v (by omega) hv2 q hq
      · refine x_int (pc' := 24) (v := nI 0) rfl rfl rfl ?_
        refine x_istore (pc' := 26) (lv' := [_, _, _, _, _, _, _]) rfl rfl (by decide) rfl ?_
        refine l0_X0_fillRows (d := d) hd hW (D0 := D) hb (by omega) (fun D2 o2 t2 h3 h4 => ?_) (lng (tv D) b) 0 D (Nat.zero_add _) OffC.rf rfl (fun q hq => absurd hq (Nat.not_lt_zero q)) (fun j _ => rfl)
        refine y_inc (pc' := 69) (lv' := [_, _, _, _, _, _, _]) rfl rfl rfl (by decide) rfl ?_
        refine x_goto rfl ?_
        refine ih (i + 1) D2 _ (by omega) (o.tr o2) t2 (fun v hv hv2 q hq => ?_)
        by_cases e : v = i
        · subst e; exact h3 q hq
        · have := hW.lngl hb
          rw [h4 _ (by omega)]; exact h1 v (by omega) hv2 q hq
set_option maxRecDepth 20000 in
set_option maxHeartbeats 1000000 in
theorem w_X0_fillRows {D : Nat → Nat → Int32} {L : Nat → Nat → Int64} {Q : bh_Q} (hW : WF (tv D)) {b s : Nat} (hb : b < nb (tv D)) (hs : s < 2 ^ nw (tv D)) (k1 : ∀ D', OffC D D' → tv D' = tv D → (∀ v, v < nw (tv D) → s.testBit v = true → ∀ q, q < lng (tv D) b → D' 42 (v * 8 + q) = toI (lnO (tv D) v b q)) → Q none (hp D' L)) : bh_wc 4 m_X0_fillRows [.ref 41, .ref 1, .ref 31, .int (nI b), .int (nI s)] (hp D L) Q := by
  refine x_start (lv0 := [_, _, _, _, _, _, _]) (Nat.le_of_ble_eq_true rfl) rfl ?_
  refine x_int (pc' := 1) (v := nI 0) rfl rfl rfl ?_
  refine x_istore (pc' := 3) (lv' := [_, _, _, _, _, _, _]) rfl rfl (by decide) rfl ?_
  exact l1_X0_fillRows (d := 3) (Nat.le_refl _) hW (D0 := D) hb hs k1 (nw (tv D)) 0 D .null (Nat.zero_add _) OffC.rf rfl (fun v hv => absurd hv (Nat.not_lt_zero v))
set_option maxRecDepth 20000 in
set_option maxHeartbeats 1000000 in
theorem l_X0_differingPages {D : Nat → Nat → Int32} {L : Nat → Nat → Int64} {Q : bh_Q} {d : Nat} (hd : 0 ≤ d) (hW : WF (tv D)) {w u n : Nat} (hw : w < 12) (hu : u < 12) (hn : n ≤ 8) (k1 : Q (some (.int (nI (setF (fun q => !decide (D 42 (w * 8 + q) = D 42 (u * 8 + q))) n)))) (hp D L)) : ∀ (f i : Nat), i + f = n → bw m_X0_differingPages d Q 6 [.ref 41, .int (nI w), .int (nI u), .int (nI n), .int (nI (setF (fun q => !decide (D 42 (w * 8 + q) = D 42 (u * 8 + q))) i)), .int (nI i)] [] D L := by
  have h12 := hW.nwl
  have h4 := hW.nbl
  intro f
  induction f with
  | zero =>
    intro i hf
    refine x_iload (pc' := 8) rfl rfl rfl ?_
    refine x_iload (pc' := 9) rfl rfl rfl ?_
    refine y_ic_ge (pc' := 12) rfl rfl (by omega) (by omega) (fun c9 => ?_) (fun c9 => ?_)
    · refine x_iload (pc' := 56) rfl rfl rfl ?_
      refine x_iret rfl rfl ?_
      obtain rfl : i = n := by omega
      exact k1
    · exact absurd c9 (by omega)
  | succ f ih =>
    intro i hf
    refine x_iload (pc' := 8) rfl rfl rfl ?_
    refine x_iload (pc' := 9) rfl rfl rfl ?_
    refine y_ic_ge (pc' := 12) rfl rfl (by omega) (by omega) (fun c9 => ?_) (fun c9 => ?_)
    · exact absurd c9 (by omega)
    · refine x_aload (pc' := 13) rfl rfl rfl ?_
      refine x_getR (pc' := 16) rfl rfl rfl (by decide) rfl (by decide) rfl rfl ?_
      refine x_iload (pc' := 17) rfl rfl rfl ?_
      refine x_int (pc' := 19) (v := nI 8) rfl rfl rfl ?_
      refine y_imul (pc' := 20) rfl rfl ?_
      refine x_iload (pc' := 22) rfl rfl rfl ?_
      refine y_iadd (pc' := 23) rfl rfl ?_
      refine x_iald (pc' := 24) rfl rfl (by decide) rfl (by decide) (show _ < 96 by omega) ?_
      refine x_aload (pc' := 25) rfl rfl rfl ?_
      refine x_getR (pc' := 28) rfl rfl rfl (by decide) rfl (by decide) rfl rfl ?_
      refine x_iload (pc' := 29) rfl rfl rfl ?_
      refine x_int (pc' := 31) (v := nI 8) rfl rfl rfl ?_
      refine y_imul (pc' := 32) rfl rfl ?_
      refine x_iload (pc' := 34) rfl rfl rfl ?_
      refine y_iadd (pc' := 35) rfl rfl ?_
      refine x_iald (pc' := 36) rfl rfl (by decide) rfl (by decide) (show _ < 96 by omega) ?_
      refine x_ic_eq (pc' := 39) rfl rfl (fun c36 => ?_) (fun c36 => ?_)
      · refine y_inc (pc' := 51) (lv' := [_, _, _, _, _, _]) rfl rfl rfl (by decide) rfl ?_
        refine x_goto rfl ?_
        first
          | (have e := setF_0 (f := (fun q => !decide (D 42 (w * 8 + q) = D 42 (u * 8 + q)))) (i := i) (by simp [c36])
             have hh := ih (i + 1) (by omega)
             rw [e] at hh
             exact hh)
          | (have e := setF_1 (f := (fun q => !decide (D 42 (w * 8 + q) = D 42 (u * 8 + q)))) (i := i) (by simp [c36])
             have hh := ih (i + 1) (by omega)
             rw [e] at hh
             exact hh)
      · refine x_iload (pc' := 41) rfl rfl rfl ?_
        refine x_int (pc' := 42) (v := nI 1) rfl rfl rfl ?_
        refine x_iload (pc' := 44) rfl rfl rfl ?_
        refine y_ishl (pc' := 45) rfl rfl (by omega) ?_
        refine y_ior (pc' := 46) rfl rfl ?_
        refine x_istore (pc' := 48) (lv' := [_, _, _, _, _, _]) rfl rfl (by decide) rfl ?_
        refine y_inc (pc' := 51) (lv' := [_, _, _, _, _, _]) rfl rfl rfl (by decide) rfl ?_
        refine x_goto rfl ?_
        first
          | (have e := setF_0 (f := (fun q => !decide (D 42 (w * 8 + q) = D 42 (u * 8 + q)))) (i := i) (by simp [c36])
             have hh := ih (i + 1) (by omega)
             rw [e] at hh
             exact hh)
          | (have e := setF_1 (f := (fun q => !decide (D 42 (w * 8 + q) = D 42 (u * 8 + q)))) (i := i) (by simp [c36])
             have hh := ih (i + 1) (by omega)
             rw [e] at hh
             exact hh)
set_option maxRecDepth 20000 in
set_option maxHeartbeats 1000000 in
theorem w_X0_differingPages {D : Nat → Nat → Int32} {L : Nat → Nat → Int64} {Q : bh_Q} (hW : WF (tv D)) {w u n : Nat} (hw : w < 12) (hu : u < 12) (hn : n ≤ 8) (k1 : Q (some (.int (nI (setF (fun q => !decide (D 42 (w * 8 + q) = D 42 (u * 8 + q))) n)))) (hp D L)) : bh_wc 1 m_X0_differingPages [.ref 41, .int (nI w), .int (nI u), .int (nI n)] (hp D L) Q := by
  refine x_start (lv0 := [_, _, _, _, _, _]) (Nat.le_of_ble_eq_true rfl) rfl ?_
  refine x_int (pc' := 1) (v := nI 0) rfl rfl rfl ?_
  refine x_istore (pc' := 3) (lv' := [_, _, _, _, _, _]) rfl rfl (by decide) rfl ?_
  refine x_int (pc' := 4) (v := nI 0) rfl rfl rfl ?_
  refine x_istore (pc' := 6) (lv' := [_, _, _, _, _, _]) rfl rfl (by decide) rfl ?_
  exact l_X0_differingPages (d := 0) (Nat.zero_le _) hW hw hu hn k1 n 0 (Nat.zero_add _)
theorem twI_1 {T : TW} {b s w m : Nat} (h1 : w < m) (h2 : s.testBit w = true) (h3 : s.testBit m = true) : twI T b s w (m + 1) = twI T b s w m ++ [unl T b w m] := if_pos ⟨h1, h2, h3⟩
theorem twI_0 {T : TW} {b s w m : Nat} (h : ¬ (w < m ∧ s.testBit w = true ∧ s.testBit m = true)) : twI T b s w (m + 1) = twI T b s w m := if_neg h
theorem twI_pre {T : TW} {b s w : Nat} : ∀ m, m ≤ w + 1 → twI T b s w m = [] := by
  intro m
  induction m with
  | zero => intro _; rfl
  | succ m ih => intro h; rw [twI_0 (fun z => by omega)]; exact ih (by omega)
theorem apI_1 {T : TW} {b s w m : Nat} (h2 : s.testBit w = true) (h3 : s.testBit m = true) : apI T b s w (m + 1) = apI T b s w m ++ [unl T b w m] := if_pos ⟨h2, h3⟩
theorem apI_0 {T : TW} {b s w m : Nat} (h : ¬ (s.testBit w = true ∧ s.testBit m = true)) : apI T b s w (m + 1) = apI T b s w m := if_neg h
theorem and2 {s w o : Nat} : s >>> w &&& s >>> o &&& 1 = if (s.testBit w && s.testBit o) = true then 1 else 0 := by
  have h := tb (x := s >>> w &&& s >>> o) (w := 0)
  rw [Nat.shiftRight_zero] at h
  rw [h, Nat.testBit_and, Nat.testBit_shiftRight, Nat.testBit_shiftRight]
  simp
theorem and2_1 {s w o : Nat} (h : s >>> w &&& s >>> o &&& 1 = 1) : s.testBit w = true ∧ s.testBit o = true := by
  rw [and2] at h
  cases hw : s.testBit w <;> cases ho : s.testBit o <;> rw [hw, ho] at h <;> first | exact ⟨rfl, rfl⟩ | exact absurd h (by decide)
theorem and2_0 {s w o : Nat} (h : ¬ s >>> w &&& s >>> o &&& 1 = 1) : ¬ (s.testBit w = true ∧ s.testBit o = true) := by
  rintro ⟨hw, ho⟩
  rw [and2, hw, ho] at h
  exact h rfl
theorem and2_le {s w o : Nat} : s >>> w &&& s >>> o &&& 1 < 2 := Nat.lt_of_le_of_lt Nat.and_le_right (by decide)
set_option maxRecDepth 20000 in
set_option maxHeartbeats 1000000 in
theorem l0_X0_listTwos {L : Nat → Nat → Int64} {Q : bh_Q} {d : Nat} (hd : 1 ≤ d) {T : TW} (hW : WF T) {D0 : Nat → Nat → Int32} {b s : Nat} (hb : b < nb T) (hs : s < 2 ^ nw T) (hr0 : ∀ v, v < nw T → s.testBit v = true → ∀ q, q < lng T b → D0 42 (v * 8 + q) = toI (lnO T v b q)) {w : Nat} (hw : w < nw T) (kE : ∀ D, OffC D0 D → D 42 = D0 42 → tv D = T → D 41 2 = nI (twO T b s (w + 1)).length → LsR (D 43) (twO T b s (w + 1)) → bw m_X0_listTwos d Q 75 [.ref 41, .int (nI (nw T)), .int (nI (lng T b)), .int (nI s), .int (nI w), .int (nI (nw T))] [] D L) : ∀ (f i : Nat) (D : Nat → Nat → Int32), i + f = nw T → (w < i) → (OffC D0 D) → (D 42 = D0 42) → (tv D = T) → (D 41 2 = nI (twO T b s w ++ twI T b s w i).length) → (LsR (D 43) (twO T b s w ++ twI T b s w i)) → bw m_X0_listTwos d Q 20 [.ref 41, .int (nI (nw T)), .int (nI (lng T b)), .int (nI s), .int (nI w), .int (nI i)] [] D L := by
  intro f
  induction f with
  | zero =>
    intro i D hf hwi o e42 hT hm hL
    have h12 := hW.nwl
    have hpw := pw12 hW
    have h8 := hW.lngl hb
    have hWD : WF (tv D) := by rw [hT]; exact hW
    have hr : ∀ v, v < nw T → s.testBit v = true → ∀ q, q < lng T b → D 42 (v * 8 + q) = toI (lnO T v b q) := by rw [e42]; exact hr0
    have hl1 := twO_le (T := T) hW (b := b) (s := s) w
    have hl2 := twI_le (T := T) (b := b) (s := s) (w := w) i
    have hl3 : (twO T b s w ++ twI T b s w i).length ≤ 12 * w + i := by rw [List.length_append]; omega
    have hi12 : w < 12 := by omega
    refine x_iload (pc' := 22) rfl rfl rfl ?_
    refine x_iload (pc' := 23) rfl rfl rfl ?_
    refine y_ic_ge (pc' := 26) rfl rfl (by first | omega | (have := and2_le (s := s) (w := w) (o := i); omega)) (by first | omega | (have := and2_le (s := s) (w := w) (o := i); omega)) (fun c23 => ?_) (fun c23 => ?_)
    · obtain rfl : i = nw T := by omega
      exact kE D o e42 hT hm hL
    · exact absurd c23 (by omega)
  | succ f ih =>
    intro i D hf hwi o e42 hT hm hL
    have h12 := hW.nwl
    have hpw := pw12 hW
    have h8 := hW.lngl hb
    have hWD : WF (tv D) := by rw [hT]; exact hW
    have hr : ∀ v, v < nw T → s.testBit v = true → ∀ q, q < lng T b → D 42 (v * 8 + q) = toI (lnO T v b q) := by rw [e42]; exact hr0
    have hl1 := twO_le (T := T) hW (b := b) (s := s) w
    have hl2 := twI_le (T := T) (b := b) (s := s) (w := w) i
    have hl3 : (twO T b s w ++ twI T b s w i).length ≤ 12 * w + i := by rw [List.length_append]; omega
    have hi12 : w < 12 := by omega
    refine x_iload (pc' := 22) rfl rfl rfl ?_
    refine x_iload (pc' := 23) rfl rfl rfl ?_
    refine y_ic_ge (pc' := 26) rfl rfl (by first | omega | (have := and2_le (s := s) (w := w) (o := i); omega)) (by first | omega | (have := and2_le (s := s) (w := w) (o := i); omega)) (fun c23 => ?_) (fun c23 => ?_)
    · exact absurd c23 (by omega)
    · refine x_iload (pc' := 27) rfl rfl rfl ?_
      refine x_iload (pc' := 29) rfl rfl rfl ?_
      refine y_ishr (pc' := 30) rfl rfl (by first | omega | (have := and2_le (s := s) (w := w) (o := i); omega)) (by first | omega | (have := and2_le (s := s) (w := w) (o := i); omega)) ?_
      refine x_iload (pc' := 31) rfl rfl rfl ?_
      refine x_iload (pc' := 33) rfl rfl rfl ?_
      refine y_ishr (pc' := 34) rfl rfl (by first | omega | (have := and2_le (s := s) (w := w) (o := i); omega)) (by first | omega | (have := and2_le (s := s) (w := w) (o := i); omega)) ?_
      refine y_iand (pc' := 35) rfl rfl ?_
      refine x_int (pc' := 36) (v := nI 1) rfl rfl rfl ?_
      refine y_iand (pc' := 37) rfl rfl ?_
      refine x_int (pc' := 38) (v := nI 1) rfl rfl rfl ?_
      refine y_ic_ne (pc' := 41) rfl rfl (by first | omega | (have := and2_le (s := s) (w := w) (o := i); omega)) (by first | omega | (have := and2_le (s := s) (w := w) (o := i); omega)) (fun c38 => ?_) (fun c38 => ?_)
      · refine y_inc (pc' := 72) (lv' := [_, _, _, _, _, _]) rfl rfl rfl (by decide) rfl ?_
        refine x_goto rfl ?_
        first
          | (have e : twO T b s w ++ twI T b s w (i + 1) = (twO T b s w ++ twI T b s w i) ++ [unl T b w i] := by rw [twI_1 hwi (and2_1 c38).1 (and2_1 c38).2, List.append_assoc]
             refine ih (i + 1) _ (by omega) (by omega) ((o.tr (OffC.up (by decide) (by decide))).tr (OffC.up (by decide) (by decide))) ?_ (((OffC.up (D := D) (by decide) (by decide)).tr (OffC.up (by decide) (by decide))).tv.trans hT) ?_ ?_
             · rw [bh_up2_ne _ _ _ (by decide), bh_up2_ne _ _ _ (by decide)]; exact e42
             · exact (bh_up2_self _ _ _ _).trans (congrArg nI (by rw [e]; simp; omega))
             · rw [e, bh_up2_ne _ _ _ (by decide), bh_up2_k]; exact hL.app)
          | (have e := twI_0 (T := T) (b := b) (s := s) (w := w) (m := i) (fun z => and2_0 c38 z.2)
             refine ih (i + 1) D (by omega) (by omega) o e42 hT ?_ ?_ <;> rw [e]
             · exact hm
             · exact hL)
      · refine x_aload (pc' := 42) rfl rfl rfl ?_
        refine x_getR (pc' := 45) rfl rfl rfl (by decide) rfl (by decide) rfl rfl ?_
        refine x_aload (pc' := 46) rfl rfl rfl ?_
        refine x_getI (j := 2) (pc' := 49) rfl rfl rfl (by decide) rfl (by decide) rfl rfl ?_
        refine x_top (hm) ?_
        refine x_aload (pc' := 50) rfl rfl rfl ?_
        refine x_iload (pc' := 52) rfl rfl rfl ?_
        refine x_iload (pc' := 54) rfl rfl rfl ?_
        refine x_iload (pc' := 55) rfl rfl rfl ?_
        refine x_callV (pc' := 58) (d1 := 1) (Bs := [_, _, _]) rfl rfl rfl rfl rfl rfl rfl (Nat.le_of_ble_eq_true rfl) ⟨rfl, rfl⟩ (by decide) rfl (by omega) ?_
        refine w_X0_differingPages (D := D) hWD hi12 (show i < 12 by omega) h8 ?_
        refine ⟨rfl, ?_⟩
        refine x_top (congrArg nI (show setF _ _ = unl T b w i from setF_cg _ (fun q hq => by rw [hr w hw (and2_1 c38).1 q hq, hr i (by omega) (and2_1 c38).2 q hq]))) ?_
        refine x_iast (pc' := 59) rfl rfl (by decide) rfl (by decide) (show _ < 144 by omega) ?_
        refine x_aload (pc' := 60) rfl rfl rfl ?_
        refine x_dup (pc' := 61) rfl rfl rfl ?_
        refine x_getI (j := 2) (pc' := 64) rfl rfl rfl (by decide) rfl (by decide) rfl rfl ?_
        refine x_top (hm) ?_
        refine x_int (pc' := 65) (v := nI 1) rfl rfl rfl ?_
        refine y_iadd (pc' := 66) rfl rfl ?_
        refine x_putI (j := 2) (pc' := 69) rfl rfl rfl (by decide) rfl (by decide) rfl rfl ?_
        refine y_inc (pc' := 72) (lv' := [_, _, _, _, _, _]) rfl rfl rfl (by decide) rfl ?_
        refine x_goto rfl ?_
        first
          | (have e : twO T b s w ++ twI T b s w (i + 1) = (twO T b s w ++ twI T b s w i) ++ [unl T b w i] := by rw [twI_1 hwi (and2_1 c38).1 (and2_1 c38).2, List.append_assoc]
             refine ih (i + 1) _ (by omega) (by omega) ((o.tr (OffC.up (by decide) (by decide))).tr (OffC.up (by decide) (by decide))) ?_ (((OffC.up (D := D) (by decide) (by decide)).tr (OffC.up (by decide) (by decide))).tv.trans hT) ?_ ?_
             · rw [bh_up2_ne _ _ _ (by decide), bh_up2_ne _ _ _ (by decide)]; exact e42
             · exact (bh_up2_self _ _ _ _).trans (congrArg nI (by rw [e]; simp; omega))
             · rw [e, bh_up2_ne _ _ _ (by decide), bh_up2_k]; exact hL.app)
          | (have e := twI_0 (T := T) (b := b) (s := s) (w := w) (m := i) (fun z => and2_0 c38 z.2)
             refine ih (i + 1) D (by omega) (by omega) o e42 hT ?_ ?_ <;> rw [e]
             · exact hm
             · exact hL)
set_option maxRecDepth 20000 in
set_option maxHeartbeats 1000000 in
theorem l1_X0_listTwos {L : Nat → Nat → Int64} {Q : bh_Q} {d : Nat} (hd : 1 ≤ d) {T : TW} (hW : WF T) {D0 : Nat → Nat → Int32} {b s : Nat} (hb : b < nb T) (hs : s < 2 ^ nw T) (hr0 : ∀ v, v < nw T → s.testBit v = true → ∀ q, q < lng T b → D0 42 (v * 8 + q) = toI (lnO T v b q)) (kE : ∀ D, OffC D0 D → tv D = T → D 41 2 = nI (twO T b s (nw T)).length → LsR (D 43) (twO T b s (nw T)) → Q none (hp D L)) : ∀ (f i : Nat) (D : Nat → Nat → Int32) (a5 : Value), i + f = nw T → (OffC D0 D) → (D 42 = D0 42) → (tv D = T) → (D 41 2 = nI (twO T b s i).length) → (LsR (D 43) (twO T b s i)) → bw m_X0_listTwos d Q 8 [.ref 41, .int (nI (nw T)), .int (nI (lng T b)), .int (nI s), .int (nI i), a5] [] D L := by
  intro f
  induction f with
  | zero =>
    intro i D a5 hf o e42 hT hm hL
    have h12 := hW.nwl
    have hpw := pw12 hW
    have h8 := hW.lngl hb
    have hWD : WF (tv D) := by rw [hT]; exact hW
    have hr : ∀ v, v < nw T → s.testBit v = true → ∀ q, q < lng T b → D 42 (v * 8 + q) = toI (lnO T v b q) := by rw [e42]; exact hr0
    refine x_iload (pc' := 10) rfl rfl rfl ?_
    refine x_iload (pc' := 11) rfl rfl rfl ?_
    refine y_ic_ge (pc' := 14) rfl rfl (by omega) (by omega) (fun c11 => ?_) (fun c11 => ?_)
    · refine x_vret rfl rfl ?_
      obtain rfl : i = nw T := by omega
      exact kE D o hT hm hL
    · exact absurd c11 (by omega)
  | succ f ih =>
    intro i D a5 hf o e42 hT hm hL
    have h12 := hW.nwl
    have hpw := pw12 hW
    have h8 := hW.lngl hb
    have hWD : WF (tv D) := by rw [hT]; exact hW
    have hr : ∀ v, v < nw T → s.testBit v = true → ∀ q, q < lng T b → D 42 (v * 8 + q) = toI (lnO T v b q) := by rw [e42]; exact hr0
    refine x_iload (pc' := 10) rfl rfl rfl ?_
    refine x_iload (pc' := 11) rfl rfl rfl ?_
    refine y_ic_ge (pc' := 14) rfl rfl (by omega) (by omega) (fun c11 => ?_) (fun c11 => ?_)
    · exact absurd c11 (by omega)
    · refine x_iload (pc' := 16) rfl rfl rfl ?_
      refine x_int (pc' := 17) (v := nI 1) rfl rfl rfl ?_
      refine y_iadd (pc' := 18) rfl rfl ?_
      refine x_istore (pc' := 20) (lv' := [_, _, _, _, _, _]) rfl rfl (by decide) rfl ?_
      have hm0 : D 41 2 = nI (twO T b s i ++ twI T b s i (i + 1)).length := by rw [twI_pre _ (Nat.le_refl _), List.append_nil]; exact hm
      have hL0 : LsR (D 43) (twO T b s i ++ twI T b s i (i + 1)) := by rw [twI_pre _ (Nat.le_refl _), List.append_nil]; exact hL
      refine l0_X0_listTwos (d := d) hd hW (D0 := D0) hb hs hr0 (w := i) (by omega) (fun D2 o2 q2 t2 m2 L2 => ?_) (nw T - (i + 1)) (i + 1) D (by omega) (Nat.lt_succ_self _) o e42 hT hm0 hL0
      refine y_inc (pc' := 78) (lv' := [_, _, _, _, _, _]) rfl rfl rfl (by decide) rfl ?_
      refine x_goto rfl ?_
      exact ih (i + 1) D2 _ (by omega) o2 q2 t2 m2 L2
set_option maxRecDepth 20000 in
set_option maxHeartbeats 1000000 in
theorem w_X0_listTwos {D : Nat → Nat → Int32} {L : Nat → Nat → Int64} {Q : bh_Q} {T : TW} (hW : WF T) (hT : tv D = T) {b s : Nat} (hb : b < nb T) (hs : s < 2 ^ nw T) (hr : ∀ v, v < nw T → s.testBit v = true → ∀ q, q < lng T b → D 42 (v * 8 + q) = toI (lnO T v b q)) (k1 : ∀ D', OffC D D' → tv D' = T → D' 41 2 = nI (twO T b s (nw T)).length → LsR (D' 43) (twO T b s (nw T)) → Q none (hp D' L)) : bh_wc 2 m_X0_listTwos [.ref 41, .int (nI (nw T)), .int (nI (lng T b)), .int (nI s)] (hp D L) Q := by
  refine x_start (lv0 := [_, _, _, _, _, _]) (Nat.le_of_ble_eq_true rfl) rfl ?_
  refine x_aload (pc' := 1) rfl rfl rfl ?_
  refine x_int (pc' := 2) (v := nI 0) rfl rfl rfl ?_
  refine x_putI (j := 2) (pc' := 5) rfl rfl rfl (by decide) rfl (by decide) rfl rfl ?_
  refine x_int (pc' := 6) (v := nI 0) rfl rfl rfl ?_
  refine x_istore (pc' := 8) (lv' := [_, _, _, _, _, _]) rfl rfl (by decide) rfl ?_
  refine l1_X0_listTwos (d := 1) (Nat.le_refl _) hW (D0 := bh_up2 D 41 2 (nI 0)) hb hs ?_ (fun D1 o1 t1 m1 L1 => k1 D1 ((OffC.up (by decide) (by decide)).tr o1) t1 m1 L1) (nw T) 0 _ .null (Nat.zero_add _) OffC.rf rfl ((OffC.up (D := D) (by decide) (by decide)).tv.trans hT) (bh_up2_self _ _ _ _) (fun j hj => absurd hj (Nat.not_lt_zero j))
  rw [bh_up2_ne _ _ _ (by decide)]; exact hr
set_option maxRecDepth 20000 in
set_option maxHeartbeats 1000000 in
theorem l_X0_allApart {D : Nat → Nat → Int32} {L : Nat → Nat → Int64} {Q : bh_Q} {d : Nat} {l : List Nat} (hm : D 41 2 = nI l.length) (hL : LsR (D 43) l) (hl : l.length ≤ 144) (hx : ∀ x ∈ l, x < 256) {g : Nat} : ∀ (r : List Nat) (i : Nat), l.drop i = r → i ≤ 144 → (allA r g = true → Q (some (.int 1)) (hp D L)) → (allA r g = false → Q (some (.int 0)) (hp D L)) → bw m_X0_allApart d Q 2 [.ref 41, .int (nI g), .int (nI i)] [] D L := by
  intro r
  induction r with
  | nil =>
    intro i hd hi k1 k0
    have hx0 := drop_nil hd
    refine x_iload (pc' := 3) rfl rfl rfl ?_
    refine x_aload (pc' := 4) rfl rfl rfl ?_
    refine x_getI (j := 2) (pc' := 7) rfl rfl rfl (by decide) rfl (by decide) rfl rfl ?_
    refine x_top (hm) ?_
    refine y_ic_ge (pc' := 10) rfl rfl (by omega) (by omega) (fun c7 => ?_) (fun c7 => ?_)
    · refine x_int (pc' := 30) (v := nI 1) rfl rfl rfl ?_
      refine x_zret rfl rfl (by decide) ?_
      exact k1 rfl
    · exact absurd c7 (by omega)
  | cons x r ih =>
    intro i hd hi k1 k0
    obtain ⟨hx0, hx1, hx2, hx3⟩ := drop_cons hd
    have hx4 : x < 256 := by rw [← hx1]; exact hx _ (getD_mem hx0)
    refine x_iload (pc' := 3) rfl rfl rfl ?_
    refine x_aload (pc' := 4) rfl rfl rfl ?_
    refine x_getI (j := 2) (pc' := 7) rfl rfl rfl (by decide) rfl (by decide) rfl rfl ?_
    refine x_top (hm) ?_
    refine y_ic_ge (pc' := 10) rfl rfl (by first | omega | (have := Nat.and_le_left (n := x) (m := g); omega)) (by first | omega | (have := Nat.and_le_left (n := x) (m := g); omega)) (fun c7 => ?_) (fun c7 => ?_)
    · exact absurd c7 (by omega)
    · refine x_aload (pc' := 11) rfl rfl rfl ?_
      refine x_getR (pc' := 14) rfl rfl rfl (by decide) rfl (by decide) rfl rfl ?_
      refine x_iload (pc' := 15) rfl rfl rfl ?_
      refine x_iald (pc' := 16) rfl rfl (by decide) rfl (by decide) (show _ < 144 by omega) ?_
      refine x_top ((hL i hx0).trans (congrArg nI hx1)) ?_
      refine x_iload (pc' := 17) rfl rfl rfl ?_
      refine y_iand (pc' := 18) rfl rfl ?_
      refine y_if_ne (pc' := 21) rfl rfl (by first | omega | (have := Nat.and_le_left (n := x) (m := g); omega)) (fun c18 => ?_) (fun c18 => ?_)
      · refine y_inc (pc' := 26) (lv' := [_, _, _]) rfl rfl rfl (by decide) rfl ?_
        refine x_goto rfl ?_
        have e : allA (x :: r) g = allA r g := by
          show (!decide (x &&& g = 0) && allA r g) = allA r g
          rw [decide_eq_false c18]; rfl
        rw [e] at k1 k0
        exact ih (i + 1) hx2 (by omega) k1 k0
      · refine x_int (pc' := 22) (v := nI 0) rfl rfl rfl ?_
        refine x_zret rfl rfl (by decide) ?_
        refine k0 ?_
        show (!decide (x &&& g = 0) && allA r g) = false
        rw [decide_eq_true c18]; rfl
set_option maxRecDepth 20000 in
set_option maxHeartbeats 1000000 in
theorem w_X0_allApart {D : Nat → Nat → Int32} {L : Nat → Nat → Int64} {Q : bh_Q} {l : List Nat} (hm : D 41 2 = nI l.length) (hL : LsR (D 43) l) (hl : l.length ≤ 144) (hx : ∀ x ∈ l, x < 256) {g : Nat} (k1 : allA l g = true → Q (some (.int 1)) (hp D L)) (k0 : allA l g = false → Q (some (.int 0)) (hp D L)) : bh_wc 1 m_X0_allApart [.ref 41, .int (nI g)] (hp D L) Q := by
  refine x_start (lv0 := [_, _, _]) (Nat.le_of_ble_eq_true rfl) rfl ?_
  refine x_int (pc' := 1) (v := nI 0) rfl rfl rfl ?_
  refine x_istore (pc' := 2) (lv' := [_, _, _]) rfl rfl (by decide) rfl ?_
  exact l_X0_allApart hm hL hl hx l 0 rfl (by decide) k1 k0
theorem bst_1 {A : Nat → Bool} {n : Nat} (h : A (n + 1) = true) (h2 : bstF A n = 0 ∨ pcn (n + 1) < pcn (bstF A n)) : bstF A (n + 1) = n + 1 := if_pos ⟨h, h2⟩
theorem bst_a {A : Nat → Bool} {n : Nat} (h : A (n + 1) = false) : bstF A (n + 1) = bstF A n := if_neg (fun z => by rw [h] at z; exact absurd z.1 (by decide))
theorem bst_b {A : Nat → Bool} {n : Nat} (h : ¬ bstF A n = 0) (h2 : pcn (bstF A n) ≤ pcn (n + 1)) : bstF A (n + 1) = bstF A n := if_neg (fun z => z.2.elim h (fun q => by omega))
theorem two_mem {T : TW} (hW : WF T) {b s n : Nat} (hb : b < nb T) : ∀ x ∈ twO T b s n, x < 256 := by
  intro x hx
  obtain ⟨w, o, _, _, _, _, _, e⟩ := (twO_mem n).mp hx
  rw [e]; exact unl_lt hW hb w o
theorem ap_mem {T : TW} (hW : WF T) {b s n : Nat} (hb : b < nb T) : ∀ x ∈ apO T b s n, x < 256 := by
  intro x hx
  obtain ⟨w, o, _, _, _, _, e⟩ := (apO_mem n).mp hx
  rw [e]; exact unl_lt hW hb w o
set_option maxRecDepth 20000 in
set_option maxHeartbeats 1000000 in
theorem l_X0_fewestPages {L : Nat → Nat → Int64} {Q : bh_Q} {d : Nat} (hd : 1 ≤ d) {T : TW} (hW : WF T) {D0 : Nat → Nat → Int32} {b s : Nat} (hb : b < nb T) (hm : D0 41 2 = nI (twO T b s (nw T)).length) (hL : LsR (D0 43) (twO T b s (nw T))) (k1 : Q (some (.int (nI (bstF (allA (twO T b s (nw T))) (2 ^ lng T b - 1))))) (hp D0 L)) : ∀ (f i : Nat) (D : Nat → Nat → Int32) (a8 : Value), i + f = 2 ^ lng T b - 1 → (D0 = D) → bw m_X0_fewestPages d Q 35 [.ref 41, .ref 1, .ref 31, .int (nI b), .int (nI s), .int (nI (lng T b)), .int (nI (bstF (allA (twO T b s (nw T))) i)), .int (nI (i + 1)), a8] [] D L := by
  intro f
  induction f with
  | zero =>
    intro i D a8 hf hD
    subst hD
    have h12 := hW.nwl
    have h8 := hW.lngl hb
    have hp8 := pw8 hW hb
    have hp0 := Nat.two_pow_pos (lng T b)
    have hsl : 1 <<< lng T b = 2 ^ lng T b := Nat.one_shiftLeft _
    have hbl := bstF_le (A := (allA (twO T b s (nw T)))) i
    have hp1 := pcn_le (i + 1)
    have hp2 := pcn_le (bstF (allA (twO T b s (nw T))) i)
    refine x_iload (pc' := 37) rfl rfl rfl ?_
    refine x_int (pc' := 38) (v := nI 1) rfl rfl rfl ?_
    refine x_iload (pc' := 40) rfl rfl rfl ?_
    refine y_ishl (pc' := 41) rfl rfl (by omega) ?_
    refine y_ic_ge (pc' := 44) rfl rfl (by omega) (by omega) (fun c41 => ?_) (fun c41 => ?_)
    · refine x_iload (pc' := 95) rfl rfl rfl ?_
      refine x_iret rfl rfl ?_
      obtain rfl : i = 2 ^ lng T b - 1 := by omega
      exact k1
    · exact absurd c41 (by omega)
  | succ f ih =>
    intro i D a8 hf hD
    subst hD
    have h12 := hW.nwl
    have h8 := hW.lngl hb
    have hp8 := pw8 hW hb
    have hp0 := Nat.two_pow_pos (lng T b)
    have hsl : 1 <<< lng T b = 2 ^ lng T b := Nat.one_shiftLeft _
    have hbl := bstF_le (A := (allA (twO T b s (nw T)))) i
    have hp1 := pcn_le (i + 1)
    have hp2 := pcn_le (bstF (allA (twO T b s (nw T))) i)
    refine x_iload (pc' := 37) rfl rfl rfl ?_
    refine x_int (pc' := 38) (v := nI 1) rfl rfl rfl ?_
    refine x_iload (pc' := 40) rfl rfl rfl ?_
    refine y_ishl (pc' := 41) rfl rfl (by omega) ?_
    refine y_ic_ge (pc' := 44) rfl rfl (by omega) (by omega) (fun c41 => ?_) (fun c41 => ?_)
    · exact absurd c41 (by omega)
    · refine x_iload (pc' := 46) rfl rfl rfl ?_
      refine y_if_eq (pc' := 49) rfl rfl (by omega) (fun c46 => ?_) (fun c46 => ?_)
      · refine x_int (pc' := 63) (v := nI 1) rfl rfl rfl ?_
        refine x_goto rfl ?_
        refine x_istore (pc' := 69) (lv' := [_, _, _, _, _, _, _, _, _]) rfl rfl (by decide) rfl ?_
        refine x_iload (pc' := 71) rfl rfl rfl ?_
        refine x_if_eq (pc' := 74) rfl rfl (fun c71 => absurd c71 (by decide)) (fun _ => ?_)
        refine x_aload (pc' := 75) rfl rfl rfl ?_
        refine x_iload (pc' := 77) rfl rfl rfl ?_
        refine x_callV (pc' := 80) (d1 := 1) (Bs := [_]) rfl rfl rfl rfl rfl rfl rfl (Nat.le_of_ble_eq_true rfl) ⟨rfl, rfl⟩ (by decide) rfl (by omega) ?_
        refine w_X0_allApart hm hL (by have := twO_le (T := T) hW (b := b) (s := s) (nw T); omega) (two_mem hW hb) (fun hA => ?_) (fun hA => ?_)
        · refine ⟨rfl, ?_⟩
          refine x_if_eq (pc' := 83) rfl rfl (fun c80 => absurd c80 (by decide)) (fun _ => ?_)
          refine x_iload (pc' := 85) rfl rfl rfl ?_
          refine x_istore (pc' := 87) (lv' := [_, _, _, _, _, _, _, _, _]) rfl rfl (by decide) rfl ?_
          refine y_inc (pc' := 90) (lv' := [_, _, _, _, _, _, _, _, _]) rfl rfl rfl (by decide) rfl ?_
          refine x_goto rfl ?_
          first
            | (have e := bst_1 (A := (allA (twO T b s (nw T)))) (n := i) hA (Or.inl c46)
               have hh := fun z => ih (i + 1) D0 z (by omega) rfl
               rw [e] at hh
               exact hh _)
            | (have e := bst_1 (A := (allA (twO T b s (nw T)))) (n := i) hA (Or.inr c59)
               have hh := fun z => ih (i + 1) D0 z (by omega) rfl
               rw [e] at hh
               exact hh _)
            | (have e := bst_a (A := (allA (twO T b s (nw T)))) (n := i) hA
               have hh := fun z => ih (i + 1) D0 z (by omega) rfl
               rw [e] at hh
               exact hh _)
            | (have e := bst_b (A := (allA (twO T b s (nw T)))) (n := i) c46 c59
               have hh := fun z => ih (i + 1) D0 z (by omega) rfl
               rw [e] at hh
               exact hh _)
        · refine ⟨rfl, ?_⟩
          refine x_if_eq (pc' := 83) rfl rfl (fun _ => ?_) (fun c80 => absurd (by decide) c80)
          refine y_inc (pc' := 90) (lv' := [_, _, _, _, _, _, _, _, _]) rfl rfl rfl (by decide) rfl ?_
          refine x_goto rfl ?_
          first
            | (have e := bst_1 (A := (allA (twO T b s (nw T)))) (n := i) hA (Or.inl c46)
               have hh := fun z => ih (i + 1) D0 z (by omega) rfl
               rw [e] at hh
               exact hh _)
            | (have e := bst_1 (A := (allA (twO T b s (nw T)))) (n := i) hA (Or.inr c59)
               have hh := fun z => ih (i + 1) D0 z (by omega) rfl
               rw [e] at hh
               exact hh _)
            | (have e := bst_a (A := (allA (twO T b s (nw T)))) (n := i) hA
               have hh := fun z => ih (i + 1) D0 z (by omega) rfl
               rw [e] at hh
               exact hh _)
            | (have e := bst_b (A := (allA (twO T b s (nw T)))) (n := i) c46 c59
               have hh := fun z => ih (i + 1) D0 z (by omega) rfl
               rw [e] at hh
               exact hh _)
      · refine x_iload (pc' := 51) rfl rfl rfl ?_
        refine x_callS (pc' := 54) (d1 := 1) (As := [_]) rfl rfl rfl rfl (by decide) rfl rfl (Nat.le_of_ble_eq_true rfl) ⟨rfl, rfl⟩ (by omega) ?_
        refine w_bitCount (by omega) ?_
        refine ⟨rfl, ?_⟩
        refine x_iload (pc' := 56) rfl rfl rfl ?_
        refine x_callS (pc' := 59) (d1 := 1) (As := [_]) rfl rfl rfl rfl (by decide) rfl rfl (Nat.le_of_ble_eq_true rfl) ⟨rfl, rfl⟩ (by omega) ?_
        refine w_bitCount (by omega) ?_
        refine ⟨rfl, ?_⟩
        refine y_ic_ge (pc' := 62) rfl rfl (by omega) (by omega) (fun c59 => ?_) (fun c59 => ?_)
        · refine x_int (pc' := 67) (v := nI 0) rfl rfl rfl ?_
          refine x_istore (pc' := 69) (lv' := [_, _, _, _, _, _, _, _, _]) rfl rfl (by decide) rfl ?_
          refine x_iload (pc' := 71) rfl rfl rfl ?_
          refine x_if_eq (pc' := 74) rfl rfl (fun _ => ?_) (fun c71 => absurd (by decide) c71)
          refine y_inc (pc' := 90) (lv' := [_, _, _, _, _, _, _, _, _]) rfl rfl rfl (by decide) rfl ?_
          refine x_goto rfl ?_
          first
            | (have e := bst_1 (A := (allA (twO T b s (nw T)))) (n := i) hA (Or.inl c46)
               have hh := fun z => ih (i + 1) D0 z (by omega) rfl
               rw [e] at hh
               exact hh _)
            | (have e := bst_1 (A := (allA (twO T b s (nw T)))) (n := i) hA (Or.inr c59)
               have hh := fun z => ih (i + 1) D0 z (by omega) rfl
               rw [e] at hh
               exact hh _)
            | (have e := bst_a (A := (allA (twO T b s (nw T)))) (n := i) hA
               have hh := fun z => ih (i + 1) D0 z (by omega) rfl
               rw [e] at hh
               exact hh _)
            | (have e := bst_b (A := (allA (twO T b s (nw T)))) (n := i) c46 c59
               have hh := fun z => ih (i + 1) D0 z (by omega) rfl
               rw [e] at hh
               exact hh _)
        · refine x_int (pc' := 63) (v := nI 1) rfl rfl rfl ?_
          refine x_goto rfl ?_
          refine x_istore (pc' := 69) (lv' := [_, _, _, _, _, _, _, _, _]) rfl rfl (by decide) rfl ?_
          refine x_iload (pc' := 71) rfl rfl rfl ?_
          refine x_if_eq (pc' := 74) rfl rfl (fun c71 => absurd c71 (by decide)) (fun _ => ?_)
          refine x_aload (pc' := 75) rfl rfl rfl ?_
          refine x_iload (pc' := 77) rfl rfl rfl ?_
          refine x_callV (pc' := 80) (d1 := 1) (Bs := [_]) rfl rfl rfl rfl rfl rfl rfl (Nat.le_of_ble_eq_true rfl) ⟨rfl, rfl⟩ (by decide) rfl (by omega) ?_
          refine w_X0_allApart hm hL (by have := twO_le (T := T) hW (b := b) (s := s) (nw T); omega) (two_mem hW hb) (fun hA => ?_) (fun hA => ?_)
          · refine ⟨rfl, ?_⟩
            refine x_if_eq (pc' := 83) rfl rfl (fun c80 => absurd c80 (by decide)) (fun _ => ?_)
            refine x_iload (pc' := 85) rfl rfl rfl ?_
            refine x_istore (pc' := 87) (lv' := [_, _, _, _, _, _, _, _, _]) rfl rfl (by decide) rfl ?_
            refine y_inc (pc' := 90) (lv' := [_, _, _, _, _, _, _, _, _]) rfl rfl rfl (by decide) rfl ?_
            refine x_goto rfl ?_
            first
              | (have e := bst_1 (A := (allA (twO T b s (nw T)))) (n := i) hA (Or.inl c46)
                 have hh := fun z => ih (i + 1) D0 z (by omega) rfl
                 rw [e] at hh
                 exact hh _)
              | (have e := bst_1 (A := (allA (twO T b s (nw T)))) (n := i) hA (Or.inr c59)
                 have hh := fun z => ih (i + 1) D0 z (by omega) rfl
                 rw [e] at hh
                 exact hh _)
              | (have e := bst_a (A := (allA (twO T b s (nw T)))) (n := i) hA
                 have hh := fun z => ih (i + 1) D0 z (by omega) rfl
                 rw [e] at hh
                 exact hh _)
              | (have e := bst_b (A := (allA (twO T b s (nw T)))) (n := i) c46 c59
                 have hh := fun z => ih (i + 1) D0 z (by omega) rfl
                 rw [e] at hh
                 exact hh _)
          · refine ⟨rfl, ?_⟩
            refine x_if_eq (pc' := 83) rfl rfl (fun _ => ?_) (fun c80 => absurd (by decide) c80)
            refine y_inc (pc' := 90) (lv' := [_, _, _, _, _, _, _, _, _]) rfl rfl rfl (by decide) rfl ?_
            refine x_goto rfl ?_
            first
              | (have e := bst_1 (A := (allA (twO T b s (nw T)))) (n := i) hA (Or.inl c46)
                 have hh := fun z => ih (i + 1) D0 z (by omega) rfl
                 rw [e] at hh
                 exact hh _)
              | (have e := bst_1 (A := (allA (twO T b s (nw T)))) (n := i) hA (Or.inr c59)
                 have hh := fun z => ih (i + 1) D0 z (by omega) rfl
                 rw [e] at hh
                 exact hh _)
              | (have e := bst_a (A := (allA (twO T b s (nw T)))) (n := i) hA
                 have hh := fun z => ih (i + 1) D0 z (by omega) rfl
                 rw [e] at hh
                 exact hh _)
              | (have e := bst_b (A := (allA (twO T b s (nw T)))) (n := i) c46 c59
                 have hh := fun z => ih (i + 1) D0 z (by omega) rfl
                 rw [e] at hh
                 exact hh _)
set_option maxRecDepth 20000 in
set_option maxHeartbeats 1000000 in
theorem w_X0_fewestPages {D : Nat → Nat → Int32} {L : Nat → Nat → Int64} {Q : bh_Q} (hW : WF (tv D)) {b s : Nat} (hb : b < nb (tv D)) (hs : s < 2 ^ nw (tv D)) (k1 : ∀ D', OffC D D' → Q (some (.int (nI (bstF (allA (twO (tv D) b s (nw (tv D)))) (2 ^ lng (tv D) b - 1))))) (hp D' L)) : bh_wc 5 m_X0_fewestPages [.ref 41, .ref 1, .ref 31, .int (nI b), .int (nI s)] (hp D L) Q := by
  refine x_start (lv0 := [_, _, _, _, _, _, _, _, _]) (Nat.le_of_ble_eq_true rfl) rfl ?_
  have h4 := hW.nbl
  refine x_aload (pc' := 1) rfl rfl rfl ?_
  refine x_getR (pc' := 4) rfl rfl rfl (by decide) rfl (by decide) rfl rfl ?_
  refine x_iload (pc' := 5) rfl rfl rfl ?_
  refine x_iald (pc' := 6) rfl rfl (by decide) rfl (by decide) (show _ < 4 by omega) ?_
  refine x_top (hW.elng hb) ?_
  refine x_istore (pc' := 8) (lv' := [_, _, _, _, _, _, _, _, _]) rfl rfl (by decide) rfl ?_
  refine x_aload (pc' := 9) rfl rfl rfl ?_
  refine x_aload (pc' := 10) rfl rfl rfl ?_
  refine x_aload (pc' := 11) rfl rfl rfl ?_
  refine x_iload (pc' := 12) rfl rfl rfl ?_
  refine x_iload (pc' := 14) rfl rfl rfl ?_
  refine x_callV (pc' := 17) (d1 := 4) (Bs := [_, _, _, _]) rfl rfl rfl rfl rfl rfl rfl (Nat.le_of_ble_eq_true rfl) ⟨rfl, rfl⟩ (by decide) rfl (by decide) ?_
  refine w_X0_fillRows hW hb hs (fun D1 o1 t1 h1 => ?_)
  refine ⟨rfl, ?_⟩
  refine x_aload (pc' := 18) rfl rfl rfl ?_
  refine x_aload (pc' := 19) rfl rfl rfl ?_
  refine x_getI (j := 0) (pc' := 22) rfl rfl rfl (by decide) rfl (by decide) rfl rfl ?_
  refine x_top ((congrFun (congrFun t1 0) 0).trans hW.enw) ?_
  refine x_iload (pc' := 24) rfl rfl rfl ?_
  refine x_iload (pc' := 26) rfl rfl rfl ?_
  refine x_callV (pc' := 29) (d1 := 2) (Bs := [_, _, _]) rfl rfl rfl rfl rfl rfl rfl (Nat.le_of_ble_eq_true rfl) ⟨rfl, rfl⟩ (by decide) rfl (by decide) ?_
  refine w_X0_listTwos hW t1 hb hs h1 (fun D2 o2 t2 m2 L2 => ?_)
  refine ⟨rfl, ?_⟩
  refine x_int (pc' := 30) (v := nI 0) rfl rfl rfl ?_
  refine x_istore (pc' := 32) (lv' := [_, _, _, _, _, _, _, _, _]) rfl rfl (by decide) rfl ?_
  refine x_int (pc' := 33) (v := nI 1) rfl rfl rfl ?_
  refine x_istore (pc' := 35) (lv' := [_, _, _, _, _, _, _, _, _]) rfl rfl (by decide) rfl ?_
  have hp0 := Nat.two_pow_pos (lng (tv D) b)
  exact l_X0_fewestPages (d := 4) (by decide) hW hb m2 L2 (k1 D2 (o1.tr o2)) (2 ^ lng (tv D) b - 1) 0 D2 .null (Nat.zero_add _) rfl
set_option maxRecDepth 20000 in
set_option maxHeartbeats 1000000 in
theorem w_X9_tells {D : Nat → Nat → Int32} {L : Nat → Nat → Int64} {Q : bh_Q} (hW : WF (tv D)) {y s v : Int32} (k1 : ∀ D1, OffC D D1 → Q (some (.int (tellsQ (tv D) y s v))) (hp D1 L)) : bh_wc 6 m_X9_tells [.ref 0, .int y, .int s, .int v] (hp D L) Q := by
  refine x_start (lv0 := [_, _, _, _, _]) (Nat.le_of_ble_eq_true rfl) rfl ?_
  have h12 := hW.nwl
  have h4 := hW.nbl
  have hpw := pw12 hW
  refine x_aload (pc' := 1) rfl rfl rfl ?_
  refine x_getR (pc' := 4) rfl rfl rfl (by decide) rfl (by decide) rfl rfl ?_
  refine x_iload (pc' := 5) rfl rfl rfl ?_
  refine x_callV (pc' := 8) (d1 := 1) (Bs := [_]) rfl rfl rfl rfl rfl rfl rfl (Nat.le_of_ble_eq_true rfl) ⟨rfl, rfl⟩ (by decide) rfl (by decide) ?_
  refine w_X7_isBook hW (fun b hb e => ?_) (fun h5 => ?_)
  · subst e
    refine ⟨rfl, ?_⟩
    refine x_if_eq (pc' := 11) rfl rfl (fun c8 => absurd c8 (by decide)) (fun _ => ?_)
    refine x_aload (pc' := 12) rfl rfl rfl ?_
    refine x_iload (pc' := 13) rfl rfl rfl ?_
    refine x_callV (pc' := 16) (d1 := 1) (Bs := [_]) rfl rfl rfl rfl rfl rfl rfl (Nat.le_of_ble_eq_true rfl) ⟨rfl, rfl⟩ (by decide) rfl (by decide) ?_
    refine w_X9_isSetOfWriters hW (fun s hs e => ?_) (fun hs => ?_)
    · subst e
      refine ⟨rfl, ?_⟩
      refine x_if_ne (pc' := 19) rfl rfl (fun _ => ?_) (fun c16 => absurd c16 (by decide))
      refine x_iload (pc' := 22) rfl rfl rfl ?_
      refine x_if_lt (pc' := 25) rfl rfl (fun c22 => ?_) (fun c22 => ?_)
      · have hv := okN_neg (n := 2) (by decide) c22
        refine x_int (pc' := 39) (v := (-1)) rfl rfl rfl ?_
        refine x_iret rfl rfl ?_
        first
          | (simp (disch := first | assumption | omega) only [tellsQ, onN_1, onN_0, onP_1, onP_0, ↓reduceIte] at k1
             exact k1 D OffC.rf)
          | (simp (disch := first | assumption | omega) only [tellsQ, onN_1, onN_0, onP_1, onP_0, ↓reduceIte] at k1
             rw [if_pos c35] at k1
             exact k1 D OffC.rf)
      · refine x_iload (pc' := 26) rfl rfl rfl ?_
        refine x_int (pc' := 27) (v := nI 1) rfl rfl rfl ?_
        refine x_ic_gt (pc' := 30) rfl rfl (fun c27 => ?_) (fun c27 => ?_)
        · have hv := okN_gt (n := 1) (by decide) c27
          refine x_int (pc' := 39) (v := (-1)) rfl rfl rfl ?_
          refine x_iret rfl rfl ?_
          first
            | (simp (disch := first | assumption | omega) only [tellsQ, onN_1, onN_0, onP_1, onP_0, ↓reduceIte] at k1
               exact k1 D OffC.rf)
            | (simp (disch := first | assumption | omega) only [tellsQ, onN_1, onN_0, onP_1, onP_0, ↓reduceIte] at k1
               rw [if_pos c35] at k1
               exact k1 D OffC.rf)
        · obtain ⟨m, hm, rfl⟩ := le_ofI (n := 1) c22 (Int32.not_lt.mp c27)
          refine x_iload (pc' := 31) rfl rfl rfl ?_
          refine x_callS (pc' := 34) (d1 := 1) (As := [_]) rfl rfl rfl rfl (by decide) rfl rfl (Nat.le_of_ble_eq_true rfl) ⟨rfl, rfl⟩ (by decide) ?_
          refine w_bitCount (by omega) ?_
          refine ⟨rfl, ?_⟩
          have hp1 := pcn_le s
          refine x_int (pc' := 35) (v := nI 2) rfl rfl rfl ?_
          refine y_ic_ge (pc' := 38) rfl rfl (by omega) (by omega) (fun c35 => ?_) (fun c35 => ?_)
          · refine x_aload (pc' := 41) rfl rfl rfl ?_
            refine x_getR (pc' := 44) rfl rfl rfl (by decide) rfl (by decide) rfl rfl ?_
            refine x_aload (pc' := 45) rfl rfl rfl ?_
            refine x_getR (pc' := 48) rfl rfl rfl (by decide) rfl (by decide) rfl rfl ?_
            refine x_aload (pc' := 49) rfl rfl rfl ?_
            refine x_getR (pc' := 52) rfl rfl rfl (by decide) rfl (by decide) rfl rfl ?_
            refine x_iload (pc' := 53) rfl rfl rfl ?_
            refine x_iload (pc' := 54) rfl rfl rfl ?_
            refine x_callV (pc' := 57) (d1 := 5) (Bs := [_, _, _, _]) rfl rfl rfl rfl rfl rfl rfl (Nat.le_of_ble_eq_true rfl) ⟨rfl, rfl⟩ (by decide) rfl (by decide) ?_
            refine w_X0_fewestPages hW hb hs (fun D1 o1 => ?_)
            refine ⟨rfl, ?_⟩
            have hbl := bstF_le (A := allA (twO (tv D) b s (nw (tv D)))) (2 ^ lng (tv D) b - 1)
            have hp8 := pw8 hW hb
            generalize hr : bstF (allA (twO (tv D) b s (nw (tv D)))) (2 ^ lng (tv D) b - 1) = r at hbl
            refine x_istore (pc' := 59) (lv' := [_, _, _, _, _]) rfl rfl (by decide) rfl ?_
            refine x_iload (pc' := 61) rfl rfl rfl ?_
            refine y_if_ne (pc' := 64) rfl rfl (by omega) (fun c61 => ?_) (fun c61 => ?_)
            · refine x_iload (pc' := 68) rfl rfl rfl ?_
              refine y_if_ne (pc' := 71) rfl rfl (by omega) (fun c68 => ?_) (fun c68 => ?_)
              · refine x_iload (pc' := 81) rfl rfl rfl ?_
                refine x_iret rfl rfl ?_
                first
                  | (simp (disch := first | assumption | omega) only [tellsQ, onN_1, onN_0, onP_1, onP_0, ↓reduceIte] at k1
                     rw [if_neg (by omega), hr] at k1
                     have e : tellsV r m = -2 := if_pos c61
                     rw [e] at k1
                     exact k1 D1 o1)
                  | (simp (disch := first | assumption | omega) only [tellsQ, onN_1, onN_0, onP_1, onP_0, ↓reduceIte] at k1
                     rw [if_neg (by omega), hr] at k1
                     unfold tellsV at k1
                     rw [if_neg c61, if_pos c68] at k1
                     exact k1 D1 o1)
                  | (simp (disch := first | assumption | omega) only [tellsQ, onN_1, onN_0, onP_1, onP_0, ↓reduceIte] at k1
                     rw [if_neg (by omega), hr] at k1
                     unfold tellsV at k1
                     rw [if_neg c61, if_neg c68] at k1
                     exact k1 D1 o1)
              · refine x_iload (pc' := 73) rfl rfl rfl ?_
                refine x_callS (pc' := 76) (d1 := 1) (As := [_]) rfl rfl rfl rfl (by decide) rfl rfl (Nat.le_of_ble_eq_true rfl) ⟨rfl, rfl⟩ (by decide) ?_
                refine w_bitCount (by omega) ?_
                refine ⟨rfl, ?_⟩
                refine x_goto rfl ?_
                refine x_iret rfl rfl ?_
                first
                  | (simp (disch := first | assumption | omega) only [tellsQ, onN_1, onN_0, onP_1, onP_0, ↓reduceIte] at k1
                     rw [if_neg (by omega), hr] at k1
                     have e : tellsV r m = -2 := if_pos c61
                     rw [e] at k1
                     exact k1 D1 o1)
                  | (simp (disch := first | assumption | omega) only [tellsQ, onN_1, onN_0, onP_1, onP_0, ↓reduceIte] at k1
                     rw [if_neg (by omega), hr] at k1
                     unfold tellsV at k1
                     rw [if_neg c61, if_pos c68] at k1
                     exact k1 D1 o1)
                  | (simp (disch := first | assumption | omega) only [tellsQ, onN_1, onN_0, onP_1, onP_0, ↓reduceIte] at k1
                     rw [if_neg (by omega), hr] at k1
                     unfold tellsV at k1
                     rw [if_neg c61, if_neg c68] at k1
                     exact k1 D1 o1)
            · refine x_int (pc' := 66) (v := (-2)) rfl rfl rfl ?_
              refine x_iret rfl rfl ?_
              first
                | (simp (disch := first | assumption | omega) only [tellsQ, onN_1, onN_0, onP_1, onP_0, ↓reduceIte] at k1
                   rw [if_neg (by omega), hr] at k1
                   have e : tellsV r m = -2 := if_pos c61
                   rw [e] at k1
                   exact k1 D1 o1)
                | (simp (disch := first | assumption | omega) only [tellsQ, onN_1, onN_0, onP_1, onP_0, ↓reduceIte] at k1
                   rw [if_neg (by omega), hr] at k1
                   unfold tellsV at k1
                   rw [if_neg c61, if_pos c68] at k1
                   exact k1 D1 o1)
                | (simp (disch := first | assumption | omega) only [tellsQ, onN_1, onN_0, onP_1, onP_0, ↓reduceIte] at k1
                   rw [if_neg (by omega), hr] at k1
                   unfold tellsV at k1
                   rw [if_neg c61, if_neg c68] at k1
                   exact k1 D1 o1)
          · refine x_int (pc' := 39) (v := (-1)) rfl rfl rfl ?_
            refine x_iret rfl rfl ?_
            first
              | (simp (disch := first | assumption | omega) only [tellsQ, onN_1, onN_0, onP_1, onP_0, ↓reduceIte] at k1
                 exact k1 D OffC.rf)
              | (simp (disch := first | assumption | omega) only [tellsQ, onN_1, onN_0, onP_1, onP_0, ↓reduceIte] at k1
                 rw [if_pos c35] at k1
                 exact k1 D OffC.rf)
    · refine ⟨rfl, ?_⟩
      refine x_if_ne (pc' := 19) rfl rfl (fun c16 => absurd (by decide) c16) (fun _ => ?_)
      refine x_int (pc' := 20) (v := (-1)) rfl rfl rfl ?_
      refine x_iret rfl rfl ?_
      simp (disch := first | assumption | omega) only [tellsQ, onN_1, onN_0, onP_1, onP_0, ↓reduceIte] at k1
      exact k1 D OffC.rf
  · refine ⟨rfl, ?_⟩
    refine x_if_eq (pc' := 11) rfl rfl (fun _ => ?_) (fun c8 => absurd (by decide) c8)
    refine x_int (pc' := 20) (v := (-1)) rfl rfl rfl ?_
    refine x_iret rfl rfl ?_
    simp (disch := first | assumption | omega) only [tellsQ, onN_1, onN_0, onP_1, onP_0, ↓reduceIte] at k1
    exact k1 D OffC.rf
set_option maxRecDepth 20000 in
set_option maxHeartbeats 1000000 in
theorem l_X10_unlikeOn {L : Nat → Nat → Int64} {Q : bh_Q} {d : Nat} (hd : 5 ≤ d) {T : TW} (hW : WF T) {D0 : Nat → Nat → Int32} {w u b : Nat} (hw : w < nw T) (hu : u < nw T) (hb : b < nb T) (k1 : ∀ D, OffL [212] D0 D → Q (some (.int (nI (unl T b w u)))) (hp D L)) : ∀ (f i : Nat) (D : Nat → Nat → Int32), i + f = lng T b → (OffL [212] D0 D) → (Rn T (D 206)) → bw m_X10_unlikeOn d Q 6 [.ref 205, .int (nI w), .int (nI u), .int (nI b), .int (nI (setF (fun q => !decide (toI (lnO T w b q) = toI (lnO T u b q))) i)), .int (nI i)] [] D L := by
  intro f
  induction f with
  | zero =>
    intro i D hf o hR
    have h8 := hW.lngl hb
    refine x_iload (pc' := 8) rfl rfl rfl ?_
    refine x_aload (pc' := 9) rfl rfl rfl ?_
    refine x_iload (pc' := 10) rfl rfl rfl ?_
    refine x_callV (pc' := 13) (d1 := 1) (Bs := [_]) rfl rfl rfl rfl rfl rfl rfl (Nat.le_of_ble_eq_true rfl) ⟨rfl, rfl⟩ (by decide) rfl (by omega) ?_
    refine w_X10_pagesOf hW hR hb ?_
    refine ⟨rfl, ?_⟩
    refine y_ic_ge (pc' := 16) rfl rfl (by omega) (by omega) (fun c13 => ?_) (fun c13 => ?_)
    · refine x_iload (pc' := 56) rfl rfl rfl ?_
      refine x_iret rfl rfl ?_
      obtain rfl : i = lng T b := by omega
      exact k1 D o
    · exact absurd c13 (by omega)
  | succ f ih =>
    intro i D hf o hR
    have h8 := hW.lngl hb
    refine x_iload (pc' := 8) rfl rfl rfl ?_
    refine x_aload (pc' := 9) rfl rfl rfl ?_
    refine x_iload (pc' := 10) rfl rfl rfl ?_
    refine x_callV (pc' := 13) (d1 := 1) (Bs := [_]) rfl rfl rfl rfl rfl rfl rfl (Nat.le_of_ble_eq_true rfl) ⟨rfl, rfl⟩ (by decide) rfl (by omega) ?_
    refine w_X10_pagesOf hW hR hb ?_
    refine ⟨rfl, ?_⟩
    refine y_ic_ge (pc' := 16) rfl rfl (by omega) (by omega) (fun c13 => ?_) (fun c13 => ?_)
    · exact absurd c13 (by omega)
    · refine x_iload (pc' := 18) rfl rfl rfl ?_
      refine x_aload (pc' := 19) rfl rfl rfl ?_
      refine x_iload (pc' := 20) rfl rfl rfl ?_
      refine x_iload (pc' := 21) rfl rfl rfl ?_
      refine x_iload (pc' := 23) rfl rfl rfl ?_
      refine x_callV (pc' := 26) (d1 := 5) (Bs := [_, _, _]) rfl rfl rfl rfl rfl rfl rfl (Nat.le_of_ble_eq_true rfl) ⟨rfl, rfl⟩ (by decide) rfl (by omega) ?_
      refine w_X10_lineOf hW hR hw hb (by omega) (fun D1 o1 => ?_)
      refine ⟨rfl, ?_⟩
      have hR1 := OffL212.rn o1 hR
      refine x_aload (pc' := 27) rfl rfl rfl ?_
      refine x_iload (pc' := 28) rfl rfl rfl ?_
      refine x_iload (pc' := 29) rfl rfl rfl ?_
      refine x_iload (pc' := 31) rfl rfl rfl ?_
      refine x_callV (pc' := 34) (d1 := 5) (Bs := [_, _, _]) rfl rfl rfl rfl rfl rfl rfl (Nat.le_of_ble_eq_true rfl) ⟨rfl, rfl⟩ (by decide) rfl (by omega) ?_
      refine w_X10_lineOf (D := D1) hW hR1 hu hb (by omega) (fun D2 o2 => ?_)
      refine ⟨rfl, ?_⟩
      have hR2 := OffL212.rn o2 hR1
      refine x_ic_eq (pc' := 37) rfl rfl (fun c34 => ?_) (fun c34 => ?_)
      · refine x_int (pc' := 45) (v := nI 0) rfl rfl rfl ?_
        refine y_ior (pc' := 46) rfl rfl ?_
        refine x_istore (pc' := 48) (lv' := [_, _, _, _, _, _]) rfl rfl (by decide) rfl ?_
        refine y_inc (pc' := 51) (lv' := [_, _, _, _, _, _]) rfl rfl rfl (by decide) rfl ?_
        refine x_goto rfl ?_
        first
          | (have e := setF_00 (f := (fun q => !decide (toI (lnO T w b q) = toI (lnO T u b q)))) (i := i) (by simp [c34])
             have hh := ih (i + 1) D2 (by omega) ((o.tr o1).tr o2) hR2
             rw [e] at hh
             exact hh)
          | (have e := setF_1 (f := (fun q => !decide (toI (lnO T w b q) = toI (lnO T u b q)))) (i := i) (by simp [c34])
             have hh := ih (i + 1) D2 (by omega) ((o.tr o1).tr o2) hR2
             rw [e] at hh
             exact hh)
      · refine x_int (pc' := 38) (v := nI 1) rfl rfl rfl ?_
        refine x_iload (pc' := 40) rfl rfl rfl ?_
        refine y_ishl (pc' := 41) rfl rfl (by omega) ?_
        refine x_goto rfl ?_
        refine y_ior (pc' := 46) rfl rfl ?_
        refine x_istore (pc' := 48) (lv' := [_, _, _, _, _, _]) rfl rfl (by decide) rfl ?_
        refine y_inc (pc' := 51) (lv' := [_, _, _, _, _, _]) rfl rfl rfl (by decide) rfl ?_
        refine x_goto rfl ?_
        first
          | (have e := setF_00 (f := (fun q => !decide (toI (lnO T w b q) = toI (lnO T u b q)))) (i := i) (by simp [c34])
             have hh := ih (i + 1) D2 (by omega) ((o.tr o1).tr o2) hR2
             rw [e] at hh
             exact hh)
          | (have e := setF_1 (f := (fun q => !decide (toI (lnO T w b q) = toI (lnO T u b q)))) (i := i) (by simp [c34])
             have hh := ih (i + 1) D2 (by omega) ((o.tr o1).tr o2) hR2
             rw [e] at hh
             exact hh)
set_option maxRecDepth 20000 in
set_option maxHeartbeats 1000000 in
theorem w_X10_unlikeOn {D : Nat → Nat → Int32} {L : Nat → Nat → Int64} {Q : bh_Q} {T : TW} (hW : WF T) (hR : Rn T (D 206)) {w u b : Nat} (hw : w < nw T) (hu : u < nw T) (hb : b < nb T) (k1 : ∀ D', OffL [212] D D' → Q (some (.int (nI (unl T b w u)))) (hp D' L)) : bh_wc 6 m_X10_unlikeOn [.ref 205, .int (nI w), .int (nI u), .int (nI b)] (hp D L) Q := by
  refine x_start (lv0 := [_, _, _, _, _, _]) (Nat.le_of_ble_eq_true rfl) rfl ?_
  refine x_int (pc' := 1) (v := nI 0) rfl rfl rfl ?_
  refine x_istore (pc' := 3) (lv' := [_, _, _, _, _, _]) rfl rfl (by decide) rfl ?_
  refine x_int (pc' := 4) (v := nI 0) rfl rfl rfl ?_
  refine x_istore (pc' := 6) (lv' := [_, _, _, _, _, _]) rfl rfl (by decide) rfl ?_
  exact l_X10_unlikeOn (d := 5) (Nat.le_refl _) hW hw hu hb k1 (lng T b) 0 D (Nat.zero_add _) OffL.rf hR
set_option maxRecDepth 20000 in
set_option maxHeartbeats 1000000 in
theorem l0_X10_laysApart {L : Nat → Nat → Int64} {Q : bh_Q} {d : Nat} (hd : 6 ≤ d) {T : TW} (hW : WF T) {D0 : Nat → Nat → Int32} {b s w : Nat} (hb : b < nb T) (hs : s < 2 ^ nw T) (hw : w < nw T) (kE : ∀ D, OffM D0 D → Rn T (D 206) → LsR (D 224) (apO T b s (w + 1)) → bw m_X10_laysApart d Q 68 [.ref 205, .int (nI b), .int (nI s), .int (nI (apO T b s (w + 1)).length), .int (nI w), .int (nI w)] [] D L) : ∀ (f i : Nat) (D : Nat → Nat → Int32), i + f = w → (OffM D0 D) → (Rn T (D 206)) → (LsR (D 224) (apO T b s w ++ apI T b s w i)) → bw m_X10_laysApart d Q 19 [.ref 205, .int (nI b), .int (nI s), .int (nI (apO T b s w ++ apI T b s w i).length), .int (nI w), .int (nI i)] [] D L := by
  intro f
  induction f with
  | zero =>
    intro i D hf o hR hL
    have h12 := hW.nwl
    have hpw := pw12 hW
    have hl1 := apO_le (T := T) (b := b) (s := s) w (by omega)
    have hl2 := apI_le (T := T) (b := b) (s := s) (w := w) i
    have hl3 : (apO T b s w ++ apI T b s w i).length ≤ 12 * w + i := by rw [List.length_append]; omega
    refine x_iload (pc' := 21) rfl rfl rfl ?_
    refine x_iload (pc' := 23) rfl rfl rfl ?_
    refine y_ic_ge (pc' := 26) rfl rfl (by omega) (by omega) (fun c23 => ?_) (fun c23 => ?_)
    · obtain rfl : i = w := by omega
      exact kE D o hR hL
    · exact absurd c23 (by omega)
  | succ f ih =>
    intro i D hf o hR hL
    have h12 := hW.nwl
    have hpw := pw12 hW
    have hl1 := apO_le (T := T) (b := b) (s := s) w (by omega)
    have hl2 := apI_le (T := T) (b := b) (s := s) (w := w) i
    have hl3 : (apO T b s w ++ apI T b s w i).length ≤ 12 * w + i := by rw [List.length_append]; omega
    refine x_iload (pc' := 21) rfl rfl rfl ?_
    refine x_iload (pc' := 23) rfl rfl rfl ?_
    refine y_ic_ge (pc' := 26) rfl rfl (by omega) (by omega) (fun c23 => ?_) (fun c23 => ?_)
    · exact absurd c23 (by omega)
    · refine x_iload (pc' := 27) rfl rfl rfl ?_
      refine x_iload (pc' := 29) rfl rfl rfl ?_
      refine x_callS (pc' := 32) (d1 := 1) (As := [_, _]) rfl rfl rfl rfl (by decide) rfl rfl (Nat.le_of_ble_eq_true rfl) ⟨rfl, rfl⟩ (by omega) ?_
      refine w_X10_has (by omega) (by omega) (fun hh1 => ?_) (fun hh1 => ?_)
      · refine ⟨rfl, ?_⟩
        refine x_if_eq (pc' := 35) rfl rfl (fun c32 => absurd c32 (by decide)) (fun _ => ?_)
        refine x_iload (pc' := 36) rfl rfl rfl ?_
        refine x_iload (pc' := 38) rfl rfl rfl ?_
        refine x_callS (pc' := 41) (d1 := 1) (As := [_, _]) rfl rfl rfl rfl (by decide) rfl rfl (Nat.le_of_ble_eq_true rfl) ⟨rfl, rfl⟩ (by omega) ?_
        refine w_X10_has (by omega) (by omega) (fun hh2 => ?_) (fun hh2 => ?_)
        · refine ⟨rfl, ?_⟩
          refine x_if_eq (pc' := 44) rfl rfl (fun c41 => absurd c41 (by decide)) (fun _ => ?_)
          refine x_aload (pc' := 45) rfl rfl rfl ?_
          refine x_getR (pc' := 48) rfl rfl rfl (by decide) rfl (by decide) rfl rfl ?_
          refine x_iload (pc' := 49) rfl rfl rfl ?_
          refine x_aload (pc' := 50) rfl rfl rfl ?_
          refine x_iload (pc' := 52) rfl rfl rfl ?_
          refine x_iload (pc' := 54) rfl rfl rfl ?_
          refine x_iload (pc' := 55) rfl rfl rfl ?_
          refine x_callV (pc' := 58) (d1 := 6) (Bs := [_, _, _]) rfl rfl rfl rfl rfl rfl rfl (Nat.le_of_ble_eq_true rfl) ⟨rfl, rfl⟩ (by decide) rfl (by omega) ?_
          refine w_X10_unlikeOn hW hR (by omega) (by omega) hb (fun D1 o1 => ?_)
          refine ⟨rfl, ?_⟩
          have hR1 := OffL212.rn o1 hR
          have oc1 := o.tr (OffL.m o1 (by decide))
          have hL1 : LsR (D1 224) (apO T b s w ++ apI T b s w i) := by rw [o1 224 (by decide)]; exact hL
          refine x_iast (pc' := 59) rfl rfl (by decide) rfl (by decide) (show _ < 144 by omega) ?_
          refine y_inc (pc' := 62) (lv' := [_, _, _, _, _, _]) rfl rfl rfl (by decide) rfl ?_
          refine y_inc (pc' := 65) (lv' := [_, _, _, _, _, _]) rfl rfl rfl (by decide) rfl ?_
          refine x_goto rfl ?_
          first
            | (have e : apO T b s w ++ apI T b s w (i + 1) = (apO T b s w ++ apI T b s w i) ++ [unl T b w i] := by rw [apI_1 hh1 hh2, List.append_assoc]
               have hh := ih (i + 1) (bh_up2 D1 224 (apO T b s w ++ apI T b s w i).length (nI (unl T b w i))) (by omega) (oc1.tr (OffM.up (by decide) (by decide))) ((OffM.up (by decide) (by decide)).rn hR1) (by rw [e, bh_up2_k]; exact hL1.app)
               rw [e, List.length_append] at hh
               exact hh)
            | (have e := apI_0 (T := T) (b := b) (s := s) (w := w) (m := i) (fun z => by rw [hh1] at z; exact absurd z.1 (by decide))
               have hh := ih (i + 1) D (by omega) o hR (by rw [e]; exact hL)
               rw [e] at hh
               exact hh)
            | (have e := apI_0 (T := T) (b := b) (s := s) (w := w) (m := i) (fun z => by rw [hh2] at z; exact absurd z.2 (by decide))
               have hh := ih (i + 1) D (by omega) o hR (by rw [e]; exact hL)
               rw [e] at hh
               exact hh)
        · refine ⟨rfl, ?_⟩
          refine x_if_eq (pc' := 44) rfl rfl (fun _ => ?_) (fun c41 => absurd (by decide) c41)
          refine y_inc (pc' := 65) (lv' := [_, _, _, _, _, _]) rfl rfl rfl (by decide) rfl ?_
          refine x_goto rfl ?_
          first
            | (have e : apO T b s w ++ apI T b s w (i + 1) = (apO T b s w ++ apI T b s w i) ++ [unl T b w i] := by rw [apI_1 hh1 hh2, List.append_assoc]
               have hh := ih (i + 1) (bh_up2 D1 224 (apO T b s w ++ apI T b s w i).length (nI (unl T b w i))) (by omega) (oc1.tr (OffM.up (by decide) (by decide))) ((OffM.up (by decide) (by decide)).rn hR1) (by rw [e, bh_up2_k]; exact hL1.app)
               rw [e, List.length_append] at hh
               exact hh)
            | (have e := apI_0 (T := T) (b := b) (s := s) (w := w) (m := i) (fun z => by rw [hh1] at z; exact absurd z.1 (by decide))
               have hh := ih (i + 1) D (by omega) o hR (by rw [e]; exact hL)
               rw [e] at hh
               exact hh)
            | (have e := apI_0 (T := T) (b := b) (s := s) (w := w) (m := i) (fun z => by rw [hh2] at z; exact absurd z.2 (by decide))
               have hh := ih (i + 1) D (by omega) o hR (by rw [e]; exact hL)
               rw [e] at hh
               exact hh)
      · refine ⟨rfl, ?_⟩
        refine x_if_eq (pc' := 35) rfl rfl (fun _ => ?_) (fun c32 => absurd (by decide) c32)
        refine y_inc (pc' := 65) (lv' := [_, _, _, _, _, _]) rfl rfl rfl (by decide) rfl ?_
        refine x_goto rfl ?_
        first
          | (have e : apO T b s w ++ apI T b s w (i + 1) = (apO T b s w ++ apI T b s w i) ++ [unl T b w i] := by rw [apI_1 hh1 hh2, List.append_assoc]
             have hh := ih (i + 1) (bh_up2 D1 224 (apO T b s w ++ apI T b s w i).length (nI (unl T b w i))) (by omega) (oc1.tr (OffM.up (by decide) (by decide))) ((OffM.up (by decide) (by decide)).rn hR1) (by rw [e, bh_up2_k]; exact hL1.app)
             rw [e, List.length_append] at hh
             exact hh)
          | (have e := apI_0 (T := T) (b := b) (s := s) (w := w) (m := i) (fun z => by rw [hh1] at z; exact absurd z.1 (by decide))
             have hh := ih (i + 1) D (by omega) o hR (by rw [e]; exact hL)
             rw [e] at hh
             exact hh)
          | (have e := apI_0 (T := T) (b := b) (s := s) (w := w) (m := i) (fun z => by rw [hh2] at z; exact absurd z.2 (by decide))
             have hh := ih (i + 1) D (by omega) o hR (by rw [e]; exact hL)
             rw [e] at hh
             exact hh)
set_option maxRecDepth 20000 in
set_option maxHeartbeats 1000000 in
theorem l1_X10_laysApart {L : Nat → Nat → Int64} {Q : bh_Q} {d : Nat} (hd : 6 ≤ d) {T : TW} (hW : WF T) {D0 : Nat → Nat → Int32} {b s : Nat} (hb : b < nb T) (hs : s < 2 ^ nw T) (kE : ∀ D', OffM D0 D' → LsR (D' 224) (apO T b s (nw T)) → Q (some (.int (nI (apO T b s (nw T)).length))) (hp D' L)) : ∀ (f i : Nat) (D : Nat → Nat → Int32) (a5 : Value), i + f = nw T → (OffM D0 D) → (Rn T (D 206)) → (LsR (D 224) (apO T b s i)) → bw m_X10_laysApart d Q 5 [.ref 205, .int (nI b), .int (nI s), .int (nI (apO T b s i).length), .int (nI i), a5] [] D L := by
  intro f
  induction f with
  | zero =>
    intro i D a5 hf o hR hL
    have h12 := hW.nwl
    refine x_iload (pc' := 7) rfl rfl rfl ?_
    refine x_aload (pc' := 8) rfl rfl rfl ?_
    refine x_getR (pc' := 11) rfl rfl rfl (by decide) rfl (by decide) rfl rfl ?_
    refine x_int (pc' := 12) (v := nI 0) rfl rfl rfl ?_
    refine x_iald (pc' := 13) rfl rfl (by decide) rfl (by decide) (show _ < 560 by omega) ?_
    refine x_top (hR.1.1.trans hW.enw) ?_
    refine y_ic_ge (pc' := 16) rfl rfl (by omega) (by omega) (fun c13 => ?_) (fun c13 => ?_)
    · refine x_iload (pc' := 75) rfl rfl rfl ?_
      refine x_iret rfl rfl ?_
      obtain rfl : i = nw T := by omega
      exact kE D o hL
    · exact absurd c13 (by omega)
  | succ f ih =>
    intro i D a5 hf o hR hL
    have h12 := hW.nwl
    refine x_iload (pc' := 7) rfl rfl rfl ?_
    refine x_aload (pc' := 8) rfl rfl rfl ?_
    refine x_getR (pc' := 11) rfl rfl rfl (by decide) rfl (by decide) rfl rfl ?_
    refine x_int (pc' := 12) (v := nI 0) rfl rfl rfl ?_
    refine x_iald (pc' := 13) rfl rfl (by decide) rfl (by decide) (show _ < 560 by omega) ?_
    refine x_top (hR.1.1.trans hW.enw) ?_
    refine y_ic_ge (pc' := 16) rfl rfl (by omega) (by omega) (fun c13 => ?_) (fun c13 => ?_)
    · exact absurd c13 (by omega)
    · refine x_int (pc' := 17) (v := nI 0) rfl rfl rfl ?_
      refine x_istore (pc' := 19) (lv' := [_, _, _, _, _, _]) rfl rfl (by decide) rfl ?_
      have hh := l0_X10_laysApart (L := L) (Q := Q) (d := d) hd hW (D0 := D0) hb hs (w := i) (by omega) (fun D2 o2 r2 L2 => ?kk) i 0 D (Nat.zero_add _) o hR (by show LsR (D 224) (apO T b s i ++ []); rw [List.append_nil]; exact hL)
      case kk =>
        refine y_inc (pc' := 71) (lv' := [_, _, _, _, _, _]) rfl rfl rfl (by decide) rfl ?_
        refine x_goto rfl ?_
        exact ih (i + 1) D2 _ (by omega) o2 r2 L2
      rw [show apO T b s i ++ apI T b s i 0 = apO T b s i from List.append_nil _] at hh
      exact hh
set_option maxRecDepth 20000 in
set_option maxHeartbeats 1000000 in
theorem w_X10_laysApart {D : Nat → Nat → Int32} {L : Nat → Nat → Int64} {Q : bh_Q} {T : TW} (hW : WF T) (hR : Rn T (D 206)) {b s : Nat} (hb : b < nb T) (hs : s < 2 ^ nw T) (k1 : ∀ D', OffM D D' → LsR (D' 224) (apO T b s (nw T)) → Q (some (.int (nI (apO T b s (nw T)).length))) (hp D' L)) : bh_wc 7 m_X10_laysApart [.ref 205, .int (nI b), .int (nI s)] (hp D L) Q := by
  refine x_start (lv0 := [_, _, _, _, _, _]) (Nat.le_of_ble_eq_true rfl) rfl ?_
  refine x_int (pc' := 1) (v := nI 0) rfl rfl rfl ?_
  refine x_istore (pc' := 2) (lv' := [_, _, _, _, _, _]) rfl rfl (by decide) rfl ?_
  refine x_int (pc' := 3) (v := nI 0) rfl rfl rfl ?_
  refine x_istore (pc' := 5) (lv' := [_, _, _, _, _, _]) rfl rfl (by decide) rfl ?_
  exact l1_X10_laysApart (d := 6) (Nat.le_refl _) hW (D0 := D) hb hs k1 (nw T) 0 D .null (Nat.zero_add _) OffM.rf hR (fun j hj => absurd hj (Nat.not_lt_zero j))
def bB (r : Nat) : Int32 := if r = 0 then -2 else nI r
theorem bB_1 {r : Nat} (h : ¬ r = 0) : bB r = nI r := if_neg h
theorem bB_0 {r : Nat} (h : r = 0) : bB r = -2 := if_pos h
theorem bB_iff {r : Nat} (hr : r < 65536) : bB r = -2 ↔ r = 0 := by
  by_cases h : r = 0
  · rw [bB_0 h]; exact ⟨fun _ => h, fun _ => rfl⟩
  · rw [bB_1 h]; exact ⟨fun e => absurd e (nI_m2 (by omega)), fun e => absurd e h⟩
def isY (x : Nat) (c : Bool) : Nat := if x = 0 then 0 else if c then 1 else 0
set_option maxRecDepth 20000 in
set_option maxHeartbeats 1000000 in
theorem l0_X10_tells {D : Nat → Nat → Int32} {L : Nat → Nat → Int64} {Q : bh_Q} {d : Nat} {l : List Nat} (hL : LsR (D 224) l) (hl : l.length ≤ 144) (hx : ∀ x ∈ l, x < 256) {g b : Nat} {x2 x3 x5 : Int32} : ∀ (r : List Nat) (i x : Nat), l.drop i = r → i ≤ l.length → x < 2 → bw m_X10_tells d Q 107 [.ref 205, .int (nI b), .int x2, .int x3, .int (nI l.length), .int x5, .int (nI g), .int (nI (isY x (allA r g))), .int (nI l.length)] [] D L → bw m_X10_tells d Q 69 [.ref 205, .int (nI b), .int x2, .int x3, .int (nI l.length), .int x5, .int (nI g), .int (nI x), .int (nI i)] [] D L := by
  intro r
  induction r with
  | nil =>
    intro i x hd hi hx2 kE
    have hx0 := drop_nil hd
    refine x_iload (pc' := 71) rfl rfl rfl ?_
    refine x_iload (pc' := 73) rfl rfl rfl ?_
    refine y_ic_ge (pc' := 76) rfl rfl (by omega) (by omega) (fun c73 => ?_) (fun c73 => ?_)
    · have e : i = l.length := by omega
      subst e
      have ey : isY x (allA [] g) = x := by unfold isY; split; omega; show 1 = x; omega
      rw [ey] at kE
      exact kE
    · exact absurd c73 (by omega)
  | cons y r ih =>
    intro i x hd hi hx3 kE
    obtain ⟨hx0, hx1, hx2, hx4⟩ := drop_cons hd
    have hx5 : y < 256 := by rw [← hx1]; exact hx _ (getD_mem hx0)
    refine x_iload (pc' := 71) rfl rfl rfl ?_
    refine x_iload (pc' := 73) rfl rfl rfl ?_
    refine y_ic_ge (pc' := 76) rfl rfl (by first | omega | (have := Nat.and_le_left (n := y) (m := g); omega)) (by first | omega | (have := Nat.and_le_left (n := y) (m := g); omega)) (fun c73 => ?_) (fun c73 => ?_)
    · exact absurd c73 (by omega)
    · refine x_iload (pc' := 78) rfl rfl rfl ?_
      refine y_if_eq (pc' := 81) rfl rfl (by first | omega | (have := Nat.and_le_left (n := y) (m := g); omega)) (fun c78 => ?_) (fun c78 => ?_)
      · refine x_int (pc' := 99) (v := nI 0) rfl rfl rfl ?_
        refine x_istore (pc' := 101) (lv' := [_, _, _, _, _, _, _, _, _]) rfl rfl (by decide) rfl ?_
        refine y_inc (pc' := 104) (lv' := [_, _, _, _, _, _, _, _, _]) rfl rfl rfl (by decide) rfl ?_
        refine x_goto rfl ?_
        have ea : allA (y :: r) g = (!decide (y &&& g = 0) && allA r g) := rfl
        first
          | (subst c78; refine ih (i + 1) 0 hx2 (by omega) (by decide) ?_; rw [ea] at kE; exact kE)
          | (rw [ea, decide_eq_true c91] at kE; refine ih (i + 1) 0 hx2 (by omega) (by decide) ?_; unfold isY at kE ⊢; rw [if_neg c78] at kE; exact kE)
          | (rw [ea, decide_eq_false c91] at kE; refine ih (i + 1) 1 hx2 (by omega) (by decide) ?_; unfold isY at kE ⊢; rw [if_neg c78] at kE; exact kE)
      · refine x_aload (pc' := 82) rfl rfl rfl ?_
        refine x_getR (pc' := 85) rfl rfl rfl (by decide) rfl (by decide) rfl rfl ?_
        refine x_iload (pc' := 87) rfl rfl rfl ?_
        refine x_iald (pc' := 88) rfl rfl (by decide) rfl (by decide) (show _ < 144 by omega) ?_
        refine x_top ((hL i hx0).trans (congrArg nI hx1)) ?_
        refine x_iload (pc' := 90) rfl rfl rfl ?_
        refine y_iand (pc' := 91) rfl rfl ?_
        refine y_if_eq (pc' := 94) rfl rfl (by first | omega | (have := Nat.and_le_left (n := y) (m := g); omega)) (fun c91 => ?_) (fun c91 => ?_)
        · refine x_int (pc' := 99) (v := nI 0) rfl rfl rfl ?_
          refine x_istore (pc' := 101) (lv' := [_, _, _, _, _, _, _, _, _]) rfl rfl (by decide) rfl ?_
          refine y_inc (pc' := 104) (lv' := [_, _, _, _, _, _, _, _, _]) rfl rfl rfl (by decide) rfl ?_
          refine x_goto rfl ?_
          have ea : allA (y :: r) g = (!decide (y &&& g = 0) && allA r g) := rfl
          first
            | (subst c78; refine ih (i + 1) 0 hx2 (by omega) (by decide) ?_; rw [ea] at kE; exact kE)
            | (rw [ea, decide_eq_true c91] at kE; refine ih (i + 1) 0 hx2 (by omega) (by decide) ?_; unfold isY at kE ⊢; rw [if_neg c78] at kE; exact kE)
            | (rw [ea, decide_eq_false c91] at kE; refine ih (i + 1) 1 hx2 (by omega) (by decide) ?_; unfold isY at kE ⊢; rw [if_neg c78] at kE; exact kE)
        · refine x_int (pc' := 95) (v := nI 1) rfl rfl rfl ?_
          refine x_goto rfl ?_
          refine x_istore (pc' := 101) (lv' := [_, _, _, _, _, _, _, _, _]) rfl rfl (by decide) rfl ?_
          refine y_inc (pc' := 104) (lv' := [_, _, _, _, _, _, _, _, _]) rfl rfl rfl (by decide) rfl ?_
          refine x_goto rfl ?_
          have ea : allA (y :: r) g = (!decide (y &&& g = 0) && allA r g) := rfl
          first
            | (subst c78; refine ih (i + 1) 0 hx2 (by omega) (by decide) ?_; rw [ea] at kE; exact kE)
            | (rw [ea, decide_eq_true c91] at kE; refine ih (i + 1) 0 hx2 (by omega) (by decide) ?_; unfold isY at kE ⊢; rw [if_neg c78] at kE; exact kE)
            | (rw [ea, decide_eq_false c91] at kE; refine ih (i + 1) 1 hx2 (by omega) (by decide) ?_; unfold isY at kE ⊢; rw [if_neg c78] at kE; exact kE)
set_option maxRecDepth 20000 in
set_option maxHeartbeats 1000000 in
theorem l1_X10_tells {L : Nat → Nat → Int64} {Q : bh_Q} {d : Nat} (hd : 2 ≤ d) {T : TW} (hW : WF T) {D0 : Nat → Nat → Int32} {b s : Nat} {x2 x3 : Int32} (hb : b < nb T) (hR : Rn T (D0 206)) (hL : LsR (D0 224) (apO T b s (nw T))) (k1 : ∀ v6 a7 a8, bw m_X10_tells d Q 142 [.ref 205, .int (nI b), .int x2, .int x3, .int (nI (apO T b s (nw T)).length), .int (bB (bstF (allA (apO T b s (nw T))) (2 ^ lng T b - 1))), .int v6, a7, a8] [] D0 L) : ∀ (f i : Nat) (D : Nat → Nat → Int32) (a7 : Value) (a8 : Value), i + f = 2 ^ lng T b - 1 → (D0 = D) → bw m_X10_tells d Q 51 [.ref 205, .int (nI b), .int x2, .int x3, .int (nI (apO T b s (nw T)).length), .int (bB (bstF (allA (apO T b s (nw T))) i)), .int (nI (i + 1)), a7, a8] [] D L := by
  intro f
  induction f with
  | zero =>
    intro i D a7 a8 hf hD
    subst hD
    have h12 := hW.nwl
    have h8 := hW.lngl hb
    have hp8 := pw8 hW hb
    have hp0 := Nat.two_pow_pos (lng T b)
    have hsl : 1 <<< lng T b = 2 ^ lng T b := Nat.one_shiftLeft _
    have hbl := bstF_le (A := (allA (apO T b s (nw T)))) i
    have hp1 := pcn_le (i + 1)
    have hp2 := pcn_le (bstF (allA (apO T b s (nw T))) i)
    have hal := apO_le (T := T) (b := b) (s := s) (nw T) h12
    refine x_iload (pc' := 53) rfl rfl rfl ?_
    refine x_int (pc' := 54) (v := nI 1) rfl rfl rfl ?_
    refine x_aload (pc' := 55) rfl rfl rfl ?_
    refine x_iload (pc' := 56) rfl rfl rfl ?_
    refine x_callV (pc' := 59) (d1 := 1) (Bs := [_]) rfl rfl rfl rfl rfl rfl rfl (Nat.le_of_ble_eq_true rfl) ⟨rfl, rfl⟩ (by decide) rfl (by omega) ?_
    refine w_X10_pagesOf hW hR hb ?_
    refine ⟨rfl, ?_⟩
    refine y_ishl (pc' := 60) rfl rfl (by omega) ?_
    refine y_ic_ge (pc' := 63) rfl rfl (by omega) (by omega) (fun c60 => ?_) (fun c60 => ?_)
    · obtain rfl : i = 2 ^ lng T b - 1 := by omega
      exact k1 _ _ _
    · exact absurd c60 (by omega)
  | succ f ih =>
    intro i D a7 a8 hf hD
    subst hD
    have h12 := hW.nwl
    have h8 := hW.lngl hb
    have hp8 := pw8 hW hb
    have hp0 := Nat.two_pow_pos (lng T b)
    have hsl : 1 <<< lng T b = 2 ^ lng T b := Nat.one_shiftLeft _
    have hbl := bstF_le (A := (allA (apO T b s (nw T)))) i
    have hp1 := pcn_le (i + 1)
    have hp2 := pcn_le (bstF (allA (apO T b s (nw T))) i)
    have hal := apO_le (T := T) (b := b) (s := s) (nw T) h12
    refine x_iload (pc' := 53) rfl rfl rfl ?_
    refine x_int (pc' := 54) (v := nI 1) rfl rfl rfl ?_
    refine x_aload (pc' := 55) rfl rfl rfl ?_
    refine x_iload (pc' := 56) rfl rfl rfl ?_
    refine x_callV (pc' := 59) (d1 := 1) (Bs := [_]) rfl rfl rfl rfl rfl rfl rfl (Nat.le_of_ble_eq_true rfl) ⟨rfl, rfl⟩ (by decide) rfl (by omega) ?_
    refine w_X10_pagesOf hW hR hb ?_
    refine ⟨rfl, ?_⟩
    refine y_ishl (pc' := 60) rfl rfl (by omega) ?_
    refine y_ic_ge (pc' := 63) rfl rfl (by omega) (by omega) (fun c60 => ?_) (fun c60 => ?_)
    · exact absurd c60 (by omega)
    · refine x_int (pc' := 64) (v := nI 1) rfl rfl rfl ?_
      refine x_istore (pc' := 66) (lv' := [_, _, _, _, _, _, _, _, _]) rfl rfl (by decide) rfl ?_
      refine x_int (pc' := 67) (v := nI 0) rfl rfl rfl ?_
      refine x_istore (pc' := 69) (lv' := [_, _, _, _, _, _, _, _, _]) rfl rfl (by decide) rfl ?_
      refine l0_X10_tells hL (by omega) (ap_mem hW hb) (apO T b s (nw T)) 0 1 rfl (Nat.zero_le _) (by decide) ?_
      refine x_iload (pc' := 109) rfl rfl rfl ?_
      refine y_if_eq (pc' := 112) rfl rfl (by first | omega | (unfold isY; split <;> first | omega | (split <;> omega))) (fun c109 => ?_) (fun c109 => ?_)
      · have hA : allA (apO T b s (nw T)) (i + 1) = false := by cases hz : allA (apO T b s (nw T)) (i + 1) with
          | false => rfl
          | true => rw [hz] at c109; exact absurd c109 (by decide)
        refine y_inc (pc' := 139) (lv' := [_, _, _, _, _, _, _, _, _]) rfl rfl rfl (by decide) rfl ?_
        refine x_goto rfl ?_
        first
          | (have e := bst_1 (A := (allA (apO T b s (nw T)))) (n := i) hA (Or.inl ((bB_iff (by omega)).mp c116))
             have hh := fun z1 z2 => ih (i + 1) D0 z1 z2 (by omega) rfl
             rw [e, bB_1 (Nat.succ_ne_zero i)] at hh
             exact hh _ _)
          | (have e := bst_1 (A := (allA (apO T b s (nw T)))) (n := i) hA (Or.inr c129)
             have hh := fun z1 z2 => ih (i + 1) D0 z1 z2 (by omega) rfl
             rw [e, bB_1 (Nat.succ_ne_zero i)] at hh
             exact hh _ _)
          | (have e := bst_b (A := (allA (apO T b s (nw T)))) (n := i) hr0 c129
             have hh := fun z1 z2 => ih (i + 1) D0 z1 z2 (by omega) rfl
             rw [e, bB_1 hr0] at hh
             exact hh _ _)
          | (have e := bst_a (A := (allA (apO T b s (nw T)))) (n := i) hA
             have hh := fun z1 z2 => ih (i + 1) D0 z1 z2 (by omega) rfl
             rw [e] at hh
             exact hh _ _)
      · have hA : allA (apO T b s (nw T)) (i + 1) = true := by cases hz : allA (apO T b s (nw T)) (i + 1) with
          | true => rfl
          | false => rw [hz] at c109; exact absurd rfl c109
        refine x_iload (pc' := 114) rfl rfl rfl ?_
        refine x_int (pc' := 116) (v := (-2)) rfl rfl rfl ?_
        refine x_ic_eq (pc' := 119) rfl rfl (fun c116 => ?_) (fun c116 => ?_)
        · refine x_iload (pc' := 134) rfl rfl rfl ?_
          refine x_istore (pc' := 136) (lv' := [_, _, _, _, _, _, _, _, _]) rfl rfl (by decide) rfl ?_
          refine y_inc (pc' := 139) (lv' := [_, _, _, _, _, _, _, _, _]) rfl rfl rfl (by decide) rfl ?_
          refine x_goto rfl ?_
          first
            | (have e := bst_1 (A := (allA (apO T b s (nw T)))) (n := i) hA (Or.inl ((bB_iff (by omega)).mp c116))
               have hh := fun z1 z2 => ih (i + 1) D0 z1 z2 (by omega) rfl
               rw [e, bB_1 (Nat.succ_ne_zero i)] at hh
               exact hh _ _)
            | (have e := bst_1 (A := (allA (apO T b s (nw T)))) (n := i) hA (Or.inr c129)
               have hh := fun z1 z2 => ih (i + 1) D0 z1 z2 (by omega) rfl
               rw [e, bB_1 (Nat.succ_ne_zero i)] at hh
               exact hh _ _)
            | (have e := bst_b (A := (allA (apO T b s (nw T)))) (n := i) hr0 c129
               have hh := fun z1 z2 => ih (i + 1) D0 z1 z2 (by omega) rfl
               rw [e, bB_1 hr0] at hh
               exact hh _ _)
            | (have e := bst_a (A := (allA (apO T b s (nw T)))) (n := i) hA
               have hh := fun z1 z2 => ih (i + 1) D0 z1 z2 (by omega) rfl
               rw [e] at hh
               exact hh _ _)
        · have hr0 : ¬ bstF (allA (apO T b s (nw T))) i = 0 := fun z => c116 (bB_0 z)
          rw [bB_1 hr0]
          refine x_iload (pc' := 121) rfl rfl rfl ?_
          refine x_callS (pc' := 124) (d1 := 1) (As := [_]) rfl rfl rfl rfl (by decide) rfl rfl (Nat.le_of_ble_eq_true rfl) ⟨rfl, rfl⟩ (by omega) ?_
          refine w_bitCount (by omega) ?_
          refine ⟨rfl, ?_⟩
          refine x_iload (pc' := 126) rfl rfl rfl ?_
          refine x_callS (pc' := 129) (d1 := 1) (As := [_]) rfl rfl rfl rfl (by decide) rfl rfl (Nat.le_of_ble_eq_true rfl) ⟨rfl, rfl⟩ (by omega) ?_
          refine w_bitCount (by omega) ?_
          refine ⟨rfl, ?_⟩
          refine y_ic_ge (pc' := 132) rfl rfl (by first | omega | (unfold isY; split <;> first | omega | (split <;> omega))) (by first | omega | (unfold isY; split <;> first | omega | (split <;> omega))) (fun c129 => ?_) (fun c129 => ?_)
          · refine y_inc (pc' := 139) (lv' := [_, _, _, _, _, _, _, _, _]) rfl rfl rfl (by decide) rfl ?_
            refine x_goto rfl ?_
            first
              | (have e := bst_1 (A := (allA (apO T b s (nw T)))) (n := i) hA (Or.inl ((bB_iff (by omega)).mp c116))
                 have hh := fun z1 z2 => ih (i + 1) D0 z1 z2 (by omega) rfl
                 rw [e, bB_1 (Nat.succ_ne_zero i)] at hh
                 exact hh _ _)
              | (have e := bst_1 (A := (allA (apO T b s (nw T)))) (n := i) hA (Or.inr c129)
                 have hh := fun z1 z2 => ih (i + 1) D0 z1 z2 (by omega) rfl
                 rw [e, bB_1 (Nat.succ_ne_zero i)] at hh
                 exact hh _ _)
              | (have e := bst_b (A := (allA (apO T b s (nw T)))) (n := i) hr0 c129
                 have hh := fun z1 z2 => ih (i + 1) D0 z1 z2 (by omega) rfl
                 rw [e, bB_1 hr0] at hh
                 exact hh _ _)
              | (have e := bst_a (A := (allA (apO T b s (nw T)))) (n := i) hA
                 have hh := fun z1 z2 => ih (i + 1) D0 z1 z2 (by omega) rfl
                 rw [e] at hh
                 exact hh _ _)
          · refine x_iload (pc' := 134) rfl rfl rfl ?_
            refine x_istore (pc' := 136) (lv' := [_, _, _, _, _, _, _, _, _]) rfl rfl (by decide) rfl ?_
            refine y_inc (pc' := 139) (lv' := [_, _, _, _, _, _, _, _, _]) rfl rfl rfl (by decide) rfl ?_
            refine x_goto rfl ?_
            first
              | (have e := bst_1 (A := (allA (apO T b s (nw T)))) (n := i) hA (Or.inl ((bB_iff (by omega)).mp c116))
                 have hh := fun z1 z2 => ih (i + 1) D0 z1 z2 (by omega) rfl
                 rw [e, bB_1 (Nat.succ_ne_zero i)] at hh
                 exact hh _ _)
              | (have e := bst_1 (A := (allA (apO T b s (nw T)))) (n := i) hA (Or.inr c129)
                 have hh := fun z1 z2 => ih (i + 1) D0 z1 z2 (by omega) rfl
                 rw [e, bB_1 (Nat.succ_ne_zero i)] at hh
                 exact hh _ _)
              | (have e := bst_b (A := (allA (apO T b s (nw T)))) (n := i) hr0 c129
                 have hh := fun z1 z2 => ih (i + 1) D0 z1 z2 (by omega) rfl
                 rw [e, bB_1 hr0] at hh
                 exact hh _ _)
              | (have e := bst_a (A := (allA (apO T b s (nw T)))) (n := i) hA
                 have hh := fun z1 z2 => ih (i + 1) D0 z1 z2 (by omega) rfl
                 rw [e] at hh
                 exact hh _ _)
set_option maxRecDepth 20000 in
set_option maxHeartbeats 1000000 in
theorem w_X10_tells {D : Nat → Nat → Int32} {L : Nat → Nat → Int64} {Q : bh_Q} {T : TW} (hW : WF T) (hR : Rn T (D 206)) {y s v : Int32} (k1 : ∀ D1, OffM D D1 → Q (some (.int (tellsQ T y s v))) (hp D1 L)) : bh_wc 8 m_X10_tells [.ref 205, .int y, .int s, .int v] (hp D L) Q := by
  refine x_start (lv0 := [_, _, _, _, _, _, _, _, _]) (Nat.le_of_ble_eq_true rfl) rfl ?_
  have h12 := hW.nwl
  have h4 := hW.nbl
  have hpw := pw12 hW
  refine x_aload (pc' := 1) rfl rfl rfl ?_
  refine x_iload (pc' := 2) rfl rfl rfl ?_
  refine x_callV (pc' := 5) (d1 := 2) (Bs := [_]) rfl rfl rfl rfl rfl rfl rfl (Nat.le_of_ble_eq_true rfl) ⟨rfl, rfl⟩ (by decide) rfl (by decide) ?_
  refine w_X10_isBook hW hR (fun b hb e => ?_) (fun h2 => ?_)
  · subst e
    refine ⟨rfl, ?_⟩
    refine x_if_eq (pc' := 8) rfl rfl (fun c5 => absurd c5 (by decide)) (fun _ => ?_)
    refine x_aload (pc' := 9) rfl rfl rfl ?_
    refine x_iload (pc' := 10) rfl rfl rfl ?_
    refine x_callV (pc' := 13) (d1 := 2) (Bs := [_]) rfl rfl rfl rfl rfl rfl rfl (Nat.le_of_ble_eq_true rfl) ⟨rfl, rfl⟩ (by decide) rfl (by decide) ?_
    refine w_X10_isSet hW hR (fun s hs e => ?_) (fun hs => ?_)
    · subst e
      refine ⟨rfl, ?_⟩
      refine x_if_eq (pc' := 16) rfl rfl (fun c13 => absurd c13 (by decide)) (fun _ => ?_)
      refine x_iload (pc' := 17) rfl rfl rfl ?_
      refine x_callS (pc' := 20) (d1 := 1) (As := [_]) rfl rfl rfl rfl (by decide) rfl rfl (Nat.le_of_ble_eq_true rfl) ⟨rfl, rfl⟩ (by decide) ?_
      refine w_bitCount (by omega) ?_
      refine ⟨rfl, ?_⟩
      have hp1 := pcn_le s
      refine x_int (pc' := 21) (v := nI 2) rfl rfl rfl ?_
      refine y_ic_lt (pc' := 24) rfl rfl (by omega) (by omega) (fun c21 => ?_) (fun c21 => ?_)
      · refine x_int (pc' := 35) (v := (-1)) rfl rfl rfl ?_
        refine x_iret rfl rfl ?_
        first
          | (simp (disch := first | assumption | omega) only [tellsQ, onN_1, onN_0, onP_1, onP_0, ↓reduceIte] at k1
             exact k1 D OffM.rf)
          | (have e : tellsQ T (nI b) (nI s) v = -1 := by
               unfold tellsQ
               rw [onN_1 hb (by omega), onN_1 hs (by omega)]
               unfold onN
               split
               · exact if_pos c21
               · rfl
             rw [e] at k1
             exact k1 D OffM.rf)
      · refine x_iload (pc' := 25) rfl rfl rfl ?_
        refine x_i2l (pc' := 26) rfl rfl ?_
        refine x_long (pc' := 27) (v := (nI 0).toInt64) rfl rfl (by decide) ?_
        refine x_long (pc' := 28) (v := (nI 1).toInt64) rfl rfl (by decide) ?_
        refine x_callS (pc' := 31) (d1 := 1) (As := [_, _, _]) rfl rfl rfl rfl (by decide) rfl rfl (Nat.le_of_ble_eq_true rfl) ⟨rfl, rfl⟩ (by decide) ?_
        refine w_X10_in (fun h28a h28b => ?_) (fun h28 => ?_)
        · obtain ⟨h28w, h28l, rfl⟩ := in_okL (n := 1) (by decide) h28a h28b
          refine ⟨rfl, ?_⟩
          refine x_if_ne (pc' := 34) rfl rfl (fun _ => ?_) (fun c31 => absurd c31 (by decide))
          refine x_aload (pc' := 37) rfl rfl rfl ?_
          refine x_iload (pc' := 38) rfl rfl rfl ?_
          refine x_iload (pc' := 39) rfl rfl rfl ?_
          refine x_callV (pc' := 42) (d1 := 7) (Bs := [_, _]) rfl rfl rfl rfl rfl rfl rfl (Nat.le_of_ble_eq_true rfl) ⟨rfl, rfl⟩ (by decide) rfl (by decide) ?_
          refine w_X10_laysApart hW hR hb hs (fun D1 o1 hL => ?_)
          refine ⟨rfl, ?_⟩
          refine x_istore (pc' := 44) (lv' := [_, _, _, _, _, _, _, _, _]) rfl rfl (by decide) rfl ?_
          refine x_int (pc' := 46) (v := (-2)) rfl rfl rfl ?_
          refine x_istore (pc' := 48) (lv' := [_, _, _, _, _, _, _, _, _]) rfl rfl (by decide) rfl ?_
          refine x_int (pc' := 49) (v := nI 1) rfl rfl rfl ?_
          refine x_istore (pc' := 51) (lv' := [_, _, _, _, _, _, _, _, _]) rfl rfl (by decide) rfl ?_
          simp (disch := first | assumption | omega) only [tellsQ, onN_1, onN_0, onP_1, onP_0, ↓reduceIte] at k1
          rw [if_neg (by omega), bstF_cg (B := allA (apO T b s (nw T))) (fun i => allA_eq i)] at k1
          have hp8 := pw8 hW hb
          have hbl := bstF_le (A := allA (apO T b s (nw T))) (2 ^ lng T b - 1)
          refine l1_X10_tells (d := 7) (by decide) hW (D0 := D1) hb (o1.rn hR) hL (fun v6 a7 a8 => ?_) (2 ^ lng T b - 1) 0 D1 .null .null (Nat.zero_add _) rfl
          generalize bstF (allA (apO T b s (nw T))) (2 ^ lng T b - 1) = r at k1 hbl ⊢
          refine x_iload (pc' := 144) rfl rfl rfl ?_
          refine x_int (pc' := 146) (v := (-2)) rfl rfl rfl ?_
          refine x_ic_eq (pc' := 149) rfl rfl (fun c146 => ?_) (fun c146 => ?_)
          · refine x_iload (pc' := 156) rfl rfl rfl ?_
            refine x_goto rfl ?_
            refine x_iret rfl rfl ?_
            unfold tellsV at k1
            first
              | (rw [if_pos ((bB_iff (by omega)).mp c146)] at k1
                 rw [c146]
                 exact k1 D1 o1)
              | (rw [if_neg hr0, if_neg (by have := nI_inj (by omega) (by decide) c151; omega)] at k1
                 exact k1 D1 o1)
              | (have hm1 : ¬ h28w = 1 := fun z => c151 (by rw [z])
                 rw [if_neg hr0, if_pos (by omega)] at k1
                 exact k1 D1 o1)
          · have hr0 : ¬ r = 0 := fun z => c146 (bB_0 z)
            rw [bB_1 hr0]
            refine x_iload (pc' := 150) rfl rfl rfl ?_
            refine x_int (pc' := 151) (v := nI 1) rfl rfl rfl ?_
            refine x_ic_ne (pc' := 154) rfl rfl (fun c151 => ?_) (fun c151 => ?_)
            · refine x_iload (pc' := 161) rfl rfl rfl ?_
              refine x_callS (pc' := 164) (d1 := 1) (As := [_]) rfl rfl rfl rfl (by decide) rfl rfl (Nat.le_of_ble_eq_true rfl) ⟨rfl, rfl⟩ (by decide) ?_
              refine w_bitCount (by omega) ?_
              refine ⟨rfl, ?_⟩
              refine x_iret rfl rfl ?_
              unfold tellsV at k1
              first
                | (rw [if_pos ((bB_iff (by omega)).mp c146)] at k1
                   rw [c146]
                   exact k1 D1 o1)
                | (rw [if_neg hr0, if_neg (by have := nI_inj (by omega) (by decide) c151; omega)] at k1
                   exact k1 D1 o1)
                | (have hm1 : ¬ h28w = 1 := fun z => c151 (by rw [z])
                   rw [if_neg hr0, if_pos (by omega)] at k1
                   exact k1 D1 o1)
            · refine x_iload (pc' := 156) rfl rfl rfl ?_
              refine x_goto rfl ?_
              refine x_iret rfl rfl ?_
              unfold tellsV at k1
              first
                | (rw [if_pos ((bB_iff (by omega)).mp c146)] at k1
                   rw [c146]
                   exact k1 D1 o1)
                | (rw [if_neg hr0, if_neg (by have := nI_inj (by omega) (by decide) c151; omega)] at k1
                   exact k1 D1 o1)
                | (have hm1 : ¬ h28w = 1 := fun z => c151 (by rw [z])
                   rw [if_neg hr0, if_pos (by omega)] at k1
                   exact k1 D1 o1)
        · have h28 := okN_inL (n := 1) (by decide) h28
          refine ⟨rfl, ?_⟩
          refine x_if_ne (pc' := 34) rfl rfl (fun c31 => absurd (by decide) c31) (fun _ => ?_)
          refine x_int (pc' := 35) (v := (-1)) rfl rfl rfl ?_
          refine x_iret rfl rfl ?_
          first
            | (simp (disch := first | assumption | omega) only [tellsQ, onN_1, onN_0, onP_1, onP_0, ↓reduceIte] at k1
               exact k1 D OffM.rf)
            | (have e : tellsQ T (nI b) (nI s) v = -1 := by
                 unfold tellsQ
                 rw [onN_1 hb (by omega), onN_1 hs (by omega)]
                 unfold onN
                 split
                 · exact if_pos c21
                 · rfl
               rw [e] at k1
               exact k1 D OffM.rf)
    · refine ⟨rfl, ?_⟩
      refine x_if_eq (pc' := 16) rfl rfl (fun _ => ?_) (fun c13 => absurd (by decide) c13)
      refine x_int (pc' := 35) (v := (-1)) rfl rfl rfl ?_
      refine x_iret rfl rfl ?_
      first
        | (simp (disch := first | assumption | omega) only [tellsQ, onN_1, onN_0, onP_1, onP_0, ↓reduceIte] at k1
           exact k1 D OffM.rf)
        | (have e : tellsQ T (nI b) (nI s) v = -1 := by
             unfold tellsQ
             rw [onN_1 hb (by omega), onN_1 hs (by omega)]
             unfold onN
             split
             · exact if_pos c21
             · rfl
           rw [e] at k1
           exact k1 D OffM.rf)
  · refine ⟨rfl, ?_⟩
    refine x_if_eq (pc' := 8) rfl rfl (fun _ => ?_) (fun c5 => absurd (by decide) c5)
    refine x_int (pc' := 35) (v := (-1)) rfl rfl rfl ?_
    refine x_iret rfl rfl ?_
    first
      | (simp (disch := first | assumption | omega) only [tellsQ, onN_1, onN_0, onP_1, onP_0, ↓reduceIte] at k1
         exact k1 D OffM.rf)
      | (have e : tellsQ T (nI b) (nI s) v = -1 := by
           unfold tellsQ
           rw [onN_1 hb (by omega), onN_1 hs (by omega)]
           unfold onN
           split
           · exact if_pos c21
           · rfl
         rw [e] at k1
         exact k1 D OffM.rf)
