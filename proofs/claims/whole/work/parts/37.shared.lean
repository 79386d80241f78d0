/-! ===== sets of hands; shared ===== -/
def bitsF (l : List Nat) : Nat → Nat
  | 0 => 0
  | i + 1 => bitsF l i ||| 1 <<< l.getD i 0
def bits (l : List Nat) : Nat := bitsF l l.length
theorem bitsF_bit (l : List Nat) (v : Nat) : ∀ i, (bitsF l i).testBit v = true ↔ ∃ j, j < i ∧ l.getD j 0 = v := by
  intro i
  induction i with
  | zero => constructor
            · intro h; exact absurd h (by show ¬ Nat.testBit 0 v = true; simp)
            · rintro ⟨j, h, _⟩; omega
  | succ i ih =>
    show (bitsF l i ||| 1 <<< l.getD i 0).testBit v = true ↔ _
    rw [Nat.testBit_or, Bool.or_eq_true, ih, Nat.one_shiftLeft, Nat.testBit_two_pow, decide_eq_true_eq]
    constructor
    · rintro (⟨j, h1, h2⟩ | h)
      · exact ⟨j, by omega, h2⟩
      · exact ⟨i, by omega, h⟩
    · rintro ⟨j, h1, h2⟩
      by_cases e : j = i
      · subst e; exact Or.inr h2
      · exact Or.inl ⟨j, by omega, h2⟩
theorem bits_bit {l : List Nat} {v : Nat} : (bits l).testBit v = true ↔ v ∈ l := by
  unfold bits
  rw [bitsF_bit]
  constructor
  · rintro ⟨j, h1, h2⟩; rw [← h2]; exact getD_mem h1
  · intro h
    obtain ⟨j, hj, e⟩ := List.mem_iff_getElem.mp h
    exact ⟨j, hj, by rw [List.getD_eq_getElem?_getD, List.getElem?_eq_getElem hj]; exact e⟩
theorem bits_lt {l : List Nat} {n : Nat} (h : ∀ v ∈ l, v < n) : bits l < 2 ^ n := by
  refine Nat.lt_pow_two_of_testBit _ (fun j hj => ?_)
  cases hb : (bits l).testBit j
  · rfl
  · have := h j (bits_bit.mp hb); omega
def anyD (T : TW) (l : List Nat) : Bool := l.any (isD T)
theorem any_and {T : TW} {l : List Nat} : bits l &&& de T = 0 ↔ anyD T l = false := by
  constructor
  · intro h
    unfold anyD
    rw [List.any_eq_false]
    intro v hv hd
    have h1 : (bits l &&& de T).testBit v = true := by rw [Nat.testBit_and, bits_bit.mpr hv]; exact hd
    rw [h] at h1
    simp at h1
  · intro h
    unfold anyD at h
    rw [List.any_eq_false] at h
    refine Nat.eq_of_testBit_eq (fun v => ?_)
    rw [Nat.testBit_and, Nat.zero_testBit]
    cases hb : (bits l).testBit v
    · rfl
    · have := h v (bits_bit.mp hb)
      rw [Bool.not_eq_true] at this
      show (true && isD T v) = false
      rw [this]; rfl
def fstB (s : Nat) : List Nat → Int32
  | [] => -2
  | v :: r => if s.testBit v then nI v else fstB s r
def sharedQ (T : TW) (x y : Int32) : Int32 := match dN (nw T) x, dN (nw T) y with
  | some w, some u => fstB (bits (ch T u)) (ch T w)
  | _, _ => -1
theorem bitsF_at {px r : List Nat} {x : Nat} : bitsF (px ++ x :: r) (px.length + 1) = bitsF (px ++ x :: r) px.length ||| 1 <<< x := by
  show _ ||| 1 <<< (px ++ x :: r).getD px.length 0 = _
  rw [List.getD_eq_getElem?_getD, List.getElem?_append_right (Nat.le_refl _), Nat.sub_self]
  rfl
set_option maxRecDepth 20000 in
theorem l_X2_asBits {D : Nat → Nat → Int32} {L : Nat → Nat → Int64} {Q : bh_Q} {d : Nat} {l : List Nat} (hH : HdL D l) (hl : l.length ≤ 12) (hm : ∀ x ∈ l, x < 12) (k1 : Q (some (.int (nI (bits l)))) (hp D L)) : ∀ (f i : Nat), i + f = l.length → bw m_X2_asBits d Q 4 [.ref 31, .int (nI (bitsF l i)), .int (nI i)] [] D L := by
  intro f
  induction f with
  | zero =>
    intro i hf
    refine x_iload (pc' := 5) rfl rfl rfl ?_
    refine x_aload (pc' := 6) rfl rfl rfl ?_
    refine x_getI (j := 1) (pc' := 9) rfl rfl rfl (by decide) rfl (by decide) rfl rfl ?_
    refine x_top (hH.1) ?_
    refine y_ic_ge (pc' := 12) rfl rfl (by omega) (by omega) (fun c9 => ?_) (fun c9 => ?_)
    · refine x_iload (pc' := 30) rfl rfl rfl ?_
      refine x_iret rfl rfl ?_
      have e : i = l.length := by omega
      subst e
      exact k1
    · exact absurd c9 (by omega)
  | succ f ih =>
    intro i hf
    refine x_iload (pc' := 5) rfl rfl rfl ?_
    refine x_aload (pc' := 6) rfl rfl rfl ?_
    refine x_getI (j := 1) (pc' := 9) rfl rfl rfl (by decide) rfl (by decide) rfl rfl ?_
    refine x_top (hH.1) ?_
    refine y_ic_ge (pc' := 12) rfl rfl (by first | omega | (have := hm _ (getD_mem (l := l) (i := i) (by omega)); omega)) (by first | omega | (have := hm _ (getD_mem (l := l) (i := i) (by omega)); omega)) (fun c9 => ?_) (fun c9 => ?_)
    · exact absurd c9 (by omega)
    · refine x_iload (pc' := 13) rfl rfl rfl ?_
      refine x_int (pc' := 14) (v := nI 1) rfl rfl rfl ?_
      refine x_aload (pc' := 15) rfl rfl rfl ?_
      refine x_getR (pc' := 18) rfl rfl rfl (by decide) rfl (by decide) rfl rfl ?_
      refine x_iload (pc' := 19) rfl rfl rfl ?_
      refine x_iald (pc' := 20) rfl rfl (by decide) rfl (by decide) (show _ < 12 by omega) ?_
      refine x_top (hH.2 i (by omega)) ?_
      refine y_ishl (pc' := 21) rfl rfl (by first | omega | (have := hm _ (getD_mem (l := l) (i := i) (by omega)); omega)) ?_
      refine y_ior (pc' := 22) rfl rfl ?_
      refine x_istore (pc' := 23) (lv' := [_, _, _]) rfl rfl (by decide) rfl ?_
      refine y_inc (pc' := 26) (lv' := [_, _, _]) rfl rfl rfl (by decide) rfl ?_
      refine x_goto rfl ?_
      exact ih (i + 1) (by omega)
set_option maxRecDepth 20000 in
set_option maxHeartbeats 1000000 in
theorem w_X2_asBits {D : Nat → Nat → Int32} {L : Nat → Nat → Int64} {Q : bh_Q} {l : List Nat} (hH : HdL D l) (hl : l.length ≤ 12) (hm : ∀ x ∈ l, x < 12) (k1 : Q (some (.int (nI (bits l)))) (hp D L)) : bh_wc 1 m_X2_asBits [.ref 31] (hp D L) Q := by
  refine x_start (lv0 := [_, _, _]) (Nat.le_of_ble_eq_true rfl) rfl ?_
  refine x_int (pc' := 1) (v := nI 0) rfl rfl rfl ?_
  refine x_istore (pc' := 2) (lv' := [_, _, _]) rfl rfl (by decide) rfl ?_
  refine x_int (pc' := 3) (v := nI 0) rfl rfl rfl ?_
  refine x_istore (pc' := 4) (lv' := [_, _, _]) rfl rfl (by decide) rfl ?_
  exact l_X2_asBits (d := 0) hH hl hm k1 l.length 0 (Nat.zero_add _)
set_option maxRecDepth 20000 in
set_option maxHeartbeats 1000000 in
theorem w_X2_anyDead {D : Nat → Nat → Int32} {L : Nat → Nat → Int64} {Q : bh_Q} (hW : WF (tv D)) {l : List Nat} (hH : HdL D l) (hl : l.length ≤ 12) (hm : ∀ x ∈ l, x < 12) (k1 : anyD (tv D) l = true → Q (some (.int 1)) (hp D L)) (k0 : anyD (tv D) l = false → Q (some (.int 0)) (hp D L)) : bh_wc 2 m_X2_anyDead [.ref 31, .ref 1] (hp D L) Q := by
  refine x_start (lv0 := [_, _]) (Nat.le_of_ble_eq_true rfl) rfl ?_
  refine x_aload (pc' := 1) rfl rfl rfl ?_
  refine x_callV (pc' := 4) (d1 := 1) (Bs := []) rfl rfl rfl rfl rfl rfl rfl (Nat.le_of_ble_eq_true rfl) ⟨rfl, rfl⟩ (by decide) rfl (by decide) ?_
  refine w_X2_asBits hH hl hm ?_
  refine ⟨rfl, ?_⟩
  refine x_aload (pc' := 5) rfl rfl rfl ?_
  refine x_getI (j := 5) (pc' := 8) rfl rfl rfl (by decide) rfl (by decide) rfl rfl ?_
  refine x_top (hW.ede) ?_
  refine y_iand (pc' := 9) rfl rfl ?_
  refine y_if_eq (pc' := 12) rfl rfl (by first | omega | (have := Nat.and_le_right (n := bits l) (m := de (tv D)); have := hW.de12; omega)) (fun c9 => ?_) (fun c9 => ?_)
  · refine x_int (pc' := 17) (v := nI 0) rfl rfl rfl ?_
    refine x_zret rfl rfl (by decide) ?_
    first
      | exact k0 (any_and.mp c9)
      | exact k1 (by cases hz : anyD (tv D) l; exact absurd (any_and.mpr hz) c9; rfl)
  · refine x_int (pc' := 13) (v := nI 1) rfl rfl rfl ?_
    refine x_goto rfl ?_
    refine x_zret rfl rfl (by decide) ?_
    first
      | exact k0 (any_and.mp c9)
      | exact k1 (by cases hz : anyD (tv D) l; exact absurd (any_and.mpr hz) c9; rfl)
theorem sb1 {s v : Nat} (h : s >>> v &&& 1 = 1) : s.testBit v = true := by rw [tb] at h; cases hz : s.testBit v; rw [hz] at h; exact absurd h (by decide); rfl
theorem sb0 {s v : Nat} (h : ¬ s >>> v &&& 1 = 1) : ¬ s.testBit v = true := by rw [tb] at h; cases hz : s.testBit v; exact Bool.false_ne_true; rw [hz] at h; exact absurd rfl h
theorem sb_le (s v : Nat) : s >>> v &&& 1 < 2 := by rw [tb]; split <;> decide
set_option maxRecDepth 20000 in
set_option maxHeartbeats 1000000 in
theorem l_X9_shared {D : Nat → Nat → Int32} {L : Nat → Nat → Int64} {Q : bh_Q} {d : Nat} {l : List Nat} (hH : HdL D l) (hl : l.length ≤ 12) (hm : ∀ x ∈ l, x < 12) {s : Nat} (hs : s < 4096) {a1 a2 : Int32} : ∀ (r : List Nat) (i : Nat), l.drop i = r → i ≤ 12 → (∀ D1, OffH D D1 → Q (some (.int (fstB s r))) (hp D1 L)) → bw m_X9_shared d Q 59 [.ref 0, .int a1, .int a2, .int (nI s), .int (nI i)] [] D L := by
  intro r
  induction r with
  | nil =>
    intro i hd hi k1
    have hx0 := drop_nil hd
    refine x_iload (pc' := 61) rfl rfl rfl ?_
    refine x_aload (pc' := 62) rfl rfl rfl ?_
    refine x_getR (pc' := 65) rfl rfl rfl (by decide) rfl (by decide) rfl rfl ?_
    refine x_getI (j := 1) (pc' := 68) rfl rfl rfl (by decide) rfl (by decide) rfl rfl ?_
    refine x_top (hH.1) ?_
    refine y_ic_ge (pc' := 71) rfl rfl (by omega) (by omega) (fun c68 => ?_) (fun c68 => ?_)
    · refine x_int (pc' := 108) (v := (-2)) rfl rfl rfl ?_
      refine x_iret rfl rfl ?_
      exact k1 D OffH.rf
    · exact absurd c68 (by omega)
  | cons x r ih =>
    intro i hd hi k1
    obtain ⟨hx0, hx1, hx2, hx3⟩ := drop_cons hd
    have hx4 : x < 12 := by rw [← hx1]; exact hm _ (getD_mem hx0)
    have hx5 := sb_le s x
    refine x_iload (pc' := 61) rfl rfl rfl ?_
    refine x_aload (pc' := 62) rfl rfl rfl ?_
    refine x_getR (pc' := 65) rfl rfl rfl (by decide) rfl (by decide) rfl rfl ?_
    refine x_getI (j := 1) (pc' := 68) rfl rfl rfl (by decide) rfl (by decide) rfl rfl ?_
    refine x_top (hH.1) ?_
    refine y_ic_ge (pc' := 71) rfl rfl (by first | omega) (by first | omega) (fun c68 => ?_) (fun c68 => ?_)
    · exact absurd c68 (by omega)
    · refine x_iload (pc' := 72) rfl rfl rfl ?_
      refine x_aload (pc' := 73) rfl rfl rfl ?_
      refine x_getR (pc' := 76) rfl rfl rfl (by decide) rfl (by decide) rfl rfl ?_
      refine x_getR (pc' := 79) rfl rfl rfl (by decide) rfl (by decide) rfl rfl ?_
      refine x_iload (pc' := 81) rfl rfl rfl ?_
      refine x_iald (pc' := 82) rfl rfl (by decide) rfl (by decide) (show _ < 12 by omega) ?_
      refine x_top ((hH.2 i hx0).trans (congrArg nI hx1)) ?_
      refine y_ishr (pc' := 83) rfl rfl (by omega) (by omega) ?_
      refine x_int (pc' := 84) (v := nI 1) rfl rfl rfl ?_
      refine y_iand (pc' := 85) rfl rfl ?_
      refine x_int (pc' := 86) (v := nI 1) rfl rfl rfl ?_
      refine y_ic_ne (pc' := 89) rfl rfl (by first | omega) (by first | omega) (fun c86 => ?_) (fun c86 => ?_)
      · refine y_inc (pc' := 103) (lv' := [_, _, _, _, _]) rfl rfl rfl (by decide) rfl ?_
        refine x_goto rfl ?_
        have e : fstB s (x :: r) = fstB s r := if_neg (sb0 c86)
        rw [e] at k1
        exact ih (i + 1) hx2 (by omega) k1
      · refine x_aload (pc' := 90) rfl rfl rfl ?_
        refine x_getR (pc' := 93) rfl rfl rfl (by decide) rfl (by decide) rfl rfl ?_
        refine x_getR (pc' := 96) rfl rfl rfl (by decide) rfl (by decide) rfl rfl ?_
        refine x_iload (pc' := 98) rfl rfl rfl ?_
        refine x_iald (pc' := 99) rfl rfl (by decide) rfl (by decide) (show _ < 12 by omega) ?_
        refine x_top ((hH.2 i hx0).trans (congrArg nI hx1)) ?_
        refine x_iret rfl rfl ?_
        have e : fstB s (x :: r) = nI x := if_pos (sb1 c86)
        rw [e] at k1
        exact k1 D OffH.rf
set_option maxRecDepth 20000 in
set_option maxHeartbeats 1000000 in
theorem w_X9_shared {D : Nat → Nat → Int32} {L : Nat → Nat → Int64} {Q : bh_Q} (hW : WF (tv D)) {x y : Int32} (k1 : ∀ D1, OffC D D1 → Q (some (.int (sharedQ (tv D) x y))) (hp D1 L)) : bh_wc 3 m_X9_shared [.ref 0, .int x, .int y] (hp D L) Q := by
  refine x_start (lv0 := [_, _, _, _, _]) (Nat.le_of_ble_eq_true rfl) rfl ?_
  have h12 := hW.nwl
  refine x_aload (pc' := 1) rfl rfl rfl ?_
  refine x_getR (pc' := 4) rfl rfl rfl (by decide) rfl (by decide) rfl rfl ?_
  refine x_iload (pc' := 5) rfl rfl rfl ?_
  refine x_callV (pc' := 8) (d1 := 1) (Bs := [_]) rfl rfl rfl rfl rfl rfl rfl (Nat.le_of_ble_eq_true rfl) ⟨rfl, rfl⟩ (by decide) rfl (by decide) ?_
  refine w_X7_isWriter hW (fun h5w h5l e => ?_) (fun h5 => ?_)
  · subst e
    refine ⟨rfl, ?_⟩
    refine x_if_eq (pc' := 11) rfl rfl (fun c8 => absurd c8 (by decide)) (fun _ => ?_)
    refine x_aload (pc' := 12) rfl rfl rfl ?_
    refine x_getR (pc' := 15) rfl rfl rfl (by decide) rfl (by decide) rfl rfl ?_
    refine x_iload (pc' := 16) rfl rfl rfl ?_
    refine x_callV (pc' := 19) (d1 := 1) (Bs := [_]) rfl rfl rfl rfl rfl rfl rfl (Nat.le_of_ble_eq_true rfl) ⟨rfl, rfl⟩ (by decide) rfl (by decide) ?_
    refine w_X7_isWriter hW (fun h16w h16l e => ?_) (fun h16 => ?_)
    · subst e
      refine ⟨rfl, ?_⟩
      refine x_if_ne (pc' := 22) rfl rfl (fun _ => ?_) (fun c19 => absurd c19 (by decide))
      refine x_aload (pc' := 25) rfl rfl rfl ?_
      refine x_getR (pc' := 28) rfl rfl rfl (by decide) rfl (by decide) rfl rfl ?_
      refine x_aload (pc' := 29) rfl rfl rfl ?_
      refine x_getR (pc' := 32) rfl rfl rfl (by decide) rfl (by decide) rfl rfl ?_
      refine x_iload (pc' := 33) rfl rfl rfl ?_
      refine x_callV (pc' := 36) (d1 := 2) (Bs := [_, _]) rfl rfl rfl rfl rfl rfl rfl (Nat.le_of_ble_eq_true rfl) ⟨rfl, rfl⟩ (by decide) rfl (by decide) ?_
      refine w_X2_listFrom hW h16l (fun D1 o1 hH1 => ?_)
      have hmu : ∀ x ∈ ch (tv D) h16w, x < 12 := fun x hx => by have := ch_mem hW h16l x hx; omega
      refine ⟨rfl, ?_⟩
      refine x_aload (pc' := 37) rfl rfl rfl ?_
      refine x_getR (pc' := 40) rfl rfl rfl (by decide) rfl (by decide) rfl rfl ?_
      refine x_callV (pc' := 43) (d1 := 1) (Bs := []) rfl rfl rfl rfl rfl rfl rfl (Nat.le_of_ble_eq_true rfl) ⟨rfl, rfl⟩ (by decide) rfl (by decide) ?_
      refine w_X2_asBits hH1 (isH_of hW h16l).2.1 hmu ?_
      refine ⟨rfl, ?_⟩
      refine x_istore (pc' := 44) (lv' := [_, _, _, _, _]) rfl rfl (by decide) rfl ?_
      refine x_aload (pc' := 45) rfl rfl rfl ?_
      refine x_getR (pc' := 48) rfl rfl rfl (by decide) rfl (by decide) rfl rfl ?_
      refine x_aload (pc' := 49) rfl rfl rfl ?_
      refine x_getR (pc' := 52) rfl rfl rfl (by decide) rfl (by decide) rfl rfl ?_
      refine x_iload (pc' := 53) rfl rfl rfl ?_
      refine x_callV (pc' := 56) (d1 := 2) (Bs := [_, _]) rfl rfl rfl rfl rfl rfl rfl (Nat.le_of_ble_eq_true rfl) ⟨rfl, rfl⟩ (by decide) rfl (by decide) ?_
      refine w_X2_listFrom (D := D1) (by rw [o1.tv]; exact hW) (by rw [o1.tv]; exact h5l) (fun D2 o2 hH2 => ?_)
      rw [o1.tv] at hH2
      refine ⟨rfl, ?_⟩
      refine x_int (pc' := 57) (v := nI 0) rfl rfl rfl ?_
      refine x_istore (pc' := 59) (lv' := [_, _, _, _, _]) rfl rfl (by decide) rfl ?_
      have e : sharedQ (tv D) (nI h5w) (nI h16w) = fstB (bits (ch (tv D) h16w)) (ch (tv D) h5w) := by unfold sharedQ; rw [dN_some h5l (by omega), dN_some h16l (by omega)]
      rw [e] at k1
      exact l_X9_shared hH2 (isH_of hW h5l).2.1 (fun x hx => by have := ch_mem hW h5l x hx; omega) (bits_lt (n := 12) hmu) (ch (tv D) h5w) 0 rfl (by decide) (fun D3 o3 => k1 D3 ((o1.tr o2).tr o3).c)
    · refine ⟨rfl, ?_⟩
      refine x_if_ne (pc' := 22) rfl rfl (fun c19 => absurd (by decide) c19) (fun _ => ?_)
      refine x_int (pc' := 23) (v := (-1)) rfl rfl rfl ?_
      refine x_iret rfl rfl ?_
      first
        | (have e : sharedQ (tv D) x y = -1 := by unfold sharedQ; rw [dN_none (by omega) h5]
           rw [e] at k1
           exact k1 D OffC.rf)
        | (have e : sharedQ (tv D) (nI h5w) y = -1 := by unfold sharedQ; rw [dN_some h5l (by omega), dN_none (by omega) h16]
           rw [e] at k1
           exact k1 D OffC.rf)
  · refine ⟨rfl, ?_⟩
    refine x_if_eq (pc' := 11) rfl rfl (fun _ => ?_) (fun c8 => absurd (by decide) c8)
    refine x_int (pc' := 23) (v := (-1)) rfl rfl rfl ?_
    refine x_iret rfl rfl ?_
    first
      | (have e : sharedQ (tv D) x y = -1 := by unfold sharedQ; rw [dN_none (by omega) h5]
         rw [e] at k1
         exact k1 D OffC.rf)
      | (have e : sharedQ (tv D) (nI h5w) y = -1 := by unfold sharedQ; rw [dN_some h5l (by omega), dN_none (by omega) h16]
         rw [e] at k1
         exact k1 D OffC.rf)
set_option maxRecDepth 20000 in
theorem l_X10_handsSet {T : TW} (hW : WF T) {D : Nat → Nat → Int32} (hR : Rn T (D 206)) {L : Nat → Nat → Int64} {Q : bh_Q} {d : Nat} (hd : 2 ≤ d) {a1 : Int32} : ∀ (r px : List Nat), isC T r → Q (some (.int (nI (bits (px ++ r))))) (hp D L) → bw m_X10_handsSet d Q 4 [.ref 205, .int a1, .int (nI (bitsF (px ++ r) px.length)), .int (hdI r)] [] D L := by
  have h12 := hW.nwl
  intro r
  induction r with
  | nil =>
    intro px hC k1
    show bw m_X10_handsSet d Q 4 [.ref 205, .int a1, .int (nI (bitsF (px ++ []) px.length)), .int (-1)] [] D L
    refine x_iload (pc' := 5) rfl rfl rfl ?_
    refine x_int (pc' := 6) (v := (-1)) rfl rfl rfl ?_
    refine x_ic_eq (pc' := 9) rfl rfl (fun _ => ?_) (fun c6 => absurd (by decide) c6)
    refine x_iload (pc' := 25) rfl rfl rfl ?_
    refine x_iret rfl rfl ?_
    rw [List.append_nil] at k1 ⊢
    exact k1
  | cons x r ih =>
    intro px hC k1
    obtain ⟨hx0, hx1, hx2⟩ := hC
    show bw m_X10_handsSet d Q 4 [.ref 205, .int a1, .int (nI (bitsF (px ++ x :: r) px.length)), .int (nI x)] [] D L
    refine x_iload (pc' := 5) rfl rfl rfl ?_
    refine x_int (pc' := 6) (v := (-1)) rfl rfl rfl ?_
    refine x_ic_eq (pc' := 9) rfl rfl (fun c6 => ?_) (fun c6 => ?_)
    · exact absurd c6 (nI_m1 (by omega))
    · refine x_iload (pc' := 10) rfl rfl rfl ?_
      refine x_int (pc' := 11) (v := nI 1) rfl rfl rfl ?_
      refine x_iload (pc' := 12) rfl rfl rfl ?_
      refine y_ishl (pc' := 13) rfl rfl (by omega) ?_
      refine y_ior (pc' := 14) rfl rfl ?_
      refine x_istore (pc' := 15) (lv' := [_, _, _, _]) rfl rfl (by decide) rfl ?_
      refine x_aload (pc' := 16) rfl rfl rfl ?_
      refine x_iload (pc' := 17) rfl rfl rfl ?_
      refine x_callV (pc' := 20) (d1 := 2) (Bs := [_]) rfl rfl rfl rfl rfl rfl rfl (Nat.le_of_ble_eq_true rfl) ⟨rfl, rfl⟩ (by decide) rfl (by omega) ?_
      refine w_X10_under hW hR hx0 ?_
      refine ⟨rfl, ?_⟩
      refine x_top hx1 ?_
      refine x_istore (pc' := 21) (lv' := [_, _, _, _]) rfl rfl (by decide) rfl ?_
      refine x_goto rfl ?_
      have hh := ih (px ++ [x]) hx2 (by rw [List.append_assoc]; exact k1)
      rw [List.append_assoc] at hh
      have e : bitsF (px ++ ([x] ++ r)) (px ++ [x]).length = bitsF (px ++ x :: r) px.length ||| 1 <<< x := by rw [List.length_append]; exact bitsF_at
      rw [e] at hh
      exact hh
set_option maxRecDepth 20000 in
set_option maxHeartbeats 1000000 in
theorem w_X10_handsSet {D : Nat → Nat → Int32} {L : Nat → Nat → Int64} {Q : bh_Q} {T : TW} (hW : WF T) (hR : Rn T (D 206)) {w : Nat} (hw : w < nw T) (k1 : Q (some (.int (nI (bits (ch T w))))) (hp D L)) : bh_wc 3 m_X10_handsSet [.ref 205, .int (nI w)] (hp D L) Q := by
  refine x_start (lv0 := [_, _, _, _]) (Nat.le_of_ble_eq_true rfl) rfl ?_
  refine x_int (pc' := 1) (v := nI 0) rfl rfl rfl ?_
  refine x_istore (pc' := 2) (lv' := [_, _, _, _]) rfl rfl (by decide) rfl ?_
  refine x_iload (pc' := 3) rfl rfl rfl ?_
  refine x_istore (pc' := 4) (lv' := [_, _, _, _]) rfl rfl (by decide) rfl ?_
  exact l_X10_handsSet hW hR (by decide) (ch T w) [] (isH_of hW hw).1 k1
set_option maxRecDepth 20000 in
theorem l_X10_isAnyDead {T : TW} (hW : WF T) {D : Nat → Nat → Int32} (hR : Rn T (D 206)) {L : Nat → Nat → Int64} {Q : bh_Q} {d : Nat} (hd : 2 ≤ d) {a1 : Int32} : ∀ (r : List Nat), isC T r → (anyD T r = true → Q (some (.int 1)) (hp D L)) → (anyD T r = false → Q (some (.int 0)) (hp D L)) → bw m_X10_isAnyDead d Q 2 [.ref 205, .int a1, .int (hdI r)] [] D L := by
  have h12 := hW.nwl
  intro r
  induction r with
  | nil =>
    intro hC k1 k0
    show bw m_X10_isAnyDead d Q 2 [.ref 205, .int a1, .int (-1)] [] D L
    refine x_iload (pc' := 3) rfl rfl rfl ?_
    refine x_int (pc' := 4) (v := (-1)) rfl rfl rfl ?_
    refine x_ic_eq (pc' := 7) rfl rfl (fun _ => ?_) (fun c4 => absurd (by decide) c4)
    refine x_int (pc' := 27) (v := nI 0) rfl rfl rfl ?_
    refine x_zret rfl rfl (by decide) ?_
    exact k0 rfl
  | cons x r ih =>
    intro hC k1 k0
    obtain ⟨hx0, hx1, hx2⟩ := hC
    show bw m_X10_isAnyDead d Q 2 [.ref 205, .int a1, .int (nI x)] [] D L
    refine x_iload (pc' := 3) rfl rfl rfl ?_
    refine x_int (pc' := 4) (v := (-1)) rfl rfl rfl ?_
    refine x_ic_eq (pc' := 7) rfl rfl (fun c4 => ?_) (fun c4 => ?_)
    · exact absurd c4 (nI_m1 (by omega))
    · refine x_aload (pc' := 8) rfl rfl rfl ?_
      refine x_iload (pc' := 9) rfl rfl rfl ?_
      refine x_callV (pc' := 12) (d1 := 2) (Bs := [_]) rfl rfl rfl rfl rfl rfl rfl (Nat.le_of_ble_eq_true rfl) ⟨rfl, rfl⟩ (by decide) rfl (by omega) ?_
      refine w_X10_isDead hW hR hx0 (fun h9 => ?_) (fun h9 => ?_)
      · refine ⟨rfl, ?_⟩
        refine x_if_eq (pc' := 15) rfl rfl (fun c12 => absurd c12 (by decide)) (fun _ => ?_)
        refine x_int (pc' := 16) (v := nI 1) rfl rfl rfl ?_
        refine x_zret rfl rfl (by decide) ?_
        exact k1 (by show (isD T x || _) = true; rw [h9]; rfl)
      · refine ⟨rfl, ?_⟩
        refine x_if_eq (pc' := 15) rfl rfl (fun _ => ?_) (fun c12 => absurd (by decide) c12)
        refine x_aload (pc' := 18) rfl rfl rfl ?_
        refine x_iload (pc' := 19) rfl rfl rfl ?_
        refine x_callV (pc' := 22) (d1 := 2) (Bs := [_]) rfl rfl rfl rfl rfl rfl rfl (Nat.le_of_ble_eq_true rfl) ⟨rfl, rfl⟩ (by decide) rfl (by omega) ?_
        refine w_X10_under hW hR hx0 ?_
        refine ⟨rfl, ?_⟩
        refine x_top hx1 ?_
        refine x_istore (pc' := 23) (lv' := [_, _, _]) rfl rfl (by decide) rfl ?_
        refine x_goto rfl ?_
        have e : anyD T (x :: r) = anyD T r := by show (isD T x || _) = _; rw [h9]; rfl
        rw [e] at k1 k0
        exact ih hx2 k1 k0
set_option maxRecDepth 20000 in
set_option maxHeartbeats 1000000 in
theorem w_X10_isAnyDead {D : Nat → Nat → Int32} {L : Nat → Nat → Int64} {Q : bh_Q} {T : TW} (hW : WF T) (hR : Rn T (D 206)) {w : Nat} (hw : w < nw T) (k1 : anyD T (ch T w) = true → Q (some (.int 1)) (hp D L)) (k0 : anyD T (ch T w) = false → Q (some (.int 0)) (hp D L)) : bh_wc 3 m_X10_isAnyDead [.ref 205, .int (nI w)] (hp D L) Q := by
  refine x_start (lv0 := [_, _, _]) (Nat.le_of_ble_eq_true rfl) rfl ?_
  refine x_iload (pc' := 1) rfl rfl rfl ?_
  refine x_istore (pc' := 2) (lv' := [_, _, _]) rfl rfl (by decide) rfl ?_
  exact l_X10_isAnyDead hW hR (by decide) (ch T w) (isH_of hW hw).1 k1 k0
set_option maxRecDepth 20000 in
theorem l_X10_shared {T : TW} (hW : WF T) {D : Nat → Nat → Int32} (hR : Rn T (D 206)) {L : Nat → Nat → Int64} {Q : bh_Q} {d : Nat} (hd : 2 ≤ d) {a1 a2 : Int32} {s : Nat} (hs : s < 4096) : ∀ (r : List Nat), isC T r → Q (some (.int (fstB s r))) (hp D L) → bw m_X10_shared d Q 27 [.ref 205, .int a1, .int a2, .int (nI s), .int (hdI r)] [] D L := by
  have h12 := hW.nwl
  intro r
  induction r with
  | nil =>
    intro hC k1
    show bw m_X10_shared d Q 27 [.ref 205, .int a1, .int a2, .int (nI s), .int (-1)] [] D L
    refine x_iload (pc' := 29) rfl rfl rfl ?_
    refine x_int (pc' := 30) (v := (-1)) rfl rfl rfl ?_
    refine x_ic_eq (pc' := 33) rfl rfl (fun _ => ?_) (fun c30 => absurd (by decide) c30)
    refine x_int (pc' := 58) (v := (-2)) rfl rfl rfl ?_
    refine x_iret rfl rfl ?_
    exact k1
  | cons x r ih =>
    intro hC k1
    obtain ⟨hx0, hx1, hx2⟩ := hC
    show bw m_X10_shared d Q 27 [.ref 205, .int a1, .int a2, .int (nI s), .int (nI x)] [] D L
    refine x_iload (pc' := 29) rfl rfl rfl ?_
    refine x_int (pc' := 30) (v := (-1)) rfl rfl rfl ?_
    refine x_ic_eq (pc' := 33) rfl rfl (fun c30 => ?_) (fun c30 => ?_)
    · exact absurd c30 (nI_m1 (by omega))
    · refine x_iload (pc' := 34) rfl rfl rfl ?_
      refine x_iload (pc' := 36) rfl rfl rfl ?_
      refine x_callS (pc' := 39) (d1 := 1) (As := [_, _]) rfl rfl rfl rfl (by decide) rfl rfl (Nat.le_of_ble_eq_true rfl) ⟨rfl, rfl⟩ (by omega) ?_
      refine w_X10_has (by omega) (by omega) (fun h36 => ?_) (fun h36 => ?_)
      · refine ⟨rfl, ?_⟩
        refine x_if_eq (pc' := 42) rfl rfl (fun c39 => absurd c39 (by decide)) (fun _ => ?_)
        refine x_iload (pc' := 44) rfl rfl rfl ?_
        refine x_iret rfl rfl ?_
        have e : fstB s (x :: r) = nI x := if_pos h36
        rw [e] at k1
        exact k1
      · refine ⟨rfl, ?_⟩
        refine x_if_eq (pc' := 42) rfl rfl (fun _ => ?_) (fun c39 => absurd (by decide) c39)
        refine x_aload (pc' := 46) rfl rfl rfl ?_
        refine x_iload (pc' := 48) rfl rfl rfl ?_
        refine x_callV (pc' := 51) (d1 := 2) (Bs := [_]) rfl rfl rfl rfl rfl rfl rfl (Nat.le_of_ble_eq_true rfl) ⟨rfl, rfl⟩ (by decide) rfl (by omega) ?_
        refine w_X10_under hW hR hx0 ?_
        refine ⟨rfl, ?_⟩
        refine x_top hx1 ?_
        refine x_istore (pc' := 53) (lv' := [_, _, _, _, _]) rfl rfl (by decide) rfl ?_
        refine x_goto rfl ?_
        have e : fstB s (x :: r) = fstB s r := if_neg (by rw [h36]; decide)
        rw [e] at k1
        exact ih hx2 k1
set_option maxRecDepth 20000 in
set_option maxHeartbeats 1000000 in
theorem w_X10_shared {D : Nat → Nat → Int32} {L : Nat → Nat → Int64} {Q : bh_Q} {T : TW} (hW : WF T) (hR : Rn T (D 206)) {x y : Int32} (k1 : Q (some (.int (sharedQ T x y))) (hp D L)) : bh_wc 4 m_X10_shared [.ref 205, .int x, .int y] (hp D L) Q := by
  refine x_start (lv0 := [_, _, _, _, _]) (Nat.le_of_ble_eq_true rfl) rfl ?_
  have h12 := hW.nwl
  refine x_aload (pc' := 1) rfl rfl rfl ?_
  refine x_iload (pc' := 2) rfl rfl rfl ?_
  refine x_callV (pc' := 5) (d1 := 2) (Bs := [_]) rfl rfl rfl rfl rfl rfl rfl (Nat.le_of_ble_eq_true rfl) ⟨rfl, rfl⟩ (by decide) rfl (by decide) ?_
  refine w_X10_isWriter hW hR (fun h2w h2l e => ?_) (fun h2 => ?_)
  · subst e
    refine ⟨rfl, ?_⟩
    refine x_if_eq (pc' := 8) rfl rfl (fun c5 => absurd c5 (by decide)) (fun _ => ?_)
    refine x_aload (pc' := 9) rfl rfl rfl ?_
    refine x_iload (pc' := 10) rfl rfl rfl ?_
    refine x_callV (pc' := 13) (d1 := 2) (Bs := [_]) rfl rfl rfl rfl rfl rfl rfl (Nat.le_of_ble_eq_true rfl) ⟨rfl, rfl⟩ (by decide) rfl (by decide) ?_
    refine w_X10_isWriter hW hR (fun h10w h10l e => ?_) (fun h10 => ?_)
    · subst e
      refine ⟨rfl, ?_⟩
      refine x_if_ne (pc' := 16) rfl rfl (fun _ => ?_) (fun c13 => absurd c13 (by decide))
      refine x_aload (pc' := 19) rfl rfl rfl ?_
      refine x_iload (pc' := 20) rfl rfl rfl ?_
      refine x_callV (pc' := 23) (d1 := 3) (Bs := [_]) rfl rfl rfl rfl rfl rfl rfl (Nat.le_of_ble_eq_true rfl) ⟨rfl, rfl⟩ (by decide) rfl (by decide) ?_
      refine w_X10_handsSet hW hR h10l ?_
      refine ⟨rfl, ?_⟩
      refine x_istore (pc' := 24) (lv' := [_, _, _, _, _]) rfl rfl (by decide) rfl ?_
      refine x_iload (pc' := 25) rfl rfl rfl ?_
      refine x_istore (pc' := 27) (lv' := [_, _, _, _, _]) rfl rfl (by decide) rfl ?_
      have e : sharedQ T (nI h2w) (nI h10w) = fstB (bits (ch T h10w)) (ch T h2w) := by unfold sharedQ; rw [dN_some h2l (by omega), dN_some h10l (by omega)]
      rw [e] at k1
      exact l_X10_shared hW hR (by decide) (bits_lt (n := 12) (fun x hx => by have := ch_mem hW h10l x hx; omega)) (ch T h2w) (isH_of hW h2l).1 k1
    · refine ⟨rfl, ?_⟩
      refine x_if_ne (pc' := 16) rfl rfl (fun c13 => absurd (by decide) c13) (fun _ => ?_)
      refine x_int (pc' := 17) (v := (-1)) rfl rfl rfl ?_
      refine x_iret rfl rfl ?_
      first
        | (have e : sharedQ T x y = -1 := by unfold sharedQ; rw [dN_none (by omega) h2]
           rw [e] at k1
           exact k1)
        | (have e : sharedQ T (nI h2w) y = -1 := by unfold sharedQ; rw [dN_some h2l (by omega), dN_none (by omega) h10]
           rw [e] at k1
           exact k1)
  · refine ⟨rfl, ?_⟩
    refine x_if_eq (pc' := 8) rfl rfl (fun _ => ?_) (fun c5 => absurd (by decide) c5)
    refine x_int (pc' := 17) (v := (-1)) rfl rfl rfl ?_
    refine x_iret rfl rfl ?_
    first
      | (have e : sharedQ T x y = -1 := by unfold sharedQ; rw [dN_none (by omega) h2]
         rw [e] at k1
         exact k1)
      | (have e : sharedQ T (nI h2w) y = -1 := by unfold sharedQ; rw [dN_some h2l (by omega), dN_none (by omega) h10]
         rw [e] at k1
         exact k1)
