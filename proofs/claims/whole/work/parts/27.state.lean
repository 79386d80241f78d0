/-! ===== the state of both, and what an act does to it ===== -/
/-- a number below n, or none -/
def dN (n : Nat) (x : Int32) : Option Nat := if 0 ≤ x.toInt ∧ x.toInt < n then some x.toNatClampNeg else none
theorem dN_some {n j : Nat} (h : j < n) (hn : n < 2 ^ 31) : dN n (nI j) = some j := by
  unfold dN
  rw [nI_toInt (by omega), nI_clamp (by omega), if_pos (by omega)]
theorem dN_none {n : Nat} {x : Int32} (hn : n < 2 ^ 31) (h : ¬ okN n x) : dN n x = none := by
  unfold dN
  refine if_neg (fun q => h ?_)
  have h1 : vp_in x n := vp_in_iff.mpr q
  exact vp_in_of h1 hn
/-- tape -/
def PC (D : Nat → Nat → Int32) (tp : List Nat) : Prop := tp.length ≤ 400 ∧ D 27 1 = nI tp.length ∧ ∀ i, i < tp.length → tp.getD i 0 < 256 ∧ D 28 i = nI (tp.getD i 0)
def PM (D : Nat → Nat → Int32) (tp : List Nat) : Prop := D 205 7 = nI tp.length ∧ ∀ i, i < tp.length → D 211 i = (nI (tp.getD i 0)).toInt8.toInt32
def InvC (D : Nat → Nat → Int32) (ps : List TW) (sh : Nat → Option TW) (tp : List Nat) : Prop := HC D ps ∧ KC D sh ∧ PC D tp ∧ ∀ i, i < 384 → is (D 25 i) 65536
def InvM (D : Nat → Nat → Int32) (T : TW) (ps : List TW) (sh : Nat → Option TW) (tp : List Nat) : Prop := Rn T (D 206) ∧ HM D ps ∧ KM D sh ∧ PM D tp
def Good (T : TW) (ps : List TW) (sh : Nat → Option TW) : Prop := WF T ∧ GP ps ∧ GS sh
def nxT (T : TW) (n : Option TW) : TW := n.getD T
def nxP (T : TW) (ps : List TW) (n : Option TW) : List TW := match n with
  | none => ps
  | some _ => (T :: ps).take 10
theorem gp_next {T : TW} {ps : List TW} (hW : WF T) (h : GP ps) : GP ((T :: ps).take 10) := by
  intro j hj
  cases j with
  | zero => exact hW
  | succ j => rw [take10_get hj]; exact h j (by rw [List.length_take, List.length_cons] at hj; omega)
/-- the class's side of the heap is as it was, but for its scratch rows and its town -/
theorem invC_off {D D' : Nat → Nat → Int32} {ps : List TW} {sh : Nat → Option TW} {tp : List Nat} (h : InvC D ps sh tp) (h0 : D' 0 = D 0) (h1 : ∀ k, 25 ≤ k → (k < 31 ∨ 49 ≤ k) → k < 205 → D' k = D k) : InvC D' ps sh tp := by
  obtain ⟨⟨a1, a2, e, a3, a4, a5⟩, ⟨kp, b1, b2, b3⟩, ⟨c1, c2, c3⟩, c4⟩ := h
  refine ⟨⟨a1, by rw [h0]; exact a2, e, a3, by rw [h0]; exact a4, fun j hj => ?_⟩, ⟨kp, b1, by rw [h0]; exact b2, fun s hs => ⟨(b3 s hs).1, fun T hT => ?_⟩⟩, ⟨c1, by rw [h1 27 (by decide) (by decide) (by decide)]; exact c2, by rw [h1 28 (by decide) (by decide) (by decide)]; exact c3⟩, by rw [h1 25 (by decide) (by decide) (by decide)]; exact c4⟩
  · rw [tvt_off (D := D) (fun i hi => h1 _ (by omega) (by omega) (by omega))]
    exact a5 j hj
  · rw [tvt_off (D := D) (fun i hi => h1 _ (by omega) (by omega) (by omega))]
    exact (b3 s hs).2 T hT
/-- behind remember() -/
theorem invC_rem {D D1 : Nat → Nat → Int32} {ps ps1 : List TW} {sh : Nat → Option TW} {tp : List Nat} (h : InvC D ps sh tp) (f1 : FrC D D1) (g1 : D1 0 15 = D 0 15) (hH : HC D1 ps1) : InvC D1 ps1 sh tp := by
  obtain ⟨-, ⟨kp, b1, b2, b3⟩, ⟨c1, c2, c3⟩, c4⟩ := h
  refine ⟨hH, ⟨kp, b1, by rw [g1]; exact b2, fun s hs => ⟨(b3 s hs).1, fun T hT => ?_⟩⟩, ⟨c1, by rw [f1 27 (by decide) (by decide)]; exact c2, by rw [f1 28 (by decide) (by decide)]; exact c3⟩, by rw [f1 25 (by decide) (by decide)]; exact c4⟩
  rw [tvt_off (D := D) (fun i hi => f1 _ (by omega) (by omega))]
  exact (b3 s hs).2 T hT
theorem frc_tv {D D1 : Nat → Nat → Int32} (f1 : FrC D D1) : tv D1 = tv D := tvt_off (t := 1) (fun j hj => f1 _ (by omega) (by omega))
theorem tv_up {D : Nat → Nat → Int32} {k i j : Nat} {x : Int32} (hk : k = 1 + j) (hj : j < 13) : tv (bh_up2 D k i x) = bh_up2 (tv D) j i x := by
  subst hk
  funext a b
  show (if a < 13 then bh_up2 D (1 + j) i x (1 + a) b else 0) = bh_up2 (tv D) j i x a b
  by_cases e : a = j
  · subst e
    rw [if_pos hj, bh_up2_k, bh_up2_k]
    dsimp only
    have e2 : tv D a b = D (1 + a) b := if_pos hj
    rw [e2]
  · rw [bh_up2_ne _ _ _ e, bh_up2_ne _ _ _ (by omega)]
/-- the reference's side -/
theorem invM_off {D D' : Nat → Nat → Int32} {T : TW} {ps : List TW} {sh : Nat → Option TW} {tp : List Nat} (h : InvM D T ps sh tp) (h1 : ∀ k, 206 ≤ k → k ≤ 211 → k ≠ 207 → D' k = D k) (h5 : D' 205 5 = D 205 5) (h7 : D' 205 7 = D 205 7) : InvM D' T ps sh tp := by
  obtain ⟨a, ⟨b1, b2, b3⟩, c, e1, e2⟩ := h
  refine ⟨by rw [h1 206 (by decide) (by decide) (by decide)]; exact a, ⟨b1, by rw [h5]; exact b2, by rw [h1 208 (by decide) (by decide) (by decide)]; exact b3⟩, fun s hs => ?_, by rw [h7]; exact e1, by rw [h1 211 (by decide) (by decide) (by decide)]; exact e2⟩
  rw [h1 210 (by decide) (by decide) (by decide), h1 209 (by decide) (by decide) (by decide)]
  exact c s hs
/-- behind keepsPast(), and a new row -/
theorem invM_rem {D D1 D2 : Nat → Nat → Int32} {T T1 : TW} {ps ps1 : List TW} {sh : Nat → Option TW} {tp : List Nat} (h : InvM D T ps sh tp) (f1 : OffL [205, 208] D D1) (g1 : ∀ j, j ≠ 5 → D1 205 j = D 205 j) (hH : HM D1 ps1) (o2 : ∀ k, k ≠ 206 → k ≠ 205 → k < 212 → D2 k = D1 k) (o3 : ∀ j, j < 8 → D2 205 j = D1 205 j) (hR : Rn T1 (D2 206)) : InvM D2 T1 ps1 sh tp := by
  obtain ⟨-, -, c, e1, e2⟩ := h
  obtain ⟨b1, b2, b3⟩ := hH
  refine ⟨hR, ⟨b1, by rw [o3 5 (by decide)]; exact b2, by rw [o2 208 (by decide) (by decide) (by decide)]; exact b3⟩, fun s hs => ?_, by rw [o3 7 (by decide), g1 7 (by decide)]; exact e1, by rw [o2 211 (by decide) (by decide) (by decide), f1 211 (by decide)]; exact e2⟩
  rw [o2 210 (by decide) (by decide) (by decide), o2 209 (by decide) (by decide) (by decide), f1 210 (by decide), f1 209 (by decide)]
  exact c s hs

theorem rn_up5 {T : TW} {N : Nat → Int32} (hW : WF T) (hR : Rn T N) {w : Nat} (hw : w < nw T) (x : Int32) : Rn (bh_up2 T 5 w x) (fun k => if k = 4 + 10 * w + 4 then x else N k) := by
  have h12 := hW.nwl
  have h4 := hW.nbl
  have h16 := hW.nsl
  refine ⟨⟨(if_neg (by omega)).trans hR.1.1, (if_neg (by omega)).trans hR.1.2.1, (if_neg (by omega)).trans hR.1.2.2.1, (if_neg (by omega)).trans hR.1.2.2.2⟩, fun w2 hw2 => ?_, fun b hb => ⟨(if_neg (by have : b < nb T := hb; omega)).trans (hR.2.2.1 b hb).1, fun q hq => (if_neg (by have : b < nb T := hb; omega)).trans ((hR.2.2.1 b hb).2 q hq)⟩, fun w2 b q hw2 hb hq hs => (if_neg (by have := hW.lngl hb; have : w2 < nw T := hw2; have : b < nb T := hb; have : q < lng T b := hq; omega)).trans (hR.2.2.2.1 w2 b q hw2 hb hq hs), fun i hi => (if_neg (by have : i < ns T := hi; omega)).trans (hR.2.2.2.2 i hi)⟩
  have h := hR.2.1 w2 hw2
  have hw3 : w2 < nw T := hw2
  refine ⟨(if_neg (by omega)).trans (h.1), (if_neg (by omega)).trans (h.2.1), fun hk => (if_neg (by omega)).trans (h.2.2.1 hk), fun hk => (if_neg (by omega)).trans (h.2.2.2.1 hk), ?_, (if_neg (by omega)).trans (h.2.2.2.2.2.1), (if_neg (by omega)).trans (h.2.2.2.2.2.2.1), (if_neg (by omega)).trans (h.2.2.2.2.2.2.2.1), (if_neg (by omega)).trans (h.2.2.2.2.2.2.2.2.1), (if_neg (by omega)).trans (h.2.2.2.2.2.2.2.2.2)⟩
  show (if 4 + 10 * w2 + 4 = 4 + 10 * w + 4 then x else N (4 + 10 * w2 + 4)) = (bh_up2 T 5 w x) 5 w2
  rw [bh_up2_k]
  dsimp only
  by_cases e : w2 = w
  · rw [if_pos (by omega), if_pos e]
  · rw [if_neg (by omega), if_neg e]
    exact (h.2.2.2.2.1)
theorem rn_up6 {T : TW} {N : Nat → Int32} (hW : WF T) (hR : Rn T N) {w : Nat} (hw : w < nw T) (x : Int32) : Rn (bh_up2 T 6 w x) (fun k => if k = 4 + 10 * w + 5 then x else N k) := by
  have h12 := hW.nwl
  have h4 := hW.nbl
  have h16 := hW.nsl
  refine ⟨⟨(if_neg (by omega)).trans hR.1.1, (if_neg (by omega)).trans hR.1.2.1, (if_neg (by omega)).trans hR.1.2.2.1, (if_neg (by omega)).trans hR.1.2.2.2⟩, fun w2 hw2 => ?_, fun b hb => ⟨(if_neg (by have : b < nb T := hb; omega)).trans (hR.2.2.1 b hb).1, fun q hq => (if_neg (by have : b < nb T := hb; omega)).trans ((hR.2.2.1 b hb).2 q hq)⟩, fun w2 b q hw2 hb hq hs => (if_neg (by have := hW.lngl hb; have : w2 < nw T := hw2; have : b < nb T := hb; have : q < lng T b := hq; omega)).trans (hR.2.2.2.1 w2 b q hw2 hb hq hs), fun i hi => (if_neg (by have : i < ns T := hi; omega)).trans (hR.2.2.2.2 i hi)⟩
  have h := hR.2.1 w2 hw2
  have hw3 : w2 < nw T := hw2
  refine ⟨(if_neg (by omega)).trans (h.1), (if_neg (by omega)).trans (h.2.1), fun hk => (if_neg (by omega)).trans (h.2.2.1 hk), fun hk => (if_neg (by omega)).trans (h.2.2.2.1 hk), (if_neg (by omega)).trans (h.2.2.2.2.1), ?_, (if_neg (by omega)).trans (h.2.2.2.2.2.2.1), (if_neg (by omega)).trans (h.2.2.2.2.2.2.2.1), (if_neg (by omega)).trans (h.2.2.2.2.2.2.2.2.1), (if_neg (by omega)).trans (h.2.2.2.2.2.2.2.2.2)⟩
  show (if 4 + 10 * w2 + 5 = 4 + 10 * w + 5 then x else N (4 + 10 * w2 + 5)) = (bh_up2 T 6 w x) 6 w2
  rw [bh_up2_k]
  dsimp only
  by_cases e : w2 = w
  · rw [if_pos (by omega), if_pos e]
  · rw [if_neg (by omega), if_neg e]
    exact (h.2.2.2.2.2.1)
theorem rn_up7 {T : TW} {N : Nat → Int32} (hW : WF T) (hR : Rn T N) {w : Nat} (hw : w < nw T) (x : Int32) : Rn (bh_up2 T 7 w x) (fun k => if k = 4 + 10 * w + 6 then x else N k) := by
  have h12 := hW.nwl
  have h4 := hW.nbl
  have h16 := hW.nsl
  refine ⟨⟨(if_neg (by omega)).trans hR.1.1, (if_neg (by omega)).trans hR.1.2.1, (if_neg (by omega)).trans hR.1.2.2.1, (if_neg (by omega)).trans hR.1.2.2.2⟩, fun w2 hw2 => ?_, fun b hb => ⟨(if_neg (by have : b < nb T := hb; omega)).trans (hR.2.2.1 b hb).1, fun q hq => (if_neg (by have : b < nb T := hb; omega)).trans ((hR.2.2.1 b hb).2 q hq)⟩, fun w2 b q hw2 hb hq hs => (if_neg (by have := hW.lngl hb; have : w2 < nw T := hw2; have : b < nb T := hb; have : q < lng T b := hq; omega)).trans (hR.2.2.2.1 w2 b q hw2 hb hq hs), fun i hi => (if_neg (by have : i < ns T := hi; omega)).trans (hR.2.2.2.2 i hi)⟩
  have h := hR.2.1 w2 hw2
  have hw3 : w2 < nw T := hw2
  refine ⟨(if_neg (by omega)).trans (h.1), (if_neg (by omega)).trans (h.2.1), fun hk => (if_neg (by omega)).trans (h.2.2.1 hk), fun hk => (if_neg (by omega)).trans (h.2.2.2.1 hk), (if_neg (by omega)).trans (h.2.2.2.2.1), (if_neg (by omega)).trans (h.2.2.2.2.2.1), ?_, (if_neg (by omega)).trans (h.2.2.2.2.2.2.2.1), (if_neg (by omega)).trans (h.2.2.2.2.2.2.2.2.1), (if_neg (by omega)).trans (h.2.2.2.2.2.2.2.2.2)⟩
  show (if 4 + 10 * w2 + 6 = 4 + 10 * w + 6 then x else N (4 + 10 * w2 + 6)) = (bh_up2 T 7 w x) 7 w2
  rw [bh_up2_k]
  dsimp only
  by_cases e : w2 = w
  · rw [if_pos (by omega), if_pos e]
  · rw [if_neg (by omega), if_neg e]
    exact (h.2.2.2.2.2.2.1)
theorem wf_un {T : TW} (hW : WF T) {w : Nat} (hw : w < nw T) {x : Int32} (hx : x = -1 ∨ (is x (nw T) ∧ pu T x.toNatClampNeg < pu T w)) : WF (bh_up2 T 5 w x) := by
  refine ⟨hW.1, fun w2 hw2 => ?_, hW.2.2.1, hW.2.2.2.1, hW.2.2.2.2⟩
  obtain ⟨a1, a2, a3, a4, a5, a6, a7⟩ := hW.2.1 w2 hw2
  refine ⟨a1, a2, a3, a4, a5, a6, ?_⟩
  show (bh_up2 T 5 w x) 5 w2 = -1 ∨ (is ((bh_up2 T 5 w x) 5 w2) (nw T) ∧ pu T ((bh_up2 T 5 w x) 5 w2).toNatClampNeg < pu T w2)
  rw [bh_up2_k]
  dsimp only
  by_cases e : w2 = w
  · rw [if_pos e, e]; exact hx
  · rw [if_neg e]; exact a7
theorem wf_67 {T : TW} (hW : WF T) {w j : Nat} (hj : j = 6 ∨ j = 7) (x : Int32) : WF (bh_up2 T j w x) := by
  rcases hj with rfl | rfl <;> exact hW
set_option maxRecDepth 20000 in
set_option maxHeartbeats 1000000 in
theorem w_X10_puts_ {D : Nat → Nat → Int32} {L : Nat → Nat → Int64} {Q : bh_Q} {w j : Nat} {x : Int32} (hw : w < 12) (hj : j < 10) (k1 : Q none (hp (bh_up2 D 206 (4 + 10 * w + j) x) L)) : bh_wc 1 m_X10_puts_ [.ref 205, .int (nI w), .int (nI j), .int x] (hp D L) Q := by
  refine x_start (lv0 := [_, _, _, _]) (Nat.le_of_ble_eq_true rfl) rfl ?_
  refine x_aload (pc' := 1) rfl rfl rfl ?_
  refine x_getR (pc' := 4) rfl rfl rfl (by decide) rfl (by decide) rfl rfl ?_
  refine x_int (pc' := 5) (v := nI 4) rfl rfl rfl ?_
  refine x_int (pc' := 7) (v := nI 10) rfl rfl rfl ?_
  refine x_iload (pc' := 8) rfl rfl rfl ?_
  refine y_imul (pc' := 9) rfl rfl ?_
  refine y_iadd (pc' := 10) rfl rfl ?_
  refine x_iload (pc' := 11) rfl rfl rfl ?_
  refine y_iadd (pc' := 12) rfl rfl ?_
  refine x_iload (pc' := 13) rfl rfl rfl ?_
  refine x_iast (pc' := 14) rfl rfl (by decide) rfl (by decide) (show _ < 560 by omega) ?_
  refine x_vret rfl rfl ?_
  exact k1
set_option maxRecDepth 20000 in
set_option maxHeartbeats 1000000 in
theorem w_X2_listFrom {D : Nat → Nat → Int32} {L : Nat → Nat → Int64} {Q : bh_Q} (hW : WF (tv D)) {w : Nat} (hw : w < nw (tv D)) (k1 : ∀ D', OffH D D' → HdL D' (ch (tv D) w) → Q none (hp D' L)) : bh_wc 2 m_X2_listFrom [.ref 31, .ref 1, .int (nI w)] (hp D L) Q := by
  refine x_start (lv0 := [_, _, _]) (Nat.le_of_ble_eq_true rfl) rfl ?_
  refine x_aload (pc' := 1) rfl rfl rfl ?_
  refine x_aload (pc' := 2) rfl rfl rfl ?_
  refine x_iload (pc' := 3) rfl rfl rfl ?_
  refine x_int (pc' := 4) (v := nI 0) rfl rfl rfl ?_
  refine x_callV (pc' := 7) (d1 := 1) (Bs := [_, _, _]) rfl rfl rfl rfl rfl rfl rfl (Nat.le_of_ble_eq_true rfl) ⟨rfl, rfl⟩ (by decide) rfl (by decide) ?_
  refine w_X2_listUntilDead (dd := 0) hW (by decide) (isH_of hW hw) (fun D1 o1 hH => ?_)
  have e1 : (ch (tv D) w).takeWhile (fun y => !Nat.testBit 0 y) = ch (tv D) w := by
    have : ∀ l : List Nat, l.takeWhile (fun y => !Nat.testBit 0 y) = l := by
      intro l
      induction l with
      | nil => rfl
      | cons a l ih =>
        have e0 : (!Nat.testBit 0 a) = true := by simp
        rw [List.takeWhile_cons, if_pos e0, ih]
    exact this _
  rw [e1] at hH
  refine ⟨rfl, ?_⟩
  refine x_pop (pc' := 8) rfl rfl rfl ?_
  refine x_vret rfl rfl ?_
  exact k1 D1 o1 hH
set_option maxRecDepth 20000 in
set_option maxHeartbeats 1000000 in
theorem w_X9_handsOf {D : Nat → Nat → Int32} {L : Nat → Nat → Int64} {Q : bh_Q} (hW : WF (tv D)) {w : Nat} (hw : w < nw (tv D)) (k1 : ∀ D', OffH D D' → HdL D' (ch (tv D) w) → Q (some (.int (nI (ch (tv D) w).length))) (hp D' L)) : bh_wc 3 m_X9_handsOf [.ref 0, .int (nI w)] (hp D L) Q := by
  refine x_start (lv0 := [_, _]) (Nat.le_of_ble_eq_true rfl) rfl ?_
  refine x_aload (pc' := 1) rfl rfl rfl ?_
  refine x_getR (pc' := 4) rfl rfl rfl (by decide) rfl (by decide) rfl rfl ?_
  refine x_aload (pc' := 5) rfl rfl rfl ?_
  refine x_getR (pc' := 8) rfl rfl rfl (by decide) rfl (by decide) rfl rfl ?_
  refine x_iload (pc' := 9) rfl rfl rfl ?_
  refine x_callV (pc' := 12) (d1 := 2) (Bs := [_, _]) rfl rfl rfl rfl rfl rfl rfl (Nat.le_of_ble_eq_true rfl) ⟨rfl, rfl⟩ (by decide) rfl (by decide) ?_
  refine w_X2_listFrom hW hw (fun D1 o1 hH => ?_)
  refine ⟨rfl, ?_⟩
  refine x_aload (pc' := 13) rfl rfl rfl ?_
  refine x_getR (pc' := 16) rfl rfl rfl (by decide) rfl (by decide) rfl rfl ?_
  refine x_getI (j := 1) (pc' := 19) rfl rfl rfl (by decide) rfl (by decide) rfl rfl ?_
  refine x_top (hH.1) ?_
  refine x_iret rfl rfl ?_
  exact k1 D1 o1 hH
