/-! ===== praise, order: what goes down ===== -/
def gm (r : List Nat) (m : Nat) : Nat := if r = [] then 0 else m
theorem gm_nil {r : List Nat} {m : Nat} (h : r.length = 0) : gm r m = 0 := if_pos (List.length_eq_zero_iff.mp h)
theorem gm_pos {r : List Nat} {m : Nat} (h : 0 < r.length) : gm r m = m := if_neg (fun e => by rw [e] at h; exact absurd h (by decide))
def goD (j d : Nat) : List Nat → Nat → TW → TW
  | [], _, T => T
  | w :: r, n, T => goD j d r (gm r (n / d)) (bh_up2 T j w (T j w + nI (n - gm r (n / d))))
def goV (d : Nat) : List Nat → Nat → Int32 → Int32
  | [], _, v => v
  | _ :: r, n, _ => goV d r (gm r (n / d)) (nI (n - gm r (n / d)))
def goW (d : Nat) : List Nat → Nat → Int32 → Int32
  | [], _, v => v
  | _ :: r, n, _ => goW d r (gm r (n / d)) (nI n)
theorem goW_eq {d : Nat} : ∀ (r : List Nat) (x n : Nat) (v : Int32), goW d (x :: r) n v = goV d (x :: r) n v := by
  intro r
  induction r with
  | nil => intro x n v; show nI n = nI (n - gm [] (n / d)); rw [gm_nil (r := []) rfl, Nat.sub_zero]
  | cons y r ih => intro x n v; exact ih y (gm (y :: r) (n / d)) 0
theorem drop_cons {l : List Nat} {i x : Nat} {r : List Nat} (h : l.drop i = x :: r) : i < l.length ∧ l.getD i 0 = x ∧ l.drop (i + 1) = r ∧ r.length = l.length - i - 1 := by
  have h1 := congrArg List.length h
  rw [List.length_drop, List.length_cons] at h1
  refine ⟨by omega, ?_, ?_, by omega⟩
  · have h2 := congrArg (fun q => q.getD 0 0) h
    simp only [List.getD_eq_getElem?_getD, List.getElem?_drop, Nat.add_zero] at h2
    rw [List.getD_eq_getElem?_getD, h2]
    rfl
  · have h2 := congrArg List.tail h
    rw [List.tail_drop] at h2
    exact h2
theorem drop_nil {l : List Nat} {i : Nat} (h : l.drop i = []) : l.length ≤ i := List.drop_eq_nil_iff.mp h
theorem wf_goD {j d : Nat} (hj : j = 6 ∨ j = 7) : ∀ (r : List Nat) (n : Nat) (T : TW), WF T → WF (goD j d r n T) := by
  intro r
  induction r with
  | nil => intro n T h; exact h
  | cons x r ih => intro n T h; exact ih _ _ (wf_67 h hj _)
theorem isC_67 {j w : Nat} {v : Int32} (hj : j = 6 ∨ j = 7) {T : TW} : ∀ {r : List Nat}, isC T r → isC (bh_up2 T j w v) r := by
  intro r
  induction r with
  | nil => intro h; exact h
  | cons x r ih => intro h; refine ⟨?_, ?_, ih h.2.2⟩ <;> rcases hj with rfl | rfl <;> first | exact h.1 | exact h.2.1
theorem nw_67 {j w : Nat} {v : Int32} (hj : j = 6 ∨ j = 7) {T : TW} : nw (bh_up2 T j w v) = nw T := by rcases hj with rfl | rfl <;> rfl
theorem add_sub_nI {x : Int32} {n m : Nat} (h : m ≤ n) : x + nI n - nI m = x + nI (n - m) := by
  have e : nI (n - m) + nI m = nI n := by
    unfold nI
    rw [← Int32.ofNat_add]
    congr 1
    omega
  rw [← e, ← Int32.add_assoc, Int32.add_sub_cancel]
def praiseR (T : TW) (x y : Int32) : Int32 × Option TW := match dN (nw T) x, gift y with
  | some w, some n => (nI (n - gm (ch T w).tail (n / 10)), some (goD 6 10 (ch T w) n T))
  | _, _ => (-1, none)
def orderR (T : TW) (x y : Int32) : Int32 × Option TW := match dN (nw T) x, gift y with
  | some w, some n => (goV 2 (ch T w) n 0, some (goD 7 2 (ch T w) n T))
  | _, _ => (-1, none)
theorem praise_good {T : TW} {ps : List TW} {sh : Nat → Option TW} (x y : Int32) (hG : Good T ps sh) : Good (nxT T (praiseR T x y).2) (nxP T ps (praiseR T x y).2) sh := by
  refine good_nx hG (fun T' h => ?_)
  unfold praiseR at h
  split at h
  · cases h
    exact wf_goD (Or.inl rfl) _ _ _ hG.1
  next => cases h
theorem order_good {T : TW} {ps : List TW} {sh : Nat → Option TW} (x y : Int32) (hG : Good T ps sh) : Good (nxT T (orderR T x y).2) (nxP T ps (orderR T x y).2) sh := by
  refine good_nx hG (fun T' h => ?_)
  unfold orderR at h
  split at h
  · cases h
    exact wf_goD (Or.inr rfl) _ _ _ hG.1
  next => cases h
set_option maxRecDepth 20000 in
set_option maxHeartbeats 1000000 in
theorem l_X9_praise {l : List Nat} (hl : l.length ≤ 12) (hm : ∀ x ∈ l, x < 12) {d : Nat} {L : Nat → Nat → Int64} {Q : bh_Q} {a b : Int32} : ∀ (r : List Nat) (i n : Nat) (D : Nat → Nat → Int32) (v : Value), l.drop i = r → i ≤ 12 → n ≤ 9999 → HdL D l →
    (∀ D', (∀ k, k ≠ 7 → D' k = D k) → tv D' = goD 6 10 r n (tv D) → ∀ x3 x4 x5, bw m_X9_praise d Q 111 [.ref 0, .int a, .int b, x3, x4, x5] [] D' L) → bw m_X9_praise d Q 41 [.ref 0, .int a, .int b, .int (nI n), .int (nI i), v] [] D L := by
  intro r
  induction r with
  | nil =>
    intro i n D v hd hi hn hH k
    have hx0 := drop_nil hd
    refine x_iload (pc' := 43) rfl rfl rfl ?_
    refine x_aload (pc' := 44) rfl rfl rfl ?_
    refine x_getR (pc' := 47) rfl rfl rfl (by decide) rfl (by decide) rfl rfl ?_
    refine x_getI (j := 1) (pc' := 50) rfl rfl rfl (by decide) rfl (by decide) rfl rfl ?_
    refine x_top (hH.1) ?_
    refine y_ic_ge (pc' := 53) rfl rfl (by omega) (by omega) (fun c50 => ?_) (fun c50 => ?_)
    · exact k D (fun _ _ => rfl) rfl _ _ _
    · exact absurd c50 (by omega)
  | cons x r ih =>
    intro i n D v hd hi hn hH k
    obtain ⟨hx0, hx1, hx2, hx3⟩ := drop_cons hd
    have hx4 : x < 12 := by rw [← hx1]; exact hm _ (getD_mem hx0)
    refine x_iload (pc' := 43) rfl rfl rfl ?_
    refine x_aload (pc' := 44) rfl rfl rfl ?_
    refine x_getR (pc' := 47) rfl rfl rfl (by decide) rfl (by decide) rfl rfl ?_
    refine x_getI (j := 1) (pc' := 50) rfl rfl rfl (by decide) rfl (by decide) rfl rfl ?_
    refine x_top (hH.1) ?_
    refine y_ic_ge (pc' := 53) rfl rfl (by omega) (by omega) (fun c50 => ?_) (fun c50 => ?_)
    · exact absurd c50 (by omega)
    · refine x_iload (pc' := 55) rfl rfl rfl ?_
      refine x_aload (pc' := 56) rfl rfl rfl ?_
      refine x_getR (pc' := 59) rfl rfl rfl (by decide) rfl (by decide) rfl rfl ?_
      refine x_getI (j := 1) (pc' := 62) rfl rfl rfl (by decide) rfl (by decide) rfl rfl ?_
      refine x_top (hH.1) ?_
      refine x_int (pc' := 63) (v := nI 1) rfl rfl rfl ?_
      refine y_isub (pc' := 64) rfl rfl (by omega) ?_
      refine y_ic_ne (pc' := 67) rfl rfl (by omega) (by omega) (fun c64 => ?_) (fun c64 => ?_)
      · refine x_iload (pc' := 72) rfl rfl rfl ?_
        refine x_int (pc' := 74) (v := nI 10) rfl rfl rfl ?_
        refine y_idiv (pc' := 75) rfl rfl (by omega) (by omega) (by omega) ?_
        refine x_istore (pc' := 77) (lv' := [_, _, _, _, _, _]) rfl rfl (by decide) rfl ?_
        refine x_aload (pc' := 78) rfl rfl rfl ?_
        refine x_getR (pc' := 81) rfl rfl rfl (by decide) rfl (by decide) rfl rfl ?_
        refine x_getR (pc' := 84) rfl rfl rfl (by decide) rfl (by decide) rfl rfl ?_
        refine x_aload (pc' := 85) rfl rfl rfl ?_
        refine x_getR (pc' := 88) rfl rfl rfl (by decide) rfl (by decide) rfl rfl ?_
        refine x_getR (pc' := 91) rfl rfl rfl (by decide) rfl (by decide) rfl rfl ?_
        refine x_iload (pc' := 93) rfl rfl rfl ?_
        refine x_iald (pc' := 94) rfl rfl (by decide) rfl (by decide) (show _ < 12 by omega) ?_
        refine x_top ((hH.2 i hx0).trans (congrArg nI hx1)) ?_
        refine x_dup2 (pc' := 95) rfl rfl rfl rfl ?_
        refine x_iald (pc' := 96) rfl rfl (by decide) rfl (by decide) (show _ < 12 by omega) ?_
        refine x_iload (pc' := 97) rfl rfl rfl ?_
        refine x_iload (pc' := 99) rfl rfl rfl ?_
        refine y_isub (pc' := 100) rfl rfl (by omega) ?_
        refine x_iadd (pc' := 101) rfl rfl ?_
        refine x_iast (pc' := 102) rfl rfl (by decide) rfl (by decide) (show _ < 12 by omega) ?_
        refine x_iload (pc' := 104) rfl rfl rfl ?_
        refine x_istore (pc' := 105) (lv' := [_, _, _, _, _, _]) rfl rfl (by decide) rfl ?_
        refine y_inc (pc' := 108) (lv' := [_, _, _, _, _, _]) rfl rfl rfl (by decide) rfl ?_
        refine x_goto rfl ?_
        first
          | (have eg := gm_nil (r := r) (m := n / 10) (by omega)
             refine ih (i + 1) (0) _ _ hx2 (by omega) (by omega) hH (fun D2 f2 t2 x3 x4 x5 => ?_)
             refine k D2 (fun q hq => (f2 q hq).trans (bh_up2_ne _ _ _ hq)) ?_ _ _ _
             rw [t2, tv_up (j := 6) rfl (by decide)]
             show goD 6 10 r _ _ = goD 6 10 r (gm r (n / 10)) (bh_up2 (tv D) 6 x (tv D 6 x + nI (n - gm r (n / 10))))
             rw [eg]
             try rfl)
          | (have eg := gm_pos (r := r) (m := n / 10) (by omega)
             refine ih (i + 1) (n / 10) _ _ hx2 (by omega) (by omega) hH (fun D2 f2 t2 x3 x4 x5 => ?_)
             refine k D2 (fun q hq => (f2 q hq).trans (bh_up2_ne _ _ _ hq)) ?_ _ _ _
             rw [t2, tv_up (j := 6) rfl (by decide)]
             show goD 6 10 r _ _ = goD 6 10 r (gm r (n / 10)) (bh_up2 (tv D) 6 x (tv D 6 x + nI (n - gm r (n / 10))))
             rw [eg]
             try rfl)
      · refine x_int (pc' := 68) (v := nI 0) rfl rfl rfl ?_
        refine x_goto rfl ?_
        refine x_istore (pc' := 77) (lv' := [_, _, _, _, _, _]) rfl rfl (by decide) rfl ?_
        refine x_aload (pc' := 78) rfl rfl rfl ?_
        refine x_getR (pc' := 81) rfl rfl rfl (by decide) rfl (by decide) rfl rfl ?_
        refine x_getR (pc' := 84) rfl rfl rfl (by decide) rfl (by decide) rfl rfl ?_
        refine x_aload (pc' := 85) rfl rfl rfl ?_
        refine x_getR (pc' := 88) rfl rfl rfl (by decide) rfl (by decide) rfl rfl ?_
        refine x_getR (pc' := 91) rfl rfl rfl (by decide) rfl (by decide) rfl rfl ?_
        refine x_iload (pc' := 93) rfl rfl rfl ?_
        refine x_iald (pc' := 94) rfl rfl (by decide) rfl (by decide) (show _ < 12 by omega) ?_
        refine x_top ((hH.2 i hx0).trans (congrArg nI hx1)) ?_
        refine x_dup2 (pc' := 95) rfl rfl rfl rfl ?_
        refine x_iald (pc' := 96) rfl rfl (by decide) rfl (by decide) (show _ < 12 by omega) ?_
        refine x_iload (pc' := 97) rfl rfl rfl ?_
        refine x_iload (pc' := 99) rfl rfl rfl ?_
        refine y_isub (pc' := 100) rfl rfl (by omega) ?_
        refine x_iadd (pc' := 101) rfl rfl ?_
        refine x_iast (pc' := 102) rfl rfl (by decide) rfl (by decide) (show _ < 12 by omega) ?_
        refine x_iload (pc' := 104) rfl rfl rfl ?_
        refine x_istore (pc' := 105) (lv' := [_, _, _, _, _, _]) rfl rfl (by decide) rfl ?_
        refine y_inc (pc' := 108) (lv' := [_, _, _, _, _, _]) rfl rfl rfl (by decide) rfl ?_
        refine x_goto rfl ?_
        first
          | (have eg := gm_nil (r := r) (m := n / 10) (by omega)
             refine ih (i + 1) (0) _ _ hx2 (by omega) (by omega) hH (fun D2 f2 t2 x3 x4 x5 => ?_)
             refine k D2 (fun q hq => (f2 q hq).trans (bh_up2_ne _ _ _ hq)) ?_ _ _ _
             rw [t2, tv_up (j := 6) rfl (by decide)]
             show goD 6 10 r _ _ = goD 6 10 r (gm r (n / 10)) (bh_up2 (tv D) 6 x (tv D 6 x + nI (n - gm r (n / 10))))
             rw [eg]
             try rfl)
          | (have eg := gm_pos (r := r) (m := n / 10) (by omega)
             refine ih (i + 1) (n / 10) _ _ hx2 (by omega) (by omega) hH (fun D2 f2 t2 x3 x4 x5 => ?_)
             refine k D2 (fun q hq => (f2 q hq).trans (bh_up2_ne _ _ _ hq)) ?_ _ _ _
             rw [t2, tv_up (j := 6) rfl (by decide)]
             show goD 6 10 r _ _ = goD 6 10 r (gm r (n / 10)) (bh_up2 (tv D) 6 x (tv D 6 x + nI (n - gm r (n / 10))))
             rw [eg]
             try rfl)
set_option maxRecDepth 20000 in
set_option maxHeartbeats 1000000 in
theorem l_X9_order {l : List Nat} (hl : l.length ≤ 12) (hm : ∀ x ∈ l, x < 12) {d : Nat} {L : Nat → Nat → Int64} {Q : bh_Q} {a b : Int32} : ∀ (r : List Nat) (i n : Nat) (D : Nat → Nat → Int32) (v : Value) (v4 : Int32), l.drop i = r → i ≤ 12 → n ≤ 9999 → HdL D l →
    (∀ D', (∀ k, k ≠ 8 → D' k = D k) → tv D' = goD 7 2 r n (tv D) → ∀ x3 x5 x6, bw m_X9_order d Q 116 [.ref 0, .int a, .int b, x3, .int (goW 2 r n v4), x5, x6] [] D' L) → bw m_X9_order d Q 44 [.ref 0, .int a, .int b, .int (nI n), .int v4, .int (nI i), v] [] D L := by
  intro r
  induction r with
  | nil =>
    intro i n D v v4 hd hi hn hH k
    have hx0 := drop_nil hd
    refine x_iload (pc' := 46) rfl rfl rfl ?_
    refine x_aload (pc' := 47) rfl rfl rfl ?_
    refine x_getR (pc' := 50) rfl rfl rfl (by decide) rfl (by decide) rfl rfl ?_
    refine x_getI (j := 1) (pc' := 53) rfl rfl rfl (by decide) rfl (by decide) rfl rfl ?_
    refine x_top (hH.1) ?_
    refine y_ic_ge (pc' := 56) rfl rfl (by omega) (by omega) (fun c53 => ?_) (fun c53 => ?_)
    · exact k D (fun _ _ => rfl) rfl _ _ _
    · exact absurd c53 (by omega)
  | cons x r ih =>
    intro i n D v v4 hd hi hn hH k
    obtain ⟨hx0, hx1, hx2, hx3⟩ := drop_cons hd
    have hx4 : x < 12 := by rw [← hx1]; exact hm _ (getD_mem hx0)
    refine x_iload (pc' := 46) rfl rfl rfl ?_
    refine x_aload (pc' := 47) rfl rfl rfl ?_
    refine x_getR (pc' := 50) rfl rfl rfl (by decide) rfl (by decide) rfl rfl ?_
    refine x_getI (j := 1) (pc' := 53) rfl rfl rfl (by decide) rfl (by decide) rfl rfl ?_
    refine x_top (hH.1) ?_
    refine y_ic_ge (pc' := 56) rfl rfl (by omega) (by omega) (fun c53 => ?_) (fun c53 => ?_)
    · exact absurd c53 (by omega)
    · refine x_iload (pc' := 58) rfl rfl rfl ?_
      refine x_aload (pc' := 59) rfl rfl rfl ?_
      refine x_getR (pc' := 62) rfl rfl rfl (by decide) rfl (by decide) rfl rfl ?_
      refine x_getI (j := 1) (pc' := 65) rfl rfl rfl (by decide) rfl (by decide) rfl rfl ?_
      refine x_top (hH.1) ?_
      refine x_int (pc' := 66) (v := nI 1) rfl rfl rfl ?_
      refine y_isub (pc' := 67) rfl rfl (by omega) ?_
      refine y_ic_ne (pc' := 70) rfl rfl (by omega) (by omega) (fun c67 => ?_) (fun c67 => ?_)
      · refine x_iload (pc' := 75) rfl rfl rfl ?_
        refine x_int (pc' := 76) (v := nI 2) rfl rfl rfl ?_
        refine y_idiv (pc' := 77) rfl rfl (by omega) (by omega) (by omega) ?_
        refine x_istore (pc' := 79) (lv' := [_, _, _, _, _, _, _]) rfl rfl (by decide) rfl ?_
        refine x_aload (pc' := 80) rfl rfl rfl ?_
        refine x_getR (pc' := 83) rfl rfl rfl (by decide) rfl (by decide) rfl rfl ?_
        refine x_getR (pc' := 86) rfl rfl rfl (by decide) rfl (by decide) rfl rfl ?_
        refine x_aload (pc' := 87) rfl rfl rfl ?_
        refine x_getR (pc' := 90) rfl rfl rfl (by decide) rfl (by decide) rfl rfl ?_
        refine x_getR (pc' := 93) rfl rfl rfl (by decide) rfl (by decide) rfl rfl ?_
        refine x_iload (pc' := 95) rfl rfl rfl ?_
        refine x_iald (pc' := 96) rfl rfl (by decide) rfl (by decide) (show _ < 12 by omega) ?_
        refine x_top ((hH.2 i hx0).trans (congrArg nI hx1)) ?_
        refine x_dup2 (pc' := 97) rfl rfl rfl rfl ?_
        refine x_iald (pc' := 98) rfl rfl (by decide) rfl (by decide) (show _ < 12 by omega) ?_
        refine x_iload (pc' := 99) rfl rfl rfl ?_
        refine x_iload (pc' := 101) rfl rfl rfl ?_
        refine y_isub (pc' := 102) rfl rfl (by omega) ?_
        refine x_iadd (pc' := 103) rfl rfl ?_
        refine x_iast (pc' := 104) rfl rfl (by decide) rfl (by decide) (show _ < 12 by omega) ?_
        refine x_iload (pc' := 105) rfl rfl rfl ?_
        refine x_istore (pc' := 107) (lv' := [_, _, _, _, _, _, _]) rfl rfl (by decide) rfl ?_
        refine x_iload (pc' := 109) rfl rfl rfl ?_
        refine x_istore (pc' := 110) (lv' := [_, _, _, _, _, _, _]) rfl rfl (by decide) rfl ?_
        refine y_inc (pc' := 113) (lv' := [_, _, _, _, _, _, _]) rfl rfl rfl (by decide) rfl ?_
        refine x_goto rfl ?_
        first
          | (have eg := gm_nil (r := r) (m := n / 2) (by omega)
             refine ih (i + 1) (0) _ _ _ hx2 (by omega) (by omega) hH (fun D2 f2 t2 x3 x5 x6 => ?_)
             have hh := k D2 (fun q hq => (f2 q hq).trans (bh_up2_ne _ _ _ hq)) ?_ x3 x5 x6
             · have ew : goW 2 (x :: r) n v4 = goW 2 r (0) (nI n) := by rw [← eg]; rfl
               rw [ew] at hh
               exact hh
             rw [t2, tv_up (j := 7) rfl (by decide)]
             show goD 7 2 r _ _ = goD 7 2 r (gm r (n / 2)) (bh_up2 (tv D) 7 x (tv D 7 x + nI (n - gm r (n / 2))))
             rw [eg]
             try rfl)
          | (have eg := gm_pos (r := r) (m := n / 2) (by omega)
             refine ih (i + 1) (n / 2) _ _ _ hx2 (by omega) (by omega) hH (fun D2 f2 t2 x3 x5 x6 => ?_)
             have hh := k D2 (fun q hq => (f2 q hq).trans (bh_up2_ne _ _ _ hq)) ?_ x3 x5 x6
             · have ew : goW 2 (x :: r) n v4 = goW 2 r (n / 2) (nI n) := by rw [← eg]; rfl
               rw [ew] at hh
               exact hh
             rw [t2, tv_up (j := 7) rfl (by decide)]
             show goD 7 2 r _ _ = goD 7 2 r (gm r (n / 2)) (bh_up2 (tv D) 7 x (tv D 7 x + nI (n - gm r (n / 2))))
             rw [eg]
             try rfl)
      · refine x_int (pc' := 71) (v := nI 0) rfl rfl rfl ?_
        refine x_goto rfl ?_
        refine x_istore (pc' := 79) (lv' := [_, _, _, _, _, _, _]) rfl rfl (by decide) rfl ?_
        refine x_aload (pc' := 80) rfl rfl rfl ?_
        refine x_getR (pc' := 83) rfl rfl rfl (by decide) rfl (by decide) rfl rfl ?_
        refine x_getR (pc' := 86) rfl rfl rfl (by decide) rfl (by decide) rfl rfl ?_
        refine x_aload (pc' := 87) rfl rfl rfl ?_
        refine x_getR (pc' := 90) rfl rfl rfl (by decide) rfl (by decide) rfl rfl ?_
        refine x_getR (pc' := 93) rfl rfl rfl (by decide) rfl (by decide) rfl rfl ?_
        refine x_iload (pc' := 95) rfl rfl rfl ?_
        refine x_iald (pc' := 96) rfl rfl (by decide) rfl (by decide) (show _ < 12 by omega) ?_
        refine x_top ((hH.2 i hx0).trans (congrArg nI hx1)) ?_
        refine x_dup2 (pc' := 97) rfl rfl rfl rfl ?_
        refine x_iald (pc' := 98) rfl rfl (by decide) rfl (by decide) (show _ < 12 by omega) ?_
        refine x_iload (pc' := 99) rfl rfl rfl ?_
        refine x_iload (pc' := 101) rfl rfl rfl ?_
        refine y_isub (pc' := 102) rfl rfl (by omega) ?_
        refine x_iadd (pc' := 103) rfl rfl ?_
        refine x_iast (pc' := 104) rfl rfl (by decide) rfl (by decide) (show _ < 12 by omega) ?_
        refine x_iload (pc' := 105) rfl rfl rfl ?_
        refine x_istore (pc' := 107) (lv' := [_, _, _, _, _, _, _]) rfl rfl (by decide) rfl ?_
        refine x_iload (pc' := 109) rfl rfl rfl ?_
        refine x_istore (pc' := 110) (lv' := [_, _, _, _, _, _, _]) rfl rfl (by decide) rfl ?_
        refine y_inc (pc' := 113) (lv' := [_, _, _, _, _, _, _]) rfl rfl rfl (by decide) rfl ?_
        refine x_goto rfl ?_
        first
          | (have eg := gm_nil (r := r) (m := n / 2) (by omega)
             refine ih (i + 1) (0) _ _ _ hx2 (by omega) (by omega) hH (fun D2 f2 t2 x3 x5 x6 => ?_)
             have hh := k D2 (fun q hq => (f2 q hq).trans (bh_up2_ne _ _ _ hq)) ?_ x3 x5 x6
             · have ew : goW 2 (x :: r) n v4 = goW 2 r (0) (nI n) := by rw [← eg]; rfl
               rw [ew] at hh
               exact hh
             rw [t2, tv_up (j := 7) rfl (by decide)]
             show goD 7 2 r _ _ = goD 7 2 r (gm r (n / 2)) (bh_up2 (tv D) 7 x (tv D 7 x + nI (n - gm r (n / 2))))
             rw [eg]
             try rfl)
          | (have eg := gm_pos (r := r) (m := n / 2) (by omega)
             refine ih (i + 1) (n / 2) _ _ _ hx2 (by omega) (by omega) hH (fun D2 f2 t2 x3 x5 x6 => ?_)
             have hh := k D2 (fun q hq => (f2 q hq).trans (bh_up2_ne _ _ _ hq)) ?_ x3 x5 x6
             · have ew : goW 2 (x :: r) n v4 = goW 2 r (n / 2) (nI n) := by rw [← eg]; rfl
               rw [ew] at hh
               exact hh
             rw [t2, tv_up (j := 7) rfl (by decide)]
             show goD 7 2 r _ _ = goD 7 2 r (gm r (n / 2)) (bh_up2 (tv D) 7 x (tv D 7 x + nI (n - gm r (n / 2))))
             rw [eg]
             try rfl)
set_option maxRecDepth 20000 in
set_option maxHeartbeats 1000000 in
theorem w_X9_praise {D : Nat → Nat → Int32} {L : Nat → Nat → Int64} {Q : bh_Q} {ps : List TW} {sh : Nat → Option TW} {tp : List Nat} (hI : InvC D ps sh tp) (hG : Good (tv D) ps sh) {x y : Int32} (k1 : ∀ D1, (∀ k, 205 ≤ k → D1 k = D k) → tv D1 = nxT (tv D) (praiseR (tv D) x y).2 → InvC D1 (nxP (tv D) ps (praiseR (tv D) x y).2) sh tp → Q (some (.int (praiseR (tv D) x y).1)) (hp D1 L)) : bh_wc 4 m_X9_praise [.ref 0, .int x, .int y] (hp D L) Q := by
  refine x_start (lv0 := [_, _, _, _, _, _]) (Nat.le_of_ble_eq_true rfl) rfl ?_
  have hW := hG.1
  have h12 := hW.nwl
  have hH := hI.1
  refine x_aload (pc' := 1) rfl rfl rfl ?_
  refine x_getR (pc' := 4) rfl rfl rfl (by decide) rfl (by decide) rfl rfl ?_
  refine x_iload (pc' := 5) rfl rfl rfl ?_
  refine x_callV (pc' := 8) (d1 := 1) (Bs := [_]) rfl rfl rfl rfl rfl rfl rfl (Nat.le_of_ble_eq_true rfl) ⟨rfl, rfl⟩ (by decide) rfl (by decide) ?_
  refine w_X7_isWriter hW (fun h5w h5l e => ?_) (fun h5 => ?_)
  · subst e
    refine ⟨rfl, ?_⟩
    refine x_if_eq (pc' := 11) rfl rfl (fun c8 => absurd c8 (by decide)) (fun _ => ?_)
    refine x_iload (pc' := 12) rfl rfl rfl ?_
    refine x_callS (pc' := 15) (d1 := 1) (As := [_]) rfl rfl rfl rfl (by decide) rfl rfl (Nat.le_of_ble_eq_true rfl) ⟨rfl, rfl⟩ (by decide) ?_
    refine w_X9_isGift (fun h12w h12a h12l h12e => ?_) (fun h12 => ?_)
    · subst h12e
      refine ⟨rfl, ?_⟩
      refine x_if_ne (pc' := 18) rfl rfl (fun _ => ?_) (fun c15 => absurd c15 (by decide))
      refine x_aload (pc' := 21) rfl rfl rfl ?_
      refine x_callV (pc' := 24) (d1 := 3) (Bs := []) rfl rfl rfl rfl rfl rfl rfl (Nat.le_of_ble_eq_true rfl) ⟨rfl, rfl⟩ (by decide) rfl (by decide) ?_
      refine w_X9_remember hH (fun D1 f1 g1 hH1 => ?_)
      refine ⟨rfl, ?_⟩
      refine x_aload (pc' := 25) rfl rfl rfl ?_
      refine x_getR (pc' := 28) rfl rfl rfl (by decide) rfl (by decide) rfl rfl ?_
      refine x_aload (pc' := 29) rfl rfl rfl ?_
      refine x_getR (pc' := 32) rfl rfl rfl (by decide) rfl (by decide) rfl rfl ?_
      refine x_iload (pc' := 33) rfl rfl rfl ?_
      refine x_callV (pc' := 36) (d1 := 2) (Bs := [_, _]) rfl rfl rfl rfl rfl rfl rfl (Nat.le_of_ble_eq_true rfl) ⟨rfl, rfl⟩ (by decide) rfl (by decide) ?_
      refine w_X2_listFrom (D := D1) (by rw [frc_tv f1]; exact hW) (by rw [frc_tv f1]; exact h5l) (fun D2 o2 hH2 => ?_)
      rw [frc_tv f1] at hH2
      refine ⟨rfl, ?_⟩
      refine x_iload (pc' := 37) rfl rfl rfl ?_
      refine x_istore (pc' := 38) (lv' := [_, _, _, _, _, _]) rfl rfl (by decide) rfl ?_
      refine x_int (pc' := 39) (v := nI 0) rfl rfl rfl ?_
      refine x_istore (pc' := 41) (lv' := [_, _, _, _, _, _]) rfl rfl (by decide) rfl ?_
      have hl12 := (isH_of hW h5l).2.1
      have hm := ch_mem hW h5l
      refine l_X9_praise hl12 (fun x hx => by have := hm x hx; omega) (ch (tv D) h5w) 0 h12w D2 _ rfl (by decide) h12l hH2 (fun D3 f3 t3 x3 x4 x5 => ?_)
      have hm3 : D3 31 1 = nI (ch (tv D) h5w).length := by rw [f3 31 (by decide)]; exact hH2.1
      refine x_aload (pc' := 112) rfl rfl rfl ?_
      refine x_getR (pc' := 115) rfl rfl rfl (by decide) rfl (by decide) rfl rfl ?_
      refine x_getI (j := 1) (pc' := 118) rfl rfl rfl (by decide) rfl (by decide) rfl rfl ?_
      refine x_top (hm3) ?_
      refine x_int (pc' := 119) (v := nI 1) rfl rfl rfl ?_
      refine y_ic_ne (pc' := 122) rfl rfl (by omega) (by omega) (fun c119 => ?_) (fun c119 => ?_)
      · refine x_iload (pc' := 127) rfl rfl rfl ?_
        refine x_iload (pc' := 128) rfl rfl rfl ?_
        refine x_int (pc' := 130) (v := nI 10) rfl rfl rfl ?_
        refine y_idiv (pc' := 131) rfl rfl (by omega) (by omega) (by omega) ?_
        refine y_isub (pc' := 132) rfl rfl (by omega) ?_
        refine x_iret rfl rfl ?_
        have e : praiseR (tv D) (nI h5w) (nI h12w) = (nI (h12w - gm (ch (tv D) h5w).tail (h12w / 10)), some (goD 6 10 (ch (tv D) h5w) h12w (tv D))) := by unfold praiseR; rw [dN_some h5l (by omega), gift_some h12a h12l]
        have etl : (ch (tv D) h5w).tail.length = (ch (tv D) h5w).length - 1 := List.length_tail
        have hc0 : 0 < (ch (tv D) h5w).length := Nat.succ_pos _
        first
          | (have eg := gm_nil (r := (ch (tv D) h5w).tail) (m := h12w / 10) (by omega)
             rw [eg] at e
             refine actC hI f1 g1 hH1 k1 e (by rw [f3 0 (by decide), o2 0 (by decide) (by decide)]) (fun k a b => ?_) (by rw [t3, o2.tv, frc_tv f1])
             rw [f3 k (by omega), o2 k (by omega) (by omega)])
          | (have eg := gm_pos (r := (ch (tv D) h5w).tail) (m := h12w / 10) (by omega)
             rw [eg] at e
             refine actC hI f1 g1 hH1 k1 e (by rw [f3 0 (by decide), o2 0 (by decide) (by decide)]) (fun k a b => ?_) (by rw [t3, o2.tv, frc_tv f1])
             rw [f3 k (by omega), o2 k (by omega) (by omega)])
      · refine x_iload (pc' := 123) rfl rfl rfl ?_
        refine x_goto rfl ?_
        refine x_iret rfl rfl ?_
        have e : praiseR (tv D) (nI h5w) (nI h12w) = (nI (h12w - gm (ch (tv D) h5w).tail (h12w / 10)), some (goD 6 10 (ch (tv D) h5w) h12w (tv D))) := by unfold praiseR; rw [dN_some h5l (by omega), gift_some h12a h12l]
        have etl : (ch (tv D) h5w).tail.length = (ch (tv D) h5w).length - 1 := List.length_tail
        have hc0 : 0 < (ch (tv D) h5w).length := Nat.succ_pos _
        first
          | (have eg := gm_nil (r := (ch (tv D) h5w).tail) (m := h12w / 10) (by omega)
             rw [eg] at e
             refine actC hI f1 g1 hH1 k1 e (by rw [f3 0 (by decide), o2 0 (by decide) (by decide)]) (fun k a b => ?_) (by rw [t3, o2.tv, frc_tv f1])
             rw [f3 k (by omega), o2 k (by omega) (by omega)])
          | (have eg := gm_pos (r := (ch (tv D) h5w).tail) (m := h12w / 10) (by omega)
             rw [eg] at e
             refine actC hI f1 g1 hH1 k1 e (by rw [f3 0 (by decide), o2 0 (by decide) (by decide)]) (fun k a b => ?_) (by rw [t3, o2.tv, frc_tv f1])
             rw [f3 k (by omega), o2 k (by omega) (by omega)])
    · refine ⟨rfl, ?_⟩
      refine x_if_ne (pc' := 18) rfl rfl (fun c15 => absurd (by decide) c15) (fun _ => ?_)
      refine x_int (pc' := 19) (v := (-1)) rfl rfl rfl ?_
      refine x_iret rfl rfl ?_
      first
        | (have e : praiseR (tv D) x y = (-1, none) := by unfold praiseR; rw [dN_none (by omega) h5]
           rw [e] at k1
           exact k1 D (fun _ _ => rfl) rfl hI)
        | (have e : praiseR (tv D) (nI h5w) y = (-1, none) := by unfold praiseR; rw [dN_some h5l (by omega), gift_none h12]
           rw [e] at k1
           exact k1 D (fun _ _ => rfl) rfl hI)
  · refine ⟨rfl, ?_⟩
    refine x_if_eq (pc' := 11) rfl rfl (fun _ => ?_) (fun c8 => absurd (by decide) c8)
    refine x_int (pc' := 19) (v := (-1)) rfl rfl rfl ?_
    refine x_iret rfl rfl ?_
    first
      | (have e : praiseR (tv D) x y = (-1, none) := by unfold praiseR; rw [dN_none (by omega) h5]
         rw [e] at k1
         exact k1 D (fun _ _ => rfl) rfl hI)
      | (have e : praiseR (tv D) (nI h5w) y = (-1, none) := by unfold praiseR; rw [dN_some h5l (by omega), gift_none h12]
         rw [e] at k1
         exact k1 D (fun _ _ => rfl) rfl hI)
set_option maxRecDepth 20000 in
set_option maxHeartbeats 1000000 in
theorem w_X9_order {D : Nat → Nat → Int32} {L : Nat → Nat → Int64} {Q : bh_Q} {ps : List TW} {sh : Nat → Option TW} {tp : List Nat} (hI : InvC D ps sh tp) (hG : Good (tv D) ps sh) {x y : Int32} (k1 : ∀ D1, (∀ k, 205 ≤ k → D1 k = D k) → tv D1 = nxT (tv D) (orderR (tv D) x y).2 → InvC D1 (nxP (tv D) ps (orderR (tv D) x y).2) sh tp → Q (some (.int (orderR (tv D) x y).1)) (hp D1 L)) : bh_wc 4 m_X9_order [.ref 0, .int x, .int y] (hp D L) Q := by
  refine x_start (lv0 := [_, _, _, _, _, _, _]) (Nat.le_of_ble_eq_true rfl) rfl ?_
  have hW := hG.1
  have h12 := hW.nwl
  have hH := hI.1
  refine x_aload (pc' := 1) rfl rfl rfl ?_
  refine x_getR (pc' := 4) rfl rfl rfl (by decide) rfl (by decide) rfl rfl ?_
  refine x_iload (pc' := 5) rfl rfl rfl ?_
  refine x_callV (pc' := 8) (d1 := 1) (Bs := [_]) rfl rfl rfl rfl rfl rfl rfl (Nat.le_of_ble_eq_true rfl) ⟨rfl, rfl⟩ (by decide) rfl (by decide) ?_
  refine w_X7_isWriter hW (fun h5w h5l e => ?_) (fun h5 => ?_)
  · subst e
    refine ⟨rfl, ?_⟩
    refine x_if_eq (pc' := 11) rfl rfl (fun c8 => absurd c8 (by decide)) (fun _ => ?_)
    refine x_iload (pc' := 12) rfl rfl rfl ?_
    refine x_callS (pc' := 15) (d1 := 1) (As := [_]) rfl rfl rfl rfl (by decide) rfl rfl (Nat.le_of_ble_eq_true rfl) ⟨rfl, rfl⟩ (by decide) ?_
    refine w_X9_isGift (fun h12w h12a h12l h12e => ?_) (fun h12 => ?_)
    · subst h12e
      refine ⟨rfl, ?_⟩
      refine x_if_ne (pc' := 18) rfl rfl (fun _ => ?_) (fun c15 => absurd c15 (by decide))
      refine x_aload (pc' := 21) rfl rfl rfl ?_
      refine x_callV (pc' := 24) (d1 := 3) (Bs := []) rfl rfl rfl rfl rfl rfl rfl (Nat.le_of_ble_eq_true rfl) ⟨rfl, rfl⟩ (by decide) rfl (by decide) ?_
      refine w_X9_remember hH (fun D1 f1 g1 hH1 => ?_)
      refine ⟨rfl, ?_⟩
      refine x_aload (pc' := 25) rfl rfl rfl ?_
      refine x_getR (pc' := 28) rfl rfl rfl (by decide) rfl (by decide) rfl rfl ?_
      refine x_aload (pc' := 29) rfl rfl rfl ?_
      refine x_getR (pc' := 32) rfl rfl rfl (by decide) rfl (by decide) rfl rfl ?_
      refine x_iload (pc' := 33) rfl rfl rfl ?_
      refine x_callV (pc' := 36) (d1 := 2) (Bs := [_, _]) rfl rfl rfl rfl rfl rfl rfl (Nat.le_of_ble_eq_true rfl) ⟨rfl, rfl⟩ (by decide) rfl (by decide) ?_
      refine w_X2_listFrom (D := D1) (by rw [frc_tv f1]; exact hW) (by rw [frc_tv f1]; exact h5l) (fun D2 o2 hH2 => ?_)
      rw [frc_tv f1] at hH2
      refine ⟨rfl, ?_⟩
      refine x_iload (pc' := 37) rfl rfl rfl ?_
      refine x_istore (pc' := 38) (lv' := [_, _, _, _, _, _, _]) rfl rfl (by decide) rfl ?_
      refine x_iload (pc' := 39) rfl rfl rfl ?_
      refine x_istore (pc' := 41) (lv' := [_, _, _, _, _, _, _]) rfl rfl (by decide) rfl ?_
      refine x_int (pc' := 42) (v := nI 0) rfl rfl rfl ?_
      refine x_istore (pc' := 44) (lv' := [_, _, _, _, _, _, _]) rfl rfl (by decide) rfl ?_
      have hl12 := (isH_of hW h5l).2.1
      have hm := ch_mem hW h5l
      refine l_X9_order hl12 (fun x hx => by have := hm x hx; omega) (ch (tv D) h5w) 0 h12w D2 _ _ rfl (by decide) h12l hH2 (fun D3 f3 t3 x3 x5 x6 => ?_)
      have hm3 : D3 31 1 = nI (ch (tv D) h5w).length := by rw [f3 31 (by decide)]; exact hH2.1
      refine x_iload (pc' := 118) rfl rfl rfl ?_
      refine x_iret rfl rfl ?_
      have e : orderR (tv D) (nI h5w) (nI h12w) = (goV 2 (ch (tv D) h5w) h12w 0, some (goD 7 2 (ch (tv D) h5w) h12w (tv D))) := by unfold orderR; rw [dN_some h5l (by omega), gift_some h12a h12l]
      have ew : goW 2 (ch (tv D) h5w) h12w (nI h12w) = goV 2 (ch (tv D) h5w) h12w 0 := goW_eq _ _ _ _
      rw [ew]
      refine actC hI f1 g1 hH1 k1 e (by rw [f3 0 (by decide), o2 0 (by decide) (by decide)]) (fun k a b => ?_) (by rw [t3, o2.tv, frc_tv f1])
      rw [f3 k (by omega), o2 k (by omega) (by omega)]
    · refine ⟨rfl, ?_⟩
      refine x_if_ne (pc' := 18) rfl rfl (fun c15 => absurd (by decide) c15) (fun _ => ?_)
      refine x_int (pc' := 19) (v := (-1)) rfl rfl rfl ?_
      refine x_iret rfl rfl ?_
      first
        | (have e : orderR (tv D) x y = (-1, none) := by unfold orderR; rw [dN_none (by omega) h5]
           rw [e] at k1
           exact k1 D (fun _ _ => rfl) rfl hI)
        | (have e : orderR (tv D) (nI h5w) y = (-1, none) := by unfold orderR; rw [dN_some h5l (by omega), gift_none h12]
           rw [e] at k1
           exact k1 D (fun _ _ => rfl) rfl hI)
  · refine ⟨rfl, ?_⟩
    refine x_if_eq (pc' := 11) rfl rfl (fun _ => ?_) (fun c8 => absurd (by decide) c8)
    refine x_int (pc' := 19) (v := (-1)) rfl rfl rfl ?_
    refine x_iret rfl rfl ?_
    first
      | (have e : orderR (tv D) x y = (-1, none) := by unfold orderR; rw [dN_none (by omega) h5]
         rw [e] at k1
         exact k1 D (fun _ _ => rfl) rfl hI)
      | (have e : orderR (tv D) (nI h5w) y = (-1, none) := by unfold orderR; rw [dN_some h5l (by omega), gift_none h12]
         rw [e] at k1
         exact k1 D (fun _ _ => rfl) rfl hI)
theorem hd_nil {r : List Nat} (h : ¬ hdI r ≠ -1 ∨ hdI r = -1) (hm : ∀ x ∈ r, x < 12) : r = [] := by
  cases r with
  | nil => rfl
  | cons x r =>
    have : nI x = -1 := by rcases h with h | h; exact Classical.not_not.mp h; exact h
    exact absurd this (nI_m1 (by have := hm x List.mem_cons_self; omega))
theorem hd_pos {r : List Nat} (h : ¬ hdI r = -1) : 0 < r.length := by
  cases r with
  | nil => exact absurd rfl h
  | cons x r => exact Nat.succ_pos _
set_option maxRecDepth 20000 in
set_option maxHeartbeats 1000000 in
theorem l_X10_goesP {d : Nat} (hd : 2 ≤ d) {L : Nat → Nat → Int64} {Q : bh_Q} {a b : Int32} : ∀ (r : List Nat) (n y : Nat) (D : Nat → Nat → Int32) (T : TW) (v : Value), WF T → Rn T (D 206) → isC T r → n ≤ 9999 → y ≤ 9999 →
    (∀ D', OffL [205, 206] D D' → (∀ q, q ≠ 12 → D' 205 q = D 205 q) → Rn (goD 6 10 r n T) (D' 206) → D' 205 12 = goV 10 r n (D 205 12) → Q (some (.int (nI y))) (hp D' L)) → bw m_X10_goesDown d Q 9 [.ref 205, .int a, .int b, .int (nI 5), .int (nI 1), .int (nI n), .int (nI y), .int (hdI r), v] [] D L := by
  intro r
  induction r with
  | nil =>
    intro n y D T v hW hR hC hn hy k
    show bw m_X10_goesDown d Q 9 [.ref 205, .int a, .int b, .int (nI 5), .int (nI 1), .int (nI n), .int (nI y), .int (-1), v] [] D L
    refine x_iload (pc' := 11) rfl rfl rfl ?_
    refine x_int (pc' := 12) (v := (-1)) rfl rfl rfl ?_
    refine x_ic_eq (pc' := 15) rfl rfl (fun _ => ?_) (fun c12 => absurd (by decide) c12)
    refine x_iload (pc' := 112) rfl rfl rfl ?_
    refine x_iret rfl rfl ?_
    exact k D (fun _ _ => rfl) (fun _ _ => rfl) hR rfl
  | cons x r ih =>
    intro n y D T v hW hR hC hn hy k
    have h12 := hW.nwl
    obtain ⟨hx0, hx1, hx2⟩ := hC
    have hm2 : ∀ x ∈ r, x < 12 := fun x hx => by have := isC_mem hx2 x hx; omega
    show bw m_X10_goesDown d Q 9 [.ref 205, .int a, .int b, .int (nI 5), .int (nI 1), .int (nI n), .int (nI y), .int (nI x), v] [] D L
    refine x_iload (pc' := 11) rfl rfl rfl ?_
    refine x_int (pc' := 12) (v := (-1)) rfl rfl rfl ?_
    refine x_ic_eq (pc' := 15) rfl rfl (fun c12 => ?_) (fun c12 => ?_)
    · exact absurd c12 (nI_m1 (by omega))
    · refine x_aload (pc' := 16) rfl rfl rfl ?_
      refine x_iload (pc' := 18) rfl rfl rfl ?_
      refine x_callV (pc' := 21) (d1 := 2) (Bs := [_]) rfl rfl rfl rfl rfl rfl rfl (Nat.le_of_ble_eq_true rfl) ⟨rfl, rfl⟩ (by decide) rfl (by omega) ?_
      refine w_X10_under hW hR hx0 ?_
      refine ⟨rfl, ?_⟩
      refine x_top hx1 ?_
      refine x_int (pc' := 22) (v := (-1)) rfl rfl rfl ?_
      refine x_ic_ne (pc' := 25) rfl rfl (fun c22 => ?_) (fun c22 => ?_)
      · refine x_iload (pc' := 31) rfl rfl rfl ?_
        refine x_if_eq (pc' := 34) rfl rfl (fun c31 => absurd c31 (by decide)) (fun _ => ?_)
        refine x_iload (pc' := 36) rfl rfl rfl ?_
        refine x_int (pc' := 38) (v := nI 10) rfl rfl rfl ?_
        refine y_idiv (pc' := 39) rfl rfl (by omega) (by omega) (by omega) ?_
        refine x_goto rfl ?_
        refine x_istore (pc' := 48) (lv' := [_, _, _, _, _, _, _, _, _]) rfl rfl (by decide) rfl ?_
        refine x_aload (pc' := 49) rfl rfl rfl ?_
        refine x_iload (pc' := 51) rfl rfl rfl ?_
        refine x_iload (pc' := 52) rfl rfl rfl ?_
        refine x_aload (pc' := 53) rfl rfl rfl ?_
        refine x_iload (pc' := 55) rfl rfl rfl ?_
        refine x_iload (pc' := 56) rfl rfl rfl ?_
        refine x_callV (pc' := 59) (d1 := 1) (Bs := [_, _]) rfl rfl rfl rfl rfl rfl rfl (Nat.le_of_ble_eq_true rfl) ⟨rfl, rfl⟩ (by decide) rfl (by omega) ?_
        refine w_X10_of (by omega) (by decide) ?_
        refine ⟨rfl, ?_⟩
        refine x_top (hR.rfame hx0) ?_
        refine x_iload (pc' := 61) rfl rfl rfl ?_
        refine x_iadd (pc' := 62) rfl rfl ?_
        refine x_iload (pc' := 64) rfl rfl rfl ?_
        refine x_isub (pc' := 65) rfl rfl ?_
        refine x_callV (pc' := 68) (d1 := 1) (Bs := [_, _, _]) rfl rfl rfl rfl rfl rfl rfl (Nat.le_of_ble_eq_true rfl) ⟨rfl, rfl⟩ (by decide) rfl (by omega) ?_
        refine w_X10_puts_ (by omega) (by decide) ?_
        refine ⟨rfl, ?_⟩
        refine x_iload (pc' := 70) rfl rfl rfl ?_
        refine x_int (pc' := 71) (v := (-1)) rfl rfl rfl ?_
        refine x_ic_ne (pc' := 74) rfl rfl (fun c71 => ?_) (fun c71 => ?_)
        · refine x_iload (pc' := 84) rfl rfl rfl ?_
          refine x_istore (pc' := 86) (lv' := [_, _, _, _, _, _, _, _, _]) rfl rfl (by decide) rfl ?_
          refine x_aload (pc' := 87) rfl rfl rfl ?_
          refine x_iload (pc' := 89) rfl rfl rfl ?_
          refine x_iload (pc' := 91) rfl rfl rfl ?_
          refine y_isub (pc' := 92) rfl rfl (by omega) ?_
          refine x_putI (j := 12) (pc' := 95) rfl rfl rfl (by decide) rfl (by decide) rfl rfl ?_
          refine x_iload (pc' := 97) rfl rfl rfl ?_
          refine x_istore (pc' := 99) (lv' := [_, _, _, _, _, _, _, _, _]) rfl rfl (by decide) rfl ?_
          refine x_aload (pc' := 100) rfl rfl rfl ?_
          refine x_iload (pc' := 102) rfl rfl rfl ?_
          refine x_callV (pc' := 105) (d1 := 2) (Bs := [_]) rfl rfl rfl rfl rfl rfl rfl (Nat.le_of_ble_eq_true rfl) ⟨rfl, rfl⟩ (by decide) rfl (by omega) ?_
          refine w_X10_under (D := _) (T := bh_up2 T 6 x _) (wf_67 hW (Or.inl rfl) _) (by show Rn _ (bh_up2 D 206 _ _ 206); rw [bh_up2_k]; exact rn_up6 hW hR hx0 _) (by rw [nw_67 (Or.inl rfl)]; exact hx0) ?_
          refine ⟨rfl, ?_⟩
          refine x_top hx1 ?_
          refine x_istore (pc' := 107) (lv' := [_, _, _, _, _, _, _, _, _]) rfl rfl (by decide) rfl ?_
          refine x_goto rfl ?_
          first
            | (have er : r = [] := hd_nil (Or.inr c22) hm2; have eg := gm_nil (r := r) (m := n / 10) (by rw [er]; rfl)
               have ev : T 6 x + nI n - nI (0) = T 6 x + nI (n - gm r (n / 10)) := by rw [eg]; exact add_sub_nI (by omega)
               refine ih (0) y _ (bh_up2 T 6 x (T 6 x + nI (n - gm r (n / 10)))) _ (wf_67 hW (Or.inl rfl) _) ?_ (isC_67 (Or.inl rfl) hx2) (by omega) (by omega) (fun D2 f2 g2 r2 l2 => ?_)
               · show Rn _ (bh_up2 D 206 _ _ 206)
                 rw [bh_up2_k, ← ev]; exact rn_up6 hW hR hx0 _
               · refine k D2 (fun q hq => (f2 q hq).trans ((bh_up2_ne _ _ _ (fun e => hq (by rw [e]; decide))).trans (bh_up2_ne _ _ _ (fun e => hq (by rw [e]; decide))))) (fun q hq => (g2 q hq).trans ?_) ?_ ?_
                 · rw [bh_up2_k]; exact if_neg hq
                 · have : goD 6 10 (x :: r) n T = goD 6 10 r (0) (bh_up2 T 6 x (T 6 x + nI (n - gm r (n / 10)))) := by show goD 6 10 r (gm r (n / 10)) _ = _; rw [eg]
                   rw [this]; exact r2
                 · rw [l2, bh_up2_k]; show goV 10 r (0) (nI (n - (0))) = goV 10 r (gm r (n / 10)) (nI (n - gm r (n / 10))); rw [eg])
            | (have er : 0 < r.length := hd_pos c22; have eg := gm_pos (r := r) (m := n / 10) er
               have ev : T 6 x + nI n - nI (n / 10) = T 6 x + nI (n - gm r (n / 10)) := by rw [eg]; exact add_sub_nI (by omega)
               refine ih (n / 10) y _ (bh_up2 T 6 x (T 6 x + nI (n - gm r (n / 10)))) _ (wf_67 hW (Or.inl rfl) _) ?_ (isC_67 (Or.inl rfl) hx2) (by omega) (by omega) (fun D2 f2 g2 r2 l2 => ?_)
               · show Rn _ (bh_up2 D 206 _ _ 206)
                 rw [bh_up2_k, ← ev]; exact rn_up6 hW hR hx0 _
               · refine k D2 (fun q hq => (f2 q hq).trans ((bh_up2_ne _ _ _ (fun e => hq (by rw [e]; decide))).trans (bh_up2_ne _ _ _ (fun e => hq (by rw [e]; decide))))) (fun q hq => (g2 q hq).trans ?_) ?_ ?_
                 · rw [bh_up2_k]; exact if_neg hq
                 · have : goD 6 10 (x :: r) n T = goD 6 10 r (n / 10) (bh_up2 T 6 x (T 6 x + nI (n - gm r (n / 10)))) := by show goD 6 10 r (gm r (n / 10)) _ = _; rw [eg]
                   rw [this]; exact r2
                 · rw [l2, bh_up2_k]; show goV 10 r (n / 10) (nI (n - (n / 10))) = goV 10 r (gm r (n / 10)) (nI (n - gm r (n / 10))); rw [eg])
        · exact absurd c71 (nI_m1 (by omega))
      · refine x_int (pc' := 26) (v := nI 0) rfl rfl rfl ?_
        refine x_goto rfl ?_
        refine x_istore (pc' := 48) (lv' := [_, _, _, _, _, _, _, _, _]) rfl rfl (by decide) rfl ?_
        refine x_aload (pc' := 49) rfl rfl rfl ?_
        refine x_iload (pc' := 51) rfl rfl rfl ?_
        refine x_iload (pc' := 52) rfl rfl rfl ?_
        refine x_aload (pc' := 53) rfl rfl rfl ?_
        refine x_iload (pc' := 55) rfl rfl rfl ?_
        refine x_iload (pc' := 56) rfl rfl rfl ?_
        refine x_callV (pc' := 59) (d1 := 1) (Bs := [_, _]) rfl rfl rfl rfl rfl rfl rfl (Nat.le_of_ble_eq_true rfl) ⟨rfl, rfl⟩ (by decide) rfl (by omega) ?_
        refine w_X10_of (by omega) (by decide) ?_
        refine ⟨rfl, ?_⟩
        refine x_top (hR.rfame hx0) ?_
        refine x_iload (pc' := 61) rfl rfl rfl ?_
        refine x_iadd (pc' := 62) rfl rfl ?_
        refine x_iload (pc' := 64) rfl rfl rfl ?_
        refine x_isub (pc' := 65) rfl rfl ?_
        refine x_callV (pc' := 68) (d1 := 1) (Bs := [_, _, _]) rfl rfl rfl rfl rfl rfl rfl (Nat.le_of_ble_eq_true rfl) ⟨rfl, rfl⟩ (by decide) rfl (by omega) ?_
        refine w_X10_puts_ (by omega) (by decide) ?_
        refine ⟨rfl, ?_⟩
        refine x_iload (pc' := 70) rfl rfl rfl ?_
        refine x_int (pc' := 71) (v := (-1)) rfl rfl rfl ?_
        refine x_ic_ne (pc' := 74) rfl rfl (fun c71 => ?_) (fun c71 => ?_)
        · refine x_iload (pc' := 84) rfl rfl rfl ?_
          refine x_istore (pc' := 86) (lv' := [_, _, _, _, _, _, _, _, _]) rfl rfl (by decide) rfl ?_
          refine x_aload (pc' := 87) rfl rfl rfl ?_
          refine x_iload (pc' := 89) rfl rfl rfl ?_
          refine x_iload (pc' := 91) rfl rfl rfl ?_
          refine y_isub (pc' := 92) rfl rfl (by omega) ?_
          refine x_putI (j := 12) (pc' := 95) rfl rfl rfl (by decide) rfl (by decide) rfl rfl ?_
          refine x_iload (pc' := 97) rfl rfl rfl ?_
          refine x_istore (pc' := 99) (lv' := [_, _, _, _, _, _, _, _, _]) rfl rfl (by decide) rfl ?_
          refine x_aload (pc' := 100) rfl rfl rfl ?_
          refine x_iload (pc' := 102) rfl rfl rfl ?_
          refine x_callV (pc' := 105) (d1 := 2) (Bs := [_]) rfl rfl rfl rfl rfl rfl rfl (Nat.le_of_ble_eq_true rfl) ⟨rfl, rfl⟩ (by decide) rfl (by omega) ?_
          refine w_X10_under (D := _) (T := bh_up2 T 6 x _) (wf_67 hW (Or.inl rfl) _) (by show Rn _ (bh_up2 D 206 _ _ 206); rw [bh_up2_k]; exact rn_up6 hW hR hx0 _) (by rw [nw_67 (Or.inl rfl)]; exact hx0) ?_
          refine ⟨rfl, ?_⟩
          refine x_top hx1 ?_
          refine x_istore (pc' := 107) (lv' := [_, _, _, _, _, _, _, _, _]) rfl rfl (by decide) rfl ?_
          refine x_goto rfl ?_
          first
            | (have er : r = [] := hd_nil (Or.inr c22) hm2; have eg := gm_nil (r := r) (m := n / 10) (by rw [er]; rfl)
               have ev : T 6 x + nI n - nI (0) = T 6 x + nI (n - gm r (n / 10)) := by rw [eg]; exact add_sub_nI (by omega)
               refine ih (0) y _ (bh_up2 T 6 x (T 6 x + nI (n - gm r (n / 10)))) _ (wf_67 hW (Or.inl rfl) _) ?_ (isC_67 (Or.inl rfl) hx2) (by omega) (by omega) (fun D2 f2 g2 r2 l2 => ?_)
               · show Rn _ (bh_up2 D 206 _ _ 206)
                 rw [bh_up2_k, ← ev]; exact rn_up6 hW hR hx0 _
               · refine k D2 (fun q hq => (f2 q hq).trans ((bh_up2_ne _ _ _ (fun e => hq (by rw [e]; decide))).trans (bh_up2_ne _ _ _ (fun e => hq (by rw [e]; decide))))) (fun q hq => (g2 q hq).trans ?_) ?_ ?_
                 · rw [bh_up2_k]; exact if_neg hq
                 · have : goD 6 10 (x :: r) n T = goD 6 10 r (0) (bh_up2 T 6 x (T 6 x + nI (n - gm r (n / 10)))) := by show goD 6 10 r (gm r (n / 10)) _ = _; rw [eg]
                   rw [this]; exact r2
                 · rw [l2, bh_up2_k]; show goV 10 r (0) (nI (n - (0))) = goV 10 r (gm r (n / 10)) (nI (n - gm r (n / 10))); rw [eg])
            | (have er : 0 < r.length := hd_pos c22; have eg := gm_pos (r := r) (m := n / 10) er
               have ev : T 6 x + nI n - nI (n / 10) = T 6 x + nI (n - gm r (n / 10)) := by rw [eg]; exact add_sub_nI (by omega)
               refine ih (n / 10) y _ (bh_up2 T 6 x (T 6 x + nI (n - gm r (n / 10)))) _ (wf_67 hW (Or.inl rfl) _) ?_ (isC_67 (Or.inl rfl) hx2) (by omega) (by omega) (fun D2 f2 g2 r2 l2 => ?_)
               · show Rn _ (bh_up2 D 206 _ _ 206)
                 rw [bh_up2_k, ← ev]; exact rn_up6 hW hR hx0 _
               · refine k D2 (fun q hq => (f2 q hq).trans ((bh_up2_ne _ _ _ (fun e => hq (by rw [e]; decide))).trans (bh_up2_ne _ _ _ (fun e => hq (by rw [e]; decide))))) (fun q hq => (g2 q hq).trans ?_) ?_ ?_
                 · rw [bh_up2_k]; exact if_neg hq
                 · have : goD 6 10 (x :: r) n T = goD 6 10 r (n / 10) (bh_up2 T 6 x (T 6 x + nI (n - gm r (n / 10)))) := by show goD 6 10 r (gm r (n / 10)) _ = _; rw [eg]
                   rw [this]; exact r2
                 · rw [l2, bh_up2_k]; show goV 10 r (n / 10) (nI (n - (n / 10))) = goV 10 r (gm r (n / 10)) (nI (n - gm r (n / 10))); rw [eg])
        · exact absurd c71 (nI_m1 (by omega))
set_option maxRecDepth 20000 in
set_option maxHeartbeats 1000000 in
theorem f_X10_goesP {d : Nat} (hd : 2 ≤ d) {L : Nat → Nat → Int64} {Q : bh_Q} {a b : Int32} {x : Nat} {r : List Nat} {n : Nat} {D : Nat → Nat → Int32} {T : TW} {v : Value} (hW : WF T) (hR : Rn T (D 206)) (hC : isC T (x :: r)) (hn : n ≤ 9999)
    (k : ∀ D', OffL [205, 206] D D' → (∀ q, q ≠ 12 → D' 205 q = D 205 q) → Rn (goD 6 10 (x :: r) n T) (D' 206) → D' 205 12 = goV 10 (x :: r) n (D 205 12) → Q (some (.int (nI (n - gm r (n / 10))))) (hp D' L)) : bw m_X10_goesDown d Q 9 [.ref 205, .int a, .int b, .int (nI 5), .int (nI 1), .int (nI n), .int (-1), .int (nI x), v] [] D L := by
  have h12 := hW.nwl
  obtain ⟨hx0, hx1, hx2⟩ := hC
  have hm2 : ∀ x ∈ r, x < 12 := fun x hx => by have := isC_mem hx2 x hx; omega
  refine x_iload (pc' := 11) rfl rfl rfl ?_
  refine x_int (pc' := 12) (v := (-1)) rfl rfl rfl ?_
  refine x_ic_eq (pc' := 15) rfl rfl (fun c12 => ?_) (fun c12 => ?_)
  · exact absurd c12 (nI_m1 (by omega))
  · refine x_aload (pc' := 16) rfl rfl rfl ?_
    refine x_iload (pc' := 18) rfl rfl rfl ?_
    refine x_callV (pc' := 21) (d1 := 2) (Bs := [_]) rfl rfl rfl rfl rfl rfl rfl (Nat.le_of_ble_eq_true rfl) ⟨rfl, rfl⟩ (by decide) rfl (by omega) ?_
    refine w_X10_under hW hR hx0 ?_
    refine ⟨rfl, ?_⟩
    refine x_top hx1 ?_
    refine x_int (pc' := 22) (v := (-1)) rfl rfl rfl ?_
    refine x_ic_ne (pc' := 25) rfl rfl (fun c22 => ?_) (fun c22 => ?_)
    · refine x_iload (pc' := 31) rfl rfl rfl ?_
      refine x_if_eq (pc' := 34) rfl rfl (fun c31 => absurd c31 (by decide)) (fun _ => ?_)
      refine x_iload (pc' := 36) rfl rfl rfl ?_
      refine x_int (pc' := 38) (v := nI 10) rfl rfl rfl ?_
      refine y_idiv (pc' := 39) rfl rfl (by omega) (by omega) (by omega) ?_
      refine x_goto rfl ?_
      refine x_istore (pc' := 48) (lv' := [_, _, _, _, _, _, _, _, _]) rfl rfl (by decide) rfl ?_
      refine x_aload (pc' := 49) rfl rfl rfl ?_
      refine x_iload (pc' := 51) rfl rfl rfl ?_
      refine x_iload (pc' := 52) rfl rfl rfl ?_
      refine x_aload (pc' := 53) rfl rfl rfl ?_
      refine x_iload (pc' := 55) rfl rfl rfl ?_
      refine x_iload (pc' := 56) rfl rfl rfl ?_
      refine x_callV (pc' := 59) (d1 := 1) (Bs := [_, _]) rfl rfl rfl rfl rfl rfl rfl (Nat.le_of_ble_eq_true rfl) ⟨rfl, rfl⟩ (by decide) rfl (by omega) ?_
      refine w_X10_of (by omega) (by decide) ?_
      refine ⟨rfl, ?_⟩
      refine x_top (hR.rfame hx0) ?_
      refine x_iload (pc' := 61) rfl rfl rfl ?_
      refine x_iadd (pc' := 62) rfl rfl ?_
      refine x_iload (pc' := 64) rfl rfl rfl ?_
      refine x_isub (pc' := 65) rfl rfl ?_
      refine x_callV (pc' := 68) (d1 := 1) (Bs := [_, _, _]) rfl rfl rfl rfl rfl rfl rfl (Nat.le_of_ble_eq_true rfl) ⟨rfl, rfl⟩ (by decide) rfl (by omega) ?_
      refine w_X10_puts_ (by omega) (by decide) ?_
      refine ⟨rfl, ?_⟩
      refine x_iload (pc' := 70) rfl rfl rfl ?_
      refine x_int (pc' := 71) (v := (-1)) rfl rfl rfl ?_
      refine x_ic_ne (pc' := 74) rfl rfl (fun c71 => absurd (by decide) c71) (fun _ => ?_)
      refine x_iload (pc' := 76) rfl rfl rfl ?_
      refine x_iload (pc' := 78) rfl rfl rfl ?_
      refine y_isub (pc' := 79) rfl rfl (by omega) ?_
      refine x_goto rfl ?_
      refine x_istore (pc' := 86) (lv' := [_, _, _, _, _, _, _, _, _]) rfl rfl (by decide) rfl ?_
      refine x_aload (pc' := 87) rfl rfl rfl ?_
      refine x_iload (pc' := 89) rfl rfl rfl ?_
      refine x_iload (pc' := 91) rfl rfl rfl ?_
      refine y_isub (pc' := 92) rfl rfl (by omega) ?_
      refine x_putI (j := 12) (pc' := 95) rfl rfl rfl (by decide) rfl (by decide) rfl rfl ?_
      refine x_iload (pc' := 97) rfl rfl rfl ?_
      refine x_istore (pc' := 99) (lv' := [_, _, _, _, _, _, _, _, _]) rfl rfl (by decide) rfl ?_
      refine x_aload (pc' := 100) rfl rfl rfl ?_
      refine x_iload (pc' := 102) rfl rfl rfl ?_
      refine x_callV (pc' := 105) (d1 := 2) (Bs := [_]) rfl rfl rfl rfl rfl rfl rfl (Nat.le_of_ble_eq_true rfl) ⟨rfl, rfl⟩ (by decide) rfl (by omega) ?_
      refine w_X10_under (D := _) (T := bh_up2 T 6 x _) (wf_67 hW (Or.inl rfl) _) (by show Rn _ (bh_up2 D 206 _ _ 206); rw [bh_up2_k]; exact rn_up6 hW hR hx0 _) (by rw [nw_67 (Or.inl rfl)]; exact hx0) ?_
      refine ⟨rfl, ?_⟩
      refine x_top hx1 ?_
      refine x_istore (pc' := 107) (lv' := [_, _, _, _, _, _, _, _, _]) rfl rfl (by decide) rfl ?_
      refine x_goto rfl ?_
      first
        | (have er : r = [] := hd_nil (Or.inr c22) hm2; have eg := gm_nil (r := r) (m := n / 10) (by rw [er]; rfl)
           have ev : T 6 x + nI n - nI (0) = T 6 x + nI (n - gm r (n / 10)) := by rw [eg]; exact add_sub_nI (by omega)
           refine l_X10_goesP hd r (0) (n - 0) _ (bh_up2 T 6 x (T 6 x + nI (n - gm r (n / 10)))) _ (wf_67 hW (Or.inl rfl) _) ?_ (isC_67 (Or.inl rfl) hx2) (by omega) (by omega) (fun D2 f2 g2 r2 l2 => ?_)
           · show Rn _ (bh_up2 D 206 _ _ 206)
             rw [bh_up2_k, ← ev]; exact rn_up6 hW hR hx0 _
           · rw [eg] at k; refine k D2 (fun q hq => (f2 q hq).trans ((bh_up2_ne _ _ _ (fun e => hq (by rw [e]; decide))).trans (bh_up2_ne _ _ _ (fun e => hq (by rw [e]; decide))))) (fun q hq => (g2 q hq).trans ?_) ?_ ?_
             · rw [bh_up2_k]; exact if_neg hq
             · have : goD 6 10 (x :: r) n T = goD 6 10 r (0) (bh_up2 T 6 x (T 6 x + nI (n - gm r (n / 10)))) := by show goD 6 10 r (gm r (n / 10)) _ = _; rw [eg]
               rw [this]; exact r2
             · rw [l2, bh_up2_k]; show goV 10 r (0) (nI (n - (0))) = goV 10 r (gm r (n / 10)) (nI (n - gm r (n / 10))); rw [eg])
        | (have er : 0 < r.length := hd_pos c22; have eg := gm_pos (r := r) (m := n / 10) er
           have ev : T 6 x + nI n - nI (n / 10) = T 6 x + nI (n - gm r (n / 10)) := by rw [eg]; exact add_sub_nI (by omega)
           refine l_X10_goesP hd r (n / 10) (n - n / 10) _ (bh_up2 T 6 x (T 6 x + nI (n - gm r (n / 10)))) _ (wf_67 hW (Or.inl rfl) _) ?_ (isC_67 (Or.inl rfl) hx2) (by omega) (by omega) (fun D2 f2 g2 r2 l2 => ?_)
           · show Rn _ (bh_up2 D 206 _ _ 206)
             rw [bh_up2_k, ← ev]; exact rn_up6 hW hR hx0 _
           · rw [eg] at k; refine k D2 (fun q hq => (f2 q hq).trans ((bh_up2_ne _ _ _ (fun e => hq (by rw [e]; decide))).trans (bh_up2_ne _ _ _ (fun e => hq (by rw [e]; decide))))) (fun q hq => (g2 q hq).trans ?_) ?_ ?_
             · rw [bh_up2_k]; exact if_neg hq
             · have : goD 6 10 (x :: r) n T = goD 6 10 r (n / 10) (bh_up2 T 6 x (T 6 x + nI (n - gm r (n / 10)))) := by show goD 6 10 r (gm r (n / 10)) _ = _; rw [eg]
               rw [this]; exact r2
             · rw [l2, bh_up2_k]; show goV 10 r (n / 10) (nI (n - (n / 10))) = goV 10 r (gm r (n / 10)) (nI (n - gm r (n / 10))); rw [eg])
    · refine x_int (pc' := 26) (v := nI 0) rfl rfl rfl ?_
      refine x_goto rfl ?_
      refine x_istore (pc' := 48) (lv' := [_, _, _, _, _, _, _, _, _]) rfl rfl (by decide) rfl ?_
      refine x_aload (pc' := 49) rfl rfl rfl ?_
      refine x_iload (pc' := 51) rfl rfl rfl ?_
      refine x_iload (pc' := 52) rfl rfl rfl ?_
      refine x_aload (pc' := 53) rfl rfl rfl ?_
      refine x_iload (pc' := 55) rfl rfl rfl ?_
      refine x_iload (pc' := 56) rfl rfl rfl ?_
      refine x_callV (pc' := 59) (d1 := 1) (Bs := [_, _]) rfl rfl rfl rfl rfl rfl rfl (Nat.le_of_ble_eq_true rfl) ⟨rfl, rfl⟩ (by decide) rfl (by omega) ?_
      refine w_X10_of (by omega) (by decide) ?_
      refine ⟨rfl, ?_⟩
      refine x_top (hR.rfame hx0) ?_
      refine x_iload (pc' := 61) rfl rfl rfl ?_
      refine x_iadd (pc' := 62) rfl rfl ?_
      refine x_iload (pc' := 64) rfl rfl rfl ?_
      refine x_isub (pc' := 65) rfl rfl ?_
      refine x_callV (pc' := 68) (d1 := 1) (Bs := [_, _, _]) rfl rfl rfl rfl rfl rfl rfl (Nat.le_of_ble_eq_true rfl) ⟨rfl, rfl⟩ (by decide) rfl (by omega) ?_
      refine w_X10_puts_ (by omega) (by decide) ?_
      refine ⟨rfl, ?_⟩
      refine x_iload (pc' := 70) rfl rfl rfl ?_
      refine x_int (pc' := 71) (v := (-1)) rfl rfl rfl ?_
      refine x_ic_ne (pc' := 74) rfl rfl (fun c71 => absurd (by decide) c71) (fun _ => ?_)
      refine x_iload (pc' := 76) rfl rfl rfl ?_
      refine x_iload (pc' := 78) rfl rfl rfl ?_
      refine y_isub (pc' := 79) rfl rfl (by omega) ?_
      refine x_goto rfl ?_
      refine x_istore (pc' := 86) (lv' := [_, _, _, _, _, _, _, _, _]) rfl rfl (by decide) rfl ?_
      refine x_aload (pc' := 87) rfl rfl rfl ?_
      refine x_iload (pc' := 89) rfl rfl rfl ?_
      refine x_iload (pc' := 91) rfl rfl rfl ?_
      refine y_isub (pc' := 92) rfl rfl (by omega) ?_
      refine x_putI (j := 12) (pc' := 95) rfl rfl rfl (by decide) rfl (by decide) rfl rfl ?_
      refine x_iload (pc' := 97) rfl rfl rfl ?_
      refine x_istore (pc' := 99) (lv' := [_, _, _, _, _, _, _, _, _]) rfl rfl (by decide) rfl ?_
      refine x_aload (pc' := 100) rfl rfl rfl ?_
      refine x_iload (pc' := 102) rfl rfl rfl ?_
      refine x_callV (pc' := 105) (d1 := 2) (Bs := [_]) rfl rfl rfl rfl rfl rfl rfl (Nat.le_of_ble_eq_true rfl) ⟨rfl, rfl⟩ (by decide) rfl (by omega) ?_
      refine w_X10_under (D := _) (T := bh_up2 T 6 x _) (wf_67 hW (Or.inl rfl) _) (by show Rn _ (bh_up2 D 206 _ _ 206); rw [bh_up2_k]; exact rn_up6 hW hR hx0 _) (by rw [nw_67 (Or.inl rfl)]; exact hx0) ?_
      refine ⟨rfl, ?_⟩
      refine x_top hx1 ?_
      refine x_istore (pc' := 107) (lv' := [_, _, _, _, _, _, _, _, _]) rfl rfl (by decide) rfl ?_
      refine x_goto rfl ?_
      first
        | (have er : r = [] := hd_nil (Or.inr c22) hm2; have eg := gm_nil (r := r) (m := n / 10) (by rw [er]; rfl)
           have ev : T 6 x + nI n - nI (0) = T 6 x + nI (n - gm r (n / 10)) := by rw [eg]; exact add_sub_nI (by omega)
           refine l_X10_goesP hd r (0) (n - 0) _ (bh_up2 T 6 x (T 6 x + nI (n - gm r (n / 10)))) _ (wf_67 hW (Or.inl rfl) _) ?_ (isC_67 (Or.inl rfl) hx2) (by omega) (by omega) (fun D2 f2 g2 r2 l2 => ?_)
           · show Rn _ (bh_up2 D 206 _ _ 206)
             rw [bh_up2_k, ← ev]; exact rn_up6 hW hR hx0 _
           · rw [eg] at k; refine k D2 (fun q hq => (f2 q hq).trans ((bh_up2_ne _ _ _ (fun e => hq (by rw [e]; decide))).trans (bh_up2_ne _ _ _ (fun e => hq (by rw [e]; decide))))) (fun q hq => (g2 q hq).trans ?_) ?_ ?_
             · rw [bh_up2_k]; exact if_neg hq
             · have : goD 6 10 (x :: r) n T = goD 6 10 r (0) (bh_up2 T 6 x (T 6 x + nI (n - gm r (n / 10)))) := by show goD 6 10 r (gm r (n / 10)) _ = _; rw [eg]
               rw [this]; exact r2
             · rw [l2, bh_up2_k]; show goV 10 r (0) (nI (n - (0))) = goV 10 r (gm r (n / 10)) (nI (n - gm r (n / 10))); rw [eg])
        | (have er : 0 < r.length := hd_pos c22; have eg := gm_pos (r := r) (m := n / 10) er
           have ev : T 6 x + nI n - nI (n / 10) = T 6 x + nI (n - gm r (n / 10)) := by rw [eg]; exact add_sub_nI (by omega)
           refine l_X10_goesP hd r (n / 10) (n - n / 10) _ (bh_up2 T 6 x (T 6 x + nI (n - gm r (n / 10)))) _ (wf_67 hW (Or.inl rfl) _) ?_ (isC_67 (Or.inl rfl) hx2) (by omega) (by omega) (fun D2 f2 g2 r2 l2 => ?_)
           · show Rn _ (bh_up2 D 206 _ _ 206)
             rw [bh_up2_k, ← ev]; exact rn_up6 hW hR hx0 _
           · rw [eg] at k; refine k D2 (fun q hq => (f2 q hq).trans ((bh_up2_ne _ _ _ (fun e => hq (by rw [e]; decide))).trans (bh_up2_ne _ _ _ (fun e => hq (by rw [e]; decide))))) (fun q hq => (g2 q hq).trans ?_) ?_ ?_
             · rw [bh_up2_k]; exact if_neg hq
             · have : goD 6 10 (x :: r) n T = goD 6 10 r (n / 10) (bh_up2 T 6 x (T 6 x + nI (n - gm r (n / 10)))) := by show goD 6 10 r (gm r (n / 10)) _ = _; rw [eg]
               rw [this]; exact r2
             · rw [l2, bh_up2_k]; show goV 10 r (n / 10) (nI (n - (n / 10))) = goV 10 r (gm r (n / 10)) (nI (n - gm r (n / 10))); rw [eg])
set_option maxRecDepth 20000 in
set_option maxHeartbeats 1000000 in
theorem w_X10_goesP {D : Nat → Nat → Int32} {L : Nat → Nat → Int64} {Q : bh_Q} {T : TW} (hW : WF T) (hR : Rn T (D 206)) {w n : Nat} (hw : w < nw T) (hn : n ≤ 9999) (k1 : ∀ D', OffL [205, 206] D D' → (∀ q, q ≠ 12 → D' 205 q = D 205 q) → Rn (goD 6 10 (ch T w) n T) (D' 206) → D' 205 12 = goV 10 (ch T w) n (D 205 12) → Q (some (.int (nI (n - gm (ch T w).tail (n / 10))))) (hp D' L)) : bh_wc 3 m_X10_goesDown [.ref 205, .int (nI w), .int (nI n), .int (nI 5), .int (nI 1)] (hp D L) Q := by
  refine x_start (lv0 := [_, _, _, _, _, _, _, _, _]) (Nat.le_of_ble_eq_true rfl) rfl ?_
  refine x_iload (pc' := 1) rfl rfl rfl ?_
  refine x_istore (pc' := 3) (lv' := [_, _, _, _, _, _, _, _, _]) rfl rfl (by decide) rfl ?_
  refine x_int (pc' := 4) (v := (-1)) rfl rfl rfl ?_
  refine x_istore (pc' := 6) (lv' := [_, _, _, _, _, _, _, _, _]) rfl rfl (by decide) rfl ?_
  refine x_iload (pc' := 7) rfl rfl rfl ?_
  refine x_istore (pc' := 9) (lv' := [_, _, _, _, _, _, _, _, _]) rfl rfl (by decide) rfl ?_
  have hC : isC T (w :: (ch T w).tail) := (isH_of hW hw).1
  exact f_X10_goesP (by decide) hW hR hC hn k1
set_option maxRecDepth 20000 in
set_option maxHeartbeats 1000000 in
theorem l_X10_goesO {d : Nat} (hd : 2 ≤ d) {L : Nat → Nat → Int64} {Q : bh_Q} {a b : Int32} : ∀ (r : List Nat) (n y : Nat) (D : Nat → Nat → Int32) (T : TW) (v : Value), WF T → Rn T (D 206) → isC T r → n ≤ 9999 → y ≤ 9999 →
    (∀ D', OffL [205, 206] D D' → (∀ q, q ≠ 12 → D' 205 q = D 205 q) → Rn (goD 7 2 r n T) (D' 206) → D' 205 12 = goV 2 r n (D 205 12) → Q (some (.int (nI y))) (hp D' L)) → bw m_X10_goesDown d Q 9 [.ref 205, .int a, .int b, .int (nI 6), .int (nI 0), .int (nI n), .int (nI y), .int (hdI r), v] [] D L := by
  intro r
  induction r with
  | nil =>
    intro n y D T v hW hR hC hn hy k
    show bw m_X10_goesDown d Q 9 [.ref 205, .int a, .int b, .int (nI 6), .int (nI 0), .int (nI n), .int (nI y), .int (-1), v] [] D L
    refine x_iload (pc' := 11) rfl rfl rfl ?_
    refine x_int (pc' := 12) (v := (-1)) rfl rfl rfl ?_
    refine x_ic_eq (pc' := 15) rfl rfl (fun _ => ?_) (fun c12 => absurd (by decide) c12)
    refine x_iload (pc' := 112) rfl rfl rfl ?_
    refine x_iret rfl rfl ?_
    exact k D (fun _ _ => rfl) (fun _ _ => rfl) hR rfl
  | cons x r ih =>
    intro n y D T v hW hR hC hn hy k
    have h12 := hW.nwl
    obtain ⟨hx0, hx1, hx2⟩ := hC
    have hm2 : ∀ x ∈ r, x < 12 := fun x hx => by have := isC_mem hx2 x hx; omega
    show bw m_X10_goesDown d Q 9 [.ref 205, .int a, .int b, .int (nI 6), .int (nI 0), .int (nI n), .int (nI y), .int (nI x), v] [] D L
    refine x_iload (pc' := 11) rfl rfl rfl ?_
    refine x_int (pc' := 12) (v := (-1)) rfl rfl rfl ?_
    refine x_ic_eq (pc' := 15) rfl rfl (fun c12 => ?_) (fun c12 => ?_)
    · exact absurd c12 (nI_m1 (by omega))
    · refine x_aload (pc' := 16) rfl rfl rfl ?_
      refine x_iload (pc' := 18) rfl rfl rfl ?_
      refine x_callV (pc' := 21) (d1 := 2) (Bs := [_]) rfl rfl rfl rfl rfl rfl rfl (Nat.le_of_ble_eq_true rfl) ⟨rfl, rfl⟩ (by decide) rfl (by omega) ?_
      refine w_X10_under hW hR hx0 ?_
      refine ⟨rfl, ?_⟩
      refine x_top hx1 ?_
      refine x_int (pc' := 22) (v := (-1)) rfl rfl rfl ?_
      refine x_ic_ne (pc' := 25) rfl rfl (fun c22 => ?_) (fun c22 => ?_)
      · refine x_iload (pc' := 31) rfl rfl rfl ?_
        refine x_if_eq (pc' := 34) rfl rfl (fun _ => ?_) (fun c31 => absurd (by decide) c31)
        refine x_iload (pc' := 44) rfl rfl rfl ?_
        refine x_int (pc' := 45) (v := nI 2) rfl rfl rfl ?_
        refine y_idiv (pc' := 46) rfl rfl (by omega) (by omega) (by omega) ?_
        refine x_istore (pc' := 48) (lv' := [_, _, _, _, _, _, _, _, _]) rfl rfl (by decide) rfl ?_
        refine x_aload (pc' := 49) rfl rfl rfl ?_
        refine x_iload (pc' := 51) rfl rfl rfl ?_
        refine x_iload (pc' := 52) rfl rfl rfl ?_
        refine x_aload (pc' := 53) rfl rfl rfl ?_
        refine x_iload (pc' := 55) rfl rfl rfl ?_
        refine x_iload (pc' := 56) rfl rfl rfl ?_
        refine x_callV (pc' := 59) (d1 := 1) (Bs := [_, _]) rfl rfl rfl rfl rfl rfl rfl (Nat.le_of_ble_eq_true rfl) ⟨rfl, rfl⟩ (by decide) rfl (by omega) ?_
        refine w_X10_of (by omega) (by decide) ?_
        refine ⟨rfl, ?_⟩
        refine x_top (hR.rcoins hx0) ?_
        refine x_iload (pc' := 61) rfl rfl rfl ?_
        refine x_iadd (pc' := 62) rfl rfl ?_
        refine x_iload (pc' := 64) rfl rfl rfl ?_
        refine x_isub (pc' := 65) rfl rfl ?_
        refine x_callV (pc' := 68) (d1 := 1) (Bs := [_, _, _]) rfl rfl rfl rfl rfl rfl rfl (Nat.le_of_ble_eq_true rfl) ⟨rfl, rfl⟩ (by decide) rfl (by omega) ?_
        refine w_X10_puts_ (by omega) (by decide) ?_
        refine ⟨rfl, ?_⟩
        refine x_iload (pc' := 70) rfl rfl rfl ?_
        refine x_int (pc' := 71) (v := (-1)) rfl rfl rfl ?_
        refine x_ic_ne (pc' := 74) rfl rfl (fun c71 => ?_) (fun c71 => ?_)
        · refine x_iload (pc' := 84) rfl rfl rfl ?_
          refine x_istore (pc' := 86) (lv' := [_, _, _, _, _, _, _, _, _]) rfl rfl (by decide) rfl ?_
          refine x_aload (pc' := 87) rfl rfl rfl ?_
          refine x_iload (pc' := 89) rfl rfl rfl ?_
          refine x_iload (pc' := 91) rfl rfl rfl ?_
          refine y_isub (pc' := 92) rfl rfl (by omega) ?_
          refine x_putI (j := 12) (pc' := 95) rfl rfl rfl (by decide) rfl (by decide) rfl rfl ?_
          refine x_iload (pc' := 97) rfl rfl rfl ?_
          refine x_istore (pc' := 99) (lv' := [_, _, _, _, _, _, _, _, _]) rfl rfl (by decide) rfl ?_
          refine x_aload (pc' := 100) rfl rfl rfl ?_
          refine x_iload (pc' := 102) rfl rfl rfl ?_
          refine x_callV (pc' := 105) (d1 := 2) (Bs := [_]) rfl rfl rfl rfl rfl rfl rfl (Nat.le_of_ble_eq_true rfl) ⟨rfl, rfl⟩ (by decide) rfl (by omega) ?_
          refine w_X10_under (D := _) (T := bh_up2 T 7 x _) (wf_67 hW (Or.inr rfl) _) (by show Rn _ (bh_up2 D 206 _ _ 206); rw [bh_up2_k]; exact rn_up7 hW hR hx0 _) (by rw [nw_67 (Or.inr rfl)]; exact hx0) ?_
          refine ⟨rfl, ?_⟩
          refine x_top hx1 ?_
          refine x_istore (pc' := 107) (lv' := [_, _, _, _, _, _, _, _, _]) rfl rfl (by decide) rfl ?_
          refine x_goto rfl ?_
          first
            | (have er : r = [] := hd_nil (Or.inr c22) hm2; have eg := gm_nil (r := r) (m := n / 2) (by rw [er]; rfl)
               have ev : T 7 x + nI n - nI (0) = T 7 x + nI (n - gm r (n / 2)) := by rw [eg]; exact add_sub_nI (by omega)
               refine ih (0) y _ (bh_up2 T 7 x (T 7 x + nI (n - gm r (n / 2)))) _ (wf_67 hW (Or.inr rfl) _) ?_ (isC_67 (Or.inr rfl) hx2) (by omega) (by omega) (fun D2 f2 g2 r2 l2 => ?_)
               · show Rn _ (bh_up2 D 206 _ _ 206)
                 rw [bh_up2_k, ← ev]; exact rn_up7 hW hR hx0 _
               · refine k D2 (fun q hq => (f2 q hq).trans ((bh_up2_ne _ _ _ (fun e => hq (by rw [e]; decide))).trans (bh_up2_ne _ _ _ (fun e => hq (by rw [e]; decide))))) (fun q hq => (g2 q hq).trans ?_) ?_ ?_
                 · rw [bh_up2_k]; exact if_neg hq
                 · have : goD 7 2 (x :: r) n T = goD 7 2 r (0) (bh_up2 T 7 x (T 7 x + nI (n - gm r (n / 2)))) := by show goD 7 2 r (gm r (n / 2)) _ = _; rw [eg]
                   rw [this]; exact r2
                 · rw [l2, bh_up2_k]; show goV 2 r (0) (nI (n - (0))) = goV 2 r (gm r (n / 2)) (nI (n - gm r (n / 2))); rw [eg])
            | (have er : 0 < r.length := hd_pos c22; have eg := gm_pos (r := r) (m := n / 2) er
               have ev : T 7 x + nI n - nI (n / 2) = T 7 x + nI (n - gm r (n / 2)) := by rw [eg]; exact add_sub_nI (by omega)
               refine ih (n / 2) y _ (bh_up2 T 7 x (T 7 x + nI (n - gm r (n / 2)))) _ (wf_67 hW (Or.inr rfl) _) ?_ (isC_67 (Or.inr rfl) hx2) (by omega) (by omega) (fun D2 f2 g2 r2 l2 => ?_)
               · show Rn _ (bh_up2 D 206 _ _ 206)
                 rw [bh_up2_k, ← ev]; exact rn_up7 hW hR hx0 _
               · refine k D2 (fun q hq => (f2 q hq).trans ((bh_up2_ne _ _ _ (fun e => hq (by rw [e]; decide))).trans (bh_up2_ne _ _ _ (fun e => hq (by rw [e]; decide))))) (fun q hq => (g2 q hq).trans ?_) ?_ ?_
                 · rw [bh_up2_k]; exact if_neg hq
                 · have : goD 7 2 (x :: r) n T = goD 7 2 r (n / 2) (bh_up2 T 7 x (T 7 x + nI (n - gm r (n / 2)))) := by show goD 7 2 r (gm r (n / 2)) _ = _; rw [eg]
                   rw [this]; exact r2
                 · rw [l2, bh_up2_k]; show goV 2 r (n / 2) (nI (n - (n / 2))) = goV 2 r (gm r (n / 2)) (nI (n - gm r (n / 2))); rw [eg])
        · exact absurd c71 (nI_m1 (by omega))
      · refine x_int (pc' := 26) (v := nI 0) rfl rfl rfl ?_
        refine x_goto rfl ?_
        refine x_istore (pc' := 48) (lv' := [_, _, _, _, _, _, _, _, _]) rfl rfl (by decide) rfl ?_
        refine x_aload (pc' := 49) rfl rfl rfl ?_
        refine x_iload (pc' := 51) rfl rfl rfl ?_
        refine x_iload (pc' := 52) rfl rfl rfl ?_
        refine x_aload (pc' := 53) rfl rfl rfl ?_
        refine x_iload (pc' := 55) rfl rfl rfl ?_
        refine x_iload (pc' := 56) rfl rfl rfl ?_
        refine x_callV (pc' := 59) (d1 := 1) (Bs := [_, _]) rfl rfl rfl rfl rfl rfl rfl (Nat.le_of_ble_eq_true rfl) ⟨rfl, rfl⟩ (by decide) rfl (by omega) ?_
        refine w_X10_of (by omega) (by decide) ?_
        refine ⟨rfl, ?_⟩
        refine x_top (hR.rcoins hx0) ?_
        refine x_iload (pc' := 61) rfl rfl rfl ?_
        refine x_iadd (pc' := 62) rfl rfl ?_
        refine x_iload (pc' := 64) rfl rfl rfl ?_
        refine x_isub (pc' := 65) rfl rfl ?_
        refine x_callV (pc' := 68) (d1 := 1) (Bs := [_, _, _]) rfl rfl rfl rfl rfl rfl rfl (Nat.le_of_ble_eq_true rfl) ⟨rfl, rfl⟩ (by decide) rfl (by omega) ?_
        refine w_X10_puts_ (by omega) (by decide) ?_
        refine ⟨rfl, ?_⟩
        refine x_iload (pc' := 70) rfl rfl rfl ?_
        refine x_int (pc' := 71) (v := (-1)) rfl rfl rfl ?_
        refine x_ic_ne (pc' := 74) rfl rfl (fun c71 => ?_) (fun c71 => ?_)
        · refine x_iload (pc' := 84) rfl rfl rfl ?_
          refine x_istore (pc' := 86) (lv' := [_, _, _, _, _, _, _, _, _]) rfl rfl (by decide) rfl ?_
          refine x_aload (pc' := 87) rfl rfl rfl ?_
          refine x_iload (pc' := 89) rfl rfl rfl ?_
          refine x_iload (pc' := 91) rfl rfl rfl ?_
          refine y_isub (pc' := 92) rfl rfl (by omega) ?_
          refine x_putI (j := 12) (pc' := 95) rfl rfl rfl (by decide) rfl (by decide) rfl rfl ?_
          refine x_iload (pc' := 97) rfl rfl rfl ?_
          refine x_istore (pc' := 99) (lv' := [_, _, _, _, _, _, _, _, _]) rfl rfl (by decide) rfl ?_
          refine x_aload (pc' := 100) rfl rfl rfl ?_
          refine x_iload (pc' := 102) rfl rfl rfl ?_
          refine x_callV (pc' := 105) (d1 := 2) (Bs := [_]) rfl rfl rfl rfl rfl rfl rfl (Nat.le_of_ble_eq_true rfl) ⟨rfl, rfl⟩ (by decide) rfl (by omega) ?_
          refine w_X10_under (D := _) (T := bh_up2 T 7 x _) (wf_67 hW (Or.inr rfl) _) (by show Rn _ (bh_up2 D 206 _ _ 206); rw [bh_up2_k]; exact rn_up7 hW hR hx0 _) (by rw [nw_67 (Or.inr rfl)]; exact hx0) ?_
          refine ⟨rfl, ?_⟩
          refine x_top hx1 ?_
          refine x_istore (pc' := 107) (lv' := [_, _, _, _, _, _, _, _, _]) rfl rfl (by decide) rfl ?_
          refine x_goto rfl ?_
          first
            | (have er : r = [] := hd_nil (Or.inr c22) hm2; have eg := gm_nil (r := r) (m := n / 2) (by rw [er]; rfl)
               have ev : T 7 x + nI n - nI (0) = T 7 x + nI (n - gm r (n / 2)) := by rw [eg]; exact add_sub_nI (by omega)
               refine ih (0) y _ (bh_up2 T 7 x (T 7 x + nI (n - gm r (n / 2)))) _ (wf_67 hW (Or.inr rfl) _) ?_ (isC_67 (Or.inr rfl) hx2) (by omega) (by omega) (fun D2 f2 g2 r2 l2 => ?_)
               · show Rn _ (bh_up2 D 206 _ _ 206)
                 rw [bh_up2_k, ← ev]; exact rn_up7 hW hR hx0 _
               · refine k D2 (fun q hq => (f2 q hq).trans ((bh_up2_ne _ _ _ (fun e => hq (by rw [e]; decide))).trans (bh_up2_ne _ _ _ (fun e => hq (by rw [e]; decide))))) (fun q hq => (g2 q hq).trans ?_) ?_ ?_
                 · rw [bh_up2_k]; exact if_neg hq
                 · have : goD 7 2 (x :: r) n T = goD 7 2 r (0) (bh_up2 T 7 x (T 7 x + nI (n - gm r (n / 2)))) := by show goD 7 2 r (gm r (n / 2)) _ = _; rw [eg]
                   rw [this]; exact r2
                 · rw [l2, bh_up2_k]; show goV 2 r (0) (nI (n - (0))) = goV 2 r (gm r (n / 2)) (nI (n - gm r (n / 2))); rw [eg])
            | (have er : 0 < r.length := hd_pos c22; have eg := gm_pos (r := r) (m := n / 2) er
               have ev : T 7 x + nI n - nI (n / 2) = T 7 x + nI (n - gm r (n / 2)) := by rw [eg]; exact add_sub_nI (by omega)
               refine ih (n / 2) y _ (bh_up2 T 7 x (T 7 x + nI (n - gm r (n / 2)))) _ (wf_67 hW (Or.inr rfl) _) ?_ (isC_67 (Or.inr rfl) hx2) (by omega) (by omega) (fun D2 f2 g2 r2 l2 => ?_)
               · show Rn _ (bh_up2 D 206 _ _ 206)
                 rw [bh_up2_k, ← ev]; exact rn_up7 hW hR hx0 _
               · refine k D2 (fun q hq => (f2 q hq).trans ((bh_up2_ne _ _ _ (fun e => hq (by rw [e]; decide))).trans (bh_up2_ne _ _ _ (fun e => hq (by rw [e]; decide))))) (fun q hq => (g2 q hq).trans ?_) ?_ ?_
                 · rw [bh_up2_k]; exact if_neg hq
                 · have : goD 7 2 (x :: r) n T = goD 7 2 r (n / 2) (bh_up2 T 7 x (T 7 x + nI (n - gm r (n / 2)))) := by show goD 7 2 r (gm r (n / 2)) _ = _; rw [eg]
                   rw [this]; exact r2
                 · rw [l2, bh_up2_k]; show goV 2 r (n / 2) (nI (n - (n / 2))) = goV 2 r (gm r (n / 2)) (nI (n - gm r (n / 2))); rw [eg])
        · exact absurd c71 (nI_m1 (by omega))
set_option maxRecDepth 20000 in
set_option maxHeartbeats 1000000 in
theorem f_X10_goesO {d : Nat} (hd : 2 ≤ d) {L : Nat → Nat → Int64} {Q : bh_Q} {a b : Int32} {x : Nat} {r : List Nat} {n : Nat} {D : Nat → Nat → Int32} {T : TW} {v : Value} (hW : WF T) (hR : Rn T (D 206)) (hC : isC T (x :: r)) (hn : n ≤ 9999)
    (k : ∀ D', OffL [205, 206] D D' → (∀ q, q ≠ 12 → D' 205 q = D 205 q) → Rn (goD 7 2 (x :: r) n T) (D' 206) → D' 205 12 = goV 2 (x :: r) n (D 205 12) → Q (some (.int (nI (n - gm r (n / 2))))) (hp D' L)) : bw m_X10_goesDown d Q 9 [.ref 205, .int a, .int b, .int (nI 6), .int (nI 0), .int (nI n), .int (-1), .int (nI x), v] [] D L := by
  have h12 := hW.nwl
  obtain ⟨hx0, hx1, hx2⟩ := hC
  have hm2 : ∀ x ∈ r, x < 12 := fun x hx => by have := isC_mem hx2 x hx; omega
  refine x_iload (pc' := 11) rfl rfl rfl ?_
  refine x_int (pc' := 12) (v := (-1)) rfl rfl rfl ?_
  refine x_ic_eq (pc' := 15) rfl rfl (fun c12 => ?_) (fun c12 => ?_)
  · exact absurd c12 (nI_m1 (by omega))
  · refine x_aload (pc' := 16) rfl rfl rfl ?_
    refine x_iload (pc' := 18) rfl rfl rfl ?_
    refine x_callV (pc' := 21) (d1 := 2) (Bs := [_]) rfl rfl rfl rfl rfl rfl rfl (Nat.le_of_ble_eq_true rfl) ⟨rfl, rfl⟩ (by decide) rfl (by omega) ?_
    refine w_X10_under hW hR hx0 ?_
    refine ⟨rfl, ?_⟩
    refine x_top hx1 ?_
    refine x_int (pc' := 22) (v := (-1)) rfl rfl rfl ?_
    refine x_ic_ne (pc' := 25) rfl rfl (fun c22 => ?_) (fun c22 => ?_)
    · refine x_iload (pc' := 31) rfl rfl rfl ?_
      refine x_if_eq (pc' := 34) rfl rfl (fun _ => ?_) (fun c31 => absurd (by decide) c31)
      refine x_iload (pc' := 44) rfl rfl rfl ?_
      refine x_int (pc' := 45) (v := nI 2) rfl rfl rfl ?_
      refine y_idiv (pc' := 46) rfl rfl (by omega) (by omega) (by omega) ?_
      refine x_istore (pc' := 48) (lv' := [_, _, _, _, _, _, _, _, _]) rfl rfl (by decide) rfl ?_
      refine x_aload (pc' := 49) rfl rfl rfl ?_
      refine x_iload (pc' := 51) rfl rfl rfl ?_
      refine x_iload (pc' := 52) rfl rfl rfl ?_
      refine x_aload (pc' := 53) rfl rfl rfl ?_
      refine x_iload (pc' := 55) rfl rfl rfl ?_
      refine x_iload (pc' := 56) rfl rfl rfl ?_
      refine x_callV (pc' := 59) (d1 := 1) (Bs := [_, _]) rfl rfl rfl rfl rfl rfl rfl (Nat.le_of_ble_eq_true rfl) ⟨rfl, rfl⟩ (by decide) rfl (by omega) ?_
      refine w_X10_of (by omega) (by decide) ?_
      refine ⟨rfl, ?_⟩
      refine x_top (hR.rcoins hx0) ?_
      refine x_iload (pc' := 61) rfl rfl rfl ?_
      refine x_iadd (pc' := 62) rfl rfl ?_
      refine x_iload (pc' := 64) rfl rfl rfl ?_
      refine x_isub (pc' := 65) rfl rfl ?_
      refine x_callV (pc' := 68) (d1 := 1) (Bs := [_, _, _]) rfl rfl rfl rfl rfl rfl rfl (Nat.le_of_ble_eq_true rfl) ⟨rfl, rfl⟩ (by decide) rfl (by omega) ?_
      refine w_X10_puts_ (by omega) (by decide) ?_
      refine ⟨rfl, ?_⟩
      refine x_iload (pc' := 70) rfl rfl rfl ?_
      refine x_int (pc' := 71) (v := (-1)) rfl rfl rfl ?_
      refine x_ic_ne (pc' := 74) rfl rfl (fun c71 => absurd (by decide) c71) (fun _ => ?_)
      refine x_iload (pc' := 76) rfl rfl rfl ?_
      refine x_iload (pc' := 78) rfl rfl rfl ?_
      refine y_isub (pc' := 79) rfl rfl (by omega) ?_
      refine x_goto rfl ?_
      refine x_istore (pc' := 86) (lv' := [_, _, _, _, _, _, _, _, _]) rfl rfl (by decide) rfl ?_
      refine x_aload (pc' := 87) rfl rfl rfl ?_
      refine x_iload (pc' := 89) rfl rfl rfl ?_
      refine x_iload (pc' := 91) rfl rfl rfl ?_
      refine y_isub (pc' := 92) rfl rfl (by omega) ?_
      refine x_putI (j := 12) (pc' := 95) rfl rfl rfl (by decide) rfl (by decide) rfl rfl ?_
      refine x_iload (pc' := 97) rfl rfl rfl ?_
      refine x_istore (pc' := 99) (lv' := [_, _, _, _, _, _, _, _, _]) rfl rfl (by decide) rfl ?_
      refine x_aload (pc' := 100) rfl rfl rfl ?_
      refine x_iload (pc' := 102) rfl rfl rfl ?_
      refine x_callV (pc' := 105) (d1 := 2) (Bs := [_]) rfl rfl rfl rfl rfl rfl rfl (Nat.le_of_ble_eq_true rfl) ⟨rfl, rfl⟩ (by decide) rfl (by omega) ?_
      refine w_X10_under (D := _) (T := bh_up2 T 7 x _) (wf_67 hW (Or.inr rfl) _) (by show Rn _ (bh_up2 D 206 _ _ 206); rw [bh_up2_k]; exact rn_up7 hW hR hx0 _) (by rw [nw_67 (Or.inr rfl)]; exact hx0) ?_
      refine ⟨rfl, ?_⟩
      refine x_top hx1 ?_
      refine x_istore (pc' := 107) (lv' := [_, _, _, _, _, _, _, _, _]) rfl rfl (by decide) rfl ?_
      refine x_goto rfl ?_
      first
        | (have er : r = [] := hd_nil (Or.inr c22) hm2; have eg := gm_nil (r := r) (m := n / 2) (by rw [er]; rfl)
           have ev : T 7 x + nI n - nI (0) = T 7 x + nI (n - gm r (n / 2)) := by rw [eg]; exact add_sub_nI (by omega)
           refine l_X10_goesO hd r (0) (n - 0) _ (bh_up2 T 7 x (T 7 x + nI (n - gm r (n / 2)))) _ (wf_67 hW (Or.inr rfl) _) ?_ (isC_67 (Or.inr rfl) hx2) (by omega) (by omega) (fun D2 f2 g2 r2 l2 => ?_)
           · show Rn _ (bh_up2 D 206 _ _ 206)
             rw [bh_up2_k, ← ev]; exact rn_up7 hW hR hx0 _
           · rw [eg] at k; refine k D2 (fun q hq => (f2 q hq).trans ((bh_up2_ne _ _ _ (fun e => hq (by rw [e]; decide))).trans (bh_up2_ne _ _ _ (fun e => hq (by rw [e]; decide))))) (fun q hq => (g2 q hq).trans ?_) ?_ ?_
             · rw [bh_up2_k]; exact if_neg hq
             · have : goD 7 2 (x :: r) n T = goD 7 2 r (0) (bh_up2 T 7 x (T 7 x + nI (n - gm r (n / 2)))) := by show goD 7 2 r (gm r (n / 2)) _ = _; rw [eg]
               rw [this]; exact r2
             · rw [l2, bh_up2_k]; show goV 2 r (0) (nI (n - (0))) = goV 2 r (gm r (n / 2)) (nI (n - gm r (n / 2))); rw [eg])
        | (have er : 0 < r.length := hd_pos c22; have eg := gm_pos (r := r) (m := n / 2) er
           have ev : T 7 x + nI n - nI (n / 2) = T 7 x + nI (n - gm r (n / 2)) := by rw [eg]; exact add_sub_nI (by omega)
           refine l_X10_goesO hd r (n / 2) (n - n / 2) _ (bh_up2 T 7 x (T 7 x + nI (n - gm r (n / 2)))) _ (wf_67 hW (Or.inr rfl) _) ?_ (isC_67 (Or.inr rfl) hx2) (by omega) (by omega) (fun D2 f2 g2 r2 l2 => ?_)
           · show Rn _ (bh_up2 D 206 _ _ 206)
             rw [bh_up2_k, ← ev]; exact rn_up7 hW hR hx0 _
           · rw [eg] at k; refine k D2 (fun q hq => (f2 q hq).trans ((bh_up2_ne _ _ _ (fun e => hq (by rw [e]; decide))).trans (bh_up2_ne _ _ _ (fun e => hq (by rw [e]; decide))))) (fun q hq => (g2 q hq).trans ?_) ?_ ?_
             · rw [bh_up2_k]; exact if_neg hq
             · have : goD 7 2 (x :: r) n T = goD 7 2 r (n / 2) (bh_up2 T 7 x (T 7 x + nI (n - gm r (n / 2)))) := by show goD 7 2 r (gm r (n / 2)) _ = _; rw [eg]
               rw [this]; exact r2
             · rw [l2, bh_up2_k]; show goV 2 r (n / 2) (nI (n - (n / 2))) = goV 2 r (gm r (n / 2)) (nI (n - gm r (n / 2))); rw [eg])
    · refine x_int (pc' := 26) (v := nI 0) rfl rfl rfl ?_
      refine x_goto rfl ?_
      refine x_istore (pc' := 48) (lv' := [_, _, _, _, _, _, _, _, _]) rfl rfl (by decide) rfl ?_
      refine x_aload (pc' := 49) rfl rfl rfl ?_
      refine x_iload (pc' := 51) rfl rfl rfl ?_
      refine x_iload (pc' := 52) rfl rfl rfl ?_
      refine x_aload (pc' := 53) rfl rfl rfl ?_
      refine x_iload (pc' := 55) rfl rfl rfl ?_
      refine x_iload (pc' := 56) rfl rfl rfl ?_
      refine x_callV (pc' := 59) (d1 := 1) (Bs := [_, _]) rfl rfl rfl rfl rfl rfl rfl (Nat.le_of_ble_eq_true rfl) ⟨rfl, rfl⟩ (by decide) rfl (by omega) ?_
      refine w_X10_of (by omega) (by decide) ?_
      refine ⟨rfl, ?_⟩
      refine x_top (hR.rcoins hx0) ?_
      refine x_iload (pc' := 61) rfl rfl rfl ?_
      refine x_iadd (pc' := 62) rfl rfl ?_
      refine x_iload (pc' := 64) rfl rfl rfl ?_
      refine x_isub (pc' := 65) rfl rfl ?_
      refine x_callV (pc' := 68) (d1 := 1) (Bs := [_, _, _]) rfl rfl rfl rfl rfl rfl rfl (Nat.le_of_ble_eq_true rfl) ⟨rfl, rfl⟩ (by decide) rfl (by omega) ?_
      refine w_X10_puts_ (by omega) (by decide) ?_
      refine ⟨rfl, ?_⟩
      refine x_iload (pc' := 70) rfl rfl rfl ?_
      refine x_int (pc' := 71) (v := (-1)) rfl rfl rfl ?_
      refine x_ic_ne (pc' := 74) rfl rfl (fun c71 => absurd (by decide) c71) (fun _ => ?_)
      refine x_iload (pc' := 76) rfl rfl rfl ?_
      refine x_iload (pc' := 78) rfl rfl rfl ?_
      refine y_isub (pc' := 79) rfl rfl (by omega) ?_
      refine x_goto rfl ?_
      refine x_istore (pc' := 86) (lv' := [_, _, _, _, _, _, _, _, _]) rfl rfl (by decide) rfl ?_
      refine x_aload (pc' := 87) rfl rfl rfl ?_
      refine x_iload (pc' := 89) rfl rfl rfl ?_
      refine x_iload (pc' := 91) rfl rfl rfl ?_
      refine y_isub (pc' := 92) rfl rfl (by omega) ?_
      refine x_putI (j := 12) (pc' := 95) rfl rfl rfl (by decide) rfl (by decide) rfl rfl ?_
      refine x_iload (pc' := 97) rfl rfl rfl ?_
      refine x_istore (pc' := 99) (lv' := [_, _, _, _, _, _, _, _, _]) rfl rfl (by decide) rfl ?_
      refine x_aload (pc' := 100) rfl rfl rfl ?_
      refine x_iload (pc' := 102) rfl rfl rfl ?_
      refine x_callV (pc' := 105) (d1 := 2) (Bs := [_]) rfl rfl rfl rfl rfl rfl rfl (Nat.le_of_ble_eq_true rfl) ⟨rfl, rfl⟩ (by decide) rfl (by omega) ?_
      refine w_X10_under (D := _) (T := bh_up2 T 7 x _) (wf_67 hW (Or.inr rfl) _) (by show Rn _ (bh_up2 D 206 _ _ 206); rw [bh_up2_k]; exact rn_up7 hW hR hx0 _) (by rw [nw_67 (Or.inr rfl)]; exact hx0) ?_
      refine ⟨rfl, ?_⟩
      refine x_top hx1 ?_
      refine x_istore (pc' := 107) (lv' := [_, _, _, _, _, _, _, _, _]) rfl rfl (by decide) rfl ?_
      refine x_goto rfl ?_
      first
        | (have er : r = [] := hd_nil (Or.inr c22) hm2; have eg := gm_nil (r := r) (m := n / 2) (by rw [er]; rfl)
           have ev : T 7 x + nI n - nI (0) = T 7 x + nI (n - gm r (n / 2)) := by rw [eg]; exact add_sub_nI (by omega)
           refine l_X10_goesO hd r (0) (n - 0) _ (bh_up2 T 7 x (T 7 x + nI (n - gm r (n / 2)))) _ (wf_67 hW (Or.inr rfl) _) ?_ (isC_67 (Or.inr rfl) hx2) (by omega) (by omega) (fun D2 f2 g2 r2 l2 => ?_)
           · show Rn _ (bh_up2 D 206 _ _ 206)
             rw [bh_up2_k, ← ev]; exact rn_up7 hW hR hx0 _
           · rw [eg] at k; refine k D2 (fun q hq => (f2 q hq).trans ((bh_up2_ne _ _ _ (fun e => hq (by rw [e]; decide))).trans (bh_up2_ne _ _ _ (fun e => hq (by rw [e]; decide))))) (fun q hq => (g2 q hq).trans ?_) ?_ ?_
             · rw [bh_up2_k]; exact if_neg hq
             · have : goD 7 2 (x :: r) n T = goD 7 2 r (0) (bh_up2 T 7 x (T 7 x + nI (n - gm r (n / 2)))) := by show goD 7 2 r (gm r (n / 2)) _ = _; rw [eg]
               rw [this]; exact r2
             · rw [l2, bh_up2_k]; show goV 2 r (0) (nI (n - (0))) = goV 2 r (gm r (n / 2)) (nI (n - gm r (n / 2))); rw [eg])
        | (have er : 0 < r.length := hd_pos c22; have eg := gm_pos (r := r) (m := n / 2) er
           have ev : T 7 x + nI n - nI (n / 2) = T 7 x + nI (n - gm r (n / 2)) := by rw [eg]; exact add_sub_nI (by omega)
           refine l_X10_goesO hd r (n / 2) (n - n / 2) _ (bh_up2 T 7 x (T 7 x + nI (n - gm r (n / 2)))) _ (wf_67 hW (Or.inr rfl) _) ?_ (isC_67 (Or.inr rfl) hx2) (by omega) (by omega) (fun D2 f2 g2 r2 l2 => ?_)
           · show Rn _ (bh_up2 D 206 _ _ 206)
             rw [bh_up2_k, ← ev]; exact rn_up7 hW hR hx0 _
           · rw [eg] at k; refine k D2 (fun q hq => (f2 q hq).trans ((bh_up2_ne _ _ _ (fun e => hq (by rw [e]; decide))).trans (bh_up2_ne _ _ _ (fun e => hq (by rw [e]; decide))))) (fun q hq => (g2 q hq).trans ?_) ?_ ?_
             · rw [bh_up2_k]; exact if_neg hq
             · have : goD 7 2 (x :: r) n T = goD 7 2 r (n / 2) (bh_up2 T 7 x (T 7 x + nI (n - gm r (n / 2)))) := by show goD 7 2 r (gm r (n / 2)) _ = _; rw [eg]
               rw [this]; exact r2
             · rw [l2, bh_up2_k]; show goV 2 r (n / 2) (nI (n - (n / 2))) = goV 2 r (gm r (n / 2)) (nI (n - gm r (n / 2))); rw [eg])
set_option maxRecDepth 20000 in
set_option maxHeartbeats 1000000 in
theorem w_X10_goesO {D : Nat → Nat → Int32} {L : Nat → Nat → Int64} {Q : bh_Q} {T : TW} (hW : WF T) (hR : Rn T (D 206)) {w n : Nat} (hw : w < nw T) (hn : n ≤ 9999) (k1 : ∀ D', OffL [205, 206] D D' → (∀ q, q ≠ 12 → D' 205 q = D 205 q) → Rn (goD 7 2 (ch T w) n T) (D' 206) → D' 205 12 = goV 2 (ch T w) n (D 205 12) → Q (some (.int (nI (n - gm (ch T w).tail (n / 2))))) (hp D' L)) : bh_wc 3 m_X10_goesDown [.ref 205, .int (nI w), .int (nI n), .int (nI 6), .int (nI 0)] (hp D L) Q := by
  refine x_start (lv0 := [_, _, _, _, _, _, _, _, _]) (Nat.le_of_ble_eq_true rfl) rfl ?_
  refine x_iload (pc' := 1) rfl rfl rfl ?_
  refine x_istore (pc' := 3) (lv' := [_, _, _, _, _, _, _, _, _]) rfl rfl (by decide) rfl ?_
  refine x_int (pc' := 4) (v := (-1)) rfl rfl rfl ?_
  refine x_istore (pc' := 6) (lv' := [_, _, _, _, _, _, _, _, _]) rfl rfl (by decide) rfl ?_
  refine x_iload (pc' := 7) rfl rfl rfl ?_
  refine x_istore (pc' := 9) (lv' := [_, _, _, _, _, _, _, _, _]) rfl rfl (by decide) rfl ?_
  have hC : isC T (w :: (ch T w).tail) := (isH_of hW hw).1
  exact f_X10_goesO (by decide) hW hR hC hn k1
set_option maxRecDepth 20000 in
set_option maxHeartbeats 1000000 in
theorem w_X10_praise {D : Nat → Nat → Int32} {L : Nat → Nat → Int64} {Q : bh_Q} {T : TW} {ps : List TW} {sh : Nat → Option TW} {tp : List Nat} (hI : InvM D T ps sh tp) (hG : Good T ps sh) {x y : Int32} (k1 : ∀ D1, (∀ k, (k < 205 ∨ 228 ≤ k) → D1 k = D k) → InvM D1 (nxT T (praiseR T x y).2) (nxP T ps (praiseR T x y).2) sh tp → Q (some (.int (praiseR T x y).1)) (hp D1 L)) : bh_wc 4 m_X10_praise [.ref 205, .int x, .int y] (hp D L) Q := by
  refine x_start (lv0 := [_, _, _]) (Nat.le_of_ble_eq_true rfl) rfl ?_
  have hW := hG.1
  have h12 := hW.nwl
  have hR := hI.1
  refine x_aload (pc' := 1) rfl rfl rfl ?_
  refine x_iload (pc' := 2) rfl rfl rfl ?_
  refine x_callV (pc' := 5) (d1 := 2) (Bs := [_]) rfl rfl rfl rfl rfl rfl rfl (Nat.le_of_ble_eq_true rfl) ⟨rfl, rfl⟩ (by decide) rfl (by decide) ?_
  refine w_X10_isWriter hW hR (fun h2w h2l e => ?_) (fun h2 => ?_)
  · subst e
    refine ⟨rfl, ?_⟩
    refine x_if_eq (pc' := 8) rfl rfl (fun c5 => absurd c5 (by decide)) (fun _ => ?_)
    refine x_iload (pc' := 9) rfl rfl rfl ?_
    refine x_i2l (pc' := 10) rfl rfl ?_
    refine x_long (pc' := 11) (v := (nI 1).toInt64) rfl rfl (by decide) ?_
    refine x_long (pc' := 14) (v := (nI 9999).toInt64) rfl rfl (by decide) ?_
    refine x_callS (pc' := 17) (d1 := 1) (As := [_, _, _]) rfl rfl rfl rfl (by decide) rfl rfl (Nat.le_of_ble_eq_true rfl) ⟨rfl, rfl⟩ (by decide) ?_
    refine w_X10_in (fun h14a h14l => ?_) (fun h14 => ?_)
    · obtain ⟨h14w, h14b, h14c, rfl⟩ := toI_gift h14a h14l
      refine ⟨rfl, ?_⟩
      refine x_if_ne (pc' := 20) rfl rfl (fun _ => ?_) (fun c17 => absurd c17 (by decide))
      refine x_aload (pc' := 23) rfl rfl rfl ?_
      refine x_callV (pc' := 26) (d1 := 2) (Bs := []) rfl rfl rfl rfl rfl rfl rfl (Nat.le_of_ble_eq_true rfl) ⟨rfl, rfl⟩ (by decide) rfl (by decide) ?_
      refine w_X10_keepsPast hW hR hI.2.1 hG.2.1 (fun D1 f1 g1 hH1 => ?_)
      refine ⟨rfl, ?_⟩
      have hR1 : Rn T (D1 206) := by rw [f1 206 (by decide)]; exact hR
      refine x_aload (pc' := 27) rfl rfl rfl ?_
      refine x_iload (pc' := 28) rfl rfl rfl ?_
      refine x_iload (pc' := 29) rfl rfl rfl ?_
      refine x_int (pc' := 30) (v := nI 5) rfl rfl rfl ?_
      refine x_int (pc' := 31) (v := nI 1) rfl rfl rfl ?_
      refine x_callV (pc' := 34) (d1 := 3) (Bs := [_, _, _, _]) rfl rfl rfl rfl rfl rfl rfl (Nat.le_of_ble_eq_true rfl) ⟨rfl, rfl⟩ (by decide) rfl (by decide) ?_
      refine w_X10_goesP (D := D1) hW hR1 h2l h14c (fun D3 f3 g3 r3 l3 => ?_)
      refine ⟨rfl, ?_⟩
      refine x_iret rfl rfl ?_
      have e : praiseR T (nI h2w) (nI h14w) = (nI (h14w - gm (ch T h2w).tail (h14w / 10)), some (goD 6 10 (ch T h2w) h14w T)) := by unfold praiseR; rw [dN_some h2l (by omega), gift_some h14b h14c]
      refine actM hI f1 g1 hH1 k1 e (fun k a b c => ?_) (fun j hj => g3 j (by omega)) r3
      exact f3 k (fun q => by simp at q; omega)
    · refine ⟨rfl, ?_⟩
      refine x_if_ne (pc' := 20) rfl rfl (fun c17 => absurd (by decide) c17) (fun _ => ?_)
      refine x_int (pc' := 21) (v := (-1)) rfl rfl rfl ?_
      refine x_iret rfl rfl ?_
      first
        | (have e : praiseR T x y = (-1, none) := by unfold praiseR; rw [dN_none (by omega) h2]
           rw [e] at k1
           exact k1 D (fun _ _ => rfl) hI)
        | (have e : praiseR T (nI h2w) y = (-1, none) := by unfold praiseR; rw [dN_some h2l (by omega), gift_none (gift_in h14)]
           rw [e] at k1
           exact k1 D (fun _ _ => rfl) hI)
  · refine ⟨rfl, ?_⟩
    refine x_if_eq (pc' := 8) rfl rfl (fun _ => ?_) (fun c5 => absurd (by decide) c5)
    refine x_int (pc' := 21) (v := (-1)) rfl rfl rfl ?_
    refine x_iret rfl rfl ?_
    first
      | (have e : praiseR T x y = (-1, none) := by unfold praiseR; rw [dN_none (by omega) h2]
         rw [e] at k1
         exact k1 D (fun _ _ => rfl) hI)
      | (have e : praiseR T (nI h2w) y = (-1, none) := by unfold praiseR; rw [dN_some h2l (by omega), gift_none (gift_in h14)]
         rw [e] at k1
         exact k1 D (fun _ _ => rfl) hI)
set_option maxRecDepth 20000 in
set_option maxHeartbeats 1000000 in
theorem w_X10_order {D : Nat → Nat → Int32} {L : Nat → Nat → Int64} {Q : bh_Q} {T : TW} {ps : List TW} {sh : Nat → Option TW} {tp : List Nat} (hI : InvM D T ps sh tp) (hG : Good T ps sh) {x y : Int32} (k1 : ∀ D1, (∀ k, (k < 205 ∨ 228 ≤ k) → D1 k = D k) → InvM D1 (nxT T (orderR T x y).2) (nxP T ps (orderR T x y).2) sh tp → Q (some (.int (orderR T x y).1)) (hp D1 L)) : bh_wc 4 m_X10_order [.ref 205, .int x, .int y] (hp D L) Q := by
  refine x_start (lv0 := [_, _, _, _]) (Nat.le_of_ble_eq_true rfl) rfl ?_
  have hW := hG.1
  have h12 := hW.nwl
  have hR := hI.1
  refine x_aload (pc' := 1) rfl rfl rfl ?_
  refine x_iload (pc' := 2) rfl rfl rfl ?_
  refine x_callV (pc' := 5) (d1 := 2) (Bs := [_]) rfl rfl rfl rfl rfl rfl rfl (Nat.le_of_ble_eq_true rfl) ⟨rfl, rfl⟩ (by decide) rfl (by decide) ?_
  refine w_X10_isWriter hW hR (fun h2w h2l e => ?_) (fun h2 => ?_)
  · subst e
    refine ⟨rfl, ?_⟩
    refine x_if_eq (pc' := 8) rfl rfl (fun c5 => absurd c5 (by decide)) (fun _ => ?_)
    refine x_iload (pc' := 9) rfl rfl rfl ?_
    refine x_i2l (pc' := 10) rfl rfl ?_
    refine x_long (pc' := 11) (v := (nI 1).toInt64) rfl rfl (by decide) ?_
    refine x_long (pc' := 14) (v := (nI 9999).toInt64) rfl rfl (by decide) ?_
    refine x_callS (pc' := 17) (d1 := 1) (As := [_, _, _]) rfl rfl rfl rfl (by decide) rfl rfl (Nat.le_of_ble_eq_true rfl) ⟨rfl, rfl⟩ (by decide) ?_
    refine w_X10_in (fun h14a h14l => ?_) (fun h14 => ?_)
    · obtain ⟨h14w, h14b, h14c, rfl⟩ := toI_gift h14a h14l
      refine ⟨rfl, ?_⟩
      refine x_if_ne (pc' := 20) rfl rfl (fun _ => ?_) (fun c17 => absurd c17 (by decide))
      refine x_aload (pc' := 23) rfl rfl rfl ?_
      refine x_callV (pc' := 26) (d1 := 2) (Bs := []) rfl rfl rfl rfl rfl rfl rfl (Nat.le_of_ble_eq_true rfl) ⟨rfl, rfl⟩ (by decide) rfl (by decide) ?_
      refine w_X10_keepsPast hW hR hI.2.1 hG.2.1 (fun D1 f1 g1 hH1 => ?_)
      refine ⟨rfl, ?_⟩
      have hR1 : Rn T (D1 206) := by rw [f1 206 (by decide)]; exact hR
      refine x_aload (pc' := 27) rfl rfl rfl ?_
      refine x_iload (pc' := 28) rfl rfl rfl ?_
      refine x_iload (pc' := 29) rfl rfl rfl ?_
      refine x_int (pc' := 31) (v := nI 6) rfl rfl rfl ?_
      refine x_int (pc' := 32) (v := nI 0) rfl rfl rfl ?_
      refine x_callV (pc' := 35) (d1 := 3) (Bs := [_, _, _, _]) rfl rfl rfl rfl rfl rfl rfl (Nat.le_of_ble_eq_true rfl) ⟨rfl, rfl⟩ (by decide) rfl (by decide) ?_
      refine w_X10_goesO (D := D1) hW hR1 h2l h14c (fun D3 f3 g3 r3 l3 => ?_)
      refine ⟨rfl, ?_⟩
      refine x_istore (pc' := 36) (lv' := [_, _, _, _]) rfl rfl (by decide) rfl ?_
      refine x_aload (pc' := 37) rfl rfl rfl ?_
      refine x_getI (j := 12) (pc' := 40) rfl rfl rfl (by decide) rfl (by decide) rfl rfl ?_
      refine x_iret rfl rfl ?_
      have e : orderR T (nI h2w) (nI h14w) = (goV 2 (ch T h2w) h14w 0, some (goD 7 2 (ch T h2w) h14w T)) := by unfold orderR; rw [dN_some h2l (by omega), gift_some h14b h14c]
      have ev : goV 2 (ch T h2w) h14w 0 = goV 2 (ch T h2w) h14w (D1 205 12) := rfl
      rw [ev, ← l3] at e
      refine actM hI f1 g1 hH1 k1 e (fun k a b c => ?_) (fun j hj => g3 j (by omega)) r3
      exact f3 k (fun q => by simp at q; omega)
    · refine ⟨rfl, ?_⟩
      refine x_if_ne (pc' := 20) rfl rfl (fun c17 => absurd (by decide) c17) (fun _ => ?_)
      refine x_int (pc' := 21) (v := (-1)) rfl rfl rfl ?_
      refine x_iret rfl rfl ?_
      first
        | (have e : orderR T x y = (-1, none) := by unfold orderR; rw [dN_none (by omega) h2]
           rw [e] at k1
           exact k1 D (fun _ _ => rfl) hI)
        | (have e : orderR T (nI h2w) y = (-1, none) := by unfold orderR; rw [dN_some h2l (by omega), gift_none (gift_in h14)]
           rw [e] at k1
           exact k1 D (fun _ _ => rfl) hI)
  · refine ⟨rfl, ?_⟩
    refine x_if_eq (pc' := 8) rfl rfl (fun _ => ?_) (fun c5 => absurd (by decide) c5)
    refine x_int (pc' := 21) (v := (-1)) rfl rfl rfl ?_
    refine x_iret rfl rfl ?_
    first
      | (have e : orderR T x y = (-1, none) := by unfold orderR; rw [dN_none (by omega) h2]
         rw [e] at k1
         exact k1 D (fun _ _ => rfl) hI)
      | (have e : orderR T (nI h2w) y = (-1, none) := by unfold orderR; rw [dN_some h2l (by omega), gift_none (gift_in h14)]
         rw [e] at k1
         exact k1 D (fun _ _ => rfl) hI)
