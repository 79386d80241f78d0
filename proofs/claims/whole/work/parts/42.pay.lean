/-! ===== trace, own, pay: the answers ===== -/
def onN {α : Type} (n : Nat) (x : Int32) (r : α) (f : Nat → α) : α := match dN n x with
  | some j => f j
  | none => r
def onP {α : Type} (T : TW) (x y : Int32) (r : α) (f : Nat → Nat → α) : α := match dP T x y with
  | some (b, q) => f b q
  | none => r
theorem onN_1 {α : Type} {n j : Nat} {r : α} {f : Nat → α} (h : j < n) (hn : n < 2 ^ 31) : onN n (nI j) r f = f j := by unfold onN; rw [dN_some h hn]
theorem onN_0 {α : Type} {n : Nat} {x : Int32} {r : α} {f : Nat → α} (h : ¬ okN n x) (hn : n < 2 ^ 31) : onN n x r f = r := by unfold onN; rw [dN_none hn h]
theorem onP_1 {α : Type} {T : TW} {b q : Nat} {r : α} {f : Nat → Nat → α} (hW : WF T) (hb : b < nb T) (hq : q < lng T b) : onP T (nI b) (nI q) r f = f b q := by unfold onP; rw [dP_some hW hb hq]
theorem onP_0 {α : Type} {T : TW} {x y : Int32} {r : α} {f : Nat → Nat → α} (hW : WF T) (h : ¬ okB T x y) : onP T x y r f = r := by unfold onP; rw [dP_none hW h]
theorem le_ofI {n : Nat} {x : Int32} (h1 : ¬ x < 0) (h2 : x ≤ nI n) (hn : n + 1 < 2 ^ 31 := by decide) : ∃ j : Nat, j < n + 1 ∧ x = nI j := in_okL hn (nlt_le h1) h2
def traceQ (T : TW) (x y z s v : Int32) : Int32 := onN (nw T) x (-3) fun w => onP T y z (-3) fun b q => onN 16 s (-3) fun i => onN 2 v (-3) fun m => if anyD T (ch T w) = true then -2 else if m = 0 then trOF T (ch T w) i else trCF T (pg T b q) (ch T w) i
def ownQ (T : TW) (x y z : Int32) : Int32 := onN (nw T) x (-1) fun w => onP T y z (-1) fun b q => if anyD T (ch T w) = true then -2 else nI (setF (fun i => decide (trCF T (pg T b q) (ch T w) i = nI w)) 16)
def payG (c : Nat → Int32) : List Nat → Nat → Nat → Int32
  | [], _, _ => -2
  | v :: r, i, m => if m + cntF (fun k => decide (c k = nI v)) 16 < 8 then payG c r (i + 1) (m + cntF (fun k => decide (c k = nI v)) 16) else nI i
def payQ (T : TW) (x y z : Int32) : Int32 := onN (nw T) x (-1) fun w => onP T y z (-1) fun b q => if anyD T (ch T w) = true then -2 else payG (trCF T (pg T b q) (ch T w)) (ch T w) 0 0
theorem payG_cg {c c' : Nat → Int32} (h : ∀ i, i < 16 → c i = c' i) : ∀ (r : List Nat) (i m : Nat), payG c r i m = payG c' r i m := by
  intro r
  induction r with
  | nil => intro i m; rfl
  | cons v r ih =>
    intro i m
    have e : cntF (fun k => decide (c k = nI v)) 16 = cntF (fun k => decide (c' k = nI v)) 16 := cntF_cg 16 (fun k hk => by rw [h k hk])
    unfold payG
    rw [e, ih]
theorem nA0 {b : Bool} (h : b = false) : ¬ b = true := by rw [h]; decide
set_option maxRecDepth 20000 in
set_option maxHeartbeats 1000000 in
theorem w_X9_trace {D : Nat → Nat → Int32} {L : Nat → Nat → Int64} {Q : bh_Q} (hW : WF (tv D)) {x y z s v : Int32} (k1 : ∀ D1, OffC D D1 → Q (some (.int (traceQ (tv D) x y z s v))) (hp D1 L)) : bh_wc 5 m_X9_trace [.ref 0, .int x, .int y, .int z, .int s, .int v] (hp D L) Q := by
  refine x_start (lv0 := [_, _, _, _, _, _]) (Nat.le_of_ble_eq_true rfl) rfl ?_
  have h12 := hW.nwl
  refine x_aload (pc' := 1) rfl rfl rfl ?_
  refine x_getR (pc' := 4) rfl rfl rfl (by decide) rfl (by decide) rfl rfl ?_
  refine x_iload (pc' := 5) rfl rfl rfl ?_
  refine x_callV (pc' := 8) (d1 := 1) (Bs := [_]) rfl rfl rfl rfl rfl rfl rfl (Nat.le_of_ble_eq_true rfl) ⟨rfl, rfl⟩ (by decide) rfl (by decide) ?_
  refine w_X7_isWriter hW (fun h5w h5l e => ?_) (fun h5 => ?_)
  · subst e
    refine ⟨rfl, ?_⟩
    refine x_if_eq (pc' := 11) rfl rfl (fun c8 => absurd c8 (by decide)) (fun _ => ?_)
    refine x_aload (pc' := 12) rfl rfl rfl ?_
    refine x_getR (pc' := 15) rfl rfl rfl (by decide) rfl (by decide) rfl rfl ?_
    refine x_iload (pc' := 16) rfl rfl rfl ?_
    refine x_iload (pc' := 17) rfl rfl rfl ?_
    refine x_callV (pc' := 20) (d1 := 2) (Bs := [_, _]) rfl rfl rfl rfl rfl rfl rfl (Nat.le_of_ble_eq_true rfl) ⟨rfl, rfl⟩ (by decide) rfl (by decide) ?_
    refine w_X7_isPage hW (fun b q hb hq e1 e2 => ?_) (fun hn => ?_)
    · subst e1; subst e2
      refine ⟨rfl, ?_⟩
      refine x_if_ne (pc' := 23) rfl rfl (fun _ => ?_) (fun c20 => absurd c20 (by decide))
      refine x_iload (pc' := 28) rfl rfl rfl ?_
      refine x_callS (pc' := 31) (d1 := 1) (As := [_]) rfl rfl rfl rfl (by decide) rfl rfl (Nat.le_of_ble_eq_true rfl) ⟨rfl, rfl⟩ (by decide) ?_
      refine w_X9_isSign (fun h28w h28l e => ?_) (fun h28 => ?_)
      · subst e
        refine ⟨rfl, ?_⟩
        refine x_if_eq (pc' := 34) rfl rfl (fun c31 => absurd c31 (by decide)) (fun _ => ?_)
        refine x_iload (pc' := 36) rfl rfl rfl ?_
        refine x_if_lt (pc' := 39) rfl rfl (fun c36 => ?_) (fun c36 => ?_)
        · have hv := okN_neg (n := 2) (by decide) c36
          refine x_int (pc' := 47) (v := (-3)) rfl rfl rfl ?_
          refine x_iret rfl rfl ?_
          simp (disch := first | assumption | omega) only [traceQ, onN_1, onN_0, onP_1, onP_0, ↓reduceIte] at k1
          exact k1 D OffC.rf
        · refine x_iload (pc' := 41) rfl rfl rfl ?_
          refine x_int (pc' := 42) (v := nI 1) rfl rfl rfl ?_
          refine x_ic_le (pc' := 45) rfl rfl (fun c42 => ?_) (fun c42 => ?_)
          · obtain ⟨m, hm, rfl⟩ := le_ofI (n := 1) c36 c42
            refine x_aload (pc' := 49) rfl rfl rfl ?_
            refine x_iload (pc' := 50) rfl rfl rfl ?_
            refine x_iload (pc' := 51) rfl rfl rfl ?_
            refine x_iload (pc' := 52) rfl rfl rfl ?_
            refine x_callV (pc' := 55) (d1 := 4) (Bs := [_, _, _]) rfl rfl rfl rfl rfl rfl rfl (Nat.le_of_ble_eq_true rfl) ⟨rfl, rfl⟩ (by decide) rfl (by decide) ?_
            refine w_X9_followTrail hW h5l hb hq (fun hA D1 o1 u1 v1 hH1 => ?_) (fun hA D1 o1 => ?_)
            · have hA := nA0 hA
              refine ⟨rfl, ?_⟩
              refine x_if_ne (pc' := 58) rfl rfl (fun _ => ?_) (fun c55 => absurd c55 (by decide))
              refine x_iload (pc' := 63) rfl rfl rfl ?_
              refine y_if_ne (pc' := 66) rfl rfl (by omega) (fun c63 => ?_) (fun c63 => ?_)
              · refine x_aload (pc' := 80) rfl rfl rfl ?_
                refine x_getR (pc' := 83) rfl rfl rfl (by decide) rfl (by decide) rfl rfl ?_
                refine x_getR (pc' := 86) rfl rfl rfl (by decide) rfl (by decide) rfl rfl ?_
                refine x_iload (pc' := 88) rfl rfl rfl ?_
                refine x_iald (pc' := 89) rfl rfl (by decide) rfl (by decide) (show _ < 16 by omega) ?_
                refine x_iret rfl rfl ?_
                simp (disch := first | assumption | omega) only [traceQ, hA, c63, onN_1, onN_0, onP_1, onP_0, ↓reduceIte] at k1
                first
                  | (rw [u1 _ h28l]; exact k1 D1 o1)
                  | (rw [v1 _ h28l]; exact k1 D1 o1)
              · refine x_aload (pc' := 67) rfl rfl rfl ?_
                refine x_getR (pc' := 70) rfl rfl rfl (by decide) rfl (by decide) rfl rfl ?_
                refine x_getR (pc' := 73) rfl rfl rfl (by decide) rfl (by decide) rfl rfl ?_
                refine x_iload (pc' := 75) rfl rfl rfl ?_
                refine x_iald (pc' := 76) rfl rfl (by decide) rfl (by decide) (show _ < 16 by omega) ?_
                refine x_goto rfl ?_
                refine x_iret rfl rfl ?_
                simp (disch := first | assumption | omega) only [traceQ, hA, c63, onN_1, onN_0, onP_1, onP_0, ↓reduceIte] at k1
                first
                  | (rw [u1 _ h28l]; exact k1 D1 o1)
                  | (rw [v1 _ h28l]; exact k1 D1 o1)
            · refine ⟨rfl, ?_⟩
              refine x_if_ne (pc' := 58) rfl rfl (fun c55 => absurd (by decide) c55) (fun _ => ?_)
              refine x_int (pc' := 60) (v := (-2)) rfl rfl rfl ?_
              refine x_iret rfl rfl ?_
              simp (disch := first | assumption | omega) only [traceQ, hA, onN_1, onN_0, onP_1, onP_0, ↓reduceIte] at k1
              exact k1 D1 o1
          · have hv := okN_gt (n := 1) (by decide) (Int32.not_le.mp c42)
            refine x_int (pc' := 47) (v := (-3)) rfl rfl rfl ?_
            refine x_iret rfl rfl ?_
            simp (disch := first | assumption | omega) only [traceQ, onN_1, onN_0, onP_1, onP_0, ↓reduceIte] at k1
            exact k1 D OffC.rf
      · refine ⟨rfl, ?_⟩
        refine x_if_eq (pc' := 34) rfl rfl (fun _ => ?_) (fun c31 => absurd (by decide) c31)
        refine x_int (pc' := 47) (v := (-3)) rfl rfl rfl ?_
        refine x_iret rfl rfl ?_
        simp (disch := first | assumption | omega) only [traceQ, onN_1, onN_0, onP_1, onP_0, ↓reduceIte] at k1
        exact k1 D OffC.rf
    · refine ⟨rfl, ?_⟩
      refine x_if_ne (pc' := 23) rfl rfl (fun c20 => absurd (by decide) c20) (fun _ => ?_)
      refine x_int (pc' := 25) (v := (-3)) rfl rfl rfl ?_
      refine x_iret rfl rfl ?_
      simp (disch := first | assumption | omega) only [traceQ, onN_1, onN_0, onP_1, onP_0, ↓reduceIte] at k1
      exact k1 D OffC.rf
  · refine ⟨rfl, ?_⟩
    refine x_if_eq (pc' := 11) rfl rfl (fun _ => ?_) (fun c8 => absurd (by decide) c8)
    refine x_int (pc' := 25) (v := (-3)) rfl rfl rfl ?_
    refine x_iret rfl rfl ?_
    simp (disch := first | assumption | omega) only [traceQ, onN_1, onN_0, onP_1, onP_0, ↓reduceIte] at k1
    exact k1 D OffC.rf
set_option maxRecDepth 20000 in
set_option maxHeartbeats 1000000 in
theorem w_X9_own {D : Nat → Nat → Int32} {L : Nat → Nat → Int64} {Q : bh_Q} (hW : WF (tv D)) {x y z : Int32} (k1 : ∀ D1, OffC D D1 → Q (some (.int (ownQ (tv D) x y z))) (hp D1 L)) : bh_wc 5 m_X9_own [.ref 0, .int x, .int y, .int z] (hp D L) Q := by
  refine x_start (lv0 := [_, _, _, _]) (Nat.le_of_ble_eq_true rfl) rfl ?_
  have h12 := hW.nwl
  refine x_aload (pc' := 1) rfl rfl rfl ?_
  refine x_getR (pc' := 4) rfl rfl rfl (by decide) rfl (by decide) rfl rfl ?_
  refine x_iload (pc' := 5) rfl rfl rfl ?_
  refine x_callV (pc' := 8) (d1 := 1) (Bs := [_]) rfl rfl rfl rfl rfl rfl rfl (Nat.le_of_ble_eq_true rfl) ⟨rfl, rfl⟩ (by decide) rfl (by decide) ?_
  refine w_X7_isWriter hW (fun h5w h5l e => ?_) (fun h5 => ?_)
  · subst e
    refine ⟨rfl, ?_⟩
    refine x_if_eq (pc' := 11) rfl rfl (fun c8 => absurd c8 (by decide)) (fun _ => ?_)
    refine x_aload (pc' := 12) rfl rfl rfl ?_
    refine x_getR (pc' := 15) rfl rfl rfl (by decide) rfl (by decide) rfl rfl ?_
    refine x_iload (pc' := 16) rfl rfl rfl ?_
    refine x_iload (pc' := 17) rfl rfl rfl ?_
    refine x_callV (pc' := 20) (d1 := 2) (Bs := [_, _]) rfl rfl rfl rfl rfl rfl rfl (Nat.le_of_ble_eq_true rfl) ⟨rfl, rfl⟩ (by decide) rfl (by decide) ?_
    refine w_X7_isPage hW (fun b q hb hq e1 e2 => ?_) (fun hn => ?_)
    · subst e1; subst e2
      refine ⟨rfl, ?_⟩
      refine x_if_ne (pc' := 23) rfl rfl (fun _ => ?_) (fun c20 => absurd c20 (by decide))
      refine x_aload (pc' := 26) rfl rfl rfl ?_
      refine x_iload (pc' := 27) rfl rfl rfl ?_
      refine x_iload (pc' := 28) rfl rfl rfl ?_
      refine x_iload (pc' := 29) rfl rfl rfl ?_
      refine x_callV (pc' := 32) (d1 := 4) (Bs := [_, _, _]) rfl rfl rfl rfl rfl rfl rfl (Nat.le_of_ble_eq_true rfl) ⟨rfl, rfl⟩ (by decide) rfl (by decide) ?_
      refine w_X9_followTrail hW h5l hb hq (fun hA D1 o1 u1 v1 hH1 => ?_) (fun hA D1 o1 => ?_)
      · have hA := nA0 hA
        refine ⟨rfl, ?_⟩
        refine x_if_ne (pc' := 35) rfl rfl (fun _ => ?_) (fun c32 => absurd c32 (by decide))
        refine x_aload (pc' := 39) rfl rfl rfl ?_
        refine x_getR (pc' := 42) rfl rfl rfl (by decide) rfl (by decide) rfl rfl ?_
        refine x_iload (pc' := 43) rfl rfl rfl ?_
        refine x_callV (pc' := 46) (d1 := 1) (Bs := [_]) rfl rfl rfl rfl rfl rfl rfl (Nat.le_of_ble_eq_true rfl) ⟨rfl, rfl⟩ (by decide) rfl (by decide) ?_
        refine w_X8_changedBy (D := D1) (by rw [o1.tv]; exact hW) ?_
        refine ⟨rfl, ?_⟩
        refine x_iret rfl rfl ?_
        simp (disch := first | assumption | omega) only [ownQ, hA, onN_1, onN_0, onP_1, onP_0, ↓reduceIte] at k1
        rw [setF_cg (g := fun i => decide (trCF (tv D) (pg (tv D) b q) (ch (tv D) h5w) i = nI h5w)) 16 (fun i hi => by rw [v1 i hi])]
        exact k1 D1 o1
      · refine ⟨rfl, ?_⟩
        refine x_if_ne (pc' := 35) rfl rfl (fun c32 => absurd (by decide) c32) (fun _ => ?_)
        refine x_int (pc' := 37) (v := (-2)) rfl rfl rfl ?_
        refine x_iret rfl rfl ?_
        simp (disch := first | assumption | omega) only [ownQ, hA, onN_1, onN_0, onP_1, onP_0, ↓reduceIte] at k1
        exact k1 D1 o1
    · refine ⟨rfl, ?_⟩
      refine x_if_ne (pc' := 23) rfl rfl (fun c20 => absurd (by decide) c20) (fun _ => ?_)
      refine x_int (pc' := 24) (v := (-1)) rfl rfl rfl ?_
      refine x_iret rfl rfl ?_
      simp (disch := first | assumption | omega) only [ownQ, onN_1, onN_0, onP_1, onP_0, ↓reduceIte] at k1
      exact k1 D OffC.rf
  · refine ⟨rfl, ?_⟩
    refine x_if_eq (pc' := 11) rfl rfl (fun _ => ?_) (fun c8 => absurd (by decide) c8)
    refine x_int (pc' := 24) (v := (-1)) rfl rfl rfl ?_
    refine x_iret rfl rfl ?_
    simp (disch := first | assumption | omega) only [ownQ, onN_1, onN_0, onP_1, onP_0, ↓reduceIte] at k1
    exact k1 D OffC.rf
set_option maxRecDepth 20000 in
set_option maxHeartbeats 1000000 in
theorem l_X9_pay {D : Nat → Nat → Int32} {L : Nat → Nat → Int64} {Q : bh_Q} {d : Nat} (hd : 1 ≤ d) (hW : WF (tv D)) {l : List Nat} (hH : HdL D l) (hl : l.length ≤ 12) {a1 a2 a3 : Int32} : ∀ (r : List Nat) (i m : Nat), l.drop i = r → i ≤ 12 → m < 8 → Q (some (.int (payG (D 35) r i m))) (hp D L) → bw m_X9_pay d Q 44 [.ref 0, .int a1, .int a2, .int a3, .int (nI m), .int (nI i)] [] D L := by
  intro r
  induction r with
  | nil =>
    intro i m hd hi hm k1
    have hx0 := drop_nil hd
    refine x_iload (pc' := 46) rfl rfl rfl ?_
    refine x_aload (pc' := 47) rfl rfl rfl ?_
    refine x_getR (pc' := 50) rfl rfl rfl (by decide) rfl (by decide) rfl rfl ?_
    refine x_getI (j := 1) (pc' := 53) rfl rfl rfl (by decide) rfl (by decide) rfl rfl ?_
    refine x_top (hH.1) ?_
    refine y_ic_ge (pc' := 56) rfl rfl (by omega) (by omega) (fun c53 => ?_) (fun c53 => ?_)
    · refine x_int (pc' := 99) (v := (-2)) rfl rfl rfl ?_
      refine x_iret rfl rfl ?_
      exact k1
    · exact absurd c53 (by omega)
  | cons x r ih =>
    intro i m hd hi hm k1
    obtain ⟨hx0, hx1, hx2, hx3⟩ := drop_cons hd
    refine x_iload (pc' := 46) rfl rfl rfl ?_
    refine x_aload (pc' := 47) rfl rfl rfl ?_
    refine x_getR (pc' := 50) rfl rfl rfl (by decide) rfl (by decide) rfl rfl ?_
    refine x_getI (j := 1) (pc' := 53) rfl rfl rfl (by decide) rfl (by decide) rfl rfl ?_
    refine x_top (hH.1) ?_
    refine y_ic_ge (pc' := 56) rfl rfl (by omega) (by omega) (fun c53 => ?_) (fun c53 => ?_)
    · exact absurd c53 (by omega)
    · refine x_iload (pc' := 58) rfl rfl rfl ?_
      refine x_aload (pc' := 59) rfl rfl rfl ?_
      refine x_getR (pc' := 62) rfl rfl rfl (by decide) rfl (by decide) rfl rfl ?_
      refine x_aload (pc' := 63) rfl rfl rfl ?_
      refine x_getR (pc' := 66) rfl rfl rfl (by decide) rfl (by decide) rfl rfl ?_
      refine x_getR (pc' := 69) rfl rfl rfl (by decide) rfl (by decide) rfl rfl ?_
      refine x_iload (pc' := 71) rfl rfl rfl ?_
      refine x_iald (pc' := 72) rfl rfl (by decide) rfl (by decide) (show _ < 12 by omega) ?_
      refine x_top ((hH.2 i hx0).trans (congrArg nI hx1)) ?_
      refine x_callV (pc' := 75) (d1 := 1) (Bs := [_]) rfl rfl rfl rfl rfl rfl rfl (Nat.le_of_ble_eq_true rfl) ⟨rfl, rfl⟩ (by decide) rfl (by omega) ?_
      refine w_X8_changedBy hW ?_
      refine ⟨rfl, ?_⟩
      refine x_callS (pc' := 78) (d1 := 1) (As := [_]) rfl rfl rfl rfl (by decide) rfl rfl (Nat.le_of_ble_eq_true rfl) ⟨rfl, rfl⟩ (by omega) ?_
      refine w_bitCount (setF_lt 16) ?_
      refine ⟨rfl, ?_⟩
      refine x_top (congrArg nI pcn_setF) ?_
      have hcl := cntF_le (fun k => decide (D 35 k = nI x)) 16
      refine y_iadd (pc' := 79) rfl rfl ?_
      refine x_istore (pc' := 81) (lv' := [_, _, _, _, _, _]) rfl rfl (by decide) rfl ?_
      refine x_iload (pc' := 83) rfl rfl rfl ?_
      refine x_int (pc' := 85) (v := nI 8) rfl rfl rfl ?_
      refine y_ic_lt (pc' := 88) rfl rfl (by omega) (by omega) (fun c85 => ?_) (fun c85 => ?_)
      · refine y_inc (pc' := 94) (lv' := [_, _, _, _, _, _]) rfl rfl rfl (by decide) rfl ?_
        refine x_goto rfl ?_
        have e : payG (D 35) (x :: r) i m = payG (D 35) r (i + 1) (m + cntF (fun k => decide (D 35 k = nI x)) 16) := if_pos c85
        rw [e] at k1
        exact ih (i + 1) _ hx2 (by omega) c85 k1
      · refine x_iload (pc' := 90) rfl rfl rfl ?_
        refine x_iret rfl rfl ?_
        have e : payG (D 35) (x :: r) i m = nI i := if_neg (by omega)
        rw [e] at k1
        exact k1
set_option maxRecDepth 20000 in
set_option maxHeartbeats 1000000 in
theorem w_X9_pay {D : Nat → Nat → Int32} {L : Nat → Nat → Int64} {Q : bh_Q} (hW : WF (tv D)) {x y z : Int32} (k1 : ∀ D1, OffC D D1 → Q (some (.int (payQ (tv D) x y z))) (hp D1 L)) : bh_wc 5 m_X9_pay [.ref 0, .int x, .int y, .int z] (hp D L) Q := by
  refine x_start (lv0 := [_, _, _, _, _, _]) (Nat.le_of_ble_eq_true rfl) rfl ?_
  have h12 := hW.nwl
  refine x_aload (pc' := 1) rfl rfl rfl ?_
  refine x_getR (pc' := 4) rfl rfl rfl (by decide) rfl (by decide) rfl rfl ?_
  refine x_iload (pc' := 5) rfl rfl rfl ?_
  refine x_callV (pc' := 8) (d1 := 1) (Bs := [_]) rfl rfl rfl rfl rfl rfl rfl (Nat.le_of_ble_eq_true rfl) ⟨rfl, rfl⟩ (by decide) rfl (by decide) ?_
  refine w_X7_isWriter hW (fun h5w h5l e => ?_) (fun h5 => ?_)
  · subst e
    refine ⟨rfl, ?_⟩
    refine x_if_eq (pc' := 11) rfl rfl (fun c8 => absurd c8 (by decide)) (fun _ => ?_)
    refine x_aload (pc' := 12) rfl rfl rfl ?_
    refine x_getR (pc' := 15) rfl rfl rfl (by decide) rfl (by decide) rfl rfl ?_
    refine x_iload (pc' := 16) rfl rfl rfl ?_
    refine x_iload (pc' := 17) rfl rfl rfl ?_
    refine x_callV (pc' := 20) (d1 := 2) (Bs := [_, _]) rfl rfl rfl rfl rfl rfl rfl (Nat.le_of_ble_eq_true rfl) ⟨rfl, rfl⟩ (by decide) rfl (by decide) ?_
    refine w_X7_isPage hW (fun b q hb hq e1 e2 => ?_) (fun hn => ?_)
    · subst e1; subst e2
      refine ⟨rfl, ?_⟩
      refine x_if_ne (pc' := 23) rfl rfl (fun _ => ?_) (fun c20 => absurd c20 (by decide))
      refine x_aload (pc' := 26) rfl rfl rfl ?_
      refine x_iload (pc' := 27) rfl rfl rfl ?_
      refine x_iload (pc' := 28) rfl rfl rfl ?_
      refine x_iload (pc' := 29) rfl rfl rfl ?_
      refine x_callV (pc' := 32) (d1 := 4) (Bs := [_, _, _]) rfl rfl rfl rfl rfl rfl rfl (Nat.le_of_ble_eq_true rfl) ⟨rfl, rfl⟩ (by decide) rfl (by decide) ?_
      refine w_X9_followTrail hW h5l hb hq (fun hA D1 o1 u1 v1 hH1 => ?_) (fun hA D1 o1 => ?_)
      · have hA := nA0 hA
        refine ⟨rfl, ?_⟩
        refine x_if_ne (pc' := 35) rfl rfl (fun _ => ?_) (fun c32 => absurd c32 (by decide))
        refine x_int (pc' := 39) (v := nI 0) rfl rfl rfl ?_
        refine x_istore (pc' := 41) (lv' := [_, _, _, _, _, _]) rfl rfl (by decide) rfl ?_
        refine x_int (pc' := 42) (v := nI 0) rfl rfl rfl ?_
        refine x_istore (pc' := 44) (lv' := [_, _, _, _, _, _]) rfl rfl (by decide) rfl ?_
        simp (disch := first | assumption | omega) only [payQ, hA, onN_1, onN_0, onP_1, onP_0, ↓reduceIte] at k1
        refine l_X9_pay (d := 4) (by decide) (by rw [o1.tv]; exact hW) hH1 (isH_of hW h5l).2.1 (ch (tv D) h5w) 0 0 rfl (by decide) (by decide) ?_
        rw [payG_cg v1]
        exact k1 D1 o1
      · refine ⟨rfl, ?_⟩
        refine x_if_ne (pc' := 35) rfl rfl (fun c32 => absurd (by decide) c32) (fun _ => ?_)
        refine x_int (pc' := 37) (v := (-2)) rfl rfl rfl ?_
        refine x_iret rfl rfl ?_
        simp (disch := first | assumption | omega) only [payQ, hA, onN_1, onN_0, onP_1, onP_0, ↓reduceIte] at k1
        exact k1 D1 o1
    · refine ⟨rfl, ?_⟩
      refine x_if_ne (pc' := 23) rfl rfl (fun c20 => absurd (by decide) c20) (fun _ => ?_)
      refine x_int (pc' := 24) (v := (-1)) rfl rfl rfl ?_
      refine x_iret rfl rfl ?_
      simp (disch := first | assumption | omega) only [payQ, onN_1, onN_0, onP_1, onP_0, ↓reduceIte] at k1
      exact k1 D OffC.rf
  · refine ⟨rfl, ?_⟩
    refine x_if_eq (pc' := 11) rfl rfl (fun _ => ?_) (fun c8 => absurd (by decide) c8)
    refine x_int (pc' := 24) (v := (-1)) rfl rfl rfl ?_
    refine x_iret rfl rfl ?_
    simp (disch := first | assumption | omega) only [payQ, onN_1, onN_0, onP_1, onP_0, ↓reduceIte] at k1
    exact k1 D OffC.rf
set_option maxRecDepth 20000 in
set_option maxHeartbeats 1000000 in
theorem l0_X10_laysTrace {L : Nat → Nat → Int64} {Q : bh_Q} {d : Nat} (hd : 0 ≤ d) {r1 r2 r3 : Int32} {r5 r6 : Value} {D0 : Nat → Nat → Int32} (kE : ∀ D, OffL [214, 215] D0 D → (∀ j, j < 16 → D 214 j = nI j) → (∀ j, j < 16 → D 215 j = -1) → bw m_X10_laysTrace d Q 33 [.ref 205, .int r1, .int r2, .int r3, .int (nI 16), r5, r6] [] D L) : ∀ (f i : Nat) (D : Nat → Nat → Int32), i + f = 16 → (OffL [214, 215] D0 D) → (∀ j, j < i → D 214 j = nI j) → (∀ j, j < i → D 215 j = -1) → bw m_X10_laysTrace d Q 3 [.ref 205, .int r1, .int r2, .int r3, .int (nI i), r5, r6] [] D L := by
  intro f
  induction f with
  | zero =>
    intro i D hf o h6 h7
    refine x_iload (pc' := 5) rfl rfl rfl ?_
    refine x_int (pc' := 7) (v := nI 16) rfl rfl rfl ?_
    refine y_ic_ge (pc' := 10) rfl rfl (by omega) (by omega) (fun c7 => ?_) (fun c7 => ?_)
    · obtain rfl : i = 16 := by omega
      exact kE D o h6 h7
    · exact absurd c7 (by omega)
  | succ f ih =>
    intro i D hf o h6 h7
    refine x_iload (pc' := 5) rfl rfl rfl ?_
    refine x_int (pc' := 7) (v := nI 16) rfl rfl rfl ?_
    refine y_ic_ge (pc' := 10) rfl rfl (by omega) (by omega) (fun c7 => ?_) (fun c7 => ?_)
    · exact absurd c7 (by omega)
    · refine x_aload (pc' := 11) rfl rfl rfl ?_
      refine x_getR (pc' := 14) rfl rfl rfl (by decide) rfl (by decide) rfl rfl ?_
      refine x_iload (pc' := 16) rfl rfl rfl ?_
      refine x_iload (pc' := 18) rfl rfl rfl ?_
      refine x_iast (pc' := 19) rfl rfl (by decide) rfl (by decide) (show _ < 16 by omega) ?_
      refine x_aload (pc' := 20) rfl rfl rfl ?_
      refine x_getR (pc' := 23) rfl rfl rfl (by decide) rfl (by decide) rfl rfl ?_
      refine x_iload (pc' := 25) rfl rfl rfl ?_
      refine x_int (pc' := 26) (v := (-1)) rfl rfl rfl ?_
      refine x_iast (pc' := 27) rfl rfl (by decide) rfl (by decide) (show _ < 16 by omega) ?_
      refine y_inc (pc' := 30) (lv' := [_, _, _, _, _, _, _]) rfl rfl rfl (by decide) rfl ?_
      refine x_goto rfl ?_
      refine ih (i + 1) _ (by omega) ((o.tr (OffL.up (by decide))).tr (OffL.up (by decide))) (fun j hj => ?_) (fun j hj => ?_)
      · simp only [up2_at]
        by_cases e : j = i
        · subst e; simp
        · simp [e]; exact h6 j (by omega)
      · simp only [up2_at]
        by_cases e : j = i
        · subst e; simp
        · simp [e]; exact h7 j (by omega)
set_option maxRecDepth 20000 in
set_option maxHeartbeats 1000000 in
theorem l1_X10_laysTrace {T : TW} (hW : WF T) {L : Nat → Nat → Int64} {Q : bh_Q} {d : Nat} (hd : 3 ≤ d) {r1 r2 r3 : Int32} {r0 : Nat} (h0 : r0 < 65536) {l : List Nat} (hl : l.length ≤ 12) (hm : ∀ w ∈ l, w < nw T) : ∀ (n : Nat) (D : Nat → Nat → Int32) (v : Int32) (a6 : Value), n ≤ l.length → v = nI n - 1 → Rn T (D 206) → HdM D l → (∀ i, i < 16 → D 214 i = trOF T (l.drop n) i) → (∀ i, i < 16 → D 215 i = trCF T r0 (l.drop n) i) → (∀ D', OffL [214, 215, 216, 217] D D' → (∀ i, i < 16 → D' 214 i = trOF T l i) → (∀ i, i < 16 → D' 215 i = trCF T r0 l i) → Q none (hp D' L)) → bw m_X10_laysTrace d Q 50 [.ref 205, .int r1, .int r2, .int r3, .int (nI (trR T r0 (l.drop n))), .int v, a6] [] D L := by
  have h12 := hW.nwl
  intro n
  induction n with
  | zero =>
    intro D v a6 hn hv hR hH hO hC k
    refine x_iload (pc' := 52) rfl rfl rfl ?_
    refine x_if_lt (pc' := 55) rfl rfl (fun c52 => ?_) (fun c52 => ?_)
    · refine x_vret rfl rfl ?_
      exact k D OffL.rf hO hC
    · exact absurd (by rw [hv]; exact sub1_lt (by omega)) c52
  | succ n ih =>
    intro D v a6 hn hv hR hH hO hC k
    have hv : v = nI n := by rw [hv]; exact nI_pred _
    subst hv
    refine x_iload (pc' := 52) rfl rfl rfl ?_
    refine y_if_lt (pc' := 55) rfl rfl (by first | omega | (split <;> omega)) ?_
    refine x_aload (pc' := 56) rfl rfl rfl ?_
    refine x_aload (pc' := 57) rfl rfl rfl ?_
    refine x_getR (pc' := 60) rfl rfl rfl (by decide) rfl (by decide) rfl rfl ?_
    refine x_iload (pc' := 62) rfl rfl rfl ?_
    have hw : l.getD n 0 < nw T := hm _ (getD_mem (by omega))
    have hrl := trR_lt hW h0 (r := l.drop (n + 1)) (fun w hw => hm w (List.mem_of_mem_drop hw))
    have ed := drop_get (l := l) (n := n) (by omega)
    refine x_iald (pc' := 63) rfl rfl (by decide) rfl (by decide) (show _ < 12 by omega) ?_
    refine x_top (hH _ (by omega)) ?_
    refine x_int (pc' := 65) (v := nI 7) rfl rfl rfl ?_
    refine x_callV (pc' := 68) (d1 := 1) (Bs := [_, _]) rfl rfl rfl rfl rfl rfl rfl (Nat.le_of_ble_eq_true rfl) ⟨rfl, rfl⟩ (by decide) rfl (by omega) ?_
    refine w_X10_of (by omega) (by decide) ?_
    refine ⟨rfl, ?_⟩
    refine x_top (hR.rmo hw) ?_
    refine x_int (pc' := 69) (v := nI 1) rfl rfl rfl ?_
    refine y_ic_ne (pc' := 72) rfl rfl (by first | omega | (split <;> omega)) (by first | omega | (split <;> omega)) (fun c69 => ?_) (fun c69 => ?_)
    · have hM : isM T (l.getD n 0) = false := by cases hz : isM T (l.getD n 0) with
        | false => rfl
        | true => exact absurd (by rw [hz]; rfl) c69
      refine x_aload (pc' := 76) rfl rfl rfl ?_
      refine x_aload (pc' := 77) rfl rfl rfl ?_
      refine x_getR (pc' := 80) rfl rfl rfl (by decide) rfl (by decide) rfl rfl ?_
      refine x_iload (pc' := 82) rfl rfl rfl ?_
      refine x_iald (pc' := 83) rfl rfl (by decide) rfl (by decide) (show _ < 12 by omega) ?_
      refine x_top (hH _ (by omega)) ?_
      refine x_iload (pc' := 85) rfl rfl rfl ?_
      refine x_callV (pc' := 88) (d1 := 3) (Bs := [_, _]) rfl rfl rfl rfl rfl rfl rfl (Nat.le_of_ble_eq_true rfl) ⟨rfl, rfl⟩ (by decide) rfl (by omega) ?_
      refine w_X10_habit hW hR hw hrl ?_
      refine ⟨rfl, ?_⟩
      refine x_istore (pc' := 90) (lv' := [_, _, _, _, _, _, _]) rfl rfl (by decide) rfl ?_
      refine x_aload (pc' := 91) rfl rfl rfl ?_
      refine x_aload (pc' := 92) rfl rfl rfl ?_
      refine x_getR (pc' := 95) rfl rfl rfl (by decide) rfl (by decide) rfl rfl ?_
      refine x_iload (pc' := 97) rfl rfl rfl ?_
      refine x_iald (pc' := 98) rfl rfl (by decide) rfl (by decide) (show _ < 12 by omega) ?_
      refine x_top (hH _ (by omega)) ?_
      refine x_iload (pc' := 100) rfl rfl rfl ?_
      refine x_iload (pc' := 102) rfl rfl rfl ?_
      refine x_callV (pc' := 105) (d1 := 2) (Bs := [_, _, _]) rfl rfl rfl rfl rfl rfl rfl (Nat.le_of_ble_eq_true rfl) ⟨rfl, rfl⟩ (by decide) rfl (by omega) ?_
      refine w_X10_traces hW hR hw hrl rfl rfl rfl (fun D1 o1 u1 v1 => ?_)
      refine ⟨rfl, ?_⟩
      refine x_iload (pc' := 107) rfl rfl rfl ?_
      refine x_istore (pc' := 109) (lv' := [_, _, _, _, _, _, _]) rfl rfl (by decide) rfl ?_
      refine x_iinc (pc' := 112) (w := (-1)) (lv' := [_, _, _, _, _, _, _]) rfl rfl rfl rfl (by decide) (add_m1 _) rfl ?_
      refine x_goto rfl ?_
      first
        | (have eR : trR T r0 (l.drop n) = trR T r0 (l.drop (n + 1)) := by rw [ed]; exact trR_1 hM
           have hh := ih D (nI n - 1) a6 (by omega) rfl hR hH (fun i hi => by rw [ed, trOF_1 hM]; exact hO i hi) (fun i hi => by rw [ed, trCF_1 hM]; exact hC i hi) k
           rw [eR] at hh
           exact hh)
        | (have eR : trR T r0 (l.drop n) = hab (kd T (l.getD n 0)) (fa T (l.getD n 0)) (fb T (l.getD n 0)) (trR T r0 (l.drop (n + 1))) := by rw [ed]; exact trR_0 hM
           have hh := ih D1 (nI n - 1) (.int (nI (hab (kd T (l.getD n 0)) (fa T (l.getD n 0)) (fb T (l.getD n 0)) (trR T r0 (l.drop (n + 1)))))) (by omega) rfl (by rw [o1 206 (by decide)]; exact hR) (fun i hi => by rw [o1 212 (by decide)]; exact hH i hi) (fun i hi => by rw [ed, trOF_0 hM, u1 i hi]; exact trO_cg (hW.fal hw) (hW.fbl hw) hO hi) (fun i hi => by rw [ed, trCF_0 hM, v1 i hi]; exact trC_cg (hW.fal hw) (hW.fbl hw) hC hi) (fun D2 o2 p2 q2 => k D2 (o1.tr o2) p2 q2)
           rw [eR] at hh
           exact hh)
    · have hM : isM T (l.getD n 0) = true := by cases hz : isM T (l.getD n 0) with
        | true => rfl
        | false => rw [hz] at c69; exact absurd c69 (by decide)
      refine x_goto rfl ?_
      refine x_iinc (pc' := 112) (w := (-1)) (lv' := [_, _, _, _, _, _, _]) rfl rfl rfl rfl (by decide) (add_m1 _) rfl ?_
      refine x_goto rfl ?_
      first
        | (have eR : trR T r0 (l.drop n) = trR T r0 (l.drop (n + 1)) := by rw [ed]; exact trR_1 hM
           have hh := ih D (nI n - 1) a6 (by omega) rfl hR hH (fun i hi => by rw [ed, trOF_1 hM]; exact hO i hi) (fun i hi => by rw [ed, trCF_1 hM]; exact hC i hi) k
           rw [eR] at hh
           exact hh)
        | (have eR : trR T r0 (l.drop n) = hab (kd T (l.getD n 0)) (fa T (l.getD n 0)) (fb T (l.getD n 0)) (trR T r0 (l.drop (n + 1))) := by rw [ed]; exact trR_0 hM
           have hh := ih D1 (nI n - 1) (.int (nI (hab (kd T (l.getD n 0)) (fa T (l.getD n 0)) (fb T (l.getD n 0)) (trR T r0 (l.drop (n + 1)))))) (by omega) rfl (by rw [o1 206 (by decide)]; exact hR) (fun i hi => by rw [o1 212 (by decide)]; exact hH i hi) (fun i hi => by rw [ed, trOF_0 hM, u1 i hi]; exact trO_cg (hW.fal hw) (hW.fbl hw) hO hi) (fun i hi => by rw [ed, trCF_0 hM, v1 i hi]; exact trC_cg (hW.fal hw) (hW.fbl hw) hC hi) (fun D2 o2 p2 q2 => k D2 (o1.tr o2) p2 q2)
           rw [eR] at hh
           exact hh)
set_option maxRecDepth 20000 in
set_option maxHeartbeats 1000000 in
theorem w_X10_laysTrace {D : Nat → Nat → Int32} {L : Nat → Nat → Int64} {Q : bh_Q} {T : TW} (hW : WF T) (hR : Rn T (D 206)) {w b q : Nat} (hw : w < nw T) (hb : b < nb T) (hq : q < lng T b) (k1 : ∀ D', OffL [212, 214, 215, 216, 217] D D' → HdM D' (ch T w) → (∀ i, i < 16 → D' 214 i = trOF T (ch T w) i) → (∀ i, i < 16 → D' 215 i = trCF T (pg T b q) (ch T w) i) → Q none (hp D' L)) : bh_wc 4 m_X10_laysTrace [.ref 205, .int (nI w), .int (nI b), .int (nI q)] (hp D L) Q := by
  refine x_start (lv0 := [_, _, _, _, _, _, _]) (Nat.le_of_ble_eq_true rfl) rfl ?_
  have h12 := hW.nwl
  refine x_int (pc' := 1) (v := nI 0) rfl rfl rfl ?_
  refine x_istore (pc' := 3) (lv' := [_, _, _, _, _, _, _]) rfl rfl (by decide) rfl ?_
  refine l0_X10_laysTrace (d := 3) (Nat.zero_le _) (D0 := D) (fun D1 o1 h6 h7 => ?_) 16 0 D rfl OffL.rf (fun j hj => absurd hj (Nat.not_lt_zero j)) (fun j hj => absurd hj (Nat.not_lt_zero j))
  have hR1 : Rn T (D1 206) := by rw [o1 206 (by decide)]; exact hR
  refine x_aload (pc' := 34) rfl rfl rfl ?_
  refine x_iload (pc' := 35) rfl rfl rfl ?_
  refine x_iload (pc' := 36) rfl rfl rfl ?_
  refine x_callV (pc' := 39) (d1 := 1) (Bs := [_, _]) rfl rfl rfl rfl rfl rfl rfl (Nat.le_of_ble_eq_true rfl) ⟨rfl, rfl⟩ (by decide) rfl (by decide) ?_
  refine w_X10_pageOf hW hR1 hb hq ?_
  refine ⟨rfl, ?_⟩
  refine x_istore (pc' := 41) (lv' := [_, _, _, _, _, _, _]) rfl rfl (by decide) rfl ?_
  refine x_aload (pc' := 42) rfl rfl rfl ?_
  refine x_iload (pc' := 43) rfl rfl rfl ?_
  refine x_callV (pc' := 46) (d1 := 3) (Bs := [_]) rfl rfl rfl rfl rfl rfl rfl (Nat.le_of_ble_eq_true rfl) ⟨rfl, rfl⟩ (by decide) rfl (by decide) ?_
  refine w_X10_hands hW hR1 hw (fun D2 o2 hH2 => ?_)
  refine ⟨rfl, ?_⟩
  refine x_int (pc' := 47) (v := nI 1) rfl rfl rfl ?_
  refine x_isub (pc' := 48) rfl rfl ?_
  refine x_istore (pc' := 50) (lv' := [_, _, _, _, _, _, _]) rfl rfl (by decide) rfl ?_
  have hh := l1_X10_laysTrace hW (d := 3) (L := L) (Q := Q) (r1 := nI w) (r2 := nI b) (r3 := nI q) (by decide) (hW.pgl hb hq) (isH_of hW hw).2.1 (ch_mem hW hw) (ch T w).length D2 (nI (ch T w).length - 1) .null (Nat.le_refl _) rfl (by rw [o2 206 (by decide)]; exact hR1) hH2 (fun i hi => by rw [List.drop_length, o2 214 (by decide)]; exact h6 i hi) (fun i hi => by rw [List.drop_length, o2 215 (by decide)]; exact h7 i hi) (fun D3 o3 p3 q3 => k1 D3 (fun z hz => ((o3 z (fun y => hz (by simp at y ⊢; omega))).trans (o2 z (fun y => hz (by simp at y ⊢; omega)))).trans (o1 z (fun y => hz (by simp at y ⊢; omega)))) (fun i hi => (o3 212 (by decide) ▸ hH2 i hi)) p3 q3)
  rw [List.drop_length] at hh
  exact hh
set_option maxRecDepth 20000 in
set_option maxHeartbeats 1000000 in
theorem w_X10_trace {D : Nat → Nat → Int32} {L : Nat → Nat → Int64} {Q : bh_Q} {T : TW} (hW : WF T) (hR : Rn T (D 206)) {x y z s v : Int32} (k1 : ∀ D1, OffM D D1 → Q (some (.int (traceQ T x y z s v))) (hp D1 L)) : bh_wc 5 m_X10_trace [.ref 205, .int x, .int y, .int z, .int s, .int v] (hp D L) Q := by
  refine x_start (lv0 := [_, _, _, _, _, _]) (Nat.le_of_ble_eq_true rfl) rfl ?_
  have h12 := hW.nwl
  refine x_aload (pc' := 1) rfl rfl rfl ?_
  refine x_iload (pc' := 2) rfl rfl rfl ?_
  refine x_callV (pc' := 5) (d1 := 2) (Bs := [_]) rfl rfl rfl rfl rfl rfl rfl (Nat.le_of_ble_eq_true rfl) ⟨rfl, rfl⟩ (by decide) rfl (by decide) ?_
  refine w_X10_isWriter hW hR (fun h2w h2l e => ?_) (fun h2 => ?_)
  · subst e
    refine ⟨rfl, ?_⟩
    refine x_if_eq (pc' := 8) rfl rfl (fun c5 => absurd c5 (by decide)) (fun _ => ?_)
    refine x_aload (pc' := 9) rfl rfl rfl ?_
    refine x_iload (pc' := 10) rfl rfl rfl ?_
    refine x_iload (pc' := 11) rfl rfl rfl ?_
    refine x_callV (pc' := 14) (d1 := 3) (Bs := [_, _]) rfl rfl rfl rfl rfl rfl rfl (Nat.le_of_ble_eq_true rfl) ⟨rfl, rfl⟩ (by decide) rfl (by decide) ?_
    refine w_X10_isPage hW hR (fun b q hb hq e1 e2 => ?_) (fun hn => ?_)
    · subst e1; subst e2
      refine ⟨rfl, ?_⟩
      refine x_if_eq (pc' := 17) rfl rfl (fun c14 => absurd c14 (by decide)) (fun _ => ?_)
      refine x_iload (pc' := 19) rfl rfl rfl ?_
      refine x_i2l (pc' := 20) rfl rfl ?_
      refine x_long (pc' := 21) (v := (nI 0).toInt64) rfl rfl (by decide) ?_
      refine x_long (pc' := 24) (v := (nI 15).toInt64) rfl rfl (by decide) ?_
      refine x_callS (pc' := 27) (d1 := 1) (As := [_, _, _]) rfl rfl rfl rfl (by decide) rfl rfl (Nat.le_of_ble_eq_true rfl) ⟨rfl, rfl⟩ (by decide) ?_
      refine w_X10_in (fun h24a h24b => ?_) (fun h24 => ?_)
      · obtain ⟨h24w, h24l, rfl⟩ := in_okL (n := 15) (by decide) h24a h24b
        refine ⟨rfl, ?_⟩
        refine x_if_eq (pc' := 30) rfl rfl (fun c27 => absurd c27 (by decide)) (fun _ => ?_)
        refine x_iload (pc' := 32) rfl rfl rfl ?_
        refine x_i2l (pc' := 33) rfl rfl ?_
        refine x_long (pc' := 34) (v := (nI 0).toInt64) rfl rfl (by decide) ?_
        refine x_long (pc' := 35) (v := (nI 1).toInt64) rfl rfl (by decide) ?_
        refine x_callS (pc' := 38) (d1 := 1) (As := [_, _, _]) rfl rfl rfl rfl (by decide) rfl rfl (Nat.le_of_ble_eq_true rfl) ⟨rfl, rfl⟩ (by decide) ?_
        refine w_X10_in (fun h35a h35b => ?_) (fun h35 => ?_)
        · obtain ⟨h35w, h35l, rfl⟩ := in_okL (n := 1) (by decide) h35a h35b
          refine ⟨rfl, ?_⟩
          refine x_if_ne (pc' := 41) rfl rfl (fun _ => ?_) (fun c38 => absurd c38 (by decide))
          refine x_aload (pc' := 45) rfl rfl rfl ?_
          refine x_iload (pc' := 46) rfl rfl rfl ?_
          refine x_callV (pc' := 49) (d1 := 3) (Bs := [_]) rfl rfl rfl rfl rfl rfl rfl (Nat.le_of_ble_eq_true rfl) ⟨rfl, rfl⟩ (by decide) rfl (by decide) ?_
          refine w_X10_isAnyDead hW hR h2l (fun hA => ?_) (fun hA => ?_)
          · refine ⟨rfl, ?_⟩
            refine x_if_eq (pc' := 52) rfl rfl (fun c49 => absurd c49 (by decide)) (fun _ => ?_)
            refine x_int (pc' := 54) (v := (-2)) rfl rfl rfl ?_
            refine x_iret rfl rfl ?_
            simp (disch := first | assumption | omega) only [traceQ, hA, onN_1, onN_0, onP_1, onP_0, ↓reduceIte] at k1
            exact k1 D OffM.rf
          · have hA := nA0 hA
            refine ⟨rfl, ?_⟩
            refine x_if_eq (pc' := 52) rfl rfl (fun _ => ?_) (fun c49 => absurd (by decide) c49)
            refine x_aload (pc' := 56) rfl rfl rfl ?_
            refine x_iload (pc' := 57) rfl rfl rfl ?_
            refine x_iload (pc' := 58) rfl rfl rfl ?_
            refine x_iload (pc' := 59) rfl rfl rfl ?_
            refine x_callV (pc' := 62) (d1 := 4) (Bs := [_, _, _]) rfl rfl rfl rfl rfl rfl rfl (Nat.le_of_ble_eq_true rfl) ⟨rfl, rfl⟩ (by decide) rfl (by decide) ?_
            refine w_X10_laysTrace hW hR h2l hb hq (fun D1 o1 hH1 u1 v1 => ?_)
            have o1m := OffL.m o1 (by decide)
            refine ⟨rfl, ?_⟩
            refine x_iload (pc' := 64) rfl rfl rfl ?_
            refine y_if_ne (pc' := 67) rfl rfl (by omega) (fun c64 => ?_) (fun c64 => ?_)
            · refine x_aload (pc' := 78) rfl rfl rfl ?_
              refine x_getR (pc' := 81) rfl rfl rfl (by decide) rfl (by decide) rfl rfl ?_
              refine x_iload (pc' := 83) rfl rfl rfl ?_
              refine x_iald (pc' := 84) rfl rfl (by decide) rfl (by decide) (show _ < 16 by omega) ?_
              refine x_iret rfl rfl ?_
              simp (disch := first | assumption | omega) only [traceQ, hA, c64, onN_1, onN_0, onP_1, onP_0, ↓reduceIte] at k1
              first
                | (rw [u1 _ h24l]; exact k1 D1 o1m)
                | (rw [v1 _ h24l]; exact k1 D1 o1m)
            · refine x_aload (pc' := 68) rfl rfl rfl ?_
              refine x_getR (pc' := 71) rfl rfl rfl (by decide) rfl (by decide) rfl rfl ?_
              refine x_iload (pc' := 73) rfl rfl rfl ?_
              refine x_iald (pc' := 74) rfl rfl (by decide) rfl (by decide) (show _ < 16 by omega) ?_
              refine x_goto rfl ?_
              refine x_iret rfl rfl ?_
              simp (disch := first | assumption | omega) only [traceQ, hA, c64, onN_1, onN_0, onP_1, onP_0, ↓reduceIte] at k1
              first
                | (rw [u1 _ h24l]; exact k1 D1 o1m)
                | (rw [v1 _ h24l]; exact k1 D1 o1m)
        · have h35 := okN_inL (n := 1) (by decide) h35
          refine ⟨rfl, ?_⟩
          refine x_if_ne (pc' := 41) rfl rfl (fun c38 => absurd (by decide) c38) (fun _ => ?_)
          refine x_int (pc' := 43) (v := (-3)) rfl rfl rfl ?_
          refine x_iret rfl rfl ?_
          simp (disch := first | assumption | omega) only [traceQ, onN_1, onN_0, onP_1, onP_0, ↓reduceIte] at k1
          exact k1 D OffM.rf
      · have h24 := okN_inL (n := 15) (by decide) h24
        refine ⟨rfl, ?_⟩
        refine x_if_eq (pc' := 30) rfl rfl (fun _ => ?_) (fun c27 => absurd (by decide) c27)
        refine x_int (pc' := 43) (v := (-3)) rfl rfl rfl ?_
        refine x_iret rfl rfl ?_
        simp (disch := first | assumption | omega) only [traceQ, onN_1, onN_0, onP_1, onP_0, ↓reduceIte] at k1
        exact k1 D OffM.rf
    · refine ⟨rfl, ?_⟩
      refine x_if_eq (pc' := 17) rfl rfl (fun _ => ?_) (fun c14 => absurd (by decide) c14)
      refine x_int (pc' := 43) (v := (-3)) rfl rfl rfl ?_
      refine x_iret rfl rfl ?_
      simp (disch := first | assumption | omega) only [traceQ, onN_1, onN_0, onP_1, onP_0, ↓reduceIte] at k1
      exact k1 D OffM.rf
  · refine ⟨rfl, ?_⟩
    refine x_if_eq (pc' := 8) rfl rfl (fun _ => ?_) (fun c5 => absurd (by decide) c5)
    refine x_int (pc' := 43) (v := (-3)) rfl rfl rfl ?_
    refine x_iret rfl rfl ?_
    simp (disch := first | assumption | omega) only [traceQ, onN_1, onN_0, onP_1, onP_0, ↓reduceIte] at k1
    exact k1 D OffM.rf
set_option maxRecDepth 20000 in
set_option maxHeartbeats 1000000 in
theorem l_X10_own {D : Nat → Nat → Int32} {L : Nat → Nat → Int64} {Q : bh_Q} {d : Nat} (hd : 0 ≤ d) {T : TW} (hW : WF T) {x a2 a3 : Int32} (k1 : Q (some (.int (nI (setF (fun i => decide (D 215 i = x)) 16)))) (hp D L)) : ∀ (f i : Nat), i + f = 16 → bw m_X10_own d Q 43 [.ref 205, .int x, .int a2, .int a3, .int (nI (setF (fun i => decide (D 215 i = x)) i)), .int (nI i)] [] D L := by
  have h12 := hW.nwl
  have h4 := hW.nbl
  intro f
  induction f with
  | zero =>
    intro i hf
    refine x_iload (pc' := 45) rfl rfl rfl ?_
    refine x_int (pc' := 47) (v := nI 16) rfl rfl rfl ?_
    refine y_ic_ge (pc' := 50) rfl rfl (by omega) (by omega) (fun c47 => ?_) (fun c47 => ?_)
    · refine x_iload (pc' := 82) rfl rfl rfl ?_
      refine x_iret rfl rfl ?_
      obtain rfl : i = 16 := by omega
      exact k1
    · exact absurd c47 (by omega)
  | succ f ih =>
    intro i hf
    refine x_iload (pc' := 45) rfl rfl rfl ?_
    refine x_int (pc' := 47) (v := nI 16) rfl rfl rfl ?_
    refine y_ic_ge (pc' := 50) rfl rfl (by omega) (by omega) (fun c47 => ?_) (fun c47 => ?_)
    · exact absurd c47 (by omega)
    · refine x_iload (pc' := 52) rfl rfl rfl ?_
      refine x_aload (pc' := 53) rfl rfl rfl ?_
      refine x_getR (pc' := 56) rfl rfl rfl (by decide) rfl (by decide) rfl rfl ?_
      refine x_iload (pc' := 58) rfl rfl rfl ?_
      refine x_iald (pc' := 59) rfl rfl (by decide) rfl (by decide) (show _ < 16 by omega) ?_
      refine x_iload (pc' := 60) rfl rfl rfl ?_
      refine x_ic_ne (pc' := 63) rfl rfl (fun c60 => ?_) (fun c60 => ?_)
      · refine x_int (pc' := 71) (v := nI 0) rfl rfl rfl ?_
        refine y_ior (pc' := 72) rfl rfl ?_
        refine x_istore (pc' := 74) (lv' := [_, _, _, _, _, _]) rfl rfl (by decide) rfl ?_
        refine y_inc (pc' := 77) (lv' := [_, _, _, _, _, _]) rfl rfl rfl (by decide) rfl ?_
        refine x_goto rfl ?_
        first
          | (have e := setF_1 (f := (fun i => decide (D 215 i = x))) (i := i) (decide_eq_true c60)
             have hh := ih (i + 1) (by omega)
             rw [e] at hh
             exact hh)
          | (have e := setF_00 (f := (fun i => decide (D 215 i = x))) (i := i) (decide_eq_false c60)
             have hh := ih (i + 1) (by omega)
             rw [e] at hh
             exact hh)
      · refine x_int (pc' := 64) (v := nI 1) rfl rfl rfl ?_
        refine x_iload (pc' := 66) rfl rfl rfl ?_
        refine y_ishl (pc' := 67) rfl rfl (by omega) ?_
        refine x_goto rfl ?_
        refine y_ior (pc' := 72) rfl rfl ?_
        refine x_istore (pc' := 74) (lv' := [_, _, _, _, _, _]) rfl rfl (by decide) rfl ?_
        refine y_inc (pc' := 77) (lv' := [_, _, _, _, _, _]) rfl rfl rfl (by decide) rfl ?_
        refine x_goto rfl ?_
        first
          | (have e := setF_1 (f := (fun i => decide (D 215 i = x))) (i := i) (decide_eq_true c60)
             have hh := ih (i + 1) (by omega)
             rw [e] at hh
             exact hh)
          | (have e := setF_00 (f := (fun i => decide (D 215 i = x))) (i := i) (decide_eq_false c60)
             have hh := ih (i + 1) (by omega)
             rw [e] at hh
             exact hh)
set_option maxRecDepth 20000 in
set_option maxHeartbeats 1000000 in
theorem w_X10_own {D : Nat → Nat → Int32} {L : Nat → Nat → Int64} {Q : bh_Q} {T : TW} (hW : WF T) (hR : Rn T (D 206)) {x y z : Int32} (k1 : ∀ D1, OffM D D1 → Q (some (.int (ownQ T x y z))) (hp D1 L)) : bh_wc 5 m_X10_own [.ref 205, .int x, .int y, .int z] (hp D L) Q := by
  refine x_start (lv0 := [_, _, _, _, _, _]) (Nat.le_of_ble_eq_true rfl) rfl ?_
  have h12 := hW.nwl
  refine x_aload (pc' := 1) rfl rfl rfl ?_
  refine x_iload (pc' := 2) rfl rfl rfl ?_
  refine x_callV (pc' := 5) (d1 := 2) (Bs := [_]) rfl rfl rfl rfl rfl rfl rfl (Nat.le_of_ble_eq_true rfl) ⟨rfl, rfl⟩ (by decide) rfl (by decide) ?_
  refine w_X10_isWriter hW hR (fun h2w h2l e => ?_) (fun h2 => ?_)
  · subst e
    refine ⟨rfl, ?_⟩
    refine x_if_eq (pc' := 8) rfl rfl (fun c5 => absurd c5 (by decide)) (fun _ => ?_)
    refine x_aload (pc' := 9) rfl rfl rfl ?_
    refine x_iload (pc' := 10) rfl rfl rfl ?_
    refine x_iload (pc' := 11) rfl rfl rfl ?_
    refine x_callV (pc' := 14) (d1 := 3) (Bs := [_, _]) rfl rfl rfl rfl rfl rfl rfl (Nat.le_of_ble_eq_true rfl) ⟨rfl, rfl⟩ (by decide) rfl (by decide) ?_
    refine w_X10_isPage hW hR (fun b q hb hq e1 e2 => ?_) (fun hn => ?_)
    · subst e1; subst e2
      refine ⟨rfl, ?_⟩
      refine x_if_ne (pc' := 17) rfl rfl (fun _ => ?_) (fun c14 => absurd c14 (by decide))
      refine x_aload (pc' := 20) rfl rfl rfl ?_
      refine x_iload (pc' := 21) rfl rfl rfl ?_
      refine x_callV (pc' := 24) (d1 := 3) (Bs := [_]) rfl rfl rfl rfl rfl rfl rfl (Nat.le_of_ble_eq_true rfl) ⟨rfl, rfl⟩ (by decide) rfl (by decide) ?_
      refine w_X10_isAnyDead hW hR h2l (fun hA => ?_) (fun hA => ?_)
      · refine ⟨rfl, ?_⟩
        refine x_if_eq (pc' := 27) rfl rfl (fun c24 => absurd c24 (by decide)) (fun _ => ?_)
        refine x_int (pc' := 29) (v := (-2)) rfl rfl rfl ?_
        refine x_iret rfl rfl ?_
        simp (disch := first | assumption | omega) only [ownQ, hA, onN_1, onN_0, onP_1, onP_0, ↓reduceIte] at k1
        exact k1 D OffM.rf
      · have hA := nA0 hA
        refine ⟨rfl, ?_⟩
        refine x_if_eq (pc' := 27) rfl rfl (fun _ => ?_) (fun c24 => absurd (by decide) c24)
        refine x_aload (pc' := 31) rfl rfl rfl ?_
        refine x_iload (pc' := 32) rfl rfl rfl ?_
        refine x_iload (pc' := 33) rfl rfl rfl ?_
        refine x_iload (pc' := 34) rfl rfl rfl ?_
        refine x_callV (pc' := 37) (d1 := 4) (Bs := [_, _, _]) rfl rfl rfl rfl rfl rfl rfl (Nat.le_of_ble_eq_true rfl) ⟨rfl, rfl⟩ (by decide) rfl (by decide) ?_
        refine w_X10_laysTrace hW hR h2l hb hq (fun D1 o1 hH1 u1 v1 => ?_)
        have o1m := OffL.m o1 (by decide)
        refine ⟨rfl, ?_⟩
        refine x_int (pc' := 38) (v := nI 0) rfl rfl rfl ?_
        refine x_istore (pc' := 40) (lv' := [_, _, _, _, _, _]) rfl rfl (by decide) rfl ?_
        refine x_int (pc' := 41) (v := nI 0) rfl rfl rfl ?_
        refine x_istore (pc' := 43) (lv' := [_, _, _, _, _, _]) rfl rfl (by decide) rfl ?_
        simp (disch := first | assumption | omega) only [ownQ, hA, onN_1, onN_0, onP_1, onP_0, ↓reduceIte] at k1
        refine l_X10_own (d := 4) (Nat.zero_le _) hW ?_ 16 0 rfl
        rw [setF_cg (g := fun i => decide (trCF T (pg T b q) (ch T h2w) i = nI h2w)) 16 (fun i hi => by rw [v1 i hi])]
        exact k1 D1 o1m
    · refine ⟨rfl, ?_⟩
      refine x_if_ne (pc' := 17) rfl rfl (fun c14 => absurd (by decide) c14) (fun _ => ?_)
      refine x_int (pc' := 18) (v := (-1)) rfl rfl rfl ?_
      refine x_iret rfl rfl ?_
      simp (disch := first | assumption | omega) only [ownQ, onN_1, onN_0, onP_1, onP_0, ↓reduceIte] at k1
      exact k1 D OffM.rf
  · refine ⟨rfl, ?_⟩
    refine x_if_eq (pc' := 8) rfl rfl (fun _ => ?_) (fun c5 => absurd (by decide) c5)
    refine x_int (pc' := 18) (v := (-1)) rfl rfl rfl ?_
    refine x_iret rfl rfl ?_
    simp (disch := first | assumption | omega) only [ownQ, onN_1, onN_0, onP_1, onP_0, ↓reduceIte] at k1
    exact k1 D OffM.rf
set_option maxRecDepth 20000 in
set_option maxHeartbeats 1000000 in
theorem l0_X10_pay {D : Nat → Nat → Int32} {L : Nat → Nat → Int64} {Q : bh_Q} {d : Nat} (hd : 1 ≤ d) {T : TW} (hW : WF T) {a1 a2 a3 a4 : Int32} {m j x : Nat} (hj : j < 12) (hx : D 212 j = nI x) (k1 : bw m_X10_pay d Q 103 [.ref 205, .int a1, .int a2, .int a3, .int a4, .int (nI (m + cntF (fun k => decide (D 215 k = nI x)) 16)), .int (nI j), .int (nI 16)] [] D L) : ∀ (f i : Nat), i + f = 16 → bw m_X10_pay d Q 60 [.ref 205, .int a1, .int a2, .int a3, .int a4, .int (nI (m + cntF (fun k => decide (D 215 k = nI x)) i)), .int (nI j), .int (nI i)] [] D L := by
  have h12 := hW.nwl
  have h4 := hW.nbl
  intro f
  induction f with
  | zero =>
    intro i hf
    refine x_iload (pc' := 62) rfl rfl rfl ?_
    refine x_int (pc' := 64) (v := nI 16) rfl rfl rfl ?_
    refine y_ic_ge (pc' := 67) rfl rfl (by omega) (by omega) (fun c64 => ?_) (fun c64 => ?_)
    · obtain rfl : i = 16 := by omega
      exact k1
    · exact absurd c64 (by omega)
  | succ f ih =>
    intro i hf
    refine x_iload (pc' := 62) rfl rfl rfl ?_
    refine x_int (pc' := 64) (v := nI 16) rfl rfl rfl ?_
    refine y_ic_ge (pc' := 67) rfl rfl (by omega) (by omega) (fun c64 => ?_) (fun c64 => ?_)
    · exact absurd c64 (by omega)
    · refine x_iload (pc' := 69) rfl rfl rfl ?_
      refine x_aload (pc' := 70) rfl rfl rfl ?_
      refine x_getR (pc' := 73) rfl rfl rfl (by decide) rfl (by decide) rfl rfl ?_
      refine x_iload (pc' := 75) rfl rfl rfl ?_
      refine x_iald (pc' := 76) rfl rfl (by decide) rfl (by decide) (show _ < 16 by omega) ?_
      refine x_aload (pc' := 77) rfl rfl rfl ?_
      refine x_getR (pc' := 80) rfl rfl rfl (by decide) rfl (by decide) rfl rfl ?_
      refine x_iload (pc' := 82) rfl rfl rfl ?_
      refine x_iald (pc' := 83) rfl rfl (by decide) rfl (by decide) (show _ < 12 by omega) ?_
      refine x_top (hx) ?_
      refine x_ic_ne (pc' := 86) rfl rfl (fun c83 => ?_) (fun c83 => ?_)
      · refine x_int (pc' := 91) (v := nI 0) rfl rfl rfl ?_
        refine x_callS (pc' := 94) (d1 := 1) (As := [_]) rfl rfl rfl rfl (by decide) rfl rfl (Nat.le_of_ble_eq_true rfl) ⟨rfl, rfl⟩ (by omega) ?_
        refine w_X10_truth (by decide) ?_
        refine ⟨rfl, ?_⟩
        refine y_iadd (pc' := 95) rfl rfl ?_
        refine x_istore (pc' := 97) (lv' := [_, _, _, _, _, _, _, _]) rfl rfl (by decide) rfl ?_
        refine y_inc (pc' := 100) (lv' := [_, _, _, _, _, _, _, _]) rfl rfl rfl (by decide) rfl ?_
        refine x_goto rfl ?_
        first
          | (have e : cntF (fun k => decide (D 215 k = nI x)) (i + 1) = cntF (fun k => decide (D 215 k = nI x)) i + 1 := by show _ + _ = _; simp [c83]
             have hh := ih (i + 1) (by omega)
             rw [e, ← Nat.add_assoc] at hh
             exact hh)
          | (have e : cntF (fun k => decide (D 215 k = nI x)) (i + 1) = cntF (fun k => decide (D 215 k = nI x)) i + 0 := by show _ + _ = _; simp [c83]
             have hh := ih (i + 1) (by omega)
             rw [e, ← Nat.add_assoc] at hh
             exact hh)
      · refine x_int (pc' := 87) (v := nI 1) rfl rfl rfl ?_
        refine x_goto rfl ?_
        refine x_callS (pc' := 94) (d1 := 1) (As := [_]) rfl rfl rfl rfl (by decide) rfl rfl (Nat.le_of_ble_eq_true rfl) ⟨rfl, rfl⟩ (by omega) ?_
        refine w_X10_truth (by decide) ?_
        refine ⟨rfl, ?_⟩
        refine y_iadd (pc' := 95) rfl rfl ?_
        refine x_istore (pc' := 97) (lv' := [_, _, _, _, _, _, _, _]) rfl rfl (by decide) rfl ?_
        refine y_inc (pc' := 100) (lv' := [_, _, _, _, _, _, _, _]) rfl rfl rfl (by decide) rfl ?_
        refine x_goto rfl ?_
        first
          | (have e : cntF (fun k => decide (D 215 k = nI x)) (i + 1) = cntF (fun k => decide (D 215 k = nI x)) i + 1 := by show _ + _ = _; simp [c83]
             have hh := ih (i + 1) (by omega)
             rw [e, ← Nat.add_assoc] at hh
             exact hh)
          | (have e : cntF (fun k => decide (D 215 k = nI x)) (i + 1) = cntF (fun k => decide (D 215 k = nI x)) i + 0 := by show _ + _ = _; simp [c83]
             have hh := ih (i + 1) (by omega)
             rw [e, ← Nat.add_assoc] at hh
             exact hh)
set_option maxRecDepth 20000 in
set_option maxHeartbeats 1000000 in
theorem l_X10_pay {T : TW} (hW : WF T) {D : Nat → Nat → Int32} {L : Nat → Nat → Int64} {Q : bh_Q} {d : Nat} (hd : 1 ≤ d) {l : List Nat} (hH : HdM D l) (hl : l.length ≤ 12) {a1 a2 a3 : Int32} : ∀ (r : List Nat) (i m : Nat) (a7 : Value), l.drop i = r → i ≤ 12 → m < 8 → Q (some (.int (payG (D 215) r i m))) (hp D L) → bw m_X10_pay d Q 50 [.ref 205, .int a1, .int a2, .int a3, .int (nI l.length), .int (nI m), .int (nI i), a7] [] D L := by
  intro r
  induction r with
  | nil =>
    intro i m a7 hd hi hm k1
    have hx0 := drop_nil hd
    refine x_iload (pc' := 52) rfl rfl rfl ?_
    refine x_iload (pc' := 54) rfl rfl rfl ?_
    refine y_ic_ge (pc' := 57) rfl rfl (by omega) (by omega) (fun c54 => ?_) (fun c54 => ?_)
    · refine x_int (pc' := 121) (v := (-2)) rfl rfl rfl ?_
      refine x_iret rfl rfl ?_
      exact k1
    · exact absurd c54 (by omega)
  | cons x r ih =>
    intro i m a7 hd hi hm k1
    obtain ⟨hx0, hx1, hx2, hx3⟩ := drop_cons hd
    refine x_iload (pc' := 52) rfl rfl rfl ?_
    refine x_iload (pc' := 54) rfl rfl rfl ?_
    refine y_ic_ge (pc' := 57) rfl rfl (by omega) (by omega) (fun c54 => ?_) (fun c54 => ?_)
    · exact absurd c54 (by omega)
    · refine x_int (pc' := 58) (v := nI 0) rfl rfl rfl ?_
      refine x_istore (pc' := 60) (lv' := [_, _, _, _, _, _, _, _]) rfl rfl (by decide) rfl ?_
      refine l0_X10_pay (d := d) (m := m) (j := i) (x := x) (by omega) hW (by omega) ((hH i hx0).trans (congrArg nI hx1)) ?_ 16 0 rfl
      have hcl := cntF_le (fun k => decide (D 215 k = nI x)) 16
      refine x_iload (pc' := 105) rfl rfl rfl ?_
      refine x_int (pc' := 107) (v := nI 8) rfl rfl rfl ?_
      refine y_ic_lt (pc' := 110) rfl rfl (by omega) (by omega) (fun c107 => ?_) (fun c107 => ?_)
      · refine y_inc (pc' := 116) (lv' := [_, _, _, _, _, _, _, _]) rfl rfl rfl (by decide) rfl ?_
        refine x_goto rfl ?_
        have e : payG (D 215) (x :: r) i m = payG (D 215) r (i + 1) (m + cntF (fun k => decide (D 215 k = nI x)) 16) := if_pos c107
        rw [e] at k1
        exact ih (i + 1) _ _ hx2 (by omega) c107 k1
      · refine x_iload (pc' := 112) rfl rfl rfl ?_
        refine x_iret rfl rfl ?_
        have e : payG (D 215) (x :: r) i m = nI i := if_neg (by omega)
        rw [e] at k1
        exact k1
set_option maxRecDepth 20000 in
set_option maxHeartbeats 1000000 in
theorem w_X10_pay {D : Nat → Nat → Int32} {L : Nat → Nat → Int64} {Q : bh_Q} {T : TW} (hW : WF T) (hR : Rn T (D 206)) {x y z : Int32} (k1 : ∀ D1, OffM D D1 → Q (some (.int (payQ T x y z))) (hp D1 L)) : bh_wc 5 m_X10_pay [.ref 205, .int x, .int y, .int z] (hp D L) Q := by
  refine x_start (lv0 := [_, _, _, _, _, _, _, _]) (Nat.le_of_ble_eq_true rfl) rfl ?_
  have h12 := hW.nwl
  refine x_aload (pc' := 1) rfl rfl rfl ?_
  refine x_iload (pc' := 2) rfl rfl rfl ?_
  refine x_callV (pc' := 5) (d1 := 2) (Bs := [_]) rfl rfl rfl rfl rfl rfl rfl (Nat.le_of_ble_eq_true rfl) ⟨rfl, rfl⟩ (by decide) rfl (by decide) ?_
  refine w_X10_isWriter hW hR (fun h2w h2l e => ?_) (fun h2 => ?_)
  · subst e
    refine ⟨rfl, ?_⟩
    refine x_if_eq (pc' := 8) rfl rfl (fun c5 => absurd c5 (by decide)) (fun _ => ?_)
    refine x_aload (pc' := 9) rfl rfl rfl ?_
    refine x_iload (pc' := 10) rfl rfl rfl ?_
    refine x_iload (pc' := 11) rfl rfl rfl ?_
    refine x_callV (pc' := 14) (d1 := 3) (Bs := [_, _]) rfl rfl rfl rfl rfl rfl rfl (Nat.le_of_ble_eq_true rfl) ⟨rfl, rfl⟩ (by decide) rfl (by decide) ?_
    refine w_X10_isPage hW hR (fun b q hb hq e1 e2 => ?_) (fun hn => ?_)
    · subst e1; subst e2
      refine ⟨rfl, ?_⟩
      refine x_if_ne (pc' := 17) rfl rfl (fun _ => ?_) (fun c14 => absurd c14 (by decide))
      refine x_aload (pc' := 20) rfl rfl rfl ?_
      refine x_iload (pc' := 21) rfl rfl rfl ?_
      refine x_callV (pc' := 24) (d1 := 3) (Bs := [_]) rfl rfl rfl rfl rfl rfl rfl (Nat.le_of_ble_eq_true rfl) ⟨rfl, rfl⟩ (by decide) rfl (by decide) ?_
      refine w_X10_isAnyDead hW hR h2l (fun hA => ?_) (fun hA => ?_)
      · refine ⟨rfl, ?_⟩
        refine x_if_eq (pc' := 27) rfl rfl (fun c24 => absurd c24 (by decide)) (fun _ => ?_)
        refine x_int (pc' := 29) (v := (-2)) rfl rfl rfl ?_
        refine x_iret rfl rfl ?_
        simp (disch := first | assumption | omega) only [payQ, hA, onN_1, onN_0, onP_1, onP_0, ↓reduceIte] at k1
        exact k1 D OffM.rf
      · have hA := nA0 hA
        refine ⟨rfl, ?_⟩
        refine x_if_eq (pc' := 27) rfl rfl (fun _ => ?_) (fun c24 => absurd (by decide) c24)
        refine x_aload (pc' := 31) rfl rfl rfl ?_
        refine x_iload (pc' := 32) rfl rfl rfl ?_
        refine x_iload (pc' := 33) rfl rfl rfl ?_
        refine x_iload (pc' := 34) rfl rfl rfl ?_
        refine x_callV (pc' := 37) (d1 := 4) (Bs := [_, _, _]) rfl rfl rfl rfl rfl rfl rfl (Nat.le_of_ble_eq_true rfl) ⟨rfl, rfl⟩ (by decide) rfl (by decide) ?_
        refine w_X10_laysTrace hW hR h2l hb hq (fun D1 o1 hH1 u1 v1 => ?_)
        have o1m := OffL.m o1 (by decide)
        refine ⟨rfl, ?_⟩
        refine x_aload (pc' := 38) rfl rfl rfl ?_
        refine x_iload (pc' := 39) rfl rfl rfl ?_
        refine x_callV (pc' := 42) (d1 := 3) (Bs := [_]) rfl rfl rfl rfl rfl rfl rfl (Nat.le_of_ble_eq_true rfl) ⟨rfl, rfl⟩ (by decide) rfl (by decide) ?_
        refine w_X10_hands (D := D1) hW (OffM.rn o1m hR) h2l (fun D2 o2 hH2 => ?_)
        refine ⟨rfl, ?_⟩
        refine x_istore (pc' := 44) (lv' := [_, _, _, _, _, _, _, _]) rfl rfl (by decide) rfl ?_
        refine x_int (pc' := 45) (v := nI 0) rfl rfl rfl ?_
        refine x_istore (pc' := 47) (lv' := [_, _, _, _, _, _, _, _]) rfl rfl (by decide) rfl ?_
        refine x_int (pc' := 48) (v := nI 0) rfl rfl rfl ?_
        refine x_istore (pc' := 50) (lv' := [_, _, _, _, _, _, _, _]) rfl rfl (by decide) rfl ?_
        simp (disch := first | assumption | omega) only [payQ, hA, onN_1, onN_0, onP_1, onP_0, ↓reduceIte] at k1
        refine l_X10_pay hW (d := 4) (by decide) hH2 (isH_of hW h2l).2.1 (ch T h2w) 0 0 .null rfl (by decide) (by decide) ?_
        rw [payG_cg (fun i hi => (congrFun (o2 215 (by decide)) i).trans (v1 i hi))]
        exact k1 D2 (o1m.tr (OffL.m o2 (by decide)))
    · refine ⟨rfl, ?_⟩
      refine x_if_ne (pc' := 17) rfl rfl (fun c14 => absurd (by decide) c14) (fun _ => ?_)
      refine x_int (pc' := 18) (v := (-1)) rfl rfl rfl ?_
      refine x_iret rfl rfl ?_
      simp (disch := first | assumption | omega) only [payQ, onN_1, onN_0, onP_1, onP_0, ↓reduceIte] at k1
      exact k1 D OffM.rf
  · refine ⟨rfl, ?_⟩
    refine x_if_eq (pc' := 8) rfl rfl (fun _ => ?_) (fun c5 => absurd (by decide) c5)
    refine x_int (pc' := 18) (v := (-1)) rfl rfl rfl ?_
    refine x_iret rfl rfl ?_
    simp (disch := first | assumption | omega) only [payQ, onN_1, onN_0, onP_1, onP_0, ↓reduceIte] at k1
    exact k1 D OffM.rf
