/-! ===== page, line, writer, count ===== -/
def OffC (D D' : Nat → Nat → Int32) : Prop := ∀ k, (k < 31 ∨ 49 ≤ k) → D' k = D k
theorem OffC.rf {D : Nat → Nat → Int32} : OffC D D := fun _ _ => rfl
theorem OffC.tr {D D1 D2 : Nat → Nat → Int32} (h1 : OffC D D1) (h2 : OffC D1 D2) : OffC D D2 := fun k a => (h2 k a).trans (h1 k a)
theorem OffH.c {D D' : Nat → Nat → Int32} (h : OffH D D') : OffC D D' := fun k a => h k (by omega) (by omega)
theorem OffC.tv {D D' : Nat → Nat → Int32} (h : OffC D D') : tv D' = tv D := by
  funext j i
  by_cases hj : j < 13
  · show (if j < 13 then D' (1 + j) i else 0) = (if j < 13 then D (1 + j) i else 0)
    rw [h (1 + j) (by omega)]
  · show (if j < 13 then D' (1 + j) i else 0) = (if j < 13 then D (1 + j) i else 0)
    rw [if_neg hj, if_neg hj]
theorem OffC.up {D : Nat → Nat → Int32} {k j : Nat} {x : Int32} (h1 : 31 ≤ k) (h2 : k < 49) : OffC D (bh_up2 D k j x) := fun a ha => bh_up2_ne _ _ _ (by omega)
theorem OffC.inv {D D' : Nat → Nat → Int32} {ps : List TW} {sh : Nat → Option TW} {tp : List Nat} (h : OffC D D') (hI : InvC D ps sh tp) : InvC D' ps sh tp := invC_off hI (h 0 (by decide)) (fun k _ b _ => h k b)
def OffM (D D' : Nat → Nat → Int32) : Prop := (∀ k, k ≠ 205 → (k < 212 ∨ 228 ≤ k) → D' k = D k) ∧ ∀ j, j < 8 → D' 205 j = D 205 j
theorem OffM.rf {D : Nat → Nat → Int32} : OffM D D := ⟨fun _ _ _ => rfl, fun _ _ => rfl⟩
theorem OffM.tr {D D1 D2 : Nat → Nat → Int32} (h1 : OffM D D1) (h2 : OffM D1 D2) : OffM D D2 := ⟨fun k a b => (h2.1 k a b).trans (h1.1 k a b), fun j hj => (h2.2 j hj).trans (h1.2 j hj)⟩
theorem OffM.rn {T : TW} {D D1 : Nat → Nat → Int32} (h : OffM D D1) (hR : Rn T (D 206)) : Rn T (D1 206) := by rw [h.1 206 (by decide) (by decide)]; exact hR
theorem OffM.up {D : Nat → Nat → Int32} {k j : Nat} {x : Int32} (h1 : 212 ≤ k) (h2 : k < 228) : OffM D (bh_up2 D k j x) := ⟨fun a _ ha => bh_up2_ne _ _ _ (by omega), fun j _ => by rw [bh_up2_ne _ _ _ (by omega)]⟩
theorem OffM.up5 {D : Nat → Nat → Int32} {j : Nat} {x : Int32} (h1 : 8 ≤ j) : OffM D (bh_up2 D 205 j x) := ⟨fun a ha _ => bh_up2_ne _ _ _ ha, fun i hi => by rw [bh_up2_k]; exact if_neg (by omega)⟩
theorem OffL.m {S : List Nat} {D D' : Nat → Nat → Int32} (h : OffL S D D') (hs : ∀ k ∈ S, 212 ≤ k ∧ k < 228) : OffM D D' := ⟨fun k _ b => h k (fun q => by have := hs k q; omega), fun j _ => by rw [h 205 (fun q => by have := hs 205 q; omega)]⟩
theorem OffM.inv {D D' : Nat → Nat → Int32} {T : TW} {ps : List TW} {sh : Nat → Option TW} {tp : List Nat} (h : OffM D D') (hI : InvM D T ps sh tp) : InvM D' T ps sh tp := invM_off hI (fun k a b _ => h.1 k (by omega) (by omega)) (h.2 5 (by decide)) (h.2 7 (by decide))
/-- what they answer -/
def pageQ (T : TW) (x y : Int32) : Int32 := match dN (nb T) x with
  | some b => (match dN (lng T b) y with | some q => nI (pg T b q) | none => -1)
  | none => -1
def lineQ (T : TW) (x y z : Int32) : Int32 := match dN (nw T) x, dN (nb T) y with
  | some w, some b => (match dN (lng T b) z with | some q => toI (lnO T w b q) | none => -1)
  | _, _ => -1
/-- a page, or none -/
def dP (T : TW) (x y : Int32) : Option (Nat × Nat) := match dN (nb T) x with
  | some b => (match dN (lng T b) y with | some q => some (b, q) | none => none)
  | none => none
theorem dP_some {T : TW} (hW : WF T) {b q : Nat} (hb : b < nb T) (hq : q < lng T b) : dP T (nI b) (nI q) = some (b, q) := by
  have h4 := hW.nbl
  have h8 := hW.lngl hb
  unfold dP
  rw [dN_some hb (by omega)]
  dsimp only
  rw [dN_some hq (by omega)]
theorem dP_none {T : TW} (hW : WF T) {x y : Int32} (h : ¬ okB T x y) : dP T x y = none := by
  have h4 := hW.nbl
  unfold dP
  cases hx : dN (nb T) x with
  | none => rfl
  | some b =>
    obtain ⟨hb, ex⟩ := dN_lt (by omega) hx
    have h8 := hW.lngl hb
    dsimp only
    cases hy : dN (lng T b) y with
    | none => rfl
    | some q =>
      obtain ⟨hq, ey⟩ := dN_lt (by omega) hy
      exact absurd ⟨b, q, hb, hq, ex, ey⟩ h
theorem pageQ_eq {T : TW} {x y : Int32} : pageQ T x y = match dP T x y with | some (b, q) => nI (pg T b q) | none => -1 := by
  unfold pageQ dP
  cases dN (nb T) x with
  | none => rfl
  | some b =>
    dsimp only
    cases dN (lng T b) y <;> rfl
theorem lineQ_eq {T : TW} {x y z : Int32} : lineQ T x y z = match dN (nw T) x, dP T y z with | some w, some (b, q) => toI (lnO T w b q) | _, _ => -1 := by
  unfold lineQ dP
  cases dN (nw T) x with
  | none => rfl
  | some w =>
    cases dN (nb T) y with
    | none => rfl
    | some b =>
      dsimp only
      cases dN (lng T b) z <;> rfl
def setF (f : Nat → Bool) : Nat → Nat
  | 0 => 0
  | i + 1 => setF f i ||| ((if f i then 1 else 0) <<< i)
theorem setF_1 {f : Nat → Bool} {i : Nat} (h : f i = true) : setF f (i + 1) = setF f i ||| 1 <<< i := by show _ ||| _ = _; rw [h]; rfl
theorem setF_0 {f : Nat → Bool} {i : Nat} (h : f i = false) : setF f (i + 1) = setF f i := by show _ ||| _ = _; rw [h]; simp
theorem setF_00 {f : Nat → Bool} {i : Nat} (h : f i = false) : setF f (i + 1) = setF f i ||| 0 := by rw [setF_0 h]; simp
def overS (T : TW) (x : Int32) : Nat := setF (fun i => decide (T 5 i = x)) (nw T)
def sumI (f : Nat → Int32) : Nat → Int32
  | 0 => nI 0
  | i + 1 => sumI f i + f i
def sumN (f : Nat → Nat) : Nat → Nat
  | 0 => 0
  | i + 1 => sumN f i + f i
def maxN (f : Nat → Nat) : Nat → Nat
  | 0 => 0
  | i + 1 => max (maxN f i) (f i)
theorem maxN_le {f : Nat → Nat} {c : Nat} : ∀ n, (∀ i, i < n → f i ≤ c) → maxN f n ≤ c := by
  intro n
  induction n with
  | zero => intro _; exact Nat.zero_le _
  | succ n ih => intro h; show max _ _ ≤ _; have := ih (fun i hi => h i (by omega)); have := h n (by omega); omega
theorem nI_max {a b : Nat} (ha : a < 2 ^ 31) (hb : b < 2 ^ 31) : (if nI a < nI b then nI b else nI a) = nI (max a b) := by
  by_cases h : a < b
  · rw [if_pos (Int32.not_le.mp (fun q => by have := (nI_leI hb ha).mp q; omega)), Nat.max_eq_right (by omega)]
  · rw [if_neg (Int32.not_lt.mpr (nI_le (by omega) ha)), Nat.max_eq_left (by omega)]
def lowI (l : List Nat) : Int32 := nI (l.getD (l.length - 1) 0)
set_option maxRecDepth 20000 in
set_option maxHeartbeats 1000000 in
theorem w_X9_page {D : Nat → Nat → Int32} {L : Nat → Nat → Int64} {Q : bh_Q} (hW : WF (tv D)) {x y : Int32} (k1 : Q (some (.int (pageQ (tv D) x y))) (hp D L)) : bh_wc 3 m_X9_page [.ref 0, .int x, .int y] (hp D L) Q := by
  refine x_start (lv0 := [_, _, _]) (Nat.le_of_ble_eq_true rfl) rfl ?_
  refine x_aload (pc' := 1) rfl rfl rfl ?_
  refine x_getR (pc' := 4) rfl rfl rfl (by decide) rfl (by decide) rfl rfl ?_
  refine x_iload (pc' := 5) rfl rfl rfl ?_
  refine x_iload (pc' := 6) rfl rfl rfl ?_
  refine x_callV (pc' := 9) (d1 := 2) (Bs := [_, _]) rfl rfl rfl rfl rfl rfl rfl (Nat.le_of_ble_eq_true rfl) ⟨rfl, rfl⟩ (by decide) rfl (by decide) ?_
  refine w_X7_isPage hW (fun b q hb hq e1 e2 => ?_) (fun hn => ?_)
  · subst e1; subst e2
    refine ⟨rfl, ?_⟩
    refine x_if_eq (pc' := 12) rfl rfl (fun c9 => absurd c9 (by decide)) (fun _ => ?_)
    refine x_aload (pc' := 13) rfl rfl rfl ?_
    refine x_getR (pc' := 16) rfl rfl rfl (by decide) rfl (by decide) rfl rfl ?_
    refine x_iload (pc' := 17) rfl rfl rfl ?_
    refine x_iload (pc' := 18) rfl rfl rfl ?_
    refine x_callV (pc' := 21) (d1 := 1) (Bs := [_, _]) rfl rfl rfl rfl rfl rfl rfl (Nat.le_of_ble_eq_true rfl) ⟨rfl, rfl⟩ (by decide) rfl (by decide) ?_
    refine w_X7_rowOf hW hb hq ?_
    refine ⟨rfl, ?_⟩
    refine x_goto rfl ?_
    refine x_iret rfl rfl ?_
    first
      | (have e : pageQ (tv D) (nI b) (nI q) = nI (pg (tv D) b q) := by rw [pageQ_eq, dP_some hW hb hq]
         rw [e] at k1
         exact k1)
      | (have e : pageQ (tv D) x y = -1 := by rw [pageQ_eq, dP_none hW hn]
         rw [e] at k1
         exact k1)
  · refine ⟨rfl, ?_⟩
    refine x_if_eq (pc' := 12) rfl rfl (fun _ => ?_) (fun c9 => absurd (by decide) c9)
    refine x_int (pc' := 25) (v := (-1)) rfl rfl rfl ?_
    refine x_iret rfl rfl ?_
    first
      | (have e : pageQ (tv D) (nI b) (nI q) = nI (pg (tv D) b q) := by rw [pageQ_eq, dP_some hW hb hq]
         rw [e] at k1
         exact k1)
      | (have e : pageQ (tv D) x y = -1 := by rw [pageQ_eq, dP_none hW hn]
         rw [e] at k1
         exact k1)
set_option maxRecDepth 20000 in
set_option maxHeartbeats 1000000 in
theorem w_X10_page {D : Nat → Nat → Int32} {L : Nat → Nat → Int64} {Q : bh_Q} {T : TW} (hW : WF T) (hR : Rn T (D 206)) {x y : Int32} (k1 : Q (some (.int (pageQ T x y))) (hp D L)) : bh_wc 4 m_X10_page [.ref 205, .int x, .int y] (hp D L) Q := by
  refine x_start (lv0 := [_, _, _]) (Nat.le_of_ble_eq_true rfl) rfl ?_
  refine x_aload (pc' := 1) rfl rfl rfl ?_
  refine x_iload (pc' := 2) rfl rfl rfl ?_
  refine x_iload (pc' := 3) rfl rfl rfl ?_
  refine x_callV (pc' := 6) (d1 := 3) (Bs := [_, _]) rfl rfl rfl rfl rfl rfl rfl (Nat.le_of_ble_eq_true rfl) ⟨rfl, rfl⟩ (by decide) rfl (by decide) ?_
  refine w_X10_isPage hW hR (fun b q hb hq e1 e2 => ?_) (fun hn => ?_)
  · subst e1; subst e2
    refine ⟨rfl, ?_⟩
    refine x_if_eq (pc' := 9) rfl rfl (fun c6 => absurd c6 (by decide)) (fun _ => ?_)
    refine x_aload (pc' := 10) rfl rfl rfl ?_
    refine x_iload (pc' := 11) rfl rfl rfl ?_
    refine x_iload (pc' := 12) rfl rfl rfl ?_
    refine x_callV (pc' := 15) (d1 := 1) (Bs := [_, _]) rfl rfl rfl rfl rfl rfl rfl (Nat.le_of_ble_eq_true rfl) ⟨rfl, rfl⟩ (by decide) rfl (by decide) ?_
    refine w_X10_pageOf hW hR hb hq ?_
    refine ⟨rfl, ?_⟩
    refine x_goto rfl ?_
    refine x_iret rfl rfl ?_
    first
      | (have e : pageQ T (nI b) (nI q) = nI (pg T b q) := by rw [pageQ_eq, dP_some hW hb hq]
         rw [e] at k1
         exact k1)
      | (have e : pageQ T x y = -1 := by rw [pageQ_eq, dP_none hW hn]
         rw [e] at k1
         exact k1)
  · refine ⟨rfl, ?_⟩
    refine x_if_eq (pc' := 9) rfl rfl (fun _ => ?_) (fun c6 => absurd (by decide) c6)
    refine x_int (pc' := 19) (v := (-1)) rfl rfl rfl ?_
    refine x_iret rfl rfl ?_
    first
      | (have e : pageQ T (nI b) (nI q) = nI (pg T b q) := by rw [pageQ_eq, dP_some hW hb hq]
         rw [e] at k1
         exact k1)
      | (have e : pageQ T x y = -1 := by rw [pageQ_eq, dP_none hW hn]
         rw [e] at k1
         exact k1)
set_option maxRecDepth 20000 in
set_option maxHeartbeats 1000000 in
theorem w_X9_line {D : Nat → Nat → Int32} {L : Nat → Nat → Int64} {Q : bh_Q} (hW : WF (tv D)) {x y z : Int32} (k1 : ∀ D1, OffC D D1 → Q (some (.int (lineQ (tv D) x y z))) (hp D1 L)) : bh_wc 5 m_X9_line [.ref 0, .int x, .int y, .int z] (hp D L) Q := by
  refine x_start (lv0 := [_, _, _, _]) (Nat.le_of_ble_eq_true rfl) rfl ?_
  have h12 := hW.nwl
  refine x_aload (pc' := 1) rfl rfl rfl ?_
  refine x_getR (pc' := 4) rfl rfl rfl (by decide) rfl (by decide) rfl rfl ?_
  refine x_iload (pc' := 5) rfl rfl rfl ?_
  refine x_callV (pc' := 8) (d1 := 1) (Bs := [_]) rfl rfl rfl rfl rfl rfl rfl (Nat.le_of_ble_eq_true rfl) ⟨rfl, rfl⟩ (by decide) rfl (by decide) ?_
  refine w_X7_isWriter hW (fun h5w h5l e => ?_) (fun h5 => ?_)
  · subst e
    refine ⟨rfl, ?_⟩
    refine x_if_eq (pc' := 11) rfl rfl (fun c8 => absurd c8 (by decide)) (fun _ => ?_)
    refine x_aload (pc' := 12) rfl rfl rfl ?_
    refine x_getR (pc' := 15) rfl rfl rfl (by decide) rfl (by decide) rfl rfl ?_
    refine x_iload (pc' := 16) rfl rfl rfl ?_
    refine x_iload (pc' := 17) rfl rfl rfl ?_
    refine x_callV (pc' := 20) (d1 := 2) (Bs := [_, _]) rfl rfl rfl rfl rfl rfl rfl (Nat.le_of_ble_eq_true rfl) ⟨rfl, rfl⟩ (by decide) rfl (by decide) ?_
    refine w_X7_isPage hW (fun b q hb hq e1 e2 => ?_) (fun hn => ?_)
    · subst e1; subst e2
      refine ⟨rfl, ?_⟩
      refine x_if_ne (pc' := 23) rfl rfl (fun _ => ?_) (fun c20 => absurd c20 (by decide))
      refine x_aload (pc' := 26) rfl rfl rfl ?_
      refine x_iload (pc' := 27) rfl rfl rfl ?_
      refine x_iload (pc' := 28) rfl rfl rfl ?_
      refine x_iload (pc' := 29) rfl rfl rfl ?_
      refine x_callV (pc' := 32) (d1 := 4) (Bs := [_, _, _]) rfl rfl rfl rfl rfl rfl rfl (Nat.le_of_ble_eq_true rfl) ⟨rfl, rfl⟩ (by decide) rfl (by decide) ?_
      refine w_X9_lineOf hW h5l hb hq (fun D1 o1 => ?_)
      refine ⟨rfl, ?_⟩
      refine x_iret rfl rfl ?_
      have e : lineQ (tv D) (nI h5w) (nI b) (nI q) = toI (lnO (tv D) h5w b q) := by rw [lineQ_eq, dN_some h5l (by omega), dP_some hW hb hq]
      rw [e] at k1
      exact k1 D1 o1.c
    · refine ⟨rfl, ?_⟩
      refine x_if_ne (pc' := 23) rfl rfl (fun c20 => absurd (by decide) c20) (fun _ => ?_)
      refine x_int (pc' := 24) (v := (-1)) rfl rfl rfl ?_
      refine x_iret rfl rfl ?_
      first
        | (have e : lineQ (tv D) x y z = -1 := by rw [lineQ_eq, dN_none (by omega) h5]
           rw [e] at k1
           exact k1 D OffC.rf)
        | (have e : lineQ (tv D) (nI h5w) y z = -1 := by rw [lineQ_eq, dN_some h5l (by omega), dP_none hW hn]
           rw [e] at k1
           exact k1 D OffC.rf)
  · refine ⟨rfl, ?_⟩
    refine x_if_eq (pc' := 11) rfl rfl (fun _ => ?_) (fun c8 => absurd (by decide) c8)
    refine x_int (pc' := 24) (v := (-1)) rfl rfl rfl ?_
    refine x_iret rfl rfl ?_
    first
      | (have e : lineQ (tv D) x y z = -1 := by rw [lineQ_eq, dN_none (by omega) h5]
         rw [e] at k1
         exact k1 D OffC.rf)
      | (have e : lineQ (tv D) (nI h5w) y z = -1 := by rw [lineQ_eq, dN_some h5l (by omega), dP_none hW hn]
         rw [e] at k1
         exact k1 D OffC.rf)
set_option maxRecDepth 20000 in
set_option maxHeartbeats 1000000 in
theorem w_X10_line {D : Nat → Nat → Int32} {L : Nat → Nat → Int64} {Q : bh_Q} {T : TW} (hW : WF T) (hR : Rn T (D 206)) {x y z : Int32} (k1 : ∀ D1, OffM D D1 → Q (some (.int (lineQ T x y z))) (hp D1 L)) : bh_wc 6 m_X10_line [.ref 205, .int x, .int y, .int z] (hp D L) Q := by
  refine x_start (lv0 := [_, _, _, _]) (Nat.le_of_ble_eq_true rfl) rfl ?_
  have h12 := hW.nwl
  refine x_aload (pc' := 1) rfl rfl rfl ?_
  refine x_iload (pc' := 2) rfl rfl rfl ?_
  refine x_callV (pc' := 5) (d1 := 2) (Bs := [_]) rfl rfl rfl rfl rfl rfl rfl (Nat.le_of_ble_eq_true rfl) ⟨rfl, rfl⟩ (by decide) rfl (by decide) ?_
  refine w_X10_isWriter hW hR (fun h2w h2l e => ?_) (fun h2 => ?_)
  · subst e
    refine ⟨rfl, ?_⟩
    refine x_if_eq (pc' := 8) rfl rfl (fun c5 => absurd c5 (by decide)) (fun _ => ?_)
    refine x_aload (pc' := 9) rfl rfl rfl ?_
    refine x_iload (pc' := 10) rfl rfl rfl ?_
    refine x_iload (pc' := 11) rfl rfl rfl ?_
    refine x_callV (pc' := 14) (d1 := 3) (Bs := [_, _]) rfl rfl rfl rfl rfl rfl rfl (Nat.le_of_ble_eq_true rfl) ⟨rfl, rfl⟩ (by decide) rfl (by decide) ?_
    refine w_X10_isPage hW hR (fun b q hb hq e1 e2 => ?_) (fun hn => ?_)
    · subst e1; subst e2
      refine ⟨rfl, ?_⟩
      refine x_if_eq (pc' := 17) rfl rfl (fun c14 => absurd c14 (by decide)) (fun _ => ?_)
      refine x_aload (pc' := 18) rfl rfl rfl ?_
      refine x_iload (pc' := 19) rfl rfl rfl ?_
      refine x_iload (pc' := 20) rfl rfl rfl ?_
      refine x_iload (pc' := 21) rfl rfl rfl ?_
      refine x_callV (pc' := 24) (d1 := 5) (Bs := [_, _, _]) rfl rfl rfl rfl rfl rfl rfl (Nat.le_of_ble_eq_true rfl) ⟨rfl, rfl⟩ (by decide) rfl (by decide) ?_
      refine w_X10_lineOf hW hR h2l hb hq (fun D1 o1 => ?_)
      refine ⟨rfl, ?_⟩
      refine x_goto rfl ?_
      refine x_iret rfl rfl ?_
      first
        | (have e : lineQ T x y z = -1 := by rw [lineQ_eq, dN_none (by omega) h2]
           rw [e] at k1
           exact k1 D OffM.rf)
        | (have e : lineQ T (nI h2w) y z = -1 := by rw [lineQ_eq, dN_some h2l (by omega), dP_none hW hn]
           rw [e] at k1
           exact k1 D OffM.rf)
        | (have e : lineQ T (nI h2w) (nI b) (nI q) = toI (lnO T h2w b q) := by rw [lineQ_eq, dN_some h2l (by omega), dP_some hW hb hq]
           rw [e] at k1
           exact k1 D1 (o1.m (by decide)))
    · refine ⟨rfl, ?_⟩
      refine x_if_eq (pc' := 17) rfl rfl (fun _ => ?_) (fun c14 => absurd (by decide) c14)
      refine x_int (pc' := 28) (v := (-1)) rfl rfl rfl ?_
      refine x_iret rfl rfl ?_
      first
        | (have e : lineQ T x y z = -1 := by rw [lineQ_eq, dN_none (by omega) h2]
           rw [e] at k1
           exact k1 D OffM.rf)
        | (have e : lineQ T (nI h2w) y z = -1 := by rw [lineQ_eq, dN_some h2l (by omega), dP_none hW hn]
           rw [e] at k1
           exact k1 D OffM.rf)
        | (have e : lineQ T (nI h2w) (nI b) (nI q) = toI (lnO T h2w b q) := by rw [lineQ_eq, dN_some h2l (by omega), dP_some hW hb hq]
           rw [e] at k1
           exact k1 D1 (o1.m (by decide)))
  · refine ⟨rfl, ?_⟩
    refine x_if_eq (pc' := 8) rfl rfl (fun _ => ?_) (fun c5 => absurd (by decide) c5)
    refine x_int (pc' := 28) (v := (-1)) rfl rfl rfl ?_
    refine x_iret rfl rfl ?_
    first
      | (have e : lineQ T x y z = -1 := by rw [lineQ_eq, dN_none (by omega) h2]
         rw [e] at k1
         exact k1 D OffM.rf)
      | (have e : lineQ T (nI h2w) y z = -1 := by rw [lineQ_eq, dN_some h2l (by omega), dP_none hW hn]
         rw [e] at k1
         exact k1 D OffM.rf)
      | (have e : lineQ T (nI h2w) (nI b) (nI q) = toI (lnO T h2w b q) := by rw [lineQ_eq, dN_some h2l (by omega), dP_some hW hb hq]
         rw [e] at k1
         exact k1 D1 (o1.m (by decide)))
set_option maxRecDepth 20000 in
set_option maxHeartbeats 1000000 in
theorem l_X7_havingUnder {D : Nat → Nat → Int32} {L : Nat → Nat → Int64} {Q : bh_Q} {d : Nat} (hd : 0 ≤ d) (hW : WF (tv D)) {x : Int32} (k1 : Q (some (.int (nI (overS (tv D) x)))) (hp D L)) : ∀ (f i : Nat), i + f = nw (tv D) → bw m_X7_havingUnder d Q 4 [.ref 1, .int x, .int (nI (setF (fun i => decide (tv D 5 i = x)) i)), .int (nI i)] [] D L := by
  have h12 := hW.nwl
  have h4 := hW.nbl
  intro f
  induction f with
  | zero =>
    intro i hf
    refine x_iload (pc' := 5) rfl rfl rfl ?_
    refine x_aload (pc' := 6) rfl rfl rfl ?_
    refine x_getI (j := 0) (pc' := 9) rfl rfl rfl (by decide) rfl (by decide) rfl rfl ?_
    refine x_top (hW.enw) ?_
    refine y_ic_ge (pc' := 12) rfl rfl (by omega) (by omega) (fun c9 => ?_) (fun c9 => ?_)
    · refine x_iload (pc' := 35) rfl rfl rfl ?_
      refine x_iret rfl rfl ?_
      have e : i = nw (tv D) := by omega
      subst e
      exact k1
    · exact absurd c9 (by omega)
  | succ f ih =>
    intro i hf
    refine x_iload (pc' := 5) rfl rfl rfl ?_
    refine x_aload (pc' := 6) rfl rfl rfl ?_
    refine x_getI (j := 0) (pc' := 9) rfl rfl rfl (by decide) rfl (by decide) rfl rfl ?_
    refine x_top (hW.enw) ?_
    refine y_ic_ge (pc' := 12) rfl rfl (by omega) (by omega) (fun c9 => ?_) (fun c9 => ?_)
    · exact absurd c9 (by omega)
    · refine x_aload (pc' := 13) rfl rfl rfl ?_
      refine x_getR (pc' := 16) rfl rfl rfl (by decide) rfl (by decide) rfl rfl ?_
      refine x_iload (pc' := 17) rfl rfl rfl ?_
      refine x_iald (pc' := 18) rfl rfl (by decide) rfl (by decide) (show _ < 12 by omega) ?_
      refine x_iload (pc' := 19) rfl rfl rfl ?_
      refine x_ic_ne (pc' := 22) rfl rfl (fun c19 => ?_) (fun c19 => ?_)
      · refine y_inc (pc' := 31) (lv' := [_, _, _, _]) rfl rfl rfl (by decide) rfl ?_
        refine x_goto rfl ?_
        first
          | (have e := setF_1 (f := (fun i => decide (tv D 5 i = x))) (i := i) (decide_eq_true c19)
             have hh := ih (i + 1) (by omega)
             rw [e] at hh
             exact hh)
          | (have e := setF_0 (f := (fun i => decide (tv D 5 i = x))) (i := i) (decide_eq_false c19)
             have hh := ih (i + 1) (by omega)
             rw [e] at hh
             exact hh)
      · refine x_iload (pc' := 23) rfl rfl rfl ?_
        refine x_int (pc' := 24) (v := nI 1) rfl rfl rfl ?_
        refine x_iload (pc' := 25) rfl rfl rfl ?_
        refine y_ishl (pc' := 26) rfl rfl (by omega) ?_
        refine y_ior (pc' := 27) rfl rfl ?_
        refine x_istore (pc' := 28) (lv' := [_, _, _, _]) rfl rfl (by decide) rfl ?_
        refine y_inc (pc' := 31) (lv' := [_, _, _, _]) rfl rfl rfl (by decide) rfl ?_
        refine x_goto rfl ?_
        first
          | (have e := setF_1 (f := (fun i => decide (tv D 5 i = x))) (i := i) (decide_eq_true c19)
             have hh := ih (i + 1) (by omega)
             rw [e] at hh
             exact hh)
          | (have e := setF_0 (f := (fun i => decide (tv D 5 i = x))) (i := i) (decide_eq_false c19)
             have hh := ih (i + 1) (by omega)
             rw [e] at hh
             exact hh)
set_option maxRecDepth 20000 in
set_option maxHeartbeats 1000000 in
theorem w_X7_havingUnder {D : Nat → Nat → Int32} {L : Nat → Nat → Int64} {Q : bh_Q} (hW : WF (tv D)) {x : Int32} (k1 : Q (some (.int (nI (overS (tv D) x)))) (hp D L)) : bh_wc 1 m_X7_havingUnder [.ref 1, .int x] (hp D L) Q := by
  refine x_start (lv0 := [_, _, _, _]) (Nat.le_of_ble_eq_true rfl) rfl ?_
  refine x_int (pc' := 1) (v := nI 0) rfl rfl rfl ?_
  refine x_istore (pc' := 2) (lv' := [_, _, _, _]) rfl rfl (by decide) rfl ?_
  refine x_int (pc' := 3) (v := nI 0) rfl rfl rfl ?_
  refine x_istore (pc' := 4) (lv' := [_, _, _, _]) rfl rfl (by decide) rfl ?_
  exact l_X7_havingUnder (d := 0) (Nat.zero_le _) hW k1 (nw (tv D)) 0 (Nat.zero_add _)
set_option maxRecDepth 20000 in
set_option maxHeartbeats 1000000 in
theorem l_X10_overWhom {D : Nat → Nat → Int32} {L : Nat → Nat → Int64} {Q : bh_Q} {d : Nat} (hd : 2 ≤ d) {T : TW} (hW : WF T) (hR : Rn T (D 206)) {x : Int32} (k1 : Q (some (.int (nI (overS T x)))) (hp D L)) : ∀ (f i : Nat), i + f = nw T → bw m_X10_overWhom d Q 4 [.ref 205, .int x, .int (nI (setF (fun i => decide (T 5 i = x)) i)), .int (nI i)] [] D L := by
  have h12 := hW.nwl
  have h4 := hW.nbl
  intro f
  induction f with
  | zero =>
    intro i hf
    refine x_iload (pc' := 5) rfl rfl rfl ?_
    refine x_aload (pc' := 6) rfl rfl rfl ?_
    refine x_getR (pc' := 9) rfl rfl rfl (by decide) rfl (by decide) rfl rfl ?_
    refine x_int (pc' := 10) (v := nI 0) rfl rfl rfl ?_
    refine x_iald (pc' := 11) rfl rfl (by decide) rfl (by decide) (show _ < 560 by omega) ?_
    refine x_top (hR.1.1.trans hW.enw) ?_
    refine y_ic_ge (pc' := 14) rfl rfl (by omega) (by omega) (fun c11 => ?_) (fun c11 => ?_)
    · refine x_iload (pc' := 40) rfl rfl rfl ?_
      refine x_iret rfl rfl ?_
      have e : i = nw T := by omega
      subst e
      exact k1
    · exact absurd c11 (by omega)
  | succ f ih =>
    intro i hf
    refine x_iload (pc' := 5) rfl rfl rfl ?_
    refine x_aload (pc' := 6) rfl rfl rfl ?_
    refine x_getR (pc' := 9) rfl rfl rfl (by decide) rfl (by decide) rfl rfl ?_
    refine x_int (pc' := 10) (v := nI 0) rfl rfl rfl ?_
    refine x_iald (pc' := 11) rfl rfl (by decide) rfl (by decide) (show _ < 560 by omega) ?_
    refine x_top (hR.1.1.trans hW.enw) ?_
    refine y_ic_ge (pc' := 14) rfl rfl (by omega) (by omega) (fun c11 => ?_) (fun c11 => ?_)
    · exact absurd c11 (by omega)
    · refine x_iload (pc' := 15) rfl rfl rfl ?_
      refine x_aload (pc' := 16) rfl rfl rfl ?_
      refine x_iload (pc' := 17) rfl rfl rfl ?_
      refine x_callV (pc' := 20) (d1 := 2) (Bs := [_]) rfl rfl rfl rfl rfl rfl rfl (Nat.le_of_ble_eq_true rfl) ⟨rfl, rfl⟩ (by decide) rfl (by omega) ?_
      refine w_X10_under hW hR (by omega) ?_
      refine ⟨rfl, ?_⟩
      refine x_iload (pc' := 21) rfl rfl rfl ?_
      refine x_ic_ne (pc' := 24) rfl rfl (fun c21 => ?_) (fun c21 => ?_)
      · refine x_int (pc' := 31) (v := nI 0) rfl rfl rfl ?_
        refine y_ior (pc' := 32) rfl rfl ?_
        refine x_istore (pc' := 33) (lv' := [_, _, _, _]) rfl rfl (by decide) rfl ?_
        refine y_inc (pc' := 36) (lv' := [_, _, _, _]) rfl rfl rfl (by decide) rfl ?_
        refine x_goto rfl ?_
        first
          | (have e := setF_1 (f := (fun i => decide (T 5 i = x))) (i := i) (decide_eq_true c21)
             have hh := ih (i + 1) (by omega)
             rw [e] at hh
             exact hh)
          | (have e := setF_00 (f := (fun i => decide (T 5 i = x))) (i := i) (decide_eq_false c21)
             have hh := ih (i + 1) (by omega)
             rw [e] at hh
             exact hh)
      · refine x_int (pc' := 25) (v := nI 1) rfl rfl rfl ?_
        refine x_iload (pc' := 26) rfl rfl rfl ?_
        refine y_ishl (pc' := 27) rfl rfl (by omega) ?_
        refine x_goto rfl ?_
        refine y_ior (pc' := 32) rfl rfl ?_
        refine x_istore (pc' := 33) (lv' := [_, _, _, _]) rfl rfl (by decide) rfl ?_
        refine y_inc (pc' := 36) (lv' := [_, _, _, _]) rfl rfl rfl (by decide) rfl ?_
        refine x_goto rfl ?_
        first
          | (have e := setF_1 (f := (fun i => decide (T 5 i = x))) (i := i) (decide_eq_true c21)
             have hh := ih (i + 1) (by omega)
             rw [e] at hh
             exact hh)
          | (have e := setF_00 (f := (fun i => decide (T 5 i = x))) (i := i) (decide_eq_false c21)
             have hh := ih (i + 1) (by omega)
             rw [e] at hh
             exact hh)
set_option maxRecDepth 20000 in
set_option maxHeartbeats 1000000 in
theorem w_X10_overWhom {D : Nat → Nat → Int32} {L : Nat → Nat → Int64} {Q : bh_Q} {T : TW} (hW : WF T) (hR : Rn T (D 206)) {x : Int32} (k1 : Q (some (.int (nI (overS T x)))) (hp D L)) : bh_wc 3 m_X10_overWhom [.ref 205, .int x] (hp D L) Q := by
  refine x_start (lv0 := [_, _, _, _]) (Nat.le_of_ble_eq_true rfl) rfl ?_
  refine x_int (pc' := 1) (v := nI 0) rfl rfl rfl ?_
  refine x_istore (pc' := 2) (lv' := [_, _, _, _]) rfl rfl (by decide) rfl ?_
  refine x_int (pc' := 3) (v := nI 0) rfl rfl rfl ?_
  refine x_istore (pc' := 4) (lv' := [_, _, _, _]) rfl rfl (by decide) rfl ?_
  exact l_X10_overWhom (d := 2) (by decide) hW hR k1 (nw T) 0 (Nat.zero_add _)
set_option maxRecDepth 20000 in
set_option maxHeartbeats 1000000 in
theorem l_X10_alone {D : Nat → Nat → Int32} {L : Nat → Nat → Int64} {Q : bh_Q} {d : Nat} (hd : 2 ≤ d) {T : TW} (hW : WF T) (hR : Rn T (D 206)) (k1 : Q (some (.int (nI (overS T (-1))))) (hp D L)) : ∀ (f i : Nat), i + f = nw T → bw m_X10_alone d Q 4 [.ref 205, .int (nI (setF (fun i => decide (T 5 i = -1)) i)), .int (nI i)] [] D L := by
  have h12 := hW.nwl
  have h4 := hW.nbl
  intro f
  induction f with
  | zero =>
    intro i hf
    refine x_iload (pc' := 5) rfl rfl rfl ?_
    refine x_aload (pc' := 6) rfl rfl rfl ?_
    refine x_getR (pc' := 9) rfl rfl rfl (by decide) rfl (by decide) rfl rfl ?_
    refine x_int (pc' := 10) (v := nI 0) rfl rfl rfl ?_
    refine x_iald (pc' := 11) rfl rfl (by decide) rfl (by decide) (show _ < 560 by omega) ?_
    refine x_top (hR.1.1.trans hW.enw) ?_
    refine y_ic_ge (pc' := 14) rfl rfl (by omega) (by omega) (fun c11 => ?_) (fun c11 => ?_)
    · refine x_iload (pc' := 40) rfl rfl rfl ?_
      refine x_iret rfl rfl ?_
      have e : i = nw T := by omega
      subst e
      exact k1
    · exact absurd c11 (by omega)
  | succ f ih =>
    intro i hf
    refine x_iload (pc' := 5) rfl rfl rfl ?_
    refine x_aload (pc' := 6) rfl rfl rfl ?_
    refine x_getR (pc' := 9) rfl rfl rfl (by decide) rfl (by decide) rfl rfl ?_
    refine x_int (pc' := 10) (v := nI 0) rfl rfl rfl ?_
    refine x_iald (pc' := 11) rfl rfl (by decide) rfl (by decide) (show _ < 560 by omega) ?_
    refine x_top (hR.1.1.trans hW.enw) ?_
    refine y_ic_ge (pc' := 14) rfl rfl (by omega) (by omega) (fun c11 => ?_) (fun c11 => ?_)
    · exact absurd c11 (by omega)
    · refine x_iload (pc' := 15) rfl rfl rfl ?_
      refine x_aload (pc' := 16) rfl rfl rfl ?_
      refine x_iload (pc' := 17) rfl rfl rfl ?_
      refine x_callV (pc' := 20) (d1 := 2) (Bs := [_]) rfl rfl rfl rfl rfl rfl rfl (Nat.le_of_ble_eq_true rfl) ⟨rfl, rfl⟩ (by decide) rfl (by omega) ?_
      refine w_X10_under hW hR (by omega) ?_
      refine ⟨rfl, ?_⟩
      refine x_int (pc' := 21) (v := (-1)) rfl rfl rfl ?_
      refine x_ic_ne (pc' := 24) rfl rfl (fun c21 => ?_) (fun c21 => ?_)
      · refine x_int (pc' := 31) (v := nI 0) rfl rfl rfl ?_
        refine y_ior (pc' := 32) rfl rfl ?_
        refine x_istore (pc' := 33) (lv' := [_, _, _]) rfl rfl (by decide) rfl ?_
        refine y_inc (pc' := 36) (lv' := [_, _, _]) rfl rfl rfl (by decide) rfl ?_
        refine x_goto rfl ?_
        first
          | (have e := setF_1 (f := (fun i => decide (T 5 i = -1))) (i := i) (decide_eq_true c21)
             have hh := ih (i + 1) (by omega)
             rw [e] at hh
             exact hh)
          | (have e := setF_00 (f := (fun i => decide (T 5 i = -1))) (i := i) (decide_eq_false c21)
             have hh := ih (i + 1) (by omega)
             rw [e] at hh
             exact hh)
      · refine x_int (pc' := 25) (v := nI 1) rfl rfl rfl ?_
        refine x_iload (pc' := 26) rfl rfl rfl ?_
        refine y_ishl (pc' := 27) rfl rfl (by omega) ?_
        refine x_goto rfl ?_
        refine y_ior (pc' := 32) rfl rfl ?_
        refine x_istore (pc' := 33) (lv' := [_, _, _]) rfl rfl (by decide) rfl ?_
        refine y_inc (pc' := 36) (lv' := [_, _, _]) rfl rfl rfl (by decide) rfl ?_
        refine x_goto rfl ?_
        first
          | (have e := setF_1 (f := (fun i => decide (T 5 i = -1))) (i := i) (decide_eq_true c21)
             have hh := ih (i + 1) (by omega)
             rw [e] at hh
             exact hh)
          | (have e := setF_00 (f := (fun i => decide (T 5 i = -1))) (i := i) (decide_eq_false c21)
             have hh := ih (i + 1) (by omega)
             rw [e] at hh
             exact hh)
set_option maxRecDepth 20000 in
set_option maxHeartbeats 1000000 in
theorem w_X10_alone {D : Nat → Nat → Int32} {L : Nat → Nat → Int64} {Q : bh_Q} {T : TW} (hW : WF T) (hR : Rn T (D 206)) (k1 : Q (some (.int (nI (overS T (-1))))) (hp D L)) : bh_wc 3 m_X10_alone [.ref 205] (hp D L) Q := by
  refine x_start (lv0 := [_, _, _]) (Nat.le_of_ble_eq_true rfl) rfl ?_
  refine x_int (pc' := 1) (v := nI 0) rfl rfl rfl ?_
  refine x_istore (pc' := 2) (lv' := [_, _, _]) rfl rfl (by decide) rfl ?_
  refine x_int (pc' := 3) (v := nI 0) rfl rfl rfl ?_
  refine x_istore (pc' := 4) (lv' := [_, _, _]) rfl rfl (by decide) rfl ?_
  exact l_X10_alone (d := 2) (by decide) hW hR k1 (nw T) 0 (Nat.zero_add _)
set_option maxRecDepth 20000 in
set_option maxHeartbeats 1000000 in
theorem l_X7_allPages {D : Nat → Nat → Int32} {L : Nat → Nat → Int64} {Q : bh_Q} {d : Nat} (hd : 0 ≤ d) (hW : WF (tv D)) (k1 : Q (some (.int (nI (sumN (lng (tv D)) (nb (tv D)))))) (hp D L)) : ∀ (f i : Nat), i + f = nb (tv D) → bw m_X7_allPages d Q 4 [.ref 1, .int (nI (sumN (lng (tv D)) i)), .int (nI i)] [] D L := by
  have h12 := hW.nwl
  have h4 := hW.nbl
  intro f
  induction f with
  | zero =>
    intro i hf
    refine x_iload (pc' := 5) rfl rfl rfl ?_
    refine x_aload (pc' := 6) rfl rfl rfl ?_
    refine x_getI (j := 1) (pc' := 9) rfl rfl rfl (by decide) rfl (by decide) rfl rfl ?_
    refine x_top (hW.enb) ?_
    refine y_ic_ge (pc' := 12) rfl rfl (by omega) (by omega) (fun c9 => ?_) (fun c9 => ?_)
    · refine x_iload (pc' := 28) rfl rfl rfl ?_
      refine x_iret rfl rfl ?_
      have e : i = nb (tv D) := by omega
      subst e
      exact k1
    · exact absurd c9 (by omega)
  | succ f ih =>
    intro i hf
    refine x_iload (pc' := 5) rfl rfl rfl ?_
    refine x_aload (pc' := 6) rfl rfl rfl ?_
    refine x_getI (j := 1) (pc' := 9) rfl rfl rfl (by decide) rfl (by decide) rfl rfl ?_
    refine x_top (hW.enb) ?_
    refine y_ic_ge (pc' := 12) rfl rfl (by omega) (by omega) (fun c9 => ?_) (fun c9 => ?_)
    · exact absurd c9 (by omega)
    · refine x_iload (pc' := 13) rfl rfl rfl ?_
      refine x_aload (pc' := 14) rfl rfl rfl ?_
      refine x_getR (pc' := 17) rfl rfl rfl (by decide) rfl (by decide) rfl rfl ?_
      refine x_iload (pc' := 18) rfl rfl rfl ?_
      refine x_iald (pc' := 19) rfl rfl (by decide) rfl (by decide) (show _ < 4 by omega) ?_
      refine x_top (hW.elng (by omega)) ?_
      refine y_iadd (pc' := 20) rfl rfl ?_
      refine x_istore (pc' := 21) (lv' := [_, _, _]) rfl rfl (by decide) rfl ?_
      refine y_inc (pc' := 24) (lv' := [_, _, _]) rfl rfl rfl (by decide) rfl ?_
      refine x_goto rfl ?_
      exact ih (i + 1) (by omega)
set_option maxRecDepth 20000 in
set_option maxHeartbeats 1000000 in
theorem w_X7_allPages {D : Nat → Nat → Int32} {L : Nat → Nat → Int64} {Q : bh_Q} (hW : WF (tv D)) (k1 : Q (some (.int (nI (sumN (lng (tv D)) (nb (tv D)))))) (hp D L)) : bh_wc 1 m_X7_allPages [.ref 1] (hp D L) Q := by
  refine x_start (lv0 := [_, _, _]) (Nat.le_of_ble_eq_true rfl) rfl ?_
  refine x_int (pc' := 1) (v := nI 0) rfl rfl rfl ?_
  refine x_istore (pc' := 2) (lv' := [_, _, _]) rfl rfl (by decide) rfl ?_
  refine x_int (pc' := 3) (v := nI 0) rfl rfl rfl ?_
  refine x_istore (pc' := 4) (lv' := [_, _, _]) rfl rfl (by decide) rfl ?_
  exact l_X7_allPages (d := 0) (Nat.zero_le _) hW k1 (nb (tv D)) 0 (Nat.zero_add _)
set_option maxRecDepth 20000 in
set_option maxHeartbeats 1000000 in
theorem l_X10_pagesOfAll {D : Nat → Nat → Int32} {L : Nat → Nat → Int64} {Q : bh_Q} {d : Nat} (hd : 1 ≤ d) {T : TW} (hW : WF T) (hR : Rn T (D 206)) (k1 : Q (some (.int (nI (sumN (lng T) (nb T))))) (hp D L)) : ∀ (f i : Nat), i + f = nb T → bw m_X10_pagesOfAll d Q 4 [.ref 205, .int (nI (sumN (lng T) i)), .int (nI i)] [] D L := by
  have h12 := hW.nwl
  have h4 := hW.nbl
  intro f
  induction f with
  | zero =>
    intro i hf
    refine x_iload (pc' := 5) rfl rfl rfl ?_
    refine x_aload (pc' := 6) rfl rfl rfl ?_
    refine x_getR (pc' := 9) rfl rfl rfl (by decide) rfl (by decide) rfl rfl ?_
    refine x_int (pc' := 10) (v := nI 1) rfl rfl rfl ?_
    refine x_iald (pc' := 11) rfl rfl (by decide) rfl (by decide) (show _ < 560 by omega) ?_
    refine x_top (hR.1.2.1.trans hW.enb) ?_
    refine y_ic_ge (pc' := 14) rfl rfl (by omega) (by omega) (fun c11 => ?_) (fun c11 => ?_)
    · refine x_iload (pc' := 29) rfl rfl rfl ?_
      refine x_iret rfl rfl ?_
      have e : i = nb T := by omega
      subst e
      exact k1
    · exact absurd c11 (by omega)
  | succ f ih =>
    intro i hf
    refine x_iload (pc' := 5) rfl rfl rfl ?_
    refine x_aload (pc' := 6) rfl rfl rfl ?_
    refine x_getR (pc' := 9) rfl rfl rfl (by decide) rfl (by decide) rfl rfl ?_
    refine x_int (pc' := 10) (v := nI 1) rfl rfl rfl ?_
    refine x_iald (pc' := 11) rfl rfl (by decide) rfl (by decide) (show _ < 560 by omega) ?_
    refine x_top (hR.1.2.1.trans hW.enb) ?_
    refine y_ic_ge (pc' := 14) rfl rfl (by omega) (by omega) (fun c11 => ?_) (fun c11 => ?_)
    · exact absurd c11 (by omega)
    · refine x_iload (pc' := 15) rfl rfl rfl ?_
      refine x_aload (pc' := 16) rfl rfl rfl ?_
      refine x_iload (pc' := 17) rfl rfl rfl ?_
      refine x_callV (pc' := 20) (d1 := 1) (Bs := [_]) rfl rfl rfl rfl rfl rfl rfl (Nat.le_of_ble_eq_true rfl) ⟨rfl, rfl⟩ (by decide) rfl (by omega) ?_
      refine w_X10_pagesOf hW hR (by omega) ?_
      refine ⟨rfl, ?_⟩
      refine y_iadd (pc' := 21) rfl rfl ?_
      refine x_istore (pc' := 22) (lv' := [_, _, _]) rfl rfl (by decide) rfl ?_
      refine y_inc (pc' := 25) (lv' := [_, _, _]) rfl rfl rfl (by decide) rfl ?_
      refine x_goto rfl ?_
      exact ih (i + 1) (by omega)
set_option maxRecDepth 20000 in
set_option maxHeartbeats 1000000 in
theorem w_X10_pagesOfAll {D : Nat → Nat → Int32} {L : Nat → Nat → Int64} {Q : bh_Q} {T : TW} (hW : WF T) (hR : Rn T (D 206)) (k1 : Q (some (.int (nI (sumN (lng T) (nb T))))) (hp D L)) : bh_wc 2 m_X10_pagesOfAll [.ref 205] (hp D L) Q := by
  refine x_start (lv0 := [_, _, _]) (Nat.le_of_ble_eq_true rfl) rfl ?_
  refine x_int (pc' := 1) (v := nI 0) rfl rfl rfl ?_
  refine x_istore (pc' := 2) (lv' := [_, _, _]) rfl rfl (by decide) rfl ?_
  refine x_int (pc' := 3) (v := nI 0) rfl rfl rfl ?_
  refine x_istore (pc' := 4) (lv' := [_, _, _]) rfl rfl (by decide) rfl ?_
  exact l_X10_pagesOfAll (d := 1) (by decide) hW hR k1 (nb T) 0 (Nat.zero_add _)
set_option maxRecDepth 20000 in
set_option maxHeartbeats 1000000 in
theorem l_X7_sumOf7 {D : Nat → Nat → Int32} {L : Nat → Nat → Int64} {Q : bh_Q} {d : Nat} (hd : 0 ≤ d) (hW : WF (tv D)) (k1 : Q (some (.int (sumI (tv D 6) (nw (tv D))))) (hp D L)) : ∀ (f i : Nat), i + f = nw (tv D) → bw m_X7_sumOf d Q 4 [.ref 1, .ref 7, .int (sumI (tv D 6) i), .int (nI i)] [] D L := by
  have h12 := hW.nwl
  have h4 := hW.nbl
  intro f
  induction f with
  | zero =>
    intro i hf
    refine x_iload (pc' := 5) rfl rfl rfl ?_
    refine x_aload (pc' := 6) rfl rfl rfl ?_
    refine x_getI (j := 0) (pc' := 9) rfl rfl rfl (by decide) rfl (by decide) rfl rfl ?_
    refine x_top (hW.enw) ?_
    refine y_ic_ge (pc' := 12) rfl rfl (by omega) (by omega) (fun c9 => ?_) (fun c9 => ?_)
    · refine x_iload (pc' := 25) rfl rfl rfl ?_
      refine x_iret rfl rfl ?_
      have e : i = nw (tv D) := by omega
      subst e
      exact k1
    · exact absurd c9 (by omega)
  | succ f ih =>
    intro i hf
    refine x_iload (pc' := 5) rfl rfl rfl ?_
    refine x_aload (pc' := 6) rfl rfl rfl ?_
    refine x_getI (j := 0) (pc' := 9) rfl rfl rfl (by decide) rfl (by decide) rfl rfl ?_
    refine x_top (hW.enw) ?_
    refine y_ic_ge (pc' := 12) rfl rfl (by omega) (by omega) (fun c9 => ?_) (fun c9 => ?_)
    · exact absurd c9 (by omega)
    · refine x_iload (pc' := 13) rfl rfl rfl ?_
      refine x_aload (pc' := 14) rfl rfl rfl ?_
      refine x_iload (pc' := 15) rfl rfl rfl ?_
      refine x_iald (pc' := 16) rfl rfl (by decide) rfl (by decide) (show _ < 12 by omega) ?_
      refine x_iadd (pc' := 17) rfl rfl ?_
      refine x_istore (pc' := 18) (lv' := [_, _, _, _]) rfl rfl (by decide) rfl ?_
      refine y_inc (pc' := 21) (lv' := [_, _, _, _]) rfl rfl rfl (by decide) rfl ?_
      refine x_goto rfl ?_
      exact ih (i + 1) (by omega)
set_option maxRecDepth 20000 in
set_option maxHeartbeats 1000000 in
theorem w_X7_sumOf7 {D : Nat → Nat → Int32} {L : Nat → Nat → Int64} {Q : bh_Q} (hW : WF (tv D)) (k1 : Q (some (.int (sumI (tv D 6) (nw (tv D))))) (hp D L)) : bh_wc 1 m_X7_sumOf [.ref 1, .ref 7] (hp D L) Q := by
  refine x_start (lv0 := [_, _, _, _]) (Nat.le_of_ble_eq_true rfl) rfl ?_
  refine x_int (pc' := 1) (v := nI 0) rfl rfl rfl ?_
  refine x_istore (pc' := 2) (lv' := [_, _, _, _]) rfl rfl (by decide) rfl ?_
  refine x_int (pc' := 3) (v := nI 0) rfl rfl rfl ?_
  refine x_istore (pc' := 4) (lv' := [_, _, _, _]) rfl rfl (by decide) rfl ?_
  exact l_X7_sumOf7 (d := 0) (Nat.zero_le _) hW k1 (nw (tv D)) 0 (Nat.zero_add _)
set_option maxRecDepth 20000 in
set_option maxHeartbeats 1000000 in
theorem l_X7_sumOf8 {D : Nat → Nat → Int32} {L : Nat → Nat → Int64} {Q : bh_Q} {d : Nat} (hd : 0 ≤ d) (hW : WF (tv D)) (k1 : Q (some (.int (sumI (tv D 7) (nw (tv D))))) (hp D L)) : ∀ (f i : Nat), i + f = nw (tv D) → bw m_X7_sumOf d Q 4 [.ref 1, .ref 8, .int (sumI (tv D 7) i), .int (nI i)] [] D L := by
  have h12 := hW.nwl
  have h4 := hW.nbl
  intro f
  induction f with
  | zero =>
    intro i hf
    refine x_iload (pc' := 5) rfl rfl rfl ?_
    refine x_aload (pc' := 6) rfl rfl rfl ?_
    refine x_getI (j := 0) (pc' := 9) rfl rfl rfl (by decide) rfl (by decide) rfl rfl ?_
    refine x_top (hW.enw) ?_
    refine y_ic_ge (pc' := 12) rfl rfl (by omega) (by omega) (fun c9 => ?_) (fun c9 => ?_)
    · refine x_iload (pc' := 25) rfl rfl rfl ?_
      refine x_iret rfl rfl ?_
      have e : i = nw (tv D) := by omega
      subst e
      exact k1
    · exact absurd c9 (by omega)
  | succ f ih =>
    intro i hf
    refine x_iload (pc' := 5) rfl rfl rfl ?_
    refine x_aload (pc' := 6) rfl rfl rfl ?_
    refine x_getI (j := 0) (pc' := 9) rfl rfl rfl (by decide) rfl (by decide) rfl rfl ?_
    refine x_top (hW.enw) ?_
    refine y_ic_ge (pc' := 12) rfl rfl (by omega) (by omega) (fun c9 => ?_) (fun c9 => ?_)
    · exact absurd c9 (by omega)
    · refine x_iload (pc' := 13) rfl rfl rfl ?_
      refine x_aload (pc' := 14) rfl rfl rfl ?_
      refine x_iload (pc' := 15) rfl rfl rfl ?_
      refine x_iald (pc' := 16) rfl rfl (by decide) rfl (by decide) (show _ < 12 by omega) ?_
      refine x_iadd (pc' := 17) rfl rfl ?_
      refine x_istore (pc' := 18) (lv' := [_, _, _, _]) rfl rfl (by decide) rfl ?_
      refine y_inc (pc' := 21) (lv' := [_, _, _, _]) rfl rfl rfl (by decide) rfl ?_
      refine x_goto rfl ?_
      exact ih (i + 1) (by omega)
set_option maxRecDepth 20000 in
set_option maxHeartbeats 1000000 in
theorem w_X7_sumOf8 {D : Nat → Nat → Int32} {L : Nat → Nat → Int64} {Q : bh_Q} (hW : WF (tv D)) (k1 : Q (some (.int (sumI (tv D 7) (nw (tv D))))) (hp D L)) : bh_wc 1 m_X7_sumOf [.ref 1, .ref 8] (hp D L) Q := by
  refine x_start (lv0 := [_, _, _, _]) (Nat.le_of_ble_eq_true rfl) rfl ?_
  refine x_int (pc' := 1) (v := nI 0) rfl rfl rfl ?_
  refine x_istore (pc' := 2) (lv' := [_, _, _, _]) rfl rfl (by decide) rfl ?_
  refine x_int (pc' := 3) (v := nI 0) rfl rfl rfl ?_
  refine x_istore (pc' := 4) (lv' := [_, _, _, _]) rfl rfl (by decide) rfl ?_
  exact l_X7_sumOf8 (d := 0) (Nat.zero_le _) hW k1 (nw (tv D)) 0 (Nat.zero_add _)
set_option maxRecDepth 20000 in
set_option maxHeartbeats 1000000 in
theorem l_X10_sumOf5 {D : Nat → Nat → Int32} {L : Nat → Nat → Int64} {Q : bh_Q} {d : Nat} (hd : 1 ≤ d) {T : TW} (hW : WF T) (hR : Rn T (D 206)) (k1 : Q (some (.int (sumI (T 6) (nw T)))) (hp D L)) : ∀ (f i : Nat), i + f = nw T → bw m_X10_sumOf d Q 4 [.ref 205, .int (nI 5), .int (sumI (T 6) i), .int (nI i)] [] D L := by
  have h12 := hW.nwl
  have h4 := hW.nbl
  intro f
  induction f with
  | zero =>
    intro i hf
    refine x_iload (pc' := 5) rfl rfl rfl ?_
    refine x_aload (pc' := 6) rfl rfl rfl ?_
    refine x_getR (pc' := 9) rfl rfl rfl (by decide) rfl (by decide) rfl rfl ?_
    refine x_int (pc' := 10) (v := nI 0) rfl rfl rfl ?_
    refine x_iald (pc' := 11) rfl rfl (by decide) rfl (by decide) (show _ < 560 by omega) ?_
    refine x_top (hR.1.1.trans hW.enw) ?_
    refine y_ic_ge (pc' := 14) rfl rfl (by omega) (by omega) (fun c11 => ?_) (fun c11 => ?_)
    · refine x_iload (pc' := 30) rfl rfl rfl ?_
      refine x_iret rfl rfl ?_
      have e : i = nw T := by omega
      subst e
      exact k1
    · exact absurd c11 (by omega)
  | succ f ih =>
    intro i hf
    refine x_iload (pc' := 5) rfl rfl rfl ?_
    refine x_aload (pc' := 6) rfl rfl rfl ?_
    refine x_getR (pc' := 9) rfl rfl rfl (by decide) rfl (by decide) rfl rfl ?_
    refine x_int (pc' := 10) (v := nI 0) rfl rfl rfl ?_
    refine x_iald (pc' := 11) rfl rfl (by decide) rfl (by decide) (show _ < 560 by omega) ?_
    refine x_top (hR.1.1.trans hW.enw) ?_
    refine y_ic_ge (pc' := 14) rfl rfl (by omega) (by omega) (fun c11 => ?_) (fun c11 => ?_)
    · exact absurd c11 (by omega)
    · refine x_iload (pc' := 15) rfl rfl rfl ?_
      refine x_aload (pc' := 16) rfl rfl rfl ?_
      refine x_iload (pc' := 17) rfl rfl rfl ?_
      refine x_iload (pc' := 18) rfl rfl rfl ?_
      refine x_callV (pc' := 21) (d1 := 1) (Bs := [_, _]) rfl rfl rfl rfl rfl rfl rfl (Nat.le_of_ble_eq_true rfl) ⟨rfl, rfl⟩ (by decide) rfl (by omega) ?_
      refine w_X10_of (by omega) (by decide) ?_
      refine ⟨rfl, ?_⟩
      refine x_top (hR.rfame (by omega)) ?_
      refine x_iadd (pc' := 22) rfl rfl ?_
      refine x_istore (pc' := 23) (lv' := [_, _, _, _]) rfl rfl (by decide) rfl ?_
      refine y_inc (pc' := 26) (lv' := [_, _, _, _]) rfl rfl rfl (by decide) rfl ?_
      refine x_goto rfl ?_
      exact ih (i + 1) (by omega)
set_option maxRecDepth 20000 in
set_option maxHeartbeats 1000000 in
theorem w_X10_sumOf5 {D : Nat → Nat → Int32} {L : Nat → Nat → Int64} {Q : bh_Q} {T : TW} (hW : WF T) (hR : Rn T (D 206)) (k1 : Q (some (.int (sumI (T 6) (nw T)))) (hp D L)) : bh_wc 2 m_X10_sumOf [.ref 205, .int (nI 5)] (hp D L) Q := by
  refine x_start (lv0 := [_, _, _, _]) (Nat.le_of_ble_eq_true rfl) rfl ?_
  refine x_int (pc' := 1) (v := nI 0) rfl rfl rfl ?_
  refine x_istore (pc' := 2) (lv' := [_, _, _, _]) rfl rfl (by decide) rfl ?_
  refine x_int (pc' := 3) (v := nI 0) rfl rfl rfl ?_
  refine x_istore (pc' := 4) (lv' := [_, _, _, _]) rfl rfl (by decide) rfl ?_
  exact l_X10_sumOf5 (d := 1) (by decide) hW hR k1 (nw T) 0 (Nat.zero_add _)
set_option maxRecDepth 20000 in
set_option maxHeartbeats 1000000 in
theorem l_X10_sumOf6 {D : Nat → Nat → Int32} {L : Nat → Nat → Int64} {Q : bh_Q} {d : Nat} (hd : 1 ≤ d) {T : TW} (hW : WF T) (hR : Rn T (D 206)) (k1 : Q (some (.int (sumI (T 7) (nw T)))) (hp D L)) : ∀ (f i : Nat), i + f = nw T → bw m_X10_sumOf d Q 4 [.ref 205, .int (nI 6), .int (sumI (T 7) i), .int (nI i)] [] D L := by
  have h12 := hW.nwl
  have h4 := hW.nbl
  intro f
  induction f with
  | zero =>
    intro i hf
    refine x_iload (pc' := 5) rfl rfl rfl ?_
    refine x_aload (pc' := 6) rfl rfl rfl ?_
    refine x_getR (pc' := 9) rfl rfl rfl (by decide) rfl (by decide) rfl rfl ?_
    refine x_int (pc' := 10) (v := nI 0) rfl rfl rfl ?_
    refine x_iald (pc' := 11) rfl rfl (by decide) rfl (by decide) (show _ < 560 by omega) ?_
    refine x_top (hR.1.1.trans hW.enw) ?_
    refine y_ic_ge (pc' := 14) rfl rfl (by omega) (by omega) (fun c11 => ?_) (fun c11 => ?_)
    · refine x_iload (pc' := 30) rfl rfl rfl ?_
      refine x_iret rfl rfl ?_
      have e : i = nw T := by omega
      subst e
      exact k1
    · exact absurd c11 (by omega)
  | succ f ih =>
    intro i hf
    refine x_iload (pc' := 5) rfl rfl rfl ?_
    refine x_aload (pc' := 6) rfl rfl rfl ?_
    refine x_getR (pc' := 9) rfl rfl rfl (by decide) rfl (by decide) rfl rfl ?_
    refine x_int (pc' := 10) (v := nI 0) rfl rfl rfl ?_
    refine x_iald (pc' := 11) rfl rfl (by decide) rfl (by decide) (show _ < 560 by omega) ?_
    refine x_top (hR.1.1.trans hW.enw) ?_
    refine y_ic_ge (pc' := 14) rfl rfl (by omega) (by omega) (fun c11 => ?_) (fun c11 => ?_)
    · exact absurd c11 (by omega)
    · refine x_iload (pc' := 15) rfl rfl rfl ?_
      refine x_aload (pc' := 16) rfl rfl rfl ?_
      refine x_iload (pc' := 17) rfl rfl rfl ?_
      refine x_iload (pc' := 18) rfl rfl rfl ?_
      refine x_callV (pc' := 21) (d1 := 1) (Bs := [_, _]) rfl rfl rfl rfl rfl rfl rfl (Nat.le_of_ble_eq_true rfl) ⟨rfl, rfl⟩ (by decide) rfl (by omega) ?_
      refine w_X10_of (by omega) (by decide) ?_
      refine ⟨rfl, ?_⟩
      refine x_top (hR.rcoins (by omega)) ?_
      refine x_iadd (pc' := 22) rfl rfl ?_
      refine x_istore (pc' := 23) (lv' := [_, _, _, _]) rfl rfl (by decide) rfl ?_
      refine y_inc (pc' := 26) (lv' := [_, _, _, _]) rfl rfl rfl (by decide) rfl ?_
      refine x_goto rfl ?_
      exact ih (i + 1) (by omega)
set_option maxRecDepth 20000 in
set_option maxHeartbeats 1000000 in
theorem w_X10_sumOf6 {D : Nat → Nat → Int32} {L : Nat → Nat → Int64} {Q : bh_Q} {T : TW} (hW : WF T) (hR : Rn T (D 206)) (k1 : Q (some (.int (sumI (T 7) (nw T)))) (hp D L)) : bh_wc 2 m_X10_sumOf [.ref 205, .int (nI 6)] (hp D L) Q := by
  refine x_start (lv0 := [_, _, _, _]) (Nat.le_of_ble_eq_true rfl) rfl ?_
  refine x_int (pc' := 1) (v := nI 0) rfl rfl rfl ?_
  refine x_istore (pc' := 2) (lv' := [_, _, _, _]) rfl rfl (by decide) rfl ?_
  refine x_int (pc' := 3) (v := nI 0) rfl rfl rfl ?_
  refine x_istore (pc' := 4) (lv' := [_, _, _, _]) rfl rfl (by decide) rfl ?_
  exact l_X10_sumOf6 (d := 1) (by decide) hW hR k1 (nw T) 0 (Nat.zero_add _)
set_option maxRecDepth 20000 in
set_option maxHeartbeats 1000000 in
theorem l_X10_deadOnes {D : Nat → Nat → Int32} {L : Nat → Nat → Int64} {Q : bh_Q} {d : Nat} (hd : 1 ≤ d) {T : TW} (hW : WF T) (hR : Rn T (D 206)) (k1 : Q (some (.int (nI (de T)))) (hp D L)) : ∀ (f i : Nat), i + f = nw T → bw m_X10_deadOnes d Q 4 [.ref 205, .int (nI (de T % 2 ^ i)), .int (nI i)] [] D L := by
  have h12 := hW.nwl
  have h4 := hW.nbl
  intro f
  induction f with
  | zero =>
    intro i hf
    refine x_iload (pc' := 5) rfl rfl rfl ?_
    refine x_aload (pc' := 6) rfl rfl rfl ?_
    refine x_getR (pc' := 9) rfl rfl rfl (by decide) rfl (by decide) rfl rfl ?_
    refine x_int (pc' := 10) (v := nI 0) rfl rfl rfl ?_
    refine x_iald (pc' := 11) rfl rfl (by decide) rfl (by decide) (show _ < 560 by omega) ?_
    refine x_top (hR.1.1.trans hW.enw) ?_
    refine y_ic_ge (pc' := 14) rfl rfl (by omega) (by omega) (fun c11 => ?_) (fun c11 => ?_)
    · refine x_iload (pc' := 33) rfl rfl rfl ?_
      refine x_iret rfl rfl ?_
      have e : i = nw T := by omega
      subst e
      rw [Nat.mod_eq_of_lt hW.del]
      exact k1
    · exact absurd c11 (by omega)
  | succ f ih =>
    intro i hf
    refine x_iload (pc' := 5) rfl rfl rfl ?_
    refine x_aload (pc' := 6) rfl rfl rfl ?_
    refine x_getR (pc' := 9) rfl rfl rfl (by decide) rfl (by decide) rfl rfl ?_
    refine x_int (pc' := 10) (v := nI 0) rfl rfl rfl ?_
    refine x_iald (pc' := 11) rfl rfl (by decide) rfl (by decide) (show _ < 560 by omega) ?_
    refine x_top (hR.1.1.trans hW.enw) ?_
    refine y_ic_ge (pc' := 14) rfl rfl (by omega) (by omega) (fun c11 => ?_) (fun c11 => ?_)
    · exact absurd c11 (by omega)
    · refine x_iload (pc' := 15) rfl rfl rfl ?_
      refine x_aload (pc' := 16) rfl rfl rfl ?_
      refine x_iload (pc' := 17) rfl rfl rfl ?_
      refine x_int (pc' := 19) (v := nI 8) rfl rfl rfl ?_
      refine x_callV (pc' := 22) (d1 := 1) (Bs := [_, _]) rfl rfl rfl rfl rfl rfl rfl (Nat.le_of_ble_eq_true rfl) ⟨rfl, rfl⟩ (by decide) rfl (by omega) ?_
      refine w_X10_of (by omega) (by decide) ?_
      refine ⟨rfl, ?_⟩
      refine x_top (hR.rde (by omega)) ?_
      refine x_iload (pc' := 23) rfl rfl rfl ?_
      refine y_ishl (pc' := 24) rfl rfl (by omega) ?_
      refine y_ior (pc' := 25) rfl rfl ?_
      refine x_istore (pc' := 26) (lv' := [_, _, _]) rfl rfl (by decide) rfl ?_
      refine y_inc (pc' := 29) (lv' := [_, _, _]) rfl rfl rfl (by decide) rfl ?_
      refine x_goto rfl ?_
      have hh := ih (i + 1) (by omega)
      rw [mod_bit] at hh
      exact hh
set_option maxRecDepth 20000 in
set_option maxHeartbeats 1000000 in
theorem w_X10_deadOnes {D : Nat → Nat → Int32} {L : Nat → Nat → Int64} {Q : bh_Q} {T : TW} (hW : WF T) (hR : Rn T (D 206)) (k1 : Q (some (.int (nI (de T)))) (hp D L)) : bh_wc 2 m_X10_deadOnes [.ref 205] (hp D L) Q := by
  refine x_start (lv0 := [_, _, _]) (Nat.le_of_ble_eq_true rfl) rfl ?_
  refine x_int (pc' := 1) (v := nI 0) rfl rfl rfl ?_
  refine x_istore (pc' := 2) (lv' := [_, _, _]) rfl rfl (by decide) rfl ?_
  refine x_int (pc' := 3) (v := nI 0) rfl rfl rfl ?_
  refine x_istore (pc' := 4) (lv' := [_, _, _]) rfl rfl (by decide) rfl ?_
  have hh := l_X10_deadOnes (d := 1) (by decide) hW hR k1 (nw T) 0 (Nat.zero_add _)
  rw [Nat.pow_zero, Nat.mod_one] at hh
  exact hh
def mostN (T : TW) (n : Nat) : Nat := maxN (fun w => (ch T w).length) n
theorem mostN_le {T : TW} (hW : WF T) : ∀ n, n ≤ nw T → mostN T n ≤ 12 := fun n hn => maxN_le n (fun i hi => (isH_of hW (by omega)).2.1)
set_option maxRecDepth 20000 in
set_option maxHeartbeats 1000000 in
theorem l_X9_mostHands {L : Nat → Nat → Int64} {Q : bh_Q} {d : Nat} (hd : 3 ≤ d) : ∀ (f i : Nat) (D : Nat → Nat → Int32), WF (tv D) → i + f = nw (tv D) → (∀ D1, OffH D D1 → Q (some (.int (nI (mostN (tv D) (nw (tv D)))))) (hp D1 L)) → bw m_X9_mostHands d Q 4 [.ref 0, .int (nI (mostN (tv D) i)), .int (nI i)] [] D L := by
  intro f
  induction f with
  | zero =>
    intro i D hW hf k1
    have h12 := hW.nwl
    refine x_iload (pc' := 5) rfl rfl rfl ?_
    refine x_aload (pc' := 6) rfl rfl rfl ?_
    refine x_getR (pc' := 9) rfl rfl rfl (by decide) rfl (by decide) rfl rfl ?_
    refine x_getI (j := 0) (pc' := 12) rfl rfl rfl (by decide) rfl (by decide) rfl rfl ?_
    refine x_top (hW.enw) ?_
    refine y_ic_ge (pc' := 15) rfl rfl (by omega) (by omega) (fun c12 => ?_) (fun c12 => ?_)
    · refine x_iload (pc' := 32) rfl rfl rfl ?_
      refine x_iret rfl rfl ?_
      have e : i = nw (tv D) := by omega
      subst e
      exact k1 D OffH.rf
    · exact absurd c12 (by omega)
  | succ f ih =>
    intro i D hW hf k1
    have h12 := hW.nwl
    refine x_iload (pc' := 5) rfl rfl rfl ?_
    refine x_aload (pc' := 6) rfl rfl rfl ?_
    refine x_getR (pc' := 9) rfl rfl rfl (by decide) rfl (by decide) rfl rfl ?_
    refine x_getI (j := 0) (pc' := 12) rfl rfl rfl (by decide) rfl (by decide) rfl rfl ?_
    refine x_top (hW.enw) ?_
    refine y_ic_ge (pc' := 15) rfl rfl (by omega) (by omega) (fun c12 => ?_) (fun c12 => ?_)
    · exact absurd c12 (by omega)
    · refine x_iload (pc' := 16) rfl rfl rfl ?_
      refine x_aload (pc' := 17) rfl rfl rfl ?_
      refine x_iload (pc' := 18) rfl rfl rfl ?_
      refine x_callV (pc' := 21) (d1 := 3) (Bs := [_]) rfl rfl rfl rfl rfl rfl rfl (Nat.le_of_ble_eq_true rfl) ⟨rfl, rfl⟩ (by decide) rfl (by omega) ?_
      refine w_X9_handsOf hW (by omega) (fun D1 o1 h1 => ?_)
      refine ⟨rfl, ?_⟩
      refine x_max (pc' := 24) rfl rfl (Nat.le_of_ble_eq_true rfl) (nI_max (by have := mostN_le hW i (by omega); omega) (by have := (isH_of hW (w := i) (by omega)).2.1; omega)) ?_
      refine x_istore (pc' := 25) (lv' := [_, _, _]) rfl rfl (by decide) rfl ?_
      refine y_inc (pc' := 28) (lv' := [_, _, _]) rfl rfl rfl (by decide) rfl ?_
      refine x_goto rfl ?_
      have t1 := o1.tv
      have hh := ih (i + 1) D1 (by rw [t1]; exact hW) (by rw [t1]; omega) (fun D2 o2 => by rw [t1]; exact k1 D2 (o1.tr o2))
      rw [t1] at hh
      exact hh
set_option maxRecDepth 20000 in
set_option maxHeartbeats 1000000 in
theorem w_X9_mostHands {D : Nat → Nat → Int32} {L : Nat → Nat → Int64} {Q : bh_Q} (hW : WF (tv D)) (k1 : ∀ D1, OffH D D1 → Q (some (.int (nI (mostN (tv D) (nw (tv D)))))) (hp D1 L)) : bh_wc 4 m_X9_mostHands [.ref 0] (hp D L) Q := by
  refine x_start (lv0 := [_, _, _]) (Nat.le_of_ble_eq_true rfl) rfl ?_
  refine x_int (pc' := 1) (v := nI 0) rfl rfl rfl ?_
  refine x_istore (pc' := 2) (lv' := [_, _, _]) rfl rfl (by decide) rfl ?_
  refine x_int (pc' := 3) (v := nI 0) rfl rfl rfl ?_
  refine x_istore (pc' := 4) (lv' := [_, _, _]) rfl rfl (by decide) rfl ?_
  exact l_X9_mostHands (d := 3) (by decide) (nw (tv D)) 0 D hW (Nat.zero_add _) k1
set_option maxRecDepth 20000 in
set_option maxHeartbeats 1000000 in
theorem l_X10_mostHands {T : TW} (hW : WF T) {L : Nat → Nat → Int64} {Q : bh_Q} {d : Nat} (hd : 3 ≤ d) : ∀ (f i : Nat) (D : Nat → Nat → Int32), Rn T (D 206) → i + f = nw T → (∀ D1, OffL [212] D D1 → Q (some (.int (nI (mostN T (nw T))))) (hp D1 L)) → bw m_X10_mostHands d Q 4 [.ref 205, .int (nI (mostN T i)), .int (nI i)] [] D L := by
  have h12 := hW.nwl
  intro f
  induction f with
  | zero =>
    intro i D hR hf k1
    refine x_iload (pc' := 5) rfl rfl rfl ?_
    refine x_aload (pc' := 6) rfl rfl rfl ?_
    refine x_getR (pc' := 9) rfl rfl rfl (by decide) rfl (by decide) rfl rfl ?_
    refine x_int (pc' := 10) (v := nI 0) rfl rfl rfl ?_
    refine x_iald (pc' := 11) rfl rfl (by decide) rfl (by decide) (show _ < 560 by omega) ?_
    refine x_top (hR.1.1.trans hW.enw) ?_
    refine y_ic_ge (pc' := 14) rfl rfl (by omega) (by omega) (fun c11 => ?_) (fun c11 => ?_)
    · refine x_iload (pc' := 31) rfl rfl rfl ?_
      refine x_iret rfl rfl ?_
      have e : i = nw T := by omega
      subst e
      exact k1 D OffL.rf
    · exact absurd c11 (by omega)
  | succ f ih =>
    intro i D hR hf k1
    refine x_iload (pc' := 5) rfl rfl rfl ?_
    refine x_aload (pc' := 6) rfl rfl rfl ?_
    refine x_getR (pc' := 9) rfl rfl rfl (by decide) rfl (by decide) rfl rfl ?_
    refine x_int (pc' := 10) (v := nI 0) rfl rfl rfl ?_
    refine x_iald (pc' := 11) rfl rfl (by decide) rfl (by decide) (show _ < 560 by omega) ?_
    refine x_top (hR.1.1.trans hW.enw) ?_
    refine y_ic_ge (pc' := 14) rfl rfl (by omega) (by omega) (fun c11 => ?_) (fun c11 => ?_)
    · exact absurd c11 (by omega)
    · refine x_iload (pc' := 15) rfl rfl rfl ?_
      refine x_aload (pc' := 16) rfl rfl rfl ?_
      refine x_iload (pc' := 17) rfl rfl rfl ?_
      refine x_callV (pc' := 20) (d1 := 3) (Bs := [_]) rfl rfl rfl rfl rfl rfl rfl (Nat.le_of_ble_eq_true rfl) ⟨rfl, rfl⟩ (by decide) rfl (by omega) ?_
      refine w_X10_hands hW hR (by omega) (fun D1 o1 h1 => ?_)
      refine ⟨rfl, ?_⟩
      refine x_max (pc' := 23) rfl rfl (Nat.le_of_ble_eq_true rfl) (nI_max (by have := mostN_le hW i (by omega); omega) (by have := (isH_of hW (w := i) (by omega)).2.1; omega)) ?_
      refine x_istore (pc' := 24) (lv' := [_, _, _]) rfl rfl (by decide) rfl ?_
      refine y_inc (pc' := 27) (lv' := [_, _, _]) rfl rfl rfl (by decide) rfl ?_
      refine x_goto rfl ?_
      exact ih (i + 1) D1 (OffL212.rn o1 hR) (by omega) (fun D2 o2 => k1 D2 (OffL.tr o1 o2))
set_option maxRecDepth 20000 in
set_option maxHeartbeats 1000000 in
theorem w_X10_mostHands {D : Nat → Nat → Int32} {L : Nat → Nat → Int64} {Q : bh_Q} {T : TW} (hW : WF T) (hR : Rn T (D 206)) (k1 : ∀ D1, OffL [212] D D1 → Q (some (.int (nI (mostN T (nw T))))) (hp D1 L)) : bh_wc 4 m_X10_mostHands [.ref 205] (hp D L) Q := by
  refine x_start (lv0 := [_, _, _]) (Nat.le_of_ble_eq_true rfl) rfl ?_
  refine x_int (pc' := 1) (v := nI 0) rfl rfl rfl ?_
  refine x_istore (pc' := 2) (lv' := [_, _, _]) rfl rfl (by decide) rfl ?_
  refine x_int (pc' := 3) (v := nI 0) rfl rfl rfl ?_
  refine x_istore (pc' := 4) (lv' := [_, _, _]) rfl rfl (by decide) rfl ?_
  exact l_X10_mostHands hW (d := 3) (by decide) (nw T) 0 D hR (Nat.zero_add _) k1
set_option maxRecDepth 20000 in
set_option maxHeartbeats 1000000 in
theorem w_X2_lowest {D : Nat → Nat → Int32} {L : Nat → Nat → Int64} {Q : bh_Q} {l : List Nat} (hH : HdL D l) (h0 : 0 < l.length) (h12 : l.length ≤ 12) (k1 : Q (some (.int (lowI l))) (hp D L)) : bh_wc 1 m_X2_lowest [.ref 31] (hp D L) Q := by
  refine x_start (lv0 := [_]) (Nat.le_of_ble_eq_true rfl) rfl ?_
  refine x_aload (pc' := 1) rfl rfl rfl ?_
  refine x_getI (j := 1) (pc' := 4) rfl rfl rfl (by decide) rfl (by decide) rfl rfl ?_
  refine x_top (hH.1) ?_
  refine y_if_le (pc' := 7) rfl rfl (by omega) (fun c4 => ?_) (fun c4 => ?_)
  · refine x_int (pc' := 22) (v := (-1)) rfl rfl rfl ?_
    refine x_iret rfl rfl ?_
    first
      | exact k1
      | (exfalso; omega)
  · refine x_aload (pc' := 8) rfl rfl rfl ?_
    refine x_getR (pc' := 11) rfl rfl rfl (by decide) rfl (by decide) rfl rfl ?_
    refine x_aload (pc' := 12) rfl rfl rfl ?_
    refine x_getI (j := 1) (pc' := 15) rfl rfl rfl (by decide) rfl (by decide) rfl rfl ?_
    refine x_top (hH.1) ?_
    refine x_int (pc' := 16) (v := nI 1) rfl rfl rfl ?_
    refine y_isub (pc' := 17) rfl rfl (by omega) ?_
    refine x_iald (pc' := 18) rfl rfl (by decide) rfl (by decide) (show _ < 12 by omega) ?_
    refine x_top (hH.2 _ (by omega)) ?_
    refine x_goto rfl ?_
    refine x_iret rfl rfl ?_
    first
      | exact k1
      | (exfalso; omega)
set_option maxRecDepth 20000 in
set_option maxHeartbeats 1000000 in
theorem w_X9_lowestOf {D : Nat → Nat → Int32} {L : Nat → Nat → Int64} {Q : bh_Q} (hW : WF (tv D)) {w : Nat} (hw : w < nw (tv D)) (k1 : ∀ D1, OffH D D1 → Q (some (.int (lowI (ch (tv D) w)))) (hp D1 L)) : bh_wc 3 m_X9_lowestOf [.ref 0, .int (nI w)] (hp D L) Q := by
  refine x_start (lv0 := [_, _]) (Nat.le_of_ble_eq_true rfl) rfl ?_
  refine x_aload (pc' := 1) rfl rfl rfl ?_
  refine x_getR (pc' := 4) rfl rfl rfl (by decide) rfl (by decide) rfl rfl ?_
  refine x_aload (pc' := 5) rfl rfl rfl ?_
  refine x_getR (pc' := 8) rfl rfl rfl (by decide) rfl (by decide) rfl rfl ?_
  refine x_iload (pc' := 9) rfl rfl rfl ?_
  refine x_callV (pc' := 12) (d1 := 2) (Bs := [_, _]) rfl rfl rfl rfl rfl rfl rfl (Nat.le_of_ble_eq_true rfl) ⟨rfl, rfl⟩ (by decide) rfl (by decide) ?_
  refine w_X2_listFrom hW hw (fun D1 o1 hH => ?_)
  refine ⟨rfl, ?_⟩
  refine x_aload (pc' := 13) rfl rfl rfl ?_
  refine x_getR (pc' := 16) rfl rfl rfl (by decide) rfl (by decide) rfl rfl ?_
  refine x_callV (pc' := 19) (d1 := 1) (Bs := []) rfl rfl rfl rfl rfl rfl rfl (Nat.le_of_ble_eq_true rfl) ⟨rfl, rfl⟩ (by decide) rfl (by decide) ?_
  refine w_X2_lowest hH (Nat.succ_pos _) (isH_of hW hw).2.1 ?_
  refine ⟨rfl, ?_⟩
  refine x_iret rfl rfl ?_
  exact k1 D1 o1
