/-! ===== fits, likeliest, matches, quarrel ===== -/
def lnA (T : TW) (n : Nat) : Option Nat := if n / 32 < nw T ∧ n / 8 % 4 < nb T ∧ n % 8 < lng T (n / 8 % 4) then lnO T (n / 32) (n / 8 % 4) (n % 8) else none
theorem lnA_1 {T : TW} {n : Nat} (h1 : n / 32 < nw T) (h2 : n / 8 % 4 < nb T) (h3 : n % 8 < lng T (n / 8 % 4)) : lnA T n = lnO T (n / 32) (n / 8 % 4) (n % 8) := if_pos ⟨h1, h2, h3⟩
theorem lnA_0 {T : TW} {n : Nat} (h : ¬ (n / 32 < nw T ∧ n / 8 % 4 < nb T ∧ n % 8 < lng T (n / 8 % 4))) : lnA T n = none := if_neg h
theorem lnA_lt {T : TW} (hW : WF T) {n r : Nat} (h : lnA T n = some r) : r < 65536 := by
  unfold lnA at h
  by_cases hc : n / 32 < nw T ∧ n / 8 % 4 < nb T ∧ n % 8 < lng T (n / 8 % 4)
  · rw [if_pos hc] at h; exact lnO_lt hW hc.1 hc.2.1 hc.2.2 h
  · rw [if_neg hc] at h; cases h
theorem toI_no {line : Nat} (h : line < 65536) : ¬ toI none = nI line := fun e => nI_m2 (n := line) (by omega) e.symm
def fitF (T : TW) (line : Nat) (k : Int32) : Nat → Nat → Nat → Int32
  | 0, _, m => if k = -1 then nI m else -2
  | f + 1, c, m => if toI (lnA T c) = nI line then (if nI m = k then nI c else fitF T line k f (c + 1) (m + 1)) else fitF T line k f (c + 1) m
def fitsQ (T : TW) (x k : Int32) : Int32 := onN 65536 x (-1) fun line => if k < -1 then -1 else fitF T line k 384 0 0
theorem fitF_0 {T : TW} {line : Nat} (hl : line < 65536) {k : Int32} : ∀ (f c m : Nat), (∀ j, c ≤ j → lnA T j = none) → fitF T line k f c m = if k = -1 then nI m else -2 := by
  intro f
  induction f with
  | zero => intro c m _; rfl
  | succ f ih =>
    intro c m h
    unfold fitF
    rw [h c (Nat.le_refl _), if_neg (toI_no hl), ih (c + 1) m (fun j hj => h j (by omega))]
theorem lnA_out {T : TW} {c : Nat} (h : 32 * nw T ≤ c) : ∀ j, c ≤ j → lnA T j = none := fun j hj => lnA_0 (fun e => by omega)
def likS (T : TW) (line c : Nat) (o : Option (Nat × Nat)) : Option (Nat × Nat) := match lnA T c with
  | none => o
  | some r => match o with
    | none => some (c, pcn (r ^^^ line))
    | some (b, f) => if pcn (r ^^^ line) < f then some (c, pcn (r ^^^ line)) else some (b, f)
def likF (T : TW) (line : Nat) : Nat → Nat → Option (Nat × Nat) → Option (Nat × Nat)
  | 0, _, o => o
  | f + 1, c, o => likF T line f (c + 1) (likS T line c o)
theorem likF_0 {T : TW} {line : Nat} : ∀ (f c : Nat) (o : Option (Nat × Nat)), (∀ j, c ≤ j → lnA T j = none) → likF T line f c o = o := by
  intro f
  induction f with
  | zero => intro c o _; rfl
  | succ f ih =>
    intro c o h
    have e : likS T line c o = o := by unfold likS; rw [h c (Nat.le_refl _)]
    unfold likF
    rw [e, ih (c + 1) o (fun j hj => h j (by omega))]
def likB (o : Option (Nat × Nat)) : Int32 := match o with | none => -2 | some (b, _) => nI b
def likV (o : Option (Nat × Nat)) : Int32 := match o with | none => -2 | some (_, f) => nI f
def likW (o : Option (Nat × Nat)) : Nat := match o with | none => 17 | some (_, f) => f
def likeliestQ (T : TW) (x v : Int32) : Int32 := onN 65536 x (-1) fun line => onN 2 v (-1) fun m => if m = 0 then likB (likF T line 384 0 none) else likV (likF T line 384 0 none)
def matF (T : TW) (w line : Nat) : Nat → Int64
  | 0 => (nI 0).toInt64
  | i + 1 => if toI (lnA T (32 * w + i)) = nI line then matF T w line i ||| (nI 1).toInt64 <<< ((nI i).toInt64 &&& 63) else matF T w line i
def matchesQ (T : TW) (x y : Int32) : Int64 := onN (nw T) x ((-1 : Int32).toInt64) fun w => onN 65536 y ((-1 : Int32).toInt64) fun line => matF T w line 32
def quarV (a b : Int32) : Int32 := if a = -2 ∨ b = -2 then -2 else a ^^^ b
def quarrelQ (T : TW) (x x' y z : Int32) : Int32 := onN (nw T) x (-1) fun w => onN (nw T) x' (-1) fun u => onP T y z (-1) fun b q => quarV (toI (lnO T w b q)) (toI (lnO T u b q))
set_option maxRecDepth 20000 in
set_option maxHeartbeats 1000000 in
theorem w_X9_lineAt {D : Nat → Nat → Int32} {L : Nat → Nat → Int64} {Q : bh_Q} (hW : WF (tv D)) {n : Nat} (hn384 : n < 384) (k1 : ∀ D1, OffH D D1 → Q (some (.int (toI (lnA (tv D) n)))) (hp D1 L)) : bh_wc 5 m_X9_lineAt [.ref 0, .int (nI n)] (hp D L) Q := by
  refine x_start (lv0 := [_, _, _, _, _]) (Nat.le_of_ble_eq_true rfl) rfl ?_
  have h12 := hW.nwl
  refine x_iload (pc' := 1) rfl rfl rfl ?_
  refine x_int (pc' := 3) (v := nI 32) rfl rfl rfl ?_
  refine y_idiv (pc' := 4) rfl rfl (by omega) (by omega) (by omega) ?_
  refine x_istore (pc' := 5) (lv' := [_, _, _, _, _]) rfl rfl (by decide) rfl ?_
  refine x_iload (pc' := 6) rfl rfl rfl ?_
  refine x_int (pc' := 8) (v := nI 8) rfl rfl rfl ?_
  refine y_idiv (pc' := 9) rfl rfl (by omega) (by omega) (by omega) ?_
  refine x_int (pc' := 10) (v := nI 4) rfl rfl rfl ?_
  refine y_irem (pc' := 11) rfl rfl (by omega) (by omega) (by omega) ?_
  refine x_istore (pc' := 12) (lv' := [_, _, _, _, _]) rfl rfl (by decide) rfl ?_
  refine x_iload (pc' := 13) rfl rfl rfl ?_
  refine x_int (pc' := 15) (v := nI 8) rfl rfl rfl ?_
  refine y_irem (pc' := 16) rfl rfl (by omega) (by omega) (by omega) ?_
  refine x_istore (pc' := 18) (lv' := [_, _, _, _, _]) rfl rfl (by decide) rfl ?_
  refine x_aload (pc' := 19) rfl rfl rfl ?_
  refine x_getR (pc' := 22) rfl rfl rfl (by decide) rfl (by decide) rfl rfl ?_
  refine x_iload (pc' := 23) rfl rfl rfl ?_
  refine x_callV (pc' := 26) (d1 := 1) (Bs := [_]) rfl rfl rfl rfl rfl rfl rfl (Nat.le_of_ble_eq_true rfl) ⟨rfl, rfl⟩ (by decide) rfl (by decide) ?_
  refine w_X7_isWriter hW (fun j hj e => ?_) (fun hw => ?_)
  · have e := nI_inj (by omega) (by omega) e
    subst e
    refine ⟨rfl, ?_⟩
    refine x_if_eq (pc' := 29) rfl rfl (fun c26 => absurd c26 (by decide)) (fun _ => ?_)
    refine x_aload (pc' := 30) rfl rfl rfl ?_
    refine x_getR (pc' := 33) rfl rfl rfl (by decide) rfl (by decide) rfl rfl ?_
    refine x_iload (pc' := 34) rfl rfl rfl ?_
    refine x_iload (pc' := 36) rfl rfl rfl ?_
    refine x_callV (pc' := 39) (d1 := 2) (Bs := [_, _]) rfl rfl rfl rfl rfl rfl rfl (Nat.le_of_ble_eq_true rfl) ⟨rfl, rfl⟩ (by decide) rfl (by decide) ?_
    refine w_X7_isPage hW (fun b q hb hq e1 e2 => ?_) (fun hn => ?_)
    · have h4 := hW.nbl
      have h8 := hW.lngl hb
      have e1 := nI_inj (by omega) (by omega) e1
      have e2 := nI_inj (by omega) (by omega) e2
      subst e1; subst e2
      refine ⟨rfl, ?_⟩
      refine x_if_ne (pc' := 42) rfl rfl (fun _ => ?_) (fun c39 => absurd c39 (by decide))
      refine x_aload (pc' := 46) rfl rfl rfl ?_
      refine x_iload (pc' := 47) rfl rfl rfl ?_
      refine x_iload (pc' := 48) rfl rfl rfl ?_
      refine x_iload (pc' := 50) rfl rfl rfl ?_
      refine x_callV (pc' := 53) (d1 := 4) (Bs := [_, _, _]) rfl rfl rfl rfl rfl rfl rfl (Nat.le_of_ble_eq_true rfl) ⟨rfl, rfl⟩ (by decide) rfl (by decide) ?_
      refine w_X9_lineOf hW hj hb hq (fun D1 o1 => ?_)
      refine ⟨rfl, ?_⟩
      refine x_iret rfl rfl ?_
      rw [← lnA_1 hj hb hq]
      exact k1 D1 o1
    · refine ⟨rfl, ?_⟩
      refine x_if_ne (pc' := 42) rfl rfl (fun c39 => absurd (by decide) c39) (fun _ => ?_)
      refine x_int (pc' := 44) (v := (-2)) rfl rfl rfl ?_
      refine x_iret rfl rfl ?_
      first
        | (have e : lnA (tv D) n = none := lnA_0 (fun h => hw ⟨_, h.1, rfl⟩)
           rw [e] at k1
           exact k1 D OffH.rf)
        | (have e : lnA (tv D) n = none := lnA_0 (fun h => hn ⟨_, _, h.2.1, h.2.2, rfl, rfl⟩)
           rw [e] at k1
           exact k1 D OffH.rf)
  · refine ⟨rfl, ?_⟩
    refine x_if_eq (pc' := 29) rfl rfl (fun _ => ?_) (fun c26 => absurd (by decide) c26)
    refine x_int (pc' := 44) (v := (-2)) rfl rfl rfl ?_
    refine x_iret rfl rfl ?_
    first
      | (have e : lnA (tv D) n = none := lnA_0 (fun h => hw ⟨_, h.1, rfl⟩)
         rw [e] at k1
         exact k1 D OffH.rf)
      | (have e : lnA (tv D) n = none := lnA_0 (fun h => hn ⟨_, _, h.2.1, h.2.2, rfl, rfl⟩)
         rw [e] at k1
         exact k1 D OffH.rf)
theorem v_X9_lineAt {D : Nat → Nat → Int32} {L : Nat → Nat → Int64} {Q : bh_Q} {T : TW} (hW : WF T) (hT : tv D = T) {n : Nat} (hn : n < 384) (k1 : ∀ D1, OffH D D1 → tv D1 = T → Q (some (.int (toI (lnA T n)))) (hp D1 L)) : bh_wc 5 m_X9_lineAt [.ref 0, .int (nI n)] (hp D L) Q := by
  subst hT
  exact w_X9_lineAt hW hn (fun D1 o1 => k1 D1 o1 o1.tv)
set_option maxRecDepth 20000 in
set_option maxHeartbeats 1000000 in
theorem l_X9_fits {L : Nat → Nat → Int64} {Q : bh_Q} {d : Nat} (hd : 5 ≤ d) {T : TW} (hW : WF T) {D0 : Nat → Nat → Int32} {line : Nat} (hl : line < 65536) {k r : Int32} (k1 : ∀ D, OffH D0 D → Q (some (.int r)) (hp D L)) : ∀ (f i : Nat) (D : Nat → Nat → Int32) (m : Nat), i + f = 384 → (m ≤ i) → (OffH D0 D) → (tv D = T) → (fitF T line k (384 - i) i m = r) → bw m_X9_fits d Q 19 [.ref 0, .int (nI line), .int k, .int (nI m), .int (nI i)] [] D L := by
  intro f
  induction f with
  | zero =>
    intro i D m hf hm o hT kE
    refine x_iload (pc' := 21) rfl rfl rfl ?_
    refine x_int (pc' := 24) (v := nI 384) rfl rfl rfl ?_
    refine y_ic_ge (pc' := 27) rfl rfl (by omega) (by omega) (fun c24 => ?_) (fun c24 => ?_)
    · refine x_iload (pc' := 55) rfl rfl rfl ?_
      refine x_int (pc' := 56) (v := (-1)) rfl rfl rfl ?_
      refine x_ic_ne (pc' := 59) rfl rfl (fun c56 => ?_) (fun c56 => ?_)
      · refine x_int (pc' := 65) (v := (-2)) rfl rfl rfl ?_
        refine x_iret rfl rfl ?_
        obtain rfl : i = 384 := by omega
        have e4 : (if k = -1 then nI m else -2) = r := kE
        first
          | (rw [if_pos c56] at e4; rw [e4]; exact k1 D o)
          | (rw [if_neg c56] at e4; rw [e4]; exact k1 D o)
      · refine x_iload (pc' := 60) rfl rfl rfl ?_
        refine x_goto rfl ?_
        refine x_iret rfl rfl ?_
        obtain rfl : i = 384 := by omega
        have e4 : (if k = -1 then nI m else -2) = r := kE
        first
          | (rw [if_pos c56] at e4; rw [e4]; exact k1 D o)
          | (rw [if_neg c56] at e4; rw [e4]; exact k1 D o)
    · exact absurd c24 (by omega)
  | succ f ih =>
    intro i D m hf hm o hT kE
    refine x_iload (pc' := 21) rfl rfl rfl ?_
    refine x_int (pc' := 24) (v := nI 384) rfl rfl rfl ?_
    refine y_ic_ge (pc' := 27) rfl rfl (by omega) (by omega) (fun c24 => ?_) (fun c24 => ?_)
    · exact absurd c24 (by omega)
    · refine x_aload (pc' := 28) rfl rfl rfl ?_
      refine x_iload (pc' := 30) rfl rfl rfl ?_
      refine x_callV (pc' := 33) (d1 := 5) (Bs := [_]) rfl rfl rfl rfl rfl rfl rfl (Nat.le_of_ble_eq_true rfl) ⟨rfl, rfl⟩ (by decide) rfl (by omega) ?_
      refine v_X9_lineAt hW hT (by omega) (fun D1 o1 hT1 => ?_)
      refine ⟨rfl, ?_⟩
      refine x_iload (pc' := 34) rfl rfl rfl ?_
      refine x_ic_ne (pc' := 37) rfl rfl (fun c34 => ?_) (fun c34 => ?_)
      · refine y_inc (pc' := 51) (lv' := [_, _, _, _, _]) rfl rfl rfl (by decide) rfl ?_
        refine x_goto rfl ?_
        have e3 : 384 - i = (384 - (i + 1)) + 1 := by omega
        rw [e3] at kE
        unfold fitF at kE
        first
          | (rw [if_pos c34, if_neg c39] at kE; exact ih (i + 1) D1 (m + 1) (by omega) (by omega) (o.tr o1) hT1 kE)
          | (rw [if_neg c34] at kE; exact ih (i + 1) D1 m (by omega) (by omega) (o.tr o1) hT1 kE)
      · refine x_iload (pc' := 38) rfl rfl rfl ?_
        refine x_iload (pc' := 39) rfl rfl rfl ?_
        refine x_ic_ne (pc' := 42) rfl rfl (fun c39 => ?_) (fun c39 => ?_)
        · refine y_inc (pc' := 48) (lv' := [_, _, _, _, _]) rfl rfl rfl (by decide) rfl ?_
          refine y_inc (pc' := 51) (lv' := [_, _, _, _, _]) rfl rfl rfl (by decide) rfl ?_
          refine x_goto rfl ?_
          have e3 : 384 - i = (384 - (i + 1)) + 1 := by omega
          rw [e3] at kE
          unfold fitF at kE
          first
            | (rw [if_pos c34, if_neg c39] at kE; exact ih (i + 1) D1 (m + 1) (by omega) (by omega) (o.tr o1) hT1 kE)
            | (rw [if_neg c34] at kE; exact ih (i + 1) D1 m (by omega) (by omega) (o.tr o1) hT1 kE)
        · refine x_iload (pc' := 44) rfl rfl rfl ?_
          refine x_iret rfl rfl ?_
          have e3 : 384 - i = (384 - (i + 1)) + 1 := by omega
          rw [e3] at kE
          unfold fitF at kE
          rw [if_pos c34, if_pos c39] at kE
          rw [kE]
          exact k1 D1 (o.tr o1)
set_option maxRecDepth 20000 in
set_option maxHeartbeats 1000000 in
theorem w_X9_fits {D : Nat → Nat → Int32} {L : Nat → Nat → Int64} {Q : bh_Q} (hW : WF (tv D)) {x k : Int32} (k1 : ∀ D1, OffC D D1 → Q (some (.int (fitsQ (tv D) x k))) (hp D1 L)) : bh_wc 6 m_X9_fits [.ref 0, .int x, .int k] (hp D L) Q := by
  refine x_start (lv0 := [_, _, _, _, _]) (Nat.le_of_ble_eq_true rfl) rfl ?_
  have h12 := hW.nwl
  refine x_iload (pc' := 1) rfl rfl rfl ?_
  refine x_callS (pc' := 4) (d1 := 1) (As := [_]) rfl rfl rfl rfl (by decide) rfl rfl (Nat.le_of_ble_eq_true rfl) ⟨rfl, rfl⟩ (by decide) ?_
  refine w_X9_isRow (fun h1w h1l e => ?_) (fun h1 => ?_)
  · subst e
    refine ⟨rfl, ?_⟩
    refine x_if_eq (pc' := 7) rfl rfl (fun c4 => absurd c4 (by decide)) (fun _ => ?_)
    refine x_iload (pc' := 8) rfl rfl rfl ?_
    refine x_int (pc' := 9) (v := (-1)) rfl rfl rfl ?_
    refine x_ic_ge (pc' := 12) rfl rfl (fun c9 => ?_) (fun c9 => ?_)
    · refine x_int (pc' := 15) (v := nI 0) rfl rfl rfl ?_
      refine x_istore (pc' := 16) (lv' := [_, _, _, _, _]) rfl rfl (by decide) rfl ?_
      refine x_int (pc' := 17) (v := nI 0) rfl rfl rfl ?_
      refine x_istore (pc' := 19) (lv' := [_, _, _, _, _]) rfl rfl (by decide) rfl ?_
      simp (disch := first | assumption | omega) only [fitsQ, onN_1, onN_0, onP_1, onP_0, ↓reduceIte] at k1
      rw [if_neg (Int32.not_lt.mpr c9)] at k1
      exact l_X9_fits (d := 5) (Nat.le_refl _) hW h1l (fun D1 o1 => k1 D1 o1.c) 384 0 D 0 rfl (Nat.le_refl _) OffH.rf rfl rfl
    · refine x_int (pc' := 13) (v := (-1)) rfl rfl rfl ?_
      refine x_iret rfl rfl ?_
      first
        | (simp (disch := first | assumption | omega) only [fitsQ, onN_1, onN_0, onP_1, onP_0, ↓reduceIte] at k1
           exact k1 D OffC.rf)
        | (simp (disch := first | assumption | omega) only [fitsQ, onN_1, onN_0, onP_1, onP_0, ↓reduceIte] at k1
           rw [if_pos (Int32.not_le.mp c9)] at k1
           exact k1 D OffC.rf)
  · refine ⟨rfl, ?_⟩
    refine x_if_eq (pc' := 7) rfl rfl (fun _ => ?_) (fun c4 => absurd (by decide) c4)
    refine x_int (pc' := 13) (v := (-1)) rfl rfl rfl ?_
    refine x_iret rfl rfl ?_
    first
      | (simp (disch := first | assumption | omega) only [fitsQ, onN_1, onN_0, onP_1, onP_0, ↓reduceIte] at k1
         exact k1 D OffC.rf)
      | (simp (disch := first | assumption | omega) only [fitsQ, onN_1, onN_0, onP_1, onP_0, ↓reduceIte] at k1
         rw [if_pos (Int32.not_le.mp c9)] at k1
         exact k1 D OffC.rf)
set_option maxRecDepth 20000 in
set_option maxHeartbeats 1000000 in
theorem l_X10_fits {L : Nat → Nat → Int64} {Q : bh_Q} {d : Nat} (hd : 5 ≤ d) {T : TW} (hW : WF T) {D0 : Nat → Nat → Int32} {line : Nat} (hl : line < 65536) {k r : Int32} (k1 : ∀ D, OffL [212] D0 D → Q (some (.int r)) (hp D L)) : ∀ (f i : Nat) (D : Nat → Nat → Int32) (m : Nat) (a5 : Value), i + f = 32 * nw T → (m ≤ i) → (OffL [212] D0 D) → (Rn T (D 206)) → (fitF T line k (384 - i) i m = r) → bw m_X10_fits d Q 24 [.ref 205, .int (nI line), .int k, .int (nI m), .int (nI i), a5] [] D L := by
  have h12 := hW.nwl
  intro f
  induction f with
  | zero =>
    intro i D m a5 hf hm o hR kE
    refine x_iload (pc' := 26) rfl rfl rfl ?_
    refine x_int (pc' := 28) (v := nI 32) rfl rfl rfl ?_
    refine x_aload (pc' := 29) rfl rfl rfl ?_
    refine x_getR (pc' := 32) rfl rfl rfl (by decide) rfl (by decide) rfl rfl ?_
    refine x_int (pc' := 33) (v := nI 0) rfl rfl rfl ?_
    refine x_iald (pc' := 34) rfl rfl (by decide) rfl (by decide) (show _ < 560 by omega) ?_
    refine x_top (hR.1.1.trans hW.enw) ?_
    refine y_imul (pc' := 35) rfl rfl ?_
    refine y_ic_ge (pc' := 38) rfl rfl (by omega) (by omega) (fun c35 => ?_) (fun c35 => ?_)
    · refine x_iload (pc' := 102) rfl rfl rfl ?_
      refine x_int (pc' := 103) (v := (-1)) rfl rfl rfl ?_
      refine x_ic_ne (pc' := 106) rfl rfl (fun c103 => ?_) (fun c103 => ?_)
      · refine x_int (pc' := 112) (v := (-2)) rfl rfl rfl ?_
        refine x_iret rfl rfl ?_
        obtain rfl : i = 32 * nw T := by omega
        rw [fitF_0 hl _ _ _ (lnA_out (Nat.le_refl _))] at kE
        first
          | (rw [if_pos c103] at kE; rw [kE]; exact k1 D o)
          | (rw [if_neg c103] at kE; rw [kE]; exact k1 D o)
      · refine x_iload (pc' := 107) rfl rfl rfl ?_
        refine x_goto rfl ?_
        refine x_iret rfl rfl ?_
        obtain rfl : i = 32 * nw T := by omega
        rw [fitF_0 hl _ _ _ (lnA_out (Nat.le_refl _))] at kE
        first
          | (rw [if_pos c103] at kE; rw [kE]; exact k1 D o)
          | (rw [if_neg c103] at kE; rw [kE]; exact k1 D o)
    · exact absurd c35 (by omega)
  | succ f ih =>
    intro i D m a5 hf hm o hR kE
    refine x_iload (pc' := 26) rfl rfl rfl ?_
    refine x_int (pc' := 28) (v := nI 32) rfl rfl rfl ?_
    refine x_aload (pc' := 29) rfl rfl rfl ?_
    refine x_getR (pc' := 32) rfl rfl rfl (by decide) rfl (by decide) rfl rfl ?_
    refine x_int (pc' := 33) (v := nI 0) rfl rfl rfl ?_
    refine x_iald (pc' := 34) rfl rfl (by decide) rfl (by decide) (show _ < 560 by omega) ?_
    refine x_top (hR.1.1.trans hW.enw) ?_
    refine y_imul (pc' := 35) rfl rfl ?_
    refine y_ic_ge (pc' := 38) rfl rfl (by omega) (by omega) (fun c35 => ?_) (fun c35 => ?_)
    · exact absurd c35 (by omega)
    · refine x_iload (pc' := 40) rfl rfl rfl ?_
      refine x_int (pc' := 42) (v := nI 8) rfl rfl rfl ?_
      refine y_idiv (pc' := 43) rfl rfl (by omega) (by omega) (by omega) ?_
      refine x_int (pc' := 44) (v := nI 4) rfl rfl rfl ?_
      refine y_irem (pc' := 45) rfl rfl (by omega) (by omega) (by omega) ?_
      refine x_istore (pc' := 47) (lv' := [_, _, _, _, _, _]) rfl rfl (by decide) rfl ?_
      refine x_aload (pc' := 48) rfl rfl rfl ?_
      refine x_iload (pc' := 50) rfl rfl rfl ?_
      refine x_iload (pc' := 52) rfl rfl rfl ?_
      refine x_int (pc' := 54) (v := nI 8) rfl rfl rfl ?_
      refine y_irem (pc' := 55) rfl rfl (by omega) (by omega) (by omega) ?_
      refine x_callV (pc' := 58) (d1 := 3) (Bs := [_, _]) rfl rfl rfl rfl rfl rfl rfl (Nat.le_of_ble_eq_true rfl) ⟨rfl, rfl⟩ (by decide) rfl (by omega) ?_
      refine w_X10_isPage hW hR (fun b q hb hq e1 e2 => ?_) (fun hn => ?_)
      · have h4 := hW.nbl
        have h8 := hW.lngl hb
        have e1 := nI_inj (by omega) (by omega) e1
        have e2 := nI_inj (by omega) (by omega) e2
        subst e1; subst e2
        refine ⟨rfl, ?_⟩
        refine x_if_eq (pc' := 61) rfl rfl (fun c58 => absurd c58 (by decide)) (fun _ => ?_)
        refine x_aload (pc' := 62) rfl rfl rfl ?_
        refine x_iload (pc' := 64) rfl rfl rfl ?_
        refine x_int (pc' := 66) (v := nI 32) rfl rfl rfl ?_
        refine y_idiv (pc' := 67) rfl rfl (by omega) (by omega) (by omega) ?_
        refine x_iload (pc' := 69) rfl rfl rfl ?_
        refine x_iload (pc' := 71) rfl rfl rfl ?_
        refine x_int (pc' := 73) (v := nI 8) rfl rfl rfl ?_
        refine y_irem (pc' := 74) rfl rfl (by omega) (by omega) (by omega) ?_
        refine x_callV (pc' := 77) (d1 := 5) (Bs := [_, _, _]) rfl rfl rfl rfl rfl rfl rfl (Nat.le_of_ble_eq_true rfl) ⟨rfl, rfl⟩ (by decide) rfl (by omega) ?_
        refine w_X10_lineOf hW hR (show i / 32 < nw T by omega) hb hq (fun D1 o1 => ?_)
        refine ⟨rfl, ?_⟩
        rw [← lnA_1 (show i / 32 < nw T by omega) hb hq]
        refine x_iload (pc' := 78) rfl rfl rfl ?_
        refine x_ic_eq (pc' := 81) rfl rfl (fun c78 => ?_) (fun c78 => ?_)
        · refine x_iload (pc' := 85) rfl rfl rfl ?_
          refine x_iload (pc' := 86) rfl rfl rfl ?_
          refine x_ic_ne (pc' := 89) rfl rfl (fun c86 => ?_) (fun c86 => ?_)
          · refine y_inc (pc' := 95) (lv' := [_, _, _, _, _, _]) rfl rfl rfl (by decide) rfl ?_
            refine y_inc (pc' := 98) (lv' := [_, _, _, _, _, _]) rfl rfl rfl (by decide) rfl ?_
            refine x_goto rfl ?_
            have e3 : 384 - i = (384 - (i + 1)) + 1 := by omega
            rw [e3] at kE
            unfold fitF at kE
            first
              | (rw [if_pos c78, if_neg c86] at kE; exact ih (i + 1) D1 (m + 1) _ (by omega) (by omega) (o.tr o1) (OffL212.rn o1 hR) kE)
              | (rw [if_neg c78] at kE; exact ih (i + 1) D1 m _ (by omega) (by omega) (o.tr o1) (OffL212.rn o1 hR) kE)
              | (rw [eA, if_neg (toI_no hl)] at kE; exact ih (i + 1) D m _ (by omega) (by omega) o hR kE)
          · refine x_iload (pc' := 91) rfl rfl rfl ?_
            refine x_iret rfl rfl ?_
            have e3 : 384 - i = (384 - (i + 1)) + 1 := by omega
            rw [e3] at kE
            unfold fitF at kE
            rw [if_pos c78, if_pos c86] at kE
            rw [kE]
            exact k1 D1 (o.tr o1)
        · refine x_goto rfl ?_
          refine y_inc (pc' := 98) (lv' := [_, _, _, _, _, _]) rfl rfl rfl (by decide) rfl ?_
          refine x_goto rfl ?_
          have e3 : 384 - i = (384 - (i + 1)) + 1 := by omega
          rw [e3] at kE
          unfold fitF at kE
          first
            | (rw [if_pos c78, if_neg c86] at kE; exact ih (i + 1) D1 (m + 1) _ (by omega) (by omega) (o.tr o1) (OffL212.rn o1 hR) kE)
            | (rw [if_neg c78] at kE; exact ih (i + 1) D1 m _ (by omega) (by omega) (o.tr o1) (OffL212.rn o1 hR) kE)
            | (rw [eA, if_neg (toI_no hl)] at kE; exact ih (i + 1) D m _ (by omega) (by omega) o hR kE)
      · have eA : lnA T i = none := lnA_0 (fun h => hn ⟨_, _, h.2.1, h.2.2, rfl, rfl⟩)
        refine ⟨rfl, ?_⟩
        refine x_if_eq (pc' := 61) rfl rfl (fun _ => ?_) (fun c58 => absurd (by decide) c58)
        refine y_inc (pc' := 98) (lv' := [_, _, _, _, _, _]) rfl rfl rfl (by decide) rfl ?_
        refine x_goto rfl ?_
        have e3 : 384 - i = (384 - (i + 1)) + 1 := by omega
        rw [e3] at kE
        unfold fitF at kE
        first
          | (rw [if_pos c78, if_neg c86] at kE; exact ih (i + 1) D1 (m + 1) _ (by omega) (by omega) (o.tr o1) (OffL212.rn o1 hR) kE)
          | (rw [if_neg c78] at kE; exact ih (i + 1) D1 m _ (by omega) (by omega) (o.tr o1) (OffL212.rn o1 hR) kE)
          | (rw [eA, if_neg (toI_no hl)] at kE; exact ih (i + 1) D m _ (by omega) (by omega) o hR kE)
set_option maxRecDepth 20000 in
set_option maxHeartbeats 1000000 in
theorem w_X10_fits {D : Nat → Nat → Int32} {L : Nat → Nat → Int64} {Q : bh_Q} {T : TW} (hW : WF T) (hR : Rn T (D 206)) {x k : Int32} (k1 : ∀ D1, OffM D D1 → Q (some (.int (fitsQ T x k))) (hp D1 L)) : bh_wc 6 m_X10_fits [.ref 205, .int x, .int k] (hp D L) Q := by
  refine x_start (lv0 := [_, _, _, _, _, _]) (Nat.le_of_ble_eq_true rfl) rfl ?_
  have h12 := hW.nwl
  refine x_iload (pc' := 1) rfl rfl rfl ?_
  refine x_i2l (pc' := 2) rfl rfl ?_
  refine x_long (pc' := 3) (v := (nI 0).toInt64) rfl rfl (by decide) ?_
  refine x_long (pc' := 6) (v := (nI 65535).toInt64) rfl rfl (by decide) ?_
  refine x_callS (pc' := 9) (d1 := 1) (As := [_, _, _]) rfl rfl rfl rfl (by decide) rfl rfl (Nat.le_of_ble_eq_true rfl) ⟨rfl, rfl⟩ (by decide) ?_
  refine w_X10_in (fun h6a h6b => ?_) (fun h6 => ?_)
  · obtain ⟨h6w, h6l, rfl⟩ := in_okL (n := 65535) (by decide) h6a h6b
    refine ⟨rfl, ?_⟩
    refine x_if_eq (pc' := 12) rfl rfl (fun c9 => absurd c9 (by decide)) (fun _ => ?_)
    refine x_iload (pc' := 13) rfl rfl rfl ?_
    refine x_int (pc' := 14) (v := (-1)) rfl rfl rfl ?_
    refine x_ic_ge (pc' := 17) rfl rfl (fun c14 => ?_) (fun c14 => ?_)
    · refine x_int (pc' := 20) (v := nI 0) rfl rfl rfl ?_
      refine x_istore (pc' := 21) (lv' := [_, _, _, _, _, _]) rfl rfl (by decide) rfl ?_
      refine x_int (pc' := 22) (v := nI 0) rfl rfl rfl ?_
      refine x_istore (pc' := 24) (lv' := [_, _, _, _, _, _]) rfl rfl (by decide) rfl ?_
      simp (disch := first | assumption | omega) only [fitsQ, onN_1, onN_0, onP_1, onP_0, ↓reduceIte] at k1
      rw [if_neg (Int32.not_lt.mpr c14)] at k1
      exact l_X10_fits (d := 5) (Nat.le_refl _) hW h6l (fun D1 o1 => k1 D1 (OffL.m o1 (by decide))) (32 * nw T) 0 D 0 .null (Nat.zero_add _) (Nat.le_refl _) OffL.rf hR rfl
    · refine x_int (pc' := 18) (v := (-1)) rfl rfl rfl ?_
      refine x_iret rfl rfl ?_
      first
        | (simp (disch := first | assumption | omega) only [fitsQ, onN_1, onN_0, onP_1, onP_0, ↓reduceIte] at k1
           exact k1 D OffM.rf)
        | (simp (disch := first | assumption | omega) only [fitsQ, onN_1, onN_0, onP_1, onP_0, ↓reduceIte] at k1
           rw [if_pos (Int32.not_le.mp c14)] at k1
           exact k1 D OffM.rf)
  · have h6 := okN_inL (n := 65535) (by decide) h6
    refine ⟨rfl, ?_⟩
    refine x_if_eq (pc' := 12) rfl rfl (fun _ => ?_) (fun c9 => absurd (by decide) c9)
    refine x_int (pc' := 18) (v := (-1)) rfl rfl rfl ?_
    refine x_iret rfl rfl ?_
    first
      | (simp (disch := first | assumption | omega) only [fitsQ, onN_1, onN_0, onP_1, onP_0, ↓reduceIte] at k1
         exact k1 D OffM.rf)
      | (simp (disch := first | assumption | omega) only [fitsQ, onN_1, onN_0, onP_1, onP_0, ↓reduceIte] at k1
         rw [if_pos (Int32.not_le.mp c14)] at k1
         exact k1 D OffM.rf)
set_option maxRecDepth 20000 in
set_option maxHeartbeats 1000000 in
theorem w_X9_quarrel {D : Nat → Nat → Int32} {L : Nat → Nat → Int64} {Q : bh_Q} (hW : WF (tv D)) {x u y z : Int32} (k1 : ∀ D1, OffC D D1 → Q (some (.int (quarrelQ (tv D) x u y z))) (hp D1 L)) : bh_wc 5 m_X9_quarrel [.ref 0, .int x, .int u, .int y, .int z] (hp D L) Q := by
  refine x_start (lv0 := [_, _, _, _, _, _, _]) (Nat.le_of_ble_eq_true rfl) rfl ?_
  have h12 := hW.nwl
  refine x_aload (pc' := 1) rfl rfl rfl ?_
  refine x_getR (pc' := 4) rfl rfl rfl (by decide) rfl (by decide) rfl rfl ?_
  refine x_iload (pc' := 5) rfl rfl rfl ?_
  refine x_callV (pc' := 8) (d1 := 1) (Bs := [_]) rfl rfl rfl rfl rfl rfl rfl (Nat.le_of_ble_eq_true rfl) ⟨rfl, rfl⟩ (by decide) rfl (by decide) ?_
  refine w_X7_isWriter hW (fun h5w h5l e => ?_) (fun h5 => ?_)
  · subst e
    refine ⟨rfl, ?_⟩
    refine x_if_eq (pc' := 11) rfl rfl (fun c8 => absurd c8 (by decide)) (fun _ => ?_)
    refine x_aload (pc' := 12) rfl rfl rfl ?_
    refine x_getR (pc' := 15) rfl rfl rfl (by decide) rfl (by decide) rfl rfl ?_
    refine x_iload (pc' := 16) rfl rfl rfl ?_
    refine x_callV (pc' := 19) (d1 := 1) (Bs := [_]) rfl rfl rfl rfl rfl rfl rfl (Nat.le_of_ble_eq_true rfl) ⟨rfl, rfl⟩ (by decide) rfl (by decide) ?_
    refine w_X7_isWriter hW (fun h16w h16l e => ?_) (fun h16 => ?_)
    · subst e
      refine ⟨rfl, ?_⟩
      refine x_if_eq (pc' := 22) rfl rfl (fun c19 => absurd c19 (by decide)) (fun _ => ?_)
      refine x_aload (pc' := 23) rfl rfl rfl ?_
      refine x_getR (pc' := 26) rfl rfl rfl (by decide) rfl (by decide) rfl rfl ?_
      refine x_iload (pc' := 27) rfl rfl rfl ?_
      refine x_iload (pc' := 29) rfl rfl rfl ?_
      refine x_callV (pc' := 32) (d1 := 2) (Bs := [_, _]) rfl rfl rfl rfl rfl rfl rfl (Nat.le_of_ble_eq_true rfl) ⟨rfl, rfl⟩ (by decide) rfl (by decide) ?_
      refine w_X7_isPage hW (fun b q hb hq e1 e2 => ?_) (fun hn => ?_)
      · subst e1; subst e2
        refine ⟨rfl, ?_⟩
        refine x_if_ne (pc' := 35) rfl rfl (fun _ => ?_) (fun c32 => absurd c32 (by decide))
        refine x_aload (pc' := 38) rfl rfl rfl ?_
        refine x_iload (pc' := 39) rfl rfl rfl ?_
        refine x_iload (pc' := 40) rfl rfl rfl ?_
        refine x_iload (pc' := 42) rfl rfl rfl ?_
        refine x_callV (pc' := 45) (d1 := 4) (Bs := [_, _, _]) rfl rfl rfl rfl rfl rfl rfl (Nat.le_of_ble_eq_true rfl) ⟨rfl, rfl⟩ (by decide) rfl (by decide) ?_
        refine w_X9_lineOf hW h5l hb hq (fun D1 o1 => ?_)
        refine ⟨rfl, ?_⟩
        refine x_istore (pc' := 47) (lv' := [_, _, _, _, _, _, _]) rfl rfl (by decide) rfl ?_
        refine x_aload (pc' := 48) rfl rfl rfl ?_
        refine x_iload (pc' := 49) rfl rfl rfl ?_
        refine x_iload (pc' := 50) rfl rfl rfl ?_
        refine x_iload (pc' := 52) rfl rfl rfl ?_
        refine x_callV (pc' := 55) (d1 := 4) (Bs := [_, _, _]) rfl rfl rfl rfl rfl rfl rfl (Nat.le_of_ble_eq_true rfl) ⟨rfl, rfl⟩ (by decide) rfl (by decide) ?_
        refine w_X9_lineOf (D := D1) (by rw [o1.tv]; exact hW) (by rw [o1.tv]; exact h16l) (by rw [o1.tv]; exact hb) (by rw [o1.tv]; exact hq) (fun D2 o2 => ?_)
        refine ⟨rfl, ?_⟩
        rw [o1.tv]
        refine x_istore (pc' := 57) (lv' := [_, _, _, _, _, _, _]) rfl rfl (by decide) rfl ?_
        refine x_iload (pc' := 59) rfl rfl rfl ?_
        refine x_int (pc' := 61) (v := (-2)) rfl rfl rfl ?_
        refine x_ic_eq (pc' := 64) rfl rfl (fun c61 => ?_) (fun c61 => ?_)
        · refine x_int (pc' := 73) (v := (-2)) rfl rfl rfl ?_
          refine x_goto rfl ?_
          refine x_iret rfl rfl ?_
          simp (disch := first | assumption | omega) only [quarrelQ, onN_1, onN_0, onP_1, onP_0, ↓reduceIte] at k1
          have oo := (o1.tr o2).c
          first
            | (have e : quarV (toI (lnO (tv D) h5w b q)) (toI (lnO (tv D) h16w b q)) = -2 := if_pos (Or.inl c61)
               rw [e] at k1
               exact k1 _ oo)
            | (have e : quarV (toI (lnO (tv D) h5w b q)) (toI (lnO (tv D) h16w b q)) = -2 := if_pos (Or.inr c68)
               rw [e] at k1
               exact k1 _ oo)
            | (have e : quarV (toI (lnO (tv D) h5w b q)) (toI (lnO (tv D) h16w b q)) = _ := if_neg (fun h => h.elim c61 c68)
               rw [e] at k1
               exact k1 _ oo)
        · refine x_iload (pc' := 66) rfl rfl rfl ?_
          refine x_int (pc' := 68) (v := (-2)) rfl rfl rfl ?_
          refine x_ic_ne (pc' := 71) rfl rfl (fun c68 => ?_) (fun c68 => ?_)
          · refine x_iload (pc' := 78) rfl rfl rfl ?_
            refine x_iload (pc' := 80) rfl rfl rfl ?_
            refine x_ixor (pc' := 81) rfl rfl ?_
            refine x_iret rfl rfl ?_
            simp (disch := first | assumption | omega) only [quarrelQ, onN_1, onN_0, onP_1, onP_0, ↓reduceIte] at k1
            have oo := (o1.tr o2).c
            first
              | (have e : quarV (toI (lnO (tv D) h5w b q)) (toI (lnO (tv D) h16w b q)) = -2 := if_pos (Or.inl c61)
                 rw [e] at k1
                 exact k1 _ oo)
              | (have e : quarV (toI (lnO (tv D) h5w b q)) (toI (lnO (tv D) h16w b q)) = -2 := if_pos (Or.inr c68)
                 rw [e] at k1
                 exact k1 _ oo)
              | (have e : quarV (toI (lnO (tv D) h5w b q)) (toI (lnO (tv D) h16w b q)) = _ := if_neg (fun h => h.elim c61 c68)
                 rw [e] at k1
                 exact k1 _ oo)
          · refine x_int (pc' := 73) (v := (-2)) rfl rfl rfl ?_
            refine x_goto rfl ?_
            refine x_iret rfl rfl ?_
            simp (disch := first | assumption | omega) only [quarrelQ, onN_1, onN_0, onP_1, onP_0, ↓reduceIte] at k1
            have oo := (o1.tr o2).c
            first
              | (have e : quarV (toI (lnO (tv D) h5w b q)) (toI (lnO (tv D) h16w b q)) = -2 := if_pos (Or.inl c61)
                 rw [e] at k1
                 exact k1 _ oo)
              | (have e : quarV (toI (lnO (tv D) h5w b q)) (toI (lnO (tv D) h16w b q)) = -2 := if_pos (Or.inr c68)
                 rw [e] at k1
                 exact k1 _ oo)
              | (have e : quarV (toI (lnO (tv D) h5w b q)) (toI (lnO (tv D) h16w b q)) = _ := if_neg (fun h => h.elim c61 c68)
                 rw [e] at k1
                 exact k1 _ oo)
      · refine ⟨rfl, ?_⟩
        refine x_if_ne (pc' := 35) rfl rfl (fun c32 => absurd (by decide) c32) (fun _ => ?_)
        refine x_int (pc' := 36) (v := (-1)) rfl rfl rfl ?_
        refine x_iret rfl rfl ?_
        simp (disch := first | assumption | omega) only [quarrelQ, onN_1, onN_0, onP_1, onP_0, ↓reduceIte] at k1
        exact k1 D OffC.rf
    · refine ⟨rfl, ?_⟩
      refine x_if_eq (pc' := 22) rfl rfl (fun _ => ?_) (fun c19 => absurd (by decide) c19)
      refine x_int (pc' := 36) (v := (-1)) rfl rfl rfl ?_
      refine x_iret rfl rfl ?_
      simp (disch := first | assumption | omega) only [quarrelQ, onN_1, onN_0, onP_1, onP_0, ↓reduceIte] at k1
      exact k1 D OffC.rf
  · refine ⟨rfl, ?_⟩
    refine x_if_eq (pc' := 11) rfl rfl (fun _ => ?_) (fun c8 => absurd (by decide) c8)
    refine x_int (pc' := 36) (v := (-1)) rfl rfl rfl ?_
    refine x_iret rfl rfl ?_
    simp (disch := first | assumption | omega) only [quarrelQ, onN_1, onN_0, onP_1, onP_0, ↓reduceIte] at k1
    exact k1 D OffC.rf
set_option maxRecDepth 20000 in
set_option maxHeartbeats 1000000 in
theorem w_X10_quarrel {D : Nat → Nat → Int32} {L : Nat → Nat → Int64} {Q : bh_Q} {T : TW} (hW : WF T) (hR : Rn T (D 206)) {x u y z : Int32} (k1 : ∀ D1, OffM D D1 → Q (some (.int (quarrelQ T x u y z))) (hp D1 L)) : bh_wc 6 m_X10_quarrel [.ref 205, .int x, .int u, .int y, .int z] (hp D L) Q := by
  refine x_start (lv0 := [_, _, _, _, _, _, _]) (Nat.le_of_ble_eq_true rfl) rfl ?_
  have h12 := hW.nwl
  refine x_aload (pc' := 1) rfl rfl rfl ?_
  refine x_iload (pc' := 2) rfl rfl rfl ?_
  refine x_callV (pc' := 5) (d1 := 2) (Bs := [_]) rfl rfl rfl rfl rfl rfl rfl (Nat.le_of_ble_eq_true rfl) ⟨rfl, rfl⟩ (by decide) rfl (by decide) ?_
  refine w_X10_isWriter hW hR (fun h2w h2l e => ?_) (fun h2 => ?_)
  · subst e
    refine ⟨rfl, ?_⟩
    refine x_if_eq (pc' := 8) rfl rfl (fun c5 => absurd c5 (by decide)) (fun _ => ?_)
    refine x_aload (pc' := 9) rfl rfl rfl ?_
    refine x_iload (pc' := 10) rfl rfl rfl ?_
    refine x_callV (pc' := 13) (d1 := 2) (Bs := [_]) rfl rfl rfl rfl rfl rfl rfl (Nat.le_of_ble_eq_true rfl) ⟨rfl, rfl⟩ (by decide) rfl (by decide) ?_
    refine w_X10_isWriter hW hR (fun h10w h10l e => ?_) (fun h10 => ?_)
    · subst e
      refine ⟨rfl, ?_⟩
      refine x_if_eq (pc' := 16) rfl rfl (fun c13 => absurd c13 (by decide)) (fun _ => ?_)
      refine x_aload (pc' := 17) rfl rfl rfl ?_
      refine x_iload (pc' := 18) rfl rfl rfl ?_
      refine x_iload (pc' := 20) rfl rfl rfl ?_
      refine x_callV (pc' := 23) (d1 := 3) (Bs := [_, _]) rfl rfl rfl rfl rfl rfl rfl (Nat.le_of_ble_eq_true rfl) ⟨rfl, rfl⟩ (by decide) rfl (by decide) ?_
      refine w_X10_isPage hW hR (fun b q hb hq e1 e2 => ?_) (fun hn => ?_)
      · subst e1; subst e2
        refine ⟨rfl, ?_⟩
        refine x_if_ne (pc' := 26) rfl rfl (fun _ => ?_) (fun c23 => absurd c23 (by decide))
        refine x_aload (pc' := 29) rfl rfl rfl ?_
        refine x_iload (pc' := 30) rfl rfl rfl ?_
        refine x_iload (pc' := 31) rfl rfl rfl ?_
        refine x_iload (pc' := 33) rfl rfl rfl ?_
        refine x_callV (pc' := 36) (d1 := 5) (Bs := [_, _, _]) rfl rfl rfl rfl rfl rfl rfl (Nat.le_of_ble_eq_true rfl) ⟨rfl, rfl⟩ (by decide) rfl (by decide) ?_
        refine w_X10_lineOf hW hR h2l hb hq (fun D1 o1 => ?_)
        refine ⟨rfl, ?_⟩
        refine x_istore (pc' := 38) (lv' := [_, _, _, _, _, _, _]) rfl rfl (by decide) rfl ?_
        refine x_aload (pc' := 39) rfl rfl rfl ?_
        refine x_iload (pc' := 40) rfl rfl rfl ?_
        refine x_iload (pc' := 41) rfl rfl rfl ?_
        refine x_iload (pc' := 43) rfl rfl rfl ?_
        refine x_callV (pc' := 46) (d1 := 5) (Bs := [_, _, _]) rfl rfl rfl rfl rfl rfl rfl (Nat.le_of_ble_eq_true rfl) ⟨rfl, rfl⟩ (by decide) rfl (by decide) ?_
        refine w_X10_lineOf (D := D1) hW (OffL212.rn o1 hR) h10l hb hq (fun D2 o2 => ?_)
        refine ⟨rfl, ?_⟩
        refine x_istore (pc' := 48) (lv' := [_, _, _, _, _, _, _]) rfl rfl (by decide) rfl ?_
        refine x_iload (pc' := 50) rfl rfl rfl ?_
        refine x_int (pc' := 52) (v := (-2)) rfl rfl rfl ?_
        refine x_ic_eq (pc' := 55) rfl rfl (fun c52 => ?_) (fun c52 => ?_)
        · refine x_int (pc' := 64) (v := (-2)) rfl rfl rfl ?_
          refine x_goto rfl ?_
          refine x_iret rfl rfl ?_
          simp (disch := first | assumption | omega) only [quarrelQ, onN_1, onN_0, onP_1, onP_0, ↓reduceIte] at k1
          have oo := OffL.m (OffL.tr o1 o2) (by decide)
          first
            | (have e : quarV (toI (lnO T h2w b q)) (toI (lnO T h10w b q)) = -2 := if_pos (Or.inl c52)
               rw [e] at k1
               exact k1 _ oo)
            | (have e : quarV (toI (lnO T h2w b q)) (toI (lnO T h10w b q)) = -2 := if_pos (Or.inr c59)
               rw [e] at k1
               exact k1 _ oo)
            | (have e : quarV (toI (lnO T h2w b q)) (toI (lnO T h10w b q)) = _ := if_neg (fun h => h.elim c52 c59)
               rw [e] at k1
               exact k1 _ oo)
        · refine x_iload (pc' := 57) rfl rfl rfl ?_
          refine x_int (pc' := 59) (v := (-2)) rfl rfl rfl ?_
          refine x_ic_ne (pc' := 62) rfl rfl (fun c59 => ?_) (fun c59 => ?_)
          · refine x_iload (pc' := 69) rfl rfl rfl ?_
            refine x_iload (pc' := 71) rfl rfl rfl ?_
            refine x_ixor (pc' := 72) rfl rfl ?_
            refine x_iret rfl rfl ?_
            simp (disch := first | assumption | omega) only [quarrelQ, onN_1, onN_0, onP_1, onP_0, ↓reduceIte] at k1
            have oo := OffL.m (OffL.tr o1 o2) (by decide)
            first
              | (have e : quarV (toI (lnO T h2w b q)) (toI (lnO T h10w b q)) = -2 := if_pos (Or.inl c52)
                 rw [e] at k1
                 exact k1 _ oo)
              | (have e : quarV (toI (lnO T h2w b q)) (toI (lnO T h10w b q)) = -2 := if_pos (Or.inr c59)
                 rw [e] at k1
                 exact k1 _ oo)
              | (have e : quarV (toI (lnO T h2w b q)) (toI (lnO T h10w b q)) = _ := if_neg (fun h => h.elim c52 c59)
                 rw [e] at k1
                 exact k1 _ oo)
          · refine x_int (pc' := 64) (v := (-2)) rfl rfl rfl ?_
            refine x_goto rfl ?_
            refine x_iret rfl rfl ?_
            simp (disch := first | assumption | omega) only [quarrelQ, onN_1, onN_0, onP_1, onP_0, ↓reduceIte] at k1
            have oo := OffL.m (OffL.tr o1 o2) (by decide)
            first
              | (have e : quarV (toI (lnO T h2w b q)) (toI (lnO T h10w b q)) = -2 := if_pos (Or.inl c52)
                 rw [e] at k1
                 exact k1 _ oo)
              | (have e : quarV (toI (lnO T h2w b q)) (toI (lnO T h10w b q)) = -2 := if_pos (Or.inr c59)
                 rw [e] at k1
                 exact k1 _ oo)
              | (have e : quarV (toI (lnO T h2w b q)) (toI (lnO T h10w b q)) = _ := if_neg (fun h => h.elim c52 c59)
                 rw [e] at k1
                 exact k1 _ oo)
      · refine ⟨rfl, ?_⟩
        refine x_if_ne (pc' := 26) rfl rfl (fun c23 => absurd (by decide) c23) (fun _ => ?_)
        refine x_int (pc' := 27) (v := (-1)) rfl rfl rfl ?_
        refine x_iret rfl rfl ?_
        simp (disch := first | assumption | omega) only [quarrelQ, onN_1, onN_0, onP_1, onP_0, ↓reduceIte] at k1
        exact k1 D OffM.rf
    · refine ⟨rfl, ?_⟩
      refine x_if_eq (pc' := 16) rfl rfl (fun _ => ?_) (fun c13 => absurd (by decide) c13)
      refine x_int (pc' := 27) (v := (-1)) rfl rfl rfl ?_
      refine x_iret rfl rfl ?_
      simp (disch := first | assumption | omega) only [quarrelQ, onN_1, onN_0, onP_1, onP_0, ↓reduceIte] at k1
      exact k1 D OffM.rf
  · refine ⟨rfl, ?_⟩
    refine x_if_eq (pc' := 8) rfl rfl (fun _ => ?_) (fun c5 => absurd (by decide) c5)
    refine x_int (pc' := 27) (v := (-1)) rfl rfl rfl ?_
    refine x_iret rfl rfl ?_
    simp (disch := first | assumption | omega) only [quarrelQ, onN_1, onN_0, onP_1, onP_0, ↓reduceIte] at k1
    exact k1 D OffM.rf
set_option maxRecDepth 20000 in
set_option maxHeartbeats 1000000 in
theorem l_X9_matches {L : Nat → Nat → Int64} {Q : bh_Q} {d : Nat} (hd : 5 ≤ d) {T : TW} (hW : WF T) {D0 : Nat → Nat → Int32} {w line : Nat} (hw : w < nw T) (k1 : ∀ D, OffH D0 D → Q (some (.long (matF T w line 32))) (hp D L)) : ∀ (f i : Nat) (D : Nat → Nat → Int32), i + f = 32 → (OffH D0 D) → (tv D = T) → bw m_X9_matches d Q 27 [.ref 0, .int (nI w), .int (nI line), .long (matF T w line i), .null, .int (nI i)] [] D L := by
  have h12 := hW.nwl
  intro f
  induction f with
  | zero =>
    intro i D hf o hT
    refine x_iload (pc' := 29) rfl rfl rfl ?_
    refine x_int (pc' := 31) (v := nI 32) rfl rfl rfl ?_
    refine y_ic_ge (pc' := 34) rfl rfl (by omega) (by omega) (fun c31 => ?_) (fun c31 => ?_)
    · refine x_lload (pc' := 63) rfl rfl rfl ?_
      refine x_lret rfl rfl ?_
      obtain rfl : i = 32 := by omega
      exact k1 D o
    · exact absurd c31 (by omega)
  | succ f ih =>
    intro i D hf o hT
    refine x_iload (pc' := 29) rfl rfl rfl ?_
    refine x_int (pc' := 31) (v := nI 32) rfl rfl rfl ?_
    refine y_ic_ge (pc' := 34) rfl rfl (by omega) (by omega) (fun c31 => ?_) (fun c31 => ?_)
    · exact absurd c31 (by omega)
    · refine x_aload (pc' := 35) rfl rfl rfl ?_
      refine x_int (pc' := 37) (v := nI 32) rfl rfl rfl ?_
      refine x_iload (pc' := 38) rfl rfl rfl ?_
      refine y_imul (pc' := 39) rfl rfl ?_
      refine x_iload (pc' := 41) rfl rfl rfl ?_
      refine y_iadd (pc' := 42) rfl rfl ?_
      refine x_callV (pc' := 45) (d1 := 5) (Bs := [_]) rfl rfl rfl rfl rfl rfl rfl (Nat.le_of_ble_eq_true rfl) ⟨rfl, rfl⟩ (by decide) rfl (by omega) ?_
      refine v_X9_lineAt hW hT (by omega) (fun D1 o1 hT1 => ?_)
      refine ⟨rfl, ?_⟩
      refine x_iload (pc' := 46) rfl rfl rfl ?_
      refine x_ic_ne (pc' := 49) rfl rfl (fun c46 => ?_) (fun c46 => ?_)
      · refine y_inc (pc' := 59) (lv' := [_, _, _, _, _, _]) rfl rfl rfl (by decide) rfl ?_
        refine x_goto rfl ?_
        first
          | (have e : matF T w line (i + 1) = _ := if_pos c46
             have hh := ih (i + 1) D1 (by omega) (o.tr o1) hT1
             rw [e] at hh
             exact hh)
          | (have e : matF T w line (i + 1) = _ := if_neg c46
             have hh := ih (i + 1) D1 (by omega) (o.tr o1) hT1
             rw [e] at hh
             exact hh)
      · refine x_lload (pc' := 50) rfl rfl rfl ?_
        refine x_long (pc' := 51) (v := (nI 1).toInt64) rfl rfl (by decide) ?_
        refine x_iload (pc' := 53) rfl rfl rfl ?_
        refine x_lshl (pc' := 54) rfl rfl ?_
        refine x_lor (pc' := 55) rfl rfl ?_
        refine x_lstore (pc' := 56) (lv' := [_, _, _, _, _, _]) rfl rfl (by decide) rfl ?_
        refine y_inc (pc' := 59) (lv' := [_, _, _, _, _, _]) rfl rfl rfl (by decide) rfl ?_
        refine x_goto rfl ?_
        first
          | (have e : matF T w line (i + 1) = _ := if_pos c46
             have hh := ih (i + 1) D1 (by omega) (o.tr o1) hT1
             rw [e] at hh
             exact hh)
          | (have e : matF T w line (i + 1) = _ := if_neg c46
             have hh := ih (i + 1) D1 (by omega) (o.tr o1) hT1
             rw [e] at hh
             exact hh)
set_option maxRecDepth 20000 in
set_option maxHeartbeats 1000000 in
theorem w_X9_matches {D : Nat → Nat → Int32} {L : Nat → Nat → Int64} {Q : bh_Q} (hW : WF (tv D)) {x y : Int32} (k1 : ∀ D1, OffC D D1 → Q (some (.long (matchesQ (tv D) x y))) (hp D1 L)) : bh_wc 6 m_X9_matches [.ref 0, .int x, .int y] (hp D L) Q := by
  refine x_start (lv0 := [_, _, _, _, _, _]) (Nat.le_of_ble_eq_true rfl) rfl ?_
  have h12 := hW.nwl
  refine x_aload (pc' := 1) rfl rfl rfl ?_
  refine x_getR (pc' := 4) rfl rfl rfl (by decide) rfl (by decide) rfl rfl ?_
  refine x_iload (pc' := 5) rfl rfl rfl ?_
  refine x_callV (pc' := 8) (d1 := 1) (Bs := [_]) rfl rfl rfl rfl rfl rfl rfl (Nat.le_of_ble_eq_true rfl) ⟨rfl, rfl⟩ (by decide) rfl (by decide) ?_
  refine w_X7_isWriter hW (fun h5w h5l e => ?_) (fun h5 => ?_)
  · subst e
    refine ⟨rfl, ?_⟩
    refine x_if_eq (pc' := 11) rfl rfl (fun c8 => absurd c8 (by decide)) (fun _ => ?_)
    refine x_iload (pc' := 12) rfl rfl rfl ?_
    refine x_callS (pc' := 15) (d1 := 1) (As := [_]) rfl rfl rfl rfl (by decide) rfl rfl (Nat.le_of_ble_eq_true rfl) ⟨rfl, rfl⟩ (by decide) ?_
    refine w_X9_isRow (fun h12w h12l e => ?_) (fun h12 => ?_)
    · subst e
      refine ⟨rfl, ?_⟩
      refine x_if_ne (pc' := 18) rfl rfl (fun _ => ?_) (fun c15 => absurd c15 (by decide))
      refine x_long (pc' := 23) (v := (nI 0).toInt64) rfl rfl (by decide) ?_
      refine x_lstore (pc' := 24) (lv' := [_, _, _, _, _, _]) rfl rfl (by decide) rfl ?_
      refine x_int (pc' := 25) (v := nI 0) rfl rfl rfl ?_
      refine x_istore (pc' := 27) (lv' := [_, _, _, _, _, _]) rfl rfl (by decide) rfl ?_
      simp (disch := first | assumption | omega) only [matchesQ, onN_1, onN_0, onP_1, onP_0, ↓reduceIte] at k1
      exact l_X9_matches (d := 5) (Nat.le_refl _) hW h5l (fun D1 o1 => k1 D1 o1.c) 32 0 D rfl OffH.rf rfl
    · refine ⟨rfl, ?_⟩
      refine x_if_ne (pc' := 18) rfl rfl (fun c15 => absurd (by decide) c15) (fun _ => ?_)
      refine x_long (pc' := 21) (v := (-1 : Int32).toInt64) rfl rfl (by decide) ?_
      refine x_lret rfl rfl ?_
      simp (disch := first | assumption | omega) only [matchesQ, onN_1, onN_0, onP_1, onP_0, ↓reduceIte] at k1
      exact k1 D OffC.rf
  · refine ⟨rfl, ?_⟩
    refine x_if_eq (pc' := 11) rfl rfl (fun _ => ?_) (fun c8 => absurd (by decide) c8)
    refine x_long (pc' := 21) (v := (-1 : Int32).toInt64) rfl rfl (by decide) ?_
    refine x_lret rfl rfl ?_
    simp (disch := first | assumption | omega) only [matchesQ, onN_1, onN_0, onP_1, onP_0, ↓reduceIte] at k1
    exact k1 D OffC.rf
set_option maxRecDepth 20000 in
set_option maxHeartbeats 1000000 in
theorem l_X10_matches {L : Nat → Nat → Int64} {Q : bh_Q} {d : Nat} (hd : 5 ≤ d) {T : TW} (hW : WF T) {D0 : Nat → Nat → Int32} {w line : Nat} (hw : w < nw T) (hl : line < 65536) (k1 : ∀ D, OffL [212] D0 D → Q (some (.long (matF T w line 32))) (hp D L)) : ∀ (f i : Nat) (D : Nat → Nat → Int32), i + f = 32 → (OffL [212] D0 D) → (Rn T (D 206)) → bw m_X10_matches d Q 29 [.ref 205, .int (nI w), .int (nI line), .long (matF T w line i), .null, .int (nI i)] [] D L := by
  have h12 := hW.nwl
  intro f
  induction f with
  | zero =>
    intro i D hf o hR
    refine x_iload (pc' := 31) rfl rfl rfl ?_
    refine x_int (pc' := 33) (v := nI 32) rfl rfl rfl ?_
    refine y_ic_ge (pc' := 36) rfl rfl (by omega) (by omega) (fun c33 => ?_) (fun c33 => ?_)
    · refine x_lload (pc' := 86) rfl rfl rfl ?_
      refine x_lret rfl rfl ?_
      obtain rfl : i = 32 := by omega
      exact k1 D o
    · exact absurd c33 (by omega)
  | succ f ih =>
    intro i D hf o hR
    refine x_iload (pc' := 31) rfl rfl rfl ?_
    refine x_int (pc' := 33) (v := nI 32) rfl rfl rfl ?_
    refine y_ic_ge (pc' := 36) rfl rfl (by omega) (by omega) (fun c33 => ?_) (fun c33 => ?_)
    · exact absurd c33 (by omega)
    · refine x_aload (pc' := 37) rfl rfl rfl ?_
      refine x_iload (pc' := 39) rfl rfl rfl ?_
      refine x_int (pc' := 41) (v := nI 8) rfl rfl rfl ?_
      refine y_idiv (pc' := 42) rfl rfl (by omega) (by omega) (by omega) ?_
      refine x_iload (pc' := 44) rfl rfl rfl ?_
      refine x_int (pc' := 46) (v := nI 8) rfl rfl rfl ?_
      refine y_irem (pc' := 47) rfl rfl (by omega) (by omega) (by omega) ?_
      refine x_callV (pc' := 50) (d1 := 3) (Bs := [_, _]) rfl rfl rfl rfl rfl rfl rfl (Nat.le_of_ble_eq_true rfl) ⟨rfl, rfl⟩ (by decide) rfl (by omega) ?_
      refine w_X10_isPage hW hR (fun b q hb hq e1 e2 => ?_) (fun hn => ?_)
      · have h4 := hW.nbl
        have h8 := hW.lngl hb
        have e1 := nI_inj (by omega) (by omega) e1
        have e2 := nI_inj (by omega) (by omega) e2
        have eA : lnA T (32 * w + i) = lnO T w (i / 8) (i % 8) := by
          have a1 : (32 * w + i) / 32 = w := by omega
          have a2 : (32 * w + i) / 8 % 4 = i / 8 := by omega
          have a3 : (32 * w + i) % 8 = i % 8 := by omega
          rw [lnA_1 (by rw [a1]; exact hw) (by rw [a2, e1]; exact hb) (by rw [a2, a3, e1, e2]; exact hq), a1, a2, a3]
        subst e1; subst e2
        refine ⟨rfl, ?_⟩
        refine x_if_eq (pc' := 53) rfl rfl (fun c50 => absurd c50 (by decide)) (fun _ => ?_)
        refine x_aload (pc' := 54) rfl rfl rfl ?_
        refine x_iload (pc' := 55) rfl rfl rfl ?_
        refine x_iload (pc' := 57) rfl rfl rfl ?_
        refine x_int (pc' := 59) (v := nI 8) rfl rfl rfl ?_
        refine y_idiv (pc' := 60) rfl rfl (by omega) (by omega) (by omega) ?_
        refine x_iload (pc' := 62) rfl rfl rfl ?_
        refine x_int (pc' := 64) (v := nI 8) rfl rfl rfl ?_
        refine y_irem (pc' := 65) rfl rfl (by omega) (by omega) (by omega) ?_
        refine x_callV (pc' := 68) (d1 := 5) (Bs := [_, _, _]) rfl rfl rfl rfl rfl rfl rfl (Nat.le_of_ble_eq_true rfl) ⟨rfl, rfl⟩ (by decide) rfl (by omega) ?_
        refine w_X10_lineOf hW hR hw hb hq (fun D1 o1 => ?_)
        refine ⟨rfl, ?_⟩
        rw [← eA]
        refine x_iload (pc' := 69) rfl rfl rfl ?_
        refine x_ic_ne (pc' := 72) rfl rfl (fun c69 => ?_) (fun c69 => ?_)
        · refine y_inc (pc' := 82) (lv' := [_, _, _, _, _, _]) rfl rfl rfl (by decide) rfl ?_
          refine x_goto rfl ?_
          first
            | (have e : matF T w line (i + 1) = _ := if_pos c69
               have hh := ih (i + 1) D1 (by omega) (o.tr o1) (OffL212.rn o1 hR)
               rw [e] at hh
               exact hh)
            | (have e : matF T w line (i + 1) = _ := if_neg c69
               have hh := ih (i + 1) D1 (by omega) (o.tr o1) (OffL212.rn o1 hR)
               rw [e] at hh
               exact hh)
            | (have e : matF T w line (i + 1) = matF T w line i := if_neg (by rw [eA]; exact toI_no hl)
               have hh := ih (i + 1) D (by omega) o hR
               rw [e] at hh
               exact hh)
        · refine x_lload (pc' := 73) rfl rfl rfl ?_
          refine x_long (pc' := 74) (v := (nI 1).toInt64) rfl rfl (by decide) ?_
          refine x_iload (pc' := 76) rfl rfl rfl ?_
          refine x_lshl (pc' := 77) rfl rfl ?_
          refine x_lor (pc' := 78) rfl rfl ?_
          refine x_lstore (pc' := 79) (lv' := [_, _, _, _, _, _]) rfl rfl (by decide) rfl ?_
          refine y_inc (pc' := 82) (lv' := [_, _, _, _, _, _]) rfl rfl rfl (by decide) rfl ?_
          refine x_goto rfl ?_
          first
            | (have e : matF T w line (i + 1) = _ := if_pos c69
               have hh := ih (i + 1) D1 (by omega) (o.tr o1) (OffL212.rn o1 hR)
               rw [e] at hh
               exact hh)
            | (have e : matF T w line (i + 1) = _ := if_neg c69
               have hh := ih (i + 1) D1 (by omega) (o.tr o1) (OffL212.rn o1 hR)
               rw [e] at hh
               exact hh)
            | (have e : matF T w line (i + 1) = matF T w line i := if_neg (by rw [eA]; exact toI_no hl)
               have hh := ih (i + 1) D (by omega) o hR
               rw [e] at hh
               exact hh)
      · have eA : lnA T (32 * w + i) = none := by
          refine lnA_0 (fun h => ?_)
          have a2 : (32 * w + i) / 8 % 4 = i / 8 := by omega
          have a3 : (32 * w + i) % 8 = i % 8 := by omega
          rw [a2, a3] at h
          exact hn ⟨_, _, h.2.1, h.2.2, rfl, rfl⟩
        refine ⟨rfl, ?_⟩
        refine x_if_eq (pc' := 53) rfl rfl (fun _ => ?_) (fun c50 => absurd (by decide) c50)
        refine y_inc (pc' := 82) (lv' := [_, _, _, _, _, _]) rfl rfl rfl (by decide) rfl ?_
        refine x_goto rfl ?_
        first
          | (have e : matF T w line (i + 1) = _ := if_pos c69
             have hh := ih (i + 1) D1 (by omega) (o.tr o1) (OffL212.rn o1 hR)
             rw [e] at hh
             exact hh)
          | (have e : matF T w line (i + 1) = _ := if_neg c69
             have hh := ih (i + 1) D1 (by omega) (o.tr o1) (OffL212.rn o1 hR)
             rw [e] at hh
             exact hh)
          | (have e : matF T w line (i + 1) = matF T w line i := if_neg (by rw [eA]; exact toI_no hl)
             have hh := ih (i + 1) D (by omega) o hR
             rw [e] at hh
             exact hh)
set_option maxRecDepth 20000 in
set_option maxHeartbeats 1000000 in
theorem w_X10_matches {D : Nat → Nat → Int32} {L : Nat → Nat → Int64} {Q : bh_Q} {T : TW} (hW : WF T) (hR : Rn T (D 206)) {x y : Int32} (k1 : ∀ D1, OffM D D1 → Q (some (.long (matchesQ T x y))) (hp D1 L)) : bh_wc 6 m_X10_matches [.ref 205, .int x, .int y] (hp D L) Q := by
  refine x_start (lv0 := [_, _, _, _, _, _]) (Nat.le_of_ble_eq_true rfl) rfl ?_
  have h12 := hW.nwl
  refine x_aload (pc' := 1) rfl rfl rfl ?_
  refine x_iload (pc' := 2) rfl rfl rfl ?_
  refine x_callV (pc' := 5) (d1 := 2) (Bs := [_]) rfl rfl rfl rfl rfl rfl rfl (Nat.le_of_ble_eq_true rfl) ⟨rfl, rfl⟩ (by decide) rfl (by decide) ?_
  refine w_X10_isWriter hW hR (fun h2w h2l e => ?_) (fun h2 => ?_)
  · subst e
    refine ⟨rfl, ?_⟩
    refine x_if_eq (pc' := 8) rfl rfl (fun c5 => absurd c5 (by decide)) (fun _ => ?_)
    refine x_iload (pc' := 9) rfl rfl rfl ?_
    refine x_i2l (pc' := 10) rfl rfl ?_
    refine x_long (pc' := 11) (v := (nI 0).toInt64) rfl rfl (by decide) ?_
    refine x_long (pc' := 14) (v := (nI 65535).toInt64) rfl rfl (by decide) ?_
    refine x_callS (pc' := 17) (d1 := 1) (As := [_, _, _]) rfl rfl rfl rfl (by decide) rfl rfl (Nat.le_of_ble_eq_true rfl) ⟨rfl, rfl⟩ (by decide) ?_
    refine w_X10_in (fun h14a h14b => ?_) (fun h14 => ?_)
    · obtain ⟨h14w, h14l, rfl⟩ := in_okL (n := 65535) (by decide) h14a h14b
      refine ⟨rfl, ?_⟩
      refine x_if_ne (pc' := 20) rfl rfl (fun _ => ?_) (fun c17 => absurd c17 (by decide))
      refine x_long (pc' := 25) (v := (nI 0).toInt64) rfl rfl (by decide) ?_
      refine x_lstore (pc' := 26) (lv' := [_, _, _, _, _, _]) rfl rfl (by decide) rfl ?_
      refine x_int (pc' := 27) (v := nI 0) rfl rfl rfl ?_
      refine x_istore (pc' := 29) (lv' := [_, _, _, _, _, _]) rfl rfl (by decide) rfl ?_
      simp (disch := first | assumption | omega) only [matchesQ, onN_1, onN_0, onP_1, onP_0, ↓reduceIte] at k1
      exact l_X10_matches (d := 5) (Nat.le_refl _) hW h2l h14l (fun D1 o1 => k1 D1 (OffL.m o1 (by decide))) 32 0 D rfl OffL.rf hR
    · have h14 := okN_inL (n := 65535) (by decide) h14
      refine ⟨rfl, ?_⟩
      refine x_if_ne (pc' := 20) rfl rfl (fun c17 => absurd (by decide) c17) (fun _ => ?_)
      refine x_long (pc' := 23) (v := (-1 : Int32).toInt64) rfl rfl (by decide) ?_
      refine x_lret rfl rfl ?_
      simp (disch := first | assumption | omega) only [matchesQ, onN_1, onN_0, onP_1, onP_0, ↓reduceIte] at k1
      exact k1 D OffM.rf
  · refine ⟨rfl, ?_⟩
    refine x_if_eq (pc' := 8) rfl rfl (fun _ => ?_) (fun c5 => absurd (by decide) c5)
    refine x_long (pc' := 23) (v := (-1 : Int32).toInt64) rfl rfl (by decide) ?_
    refine x_lret rfl rfl ?_
    simp (disch := first | assumption | omega) only [matchesQ, onN_1, onN_0, onP_1, onP_0, ↓reduceIte] at k1
    exact k1 D OffM.rf
theorem likS_0 {T : TW} {line c : Nat} {o : Option (Nat × Nat)} (h : lnA T c = none) : likS T line c o = o := by unfold likS; rw [h]
theorem likS_1 {T : TW} {line c r : Nat} {o : Option (Nat × Nat)} (h : lnA T c = some r) (h2 : pcn (r ^^^ line) < likW o) : likS T line c o = some (c, pcn (r ^^^ line)) := by
  unfold likS
  rw [h]
  cases o with
  | none => rfl
  | some p => exact if_pos h2
theorem likS_2 {T : TW} {line c r : Nat} {o : Option (Nat × Nat)} (h : lnA T c = some r) (h2 : likW o ≤ pcn (r ^^^ line)) : likS T line c o = o := by
  unfold likS
  rw [h]
  cases o with
  | none => have := pcn_le (r ^^^ line); exact absurd h2 (by show ¬ 17 ≤ _; omega)
  | some p => exact if_neg (Nat.not_lt.mpr h2)
def likO (o : Option (Nat × Nat)) : Prop := ∀ b f, o = some (b, f) → b < 384 ∧ f ≤ 16
theorem likO_W {o : Option (Nat × Nat)} (h : likO o) : likW o ≤ 17 := by
  cases o with
  | none => exact Nat.le_refl _
  | some p => have := (h p.1 p.2 rfl).2; show p.2 ≤ 17; omega
theorem xor16 {r s : Nat} (hr : r < 65536) (hs : s < 65536) : r ^^^ s < 65536 := Nat.xor_lt_two_pow (n := 16) hr hs
theorem likO_B {o : Option (Nat × Nat)} (h : likO o) : likB o = -2 ↔ o = none := by
  cases o with
  | none => exact ⟨fun _ => rfl, fun _ => rfl⟩
  | some p => exact ⟨fun e => absurd e (nI_m2 (by have := (h p.1 p.2 rfl).1; omega)), fun e => by cases e⟩
theorem likO_S {c n : Nat} (hc : c < 384) : likO (some (c, pcn n)) := fun b f e => by cases e; exact ⟨hc, pcn_le _⟩
set_option maxRecDepth 20000 in
set_option maxHeartbeats 1000000 in
theorem l_X9_likeliest {L : Nat → Nat → Int64} {Q : bh_Q} {d : Nat} (hd : 5 ≤ d) {T : TW} (hW : WF T) {D0 : Nat → Nat → Int32} {line : Nat} (hl : line < 65536) {v : Int32} {rz : Option (Nat × Nat)} (k1 : ∀ D, OffH D0 D → likO rz → ∀ a5 a6, bw m_X9_likeliest d Q 79 [.ref 0, .int (nI line), .int v, .int (likB rz), .int (nI (likW rz)), .int a5, a6] [] D L) : ∀ (f i : Nat) (D : Nat → Nat → Int32) (b : Option (Nat × Nat)) (a6 : Value), i + f = 384 → (likO b) → (OffH D0 D) → (tv D = T) → (likF T line (384 - i) i b = rz) → bw m_X9_likeliest d Q 28 [.ref 0, .int (nI line), .int v, .int (likB b), .int (nI (likW b)), .int (nI i), a6] [] D L := by
  intro f
  induction f with
  | zero =>
    intro i D b a6 hf hO o hT kE
    refine x_iload (pc' := 30) rfl rfl rfl ?_
    refine x_int (pc' := 33) (v := nI 384) rfl rfl rfl ?_
    refine y_ic_ge (pc' := 36) rfl rfl (by omega) (by omega) (fun c33 => ?_) (fun c33 => ?_)
    · obtain rfl : i = 384 := by omega
      have e4 : b = rz := kE
      subst e4
      exact k1 D o hO _ _
    · exact absurd c33 (by omega)
  | succ f ih =>
    intro i D b a6 hf hO o hT kE
    refine x_iload (pc' := 30) rfl rfl rfl ?_
    refine x_int (pc' := 33) (v := nI 384) rfl rfl rfl ?_
    refine y_ic_ge (pc' := 36) rfl rfl (by omega) (by omega) (fun c33 => ?_) (fun c33 => ?_)
    · exact absurd c33 (by omega)
    · refine x_aload (pc' := 37) rfl rfl rfl ?_
      refine x_iload (pc' := 39) rfl rfl rfl ?_
      refine x_callV (pc' := 42) (d1 := 5) (Bs := [_]) rfl rfl rfl rfl rfl rfl rfl (Nat.le_of_ble_eq_true rfl) ⟨rfl, rfl⟩ (by decide) rfl (by omega) ?_
      refine v_X9_lineAt hW hT (by omega) (fun D1 o1 hT1 => ?_)
      rcases hz : lnA T i with _ | r
      · refine ⟨rfl, ?_⟩
        refine x_istore (pc' := 44) (lv' := [_, _, _, _, _, _, _]) rfl rfl (by decide) rfl ?_
        refine x_iload (pc' := 46) rfl rfl rfl ?_
        refine x_if_lt (pc' := 49) rfl rfl (fun _ => ?_) (fun c46 => absurd (by decide) c46)
        refine y_inc (pc' := 76) (lv' := [_, _, _, _, _, _, _]) rfl rfl rfl (by decide) rfl ?_
        refine x_goto rfl ?_
        have e3 : 384 - i = (384 - (i + 1)) + 1 := by omega
        rw [e3] at kE
        unfold likF at kE
        first
          | (rw [likS_0 hz] at kE; exact ih (i + 1) D1 b _ (by omega) hO (o.tr o1) hT1 kE)
          | (rw [likS_1 hz c58] at kE; exact ih (i + 1) _ (some (i, pcn (r ^^^ line))) _ (by omega) (likO_S (by omega)) (o.tr o1) hT1 kE)
          | (rw [likS_2 hz c58] at kE; exact ih (i + 1) _ b _ (by omega) hO (o.tr o1) hT1 kE)
      · refine ⟨rfl, ?_⟩
        have hrl := lnA_lt hW hz
        refine x_istore (pc' := 44) (lv' := [_, _, _, _, _, _, _]) rfl rfl (by decide) rfl ?_
        refine x_iload (pc' := 46) rfl rfl rfl ?_
        refine y_if_lt (pc' := 49) rfl rfl (by omega) ?_
        refine x_iload (pc' := 51) rfl rfl rfl ?_
        refine x_iload (pc' := 52) rfl rfl rfl ?_
        refine y_ixor (pc' := 53) rfl rfl ?_
        refine x_callS (pc' := 56) (d1 := 1) (As := [_]) rfl rfl rfl rfl (by decide) rfl rfl (Nat.le_of_ble_eq_true rfl) ⟨rfl, rfl⟩ (by omega) ?_
        refine w_bitCount (xor16 hrl hl) ?_
        refine ⟨rfl, ?_⟩
        have hp16 := pcn_le (r ^^^ line)
        have hw17 := likO_W hO
        refine x_iload (pc' := 58) rfl rfl rfl ?_
        refine y_ic_ge (pc' := 61) rfl rfl (by omega) (by omega) (fun c58 => ?_) (fun c58 => ?_)
        · refine y_inc (pc' := 76) (lv' := [_, _, _, _, _, _, _]) rfl rfl rfl (by decide) rfl ?_
          refine x_goto rfl ?_
          have e3 : 384 - i = (384 - (i + 1)) + 1 := by omega
          rw [e3] at kE
          unfold likF at kE
          first
            | (rw [likS_0 hz] at kE; exact ih (i + 1) D1 b _ (by omega) hO (o.tr o1) hT1 kE)
            | (rw [likS_1 hz c58] at kE; exact ih (i + 1) _ (some (i, pcn (r ^^^ line))) _ (by omega) (likO_S (by omega)) (o.tr o1) hT1 kE)
            | (rw [likS_2 hz c58] at kE; exact ih (i + 1) _ b _ (by omega) hO (o.tr o1) hT1 kE)
        · refine x_iload (pc' := 63) rfl rfl rfl ?_
          refine x_istore (pc' := 64) (lv' := [_, _, _, _, _, _, _]) rfl rfl (by decide) rfl ?_
          refine x_iload (pc' := 66) rfl rfl rfl ?_
          refine x_iload (pc' := 67) rfl rfl rfl ?_
          refine y_ixor (pc' := 68) rfl rfl ?_
          refine x_callS (pc' := 71) (d1 := 1) (As := [_]) rfl rfl rfl rfl (by decide) rfl rfl (Nat.le_of_ble_eq_true rfl) ⟨rfl, rfl⟩ (by omega) ?_
          refine w_bitCount (xor16 hrl hl) ?_
          refine ⟨rfl, ?_⟩
          have hp16 := pcn_le (r ^^^ line)
          have hw17 := likO_W hO
          refine x_istore (pc' := 73) (lv' := [_, _, _, _, _, _, _]) rfl rfl (by decide) rfl ?_
          refine y_inc (pc' := 76) (lv' := [_, _, _, _, _, _, _]) rfl rfl rfl (by decide) rfl ?_
          refine x_goto rfl ?_
          have e3 : 384 - i = (384 - (i + 1)) + 1 := by omega
          rw [e3] at kE
          unfold likF at kE
          first
            | (rw [likS_0 hz] at kE; exact ih (i + 1) D1 b _ (by omega) hO (o.tr o1) hT1 kE)
            | (rw [likS_1 hz c58] at kE; exact ih (i + 1) _ (some (i, pcn (r ^^^ line))) _ (by omega) (likO_S (by omega)) (o.tr o1) hT1 kE)
            | (rw [likS_2 hz c58] at kE; exact ih (i + 1) _ b _ (by omega) hO (o.tr o1) hT1 kE)
set_option maxRecDepth 20000 in
set_option maxHeartbeats 1000000 in
theorem w_X9_likeliest {D : Nat → Nat → Int32} {L : Nat → Nat → Int64} {Q : bh_Q} (hW : WF (tv D)) {x v : Int32} (k1 : ∀ D1, OffC D D1 → Q (some (.int (likeliestQ (tv D) x v))) (hp D1 L)) : bh_wc 6 m_X9_likeliest [.ref 0, .int x, .int v] (hp D L) Q := by
  refine x_start (lv0 := [_, _, _, _, _, _, _]) (Nat.le_of_ble_eq_true rfl) rfl ?_
  have h12 := hW.nwl
  refine x_iload (pc' := 1) rfl rfl rfl ?_
  refine x_callS (pc' := 4) (d1 := 1) (As := [_]) rfl rfl rfl rfl (by decide) rfl rfl (Nat.le_of_ble_eq_true rfl) ⟨rfl, rfl⟩ (by decide) ?_
  refine w_X9_isRow (fun h1w h1l e => ?_) (fun h1 => ?_)
  · subst e
    refine ⟨rfl, ?_⟩
    refine x_if_eq (pc' := 7) rfl rfl (fun c4 => absurd c4 (by decide)) (fun _ => ?_)
    refine x_iload (pc' := 8) rfl rfl rfl ?_
    refine x_if_lt (pc' := 11) rfl rfl (fun c8 => ?_) (fun c8 => ?_)
    · have hv := okN_neg (n := 2) (by decide) c8
      refine x_int (pc' := 17) (v := (-1)) rfl rfl rfl ?_
      refine x_iret rfl rfl ?_
      simp (disch := first | assumption | omega) only [likeliestQ, onN_1, onN_0, onP_1, onP_0, ↓reduceIte] at k1
      exact k1 D OffC.rf
    · refine x_iload (pc' := 12) rfl rfl rfl ?_
      refine x_int (pc' := 13) (v := nI 1) rfl rfl rfl ?_
      refine x_ic_le (pc' := 16) rfl rfl (fun c13 => ?_) (fun c13 => ?_)
      · obtain ⟨m, hm, rfl⟩ := le_ofI (n := 1) c8 c13
        refine x_int (pc' := 20) (v := (-2)) rfl rfl rfl ?_
        refine x_istore (pc' := 21) (lv' := [_, _, _, _, _, _, _]) rfl rfl (by decide) rfl ?_
        refine x_int (pc' := 23) (v := nI 17) rfl rfl rfl ?_
        refine x_istore (pc' := 25) (lv' := [_, _, _, _, _, _, _]) rfl rfl (by decide) rfl ?_
        refine x_int (pc' := 26) (v := nI 0) rfl rfl rfl ?_
        refine x_istore (pc' := 28) (lv' := [_, _, _, _, _, _, _]) rfl rfl (by decide) rfl ?_
        simp (disch := first | assumption | omega) only [likeliestQ, onN_1, onN_0, onP_1, onP_0, ↓reduceIte] at k1
        refine l_X9_likeliest (d := 5) (Nat.le_refl _) hW h1l (rz := likF (tv D) h1w 384 0 none) (fun D1 o1 hO1 a5 a6 => ?_) 384 0 D none .null rfl (fun b f e => by cases e) OffH.rf rfl rfl
        refine x_iload (pc' := 80) rfl rfl rfl ?_
        refine x_int (pc' := 82) (v := (-2)) rfl rfl rfl ?_
        refine x_ic_eq (pc' := 85) rfl rfl (fun c82 => ?_) (fun c82 => ?_)
        · refine x_iload (pc' := 90) rfl rfl rfl ?_
          refine x_goto rfl ?_
          refine x_iret rfl rfl ?_
          have ek := k1 D1 o1.c
          generalize likF (tv D) h1w 384 0 none = r at ek hO1 c82
          first
            | (rw [(likO_B hO1).mp c82] at ek ⊢; split at ek <;> exact ek)
            | (rw [if_pos c86] at ek; exact ek)
            | (rw [if_neg c86] at ek; cases r with
               | none => exact absurd rfl c82
               | some p => exact ek)
        · refine x_iload (pc' := 86) rfl rfl rfl ?_
          refine y_if_ne (pc' := 89) rfl rfl (by omega) (fun c86 => ?_) (fun c86 => ?_)
          · refine x_iload (pc' := 95) rfl rfl rfl ?_
            refine x_iret rfl rfl ?_
            have ek := k1 D1 o1.c
            generalize likF (tv D) h1w 384 0 none = r at ek hO1 c82
            first
              | (rw [(likO_B hO1).mp c82] at ek ⊢; split at ek <;> exact ek)
              | (rw [if_pos c86] at ek; exact ek)
              | (rw [if_neg c86] at ek; cases r with
                 | none => exact absurd rfl c82
                 | some p => exact ek)
          · refine x_iload (pc' := 90) rfl rfl rfl ?_
            refine x_goto rfl ?_
            refine x_iret rfl rfl ?_
            have ek := k1 D1 o1.c
            generalize likF (tv D) h1w 384 0 none = r at ek hO1 c82
            first
              | (rw [(likO_B hO1).mp c82] at ek ⊢; split at ek <;> exact ek)
              | (rw [if_pos c86] at ek; exact ek)
              | (rw [if_neg c86] at ek; cases r with
                 | none => exact absurd rfl c82
                 | some p => exact ek)
      · have hv := okN_gt (n := 1) (by decide) (Int32.not_le.mp c13)
        refine x_int (pc' := 17) (v := (-1)) rfl rfl rfl ?_
        refine x_iret rfl rfl ?_
        simp (disch := first | assumption | omega) only [likeliestQ, onN_1, onN_0, onP_1, onP_0, ↓reduceIte] at k1
        exact k1 D OffC.rf
  · refine ⟨rfl, ?_⟩
    refine x_if_eq (pc' := 7) rfl rfl (fun _ => ?_) (fun c4 => absurd (by decide) c4)
    refine x_int (pc' := 17) (v := (-1)) rfl rfl rfl ?_
    refine x_iret rfl rfl ?_
    simp (disch := first | assumption | omega) only [likeliestQ, onN_1, onN_0, onP_1, onP_0, ↓reduceIte] at k1
    exact k1 D OffC.rf
set_option maxRecDepth 20000 in
set_option maxHeartbeats 1000000 in
theorem l_X10_likeliest {L : Nat → Nat → Int64} {Q : bh_Q} {d : Nat} (hd : 5 ≤ d) {T : TW} (hW : WF T) {D0 : Nat → Nat → Int32} {line : Nat} (hl : line < 65536) {v : Int32} {rz : Option (Nat × Nat)} (k1 : ∀ D, OffL [212] D0 D → ∀ a5 a6 a7 a8, bw m_X10_likeliest d Q 139 [.ref 205, .int (nI line), .int v, .int (likB rz), .int (likV rz), .int a5, a6, a7, a8] [] D L) : ∀ (f i : Nat) (D : Nat → Nat → Int32) (b : Option (Nat × Nat)) (a6 : Value) (a7 : Value) (a8 : Value), i + f = 32 * nw T → (likO b) → (OffL [212] D0 D) → (Rn T (D 206)) → (likF T line (384 - i) i b = rz) → bw m_X10_likeliest d Q 34 [.ref 205, .int (nI line), .int v, .int (likB b), .int (likV b), .int (nI i), a6, a7, a8] [] D L := by
  have h12 := hW.nwl
  intro f
  induction f with
  | zero =>
    intro i D b a6 a7 a8 hf hO o hR kE
    refine x_iload (pc' := 36) rfl rfl rfl ?_
    refine x_int (pc' := 38) (v := nI 32) rfl rfl rfl ?_
    refine x_aload (pc' := 39) rfl rfl rfl ?_
    refine x_getR (pc' := 42) rfl rfl rfl (by decide) rfl (by decide) rfl rfl ?_
    refine x_int (pc' := 43) (v := nI 0) rfl rfl rfl ?_
    refine x_iald (pc' := 44) rfl rfl (by decide) rfl (by decide) (show _ < 560 by omega) ?_
    refine x_top (hR.1.1.trans hW.enw) ?_
    refine y_imul (pc' := 45) rfl rfl ?_
    refine y_ic_ge (pc' := 48) rfl rfl (by omega) (by omega) (fun c45 => ?_) (fun c45 => ?_)
    · obtain rfl : i = 32 * nw T := by omega
      have e4 := kE
      rw [likF_0 _ _ _ (lnA_out (Nat.le_refl _))] at e4
      subst e4
      exact k1 D o _ _ _ _
    · exact absurd c45 (by omega)
  | succ f ih =>
    intro i D b a6 a7 a8 hf hO o hR kE
    refine x_iload (pc' := 36) rfl rfl rfl ?_
    refine x_int (pc' := 38) (v := nI 32) rfl rfl rfl ?_
    refine x_aload (pc' := 39) rfl rfl rfl ?_
    refine x_getR (pc' := 42) rfl rfl rfl (by decide) rfl (by decide) rfl rfl ?_
    refine x_int (pc' := 43) (v := nI 0) rfl rfl rfl ?_
    refine x_iald (pc' := 44) rfl rfl (by decide) rfl (by decide) (show _ < 560 by omega) ?_
    refine x_top (hR.1.1.trans hW.enw) ?_
    refine y_imul (pc' := 45) rfl rfl ?_
    refine y_ic_ge (pc' := 48) rfl rfl (by omega) (by omega) (fun c45 => ?_) (fun c45 => ?_)
    · exact absurd c45 (by omega)
    · refine x_iload (pc' := 50) rfl rfl rfl ?_
      refine x_int (pc' := 52) (v := nI 8) rfl rfl rfl ?_
      refine y_idiv (pc' := 53) rfl rfl (by omega) (by omega) (by omega) ?_
      refine x_int (pc' := 54) (v := nI 4) rfl rfl rfl ?_
      refine y_irem (pc' := 55) rfl rfl (by omega) (by omega) (by omega) ?_
      refine x_istore (pc' := 57) (lv' := [_, _, _, _, _, _, _, _, _]) rfl rfl (by decide) rfl ?_
      refine x_aload (pc' := 58) rfl rfl rfl ?_
      refine x_iload (pc' := 60) rfl rfl rfl ?_
      refine x_iload (pc' := 62) rfl rfl rfl ?_
      refine x_int (pc' := 64) (v := nI 8) rfl rfl rfl ?_
      refine y_irem (pc' := 65) rfl rfl (by omega) (by omega) (by omega) ?_
      refine x_callV (pc' := 68) (d1 := 3) (Bs := [_, _]) rfl rfl rfl rfl rfl rfl rfl (Nat.le_of_ble_eq_true rfl) ⟨rfl, rfl⟩ (by decide) rfl (by omega) ?_
      refine w_X10_isPage hW hR (fun b q hb hq e1 e2 => ?_) (fun hn => ?_)
      · have h4 := hW.nbl
        have h8 := hW.lngl hb
        have e1 := nI_inj (by omega) (by omega) e1
        have e2 := nI_inj (by omega) (by omega) e2
        subst e1; subst e2
        refine ⟨rfl, ?_⟩
        refine x_if_eq (pc' := 71) rfl rfl (fun c68 => absurd c68 (by decide)) (fun _ => ?_)
        refine x_aload (pc' := 72) rfl rfl rfl ?_
        refine x_iload (pc' := 74) rfl rfl rfl ?_
        refine x_int (pc' := 76) (v := nI 32) rfl rfl rfl ?_
        refine y_idiv (pc' := 77) rfl rfl (by omega) (by omega) (by omega) ?_
        refine x_iload (pc' := 79) rfl rfl rfl ?_
        refine x_iload (pc' := 81) rfl rfl rfl ?_
        refine x_int (pc' := 83) (v := nI 8) rfl rfl rfl ?_
        refine y_irem (pc' := 84) rfl rfl (by omega) (by omega) (by omega) ?_
        refine x_callV (pc' := 87) (d1 := 5) (Bs := [_, _, _]) rfl rfl rfl rfl rfl rfl rfl (Nat.le_of_ble_eq_true rfl) ⟨rfl, rfl⟩ (by decide) rfl (by omega) ?_
        refine w_X10_lineOf hW hR (show i / 32 < nw T by omega) hb hq (fun D1 o1 => ?_)
        rw [← lnA_1 (show i / 32 < nw T by omega) hb hq]
        rcases hz : lnA T i with _ | r
        · refine ⟨rfl, ?_⟩
          refine x_goto rfl ?_
          refine x_istore (pc' := 94) (lv' := [_, _, _, _, _, _, _, _, _]) rfl rfl (by decide) rfl ?_
          refine x_iload (pc' := 96) rfl rfl rfl ?_
          refine x_int (pc' := 98) (v := (-2)) rfl rfl rfl ?_
          refine x_ic_ne (pc' := 101) rfl rfl (fun c98 => absurd (by decide) c98) (fun _ => ?_)
          refine x_goto rfl ?_
          refine y_inc (pc' := 136) (lv' := [_, _, _, _, _, _, _, _, _]) rfl rfl rfl (by decide) rfl ?_
          refine x_goto rfl ?_
          have e3 : 384 - i = (384 - (i + 1)) + 1 := by omega
          rw [e3] at kE
          unfold likF at kE
          first
            | (rw [likS_0 eA] at kE; exact ih (i + 1) D b _ _ _ (by omega) hO o hR kE)
            | (rw [likS_0 hz] at kE; exact ih (i + 1) D1 b _ _ _ (by omega) hO (o.tr o1) (OffL212.rn o1 hR) kE)
            | (rw [likS_1 (o := some (pb, pf)) hz c123] at kE; exact ih (i + 1) _ (some (i, pcn (r ^^^ line))) _ _ _ (by omega) (likO_S (by omega)) (o.tr o1) (OffL212.rn o1 hR) kE)
            | (rw [likS_2 (o := some (pb, pf)) hz c123] at kE; exact ih (i + 1) _ (some (pb, pf)) _ _ _ (by omega) hO (o.tr o1) (OffL212.rn o1 hR) kE)
            | (have hb0 := (likO_B hO).mp c116; rw [hb0, likS_1 (o := none) hz (show _ < 17 by omega)] at kE; exact ih (i + 1) _ (some (i, pcn (r ^^^ line))) _ _ _ (by omega) (likO_S (by omega)) (o.tr o1) (OffL212.rn o1 hR) kE)
        · refine ⟨rfl, ?_⟩
          have hrl := lnA_lt hW hz
          refine x_goto rfl ?_
          refine x_istore (pc' := 94) (lv' := [_, _, _, _, _, _, _, _, _]) rfl rfl (by decide) rfl ?_
          refine x_iload (pc' := 96) rfl rfl rfl ?_
          refine x_int (pc' := 98) (v := (-2)) rfl rfl rfl ?_
          refine x_ic_ne (pc' := 101) rfl rfl (fun c98 => ?_) (fun c98 => ?_)
          · refine x_iload (pc' := 106) rfl rfl rfl ?_
            refine x_iload (pc' := 107) rfl rfl rfl ?_
            refine y_ixor (pc' := 108) rfl rfl ?_
            refine x_callS (pc' := 111) (d1 := 1) (As := [_]) rfl rfl rfl rfl (by decide) rfl rfl (Nat.le_of_ble_eq_true rfl) ⟨rfl, rfl⟩ (by omega) ?_
            refine w_bitCount (xor16 hrl hl) ?_
            refine ⟨rfl, ?_⟩
            have hp16 := pcn_le (r ^^^ line)
            have hw17 := likO_W hO
            refine x_istore (pc' := 113) (lv' := [_, _, _, _, _, _, _, _, _]) rfl rfl (by decide) rfl ?_
            refine x_iload (pc' := 114) rfl rfl rfl ?_
            refine x_int (pc' := 116) (v := (-2)) rfl rfl rfl ?_
            refine x_ic_eq (pc' := 119) rfl rfl (fun c116 => ?_) (fun c116 => ?_)
            · refine x_iload (pc' := 128) rfl rfl rfl ?_
              refine x_istore (pc' := 129) (lv' := [_, _, _, _, _, _, _, _, _]) rfl rfl (by decide) rfl ?_
              refine x_iload (pc' := 131) rfl rfl rfl ?_
              refine x_istore (pc' := 133) (lv' := [_, _, _, _, _, _, _, _, _]) rfl rfl (by decide) rfl ?_
              refine y_inc (pc' := 136) (lv' := [_, _, _, _, _, _, _, _, _]) rfl rfl rfl (by decide) rfl ?_
              refine x_goto rfl ?_
              have e3 : 384 - i = (384 - (i + 1)) + 1 := by omega
              rw [e3] at kE
              unfold likF at kE
              first
                | (rw [likS_0 eA] at kE; exact ih (i + 1) D b _ _ _ (by omega) hO o hR kE)
                | (rw [likS_0 hz] at kE; exact ih (i + 1) D1 b _ _ _ (by omega) hO (o.tr o1) (OffL212.rn o1 hR) kE)
                | (rw [likS_1 (o := some (pb, pf)) hz c123] at kE; exact ih (i + 1) _ (some (i, pcn (r ^^^ line))) _ _ _ (by omega) (likO_S (by omega)) (o.tr o1) (OffL212.rn o1 hR) kE)
                | (rw [likS_2 (o := some (pb, pf)) hz c123] at kE; exact ih (i + 1) _ (some (pb, pf)) _ _ _ (by omega) hO (o.tr o1) (OffL212.rn o1 hR) kE)
                | (have hb0 := (likO_B hO).mp c116; rw [hb0, likS_1 (o := none) hz (show _ < 17 by omega)] at kE; exact ih (i + 1) _ (some (i, pcn (r ^^^ line))) _ _ _ (by omega) (likO_S (by omega)) (o.tr o1) (OffL212.rn o1 hR) kE)
            · obtain ⟨pb, pf, hb⟩ : ∃ pb pf, b = some (pb, pf) := by cases b with | none => exact absurd rfl c116 | some p => exact ⟨p.1, p.2, rfl⟩
              subst hb
              have hf16 := (hO pb pf rfl).2
              refine x_iload (pc' := 121) rfl rfl rfl ?_
              refine x_iload (pc' := 123) rfl rfl rfl ?_
              refine y_ic_ge (pc' := 126) rfl rfl (by omega) (by omega) (fun c123 => ?_) (fun c123 => ?_)
              · refine y_inc (pc' := 136) (lv' := [_, _, _, _, _, _, _, _, _]) rfl rfl rfl (by decide) rfl ?_
                refine x_goto rfl ?_
                have e3 : 384 - i = (384 - (i + 1)) + 1 := by omega
                rw [e3] at kE
                unfold likF at kE
                first
                  | (rw [likS_0 eA] at kE; exact ih (i + 1) D b _ _ _ (by omega) hO o hR kE)
                  | (rw [likS_0 hz] at kE; exact ih (i + 1) D1 b _ _ _ (by omega) hO (o.tr o1) (OffL212.rn o1 hR) kE)
                  | (rw [likS_1 (o := some (pb, pf)) hz c123] at kE; exact ih (i + 1) _ (some (i, pcn (r ^^^ line))) _ _ _ (by omega) (likO_S (by omega)) (o.tr o1) (OffL212.rn o1 hR) kE)
                  | (rw [likS_2 (o := some (pb, pf)) hz c123] at kE; exact ih (i + 1) _ (some (pb, pf)) _ _ _ (by omega) hO (o.tr o1) (OffL212.rn o1 hR) kE)
                  | (have hb0 := (likO_B hO).mp c116; rw [hb0, likS_1 (o := none) hz (show _ < 17 by omega)] at kE; exact ih (i + 1) _ (some (i, pcn (r ^^^ line))) _ _ _ (by omega) (likO_S (by omega)) (o.tr o1) (OffL212.rn o1 hR) kE)
              · refine x_iload (pc' := 128) rfl rfl rfl ?_
                refine x_istore (pc' := 129) (lv' := [_, _, _, _, _, _, _, _, _]) rfl rfl (by decide) rfl ?_
                refine x_iload (pc' := 131) rfl rfl rfl ?_
                refine x_istore (pc' := 133) (lv' := [_, _, _, _, _, _, _, _, _]) rfl rfl (by decide) rfl ?_
                refine y_inc (pc' := 136) (lv' := [_, _, _, _, _, _, _, _, _]) rfl rfl rfl (by decide) rfl ?_
                refine x_goto rfl ?_
                have e3 : 384 - i = (384 - (i + 1)) + 1 := by omega
                rw [e3] at kE
                unfold likF at kE
                first
                  | (rw [likS_0 eA] at kE; exact ih (i + 1) D b _ _ _ (by omega) hO o hR kE)
                  | (rw [likS_0 hz] at kE; exact ih (i + 1) D1 b _ _ _ (by omega) hO (o.tr o1) (OffL212.rn o1 hR) kE)
                  | (rw [likS_1 (o := some (pb, pf)) hz c123] at kE; exact ih (i + 1) _ (some (i, pcn (r ^^^ line))) _ _ _ (by omega) (likO_S (by omega)) (o.tr o1) (OffL212.rn o1 hR) kE)
                  | (rw [likS_2 (o := some (pb, pf)) hz c123] at kE; exact ih (i + 1) _ (some (pb, pf)) _ _ _ (by omega) hO (o.tr o1) (OffL212.rn o1 hR) kE)
                  | (have hb0 := (likO_B hO).mp c116; rw [hb0, likS_1 (o := none) hz (show _ < 17 by omega)] at kE; exact ih (i + 1) _ (some (i, pcn (r ^^^ line))) _ _ _ (by omega) (likO_S (by omega)) (o.tr o1) (OffL212.rn o1 hR) kE)
          · exact absurd c98 (nI_m2 (by omega))
      · have eA : lnA T i = none := lnA_0 (fun h => hn ⟨_, _, h.2.1, h.2.2, rfl, rfl⟩)
        refine ⟨rfl, ?_⟩
        refine x_if_eq (pc' := 71) rfl rfl (fun _ => ?_) (fun c68 => absurd (by decide) c68)
        refine x_int (pc' := 92) (v := (-2)) rfl rfl rfl ?_
        refine x_istore (pc' := 94) (lv' := [_, _, _, _, _, _, _, _, _]) rfl rfl (by decide) rfl ?_
        refine x_iload (pc' := 96) rfl rfl rfl ?_
        refine x_int (pc' := 98) (v := (-2)) rfl rfl rfl ?_
        refine x_ic_ne (pc' := 101) rfl rfl (fun c98 => absurd (by decide) c98) (fun _ => ?_)
        refine x_goto rfl ?_
        refine y_inc (pc' := 136) (lv' := [_, _, _, _, _, _, _, _, _]) rfl rfl rfl (by decide) rfl ?_
        refine x_goto rfl ?_
        have e3 : 384 - i = (384 - (i + 1)) + 1 := by omega
        rw [e3] at kE
        unfold likF at kE
        first
          | (rw [likS_0 eA] at kE; exact ih (i + 1) D b _ _ _ (by omega) hO o hR kE)
          | (rw [likS_0 hz] at kE; exact ih (i + 1) D1 b _ _ _ (by omega) hO (o.tr o1) (OffL212.rn o1 hR) kE)
          | (rw [likS_1 (o := some (pb, pf)) hz c123] at kE; exact ih (i + 1) _ (some (i, pcn (r ^^^ line))) _ _ _ (by omega) (likO_S (by omega)) (o.tr o1) (OffL212.rn o1 hR) kE)
          | (rw [likS_2 (o := some (pb, pf)) hz c123] at kE; exact ih (i + 1) _ (some (pb, pf)) _ _ _ (by omega) hO (o.tr o1) (OffL212.rn o1 hR) kE)
          | (have hb0 := (likO_B hO).mp c116; rw [hb0, likS_1 (o := none) hz (show _ < 17 by omega)] at kE; exact ih (i + 1) _ (some (i, pcn (r ^^^ line))) _ _ _ (by omega) (likO_S (by omega)) (o.tr o1) (OffL212.rn o1 hR) kE)
set_option maxRecDepth 20000 in
set_option maxHeartbeats 1000000 in
theorem w_X10_likeliest {D : Nat → Nat → Int32} {L : Nat → Nat → Int64} {Q : bh_Q} {T : TW} (hW : WF T) (hR : Rn T (D 206)) {x v : Int32} (k1 : ∀ D1, OffM D D1 → Q (some (.int (likeliestQ T x v))) (hp D1 L)) : bh_wc 6 m_X10_likeliest [.ref 205, .int x, .int v] (hp D L) Q := by
  refine x_start (lv0 := [_, _, _, _, _, _, _, _, _]) (Nat.le_of_ble_eq_true rfl) rfl ?_
  have h12 := hW.nwl
  refine x_iload (pc' := 1) rfl rfl rfl ?_
  refine x_i2l (pc' := 2) rfl rfl ?_
  refine x_long (pc' := 3) (v := (nI 0).toInt64) rfl rfl (by decide) ?_
  refine x_long (pc' := 6) (v := (nI 65535).toInt64) rfl rfl (by decide) ?_
  refine x_callS (pc' := 9) (d1 := 1) (As := [_, _, _]) rfl rfl rfl rfl (by decide) rfl rfl (Nat.le_of_ble_eq_true rfl) ⟨rfl, rfl⟩ (by decide) ?_
  refine w_X10_in (fun h6a h6b => ?_) (fun h6 => ?_)
  · obtain ⟨h6w, h6l, rfl⟩ := in_okL (n := 65535) (by decide) h6a h6b
    refine ⟨rfl, ?_⟩
    refine x_if_eq (pc' := 12) rfl rfl (fun c9 => absurd c9 (by decide)) (fun _ => ?_)
    refine x_iload (pc' := 13) rfl rfl rfl ?_
    refine x_i2l (pc' := 14) rfl rfl ?_
    refine x_long (pc' := 15) (v := (nI 0).toInt64) rfl rfl (by decide) ?_
    refine x_long (pc' := 16) (v := (nI 1).toInt64) rfl rfl (by decide) ?_
    refine x_callS (pc' := 19) (d1 := 1) (As := [_, _, _]) rfl rfl rfl rfl (by decide) rfl rfl (Nat.le_of_ble_eq_true rfl) ⟨rfl, rfl⟩ (by decide) ?_
    refine w_X10_in (fun h16a h16b => ?_) (fun h16 => ?_)
    · obtain ⟨h16w, h16l, rfl⟩ := in_okL (n := 1) (by decide) h16a h16b
      refine ⟨rfl, ?_⟩
      refine x_if_ne (pc' := 22) rfl rfl (fun _ => ?_) (fun c19 => absurd c19 (by decide))
      refine x_int (pc' := 26) (v := (-2)) rfl rfl rfl ?_
      refine x_istore (pc' := 27) (lv' := [_, _, _, _, _, _, _, _, _]) rfl rfl (by decide) rfl ?_
      refine x_int (pc' := 29) (v := (-2)) rfl rfl rfl ?_
      refine x_istore (pc' := 31) (lv' := [_, _, _, _, _, _, _, _, _]) rfl rfl (by decide) rfl ?_
      refine x_int (pc' := 32) (v := nI 0) rfl rfl rfl ?_
      refine x_istore (pc' := 34) (lv' := [_, _, _, _, _, _, _, _, _]) rfl rfl (by decide) rfl ?_
      simp (disch := first | assumption | omega) only [likeliestQ, onN_1, onN_0, onP_1, onP_0, ↓reduceIte] at k1
      refine l_X10_likeliest (d := 5) (Nat.le_refl _) hW h6l (rz := likF T h6w 384 0 none) (fun D1 o1 a5 a6 a7 a8 => ?_) (32 * nw T) 0 D none .null .null .null (Nat.zero_add _) (fun b f e => by cases e) OffL.rf hR rfl
      refine x_iload (pc' := 140) rfl rfl rfl ?_
      refine y_if_ne (pc' := 143) rfl rfl (by omega) (fun c140 => ?_) (fun c140 => ?_)
      · refine x_iload (pc' := 149) rfl rfl rfl ?_
        refine x_iret rfl rfl ?_
        have ek := k1 D1 (OffL.m o1 (by decide))
        first
          | (rw [if_pos c140] at ek; exact ek)
          | (rw [if_neg c140] at ek; exact ek)
      · refine x_iload (pc' := 144) rfl rfl rfl ?_
        refine x_goto rfl ?_
        refine x_iret rfl rfl ?_
        have ek := k1 D1 (OffL.m o1 (by decide))
        first
          | (rw [if_pos c140] at ek; exact ek)
          | (rw [if_neg c140] at ek; exact ek)
    · have h16 := okN_inL (n := 1) (by decide) h16
      refine ⟨rfl, ?_⟩
      refine x_if_ne (pc' := 22) rfl rfl (fun c19 => absurd (by decide) c19) (fun _ => ?_)
      refine x_int (pc' := 23) (v := (-1)) rfl rfl rfl ?_
      refine x_iret rfl rfl ?_
      simp (disch := first | assumption | omega) only [likeliestQ, onN_1, onN_0, onP_1, onP_0, ↓reduceIte] at k1
      exact k1 D OffM.rf
  · have h6 := okN_inL (n := 65535) (by decide) h6
    refine ⟨rfl, ?_⟩
    refine x_if_eq (pc' := 12) rfl rfl (fun _ => ?_) (fun c9 => absurd (by decide) c9)
    refine x_int (pc' := 23) (v := (-1)) rfl rfl rfl ?_
    refine x_iret rfl rfl ?_
    simp (disch := first | assumption | omega) only [likeliestQ, onN_1, onN_0, onP_1, onP_0, ↓reduceIte] at k1
    exact k1 D OffM.rf
