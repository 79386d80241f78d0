/-! ===== trees, under ===== -/
abbrev hbT (T : TW) (w row : Nat) : Nat := hab (kd T w) (fa T w) (fb T w) row
def orS (c : Nat) (f : Nat → Bool) (n : Nat) : Nat := c ||| setF f n
theorem orS_z {c : Nat} {f : Nat → Bool} : orS c f 0 = c := Nat.or_zero c
theorem orS_1 {c : Nat} {f : Nat → Bool} {i : Nat} (h : f i = true) : orS c f (i + 1) = orS c f i ||| 1 <<< i := by unfold orS; rw [setF_1 h, Nat.or_assoc]
theorem orS_0 {c : Nat} {f : Nat → Bool} {i : Nat} (h : f i = false) : orS c f (i + 1) = orS c f i := by unfold orS; rw [setF_0 h]
theorem orS_00 {c : Nat} {f : Nat → Bool} {i : Nat} (h : f i = false) : orS c f (i + 1) = orS c f i ||| 0 := by rw [orS_0 h]; simp
theorem orS_lt {c : Nat} {f : Nat → Bool} {n : Nat} (hc : c < 8192) (hn : n ≤ 12) : orS c f n < 8192 := Nat.or_lt_two_pow (n := 13) hc (Nat.lt_of_lt_of_le (setF_lt n) (Nat.pow_le_pow_right (by decide) (by omega)))
def choC (T : TW) (w row : Nat) : Nat := if hbT T w row = sn T w then 4096 else 0
def choF (T : TW) (w u : Nat) : Bool := decide (pu T u < pu T w) && decide (hbT T w (sn T u) = sn T w)
def choN (T : TW) (w row : Nat) : Nat := orS (choC T w row) (choF T w) (ns T)
theorem choC_lt (T : TW) (w row : Nat) : choC T w row < 8192 := by unfold choC; split <;> decide
theorem choN_lt {T : TW} {w row : Nat} (h : ns T ≤ 12) : choN T w row < 65536 := Nat.lt_trans (orS_lt (choC_lt T w row) h) (by decide)
theorem choF_1 {T : TW} {w u : Nat} (h1 : pu T u < pu T w) (h2 : hbT T w (sn T u) = sn T w) : choF T w u = true := by unfold choF; simp [h1, h2]
theorem choF_a {T : TW} {w u : Nat} (h1 : pu T w ≤ pu T u) : choF T w u = false := by
  have h : ¬ pu T u < pu T w := by omega
  unfold choF
  simp [h]
theorem choF_b {T : TW} {w u : Nat} (h2 : ¬ hbT T w (sn T u) = sn T w) : choF T w u = false := by unfold choF; simp [h2]
def treF (T : TW) (row : Nat) : Nat → Int64
  | 0 => (nI 1).toInt64
  | i + 1 => treF T row i * (nI (pcn (choN T i row))).toInt64
def treesQ (T : TW) (x y : Int32) : Int64 := onP T x y ((-1 : Int32).toInt64) fun b q => if 0 < ns T ∧ ns T ≤ nw T then treF T (pg T b q) (ns T) else (-1 : Int32).toInt64
def underQ (T : TW) (x y v : Int32) : Int32 := onP T x y (-1) fun b q => if 0 < ns T ∧ ns T ≤ nw T then (onN (ns T) v (-1) fun w => nI (choN T w (pg T b q))) else -1
set_option maxRecDepth 20000 in
set_option maxHeartbeats 1000000 in
theorem w_X9_seenFitsWriters {D : Nat → Nat → Int32} {L : Nat → Nat → Int64} {Q : bh_Q} (hW : WF (tv D)) (k1 : 0 < ns (tv D) ∧ ns (tv D) ≤ nw (tv D) → Q (some (.int 1)) (hp D L)) (k0 : ¬ (0 < ns (tv D) ∧ ns (tv D) ≤ nw (tv D)) → Q (some (.int 0)) (hp D L)) : bh_wc 1 m_X9_seenFitsWriters [.ref 0] (hp D L) Q := by
  refine x_start (lv0 := [_]) (Nat.le_of_ble_eq_true rfl) rfl ?_
  refine x_aload (pc' := 1) rfl rfl rfl ?_
  refine x_getR (pc' := 4) rfl rfl rfl (by decide) rfl (by decide) rfl rfl ?_
  refine x_getI (j := 2) (pc' := 7) rfl rfl rfl (by decide) rfl (by decide) rfl rfl ?_
  refine x_top (hW.ens) ?_
  refine y_if_le (pc' := 10) rfl rfl (by (have := hW.nsl; have := hW.nwl; omega)) (fun c7 => ?_) (fun c7 => ?_)
  · refine x_int (pc' := 32) (v := nI 0) rfl rfl rfl ?_
    refine x_zret rfl rfl (by decide) ?_
    first
      | (exact k1 ⟨c7, c24⟩)
      | (exact k0 (fun h => by omega))
  · refine x_aload (pc' := 11) rfl rfl rfl ?_
    refine x_getR (pc' := 14) rfl rfl rfl (by decide) rfl (by decide) rfl rfl ?_
    refine x_getI (j := 2) (pc' := 17) rfl rfl rfl (by decide) rfl (by decide) rfl rfl ?_
    refine x_top (hW.ens) ?_
    refine x_aload (pc' := 18) rfl rfl rfl ?_
    refine x_getR (pc' := 21) rfl rfl rfl (by decide) rfl (by decide) rfl rfl ?_
    refine x_getI (j := 0) (pc' := 24) rfl rfl rfl (by decide) rfl (by decide) rfl rfl ?_
    refine x_top (hW.enw) ?_
    refine y_ic_gt (pc' := 27) rfl rfl (by (have := hW.nsl; have := hW.nwl; omega)) (by (have := hW.nsl; have := hW.nwl; omega)) (fun c24 => ?_) (fun c24 => ?_)
    · refine x_int (pc' := 32) (v := nI 0) rfl rfl rfl ?_
      refine x_zret rfl rfl (by decide) ?_
      first
        | (exact k1 ⟨c7, c24⟩)
        | (exact k0 (fun h => by omega))
    · refine x_int (pc' := 28) (v := nI 1) rfl rfl rfl ?_
      refine x_goto rfl ?_
      refine x_zret rfl rfl (by decide) ?_
      first
        | (exact k1 ⟨c7, c24⟩)
        | (exact k0 (fun h => by omega))
set_option maxRecDepth 20000 in
set_option maxHeartbeats 1000000 in
theorem l_X9_choicesBySeen {L : Nat → Nat → Int64} {Q : bh_Q} {d : Nat} (hd : 2 ≤ d) {D0 : Nat → Nat → Int32} (hW : WF (tv D0)) {w row c : Nat} (hw : w < ns (tv D0)) (hn : ns (tv D0) ≤ nw (tv D0)) (k1 : Q (some (.int (nI (orS c (choF (tv D0) w) (ns (tv D0)))))) (hp D0 L)) : ∀ (f i : Nat) (D : Nat → Nat → Int32) (a6 : Value), i + f = ns (tv D0) → (D0 = D) → bw m_X9_choicesBySeen d Q 35 [.ref 0, .int (nI w), .int (nI row), .int (nI (sn (tv D0) w)), .int (nI (orS c (choF (tv D0) w) i)), .int (nI i), a6] [] D L := by
  have h12 := hW.nwl
  have h16 := hW.nsl
  intro f
  induction f with
  | zero =>
    intro i D a6 hf hD
    subst hD
    refine x_iload (pc' := 37) rfl rfl rfl ?_
    refine x_aload (pc' := 38) rfl rfl rfl ?_
    refine x_getR (pc' := 41) rfl rfl rfl (by decide) rfl (by decide) rfl rfl ?_
    refine x_getI (j := 2) (pc' := 44) rfl rfl rfl (by decide) rfl (by decide) rfl rfl ?_
    refine x_top (hW.ens) ?_
    refine y_ic_ge (pc' := 47) rfl rfl (by first | omega | (have := hab_lt (hW.ehok (w := w) (by omega)) (hW.snl (i := i) (by omega)); have := hW.snl hw; omega) | (have := hab_lt (hW.ehok (w := w) (by omega)) (hW.snl (i := i) (by omega)); have := hW.snl hw; omega) | (have := hW.pul (w := w) (by omega); have := hW.pul (w := i) (by omega); omega)) (by first | omega | (have := hab_lt (hW.ehok (w := w) (by omega)) (hW.snl (i := i) (by omega)); have := hW.snl hw; omega) | (have := hab_lt (hW.ehok (w := w) (by omega)) (hW.snl (i := i) (by omega)); have := hW.snl hw; omega) | (have := hW.pul (w := w) (by omega); have := hW.pul (w := i) (by omega); omega)) (fun c44 => ?_) (fun c44 => ?_)
    · refine x_iload (pc' := 120) rfl rfl rfl ?_
      refine x_iret rfl rfl ?_
      obtain rfl : i = ns (tv D0) := by omega
      exact k1
    · exact absurd c44 (by omega)
  | succ f ih =>
    intro i D a6 hf hD
    subst hD
    refine x_iload (pc' := 37) rfl rfl rfl ?_
    refine x_aload (pc' := 38) rfl rfl rfl ?_
    refine x_getR (pc' := 41) rfl rfl rfl (by decide) rfl (by decide) rfl rfl ?_
    refine x_getI (j := 2) (pc' := 44) rfl rfl rfl (by decide) rfl (by decide) rfl rfl ?_
    refine x_top (hW.ens) ?_
    refine y_ic_ge (pc' := 47) rfl rfl (by first | omega | (have := hab_lt (hW.ehok (w := w) (by omega)) (hW.snl (i := i) (by omega)); have := hW.snl hw; omega) | (have := hab_lt (hW.ehok (w := w) (by omega)) (hW.snl (i := i) (by omega)); have := hW.snl hw; omega) | (have := hW.pul (w := w) (by omega); have := hW.pul (w := i) (by omega); omega)) (by first | omega | (have := hab_lt (hW.ehok (w := w) (by omega)) (hW.snl (i := i) (by omega)); have := hW.snl hw; omega) | (have := hab_lt (hW.ehok (w := w) (by omega)) (hW.snl (i := i) (by omega)); have := hW.snl hw; omega) | (have := hW.pul (w := w) (by omega); have := hW.pul (w := i) (by omega); omega)) (fun c44 => ?_) (fun c44 => ?_)
    · exact absurd c44 (by omega)
    · refine x_aload (pc' := 48) rfl rfl rfl ?_
      refine x_getR (pc' := 51) rfl rfl rfl (by decide) rfl (by decide) rfl rfl ?_
      refine x_getR (pc' := 54) rfl rfl rfl (by decide) rfl (by decide) rfl rfl ?_
      refine x_iload (pc' := 56) rfl rfl rfl ?_
      refine x_iald (pc' := 57) rfl rfl (by decide) rfl (by decide) (show _ < 12 by omega) ?_
      refine x_top (hW.epu (by omega)) ?_
      refine x_aload (pc' := 58) rfl rfl rfl ?_
      refine x_getR (pc' := 61) rfl rfl rfl (by decide) rfl (by decide) rfl rfl ?_
      refine x_getR (pc' := 64) rfl rfl rfl (by decide) rfl (by decide) rfl rfl ?_
      refine x_iload (pc' := 65) rfl rfl rfl ?_
      refine x_iald (pc' := 66) rfl rfl (by decide) rfl (by decide) (show _ < 12 by omega) ?_
      refine x_top (hW.epu (by omega)) ?_
      refine y_ic_ge (pc' := 69) rfl rfl (by first | omega | (have := hab_lt (hW.ehok (w := w) (by omega)) (hW.snl (i := i) (by omega)); have := hW.snl hw; omega) | (have := hab_lt (hW.ehok (w := w) (by omega)) (hW.snl (i := i) (by omega)); have := hW.snl hw; omega) | (have := hW.pul (w := w) (by omega); have := hW.pul (w := i) (by omega); omega)) (by first | omega | (have := hab_lt (hW.ehok (w := w) (by omega)) (hW.snl (i := i) (by omega)); have := hW.snl hw; omega) | (have := hab_lt (hW.ehok (w := w) (by omega)) (hW.snl (i := i) (by omega)); have := hW.snl hw; omega) | (have := hW.pul (w := w) (by omega); have := hW.pul (w := i) (by omega); omega)) (fun c66 => ?_) (fun c66 => ?_)
      · refine x_int (pc' := 74) (v := nI 0) rfl rfl rfl ?_
        refine x_istore (pc' := 76) (lv' := [_, _, _, _, _, _, _]) rfl rfl (by decide) rfl ?_
        refine x_iload (pc' := 78) rfl rfl rfl ?_
        refine x_if_eq (pc' := 81) rfl rfl (fun _ => ?_) (fun c78 => absurd (by decide) c78)
        refine y_inc (pc' := 115) (lv' := [_, _, _, _, _, _, _]) rfl rfl rfl (by decide) rfl ?_
        refine x_goto rfl ?_
        first
          | (have e := orS_1 (c := c) (choF_1 (T := (tv D0)) (w := w) (u := i) c66 c100)
             have hh := fun z => ih (i + 1) D0 z (by omega) rfl
             rw [e] at hh
             exact hh _)
          | (have e := orS_0 (c := c) (choF_b (T := (tv D0)) (w := w) (u := i) c100)
             have hh := fun z => ih (i + 1) D0 z (by omega) rfl
             rw [e] at hh
             exact hh _)
          | (have e := orS_0 (c := c) (choF_a (T := (tv D0)) (w := w) (u := i) c66)
             have hh := fun z => ih (i + 1) D0 z (by omega) rfl
             rw [e] at hh
             exact hh _)
      · refine x_int (pc' := 70) (v := nI 1) rfl rfl rfl ?_
        refine x_goto rfl ?_
        refine x_istore (pc' := 76) (lv' := [_, _, _, _, _, _, _]) rfl rfl (by decide) rfl ?_
        refine x_iload (pc' := 78) rfl rfl rfl ?_
        refine x_if_eq (pc' := 81) rfl rfl (fun c78 => absurd c78 (by decide)) (fun _ => ?_)
        refine x_aload (pc' := 82) rfl rfl rfl ?_
        refine x_getR (pc' := 85) rfl rfl rfl (by decide) rfl (by decide) rfl rfl ?_
        refine x_iload (pc' := 86) rfl rfl rfl ?_
        refine x_aload (pc' := 87) rfl rfl rfl ?_
        refine x_getR (pc' := 90) rfl rfl rfl (by decide) rfl (by decide) rfl rfl ?_
        refine x_getR (pc' := 93) rfl rfl rfl (by decide) rfl (by decide) rfl rfl ?_
        refine x_iload (pc' := 95) rfl rfl rfl ?_
        refine x_iald (pc' := 96) rfl rfl (by decide) rfl (by decide) (show _ < 16 by omega) ?_
        refine x_top (hW.esn (by omega)) ?_
        refine x_callV (pc' := 99) (d1 := 2) (Bs := [_, _]) rfl rfl rfl rfl rfl rfl rfl (Nat.le_of_ble_eq_true rfl) ⟨rfl, rfl⟩ (by decide) rfl (by omega) ?_
        refine w_X7_habitOn hW (by omega) (hW.snl (by omega)) ?_
        refine ⟨rfl, ?_⟩
        refine x_iload (pc' := 100) rfl rfl rfl ?_
        refine y_ic_ne (pc' := 103) rfl rfl (by first | omega | (have := hab_lt (hW.ehok (w := w) (by omega)) (hW.snl (i := i) (by omega)); have := hW.snl hw; omega) | (have := hab_lt (hW.ehok (w := w) (by omega)) (hW.snl (i := i) (by omega)); have := hW.snl hw; omega) | (have := hW.pul (w := w) (by omega); have := hW.pul (w := i) (by omega); omega)) (by first | omega | (have := hab_lt (hW.ehok (w := w) (by omega)) (hW.snl (i := i) (by omega)); have := hW.snl hw; omega) | (have := hab_lt (hW.ehok (w := w) (by omega)) (hW.snl (i := i) (by omega)); have := hW.snl hw; omega) | (have := hW.pul (w := w) (by omega); have := hW.pul (w := i) (by omega); omega)) (fun c100 => ?_) (fun c100 => ?_)
        · refine y_inc (pc' := 115) (lv' := [_, _, _, _, _, _, _]) rfl rfl rfl (by decide) rfl ?_
          refine x_goto rfl ?_
          first
            | (have e := orS_1 (c := c) (choF_1 (T := (tv D0)) (w := w) (u := i) c66 c100)
               have hh := fun z => ih (i + 1) D0 z (by omega) rfl
               rw [e] at hh
               exact hh _)
            | (have e := orS_0 (c := c) (choF_b (T := (tv D0)) (w := w) (u := i) c100)
               have hh := fun z => ih (i + 1) D0 z (by omega) rfl
               rw [e] at hh
               exact hh _)
            | (have e := orS_0 (c := c) (choF_a (T := (tv D0)) (w := w) (u := i) c66)
               have hh := fun z => ih (i + 1) D0 z (by omega) rfl
               rw [e] at hh
               exact hh _)
        · refine x_iload (pc' := 105) rfl rfl rfl ?_
          refine x_int (pc' := 106) (v := nI 1) rfl rfl rfl ?_
          refine x_iload (pc' := 108) rfl rfl rfl ?_
          refine y_ishl (pc' := 109) rfl rfl (by first | omega | (have := hab_lt (hW.ehok (w := w) (by omega)) (hW.snl (i := i) (by omega)); have := hW.snl hw; omega) | (have := hab_lt (hW.ehok (w := w) (by omega)) (hW.snl (i := i) (by omega)); have := hW.snl hw; omega) | (have := hW.pul (w := w) (by omega); have := hW.pul (w := i) (by omega); omega)) ?_
          refine y_ior (pc' := 110) rfl rfl ?_
          refine x_istore (pc' := 112) (lv' := [_, _, _, _, _, _, _]) rfl rfl (by decide) rfl ?_
          refine y_inc (pc' := 115) (lv' := [_, _, _, _, _, _, _]) rfl rfl rfl (by decide) rfl ?_
          refine x_goto rfl ?_
          first
            | (have e := orS_1 (c := c) (choF_1 (T := (tv D0)) (w := w) (u := i) c66 c100)
               have hh := fun z => ih (i + 1) D0 z (by omega) rfl
               rw [e] at hh
               exact hh _)
            | (have e := orS_0 (c := c) (choF_b (T := (tv D0)) (w := w) (u := i) c100)
               have hh := fun z => ih (i + 1) D0 z (by omega) rfl
               rw [e] at hh
               exact hh _)
            | (have e := orS_0 (c := c) (choF_a (T := (tv D0)) (w := w) (u := i) c66)
               have hh := fun z => ih (i + 1) D0 z (by omega) rfl
               rw [e] at hh
               exact hh _)
set_option maxRecDepth 20000 in
set_option maxHeartbeats 1000000 in
theorem w_X9_choicesBySeen {D : Nat → Nat → Int32} {L : Nat → Nat → Int64} {Q : bh_Q} (hW : WF (tv D)) {w row : Nat} (hw : w < ns (tv D)) (hn : ns (tv D) ≤ nw (tv D)) (hr : row < 65536) (k1 : Q (some (.int (nI (choN (tv D) w row)))) (hp D L)) : bh_wc 3 m_X9_choicesBySeen [.ref 0, .int (nI w), .int (nI row)] (hp D L) Q := by
  refine x_start (lv0 := [_, _, _, _, _, _, _]) (Nat.le_of_ble_eq_true rfl) rfl ?_
  have h12 := hW.nwl
  have h16 := hW.nsl
  refine x_aload (pc' := 1) rfl rfl rfl ?_
  refine x_getR (pc' := 4) rfl rfl rfl (by decide) rfl (by decide) rfl rfl ?_
  refine x_getR (pc' := 7) rfl rfl rfl (by decide) rfl (by decide) rfl rfl ?_
  refine x_iload (pc' := 8) rfl rfl rfl ?_
  refine x_iald (pc' := 9) rfl rfl (by decide) rfl (by decide) (show _ < 16 by omega) ?_
  refine x_top (hW.esn hw) ?_
  refine x_istore (pc' := 10) (lv' := [_, _, _, _, _, _, _]) rfl rfl (by decide) rfl ?_
  refine x_aload (pc' := 11) rfl rfl rfl ?_
  refine x_getR (pc' := 14) rfl rfl rfl (by decide) rfl (by decide) rfl rfl ?_
  refine x_iload (pc' := 15) rfl rfl rfl ?_
  refine x_iload (pc' := 16) rfl rfl rfl ?_
  refine x_callV (pc' := 19) (d1 := 2) (Bs := [_, _]) rfl rfl rfl rfl rfl rfl rfl (Nat.le_of_ble_eq_true rfl) ⟨rfl, rfl⟩ (by decide) rfl (by decide) ?_
  refine w_X7_habitOn hW (by omega) hr ?_
  refine ⟨rfl, ?_⟩
  refine x_iload (pc' := 20) rfl rfl rfl ?_
  refine y_ic_ne (pc' := 23) rfl rfl (by first | omega | (have := hab_lt (hW.ehok (w := w) (by omega)) hr; have := hW.snl hw; omega) | (have := hab_lt (hW.ehok (w := w) (by omega)) (hW.snl (i := i) (by omega)); have := hW.snl hw; omega) | (have := hW.pul (w := w) (by omega); have := hW.pul (w := i) (by omega); omega)) (by first | omega | (have := hab_lt (hW.ehok (w := w) (by omega)) hr; have := hW.snl hw; omega) | (have := hab_lt (hW.ehok (w := w) (by omega)) (hW.snl (i := i) (by omega)); have := hW.snl hw; omega) | (have := hW.pul (w := w) (by omega); have := hW.pul (w := i) (by omega); omega)) (fun c20 => ?_) (fun c20 => ?_)
  · refine x_int (pc' := 30) (v := nI 0) rfl rfl rfl ?_
    refine x_istore (pc' := 32) (lv' := [_, _, _, _, _, _, _]) rfl rfl (by decide) rfl ?_
    refine x_int (pc' := 33) (v := nI 0) rfl rfl rfl ?_
    refine x_istore (pc' := 35) (lv' := [_, _, _, _, _, _, _]) rfl rfl (by decide) rfl ?_
    first
      | (have e : choC (tv D) w row = 4096 := if_pos c20
         have hh := l_X9_choicesBySeen (d := 2) (L := L) (Q := Q) (row := row) (Nat.le_refl _) hW (c := choC (tv D) w row) hw hn k1 (ns (tv D)) 0 D .null (Nat.zero_add _) rfl
         rw [orS_z, e] at hh
         exact hh)
      | (have e : choC (tv D) w row = 0 := if_neg c20
         have hh := l_X9_choicesBySeen (d := 2) (L := L) (Q := Q) (row := row) (Nat.le_refl _) hW (c := choC (tv D) w row) hw hn k1 (ns (tv D)) 0 D .null (Nat.zero_add _) rfl
         rw [orS_z, e] at hh
         exact hh)
  · refine x_int (pc' := 26) (v := nI 4096) rfl rfl rfl ?_
    refine x_goto rfl ?_
    refine x_istore (pc' := 32) (lv' := [_, _, _, _, _, _, _]) rfl rfl (by decide) rfl ?_
    refine x_int (pc' := 33) (v := nI 0) rfl rfl rfl ?_
    refine x_istore (pc' := 35) (lv' := [_, _, _, _, _, _, _]) rfl rfl (by decide) rfl ?_
    first
      | (have e : choC (tv D) w row = 4096 := if_pos c20
         have hh := l_X9_choicesBySeen (d := 2) (L := L) (Q := Q) (row := row) (Nat.le_refl _) hW (c := choC (tv D) w row) hw hn k1 (ns (tv D)) 0 D .null (Nat.zero_add _) rfl
         rw [orS_z, e] at hh
         exact hh)
      | (have e : choC (tv D) w row = 0 := if_neg c20
         have hh := l_X9_choicesBySeen (d := 2) (L := L) (Q := Q) (row := row) (Nat.le_refl _) hW (c := choC (tv D) w row) hw hn k1 (ns (tv D)) 0 D .null (Nat.zero_add _) rfl
         rw [orS_z, e] at hh
         exact hh)
set_option maxRecDepth 20000 in
set_option maxHeartbeats 1000000 in
theorem w_X9_under {D : Nat → Nat → Int32} {L : Nat → Nat → Int64} {Q : bh_Q} (hW : WF (tv D)) {x y v : Int32} (k1 : Q (some (.int (underQ (tv D) x y v))) (hp D L)) : bh_wc 4 m_X9_under [.ref 0, .int x, .int y, .int v] (hp D L) Q := by
  refine x_start (lv0 := [_, _, _, _]) (Nat.le_of_ble_eq_true rfl) rfl ?_
  have h12 := hW.nwl
  have h16 := hW.nsl
  refine x_aload (pc' := 1) rfl rfl rfl ?_
  refine x_getR (pc' := 4) rfl rfl rfl (by decide) rfl (by decide) rfl rfl ?_
  refine x_iload (pc' := 5) rfl rfl rfl ?_
  refine x_iload (pc' := 6) rfl rfl rfl ?_
  refine x_callV (pc' := 9) (d1 := 2) (Bs := [_, _]) rfl rfl rfl rfl rfl rfl rfl (Nat.le_of_ble_eq_true rfl) ⟨rfl, rfl⟩ (by decide) rfl (by decide) ?_
  refine w_X7_isPage hW (fun b q hb hq e1 e2 => ?_) (fun hn => ?_)
  · subst e1; subst e2
    refine ⟨rfl, ?_⟩
    refine x_if_eq (pc' := 12) rfl rfl (fun c9 => absurd c9 (by decide)) (fun _ => ?_)
    refine x_aload (pc' := 13) rfl rfl rfl ?_
    refine x_callV (pc' := 16) (d1 := 1) (Bs := []) rfl rfl rfl rfl rfl rfl rfl (Nat.le_of_ble_eq_true rfl) ⟨rfl, rfl⟩ (by decide) rfl (by decide) ?_
    refine w_X9_seenFitsWriters hW (fun hS => ?_) (fun hS => ?_)
    · refine ⟨rfl, ?_⟩
      refine x_if_ne (pc' := 19) rfl rfl (fun _ => ?_) (fun c16 => absurd c16 (by decide))
      refine x_iload (pc' := 22) rfl rfl rfl ?_
      refine x_if_lt (pc' := 25) rfl rfl (fun c22 => ?_) (fun c22 => ?_)
      · have hv := okN_neg (n := ns (tv D)) (by omega) c22
        refine x_int (pc' := 37) (v := (-1)) rfl rfl rfl ?_
        refine x_iret rfl rfl ?_
        simp (disch := first | assumption | omega) only [underQ, onN_1, onN_0, onP_1, onP_0, ↓reduceIte] at k1
        rw [if_pos hS] at k1
        exact k1
      · refine x_iload (pc' := 26) rfl rfl rfl ?_
        refine x_aload (pc' := 27) rfl rfl rfl ?_
        refine x_getR (pc' := 30) rfl rfl rfl (by decide) rfl (by decide) rfl rfl ?_
        refine x_getI (j := 2) (pc' := 33) rfl rfl rfl (by decide) rfl (by decide) rfl rfl ?_
        refine x_top (hW.ens) ?_
        refine x_ic_lt (pc' := 36) rfl rfl (fun c33 => ?_) (fun c33 => ?_)
        · obtain ⟨j, hj, rfl⟩ := lt_of (n := ns (tv D)) (by omega) c22 (Int32.not_le.mpr c33)
          refine x_aload (pc' := 39) rfl rfl rfl ?_
          refine x_iload (pc' := 40) rfl rfl rfl ?_
          refine x_aload (pc' := 41) rfl rfl rfl ?_
          refine x_getR (pc' := 44) rfl rfl rfl (by decide) rfl (by decide) rfl rfl ?_
          refine x_iload (pc' := 45) rfl rfl rfl ?_
          refine x_iload (pc' := 46) rfl rfl rfl ?_
          refine x_callV (pc' := 49) (d1 := 1) (Bs := [_, _]) rfl rfl rfl rfl rfl rfl rfl (Nat.le_of_ble_eq_true rfl) ⟨rfl, rfl⟩ (by decide) rfl (by decide) ?_
          refine w_X7_rowOf hW hb hq ?_
          refine ⟨rfl, ?_⟩
          refine x_callV (pc' := 52) (d1 := 3) (Bs := [_, _]) rfl rfl rfl rfl rfl rfl rfl (Nat.le_of_ble_eq_true rfl) ⟨rfl, rfl⟩ (by decide) rfl (by decide) ?_
          refine w_X9_choicesBySeen hW hj hS.2 (hW.pgl hb hq) ?_
          refine ⟨rfl, ?_⟩
          refine x_iret rfl rfl ?_
          simp (disch := first | assumption | omega) only [underQ, onN_1, onN_0, onP_1, onP_0, ↓reduceIte] at k1
          rw [if_pos hS] at k1
          exact k1
        · have hv := okN_ge (n := ns (tv D)) (by omega) (Int32.not_lt.mp c33)
          refine x_int (pc' := 37) (v := (-1)) rfl rfl rfl ?_
          refine x_iret rfl rfl ?_
          simp (disch := first | assumption | omega) only [underQ, onN_1, onN_0, onP_1, onP_0, ↓reduceIte] at k1
          rw [if_pos hS] at k1
          exact k1
    · refine ⟨rfl, ?_⟩
      refine x_if_ne (pc' := 19) rfl rfl (fun c16 => absurd (by decide) c16) (fun _ => ?_)
      refine x_int (pc' := 20) (v := (-1)) rfl rfl rfl ?_
      refine x_iret rfl rfl ?_
      first
        | (simp (disch := first | assumption | omega) only [underQ, onN_1, onN_0, onP_1, onP_0, ↓reduceIte] at k1
           exact k1)
        | (simp (disch := first | assumption | omega) only [underQ, onN_1, onN_0, onP_1, onP_0, ↓reduceIte] at k1
           rw [if_neg hS] at k1
           exact k1)
  · refine ⟨rfl, ?_⟩
    refine x_if_eq (pc' := 12) rfl rfl (fun _ => ?_) (fun c9 => absurd (by decide) c9)
    refine x_int (pc' := 20) (v := (-1)) rfl rfl rfl ?_
    refine x_iret rfl rfl ?_
    first
      | (simp (disch := first | assumption | omega) only [underQ, onN_1, onN_0, onP_1, onP_0, ↓reduceIte] at k1
         exact k1)
      | (simp (disch := first | assumption | omega) only [underQ, onN_1, onN_0, onP_1, onP_0, ↓reduceIte] at k1
         rw [if_neg hS] at k1
         exact k1)
set_option maxRecDepth 20000 in
set_option maxHeartbeats 1000000 in
theorem l_X9_trees {D : Nat → Nat → Int32} {L : Nat → Nat → Int64} {Q : bh_Q} {d : Nat} (hd : 3 ≤ d) (hW : WF (tv D)) {b q : Nat} (hb : b < nb (tv D)) (hq : q < lng (tv D) b) (hS : 0 < ns (tv D) ∧ ns (tv D) ≤ nw (tv D)) (k1 : Q (some (.long (treF (tv D) (pg (tv D) b q) (ns (tv D))))) (hp D L)) : ∀ (f i : Nat), i + f = ns (tv D) → bw m_X9_trees d Q 28 [.ref 0, .int (nI b), .int (nI q), .long (treF (tv D) (pg (tv D) b q) i), .null, .int (nI i)] [] D L := by
  have h12 := hW.nwl
  have h4 := hW.nbl
  have h16 := hW.nsl
  intro f
  induction f with
  | zero =>
    intro i hf
    refine x_iload (pc' := 30) rfl rfl rfl ?_
    refine x_aload (pc' := 31) rfl rfl rfl ?_
    refine x_getR (pc' := 34) rfl rfl rfl (by decide) rfl (by decide) rfl rfl ?_
    refine x_getI (j := 2) (pc' := 37) rfl rfl rfl (by decide) rfl (by decide) rfl rfl ?_
    refine x_top (hW.ens) ?_
    refine y_ic_ge (pc' := 40) rfl rfl (by omega) (by omega) (fun c37 => ?_) (fun c37 => ?_)
    · refine x_lload (pc' := 69) rfl rfl rfl ?_
      refine x_lret rfl rfl ?_
      obtain rfl : i = ns (tv D) := by omega
      exact k1
    · exact absurd c37 (by omega)
  | succ f ih =>
    intro i hf
    refine x_iload (pc' := 30) rfl rfl rfl ?_
    refine x_aload (pc' := 31) rfl rfl rfl ?_
    refine x_getR (pc' := 34) rfl rfl rfl (by decide) rfl (by decide) rfl rfl ?_
    refine x_getI (j := 2) (pc' := 37) rfl rfl rfl (by decide) rfl (by decide) rfl rfl ?_
    refine x_top (hW.ens) ?_
    refine y_ic_ge (pc' := 40) rfl rfl (by omega) (by omega) (fun c37 => ?_) (fun c37 => ?_)
    · exact absurd c37 (by omega)
    · refine x_lload (pc' := 41) rfl rfl rfl ?_
      refine x_aload (pc' := 42) rfl rfl rfl ?_
      refine x_iload (pc' := 44) rfl rfl rfl ?_
      refine x_aload (pc' := 45) rfl rfl rfl ?_
      refine x_getR (pc' := 48) rfl rfl rfl (by decide) rfl (by decide) rfl rfl ?_
      refine x_iload (pc' := 49) rfl rfl rfl ?_
      refine x_iload (pc' := 50) rfl rfl rfl ?_
      refine x_callV (pc' := 53) (d1 := 1) (Bs := [_, _]) rfl rfl rfl rfl rfl rfl rfl (Nat.le_of_ble_eq_true rfl) ⟨rfl, rfl⟩ (by decide) rfl (by omega) ?_
      refine w_X7_rowOf hW hb hq ?_
      refine ⟨rfl, ?_⟩
      refine x_callV (pc' := 56) (d1 := 3) (Bs := [_, _]) rfl rfl rfl rfl rfl rfl rfl (Nat.le_of_ble_eq_true rfl) ⟨rfl, rfl⟩ (by decide) rfl (by omega) ?_
      refine w_X9_choicesBySeen hW (by omega) hS.2 (hW.pgl hb hq) ?_
      refine ⟨rfl, ?_⟩
      refine x_callS (pc' := 59) (d1 := 1) (As := [_]) rfl rfl rfl rfl (by decide) rfl rfl (Nat.le_of_ble_eq_true rfl) ⟨rfl, rfl⟩ (by omega) ?_
      refine w_bitCount (choN_lt (by omega)) ?_
      refine ⟨rfl, ?_⟩
      refine x_i2l (pc' := 60) rfl rfl ?_
      refine x_lmul (pc' := 61) rfl rfl ?_
      refine x_lstore (pc' := 62) (lv' := [_, _, _, _, _, _]) rfl rfl (by decide) rfl ?_
      refine y_inc (pc' := 65) (lv' := [_, _, _, _, _, _]) rfl rfl rfl (by decide) rfl ?_
      refine x_goto rfl ?_
      exact ih (i + 1) (by omega)
set_option maxRecDepth 20000 in
set_option maxHeartbeats 1000000 in
theorem w_X9_trees {D : Nat → Nat → Int32} {L : Nat → Nat → Int64} {Q : bh_Q} (hW : WF (tv D)) {x y : Int32} (k1 : Q (some (.long (treesQ (tv D) x y))) (hp D L)) : bh_wc 4 m_X9_trees [.ref 0, .int x, .int y] (hp D L) Q := by
  refine x_start (lv0 := [_, _, _, _, _, _]) (Nat.le_of_ble_eq_true rfl) rfl ?_
  have h12 := hW.nwl
  have h16 := hW.nsl
  refine x_aload (pc' := 1) rfl rfl rfl ?_
  refine x_getR (pc' := 4) rfl rfl rfl (by decide) rfl (by decide) rfl rfl ?_
  refine x_iload (pc' := 5) rfl rfl rfl ?_
  refine x_iload (pc' := 6) rfl rfl rfl ?_
  refine x_callV (pc' := 9) (d1 := 2) (Bs := [_, _]) rfl rfl rfl rfl rfl rfl rfl (Nat.le_of_ble_eq_true rfl) ⟨rfl, rfl⟩ (by decide) rfl (by decide) ?_
  refine w_X7_isPage hW (fun b q hb hq e1 e2 => ?_) (fun hn => ?_)
  · subst e1; subst e2
    refine ⟨rfl, ?_⟩
    refine x_if_eq (pc' := 12) rfl rfl (fun c9 => absurd c9 (by decide)) (fun _ => ?_)
    refine x_aload (pc' := 13) rfl rfl rfl ?_
    refine x_callV (pc' := 16) (d1 := 1) (Bs := []) rfl rfl rfl rfl rfl rfl rfl (Nat.le_of_ble_eq_true rfl) ⟨rfl, rfl⟩ (by decide) rfl (by decide) ?_
    refine w_X9_seenFitsWriters hW (fun hS => ?_) (fun hS => ?_)
    · refine ⟨rfl, ?_⟩
      refine x_if_ne (pc' := 19) rfl rfl (fun _ => ?_) (fun c16 => absurd c16 (by decide))
      refine x_long (pc' := 24) (v := (nI 1).toInt64) rfl rfl (by decide) ?_
      refine x_lstore (pc' := 25) (lv' := [_, _, _, _, _, _]) rfl rfl (by decide) rfl ?_
      refine x_int (pc' := 26) (v := nI 0) rfl rfl rfl ?_
      refine x_istore (pc' := 28) (lv' := [_, _, _, _, _, _]) rfl rfl (by decide) rfl ?_
      simp (disch := first | assumption | omega) only [treesQ, onN_1, onN_0, onP_1, onP_0, ↓reduceIte] at k1
      rw [if_pos hS] at k1
      exact l_X9_trees (d := 3) (Nat.le_refl _) hW hb hq hS k1 (ns (tv D)) 0 (Nat.zero_add _)
    · refine ⟨rfl, ?_⟩
      refine x_if_ne (pc' := 19) rfl rfl (fun c16 => absurd (by decide) c16) (fun _ => ?_)
      refine x_long (pc' := 22) (v := (-1 : Int32).toInt64) rfl rfl (by decide) ?_
      refine x_lret rfl rfl ?_
      first
        | (simp (disch := first | assumption | omega) only [treesQ, onN_1, onN_0, onP_1, onP_0, ↓reduceIte] at k1
           exact k1)
        | (simp (disch := first | assumption | omega) only [treesQ, onN_1, onN_0, onP_1, onP_0, ↓reduceIte] at k1
           rw [if_neg hS] at k1
           exact k1)
  · refine ⟨rfl, ?_⟩
    refine x_if_eq (pc' := 12) rfl rfl (fun _ => ?_) (fun c9 => absurd (by decide) c9)
    refine x_long (pc' := 22) (v := (-1 : Int32).toInt64) rfl rfl (by decide) ?_
    refine x_lret rfl rfl ?_
    first
      | (simp (disch := first | assumption | omega) only [treesQ, onN_1, onN_0, onP_1, onP_0, ↓reduceIte] at k1
         exact k1)
      | (simp (disch := first | assumption | omega) only [treesQ, onN_1, onN_0, onP_1, onP_0, ↓reduceIte] at k1
         rw [if_neg hS] at k1
         exact k1)
set_option maxRecDepth 20000 in
set_option maxHeartbeats 1000000 in
theorem w_X10_seen {D : Nat → Nat → Int32} {L : Nat → Nat → Int64} {Q : bh_Q} {T : TW} (hW : WF T) (hR : Rn T (D 206)) {i : Nat} (hi : i < ns T) (k1 : Q (some (.int (nI (sn T i)))) (hp D L)) : bh_wc 1 m_X10_seen [.ref 205, .int (nI i)] (hp D L) Q := by
  refine x_start (lv0 := [_, _]) (Nat.le_of_ble_eq_true rfl) rfl ?_
  have h16 := hW.nsl
  refine x_aload (pc' := 1) rfl rfl rfl ?_
  refine x_getR (pc' := 4) rfl rfl rfl (by decide) rfl (by decide) rfl rfl ?_
  refine x_int (pc' := 7) (v := nI 544) rfl rfl rfl ?_
  refine x_iload (pc' := 8) rfl rfl rfl ?_
  refine y_iadd (pc' := 9) rfl rfl ?_
  refine x_iald (pc' := 10) rfl rfl (by decide) rfl (by decide) (show _ < 560 by omega) ?_
  refine x_iret rfl rfl ?_
  rw [show D 206 (544 + i) = nI (sn T i) from (hR.rsn hi).trans (hW.esn hi)]
  exact k1
set_option maxRecDepth 20000 in
set_option maxHeartbeats 1000000 in
theorem w_X10_canTree {D : Nat → Nat → Int32} {L : Nat → Nat → Int64} {Q : bh_Q} {T : TW} (hW : WF T) (hR : Rn T (D 206)) {x y : Int32} (k1 : ∀ b q, b < nb T → q < lng T b → x = nI b → y = nI q → (0 < ns T ∧ ns T ≤ nw T) → Q (some (.int 1)) (hp D L)) (k0 : ¬ (okB T x y ∧ (0 < ns T ∧ ns T ≤ nw T)) → Q (some (.int 0)) (hp D L)) : bh_wc 4 m_X10_canTree [.ref 205, .int x, .int y] (hp D L) Q := by
  refine x_start (lv0 := [_, _, _]) (Nat.le_of_ble_eq_true rfl) rfl ?_
  have h12 := hW.nwl
  have h16 := hW.nsl
  refine x_aload (pc' := 1) rfl rfl rfl ?_
  refine x_iload (pc' := 2) rfl rfl rfl ?_
  refine x_iload (pc' := 3) rfl rfl rfl ?_
  refine x_callV (pc' := 6) (d1 := 3) (Bs := [_, _]) rfl rfl rfl rfl rfl rfl rfl (Nat.le_of_ble_eq_true rfl) ⟨rfl, rfl⟩ (by decide) rfl (by decide) ?_
  refine w_X10_isPage hW hR (fun b q hb hq e1 e2 => ?_) (fun hn => ?_)
  · subst e1; subst e2
    refine ⟨rfl, ?_⟩
    refine x_if_eq (pc' := 9) rfl rfl (fun c6 => absurd c6 (by decide)) (fun _ => ?_)
    refine x_aload (pc' := 10) rfl rfl rfl ?_
    refine x_getR (pc' := 13) rfl rfl rfl (by decide) rfl (by decide) rfl rfl ?_
    refine x_int (pc' := 14) (v := nI 2) rfl rfl rfl ?_
    refine x_iald (pc' := 15) rfl rfl (by decide) rfl (by decide) (show _ < 560 by omega) ?_
    refine x_top (hR.1.2.2.1.trans hW.ens) ?_
    refine x_i2l (pc' := 16) rfl rfl ?_
    refine x_long (pc' := 17) (v := (nI 1).toInt64) rfl rfl (by decide) ?_
    refine x_aload (pc' := 18) rfl rfl rfl ?_
    refine x_getR (pc' := 21) rfl rfl rfl (by decide) rfl (by decide) rfl rfl ?_
    refine x_int (pc' := 22) (v := nI 0) rfl rfl rfl ?_
    refine x_iald (pc' := 23) rfl rfl (by decide) rfl (by decide) (show _ < 560 by omega) ?_
    refine x_top (hR.1.1.trans hW.enw) ?_
    refine x_i2l (pc' := 24) rfl rfl ?_
    refine x_callS (pc' := 27) (d1 := 1) (As := [_, _, _]) rfl rfl rfl rfl (by decide) rfl rfl (Nat.le_of_ble_eq_true rfl) ⟨rfl, rfl⟩ (by decide) ?_
    refine w_X10_in (fun ha hc => ?_) (fun hc => ?_)
    · refine ⟨rfl, ?_⟩
      refine x_if_eq (pc' := 30) rfl rfl (fun c27 => absurd c27 (by decide)) (fun _ => ?_)
      refine x_int (pc' := 31) (v := nI 1) rfl rfl rfl ?_
      refine x_goto rfl ?_
      refine x_zret rfl rfl (by decide) ?_
      first
        | (exact k1 b q hb hq rfl rfl ⟨(nI_leI (by omega) (by omega)).mp ha, (nI_leI (by omega) (by omega)).mp hc⟩)
        | (exact k0 (fun h => hc ⟨nI_le h.2.1 (by omega), nI_le h.2.2 (by omega)⟩))
        | (exact k0 (fun h => hn h.1))
    · refine ⟨rfl, ?_⟩
      refine x_if_eq (pc' := 30) rfl rfl (fun _ => ?_) (fun c27 => absurd (by decide) c27)
      refine x_int (pc' := 35) (v := nI 0) rfl rfl rfl ?_
      refine x_zret rfl rfl (by decide) ?_
      first
        | (exact k1 b q hb hq rfl rfl ⟨(nI_leI (by omega) (by omega)).mp ha, (nI_leI (by omega) (by omega)).mp hc⟩)
        | (exact k0 (fun h => hc ⟨nI_le h.2.1 (by omega), nI_le h.2.2 (by omega)⟩))
        | (exact k0 (fun h => hn h.1))
  · refine ⟨rfl, ?_⟩
    refine x_if_eq (pc' := 9) rfl rfl (fun _ => ?_) (fun c6 => absurd (by decide) c6)
    refine x_int (pc' := 35) (v := nI 0) rfl rfl rfl ?_
    refine x_zret rfl rfl (by decide) ?_
    first
      | (exact k1 b q hb hq rfl rfl ⟨(nI_leI (by omega) (by omega)).mp ha, (nI_leI (by omega) (by omega)).mp hc⟩)
      | (exact k0 (fun h => hc ⟨nI_le h.2.1 (by omega), nI_le h.2.2 (by omega)⟩))
      | (exact k0 (fun h => hn h.1))
set_option maxRecDepth 20000 in
set_option maxHeartbeats 1000000 in
theorem l_X10_choices {D : Nat → Nat → Int32} {L : Nat → Nat → Int64} {Q : bh_Q} {d : Nat} (hd : 3 ≤ d) {T : TW} (hW : WF T) (hR : Rn T (D 206)) {w b q c : Nat} (hw : w < ns T) (hn : ns T ≤ nw T) (k1 : Q (some (.int (nI (orS c (choF T w) (ns T))))) (hp D L)) : ∀ (f i : Nat), i + f = ns T → bw m_X10_choices d Q 31 [.ref 205, .int (nI w), .int (nI b), .int (nI q), .int (nI (orS c (choF T w) i)), .int (nI i)] [] D L := by
  have h12 := hW.nwl
  have h4 := hW.nbl
  have h16 := hW.nsl
  intro f
  induction f with
  | zero =>
    intro i hf
    refine x_iload (pc' := 33) rfl rfl rfl ?_
    refine x_aload (pc' := 34) rfl rfl rfl ?_
    refine x_getR (pc' := 37) rfl rfl rfl (by decide) rfl (by decide) rfl rfl ?_
    refine x_int (pc' := 38) (v := nI 2) rfl rfl rfl ?_
    refine x_iald (pc' := 39) rfl rfl (by decide) rfl (by decide) (show _ < 560 by omega) ?_
    refine x_top (hR.1.2.2.1.trans hW.ens) ?_
    refine y_ic_ge (pc' := 42) rfl rfl (by first | omega | (have := hab_lt (hW.ehok (w := w) (by omega)) (hW.snl (i := i) (by omega)); have := hW.snl hw; omega) | (have := hab_lt (hW.ehok (w := w) (by omega)) (hW.snl (i := i) (by omega)); have := hW.snl hw; omega) | (have := hW.pul (w := w) (by omega); have := hW.pul (w := i) (by omega); omega)) (by first | omega | (have := hab_lt (hW.ehok (w := w) (by omega)) (hW.snl (i := i) (by omega)); have := hW.snl hw; omega) | (have := hab_lt (hW.ehok (w := w) (by omega)) (hW.snl (i := i) (by omega)); have := hW.snl hw; omega) | (have := hW.pul (w := w) (by omega); have := hW.pul (w := i) (by omega); omega)) (fun c39 => ?_) (fun c39 => ?_)
    · refine x_iload (pc' := 98) rfl rfl rfl ?_
      refine x_iret rfl rfl ?_
      obtain rfl : i = ns T := by omega
      exact k1
    · exact absurd c39 (by omega)
  | succ f ih =>
    intro i hf
    refine x_iload (pc' := 33) rfl rfl rfl ?_
    refine x_aload (pc' := 34) rfl rfl rfl ?_
    refine x_getR (pc' := 37) rfl rfl rfl (by decide) rfl (by decide) rfl rfl ?_
    refine x_int (pc' := 38) (v := nI 2) rfl rfl rfl ?_
    refine x_iald (pc' := 39) rfl rfl (by decide) rfl (by decide) (show _ < 560 by omega) ?_
    refine x_top (hR.1.2.2.1.trans hW.ens) ?_
    refine y_ic_ge (pc' := 42) rfl rfl (by first | omega | (have := hab_lt (hW.ehok (w := w) (by omega)) (hW.snl (i := i) (by omega)); have := hW.snl hw; omega) | (have := hab_lt (hW.ehok (w := w) (by omega)) (hW.snl (i := i) (by omega)); have := hW.snl hw; omega) | (have := hW.pul (w := w) (by omega); have := hW.pul (w := i) (by omega); omega)) (by first | omega | (have := hab_lt (hW.ehok (w := w) (by omega)) (hW.snl (i := i) (by omega)); have := hW.snl hw; omega) | (have := hab_lt (hW.ehok (w := w) (by omega)) (hW.snl (i := i) (by omega)); have := hW.snl hw; omega) | (have := hW.pul (w := w) (by omega); have := hW.pul (w := i) (by omega); omega)) (fun c39 => ?_) (fun c39 => ?_)
    · exact absurd c39 (by omega)
    · refine x_iload (pc' := 44) rfl rfl rfl ?_
      refine x_aload (pc' := 45) rfl rfl rfl ?_
      refine x_iload (pc' := 47) rfl rfl rfl ?_
      refine x_int (pc' := 48) (v := nI 0) rfl rfl rfl ?_
      refine x_callV (pc' := 51) (d1 := 1) (Bs := [_, _]) rfl rfl rfl rfl rfl rfl rfl (Nat.le_of_ble_eq_true rfl) ⟨rfl, rfl⟩ (by decide) rfl (by omega) ?_
      refine w_X10_of (by omega) (by decide) ?_
      refine ⟨rfl, ?_⟩
      refine x_top ((hR.rpu (w := i) (by omega)).trans (hW.epu (w := i) (by omega))) ?_
      refine x_aload (pc' := 52) rfl rfl rfl ?_
      refine x_iload (pc' := 53) rfl rfl rfl ?_
      refine x_int (pc' := 54) (v := nI 0) rfl rfl rfl ?_
      refine x_callV (pc' := 57) (d1 := 1) (Bs := [_, _]) rfl rfl rfl rfl rfl rfl rfl (Nat.le_of_ble_eq_true rfl) ⟨rfl, rfl⟩ (by decide) rfl (by omega) ?_
      refine w_X10_of (by omega) (by decide) ?_
      refine ⟨rfl, ?_⟩
      refine x_top ((hR.rpu (w := w) (by omega)).trans (hW.epu (w := w) (by omega))) ?_
      refine y_ic_ge (pc' := 60) rfl rfl (by first | omega | (have := hab_lt (hW.ehok (w := w) (by omega)) (hW.snl (i := i) (by omega)); have := hW.snl hw; omega) | (have := hab_lt (hW.ehok (w := w) (by omega)) (hW.snl (i := i) (by omega)); have := hW.snl hw; omega) | (have := hW.pul (w := w) (by omega); have := hW.pul (w := i) (by omega); omega)) (by first | omega | (have := hab_lt (hW.ehok (w := w) (by omega)) (hW.snl (i := i) (by omega)); have := hW.snl hw; omega) | (have := hab_lt (hW.ehok (w := w) (by omega)) (hW.snl (i := i) (by omega)); have := hW.snl hw; omega) | (have := hW.pul (w := w) (by omega); have := hW.pul (w := i) (by omega); omega)) (fun c57 => ?_) (fun c57 => ?_)
      · refine x_int (pc' := 87) (v := nI 0) rfl rfl rfl ?_
        refine y_ior (pc' := 88) rfl rfl ?_
        refine x_istore (pc' := 90) (lv' := [_, _, _, _, _, _]) rfl rfl (by decide) rfl ?_
        refine y_inc (pc' := 93) (lv' := [_, _, _, _, _, _]) rfl rfl rfl (by decide) rfl ?_
        refine x_goto rfl ?_
        first
          | (have e := orS_1 (c := c) (choF_1 (T := T) (w := w) (u := i) c57 c76)
             have hh := ih (i + 1) (by omega)
             rw [e] at hh
             exact hh)
          | (have e := orS_00 (c := c) (choF_b (T := T) (w := w) (u := i) c76)
             have hh := ih (i + 1) (by omega)
             rw [e] at hh
             exact hh)
          | (have e := orS_00 (c := c) (choF_a (T := T) (w := w) (u := i) c57)
             have hh := ih (i + 1) (by omega)
             rw [e] at hh
             exact hh)
      · refine x_aload (pc' := 61) rfl rfl rfl ?_
        refine x_iload (pc' := 62) rfl rfl rfl ?_
        refine x_aload (pc' := 63) rfl rfl rfl ?_
        refine x_iload (pc' := 65) rfl rfl rfl ?_
        refine x_callV (pc' := 68) (d1 := 1) (Bs := [_]) rfl rfl rfl rfl rfl rfl rfl (Nat.le_of_ble_eq_true rfl) ⟨rfl, rfl⟩ (by decide) rfl (by omega) ?_
        refine w_X10_seen hW hR (i := i) (by omega) ?_
        refine ⟨rfl, ?_⟩
        refine x_callV (pc' := 71) (d1 := 3) (Bs := [_, _]) rfl rfl rfl rfl rfl rfl rfl (Nat.le_of_ble_eq_true rfl) ⟨rfl, rfl⟩ (by decide) rfl (by omega) ?_
        refine w_X10_habit hW hR (by omega) (hW.snl (by omega)) ?_
        refine ⟨rfl, ?_⟩
        refine x_aload (pc' := 72) rfl rfl rfl ?_
        refine x_iload (pc' := 73) rfl rfl rfl ?_
        refine x_callV (pc' := 76) (d1 := 1) (Bs := [_]) rfl rfl rfl rfl rfl rfl rfl (Nat.le_of_ble_eq_true rfl) ⟨rfl, rfl⟩ (by decide) rfl (by omega) ?_
        refine w_X10_seen hW hR hw ?_
        refine ⟨rfl, ?_⟩
        refine y_ic_ne (pc' := 79) rfl rfl (by first | omega | (have := hab_lt (hW.ehok (w := w) (by omega)) (hW.snl (i := i) (by omega)); have := hW.snl hw; omega) | (have := hab_lt (hW.ehok (w := w) (by omega)) (hW.snl (i := i) (by omega)); have := hW.snl hw; omega) | (have := hW.pul (w := w) (by omega); have := hW.pul (w := i) (by omega); omega)) (by first | omega | (have := hab_lt (hW.ehok (w := w) (by omega)) (hW.snl (i := i) (by omega)); have := hW.snl hw; omega) | (have := hab_lt (hW.ehok (w := w) (by omega)) (hW.snl (i := i) (by omega)); have := hW.snl hw; omega) | (have := hW.pul (w := w) (by omega); have := hW.pul (w := i) (by omega); omega)) (fun c76 => ?_) (fun c76 => ?_)
        · refine x_int (pc' := 87) (v := nI 0) rfl rfl rfl ?_
          refine y_ior (pc' := 88) rfl rfl ?_
          refine x_istore (pc' := 90) (lv' := [_, _, _, _, _, _]) rfl rfl (by decide) rfl ?_
          refine y_inc (pc' := 93) (lv' := [_, _, _, _, _, _]) rfl rfl rfl (by decide) rfl ?_
          refine x_goto rfl ?_
          first
            | (have e := orS_1 (c := c) (choF_1 (T := T) (w := w) (u := i) c57 c76)
               have hh := ih (i + 1) (by omega)
               rw [e] at hh
               exact hh)
            | (have e := orS_00 (c := c) (choF_b (T := T) (w := w) (u := i) c76)
               have hh := ih (i + 1) (by omega)
               rw [e] at hh
               exact hh)
            | (have e := orS_00 (c := c) (choF_a (T := T) (w := w) (u := i) c57)
               have hh := ih (i + 1) (by omega)
               rw [e] at hh
               exact hh)
        · refine x_int (pc' := 80) (v := nI 1) rfl rfl rfl ?_
          refine x_iload (pc' := 82) rfl rfl rfl ?_
          refine y_ishl (pc' := 83) rfl rfl (by first | omega | (have := hab_lt (hW.ehok (w := w) (by omega)) (hW.snl (i := i) (by omega)); have := hW.snl hw; omega) | (have := hab_lt (hW.ehok (w := w) (by omega)) (hW.snl (i := i) (by omega)); have := hW.snl hw; omega) | (have := hW.pul (w := w) (by omega); have := hW.pul (w := i) (by omega); omega)) ?_
          refine x_goto rfl ?_
          refine y_ior (pc' := 88) rfl rfl ?_
          refine x_istore (pc' := 90) (lv' := [_, _, _, _, _, _]) rfl rfl (by decide) rfl ?_
          refine y_inc (pc' := 93) (lv' := [_, _, _, _, _, _]) rfl rfl rfl (by decide) rfl ?_
          refine x_goto rfl ?_
          first
            | (have e := orS_1 (c := c) (choF_1 (T := T) (w := w) (u := i) c57 c76)
               have hh := ih (i + 1) (by omega)
               rw [e] at hh
               exact hh)
            | (have e := orS_00 (c := c) (choF_b (T := T) (w := w) (u := i) c76)
               have hh := ih (i + 1) (by omega)
               rw [e] at hh
               exact hh)
            | (have e := orS_00 (c := c) (choF_a (T := T) (w := w) (u := i) c57)
               have hh := ih (i + 1) (by omega)
               rw [e] at hh
               exact hh)
set_option maxRecDepth 20000 in
set_option maxHeartbeats 1000000 in
theorem w_X10_choices {D : Nat → Nat → Int32} {L : Nat → Nat → Int64} {Q : bh_Q} {T : TW} (hW : WF T) (hR : Rn T (D 206)) {w b q : Nat} (hw : w < ns T) (hn : ns T ≤ nw T) (hb : b < nb T) (hq : q < lng T b) (k1 : Q (some (.int (nI (choN T w (pg T b q))))) (hp D L)) : bh_wc 4 m_X10_choices [.ref 205, .int (nI w), .int (nI b), .int (nI q)] (hp D L) Q := by
  refine x_start (lv0 := [_, _, _, _, _, _]) (Nat.le_of_ble_eq_true rfl) rfl ?_
  have h12 := hW.nwl
  have h16 := hW.nsl
  refine x_aload (pc' := 1) rfl rfl rfl ?_
  refine x_iload (pc' := 2) rfl rfl rfl ?_
  refine x_aload (pc' := 3) rfl rfl rfl ?_
  refine x_iload (pc' := 4) rfl rfl rfl ?_
  refine x_iload (pc' := 5) rfl rfl rfl ?_
  refine x_callV (pc' := 8) (d1 := 1) (Bs := [_, _]) rfl rfl rfl rfl rfl rfl rfl (Nat.le_of_ble_eq_true rfl) ⟨rfl, rfl⟩ (by decide) rfl (by decide) ?_
  refine w_X10_pageOf hW hR hb hq ?_
  refine ⟨rfl, ?_⟩
  refine x_callV (pc' := 11) (d1 := 3) (Bs := [_, _]) rfl rfl rfl rfl rfl rfl rfl (Nat.le_of_ble_eq_true rfl) ⟨rfl, rfl⟩ (by decide) rfl (by decide) ?_
  refine w_X10_habit hW hR (by omega) (hW.pgl hb hq) ?_
  refine ⟨rfl, ?_⟩
  refine x_aload (pc' := 12) rfl rfl rfl ?_
  refine x_iload (pc' := 13) rfl rfl rfl ?_
  refine x_callV (pc' := 16) (d1 := 1) (Bs := [_]) rfl rfl rfl rfl rfl rfl rfl (Nat.le_of_ble_eq_true rfl) ⟨rfl, rfl⟩ (by decide) rfl (by decide) ?_
  refine w_X10_seen hW hR hw ?_
  refine ⟨rfl, ?_⟩
  refine y_ic_ne (pc' := 19) rfl rfl (by first | omega | (have := hab_lt (hW.ehok (w := w) (by omega)) (hW.pgl hb hq); have := hW.snl hw; omega) | (have := hab_lt (hW.ehok (w := w) (by omega)) (hW.snl (i := i) (by omega)); have := hW.snl hw; omega) | (have := hW.pul (w := w) (by omega); have := hW.pul (w := i) (by omega); omega)) (by first | omega | (have := hab_lt (hW.ehok (w := w) (by omega)) (hW.pgl hb hq); have := hW.snl hw; omega) | (have := hab_lt (hW.ehok (w := w) (by omega)) (hW.snl (i := i) (by omega)); have := hW.snl hw; omega) | (have := hW.pul (w := w) (by omega); have := hW.pul (w := i) (by omega); omega)) (fun c16 => ?_) (fun c16 => ?_)
  · refine x_int (pc' := 26) (v := nI 0) rfl rfl rfl ?_
    refine x_istore (pc' := 28) (lv' := [_, _, _, _, _, _]) rfl rfl (by decide) rfl ?_
    refine x_int (pc' := 29) (v := nI 0) rfl rfl rfl ?_
    refine x_istore (pc' := 31) (lv' := [_, _, _, _, _, _]) rfl rfl (by decide) rfl ?_
    first
      | (have e : choC T w (pg T b q) = 4096 := if_pos c16
         have hh := l_X10_choices (d := 3) (L := L) (Q := Q) (b := b) (q := q) (Nat.le_refl _) hW hR (c := choC T w (pg T b q)) hw hn k1 (ns T) 0 (Nat.zero_add _)
         rw [orS_z, e] at hh
         exact hh)
      | (have e : choC T w (pg T b q) = 0 := if_neg c16
         have hh := l_X10_choices (d := 3) (L := L) (Q := Q) (b := b) (q := q) (Nat.le_refl _) hW hR (c := choC T w (pg T b q)) hw hn k1 (ns T) 0 (Nat.zero_add _)
         rw [orS_z, e] at hh
         exact hh)
  · refine x_int (pc' := 22) (v := nI 4096) rfl rfl rfl ?_
    refine x_goto rfl ?_
    refine x_istore (pc' := 28) (lv' := [_, _, _, _, _, _]) rfl rfl (by decide) rfl ?_
    refine x_int (pc' := 29) (v := nI 0) rfl rfl rfl ?_
    refine x_istore (pc' := 31) (lv' := [_, _, _, _, _, _]) rfl rfl (by decide) rfl ?_
    first
      | (have e : choC T w (pg T b q) = 4096 := if_pos c16
         have hh := l_X10_choices (d := 3) (L := L) (Q := Q) (b := b) (q := q) (Nat.le_refl _) hW hR (c := choC T w (pg T b q)) hw hn k1 (ns T) 0 (Nat.zero_add _)
         rw [orS_z, e] at hh
         exact hh)
      | (have e : choC T w (pg T b q) = 0 := if_neg c16
         have hh := l_X10_choices (d := 3) (L := L) (Q := Q) (b := b) (q := q) (Nat.le_refl _) hW hR (c := choC T w (pg T b q)) hw hn k1 (ns T) 0 (Nat.zero_add _)
         rw [orS_z, e] at hh
         exact hh)
theorem treesQ_0 {T : TW} (hW : WF T) {x y : Int32} (h : ¬ (okB T x y ∧ (0 < ns T ∧ ns T ≤ nw T))) : treesQ T x y = (-1 : Int32).toInt64 := by
  unfold treesQ
  by_cases hS : 0 < ns T ∧ ns T ≤ nw T
  · rw [onP_0 hW (fun e => h ⟨e, hS⟩)]
  · unfold onP; split
    · exact if_neg hS
    · rfl
theorem underQ_0 {T : TW} (hW : WF T) {x y v : Int32} (h : ¬ (okB T x y ∧ (0 < ns T ∧ ns T ≤ nw T))) : underQ T x y v = -1 := by
  unfold underQ
  by_cases hS : 0 < ns T ∧ ns T ≤ nw T
  · rw [onP_0 hW (fun e => h ⟨e, hS⟩)]
  · unfold onP; split
    · exact if_neg hS
    · rfl
set_option maxRecDepth 20000 in
set_option maxHeartbeats 1000000 in
theorem w_X10_under_ {D : Nat → Nat → Int32} {L : Nat → Nat → Int64} {Q : bh_Q} {T : TW} (hW : WF T) (hR : Rn T (D 206)) {x y v : Int32} (k1 : Q (some (.int (underQ T x y v))) (hp D L)) : bh_wc 5 m_X10_under_ [.ref 205, .int x, .int y, .int v] (hp D L) Q := by
  refine x_start (lv0 := [_, _, _, _]) (Nat.le_of_ble_eq_true rfl) rfl ?_
  have h12 := hW.nwl
  have h16 := hW.nsl
  refine x_aload (pc' := 1) rfl rfl rfl ?_
  refine x_iload (pc' := 2) rfl rfl rfl ?_
  refine x_iload (pc' := 3) rfl rfl rfl ?_
  refine x_callV (pc' := 6) (d1 := 4) (Bs := [_, _]) rfl rfl rfl rfl rfl rfl rfl (Nat.le_of_ble_eq_true rfl) ⟨rfl, rfl⟩ (by decide) rfl (by decide) ?_
  refine w_X10_canTree hW hR (fun b q hb hq e1 e2 hS => ?_) (fun hC => ?_)
  · subst e1; subst e2
    refine ⟨rfl, ?_⟩
    refine x_if_eq (pc' := 9) rfl rfl (fun c6 => absurd c6 (by decide)) (fun _ => ?_)
    refine x_iload (pc' := 10) rfl rfl rfl ?_
    refine x_i2l (pc' := 11) rfl rfl ?_
    refine x_long (pc' := 12) (v := (nI 0).toInt64) rfl rfl (by decide) ?_
    refine x_aload (pc' := 13) rfl rfl rfl ?_
    refine x_getR (pc' := 16) rfl rfl rfl (by decide) rfl (by decide) rfl rfl ?_
    refine x_int (pc' := 17) (v := nI 2) rfl rfl rfl ?_
    refine x_iald (pc' := 18) rfl rfl (by decide) rfl (by decide) (show _ < 560 by omega) ?_
    refine x_top (hR.1.2.2.1.trans hW.ens) ?_
    refine x_int (pc' := 19) (v := nI 1) rfl rfl rfl ?_
    refine x_isub (pc' := 20) rfl rfl ?_
    refine x_i2l (pc' := 21) rfl rfl ?_
    refine x_callS (pc' := 24) (d1 := 1) (As := [_, _, _]) rfl rfl rfl rfl (by decide) rfl rfl (Nat.le_of_ble_eq_true rfl) ⟨rfl, rfl⟩ (by decide) ?_
    refine w_X10_in (fun ha hc => ?_) (fun hc => ?_)
    · obtain ⟨j, hj, rfl⟩ := in_okN (n := ns T) (by omega) ha hc
      refine ⟨rfl, ?_⟩
      refine x_if_eq (pc' := 27) rfl rfl (fun c24 => absurd c24 (by decide)) (fun _ => ?_)
      refine x_aload (pc' := 28) rfl rfl rfl ?_
      refine x_iload (pc' := 29) rfl rfl rfl ?_
      refine x_iload (pc' := 30) rfl rfl rfl ?_
      refine x_iload (pc' := 31) rfl rfl rfl ?_
      refine x_callV (pc' := 34) (d1 := 4) (Bs := [_, _, _]) rfl rfl rfl rfl rfl rfl rfl (Nat.le_of_ble_eq_true rfl) ⟨rfl, rfl⟩ (by decide) rfl (by decide) ?_
      refine w_X10_choices hW hR hj hS.2 hb hq ?_
      refine ⟨rfl, ?_⟩
      refine x_goto rfl ?_
      refine x_iret rfl rfl ?_
      first
        | (rw [underQ_0 hW hC] at k1
           exact k1)
        | (simp (disch := first | assumption | omega) only [underQ, onN_1, onN_0, onP_1, onP_0, ↓reduceIte] at k1
           rw [if_pos hS] at k1
           exact k1)
    · have hv := okN_in (n := ns T) (by omega) hc
      refine ⟨rfl, ?_⟩
      refine x_if_eq (pc' := 27) rfl rfl (fun _ => ?_) (fun c24 => absurd (by decide) c24)
      refine x_int (pc' := 38) (v := (-1)) rfl rfl rfl ?_
      refine x_iret rfl rfl ?_
      first
        | (rw [underQ_0 hW hC] at k1
           exact k1)
        | (simp (disch := first | assumption | omega) only [underQ, onN_1, onN_0, onP_1, onP_0, ↓reduceIte] at k1
           rw [if_pos hS] at k1
           exact k1)
  · refine ⟨rfl, ?_⟩
    refine x_if_eq (pc' := 9) rfl rfl (fun _ => ?_) (fun c6 => absurd (by decide) c6)
    refine x_int (pc' := 38) (v := (-1)) rfl rfl rfl ?_
    refine x_iret rfl rfl ?_
    first
      | (rw [underQ_0 hW hC] at k1
         exact k1)
      | (simp (disch := first | assumption | omega) only [underQ, onN_1, onN_0, onP_1, onP_0, ↓reduceIte] at k1
         rw [if_pos hS] at k1
         exact k1)
set_option maxRecDepth 20000 in
set_option maxHeartbeats 1000000 in
theorem l_X10_trees {D : Nat → Nat → Int32} {L : Nat → Nat → Int64} {Q : bh_Q} {d : Nat} (hd : 4 ≤ d) {T : TW} (hW : WF T) (hR : Rn T (D 206)) {b q : Nat} (hb : b < nb T) (hq : q < lng T b) (hS : 0 < ns T ∧ ns T ≤ nw T) (k1 : Q (some (.long (treF T (pg T b q) (ns T)))) (hp D L)) : ∀ (f i : Nat), i + f = ns T → bw m_X10_trees d Q 18 [.ref 205, .int (nI b), .int (nI q), .long (treF T (pg T b q) i), .null, .int (nI i)] [] D L := by
  have h12 := hW.nwl
  have h4 := hW.nbl
  have h16 := hW.nsl
  intro f
  induction f with
  | zero =>
    intro i hf
    refine x_iload (pc' := 20) rfl rfl rfl ?_
    refine x_aload (pc' := 21) rfl rfl rfl ?_
    refine x_getR (pc' := 24) rfl rfl rfl (by decide) rfl (by decide) rfl rfl ?_
    refine x_int (pc' := 25) (v := nI 2) rfl rfl rfl ?_
    refine x_iald (pc' := 26) rfl rfl (by decide) rfl (by decide) (show _ < 560 by omega) ?_
    refine x_top (hR.1.2.2.1.trans hW.ens) ?_
    refine y_ic_ge (pc' := 29) rfl rfl (by omega) (by omega) (fun c26 => ?_) (fun c26 => ?_)
    · refine x_lload (pc' := 51) rfl rfl rfl ?_
      refine x_lret rfl rfl ?_
      obtain rfl : i = ns T := by omega
      exact k1
    · exact absurd c26 (by omega)
  | succ f ih =>
    intro i hf
    refine x_iload (pc' := 20) rfl rfl rfl ?_
    refine x_aload (pc' := 21) rfl rfl rfl ?_
    refine x_getR (pc' := 24) rfl rfl rfl (by decide) rfl (by decide) rfl rfl ?_
    refine x_int (pc' := 25) (v := nI 2) rfl rfl rfl ?_
    refine x_iald (pc' := 26) rfl rfl (by decide) rfl (by decide) (show _ < 560 by omega) ?_
    refine x_top (hR.1.2.2.1.trans hW.ens) ?_
    refine y_ic_ge (pc' := 29) rfl rfl (by omega) (by omega) (fun c26 => ?_) (fun c26 => ?_)
    · exact absurd c26 (by omega)
    · refine x_lload (pc' := 30) rfl rfl rfl ?_
      refine x_aload (pc' := 31) rfl rfl rfl ?_
      refine x_iload (pc' := 33) rfl rfl rfl ?_
      refine x_iload (pc' := 34) rfl rfl rfl ?_
      refine x_iload (pc' := 35) rfl rfl rfl ?_
      refine x_callV (pc' := 38) (d1 := 4) (Bs := [_, _, _]) rfl rfl rfl rfl rfl rfl rfl (Nat.le_of_ble_eq_true rfl) ⟨rfl, rfl⟩ (by decide) rfl (by omega) ?_
      refine w_X10_choices hW hR (by omega) hS.2 hb hq ?_
      refine ⟨rfl, ?_⟩
      refine x_callS (pc' := 41) (d1 := 1) (As := [_]) rfl rfl rfl rfl (by decide) rfl rfl (Nat.le_of_ble_eq_true rfl) ⟨rfl, rfl⟩ (by omega) ?_
      refine w_bitCount (choN_lt (by omega)) ?_
      refine ⟨rfl, ?_⟩
      refine x_i2l (pc' := 42) rfl rfl ?_
      refine x_lmul (pc' := 43) rfl rfl ?_
      refine x_lstore (pc' := 44) (lv' := [_, _, _, _, _, _]) rfl rfl (by decide) rfl ?_
      refine y_inc (pc' := 47) (lv' := [_, _, _, _, _, _]) rfl rfl rfl (by decide) rfl ?_
      refine x_goto rfl ?_
      exact ih (i + 1) (by omega)
set_option maxRecDepth 20000 in
set_option maxHeartbeats 1000000 in
theorem w_X10_trees {D : Nat → Nat → Int32} {L : Nat → Nat → Int64} {Q : bh_Q} {T : TW} (hW : WF T) (hR : Rn T (D 206)) {x y : Int32} (k1 : Q (some (.long (treesQ T x y))) (hp D L)) : bh_wc 5 m_X10_trees [.ref 205, .int x, .int y] (hp D L) Q := by
  refine x_start (lv0 := [_, _, _, _, _, _]) (Nat.le_of_ble_eq_true rfl) rfl ?_
  have h12 := hW.nwl
  have h16 := hW.nsl
  refine x_aload (pc' := 1) rfl rfl rfl ?_
  refine x_iload (pc' := 2) rfl rfl rfl ?_
  refine x_iload (pc' := 3) rfl rfl rfl ?_
  refine x_callV (pc' := 6) (d1 := 4) (Bs := [_, _]) rfl rfl rfl rfl rfl rfl rfl (Nat.le_of_ble_eq_true rfl) ⟨rfl, rfl⟩ (by decide) rfl (by decide) ?_
  refine w_X10_canTree hW hR (fun b q hb hq e1 e2 hS => ?_) (fun hC => ?_)
  · subst e1; subst e2
    refine ⟨rfl, ?_⟩
    refine x_if_ne (pc' := 9) rfl rfl (fun _ => ?_) (fun c6 => absurd c6 (by decide))
    refine x_long (pc' := 14) (v := (nI 1).toInt64) rfl rfl (by decide) ?_
    refine x_lstore (pc' := 15) (lv' := [_, _, _, _, _, _]) rfl rfl (by decide) rfl ?_
    refine x_int (pc' := 16) (v := nI 0) rfl rfl rfl ?_
    refine x_istore (pc' := 18) (lv' := [_, _, _, _, _, _]) rfl rfl (by decide) rfl ?_
    simp (disch := first | assumption | omega) only [treesQ, onN_1, onN_0, onP_1, onP_0, ↓reduceIte] at k1
    rw [if_pos hS] at k1
    exact l_X10_trees (d := 4) (Nat.le_refl _) hW hR hb hq hS k1 (ns T) 0 (Nat.zero_add _)
  · refine ⟨rfl, ?_⟩
    refine x_if_ne (pc' := 9) rfl rfl (fun c6 => absurd (by decide) c6) (fun _ => ?_)
    refine x_long (pc' := 12) (v := (-1 : Int32).toInt64) rfl rfl (by decide) ?_
    refine x_lret rfl rfl ?_
    rw [treesQ_0 hW hC] at k1
    exact k1
