/-! ===== nested ===== -/
set_option maxRecDepth 20000 in
set_option maxHeartbeats 1000000 in
theorem l0_X3_longestRow {L : Nat → Nat → Int64} {Q : bh_Q} {d : Nat} (hd : 1 ≤ d) {D0 : Nat → Nat → Int32} {S : Nat → Nat} (hS : ∀ j, j < 16 → S j < 4096) (h45 : ∀ j, j < 16 → D0 45 j = nI (S j)) {c : Nat} (hc1 : 1 ≤ c) (hc12 : c ≤ 12) (kE : ∀ D, OffC D0 D → D 45 = D0 45 → (∀ j, j < 16 → dnP S c 16 j → D 46 j = nI (lg S (S j))) → bw m_X3_longestRow d Q 61 [.ref 44, .int (nI (dnM S c 16)), .int (nI c), .int (nI 16)] [] D L) : ∀ (f i : Nat) (D : Nat → Nat → Int32), i + f = 16 → (OffC D0 D) → (D 45 = D0 45) → (∀ j, j < 16 → dnP S c i j → D 46 j = nI (lg S (S j))) → bw m_X3_longestRow d Q 12 [.ref 44, .int (nI (dnM S c i)), .int (nI c), .int (nI i)] [] D L := by
  intro f
  induction f with
  | zero =>
    intro i D hf o e45 hr
    have h45D : ∀ j, j < 16 → D 45 j = nI (S j) := by rw [e45]; exact h45
    refine x_iload (pc' := 13) rfl rfl rfl ?_
    refine x_int (pc' := 15) (v := nI 16) rfl rfl rfl ?_
    refine y_ic_ge (pc' := 18) rfl rfl (by omega) (by omega) (fun c15 => ?_) (fun c15 => ?_)
    · obtain rfl : i = 16 := by omega
      exact kE D o e45 hr
    · exact absurd c15 (by omega)
  | succ f ih =>
    intro i D hf o e45 hr
    have h45D : ∀ j, j < 16 → D 45 j = nI (S j) := by rw [e45]; exact h45
    refine x_iload (pc' := 13) rfl rfl rfl ?_
    refine x_int (pc' := 15) (v := nI 16) rfl rfl rfl ?_
    refine y_ic_ge (pc' := 18) rfl rfl (by omega) (by omega) (fun c15 => ?_) (fun c15 => ?_)
    · exact absurd c15 (by omega)
    · refine x_aload (pc' := 19) rfl rfl rfl ?_
      refine x_getR (pc' := 22) rfl rfl rfl (by decide) rfl (by decide) rfl rfl ?_
      refine x_iload (pc' := 23) rfl rfl rfl ?_
      refine x_iald (pc' := 24) rfl rfl (by decide) rfl (by decide) (show _ < 16 by omega) ?_
      refine x_top (h45D i (by omega)) ?_
      refine x_callS (pc' := 27) (d1 := 1) (As := [_]) rfl rfl rfl rfl (by decide) rfl rfl (Nat.le_of_ble_eq_true rfl) ⟨rfl, rfl⟩ (by omega) ?_
      refine w_bitCount (by have := hS i (by omega); omega) ?_
      refine ⟨rfl, ?_⟩
      have hpl := pcn_le (S i)
      refine x_iload (pc' := 28) rfl rfl rfl ?_
      refine y_ic_ne (pc' := 31) rfl rfl (by omega) (by omega) (fun c28 => ?_) (fun c28 => ?_)
      · refine y_inc (pc' := 58) (lv' := [_, _, _, _]) rfl rfl rfl (by decide) rfl ?_
        refine x_goto rfl ?_
        first
          | (have e := dnM_1 (S := S) hc1 (show i < 16 by omega) c28
             have hh := ih (i + 1) (bh_up2 D 46 i (nI (lg S (S i)))) (by omega) (o.tr (OffC.up (by decide) (by decide))) (by rw [bh_up2_ne _ _ _ (by decide)]; exact e45) (fun j hj hd => by
               rw [up2_at]
               by_cases ej : j = i
               · rw [if_pos ⟨rfl, ej⟩, ej]
               · rw [if_neg (fun z => ej z.2)]; exact hr j hj ⟨hd.1, hd.2.elim Or.inl (fun q => Or.inr ⟨q.1, by omega⟩)⟩)
             rw [e] at hh
             exact hh)
          | (have e := dnM_0 (S := S) c28
             have hh := ih (i + 1) D (by omega) o e45 (fun j hj hd => hr j hj ⟨hd.1, hd.2.elim Or.inl (fun q => Or.inr ⟨q.1, by have : j ≠ i := fun e => c28 (e ▸ q.1); omega⟩)⟩)
             rw [e] at hh
             exact hh)
      · refine x_aload (pc' := 32) rfl rfl rfl ?_
        refine x_getR (pc' := 35) rfl rfl rfl (by decide) rfl (by decide) rfl rfl ?_
        refine x_iload (pc' := 36) rfl rfl rfl ?_
        refine x_int (pc' := 37) (v := nI 1) rfl rfl rfl ?_
        refine x_aload (pc' := 38) rfl rfl rfl ?_
        refine x_iload (pc' := 39) rfl rfl rfl ?_
        refine x_callV (pc' := 42) (d1 := 1) (Bs := [_]) rfl rfl rfl rfl rfl rfl rfl (Nat.le_of_ble_eq_true rfl) ⟨rfl, rfl⟩ (by decide) rfl (by omega) ?_
        refine w_X3_longestWithin hS h45D (show i < 16 by omega) (fun j hj h1 h2 h3 => hr j hj ⟨by have : pcn (S j) ≠ 0 := fun z => h1 (pcn_0 (by have := hS j hj; omega) z); omega, Or.inl (by have := sbN_lt (by have := hS i (by omega); omega) h3 h2; omega)⟩) ?_
        refine ⟨rfl, ?_⟩
        have hl17 := lg_le (S := S) (S i)
        have hwl := wiM_le S (S i) 16
        refine y_iadd (pc' := 43) rfl rfl ?_
        rw [show 1 + maxN (wiN S (S i)) 16 = lg S (S i) from (lg_eq (by have := hS i (by omega); omega) (fun z => by rw [z, pcn_z] at c28; omega)).symm]
        refine x_iast (pc' := 44) rfl rfl (by decide) rfl (by decide) (show _ < 16 by omega) ?_
        refine x_iload (pc' := 45) rfl rfl rfl ?_
        refine x_aload (pc' := 46) rfl rfl rfl ?_
        refine x_getR (pc' := 49) rfl rfl rfl (by decide) rfl (by decide) rfl rfl ?_
        refine x_iload (pc' := 50) rfl rfl rfl ?_
        refine x_iald (pc' := 51) rfl rfl (by decide) rfl (by decide) (show _ < 16 by omega) ?_
        refine x_top (bh_up2_self _ _ _ _) ?_
        refine x_max (pc' := 54) rfl rfl (Nat.le_of_ble_eq_true rfl) (nI_max (by have := dnM_le S c i; omega) (by omega)) ?_
        refine x_istore (pc' := 55) (lv' := [_, _, _, _]) rfl rfl (by decide) rfl ?_
        refine y_inc (pc' := 58) (lv' := [_, _, _, _]) rfl rfl rfl (by decide) rfl ?_
        refine x_goto rfl ?_
        first
          | (have e := dnM_1 (S := S) hc1 (show i < 16 by omega) c28
             have hh := ih (i + 1) (bh_up2 D 46 i (nI (lg S (S i)))) (by omega) (o.tr (OffC.up (by decide) (by decide))) (by rw [bh_up2_ne _ _ _ (by decide)]; exact e45) (fun j hj hd => by
               rw [up2_at]
               by_cases ej : j = i
               · rw [if_pos ⟨rfl, ej⟩, ej]
               · rw [if_neg (fun z => ej z.2)]; exact hr j hj ⟨hd.1, hd.2.elim Or.inl (fun q => Or.inr ⟨q.1, by omega⟩)⟩)
             rw [e] at hh
             exact hh)
          | (have e := dnM_0 (S := S) c28
             have hh := ih (i + 1) D (by omega) o e45 (fun j hj hd => hr j hj ⟨hd.1, hd.2.elim Or.inl (fun q => Or.inr ⟨q.1, by have : j ≠ i := fun e => c28 (e ▸ q.1); omega⟩)⟩)
             rw [e] at hh
             exact hh)
set_option maxRecDepth 20000 in
set_option maxHeartbeats 1000000 in
theorem l1_X3_longestRow {L : Nat → Nat → Int64} {Q : bh_Q} {d : Nat} (hd : 1 ≤ d) {D0 : Nat → Nat → Int32} {S : Nat → Nat} (hS : ∀ j, j < 16 → S j < 4096) (h45 : ∀ j, j < 16 → D0 45 j = nI (S j)) (k1 : ∀ D, OffC D0 D → Q (some (.int (nI (lgM S)))) (hp D L)) : ∀ (f i : Nat) (D : Nat → Nat → Int32) (a3 : Value), i + f = 12 → (OffC D0 D) → (D 45 = D0 45) → (∀ j, j < 16 → dnP S (i + 1) 0 j → D 46 j = nI (lg S (S j))) → bw m_X3_longestRow d Q 4 [.ref 44, .int (nI (dnM S (i + 1) 0)), .int (nI (i + 1)), a3] [] D L := by
  intro f
  induction f with
  | zero =>
    intro i D a3 hf o e45 hr
    refine x_iload (pc' := 5) rfl rfl rfl ?_
    refine x_int (pc' := 7) (v := nI 12) rfl rfl rfl ?_
    refine y_ic_gt (pc' := 10) rfl rfl (by omega) (by omega) (fun c7 => ?_) (fun c7 => ?_)
    · refine x_iload (pc' := 68) rfl rfl rfl ?_
      refine x_iret rfl rfl ?_
      obtain rfl : i = 12 := by omega
      rw [dnM_e hS]
      exact k1 D o
    · exact absurd c7 (by omega)
  | succ f ih =>
    intro i D a3 hf o e45 hr
    refine x_iload (pc' := 5) rfl rfl rfl ?_
    refine x_int (pc' := 7) (v := nI 12) rfl rfl rfl ?_
    refine y_ic_gt (pc' := 10) rfl rfl (by omega) (by omega) (fun c7 => ?_) (fun c7 => ?_)
    · exact absurd c7 (by omega)
    · refine x_int (pc' := 11) (v := nI 0) rfl rfl rfl ?_
      refine x_istore (pc' := 12) (lv' := [_, _, _, _]) rfl rfl (by decide) rfl ?_
      refine l0_X3_longestRow (d := d) hd hS h45 (c := i + 1) (by omega) (by omega) (fun D2 o2 q2 h2 => ?_) 16 0 D rfl o e45 hr
      refine y_inc (pc' := 64) (lv' := [_, _, _, _]) rfl rfl rfl (by decide) rfl ?_
      refine x_goto rfl ?_
      have hh := ih (i + 1) D2 (.int (nI 16)) (by omega) o2 q2 (fun j hj hd => h2 j hj ((dnP_s hj).mpr hd))
      rw [dnM_s] at hh
      exact hh
set_option maxRecDepth 20000 in
set_option maxHeartbeats 1000000 in
theorem w_X3_longestRow {D : Nat → Nat → Int32} {L : Nat → Nat → Int64} {Q : bh_Q} {S : Nat → Nat} (hS : ∀ j, j < 16 → S j < 4096) (h45 : ∀ j, j < 16 → D 45 j = nI (S j)) (k1 : ∀ D1, OffC D D1 → Q (some (.int (nI (lgM S)))) (hp D1 L)) : bh_wc 2 m_X3_longestRow [.ref 44] (hp D L) Q := by
  refine x_start (lv0 := [_, _, _, _]) (Nat.le_of_ble_eq_true rfl) rfl ?_
  refine x_int (pc' := 1) (v := nI 0) rfl rfl rfl ?_
  refine x_istore (pc' := 2) (lv' := [_, _, _, _]) rfl rfl (by decide) rfl ?_
  refine x_int (pc' := 3) (v := nI 1) rfl rfl rfl ?_
  refine x_istore (pc' := 4) (lv' := [_, _, _, _]) rfl rfl (by decide) rfl ?_
  have hh := l1_X3_longestRow (L := L) (Q := Q) (d := 1) (Nat.le_refl _) hS h45 (D0 := D) k1 12 0 D .null rfl OffC.rf rfl (fun j hj hd => by have := hd.2; omega)
  rw [dnM_z] at hh
  exact hh
set_option maxRecDepth 20000 in
set_option maxHeartbeats 1000000 in
theorem w_X9_nested {D : Nat → Nat → Int32} {L : Nat → Nat → Int64} {Q : bh_Q} (hW : WF (tv D)) {y z v : Int32} (k1 : ∀ D1, OffC D D1 → Q (some (.int (nestedQ (tv D) y z v))) (hp D1 L)) : bh_wc 5 m_X9_nested [.ref 0, .int y, .int z, .int v] (hp D L) Q := by
  refine x_start (lv0 := [_, _, _, _]) (Nat.le_of_ble_eq_true rfl) rfl ?_
  refine x_aload (pc' := 1) rfl rfl rfl ?_
  refine x_getR (pc' := 4) rfl rfl rfl (by decide) rfl (by decide) rfl rfl ?_
  refine x_iload (pc' := 5) rfl rfl rfl ?_
  refine x_iload (pc' := 6) rfl rfl rfl ?_
  refine x_callV (pc' := 9) (d1 := 2) (Bs := [_, _]) rfl rfl rfl rfl rfl rfl rfl (Nat.le_of_ble_eq_true rfl) ⟨rfl, rfl⟩ (by decide) rfl (by decide) ?_
  refine w_X7_isPage hW (fun b q hb hq e1 e2 => ?_) (fun hn => ?_)
  · subst e1; subst e2
    refine ⟨rfl, ?_⟩
    refine x_if_eq (pc' := 12) rfl rfl (fun c9 => absurd c9 (by decide)) (fun _ => ?_)
    refine x_iload (pc' := 13) rfl rfl rfl ?_
    refine x_if_lt (pc' := 16) rfl rfl (fun c13 => ?_) (fun c13 => ?_)
    · have hv := okN_neg (n := 4) (by decide) c13
      refine x_int (pc' := 22) (v := (-1)) rfl rfl rfl ?_
      refine x_iret rfl rfl ?_
      simp (disch := first | assumption | omega) only [nestedQ, onN_1, onN_0, onP_1, onP_0, ↓reduceIte] at k1
      exact k1 D OffC.rf
    · refine x_iload (pc' := 17) rfl rfl rfl ?_
      refine x_int (pc' := 18) (v := nI 3) rfl rfl rfl ?_
      refine x_ic_le (pc' := 21) rfl rfl (fun c18 => ?_) (fun c18 => ?_)
      · obtain ⟨m, hm, rfl⟩ := le_ofI (n := 3) c13 c18
        refine x_aload (pc' := 24) rfl rfl rfl ?_
        refine x_getR (pc' := 27) rfl rfl rfl (by decide) rfl (by decide) rfl rfl ?_
        refine x_aload (pc' := 28) rfl rfl rfl ?_
        refine x_getR (pc' := 31) rfl rfl rfl (by decide) rfl (by decide) rfl rfl ?_
        refine x_aload (pc' := 32) rfl rfl rfl ?_
        refine x_getR (pc' := 35) rfl rfl rfl (by decide) rfl (by decide) rfl rfl ?_
        refine x_iload (pc' := 36) rfl rfl rfl ?_
        refine x_iload (pc' := 37) rfl rfl rfl ?_
        refine x_callV (pc' := 40) (d1 := 4) (Bs := [_, _, _, _]) rfl rfl rfl rfl rfl rfl rfl (Nat.le_of_ble_eq_true rfl) ⟨rfl, rfl⟩ (by decide) rfl (by decide) ?_
        refine w_X3_gather hW hb hq (fun D1 o1 h1 => ?_)
        refine ⟨rfl, ?_⟩
        refine x_iload (pc' := 41) rfl rfl rfl ?_
        rcases (show m = 0 ∨ m = 1 ∨ m = 2 ∨ m = 3 by omega) with rfl | rfl | rfl | rfl
        · refine x_tabN (n := 0) (t := 68) rfl (by decide) rfl ?_
          refine x_aload (pc' := 69) rfl rfl rfl ?_
          refine x_getR (pc' := 72) rfl rfl rfl (by decide) rfl (by decide) rfl rfl ?_
          refine x_callV (pc' := 75) (d1 := 2) (Bs := []) rfl rfl rfl rfl rfl rfl rfl (Nat.le_of_ble_eq_true rfl) ⟨rfl, rfl⟩ (by decide) rfl (by decide) ?_
          refine w_X3_clashes (S := errN (tv D) b q) (fun j _ => errN_lt hW) h1 ?_
          refine ⟨rfl, ?_⟩
          have hcl := clS_le (errN (tv D) b q)
          refine y_if_ne (pc' := 78) rfl rfl (by omega) (fun c75 => ?_) (fun c75 => ?_)
          · refine x_int (pc' := 83) (v := nI 0) rfl rfl rfl ?_
            refine x_iret rfl rfl ?_
            simp (disch := first | assumption | omega) only [nestedQ, onN_1, onN_0, onP_1, onP_0, ↓reduceIte] at k1
            first
              | exact k1 D1 o1
              | exact k1 D2 (o1.tr o2)
              | (have e : nestV (errN (tv D) b q) 0 = nI 1 := congrArg nI (if_pos c75)
                 rw [e] at k1; exact k1 D1 o1)
              | (have e : nestV (errN (tv D) b q) 0 = nI 0 := congrArg nI (if_neg c75)
                 rw [e] at k1; exact k1 D1 o1)
          · refine x_int (pc' := 79) (v := nI 1) rfl rfl rfl ?_
            refine x_goto rfl ?_
            refine x_iret rfl rfl ?_
            simp (disch := first | assumption | omega) only [nestedQ, onN_1, onN_0, onP_1, onP_0, ↓reduceIte] at k1
            first
              | exact k1 D1 o1
              | exact k1 D2 (o1.tr o2)
              | (have e : nestV (errN (tv D) b q) 0 = nI 1 := congrArg nI (if_pos c75)
                 rw [e] at k1; exact k1 D1 o1)
              | (have e : nestV (errN (tv D) b q) 0 = nI 0 := congrArg nI (if_neg c75)
                 rw [e] at k1; exact k1 D1 o1)
        · refine x_tabN (n := 1) (t := 84) rfl (by decide) rfl ?_
          refine x_aload (pc' := 85) rfl rfl rfl ?_
          refine x_getR (pc' := 88) rfl rfl rfl (by decide) rfl (by decide) rfl rfl ?_
          refine x_callV (pc' := 91) (d1 := 2) (Bs := []) rfl rfl rfl rfl rfl rfl rfl (Nat.le_of_ble_eq_true rfl) ⟨rfl, rfl⟩ (by decide) rfl (by decide) ?_
          refine w_X3_clashes (S := errN (tv D) b q) (fun j _ => errN_lt hW) h1 ?_
          refine ⟨rfl, ?_⟩
          refine x_iret rfl rfl ?_
          simp (disch := first | assumption | omega) only [nestedQ, onN_1, onN_0, onP_1, onP_0, ↓reduceIte] at k1
          first
            | exact k1 D1 o1
            | exact k1 D2 (o1.tr o2)
            | (have e : nestV (errN (tv D) b q) 0 = nI 1 := congrArg nI (if_pos c75)
               rw [e] at k1; exact k1 D1 o1)
            | (have e : nestV (errN (tv D) b q) 0 = nI 0 := congrArg nI (if_neg c75)
               rw [e] at k1; exact k1 D1 o1)
        · refine x_tabN (n := 2) (t := 92) rfl (by decide) rfl ?_
          refine x_aload (pc' := 93) rfl rfl rfl ?_
          refine x_getR (pc' := 96) rfl rfl rfl (by decide) rfl (by decide) rfl rfl ?_
          refine x_callV (pc' := 99) (d1 := 2) (Bs := []) rfl rfl rfl rfl rfl rfl rfl (Nat.le_of_ble_eq_true rfl) ⟨rfl, rfl⟩ (by decide) rfl (by decide) ?_
          refine w_X3_unlikeSets (S := errN (tv D) b q) (fun j _ => errN_lt hW) h1 ?_
          refine ⟨rfl, ?_⟩
          refine x_iret rfl rfl ?_
          simp (disch := first | assumption | omega) only [nestedQ, onN_1, onN_0, onP_1, onP_0, ↓reduceIte] at k1
          first
            | exact k1 D1 o1
            | exact k1 D2 (o1.tr o2)
            | (have e : nestV (errN (tv D) b q) 0 = nI 1 := congrArg nI (if_pos c75)
               rw [e] at k1; exact k1 D1 o1)
            | (have e : nestV (errN (tv D) b q) 0 = nI 0 := congrArg nI (if_neg c75)
               rw [e] at k1; exact k1 D1 o1)
        · refine x_tabO rfl (Or.inr (by decide)) (by decide) ?_
          refine x_aload (pc' := 101) rfl rfl rfl ?_
          refine x_getR (pc' := 104) rfl rfl rfl (by decide) rfl (by decide) rfl rfl ?_
          refine x_callV (pc' := 107) (d1 := 2) (Bs := []) rfl rfl rfl rfl rfl rfl rfl (Nat.le_of_ble_eq_true rfl) ⟨rfl, rfl⟩ (by decide) rfl (by decide) ?_
          refine w_X3_longestRow (S := errN (tv D) b q) (fun j _ => errN_lt hW) h1 (fun D2 o2 => ?_)
          refine ⟨rfl, ?_⟩
          refine x_iret rfl rfl ?_
          simp (disch := first | assumption | omega) only [nestedQ, onN_1, onN_0, onP_1, onP_0, ↓reduceIte] at k1
          first
            | exact k1 D1 o1
            | exact k1 D2 (o1.tr o2)
            | (have e : nestV (errN (tv D) b q) 0 = nI 1 := congrArg nI (if_pos c75)
               rw [e] at k1; exact k1 D1 o1)
            | (have e : nestV (errN (tv D) b q) 0 = nI 0 := congrArg nI (if_neg c75)
               rw [e] at k1; exact k1 D1 o1)
      · have hv := okN_gt (n := 3) (by decide) (Int32.not_le.mp c18)
        refine x_int (pc' := 22) (v := (-1)) rfl rfl rfl ?_
        refine x_iret rfl rfl ?_
        simp (disch := first | assumption | omega) only [nestedQ, onN_1, onN_0, onP_1, onP_0, ↓reduceIte] at k1
        exact k1 D OffC.rf
  · refine ⟨rfl, ?_⟩
    refine x_if_eq (pc' := 12) rfl rfl (fun _ => ?_) (fun c9 => absurd (by decide) c9)
    refine x_int (pc' := 22) (v := (-1)) rfl rfl rfl ?_
    refine x_iret rfl rfl ?_
    simp (disch := first | assumption | omega) only [nestedQ, onN_1, onN_0, onP_1, onP_0, ↓reduceIte] at k1
    exact k1 D OffC.rf
set_option maxRecDepth 20000 in
set_option maxHeartbeats 1000000 in
theorem l_X10_errorsOf {L : Nat → Nat → Int64} {Q : bh_Q} {d : Nat} (hd : 5 ≤ d) {T : TW} (hW : WF T) {D0 : Nat → Nat → Int32} {b q s : Nat} (hb : b < nb T) (hq : q < lng T b) (hs : s < 16) (k1 : ∀ D, OffL [212] D0 D → Q (some (.int (nI (errN T b q s)))) (hp D L)) : ∀ (f i : Nat) (D : Nat → Nat → Int32) (a6 : Value), i + f = nw T → (OffL [212] D0 D) → (Rn T (D 206)) → bw m_X10_errorsOf d Q 6 [.ref 205, .int (nI b), .int (nI q), .int (nI s), .int (nI (setF (errF T b q s) i)), .int (nI i), a6] [] D L := by
  intro f
  induction f with
  | zero =>
    intro i D a6 hf o hR
    have h12 := hW.nwl
    have h4 := hW.nbl
    have h8 := hW.lngl hb
    have hpl := hW.pgl hb hq
    refine x_iload (pc' := 8) rfl rfl rfl ?_
    refine x_aload (pc' := 9) rfl rfl rfl ?_
    refine x_getR (pc' := 12) rfl rfl rfl (by decide) rfl (by decide) rfl rfl ?_
    refine x_int (pc' := 13) (v := nI 0) rfl rfl rfl ?_
    refine x_iald (pc' := 14) rfl rfl (by decide) rfl (by decide) (show _ < 560 by omega) ?_
    refine x_top (hR.1.1.trans hW.enw) ?_
    refine y_ic_ge (pc' := 17) rfl rfl (by omega) (by omega) (fun c14 => ?_) (fun c14 => ?_)
    · refine x_iload (pc' := 74) rfl rfl rfl ?_
      refine x_iret rfl rfl ?_
      obtain rfl : i = nw T := by omega
      exact k1 D o
    · exact absurd c14 (by omega)
  | succ f ih =>
    intro i D a6 hf o hR
    have h12 := hW.nwl
    have h4 := hW.nbl
    have h8 := hW.lngl hb
    have hpl := hW.pgl hb hq
    refine x_iload (pc' := 8) rfl rfl rfl ?_
    refine x_aload (pc' := 9) rfl rfl rfl ?_
    refine x_getR (pc' := 12) rfl rfl rfl (by decide) rfl (by decide) rfl rfl ?_
    refine x_int (pc' := 13) (v := nI 0) rfl rfl rfl ?_
    refine x_iald (pc' := 14) rfl rfl (by decide) rfl (by decide) (show _ < 560 by omega) ?_
    refine x_top (hR.1.1.trans hW.enw) ?_
    refine y_ic_ge (pc' := 17) rfl rfl (by omega) (by omega) (fun c14 => ?_) (fun c14 => ?_)
    · exact absurd c14 (by omega)
    · refine x_aload (pc' := 18) rfl rfl rfl ?_
      refine x_iload (pc' := 20) rfl rfl rfl ?_
      refine x_iload (pc' := 21) rfl rfl rfl ?_
      refine x_iload (pc' := 22) rfl rfl rfl ?_
      refine x_callV (pc' := 25) (d1 := 5) (Bs := [_, _, _]) rfl rfl rfl rfl rfl rfl rfl (Nat.le_of_ble_eq_true rfl) ⟨rfl, rfl⟩ (by decide) rfl (by omega) ?_
      refine w_X10_lineOf hW hR (show i < nw T by omega) hb hq (fun D1 o1 => ?_)
      rcases hz : lnO T i b q with _ | r
      · refine ⟨rfl, ?_⟩
        refine x_istore (pc' := 27) (lv' := [_, _, _, _, _, _, _]) rfl rfl (by decide) rfl ?_
        refine x_iload (pc' := 29) rfl rfl rfl ?_
        refine x_iload (pc' := 31) rfl rfl rfl ?_
        refine x_int (pc' := 33) (v := (-2)) rfl rfl rfl ?_
        refine x_ic_eq (pc' := 36) rfl rfl (fun _ => ?_) (fun c33 => absurd (by decide) c33)
        refine x_int (pc' := 63) (v := nI 0) rfl rfl rfl ?_
        refine y_ior (pc' := 64) rfl rfl ?_
        refine x_istore (pc' := 66) (lv' := [_, _, _, _, _, _, _]) rfl rfl (by decide) rfl ?_
        refine y_inc (pc' := 69) (lv' := [_, _, _, _, _, _, _]) rfl rfl rfl (by decide) rfl ?_
        refine x_goto rfl ?_
        first
          | (have e := setF_1 (f := (errF T b q s)) (i := i) (by show (wrW T b q i).testBit s = _; rw [wrW_1 hz, Nat.testBit_xor, hh1, hh2]; rfl)
             have hh := fun z => ih (i + 1) D1 z (by omega) (o.tr o1) (OffL212.rn o1 hR)
             rw [e] at hh
             exact hh _)
          | (have e := setF_00 (f := (errF T b q s)) (i := i) (by show (wrW T b q i).testBit s = _; rw [wrW_1 hz, Nat.testBit_xor, hh1, hh2]; rfl)
             have hh := fun z => ih (i + 1) D1 z (by omega) (o.tr o1) (OffL212.rn o1 hR)
             rw [e] at hh
             exact hh _)
          | (have e := setF_00 (f := (errF T b q s)) (i := i) (by show (wrW T b q i).testBit s = _; rw [wrW_0 hz, Nat.zero_testBit])
             have hh := fun z => ih (i + 1) D1 z (by omega) (o.tr o1) (OffL212.rn o1 hR)
             rw [e] at hh
             exact hh _)
      · refine ⟨rfl, ?_⟩
        have hrl := lnO_lt hW (show i < nw T by omega) hb hq hz
        have hR1 := OffL212.rn o1 hR
        refine x_istore (pc' := 27) (lv' := [_, _, _, _, _, _, _]) rfl rfl (by decide) rfl ?_
        refine x_iload (pc' := 29) rfl rfl rfl ?_
        refine x_iload (pc' := 31) rfl rfl rfl ?_
        refine x_int (pc' := 33) (v := (-2)) rfl rfl rfl ?_
        refine x_ic_eq (pc' := 36) rfl rfl (fun c33 => ?_) (fun c33 => ?_)
        · exact absurd c33 (nI_m2 (by omega))
        · refine x_iload (pc' := 38) rfl rfl rfl ?_
          refine x_iload (pc' := 39) rfl rfl rfl ?_
          refine x_callS (pc' := 42) (d1 := 1) (As := [_, _]) rfl rfl rfl rfl (by decide) rfl rfl (Nat.le_of_ble_eq_true rfl) ⟨rfl, rfl⟩ (by omega) ?_
          refine w_X10_has (by omega) (by omega) (fun hh1 => ?_) (fun hh1 => ?_)
          · refine ⟨rfl, ?_⟩
            refine x_aload (pc' := 43) rfl rfl rfl ?_
            refine x_iload (pc' := 44) rfl rfl rfl ?_
            refine x_iload (pc' := 45) rfl rfl rfl ?_
            refine x_callV (pc' := 48) (d1 := 1) (Bs := [_, _]) rfl rfl rfl rfl rfl rfl rfl (Nat.le_of_ble_eq_true rfl) ⟨rfl, rfl⟩ (by decide) rfl (by omega) ?_
            refine w_X10_pageOf hW hR1 hb hq ?_
            refine ⟨rfl, ?_⟩
            refine x_iload (pc' := 49) rfl rfl rfl ?_
            refine x_callS (pc' := 52) (d1 := 1) (As := [_, _]) rfl rfl rfl rfl (by decide) rfl rfl (Nat.le_of_ble_eq_true rfl) ⟨rfl, rfl⟩ (by omega) ?_
            refine w_X10_has (by omega) (by omega) (fun hh2 => ?_) (fun hh2 => ?_)
            · refine ⟨rfl, ?_⟩
              refine x_ic_eq (pc' := 55) rfl rfl (fun _ => ?_) (fun c52 => absurd (by decide) c52)
              refine x_int (pc' := 63) (v := nI 0) rfl rfl rfl ?_
              refine y_ior (pc' := 64) rfl rfl ?_
              refine x_istore (pc' := 66) (lv' := [_, _, _, _, _, _, _]) rfl rfl (by decide) rfl ?_
              refine y_inc (pc' := 69) (lv' := [_, _, _, _, _, _, _]) rfl rfl rfl (by decide) rfl ?_
              refine x_goto rfl ?_
              first
                | (have e := setF_1 (f := (errF T b q s)) (i := i) (by show (wrW T b q i).testBit s = _; rw [wrW_1 hz, Nat.testBit_xor, hh1, hh2]; rfl)
                   have hh := fun z => ih (i + 1) D1 z (by omega) (o.tr o1) (OffL212.rn o1 hR)
                   rw [e] at hh
                   exact hh _)
                | (have e := setF_00 (f := (errF T b q s)) (i := i) (by show (wrW T b q i).testBit s = _; rw [wrW_1 hz, Nat.testBit_xor, hh1, hh2]; rfl)
                   have hh := fun z => ih (i + 1) D1 z (by omega) (o.tr o1) (OffL212.rn o1 hR)
                   rw [e] at hh
                   exact hh _)
                | (have e := setF_00 (f := (errF T b q s)) (i := i) (by show (wrW T b q i).testBit s = _; rw [wrW_0 hz, Nat.zero_testBit])
                   have hh := fun z => ih (i + 1) D1 z (by omega) (o.tr o1) (OffL212.rn o1 hR)
                   rw [e] at hh
                   exact hh _)
            · refine ⟨rfl, ?_⟩
              refine x_ic_eq (pc' := 55) rfl rfl (fun c52 => absurd c52 (by decide)) (fun _ => ?_)
              refine x_int (pc' := 56) (v := nI 1) rfl rfl rfl ?_
              refine x_iload (pc' := 58) rfl rfl rfl ?_
              refine y_ishl (pc' := 59) rfl rfl (by omega) ?_
              refine x_goto rfl ?_
              refine y_ior (pc' := 64) rfl rfl ?_
              refine x_istore (pc' := 66) (lv' := [_, _, _, _, _, _, _]) rfl rfl (by decide) rfl ?_
              refine y_inc (pc' := 69) (lv' := [_, _, _, _, _, _, _]) rfl rfl rfl (by decide) rfl ?_
              refine x_goto rfl ?_
              first
                | (have e := setF_1 (f := (errF T b q s)) (i := i) (by show (wrW T b q i).testBit s = _; rw [wrW_1 hz, Nat.testBit_xor, hh1, hh2]; rfl)
                   have hh := fun z => ih (i + 1) D1 z (by omega) (o.tr o1) (OffL212.rn o1 hR)
                   rw [e] at hh
                   exact hh _)
                | (have e := setF_00 (f := (errF T b q s)) (i := i) (by show (wrW T b q i).testBit s = _; rw [wrW_1 hz, Nat.testBit_xor, hh1, hh2]; rfl)
                   have hh := fun z => ih (i + 1) D1 z (by omega) (o.tr o1) (OffL212.rn o1 hR)
                   rw [e] at hh
                   exact hh _)
                | (have e := setF_00 (f := (errF T b q s)) (i := i) (by show (wrW T b q i).testBit s = _; rw [wrW_0 hz, Nat.zero_testBit])
                   have hh := fun z => ih (i + 1) D1 z (by omega) (o.tr o1) (OffL212.rn o1 hR)
                   rw [e] at hh
                   exact hh _)
          · refine ⟨rfl, ?_⟩
            refine x_aload (pc' := 43) rfl rfl rfl ?_
            refine x_iload (pc' := 44) rfl rfl rfl ?_
            refine x_iload (pc' := 45) rfl rfl rfl ?_
            refine x_callV (pc' := 48) (d1 := 1) (Bs := [_, _]) rfl rfl rfl rfl rfl rfl rfl (Nat.le_of_ble_eq_true rfl) ⟨rfl, rfl⟩ (by decide) rfl (by omega) ?_
            refine w_X10_pageOf hW hR1 hb hq ?_
            refine ⟨rfl, ?_⟩
            refine x_iload (pc' := 49) rfl rfl rfl ?_
            refine x_callS (pc' := 52) (d1 := 1) (As := [_, _]) rfl rfl rfl rfl (by decide) rfl rfl (Nat.le_of_ble_eq_true rfl) ⟨rfl, rfl⟩ (by omega) ?_
            refine w_X10_has (by omega) (by omega) (fun hh2 => ?_) (fun hh2 => ?_)
            · refine ⟨rfl, ?_⟩
              refine x_ic_eq (pc' := 55) rfl rfl (fun c52 => absurd c52 (by decide)) (fun _ => ?_)
              refine x_int (pc' := 56) (v := nI 1) rfl rfl rfl ?_
              refine x_iload (pc' := 58) rfl rfl rfl ?_
              refine y_ishl (pc' := 59) rfl rfl (by omega) ?_
              refine x_goto rfl ?_
              refine y_ior (pc' := 64) rfl rfl ?_
              refine x_istore (pc' := 66) (lv' := [_, _, _, _, _, _, _]) rfl rfl (by decide) rfl ?_
              refine y_inc (pc' := 69) (lv' := [_, _, _, _, _, _, _]) rfl rfl rfl (by decide) rfl ?_
              refine x_goto rfl ?_
              first
                | (have e := setF_1 (f := (errF T b q s)) (i := i) (by show (wrW T b q i).testBit s = _; rw [wrW_1 hz, Nat.testBit_xor, hh1, hh2]; rfl)
                   have hh := fun z => ih (i + 1) D1 z (by omega) (o.tr o1) (OffL212.rn o1 hR)
                   rw [e] at hh
                   exact hh _)
                | (have e := setF_00 (f := (errF T b q s)) (i := i) (by show (wrW T b q i).testBit s = _; rw [wrW_1 hz, Nat.testBit_xor, hh1, hh2]; rfl)
                   have hh := fun z => ih (i + 1) D1 z (by omega) (o.tr o1) (OffL212.rn o1 hR)
                   rw [e] at hh
                   exact hh _)
                | (have e := setF_00 (f := (errF T b q s)) (i := i) (by show (wrW T b q i).testBit s = _; rw [wrW_0 hz, Nat.zero_testBit])
                   have hh := fun z => ih (i + 1) D1 z (by omega) (o.tr o1) (OffL212.rn o1 hR)
                   rw [e] at hh
                   exact hh _)
            · refine ⟨rfl, ?_⟩
              refine x_ic_eq (pc' := 55) rfl rfl (fun _ => ?_) (fun c52 => absurd (by decide) c52)
              refine x_int (pc' := 63) (v := nI 0) rfl rfl rfl ?_
              refine y_ior (pc' := 64) rfl rfl ?_
              refine x_istore (pc' := 66) (lv' := [_, _, _, _, _, _, _]) rfl rfl (by decide) rfl ?_
              refine y_inc (pc' := 69) (lv' := [_, _, _, _, _, _, _]) rfl rfl rfl (by decide) rfl ?_
              refine x_goto rfl ?_
              first
                | (have e := setF_1 (f := (errF T b q s)) (i := i) (by show (wrW T b q i).testBit s = _; rw [wrW_1 hz, Nat.testBit_xor, hh1, hh2]; rfl)
                   have hh := fun z => ih (i + 1) D1 z (by omega) (o.tr o1) (OffL212.rn o1 hR)
                   rw [e] at hh
                   exact hh _)
                | (have e := setF_00 (f := (errF T b q s)) (i := i) (by show (wrW T b q i).testBit s = _; rw [wrW_1 hz, Nat.testBit_xor, hh1, hh2]; rfl)
                   have hh := fun z => ih (i + 1) D1 z (by omega) (o.tr o1) (OffL212.rn o1 hR)
                   rw [e] at hh
                   exact hh _)
                | (have e := setF_00 (f := (errF T b q s)) (i := i) (by show (wrW T b q i).testBit s = _; rw [wrW_0 hz, Nat.zero_testBit])
                   have hh := fun z => ih (i + 1) D1 z (by omega) (o.tr o1) (OffL212.rn o1 hR)
                   rw [e] at hh
                   exact hh _)
set_option maxRecDepth 20000 in
set_option maxHeartbeats 1000000 in
theorem w_X10_errorsOf {D : Nat → Nat → Int32} {L : Nat → Nat → Int64} {Q : bh_Q} {T : TW} (hW : WF T) (hR : Rn T (D 206)) {b q s : Nat} (hb : b < nb T) (hq : q < lng T b) (hs : s < 16) (k1 : ∀ D', OffL [212] D D' → Q (some (.int (nI (errN T b q s)))) (hp D' L)) : bh_wc 6 m_X10_errorsOf [.ref 205, .int (nI b), .int (nI q), .int (nI s)] (hp D L) Q := by
  refine x_start (lv0 := [_, _, _, _, _, _, _]) (Nat.le_of_ble_eq_true rfl) rfl ?_
  refine x_int (pc' := 1) (v := nI 0) rfl rfl rfl ?_
  refine x_istore (pc' := 3) (lv' := [_, _, _, _, _, _, _]) rfl rfl (by decide) rfl ?_
  refine x_int (pc' := 4) (v := nI 0) rfl rfl rfl ?_
  refine x_istore (pc' := 6) (lv' := [_, _, _, _, _, _, _]) rfl rfl (by decide) rfl ?_
  exact l_X10_errorsOf (d := 5) (Nat.le_refl _) hW hb hq hs k1 (nw T) 0 D .null (Nat.zero_add _) OffL.rf hR
set_option maxRecDepth 20000 in
set_option maxHeartbeats 1000000 in
theorem w_X10_errors {D : Nat → Nat → Int32} {L : Nat → Nat → Int64} {Q : bh_Q} {T : TW} (hW : WF T) (hR : Rn T (D 206)) {y z s : Int32} (k1 : ∀ D1, OffM D D1 → Q (some (.int (errorsQ T y z s))) (hp D1 L)) : bh_wc 7 m_X10_errors [.ref 205, .int y, .int z, .int s] (hp D L) Q := by
  refine x_start (lv0 := [_, _, _, _]) (Nat.le_of_ble_eq_true rfl) rfl ?_
  refine x_aload (pc' := 1) rfl rfl rfl ?_
  refine x_iload (pc' := 2) rfl rfl rfl ?_
  refine x_iload (pc' := 3) rfl rfl rfl ?_
  refine x_callV (pc' := 6) (d1 := 3) (Bs := [_, _]) rfl rfl rfl rfl rfl rfl rfl (Nat.le_of_ble_eq_true rfl) ⟨rfl, rfl⟩ (by decide) rfl (by decide) ?_
  refine w_X10_isPage hW hR (fun b q hb hq e1 e2 => ?_) (fun hn => ?_)
  · subst e1; subst e2
    refine ⟨rfl, ?_⟩
    refine x_if_eq (pc' := 9) rfl rfl (fun c6 => absurd c6 (by decide)) (fun _ => ?_)
    refine x_iload (pc' := 10) rfl rfl rfl ?_
    refine x_i2l (pc' := 11) rfl rfl ?_
    refine x_long (pc' := 12) (v := (nI 0).toInt64) rfl rfl (by decide) ?_
    refine x_long (pc' := 15) (v := (nI 15).toInt64) rfl rfl (by decide) ?_
    refine x_callS (pc' := 18) (d1 := 1) (As := [_, _, _]) rfl rfl rfl rfl (by decide) rfl rfl (Nat.le_of_ble_eq_true rfl) ⟨rfl, rfl⟩ (by decide) ?_
    refine w_X10_in (fun h15a h15b => ?_) (fun h15 => ?_)
    · obtain ⟨h15w, h15l, rfl⟩ := in_okL (n := 15) (by decide) h15a h15b
      refine ⟨rfl, ?_⟩
      refine x_if_eq (pc' := 21) rfl rfl (fun c18 => absurd c18 (by decide)) (fun _ => ?_)
      refine x_aload (pc' := 22) rfl rfl rfl ?_
      refine x_iload (pc' := 23) rfl rfl rfl ?_
      refine x_iload (pc' := 24) rfl rfl rfl ?_
      refine x_iload (pc' := 25) rfl rfl rfl ?_
      refine x_callV (pc' := 28) (d1 := 6) (Bs := [_, _, _]) rfl rfl rfl rfl rfl rfl rfl (Nat.le_of_ble_eq_true rfl) ⟨rfl, rfl⟩ (by decide) rfl (by decide) ?_
      refine w_X10_errorsOf hW hR hb hq h15l (fun D1 o1 => ?_)
      refine ⟨rfl, ?_⟩
      refine x_goto rfl ?_
      refine x_iret rfl rfl ?_
      first
        | (simp (disch := first | assumption | omega) only [errorsQ, onN_1, onN_0, onP_1, onP_0, ↓reduceIte] at k1
           exact k1 D OffM.rf)
        | (simp (disch := first | assumption | omega) only [errorsQ, onN_1, onN_0, onP_1, onP_0, ↓reduceIte] at k1
           exact k1 D1 (OffL.m o1 (by decide)))
    · have h15 := okN_inL (n := 15) (by decide) h15
      refine ⟨rfl, ?_⟩
      refine x_if_eq (pc' := 21) rfl rfl (fun _ => ?_) (fun c18 => absurd (by decide) c18)
      refine x_int (pc' := 32) (v := (-1)) rfl rfl rfl ?_
      refine x_iret rfl rfl ?_
      first
        | (simp (disch := first | assumption | omega) only [errorsQ, onN_1, onN_0, onP_1, onP_0, ↓reduceIte] at k1
           exact k1 D OffM.rf)
        | (simp (disch := first | assumption | omega) only [errorsQ, onN_1, onN_0, onP_1, onP_0, ↓reduceIte] at k1
           exact k1 D1 (OffL.m o1 (by decide)))
  · refine ⟨rfl, ?_⟩
    refine x_if_eq (pc' := 9) rfl rfl (fun _ => ?_) (fun c6 => absurd (by decide) c6)
    refine x_int (pc' := 32) (v := (-1)) rfl rfl rfl ?_
    refine x_iret rfl rfl ?_
    first
      | (simp (disch := first | assumption | omega) only [errorsQ, onN_1, onN_0, onP_1, onP_0, ↓reduceIte] at k1
         exact k1 D OffM.rf)
      | (simp (disch := first | assumption | omega) only [errorsQ, onN_1, onN_0, onP_1, onP_0, ↓reduceIte] at k1
         exact k1 D1 (OffL.m o1 (by decide)))
set_option maxRecDepth 20000 in
set_option maxHeartbeats 1000000 in
theorem w_X10_isWithin {D : Nat → Nat → Int32} {L : Nat → Nat → Int64} {Q : bh_Q} {a b : Nat} (ha : a < 4096) (k1 : sbN a b → Q (some (.int 1)) (hp D L)) (k0 : ¬ sbN a b → Q (some (.int 0)) (hp D L)) : bh_wc 1 m_X10_isWithin [.int (nI a), .int (nI b)] (hp D L) Q := by
  refine x_start (lv0 := [_, _]) (Nat.le_of_ble_eq_true rfl) rfl ?_
  refine x_iload (pc' := 1) rfl rfl rfl ?_
  refine x_iload (pc' := 2) rfl rfl rfl ?_
  refine x_int (pc' := 3) (v := nI 4294967295) rfl rfl rfl ?_
  refine y_ixor (pc' := 4) rfl rfl ?_
  refine y_iand (pc' := 5) rfl rfl ?_
  refine y_if_ne (pc' := 8) rfl rfl (by first | omega | (have := wi_le (a := a) (b := b ^^^ 4294967295); omega)) (fun c5 => ?_) (fun c5 => ?_)
  · refine x_int (pc' := 13) (v := nI 0) rfl rfl rfl ?_
    refine x_zret rfl rfl (by decide) ?_
    first
      | (exact k1 ((wi_iff (by omega)).mp c5))
      | (exact k0 (fun z => c5 ((wi_iff (by omega)).mpr z)))
  · refine x_int (pc' := 9) (v := nI 1) rfl rfl rfl ?_
    refine x_goto rfl ?_
    refine x_zret rfl rfl (by decide) ?_
    first
      | (exact k1 ((wi_iff (by omega)).mp c5))
      | (exact k0 (fun z => c5 ((wi_iff (by omega)).mpr z)))
set_option maxRecDepth 20000 in
set_option maxHeartbeats 1000000 in
theorem l0_X10_clashes {L : Nat → Nat → Int64} {Q : bh_Q} {d : Nat} (hd : 1 ≤ d) {D0 : Nat → Nat → Int32} {S : Nat → Nat} (hS : ∀ j, j < 16 → S j < 4096) (h225 : ∀ j, j < 16 → D0 225 j = nI (S j)) {m k : Nat} (hk : k < 16) (kE : bw m_X10_clashes d Q 86 [.ref 205, .int (nI (m + sumN (clM S k) k)), .int (nI k), .int (nI k)] [] D0 L) : ∀ (f i : Nat) (D : Nat → Nat → Int32), i + f = k → (D0 = D) → bw m_X10_clashes d Q 12 [.ref 205, .int (nI (m + sumN (clM S k) i)), .int (nI k), .int (nI i)] [] D L := by
  intro f
  induction f with
  | zero =>
    intro i D hf hD
    subst hD
    refine x_iload (pc' := 13) rfl rfl rfl ?_
    refine x_iload (pc' := 14) rfl rfl rfl ?_
    refine y_ic_ge (pc' := 17) rfl rfl (by first | omega | (have := wi_le (a := S k) (b := S i); have := hS k hk; omega)) (by first | omega | (have := wi_le (a := S k) (b := S i); have := hS k hk; omega)) (fun c14 => ?_) (fun c14 => ?_)
    · obtain rfl : i = k := by omega
      exact kE
    · exact absurd c14 (by omega)
  | succ f ih =>
    intro i D hf hD
    subst hD
    refine x_iload (pc' := 13) rfl rfl rfl ?_
    refine x_iload (pc' := 14) rfl rfl rfl ?_
    refine y_ic_ge (pc' := 17) rfl rfl (by first | omega | (have := wi_le (a := S k) (b := S i); have := hS k hk; omega)) (by first | omega | (have := wi_le (a := S k) (b := S i); have := hS k hk; omega)) (fun c14 => ?_) (fun c14 => ?_)
    · exact absurd c14 (by omega)
    · refine x_iload (pc' := 18) rfl rfl rfl ?_
      refine x_aload (pc' := 19) rfl rfl rfl ?_
      refine x_getR (pc' := 22) rfl rfl rfl (by decide) rfl (by decide) rfl rfl ?_
      refine x_iload (pc' := 23) rfl rfl rfl ?_
      refine x_iald (pc' := 24) rfl rfl (by decide) rfl (by decide) (show _ < 16 by omega) ?_
      refine x_top (h225 k hk) ?_
      refine x_aload (pc' := 25) rfl rfl rfl ?_
      refine x_getR (pc' := 28) rfl rfl rfl (by decide) rfl (by decide) rfl rfl ?_
      refine x_iload (pc' := 29) rfl rfl rfl ?_
      refine x_iald (pc' := 30) rfl rfl (by decide) rfl (by decide) (show _ < 16 by omega) ?_
      refine x_top (h225 i (by omega)) ?_
      refine y_iand (pc' := 31) rfl rfl ?_
      refine y_if_eq (pc' := 34) rfl rfl (by first | omega | (have := wi_le (a := S k) (b := S i); have := hS k hk; omega)) (fun c31 => ?_) (fun c31 => ?_)
      · refine x_int (pc' := 75) (v := nI 0) rfl rfl rfl ?_
        refine x_callS (pc' := 78) (d1 := 1) (As := [_]) rfl rfl rfl rfl (by decide) rfl rfl (Nat.le_of_ble_eq_true rfl) ⟨rfl, rfl⟩ (by omega) ?_
        refine w_X10_truth (by decide) ?_
        refine ⟨rfl, ?_⟩
        refine y_iadd (pc' := 79) rfl rfl ?_
        refine x_istore (pc' := 80) (lv' := [_, _, _, _]) rfl rfl (by decide) rfl ?_
        refine y_inc (pc' := 83) (lv' := [_, _, _, _]) rfl rfl rfl (by decide) rfl ?_
        refine x_goto rfl ?_
        have es : sumN (clM S k) (i + 1) = sumN (clM S k) i + clC S i k := rfl
        first
          | (rw [clC_1 (show i < k by omega) (cl_wi.mpr ⟨c31, hw1, hw2⟩)] at es
             have hh := ih (i + 1) D0 (by omega) rfl
             rw [es, ← Nat.add_assoc] at hh
             exact hh)
          | (rw [clC_0 (fun z => (cl_wi.mp z).2.2 hw2)] at es
             have hh := ih (i + 1) D0 (by omega) rfl
             rw [es, ← Nat.add_assoc] at hh
             exact hh)
          | (rw [clC_0 (fun z => (cl_wi.mp z).2.1 hw1)] at es
             have hh := ih (i + 1) D0 (by omega) rfl
             rw [es, ← Nat.add_assoc] at hh
             exact hh)
          | (rw [clC_0 (fun z => (cl_wi.mp z).1 c31)] at es
             have hh := ih (i + 1) D0 (by omega) rfl
             rw [es, ← Nat.add_assoc] at hh
             exact hh)
      · refine x_aload (pc' := 35) rfl rfl rfl ?_
        refine x_getR (pc' := 38) rfl rfl rfl (by decide) rfl (by decide) rfl rfl ?_
        refine x_iload (pc' := 39) rfl rfl rfl ?_
        refine x_iald (pc' := 40) rfl rfl (by decide) rfl (by decide) (show _ < 16 by omega) ?_
        refine x_top (h225 k hk) ?_
        refine x_aload (pc' := 41) rfl rfl rfl ?_
        refine x_getR (pc' := 44) rfl rfl rfl (by decide) rfl (by decide) rfl rfl ?_
        refine x_iload (pc' := 45) rfl rfl rfl ?_
        refine x_iald (pc' := 46) rfl rfl (by decide) rfl (by decide) (show _ < 16 by omega) ?_
        refine x_top (h225 i (by omega)) ?_
        refine x_callS (pc' := 49) (d1 := 1) (As := [_, _]) rfl rfl rfl rfl (by decide) rfl rfl (Nat.le_of_ble_eq_true rfl) ⟨rfl, rfl⟩ (by omega) ?_
        refine w_X10_isWithin (hS k (by omega)) (fun hw1 => ?_) (fun hw1 => ?_)
        · refine ⟨rfl, ?_⟩
          refine x_if_ne (pc' := 52) rfl rfl (fun _ => ?_) (fun c49 => absurd c49 (by decide))
          refine x_int (pc' := 75) (v := nI 0) rfl rfl rfl ?_
          refine x_callS (pc' := 78) (d1 := 1) (As := [_]) rfl rfl rfl rfl (by decide) rfl rfl (Nat.le_of_ble_eq_true rfl) ⟨rfl, rfl⟩ (by omega) ?_
          refine w_X10_truth (by decide) ?_
          refine ⟨rfl, ?_⟩
          refine y_iadd (pc' := 79) rfl rfl ?_
          refine x_istore (pc' := 80) (lv' := [_, _, _, _]) rfl rfl (by decide) rfl ?_
          refine y_inc (pc' := 83) (lv' := [_, _, _, _]) rfl rfl rfl (by decide) rfl ?_
          refine x_goto rfl ?_
          have es : sumN (clM S k) (i + 1) = sumN (clM S k) i + clC S i k := rfl
          first
            | (rw [clC_1 (show i < k by omega) (cl_wi.mpr ⟨c31, hw1, hw2⟩)] at es
               have hh := ih (i + 1) D0 (by omega) rfl
               rw [es, ← Nat.add_assoc] at hh
               exact hh)
            | (rw [clC_0 (fun z => (cl_wi.mp z).2.2 hw2)] at es
               have hh := ih (i + 1) D0 (by omega) rfl
               rw [es, ← Nat.add_assoc] at hh
               exact hh)
            | (rw [clC_0 (fun z => (cl_wi.mp z).2.1 hw1)] at es
               have hh := ih (i + 1) D0 (by omega) rfl
               rw [es, ← Nat.add_assoc] at hh
               exact hh)
            | (rw [clC_0 (fun z => (cl_wi.mp z).1 c31)] at es
               have hh := ih (i + 1) D0 (by omega) rfl
               rw [es, ← Nat.add_assoc] at hh
               exact hh)
        · refine ⟨rfl, ?_⟩
          refine x_if_ne (pc' := 52) rfl rfl (fun c49 => absurd (by decide) c49) (fun _ => ?_)
          refine x_aload (pc' := 53) rfl rfl rfl ?_
          refine x_getR (pc' := 56) rfl rfl rfl (by decide) rfl (by decide) rfl rfl ?_
          refine x_iload (pc' := 57) rfl rfl rfl ?_
          refine x_iald (pc' := 58) rfl rfl (by decide) rfl (by decide) (show _ < 16 by omega) ?_
          refine x_top (h225 i (by omega)) ?_
          refine x_aload (pc' := 59) rfl rfl rfl ?_
          refine x_getR (pc' := 62) rfl rfl rfl (by decide) rfl (by decide) rfl rfl ?_
          refine x_iload (pc' := 63) rfl rfl rfl ?_
          refine x_iald (pc' := 64) rfl rfl (by decide) rfl (by decide) (show _ < 16 by omega) ?_
          refine x_top (h225 k hk) ?_
          refine x_callS (pc' := 67) (d1 := 1) (As := [_, _]) rfl rfl rfl rfl (by decide) rfl rfl (Nat.le_of_ble_eq_true rfl) ⟨rfl, rfl⟩ (by omega) ?_
          refine w_X10_isWithin (hS i (by omega)) (fun hw2 => ?_) (fun hw2 => ?_)
          · refine ⟨rfl, ?_⟩
            refine x_if_ne (pc' := 70) rfl rfl (fun _ => ?_) (fun c67 => absurd c67 (by decide))
            refine x_int (pc' := 75) (v := nI 0) rfl rfl rfl ?_
            refine x_callS (pc' := 78) (d1 := 1) (As := [_]) rfl rfl rfl rfl (by decide) rfl rfl (Nat.le_of_ble_eq_true rfl) ⟨rfl, rfl⟩ (by omega) ?_
            refine w_X10_truth (by decide) ?_
            refine ⟨rfl, ?_⟩
            refine y_iadd (pc' := 79) rfl rfl ?_
            refine x_istore (pc' := 80) (lv' := [_, _, _, _]) rfl rfl (by decide) rfl ?_
            refine y_inc (pc' := 83) (lv' := [_, _, _, _]) rfl rfl rfl (by decide) rfl ?_
            refine x_goto rfl ?_
            have es : sumN (clM S k) (i + 1) = sumN (clM S k) i + clC S i k := rfl
            first
              | (rw [clC_1 (show i < k by omega) (cl_wi.mpr ⟨c31, hw1, hw2⟩)] at es
                 have hh := ih (i + 1) D0 (by omega) rfl
                 rw [es, ← Nat.add_assoc] at hh
                 exact hh)
              | (rw [clC_0 (fun z => (cl_wi.mp z).2.2 hw2)] at es
                 have hh := ih (i + 1) D0 (by omega) rfl
                 rw [es, ← Nat.add_assoc] at hh
                 exact hh)
              | (rw [clC_0 (fun z => (cl_wi.mp z).2.1 hw1)] at es
                 have hh := ih (i + 1) D0 (by omega) rfl
                 rw [es, ← Nat.add_assoc] at hh
                 exact hh)
              | (rw [clC_0 (fun z => (cl_wi.mp z).1 c31)] at es
                 have hh := ih (i + 1) D0 (by omega) rfl
                 rw [es, ← Nat.add_assoc] at hh
                 exact hh)
          · refine ⟨rfl, ?_⟩
            refine x_if_ne (pc' := 70) rfl rfl (fun c67 => absurd (by decide) c67) (fun _ => ?_)
            refine x_int (pc' := 71) (v := nI 1) rfl rfl rfl ?_
            refine x_goto rfl ?_
            refine x_callS (pc' := 78) (d1 := 1) (As := [_]) rfl rfl rfl rfl (by decide) rfl rfl (Nat.le_of_ble_eq_true rfl) ⟨rfl, rfl⟩ (by omega) ?_
            refine w_X10_truth (by decide) ?_
            refine ⟨rfl, ?_⟩
            refine y_iadd (pc' := 79) rfl rfl ?_
            refine x_istore (pc' := 80) (lv' := [_, _, _, _]) rfl rfl (by decide) rfl ?_
            refine y_inc (pc' := 83) (lv' := [_, _, _, _]) rfl rfl rfl (by decide) rfl ?_
            refine x_goto rfl ?_
            have es : sumN (clM S k) (i + 1) = sumN (clM S k) i + clC S i k := rfl
            first
              | (rw [clC_1 (show i < k by omega) (cl_wi.mpr ⟨c31, hw1, hw2⟩)] at es
                 have hh := ih (i + 1) D0 (by omega) rfl
                 rw [es, ← Nat.add_assoc] at hh
                 exact hh)
              | (rw [clC_0 (fun z => (cl_wi.mp z).2.2 hw2)] at es
                 have hh := ih (i + 1) D0 (by omega) rfl
                 rw [es, ← Nat.add_assoc] at hh
                 exact hh)
              | (rw [clC_0 (fun z => (cl_wi.mp z).2.1 hw1)] at es
                 have hh := ih (i + 1) D0 (by omega) rfl
                 rw [es, ← Nat.add_assoc] at hh
                 exact hh)
              | (rw [clC_0 (fun z => (cl_wi.mp z).1 c31)] at es
                 have hh := ih (i + 1) D0 (by omega) rfl
                 rw [es, ← Nat.add_assoc] at hh
                 exact hh)
set_option maxRecDepth 20000 in
set_option maxHeartbeats 1000000 in
theorem l1_X10_clashes {L : Nat → Nat → Int64} {Q : bh_Q} {d : Nat} (hd : 1 ≤ d) {D0 : Nat → Nat → Int32} {S : Nat → Nat} (hS : ∀ j, j < 16 → S j < 4096) (h225 : ∀ j, j < 16 → D0 225 j = nI (S j)) (k1 : Q (some (.int (nI (clS S)))) (hp D0 L)) : ∀ (f i : Nat) (D : Nat → Nat → Int32) (a3 : Value), i + f = 16 → (D0 = D) → bw m_X10_clashes d Q 4 [.ref 205, .int (nI (sumN (fun k => sumN (clM S k) 16) i)), .int (nI i), a3] [] D L := by
  intro f
  induction f with
  | zero =>
    intro i D a3 hf hD
    subst hD
    refine x_iload (pc' := 5) rfl rfl rfl ?_
    refine x_int (pc' := 7) (v := nI 16) rfl rfl rfl ?_
    refine y_ic_ge (pc' := 10) rfl rfl (by omega) (by omega) (fun c7 => ?_) (fun c7 => ?_)
    · refine x_iload (pc' := 93) rfl rfl rfl ?_
      refine x_iret rfl rfl ?_
      obtain rfl : i = 16 := by omega
      rw [cl_sw]
      exact k1
    · exact absurd c7 (by omega)
  | succ f ih =>
    intro i D a3 hf hD
    subst hD
    refine x_iload (pc' := 5) rfl rfl rfl ?_
    refine x_int (pc' := 7) (v := nI 16) rfl rfl rfl ?_
    refine y_ic_ge (pc' := 10) rfl rfl (by omega) (by omega) (fun c7 => ?_) (fun c7 => ?_)
    · exact absurd c7 (by omega)
    · refine x_int (pc' := 11) (v := nI 0) rfl rfl rfl ?_
      refine x_istore (pc' := 12) (lv' := [_, _, _, _]) rfl rfl (by decide) rfl ?_
      refine l0_X10_clashes (L := L) (Q := Q) (d := d) hd hS h225 (m := sumN (fun k => sumN (clM S k) 16) i) (k := i) (by omega) ?_ i 0 D0 (Nat.zero_add _) rfl
      refine y_inc (pc' := 89) (lv' := [_, _, _, _]) rfl rfl rfl (by decide) rfl ?_
      refine x_goto rfl ?_
      have es : sumN (fun k => sumN (clM S k) 16) (i + 1) = sumN (fun k => sumN (clM S k) 16) i + sumN (clM S i) i := by show _ + sumN (clM S i) 16 = _; rw [clM_t (show i < 16 by omega)]
      have hh := ih (i + 1) D0 (.int (nI i)) (by omega) rfl
      rw [es] at hh
      exact hh
set_option maxRecDepth 20000 in
set_option maxHeartbeats 1000000 in
theorem w_X10_clashes {D : Nat → Nat → Int32} {L : Nat → Nat → Int64} {Q : bh_Q} {S : Nat → Nat} (hS : ∀ j, j < 16 → S j < 4096) (h225 : ∀ j, j < 16 → D 225 j = nI (S j)) (k1 : Q (some (.int (nI (clS S)))) (hp D L)) : bh_wc 2 m_X10_clashes [.ref 205] (hp D L) Q := by
  refine x_start (lv0 := [_, _, _, _]) (Nat.le_of_ble_eq_true rfl) rfl ?_
  refine x_int (pc' := 1) (v := nI 0) rfl rfl rfl ?_
  refine x_istore (pc' := 2) (lv' := [_, _, _, _]) rfl rfl (by decide) rfl ?_
  refine x_int (pc' := 3) (v := nI 0) rfl rfl rfl ?_
  refine x_istore (pc' := 4) (lv' := [_, _, _, _]) rfl rfl (by decide) rfl ?_
  exact l1_X10_clashes (d := 1) (Nat.le_refl _) hS h225 k1 16 0 D .null rfl rfl
def allU (l : List Nat) (x : Nat) : Bool := l.all (fun y => !decide (y = x))
theorem allU_iff {l : List Nat} {x : Nat} : allU l x = true ↔ x ∉ l := by
  unfold allU
  rw [List.all_eq_true]
  constructor
  · intro h hx; have := h x hx; simp at this
  · intro h y hy; have : y ≠ x := fun e => h (e ▸ hy); simp [this]
set_option maxRecDepth 20000 in
set_option maxHeartbeats 1000000 in
theorem l0_X10_laysUnlike {D : Nat → Nat → Int32} {L : Nat → Nat → Int64} {Q : bh_Q} {d : Nat} {S : Nat → Nat} (hS : ∀ j, j < 16 → S j < 4096) (h225 : ∀ j, j < 16 → D 225 j = nI (S j)) {l : List Nat} (hL : LsR (D 226) l) (hl : l.length ≤ 16) (hx : ∀ x ∈ l, x < 4096) {c i0 : Nat} (hi0 : i0 < 16) : ∀ (r : List Nat) (i x : Nat), l.drop i = r → i ≤ l.length → x < 2 → bw m_X10_laysUnlike d Q 81 [.ref 205, .int (nI l.length), .int (nI c), .int (nI i0), .int (nI (isY x (allU r (S i0)))), .int (nI l.length)] [] D L → bw m_X10_laysUnlike d Q 41 [.ref 205, .int (nI l.length), .int (nI c), .int (nI i0), .int (nI x), .int (nI i)] [] D L := by
  intro r
  induction r with
  | nil =>
    intro i x hd hi hx2 kE
    have hx0 := drop_nil hd
    refine x_iload (pc' := 43) rfl rfl rfl ?_
    refine x_iload (pc' := 44) rfl rfl rfl ?_
    refine y_ic_ge (pc' := 47) rfl rfl (by omega) (by omega) (fun c44 => ?_) (fun c44 => ?_)
    · have e : i = l.length := by omega
      subst e
      have ey : isY x (allU [] (S i0)) = x := by unfold isY; split; omega; show 1 = x; omega
      rw [ey] at kE
      exact kE
    · exact absurd c44 (by omega)
  | cons y r ih =>
    intro i x hd hi hx3 kE
    obtain ⟨hx0, hx1, hx2, hx4⟩ := drop_cons hd
    have hx5 : y < 4096 := by rw [← hx1]; exact hx _ (getD_mem hx0)
    refine x_iload (pc' := 43) rfl rfl rfl ?_
    refine x_iload (pc' := 44) rfl rfl rfl ?_
    refine y_ic_ge (pc' := 47) rfl rfl (by first | omega | (have := hS i0 hi0; omega)) (by first | omega | (have := hS i0 hi0; omega)) (fun c44 => ?_) (fun c44 => ?_)
    · exact absurd c44 (by omega)
    · refine x_iload (pc' := 49) rfl rfl rfl ?_
      refine y_if_eq (pc' := 52) rfl rfl (by first | omega | (have := hS i0 hi0; omega)) (fun c49 => ?_) (fun c49 => ?_)
      · refine x_int (pc' := 73) (v := nI 0) rfl rfl rfl ?_
        refine x_istore (pc' := 75) (lv' := [_, _, _, _, _, _]) rfl rfl (by decide) rfl ?_
        refine y_inc (pc' := 78) (lv' := [_, _, _, _, _, _]) rfl rfl rfl (by decide) rfl ?_
        refine x_goto rfl ?_
        have ea : allU (y :: r) (S i0) = (!decide (y = S i0) && allU r (S i0)) := rfl
        first
          | (subst c49; refine ih (i + 1) 0 hx2 (by omega) (by decide) ?_; rw [ea] at kE; exact kE)
          | (rw [ea, decide_eq_true c65] at kE; refine ih (i + 1) 0 hx2 (by omega) (by decide) ?_; unfold isY at kE ⊢; rw [if_neg c49] at kE; exact kE)
          | (rw [ea, decide_eq_false c65] at kE; refine ih (i + 1) 1 hx2 (by omega) (by decide) ?_; unfold isY at kE ⊢; rw [if_neg c49] at kE; exact kE)
      · refine x_aload (pc' := 53) rfl rfl rfl ?_
        refine x_getR (pc' := 56) rfl rfl rfl (by decide) rfl (by decide) rfl rfl ?_
        refine x_iload (pc' := 58) rfl rfl rfl ?_
        refine x_iald (pc' := 59) rfl rfl (by decide) rfl (by decide) (show _ < 16 by omega) ?_
        refine x_top ((hL i hx0).trans (congrArg nI hx1)) ?_
        refine x_aload (pc' := 60) rfl rfl rfl ?_
        refine x_getR (pc' := 63) rfl rfl rfl (by decide) rfl (by decide) rfl rfl ?_
        refine x_iload (pc' := 64) rfl rfl rfl ?_
        refine x_iald (pc' := 65) rfl rfl (by decide) rfl (by decide) (show _ < 16 by omega) ?_
        refine x_top (h225 i0 hi0) ?_
        refine y_ic_eq (pc' := 68) rfl rfl (by first | omega | (have := hS i0 hi0; omega)) (by first | omega | (have := hS i0 hi0; omega)) (fun c65 => ?_) (fun c65 => ?_)
        · refine x_int (pc' := 73) (v := nI 0) rfl rfl rfl ?_
          refine x_istore (pc' := 75) (lv' := [_, _, _, _, _, _]) rfl rfl (by decide) rfl ?_
          refine y_inc (pc' := 78) (lv' := [_, _, _, _, _, _]) rfl rfl rfl (by decide) rfl ?_
          refine x_goto rfl ?_
          have ea : allU (y :: r) (S i0) = (!decide (y = S i0) && allU r (S i0)) := rfl
          first
            | (subst c49; refine ih (i + 1) 0 hx2 (by omega) (by decide) ?_; rw [ea] at kE; exact kE)
            | (rw [ea, decide_eq_true c65] at kE; refine ih (i + 1) 0 hx2 (by omega) (by decide) ?_; unfold isY at kE ⊢; rw [if_neg c49] at kE; exact kE)
            | (rw [ea, decide_eq_false c65] at kE; refine ih (i + 1) 1 hx2 (by omega) (by decide) ?_; unfold isY at kE ⊢; rw [if_neg c49] at kE; exact kE)
        · refine x_int (pc' := 69) (v := nI 1) rfl rfl rfl ?_
          refine x_goto rfl ?_
          refine x_istore (pc' := 75) (lv' := [_, _, _, _, _, _]) rfl rfl (by decide) rfl ?_
          refine y_inc (pc' := 78) (lv' := [_, _, _, _, _, _]) rfl rfl rfl (by decide) rfl ?_
          refine x_goto rfl ?_
          have ea : allU (y :: r) (S i0) = (!decide (y = S i0) && allU r (S i0)) := rfl
          first
            | (subst c49; refine ih (i + 1) 0 hx2 (by omega) (by decide) ?_; rw [ea] at kE; exact kE)
            | (rw [ea, decide_eq_true c65] at kE; refine ih (i + 1) 0 hx2 (by omega) (by decide) ?_; unfold isY at kE ⊢; rw [if_neg c49] at kE; exact kE)
            | (rw [ea, decide_eq_false c65] at kE; refine ih (i + 1) 1 hx2 (by omega) (by decide) ?_; unfold isY at kE ⊢; rw [if_neg c49] at kE; exact kE)
set_option maxRecDepth 20000 in
set_option maxHeartbeats 1000000 in
theorem l1_X10_laysUnlike {L : Nat → Nat → Int64} {Q : bh_Q} {d : Nat} (hd : 1 ≤ d) {D0 : Nat → Nat → Int32} {S : Nat → Nat} (hS : ∀ j, j < 16 → S j < 4096) (h225 : ∀ j, j < 16 → D0 225 j = nI (S j)) {c : Nat} (hc1 : 1 ≤ c) (hc12 : c ≤ 12) {l0 : List Nat} (hP0 : unP S c l0) (kE : ∀ D a4 a5, OffM D0 D → D 225 = D0 225 → LsR (D 226) (unI S c l0 16) → bw m_X10_laysUnlike d Q 107 [.ref 205, .int (nI (unI S c l0 16).length), .int (nI c), .int (nI 16), a4, a5] [] D L) : ∀ (f i : Nat) (D : Nat → Nat → Int32) (a4 : Value) (a5 : Value), i + f = 16 → (OffM D0 D) → (D 225 = D0 225) → (LsR (D 226) (unI S c l0 i)) → bw m_X10_laysUnlike d Q 12 [.ref 205, .int (nI (unI S c l0 i).length), .int (nI c), .int (nI i), a4, a5] [] D L := by
  intro f
  induction f with
  | zero =>
    intro i D a4 a5 hf o e225 hL
    have h225D : ∀ j, j < 16 → D 225 j = nI (S j) := by rw [e225]; exact h225
    have hP := unI_P hc1 hP0 i (by omega)
    have hl16 := unP_len hP
    have hxl : ∀ x ∈ unI S c l0 i, x < 4096 := fun x hx => by obtain ⟨j, hj, e⟩ := (hP.2.1 x hx).1; rw [← e]; exact hS j hj
    refine x_iload (pc' := 13) rfl rfl rfl ?_
    refine x_int (pc' := 15) (v := nI 16) rfl rfl rfl ?_
    refine y_ic_ge (pc' := 18) rfl rfl (by omega) (by omega) (fun c15 => ?_) (fun c15 => ?_)
    · obtain rfl : i = 16 := by omega
      exact kE D _ _ o e225 hL
    · exact absurd c15 (by omega)
  | succ f ih =>
    intro i D a4 a5 hf o e225 hL
    have h225D : ∀ j, j < 16 → D 225 j = nI (S j) := by rw [e225]; exact h225
    have hP := unI_P hc1 hP0 i (by omega)
    have hl16 := unP_len hP
    have hxl : ∀ x ∈ unI S c l0 i, x < 4096 := fun x hx => by obtain ⟨j, hj, e⟩ := (hP.2.1 x hx).1; rw [← e]; exact hS j hj
    refine x_iload (pc' := 13) rfl rfl rfl ?_
    refine x_int (pc' := 15) (v := nI 16) rfl rfl rfl ?_
    refine y_ic_ge (pc' := 18) rfl rfl (by omega) (by omega) (fun c15 => ?_) (fun c15 => ?_)
    · exact absurd c15 (by omega)
    · refine x_aload (pc' := 19) rfl rfl rfl ?_
      refine x_getR (pc' := 22) rfl rfl rfl (by decide) rfl (by decide) rfl rfl ?_
      refine x_iload (pc' := 23) rfl rfl rfl ?_
      refine x_iald (pc' := 24) rfl rfl (by decide) rfl (by decide) (show _ < 16 by omega) ?_
      refine x_top (h225D i (by omega)) ?_
      refine x_callS (pc' := 27) (d1 := 1) (As := [_]) rfl rfl rfl rfl (by decide) rfl rfl (Nat.le_of_ble_eq_true rfl) ⟨rfl, rfl⟩ (by omega) ?_
      refine w_bitCount (by have := hS i (by omega); omega) ?_
      refine ⟨rfl, ?_⟩
      have hpl := pcn_le (S i)
      refine x_iload (pc' := 28) rfl rfl rfl ?_
      refine y_ic_ne (pc' := 31) rfl rfl (by omega) (by omega) (fun c28 => ?_) (fun c28 => ?_)
      · refine x_int (pc' := 36) (v := nI 0) rfl rfl rfl ?_
        refine x_istore (pc' := 38) (lv' := [_, _, _, _, _, _]) rfl rfl (by decide) rfl ?_
        refine x_int (pc' := 39) (v := nI 0) rfl rfl rfl ?_
        refine x_istore (pc' := 41) (lv' := [_, _, _, _, _, _]) rfl rfl (by decide) rfl ?_
        first
          | (have hlt16 : ¬ isY 1 (allU (unI S c l0 i) (S i)) = 0 → (unI S c l0 i).length < 16 := fun hy => by
               have hA : allU (unI S c l0 i) (S i) = true := by cases hz : allU (unI S c l0 i) (S i) with
                 | true => rfl
                 | false => rw [hz] at hy; exact absurd rfl hy
               have := unP_len (unP_app hP (show i < 16 by omega) c28 hc1 (allU_iff.mp hA))
               rw [List.length_append] at this
               simp at this
               omega
             refine l0_X10_laysUnlike hS h225D hL hl16 hxl (show i < 16 by omega) (unI S c l0 i) 0 1 rfl (Nat.zero_le _) (by decide) ?_
             refine x_iload (pc' := 83) rfl rfl rfl ?_
             refine y_if_eq (pc' := 86) rfl rfl (by first | omega | (unfold isY; split <;> first | omega | (split <;> omega))) (fun c83 => ?_) (fun c83 => ?_)
             · refine y_inc (pc' := 104) (lv' := [_, _, _, _, _, _]) rfl rfl rfl (by decide) rfl ?_
               refine x_goto rfl ?_
               first
                 | exact absurd rfl c83
                 | (have hA : allU (unI S c l0 i) (S i) = true := by cases hz : allU (unI S c l0 i) (S i) with
                     | true => rfl
                     | false => rw [hz] at c83; unfold isY at c83; first | exact absurd rfl c83 | exact absurd (by split <;> rfl) c83
                    have e : unI S c l0 (i + 1) = unI S c l0 i ++ [S i] := if_pos ⟨c28, allU_iff.mp hA⟩
                    have hh := fun z1 z2 => ih (i + 1) (bh_up2 D 226 (unI S c l0 i).length (nI (S i))) z1 z2 (by omega) (o.tr (OffM.up (by decide) (by decide))) (by rw [bh_up2_ne _ _ _ (by decide)]; exact e225) (by rw [e, bh_up2_k]; exact hL.app)
                    rw [e, List.length_append] at hh
                    exact hh _ _)
                 | (have hA : ¬ allU (unI S c l0 i) (S i) = true := fun z => by rw [z] at c83; exact absurd c83 (by decide)
                    have e : unI S c l0 (i + 1) = unI S c l0 i := if_neg (fun z => hA (allU_iff.mpr z.2))
                    have hh := fun z1 z2 => ih (i + 1) D z1 z2 (by omega) o e225 (by rw [e]; exact hL)
                    rw [e] at hh
                    exact hh _ _)
                 | (have e : unI S c l0 (i + 1) = unI S c l0 i := if_neg (fun z => c28 z.1)
                    have hh := fun z1 z2 => ih (i + 1) D z1 z2 (by omega) o e225 (by rw [e]; exact hL)
                    rw [e] at hh
                    exact hh _ _)
             · refine x_aload (pc' := 87) rfl rfl rfl ?_
               refine x_getR (pc' := 90) rfl rfl rfl (by decide) rfl (by decide) rfl rfl ?_
               refine x_iload (pc' := 91) rfl rfl rfl ?_
               refine x_aload (pc' := 92) rfl rfl rfl ?_
               refine x_getR (pc' := 95) rfl rfl rfl (by decide) rfl (by decide) rfl rfl ?_
               refine x_iload (pc' := 96) rfl rfl rfl ?_
               refine x_iald (pc' := 97) rfl rfl (by decide) rfl (by decide) (show _ < 16 by omega) ?_
               refine x_top (h225D i (by omega)) ?_
               refine x_iast (pc' := 98) rfl rfl (by decide) rfl (by decide) (show _ < 16 by exact hlt16 c83) ?_
               refine y_inc (pc' := 101) (lv' := [_, _, _, _, _, _]) rfl rfl rfl (by decide) rfl ?_
               refine y_inc (pc' := 104) (lv' := [_, _, _, _, _, _]) rfl rfl rfl (by decide) rfl ?_
               refine x_goto rfl ?_
               first
                 | exact absurd rfl c83
                 | (have hA : allU (unI S c l0 i) (S i) = true := by cases hz : allU (unI S c l0 i) (S i) with
                     | true => rfl
                     | false => rw [hz] at c83; unfold isY at c83; first | exact absurd rfl c83 | exact absurd (by split <;> rfl) c83
                    have e : unI S c l0 (i + 1) = unI S c l0 i ++ [S i] := if_pos ⟨c28, allU_iff.mp hA⟩
                    have hh := fun z1 z2 => ih (i + 1) (bh_up2 D 226 (unI S c l0 i).length (nI (S i))) z1 z2 (by omega) (o.tr (OffM.up (by decide) (by decide))) (by rw [bh_up2_ne _ _ _ (by decide)]; exact e225) (by rw [e, bh_up2_k]; exact hL.app)
                    rw [e, List.length_append] at hh
                    exact hh _ _)
                 | (have hA : ¬ allU (unI S c l0 i) (S i) = true := fun z => by rw [z] at c83; exact absurd c83 (by decide)
                    have e : unI S c l0 (i + 1) = unI S c l0 i := if_neg (fun z => hA (allU_iff.mpr z.2))
                    have hh := fun z1 z2 => ih (i + 1) D z1 z2 (by omega) o e225 (by rw [e]; exact hL)
                    rw [e] at hh
                    exact hh _ _)
                 | (have e : unI S c l0 (i + 1) = unI S c l0 i := if_neg (fun z => c28 z.1)
                    have hh := fun z1 z2 => ih (i + 1) D z1 z2 (by omega) o e225 (by rw [e]; exact hL)
                    rw [e] at hh
                    exact hh _ _)
             )
          | (have hlt16 : ¬ isY 0 (allU (unI S c l0 i) (S i)) = 0 → (unI S c l0 i).length < 16 := fun hy => absurd rfl hy
             refine l0_X10_laysUnlike hS h225D hL hl16 hxl (show i < 16 by omega) (unI S c l0 i) 0 0 rfl (Nat.zero_le _) (by decide) ?_
             refine x_iload (pc' := 83) rfl rfl rfl ?_
             refine y_if_eq (pc' := 86) rfl rfl (by first | omega | (unfold isY; split <;> first | omega | (split <;> omega))) (fun c83 => ?_) (fun c83 => ?_)
             · refine y_inc (pc' := 104) (lv' := [_, _, _, _, _, _]) rfl rfl rfl (by decide) rfl ?_
               refine x_goto rfl ?_
               first
                 | exact absurd rfl c83
                 | (have hA : allU (unI S c l0 i) (S i) = true := by cases hz : allU (unI S c l0 i) (S i) with
                     | true => rfl
                     | false => rw [hz] at c83; unfold isY at c83; first | exact absurd rfl c83 | exact absurd (by split <;> rfl) c83
                    have e : unI S c l0 (i + 1) = unI S c l0 i ++ [S i] := if_pos ⟨c28, allU_iff.mp hA⟩
                    have hh := fun z1 z2 => ih (i + 1) (bh_up2 D 226 (unI S c l0 i).length (nI (S i))) z1 z2 (by omega) (o.tr (OffM.up (by decide) (by decide))) (by rw [bh_up2_ne _ _ _ (by decide)]; exact e225) (by rw [e, bh_up2_k]; exact hL.app)
                    rw [e, List.length_append] at hh
                    exact hh _ _)
                 | (have hA : ¬ allU (unI S c l0 i) (S i) = true := fun z => by rw [z] at c83; exact absurd c83 (by decide)
                    have e : unI S c l0 (i + 1) = unI S c l0 i := if_neg (fun z => hA (allU_iff.mpr z.2))
                    have hh := fun z1 z2 => ih (i + 1) D z1 z2 (by omega) o e225 (by rw [e]; exact hL)
                    rw [e] at hh
                    exact hh _ _)
                 | (have e : unI S c l0 (i + 1) = unI S c l0 i := if_neg (fun z => c28 z.1)
                    have hh := fun z1 z2 => ih (i + 1) D z1 z2 (by omega) o e225 (by rw [e]; exact hL)
                    rw [e] at hh
                    exact hh _ _)
             · refine x_aload (pc' := 87) rfl rfl rfl ?_
               refine x_getR (pc' := 90) rfl rfl rfl (by decide) rfl (by decide) rfl rfl ?_
               refine x_iload (pc' := 91) rfl rfl rfl ?_
               refine x_aload (pc' := 92) rfl rfl rfl ?_
               refine x_getR (pc' := 95) rfl rfl rfl (by decide) rfl (by decide) rfl rfl ?_
               refine x_iload (pc' := 96) rfl rfl rfl ?_
               refine x_iald (pc' := 97) rfl rfl (by decide) rfl (by decide) (show _ < 16 by omega) ?_
               refine x_top (h225D i (by omega)) ?_
               refine x_iast (pc' := 98) rfl rfl (by decide) rfl (by decide) (show _ < 16 by exact hlt16 c83) ?_
               refine y_inc (pc' := 101) (lv' := [_, _, _, _, _, _]) rfl rfl rfl (by decide) rfl ?_
               refine y_inc (pc' := 104) (lv' := [_, _, _, _, _, _]) rfl rfl rfl (by decide) rfl ?_
               refine x_goto rfl ?_
               first
                 | exact absurd rfl c83
                 | (have hA : allU (unI S c l0 i) (S i) = true := by cases hz : allU (unI S c l0 i) (S i) with
                     | true => rfl
                     | false => rw [hz] at c83; unfold isY at c83; first | exact absurd rfl c83 | exact absurd (by split <;> rfl) c83
                    have e : unI S c l0 (i + 1) = unI S c l0 i ++ [S i] := if_pos ⟨c28, allU_iff.mp hA⟩
                    have hh := fun z1 z2 => ih (i + 1) (bh_up2 D 226 (unI S c l0 i).length (nI (S i))) z1 z2 (by omega) (o.tr (OffM.up (by decide) (by decide))) (by rw [bh_up2_ne _ _ _ (by decide)]; exact e225) (by rw [e, bh_up2_k]; exact hL.app)
                    rw [e, List.length_append] at hh
                    exact hh _ _)
                 | (have hA : ¬ allU (unI S c l0 i) (S i) = true := fun z => by rw [z] at c83; exact absurd c83 (by decide)
                    have e : unI S c l0 (i + 1) = unI S c l0 i := if_neg (fun z => hA (allU_iff.mpr z.2))
                    have hh := fun z1 z2 => ih (i + 1) D z1 z2 (by omega) o e225 (by rw [e]; exact hL)
                    rw [e] at hh
                    exact hh _ _)
                 | (have e : unI S c l0 (i + 1) = unI S c l0 i := if_neg (fun z => c28 z.1)
                    have hh := fun z1 z2 => ih (i + 1) D z1 z2 (by omega) o e225 (by rw [e]; exact hL)
                    rw [e] at hh
                    exact hh _ _)
             )
      · refine x_int (pc' := 32) (v := nI 1) rfl rfl rfl ?_
        refine x_goto rfl ?_
        refine x_istore (pc' := 38) (lv' := [_, _, _, _, _, _]) rfl rfl (by decide) rfl ?_
        refine x_int (pc' := 39) (v := nI 0) rfl rfl rfl ?_
        refine x_istore (pc' := 41) (lv' := [_, _, _, _, _, _]) rfl rfl (by decide) rfl ?_
        first
          | (have hlt16 : ¬ isY 1 (allU (unI S c l0 i) (S i)) = 0 → (unI S c l0 i).length < 16 := fun hy => by
               have hA : allU (unI S c l0 i) (S i) = true := by cases hz : allU (unI S c l0 i) (S i) with
                 | true => rfl
                 | false => rw [hz] at hy; exact absurd rfl hy
               have := unP_len (unP_app hP (show i < 16 by omega) c28 hc1 (allU_iff.mp hA))
               rw [List.length_append] at this
               simp at this
               omega
             refine l0_X10_laysUnlike hS h225D hL hl16 hxl (show i < 16 by omega) (unI S c l0 i) 0 1 rfl (Nat.zero_le _) (by decide) ?_
             refine x_iload (pc' := 83) rfl rfl rfl ?_
             refine y_if_eq (pc' := 86) rfl rfl (by first | omega | (unfold isY; split <;> first | omega | (split <;> omega))) (fun c83 => ?_) (fun c83 => ?_)
             · refine y_inc (pc' := 104) (lv' := [_, _, _, _, _, _]) rfl rfl rfl (by decide) rfl ?_
               refine x_goto rfl ?_
               first
                 | exact absurd rfl c83
                 | (have hA : allU (unI S c l0 i) (S i) = true := by cases hz : allU (unI S c l0 i) (S i) with
                     | true => rfl
                     | false => rw [hz] at c83; unfold isY at c83; first | exact absurd rfl c83 | exact absurd (by split <;> rfl) c83
                    have e : unI S c l0 (i + 1) = unI S c l0 i ++ [S i] := if_pos ⟨c28, allU_iff.mp hA⟩
                    have hh := fun z1 z2 => ih (i + 1) (bh_up2 D 226 (unI S c l0 i).length (nI (S i))) z1 z2 (by omega) (o.tr (OffM.up (by decide) (by decide))) (by rw [bh_up2_ne _ _ _ (by decide)]; exact e225) (by rw [e, bh_up2_k]; exact hL.app)
                    rw [e, List.length_append] at hh
                    exact hh _ _)
                 | (have hA : ¬ allU (unI S c l0 i) (S i) = true := fun z => by rw [z] at c83; exact absurd c83 (by decide)
                    have e : unI S c l0 (i + 1) = unI S c l0 i := if_neg (fun z => hA (allU_iff.mpr z.2))
                    have hh := fun z1 z2 => ih (i + 1) D z1 z2 (by omega) o e225 (by rw [e]; exact hL)
                    rw [e] at hh
                    exact hh _ _)
                 | (have e : unI S c l0 (i + 1) = unI S c l0 i := if_neg (fun z => c28 z.1)
                    have hh := fun z1 z2 => ih (i + 1) D z1 z2 (by omega) o e225 (by rw [e]; exact hL)
                    rw [e] at hh
                    exact hh _ _)
             · refine x_aload (pc' := 87) rfl rfl rfl ?_
               refine x_getR (pc' := 90) rfl rfl rfl (by decide) rfl (by decide) rfl rfl ?_
               refine x_iload (pc' := 91) rfl rfl rfl ?_
               refine x_aload (pc' := 92) rfl rfl rfl ?_
               refine x_getR (pc' := 95) rfl rfl rfl (by decide) rfl (by decide) rfl rfl ?_
               refine x_iload (pc' := 96) rfl rfl rfl ?_
               refine x_iald (pc' := 97) rfl rfl (by decide) rfl (by decide) (show _ < 16 by omega) ?_
               refine x_top (h225D i (by omega)) ?_
               refine x_iast (pc' := 98) rfl rfl (by decide) rfl (by decide) (show _ < 16 by exact hlt16 c83) ?_
               refine y_inc (pc' := 101) (lv' := [_, _, _, _, _, _]) rfl rfl rfl (by decide) rfl ?_
               refine y_inc (pc' := 104) (lv' := [_, _, _, _, _, _]) rfl rfl rfl (by decide) rfl ?_
               refine x_goto rfl ?_
               first
                 | exact absurd rfl c83
                 | (have hA : allU (unI S c l0 i) (S i) = true := by cases hz : allU (unI S c l0 i) (S i) with
                     | true => rfl
                     | false => rw [hz] at c83; unfold isY at c83; first | exact absurd rfl c83 | exact absurd (by split <;> rfl) c83
                    have e : unI S c l0 (i + 1) = unI S c l0 i ++ [S i] := if_pos ⟨c28, allU_iff.mp hA⟩
                    have hh := fun z1 z2 => ih (i + 1) (bh_up2 D 226 (unI S c l0 i).length (nI (S i))) z1 z2 (by omega) (o.tr (OffM.up (by decide) (by decide))) (by rw [bh_up2_ne _ _ _ (by decide)]; exact e225) (by rw [e, bh_up2_k]; exact hL.app)
                    rw [e, List.length_append] at hh
                    exact hh _ _)
                 | (have hA : ¬ allU (unI S c l0 i) (S i) = true := fun z => by rw [z] at c83; exact absurd c83 (by decide)
                    have e : unI S c l0 (i + 1) = unI S c l0 i := if_neg (fun z => hA (allU_iff.mpr z.2))
                    have hh := fun z1 z2 => ih (i + 1) D z1 z2 (by omega) o e225 (by rw [e]; exact hL)
                    rw [e] at hh
                    exact hh _ _)
                 | (have e : unI S c l0 (i + 1) = unI S c l0 i := if_neg (fun z => c28 z.1)
                    have hh := fun z1 z2 => ih (i + 1) D z1 z2 (by omega) o e225 (by rw [e]; exact hL)
                    rw [e] at hh
                    exact hh _ _)
             )
          | (have hlt16 : ¬ isY 0 (allU (unI S c l0 i) (S i)) = 0 → (unI S c l0 i).length < 16 := fun hy => absurd rfl hy
             refine l0_X10_laysUnlike hS h225D hL hl16 hxl (show i < 16 by omega) (unI S c l0 i) 0 0 rfl (Nat.zero_le _) (by decide) ?_
             refine x_iload (pc' := 83) rfl rfl rfl ?_
             refine y_if_eq (pc' := 86) rfl rfl (by first | omega | (unfold isY; split <;> first | omega | (split <;> omega))) (fun c83 => ?_) (fun c83 => ?_)
             · refine y_inc (pc' := 104) (lv' := [_, _, _, _, _, _]) rfl rfl rfl (by decide) rfl ?_
               refine x_goto rfl ?_
               first
                 | exact absurd rfl c83
                 | (have hA : allU (unI S c l0 i) (S i) = true := by cases hz : allU (unI S c l0 i) (S i) with
                     | true => rfl
                     | false => rw [hz] at c83; unfold isY at c83; first | exact absurd rfl c83 | exact absurd (by split <;> rfl) c83
                    have e : unI S c l0 (i + 1) = unI S c l0 i ++ [S i] := if_pos ⟨c28, allU_iff.mp hA⟩
                    have hh := fun z1 z2 => ih (i + 1) (bh_up2 D 226 (unI S c l0 i).length (nI (S i))) z1 z2 (by omega) (o.tr (OffM.up (by decide) (by decide))) (by rw [bh_up2_ne _ _ _ (by decide)]; exact e225) (by rw [e, bh_up2_k]; exact hL.app)
                    rw [e, List.length_append] at hh
                    exact hh _ _)
                 | (have hA : ¬ allU (unI S c l0 i) (S i) = true := fun z => by rw [z] at c83; exact absurd c83 (by decide)
                    have e : unI S c l0 (i + 1) = unI S c l0 i := if_neg (fun z => hA (allU_iff.mpr z.2))
                    have hh := fun z1 z2 => ih (i + 1) D z1 z2 (by omega) o e225 (by rw [e]; exact hL)
                    rw [e] at hh
                    exact hh _ _)
                 | (have e : unI S c l0 (i + 1) = unI S c l0 i := if_neg (fun z => c28 z.1)
                    have hh := fun z1 z2 => ih (i + 1) D z1 z2 (by omega) o e225 (by rw [e]; exact hL)
                    rw [e] at hh
                    exact hh _ _)
             · refine x_aload (pc' := 87) rfl rfl rfl ?_
               refine x_getR (pc' := 90) rfl rfl rfl (by decide) rfl (by decide) rfl rfl ?_
               refine x_iload (pc' := 91) rfl rfl rfl ?_
               refine x_aload (pc' := 92) rfl rfl rfl ?_
               refine x_getR (pc' := 95) rfl rfl rfl (by decide) rfl (by decide) rfl rfl ?_
               refine x_iload (pc' := 96) rfl rfl rfl ?_
               refine x_iald (pc' := 97) rfl rfl (by decide) rfl (by decide) (show _ < 16 by omega) ?_
               refine x_top (h225D i (by omega)) ?_
               refine x_iast (pc' := 98) rfl rfl (by decide) rfl (by decide) (show _ < 16 by exact hlt16 c83) ?_
               refine y_inc (pc' := 101) (lv' := [_, _, _, _, _, _]) rfl rfl rfl (by decide) rfl ?_
               refine y_inc (pc' := 104) (lv' := [_, _, _, _, _, _]) rfl rfl rfl (by decide) rfl ?_
               refine x_goto rfl ?_
               first
                 | exact absurd rfl c83
                 | (have hA : allU (unI S c l0 i) (S i) = true := by cases hz : allU (unI S c l0 i) (S i) with
                     | true => rfl
                     | false => rw [hz] at c83; unfold isY at c83; first | exact absurd rfl c83 | exact absurd (by split <;> rfl) c83
                    have e : unI S c l0 (i + 1) = unI S c l0 i ++ [S i] := if_pos ⟨c28, allU_iff.mp hA⟩
                    have hh := fun z1 z2 => ih (i + 1) (bh_up2 D 226 (unI S c l0 i).length (nI (S i))) z1 z2 (by omega) (o.tr (OffM.up (by decide) (by decide))) (by rw [bh_up2_ne _ _ _ (by decide)]; exact e225) (by rw [e, bh_up2_k]; exact hL.app)
                    rw [e, List.length_append] at hh
                    exact hh _ _)
                 | (have hA : ¬ allU (unI S c l0 i) (S i) = true := fun z => by rw [z] at c83; exact absurd c83 (by decide)
                    have e : unI S c l0 (i + 1) = unI S c l0 i := if_neg (fun z => hA (allU_iff.mpr z.2))
                    have hh := fun z1 z2 => ih (i + 1) D z1 z2 (by omega) o e225 (by rw [e]; exact hL)
                    rw [e] at hh
                    exact hh _ _)
                 | (have e : unI S c l0 (i + 1) = unI S c l0 i := if_neg (fun z => c28 z.1)
                    have hh := fun z1 z2 => ih (i + 1) D z1 z2 (by omega) o e225 (by rw [e]; exact hL)
                    rw [e] at hh
                    exact hh _ _)
             )
set_option maxRecDepth 20000 in
set_option maxHeartbeats 1000000 in
theorem l2_X10_laysUnlike {L : Nat → Nat → Int64} {Q : bh_Q} {d : Nat} (hd : 1 ≤ d) {D0 : Nat → Nat → Int32} {S : Nat → Nat} (hS : ∀ j, j < 16 → S j < 4096) (h225 : ∀ j, j < 16 → D0 225 j = nI (S j)) (k1 : ∀ D, OffM D0 D → D 225 = D0 225 → LsR (D 226) (unO S 12) → Q (some (.int (nI (unO S 12).length))) (hp D L)) : ∀ (f i : Nat) (D : Nat → Nat → Int32) (a3 : Value) (a4 : Value) (a5 : Value), i + f = 12 → (OffM D0 D) → (D 225 = D0 225) → (LsR (D 226) (unO S i)) → bw m_X10_laysUnlike d Q 4 [.ref 205, .int (nI (unO S i).length), .int (nI (i + 1)), a3, a4, a5] [] D L := by
  intro f
  induction f with
  | zero =>
    intro i D a3 a4 a5 hf o e225 hL
    refine x_iload (pc' := 5) rfl rfl rfl ?_
    refine x_int (pc' := 7) (v := nI 12) rfl rfl rfl ?_
    refine y_ic_gt (pc' := 10) rfl rfl (by omega) (by omega) (fun c7 => ?_) (fun c7 => ?_)
    · refine x_iload (pc' := 114) rfl rfl rfl ?_
      refine x_iret rfl rfl ?_
      obtain rfl : i = 12 := by omega
      exact k1 D o e225 hL
    · exact absurd c7 (by omega)
  | succ f ih =>
    intro i D a3 a4 a5 hf o e225 hL
    refine x_iload (pc' := 5) rfl rfl rfl ?_
    refine x_int (pc' := 7) (v := nI 12) rfl rfl rfl ?_
    refine y_ic_gt (pc' := 10) rfl rfl (by omega) (by omega) (fun c7 => ?_) (fun c7 => ?_)
    · exact absurd c7 (by omega)
    · refine x_int (pc' := 11) (v := nI 0) rfl rfl rfl ?_
      refine x_istore (pc' := 12) (lv' := [_, _, _, _, _, _]) rfl rfl (by decide) rfl ?_
      have hP0 : unP S (i + 1) (unO S i) := ⟨(unO_P i).1, fun x hx => by have := (unO_P i).2.1 x hx; exact ⟨this.1, this.2.1, by omega⟩, (unO_P i).2.2⟩
      refine l1_X10_laysUnlike (d := d) hd hS h225 (c := i + 1) (by omega) (by omega) hP0 (fun D2 b4 b5 o2 q2 h2 => ?_) 16 0 D _ _ rfl o e225 hL
      refine y_inc (pc' := 110) (lv' := [_, _, _, _, _, _]) rfl rfl rfl (by decide) rfl ?_
      refine x_goto rfl ?_
      exact ih (i + 1) D2 _ _ _ (by omega) o2 q2 h2
set_option maxRecDepth 20000 in
set_option maxHeartbeats 1000000 in
theorem w_X10_laysUnlike {D : Nat → Nat → Int32} {L : Nat → Nat → Int64} {Q : bh_Q} {S : Nat → Nat} (hS : ∀ j, j < 16 → S j < 4096) (h225 : ∀ j, j < 16 → D 225 j = nI (S j)) (k1 : ∀ D1, OffM D D1 → D1 225 = D 225 → LsR (D1 226) (unO S 12) → Q (some (.int (nI (unO S 12).length))) (hp D1 L)) : bh_wc 2 m_X10_laysUnlike [.ref 205] (hp D L) Q := by
  refine x_start (lv0 := [_, _, _, _, _, _]) (Nat.le_of_ble_eq_true rfl) rfl ?_
  refine x_int (pc' := 1) (v := nI 0) rfl rfl rfl ?_
  refine x_istore (pc' := 2) (lv' := [_, _, _, _, _, _]) rfl rfl (by decide) rfl ?_
  refine x_int (pc' := 3) (v := nI 1) rfl rfl rfl ?_
  refine x_istore (pc' := 4) (lv' := [_, _, _, _, _, _]) rfl rfl (by decide) rfl ?_
  exact l2_X10_laysUnlike (d := 1) (Nat.le_refl _) hS h225 (D0 := D) k1 12 0 D .null .null .null rfl OffM.rf rfl (fun j hj => absurd hj (Nat.not_lt_zero j))
theorem wuM_le (S : Nat → Nat) (l : List Nat) (i n : Nat) : maxN (wuN S l i) n ≤ 17 := maxN_le n (fun j _ => by unfold wuN; split; exact lg_le _; omega)
theorem nI_max1 {a b : Nat} (ha : a < 1000) (hb : b < 1000) : (if nI (1 + a) < nI (b + 1) then nI (b + 1) else nI (1 + a)) = nI (1 + max a b) := by
  rw [nI_max (by omega) (by omega)]
  exact congrArg nI (by omega)
set_option maxRecDepth 20000 in
set_option maxHeartbeats 1000000 in
theorem l0_X10_longestRow {L : Nat → Nat → Int64} {Q : bh_Q} {d : Nat} (hd : 1 ≤ d) {D0 : Nat → Nat → Int32} {S : Nat → Nat} (hS : ∀ j, j < 16 → S j < 4096) {l : List Nat} (hl : unS S l) (hl16 : l.length ≤ 16) {m n : Nat} (hn : n < l.length) (hx : ∀ x ∈ l, x < 4096) (kE : ∀ D, OffM D0 D → LsR (D 226) l → (∀ j, j < n → D 227 j = nI (lg S (l.getD j 0))) → D 227 n = nI (1 + maxN (wuN S l n) n) → bw m_X10_longestRow d Q 74 [.ref 205, .int (nI l.length), .int (nI m), .int (nI n), .int (nI n)] [] D L) : ∀ (f i : Nat) (D : Nat → Nat → Int32), i + f = n → (OffM D0 D) → (LsR (D 226) l) → (∀ j, j < n → D 227 j = nI (lg S (l.getD j 0))) → (D 227 n = nI (1 + maxN (wuN S l n) i)) → bw m_X10_longestRow d Q 19 [.ref 205, .int (nI l.length), .int (nI m), .int (nI n), .int (nI i)] [] D L := by
  intro f
  induction f with
  | zero =>
    intro i D hf o hL hr hc
    refine x_iload (pc' := 21) rfl rfl rfl ?_
    refine x_iload (pc' := 22) rfl rfl rfl ?_
    refine y_ic_ge (pc' := 25) rfl rfl (by omega) (by omega) (fun c22 => ?_) (fun c22 => ?_)
    · obtain rfl : i = n := by omega
      exact kE D o hL hr hc
    · exact absurd c22 (by omega)
  | succ f ih =>
    intro i D hf o hL hr hc
    refine x_iload (pc' := 21) rfl rfl rfl ?_
    refine x_iload (pc' := 22) rfl rfl rfl ?_
    refine y_ic_ge (pc' := 25) rfl rfl (by omega) (by omega) (fun c22 => ?_) (fun c22 => ?_)
    · exact absurd c22 (by omega)
    · refine x_aload (pc' := 26) rfl rfl rfl ?_
      refine x_getR (pc' := 29) rfl rfl rfl (by decide) rfl (by decide) rfl rfl ?_
      refine x_iload (pc' := 31) rfl rfl rfl ?_
      refine x_iald (pc' := 32) rfl rfl (by decide) rfl (by decide) (show _ < 16 by omega) ?_
      refine x_top (hL i (by omega)) ?_
      refine x_aload (pc' := 33) rfl rfl rfl ?_
      refine x_getR (pc' := 36) rfl rfl rfl (by decide) rfl (by decide) rfl rfl ?_
      refine x_iload (pc' := 37) rfl rfl rfl ?_
      refine x_iald (pc' := 38) rfl rfl (by decide) rfl (by decide) (show _ < 16 by omega) ?_
      refine x_top (hL n hn) ?_
      refine x_callS (pc' := 41) (d1 := 1) (As := [_, _]) rfl rfl rfl rfl (by decide) rfl rfl (Nat.le_of_ble_eq_true rfl) ⟨rfl, rfl⟩ (by omega) ?_
      refine w_X10_isWithin (hx _ (getD_mem (by omega))) (fun hw1 => ?_) (fun hw1 => ?_)
      · refine ⟨rfl, ?_⟩
        refine x_if_eq (pc' := 44) rfl rfl (fun c41 => absurd c41 (by decide)) (fun _ => ?_)
        refine x_aload (pc' := 45) rfl rfl rfl ?_
        refine x_getR (pc' := 48) rfl rfl rfl (by decide) rfl (by decide) rfl rfl ?_
        refine x_iload (pc' := 49) rfl rfl rfl ?_
        refine x_aload (pc' := 50) rfl rfl rfl ?_
        refine x_getR (pc' := 53) rfl rfl rfl (by decide) rfl (by decide) rfl rfl ?_
        refine x_iload (pc' := 54) rfl rfl rfl ?_
        refine x_iald (pc' := 55) rfl rfl (by decide) rfl (by decide) (show _ < 16 by omega) ?_
        refine x_top (hc) ?_
        refine x_aload (pc' := 56) rfl rfl rfl ?_
        refine x_getR (pc' := 59) rfl rfl rfl (by decide) rfl (by decide) rfl rfl ?_
        refine x_iload (pc' := 61) rfl rfl rfl ?_
        refine x_iald (pc' := 62) rfl rfl (by decide) rfl (by decide) (show _ < 16 by omega) ?_
        refine x_top (hr i (by omega)) ?_
        refine x_int (pc' := 63) (v := nI 1) rfl rfl rfl ?_
        refine y_iadd (pc' := 64) rfl rfl ?_
        refine x_max (pc' := 67) rfl rfl (Nat.le_of_ble_eq_true rfl) (nI_max1 (by have := wuM_le S l n i; omega) (by have := lg_le (S := S) (l.getD i 0); omega)) ?_
        refine x_iast (pc' := 68) rfl rfl (by decide) rfl (by decide) (show _ < 16 by omega) ?_
        refine y_inc (pc' := 71) (lv' := [_, _, _, _, _]) rfl rfl rfl (by decide) rfl ?_
        refine x_goto rfl ?_
        first
          | (have e : maxN (wuN S l n) (i + 1) = max (maxN (wuN S l n) i) (lg S (l.getD i 0)) := by show max _ _ = _; rw [show wuN S l n i = lg S (l.getD i 0) from if_pos hw1]
             refine ih (i + 1) _ (by omega) (o.tr (OffM.up (by decide) (by decide))) (by rw [bh_up2_ne _ _ _ (by decide)]; exact hL) (fun j hj => by rw [up2_at, if_neg (fun z => by omega)]; exact hr j hj) ?_
             rw [bh_up2_self, e])
          | (have e : maxN (wuN S l n) (i + 1) = maxN (wuN S l n) i := by show max _ _ = _; rw [show wuN S l n i = 0 from if_neg hw1]; exact Nat.max_eq_left (Nat.zero_le _)
             refine ih (i + 1) D (by omega) o hL hr ?_
             rw [e]; exact hc)
      · refine ⟨rfl, ?_⟩
        refine x_if_eq (pc' := 44) rfl rfl (fun _ => ?_) (fun c41 => absurd (by decide) c41)
        refine y_inc (pc' := 71) (lv' := [_, _, _, _, _]) rfl rfl rfl (by decide) rfl ?_
        refine x_goto rfl ?_
        first
          | (have e : maxN (wuN S l n) (i + 1) = max (maxN (wuN S l n) i) (lg S (l.getD i 0)) := by show max _ _ = _; rw [show wuN S l n i = lg S (l.getD i 0) from if_pos hw1]
             refine ih (i + 1) _ (by omega) (o.tr (OffM.up (by decide) (by decide))) (by rw [bh_up2_ne _ _ _ (by decide)]; exact hL) (fun j hj => by rw [up2_at, if_neg (fun z => by omega)]; exact hr j hj) ?_
             rw [bh_up2_self, e])
          | (have e : maxN (wuN S l n) (i + 1) = maxN (wuN S l n) i := by show max _ _ = _; rw [show wuN S l n i = 0 from if_neg hw1]; exact Nat.max_eq_left (Nat.zero_le _)
             refine ih (i + 1) D (by omega) o hL hr ?_
             rw [e]; exact hc)
set_option maxRecDepth 20000 in
set_option maxHeartbeats 1000000 in
theorem l1_X10_longestRow {L : Nat → Nat → Int64} {Q : bh_Q} {d : Nat} (hd : 1 ≤ d) {D0 : Nat → Nat → Int32} {S : Nat → Nat} (hS : ∀ j, j < 16 → S j < 4096) {l : List Nat} (hl : unS S l) (hl16 : l.length ≤ 16) (hx : ∀ x ∈ l, x < 4096) (k1 : ∀ D, OffM D0 D → Q (some (.int (nI (lgM S)))) (hp D L)) : ∀ (f i : Nat) (D : Nat → Nat → Int32) (a4 : Value), i + f = l.length → (OffM D0 D) → (LsR (D 226) l) → (∀ j, j < i → D 227 j = nI (lg S (l.getD j 0))) → bw m_X10_longestRow d Q 4 [.ref 205, .int (nI l.length), .int (nI (maxN (fun i => lg S (l.getD i 0)) i)), .int (nI i), a4] [] D L := by
  intro f
  induction f with
  | zero =>
    intro i D a4 hf o hL hr
    refine x_iload (pc' := 5) rfl rfl rfl ?_
    refine x_iload (pc' := 6) rfl rfl rfl ?_
    refine y_ic_ge (pc' := 9) rfl rfl (by omega) (by omega) (fun c6 => ?_) (fun c6 => ?_)
    · refine x_iload (pc' := 92) rfl rfl rfl ?_
      refine x_iret rfl rfl ?_
      obtain rfl : i = l.length := by omega
      rw [lgM_un hl]
      exact k1 D o
    · exact absurd c6 (by omega)
  | succ f ih =>
    intro i D a4 hf o hL hr
    refine x_iload (pc' := 5) rfl rfl rfl ?_
    refine x_iload (pc' := 6) rfl rfl rfl ?_
    refine y_ic_ge (pc' := 9) rfl rfl (by omega) (by omega) (fun c6 => ?_) (fun c6 => ?_)
    · exact absurd c6 (by omega)
    · refine x_aload (pc' := 10) rfl rfl rfl ?_
      refine x_getR (pc' := 13) rfl rfl rfl (by decide) rfl (by decide) rfl rfl ?_
      refine x_iload (pc' := 14) rfl rfl rfl ?_
      refine x_int (pc' := 15) (v := nI 1) rfl rfl rfl ?_
      refine x_iast (pc' := 16) rfl rfl (by decide) rfl (by decide) (show _ < 16 by omega) ?_
      refine x_int (pc' := 17) (v := nI 0) rfl rfl rfl ?_
      refine x_istore (pc' := 19) (lv' := [_, _, _, _, _]) rfl rfl (by decide) rfl ?_
      refine l0_X10_longestRow (d := d) hd hS hl hl16 (D0 := D0) (m := maxN (fun i => lg S (l.getD i 0)) i) (n := i) (by omega) hx (fun D2 o2 L2 h2 c2 => ?_) i 0 _ (Nat.zero_add _) (o.tr (OffM.up (by decide) (by decide))) (by rw [bh_up2_ne _ _ _ (by decide)]; exact hL) (fun j hj => by rw [up2_at, if_neg (fun z => by omega)]; exact hr j hj) (bh_up2_self _ _ _ _)
      rw [← lg_un hS hl (show i < l.length by omega)] at c2
      refine x_iload (pc' := 75) rfl rfl rfl ?_
      refine x_aload (pc' := 76) rfl rfl rfl ?_
      refine x_getR (pc' := 79) rfl rfl rfl (by decide) rfl (by decide) rfl rfl ?_
      refine x_iload (pc' := 80) rfl rfl rfl ?_
      refine x_iald (pc' := 81) rfl rfl (by decide) rfl (by decide) (show _ < 16 by omega) ?_
      refine x_top (c2) ?_
      refine x_max (pc' := 84) rfl rfl (Nat.le_of_ble_eq_true rfl) (nI_max (by have := maxN_le (f := fun i => lg S (l.getD i 0)) (c := 17) i (fun j _ => lg_le _); omega) (by have := lg_le (S := S) (l.getD i 0); omega)) ?_
      refine x_istore (pc' := 85) (lv' := [_, _, _, _, _]) rfl rfl (by decide) rfl ?_
      refine y_inc (pc' := 88) (lv' := [_, _, _, _, _]) rfl rfl rfl (by decide) rfl ?_
      refine x_goto rfl ?_
      refine ih (i + 1) D2 _ (by omega) o2 L2 (fun j hj => ?_)
      by_cases e : j = i
      · rw [e]; exact c2
      · exact h2 j (by omega)
set_option maxRecDepth 20000 in
set_option maxHeartbeats 1000000 in
theorem w_X10_longestRow {D : Nat → Nat → Int32} {L : Nat → Nat → Int64} {Q : bh_Q} {S : Nat → Nat} (hS : ∀ j, j < 16 → S j < 4096) {l : List Nat} (hl : unS S l) (hl16 : l.length ≤ 16) (hx : ∀ x ∈ l, x < 4096) (hL : LsR (D 226) l) (k1 : ∀ D1, OffM D D1 → Q (some (.int (nI (lgM S)))) (hp D1 L)) : bh_wc 2 m_X10_longestRow [.ref 205, .int (nI l.length)] (hp D L) Q := by
  refine x_start (lv0 := [_, _, _, _, _]) (Nat.le_of_ble_eq_true rfl) rfl ?_
  refine x_int (pc' := 1) (v := nI 0) rfl rfl rfl ?_
  refine x_istore (pc' := 2) (lv' := [_, _, _, _, _]) rfl rfl (by decide) rfl ?_
  refine x_int (pc' := 3) (v := nI 0) rfl rfl rfl ?_
  refine x_istore (pc' := 4) (lv' := [_, _, _, _, _]) rfl rfl (by decide) rfl ?_
  exact l1_X10_longestRow (d := 1) (Nat.le_refl _) hS hl hl16 (D0 := D) hx k1 l.length 0 D .null (Nat.zero_add _) OffM.rf hL (fun j hj => absurd hj (Nat.not_lt_zero j))
set_option maxRecDepth 20000 in
set_option maxHeartbeats 1000000 in
theorem l_X10_nested {L : Nat → Nat → Int64} {Q : bh_Q} {d : Nat} (hd : 6 ≤ d) {T : TW} (hW : WF T) {D0 : Nat → Nat → Int32} {b q : Nat} {x3 : Int32} (hb : b < nb T) (hq : q < lng T b) (kE : ∀ D, OffM D0 D → (∀ j, j < 16 → D 225 j = nI (errN T b q j)) → bw m_X10_nested d Q 54 [.ref 205, .int (nI b), .int (nI q), .int x3, .int (nI 16)] [] D L) : ∀ (f i : Nat) (D : Nat → Nat → Int32), i + f = 16 → (OffM D0 D) → (Rn T (D 206)) → (∀ j, j < i → D 225 j = nI (errN T b q j)) → bw m_X10_nested d Q 26 [.ref 205, .int (nI b), .int (nI q), .int x3, .int (nI i)] [] D L := by
  intro f
  induction f with
  | zero =>
    intro i D hf o hR h0
    refine x_iload (pc' := 28) rfl rfl rfl ?_
    refine x_int (pc' := 30) (v := nI 16) rfl rfl rfl ?_
    refine y_ic_ge (pc' := 33) rfl rfl (by omega) (by omega) (fun c30 => ?_) (fun c30 => ?_)
    · obtain rfl : i = 16 := by omega
      exact kE D o h0
    · exact absurd c30 (by omega)
  | succ f ih =>
    intro i D hf o hR h0
    refine x_iload (pc' := 28) rfl rfl rfl ?_
    refine x_int (pc' := 30) (v := nI 16) rfl rfl rfl ?_
    refine y_ic_ge (pc' := 33) rfl rfl (by omega) (by omega) (fun c30 => ?_) (fun c30 => ?_)
    · exact absurd c30 (by omega)
    · refine x_aload (pc' := 34) rfl rfl rfl ?_
      refine x_getR (pc' := 37) rfl rfl rfl (by decide) rfl (by decide) rfl rfl ?_
      refine x_iload (pc' := 39) rfl rfl rfl ?_
      refine x_aload (pc' := 40) rfl rfl rfl ?_
      refine x_iload (pc' := 41) rfl rfl rfl ?_
      refine x_iload (pc' := 42) rfl rfl rfl ?_
      refine x_iload (pc' := 44) rfl rfl rfl ?_
      refine x_callV (pc' := 47) (d1 := 6) (Bs := [_, _, _]) rfl rfl rfl rfl rfl rfl rfl (Nat.le_of_ble_eq_true rfl) ⟨rfl, rfl⟩ (by decide) rfl (by omega) ?_
      refine w_X10_errorsOf hW hR hb hq (by omega) (fun D1 o1 => ?_)
      refine ⟨rfl, ?_⟩
      refine x_iast (pc' := 48) rfl rfl (by decide) rfl (by decide) (show _ < 16 by omega) ?_
      refine y_inc (pc' := 51) (lv' := [_, _, _, _, _]) rfl rfl rfl (by decide) rfl ?_
      refine x_goto rfl ?_
      refine ih (i + 1) _ (by omega) ((o.tr (OffL.m o1 (by decide))).tr (OffM.up (by decide) (by decide))) ((OffM.up (by decide) (by decide)).rn (OffL212.rn o1 hR)) (fun j hj => ?_)
      rw [up2_at]
      by_cases e : j = i
      · rw [if_pos ⟨rfl, e⟩, e]
      · rw [if_neg (fun z => e z.2), o1 225 (by decide)]; exact h0 j (by omega)
set_option maxRecDepth 20000 in
set_option maxHeartbeats 1000000 in
theorem w_X10_nested {D : Nat → Nat → Int32} {L : Nat → Nat → Int64} {Q : bh_Q} {T : TW} (hW : WF T) (hR : Rn T (D 206)) {y z v : Int32} (k1 : ∀ D1, OffM D D1 → Q (some (.int (nestedQ T y z v))) (hp D1 L)) : bh_wc 7 m_X10_nested [.ref 205, .int y, .int z, .int v] (hp D L) Q := by
  refine x_start (lv0 := [_, _, _, _, _]) (Nat.le_of_ble_eq_true rfl) rfl ?_
  refine x_aload (pc' := 1) rfl rfl rfl ?_
  refine x_iload (pc' := 2) rfl rfl rfl ?_
  refine x_iload (pc' := 3) rfl rfl rfl ?_
  refine x_callV (pc' := 6) (d1 := 3) (Bs := [_, _]) rfl rfl rfl rfl rfl rfl rfl (Nat.le_of_ble_eq_true rfl) ⟨rfl, rfl⟩ (by decide) rfl (by decide) ?_
  refine w_X10_isPage hW hR (fun b q hb hq e1 e2 => ?_) (fun hn => ?_)
  · subst e1; subst e2
    refine ⟨rfl, ?_⟩
    refine x_if_eq (pc' := 9) rfl rfl (fun c6 => absurd c6 (by decide)) (fun _ => ?_)
    refine x_iload (pc' := 10) rfl rfl rfl ?_
    refine x_i2l (pc' := 11) rfl rfl ?_
    refine x_long (pc' := 12) (v := (nI 0).toInt64) rfl rfl (by decide) ?_
    refine x_long (pc' := 15) (v := (nI 3).toInt64) rfl rfl (by decide) ?_
    refine x_callS (pc' := 18) (d1 := 1) (As := [_, _, _]) rfl rfl rfl rfl (by decide) rfl rfl (Nat.le_of_ble_eq_true rfl) ⟨rfl, rfl⟩ (by decide) ?_
    refine w_X10_in (fun h15a h15b => ?_) (fun h15 => ?_)
    · obtain ⟨h15w, h15l, rfl⟩ := in_okL (n := 3) (by decide) h15a h15b
      refine ⟨rfl, ?_⟩
      refine x_if_ne (pc' := 21) rfl rfl (fun _ => ?_) (fun c18 => absurd c18 (by decide))
      refine x_int (pc' := 24) (v := nI 0) rfl rfl rfl ?_
      refine x_istore (pc' := 26) (lv' := [_, _, _, _, _]) rfl rfl (by decide) rfl ?_
      refine l_X10_nested (d := 6) (Nat.le_refl _) hW (D0 := D) hb hq (fun D1 o1 h1 => ?_) 16 0 D rfl OffM.rf hR (fun j hj => absurd hj (Nat.not_lt_zero j))
      refine x_iload (pc' := 55) rfl rfl rfl ?_
      rcases (show h15w = 0 ∨ h15w = 1 ∨ h15w = 2 ∨ h15w = 3 by omega) with rfl | rfl | rfl | rfl
      · refine x_tabN (n := 0) (t := 80) rfl (by decide) rfl ?_
        refine x_aload (pc' := 81) rfl rfl rfl ?_
        refine x_callV (pc' := 84) (d1 := 2) (Bs := []) rfl rfl rfl rfl rfl rfl rfl (Nat.le_of_ble_eq_true rfl) ⟨rfl, rfl⟩ (by decide) rfl (by decide) ?_
        refine w_X10_clashes (S := errN T b q) (fun j _ => errN_lt hW) h1 ?_
        refine ⟨rfl, ?_⟩
        have hcl := clS_le (errN T b q)
        refine y_if_ne (pc' := 87) rfl rfl (by omega) (fun c84 => ?_) (fun c84 => ?_)
        · refine x_int (pc' := 92) (v := nI 0) rfl rfl rfl ?_
          refine x_callS (pc' := 95) (d1 := 1) (As := [_]) rfl rfl rfl rfl (by decide) rfl rfl (Nat.le_of_ble_eq_true rfl) ⟨rfl, rfl⟩ (by decide) ?_
          refine w_X10_truth (by decide) ?_
          refine ⟨rfl, ?_⟩
          refine x_iret rfl rfl ?_
          simp (disch := first | assumption | omega) only [nestedQ, onN_1, onN_0, onP_1, onP_0, ↓reduceIte] at k1
          first
            | exact k1 D1 o1
            | exact k1 D3 ((o1.tr o2).tr o3)
            | (have e : nestV (errN T b q) 0 = nI 1 := congrArg nI (if_pos c84)
               rw [e] at k1; exact k1 D1 o1)
            | (have e : nestV (errN T b q) 0 = nI 0 := congrArg nI (if_neg c84)
               rw [e] at k1; exact k1 D1 o1)
            | (have e : nestV (errN T b q) 2 = nI (unO (errN T b q) 12).length := congrArg nI (un_len (fun j _ => errN_lt hW)).symm
               rw [e] at k1; exact k1 D2 (o1.tr o2))
        · refine x_int (pc' := 88) (v := nI 1) rfl rfl rfl ?_
          refine x_goto rfl ?_
          refine x_callS (pc' := 95) (d1 := 1) (As := [_]) rfl rfl rfl rfl (by decide) rfl rfl (Nat.le_of_ble_eq_true rfl) ⟨rfl, rfl⟩ (by decide) ?_
          refine w_X10_truth (by decide) ?_
          refine ⟨rfl, ?_⟩
          refine x_iret rfl rfl ?_
          simp (disch := first | assumption | omega) only [nestedQ, onN_1, onN_0, onP_1, onP_0, ↓reduceIte] at k1
          first
            | exact k1 D1 o1
            | exact k1 D3 ((o1.tr o2).tr o3)
            | (have e : nestV (errN T b q) 0 = nI 1 := congrArg nI (if_pos c84)
               rw [e] at k1; exact k1 D1 o1)
            | (have e : nestV (errN T b q) 0 = nI 0 := congrArg nI (if_neg c84)
               rw [e] at k1; exact k1 D1 o1)
            | (have e : nestV (errN T b q) 2 = nI (unO (errN T b q) 12).length := congrArg nI (un_len (fun j _ => errN_lt hW)).symm
               rw [e] at k1; exact k1 D2 (o1.tr o2))
      · refine x_tabN (n := 1) (t := 96) rfl (by decide) rfl ?_
        refine x_aload (pc' := 97) rfl rfl rfl ?_
        refine x_callV (pc' := 100) (d1 := 2) (Bs := []) rfl rfl rfl rfl rfl rfl rfl (Nat.le_of_ble_eq_true rfl) ⟨rfl, rfl⟩ (by decide) rfl (by decide) ?_
        refine w_X10_clashes (S := errN T b q) (fun j _ => errN_lt hW) h1 ?_
        refine ⟨rfl, ?_⟩
        refine x_iret rfl rfl ?_
        simp (disch := first | assumption | omega) only [nestedQ, onN_1, onN_0, onP_1, onP_0, ↓reduceIte] at k1
        first
          | exact k1 D1 o1
          | exact k1 D3 ((o1.tr o2).tr o3)
          | (have e : nestV (errN T b q) 0 = nI 1 := congrArg nI (if_pos c84)
             rw [e] at k1; exact k1 D1 o1)
          | (have e : nestV (errN T b q) 0 = nI 0 := congrArg nI (if_neg c84)
             rw [e] at k1; exact k1 D1 o1)
          | (have e : nestV (errN T b q) 2 = nI (unO (errN T b q) 12).length := congrArg nI (un_len (fun j _ => errN_lt hW)).symm
             rw [e] at k1; exact k1 D2 (o1.tr o2))
      · refine x_tabN (n := 2) (t := 101) rfl (by decide) rfl ?_
        refine x_aload (pc' := 102) rfl rfl rfl ?_
        refine x_callV (pc' := 105) (d1 := 2) (Bs := []) rfl rfl rfl rfl rfl rfl rfl (Nat.le_of_ble_eq_true rfl) ⟨rfl, rfl⟩ (by decide) rfl (by decide) ?_
        refine w_X10_laysUnlike (S := errN T b q) (fun j _ => errN_lt hW) h1 (fun D2 o2 e2 L2 => ?_)
        refine ⟨rfl, ?_⟩
        refine x_iret rfl rfl ?_
        simp (disch := first | assumption | omega) only [nestedQ, onN_1, onN_0, onP_1, onP_0, ↓reduceIte] at k1
        first
          | exact k1 D1 o1
          | exact k1 D3 ((o1.tr o2).tr o3)
          | (have e : nestV (errN T b q) 0 = nI 1 := congrArg nI (if_pos c84)
             rw [e] at k1; exact k1 D1 o1)
          | (have e : nestV (errN T b q) 0 = nI 0 := congrArg nI (if_neg c84)
             rw [e] at k1; exact k1 D1 o1)
          | (have e : nestV (errN T b q) 2 = nI (unO (errN T b q) 12).length := congrArg nI (un_len (fun j _ => errN_lt hW)).symm
             rw [e] at k1; exact k1 D2 (o1.tr o2))
      · refine x_tabO rfl (Or.inr (by decide)) (by decide) ?_
        refine x_aload (pc' := 107) rfl rfl rfl ?_
        refine x_aload (pc' := 108) rfl rfl rfl ?_
        refine x_callV (pc' := 111) (d1 := 2) (Bs := []) rfl rfl rfl rfl rfl rfl rfl (Nat.le_of_ble_eq_true rfl) ⟨rfl, rfl⟩ (by decide) rfl (by decide) ?_
        refine w_X10_laysUnlike (S := errN T b q) (fun j _ => errN_lt hW) h1 (fun D2 o2 e2 L2 => ?_)
        refine ⟨rfl, ?_⟩
        refine x_callV (pc' := 114) (d1 := 2) (Bs := [_]) rfl rfl rfl rfl rfl rfl rfl (Nat.le_of_ble_eq_true rfl) ⟨rfl, rfl⟩ (by decide) rfl (by decide) ?_
        refine w_X10_longestRow (S := errN T b q) (fun j _ => errN_lt hW) (un_S (fun j _ => errN_lt hW)) (unP_len (unO_P 12)) (fun x hx => by obtain ⟨j, hj, e⟩ := ((unO_P 12).2.1 x hx).1; rw [← e]; exact errN_lt hW) L2 (fun D3 o3 => ?_)
        refine ⟨rfl, ?_⟩
        refine x_iret rfl rfl ?_
        simp (disch := first | assumption | omega) only [nestedQ, onN_1, onN_0, onP_1, onP_0, ↓reduceIte] at k1
        first
          | exact k1 D1 o1
          | exact k1 D3 ((o1.tr o2).tr o3)
          | (have e : nestV (errN T b q) 0 = nI 1 := congrArg nI (if_pos c84)
             rw [e] at k1; exact k1 D1 o1)
          | (have e : nestV (errN T b q) 0 = nI 0 := congrArg nI (if_neg c84)
             rw [e] at k1; exact k1 D1 o1)
          | (have e : nestV (errN T b q) 2 = nI (unO (errN T b q) 12).length := congrArg nI (un_len (fun j _ => errN_lt hW)).symm
             rw [e] at k1; exact k1 D2 (o1.tr o2))
    · have h15 := okN_inL (n := 3) (by decide) h15
      refine ⟨rfl, ?_⟩
      refine x_if_ne (pc' := 21) rfl rfl (fun c18 => absurd (by decide) c18) (fun _ => ?_)
      refine x_int (pc' := 22) (v := (-1)) rfl rfl rfl ?_
      refine x_iret rfl rfl ?_
      simp (disch := first | assumption | omega) only [nestedQ, onN_1, onN_0, onP_1, onP_0, ↓reduceIte] at k1
      exact k1 D OffM.rf
  · refine ⟨rfl, ?_⟩
    refine x_if_eq (pc' := 9) rfl rfl (fun _ => ?_) (fun c6 => absurd (by decide) c6)
    refine x_int (pc' := 22) (v := (-1)) rfl rfl rfl ?_
    refine x_iret rfl rfl ?_
    simp (disch := first | assumption | omega) only [nestedQ, onN_1, onN_0, onP_1, onP_0, ↓reduceIte] at k1
    exact k1 D OffM.rf
