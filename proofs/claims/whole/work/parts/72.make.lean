/-! ===== what is made ===== -/
def opn (R : Nat → Nat → Option Nat) (k : Nat) (l : List (Option Nat)) : Nat → Nat → Option Nat := bh_upr R k (fun j => l.getD j none)
theorem opn_0 {R : Nat → Nat → Option Nat} {k : Nat} {l : List (Option Nat)} (n : Nat) (hl : List.replicate n none = l) : bh_upr R k (fun _ => none) = opn R k l := by
  subst hl
  unfold opn
  congr 1
  funext j
  rw [List.getD_eq_getElem?_getD, List.getElem?_replicate]
  split <;> rfl
theorem lset_get {l l' : List (Option Nat)} {i r : Nat} (hi : i < l.length) (hl : l.set i (some r) = l') (j : Nat) : (if j = i then some r else l.getD j none) = l'.getD j none := by
  subst hl
  rw [List.getD_eq_getElem?_getD, List.getD_eq_getElem?_getD, List.getElem?_set]
  by_cases e : j = i
  · subst e; rw [if_pos rfl, if_pos rfl, if_pos hi]; rfl
  · rw [if_neg e, if_neg (fun z => e z.symm)]
theorem opn_s {R : Nat → Nat → Option Nat} {k i r : Nat} {l l' : List (Option Nat)} (hi : i < l.length) (hl : l.set i (some r) = l') : bh_up2 (opn R k l) k i (some r) = opn R k l' := by
  funext a b
  unfold opn
  by_cases e : a = k
  · subst e
    rw [bh_upr_self, bh_up2_k]
    dsimp only
    rw [bh_upr_self]
    exact lset_get hi hl b
  · rw [bh_up2_ne _ _ _ e, bh_upr_ne _ _ e, bh_upr_ne _ _ e]
theorem pad_get {l : List (Option Nat)} (z j : Nat) : (l ++ List.replicate z none).getD j none = l.getD j none := by
  rw [List.getD_eq_getElem?_getD, List.getD_eq_getElem?_getD, List.getElem?_append]
  split
  · rfl
  · rename_i h
    rw [List.getElem?_replicate, List.getElem?_eq_none (by omega)]
    split <;> rfl
theorem opn_e {R : Nat → Nat → Option Nat} {k z : Nat} {l : List (Option Nat)} (hl : bh_rfT.getD k [] ++ List.replicate z none = l) (hR : R k = bh_R0 k) : opn R k l = R := by
  funext a
  unfold opn
  by_cases e : a = k
  · subst e; subst hl; rw [bh_upr_self, hR]; funext j; exact pad_get z j
  · rw [bh_upr_ne _ _ e]
def op3 (a b c : List (Option Nat)) : Nat → Nat → Option Nat := fun k => if k = 0 then (fun j => a.getD j none) else if k = 29 then (fun j => b.getD j none) else if k = 30 then (fun j => c.getD j none) else bh_R0 k
theorem op3_0 {a : List (Option Nat)} (n : Nat) (ha : List.replicate n none = a) : bh_upr bh_R0 0 (fun _ => none) = op3 a (bh_rfT.getD 29 []) (bh_rfT.getD 30 []) := by
  subst ha
  funext k j
  unfold op3
  by_cases e : k = 0
  · subst e; rw [bh_upr_self, if_pos rfl, List.getD_eq_getElem?_getD, List.getElem?_replicate]; split <;> rfl
  · rw [bh_upr_ne _ _ e, if_neg e]
    by_cases e2 : k = 29
    · subst e2; rfl
    · rw [if_neg e2]
      by_cases e3 : k = 30
      · subst e3; rfl
      · rw [if_neg e3]
theorem op3_n29 {a b b' c : List (Option Nat)} (n : Nat) (hb : List.replicate n none = b') : bh_upr (op3 a b c) 29 (fun _ => none) = op3 a b' c := by
  subst hb
  funext k j
  unfold op3
  by_cases e : k = 29
  · subst e; rw [bh_upr_self, if_neg (by decide), if_pos rfl, List.getD_eq_getElem?_getD, List.getElem?_replicate]; split <;> rfl
  · rw [bh_upr_ne _ _ e, if_neg e, if_neg e]
theorem op3_n30 {a b c c' : List (Option Nat)} (n : Nat) (hc : List.replicate n none = c') : bh_upr (op3 a b c) 30 (fun _ => none) = op3 a b c' := by
  subst hc
  funext k j
  unfold op3
  by_cases e : k = 30
  · subst e; rw [bh_upr_self, if_neg (by decide), if_neg (by decide), if_pos rfl, List.getD_eq_getElem?_getD, List.getElem?_replicate]; split <;> rfl
  · rw [bh_upr_ne _ _ e, if_neg e, if_neg e]
theorem op3_s0 {a a' b c : List (Option Nat)} {i r : Nat} (hi : i < a.length) (hl : a.set i (some r) = a') : bh_up2 (op3 a b c) 0 i (some r) = op3 a' b c := by
  funext k j
  by_cases e : k = 0
  · subst e; rw [bh_up2_k]; unfold op3; rw [if_pos rfl, if_pos rfl]; exact lset_get hi hl j
  · rw [bh_up2_ne _ _ _ e]; unfold op3; rw [if_neg e, if_neg e]
theorem op3_s29 {a b b' c : List (Option Nat)} {i r : Nat} (hi : i < b.length) (hl : b.set i (some r) = b') : bh_up2 (op3 a b c) 29 i (some r) = op3 a b' c := by
  funext k j
  by_cases e : k = 29
  · subst e; rw [bh_up2_k]; exact lset_get hi hl j
  · rw [bh_up2_ne _ _ _ e]; unfold op3; rw [if_neg e, if_neg e]
theorem op3_s30 {a b c c' : List (Option Nat)} {i r : Nat} (hi : i < c.length) (hl : c.set i (some r) = c') : bh_up2 (op3 a b c) 30 i (some r) = op3 a b c' := by
  funext k j
  by_cases e : k = 30
  · subst e; rw [bh_up2_k]; exact lset_get hi hl j
  · rw [bh_up2_ne _ _ _ e]; unfold op3; rw [if_neg e, if_neg e]
theorem op3_o {a b c : List (Option Nat)} {k : Nat} (h : k ≠ 0 ∧ k ≠ 29 ∧ k ≠ 30) : op3 a b c k = bh_R0 k := by unfold op3; rw [if_neg h.1, if_neg h.2.1, if_neg h.2.2]
theorem op3_e : op3 (bh_rfT.getD 0 []) (bh_rfT.getD 29 []) (bh_rfT.getD 30 []) = bh_R0 := by
  funext k
  unfold op3
  by_cases e : k = 0
  · subst e; rfl
  · rw [if_neg e]
    by_cases e2 : k = 29
    · subst e2; rfl
    · rw [if_neg e2]
      by_cases e3 : k = 30
      · subst e3; rfl
      · rw [if_neg e3]
set_option maxRecDepth 20000 in
set_option maxHeartbeats 1000000 in
theorem w_X7_init_1 {R : Nat → Nat → Option Nat} {D : Nat → Nat → Int32} {L : Nat → Nat → Int64} {Q : bh_Q} (hR : R 1 = bh_R0 1) (hD : ∀ a, a < 228 → D a = fun _ => 0) (hL : ∀ a, L a = fun _ => 0) (k1 : Q none (14, R, D, L)) : bh_wc 1 m_X7_init [.ref 1] (2, bh_upr R 1 (fun _ => none), D, L) Q := by
  refine z_start (lv0 := [_]) (Nat.le_of_ble_eq_true rfl) rfl ?_
  rw [opn_0 (l := [none, none, none, none, none, none, none, none, none, none, none, none, none, none, none, none, none, none]) 18 rfl]
  refine z_aload (pc' := 1) rfl rfl rfl ?_
  refine z_oi (pc' := 4) rfl rfl (by decide) ?_
  refine z_aload (pc' := 5) rfl rfl rfl ?_
  refine z_int (pc' := 7) (v := nI 12) rfl rfl rfl ?_
  refine z_newa (pc' := 9) (v1 := 1) (v2 := 12) (N' := 3) rfl rfl (Nat.le_of_ble_eq_true rfl) rfl rfl (Nat.le_of_ble_eq_true rfl) rfl rfl (Nat.le_of_ble_eq_true rfl) rfl (Nat.le_of_ble_eq_true rfl) (hD _ (Nat.le_of_ble_eq_true rfl)) (hL _) ?_
  refine z_putR (pc' := 12) (R' := opn R 1 [none, none, none, none, none, none, some 2, none, none, none, none, none, none, none, none, none, none, none]) rfl rfl rfl rfl (Nat.le_of_ble_eq_true rfl) (Nat.le_of_ble_eq_true rfl) rfl (by decide) (opn_s (by decide) rfl) ?_
  refine z_aload (pc' := 13) rfl rfl rfl ?_
  refine z_int (pc' := 15) (v := nI 12) rfl rfl rfl ?_
  refine z_newa (pc' := 17) (v1 := 2) (v2 := 24) (N' := 4) rfl rfl (Nat.le_of_ble_eq_true rfl) rfl rfl (Nat.le_of_ble_eq_true rfl) rfl rfl (Nat.le_of_ble_eq_true rfl) rfl (Nat.le_of_ble_eq_true rfl) (hD _ (Nat.le_of_ble_eq_true rfl)) (hL _) ?_
  refine z_putR (pc' := 20) (R' := opn R 1 [none, none, none, none, none, none, some 2, some 3, none, none, none, none, none, none, none, none, none, none]) rfl rfl rfl rfl (Nat.le_of_ble_eq_true rfl) (Nat.le_of_ble_eq_true rfl) rfl (by decide) (opn_s (by decide) rfl) ?_
  refine z_aload (pc' := 21) rfl rfl rfl ?_
  refine z_int (pc' := 23) (v := nI 12) rfl rfl rfl ?_
  refine z_newa (pc' := 25) (v1 := 3) (v2 := 36) (N' := 5) rfl rfl (Nat.le_of_ble_eq_true rfl) rfl rfl (Nat.le_of_ble_eq_true rfl) rfl rfl (Nat.le_of_ble_eq_true rfl) rfl (Nat.le_of_ble_eq_true rfl) (hD _ (Nat.le_of_ble_eq_true rfl)) (hL _) ?_
  refine z_putR (pc' := 28) (R' := opn R 1 [none, none, none, none, none, none, some 2, some 3, some 4, none, none, none, none, none, none, none, none, none]) rfl rfl rfl rfl (Nat.le_of_ble_eq_true rfl) (Nat.le_of_ble_eq_true rfl) rfl (by decide) (opn_s (by decide) rfl) ?_
  refine z_aload (pc' := 29) rfl rfl rfl ?_
  refine z_int (pc' := 31) (v := nI 12) rfl rfl rfl ?_
  refine z_newa (pc' := 33) (v1 := 4) (v2 := 48) (N' := 6) rfl rfl (Nat.le_of_ble_eq_true rfl) rfl rfl (Nat.le_of_ble_eq_true rfl) rfl rfl (Nat.le_of_ble_eq_true rfl) rfl (Nat.le_of_ble_eq_true rfl) (hD _ (Nat.le_of_ble_eq_true rfl)) (hL _) ?_
  refine z_putR (pc' := 36) (R' := opn R 1 [none, none, none, none, none, none, some 2, some 3, some 4, some 5, none, none, none, none, none, none, none, none]) rfl rfl rfl rfl (Nat.le_of_ble_eq_true rfl) (Nat.le_of_ble_eq_true rfl) rfl (by decide) (opn_s (by decide) rfl) ?_
  refine z_aload (pc' := 37) rfl rfl rfl ?_
  refine z_int (pc' := 39) (v := nI 12) rfl rfl rfl ?_
  refine z_newa (pc' := 41) (v1 := 5) (v2 := 60) (N' := 7) rfl rfl (Nat.le_of_ble_eq_true rfl) rfl rfl (Nat.le_of_ble_eq_true rfl) rfl rfl (Nat.le_of_ble_eq_true rfl) rfl (Nat.le_of_ble_eq_true rfl) (hD _ (Nat.le_of_ble_eq_true rfl)) (hL _) ?_
  refine z_putR (pc' := 44) (R' := opn R 1 [none, none, none, none, none, none, some 2, some 3, some 4, some 5, some 6, none, none, none, none, none, none, none]) rfl rfl rfl rfl (Nat.le_of_ble_eq_true rfl) (Nat.le_of_ble_eq_true rfl) rfl (by decide) (opn_s (by decide) rfl) ?_
  refine z_aload (pc' := 45) rfl rfl rfl ?_
  refine z_int (pc' := 47) (v := nI 12) rfl rfl rfl ?_
  refine z_newa (pc' := 49) (v1 := 6) (v2 := 72) (N' := 8) rfl rfl (Nat.le_of_ble_eq_true rfl) rfl rfl (Nat.le_of_ble_eq_true rfl) rfl rfl (Nat.le_of_ble_eq_true rfl) rfl (Nat.le_of_ble_eq_true rfl) (hD _ (Nat.le_of_ble_eq_true rfl)) (hL _) ?_
  refine z_putR (pc' := 52) (R' := opn R 1 [none, none, none, none, none, none, some 2, some 3, some 4, some 5, some 6, some 7, none, none, none, none, none, none]) rfl rfl rfl rfl (Nat.le_of_ble_eq_true rfl) (Nat.le_of_ble_eq_true rfl) rfl (by decide) (opn_s (by decide) rfl) ?_
  refine z_aload (pc' := 53) rfl rfl rfl ?_
  refine z_int (pc' := 55) (v := nI 12) rfl rfl rfl ?_
  refine z_newa (pc' := 57) (v1 := 7) (v2 := 84) (N' := 9) rfl rfl (Nat.le_of_ble_eq_true rfl) rfl rfl (Nat.le_of_ble_eq_true rfl) rfl rfl (Nat.le_of_ble_eq_true rfl) rfl (Nat.le_of_ble_eq_true rfl) (hD _ (Nat.le_of_ble_eq_true rfl)) (hL _) ?_
  refine z_putR (pc' := 60) (R' := opn R 1 [none, none, none, none, none, none, some 2, some 3, some 4, some 5, some 6, some 7, some 8, none, none, none, none, none]) rfl rfl rfl rfl (Nat.le_of_ble_eq_true rfl) (Nat.le_of_ble_eq_true rfl) rfl (by decide) (opn_s (by decide) rfl) ?_
  refine z_aload (pc' := 61) rfl rfl rfl ?_
  refine z_int (pc' := 63) (v := nI 12) rfl rfl rfl ?_
  refine z_newa (pc' := 65) (v1 := 8) (v2 := 96) (N' := 10) rfl rfl (Nat.le_of_ble_eq_true rfl) rfl rfl (Nat.le_of_ble_eq_true rfl) rfl rfl (Nat.le_of_ble_eq_true rfl) rfl (Nat.le_of_ble_eq_true rfl) (hD _ (Nat.le_of_ble_eq_true rfl)) (hL _) ?_
  refine z_putR (pc' := 68) (R' := opn R 1 [none, none, none, none, none, none, some 2, some 3, some 4, some 5, some 6, some 7, some 8, some 9, none, none, none, none]) rfl rfl rfl rfl (Nat.le_of_ble_eq_true rfl) (Nat.le_of_ble_eq_true rfl) rfl (by decide) (opn_s (by decide) rfl) ?_
  refine z_aload (pc' := 69) rfl rfl rfl ?_
  refine z_int (pc' := 70) (v := nI 4) rfl rfl rfl ?_
  refine z_newa (pc' := 72) (v1 := 9) (v2 := 100) (N' := 11) rfl rfl (Nat.le_of_ble_eq_true rfl) rfl rfl (Nat.le_of_ble_eq_true rfl) rfl rfl (Nat.le_of_ble_eq_true rfl) rfl (Nat.le_of_ble_eq_true rfl) (hD _ (Nat.le_of_ble_eq_true rfl)) (hL _) ?_
  refine z_putR (pc' := 75) (R' := opn R 1 [none, none, none, none, none, none, some 2, some 3, some 4, some 5, some 6, some 7, some 8, some 9, some 10, none, none, none]) rfl rfl rfl rfl (Nat.le_of_ble_eq_true rfl) (Nat.le_of_ble_eq_true rfl) rfl (by decide) (opn_s (by decide) rfl) ?_
  refine z_aload (pc' := 76) rfl rfl rfl ?_
  refine z_int (pc' := 78) (v := nI 32) rfl rfl rfl ?_
  refine z_newa (pc' := 80) (v1 := 10) (v2 := 132) (N' := 12) rfl rfl (Nat.le_of_ble_eq_true rfl) rfl rfl (Nat.le_of_ble_eq_true rfl) rfl rfl (Nat.le_of_ble_eq_true rfl) rfl (Nat.le_of_ble_eq_true rfl) (hD _ (Nat.le_of_ble_eq_true rfl)) (hL _) ?_
  refine z_putR (pc' := 83) (R' := opn R 1 [none, none, none, none, none, none, some 2, some 3, some 4, some 5, some 6, some 7, some 8, some 9, some 10, some 11, none, none]) rfl rfl rfl rfl (Nat.le_of_ble_eq_true rfl) (Nat.le_of_ble_eq_true rfl) rfl (by decide) (opn_s (by decide) rfl) ?_
  refine z_aload (pc' := 84) rfl rfl rfl ?_
  refine z_int (pc' := 87) (v := nI 384) rfl rfl rfl ?_
  refine z_newa (pc' := 89) (v1 := 11) (v2 := 516) (N' := 13) rfl rfl (Nat.le_of_ble_eq_true rfl) rfl rfl (Nat.le_of_ble_eq_true rfl) rfl rfl (Nat.le_of_ble_eq_true rfl) rfl (Nat.le_of_ble_eq_true rfl) (hD _ (Nat.le_of_ble_eq_true rfl)) (hL _) ?_
  refine z_putR (pc' := 92) (R' := opn R 1 [none, none, none, none, none, none, some 2, some 3, some 4, some 5, some 6, some 7, some 8, some 9, some 10, some 11, some 12, none]) rfl rfl rfl rfl (Nat.le_of_ble_eq_true rfl) (Nat.le_of_ble_eq_true rfl) rfl (by decide) (opn_s (by decide) rfl) ?_
  refine z_aload (pc' := 93) rfl rfl rfl ?_
  refine z_int (pc' := 95) (v := nI 16) rfl rfl rfl ?_
  refine z_newa (pc' := 97) (v1 := 12) (v2 := 532) (N' := 14) rfl rfl (Nat.le_of_ble_eq_true rfl) rfl rfl (Nat.le_of_ble_eq_true rfl) rfl rfl (Nat.le_of_ble_eq_true rfl) rfl (Nat.le_of_ble_eq_true rfl) (hD _ (Nat.le_of_ble_eq_true rfl)) (hL _) ?_
  refine z_putR (pc' := 100) (R' := opn R 1 [none, none, none, none, none, none, some 2, some 3, some 4, some 5, some 6, some 7, some 8, some 9, some 10, some 11, some 12, some 13]) rfl rfl rfl rfl (Nat.le_of_ble_eq_true rfl) (Nat.le_of_ble_eq_true rfl) rfl (by decide) (opn_s (by decide) rfl) ?_
  refine z_vret rfl (Nat.le_of_ble_eq_true rfl) (Nat.le_of_ble_eq_true rfl) rfl ?_
  rw [opn_e (l := [none, none, none, none, none, none, some 2, some 3, some 4, some 5, some 6, some 7, some 8, some 9, some 10, some 11, some 12, some 13]) (z := 0) rfl hR]
  exact k1
set_option maxRecDepth 20000 in
set_option maxHeartbeats 1000000 in
theorem w_X7_init_14 {R : Nat → Nat → Option Nat} {D : Nat → Nat → Int32} {L : Nat → Nat → Int64} {Q : bh_Q} (hR : R 14 = bh_R0 14) (hD : ∀ a, a < 228 → D a = fun _ => 0) (hL : ∀ a, L a = fun _ => 0) (k1 : Q none (27, R, D, L)) : bh_wc 1 m_X7_init [.ref 14] (15, bh_upr R 14 (fun _ => none), D, L) Q := by
  refine z_start (lv0 := [_]) (Nat.le_of_ble_eq_true rfl) rfl ?_
  rw [opn_0 (l := [none, none, none, none, none, none, none, none, none, none, none, none, none, none, none, none, none, none]) 18 rfl]
  refine z_aload (pc' := 1) rfl rfl rfl ?_
  refine z_oi (pc' := 4) rfl rfl (by decide) ?_
  refine z_aload (pc' := 5) rfl rfl rfl ?_
  refine z_int (pc' := 7) (v := nI 12) rfl rfl rfl ?_
  refine z_newa (pc' := 9) (v1 := 1) (v2 := 12) (N' := 16) rfl rfl (Nat.le_of_ble_eq_true rfl) rfl rfl (Nat.le_of_ble_eq_true rfl) rfl rfl (Nat.le_of_ble_eq_true rfl) rfl (Nat.le_of_ble_eq_true rfl) (hD _ (Nat.le_of_ble_eq_true rfl)) (hL _) ?_
  refine z_putR (pc' := 12) (R' := opn R 14 [none, none, none, none, none, none, some 15, none, none, none, none, none, none, none, none, none, none, none]) rfl rfl rfl rfl (Nat.le_of_ble_eq_true rfl) (Nat.le_of_ble_eq_true rfl) rfl (by decide) (opn_s (by decide) rfl) ?_
  refine z_aload (pc' := 13) rfl rfl rfl ?_
  refine z_int (pc' := 15) (v := nI 12) rfl rfl rfl ?_
  refine z_newa (pc' := 17) (v1 := 2) (v2 := 24) (N' := 17) rfl rfl (Nat.le_of_ble_eq_true rfl) rfl rfl (Nat.le_of_ble_eq_true rfl) rfl rfl (Nat.le_of_ble_eq_true rfl) rfl (Nat.le_of_ble_eq_true rfl) (hD _ (Nat.le_of_ble_eq_true rfl)) (hL _) ?_
  refine z_putR (pc' := 20) (R' := opn R 14 [none, none, none, none, none, none, some 15, some 16, none, none, none, none, none, none, none, none, none, none]) rfl rfl rfl rfl (Nat.le_of_ble_eq_true rfl) (Nat.le_of_ble_eq_true rfl) rfl (by decide) (opn_s (by decide) rfl) ?_
  refine z_aload (pc' := 21) rfl rfl rfl ?_
  refine z_int (pc' := 23) (v := nI 12) rfl rfl rfl ?_
  refine z_newa (pc' := 25) (v1 := 3) (v2 := 36) (N' := 18) rfl rfl (Nat.le_of_ble_eq_true rfl) rfl rfl (Nat.le_of_ble_eq_true rfl) rfl rfl (Nat.le_of_ble_eq_true rfl) rfl (Nat.le_of_ble_eq_true rfl) (hD _ (Nat.le_of_ble_eq_true rfl)) (hL _) ?_
  refine z_putR (pc' := 28) (R' := opn R 14 [none, none, none, none, none, none, some 15, some 16, some 17, none, none, none, none, none, none, none, none, none]) rfl rfl rfl rfl (Nat.le_of_ble_eq_true rfl) (Nat.le_of_ble_eq_true rfl) rfl (by decide) (opn_s (by decide) rfl) ?_
  refine z_aload (pc' := 29) rfl rfl rfl ?_
  refine z_int (pc' := 31) (v := nI 12) rfl rfl rfl ?_
  refine z_newa (pc' := 33) (v1 := 4) (v2 := 48) (N' := 19) rfl rfl (Nat.le_of_ble_eq_true rfl) rfl rfl (Nat.le_of_ble_eq_true rfl) rfl rfl (Nat.le_of_ble_eq_true rfl) rfl (Nat.le_of_ble_eq_true rfl) (hD _ (Nat.le_of_ble_eq_true rfl)) (hL _) ?_
  refine z_putR (pc' := 36) (R' := opn R 14 [none, none, none, none, none, none, some 15, some 16, some 17, some 18, none, none, none, none, none, none, none, none]) rfl rfl rfl rfl (Nat.le_of_ble_eq_true rfl) (Nat.le_of_ble_eq_true rfl) rfl (by decide) (opn_s (by decide) rfl) ?_
  refine z_aload (pc' := 37) rfl rfl rfl ?_
  refine z_int (pc' := 39) (v := nI 12) rfl rfl rfl ?_
  refine z_newa (pc' := 41) (v1 := 5) (v2 := 60) (N' := 20) rfl rfl (Nat.le_of_ble_eq_true rfl) rfl rfl (Nat.le_of_ble_eq_true rfl) rfl rfl (Nat.le_of_ble_eq_true rfl) rfl (Nat.le_of_ble_eq_true rfl) (hD _ (Nat.le_of_ble_eq_true rfl)) (hL _) ?_
  refine z_putR (pc' := 44) (R' := opn R 14 [none, none, none, none, none, none, some 15, some 16, some 17, some 18, some 19, none, none, none, none, none, none, none]) rfl rfl rfl rfl (Nat.le_of_ble_eq_true rfl) (Nat.le_of_ble_eq_true rfl) rfl (by decide) (opn_s (by decide) rfl) ?_
  refine z_aload (pc' := 45) rfl rfl rfl ?_
  refine z_int (pc' := 47) (v := nI 12) rfl rfl rfl ?_
  refine z_newa (pc' := 49) (v1 := 6) (v2 := 72) (N' := 21) rfl rfl (Nat.le_of_ble_eq_true rfl) rfl rfl (Nat.le_of_ble_eq_true rfl) rfl rfl (Nat.le_of_ble_eq_true rfl) rfl (Nat.le_of_ble_eq_true rfl) (hD _ (Nat.le_of_ble_eq_true rfl)) (hL _) ?_
  refine z_putR (pc' := 52) (R' := opn R 14 [none, none, none, none, none, none, some 15, some 16, some 17, some 18, some 19, some 20, none, none, none, none, none, none]) rfl rfl rfl rfl (Nat.le_of_ble_eq_true rfl) (Nat.le_of_ble_eq_true rfl) rfl (by decide) (opn_s (by decide) rfl) ?_
  refine z_aload (pc' := 53) rfl rfl rfl ?_
  refine z_int (pc' := 55) (v := nI 12) rfl rfl rfl ?_
  refine z_newa (pc' := 57) (v1 := 7) (v2 := 84) (N' := 22) rfl rfl (Nat.le_of_ble_eq_true rfl) rfl rfl (Nat.le_of_ble_eq_true rfl) rfl rfl (Nat.le_of_ble_eq_true rfl) rfl (Nat.le_of_ble_eq_true rfl) (hD _ (Nat.le_of_ble_eq_true rfl)) (hL _) ?_
  refine z_putR (pc' := 60) (R' := opn R 14 [none, none, none, none, none, none, some 15, some 16, some 17, some 18, some 19, some 20, some 21, none, none, none, none, none]) rfl rfl rfl rfl (Nat.le_of_ble_eq_true rfl) (Nat.le_of_ble_eq_true rfl) rfl (by decide) (opn_s (by decide) rfl) ?_
  refine z_aload (pc' := 61) rfl rfl rfl ?_
  refine z_int (pc' := 63) (v := nI 12) rfl rfl rfl ?_
  refine z_newa (pc' := 65) (v1 := 8) (v2 := 96) (N' := 23) rfl rfl (Nat.le_of_ble_eq_true rfl) rfl rfl (Nat.le_of_ble_eq_true rfl) rfl rfl (Nat.le_of_ble_eq_true rfl) rfl (Nat.le_of_ble_eq_true rfl) (hD _ (Nat.le_of_ble_eq_true rfl)) (hL _) ?_
  refine z_putR (pc' := 68) (R' := opn R 14 [none, none, none, none, none, none, some 15, some 16, some 17, some 18, some 19, some 20, some 21, some 22, none, none, none, none]) rfl rfl rfl rfl (Nat.le_of_ble_eq_true rfl) (Nat.le_of_ble_eq_true rfl) rfl (by decide) (opn_s (by decide) rfl) ?_
  refine z_aload (pc' := 69) rfl rfl rfl ?_
  refine z_int (pc' := 70) (v := nI 4) rfl rfl rfl ?_
  refine z_newa (pc' := 72) (v1 := 9) (v2 := 100) (N' := 24) rfl rfl (Nat.le_of_ble_eq_true rfl) rfl rfl (Nat.le_of_ble_eq_true rfl) rfl rfl (Nat.le_of_ble_eq_true rfl) rfl (Nat.le_of_ble_eq_true rfl) (hD _ (Nat.le_of_ble_eq_true rfl)) (hL _) ?_
  refine z_putR (pc' := 75) (R' := opn R 14 [none, none, none, none, none, none, some 15, some 16, some 17, some 18, some 19, some 20, some 21, some 22, some 23, none, none, none]) rfl rfl rfl rfl (Nat.le_of_ble_eq_true rfl) (Nat.le_of_ble_eq_true rfl) rfl (by decide) (opn_s (by decide) rfl) ?_
  refine z_aload (pc' := 76) rfl rfl rfl ?_
  refine z_int (pc' := 78) (v := nI 32) rfl rfl rfl ?_
  refine z_newa (pc' := 80) (v1 := 10) (v2 := 132) (N' := 25) rfl rfl (Nat.le_of_ble_eq_true rfl) rfl rfl (Nat.le_of_ble_eq_true rfl) rfl rfl (Nat.le_of_ble_eq_true rfl) rfl (Nat.le_of_ble_eq_true rfl) (hD _ (Nat.le_of_ble_eq_true rfl)) (hL _) ?_
  refine z_putR (pc' := 83) (R' := opn R 14 [none, none, none, none, none, none, some 15, some 16, some 17, some 18, some 19, some 20, some 21, some 22, some 23, some 24, none, none]) rfl rfl rfl rfl (Nat.le_of_ble_eq_true rfl) (Nat.le_of_ble_eq_true rfl) rfl (by decide) (opn_s (by decide) rfl) ?_
  refine z_aload (pc' := 84) rfl rfl rfl ?_
  refine z_int (pc' := 87) (v := nI 384) rfl rfl rfl ?_
  refine z_newa (pc' := 89) (v1 := 11) (v2 := 516) (N' := 26) rfl rfl (Nat.le_of_ble_eq_true rfl) rfl rfl (Nat.le_of_ble_eq_true rfl) rfl rfl (Nat.le_of_ble_eq_true rfl) rfl (Nat.le_of_ble_eq_true rfl) (hD _ (Nat.le_of_ble_eq_true rfl)) (hL _) ?_
  refine z_putR (pc' := 92) (R' := opn R 14 [none, none, none, none, none, none, some 15, some 16, some 17, some 18, some 19, some 20, some 21, some 22, some 23, some 24, some 25, none]) rfl rfl rfl rfl (Nat.le_of_ble_eq_true rfl) (Nat.le_of_ble_eq_true rfl) rfl (by decide) (opn_s (by decide) rfl) ?_
  refine z_aload (pc' := 93) rfl rfl rfl ?_
  refine z_int (pc' := 95) (v := nI 16) rfl rfl rfl ?_
  refine z_newa (pc' := 97) (v1 := 12) (v2 := 532) (N' := 27) rfl rfl (Nat.le_of_ble_eq_true rfl) rfl rfl (Nat.le_of_ble_eq_true rfl) rfl rfl (Nat.le_of_ble_eq_true rfl) rfl (Nat.le_of_ble_eq_true rfl) (hD _ (Nat.le_of_ble_eq_true rfl)) (hL _) ?_
  refine z_putR (pc' := 100) (R' := opn R 14 [none, none, none, none, none, none, some 15, some 16, some 17, some 18, some 19, some 20, some 21, some 22, some 23, some 24, some 25, some 26]) rfl rfl rfl rfl (Nat.le_of_ble_eq_true rfl) (Nat.le_of_ble_eq_true rfl) rfl (by decide) (opn_s (by decide) rfl) ?_
  refine z_vret rfl (Nat.le_of_ble_eq_true rfl) (Nat.le_of_ble_eq_true rfl) rfl ?_
  rw [opn_e (l := [none, none, none, none, none, none, some 15, some 16, some 17, some 18, some 19, some 20, some 21, some 22, some 23, some 24, some 25, some 26]) (z := 0) rfl hR]
  exact k1
set_option maxRecDepth 20000 in
set_option maxHeartbeats 1000000 in
theorem w_X6_init_27 {R : Nat → Nat → Option Nat} {D : Nat → Nat → Int32} {L : Nat → Nat → Int64} {Q : bh_Q} (hR : R 27 = bh_R0 27) (hD : ∀ a, a < 228 → D a = fun _ => 0) (hL : ∀ a, L a = fun _ => 0) (k1 : Q none (29, R, D, L)) : bh_wc 1 m_X6_init [.ref 27] (28, bh_upr R 27 (fun _ => none), D, L) Q := by
  refine z_start (lv0 := [_]) (Nat.le_of_ble_eq_true rfl) rfl ?_
  rw [opn_0 (l := [none, none, none, none, none]) 5 rfl]
  refine z_aload (pc' := 1) rfl rfl rfl ?_
  refine z_oi (pc' := 4) rfl rfl (by decide) ?_
  refine z_aload (pc' := 5) rfl rfl rfl ?_
  refine z_int (pc' := 8) (v := nI 400) rfl rfl rfl ?_
  refine z_newa (pc' := 10) (v1 := 1) (v2 := 400) (N' := 29) rfl rfl (Nat.le_of_ble_eq_true rfl) rfl rfl (Nat.le_of_ble_eq_true rfl) rfl rfl (Nat.le_of_ble_eq_true rfl) rfl (Nat.le_of_ble_eq_true rfl) (hD _ (Nat.le_of_ble_eq_true rfl)) (hL _) ?_
  refine z_putR (pc' := 13) (R' := opn R 27 [some 28, none, none, none, none]) rfl rfl rfl rfl (Nat.le_of_ble_eq_true rfl) (Nat.le_of_ble_eq_true rfl) rfl (by decide) (opn_s (by decide) rfl) ?_
  refine z_vret rfl (Nat.le_of_ble_eq_true rfl) (Nat.le_of_ble_eq_true rfl) rfl ?_
  rw [opn_e (l := [some 28, none, none, none, none]) (z := 4) rfl hR]
  exact k1
set_option maxRecDepth 20000 in
set_option maxHeartbeats 1000000 in
theorem w_X2_init_31 {R : Nat → Nat → Option Nat} {D : Nat → Nat → Int32} {L : Nat → Nat → Int64} {Q : bh_Q} (hR : R 31 = bh_R0 31) (hD : ∀ a, a < 228 → D a = fun _ => 0) (hL : ∀ a, L a = fun _ => 0) (k1 : Q none (33, R, D, L)) : bh_wc 1 m_X2_init [.ref 31] (32, bh_upr R 31 (fun _ => none), D, L) Q := by
  refine z_start (lv0 := [_]) (Nat.le_of_ble_eq_true rfl) rfl ?_
  rw [opn_0 (l := [none, none]) 2 rfl]
  refine z_aload (pc' := 1) rfl rfl rfl ?_
  refine z_oi (pc' := 4) rfl rfl (by decide) ?_
  refine z_aload (pc' := 5) rfl rfl rfl ?_
  refine z_int (pc' := 7) (v := nI 12) rfl rfl rfl ?_
  refine z_newa (pc' := 9) (v1 := 1) (v2 := 12) (N' := 33) rfl rfl (Nat.le_of_ble_eq_true rfl) rfl rfl (Nat.le_of_ble_eq_true rfl) rfl rfl (Nat.le_of_ble_eq_true rfl) rfl (Nat.le_of_ble_eq_true rfl) (hD _ (Nat.le_of_ble_eq_true rfl)) (hL _) ?_
  refine z_putR (pc' := 12) (R' := opn R 31 [some 32, none]) rfl rfl rfl rfl (Nat.le_of_ble_eq_true rfl) (Nat.le_of_ble_eq_true rfl) rfl (by decide) (opn_s (by decide) rfl) ?_
  refine z_vret rfl (Nat.le_of_ble_eq_true rfl) (Nat.le_of_ble_eq_true rfl) rfl ?_
  rw [opn_e (l := [some 32, none]) (z := 1) rfl hR]
  exact k1
set_option maxRecDepth 20000 in
set_option maxHeartbeats 1000000 in
theorem w_X8_init_33 {R : Nat → Nat → Option Nat} {D : Nat → Nat → Int32} {L : Nat → Nat → Int64} {Q : bh_Q} (hR : R 33 = bh_R0 33) (hD : ∀ a, a < 228 → D a = fun _ => 0) (hL : ∀ a, L a = fun _ => 0) (k1 : Q none (37, R, D, L)) : bh_wc 1 m_X8_init [.ref 33] (34, bh_upr R 33 (fun _ => none), D, L) Q := by
  refine z_start (lv0 := [_]) (Nat.le_of_ble_eq_true rfl) rfl ?_
  rw [opn_0 (l := [none, none, none]) 3 rfl]
  refine z_aload (pc' := 1) rfl rfl rfl ?_
  refine z_oi (pc' := 4) rfl rfl (by decide) ?_
  refine z_aload (pc' := 5) rfl rfl rfl ?_
  refine z_int (pc' := 7) (v := nI 16) rfl rfl rfl ?_
  refine z_newa (pc' := 9) (v1 := 1) (v2 := 16) (N' := 35) rfl rfl (Nat.le_of_ble_eq_true rfl) rfl rfl (Nat.le_of_ble_eq_true rfl) rfl rfl (Nat.le_of_ble_eq_true rfl) rfl (Nat.le_of_ble_eq_true rfl) (hD _ (Nat.le_of_ble_eq_true rfl)) (hL _) ?_
  refine z_putR (pc' := 12) (R' := opn R 33 [some 34, none, none]) rfl rfl rfl rfl (Nat.le_of_ble_eq_true rfl) (Nat.le_of_ble_eq_true rfl) rfl (by decide) (opn_s (by decide) rfl) ?_
  refine z_aload (pc' := 13) rfl rfl rfl ?_
  refine z_int (pc' := 15) (v := nI 16) rfl rfl rfl ?_
  refine z_newa (pc' := 17) (v1 := 2) (v2 := 32) (N' := 36) rfl rfl (Nat.le_of_ble_eq_true rfl) rfl rfl (Nat.le_of_ble_eq_true rfl) rfl rfl (Nat.le_of_ble_eq_true rfl) rfl (Nat.le_of_ble_eq_true rfl) (hD _ (Nat.le_of_ble_eq_true rfl)) (hL _) ?_
  refine z_putR (pc' := 20) (R' := opn R 33 [some 34, some 35, none]) rfl rfl rfl rfl (Nat.le_of_ble_eq_true rfl) (Nat.le_of_ble_eq_true rfl) rfl (by decide) (opn_s (by decide) rfl) ?_
  refine z_aload (pc' := 21) rfl rfl rfl ?_
  refine z_int (pc' := 23) (v := nI 16) rfl rfl rfl ?_
  refine z_newa (pc' := 25) (v1 := 3) (v2 := 48) (N' := 37) rfl rfl (Nat.le_of_ble_eq_true rfl) rfl rfl (Nat.le_of_ble_eq_true rfl) rfl rfl (Nat.le_of_ble_eq_true rfl) rfl (Nat.le_of_ble_eq_true rfl) (hD _ (Nat.le_of_ble_eq_true rfl)) (hL _) ?_
  refine z_putR (pc' := 28) (R' := opn R 33 [some 34, some 35, some 36]) rfl rfl rfl rfl (Nat.le_of_ble_eq_true rfl) (Nat.le_of_ble_eq_true rfl) rfl (by decide) (opn_s (by decide) rfl) ?_
  refine z_vret rfl (Nat.le_of_ble_eq_true rfl) (Nat.le_of_ble_eq_true rfl) rfl ?_
  rw [opn_e (l := [some 34, some 35, some 36]) (z := 0) rfl hR]
  exact k1
set_option maxRecDepth 20000 in
set_option maxHeartbeats 1000000 in
theorem w_X4_init_37 {R : Nat → Nat → Option Nat} {D : Nat → Nat → Int32} {L : Nat → Nat → Int64} {Q : bh_Q} (hR : R 37 = bh_R0 37) (hD : ∀ a, a < 228 → D a = fun _ => 0) (hL : ∀ a, L a = fun _ => 0) (k1 : Q none (38, R, D, L)) : bh_wc 1 m_X4_init [.ref 37] (38, bh_upr R 37 (fun _ => none), D, L) Q := by
  refine z_start (lv0 := [_]) (Nat.le_of_ble_eq_true rfl) rfl ?_
  rw [opn_0 (l := [none, none, none, none, none, none, none]) 7 rfl]
  refine z_aload (pc' := 1) rfl rfl rfl ?_
  refine z_oi (pc' := 4) rfl rfl (by decide) ?_
  refine z_vret rfl (Nat.le_of_ble_eq_true rfl) (Nat.le_of_ble_eq_true rfl) rfl ?_
  rw [opn_e (l := [none, none, none, none, none, none, none]) (z := 7) rfl hR]
  exact k1
set_option maxRecDepth 20000 in
set_option maxHeartbeats 1000000 in
theorem w_X5_init_38 {R : Nat → Nat → Option Nat} {D : Nat → Nat → Int32} {L : Nat → Nat → Int64} {Q : bh_Q} (hR : R 38 = bh_R0 38) (hD : ∀ a, a < 228 → D a = fun _ => 0) (hL : ∀ a, L a = fun _ => 0) (k1 : Q none (41, R, D, L)) : bh_wc 1 m_X5_init [.ref 38] (39, bh_upr R 38 (fun _ => none), D, L) Q := by
  refine z_start (lv0 := [_]) (Nat.le_of_ble_eq_true rfl) rfl ?_
  rw [opn_0 (l := [none, none, none]) 3 rfl]
  refine z_aload (pc' := 1) rfl rfl rfl ?_
  refine z_oi (pc' := 4) rfl rfl (by decide) ?_
  refine z_aload (pc' := 5) rfl rfl rfl ?_
  refine z_int (pc' := 7) (v := nI 16) rfl rfl rfl ?_
  refine z_newa (pc' := 9) (v1 := 1) (v2 := 16) (N' := 40) rfl rfl (Nat.le_of_ble_eq_true rfl) rfl rfl (Nat.le_of_ble_eq_true rfl) rfl rfl (Nat.le_of_ble_eq_true rfl) rfl (Nat.le_of_ble_eq_true rfl) (hD _ (Nat.le_of_ble_eq_true rfl)) (hL _) ?_
  refine z_putR (pc' := 12) (R' := opn R 38 [some 39, none, none]) rfl rfl rfl rfl (Nat.le_of_ble_eq_true rfl) (Nat.le_of_ble_eq_true rfl) rfl (by decide) (opn_s (by decide) rfl) ?_
  refine z_aload (pc' := 13) rfl rfl rfl ?_
  refine z_int (pc' := 15) (v := nI 16) rfl rfl rfl ?_
  refine z_newa (pc' := 17) (v1 := 2) (v2 := 32) (N' := 41) rfl rfl (Nat.le_of_ble_eq_true rfl) rfl rfl (Nat.le_of_ble_eq_true rfl) rfl rfl (Nat.le_of_ble_eq_true rfl) rfl (Nat.le_of_ble_eq_true rfl) (hD _ (Nat.le_of_ble_eq_true rfl)) (hL _) ?_
  refine z_putR (pc' := 20) (R' := opn R 38 [some 39, some 40, none]) rfl rfl rfl rfl (Nat.le_of_ble_eq_true rfl) (Nat.le_of_ble_eq_true rfl) rfl (by decide) (opn_s (by decide) rfl) ?_
  refine z_vret rfl (Nat.le_of_ble_eq_true rfl) (Nat.le_of_ble_eq_true rfl) rfl ?_
  rw [opn_e (l := [some 39, some 40, none]) (z := 1) rfl hR]
  exact k1
set_option maxRecDepth 20000 in
set_option maxHeartbeats 1000000 in
theorem w_X0_init_41 {R : Nat → Nat → Option Nat} {D : Nat → Nat → Int32} {L : Nat → Nat → Int64} {Q : bh_Q} (hR : R 41 = bh_R0 41) (hD : ∀ a, a < 228 → D a = fun _ => 0) (hL : ∀ a, L a = fun _ => 0) (k1 : Q none (44, R, D, L)) : bh_wc 1 m_X0_init [.ref 41] (42, bh_upr R 41 (fun _ => none), D, L) Q := by
  refine z_start (lv0 := [_]) (Nat.le_of_ble_eq_true rfl) rfl ?_
  rw [opn_0 (l := [none, none, none]) 3 rfl]
  refine z_aload (pc' := 1) rfl rfl rfl ?_
  refine z_oi (pc' := 4) rfl rfl (by decide) ?_
  refine z_aload (pc' := 5) rfl rfl rfl ?_
  refine z_int (pc' := 7) (v := nI 96) rfl rfl rfl ?_
  refine z_newa (pc' := 9) (v1 := 1) (v2 := 96) (N' := 43) rfl rfl (Nat.le_of_ble_eq_true rfl) rfl rfl (Nat.le_of_ble_eq_true rfl) rfl rfl (Nat.le_of_ble_eq_true rfl) rfl (Nat.le_of_ble_eq_true rfl) (hD _ (Nat.le_of_ble_eq_true rfl)) (hL _) ?_
  refine z_putR (pc' := 12) (R' := opn R 41 [some 42, none, none]) rfl rfl rfl rfl (Nat.le_of_ble_eq_true rfl) (Nat.le_of_ble_eq_true rfl) rfl (by decide) (opn_s (by decide) rfl) ?_
  refine z_aload (pc' := 13) rfl rfl rfl ?_
  refine z_int (pc' := 16) (v := nI 144) rfl rfl rfl ?_
  refine z_newa (pc' := 18) (v1 := 2) (v2 := 240) (N' := 44) rfl rfl (Nat.le_of_ble_eq_true rfl) rfl rfl (Nat.le_of_ble_eq_true rfl) rfl rfl (Nat.le_of_ble_eq_true rfl) rfl (Nat.le_of_ble_eq_true rfl) (hD _ (Nat.le_of_ble_eq_true rfl)) (hL _) ?_
  refine z_putR (pc' := 21) (R' := opn R 41 [some 42, some 43, none]) rfl rfl rfl rfl (Nat.le_of_ble_eq_true rfl) (Nat.le_of_ble_eq_true rfl) rfl (by decide) (opn_s (by decide) rfl) ?_
  refine z_vret rfl (Nat.le_of_ble_eq_true rfl) (Nat.le_of_ble_eq_true rfl) rfl ?_
  rw [opn_e (l := [some 42, some 43, none]) (z := 1) rfl hR]
  exact k1
set_option maxRecDepth 20000 in
set_option maxHeartbeats 1000000 in
theorem w_X3_init_44 {R : Nat → Nat → Option Nat} {D : Nat → Nat → Int32} {L : Nat → Nat → Int64} {Q : bh_Q} (hR : R 44 = bh_R0 44) (hD : ∀ a, a < 228 → D a = fun _ => 0) (hL : ∀ a, L a = fun _ => 0) (k1 : Q none (47, R, D, L)) : bh_wc 1 m_X3_init [.ref 44] (45, bh_upr R 44 (fun _ => none), D, L) Q := by
  refine z_start (lv0 := [_]) (Nat.le_of_ble_eq_true rfl) rfl ?_
  rw [opn_0 (l := [none, none]) 2 rfl]
  refine z_aload (pc' := 1) rfl rfl rfl ?_
  refine z_oi (pc' := 4) rfl rfl (by decide) ?_
  refine z_aload (pc' := 5) rfl rfl rfl ?_
  refine z_int (pc' := 7) (v := nI 16) rfl rfl rfl ?_
  refine z_newa (pc' := 9) (v1 := 1) (v2 := 16) (N' := 46) rfl rfl (Nat.le_of_ble_eq_true rfl) rfl rfl (Nat.le_of_ble_eq_true rfl) rfl rfl (Nat.le_of_ble_eq_true rfl) rfl (Nat.le_of_ble_eq_true rfl) (hD _ (Nat.le_of_ble_eq_true rfl)) (hL _) ?_
  refine z_putR (pc' := 12) (R' := opn R 44 [some 45, none]) rfl rfl rfl rfl (Nat.le_of_ble_eq_true rfl) (Nat.le_of_ble_eq_true rfl) rfl (by decide) (opn_s (by decide) rfl) ?_
  refine z_aload (pc' := 13) rfl rfl rfl ?_
  refine z_int (pc' := 15) (v := nI 16) rfl rfl rfl ?_
  refine z_newa (pc' := 17) (v1 := 2) (v2 := 32) (N' := 47) rfl rfl (Nat.le_of_ble_eq_true rfl) rfl rfl (Nat.le_of_ble_eq_true rfl) rfl rfl (Nat.le_of_ble_eq_true rfl) rfl (Nat.le_of_ble_eq_true rfl) (hD _ (Nat.le_of_ble_eq_true rfl)) (hL _) ?_
  refine z_putR (pc' := 20) (R' := opn R 44 [some 45, some 46]) rfl rfl rfl rfl (Nat.le_of_ble_eq_true rfl) (Nat.le_of_ble_eq_true rfl) rfl (by decide) (opn_s (by decide) rfl) ?_
  refine z_vret rfl (Nat.le_of_ble_eq_true rfl) (Nat.le_of_ble_eq_true rfl) rfl ?_
  rw [opn_e (l := [some 45, some 46]) (z := 0) rfl hR]
  exact k1
set_option maxRecDepth 20000 in
set_option maxHeartbeats 1000000 in
theorem w_X7_init_49 {R : Nat → Nat → Option Nat} {D : Nat → Nat → Int32} {L : Nat → Nat → Int64} {Q : bh_Q} (hR : R 49 = bh_R0 49) (hD : ∀ a, a < 228 → D a = fun _ => 0) (hL : ∀ a, L a = fun _ => 0) (k1 : Q none (62, R, D, L)) : bh_wc 1 m_X7_init [.ref 49] (50, bh_upr R 49 (fun _ => none), D, L) Q := by
  refine z_start (lv0 := [_]) (Nat.le_of_ble_eq_true rfl) rfl ?_
  rw [opn_0 (l := [none, none, none, none, none, none, none, none, none, none, none, none, none, none, none, none, none, none]) 18 rfl]
  refine z_aload (pc' := 1) rfl rfl rfl ?_
  refine z_oi (pc' := 4) rfl rfl (by decide) ?_
  refine z_aload (pc' := 5) rfl rfl rfl ?_
  refine z_int (pc' := 7) (v := nI 12) rfl rfl rfl ?_
  refine z_newa (pc' := 9) (v1 := 1) (v2 := 12) (N' := 51) rfl rfl (Nat.le_of_ble_eq_true rfl) rfl rfl (Nat.le_of_ble_eq_true rfl) rfl rfl (Nat.le_of_ble_eq_true rfl) rfl (Nat.le_of_ble_eq_true rfl) (hD _ (Nat.le_of_ble_eq_true rfl)) (hL _) ?_
  refine z_putR (pc' := 12) (R' := opn R 49 [none, none, none, none, none, none, some 50, none, none, none, none, none, none, none, none, none, none, none]) rfl rfl rfl rfl (Nat.le_of_ble_eq_true rfl) (Nat.le_of_ble_eq_true rfl) rfl (by decide) (opn_s (by decide) rfl) ?_
  refine z_aload (pc' := 13) rfl rfl rfl ?_
  refine z_int (pc' := 15) (v := nI 12) rfl rfl rfl ?_
  refine z_newa (pc' := 17) (v1 := 2) (v2 := 24) (N' := 52) rfl rfl (Nat.le_of_ble_eq_true rfl) rfl rfl (Nat.le_of_ble_eq_true rfl) rfl rfl (Nat.le_of_ble_eq_true rfl) rfl (Nat.le_of_ble_eq_true rfl) (hD _ (Nat.le_of_ble_eq_true rfl)) (hL _) ?_
  refine z_putR (pc' := 20) (R' := opn R 49 [none, none, none, none, none, none, some 50, some 51, none, none, none, none, none, none, none, none, none, none]) rfl rfl rfl rfl (Nat.le_of_ble_eq_true rfl) (Nat.le_of_ble_eq_true rfl) rfl (by decide) (opn_s (by decide) rfl) ?_
  refine z_aload (pc' := 21) rfl rfl rfl ?_
  refine z_int (pc' := 23) (v := nI 12) rfl rfl rfl ?_
  refine z_newa (pc' := 25) (v1 := 3) (v2 := 36) (N' := 53) rfl rfl (Nat.le_of_ble_eq_true rfl) rfl rfl (Nat.le_of_ble_eq_true rfl) rfl rfl (Nat.le_of_ble_eq_true rfl) rfl (Nat.le_of_ble_eq_true rfl) (hD _ (Nat.le_of_ble_eq_true rfl)) (hL _) ?_
  refine z_putR (pc' := 28) (R' := opn R 49 [none, none, none, none, none, none, some 50, some 51, some 52, none, none, none, none, none, none, none, none, none]) rfl rfl rfl rfl (Nat.le_of_ble_eq_true rfl) (Nat.le_of_ble_eq_true rfl) rfl (by decide) (opn_s (by decide) rfl) ?_
  refine z_aload (pc' := 29) rfl rfl rfl ?_
  refine z_int (pc' := 31) (v := nI 12) rfl rfl rfl ?_
  refine z_newa (pc' := 33) (v1 := 4) (v2 := 48) (N' := 54) rfl rfl (Nat.le_of_ble_eq_true rfl) rfl rfl (Nat.le_of_ble_eq_true rfl) rfl rfl (Nat.le_of_ble_eq_true rfl) rfl (Nat.le_of_ble_eq_true rfl) (hD _ (Nat.le_of_ble_eq_true rfl)) (hL _) ?_
  refine z_putR (pc' := 36) (R' := opn R 49 [none, none, none, none, none, none, some 50, some 51, some 52, some 53, none, none, none, none, none, none, none, none]) rfl rfl rfl rfl (Nat.le_of_ble_eq_true rfl) (Nat.le_of_ble_eq_true rfl) rfl (by decide) (opn_s (by decide) rfl) ?_
  refine z_aload (pc' := 37) rfl rfl rfl ?_
  refine z_int (pc' := 39) (v := nI 12) rfl rfl rfl ?_
  refine z_newa (pc' := 41) (v1 := 5) (v2 := 60) (N' := 55) rfl rfl (Nat.le_of_ble_eq_true rfl) rfl rfl (Nat.le_of_ble_eq_true rfl) rfl rfl (Nat.le_of_ble_eq_true rfl) rfl (Nat.le_of_ble_eq_true rfl) (hD _ (Nat.le_of_ble_eq_true rfl)) (hL _) ?_
  refine z_putR (pc' := 44) (R' := opn R 49 [none, none, none, none, none, none, some 50, some 51, some 52, some 53, some 54, none, none, none, none, none, none, none]) rfl rfl rfl rfl (Nat.le_of_ble_eq_true rfl) (Nat.le_of_ble_eq_true rfl) rfl (by decide) (opn_s (by decide) rfl) ?_
  refine z_aload (pc' := 45) rfl rfl rfl ?_
  refine z_int (pc' := 47) (v := nI 12) rfl rfl rfl ?_
  refine z_newa (pc' := 49) (v1 := 6) (v2 := 72) (N' := 56) rfl rfl (Nat.le_of_ble_eq_true rfl) rfl rfl (Nat.le_of_ble_eq_true rfl) rfl rfl (Nat.le_of_ble_eq_true rfl) rfl (Nat.le_of_ble_eq_true rfl) (hD _ (Nat.le_of_ble_eq_true rfl)) (hL _) ?_
  refine z_putR (pc' := 52) (R' := opn R 49 [none, none, none, none, none, none, some 50, some 51, some 52, some 53, some 54, some 55, none, none, none, none, none, none]) rfl rfl rfl rfl (Nat.le_of_ble_eq_true rfl) (Nat.le_of_ble_eq_true rfl) rfl (by decide) (opn_s (by decide) rfl) ?_
  refine z_aload (pc' := 53) rfl rfl rfl ?_
  refine z_int (pc' := 55) (v := nI 12) rfl rfl rfl ?_
  refine z_newa (pc' := 57) (v1 := 7) (v2 := 84) (N' := 57) rfl rfl (Nat.le_of_ble_eq_true rfl) rfl rfl (Nat.le_of_ble_eq_true rfl) rfl rfl (Nat.le_of_ble_eq_true rfl) rfl (Nat.le_of_ble_eq_true rfl) (hD _ (Nat.le_of_ble_eq_true rfl)) (hL _) ?_
  refine z_putR (pc' := 60) (R' := opn R 49 [none, none, none, none, none, none, some 50, some 51, some 52, some 53, some 54, some 55, some 56, none, none, none, none, none]) rfl rfl rfl rfl (Nat.le_of_ble_eq_true rfl) (Nat.le_of_ble_eq_true rfl) rfl (by decide) (opn_s (by decide) rfl) ?_
  refine z_aload (pc' := 61) rfl rfl rfl ?_
  refine z_int (pc' := 63) (v := nI 12) rfl rfl rfl ?_
  refine z_newa (pc' := 65) (v1 := 8) (v2 := 96) (N' := 58) rfl rfl (Nat.le_of_ble_eq_true rfl) rfl rfl (Nat.le_of_ble_eq_true rfl) rfl rfl (Nat.le_of_ble_eq_true rfl) rfl (Nat.le_of_ble_eq_true rfl) (hD _ (Nat.le_of_ble_eq_true rfl)) (hL _) ?_
  refine z_putR (pc' := 68) (R' := opn R 49 [none, none, none, none, none, none, some 50, some 51, some 52, some 53, some 54, some 55, some 56, some 57, none, none, none, none]) rfl rfl rfl rfl (Nat.le_of_ble_eq_true rfl) (Nat.le_of_ble_eq_true rfl) rfl (by decide) (opn_s (by decide) rfl) ?_
  refine z_aload (pc' := 69) rfl rfl rfl ?_
  refine z_int (pc' := 70) (v := nI 4) rfl rfl rfl ?_
  refine z_newa (pc' := 72) (v1 := 9) (v2 := 100) (N' := 59) rfl rfl (Nat.le_of_ble_eq_true rfl) rfl rfl (Nat.le_of_ble_eq_true rfl) rfl rfl (Nat.le_of_ble_eq_true rfl) rfl (Nat.le_of_ble_eq_true rfl) (hD _ (Nat.le_of_ble_eq_true rfl)) (hL _) ?_
  refine z_putR (pc' := 75) (R' := opn R 49 [none, none, none, none, none, none, some 50, some 51, some 52, some 53, some 54, some 55, some 56, some 57, some 58, none, none, none]) rfl rfl rfl rfl (Nat.le_of_ble_eq_true rfl) (Nat.le_of_ble_eq_true rfl) rfl (by decide) (opn_s (by decide) rfl) ?_
  refine z_aload (pc' := 76) rfl rfl rfl ?_
  refine z_int (pc' := 78) (v := nI 32) rfl rfl rfl ?_
  refine z_newa (pc' := 80) (v1 := 10) (v2 := 132) (N' := 60) rfl rfl (Nat.le_of_ble_eq_true rfl) rfl rfl (Nat.le_of_ble_eq_true rfl) rfl rfl (Nat.le_of_ble_eq_true rfl) rfl (Nat.le_of_ble_eq_true rfl) (hD _ (Nat.le_of_ble_eq_true rfl)) (hL _) ?_
  refine z_putR (pc' := 83) (R' := opn R 49 [none, none, none, none, none, none, some 50, some 51, some 52, some 53, some 54, some 55, some 56, some 57, some 58, some 59, none, none]) rfl rfl rfl rfl (Nat.le_of_ble_eq_true rfl) (Nat.le_of_ble_eq_true rfl) rfl (by decide) (opn_s (by decide) rfl) ?_
  refine z_aload (pc' := 84) rfl rfl rfl ?_
  refine z_int (pc' := 87) (v := nI 384) rfl rfl rfl ?_
  refine z_newa (pc' := 89) (v1 := 11) (v2 := 516) (N' := 61) rfl rfl (Nat.le_of_ble_eq_true rfl) rfl rfl (Nat.le_of_ble_eq_true rfl) rfl rfl (Nat.le_of_ble_eq_true rfl) rfl (Nat.le_of_ble_eq_true rfl) (hD _ (Nat.le_of_ble_eq_true rfl)) (hL _) ?_
  refine z_putR (pc' := 92) (R' := opn R 49 [none, none, none, none, none, none, some 50, some 51, some 52, some 53, some 54, some 55, some 56, some 57, some 58, some 59, some 60, none]) rfl rfl rfl rfl (Nat.le_of_ble_eq_true rfl) (Nat.le_of_ble_eq_true rfl) rfl (by decide) (opn_s (by decide) rfl) ?_
  refine z_aload (pc' := 93) rfl rfl rfl ?_
  refine z_int (pc' := 95) (v := nI 16) rfl rfl rfl ?_
  refine z_newa (pc' := 97) (v1 := 12) (v2 := 532) (N' := 62) rfl rfl (Nat.le_of_ble_eq_true rfl) rfl rfl (Nat.le_of_ble_eq_true rfl) rfl rfl (Nat.le_of_ble_eq_true rfl) rfl (Nat.le_of_ble_eq_true rfl) (hD _ (Nat.le_of_ble_eq_true rfl)) (hL _) ?_
  refine z_putR (pc' := 100) (R' := opn R 49 [none, none, none, none, none, none, some 50, some 51, some 52, some 53, some 54, some 55, some 56, some 57, some 58, some 59, some 60, some 61]) rfl rfl rfl rfl (Nat.le_of_ble_eq_true rfl) (Nat.le_of_ble_eq_true rfl) rfl (by decide) (opn_s (by decide) rfl) ?_
  refine z_vret rfl (Nat.le_of_ble_eq_true rfl) (Nat.le_of_ble_eq_true rfl) rfl ?_
  rw [opn_e (l := [none, none, none, none, none, none, some 50, some 51, some 52, some 53, some 54, some 55, some 56, some 57, some 58, some 59, some 60, some 61]) (z := 0) rfl hR]
  exact k1
set_option maxRecDepth 20000 in
set_option maxHeartbeats 1000000 in
theorem w_X7_init_62 {R : Nat → Nat → Option Nat} {D : Nat → Nat → Int32} {L : Nat → Nat → Int64} {Q : bh_Q} (hR : R 62 = bh_R0 62) (hD : ∀ a, a < 228 → D a = fun _ => 0) (hL : ∀ a, L a = fun _ => 0) (k1 : Q none (75, R, D, L)) : bh_wc 1 m_X7_init [.ref 62] (63, bh_upr R 62 (fun _ => none), D, L) Q := by
  refine z_start (lv0 := [_]) (Nat.le_of_ble_eq_true rfl) rfl ?_
  rw [opn_0 (l := [none, none, none, none, none, none, none, none, none, none, none, none, none, none, none, none, none, none]) 18 rfl]
  refine z_aload (pc' := 1) rfl rfl rfl ?_
  refine z_oi (pc' := 4) rfl rfl (by decide) ?_
  refine z_aload (pc' := 5) rfl rfl rfl ?_
  refine z_int (pc' := 7) (v := nI 12) rfl rfl rfl ?_
  refine z_newa (pc' := 9) (v1 := 1) (v2 := 12) (N' := 64) rfl rfl (Nat.le_of_ble_eq_true rfl) rfl rfl (Nat.le_of_ble_eq_true rfl) rfl rfl (Nat.le_of_ble_eq_true rfl) rfl (Nat.le_of_ble_eq_true rfl) (hD _ (Nat.le_of_ble_eq_true rfl)) (hL _) ?_
  refine z_putR (pc' := 12) (R' := opn R 62 [none, none, none, none, none, none, some 63, none, none, none, none, none, none, none, none, none, none, none]) rfl rfl rfl rfl (Nat.le_of_ble_eq_true rfl) (Nat.le_of_ble_eq_true rfl) rfl (by decide) (opn_s (by decide) rfl) ?_
  refine z_aload (pc' := 13) rfl rfl rfl ?_
  refine z_int (pc' := 15) (v := nI 12) rfl rfl rfl ?_
  refine z_newa (pc' := 17) (v1 := 2) (v2 := 24) (N' := 65) rfl rfl (Nat.le_of_ble_eq_true rfl) rfl rfl (Nat.le_of_ble_eq_true rfl) rfl rfl (Nat.le_of_ble_eq_true rfl) rfl (Nat.le_of_ble_eq_true rfl) (hD _ (Nat.le_of_ble_eq_true rfl)) (hL _) ?_
  refine z_putR (pc' := 20) (R' := opn R 62 [none, none, none, none, none, none, some 63, some 64, none, none, none, none, none, none, none, none, none, none]) rfl rfl rfl rfl (Nat.le_of_ble_eq_true rfl) (Nat.le_of_ble_eq_true rfl) rfl (by decide) (opn_s (by decide) rfl) ?_
  refine z_aload (pc' := 21) rfl rfl rfl ?_
  refine z_int (pc' := 23) (v := nI 12) rfl rfl rfl ?_
  refine z_newa (pc' := 25) (v1 := 3) (v2 := 36) (N' := 66) rfl rfl (Nat.le_of_ble_eq_true rfl) rfl rfl (Nat.le_of_ble_eq_true rfl) rfl rfl (Nat.le_of_ble_eq_true rfl) rfl (Nat.le_of_ble_eq_true rfl) (hD _ (Nat.le_of_ble_eq_true rfl)) (hL _) ?_
  refine z_putR (pc' := 28) (R' := opn R 62 [none, none, none, none, none, none, some 63, some 64, some 65, none, none, none, none, none, none, none, none, none]) rfl rfl rfl rfl (Nat.le_of_ble_eq_true rfl) (Nat.le_of_ble_eq_true rfl) rfl (by decide) (opn_s (by decide) rfl) ?_
  refine z_aload (pc' := 29) rfl rfl rfl ?_
  refine z_int (pc' := 31) (v := nI 12) rfl rfl rfl ?_
  refine z_newa (pc' := 33) (v1 := 4) (v2 := 48) (N' := 67) rfl rfl (Nat.le_of_ble_eq_true rfl) rfl rfl (Nat.le_of_ble_eq_true rfl) rfl rfl (Nat.le_of_ble_eq_true rfl) rfl (Nat.le_of_ble_eq_true rfl) (hD _ (Nat.le_of_ble_eq_true rfl)) (hL _) ?_
  refine z_putR (pc' := 36) (R' := opn R 62 [none, none, none, none, none, none, some 63, some 64, some 65, some 66, none, none, none, none, none, none, none, none]) rfl rfl rfl rfl (Nat.le_of_ble_eq_true rfl) (Nat.le_of_ble_eq_true rfl) rfl (by decide) (opn_s (by decide) rfl) ?_
  refine z_aload (pc' := 37) rfl rfl rfl ?_
  refine z_int (pc' := 39) (v := nI 12) rfl rfl rfl ?_
  refine z_newa (pc' := 41) (v1 := 5) (v2 := 60) (N' := 68) rfl rfl (Nat.le_of_ble_eq_true rfl) rfl rfl (Nat.le_of_ble_eq_true rfl) rfl rfl (Nat.le_of_ble_eq_true rfl) rfl (Nat.le_of_ble_eq_true rfl) (hD _ (Nat.le_of_ble_eq_true rfl)) (hL _) ?_
  refine z_putR (pc' := 44) (R' := opn R 62 [none, none, none, none, none, none, some 63, some 64, some 65, some 66, some 67, none, none, none, none, none, none, none]) rfl rfl rfl rfl (Nat.le_of_ble_eq_true rfl) (Nat.le_of_ble_eq_true rfl) rfl (by decide) (opn_s (by decide) rfl) ?_
  refine z_aload (pc' := 45) rfl rfl rfl ?_
  refine z_int (pc' := 47) (v := nI 12) rfl rfl rfl ?_
  refine z_newa (pc' := 49) (v1 := 6) (v2 := 72) (N' := 69) rfl rfl (Nat.le_of_ble_eq_true rfl) rfl rfl (Nat.le_of_ble_eq_true rfl) rfl rfl (Nat.le_of_ble_eq_true rfl) rfl (Nat.le_of_ble_eq_true rfl) (hD _ (Nat.le_of_ble_eq_true rfl)) (hL _) ?_
  refine z_putR (pc' := 52) (R' := opn R 62 [none, none, none, none, none, none, some 63, some 64, some 65, some 66, some 67, some 68, none, none, none, none, none, none]) rfl rfl rfl rfl (Nat.le_of_ble_eq_true rfl) (Nat.le_of_ble_eq_true rfl) rfl (by decide) (opn_s (by decide) rfl) ?_
  refine z_aload (pc' := 53) rfl rfl rfl ?_
  refine z_int (pc' := 55) (v := nI 12) rfl rfl rfl ?_
  refine z_newa (pc' := 57) (v1 := 7) (v2 := 84) (N' := 70) rfl rfl (Nat.le_of_ble_eq_true rfl) rfl rfl (Nat.le_of_ble_eq_true rfl) rfl rfl (Nat.le_of_ble_eq_true rfl) rfl (Nat.le_of_ble_eq_true rfl) (hD _ (Nat.le_of_ble_eq_true rfl)) (hL _) ?_
  refine z_putR (pc' := 60) (R' := opn R 62 [none, none, none, none, none, none, some 63, some 64, some 65, some 66, some 67, some 68, some 69, none, none, none, none, none]) rfl rfl rfl rfl (Nat.le_of_ble_eq_true rfl) (Nat.le_of_ble_eq_true rfl) rfl (by decide) (opn_s (by decide) rfl) ?_
  refine z_aload (pc' := 61) rfl rfl rfl ?_
  refine z_int (pc' := 63) (v := nI 12) rfl rfl rfl ?_
  refine z_newa (pc' := 65) (v1 := 8) (v2 := 96) (N' := 71) rfl rfl (Nat.le_of_ble_eq_true rfl) rfl rfl (Nat.le_of_ble_eq_true rfl) rfl rfl (Nat.le_of_ble_eq_true rfl) rfl (Nat.le_of_ble_eq_true rfl) (hD _ (Nat.le_of_ble_eq_true rfl)) (hL _) ?_
  refine z_putR (pc' := 68) (R' := opn R 62 [none, none, none, none, none, none, some 63, some 64, some 65, some 66, some 67, some 68, some 69, some 70, none, none, none, none]) rfl rfl rfl rfl (Nat.le_of_ble_eq_true rfl) (Nat.le_of_ble_eq_true rfl) rfl (by decide) (opn_s (by decide) rfl) ?_
  refine z_aload (pc' := 69) rfl rfl rfl ?_
  refine z_int (pc' := 70) (v := nI 4) rfl rfl rfl ?_
  refine z_newa (pc' := 72) (v1 := 9) (v2 := 100) (N' := 72) rfl rfl (Nat.le_of_ble_eq_true rfl) rfl rfl (Nat.le_of_ble_eq_true rfl) rfl rfl (Nat.le_of_ble_eq_true rfl) rfl (Nat.le_of_ble_eq_true rfl) (hD _ (Nat.le_of_ble_eq_true rfl)) (hL _) ?_
  refine z_putR (pc' := 75) (R' := opn R 62 [none, none, none, none, none, none, some 63, some 64, some 65, some 66, some 67, some 68, some 69, some 70, some 71, none, none, none]) rfl rfl rfl rfl (Nat.le_of_ble_eq_true rfl) (Nat.le_of_ble_eq_true rfl) rfl (by decide) (opn_s (by decide) rfl) ?_
  refine z_aload (pc' := 76) rfl rfl rfl ?_
  refine z_int (pc' := 78) (v := nI 32) rfl rfl rfl ?_
  refine z_newa (pc' := 80) (v1 := 10) (v2 := 132) (N' := 73) rfl rfl (Nat.le_of_ble_eq_true rfl) rfl rfl (Nat.le_of_ble_eq_true rfl) rfl rfl (Nat.le_of_ble_eq_true rfl) rfl (Nat.le_of_ble_eq_true rfl) (hD _ (Nat.le_of_ble_eq_true rfl)) (hL _) ?_
  refine z_putR (pc' := 83) (R' := opn R 62 [none, none, none, none, none, none, some 63, some 64, some 65, some 66, some 67, some 68, some 69, some 70, some 71, some 72, none, none]) rfl rfl rfl rfl (Nat.le_of_ble_eq_true rfl) (Nat.le_of_ble_eq_true rfl) rfl (by decide) (opn_s (by decide) rfl) ?_
  refine z_aload (pc' := 84) rfl rfl rfl ?_
  refine z_int (pc' := 87) (v := nI 384) rfl rfl rfl ?_
  refine z_newa (pc' := 89) (v1 := 11) (v2 := 516) (N' := 74) rfl rfl (Nat.le_of_ble_eq_true rfl) rfl rfl (Nat.le_of_ble_eq_true rfl) rfl rfl (Nat.le_of_ble_eq_true rfl) rfl (Nat.le_of_ble_eq_true rfl) (hD _ (Nat.le_of_ble_eq_true rfl)) (hL _) ?_
  refine z_putR (pc' := 92) (R' := opn R 62 [none, none, none, none, none, none, some 63, some 64, some 65, some 66, some 67, some 68, some 69, some 70, some 71, some 72, some 73, none]) rfl rfl rfl rfl (Nat.le_of_ble_eq_true rfl) (Nat.le_of_ble_eq_true rfl) rfl (by decide) (opn_s (by decide) rfl) ?_
  refine z_aload (pc' := 93) rfl rfl rfl ?_
  refine z_int (pc' := 95) (v := nI 16) rfl rfl rfl ?_
  refine z_newa (pc' := 97) (v1 := 12) (v2 := 532) (N' := 75) rfl rfl (Nat.le_of_ble_eq_true rfl) rfl rfl (Nat.le_of_ble_eq_true rfl) rfl rfl (Nat.le_of_ble_eq_true rfl) rfl (Nat.le_of_ble_eq_true rfl) (hD _ (Nat.le_of_ble_eq_true rfl)) (hL _) ?_
  refine z_putR (pc' := 100) (R' := opn R 62 [none, none, none, none, none, none, some 63, some 64, some 65, some 66, some 67, some 68, some 69, some 70, some 71, some 72, some 73, some 74]) rfl rfl rfl rfl (Nat.le_of_ble_eq_true rfl) (Nat.le_of_ble_eq_true rfl) rfl (by decide) (opn_s (by decide) rfl) ?_
  refine z_vret rfl (Nat.le_of_ble_eq_true rfl) (Nat.le_of_ble_eq_true rfl) rfl ?_
  rw [opn_e (l := [none, none, none, none, none, none, some 63, some 64, some 65, some 66, some 67, some 68, some 69, some 70, some 71, some 72, some 73, some 74]) (z := 0) rfl hR]
  exact k1
set_option maxRecDepth 20000 in
set_option maxHeartbeats 1000000 in
theorem w_X7_init_75 {R : Nat → Nat → Option Nat} {D : Nat → Nat → Int32} {L : Nat → Nat → Int64} {Q : bh_Q} (hR : R 75 = bh_R0 75) (hD : ∀ a, a < 228 → D a = fun _ => 0) (hL : ∀ a, L a = fun _ => 0) (k1 : Q none (88, R, D, L)) : bh_wc 1 m_X7_init [.ref 75] (76, bh_upr R 75 (fun _ => none), D, L) Q := by
  refine z_start (lv0 := [_]) (Nat.le_of_ble_eq_true rfl) rfl ?_
  rw [opn_0 (l := [none, none, none, none, none, none, none, none, none, none, none, none, none, none, none, none, none, none]) 18 rfl]
  refine z_aload (pc' := 1) rfl rfl rfl ?_
  refine z_oi (pc' := 4) rfl rfl (by decide) ?_
  refine z_aload (pc' := 5) rfl rfl rfl ?_
  refine z_int (pc' := 7) (v := nI 12) rfl rfl rfl ?_
  refine z_newa (pc' := 9) (v1 := 1) (v2 := 12) (N' := 77) rfl rfl (Nat.le_of_ble_eq_true rfl) rfl rfl (Nat.le_of_ble_eq_true rfl) rfl rfl (Nat.le_of_ble_eq_true rfl) rfl (Nat.le_of_ble_eq_true rfl) (hD _ (Nat.le_of_ble_eq_true rfl)) (hL _) ?_
  refine z_putR (pc' := 12) (R' := opn R 75 [none, none, none, none, none, none, some 76, none, none, none, none, none, none, none, none, none, none, none]) rfl rfl rfl rfl (Nat.le_of_ble_eq_true rfl) (Nat.le_of_ble_eq_true rfl) rfl (by decide) (opn_s (by decide) rfl) ?_
  refine z_aload (pc' := 13) rfl rfl rfl ?_
  refine z_int (pc' := 15) (v := nI 12) rfl rfl rfl ?_
  refine z_newa (pc' := 17) (v1 := 2) (v2 := 24) (N' := 78) rfl rfl (Nat.le_of_ble_eq_true rfl) rfl rfl (Nat.le_of_ble_eq_true rfl) rfl rfl (Nat.le_of_ble_eq_true rfl) rfl (Nat.le_of_ble_eq_true rfl) (hD _ (Nat.le_of_ble_eq_true rfl)) (hL _) ?_
  refine z_putR (pc' := 20) (R' := opn R 75 [none, none, none, none, none, none, some 76, some 77, none, none, none, none, none, none, none, none, none, none]) rfl rfl rfl rfl (Nat.le_of_ble_eq_true rfl) (Nat.le_of_ble_eq_true rfl) rfl (by decide) (opn_s (by decide) rfl) ?_
  refine z_aload (pc' := 21) rfl rfl rfl ?_
  refine z_int (pc' := 23) (v := nI 12) rfl rfl rfl ?_
  refine z_newa (pc' := 25) (v1 := 3) (v2 := 36) (N' := 79) rfl rfl (Nat.le_of_ble_eq_true rfl) rfl rfl (Nat.le_of_ble_eq_true rfl) rfl rfl (Nat.le_of_ble_eq_true rfl) rfl (Nat.le_of_ble_eq_true rfl) (hD _ (Nat.le_of_ble_eq_true rfl)) (hL _) ?_
  refine z_putR (pc' := 28) (R' := opn R 75 [none, none, none, none, none, none, some 76, some 77, some 78, none, none, none, none, none, none, none, none, none]) rfl rfl rfl rfl (Nat.le_of_ble_eq_true rfl) (Nat.le_of_ble_eq_true rfl) rfl (by decide) (opn_s (by decide) rfl) ?_
  refine z_aload (pc' := 29) rfl rfl rfl ?_
  refine z_int (pc' := 31) (v := nI 12) rfl rfl rfl ?_
  refine z_newa (pc' := 33) (v1 := 4) (v2 := 48) (N' := 80) rfl rfl (Nat.le_of_ble_eq_true rfl) rfl rfl (Nat.le_of_ble_eq_true rfl) rfl rfl (Nat.le_of_ble_eq_true rfl) rfl (Nat.le_of_ble_eq_true rfl) (hD _ (Nat.le_of_ble_eq_true rfl)) (hL _) ?_
  refine z_putR (pc' := 36) (R' := opn R 75 [none, none, none, none, none, none, some 76, some 77, some 78, some 79, none, none, none, none, none, none, none, none]) rfl rfl rfl rfl (Nat.le_of_ble_eq_true rfl) (Nat.le_of_ble_eq_true rfl) rfl (by decide) (opn_s (by decide) rfl) ?_
  refine z_aload (pc' := 37) rfl rfl rfl ?_
  refine z_int (pc' := 39) (v := nI 12) rfl rfl rfl ?_
  refine z_newa (pc' := 41) (v1 := 5) (v2 := 60) (N' := 81) rfl rfl (Nat.le_of_ble_eq_true rfl) rfl rfl (Nat.le_of_ble_eq_true rfl) rfl rfl (Nat.le_of_ble_eq_true rfl) rfl (Nat.le_of_ble_eq_true rfl) (hD _ (Nat.le_of_ble_eq_true rfl)) (hL _) ?_
  refine z_putR (pc' := 44) (R' := opn R 75 [none, none, none, none, none, none, some 76, some 77, some 78, some 79, some 80, none, none, none, none, none, none, none]) rfl rfl rfl rfl (Nat.le_of_ble_eq_true rfl) (Nat.le_of_ble_eq_true rfl) rfl (by decide) (opn_s (by decide) rfl) ?_
  refine z_aload (pc' := 45) rfl rfl rfl ?_
  refine z_int (pc' := 47) (v := nI 12) rfl rfl rfl ?_
  refine z_newa (pc' := 49) (v1 := 6) (v2 := 72) (N' := 82) rfl rfl (Nat.le_of_ble_eq_true rfl) rfl rfl (Nat.le_of_ble_eq_true rfl) rfl rfl (Nat.le_of_ble_eq_true rfl) rfl (Nat.le_of_ble_eq_true rfl) (hD _ (Nat.le_of_ble_eq_true rfl)) (hL _) ?_
  refine z_putR (pc' := 52) (R' := opn R 75 [none, none, none, none, none, none, some 76, some 77, some 78, some 79, some 80, some 81, none, none, none, none, none, none]) rfl rfl rfl rfl (Nat.le_of_ble_eq_true rfl) (Nat.le_of_ble_eq_true rfl) rfl (by decide) (opn_s (by decide) rfl) ?_
  refine z_aload (pc' := 53) rfl rfl rfl ?_
  refine z_int (pc' := 55) (v := nI 12) rfl rfl rfl ?_
  refine z_newa (pc' := 57) (v1 := 7) (v2 := 84) (N' := 83) rfl rfl (Nat.le_of_ble_eq_true rfl) rfl rfl (Nat.le_of_ble_eq_true rfl) rfl rfl (Nat.le_of_ble_eq_true rfl) rfl (Nat.le_of_ble_eq_true rfl) (hD _ (Nat.le_of_ble_eq_true rfl)) (hL _) ?_
  refine z_putR (pc' := 60) (R' := opn R 75 [none, none, none, none, none, none, some 76, some 77, some 78, some 79, some 80, some 81, some 82, none, none, none, none, none]) rfl rfl rfl rfl (Nat.le_of_ble_eq_true rfl) (Nat.le_of_ble_eq_true rfl) rfl (by decide) (opn_s (by decide) rfl) ?_
  refine z_aload (pc' := 61) rfl rfl rfl ?_
  refine z_int (pc' := 63) (v := nI 12) rfl rfl rfl ?_
  refine z_newa (pc' := 65) (v1 := 8) (v2 := 96) (N' := 84) rfl rfl (Nat.le_of_ble_eq_true rfl) rfl rfl (Nat.le_of_ble_eq_true rfl) rfl rfl (Nat.le_of_ble_eq_true rfl) rfl (Nat.le_of_ble_eq_true rfl) (hD _ (Nat.le_of_ble_eq_true rfl)) (hL _) ?_
  refine z_putR (pc' := 68) (R' := opn R 75 [none, none, none, none, none, none, some 76, some 77, some 78, some 79, some 80, some 81, some 82, some 83, none, none, none, none]) rfl rfl rfl rfl (Nat.le_of_ble_eq_true rfl) (Nat.le_of_ble_eq_true rfl) rfl (by decide) (opn_s (by decide) rfl) ?_
  refine z_aload (pc' := 69) rfl rfl rfl ?_
  refine z_int (pc' := 70) (v := nI 4) rfl rfl rfl ?_
  refine z_newa (pc' := 72) (v1 := 9) (v2 := 100) (N' := 85) rfl rfl (Nat.le_of_ble_eq_true rfl) rfl rfl (Nat.le_of_ble_eq_true rfl) rfl rfl (Nat.le_of_ble_eq_true rfl) rfl (Nat.le_of_ble_eq_true rfl) (hD _ (Nat.le_of_ble_eq_true rfl)) (hL _) ?_
  refine z_putR (pc' := 75) (R' := opn R 75 [none, none, none, none, none, none, some 76, some 77, some 78, some 79, some 80, some 81, some 82, some 83, some 84, none, none, none]) rfl rfl rfl rfl (Nat.le_of_ble_eq_true rfl) (Nat.le_of_ble_eq_true rfl) rfl (by decide) (opn_s (by decide) rfl) ?_
  refine z_aload (pc' := 76) rfl rfl rfl ?_
  refine z_int (pc' := 78) (v := nI 32) rfl rfl rfl ?_
  refine z_newa (pc' := 80) (v1 := 10) (v2 := 132) (N' := 86) rfl rfl (Nat.le_of_ble_eq_true rfl) rfl rfl (Nat.le_of_ble_eq_true rfl) rfl rfl (Nat.le_of_ble_eq_true rfl) rfl (Nat.le_of_ble_eq_true rfl) (hD _ (Nat.le_of_ble_eq_true rfl)) (hL _) ?_
  refine z_putR (pc' := 83) (R' := opn R 75 [none, none, none, none, none, none, some 76, some 77, some 78, some 79, some 80, some 81, some 82, some 83, some 84, some 85, none, none]) rfl rfl rfl rfl (Nat.le_of_ble_eq_true rfl) (Nat.le_of_ble_eq_true rfl) rfl (by decide) (opn_s (by decide) rfl) ?_
  refine z_aload (pc' := 84) rfl rfl rfl ?_
  refine z_int (pc' := 87) (v := nI 384) rfl rfl rfl ?_
  refine z_newa (pc' := 89) (v1 := 11) (v2 := 516) (N' := 87) rfl rfl (Nat.le_of_ble_eq_true rfl) rfl rfl (Nat.le_of_ble_eq_true rfl) rfl rfl (Nat.le_of_ble_eq_true rfl) rfl (Nat.le_of_ble_eq_true rfl) (hD _ (Nat.le_of_ble_eq_true rfl)) (hL _) ?_
  refine z_putR (pc' := 92) (R' := opn R 75 [none, none, none, none, none, none, some 76, some 77, some 78, some 79, some 80, some 81, some 82, some 83, some 84, some 85, some 86, none]) rfl rfl rfl rfl (Nat.le_of_ble_eq_true rfl) (Nat.le_of_ble_eq_true rfl) rfl (by decide) (opn_s (by decide) rfl) ?_
  refine z_aload (pc' := 93) rfl rfl rfl ?_
  refine z_int (pc' := 95) (v := nI 16) rfl rfl rfl ?_
  refine z_newa (pc' := 97) (v1 := 12) (v2 := 532) (N' := 88) rfl rfl (Nat.le_of_ble_eq_true rfl) rfl rfl (Nat.le_of_ble_eq_true rfl) rfl rfl (Nat.le_of_ble_eq_true rfl) rfl (Nat.le_of_ble_eq_true rfl) (hD _ (Nat.le_of_ble_eq_true rfl)) (hL _) ?_
  refine z_putR (pc' := 100) (R' := opn R 75 [none, none, none, none, none, none, some 76, some 77, some 78, some 79, some 80, some 81, some 82, some 83, some 84, some 85, some 86, some 87]) rfl rfl rfl rfl (Nat.le_of_ble_eq_true rfl) (Nat.le_of_ble_eq_true rfl) rfl (by decide) (opn_s (by decide) rfl) ?_
  refine z_vret rfl (Nat.le_of_ble_eq_true rfl) (Nat.le_of_ble_eq_true rfl) rfl ?_
  rw [opn_e (l := [none, none, none, none, none, none, some 76, some 77, some 78, some 79, some 80, some 81, some 82, some 83, some 84, some 85, some 86, some 87]) (z := 0) rfl hR]
  exact k1
set_option maxRecDepth 20000 in
set_option maxHeartbeats 1000000 in
theorem w_X7_init_88 {R : Nat → Nat → Option Nat} {D : Nat → Nat → Int32} {L : Nat → Nat → Int64} {Q : bh_Q} (hR : R 88 = bh_R0 88) (hD : ∀ a, a < 228 → D a = fun _ => 0) (hL : ∀ a, L a = fun _ => 0) (k1 : Q none (101, R, D, L)) : bh_wc 1 m_X7_init [.ref 88] (89, bh_upr R 88 (fun _ => none), D, L) Q := by
  refine z_start (lv0 := [_]) (Nat.le_of_ble_eq_true rfl) rfl ?_
  rw [opn_0 (l := [none, none, none, none, none, none, none, none, none, none, none, none, none, none, none, none, none, none]) 18 rfl]
  refine z_aload (pc' := 1) rfl rfl rfl ?_
  refine z_oi (pc' := 4) rfl rfl (by decide) ?_
  refine z_aload (pc' := 5) rfl rfl rfl ?_
  refine z_int (pc' := 7) (v := nI 12) rfl rfl rfl ?_
  refine z_newa (pc' := 9) (v1 := 1) (v2 := 12) (N' := 90) rfl rfl (Nat.le_of_ble_eq_true rfl) rfl rfl (Nat.le_of_ble_eq_true rfl) rfl rfl (Nat.le_of_ble_eq_true rfl) rfl (Nat.le_of_ble_eq_true rfl) (hD _ (Nat.le_of_ble_eq_true rfl)) (hL _) ?_
  refine z_putR (pc' := 12) (R' := opn R 88 [none, none, none, none, none, none, some 89, none, none, none, none, none, none, none, none, none, none, none]) rfl rfl rfl rfl (Nat.le_of_ble_eq_true rfl) (Nat.le_of_ble_eq_true rfl) rfl (by decide) (opn_s (by decide) rfl) ?_
  refine z_aload (pc' := 13) rfl rfl rfl ?_
  refine z_int (pc' := 15) (v := nI 12) rfl rfl rfl ?_
  refine z_newa (pc' := 17) (v1 := 2) (v2 := 24) (N' := 91) rfl rfl (Nat.le_of_ble_eq_true rfl) rfl rfl (Nat.le_of_ble_eq_true rfl) rfl rfl (Nat.le_of_ble_eq_true rfl) rfl (Nat.le_of_ble_eq_true rfl) (hD _ (Nat.le_of_ble_eq_true rfl)) (hL _) ?_
  refine z_putR (pc' := 20) (R' := opn R 88 [none, none, none, none, none, none, some 89, some 90, none, none, none, none, none, none, none, none, none, none]) rfl rfl rfl rfl (Nat.le_of_ble_eq_true rfl) (Nat.le_of_ble_eq_true rfl) rfl (by decide) (opn_s (by decide) rfl) ?_
  refine z_aload (pc' := 21) rfl rfl rfl ?_
  refine z_int (pc' := 23) (v := nI 12) rfl rfl rfl ?_
  refine z_newa (pc' := 25) (v1 := 3) (v2 := 36) (N' := 92) rfl rfl (Nat.le_of_ble_eq_true rfl) rfl rfl (Nat.le_of_ble_eq_true rfl) rfl rfl (Nat.le_of_ble_eq_true rfl) rfl (Nat.le_of_ble_eq_true rfl) (hD _ (Nat.le_of_ble_eq_true rfl)) (hL _) ?_
  refine z_putR (pc' := 28) (R' := opn R 88 [none, none, none, none, none, none, some 89, some 90, some 91, none, none, none, none, none, none, none, none, none]) rfl rfl rfl rfl (Nat.le_of_ble_eq_true rfl) (Nat.le_of_ble_eq_true rfl) rfl (by decide) (opn_s (by decide) rfl) ?_
  refine z_aload (pc' := 29) rfl rfl rfl ?_
  refine z_int (pc' := 31) (v := nI 12) rfl rfl rfl ?_
  refine z_newa (pc' := 33) (v1 := 4) (v2 := 48) (N' := 93) rfl rfl (Nat.le_of_ble_eq_true rfl) rfl rfl (Nat.le_of_ble_eq_true rfl) rfl rfl (Nat.le_of_ble_eq_true rfl) rfl (Nat.le_of_ble_eq_true rfl) (hD _ (Nat.le_of_ble_eq_true rfl)) (hL _) ?_
  refine z_putR (pc' := 36) (R' := opn R 88 [none, none, none, none, none, none, some 89, some 90, some 91, some 92, none, none, none, none, none, none, none, none]) rfl rfl rfl rfl (Nat.le_of_ble_eq_true rfl) (Nat.le_of_ble_eq_true rfl) rfl (by decide) (opn_s (by decide) rfl) ?_
  refine z_aload (pc' := 37) rfl rfl rfl ?_
  refine z_int (pc' := 39) (v := nI 12) rfl rfl rfl ?_
  refine z_newa (pc' := 41) (v1 := 5) (v2 := 60) (N' := 94) rfl rfl (Nat.le_of_ble_eq_true rfl) rfl rfl (Nat.le_of_ble_eq_true rfl) rfl rfl (Nat.le_of_ble_eq_true rfl) rfl (Nat.le_of_ble_eq_true rfl) (hD _ (Nat.le_of_ble_eq_true rfl)) (hL _) ?_
  refine z_putR (pc' := 44) (R' := opn R 88 [none, none, none, none, none, none, some 89, some 90, some 91, some 92, some 93, none, none, none, none, none, none, none]) rfl rfl rfl rfl (Nat.le_of_ble_eq_true rfl) (Nat.le_of_ble_eq_true rfl) rfl (by decide) (opn_s (by decide) rfl) ?_
  refine z_aload (pc' := 45) rfl rfl rfl ?_
  refine z_int (pc' := 47) (v := nI 12) rfl rfl rfl ?_
  refine z_newa (pc' := 49) (v1 := 6) (v2 := 72) (N' := 95) rfl rfl (Nat.le_of_ble_eq_true rfl) rfl rfl (Nat.le_of_ble_eq_true rfl) rfl rfl (Nat.le_of_ble_eq_true rfl) rfl (Nat.le_of_ble_eq_true rfl) (hD _ (Nat.le_of_ble_eq_true rfl)) (hL _) ?_
  refine z_putR (pc' := 52) (R' := opn R 88 [none, none, none, none, none, none, some 89, some 90, some 91, some 92, some 93, some 94, none, none, none, none, none, none]) rfl rfl rfl rfl (Nat.le_of_ble_eq_true rfl) (Nat.le_of_ble_eq_true rfl) rfl (by decide) (opn_s (by decide) rfl) ?_
  refine z_aload (pc' := 53) rfl rfl rfl ?_
  refine z_int (pc' := 55) (v := nI 12) rfl rfl rfl ?_
  refine z_newa (pc' := 57) (v1 := 7) (v2 := 84) (N' := 96) rfl rfl (Nat.le_of_ble_eq_true rfl) rfl rfl (Nat.le_of_ble_eq_true rfl) rfl rfl (Nat.le_of_ble_eq_true rfl) rfl (Nat.le_of_ble_eq_true rfl) (hD _ (Nat.le_of_ble_eq_true rfl)) (hL _) ?_
  refine z_putR (pc' := 60) (R' := opn R 88 [none, none, none, none, none, none, some 89, some 90, some 91, some 92, some 93, some 94, some 95, none, none, none, none, none]) rfl rfl rfl rfl (Nat.le_of_ble_eq_true rfl) (Nat.le_of_ble_eq_true rfl) rfl (by decide) (opn_s (by decide) rfl) ?_
  refine z_aload (pc' := 61) rfl rfl rfl ?_
  refine z_int (pc' := 63) (v := nI 12) rfl rfl rfl ?_
  refine z_newa (pc' := 65) (v1 := 8) (v2 := 96) (N' := 97) rfl rfl (Nat.le_of_ble_eq_true rfl) rfl rfl (Nat.le_of_ble_eq_true rfl) rfl rfl (Nat.le_of_ble_eq_true rfl) rfl (Nat.le_of_ble_eq_true rfl) (hD _ (Nat.le_of_ble_eq_true rfl)) (hL _) ?_
  refine z_putR (pc' := 68) (R' := opn R 88 [none, none, none, none, none, none, some 89, some 90, some 91, some 92, some 93, some 94, some 95, some 96, none, none, none, none]) rfl rfl rfl rfl (Nat.le_of_ble_eq_true rfl) (Nat.le_of_ble_eq_true rfl) rfl (by decide) (opn_s (by decide) rfl) ?_
  refine z_aload (pc' := 69) rfl rfl rfl ?_
  refine z_int (pc' := 70) (v := nI 4) rfl rfl rfl ?_
  refine z_newa (pc' := 72) (v1 := 9) (v2 := 100) (N' := 98) rfl rfl (Nat.le_of_ble_eq_true rfl) rfl rfl (Nat.le_of_ble_eq_true rfl) rfl rfl (Nat.le_of_ble_eq_true rfl) rfl (Nat.le_of_ble_eq_true rfl) (hD _ (Nat.le_of_ble_eq_true rfl)) (hL _) ?_
  refine z_putR (pc' := 75) (R' := opn R 88 [none, none, none, none, none, none, some 89, some 90, some 91, some 92, some 93, some 94, some 95, some 96, some 97, none, none, none]) rfl rfl rfl rfl (Nat.le_of_ble_eq_true rfl) (Nat.le_of_ble_eq_true rfl) rfl (by decide) (opn_s (by decide) rfl) ?_
  refine z_aload (pc' := 76) rfl rfl rfl ?_
  refine z_int (pc' := 78) (v := nI 32) rfl rfl rfl ?_
  refine z_newa (pc' := 80) (v1 := 10) (v2 := 132) (N' := 99) rfl rfl (Nat.le_of_ble_eq_true rfl) rfl rfl (Nat.le_of_ble_eq_true rfl) rfl rfl (Nat.le_of_ble_eq_true rfl) rfl (Nat.le_of_ble_eq_true rfl) (hD _ (Nat.le_of_ble_eq_true rfl)) (hL _) ?_
  refine z_putR (pc' := 83) (R' := opn R 88 [none, none, none, none, none, none, some 89, some 90, some 91, some 92, some 93, some 94, some 95, some 96, some 97, some 98, none, none]) rfl rfl rfl rfl (Nat.le_of_ble_eq_true rfl) (Nat.le_of_ble_eq_true rfl) rfl (by decide) (opn_s (by decide) rfl) ?_
  refine z_aload (pc' := 84) rfl rfl rfl ?_
  refine z_int (pc' := 87) (v := nI 384) rfl rfl rfl ?_
  refine z_newa (pc' := 89) (v1 := 11) (v2 := 516) (N' := 100) rfl rfl (Nat.le_of_ble_eq_true rfl) rfl rfl (Nat.le_of_ble_eq_true rfl) rfl rfl (Nat.le_of_ble_eq_true rfl) rfl (Nat.le_of_ble_eq_true rfl) (hD _ (Nat.le_of_ble_eq_true rfl)) (hL _) ?_
  refine z_putR (pc' := 92) (R' := opn R 88 [none, none, none, none, none, none, some 89, some 90, some 91, some 92, some 93, some 94, some 95, some 96, some 97, some 98, some 99, none]) rfl rfl rfl rfl (Nat.le_of_ble_eq_true rfl) (Nat.le_of_ble_eq_true rfl) rfl (by decide) (opn_s (by decide) rfl) ?_
  refine z_aload (pc' := 93) rfl rfl rfl ?_
  refine z_int (pc' := 95) (v := nI 16) rfl rfl rfl ?_
  refine z_newa (pc' := 97) (v1 := 12) (v2 := 532) (N' := 101) rfl rfl (Nat.le_of_ble_eq_true rfl) rfl rfl (Nat.le_of_ble_eq_true rfl) rfl rfl (Nat.le_of_ble_eq_true rfl) rfl (Nat.le_of_ble_eq_true rfl) (hD _ (Nat.le_of_ble_eq_true rfl)) (hL _) ?_
  refine z_putR (pc' := 100) (R' := opn R 88 [none, none, none, none, none, none, some 89, some 90, some 91, some 92, some 93, some 94, some 95, some 96, some 97, some 98, some 99, some 100]) rfl rfl rfl rfl (Nat.le_of_ble_eq_true rfl) (Nat.le_of_ble_eq_true rfl) rfl (by decide) (opn_s (by decide) rfl) ?_
  refine z_vret rfl (Nat.le_of_ble_eq_true rfl) (Nat.le_of_ble_eq_true rfl) rfl ?_
  rw [opn_e (l := [none, none, none, none, none, none, some 89, some 90, some 91, some 92, some 93, some 94, some 95, some 96, some 97, some 98, some 99, some 100]) (z := 0) rfl hR]
  exact k1
set_option maxRecDepth 20000 in
set_option maxHeartbeats 1000000 in
theorem w_X7_init_101 {R : Nat → Nat → Option Nat} {D : Nat → Nat → Int32} {L : Nat → Nat → Int64} {Q : bh_Q} (hR : R 101 = bh_R0 101) (hD : ∀ a, a < 228 → D a = fun _ => 0) (hL : ∀ a, L a = fun _ => 0) (k1 : Q none (114, R, D, L)) : bh_wc 1 m_X7_init [.ref 101] (102, bh_upr R 101 (fun _ => none), D, L) Q := by
  refine z_start (lv0 := [_]) (Nat.le_of_ble_eq_true rfl) rfl ?_
  rw [opn_0 (l := [none, none, none, none, none, none, none, none, none, none, none, none, none, none, none, none, none, none]) 18 rfl]
  refine z_aload (pc' := 1) rfl rfl rfl ?_
  refine z_oi (pc' := 4) rfl rfl (by decide) ?_
  refine z_aload (pc' := 5) rfl rfl rfl ?_
  refine z_int (pc' := 7) (v := nI 12) rfl rfl rfl ?_
  refine z_newa (pc' := 9) (v1 := 1) (v2 := 12) (N' := 103) rfl rfl (Nat.le_of_ble_eq_true rfl) rfl rfl (Nat.le_of_ble_eq_true rfl) rfl rfl (Nat.le_of_ble_eq_true rfl) rfl (Nat.le_of_ble_eq_true rfl) (hD _ (Nat.le_of_ble_eq_true rfl)) (hL _) ?_
  refine z_putR (pc' := 12) (R' := opn R 101 [none, none, none, none, none, none, some 102, none, none, none, none, none, none, none, none, none, none, none]) rfl rfl rfl rfl (Nat.le_of_ble_eq_true rfl) (Nat.le_of_ble_eq_true rfl) rfl (by decide) (opn_s (by decide) rfl) ?_
  refine z_aload (pc' := 13) rfl rfl rfl ?_
  refine z_int (pc' := 15) (v := nI 12) rfl rfl rfl ?_
  refine z_newa (pc' := 17) (v1 := 2) (v2 := 24) (N' := 104) rfl rfl (Nat.le_of_ble_eq_true rfl) rfl rfl (Nat.le_of_ble_eq_true rfl) rfl rfl (Nat.le_of_ble_eq_true rfl) rfl (Nat.le_of_ble_eq_true rfl) (hD _ (Nat.le_of_ble_eq_true rfl)) (hL _) ?_
  refine z_putR (pc' := 20) (R' := opn R 101 [none, none, none, none, none, none, some 102, some 103, none, none, none, none, none, none, none, none, none, none]) rfl rfl rfl rfl (Nat.le_of_ble_eq_true rfl) (Nat.le_of_ble_eq_true rfl) rfl (by decide) (opn_s (by decide) rfl) ?_
  refine z_aload (pc' := 21) rfl rfl rfl ?_
  refine z_int (pc' := 23) (v := nI 12) rfl rfl rfl ?_
  refine z_newa (pc' := 25) (v1 := 3) (v2 := 36) (N' := 105) rfl rfl (Nat.le_of_ble_eq_true rfl) rfl rfl (Nat.le_of_ble_eq_true rfl) rfl rfl (Nat.le_of_ble_eq_true rfl) rfl (Nat.le_of_ble_eq_true rfl) (hD _ (Nat.le_of_ble_eq_true rfl)) (hL _) ?_
  refine z_putR (pc' := 28) (R' := opn R 101 [none, none, none, none, none, none, some 102, some 103, some 104, none, none, none, none, none, none, none, none, none]) rfl rfl rfl rfl (Nat.le_of_ble_eq_true rfl) (Nat.le_of_ble_eq_true rfl) rfl (by decide) (opn_s (by decide) rfl) ?_
  refine z_aload (pc' := 29) rfl rfl rfl ?_
  refine z_int (pc' := 31) (v := nI 12) rfl rfl rfl ?_
  refine z_newa (pc' := 33) (v1 := 4) (v2 := 48) (N' := 106) rfl rfl (Nat.le_of_ble_eq_true rfl) rfl rfl (Nat.le_of_ble_eq_true rfl) rfl rfl (Nat.le_of_ble_eq_true rfl) rfl (Nat.le_of_ble_eq_true rfl) (hD _ (Nat.le_of_ble_eq_true rfl)) (hL _) ?_
  refine z_putR (pc' := 36) (R' := opn R 101 [none, none, none, none, none, none, some 102, some 103, some 104, some 105, none, none, none, none, none, none, none, none]) rfl rfl rfl rfl (Nat.le_of_ble_eq_true rfl) (Nat.le_of_ble_eq_true rfl) rfl (by decide) (opn_s (by decide) rfl) ?_
  refine z_aload (pc' := 37) rfl rfl rfl ?_
  refine z_int (pc' := 39) (v := nI 12) rfl rfl rfl ?_
  refine z_newa (pc' := 41) (v1 := 5) (v2 := 60) (N' := 107) rfl rfl (Nat.le_of_ble_eq_true rfl) rfl rfl (Nat.le_of_ble_eq_true rfl) rfl rfl (Nat.le_of_ble_eq_true rfl) rfl (Nat.le_of_ble_eq_true rfl) (hD _ (Nat.le_of_ble_eq_true rfl)) (hL _) ?_
  refine z_putR (pc' := 44) (R' := opn R 101 [none, none, none, none, none, none, some 102, some 103, some 104, some 105, some 106, none, none, none, none, none, none, none]) rfl rfl rfl rfl (Nat.le_of_ble_eq_true rfl) (Nat.le_of_ble_eq_true rfl) rfl (by decide) (opn_s (by decide) rfl) ?_
  refine z_aload (pc' := 45) rfl rfl rfl ?_
  refine z_int (pc' := 47) (v := nI 12) rfl rfl rfl ?_
  refine z_newa (pc' := 49) (v1 := 6) (v2 := 72) (N' := 108) rfl rfl (Nat.le_of_ble_eq_true rfl) rfl rfl (Nat.le_of_ble_eq_true rfl) rfl rfl (Nat.le_of_ble_eq_true rfl) rfl (Nat.le_of_ble_eq_true rfl) (hD _ (Nat.le_of_ble_eq_true rfl)) (hL _) ?_
  refine z_putR (pc' := 52) (R' := opn R 101 [none, none, none, none, none, none, some 102, some 103, some 104, some 105, some 106, some 107, none, none, none, none, none, none]) rfl rfl rfl rfl (Nat.le_of_ble_eq_true rfl) (Nat.le_of_ble_eq_true rfl) rfl (by decide) (opn_s (by decide) rfl) ?_
  refine z_aload (pc' := 53) rfl rfl rfl ?_
  refine z_int (pc' := 55) (v := nI 12) rfl rfl rfl ?_
  refine z_newa (pc' := 57) (v1 := 7) (v2 := 84) (N' := 109) rfl rfl (Nat.le_of_ble_eq_true rfl) rfl rfl (Nat.le_of_ble_eq_true rfl) rfl rfl (Nat.le_of_ble_eq_true rfl) rfl (Nat.le_of_ble_eq_true rfl) (hD _ (Nat.le_of_ble_eq_true rfl)) (hL _) ?_
  refine z_putR (pc' := 60) (R' := opn R 101 [none, none, none, none, none, none, some 102, some 103, some 104, some 105, some 106, some 107, some 108, none, none, none, none, none]) rfl rfl rfl rfl (Nat.le_of_ble_eq_true rfl) (Nat.le_of_ble_eq_true rfl) rfl (by decide) (opn_s (by decide) rfl) ?_
  refine z_aload (pc' := 61) rfl rfl rfl ?_
  refine z_int (pc' := 63) (v := nI 12) rfl rfl rfl ?_
  refine z_newa (pc' := 65) (v1 := 8) (v2 := 96) (N' := 110) rfl rfl (Nat.le_of_ble_eq_true rfl) rfl rfl (Nat.le_of_ble_eq_true rfl) rfl rfl (Nat.le_of_ble_eq_true rfl) rfl (Nat.le_of_ble_eq_true rfl) (hD _ (Nat.le_of_ble_eq_true rfl)) (hL _) ?_
  refine z_putR (pc' := 68) (R' := opn R 101 [none, none, none, none, none, none, some 102, some 103, some 104, some 105, some 106, some 107, some 108, some 109, none, none, none, none]) rfl rfl rfl rfl (Nat.le_of_ble_eq_true rfl) (Nat.le_of_ble_eq_true rfl) rfl (by decide) (opn_s (by decide) rfl) ?_
  refine z_aload (pc' := 69) rfl rfl rfl ?_
  refine z_int (pc' := 70) (v := nI 4) rfl rfl rfl ?_
  refine z_newa (pc' := 72) (v1 := 9) (v2 := 100) (N' := 111) rfl rfl (Nat.le_of_ble_eq_true rfl) rfl rfl (Nat.le_of_ble_eq_true rfl) rfl rfl (Nat.le_of_ble_eq_true rfl) rfl (Nat.le_of_ble_eq_true rfl) (hD _ (Nat.le_of_ble_eq_true rfl)) (hL _) ?_
  refine z_putR (pc' := 75) (R' := opn R 101 [none, none, none, none, none, none, some 102, some 103, some 104, some 105, some 106, some 107, some 108, some 109, some 110, none, none, none]) rfl rfl rfl rfl (Nat.le_of_ble_eq_true rfl) (Nat.le_of_ble_eq_true rfl) rfl (by decide) (opn_s (by decide) rfl) ?_
  refine z_aload (pc' := 76) rfl rfl rfl ?_
  refine z_int (pc' := 78) (v := nI 32) rfl rfl rfl ?_
  refine z_newa (pc' := 80) (v1 := 10) (v2 := 132) (N' := 112) rfl rfl (Nat.le_of_ble_eq_true rfl) rfl rfl (Nat.le_of_ble_eq_true rfl) rfl rfl (Nat.le_of_ble_eq_true rfl) rfl (Nat.le_of_ble_eq_true rfl) (hD _ (Nat.le_of_ble_eq_true rfl)) (hL _) ?_
  refine z_putR (pc' := 83) (R' := opn R 101 [none, none, none, none, none, none, some 102, some 103, some 104, some 105, some 106, some 107, some 108, some 109, some 110, some 111, none, none]) rfl rfl rfl rfl (Nat.le_of_ble_eq_true rfl) (Nat.le_of_ble_eq_true rfl) rfl (by decide) (opn_s (by decide) rfl) ?_
  refine z_aload (pc' := 84) rfl rfl rfl ?_
  refine z_int (pc' := 87) (v := nI 384) rfl rfl rfl ?_
  refine z_newa (pc' := 89) (v1 := 11) (v2 := 516) (N' := 113) rfl rfl (Nat.le_of_ble_eq_true rfl) rfl rfl (Nat.le_of_ble_eq_true rfl) rfl rfl (Nat.le_of_ble_eq_true rfl) rfl (Nat.le_of_ble_eq_true rfl) (hD _ (Nat.le_of_ble_eq_true rfl)) (hL _) ?_
  refine z_putR (pc' := 92) (R' := opn R 101 [none, none, none, none, none, none, some 102, some 103, some 104, some 105, some 106, some 107, some 108, some 109, some 110, some 111, some 112, none]) rfl rfl rfl rfl (Nat.le_of_ble_eq_true rfl) (Nat.le_of_ble_eq_true rfl) rfl (by decide) (opn_s (by decide) rfl) ?_
  refine z_aload (pc' := 93) rfl rfl rfl ?_
  refine z_int (pc' := 95) (v := nI 16) rfl rfl rfl ?_
  refine z_newa (pc' := 97) (v1 := 12) (v2 := 532) (N' := 114) rfl rfl (Nat.le_of_ble_eq_true rfl) rfl rfl (Nat.le_of_ble_eq_true rfl) rfl rfl (Nat.le_of_ble_eq_true rfl) rfl (Nat.le_of_ble_eq_true rfl) (hD _ (Nat.le_of_ble_eq_true rfl)) (hL _) ?_
  refine z_putR (pc' := 100) (R' := opn R 101 [none, none, none, none, none, none, some 102, some 103, some 104, some 105, some 106, some 107, some 108, some 109, some 110, some 111, some 112, some 113]) rfl rfl rfl rfl (Nat.le_of_ble_eq_true rfl) (Nat.le_of_ble_eq_true rfl) rfl (by decide) (opn_s (by decide) rfl) ?_
  refine z_vret rfl (Nat.le_of_ble_eq_true rfl) (Nat.le_of_ble_eq_true rfl) rfl ?_
  rw [opn_e (l := [none, none, none, none, none, none, some 102, some 103, some 104, some 105, some 106, some 107, some 108, some 109, some 110, some 111, some 112, some 113]) (z := 0) rfl hR]
  exact k1
set_option maxRecDepth 20000 in
set_option maxHeartbeats 1000000 in
theorem w_X7_init_114 {R : Nat → Nat → Option Nat} {D : Nat → Nat → Int32} {L : Nat → Nat → Int64} {Q : bh_Q} (hR : R 114 = bh_R0 114) (hD : ∀ a, a < 228 → D a = fun _ => 0) (hL : ∀ a, L a = fun _ => 0) (k1 : Q none (127, R, D, L)) : bh_wc 1 m_X7_init [.ref 114] (115, bh_upr R 114 (fun _ => none), D, L) Q := by
  refine z_start (lv0 := [_]) (Nat.le_of_ble_eq_true rfl) rfl ?_
  rw [opn_0 (l := [none, none, none, none, none, none, none, none, none, none, none, none, none, none, none, none, none, none]) 18 rfl]
  refine z_aload (pc' := 1) rfl rfl rfl ?_
  refine z_oi (pc' := 4) rfl rfl (by decide) ?_
  refine z_aload (pc' := 5) rfl rfl rfl ?_
  refine z_int (pc' := 7) (v := nI 12) rfl rfl rfl ?_
  refine z_newa (pc' := 9) (v1 := 1) (v2 := 12) (N' := 116) rfl rfl (Nat.le_of_ble_eq_true rfl) rfl rfl (Nat.le_of_ble_eq_true rfl) rfl rfl (Nat.le_of_ble_eq_true rfl) rfl (Nat.le_of_ble_eq_true rfl) (hD _ (Nat.le_of_ble_eq_true rfl)) (hL _) ?_
  refine z_putR (pc' := 12) (R' := opn R 114 [none, none, none, none, none, none, some 115, none, none, none, none, none, none, none, none, none, none, none]) rfl rfl rfl rfl (Nat.le_of_ble_eq_true rfl) (Nat.le_of_ble_eq_true rfl) rfl (by decide) (opn_s (by decide) rfl) ?_
  refine z_aload (pc' := 13) rfl rfl rfl ?_
  refine z_int (pc' := 15) (v := nI 12) rfl rfl rfl ?_
  refine z_newa (pc' := 17) (v1 := 2) (v2 := 24) (N' := 117) rfl rfl (Nat.le_of_ble_eq_true rfl) rfl rfl (Nat.le_of_ble_eq_true rfl) rfl rfl (Nat.le_of_ble_eq_true rfl) rfl (Nat.le_of_ble_eq_true rfl) (hD _ (Nat.le_of_ble_eq_true rfl)) (hL _) ?_
  refine z_putR (pc' := 20) (R' := opn R 114 [none, none, none, none, none, none, some 115, some 116, none, none, none, none, none, none, none, none, none, none]) rfl rfl rfl rfl (Nat.le_of_ble_eq_true rfl) (Nat.le_of_ble_eq_true rfl) rfl (by decide) (opn_s (by decide) rfl) ?_
  refine z_aload (pc' := 21) rfl rfl rfl ?_
  refine z_int (pc' := 23) (v := nI 12) rfl rfl rfl ?_
  refine z_newa (pc' := 25) (v1 := 3) (v2 := 36) (N' := 118) rfl rfl (Nat.le_of_ble_eq_true rfl) rfl rfl (Nat.le_of_ble_eq_true rfl) rfl rfl (Nat.le_of_ble_eq_true rfl) rfl (Nat.le_of_ble_eq_true rfl) (hD _ (Nat.le_of_ble_eq_true rfl)) (hL _) ?_
  refine z_putR (pc' := 28) (R' := opn R 114 [none, none, none, none, none, none, some 115, some 116, some 117, none, none, none, none, none, none, none, none, none]) rfl rfl rfl rfl (Nat.le_of_ble_eq_true rfl) (Nat.le_of_ble_eq_true rfl) rfl (by decide) (opn_s (by decide) rfl) ?_
  refine z_aload (pc' := 29) rfl rfl rfl ?_
  refine z_int (pc' := 31) (v := nI 12) rfl rfl rfl ?_
  refine z_newa (pc' := 33) (v1 := 4) (v2 := 48) (N' := 119) rfl rfl (Nat.le_of_ble_eq_true rfl) rfl rfl (Nat.le_of_ble_eq_true rfl) rfl rfl (Nat.le_of_ble_eq_true rfl) rfl (Nat.le_of_ble_eq_true rfl) (hD _ (Nat.le_of_ble_eq_true rfl)) (hL _) ?_
  refine z_putR (pc' := 36) (R' := opn R 114 [none, none, none, none, none, none, some 115, some 116, some 117, some 118, none, none, none, none, none, none, none, none]) rfl rfl rfl rfl (Nat.le_of_ble_eq_true rfl) (Nat.le_of_ble_eq_true rfl) rfl (by decide) (opn_s (by decide) rfl) ?_
  refine z_aload (pc' := 37) rfl rfl rfl ?_
  refine z_int (pc' := 39) (v := nI 12) rfl rfl rfl ?_
  refine z_newa (pc' := 41) (v1 := 5) (v2 := 60) (N' := 120) rfl rfl (Nat.le_of_ble_eq_true rfl) rfl rfl (Nat.le_of_ble_eq_true rfl) rfl rfl (Nat.le_of_ble_eq_true rfl) rfl (Nat.le_of_ble_eq_true rfl) (hD _ (Nat.le_of_ble_eq_true rfl)) (hL _) ?_
  refine z_putR (pc' := 44) (R' := opn R 114 [none, none, none, none, none, none, some 115, some 116, some 117, some 118, some 119, none, none, none, none, none, none, none]) rfl rfl rfl rfl (Nat.le_of_ble_eq_true rfl) (Nat.le_of_ble_eq_true rfl) rfl (by decide) (opn_s (by decide) rfl) ?_
  refine z_aload (pc' := 45) rfl rfl rfl ?_
  refine z_int (pc' := 47) (v := nI 12) rfl rfl rfl ?_
  refine z_newa (pc' := 49) (v1 := 6) (v2 := 72) (N' := 121) rfl rfl (Nat.le_of_ble_eq_true rfl) rfl rfl (Nat.le_of_ble_eq_true rfl) rfl rfl (Nat.le_of_ble_eq_true rfl) rfl (Nat.le_of_ble_eq_true rfl) (hD _ (Nat.le_of_ble_eq_true rfl)) (hL _) ?_
  refine z_putR (pc' := 52) (R' := opn R 114 [none, none, none, none, none, none, some 115, some 116, some 117, some 118, some 119, some 120, none, none, none, none, none, none]) rfl rfl rfl rfl (Nat.le_of_ble_eq_true rfl) (Nat.le_of_ble_eq_true rfl) rfl (by decide) (opn_s (by decide) rfl) ?_
  refine z_aload (pc' := 53) rfl rfl rfl ?_
  refine z_int (pc' := 55) (v := nI 12) rfl rfl rfl ?_
  refine z_newa (pc' := 57) (v1 := 7) (v2 := 84) (N' := 122) rfl rfl (Nat.le_of_ble_eq_true rfl) rfl rfl (Nat.le_of_ble_eq_true rfl) rfl rfl (Nat.le_of_ble_eq_true rfl) rfl (Nat.le_of_ble_eq_true rfl) (hD _ (Nat.le_of_ble_eq_true rfl)) (hL _) ?_
  refine z_putR (pc' := 60) (R' := opn R 114 [none, none, none, none, none, none, some 115, some 116, some 117, some 118, some 119, some 120, some 121, none, none, none, none, none]) rfl rfl rfl rfl (Nat.le_of_ble_eq_true rfl) (Nat.le_of_ble_eq_true rfl) rfl (by decide) (opn_s (by decide) rfl) ?_
  refine z_aload (pc' := 61) rfl rfl rfl ?_
  refine z_int (pc' := 63) (v := nI 12) rfl rfl rfl ?_
  refine z_newa (pc' := 65) (v1 := 8) (v2 := 96) (N' := 123) rfl rfl (Nat.le_of_ble_eq_true rfl) rfl rfl (Nat.le_of_ble_eq_true rfl) rfl rfl (Nat.le_of_ble_eq_true rfl) rfl (Nat.le_of_ble_eq_true rfl) (hD _ (Nat.le_of_ble_eq_true rfl)) (hL _) ?_
  refine z_putR (pc' := 68) (R' := opn R 114 [none, none, none, none, none, none, some 115, some 116, some 117, some 118, some 119, some 120, some 121, some 122, none, none, none, none]) rfl rfl rfl rfl (Nat.le_of_ble_eq_true rfl) (Nat.le_of_ble_eq_true rfl) rfl (by decide) (opn_s (by decide) rfl) ?_
  refine z_aload (pc' := 69) rfl rfl rfl ?_
  refine z_int (pc' := 70) (v := nI 4) rfl rfl rfl ?_
  refine z_newa (pc' := 72) (v1 := 9) (v2 := 100) (N' := 124) rfl rfl (Nat.le_of_ble_eq_true rfl) rfl rfl (Nat.le_of_ble_eq_true rfl) rfl rfl (Nat.le_of_ble_eq_true rfl) rfl (Nat.le_of_ble_eq_true rfl) (hD _ (Nat.le_of_ble_eq_true rfl)) (hL _) ?_
  refine z_putR (pc' := 75) (R' := opn R 114 [none, none, none, none, none, none, some 115, some 116, some 117, some 118, some 119, some 120, some 121, some 122, some 123, none, none, none]) rfl rfl rfl rfl (Nat.le_of_ble_eq_true rfl) (Nat.le_of_ble_eq_true rfl) rfl (by decide) (opn_s (by decide) rfl) ?_
  refine z_aload (pc' := 76) rfl rfl rfl ?_
  refine z_int (pc' := 78) (v := nI 32) rfl rfl rfl ?_
  refine z_newa (pc' := 80) (v1 := 10) (v2 := 132) (N' := 125) rfl rfl (Nat.le_of_ble_eq_true rfl) rfl rfl (Nat.le_of_ble_eq_true rfl) rfl rfl (Nat.le_of_ble_eq_true rfl) rfl (Nat.le_of_ble_eq_true rfl) (hD _ (Nat.le_of_ble_eq_true rfl)) (hL _) ?_
  refine z_putR (pc' := 83) (R' := opn R 114 [none, none, none, none, none, none, some 115, some 116, some 117, some 118, some 119, some 120, some 121, some 122, some 123, some 124, none, none]) rfl rfl rfl rfl (Nat.le_of_ble_eq_true rfl) (Nat.le_of_ble_eq_true rfl) rfl (by decide) (opn_s (by decide) rfl) ?_
  refine z_aload (pc' := 84) rfl rfl rfl ?_
  refine z_int (pc' := 87) (v := nI 384) rfl rfl rfl ?_
  refine z_newa (pc' := 89) (v1 := 11) (v2 := 516) (N' := 126) rfl rfl (Nat.le_of_ble_eq_true rfl) rfl rfl (Nat.le_of_ble_eq_true rfl) rfl rfl (Nat.le_of_ble_eq_true rfl) rfl (Nat.le_of_ble_eq_true rfl) (hD _ (Nat.le_of_ble_eq_true rfl)) (hL _) ?_
  refine z_putR (pc' := 92) (R' := opn R 114 [none, none, none, none, none, none, some 115, some 116, some 117, some 118, some 119, some 120, some 121, some 122, some 123, some 124, some 125, none]) rfl rfl rfl rfl (Nat.le_of_ble_eq_true rfl) (Nat.le_of_ble_eq_true rfl) rfl (by decide) (opn_s (by decide) rfl) ?_
  refine z_aload (pc' := 93) rfl rfl rfl ?_
  refine z_int (pc' := 95) (v := nI 16) rfl rfl rfl ?_
  refine z_newa (pc' := 97) (v1 := 12) (v2 := 532) (N' := 127) rfl rfl (Nat.le_of_ble_eq_true rfl) rfl rfl (Nat.le_of_ble_eq_true rfl) rfl rfl (Nat.le_of_ble_eq_true rfl) rfl (Nat.le_of_ble_eq_true rfl) (hD _ (Nat.le_of_ble_eq_true rfl)) (hL _) ?_
  refine z_putR (pc' := 100) (R' := opn R 114 [none, none, none, none, none, none, some 115, some 116, some 117, some 118, some 119, some 120, some 121, some 122, some 123, some 124, some 125, some 126]) rfl rfl rfl rfl (Nat.le_of_ble_eq_true rfl) (Nat.le_of_ble_eq_true rfl) rfl (by decide) (opn_s (by decide) rfl) ?_
  refine z_vret rfl (Nat.le_of_ble_eq_true rfl) (Nat.le_of_ble_eq_true rfl) rfl ?_
  rw [opn_e (l := [none, none, none, none, none, none, some 115, some 116, some 117, some 118, some 119, some 120, some 121, some 122, some 123, some 124, some 125, some 126]) (z := 0) rfl hR]
  exact k1
set_option maxRecDepth 20000 in
set_option maxHeartbeats 1000000 in
theorem w_X7_init_127 {R : Nat → Nat → Option Nat} {D : Nat → Nat → Int32} {L : Nat → Nat → Int64} {Q : bh_Q} (hR : R 127 = bh_R0 127) (hD : ∀ a, a < 228 → D a = fun _ => 0) (hL : ∀ a, L a = fun _ => 0) (k1 : Q none (140, R, D, L)) : bh_wc 1 m_X7_init [.ref 127] (128, bh_upr R 127 (fun _ => none), D, L) Q := by
  refine z_start (lv0 := [_]) (Nat.le_of_ble_eq_true rfl) rfl ?_
  rw [opn_0 (l := [none, none, none, none, none, none, none, none, none, none, none, none, none, none, none, none, none, none]) 18 rfl]
  refine z_aload (pc' := 1) rfl rfl rfl ?_
  refine z_oi (pc' := 4) rfl rfl (by decide) ?_
  refine z_aload (pc' := 5) rfl rfl rfl ?_
  refine z_int (pc' := 7) (v := nI 12) rfl rfl rfl ?_
  refine z_newa (pc' := 9) (v1 := 1) (v2 := 12) (N' := 129) rfl rfl (Nat.le_of_ble_eq_true rfl) rfl rfl (Nat.le_of_ble_eq_true rfl) rfl rfl (Nat.le_of_ble_eq_true rfl) rfl (Nat.le_of_ble_eq_true rfl) (hD _ (Nat.le_of_ble_eq_true rfl)) (hL _) ?_
  refine z_putR (pc' := 12) (R' := opn R 127 [none, none, none, none, none, none, some 128, none, none, none, none, none, none, none, none, none, none, none]) rfl rfl rfl rfl (Nat.le_of_ble_eq_true rfl) (Nat.le_of_ble_eq_true rfl) rfl (by decide) (opn_s (by decide) rfl) ?_
  refine z_aload (pc' := 13) rfl rfl rfl ?_
  refine z_int (pc' := 15) (v := nI 12) rfl rfl rfl ?_
  refine z_newa (pc' := 17) (v1 := 2) (v2 := 24) (N' := 130) rfl rfl (Nat.le_of_ble_eq_true rfl) rfl rfl (Nat.le_of_ble_eq_true rfl) rfl rfl (Nat.le_of_ble_eq_true rfl) rfl (Nat.le_of_ble_eq_true rfl) (hD _ (Nat.le_of_ble_eq_true rfl)) (hL _) ?_
  refine z_putR (pc' := 20) (R' := opn R 127 [none, none, none, none, none, none, some 128, some 129, none, none, none, none, none, none, none, none, none, none]) rfl rfl rfl rfl (Nat.le_of_ble_eq_true rfl) (Nat.le_of_ble_eq_true rfl) rfl (by decide) (opn_s (by decide) rfl) ?_
  refine z_aload (pc' := 21) rfl rfl rfl ?_
  refine z_int (pc' := 23) (v := nI 12) rfl rfl rfl ?_
  refine z_newa (pc' := 25) (v1 := 3) (v2 := 36) (N' := 131) rfl rfl (Nat.le_of_ble_eq_true rfl) rfl rfl (Nat.le_of_ble_eq_true rfl) rfl rfl (Nat.le_of_ble_eq_true rfl) rfl (Nat.le_of_ble_eq_true rfl) (hD _ (Nat.le_of_ble_eq_true rfl)) (hL _) ?_
  refine z_putR (pc' := 28) (R' := opn R 127 [none, none, none, none, none, none, some 128, some 129, some 130, none, none, none, none, none, none, none, none, none]) rfl rfl rfl rfl (Nat.le_of_ble_eq_true rfl) (Nat.le_of_ble_eq_true rfl) rfl (by decide) (opn_s (by decide) rfl) ?_
  refine z_aload (pc' := 29) rfl rfl rfl ?_
  refine z_int (pc' := 31) (v := nI 12) rfl rfl rfl ?_
  refine z_newa (pc' := 33) (v1 := 4) (v2 := 48) (N' := 132) rfl rfl (Nat.le_of_ble_eq_true rfl) rfl rfl (Nat.le_of_ble_eq_true rfl) rfl rfl (Nat.le_of_ble_eq_true rfl) rfl (Nat.le_of_ble_eq_true rfl) (hD _ (Nat.le_of_ble_eq_true rfl)) (hL _) ?_
  refine z_putR (pc' := 36) (R' := opn R 127 [none, none, none, none, none, none, some 128, some 129, some 130, some 131, none, none, none, none, none, none, none, none]) rfl rfl rfl rfl (Nat.le_of_ble_eq_true rfl) (Nat.le_of_ble_eq_true rfl) rfl (by decide) (opn_s (by decide) rfl) ?_
  refine z_aload (pc' := 37) rfl rfl rfl ?_
  refine z_int (pc' := 39) (v := nI 12) rfl rfl rfl ?_
  refine z_newa (pc' := 41) (v1 := 5) (v2 := 60) (N' := 133) rfl rfl (Nat.le_of_ble_eq_true rfl) rfl rfl (Nat.le_of_ble_eq_true rfl) rfl rfl (Nat.le_of_ble_eq_true rfl) rfl (Nat.le_of_ble_eq_true rfl) (hD _ (Nat.le_of_ble_eq_true rfl)) (hL _) ?_
  refine z_putR (pc' := 44) (R' := opn R 127 [none, none, none, none, none, none, some 128, some 129, some 130, some 131, some 132, none, none, none, none, none, none, none]) rfl rfl rfl rfl (Nat.le_of_ble_eq_true rfl) (Nat.le_of_ble_eq_true rfl) rfl (by decide) (opn_s (by decide) rfl) ?_
  refine z_aload (pc' := 45) rfl rfl rfl ?_
  refine z_int (pc' := 47) (v := nI 12) rfl rfl rfl ?_
  refine z_newa (pc' := 49) (v1 := 6) (v2 := 72) (N' := 134) rfl rfl (Nat.le_of_ble_eq_true rfl) rfl rfl (Nat.le_of_ble_eq_true rfl) rfl rfl (Nat.le_of_ble_eq_true rfl) rfl (Nat.le_of_ble_eq_true rfl) (hD _ (Nat.le_of_ble_eq_true rfl)) (hL _) ?_
  refine z_putR (pc' := 52) (R' := opn R 127 [none, none, none, none, none, none, some 128, some 129, some 130, some 131, some 132, some 133, none, none, none, none, none, none]) rfl rfl rfl rfl (Nat.le_of_ble_eq_true rfl) (Nat.le_of_ble_eq_true rfl) rfl (by decide) (opn_s (by decide) rfl) ?_
  refine z_aload (pc' := 53) rfl rfl rfl ?_
  refine z_int (pc' := 55) (v := nI 12) rfl rfl rfl ?_
  refine z_newa (pc' := 57) (v1 := 7) (v2 := 84) (N' := 135) rfl rfl (Nat.le_of_ble_eq_true rfl) rfl rfl (Nat.le_of_ble_eq_true rfl) rfl rfl (Nat.le_of_ble_eq_true rfl) rfl (Nat.le_of_ble_eq_true rfl) (hD _ (Nat.le_of_ble_eq_true rfl)) (hL _) ?_
  refine z_putR (pc' := 60) (R' := opn R 127 [none, none, none, none, none, none, some 128, some 129, some 130, some 131, some 132, some 133, some 134, none, none, none, none, none]) rfl rfl rfl rfl (Nat.le_of_ble_eq_true rfl) (Nat.le_of_ble_eq_true rfl) rfl (by decide) (opn_s (by decide) rfl) ?_
  refine z_aload (pc' := 61) rfl rfl rfl ?_
  refine z_int (pc' := 63) (v := nI 12) rfl rfl rfl ?_
  refine z_newa (pc' := 65) (v1 := 8) (v2 := 96) (N' := 136) rfl rfl (Nat.le_of_ble_eq_true rfl) rfl rfl (Nat.le_of_ble_eq_true rfl) rfl rfl (Nat.le_of_ble_eq_true rfl) rfl (Nat.le_of_ble_eq_true rfl) (hD _ (Nat.le_of_ble_eq_true rfl)) (hL _) ?_
  refine z_putR (pc' := 68) (R' := opn R 127 [none, none, none, none, none, none, some 128, some 129, some 130, some 131, some 132, some 133, some 134, some 135, none, none, none, none]) rfl rfl rfl rfl (Nat.le_of_ble_eq_true rfl) (Nat.le_of_ble_eq_true rfl) rfl (by decide) (opn_s (by decide) rfl) ?_
  refine z_aload (pc' := 69) rfl rfl rfl ?_
  refine z_int (pc' := 70) (v := nI 4) rfl rfl rfl ?_
  refine z_newa (pc' := 72) (v1 := 9) (v2 := 100) (N' := 137) rfl rfl (Nat.le_of_ble_eq_true rfl) rfl rfl (Nat.le_of_ble_eq_true rfl) rfl rfl (Nat.le_of_ble_eq_true rfl) rfl (Nat.le_of_ble_eq_true rfl) (hD _ (Nat.le_of_ble_eq_true rfl)) (hL _) ?_
  refine z_putR (pc' := 75) (R' := opn R 127 [none, none, none, none, none, none, some 128, some 129, some 130, some 131, some 132, some 133, some 134, some 135, some 136, none, none, none]) rfl rfl rfl rfl (Nat.le_of_ble_eq_true rfl) (Nat.le_of_ble_eq_true rfl) rfl (by decide) (opn_s (by decide) rfl) ?_
  refine z_aload (pc' := 76) rfl rfl rfl ?_
  refine z_int (pc' := 78) (v := nI 32) rfl rfl rfl ?_
  refine z_newa (pc' := 80) (v1 := 10) (v2 := 132) (N' := 138) rfl rfl (Nat.le_of_ble_eq_true rfl) rfl rfl (Nat.le_of_ble_eq_true rfl) rfl rfl (Nat.le_of_ble_eq_true rfl) rfl (Nat.le_of_ble_eq_true rfl) (hD _ (Nat.le_of_ble_eq_true rfl)) (hL _) ?_
  refine z_putR (pc' := 83) (R' := opn R 127 [none, none, none, none, none, none, some 128, some 129, some 130, some 131, some 132, some 133, some 134, some 135, some 136, some 137, none, none]) rfl rfl rfl rfl (Nat.le_of_ble_eq_true rfl) (Nat.le_of_ble_eq_true rfl) rfl (by decide) (opn_s (by decide) rfl) ?_
  refine z_aload (pc' := 84) rfl rfl rfl ?_
  refine z_int (pc' := 87) (v := nI 384) rfl rfl rfl ?_
  refine z_newa (pc' := 89) (v1 := 11) (v2 := 516) (N' := 139) rfl rfl (Nat.le_of_ble_eq_true rfl) rfl rfl (Nat.le_of_ble_eq_true rfl) rfl rfl (Nat.le_of_ble_eq_true rfl) rfl (Nat.le_of_ble_eq_true rfl) (hD _ (Nat.le_of_ble_eq_true rfl)) (hL _) ?_
  refine z_putR (pc' := 92) (R' := opn R 127 [none, none, none, none, none, none, some 128, some 129, some 130, some 131, some 132, some 133, some 134, some 135, some 136, some 137, some 138, none]) rfl rfl rfl rfl (Nat.le_of_ble_eq_true rfl) (Nat.le_of_ble_eq_true rfl) rfl (by decide) (opn_s (by decide) rfl) ?_
  refine z_aload (pc' := 93) rfl rfl rfl ?_
  refine z_int (pc' := 95) (v := nI 16) rfl rfl rfl ?_
  refine z_newa (pc' := 97) (v1 := 12) (v2 := 532) (N' := 140) rfl rfl (Nat.le_of_ble_eq_true rfl) rfl rfl (Nat.le_of_ble_eq_true rfl) rfl rfl (Nat.le_of_ble_eq_true rfl) rfl (Nat.le_of_ble_eq_true rfl) (hD _ (Nat.le_of_ble_eq_true rfl)) (hL _) ?_
  refine z_putR (pc' := 100) (R' := opn R 127 [none, none, none, none, none, none, some 128, some 129, some 130, some 131, some 132, some 133, some 134, some 135, some 136, some 137, some 138, some 139]) rfl rfl rfl rfl (Nat.le_of_ble_eq_true rfl) (Nat.le_of_ble_eq_true rfl) rfl (by decide) (opn_s (by decide) rfl) ?_
  refine z_vret rfl (Nat.le_of_ble_eq_true rfl) (Nat.le_of_ble_eq_true rfl) rfl ?_
  rw [opn_e (l := [none, none, none, none, none, none, some 128, some 129, some 130, some 131, some 132, some 133, some 134, some 135, some 136, some 137, some 138, some 139]) (z := 0) rfl hR]
  exact k1
set_option maxRecDepth 20000 in
set_option maxHeartbeats 1000000 in
theorem w_X7_init_140 {R : Nat → Nat → Option Nat} {D : Nat → Nat → Int32} {L : Nat → Nat → Int64} {Q : bh_Q} (hR : R 140 = bh_R0 140) (hD : ∀ a, a < 228 → D a = fun _ => 0) (hL : ∀ a, L a = fun _ => 0) (k1 : Q none (153, R, D, L)) : bh_wc 1 m_X7_init [.ref 140] (141, bh_upr R 140 (fun _ => none), D, L) Q := by
  refine z_start (lv0 := [_]) (Nat.le_of_ble_eq_true rfl) rfl ?_
  rw [opn_0 (l := [none, none, none, none, none, none, none, none, none, none, none, none, none, none, none, none, none, none]) 18 rfl]
  refine z_aload (pc' := 1) rfl rfl rfl ?_
  refine z_oi (pc' := 4) rfl rfl (by decide) ?_
  refine z_aload (pc' := 5) rfl rfl rfl ?_
  refine z_int (pc' := 7) (v := nI 12) rfl rfl rfl ?_
  refine z_newa (pc' := 9) (v1 := 1) (v2 := 12) (N' := 142) rfl rfl (Nat.le_of_ble_eq_true rfl) rfl rfl (Nat.le_of_ble_eq_true rfl) rfl rfl (Nat.le_of_ble_eq_true rfl) rfl (Nat.le_of_ble_eq_true rfl) (hD _ (Nat.le_of_ble_eq_true rfl)) (hL _) ?_
  refine z_putR (pc' := 12) (R' := opn R 140 [none, none, none, none, none, none, some 141, none, none, none, none, none, none, none, none, none, none, none]) rfl rfl rfl rfl (Nat.le_of_ble_eq_true rfl) (Nat.le_of_ble_eq_true rfl) rfl (by decide) (opn_s (by decide) rfl) ?_
  refine z_aload (pc' := 13) rfl rfl rfl ?_
  refine z_int (pc' := 15) (v := nI 12) rfl rfl rfl ?_
  refine z_newa (pc' := 17) (v1 := 2) (v2 := 24) (N' := 143) rfl rfl (Nat.le_of_ble_eq_true rfl) rfl rfl (Nat.le_of_ble_eq_true rfl) rfl rfl (Nat.le_of_ble_eq_true rfl) rfl (Nat.le_of_ble_eq_true rfl) (hD _ (Nat.le_of_ble_eq_true rfl)) (hL _) ?_
  refine z_putR (pc' := 20) (R' := opn R 140 [none, none, none, none, none, none, some 141, some 142, none, none, none, none, none, none, none, none, none, none]) rfl rfl rfl rfl (Nat.le_of_ble_eq_true rfl) (Nat.le_of_ble_eq_true rfl) rfl (by decide) (opn_s (by decide) rfl) ?_
  refine z_aload (pc' := 21) rfl rfl rfl ?_
  refine z_int (pc' := 23) (v := nI 12) rfl rfl rfl ?_
  refine z_newa (pc' := 25) (v1 := 3) (v2 := 36) (N' := 144) rfl rfl (Nat.le_of_ble_eq_true rfl) rfl rfl (Nat.le_of_ble_eq_true rfl) rfl rfl (Nat.le_of_ble_eq_true rfl) rfl (Nat.le_of_ble_eq_true rfl) (hD _ (Nat.le_of_ble_eq_true rfl)) (hL _) ?_
  refine z_putR (pc' := 28) (R' := opn R 140 [none, none, none, none, none, none, some 141, some 142, some 143, none, none, none, none, none, none, none, none, none]) rfl rfl rfl rfl (Nat.le_of_ble_eq_true rfl) (Nat.le_of_ble_eq_true rfl) rfl (by decide) (opn_s (by decide) rfl) ?_
  refine z_aload (pc' := 29) rfl rfl rfl ?_
  refine z_int (pc' := 31) (v := nI 12) rfl rfl rfl ?_
  refine z_newa (pc' := 33) (v1 := 4) (v2 := 48) (N' := 145) rfl rfl (Nat.le_of_ble_eq_true rfl) rfl rfl (Nat.le_of_ble_eq_true rfl) rfl rfl (Nat.le_of_ble_eq_true rfl) rfl (Nat.le_of_ble_eq_true rfl) (hD _ (Nat.le_of_ble_eq_true rfl)) (hL _) ?_
  refine z_putR (pc' := 36) (R' := opn R 140 [none, none, none, none, none, none, some 141, some 142, some 143, some 144, none, none, none, none, none, none, none, none]) rfl rfl rfl rfl (Nat.le_of_ble_eq_true rfl) (Nat.le_of_ble_eq_true rfl) rfl (by decide) (opn_s (by decide) rfl) ?_
  refine z_aload (pc' := 37) rfl rfl rfl ?_
  refine z_int (pc' := 39) (v := nI 12) rfl rfl rfl ?_
  refine z_newa (pc' := 41) (v1 := 5) (v2 := 60) (N' := 146) rfl rfl (Nat.le_of_ble_eq_true rfl) rfl rfl (Nat.le_of_ble_eq_true rfl) rfl rfl (Nat.le_of_ble_eq_true rfl) rfl (Nat.le_of_ble_eq_true rfl) (hD _ (Nat.le_of_ble_eq_true rfl)) (hL _) ?_
  refine z_putR (pc' := 44) (R' := opn R 140 [none, none, none, none, none, none, some 141, some 142, some 143, some 144, some 145, none, none, none, none, none, none, none]) rfl rfl rfl rfl (Nat.le_of_ble_eq_true rfl) (Nat.le_of_ble_eq_true rfl) rfl (by decide) (opn_s (by decide) rfl) ?_
  refine z_aload (pc' := 45) rfl rfl rfl ?_
  refine z_int (pc' := 47) (v := nI 12) rfl rfl rfl ?_
  refine z_newa (pc' := 49) (v1 := 6) (v2 := 72) (N' := 147) rfl rfl (Nat.le_of_ble_eq_true rfl) rfl rfl (Nat.le_of_ble_eq_true rfl) rfl rfl (Nat.le_of_ble_eq_true rfl) rfl (Nat.le_of_ble_eq_true rfl) (hD _ (Nat.le_of_ble_eq_true rfl)) (hL _) ?_
  refine z_putR (pc' := 52) (R' := opn R 140 [none, none, none, none, none, none, some 141, some 142, some 143, some 144, some 145, some 146, none, none, none, none, none, none]) rfl rfl rfl rfl (Nat.le_of_ble_eq_true rfl) (Nat.le_of_ble_eq_true rfl) rfl (by decide) (opn_s (by decide) rfl) ?_
  refine z_aload (pc' := 53) rfl rfl rfl ?_
  refine z_int (pc' := 55) (v := nI 12) rfl rfl rfl ?_
  refine z_newa (pc' := 57) (v1 := 7) (v2 := 84) (N' := 148) rfl rfl (Nat.le_of_ble_eq_true rfl) rfl rfl (Nat.le_of_ble_eq_true rfl) rfl rfl (Nat.le_of_ble_eq_true rfl) rfl (Nat.le_of_ble_eq_true rfl) (hD _ (Nat.le_of_ble_eq_true rfl)) (hL _) ?_
  refine z_putR (pc' := 60) (R' := opn R 140 [none, none, none, none, none, none, some 141, some 142, some 143, some 144, some 145, some 146, some 147, none, none, none, none, none]) rfl rfl rfl rfl (Nat.le_of_ble_eq_true rfl) (Nat.le_of_ble_eq_true rfl) rfl (by decide) (opn_s (by decide) rfl) ?_
  refine z_aload (pc' := 61) rfl rfl rfl ?_
  refine z_int (pc' := 63) (v := nI 12) rfl rfl rfl ?_
  refine z_newa (pc' := 65) (v1 := 8) (v2 := 96) (N' := 149) rfl rfl (Nat.le_of_ble_eq_true rfl) rfl rfl (Nat.le_of_ble_eq_true rfl) rfl rfl (Nat.le_of_ble_eq_true rfl) rfl (Nat.le_of_ble_eq_true rfl) (hD _ (Nat.le_of_ble_eq_true rfl)) (hL _) ?_
  refine z_putR (pc' := 68) (R' := opn R 140 [none, none, none, none, none, none, some 141, some 142, some 143, some 144, some 145, some 146, some 147, some 148, none, none, none, none]) rfl rfl rfl rfl (Nat.le_of_ble_eq_true rfl) (Nat.le_of_ble_eq_true rfl) rfl (by decide) (opn_s (by decide) rfl) ?_
  refine z_aload (pc' := 69) rfl rfl rfl ?_
  refine z_int (pc' := 70) (v := nI 4) rfl rfl rfl ?_
  refine z_newa (pc' := 72) (v1 := 9) (v2 := 100) (N' := 150) rfl rfl (Nat.le_of_ble_eq_true rfl) rfl rfl (Nat.le_of_ble_eq_true rfl) rfl rfl (Nat.le_of_ble_eq_true rfl) rfl (Nat.le_of_ble_eq_true rfl) (hD _ (Nat.le_of_ble_eq_true rfl)) (hL _) ?_
  refine z_putR (pc' := 75) (R' := opn R 140 [none, none, none, none, none, none, some 141, some 142, some 143, some 144, some 145, some 146, some 147, some 148, some 149, none, none, none]) rfl rfl rfl rfl (Nat.le_of_ble_eq_true rfl) (Nat.le_of_ble_eq_true rfl) rfl (by decide) (opn_s (by decide) rfl) ?_
  refine z_aload (pc' := 76) rfl rfl rfl ?_
  refine z_int (pc' := 78) (v := nI 32) rfl rfl rfl ?_
  refine z_newa (pc' := 80) (v1 := 10) (v2 := 132) (N' := 151) rfl rfl (Nat.le_of_ble_eq_true rfl) rfl rfl (Nat.le_of_ble_eq_true rfl) rfl rfl (Nat.le_of_ble_eq_true rfl) rfl (Nat.le_of_ble_eq_true rfl) (hD _ (Nat.le_of_ble_eq_true rfl)) (hL _) ?_
  refine z_putR (pc' := 83) (R' := opn R 140 [none, none, none, none, none, none, some 141, some 142, some 143, some 144, some 145, some 146, some 147, some 148, some 149, some 150, none, none]) rfl rfl rfl rfl (Nat.le_of_ble_eq_true rfl) (Nat.le_of_ble_eq_true rfl) rfl (by decide) (opn_s (by decide) rfl) ?_
  refine z_aload (pc' := 84) rfl rfl rfl ?_
  refine z_int (pc' := 87) (v := nI 384) rfl rfl rfl ?_
  refine z_newa (pc' := 89) (v1 := 11) (v2 := 516) (N' := 152) rfl rfl (Nat.le_of_ble_eq_true rfl) rfl rfl (Nat.le_of_ble_eq_true rfl) rfl rfl (Nat.le_of_ble_eq_true rfl) rfl (Nat.le_of_ble_eq_true rfl) (hD _ (Nat.le_of_ble_eq_true rfl)) (hL _) ?_
  refine z_putR (pc' := 92) (R' := opn R 140 [none, none, none, none, none, none, some 141, some 142, some 143, some 144, some 145, some 146, some 147, some 148, some 149, some 150, some 151, none]) rfl rfl rfl rfl (Nat.le_of_ble_eq_true rfl) (Nat.le_of_ble_eq_true rfl) rfl (by decide) (opn_s (by decide) rfl) ?_
  refine z_aload (pc' := 93) rfl rfl rfl ?_
  refine z_int (pc' := 95) (v := nI 16) rfl rfl rfl ?_
  refine z_newa (pc' := 97) (v1 := 12) (v2 := 532) (N' := 153) rfl rfl (Nat.le_of_ble_eq_true rfl) rfl rfl (Nat.le_of_ble_eq_true rfl) rfl rfl (Nat.le_of_ble_eq_true rfl) rfl (Nat.le_of_ble_eq_true rfl) (hD _ (Nat.le_of_ble_eq_true rfl)) (hL _) ?_
  refine z_putR (pc' := 100) (R' := opn R 140 [none, none, none, none, none, none, some 141, some 142, some 143, some 144, some 145, some 146, some 147, some 148, some 149, some 150, some 151, some 152]) rfl rfl rfl rfl (Nat.le_of_ble_eq_true rfl) (Nat.le_of_ble_eq_true rfl) rfl (by decide) (opn_s (by decide) rfl) ?_
  refine z_vret rfl (Nat.le_of_ble_eq_true rfl) (Nat.le_of_ble_eq_true rfl) rfl ?_
  rw [opn_e (l := [none, none, none, none, none, none, some 141, some 142, some 143, some 144, some 145, some 146, some 147, some 148, some 149, some 150, some 151, some 152]) (z := 0) rfl hR]
  exact k1
set_option maxRecDepth 20000 in
set_option maxHeartbeats 1000000 in
theorem w_X7_init_153 {R : Nat → Nat → Option Nat} {D : Nat → Nat → Int32} {L : Nat → Nat → Int64} {Q : bh_Q} (hR : R 153 = bh_R0 153) (hD : ∀ a, a < 228 → D a = fun _ => 0) (hL : ∀ a, L a = fun _ => 0) (k1 : Q none (166, R, D, L)) : bh_wc 1 m_X7_init [.ref 153] (154, bh_upr R 153 (fun _ => none), D, L) Q := by
  refine z_start (lv0 := [_]) (Nat.le_of_ble_eq_true rfl) rfl ?_
  rw [opn_0 (l := [none, none, none, none, none, none, none, none, none, none, none, none, none, none, none, none, none, none]) 18 rfl]
  refine z_aload (pc' := 1) rfl rfl rfl ?_
  refine z_oi (pc' := 4) rfl rfl (by decide) ?_
  refine z_aload (pc' := 5) rfl rfl rfl ?_
  refine z_int (pc' := 7) (v := nI 12) rfl rfl rfl ?_
  refine z_newa (pc' := 9) (v1 := 1) (v2 := 12) (N' := 155) rfl rfl (Nat.le_of_ble_eq_true rfl) rfl rfl (Nat.le_of_ble_eq_true rfl) rfl rfl (Nat.le_of_ble_eq_true rfl) rfl (Nat.le_of_ble_eq_true rfl) (hD _ (Nat.le_of_ble_eq_true rfl)) (hL _) ?_
  refine z_putR (pc' := 12) (R' := opn R 153 [none, none, none, none, none, none, some 154, none, none, none, none, none, none, none, none, none, none, none]) rfl rfl rfl rfl (Nat.le_of_ble_eq_true rfl) (Nat.le_of_ble_eq_true rfl) rfl (by decide) (opn_s (by decide) rfl) ?_
  refine z_aload (pc' := 13) rfl rfl rfl ?_
  refine z_int (pc' := 15) (v := nI 12) rfl rfl rfl ?_
  refine z_newa (pc' := 17) (v1 := 2) (v2 := 24) (N' := 156) rfl rfl (Nat.le_of_ble_eq_true rfl) rfl rfl (Nat.le_of_ble_eq_true rfl) rfl rfl (Nat.le_of_ble_eq_true rfl) rfl (Nat.le_of_ble_eq_true rfl) (hD _ (Nat.le_of_ble_eq_true rfl)) (hL _) ?_
  refine z_putR (pc' := 20) (R' := opn R 153 [none, none, none, none, none, none, some 154, some 155, none, none, none, none, none, none, none, none, none, none]) rfl rfl rfl rfl (Nat.le_of_ble_eq_true rfl) (Nat.le_of_ble_eq_true rfl) rfl (by decide) (opn_s (by decide) rfl) ?_
  refine z_aload (pc' := 21) rfl rfl rfl ?_
  refine z_int (pc' := 23) (v := nI 12) rfl rfl rfl ?_
  refine z_newa (pc' := 25) (v1 := 3) (v2 := 36) (N' := 157) rfl rfl (Nat.le_of_ble_eq_true rfl) rfl rfl (Nat.le_of_ble_eq_true rfl) rfl rfl (Nat.le_of_ble_eq_true rfl) rfl (Nat.le_of_ble_eq_true rfl) (hD _ (Nat.le_of_ble_eq_true rfl)) (hL _) ?_
  refine z_putR (pc' := 28) (R' := opn R 153 [none, none, none, none, none, none, some 154, some 155, some 156, none, none, none, none, none, none, none, none, none]) rfl rfl rfl rfl (Nat.le_of_ble_eq_true rfl) (Nat.le_of_ble_eq_true rfl) rfl (by decide) (opn_s (by decide) rfl) ?_
  refine z_aload (pc' := 29) rfl rfl rfl ?_
  refine z_int (pc' := 31) (v := nI 12) rfl rfl rfl ?_
  refine z_newa (pc' := 33) (v1 := 4) (v2 := 48) (N' := 158) rfl rfl (Nat.le_of_ble_eq_true rfl) rfl rfl (Nat.le_of_ble_eq_true rfl) rfl rfl (Nat.le_of_ble_eq_true rfl) rfl (Nat.le_of_ble_eq_true rfl) (hD _ (Nat.le_of_ble_eq_true rfl)) (hL _) ?_
  refine z_putR (pc' := 36) (R' := opn R 153 [none, none, none, none, none, none, some 154, some 155, some 156, some 157, none, none, none, none, none, none, none, none]) rfl rfl rfl rfl (Nat.le_of_ble_eq_true rfl) (Nat.le_of_ble_eq_true rfl) rfl (by decide) (opn_s (by decide) rfl) ?_
  refine z_aload (pc' := 37) rfl rfl rfl ?_
  refine z_int (pc' := 39) (v := nI 12) rfl rfl rfl ?_
  refine z_newa (pc' := 41) (v1 := 5) (v2 := 60) (N' := 159) rfl rfl (Nat.le_of_ble_eq_true rfl) rfl rfl (Nat.le_of_ble_eq_true rfl) rfl rfl (Nat.le_of_ble_eq_true rfl) rfl (Nat.le_of_ble_eq_true rfl) (hD _ (Nat.le_of_ble_eq_true rfl)) (hL _) ?_
  refine z_putR (pc' := 44) (R' := opn R 153 [none, none, none, none, none, none, some 154, some 155, some 156, some 157, some 158, none, none, none, none, none, none, none]) rfl rfl rfl rfl (Nat.le_of_ble_eq_true rfl) (Nat.le_of_ble_eq_true rfl) rfl (by decide) (opn_s (by decide) rfl) ?_
  refine z_aload (pc' := 45) rfl rfl rfl ?_
  refine z_int (pc' := 47) (v := nI 12) rfl rfl rfl ?_
  refine z_newa (pc' := 49) (v1 := 6) (v2 := 72) (N' := 160) rfl rfl (Nat.le_of_ble_eq_true rfl) rfl rfl (Nat.le_of_ble_eq_true rfl) rfl rfl (Nat.le_of_ble_eq_true rfl) rfl (Nat.le_of_ble_eq_true rfl) (hD _ (Nat.le_of_ble_eq_true rfl)) (hL _) ?_
  refine z_putR (pc' := 52) (R' := opn R 153 [none, none, none, none, none, none, some 154, some 155, some 156, some 157, some 158, some 159, none, none, none, none, none, none]) rfl rfl rfl rfl (Nat.le_of_ble_eq_true rfl) (Nat.le_of_ble_eq_true rfl) rfl (by decide) (opn_s (by decide) rfl) ?_
  refine z_aload (pc' := 53) rfl rfl rfl ?_
  refine z_int (pc' := 55) (v := nI 12) rfl rfl rfl ?_
  refine z_newa (pc' := 57) (v1 := 7) (v2 := 84) (N' := 161) rfl rfl (Nat.le_of_ble_eq_true rfl) rfl rfl (Nat.le_of_ble_eq_true rfl) rfl rfl (Nat.le_of_ble_eq_true rfl) rfl (Nat.le_of_ble_eq_true rfl) (hD _ (Nat.le_of_ble_eq_true rfl)) (hL _) ?_
  refine z_putR (pc' := 60) (R' := opn R 153 [none, none, none, none, none, none, some 154, some 155, some 156, some 157, some 158, some 159, some 160, none, none, none, none, none]) rfl rfl rfl rfl (Nat.le_of_ble_eq_true rfl) (Nat.le_of_ble_eq_true rfl) rfl (by decide) (opn_s (by decide) rfl) ?_
  refine z_aload (pc' := 61) rfl rfl rfl ?_
  refine z_int (pc' := 63) (v := nI 12) rfl rfl rfl ?_
  refine z_newa (pc' := 65) (v1 := 8) (v2 := 96) (N' := 162) rfl rfl (Nat.le_of_ble_eq_true rfl) rfl rfl (Nat.le_of_ble_eq_true rfl) rfl rfl (Nat.le_of_ble_eq_true rfl) rfl (Nat.le_of_ble_eq_true rfl) (hD _ (Nat.le_of_ble_eq_true rfl)) (hL _) ?_
  refine z_putR (pc' := 68) (R' := opn R 153 [none, none, none, none, none, none, some 154, some 155, some 156, some 157, some 158, some 159, some 160, some 161, none, none, none, none]) rfl rfl rfl rfl (Nat.le_of_ble_eq_true rfl) (Nat.le_of_ble_eq_true rfl) rfl (by decide) (opn_s (by decide) rfl) ?_
  refine z_aload (pc' := 69) rfl rfl rfl ?_
  refine z_int (pc' := 70) (v := nI 4) rfl rfl rfl ?_
  refine z_newa (pc' := 72) (v1 := 9) (v2 := 100) (N' := 163) rfl rfl (Nat.le_of_ble_eq_true rfl) rfl rfl (Nat.le_of_ble_eq_true rfl) rfl rfl (Nat.le_of_ble_eq_true rfl) rfl (Nat.le_of_ble_eq_true rfl) (hD _ (Nat.le_of_ble_eq_true rfl)) (hL _) ?_
  refine z_putR (pc' := 75) (R' := opn R 153 [none, none, none, none, none, none, some 154, some 155, some 156, some 157, some 158, some 159, some 160, some 161, some 162, none, none, none]) rfl rfl rfl rfl (Nat.le_of_ble_eq_true rfl) (Nat.le_of_ble_eq_true rfl) rfl (by decide) (opn_s (by decide) rfl) ?_
  refine z_aload (pc' := 76) rfl rfl rfl ?_
  refine z_int (pc' := 78) (v := nI 32) rfl rfl rfl ?_
  refine z_newa (pc' := 80) (v1 := 10) (v2 := 132) (N' := 164) rfl rfl (Nat.le_of_ble_eq_true rfl) rfl rfl (Nat.le_of_ble_eq_true rfl) rfl rfl (Nat.le_of_ble_eq_true rfl) rfl (Nat.le_of_ble_eq_true rfl) (hD _ (Nat.le_of_ble_eq_true rfl)) (hL _) ?_
  refine z_putR (pc' := 83) (R' := opn R 153 [none, none, none, none, none, none, some 154, some 155, some 156, some 157, some 158, some 159, some 160, some 161, some 162, some 163, none, none]) rfl rfl rfl rfl (Nat.le_of_ble_eq_true rfl) (Nat.le_of_ble_eq_true rfl) rfl (by decide) (opn_s (by decide) rfl) ?_
  refine z_aload (pc' := 84) rfl rfl rfl ?_
  refine z_int (pc' := 87) (v := nI 384) rfl rfl rfl ?_
  refine z_newa (pc' := 89) (v1 := 11) (v2 := 516) (N' := 165) rfl rfl (Nat.le_of_ble_eq_true rfl) rfl rfl (Nat.le_of_ble_eq_true rfl) rfl rfl (Nat.le_of_ble_eq_true rfl) rfl (Nat.le_of_ble_eq_true rfl) (hD _ (Nat.le_of_ble_eq_true rfl)) (hL _) ?_
  refine z_putR (pc' := 92) (R' := opn R 153 [none, none, none, none, none, none, some 154, some 155, some 156, some 157, some 158, some 159, some 160, some 161, some 162, some 163, some 164, none]) rfl rfl rfl rfl (Nat.le_of_ble_eq_true rfl) (Nat.le_of_ble_eq_true rfl) rfl (by decide) (opn_s (by decide) rfl) ?_
  refine z_aload (pc' := 93) rfl rfl rfl ?_
  refine z_int (pc' := 95) (v := nI 16) rfl rfl rfl ?_
  refine z_newa (pc' := 97) (v1 := 12) (v2 := 532) (N' := 166) rfl rfl (Nat.le_of_ble_eq_true rfl) rfl rfl (Nat.le_of_ble_eq_true rfl) rfl rfl (Nat.le_of_ble_eq_true rfl) rfl (Nat.le_of_ble_eq_true rfl) (hD _ (Nat.le_of_ble_eq_true rfl)) (hL _) ?_
  refine z_putR (pc' := 100) (R' := opn R 153 [none, none, none, none, none, none, some 154, some 155, some 156, some 157, some 158, some 159, some 160, some 161, some 162, some 163, some 164, some 165]) rfl rfl rfl rfl (Nat.le_of_ble_eq_true rfl) (Nat.le_of_ble_eq_true rfl) rfl (by decide) (opn_s (by decide) rfl) ?_
  refine z_vret rfl (Nat.le_of_ble_eq_true rfl) (Nat.le_of_ble_eq_true rfl) rfl ?_
  rw [opn_e (l := [none, none, none, none, none, none, some 154, some 155, some 156, some 157, some 158, some 159, some 160, some 161, some 162, some 163, some 164, some 165]) (z := 0) rfl hR]
  exact k1
set_option maxRecDepth 20000 in
set_option maxHeartbeats 1000000 in
theorem w_X7_init_166 {R : Nat → Nat → Option Nat} {D : Nat → Nat → Int32} {L : Nat → Nat → Int64} {Q : bh_Q} (hR : R 166 = bh_R0 166) (hD : ∀ a, a < 228 → D a = fun _ => 0) (hL : ∀ a, L a = fun _ => 0) (k1 : Q none (179, R, D, L)) : bh_wc 1 m_X7_init [.ref 166] (167, bh_upr R 166 (fun _ => none), D, L) Q := by
  refine z_start (lv0 := [_]) (Nat.le_of_ble_eq_true rfl) rfl ?_
  rw [opn_0 (l := [none, none, none, none, none, none, none, none, none, none, none, none, none, none, none, none, none, none]) 18 rfl]
  refine z_aload (pc' := 1) rfl rfl rfl ?_
  refine z_oi (pc' := 4) rfl rfl (by decide) ?_
  refine z_aload (pc' := 5) rfl rfl rfl ?_
  refine z_int (pc' := 7) (v := nI 12) rfl rfl rfl ?_
  refine z_newa (pc' := 9) (v1 := 1) (v2 := 12) (N' := 168) rfl rfl (Nat.le_of_ble_eq_true rfl) rfl rfl (Nat.le_of_ble_eq_true rfl) rfl rfl (Nat.le_of_ble_eq_true rfl) rfl (Nat.le_of_ble_eq_true rfl) (hD _ (Nat.le_of_ble_eq_true rfl)) (hL _) ?_
  refine z_putR (pc' := 12) (R' := opn R 166 [none, none, none, none, none, none, some 167, none, none, none, none, none, none, none, none, none, none, none]) rfl rfl rfl rfl (Nat.le_of_ble_eq_true rfl) (Nat.le_of_ble_eq_true rfl) rfl (by decide) (opn_s (by decide) rfl) ?_
  refine z_aload (pc' := 13) rfl rfl rfl ?_
  refine z_int (pc' := 15) (v := nI 12) rfl rfl rfl ?_
  refine z_newa (pc' := 17) (v1 := 2) (v2 := 24) (N' := 169) rfl rfl (Nat.le_of_ble_eq_true rfl) rfl rfl (Nat.le_of_ble_eq_true rfl) rfl rfl (Nat.le_of_ble_eq_true rfl) rfl (Nat.le_of_ble_eq_true rfl) (hD _ (Nat.le_of_ble_eq_true rfl)) (hL _) ?_
  refine z_putR (pc' := 20) (R' := opn R 166 [none, none, none, none, none, none, some 167, some 168, none, none, none, none, none, none, none, none, none, none]) rfl rfl rfl rfl (Nat.le_of_ble_eq_true rfl) (Nat.le_of_ble_eq_true rfl) rfl (by decide) (opn_s (by decide) rfl) ?_
  refine z_aload (pc' := 21) rfl rfl rfl ?_
  refine z_int (pc' := 23) (v := nI 12) rfl rfl rfl ?_
  refine z_newa (pc' := 25) (v1 := 3) (v2 := 36) (N' := 170) rfl rfl (Nat.le_of_ble_eq_true rfl) rfl rfl (Nat.le_of_ble_eq_true rfl) rfl rfl (Nat.le_of_ble_eq_true rfl) rfl (Nat.le_of_ble_eq_true rfl) (hD _ (Nat.le_of_ble_eq_true rfl)) (hL _) ?_
  refine z_putR (pc' := 28) (R' := opn R 166 [none, none, none, none, none, none, some 167, some 168, some 169, none, none, none, none, none, none, none, none, none]) rfl rfl rfl rfl (Nat.le_of_ble_eq_true rfl) (Nat.le_of_ble_eq_true rfl) rfl (by decide) (opn_s (by decide) rfl) ?_
  refine z_aload (pc' := 29) rfl rfl rfl ?_
  refine z_int (pc' := 31) (v := nI 12) rfl rfl rfl ?_
  refine z_newa (pc' := 33) (v1 := 4) (v2 := 48) (N' := 171) rfl rfl (Nat.le_of_ble_eq_true rfl) rfl rfl (Nat.le_of_ble_eq_true rfl) rfl rfl (Nat.le_of_ble_eq_true rfl) rfl (Nat.le_of_ble_eq_true rfl) (hD _ (Nat.le_of_ble_eq_true rfl)) (hL _) ?_
  refine z_putR (pc' := 36) (R' := opn R 166 [none, none, none, none, none, none, some 167, some 168, some 169, some 170, none, none, none, none, none, none, none, none]) rfl rfl rfl rfl (Nat.le_of_ble_eq_true rfl) (Nat.le_of_ble_eq_true rfl) rfl (by decide) (opn_s (by decide) rfl) ?_
  refine z_aload (pc' := 37) rfl rfl rfl ?_
  refine z_int (pc' := 39) (v := nI 12) rfl rfl rfl ?_
  refine z_newa (pc' := 41) (v1 := 5) (v2 := 60) (N' := 172) rfl rfl (Nat.le_of_ble_eq_true rfl) rfl rfl (Nat.le_of_ble_eq_true rfl) rfl rfl (Nat.le_of_ble_eq_true rfl) rfl (Nat.le_of_ble_eq_true rfl) (hD _ (Nat.le_of_ble_eq_true rfl)) (hL _) ?_
  refine z_putR (pc' := 44) (R' := opn R 166 [none, none, none, none, none, none, some 167, some 168, some 169, some 170, some 171, none, none, none, none, none, none, none]) rfl rfl rfl rfl (Nat.le_of_ble_eq_true rfl) (Nat.le_of_ble_eq_true rfl) rfl (by decide) (opn_s (by decide) rfl) ?_
  refine z_aload (pc' := 45) rfl rfl rfl ?_
  refine z_int (pc' := 47) (v := nI 12) rfl rfl rfl ?_
  refine z_newa (pc' := 49) (v1 := 6) (v2 := 72) (N' := 173) rfl rfl (Nat.le_of_ble_eq_true rfl) rfl rfl (Nat.le_of_ble_eq_true rfl) rfl rfl (Nat.le_of_ble_eq_true rfl) rfl (Nat.le_of_ble_eq_true rfl) (hD _ (Nat.le_of_ble_eq_true rfl)) (hL _) ?_
  refine z_putR (pc' := 52) (R' := opn R 166 [none, none, none, none, none, none, some 167, some 168, some 169, some 170, some 171, some 172, none, none, none, none, none, none]) rfl rfl rfl rfl (Nat.le_of_ble_eq_true rfl) (Nat.le_of_ble_eq_true rfl) rfl (by decide) (opn_s (by decide) rfl) ?_
  refine z_aload (pc' := 53) rfl rfl rfl ?_
  refine z_int (pc' := 55) (v := nI 12) rfl rfl rfl ?_
  refine z_newa (pc' := 57) (v1 := 7) (v2 := 84) (N' := 174) rfl rfl (Nat.le_of_ble_eq_true rfl) rfl rfl (Nat.le_of_ble_eq_true rfl) rfl rfl (Nat.le_of_ble_eq_true rfl) rfl (Nat.le_of_ble_eq_true rfl) (hD _ (Nat.le_of_ble_eq_true rfl)) (hL _) ?_
  refine z_putR (pc' := 60) (R' := opn R 166 [none, none, none, none, none, none, some 167, some 168, some 169, some 170, some 171, some 172, some 173, none, none, none, none, none]) rfl rfl rfl rfl (Nat.le_of_ble_eq_true rfl) (Nat.le_of_ble_eq_true rfl) rfl (by decide) (opn_s (by decide) rfl) ?_
  refine z_aload (pc' := 61) rfl rfl rfl ?_
  refine z_int (pc' := 63) (v := nI 12) rfl rfl rfl ?_
  refine z_newa (pc' := 65) (v1 := 8) (v2 := 96) (N' := 175) rfl rfl (Nat.le_of_ble_eq_true rfl) rfl rfl (Nat.le_of_ble_eq_true rfl) rfl rfl (Nat.le_of_ble_eq_true rfl) rfl (Nat.le_of_ble_eq_true rfl) (hD _ (Nat.le_of_ble_eq_true rfl)) (hL _) ?_
  refine z_putR (pc' := 68) (R' := opn R 166 [none, none, none, none, none, none, some 167, some 168, some 169, some 170, some 171, some 172, some 173, some 174, none, none, none, none]) rfl rfl rfl rfl (Nat.le_of_ble_eq_true rfl) (Nat.le_of_ble_eq_true rfl) rfl (by decide) (opn_s (by decide) rfl) ?_
  refine z_aload (pc' := 69) rfl rfl rfl ?_
  refine z_int (pc' := 70) (v := nI 4) rfl rfl rfl ?_
  refine z_newa (pc' := 72) (v1 := 9) (v2 := 100) (N' := 176) rfl rfl (Nat.le_of_ble_eq_true rfl) rfl rfl (Nat.le_of_ble_eq_true rfl) rfl rfl (Nat.le_of_ble_eq_true rfl) rfl (Nat.le_of_ble_eq_true rfl) (hD _ (Nat.le_of_ble_eq_true rfl)) (hL _) ?_
  refine z_putR (pc' := 75) (R' := opn R 166 [none, none, none, none, none, none, some 167, some 168, some 169, some 170, some 171, some 172, some 173, some 174, some 175, none, none, none]) rfl rfl rfl rfl (Nat.le_of_ble_eq_true rfl) (Nat.le_of_ble_eq_true rfl) rfl (by decide) (opn_s (by decide) rfl) ?_
  refine z_aload (pc' := 76) rfl rfl rfl ?_
  refine z_int (pc' := 78) (v := nI 32) rfl rfl rfl ?_
  refine z_newa (pc' := 80) (v1 := 10) (v2 := 132) (N' := 177) rfl rfl (Nat.le_of_ble_eq_true rfl) rfl rfl (Nat.le_of_ble_eq_true rfl) rfl rfl (Nat.le_of_ble_eq_true rfl) rfl (Nat.le_of_ble_eq_true rfl) (hD _ (Nat.le_of_ble_eq_true rfl)) (hL _) ?_
  refine z_putR (pc' := 83) (R' := opn R 166 [none, none, none, none, none, none, some 167, some 168, some 169, some 170, some 171, some 172, some 173, some 174, some 175, some 176, none, none]) rfl rfl rfl rfl (Nat.le_of_ble_eq_true rfl) (Nat.le_of_ble_eq_true rfl) rfl (by decide) (opn_s (by decide) rfl) ?_
  refine z_aload (pc' := 84) rfl rfl rfl ?_
  refine z_int (pc' := 87) (v := nI 384) rfl rfl rfl ?_
  refine z_newa (pc' := 89) (v1 := 11) (v2 := 516) (N' := 178) rfl rfl (Nat.le_of_ble_eq_true rfl) rfl rfl (Nat.le_of_ble_eq_true rfl) rfl rfl (Nat.le_of_ble_eq_true rfl) rfl (Nat.le_of_ble_eq_true rfl) (hD _ (Nat.le_of_ble_eq_true rfl)) (hL _) ?_
  refine z_putR (pc' := 92) (R' := opn R 166 [none, none, none, none, none, none, some 167, some 168, some 169, some 170, some 171, some 172, some 173, some 174, some 175, some 176, some 177, none]) rfl rfl rfl rfl (Nat.le_of_ble_eq_true rfl) (Nat.le_of_ble_eq_true rfl) rfl (by decide) (opn_s (by decide) rfl) ?_
  refine z_aload (pc' := 93) rfl rfl rfl ?_
  refine z_int (pc' := 95) (v := nI 16) rfl rfl rfl ?_
  refine z_newa (pc' := 97) (v1 := 12) (v2 := 532) (N' := 179) rfl rfl (Nat.le_of_ble_eq_true rfl) rfl rfl (Nat.le_of_ble_eq_true rfl) rfl rfl (Nat.le_of_ble_eq_true rfl) rfl (Nat.le_of_ble_eq_true rfl) (hD _ (Nat.le_of_ble_eq_true rfl)) (hL _) ?_
  refine z_putR (pc' := 100) (R' := opn R 166 [none, none, none, none, none, none, some 167, some 168, some 169, some 170, some 171, some 172, some 173, some 174, some 175, some 176, some 177, some 178]) rfl rfl rfl rfl (Nat.le_of_ble_eq_true rfl) (Nat.le_of_ble_eq_true rfl) rfl (by decide) (opn_s (by decide) rfl) ?_
  refine z_vret rfl (Nat.le_of_ble_eq_true rfl) (Nat.le_of_ble_eq_true rfl) rfl ?_
  rw [opn_e (l := [none, none, none, none, none, none, some 167, some 168, some 169, some 170, some 171, some 172, some 173, some 174, some 175, some 176, some 177, some 178]) (z := 0) rfl hR]
  exact k1
set_option maxRecDepth 20000 in
set_option maxHeartbeats 1000000 in
theorem w_X7_init_179 {R : Nat → Nat → Option Nat} {D : Nat → Nat → Int32} {L : Nat → Nat → Int64} {Q : bh_Q} (hR : R 179 = bh_R0 179) (hD : ∀ a, a < 228 → D a = fun _ => 0) (hL : ∀ a, L a = fun _ => 0) (k1 : Q none (192, R, D, L)) : bh_wc 1 m_X7_init [.ref 179] (180, bh_upr R 179 (fun _ => none), D, L) Q := by
  refine z_start (lv0 := [_]) (Nat.le_of_ble_eq_true rfl) rfl ?_
  rw [opn_0 (l := [none, none, none, none, none, none, none, none, none, none, none, none, none, none, none, none, none, none]) 18 rfl]
  refine z_aload (pc' := 1) rfl rfl rfl ?_
  refine z_oi (pc' := 4) rfl rfl (by decide) ?_
  refine z_aload (pc' := 5) rfl rfl rfl ?_
  refine z_int (pc' := 7) (v := nI 12) rfl rfl rfl ?_
  refine z_newa (pc' := 9) (v1 := 1) (v2 := 12) (N' := 181) rfl rfl (Nat.le_of_ble_eq_true rfl) rfl rfl (Nat.le_of_ble_eq_true rfl) rfl rfl (Nat.le_of_ble_eq_true rfl) rfl (Nat.le_of_ble_eq_true rfl) (hD _ (Nat.le_of_ble_eq_true rfl)) (hL _) ?_
  refine z_putR (pc' := 12) (R' := opn R 179 [none, none, none, none, none, none, some 180, none, none, none, none, none, none, none, none, none, none, none]) rfl rfl rfl rfl (Nat.le_of_ble_eq_true rfl) (Nat.le_of_ble_eq_true rfl) rfl (by decide) (opn_s (by decide) rfl) ?_
  refine z_aload (pc' := 13) rfl rfl rfl ?_
  refine z_int (pc' := 15) (v := nI 12) rfl rfl rfl ?_
  refine z_newa (pc' := 17) (v1 := 2) (v2 := 24) (N' := 182) rfl rfl (Nat.le_of_ble_eq_true rfl) rfl rfl (Nat.le_of_ble_eq_true rfl) rfl rfl (Nat.le_of_ble_eq_true rfl) rfl (Nat.le_of_ble_eq_true rfl) (hD _ (Nat.le_of_ble_eq_true rfl)) (hL _) ?_
  refine z_putR (pc' := 20) (R' := opn R 179 [none, none, none, none, none, none, some 180, some 181, none, none, none, none, none, none, none, none, none, none]) rfl rfl rfl rfl (Nat.le_of_ble_eq_true rfl) (Nat.le_of_ble_eq_true rfl) rfl (by decide) (opn_s (by decide) rfl) ?_
  refine z_aload (pc' := 21) rfl rfl rfl ?_
  refine z_int (pc' := 23) (v := nI 12) rfl rfl rfl ?_
  refine z_newa (pc' := 25) (v1 := 3) (v2 := 36) (N' := 183) rfl rfl (Nat.le_of_ble_eq_true rfl) rfl rfl (Nat.le_of_ble_eq_true rfl) rfl rfl (Nat.le_of_ble_eq_true rfl) rfl (Nat.le_of_ble_eq_true rfl) (hD _ (Nat.le_of_ble_eq_true rfl)) (hL _) ?_
  refine z_putR (pc' := 28) (R' := opn R 179 [none, none, none, none, none, none, some 180, some 181, some 182, none, none, none, none, none, none, none, none, none]) rfl rfl rfl rfl (Nat.le_of_ble_eq_true rfl) (Nat.le_of_ble_eq_true rfl) rfl (by decide) (opn_s (by decide) rfl) ?_
  refine z_aload (pc' := 29) rfl rfl rfl ?_
  refine z_int (pc' := 31) (v := nI 12) rfl rfl rfl ?_
  refine z_newa (pc' := 33) (v1 := 4) (v2 := 48) (N' := 184) rfl rfl (Nat.le_of_ble_eq_true rfl) rfl rfl (Nat.le_of_ble_eq_true rfl) rfl rfl (Nat.le_of_ble_eq_true rfl) rfl (Nat.le_of_ble_eq_true rfl) (hD _ (Nat.le_of_ble_eq_true rfl)) (hL _) ?_
  refine z_putR (pc' := 36) (R' := opn R 179 [none, none, none, none, none, none, some 180, some 181, some 182, some 183, none, none, none, none, none, none, none, none]) rfl rfl rfl rfl (Nat.le_of_ble_eq_true rfl) (Nat.le_of_ble_eq_true rfl) rfl (by decide) (opn_s (by decide) rfl) ?_
  refine z_aload (pc' := 37) rfl rfl rfl ?_
  refine z_int (pc' := 39) (v := nI 12) rfl rfl rfl ?_
  refine z_newa (pc' := 41) (v1 := 5) (v2 := 60) (N' := 185) rfl rfl (Nat.le_of_ble_eq_true rfl) rfl rfl (Nat.le_of_ble_eq_true rfl) rfl rfl (Nat.le_of_ble_eq_true rfl) rfl (Nat.le_of_ble_eq_true rfl) (hD _ (Nat.le_of_ble_eq_true rfl)) (hL _) ?_
  refine z_putR (pc' := 44) (R' := opn R 179 [none, none, none, none, none, none, some 180, some 181, some 182, some 183, some 184, none, none, none, none, none, none, none]) rfl rfl rfl rfl (Nat.le_of_ble_eq_true rfl) (Nat.le_of_ble_eq_true rfl) rfl (by decide) (opn_s (by decide) rfl) ?_
  refine z_aload (pc' := 45) rfl rfl rfl ?_
  refine z_int (pc' := 47) (v := nI 12) rfl rfl rfl ?_
  refine z_newa (pc' := 49) (v1 := 6) (v2 := 72) (N' := 186) rfl rfl (Nat.le_of_ble_eq_true rfl) rfl rfl (Nat.le_of_ble_eq_true rfl) rfl rfl (Nat.le_of_ble_eq_true rfl) rfl (Nat.le_of_ble_eq_true rfl) (hD _ (Nat.le_of_ble_eq_true rfl)) (hL _) ?_
  refine z_putR (pc' := 52) (R' := opn R 179 [none, none, none, none, none, none, some 180, some 181, some 182, some 183, some 184, some 185, none, none, none, none, none, none]) rfl rfl rfl rfl (Nat.le_of_ble_eq_true rfl) (Nat.le_of_ble_eq_true rfl) rfl (by decide) (opn_s (by decide) rfl) ?_
  refine z_aload (pc' := 53) rfl rfl rfl ?_
  refine z_int (pc' := 55) (v := nI 12) rfl rfl rfl ?_
  refine z_newa (pc' := 57) (v1 := 7) (v2 := 84) (N' := 187) rfl rfl (Nat.le_of_ble_eq_true rfl) rfl rfl (Nat.le_of_ble_eq_true rfl) rfl rfl (Nat.le_of_ble_eq_true rfl) rfl (Nat.le_of_ble_eq_true rfl) (hD _ (Nat.le_of_ble_eq_true rfl)) (hL _) ?_
  refine z_putR (pc' := 60) (R' := opn R 179 [none, none, none, none, none, none, some 180, some 181, some 182, some 183, some 184, some 185, some 186, none, none, none, none, none]) rfl rfl rfl rfl (Nat.le_of_ble_eq_true rfl) (Nat.le_of_ble_eq_true rfl) rfl (by decide) (opn_s (by decide) rfl) ?_
  refine z_aload (pc' := 61) rfl rfl rfl ?_
  refine z_int (pc' := 63) (v := nI 12) rfl rfl rfl ?_
  refine z_newa (pc' := 65) (v1 := 8) (v2 := 96) (N' := 188) rfl rfl (Nat.le_of_ble_eq_true rfl) rfl rfl (Nat.le_of_ble_eq_true rfl) rfl rfl (Nat.le_of_ble_eq_true rfl) rfl (Nat.le_of_ble_eq_true rfl) (hD _ (Nat.le_of_ble_eq_true rfl)) (hL _) ?_
  refine z_putR (pc' := 68) (R' := opn R 179 [none, none, none, none, none, none, some 180, some 181, some 182, some 183, some 184, some 185, some 186, some 187, none, none, none, none]) rfl rfl rfl rfl (Nat.le_of_ble_eq_true rfl) (Nat.le_of_ble_eq_true rfl) rfl (by decide) (opn_s (by decide) rfl) ?_
  refine z_aload (pc' := 69) rfl rfl rfl ?_
  refine z_int (pc' := 70) (v := nI 4) rfl rfl rfl ?_
  refine z_newa (pc' := 72) (v1 := 9) (v2 := 100) (N' := 189) rfl rfl (Nat.le_of_ble_eq_true rfl) rfl rfl (Nat.le_of_ble_eq_true rfl) rfl rfl (Nat.le_of_ble_eq_true rfl) rfl (Nat.le_of_ble_eq_true rfl) (hD _ (Nat.le_of_ble_eq_true rfl)) (hL _) ?_
  refine z_putR (pc' := 75) (R' := opn R 179 [none, none, none, none, none, none, some 180, some 181, some 182, some 183, some 184, some 185, some 186, some 187, some 188, none, none, none]) rfl rfl rfl rfl (Nat.le_of_ble_eq_true rfl) (Nat.le_of_ble_eq_true rfl) rfl (by decide) (opn_s (by decide) rfl) ?_
  refine z_aload (pc' := 76) rfl rfl rfl ?_
  refine z_int (pc' := 78) (v := nI 32) rfl rfl rfl ?_
  refine z_newa (pc' := 80) (v1 := 10) (v2 := 132) (N' := 190) rfl rfl (Nat.le_of_ble_eq_true rfl) rfl rfl (Nat.le_of_ble_eq_true rfl) rfl rfl (Nat.le_of_ble_eq_true rfl) rfl (Nat.le_of_ble_eq_true rfl) (hD _ (Nat.le_of_ble_eq_true rfl)) (hL _) ?_
  refine z_putR (pc' := 83) (R' := opn R 179 [none, none, none, none, none, none, some 180, some 181, some 182, some 183, some 184, some 185, some 186, some 187, some 188, some 189, none, none]) rfl rfl rfl rfl (Nat.le_of_ble_eq_true rfl) (Nat.le_of_ble_eq_true rfl) rfl (by decide) (opn_s (by decide) rfl) ?_
  refine z_aload (pc' := 84) rfl rfl rfl ?_
  refine z_int (pc' := 87) (v := nI 384) rfl rfl rfl ?_
  refine z_newa (pc' := 89) (v1 := 11) (v2 := 516) (N' := 191) rfl rfl (Nat.le_of_ble_eq_true rfl) rfl rfl (Nat.le_of_ble_eq_true rfl) rfl rfl (Nat.le_of_ble_eq_true rfl) rfl (Nat.le_of_ble_eq_true rfl) (hD _ (Nat.le_of_ble_eq_true rfl)) (hL _) ?_
  refine z_putR (pc' := 92) (R' := opn R 179 [none, none, none, none, none, none, some 180, some 181, some 182, some 183, some 184, some 185, some 186, some 187, some 188, some 189, some 190, none]) rfl rfl rfl rfl (Nat.le_of_ble_eq_true rfl) (Nat.le_of_ble_eq_true rfl) rfl (by decide) (opn_s (by decide) rfl) ?_
  refine z_aload (pc' := 93) rfl rfl rfl ?_
  refine z_int (pc' := 95) (v := nI 16) rfl rfl rfl ?_
  refine z_newa (pc' := 97) (v1 := 12) (v2 := 532) (N' := 192) rfl rfl (Nat.le_of_ble_eq_true rfl) rfl rfl (Nat.le_of_ble_eq_true rfl) rfl rfl (Nat.le_of_ble_eq_true rfl) rfl (Nat.le_of_ble_eq_true rfl) (hD _ (Nat.le_of_ble_eq_true rfl)) (hL _) ?_
  refine z_putR (pc' := 100) (R' := opn R 179 [none, none, none, none, none, none, some 180, some 181, some 182, some 183, some 184, some 185, some 186, some 187, some 188, some 189, some 190, some 191]) rfl rfl rfl rfl (Nat.le_of_ble_eq_true rfl) (Nat.le_of_ble_eq_true rfl) rfl (by decide) (opn_s (by decide) rfl) ?_
  refine z_vret rfl (Nat.le_of_ble_eq_true rfl) (Nat.le_of_ble_eq_true rfl) rfl ?_
  rw [opn_e (l := [none, none, none, none, none, none, some 180, some 181, some 182, some 183, some 184, some 185, some 186, some 187, some 188, some 189, some 190, some 191]) (z := 0) rfl hR]
  exact k1
set_option maxRecDepth 20000 in
set_option maxHeartbeats 1000000 in
theorem w_X7_init_192 {R : Nat → Nat → Option Nat} {D : Nat → Nat → Int32} {L : Nat → Nat → Int64} {Q : bh_Q} (hR : R 192 = bh_R0 192) (hD : ∀ a, a < 228 → D a = fun _ => 0) (hL : ∀ a, L a = fun _ => 0) (k1 : Q none (205, R, D, L)) : bh_wc 1 m_X7_init [.ref 192] (193, bh_upr R 192 (fun _ => none), D, L) Q := by
  refine z_start (lv0 := [_]) (Nat.le_of_ble_eq_true rfl) rfl ?_
  rw [opn_0 (l := [none, none, none, none, none, none, none, none, none, none, none, none, none, none, none, none, none, none]) 18 rfl]
  refine z_aload (pc' := 1) rfl rfl rfl ?_
  refine z_oi (pc' := 4) rfl rfl (by decide) ?_
  refine z_aload (pc' := 5) rfl rfl rfl ?_
  refine z_int (pc' := 7) (v := nI 12) rfl rfl rfl ?_
  refine z_newa (pc' := 9) (v1 := 1) (v2 := 12) (N' := 194) rfl rfl (Nat.le_of_ble_eq_true rfl) rfl rfl (Nat.le_of_ble_eq_true rfl) rfl rfl (Nat.le_of_ble_eq_true rfl) rfl (Nat.le_of_ble_eq_true rfl) (hD _ (Nat.le_of_ble_eq_true rfl)) (hL _) ?_
  refine z_putR (pc' := 12) (R' := opn R 192 [none, none, none, none, none, none, some 193, none, none, none, none, none, none, none, none, none, none, none]) rfl rfl rfl rfl (Nat.le_of_ble_eq_true rfl) (Nat.le_of_ble_eq_true rfl) rfl (by decide) (opn_s (by decide) rfl) ?_
  refine z_aload (pc' := 13) rfl rfl rfl ?_
  refine z_int (pc' := 15) (v := nI 12) rfl rfl rfl ?_
  refine z_newa (pc' := 17) (v1 := 2) (v2 := 24) (N' := 195) rfl rfl (Nat.le_of_ble_eq_true rfl) rfl rfl (Nat.le_of_ble_eq_true rfl) rfl rfl (Nat.le_of_ble_eq_true rfl) rfl (Nat.le_of_ble_eq_true rfl) (hD _ (Nat.le_of_ble_eq_true rfl)) (hL _) ?_
  refine z_putR (pc' := 20) (R' := opn R 192 [none, none, none, none, none, none, some 193, some 194, none, none, none, none, none, none, none, none, none, none]) rfl rfl rfl rfl (Nat.le_of_ble_eq_true rfl) (Nat.le_of_ble_eq_true rfl) rfl (by decide) (opn_s (by decide) rfl) ?_
  refine z_aload (pc' := 21) rfl rfl rfl ?_
  refine z_int (pc' := 23) (v := nI 12) rfl rfl rfl ?_
  refine z_newa (pc' := 25) (v1 := 3) (v2 := 36) (N' := 196) rfl rfl (Nat.le_of_ble_eq_true rfl) rfl rfl (Nat.le_of_ble_eq_true rfl) rfl rfl (Nat.le_of_ble_eq_true rfl) rfl (Nat.le_of_ble_eq_true rfl) (hD _ (Nat.le_of_ble_eq_true rfl)) (hL _) ?_
  refine z_putR (pc' := 28) (R' := opn R 192 [none, none, none, none, none, none, some 193, some 194, some 195, none, none, none, none, none, none, none, none, none]) rfl rfl rfl rfl (Nat.le_of_ble_eq_true rfl) (Nat.le_of_ble_eq_true rfl) rfl (by decide) (opn_s (by decide) rfl) ?_
  refine z_aload (pc' := 29) rfl rfl rfl ?_
  refine z_int (pc' := 31) (v := nI 12) rfl rfl rfl ?_
  refine z_newa (pc' := 33) (v1 := 4) (v2 := 48) (N' := 197) rfl rfl (Nat.le_of_ble_eq_true rfl) rfl rfl (Nat.le_of_ble_eq_true rfl) rfl rfl (Nat.le_of_ble_eq_true rfl) rfl (Nat.le_of_ble_eq_true rfl) (hD _ (Nat.le_of_ble_eq_true rfl)) (hL _) ?_
  refine z_putR (pc' := 36) (R' := opn R 192 [none, none, none, none, none, none, some 193, some 194, some 195, some 196, none, none, none, none, none, none, none, none]) rfl rfl rfl rfl (Nat.le_of_ble_eq_true rfl) (Nat.le_of_ble_eq_true rfl) rfl (by decide) (opn_s (by decide) rfl) ?_
  refine z_aload (pc' := 37) rfl rfl rfl ?_
  refine z_int (pc' := 39) (v := nI 12) rfl rfl rfl ?_
  refine z_newa (pc' := 41) (v1 := 5) (v2 := 60) (N' := 198) rfl rfl (Nat.le_of_ble_eq_true rfl) rfl rfl (Nat.le_of_ble_eq_true rfl) rfl rfl (Nat.le_of_ble_eq_true rfl) rfl (Nat.le_of_ble_eq_true rfl) (hD _ (Nat.le_of_ble_eq_true rfl)) (hL _) ?_
  refine z_putR (pc' := 44) (R' := opn R 192 [none, none, none, none, none, none, some 193, some 194, some 195, some 196, some 197, none, none, none, none, none, none, none]) rfl rfl rfl rfl (Nat.le_of_ble_eq_true rfl) (Nat.le_of_ble_eq_true rfl) rfl (by decide) (opn_s (by decide) rfl) ?_
  refine z_aload (pc' := 45) rfl rfl rfl ?_
  refine z_int (pc' := 47) (v := nI 12) rfl rfl rfl ?_
  refine z_newa (pc' := 49) (v1 := 6) (v2 := 72) (N' := 199) rfl rfl (Nat.le_of_ble_eq_true rfl) rfl rfl (Nat.le_of_ble_eq_true rfl) rfl rfl (Nat.le_of_ble_eq_true rfl) rfl (Nat.le_of_ble_eq_true rfl) (hD _ (Nat.le_of_ble_eq_true rfl)) (hL _) ?_
  refine z_putR (pc' := 52) (R' := opn R 192 [none, none, none, none, none, none, some 193, some 194, some 195, some 196, some 197, some 198, none, none, none, none, none, none]) rfl rfl rfl rfl (Nat.le_of_ble_eq_true rfl) (Nat.le_of_ble_eq_true rfl) rfl (by decide) (opn_s (by decide) rfl) ?_
  refine z_aload (pc' := 53) rfl rfl rfl ?_
  refine z_int (pc' := 55) (v := nI 12) rfl rfl rfl ?_
  refine z_newa (pc' := 57) (v1 := 7) (v2 := 84) (N' := 200) rfl rfl (Nat.le_of_ble_eq_true rfl) rfl rfl (Nat.le_of_ble_eq_true rfl) rfl rfl (Nat.le_of_ble_eq_true rfl) rfl (Nat.le_of_ble_eq_true rfl) (hD _ (Nat.le_of_ble_eq_true rfl)) (hL _) ?_
  refine z_putR (pc' := 60) (R' := opn R 192 [none, none, none, none, none, none, some 193, some 194, some 195, some 196, some 197, some 198, some 199, none, none, none, none, none]) rfl rfl rfl rfl (Nat.le_of_ble_eq_true rfl) (Nat.le_of_ble_eq_true rfl) rfl (by decide) (opn_s (by decide) rfl) ?_
  refine z_aload (pc' := 61) rfl rfl rfl ?_
  refine z_int (pc' := 63) (v := nI 12) rfl rfl rfl ?_
  refine z_newa (pc' := 65) (v1 := 8) (v2 := 96) (N' := 201) rfl rfl (Nat.le_of_ble_eq_true rfl) rfl rfl (Nat.le_of_ble_eq_true rfl) rfl rfl (Nat.le_of_ble_eq_true rfl) rfl (Nat.le_of_ble_eq_true rfl) (hD _ (Nat.le_of_ble_eq_true rfl)) (hL _) ?_
  refine z_putR (pc' := 68) (R' := opn R 192 [none, none, none, none, none, none, some 193, some 194, some 195, some 196, some 197, some 198, some 199, some 200, none, none, none, none]) rfl rfl rfl rfl (Nat.le_of_ble_eq_true rfl) (Nat.le_of_ble_eq_true rfl) rfl (by decide) (opn_s (by decide) rfl) ?_
  refine z_aload (pc' := 69) rfl rfl rfl ?_
  refine z_int (pc' := 70) (v := nI 4) rfl rfl rfl ?_
  refine z_newa (pc' := 72) (v1 := 9) (v2 := 100) (N' := 202) rfl rfl (Nat.le_of_ble_eq_true rfl) rfl rfl (Nat.le_of_ble_eq_true rfl) rfl rfl (Nat.le_of_ble_eq_true rfl) rfl (Nat.le_of_ble_eq_true rfl) (hD _ (Nat.le_of_ble_eq_true rfl)) (hL _) ?_
  refine z_putR (pc' := 75) (R' := opn R 192 [none, none, none, none, none, none, some 193, some 194, some 195, some 196, some 197, some 198, some 199, some 200, some 201, none, none, none]) rfl rfl rfl rfl (Nat.le_of_ble_eq_true rfl) (Nat.le_of_ble_eq_true rfl) rfl (by decide) (opn_s (by decide) rfl) ?_
  refine z_aload (pc' := 76) rfl rfl rfl ?_
  refine z_int (pc' := 78) (v := nI 32) rfl rfl rfl ?_
  refine z_newa (pc' := 80) (v1 := 10) (v2 := 132) (N' := 203) rfl rfl (Nat.le_of_ble_eq_true rfl) rfl rfl (Nat.le_of_ble_eq_true rfl) rfl rfl (Nat.le_of_ble_eq_true rfl) rfl (Nat.le_of_ble_eq_true rfl) (hD _ (Nat.le_of_ble_eq_true rfl)) (hL _) ?_
  refine z_putR (pc' := 83) (R' := opn R 192 [none, none, none, none, none, none, some 193, some 194, some 195, some 196, some 197, some 198, some 199, some 200, some 201, some 202, none, none]) rfl rfl rfl rfl (Nat.le_of_ble_eq_true rfl) (Nat.le_of_ble_eq_true rfl) rfl (by decide) (opn_s (by decide) rfl) ?_
  refine z_aload (pc' := 84) rfl rfl rfl ?_
  refine z_int (pc' := 87) (v := nI 384) rfl rfl rfl ?_
  refine z_newa (pc' := 89) (v1 := 11) (v2 := 516) (N' := 204) rfl rfl (Nat.le_of_ble_eq_true rfl) rfl rfl (Nat.le_of_ble_eq_true rfl) rfl rfl (Nat.le_of_ble_eq_true rfl) rfl (Nat.le_of_ble_eq_true rfl) (hD _ (Nat.le_of_ble_eq_true rfl)) (hL _) ?_
  refine z_putR (pc' := 92) (R' := opn R 192 [none, none, none, none, none, none, some 193, some 194, some 195, some 196, some 197, some 198, some 199, some 200, some 201, some 202, some 203, none]) rfl rfl rfl rfl (Nat.le_of_ble_eq_true rfl) (Nat.le_of_ble_eq_true rfl) rfl (by decide) (opn_s (by decide) rfl) ?_
  refine z_aload (pc' := 93) rfl rfl rfl ?_
  refine z_int (pc' := 95) (v := nI 16) rfl rfl rfl ?_
  refine z_newa (pc' := 97) (v1 := 12) (v2 := 532) (N' := 205) rfl rfl (Nat.le_of_ble_eq_true rfl) rfl rfl (Nat.le_of_ble_eq_true rfl) rfl rfl (Nat.le_of_ble_eq_true rfl) rfl (Nat.le_of_ble_eq_true rfl) (hD _ (Nat.le_of_ble_eq_true rfl)) (hL _) ?_
  refine z_putR (pc' := 100) (R' := opn R 192 [none, none, none, none, none, none, some 193, some 194, some 195, some 196, some 197, some 198, some 199, some 200, some 201, some 202, some 203, some 204]) rfl rfl rfl rfl (Nat.le_of_ble_eq_true rfl) (Nat.le_of_ble_eq_true rfl) rfl (by decide) (opn_s (by decide) rfl) ?_
  refine z_vret rfl (Nat.le_of_ble_eq_true rfl) (Nat.le_of_ble_eq_true rfl) rfl ?_
  rw [opn_e (l := [none, none, none, none, none, none, some 193, some 194, some 195, some 196, some 197, some 198, some 199, some 200, some 201, some 202, some 203, some 204]) (z := 0) rfl hR]
  exact k1
set_option maxRecDepth 20000 in
set_option maxHeartbeats 1000000 in
theorem w_X10_init_205 {R : Nat → Nat → Option Nat} {D : Nat → Nat → Int32} {L : Nat → Nat → Int64} {Q : bh_Q} (hR : R 205 = bh_R0 205) (hD : ∀ a, a < 228 → D a = fun _ => 0) (hL : ∀ a, L a = fun _ => 0) (k1 : Q none (228, R, D, L)) : bh_wc 1 m_X10_init [.ref 205] (206, bh_upr R 205 (fun _ => none), D, L) Q := by
  refine z_start (lv0 := [_]) (Nat.le_of_ble_eq_true rfl) rfl ?_
  rw [opn_0 (l := [none, none, none, none, none, none, none, none, none, none, none, none, none, none, none, none, none, none, none, none, none, none, none, none, none, none, none, none, none, none, none, none, none]) 33 rfl]
  refine z_aload (pc' := 1) rfl rfl rfl ?_
  refine z_oi (pc' := 4) rfl rfl (by decide) ?_
  refine z_aload (pc' := 5) rfl rfl rfl ?_
  refine z_int (pc' := 8) (v := nI 560) rfl rfl rfl ?_
  refine z_newa (pc' := 10) (v1 := 1) (v2 := 560) (N' := 207) rfl rfl (Nat.le_of_ble_eq_true rfl) rfl rfl (Nat.le_of_ble_eq_true rfl) rfl rfl (Nat.le_of_ble_eq_true rfl) rfl (Nat.le_of_ble_eq_true rfl) (hD _ (Nat.le_of_ble_eq_true rfl)) (hL _) ?_
  refine z_putR (pc' := 13) (R' := opn R 205 [some 206, none, none, none, none, none, none, none, none, none, none, none, none, none, none, none, none, none, none, none, none, none, none, none, none, none, none, none, none, none, none, none, none]) rfl rfl rfl rfl (Nat.le_of_ble_eq_true rfl) (Nat.le_of_ble_eq_true rfl) rfl (by decide) (opn_s (by decide) rfl) ?_
  refine z_aload (pc' := 14) rfl rfl rfl ?_
  refine z_int (pc' := 17) (v := nI 560) rfl rfl rfl ?_
  refine z_newa (pc' := 19) (v1 := 2) (v2 := 1120) (N' := 208) rfl rfl (Nat.le_of_ble_eq_true rfl) rfl rfl (Nat.le_of_ble_eq_true rfl) rfl rfl (Nat.le_of_ble_eq_true rfl) rfl (Nat.le_of_ble_eq_true rfl) (hD _ (Nat.le_of_ble_eq_true rfl)) (hL _) ?_
  refine z_putR (pc' := 22) (R' := opn R 205 [some 206, some 207, none, none, none, none, none, none, none, none, none, none, none, none, none, none, none, none, none, none, none, none, none, none, none, none, none, none, none, none, none, none, none]) rfl rfl rfl rfl (Nat.le_of_ble_eq_true rfl) (Nat.le_of_ble_eq_true rfl) rfl (by decide) (opn_s (by decide) rfl) ?_
  refine z_aload (pc' := 23) rfl rfl rfl ?_
  refine z_int (pc' := 26) (v := nI 5600) rfl rfl rfl ?_
  refine z_newa (pc' := 28) (v1 := 3) (v2 := 6720) (N' := 209) rfl rfl (Nat.le_of_ble_eq_true rfl) rfl rfl (Nat.le_of_ble_eq_true rfl) rfl rfl (Nat.le_of_ble_eq_true rfl) rfl (Nat.le_of_ble_eq_true rfl) (hD _ (Nat.le_of_ble_eq_true rfl)) (hL _) ?_
  refine z_putR (pc' := 31) (R' := opn R 205 [some 206, some 207, some 208, none, none, none, none, none, none, none, none, none, none, none, none, none, none, none, none, none, none, none, none, none, none, none, none, none, none, none, none, none, none]) rfl rfl rfl rfl (Nat.le_of_ble_eq_true rfl) (Nat.le_of_ble_eq_true rfl) rfl (by decide) (opn_s (by decide) rfl) ?_
  refine z_aload (pc' := 32) rfl rfl rfl ?_
  refine z_int (pc' := 35) (v := nI 1120) rfl rfl rfl ?_
  refine z_newa (pc' := 37) (v1 := 4) (v2 := 7840) (N' := 210) rfl rfl (Nat.le_of_ble_eq_true rfl) rfl rfl (Nat.le_of_ble_eq_true rfl) rfl rfl (Nat.le_of_ble_eq_true rfl) rfl (Nat.le_of_ble_eq_true rfl) (hD _ (Nat.le_of_ble_eq_true rfl)) (hL _) ?_
  refine z_putR (pc' := 40) (R' := opn R 205 [some 206, some 207, some 208, some 209, none, none, none, none, none, none, none, none, none, none, none, none, none, none, none, none, none, none, none, none, none, none, none, none, none, none, none, none, none]) rfl rfl rfl rfl (Nat.le_of_ble_eq_true rfl) (Nat.le_of_ble_eq_true rfl) rfl (by decide) (opn_s (by decide) rfl) ?_
  refine z_aload (pc' := 41) rfl rfl rfl ?_
  refine z_int (pc' := 42) (v := nI 2) rfl rfl rfl ?_
  refine z_newa (pc' := 44) (v1 := 5) (v2 := 7842) (N' := 211) rfl rfl (Nat.le_of_ble_eq_true rfl) rfl rfl (Nat.le_of_ble_eq_true rfl) rfl rfl (Nat.le_of_ble_eq_true rfl) rfl (Nat.le_of_ble_eq_true rfl) (hD _ (Nat.le_of_ble_eq_true rfl)) (hL _) ?_
  refine z_putR (pc' := 47) (R' := opn R 205 [some 206, some 207, some 208, some 209, some 210, none, none, none, none, none, none, none, none, none, none, none, none, none, none, none, none, none, none, none, none, none, none, none, none, none, none, none, none]) rfl rfl rfl rfl (Nat.le_of_ble_eq_true rfl) (Nat.le_of_ble_eq_true rfl) rfl (by decide) (opn_s (by decide) rfl) ?_
  refine z_aload (pc' := 48) rfl rfl rfl ?_
  refine z_int (pc' := 51) (v := nI 400) rfl rfl rfl ?_
  refine z_newa (pc' := 53) (v1 := 6) (v2 := 8242) (N' := 212) rfl rfl (Nat.le_of_ble_eq_true rfl) rfl rfl (Nat.le_of_ble_eq_true rfl) rfl rfl (Nat.le_of_ble_eq_true rfl) rfl (Nat.le_of_ble_eq_true rfl) (hD _ (Nat.le_of_ble_eq_true rfl)) (hL _) ?_
  refine z_putR (pc' := 56) (R' := opn R 205 [some 206, some 207, some 208, some 209, some 210, none, some 211, none, none, none, none, none, none, none, none, none, none, none, none, none, none, none, none, none, none, none, none, none, none, none, none, none, none]) rfl rfl rfl rfl (Nat.le_of_ble_eq_true rfl) (Nat.le_of_ble_eq_true rfl) rfl (by decide) (opn_s (by decide) rfl) ?_
  refine z_aload (pc' := 57) rfl rfl rfl ?_
  refine z_int (pc' := 59) (v := nI 12) rfl rfl rfl ?_
  refine z_newa (pc' := 61) (v1 := 7) (v2 := 8254) (N' := 213) rfl rfl (Nat.le_of_ble_eq_true rfl) rfl rfl (Nat.le_of_ble_eq_true rfl) rfl rfl (Nat.le_of_ble_eq_true rfl) rfl (Nat.le_of_ble_eq_true rfl) (hD _ (Nat.le_of_ble_eq_true rfl)) (hL _) ?_
  refine z_putR (pc' := 64) (R' := opn R 205 [some 206, some 207, some 208, some 209, some 210, none, some 211, none, none, none, none, some 212, none, none, none, none, none, none, none, none, none, none, none, none, none, none, none, none, none, none, none, none, none]) rfl rfl rfl rfl (Nat.le_of_ble_eq_true rfl) (Nat.le_of_ble_eq_true rfl) rfl (by decide) (opn_s (by decide) rfl) ?_
  refine z_aload (pc' := 65) rfl rfl rfl ?_
  refine z_int (pc' := 67) (v := nI 12) rfl rfl rfl ?_
  refine z_newa (pc' := 69) (v1 := 8) (v2 := 8266) (N' := 214) rfl rfl (Nat.le_of_ble_eq_true rfl) rfl rfl (Nat.le_of_ble_eq_true rfl) rfl rfl (Nat.le_of_ble_eq_true rfl) rfl (Nat.le_of_ble_eq_true rfl) (hD _ (Nat.le_of_ble_eq_true rfl)) (hL _) ?_
  refine z_putR (pc' := 72) (R' := opn R 205 [some 206, some 207, some 208, some 209, some 210, none, some 211, none, none, none, none, some 212, none, some 213, none, none, none, none, none, none, none, none, none, none, none, none, none, none, none, none, none, none, none]) rfl rfl rfl rfl (Nat.le_of_ble_eq_true rfl) (Nat.le_of_ble_eq_true rfl) rfl (by decide) (opn_s (by decide) rfl) ?_
  refine z_aload (pc' := 73) rfl rfl rfl ?_
  refine z_int (pc' := 75) (v := nI 16) rfl rfl rfl ?_
  refine z_newa (pc' := 77) (v1 := 9) (v2 := 8282) (N' := 215) rfl rfl (Nat.le_of_ble_eq_true rfl) rfl rfl (Nat.le_of_ble_eq_true rfl) rfl rfl (Nat.le_of_ble_eq_true rfl) rfl (Nat.le_of_ble_eq_true rfl) (hD _ (Nat.le_of_ble_eq_true rfl)) (hL _) ?_
  refine z_putR (pc' := 80) (R' := opn R 205 [some 206, some 207, some 208, some 209, some 210, none, some 211, none, none, none, none, some 212, none, some 213, some 214, none, none, none, none, none, none, none, none, none, none, none, none, none, none, none, none, none, none]) rfl rfl rfl rfl (Nat.le_of_ble_eq_true rfl) (Nat.le_of_ble_eq_true rfl) rfl (by decide) (opn_s (by decide) rfl) ?_
  refine z_aload (pc' := 81) rfl rfl rfl ?_
  refine z_int (pc' := 83) (v := nI 16) rfl rfl rfl ?_
  refine z_newa (pc' := 85) (v1 := 10) (v2 := 8298) (N' := 216) rfl rfl (Nat.le_of_ble_eq_true rfl) rfl rfl (Nat.le_of_ble_eq_true rfl) rfl rfl (Nat.le_of_ble_eq_true rfl) rfl (Nat.le_of_ble_eq_true rfl) (hD _ (Nat.le_of_ble_eq_true rfl)) (hL _) ?_
  refine z_putR (pc' := 88) (R' := opn R 205 [some 206, some 207, some 208, some 209, some 210, none, some 211, none, none, none, none, some 212, none, some 213, some 214, some 215, none, none, none, none, none, none, none, none, none, none, none, none, none, none, none, none, none]) rfl rfl rfl rfl (Nat.le_of_ble_eq_true rfl) (Nat.le_of_ble_eq_true rfl) rfl (by decide) (opn_s (by decide) rfl) ?_
  refine z_aload (pc' := 89) rfl rfl rfl ?_
  refine z_int (pc' := 91) (v := nI 16) rfl rfl rfl ?_
  refine z_newa (pc' := 93) (v1 := 11) (v2 := 8314) (N' := 217) rfl rfl (Nat.le_of_ble_eq_true rfl) rfl rfl (Nat.le_of_ble_eq_true rfl) rfl rfl (Nat.le_of_ble_eq_true rfl) rfl (Nat.le_of_ble_eq_true rfl) (hD _ (Nat.le_of_ble_eq_true rfl)) (hL _) ?_
  refine z_putR (pc' := 96) (R' := opn R 205 [some 206, some 207, some 208, some 209, some 210, none, some 211, none, none, none, none, some 212, none, some 213, some 214, some 215, some 216, none, none, none, none, none, none, none, none, none, none, none, none, none, none, none, none]) rfl rfl rfl rfl (Nat.le_of_ble_eq_true rfl) (Nat.le_of_ble_eq_true rfl) rfl (by decide) (opn_s (by decide) rfl) ?_
  refine z_aload (pc' := 97) rfl rfl rfl ?_
  refine z_int (pc' := 99) (v := nI 16) rfl rfl rfl ?_
  refine z_newa (pc' := 101) (v1 := 12) (v2 := 8330) (N' := 218) rfl rfl (Nat.le_of_ble_eq_true rfl) rfl rfl (Nat.le_of_ble_eq_true rfl) rfl rfl (Nat.le_of_ble_eq_true rfl) rfl (Nat.le_of_ble_eq_true rfl) (hD _ (Nat.le_of_ble_eq_true rfl)) (hL _) ?_
  refine z_putR (pc' := 104) (R' := opn R 205 [some 206, some 207, some 208, some 209, some 210, none, some 211, none, none, none, none, some 212, none, some 213, some 214, some 215, some 216, some 217, none, none, none, none, none, none, none, none, none, none, none, none, none, none, none]) rfl rfl rfl rfl (Nat.le_of_ble_eq_true rfl) (Nat.le_of_ble_eq_true rfl) rfl (by decide) (opn_s (by decide) rfl) ?_
  refine z_aload (pc' := 105) rfl rfl rfl ?_
  refine z_int (pc' := 107) (v := nI 16) rfl rfl rfl ?_
  refine z_newa (pc' := 109) (v1 := 13) (v2 := 8346) (N' := 219) rfl rfl (Nat.le_of_ble_eq_true rfl) rfl rfl (Nat.le_of_ble_eq_true rfl) rfl rfl (Nat.le_of_ble_eq_true rfl) rfl (Nat.le_of_ble_eq_true rfl) (hD _ (Nat.le_of_ble_eq_true rfl)) (hL _) ?_
  refine z_putR (pc' := 112) (R' := opn R 205 [some 206, some 207, some 208, some 209, some 210, none, some 211, none, none, none, none, some 212, none, some 213, some 214, some 215, some 216, some 217, some 218, none, none, none, none, none, none, none, none, none, none, none, none, none, none]) rfl rfl rfl rfl (Nat.le_of_ble_eq_true rfl) (Nat.le_of_ble_eq_true rfl) rfl (by decide) (opn_s (by decide) rfl) ?_
  refine z_aload (pc' := 113) rfl rfl rfl ?_
  refine z_int (pc' := 115) (v := nI 16) rfl rfl rfl ?_
  refine z_newa (pc' := 117) (v1 := 14) (v2 := 8362) (N' := 220) rfl rfl (Nat.le_of_ble_eq_true rfl) rfl rfl (Nat.le_of_ble_eq_true rfl) rfl rfl (Nat.le_of_ble_eq_true rfl) rfl (Nat.le_of_ble_eq_true rfl) (hD _ (Nat.le_of_ble_eq_true rfl)) (hL _) ?_
  refine z_putR (pc' := 120) (R' := opn R 205 [some 206, some 207, some 208, some 209, some 210, none, some 211, none, none, none, none, some 212, none, some 213, some 214, some 215, some 216, some 217, some 218, some 219, none, none, none, none, none, none, none, none, none, none, none, none, none]) rfl rfl rfl rfl (Nat.le_of_ble_eq_true rfl) (Nat.le_of_ble_eq_true rfl) rfl (by decide) (opn_s (by decide) rfl) ?_
  refine z_aload (pc' := 121) rfl rfl rfl ?_
  refine z_int (pc' := 123) (v := nI 16) rfl rfl rfl ?_
  refine z_newa (pc' := 125) (v1 := 15) (v2 := 8378) (N' := 221) rfl rfl (Nat.le_of_ble_eq_true rfl) rfl rfl (Nat.le_of_ble_eq_true rfl) rfl rfl (Nat.le_of_ble_eq_true rfl) rfl (Nat.le_of_ble_eq_true rfl) (hD _ (Nat.le_of_ble_eq_true rfl)) (hL _) ?_
  refine z_putR (pc' := 128) (R' := opn R 205 [some 206, some 207, some 208, some 209, some 210, none, some 211, none, none, none, none, some 212, none, some 213, some 214, some 215, some 216, some 217, some 218, some 219, some 220, none, none, none, none, none, none, none, none, none, none, none, none]) rfl rfl rfl rfl (Nat.le_of_ble_eq_true rfl) (Nat.le_of_ble_eq_true rfl) rfl (by decide) (opn_s (by decide) rfl) ?_
  refine z_aload (pc' := 129) rfl rfl rfl ?_
  refine z_int (pc' := 131) (v := nI 16) rfl rfl rfl ?_
  refine z_newa (pc' := 133) (v1 := 16) (v2 := 8394) (N' := 222) rfl rfl (Nat.le_of_ble_eq_true rfl) rfl rfl (Nat.le_of_ble_eq_true rfl) rfl rfl (Nat.le_of_ble_eq_true rfl) rfl (Nat.le_of_ble_eq_true rfl) (hD _ (Nat.le_of_ble_eq_true rfl)) (hL _) ?_
  refine z_putR (pc' := 136) (R' := opn R 205 [some 206, some 207, some 208, some 209, some 210, none, some 211, none, none, none, none, some 212, none, some 213, some 214, some 215, some 216, some 217, some 218, some 219, some 220, some 221, none, none, none, none, none, none, none, none, none, none, none]) rfl rfl rfl rfl (Nat.le_of_ble_eq_true rfl) (Nat.le_of_ble_eq_true rfl) rfl (by decide) (opn_s (by decide) rfl) ?_
  refine z_aload (pc' := 137) rfl rfl rfl ?_
  refine z_int (pc' := 139) (v := nI 16) rfl rfl rfl ?_
  refine z_newa (pc' := 141) (v1 := 17) (v2 := 8410) (N' := 223) rfl rfl (Nat.le_of_ble_eq_true rfl) rfl rfl (Nat.le_of_ble_eq_true rfl) rfl rfl (Nat.le_of_ble_eq_true rfl) rfl (Nat.le_of_ble_eq_true rfl) (hD _ (Nat.le_of_ble_eq_true rfl)) (hL _) ?_
  refine z_putR (pc' := 144) (R' := opn R 205 [some 206, some 207, some 208, some 209, some 210, none, some 211, none, none, none, none, some 212, none, some 213, some 214, some 215, some 216, some 217, some 218, some 219, some 220, some 221, some 222, none, none, none, none, none, none, none, none, none, none]) rfl rfl rfl rfl (Nat.le_of_ble_eq_true rfl) (Nat.le_of_ble_eq_true rfl) rfl (by decide) (opn_s (by decide) rfl) ?_
  refine z_aload (pc' := 145) rfl rfl rfl ?_
  refine z_int (pc' := 147) (v := nI 17) rfl rfl rfl ?_
  refine z_newa (pc' := 149) (v1 := 18) (v2 := 8427) (N' := 224) rfl rfl (Nat.le_of_ble_eq_true rfl) rfl rfl (Nat.le_of_ble_eq_true rfl) rfl rfl (Nat.le_of_ble_eq_true rfl) rfl (Nat.le_of_ble_eq_true rfl) (hD _ (Nat.le_of_ble_eq_true rfl)) (hL _) ?_
  refine z_putR (pc' := 152) (R' := opn R 205 [some 206, some 207, some 208, some 209, some 210, none, some 211, none, none, none, none, some 212, none, some 213, some 214, some 215, some 216, some 217, some 218, some 219, some 220, some 221, some 222, some 223, none, none, none, none, none, none, none, none, none]) rfl rfl rfl rfl (Nat.le_of_ble_eq_true rfl) (Nat.le_of_ble_eq_true rfl) rfl (by decide) (opn_s (by decide) rfl) ?_
  refine z_aload (pc' := 153) rfl rfl rfl ?_
  refine z_int (pc' := 156) (v := nI 144) rfl rfl rfl ?_
  refine z_newa (pc' := 158) (v1 := 19) (v2 := 8571) (N' := 225) rfl rfl (Nat.le_of_ble_eq_true rfl) rfl rfl (Nat.le_of_ble_eq_true rfl) rfl rfl (Nat.le_of_ble_eq_true rfl) rfl (Nat.le_of_ble_eq_true rfl) (hD _ (Nat.le_of_ble_eq_true rfl)) (hL _) ?_
  refine z_putR (pc' := 161) (R' := opn R 205 [some 206, some 207, some 208, some 209, some 210, none, some 211, none, none, none, none, some 212, none, some 213, some 214, some 215, some 216, some 217, some 218, some 219, some 220, some 221, some 222, some 223, some 224, none, none, none, none, none, none, none, none]) rfl rfl rfl rfl (Nat.le_of_ble_eq_true rfl) (Nat.le_of_ble_eq_true rfl) rfl (by decide) (opn_s (by decide) rfl) ?_
  refine z_aload (pc' := 162) rfl rfl rfl ?_
  refine z_int (pc' := 164) (v := nI 16) rfl rfl rfl ?_
  refine z_newa (pc' := 166) (v1 := 20) (v2 := 8587) (N' := 226) rfl rfl (Nat.le_of_ble_eq_true rfl) rfl rfl (Nat.le_of_ble_eq_true rfl) rfl rfl (Nat.le_of_ble_eq_true rfl) rfl (Nat.le_of_ble_eq_true rfl) (hD _ (Nat.le_of_ble_eq_true rfl)) (hL _) ?_
  refine z_putR (pc' := 169) (R' := opn R 205 [some 206, some 207, some 208, some 209, some 210, none, some 211, none, none, none, none, some 212, none, some 213, some 214, some 215, some 216, some 217, some 218, some 219, some 220, some 221, some 222, some 223, some 224, none, none, none, none, none, some 225, none, none]) rfl rfl rfl rfl (Nat.le_of_ble_eq_true rfl) (Nat.le_of_ble_eq_true rfl) rfl (by decide) (opn_s (by decide) rfl) ?_
  refine z_aload (pc' := 170) rfl rfl rfl ?_
  refine z_int (pc' := 172) (v := nI 16) rfl rfl rfl ?_
  refine z_newa (pc' := 174) (v1 := 21) (v2 := 8603) (N' := 227) rfl rfl (Nat.le_of_ble_eq_true rfl) rfl rfl (Nat.le_of_ble_eq_true rfl) rfl rfl (Nat.le_of_ble_eq_true rfl) rfl (Nat.le_of_ble_eq_true rfl) (hD _ (Nat.le_of_ble_eq_true rfl)) (hL _) ?_
  refine z_putR (pc' := 177) (R' := opn R 205 [some 206, some 207, some 208, some 209, some 210, none, some 211, none, none, none, none, some 212, none, some 213, some 214, some 215, some 216, some 217, some 218, some 219, some 220, some 221, some 222, some 223, some 224, none, none, none, none, none, some 225, some 226, none]) rfl rfl rfl rfl (Nat.le_of_ble_eq_true rfl) (Nat.le_of_ble_eq_true rfl) rfl (by decide) (opn_s (by decide) rfl) ?_
  refine z_aload (pc' := 178) rfl rfl rfl ?_
  refine z_int (pc' := 180) (v := nI 16) rfl rfl rfl ?_
  refine z_newa (pc' := 182) (v1 := 22) (v2 := 8619) (N' := 228) rfl rfl (Nat.le_of_ble_eq_true rfl) rfl rfl (Nat.le_of_ble_eq_true rfl) rfl rfl (Nat.le_of_ble_eq_true rfl) rfl (Nat.le_of_ble_eq_true rfl) (hD _ (Nat.le_of_ble_eq_true rfl)) (hL _) ?_
  refine z_putR (pc' := 185) (R' := opn R 205 [some 206, some 207, some 208, some 209, some 210, none, some 211, none, none, none, none, some 212, none, some 213, some 214, some 215, some 216, some 217, some 218, some 219, some 220, some 221, some 222, some 223, some 224, none, none, none, none, none, some 225, some 226, some 227]) rfl rfl rfl rfl (Nat.le_of_ble_eq_true rfl) (Nat.le_of_ble_eq_true rfl) rfl (by decide) (opn_s (by decide) rfl) ?_
  refine z_vret rfl (Nat.le_of_ble_eq_true rfl) (Nat.le_of_ble_eq_true rfl) rfl ?_
  rw [opn_e (l := [some 206, some 207, some 208, some 209, some 210, none, some 211, none, none, none, none, some 212, none, some 213, some 214, some 215, some 216, some 217, some 218, some 219, some 220, some 221, some 222, some 223, some 224, none, none, none, none, none, some 225, some 226, some 227]) (z := 0) rfl hR]
  exact k1
set_option maxRecDepth 20000 in
set_option maxHeartbeats 4000000 in
theorem w_X9_init {D : Nat → Nat → Int32} {L : Nat → Nat → Int64} {Q : bh_Q} (hD : ∀ a, a < 228 → D a = fun _ => 0) (hL : ∀ a, L a = fun _ => 0) (k1 : Q none (205, bh_R0, D, L)) : bh_wc 2 m_X9_init [.ref 0] (1, bh_upr bh_R0 0 (fun _ => none), D, L) Q := by
  refine z_start (lv0 := [_, _]) (Nat.le_of_ble_eq_true rfl) rfl ?_
  rw [op3_0 (a := [none, none, none, none, none, none, none, none, none, none, none, none, none, none, none, none]) 16 rfl]
  refine z_aload (pc' := 1) rfl rfl rfl ?_
  refine z_oi (pc' := 4) rfl rfl (by decide) ?_
  refine z_aload (pc' := 5) rfl rfl rfl ?_
  refine z_new (pc' := 8) (v1 := 1) (v2 := 18) (N' := 2) rfl rfl (Nat.le_of_ble_eq_true rfl) rfl (by decide) rfl rfl (Nat.le_of_ble_eq_true rfl) rfl (Nat.le_of_ble_eq_true rfl) rfl (hD _ (Nat.le_of_ble_eq_true rfl)) ?_
  refine z_dup (pc' := 9) rfl rfl ?_
  refine z_call (pc' := 12) (d1 := 1) (Bs := []) (v1 := 13) (v2 := 550) (N := 2) (N' := 14) rfl rfl rfl rfl (by decide) rfl rfl (by decide) rfl rfl (Nat.le_of_ble_eq_true rfl) (Nat.le_of_ble_eq_true rfl) rfl (Nat.le_of_ble_eq_true rfl) (fun _ => rfl) rfl (by decide) ?_
  refine w_X7_init_1 (op3_o (by decide)) hD hL ⟨rfl, ?_⟩
  refine z_putR (pc' := 15) (R' := op3 [some 1, none, none, none, none, none, none, none, none, none, none, none, none, none, none, none] (bh_rfT.getD 29 []) (bh_rfT.getD 30 [])) rfl rfl rfl rfl (Nat.le_of_ble_eq_true rfl) (Nat.le_of_ble_eq_true rfl) rfl (by decide) (op3_s0 (by decide) rfl) ?_
  refine z_aload (pc' := 16) rfl rfl rfl ?_
  refine z_new (pc' := 19) (v1 := 14) (v2 := 568) (N' := 15) rfl rfl (Nat.le_of_ble_eq_true rfl) rfl (by decide) rfl rfl (Nat.le_of_ble_eq_true rfl) rfl (Nat.le_of_ble_eq_true rfl) rfl (hD _ (Nat.le_of_ble_eq_true rfl)) ?_
  refine z_dup (pc' := 20) rfl rfl ?_
  refine z_call (pc' := 23) (d1 := 1) (Bs := []) (v1 := 26) (v2 := 1100) (N := 15) (N' := 27) rfl rfl rfl rfl (by decide) rfl rfl (by decide) rfl rfl (Nat.le_of_ble_eq_true rfl) (Nat.le_of_ble_eq_true rfl) rfl (Nat.le_of_ble_eq_true rfl) (fun _ => rfl) rfl (by decide) ?_
  refine w_X7_init_14 (op3_o (by decide)) hD hL ⟨rfl, ?_⟩
  refine z_putR (pc' := 26) (R' := op3 [some 1, some 14, none, none, none, none, none, none, none, none, none, none, none, none, none, none] (bh_rfT.getD 29 []) (bh_rfT.getD 30 [])) rfl rfl rfl rfl (Nat.le_of_ble_eq_true rfl) (Nat.le_of_ble_eq_true rfl) rfl (by decide) (op3_s0 (by decide) rfl) ?_
  refine z_aload (pc' := 27) rfl rfl rfl ?_
  refine z_new (pc' := 30) (v1 := 27) (v2 := 1105) (N' := 28) rfl rfl (Nat.le_of_ble_eq_true rfl) rfl (by decide) rfl rfl (Nat.le_of_ble_eq_true rfl) rfl (Nat.le_of_ble_eq_true rfl) rfl (hD _ (Nat.le_of_ble_eq_true rfl)) ?_
  refine z_dup (pc' := 31) rfl rfl ?_
  refine z_call (pc' := 34) (d1 := 1) (Bs := []) (v1 := 28) (v2 := 1505) (N := 28) (N' := 29) rfl rfl rfl rfl (by decide) rfl rfl (by decide) rfl rfl (Nat.le_of_ble_eq_true rfl) (Nat.le_of_ble_eq_true rfl) rfl (Nat.le_of_ble_eq_true rfl) (fun _ => rfl) rfl (by decide) ?_
  refine w_X6_init_27 (op3_o (by decide)) hD hL ⟨rfl, ?_⟩
  refine z_putR (pc' := 37) (R' := op3 [some 1, some 14, some 27, none, none, none, none, none, none, none, none, none, none, none, none, none] (bh_rfT.getD 29 []) (bh_rfT.getD 30 [])) rfl rfl rfl rfl (Nat.le_of_ble_eq_true rfl) (Nat.le_of_ble_eq_true rfl) rfl (by decide) (op3_s0 (by decide) rfl) ?_
  refine z_aload (pc' := 38) rfl rfl rfl ?_
  refine z_int (pc' := 40) (v := nI 10) rfl rfl rfl ?_
  refine z_anew (pc' := 43) (v1 := 29) (v2 := 1515) (N' := 30) (R' := op3 [some 1, some 14, some 27, none, none, none, none, none, none, none, none, none, none, none, none, none] [none, none, none, none, none, none, none, none, none, none] (bh_rfT.getD 30 [])) rfl rfl (Nat.le_of_ble_eq_true rfl) rfl rfl (Nat.le_of_ble_eq_true rfl) rfl rfl (Nat.le_of_ble_eq_true rfl) rfl (Nat.le_of_ble_eq_true rfl) (op3_n29 10 rfl) ?_
  refine z_putR (pc' := 46) (R' := op3 [some 1, some 14, some 27, some 29, none, none, none, none, none, none, none, none, none, none, none, none] [none, none, none, none, none, none, none, none, none, none] (bh_rfT.getD 30 [])) rfl rfl rfl rfl (Nat.le_of_ble_eq_true rfl) (Nat.le_of_ble_eq_true rfl) rfl (by decide) (op3_s0 (by decide) rfl) ?_
  refine z_aload (pc' := 47) rfl rfl rfl ?_
  refine z_int (pc' := 48) (v := nI 2) rfl rfl rfl ?_
  refine z_anew (pc' := 51) (v1 := 30) (v2 := 1517) (N' := 31) (R' := op3 [some 1, some 14, some 27, some 29, none, none, none, none, none, none, none, none, none, none, none, none] [none, none, none, none, none, none, none, none, none, none] [none, none]) rfl rfl (Nat.le_of_ble_eq_true rfl) rfl rfl (Nat.le_of_ble_eq_true rfl) rfl rfl (Nat.le_of_ble_eq_true rfl) rfl (Nat.le_of_ble_eq_true rfl) (op3_n30 2 rfl) ?_
  refine z_putR (pc' := 54) (R' := op3 [some 1, some 14, some 27, some 29, some 30, none, none, none, none, none, none, none, none, none, none, none] [none, none, none, none, none, none, none, none, none, none] [none, none]) rfl rfl rfl rfl (Nat.le_of_ble_eq_true rfl) (Nat.le_of_ble_eq_true rfl) rfl (by decide) (op3_s0 (by decide) rfl) ?_
  refine z_aload (pc' := 55) rfl rfl rfl ?_
  refine z_new (pc' := 58) (v1 := 31) (v2 := 1519) (N' := 32) rfl rfl (Nat.le_of_ble_eq_true rfl) rfl (by decide) rfl rfl (Nat.le_of_ble_eq_true rfl) rfl (Nat.le_of_ble_eq_true rfl) rfl (hD _ (Nat.le_of_ble_eq_true rfl)) ?_
  refine z_dup (pc' := 59) rfl rfl ?_
  refine z_call (pc' := 62) (d1 := 1) (Bs := []) (v1 := 32) (v2 := 1531) (N := 32) (N' := 33) rfl rfl rfl rfl (by decide) rfl rfl (by decide) rfl rfl (Nat.le_of_ble_eq_true rfl) (Nat.le_of_ble_eq_true rfl) rfl (Nat.le_of_ble_eq_true rfl) (fun _ => rfl) rfl (by decide) ?_
  refine w_X2_init_31 (op3_o (by decide)) hD hL ⟨rfl, ?_⟩
  refine z_putR (pc' := 65) (R' := op3 [some 1, some 14, some 27, some 29, some 30, some 31, none, none, none, none, none, none, none, none, none, none] [none, none, none, none, none, none, none, none, none, none] [none, none]) rfl rfl rfl rfl (Nat.le_of_ble_eq_true rfl) (Nat.le_of_ble_eq_true rfl) rfl (by decide) (op3_s0 (by decide) rfl) ?_
  refine z_aload (pc' := 66) rfl rfl rfl ?_
  refine z_new (pc' := 69) (v1 := 33) (v2 := 1534) (N' := 34) rfl rfl (Nat.le_of_ble_eq_true rfl) rfl (by decide) rfl rfl (Nat.le_of_ble_eq_true rfl) rfl (Nat.le_of_ble_eq_true rfl) rfl (hD _ (Nat.le_of_ble_eq_true rfl)) ?_
  refine z_dup (pc' := 70) rfl rfl ?_
  refine z_call (pc' := 73) (d1 := 1) (Bs := []) (v1 := 36) (v2 := 1582) (N := 34) (N' := 37) rfl rfl rfl rfl (by decide) rfl rfl (by decide) rfl rfl (Nat.le_of_ble_eq_true rfl) (Nat.le_of_ble_eq_true rfl) rfl (Nat.le_of_ble_eq_true rfl) (fun _ => rfl) rfl (by decide) ?_
  refine w_X8_init_33 (op3_o (by decide)) hD hL ⟨rfl, ?_⟩
  refine z_putR (pc' := 76) (R' := op3 [some 1, some 14, some 27, some 29, some 30, some 31, some 33, none, none, none, none, none, none, none, none, none] [none, none, none, none, none, none, none, none, none, none] [none, none]) rfl rfl rfl rfl (Nat.le_of_ble_eq_true rfl) (Nat.le_of_ble_eq_true rfl) rfl (by decide) (op3_s0 (by decide) rfl) ?_
  refine z_aload (pc' := 77) rfl rfl rfl ?_
  refine z_new (pc' := 80) (v1 := 37) (v2 := 1589) (N' := 38) rfl rfl (Nat.le_of_ble_eq_true rfl) rfl (by decide) rfl rfl (Nat.le_of_ble_eq_true rfl) rfl (Nat.le_of_ble_eq_true rfl) rfl (hD _ (Nat.le_of_ble_eq_true rfl)) ?_
  refine z_dup (pc' := 81) rfl rfl ?_
  refine z_call (pc' := 84) (d1 := 1) (Bs := []) (v1 := 37) (v2 := 1589) (N := 38) (N' := 38) rfl rfl rfl rfl (by decide) rfl rfl (by decide) rfl rfl (Nat.le_of_ble_eq_true rfl) (Nat.le_of_ble_eq_true rfl) rfl (Nat.le_of_ble_eq_true rfl) (fun _ => rfl) rfl (by decide) ?_
  refine w_X4_init_37 (op3_o (by decide)) hD hL ⟨rfl, ?_⟩
  refine z_putR (pc' := 87) (R' := op3 [some 1, some 14, some 27, some 29, some 30, some 31, some 33, some 37, none, none, none, none, none, none, none, none] [none, none, none, none, none, none, none, none, none, none] [none, none]) rfl rfl rfl rfl (Nat.le_of_ble_eq_true rfl) (Nat.le_of_ble_eq_true rfl) rfl (by decide) (op3_s0 (by decide) rfl) ?_
  refine z_aload (pc' := 88) rfl rfl rfl ?_
  refine z_new (pc' := 91) (v1 := 38) (v2 := 1592) (N' := 39) rfl rfl (Nat.le_of_ble_eq_true rfl) rfl (by decide) rfl rfl (Nat.le_of_ble_eq_true rfl) rfl (Nat.le_of_ble_eq_true rfl) rfl (hD _ (Nat.le_of_ble_eq_true rfl)) ?_
  refine z_dup (pc' := 92) rfl rfl ?_
  refine z_call (pc' := 95) (d1 := 1) (Bs := []) (v1 := 40) (v2 := 1624) (N := 39) (N' := 41) rfl rfl rfl rfl (by decide) rfl rfl (by decide) rfl rfl (Nat.le_of_ble_eq_true rfl) (Nat.le_of_ble_eq_true rfl) rfl (Nat.le_of_ble_eq_true rfl) (fun _ => rfl) rfl (by decide) ?_
  refine w_X5_init_38 (op3_o (by decide)) hD hL ⟨rfl, ?_⟩
  refine z_putR (pc' := 98) (R' := op3 [some 1, some 14, some 27, some 29, some 30, some 31, some 33, some 37, some 38, none, none, none, none, none, none, none] [none, none, none, none, none, none, none, none, none, none] [none, none]) rfl rfl rfl rfl (Nat.le_of_ble_eq_true rfl) (Nat.le_of_ble_eq_true rfl) rfl (by decide) (op3_s0 (by decide) rfl) ?_
  refine z_aload (pc' := 99) rfl rfl rfl ?_
  refine z_new (pc' := 102) (v1 := 41) (v2 := 1627) (N' := 42) rfl rfl (Nat.le_of_ble_eq_true rfl) rfl (by decide) rfl rfl (Nat.le_of_ble_eq_true rfl) rfl (Nat.le_of_ble_eq_true rfl) rfl (hD _ (Nat.le_of_ble_eq_true rfl)) ?_
  refine z_dup (pc' := 103) rfl rfl ?_
  refine z_call (pc' := 106) (d1 := 1) (Bs := []) (v1 := 43) (v2 := 1867) (N := 42) (N' := 44) rfl rfl rfl rfl (by decide) rfl rfl (by decide) rfl rfl (Nat.le_of_ble_eq_true rfl) (Nat.le_of_ble_eq_true rfl) rfl (Nat.le_of_ble_eq_true rfl) (fun _ => rfl) rfl (by decide) ?_
  refine w_X0_init_41 (op3_o (by decide)) hD hL ⟨rfl, ?_⟩
  refine z_putR (pc' := 109) (R' := op3 [some 1, some 14, some 27, some 29, some 30, some 31, some 33, some 37, some 38, some 41, none, none, none, none, none, none] [none, none, none, none, none, none, none, none, none, none] [none, none]) rfl rfl rfl rfl (Nat.le_of_ble_eq_true rfl) (Nat.le_of_ble_eq_true rfl) rfl (by decide) (op3_s0 (by decide) rfl) ?_
  refine z_aload (pc' := 110) rfl rfl rfl ?_
  refine z_new (pc' := 113) (v1 := 44) (v2 := 1869) (N' := 45) rfl rfl (Nat.le_of_ble_eq_true rfl) rfl (by decide) rfl rfl (Nat.le_of_ble_eq_true rfl) rfl (Nat.le_of_ble_eq_true rfl) rfl (hD _ (Nat.le_of_ble_eq_true rfl)) ?_
  refine z_dup (pc' := 114) rfl rfl ?_
  refine z_call (pc' := 117) (d1 := 1) (Bs := []) (v1 := 46) (v2 := 1901) (N := 45) (N' := 47) rfl rfl rfl rfl (by decide) rfl rfl (by decide) rfl rfl (Nat.le_of_ble_eq_true rfl) (Nat.le_of_ble_eq_true rfl) rfl (Nat.le_of_ble_eq_true rfl) (fun _ => rfl) rfl (by decide) ?_
  refine w_X3_init_44 (op3_o (by decide)) hD hL ⟨rfl, ?_⟩
  refine z_putR (pc' := 120) (R' := op3 [some 1, some 14, some 27, some 29, some 30, some 31, some 33, some 37, some 38, some 41, some 44, none, none, none, none, none] [none, none, none, none, none, none, none, none, none, none] [none, none]) rfl rfl rfl rfl (Nat.le_of_ble_eq_true rfl) (Nat.le_of_ble_eq_true rfl) rfl (by decide) (op3_s0 (by decide) rfl) ?_
  refine z_aload (pc' := 121) rfl rfl rfl ?_
  refine z_int (pc' := 123) (v := nI 12) rfl rfl rfl ?_
  refine z_newa (pc' := 125) (v1 := 47) (v2 := 1913) (N' := 48) rfl rfl (Nat.le_of_ble_eq_true rfl) rfl rfl (Nat.le_of_ble_eq_true rfl) rfl rfl (Nat.le_of_ble_eq_true rfl) rfl (Nat.le_of_ble_eq_true rfl) (hD _ (Nat.le_of_ble_eq_true rfl)) (hL _) ?_
  refine z_putR (pc' := 128) (R' := op3 [some 1, some 14, some 27, some 29, some 30, some 31, some 33, some 37, some 38, some 41, some 44, some 47, none, none, none, none] [none, none, none, none, none, none, none, none, none, none] [none, none]) rfl rfl rfl rfl (Nat.le_of_ble_eq_true rfl) (Nat.le_of_ble_eq_true rfl) rfl (by decide) (op3_s0 (by decide) rfl) ?_
  refine z_aload (pc' := 129) rfl rfl rfl ?_
  refine z_int (pc' := 131) (v := nI 17) rfl rfl rfl ?_
  refine z_newa (pc' := 133) (v1 := 48) (v2 := 1930) (N' := 49) rfl rfl (Nat.le_of_ble_eq_true rfl) rfl rfl (Nat.le_of_ble_eq_true rfl) rfl rfl (Nat.le_of_ble_eq_true rfl) rfl (Nat.le_of_ble_eq_true rfl) (hD _ (Nat.le_of_ble_eq_true rfl)) (hL _) ?_
  refine z_putR (pc' := 136) (R' := op3 [some 1, some 14, some 27, some 29, some 30, some 31, some 33, some 37, some 38, some 41, some 44, some 47, some 48, none, none, none] [none, none, none, none, none, none, none, none, none, none] [none, none]) rfl rfl rfl rfl (Nat.le_of_ble_eq_true rfl) (Nat.le_of_ble_eq_true rfl) rfl (by decide) (op3_s0 (by decide) rfl) ?_
  refine z_int (pc' := 137) (v := nI 0) rfl rfl rfl ?_
  refine z_istore (pc' := 138) (lv' := [_, _]) rfl rfl (by decide) rfl ?_
  refine z_iload (pc' := 139) rfl rfl rfl ?_
  refine z_int (pc' := 141) (v := nI 10) rfl rfl rfl ?_
  refine z_ic (c := 3) (pc' := 144) rfl rfl (fun (z : nI 10 ≤ nI 0) => absurd z (by decide)) (fun _ => ?_)
  refine z_aload (pc' := 145) rfl rfl rfl ?_
  refine z_getR (pc' := 148) (r := 29) rfl rfl rfl (Nat.le_of_ble_eq_true rfl) rfl (by decide) rfl rfl ?_
  refine z_iload (pc' := 149) rfl rfl rfl ?_
  refine z_new (pc' := 152) (v1 := 49) (v2 := 1948) (N' := 50) rfl rfl (Nat.le_of_ble_eq_true rfl) rfl (by decide) rfl rfl (Nat.le_of_ble_eq_true rfl) rfl (Nat.le_of_ble_eq_true rfl) rfl (hD _ (Nat.le_of_ble_eq_true rfl)) ?_
  refine z_dup (pc' := 153) rfl rfl ?_
  refine z_call (pc' := 156) (d1 := 1) (Bs := []) (v1 := 61) (v2 := 2480) (N := 50) (N' := 62) rfl rfl rfl rfl (by decide) rfl rfl (by decide) rfl rfl (Nat.le_of_ble_eq_true rfl) (Nat.le_of_ble_eq_true rfl) rfl (Nat.le_of_ble_eq_true rfl) (fun _ => rfl) rfl (by decide) ?_
  refine w_X7_init_49 (op3_o (by decide)) hD hL ⟨rfl, ?_⟩
  refine z_aast (pc' := 157) (R' := op3 [some 1, some 14, some 27, some 29, some 30, some 31, some 33, some 37, some 38, some 41, some 44, some 47, some 48, none, none, none] [some 49, none, none, none, none, none, none, none, none, none] [none, none]) rfl rfl (Nat.le_of_ble_eq_true rfl) (Nat.le_of_ble_eq_true rfl) rfl rfl (by decide) (by decide) (op3_s29 (by decide) rfl) ?_
  refine z_iinc (pc' := 160) (v := nI 1) (lv' := [_, _]) rfl rfl rfl (by decide) (by decide) rfl ?_
  refine z_goto rfl ?_
  refine z_iload (pc' := 139) rfl rfl rfl ?_
  refine z_int (pc' := 141) (v := nI 10) rfl rfl rfl ?_
  refine z_ic (c := 3) (pc' := 144) rfl rfl (fun (z : nI 10 ≤ nI 1) => absurd z (by decide)) (fun _ => ?_)
  refine z_aload (pc' := 145) rfl rfl rfl ?_
  refine z_getR (pc' := 148) (r := 29) rfl rfl rfl (Nat.le_of_ble_eq_true rfl) rfl (by decide) rfl rfl ?_
  refine z_iload (pc' := 149) rfl rfl rfl ?_
  refine z_new (pc' := 152) (v1 := 62) (v2 := 2498) (N' := 63) rfl rfl (Nat.le_of_ble_eq_true rfl) rfl (by decide) rfl rfl (Nat.le_of_ble_eq_true rfl) rfl (Nat.le_of_ble_eq_true rfl) rfl (hD _ (Nat.le_of_ble_eq_true rfl)) ?_
  refine z_dup (pc' := 153) rfl rfl ?_
  refine z_call (pc' := 156) (d1 := 1) (Bs := []) (v1 := 74) (v2 := 3030) (N := 63) (N' := 75) rfl rfl rfl rfl (by decide) rfl rfl (by decide) rfl rfl (Nat.le_of_ble_eq_true rfl) (Nat.le_of_ble_eq_true rfl) rfl (Nat.le_of_ble_eq_true rfl) (fun _ => rfl) rfl (by decide) ?_
  refine w_X7_init_62 (op3_o (by decide)) hD hL ⟨rfl, ?_⟩
  refine z_aast (pc' := 157) (R' := op3 [some 1, some 14, some 27, some 29, some 30, some 31, some 33, some 37, some 38, some 41, some 44, some 47, some 48, none, none, none] [some 49, some 62, none, none, none, none, none, none, none, none] [none, none]) rfl rfl (Nat.le_of_ble_eq_true rfl) (Nat.le_of_ble_eq_true rfl) rfl rfl (by decide) (by decide) (op3_s29 (by decide) rfl) ?_
  refine z_iinc (pc' := 160) (v := nI 2) (lv' := [_, _]) rfl rfl rfl (by decide) (by decide) rfl ?_
  refine z_goto rfl ?_
  refine z_iload (pc' := 139) rfl rfl rfl ?_
  refine z_int (pc' := 141) (v := nI 10) rfl rfl rfl ?_
  refine z_ic (c := 3) (pc' := 144) rfl rfl (fun (z : nI 10 ≤ nI 2) => absurd z (by decide)) (fun _ => ?_)
  refine z_aload (pc' := 145) rfl rfl rfl ?_
  refine z_getR (pc' := 148) (r := 29) rfl rfl rfl (Nat.le_of_ble_eq_true rfl) rfl (by decide) rfl rfl ?_
  refine z_iload (pc' := 149) rfl rfl rfl ?_
  refine z_new (pc' := 152) (v1 := 75) (v2 := 3048) (N' := 76) rfl rfl (Nat.le_of_ble_eq_true rfl) rfl (by decide) rfl rfl (Nat.le_of_ble_eq_true rfl) rfl (Nat.le_of_ble_eq_true rfl) rfl (hD _ (Nat.le_of_ble_eq_true rfl)) ?_
  refine z_dup (pc' := 153) rfl rfl ?_
  refine z_call (pc' := 156) (d1 := 1) (Bs := []) (v1 := 87) (v2 := 3580) (N := 76) (N' := 88) rfl rfl rfl rfl (by decide) rfl rfl (by decide) rfl rfl (Nat.le_of_ble_eq_true rfl) (Nat.le_of_ble_eq_true rfl) rfl (Nat.le_of_ble_eq_true rfl) (fun _ => rfl) rfl (by decide) ?_
  refine w_X7_init_75 (op3_o (by decide)) hD hL ⟨rfl, ?_⟩
  refine z_aast (pc' := 157) (R' := op3 [some 1, some 14, some 27, some 29, some 30, some 31, some 33, some 37, some 38, some 41, some 44, some 47, some 48, none, none, none] [some 49, some 62, some 75, none, none, none, none, none, none, none] [none, none]) rfl rfl (Nat.le_of_ble_eq_true rfl) (Nat.le_of_ble_eq_true rfl) rfl rfl (by decide) (by decide) (op3_s29 (by decide) rfl) ?_
  refine z_iinc (pc' := 160) (v := nI 3) (lv' := [_, _]) rfl rfl rfl (by decide) (by decide) rfl ?_
  refine z_goto rfl ?_
  refine z_iload (pc' := 139) rfl rfl rfl ?_
  refine z_int (pc' := 141) (v := nI 10) rfl rfl rfl ?_
  refine z_ic (c := 3) (pc' := 144) rfl rfl (fun (z : nI 10 ≤ nI 3) => absurd z (by decide)) (fun _ => ?_)
  refine z_aload (pc' := 145) rfl rfl rfl ?_
  refine z_getR (pc' := 148) (r := 29) rfl rfl rfl (Nat.le_of_ble_eq_true rfl) rfl (by decide) rfl rfl ?_
  refine z_iload (pc' := 149) rfl rfl rfl ?_
  refine z_new (pc' := 152) (v1 := 88) (v2 := 3598) (N' := 89) rfl rfl (Nat.le_of_ble_eq_true rfl) rfl (by decide) rfl rfl (Nat.le_of_ble_eq_true rfl) rfl (Nat.le_of_ble_eq_true rfl) rfl (hD _ (Nat.le_of_ble_eq_true rfl)) ?_
  refine z_dup (pc' := 153) rfl rfl ?_
  refine z_call (pc' := 156) (d1 := 1) (Bs := []) (v1 := 100) (v2 := 4130) (N := 89) (N' := 101) rfl rfl rfl rfl (by decide) rfl rfl (by decide) rfl rfl (Nat.le_of_ble_eq_true rfl) (Nat.le_of_ble_eq_true rfl) rfl (Nat.le_of_ble_eq_true rfl) (fun _ => rfl) rfl (by decide) ?_
  refine w_X7_init_88 (op3_o (by decide)) hD hL ⟨rfl, ?_⟩
  refine z_aast (pc' := 157) (R' := op3 [some 1, some 14, some 27, some 29, some 30, some 31, some 33, some 37, some 38, some 41, some 44, some 47, some 48, none, none, none] [some 49, some 62, some 75, some 88, none, none, none, none, none, none] [none, none]) rfl rfl (Nat.le_of_ble_eq_true rfl) (Nat.le_of_ble_eq_true rfl) rfl rfl (by decide) (by decide) (op3_s29 (by decide) rfl) ?_
  refine z_iinc (pc' := 160) (v := nI 4) (lv' := [_, _]) rfl rfl rfl (by decide) (by decide) rfl ?_
  refine z_goto rfl ?_
  refine z_iload (pc' := 139) rfl rfl rfl ?_
  refine z_int (pc' := 141) (v := nI 10) rfl rfl rfl ?_
  refine z_ic (c := 3) (pc' := 144) rfl rfl (fun (z : nI 10 ≤ nI 4) => absurd z (by decide)) (fun _ => ?_)
  refine z_aload (pc' := 145) rfl rfl rfl ?_
  refine z_getR (pc' := 148) (r := 29) rfl rfl rfl (Nat.le_of_ble_eq_true rfl) rfl (by decide) rfl rfl ?_
  refine z_iload (pc' := 149) rfl rfl rfl ?_
  refine z_new (pc' := 152) (v1 := 101) (v2 := 4148) (N' := 102) rfl rfl (Nat.le_of_ble_eq_true rfl) rfl (by decide) rfl rfl (Nat.le_of_ble_eq_true rfl) rfl (Nat.le_of_ble_eq_true rfl) rfl (hD _ (Nat.le_of_ble_eq_true rfl)) ?_
  refine z_dup (pc' := 153) rfl rfl ?_
  refine z_call (pc' := 156) (d1 := 1) (Bs := []) (v1 := 113) (v2 := 4680) (N := 102) (N' := 114) rfl rfl rfl rfl (by decide) rfl rfl (by decide) rfl rfl (Nat.le_of_ble_eq_true rfl) (Nat.le_of_ble_eq_true rfl) rfl (Nat.le_of_ble_eq_true rfl) (fun _ => rfl) rfl (by decide) ?_
  refine w_X7_init_101 (op3_o (by decide)) hD hL ⟨rfl, ?_⟩
  refine z_aast (pc' := 157) (R' := op3 [some 1, some 14, some 27, some 29, some 30, some 31, some 33, some 37, some 38, some 41, some 44, some 47, some 48, none, none, none] [some 49, some 62, some 75, some 88, some 101, none, none, none, none, none] [none, none]) rfl rfl (Nat.le_of_ble_eq_true rfl) (Nat.le_of_ble_eq_true rfl) rfl rfl (by decide) (by decide) (op3_s29 (by decide) rfl) ?_
  refine z_iinc (pc' := 160) (v := nI 5) (lv' := [_, _]) rfl rfl rfl (by decide) (by decide) rfl ?_
  refine z_goto rfl ?_
  refine z_iload (pc' := 139) rfl rfl rfl ?_
  refine z_int (pc' := 141) (v := nI 10) rfl rfl rfl ?_
  refine z_ic (c := 3) (pc' := 144) rfl rfl (fun (z : nI 10 ≤ nI 5) => absurd z (by decide)) (fun _ => ?_)
  refine z_aload (pc' := 145) rfl rfl rfl ?_
  refine z_getR (pc' := 148) (r := 29) rfl rfl rfl (Nat.le_of_ble_eq_true rfl) rfl (by decide) rfl rfl ?_
  refine z_iload (pc' := 149) rfl rfl rfl ?_
  refine z_new (pc' := 152) (v1 := 114) (v2 := 4698) (N' := 115) rfl rfl (Nat.le_of_ble_eq_true rfl) rfl (by decide) rfl rfl (Nat.le_of_ble_eq_true rfl) rfl (Nat.le_of_ble_eq_true rfl) rfl (hD _ (Nat.le_of_ble_eq_true rfl)) ?_
  refine z_dup (pc' := 153) rfl rfl ?_
  refine z_call (pc' := 156) (d1 := 1) (Bs := []) (v1 := 126) (v2 := 5230) (N := 115) (N' := 127) rfl rfl rfl rfl (by decide) rfl rfl (by decide) rfl rfl (Nat.le_of_ble_eq_true rfl) (Nat.le_of_ble_eq_true rfl) rfl (Nat.le_of_ble_eq_true rfl) (fun _ => rfl) rfl (by decide) ?_
  refine w_X7_init_114 (op3_o (by decide)) hD hL ⟨rfl, ?_⟩
  refine z_aast (pc' := 157) (R' := op3 [some 1, some 14, some 27, some 29, some 30, some 31, some 33, some 37, some 38, some 41, some 44, some 47, some 48, none, none, none] [some 49, some 62, some 75, some 88, some 101, some 114, none, none, none, none] [none, none]) rfl rfl (Nat.le_of_ble_eq_true rfl) (Nat.le_of_ble_eq_true rfl) rfl rfl (by decide) (by decide) (op3_s29 (by decide) rfl) ?_
  refine z_iinc (pc' := 160) (v := nI 6) (lv' := [_, _]) rfl rfl rfl (by decide) (by decide) rfl ?_
  refine z_goto rfl ?_
  refine z_iload (pc' := 139) rfl rfl rfl ?_
  refine z_int (pc' := 141) (v := nI 10) rfl rfl rfl ?_
  refine z_ic (c := 3) (pc' := 144) rfl rfl (fun (z : nI 10 ≤ nI 6) => absurd z (by decide)) (fun _ => ?_)
  refine z_aload (pc' := 145) rfl rfl rfl ?_
  refine z_getR (pc' := 148) (r := 29) rfl rfl rfl (Nat.le_of_ble_eq_true rfl) rfl (by decide) rfl rfl ?_
  refine z_iload (pc' := 149) rfl rfl rfl ?_
  refine z_new (pc' := 152) (v1 := 127) (v2 := 5248) (N' := 128) rfl rfl (Nat.le_of_ble_eq_true rfl) rfl (by decide) rfl rfl (Nat.le_of_ble_eq_true rfl) rfl (Nat.le_of_ble_eq_true rfl) rfl (hD _ (Nat.le_of_ble_eq_true rfl)) ?_
  refine z_dup (pc' := 153) rfl rfl ?_
  refine z_call (pc' := 156) (d1 := 1) (Bs := []) (v1 := 139) (v2 := 5780) (N := 128) (N' := 140) rfl rfl rfl rfl (by decide) rfl rfl (by decide) rfl rfl (Nat.le_of_ble_eq_true rfl) (Nat.le_of_ble_eq_true rfl) rfl (Nat.le_of_ble_eq_true rfl) (fun _ => rfl) rfl (by decide) ?_
  refine w_X7_init_127 (op3_o (by decide)) hD hL ⟨rfl, ?_⟩
  refine z_aast (pc' := 157) (R' := op3 [some 1, some 14, some 27, some 29, some 30, some 31, some 33, some 37, some 38, some 41, some 44, some 47, some 48, none, none, none] [some 49, some 62, some 75, some 88, some 101, some 114, some 127, none, none, none] [none, none]) rfl rfl (Nat.le_of_ble_eq_true rfl) (Nat.le_of_ble_eq_true rfl) rfl rfl (by decide) (by decide) (op3_s29 (by decide) rfl) ?_
  refine z_iinc (pc' := 160) (v := nI 7) (lv' := [_, _]) rfl rfl rfl (by decide) (by decide) rfl ?_
  refine z_goto rfl ?_
  refine z_iload (pc' := 139) rfl rfl rfl ?_
  refine z_int (pc' := 141) (v := nI 10) rfl rfl rfl ?_
  refine z_ic (c := 3) (pc' := 144) rfl rfl (fun (z : nI 10 ≤ nI 7) => absurd z (by decide)) (fun _ => ?_)
  refine z_aload (pc' := 145) rfl rfl rfl ?_
  refine z_getR (pc' := 148) (r := 29) rfl rfl rfl (Nat.le_of_ble_eq_true rfl) rfl (by decide) rfl rfl ?_
  refine z_iload (pc' := 149) rfl rfl rfl ?_
  refine z_new (pc' := 152) (v1 := 140) (v2 := 5798) (N' := 141) rfl rfl (Nat.le_of_ble_eq_true rfl) rfl (by decide) rfl rfl (Nat.le_of_ble_eq_true rfl) rfl (Nat.le_of_ble_eq_true rfl) rfl (hD _ (Nat.le_of_ble_eq_true rfl)) ?_
  refine z_dup (pc' := 153) rfl rfl ?_
  refine z_call (pc' := 156) (d1 := 1) (Bs := []) (v1 := 152) (v2 := 6330) (N := 141) (N' := 153) rfl rfl rfl rfl (by decide) rfl rfl (by decide) rfl rfl (Nat.le_of_ble_eq_true rfl) (Nat.le_of_ble_eq_true rfl) rfl (Nat.le_of_ble_eq_true rfl) (fun _ => rfl) rfl (by decide) ?_
  refine w_X7_init_140 (op3_o (by decide)) hD hL ⟨rfl, ?_⟩
  refine z_aast (pc' := 157) (R' := op3 [some 1, some 14, some 27, some 29, some 30, some 31, some 33, some 37, some 38, some 41, some 44, some 47, some 48, none, none, none] [some 49, some 62, some 75, some 88, some 101, some 114, some 127, some 140, none, none] [none, none]) rfl rfl (Nat.le_of_ble_eq_true rfl) (Nat.le_of_ble_eq_true rfl) rfl rfl (by decide) (by decide) (op3_s29 (by decide) rfl) ?_
  refine z_iinc (pc' := 160) (v := nI 8) (lv' := [_, _]) rfl rfl rfl (by decide) (by decide) rfl ?_
  refine z_goto rfl ?_
  refine z_iload (pc' := 139) rfl rfl rfl ?_
  refine z_int (pc' := 141) (v := nI 10) rfl rfl rfl ?_
  refine z_ic (c := 3) (pc' := 144) rfl rfl (fun (z : nI 10 ≤ nI 8) => absurd z (by decide)) (fun _ => ?_)
  refine z_aload (pc' := 145) rfl rfl rfl ?_
  refine z_getR (pc' := 148) (r := 29) rfl rfl rfl (Nat.le_of_ble_eq_true rfl) rfl (by decide) rfl rfl ?_
  refine z_iload (pc' := 149) rfl rfl rfl ?_
  refine z_new (pc' := 152) (v1 := 153) (v2 := 6348) (N' := 154) rfl rfl (Nat.le_of_ble_eq_true rfl) rfl (by decide) rfl rfl (Nat.le_of_ble_eq_true rfl) rfl (Nat.le_of_ble_eq_true rfl) rfl (hD _ (Nat.le_of_ble_eq_true rfl)) ?_
  refine z_dup (pc' := 153) rfl rfl ?_
  refine z_call (pc' := 156) (d1 := 1) (Bs := []) (v1 := 165) (v2 := 6880) (N := 154) (N' := 166) rfl rfl rfl rfl (by decide) rfl rfl (by decide) rfl rfl (Nat.le_of_ble_eq_true rfl) (Nat.le_of_ble_eq_true rfl) rfl (Nat.le_of_ble_eq_true rfl) (fun _ => rfl) rfl (by decide) ?_
  refine w_X7_init_153 (op3_o (by decide)) hD hL ⟨rfl, ?_⟩
  refine z_aast (pc' := 157) (R' := op3 [some 1, some 14, some 27, some 29, some 30, some 31, some 33, some 37, some 38, some 41, some 44, some 47, some 48, none, none, none] [some 49, some 62, some 75, some 88, some 101, some 114, some 127, some 140, some 153, none] [none, none]) rfl rfl (Nat.le_of_ble_eq_true rfl) (Nat.le_of_ble_eq_true rfl) rfl rfl (by decide) (by decide) (op3_s29 (by decide) rfl) ?_
  refine z_iinc (pc' := 160) (v := nI 9) (lv' := [_, _]) rfl rfl rfl (by decide) (by decide) rfl ?_
  refine z_goto rfl ?_
  refine z_iload (pc' := 139) rfl rfl rfl ?_
  refine z_int (pc' := 141) (v := nI 10) rfl rfl rfl ?_
  refine z_ic (c := 3) (pc' := 144) rfl rfl (fun (z : nI 10 ≤ nI 9) => absurd z (by decide)) (fun _ => ?_)
  refine z_aload (pc' := 145) rfl rfl rfl ?_
  refine z_getR (pc' := 148) (r := 29) rfl rfl rfl (Nat.le_of_ble_eq_true rfl) rfl (by decide) rfl rfl ?_
  refine z_iload (pc' := 149) rfl rfl rfl ?_
  refine z_new (pc' := 152) (v1 := 166) (v2 := 6898) (N' := 167) rfl rfl (Nat.le_of_ble_eq_true rfl) rfl (by decide) rfl rfl (Nat.le_of_ble_eq_true rfl) rfl (Nat.le_of_ble_eq_true rfl) rfl (hD _ (Nat.le_of_ble_eq_true rfl)) ?_
  refine z_dup (pc' := 153) rfl rfl ?_
  refine z_call (pc' := 156) (d1 := 1) (Bs := []) (v1 := 178) (v2 := 7430) (N := 167) (N' := 179) rfl rfl rfl rfl (by decide) rfl rfl (by decide) rfl rfl (Nat.le_of_ble_eq_true rfl) (Nat.le_of_ble_eq_true rfl) rfl (Nat.le_of_ble_eq_true rfl) (fun _ => rfl) rfl (by decide) ?_
  refine w_X7_init_166 (op3_o (by decide)) hD hL ⟨rfl, ?_⟩
  refine z_aast (pc' := 157) (R' := op3 [some 1, some 14, some 27, some 29, some 30, some 31, some 33, some 37, some 38, some 41, some 44, some 47, some 48, none, none, none] [some 49, some 62, some 75, some 88, some 101, some 114, some 127, some 140, some 153, some 166] [none, none]) rfl rfl (Nat.le_of_ble_eq_true rfl) (Nat.le_of_ble_eq_true rfl) rfl rfl (by decide) (by decide) (op3_s29 (by decide) rfl) ?_
  refine z_iinc (pc' := 160) (v := nI 10) (lv' := [_, _]) rfl rfl rfl (by decide) (by decide) rfl ?_
  refine z_goto rfl ?_
  refine z_iload (pc' := 139) rfl rfl rfl ?_
  refine z_int (pc' := 141) (v := nI 10) rfl rfl rfl ?_
  refine z_ic (c := 3) (pc' := 144) rfl rfl (fun _ => ?_) (fun z => absurd (show nI 10 ≤ nI 10 by decide) z)
  refine z_int (pc' := 164) (v := nI 0) rfl rfl rfl ?_
  refine z_istore (pc' := 165) (lv' := [_, _]) rfl rfl (by decide) rfl ?_
  refine z_iload (pc' := 166) rfl rfl rfl ?_
  refine z_int (pc' := 167) (v := nI 2) rfl rfl rfl ?_
  refine z_ic (c := 3) (pc' := 170) rfl rfl (fun (z : nI 2 ≤ nI 0) => absurd z (by decide)) (fun _ => ?_)
  refine z_aload (pc' := 171) rfl rfl rfl ?_
  refine z_getR (pc' := 174) (r := 30) rfl rfl rfl (Nat.le_of_ble_eq_true rfl) rfl (by decide) rfl rfl ?_
  refine z_iload (pc' := 175) rfl rfl rfl ?_
  refine z_new (pc' := 178) (v1 := 179) (v2 := 7448) (N' := 180) rfl rfl (Nat.le_of_ble_eq_true rfl) rfl (by decide) rfl rfl (Nat.le_of_ble_eq_true rfl) rfl (Nat.le_of_ble_eq_true rfl) rfl (hD _ (Nat.le_of_ble_eq_true rfl)) ?_
  refine z_dup (pc' := 179) rfl rfl ?_
  refine z_call (pc' := 182) (d1 := 1) (Bs := []) (v1 := 191) (v2 := 7980) (N := 180) (N' := 192) rfl rfl rfl rfl (by decide) rfl rfl (by decide) rfl rfl (Nat.le_of_ble_eq_true rfl) (Nat.le_of_ble_eq_true rfl) rfl (Nat.le_of_ble_eq_true rfl) (fun _ => rfl) rfl (by decide) ?_
  refine w_X7_init_179 (op3_o (by decide)) hD hL ⟨rfl, ?_⟩
  refine z_aast (pc' := 183) (R' := op3 [some 1, some 14, some 27, some 29, some 30, some 31, some 33, some 37, some 38, some 41, some 44, some 47, some 48, none, none, none] [some 49, some 62, some 75, some 88, some 101, some 114, some 127, some 140, some 153, some 166] [some 179, none]) rfl rfl (Nat.le_of_ble_eq_true rfl) (Nat.le_of_ble_eq_true rfl) rfl rfl (by decide) (by decide) (op3_s30 (by decide) rfl) ?_
  refine z_iinc (pc' := 186) (v := nI 1) (lv' := [_, _]) rfl rfl rfl (by decide) (by decide) rfl ?_
  refine z_goto rfl ?_
  refine z_iload (pc' := 166) rfl rfl rfl ?_
  refine z_int (pc' := 167) (v := nI 2) rfl rfl rfl ?_
  refine z_ic (c := 3) (pc' := 170) rfl rfl (fun (z : nI 2 ≤ nI 1) => absurd z (by decide)) (fun _ => ?_)
  refine z_aload (pc' := 171) rfl rfl rfl ?_
  refine z_getR (pc' := 174) (r := 30) rfl rfl rfl (Nat.le_of_ble_eq_true rfl) rfl (by decide) rfl rfl ?_
  refine z_iload (pc' := 175) rfl rfl rfl ?_
  refine z_new (pc' := 178) (v1 := 192) (v2 := 7998) (N' := 193) rfl rfl (Nat.le_of_ble_eq_true rfl) rfl (by decide) rfl rfl (Nat.le_of_ble_eq_true rfl) rfl (Nat.le_of_ble_eq_true rfl) rfl (hD _ (Nat.le_of_ble_eq_true rfl)) ?_
  refine z_dup (pc' := 179) rfl rfl ?_
  refine z_call (pc' := 182) (d1 := 1) (Bs := []) (v1 := 204) (v2 := 8530) (N := 193) (N' := 205) rfl rfl rfl rfl (by decide) rfl rfl (by decide) rfl rfl (Nat.le_of_ble_eq_true rfl) (Nat.le_of_ble_eq_true rfl) rfl (Nat.le_of_ble_eq_true rfl) (fun _ => rfl) rfl (by decide) ?_
  refine w_X7_init_192 (op3_o (by decide)) hD hL ⟨rfl, ?_⟩
  refine z_aast (pc' := 183) (R' := op3 [some 1, some 14, some 27, some 29, some 30, some 31, some 33, some 37, some 38, some 41, some 44, some 47, some 48, none, none, none] [some 49, some 62, some 75, some 88, some 101, some 114, some 127, some 140, some 153, some 166] [some 179, some 192]) rfl rfl (Nat.le_of_ble_eq_true rfl) (Nat.le_of_ble_eq_true rfl) rfl rfl (by decide) (by decide) (op3_s30 (by decide) rfl) ?_
  refine z_iinc (pc' := 186) (v := nI 2) (lv' := [_, _]) rfl rfl rfl (by decide) (by decide) rfl ?_
  refine z_goto rfl ?_
  refine z_iload (pc' := 166) rfl rfl rfl ?_
  refine z_int (pc' := 167) (v := nI 2) rfl rfl rfl ?_
  refine z_ic (c := 3) (pc' := 170) rfl rfl (fun _ => ?_) (fun z => absurd (show nI 2 ≤ nI 2 by decide) z)
  refine z_vret rfl (Nat.le_of_ble_eq_true rfl) (Nat.le_of_ble_eq_true rfl) rfl ?_
  rw [show op3 [some 1, some 14, some 27, some 29, some 30, some 31, some 33, some 37, some 38, some 41, some 44, some 47, some 48, none, none, none] [some 49, some 62, some 75, some 88, some 101, some 114, some 127, some 140, some 153, some 166] [some 179, some 192] = bh_R0 from op3_e]
  exact k1
