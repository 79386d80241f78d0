/-! ===== towns are copied ===== -/
def bh_tws : List Nat := [1, 14, 49, 62, 75, 88, 101, 114, 127, 140, 153, 166, 179, 192]
/-- how long a town's rows are -/
def tl (j : Nat) : Nat := ([6, 12, 12, 12, 12, 12, 12, 12, 12, 4, 32, 384, 16] : List Nat).getD j 0
set_option maxRecDepth 20000 in
theorem tw_all : ∀ t ∈ bh_tws, bh_tg t = 7 ∧ bh_ln t = 18 ∧ t + 12 < 205 ∧ (∀ j, j < 12 → bh_R0 t (6 + j) = some (t + 1 + j)) ∧ ∀ j, j < 12 → bh_tg (t + 1 + j) = 20 ∧ bh_ln (t + 1 + j) = tl (1 + j) := by decide +kernel
theorem tw_tg {t : Nat} (h : t ∈ bh_tws) : bh_tg t = 7 := (tw_all t h).1
theorem tw_ln {t : Nat} (h : t ∈ bh_tws) : bh_ln t = 18 := (tw_all t h).2.1
theorem tw_lt {t : Nat} (h : t ∈ bh_tws) : t < 228 := by have := (tw_all t h).2.2.1; omega
theorem tw_l {t j : Nat} (h : t ∈ bh_tws) (hj : j < 18) : j < bh_ln t := by rw [tw_ln h]; exact hj
theorem tw_R {t : Nat} (h : t ∈ bh_tws) (j : Nat) (hj : j < 12) : bh_R0 t (6 + j) = some (t + 1 + j) := (tw_all t h).2.2.2.1 j hj
theorem tw_a {t : Nat} (h : t ∈ bh_tws) (j : Nat) (hj : j < 12) : bh_tg (t + 1 + j) = 20 ∧ bh_ln (t + 1 + j) = tl (1 + j) := (tw_all t h).2.2.2.2 j hj
theorem tw_alt {t : Nat} (h : t ∈ bh_tws) (j : Nat) (hj : j < 12) : t + 1 + j < 228 := by have := (tw_all t h).2.2.1; omega
set_option maxRecDepth 20000 in
theorem tw_far : ∀ t ∈ bh_tws, ∀ t' ∈ bh_tws, t ≠ t' → t + 13 ≤ t' ∨ t' + 13 ≤ t := by decide +kernel
/-- rows 0 to n - 1 of the town at t are those of the one at t'; nothing else has changed -/
def Cp (D D' : Nat → Nat → Int32) (t t' n : Nat) : Prop := (∀ j, j < n → ∀ i, i < tl j → D' (t + j) i = D (t' + j) i) ∧ ∀ k, (k < t ∨ t + 13 ≤ k) → D' k = D k
theorem Cp.step {D D1 D2 : Nat → Nat → Int32} {t t' n : Nat} (h : Cp D D1 t t' n) (hf : t + 13 ≤ t' ∨ t' + 13 ≤ t) (hn : n < 13) (h1 : ∀ i, i < tl n → D2 (t + n) i = D1 (t' + n) i) (h2 : ∀ k, k ≠ t + n → D2 k = D1 k) : Cp D D2 t t' (n + 1) := by
  refine ⟨fun j hj i hi => ?_, fun k hk => ?_⟩
  · by_cases e : j = n
    · subst e
      rw [h1 i hi, h.2 (t' + j) (by omega)]
    · rw [h2 (t + j) (by omega)]
      exact h.1 j (by omega) i hi
  · rw [h2 k (by omega)]
    exact h.2 k hk
set_option maxRecDepth 20000 in
set_option maxHeartbeats 1000000 in
theorem w_X7_copyRow {D : Nat → Nat → Int32} {L : Nat → Nat → Int64} {Q : bh_Q} {a b n : Nat} (ha : a < 228) (hb : b < 228) (ta : bh_tg a = 20) (tb' : bh_tg b = 20) (la : bh_ln a = n) (lb : bh_ln b = n) (hn : n ≤ 10000) (hne : b ≠ a) (k1 : ∀ D', (∀ i, i < n → D' b i = D a i) → (∀ k, k ≠ b → D' k = D k) → Q none (hp D' L)) : bh_wc 1 m_X7_copyRow [.ref a, .ref b] (hp D L) Q := by
  refine x_start (lv0 := [_, _]) (Nat.le_of_ble_eq_true rfl) rfl ?_
  refine x_aload (pc' := 1) rfl rfl rfl ?_
  refine x_int (pc' := 2) (v := 0) rfl rfl rfl ?_
  refine x_aload (pc' := 3) rfl rfl rfl ?_
  refine x_int (pc' := 4) (v := 0) rfl rfl rfl ?_
  refine x_aload (pc' := 5) rfl rfl rfl ?_
  refine x_alen (n := n) (pc' := 6) rfl rfl ha (by rw [ta]; decide) la ?_
  refine x_aload (pc' := 7) rfl rfl rfl ?_
  refine x_alen (n := n) (pc' := 8) rfl rfl hb (by rw [tb']; decide) lb ?_
  refine x_min (pc' := 11) rfl rfl (Nat.le_of_ble_eq_true rfl) (if_neg Int32.lt_irrefl) ?_
  refine x_copy (pc' := 14) rfl rfl (Nat.le_of_ble_eq_true rfl) hb ha tb' ta (by omega) (by omega) (by omega) hne ?_
  refine x_vret rfl rfl ?_
  refine k1 _ (fun i hi => ?_) (fun k hk => bh_upr_ne _ _ hk)
  rw [bh_upr_self]
  unfold va_cpy
  rw [if_pos ⟨Nat.zero_le _, by omega⟩]
  simp
set_option maxRecDepth 20000 in
set_option maxHeartbeats 1000000 in
theorem w_X7_copyFrom {D : Nat → Nat → Int32} {L : Nat → Nat → Int64} {Q : bh_Q} {t u : Nat} (h1 : t ∈ bh_tws) (h2 : u ∈ bh_tws) (hne : t ≠ u) (k1 : ∀ D', Cp D D' t u 13 → Q none (hp D' L)) : bh_wc 2 m_X7_copyFrom [.ref t, .ref u] (hp D L) Q := by
  refine x_start (lv0 := [_, _]) (Nat.le_of_ble_eq_true rfl) rfl ?_
  have hf := tw_far t h1 u h2 hne
  refine x_aload (pc' := 1) rfl rfl rfl ?_
  refine x_aload (pc' := 2) rfl rfl rfl ?_
  refine x_getI (j := 0) (pc' := 5) rfl rfl rfl (tw_lt h2) (tw_tg h2) (tw_l h2 (by decide)) rfl rfl ?_
  refine x_putI (j := 0) (pc' := 8) rfl rfl rfl (tw_lt h1) (tw_tg h1) (tw_l h1 (by decide)) rfl rfl ?_
  refine x_aload (pc' := 9) rfl rfl rfl ?_
  refine x_aload (pc' := 10) rfl rfl rfl ?_
  refine x_getI (j := 1) (pc' := 13) rfl rfl rfl (tw_lt h2) (tw_tg h2) (tw_l h2 (by decide)) rfl rfl ?_
  simp only [bh_up2_ne _ _ _ (Ne.symm hne)]
  refine x_putI (j := 1) (pc' := 16) rfl rfl rfl (tw_lt h1) (tw_tg h1) (tw_l h1 (by decide)) rfl rfl ?_
  refine x_aload (pc' := 17) rfl rfl rfl ?_
  refine x_aload (pc' := 18) rfl rfl rfl ?_
  refine x_getI (j := 2) (pc' := 21) rfl rfl rfl (tw_lt h2) (tw_tg h2) (tw_l h2 (by decide)) rfl rfl ?_
  simp only [bh_up2_ne _ _ _ (Ne.symm hne)]
  refine x_putI (j := 2) (pc' := 24) rfl rfl rfl (tw_lt h1) (tw_tg h1) (tw_l h1 (by decide)) rfl rfl ?_
  refine x_aload (pc' := 25) rfl rfl rfl ?_
  refine x_aload (pc' := 26) rfl rfl rfl ?_
  refine x_getI (j := 3) (pc' := 29) rfl rfl rfl (tw_lt h2) (tw_tg h2) (tw_l h2 (by decide)) rfl rfl ?_
  simp only [bh_up2_ne _ _ _ (Ne.symm hne)]
  refine x_putI (j := 3) (pc' := 32) rfl rfl rfl (tw_lt h1) (tw_tg h1) (tw_l h1 (by decide)) rfl rfl ?_
  refine x_aload (pc' := 33) rfl rfl rfl ?_
  refine x_aload (pc' := 34) rfl rfl rfl ?_
  refine x_getI (j := 4) (pc' := 37) rfl rfl rfl (tw_lt h2) (tw_tg h2) (tw_l h2 (by decide)) rfl rfl ?_
  simp only [bh_up2_ne _ _ _ (Ne.symm hne)]
  refine x_putI (j := 4) (pc' := 40) rfl rfl rfl (tw_lt h1) (tw_tg h1) (tw_l h1 (by decide)) rfl rfl ?_
  refine x_aload (pc' := 41) rfl rfl rfl ?_
  refine x_aload (pc' := 42) rfl rfl rfl ?_
  refine x_getI (j := 5) (pc' := 45) rfl rfl rfl (tw_lt h2) (tw_tg h2) (tw_l h2 (by decide)) rfl rfl ?_
  simp only [bh_up2_ne _ _ _ (Ne.symm hne)]
  refine x_putI (j := 5) (pc' := 48) rfl rfl rfl (tw_lt h1) (tw_tg h1) (tw_l h1 (by decide)) rfl rfl ?_
  have hne : t ≠ u := hne
  have p1 : Cp D (bh_up2 (bh_up2 (bh_up2 (bh_up2 (bh_up2 (bh_up2 D t 0 (D u 0)) t 1 (D u 1)) t 2 (D u 2)) t 3 (D u 3)) t 4 (D u 4)) t 5 (D u 5)) t u 1 := by
    refine ⟨fun j hj i hi => ?_, fun k hk => ?_⟩
    · have e : j = 0 := by omega
      subst e
      have hi6 : i < 6 := hi
      show bh_up2 _ t 5 _ t i = D u i
      simp only [bh_up2_k]
      have hz : i = 0 ∨ i = 1 ∨ i = 2 ∨ i = 3 ∨ i = 4 ∨ i = 5 := by omega
      rcases hz with rfl | rfl | rfl | rfl | rfl | rfl <;> rfl
    · have hkt : k ≠ t := by omega
      rw [bh_up2_ne _ _ _ hkt, bh_up2_ne _ _ _ hkt, bh_up2_ne _ _ _ hkt, bh_up2_ne _ _ _ hkt, bh_up2_ne _ _ _ hkt, bh_up2_ne _ _ _ hkt]
  generalize bh_up2 (bh_up2 (bh_up2 (bh_up2 (bh_up2 (bh_up2 D t 0 (D u 0)) t 1 (D u 1)) t 2 (D u 2)) t 3 (D u 3)) t 4 (D u 4)) t 5 (D u 5) = D0 at p1 ⊢
  refine x_aload (pc' := 49) rfl rfl rfl ?_
  refine x_getR (pc' := 52) rfl rfl rfl (tw_lt h2) (tw_tg h2) (tw_l h2 (by decide)) rfl (tw_R h2 0 (by decide)) ?_
  refine x_aload (pc' := 53) rfl rfl rfl ?_
  refine x_getR (pc' := 56) rfl rfl rfl (tw_lt h1) (tw_tg h1) (tw_l h1 (by decide)) rfl (tw_R h1 0 (by decide)) ?_
  refine x_callS (pc' := 59) (d1 := 1) (As := [_, _]) rfl rfl rfl rfl (by decide) rfl rfl (Nat.le_of_ble_eq_true rfl) ⟨rfl, rfl⟩ (by decide) ?_
  refine w_X7_copyRow (tw_alt h2 0 (by decide)) (tw_alt h1 0 (by decide)) (tw_a h2 0 (by decide)).1 (tw_a h1 0 (by decide)).1 (tw_a h2 0 (by decide)).2 (tw_a h1 0 (by decide)).2 (by decide) (by omega) (fun D1 g1 f1 => ?_)
  have p2 := p1.step hf (by decide) g1 f1
  refine ⟨rfl, ?_⟩
  refine x_aload (pc' := 60) rfl rfl rfl ?_
  refine x_getR (pc' := 63) rfl rfl rfl (tw_lt h2) (tw_tg h2) (tw_l h2 (by decide)) rfl (tw_R h2 1 (by decide)) ?_
  refine x_aload (pc' := 64) rfl rfl rfl ?_
  refine x_getR (pc' := 67) rfl rfl rfl (tw_lt h1) (tw_tg h1) (tw_l h1 (by decide)) rfl (tw_R h1 1 (by decide)) ?_
  refine x_callS (pc' := 70) (d1 := 1) (As := [_, _]) rfl rfl rfl rfl (by decide) rfl rfl (Nat.le_of_ble_eq_true rfl) ⟨rfl, rfl⟩ (by decide) ?_
  refine w_X7_copyRow (tw_alt h2 1 (by decide)) (tw_alt h1 1 (by decide)) (tw_a h2 1 (by decide)).1 (tw_a h1 1 (by decide)).1 (tw_a h2 1 (by decide)).2 (tw_a h1 1 (by decide)).2 (by decide) (by omega) (fun D2 g2 f2 => ?_)
  have p3 := p2.step hf (by decide) g2 f2
  refine ⟨rfl, ?_⟩
  refine x_aload (pc' := 71) rfl rfl rfl ?_
  refine x_getR (pc' := 74) rfl rfl rfl (tw_lt h2) (tw_tg h2) (tw_l h2 (by decide)) rfl (tw_R h2 2 (by decide)) ?_
  refine x_aload (pc' := 75) rfl rfl rfl ?_
  refine x_getR (pc' := 78) rfl rfl rfl (tw_lt h1) (tw_tg h1) (tw_l h1 (by decide)) rfl (tw_R h1 2 (by decide)) ?_
  refine x_callS (pc' := 81) (d1 := 1) (As := [_, _]) rfl rfl rfl rfl (by decide) rfl rfl (Nat.le_of_ble_eq_true rfl) ⟨rfl, rfl⟩ (by decide) ?_
  refine w_X7_copyRow (tw_alt h2 2 (by decide)) (tw_alt h1 2 (by decide)) (tw_a h2 2 (by decide)).1 (tw_a h1 2 (by decide)).1 (tw_a h2 2 (by decide)).2 (tw_a h1 2 (by decide)).2 (by decide) (by omega) (fun D3 g3 f3 => ?_)
  have p4 := p3.step hf (by decide) g3 f3
  refine ⟨rfl, ?_⟩
  refine x_aload (pc' := 82) rfl rfl rfl ?_
  refine x_getR (pc' := 85) rfl rfl rfl (tw_lt h2) (tw_tg h2) (tw_l h2 (by decide)) rfl (tw_R h2 3 (by decide)) ?_
  refine x_aload (pc' := 86) rfl rfl rfl ?_
  refine x_getR (pc' := 89) rfl rfl rfl (tw_lt h1) (tw_tg h1) (tw_l h1 (by decide)) rfl (tw_R h1 3 (by decide)) ?_
  refine x_callS (pc' := 92) (d1 := 1) (As := [_, _]) rfl rfl rfl rfl (by decide) rfl rfl (Nat.le_of_ble_eq_true rfl) ⟨rfl, rfl⟩ (by decide) ?_
  refine w_X7_copyRow (tw_alt h2 3 (by decide)) (tw_alt h1 3 (by decide)) (tw_a h2 3 (by decide)).1 (tw_a h1 3 (by decide)).1 (tw_a h2 3 (by decide)).2 (tw_a h1 3 (by decide)).2 (by decide) (by omega) (fun D4 g4 f4 => ?_)
  have p5 := p4.step hf (by decide) g4 f4
  refine ⟨rfl, ?_⟩
  refine x_aload (pc' := 93) rfl rfl rfl ?_
  refine x_getR (pc' := 96) rfl rfl rfl (tw_lt h2) (tw_tg h2) (tw_l h2 (by decide)) rfl (tw_R h2 4 (by decide)) ?_
  refine x_aload (pc' := 97) rfl rfl rfl ?_
  refine x_getR (pc' := 100) rfl rfl rfl (tw_lt h1) (tw_tg h1) (tw_l h1 (by decide)) rfl (tw_R h1 4 (by decide)) ?_
  refine x_callS (pc' := 103) (d1 := 1) (As := [_, _]) rfl rfl rfl rfl (by decide) rfl rfl (Nat.le_of_ble_eq_true rfl) ⟨rfl, rfl⟩ (by decide) ?_
  refine w_X7_copyRow (tw_alt h2 4 (by decide)) (tw_alt h1 4 (by decide)) (tw_a h2 4 (by decide)).1 (tw_a h1 4 (by decide)).1 (tw_a h2 4 (by decide)).2 (tw_a h1 4 (by decide)).2 (by decide) (by omega) (fun D5 g5 f5 => ?_)
  have p6 := p5.step hf (by decide) g5 f5
  refine ⟨rfl, ?_⟩
  refine x_aload (pc' := 104) rfl rfl rfl ?_
  refine x_getR (pc' := 107) rfl rfl rfl (tw_lt h2) (tw_tg h2) (tw_l h2 (by decide)) rfl (tw_R h2 5 (by decide)) ?_
  refine x_aload (pc' := 108) rfl rfl rfl ?_
  refine x_getR (pc' := 111) rfl rfl rfl (tw_lt h1) (tw_tg h1) (tw_l h1 (by decide)) rfl (tw_R h1 5 (by decide)) ?_
  refine x_callS (pc' := 114) (d1 := 1) (As := [_, _]) rfl rfl rfl rfl (by decide) rfl rfl (Nat.le_of_ble_eq_true rfl) ⟨rfl, rfl⟩ (by decide) ?_
  refine w_X7_copyRow (tw_alt h2 5 (by decide)) (tw_alt h1 5 (by decide)) (tw_a h2 5 (by decide)).1 (tw_a h1 5 (by decide)).1 (tw_a h2 5 (by decide)).2 (tw_a h1 5 (by decide)).2 (by decide) (by omega) (fun D6 g6 f6 => ?_)
  have p7 := p6.step hf (by decide) g6 f6
  refine ⟨rfl, ?_⟩
  refine x_aload (pc' := 115) rfl rfl rfl ?_
  refine x_getR (pc' := 118) rfl rfl rfl (tw_lt h2) (tw_tg h2) (tw_l h2 (by decide)) rfl (tw_R h2 6 (by decide)) ?_
  refine x_aload (pc' := 119) rfl rfl rfl ?_
  refine x_getR (pc' := 122) rfl rfl rfl (tw_lt h1) (tw_tg h1) (tw_l h1 (by decide)) rfl (tw_R h1 6 (by decide)) ?_
  refine x_callS (pc' := 125) (d1 := 1) (As := [_, _]) rfl rfl rfl rfl (by decide) rfl rfl (Nat.le_of_ble_eq_true rfl) ⟨rfl, rfl⟩ (by decide) ?_
  refine w_X7_copyRow (tw_alt h2 6 (by decide)) (tw_alt h1 6 (by decide)) (tw_a h2 6 (by decide)).1 (tw_a h1 6 (by decide)).1 (tw_a h2 6 (by decide)).2 (tw_a h1 6 (by decide)).2 (by decide) (by omega) (fun D7 g7 f7 => ?_)
  have p8 := p7.step hf (by decide) g7 f7
  refine ⟨rfl, ?_⟩
  refine x_aload (pc' := 126) rfl rfl rfl ?_
  refine x_getR (pc' := 129) rfl rfl rfl (tw_lt h2) (tw_tg h2) (tw_l h2 (by decide)) rfl (tw_R h2 7 (by decide)) ?_
  refine x_aload (pc' := 130) rfl rfl rfl ?_
  refine x_getR (pc' := 133) rfl rfl rfl (tw_lt h1) (tw_tg h1) (tw_l h1 (by decide)) rfl (tw_R h1 7 (by decide)) ?_
  refine x_callS (pc' := 136) (d1 := 1) (As := [_, _]) rfl rfl rfl rfl (by decide) rfl rfl (Nat.le_of_ble_eq_true rfl) ⟨rfl, rfl⟩ (by decide) ?_
  refine w_X7_copyRow (tw_alt h2 7 (by decide)) (tw_alt h1 7 (by decide)) (tw_a h2 7 (by decide)).1 (tw_a h1 7 (by decide)).1 (tw_a h2 7 (by decide)).2 (tw_a h1 7 (by decide)).2 (by decide) (by omega) (fun D8 g8 f8 => ?_)
  have p9 := p8.step hf (by decide) g8 f8
  refine ⟨rfl, ?_⟩
  refine x_aload (pc' := 137) rfl rfl rfl ?_
  refine x_getR (pc' := 140) rfl rfl rfl (tw_lt h2) (tw_tg h2) (tw_l h2 (by decide)) rfl (tw_R h2 8 (by decide)) ?_
  refine x_aload (pc' := 141) rfl rfl rfl ?_
  refine x_getR (pc' := 144) rfl rfl rfl (tw_lt h1) (tw_tg h1) (tw_l h1 (by decide)) rfl (tw_R h1 8 (by decide)) ?_
  refine x_callS (pc' := 147) (d1 := 1) (As := [_, _]) rfl rfl rfl rfl (by decide) rfl rfl (Nat.le_of_ble_eq_true rfl) ⟨rfl, rfl⟩ (by decide) ?_
  refine w_X7_copyRow (tw_alt h2 8 (by decide)) (tw_alt h1 8 (by decide)) (tw_a h2 8 (by decide)).1 (tw_a h1 8 (by decide)).1 (tw_a h2 8 (by decide)).2 (tw_a h1 8 (by decide)).2 (by decide) (by omega) (fun D9 g9 f9 => ?_)
  have p10 := p9.step hf (by decide) g9 f9
  refine ⟨rfl, ?_⟩
  refine x_aload (pc' := 148) rfl rfl rfl ?_
  refine x_getR (pc' := 151) rfl rfl rfl (tw_lt h2) (tw_tg h2) (tw_l h2 (by decide)) rfl (tw_R h2 9 (by decide)) ?_
  refine x_aload (pc' := 152) rfl rfl rfl ?_
  refine x_getR (pc' := 155) rfl rfl rfl (tw_lt h1) (tw_tg h1) (tw_l h1 (by decide)) rfl (tw_R h1 9 (by decide)) ?_
  refine x_callS (pc' := 158) (d1 := 1) (As := [_, _]) rfl rfl rfl rfl (by decide) rfl rfl (Nat.le_of_ble_eq_true rfl) ⟨rfl, rfl⟩ (by decide) ?_
  refine w_X7_copyRow (tw_alt h2 9 (by decide)) (tw_alt h1 9 (by decide)) (tw_a h2 9 (by decide)).1 (tw_a h1 9 (by decide)).1 (tw_a h2 9 (by decide)).2 (tw_a h1 9 (by decide)).2 (by decide) (by omega) (fun D10 g10 f10 => ?_)
  have p11 := p10.step hf (by decide) g10 f10
  refine ⟨rfl, ?_⟩
  refine x_aload (pc' := 159) rfl rfl rfl ?_
  refine x_getR (pc' := 162) rfl rfl rfl (tw_lt h2) (tw_tg h2) (tw_l h2 (by decide)) rfl (tw_R h2 10 (by decide)) ?_
  refine x_aload (pc' := 163) rfl rfl rfl ?_
  refine x_getR (pc' := 166) rfl rfl rfl (tw_lt h1) (tw_tg h1) (tw_l h1 (by decide)) rfl (tw_R h1 10 (by decide)) ?_
  refine x_callS (pc' := 169) (d1 := 1) (As := [_, _]) rfl rfl rfl rfl (by decide) rfl rfl (Nat.le_of_ble_eq_true rfl) ⟨rfl, rfl⟩ (by decide) ?_
  refine w_X7_copyRow (tw_alt h2 10 (by decide)) (tw_alt h1 10 (by decide)) (tw_a h2 10 (by decide)).1 (tw_a h1 10 (by decide)).1 (tw_a h2 10 (by decide)).2 (tw_a h1 10 (by decide)).2 (by decide) (by omega) (fun D11 g11 f11 => ?_)
  have p12 := p11.step hf (by decide) g11 f11
  refine ⟨rfl, ?_⟩
  refine x_aload (pc' := 170) rfl rfl rfl ?_
  refine x_getR (pc' := 173) rfl rfl rfl (tw_lt h2) (tw_tg h2) (tw_l h2 (by decide)) rfl (tw_R h2 11 (by decide)) ?_
  refine x_aload (pc' := 174) rfl rfl rfl ?_
  refine x_getR (pc' := 177) rfl rfl rfl (tw_lt h1) (tw_tg h1) (tw_l h1 (by decide)) rfl (tw_R h1 11 (by decide)) ?_
  refine x_callS (pc' := 180) (d1 := 1) (As := [_, _]) rfl rfl rfl rfl (by decide) rfl rfl (Nat.le_of_ble_eq_true rfl) ⟨rfl, rfl⟩ (by decide) ?_
  refine w_X7_copyRow (tw_alt h2 11 (by decide)) (tw_alt h1 11 (by decide)) (tw_a h2 11 (by decide)).1 (tw_a h1 11 (by decide)).1 (tw_a h2 11 (by decide)).2 (tw_a h1 11 (by decide)).2 (by decide) (by omega) (fun D12 g12 f12 => ?_)
  have p13 := p12.step hf (by decide) g12 f12
  refine ⟨rfl, ?_⟩
  refine x_vret rfl rfl ?_
  exact k1 _ p13
