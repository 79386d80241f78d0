/-! ===== untangle ===== -/
abbrev lZ : Int64 := (nI 0).toInt64
abbrev lM : Int64 := (-1 : Int32).toInt64
def wayS (s t : Nat) (f : Nat → Int64) (k : Nat) : Int64 := (if s = 0 ∨ k = 0 then lZ else f (k - 1)) + (if t = 0 then lZ else f k)
def wayB (T : TW) (w b i : Nat) : Nat := if toI (lnO T w b (i % lng T b)) = nI (sn T i) then 1 else 0
def wayF (T : TW) (w u b : Nat) : Nat → Nat → Int64
  | 0 => fun k => if k = 0 then (nI 1).toInt64 else lZ
  | i + 1 => wayS (wayB T w b i) (wayB T u b i) (wayF T w u b i)
theorem lZZ : lZ + lZ = lZ := by decide
theorem wayF_out {T : TW} {w u b : Nat} : ∀ (i k : Nat), i < k → wayF T w u b i k = lZ := by
  intro i
  induction i with
  | zero => intro k hk; exact if_neg (by omega)
  | succ i ih =>
    intro k hk
    show wayS _ _ (wayF T w u b i) k = lZ
    unfold wayS
    rw [ih (k - 1) (by omega), ih k (by omega)]
    split <;> split <;> exact lZZ
def untangleQ (T : TW) (x x' y v : Int32) : Int64 := onN (nw T) x lM fun w => onN (nw T) x' lM fun u => if w = u then lM else onN (nb T) y lM fun b => onN (ns T + 1) v lZ fun n => wayF T w u b (ns T) n
theorem wayB_lt (T : TW) (w b i : Nat) : wayB T w b i < 2 := by unfold wayB; split <;> decide
theorem wayB_1 {T : TW} {w b i : Nat} (h : toI (lnO T w b (i % lng T b)) = nI (sn T i)) : wayB T w b i = 1 := if_pos h
theorem wayB_0 {T : TW} {w b i : Nat} (h : ¬ toI (lnO T w b (i % lng T b)) = nI (sn T i)) : wayB T w b i = 0 := if_neg h
set_option maxRecDepth 20000 in
set_option maxHeartbeats 1000000 in
theorem l1_X9_countWays {Q : bh_Q} {d : Nat} {D : Nat → Nat → Int32} {w u b i q s6 s7 : Nat} {x4 : Int32} (hs6 : s6 < 2) (hs7 : s7 < 2) {f : Nat → Int64} (kE : ∀ (L : Nat → Nat → Int64) (v : Int32) (a9 : Value) (a10 : Value) (a11 : Value) (a12 : Value), (∀ j, j < 17 → L 48 j = wayS s6 s7 f j) → bw m_X9_countWays d Q 186 [.ref 0, .int (nI w), .int (nI u), .int (nI b), .int (nI i), .int (nI q), .int (nI s6), .int (nI s7), .int v, a9, a10, a11, a12] [] D L) : ∀ (n : Nat) (L : Nat → Nat → Int64) (v : Int32) (a9 : Value) (a10 : Value) (a11 : Value) (a12 : Value), n ≤ 17 → v = nI n - 1 → (∀ j, j < n → L 48 j = f j) → (∀ j, n ≤ j → j < 17 → L 48 j = wayS s6 s7 f j) → bw m_X9_countWays d Q 120 [.ref 0, .int (nI w), .int (nI u), .int (nI b), .int (nI i), .int (nI q), .int (nI s6), .int (nI s7), .int v, a9, a10, a11, a12] [] D L := by
  intro n
  induction n with
  | zero =>
    intro L v a9 a10 a11 a12 hn hv hO hN
    refine x_iload (pc' := 122) rfl rfl rfl ?_
    refine x_if_lt (pc' := 125) rfl rfl (fun c122 => ?_) (fun c122 => ?_)
    · exact kE L _ _ _ _ _ (fun j hj => hN j (Nat.zero_le _) hj)
    · exact absurd (by rw [hv]; exact sub1_lt (by omega)) c122
  | succ n ih =>
    intro L v a9 a10 a11 a12 hn hv hO hN
    have hv : v = nI n := by rw [hv]; exact nI_pred _
    subst hv
    refine x_iload (pc' := 122) rfl rfl rfl ?_
    refine y_if_lt (pc' := 125) rfl rfl (by omega) ?_
    refine x_iload (pc' := 127) rfl rfl rfl ?_
    refine y_if_eq (pc' := 130) rfl rfl (by omega) (fun c127 => ?_) (fun c127 => ?_)
    · refine x_long (pc' := 141) (v := (nI 0).toInt64) rfl rfl (by decide) ?_
      refine x_lstore (pc' := 143) (lv' := [_, _, _, _, _, _, _, _, _, _, _, _, _]) rfl rfl (by decide) rfl ?_
      refine x_iload (pc' := 145) rfl rfl rfl ?_
      refine y_if_eq (pc' := 148) rfl rfl (by omega) (fun c145 => ?_) (fun c145 => ?_)
      · refine x_long (pc' := 166) (v := (nI 0).toInt64) rfl rfl (by decide) ?_
        refine x_lstore (pc' := 168) (lv' := [_, _, _, _, _, _, _, _, _, _, _, _, _]) rfl rfl (by decide) rfl ?_
        refine x_aload (pc' := 169) rfl rfl rfl ?_
        refine x_getR (pc' := 172) rfl rfl rfl (by decide) rfl (by decide) rfl rfl ?_
        refine x_iload (pc' := 174) rfl rfl rfl ?_
        refine x_lload (pc' := 176) rfl rfl rfl ?_
        refine x_lload (pc' := 178) rfl rfl rfl ?_
        refine x_ladd (pc' := 179) rfl rfl ?_
        refine x_last (pc' := 180) rfl rfl (by decide) rfl (by decide) (show _ < 17 by omega) ?_
        refine x_iinc (pc' := 183) (w := (-1)) (lv' := [_, _, _, _, _, _, _, _, _, _, _, _, _]) rfl rfl rfl rfl (by decide) (add_m1 _) rfl ?_
        refine x_goto rfl ?_
        refine ih _ (nI n - 1) _ _ _ _ (by omega) rfl (fun j hj => ?_) (fun j hj hj2 => ?_)
        · rw [up2_at, if_neg (fun e => absurd e.2 (by omega))]; exact hO j (by omega)
        · rw [up2_at]
          by_cases e : j = n
          · subst e
            rw [if_pos ⟨rfl, rfl⟩]
            unfold wayS
            first
              | (rw [if_pos (Or.inl c145), if_pos c127])
              | (rw [if_pos (Or.inl c145), if_neg c127, ← hO _ (by omega)])
              | (rw [if_pos (Or.inr c150), if_pos c127])
              | (rw [if_pos (Or.inr c150), if_neg c127, ← hO _ (by omega)])
              | (rw [if_neg (fun z => z.elim c145 (Nat.pos_iff_ne_zero.mp c150)), if_pos c127, ← hO _ (by omega)])
              | (rw [if_neg (fun z => z.elim c145 (Nat.pos_iff_ne_zero.mp c150)), if_neg c127, ← hO j (by omega), ← hO (j - 1) (by omega)])
          · rw [if_neg (fun z => e z.2)]; exact hN j (by omega) hj2
      · refine x_iload (pc' := 150) rfl rfl rfl ?_
        refine y_if_le (pc' := 153) rfl rfl (by omega) (fun c150 => ?_) (fun c150 => ?_)
        · refine x_long (pc' := 166) (v := (nI 0).toInt64) rfl rfl (by decide) ?_
          refine x_lstore (pc' := 168) (lv' := [_, _, _, _, _, _, _, _, _, _, _, _, _]) rfl rfl (by decide) rfl ?_
          refine x_aload (pc' := 169) rfl rfl rfl ?_
          refine x_getR (pc' := 172) rfl rfl rfl (by decide) rfl (by decide) rfl rfl ?_
          refine x_iload (pc' := 174) rfl rfl rfl ?_
          refine x_lload (pc' := 176) rfl rfl rfl ?_
          refine x_lload (pc' := 178) rfl rfl rfl ?_
          refine x_ladd (pc' := 179) rfl rfl ?_
          refine x_last (pc' := 180) rfl rfl (by decide) rfl (by decide) (show _ < 17 by omega) ?_
          refine x_iinc (pc' := 183) (w := (-1)) (lv' := [_, _, _, _, _, _, _, _, _, _, _, _, _]) rfl rfl rfl rfl (by decide) (add_m1 _) rfl ?_
          refine x_goto rfl ?_
          refine ih _ (nI n - 1) _ _ _ _ (by omega) rfl (fun j hj => ?_) (fun j hj hj2 => ?_)
          · rw [up2_at, if_neg (fun e => absurd e.2 (by omega))]; exact hO j (by omega)
          · rw [up2_at]
            by_cases e : j = n
            · subst e
              rw [if_pos ⟨rfl, rfl⟩]
              unfold wayS
              first
                | (rw [if_pos (Or.inl c145), if_pos c127])
                | (rw [if_pos (Or.inl c145), if_neg c127, ← hO _ (by omega)])
                | (rw [if_pos (Or.inr c150), if_pos c127])
                | (rw [if_pos (Or.inr c150), if_neg c127, ← hO _ (by omega)])
                | (rw [if_neg (fun z => z.elim c145 (Nat.pos_iff_ne_zero.mp c150)), if_pos c127, ← hO _ (by omega)])
                | (rw [if_neg (fun z => z.elim c145 (Nat.pos_iff_ne_zero.mp c150)), if_neg c127, ← hO j (by omega), ← hO (j - 1) (by omega)])
            · rw [if_neg (fun z => e z.2)]; exact hN j (by omega) hj2
        · refine x_aload (pc' := 154) rfl rfl rfl ?_
          refine x_getR (pc' := 157) rfl rfl rfl (by decide) rfl (by decide) rfl rfl ?_
          refine x_iload (pc' := 159) rfl rfl rfl ?_
          refine x_int (pc' := 160) (v := nI 1) rfl rfl rfl ?_
          refine y_isub (pc' := 161) rfl rfl (by omega) ?_
          refine x_lald (pc' := 162) rfl rfl (by decide) rfl (by decide) (show _ < 17 by omega) ?_
          refine x_goto rfl ?_
          refine x_lstore (pc' := 168) (lv' := [_, _, _, _, _, _, _, _, _, _, _, _, _]) rfl rfl (by decide) rfl ?_
          refine x_aload (pc' := 169) rfl rfl rfl ?_
          refine x_getR (pc' := 172) rfl rfl rfl (by decide) rfl (by decide) rfl rfl ?_
          refine x_iload (pc' := 174) rfl rfl rfl ?_
          refine x_lload (pc' := 176) rfl rfl rfl ?_
          refine x_lload (pc' := 178) rfl rfl rfl ?_
          refine x_ladd (pc' := 179) rfl rfl ?_
          refine x_last (pc' := 180) rfl rfl (by decide) rfl (by decide) (show _ < 17 by omega) ?_
          refine x_iinc (pc' := 183) (w := (-1)) (lv' := [_, _, _, _, _, _, _, _, _, _, _, _, _]) rfl rfl rfl rfl (by decide) (add_m1 _) rfl ?_
          refine x_goto rfl ?_
          refine ih _ (nI n - 1) _ _ _ _ (by omega) rfl (fun j hj => ?_) (fun j hj hj2 => ?_)
          · rw [up2_at, if_neg (fun e => absurd e.2 (by omega))]; exact hO j (by omega)
          · rw [up2_at]
            by_cases e : j = n
            · subst e
              rw [if_pos ⟨rfl, rfl⟩]
              unfold wayS
              first
                | (rw [if_pos (Or.inl c145), if_pos c127])
                | (rw [if_pos (Or.inl c145), if_neg c127, ← hO _ (by omega)])
                | (rw [if_pos (Or.inr c150), if_pos c127])
                | (rw [if_pos (Or.inr c150), if_neg c127, ← hO _ (by omega)])
                | (rw [if_neg (fun z => z.elim c145 (Nat.pos_iff_ne_zero.mp c150)), if_pos c127, ← hO _ (by omega)])
                | (rw [if_neg (fun z => z.elim c145 (Nat.pos_iff_ne_zero.mp c150)), if_neg c127, ← hO j (by omega), ← hO (j - 1) (by omega)])
            · rw [if_neg (fun z => e z.2)]; exact hN j (by omega) hj2
    · refine x_aload (pc' := 131) rfl rfl rfl ?_
      refine x_getR (pc' := 134) rfl rfl rfl (by decide) rfl (by decide) rfl rfl ?_
      refine x_iload (pc' := 136) rfl rfl rfl ?_
      refine x_lald (pc' := 137) rfl rfl (by decide) rfl (by decide) (show _ < 17 by omega) ?_
      refine x_goto rfl ?_
      refine x_lstore (pc' := 143) (lv' := [_, _, _, _, _, _, _, _, _, _, _, _, _]) rfl rfl (by decide) rfl ?_
      refine x_iload (pc' := 145) rfl rfl rfl ?_
      refine y_if_eq (pc' := 148) rfl rfl (by omega) (fun c145 => ?_) (fun c145 => ?_)
      · refine x_long (pc' := 166) (v := (nI 0).toInt64) rfl rfl (by decide) ?_
        refine x_lstore (pc' := 168) (lv' := [_, _, _, _, _, _, _, _, _, _, _, _, _]) rfl rfl (by decide) rfl ?_
        refine x_aload (pc' := 169) rfl rfl rfl ?_
        refine x_getR (pc' := 172) rfl rfl rfl (by decide) rfl (by decide) rfl rfl ?_
        refine x_iload (pc' := 174) rfl rfl rfl ?_
        refine x_lload (pc' := 176) rfl rfl rfl ?_
        refine x_lload (pc' := 178) rfl rfl rfl ?_
        refine x_ladd (pc' := 179) rfl rfl ?_
        refine x_last (pc' := 180) rfl rfl (by decide) rfl (by decide) (show _ < 17 by omega) ?_
        refine x_iinc (pc' := 183) (w := (-1)) (lv' := [_, _, _, _, _, _, _, _, _, _, _, _, _]) rfl rfl rfl rfl (by decide) (add_m1 _) rfl ?_
        refine x_goto rfl ?_
        refine ih _ (nI n - 1) _ _ _ _ (by omega) rfl (fun j hj => ?_) (fun j hj hj2 => ?_)
        · rw [up2_at, if_neg (fun e => absurd e.2 (by omega))]; exact hO j (by omega)
        · rw [up2_at]
          by_cases e : j = n
          · subst e
            rw [if_pos ⟨rfl, rfl⟩]
            unfold wayS
            first
              | (rw [if_pos (Or.inl c145), if_pos c127])
              | (rw [if_pos (Or.inl c145), if_neg c127, ← hO _ (by omega)])
              | (rw [if_pos (Or.inr c150), if_pos c127])
              | (rw [if_pos (Or.inr c150), if_neg c127, ← hO _ (by omega)])
              | (rw [if_neg (fun z => z.elim c145 (Nat.pos_iff_ne_zero.mp c150)), if_pos c127, ← hO _ (by omega)])
              | (rw [if_neg (fun z => z.elim c145 (Nat.pos_iff_ne_zero.mp c150)), if_neg c127, ← hO j (by omega), ← hO (j - 1) (by omega)])
          · rw [if_neg (fun z => e z.2)]; exact hN j (by omega) hj2
      · refine x_iload (pc' := 150) rfl rfl rfl ?_
        refine y_if_le (pc' := 153) rfl rfl (by omega) (fun c150 => ?_) (fun c150 => ?_)
        · refine x_long (pc' := 166) (v := (nI 0).toInt64) rfl rfl (by decide) ?_
          refine x_lstore (pc' := 168) (lv' := [_, _, _, _, _, _, _, _, _, _, _, _, _]) rfl rfl (by decide) rfl ?_
          refine x_aload (pc' := 169) rfl rfl rfl ?_
          refine x_getR (pc' := 172) rfl rfl rfl (by decide) rfl (by decide) rfl rfl ?_
          refine x_iload (pc' := 174) rfl rfl rfl ?_
          refine x_lload (pc' := 176) rfl rfl rfl ?_
          refine x_lload (pc' := 178) rfl rfl rfl ?_
          refine x_ladd (pc' := 179) rfl rfl ?_
          refine x_last (pc' := 180) rfl rfl (by decide) rfl (by decide) (show _ < 17 by omega) ?_
          refine x_iinc (pc' := 183) (w := (-1)) (lv' := [_, _, _, _, _, _, _, _, _, _, _, _, _]) rfl rfl rfl rfl (by decide) (add_m1 _) rfl ?_
          refine x_goto rfl ?_
          refine ih _ (nI n - 1) _ _ _ _ (by omega) rfl (fun j hj => ?_) (fun j hj hj2 => ?_)
          · rw [up2_at, if_neg (fun e => absurd e.2 (by omega))]; exact hO j (by omega)
          · rw [up2_at]
            by_cases e : j = n
            · subst e
              rw [if_pos ⟨rfl, rfl⟩]
              unfold wayS
              first
                | (rw [if_pos (Or.inl c145), if_pos c127])
                | (rw [if_pos (Or.inl c145), if_neg c127, ← hO _ (by omega)])
                | (rw [if_pos (Or.inr c150), if_pos c127])
                | (rw [if_pos (Or.inr c150), if_neg c127, ← hO _ (by omega)])
                | (rw [if_neg (fun z => z.elim c145 (Nat.pos_iff_ne_zero.mp c150)), if_pos c127, ← hO _ (by omega)])
                | (rw [if_neg (fun z => z.elim c145 (Nat.pos_iff_ne_zero.mp c150)), if_neg c127, ← hO j (by omega), ← hO (j - 1) (by omega)])
            · rw [if_neg (fun z => e z.2)]; exact hN j (by omega) hj2
        · refine x_aload (pc' := 154) rfl rfl rfl ?_
          refine x_getR (pc' := 157) rfl rfl rfl (by decide) rfl (by decide) rfl rfl ?_
          refine x_iload (pc' := 159) rfl rfl rfl ?_
          refine x_int (pc' := 160) (v := nI 1) rfl rfl rfl ?_
          refine y_isub (pc' := 161) rfl rfl (by omega) ?_
          refine x_lald (pc' := 162) rfl rfl (by decide) rfl (by decide) (show _ < 17 by omega) ?_
          refine x_goto rfl ?_
          refine x_lstore (pc' := 168) (lv' := [_, _, _, _, _, _, _, _, _, _, _, _, _]) rfl rfl (by decide) rfl ?_
          refine x_aload (pc' := 169) rfl rfl rfl ?_
          refine x_getR (pc' := 172) rfl rfl rfl (by decide) rfl (by decide) rfl rfl ?_
          refine x_iload (pc' := 174) rfl rfl rfl ?_
          refine x_lload (pc' := 176) rfl rfl rfl ?_
          refine x_lload (pc' := 178) rfl rfl rfl ?_
          refine x_ladd (pc' := 179) rfl rfl ?_
          refine x_last (pc' := 180) rfl rfl (by decide) rfl (by decide) (show _ < 17 by omega) ?_
          refine x_iinc (pc' := 183) (w := (-1)) (lv' := [_, _, _, _, _, _, _, _, _, _, _, _, _]) rfl rfl rfl rfl (by decide) (add_m1 _) rfl ?_
          refine x_goto rfl ?_
          refine ih _ (nI n - 1) _ _ _ _ (by omega) rfl (fun j hj => ?_) (fun j hj hj2 => ?_)
          · rw [up2_at, if_neg (fun e => absurd e.2 (by omega))]; exact hO j (by omega)
          · rw [up2_at]
            by_cases e : j = n
            · subst e
              rw [if_pos ⟨rfl, rfl⟩]
              unfold wayS
              first
                | (rw [if_pos (Or.inl c145), if_pos c127])
                | (rw [if_pos (Or.inl c145), if_neg c127, ← hO _ (by omega)])
                | (rw [if_pos (Or.inr c150), if_pos c127])
                | (rw [if_pos (Or.inr c150), if_neg c127, ← hO _ (by omega)])
                | (rw [if_neg (fun z => z.elim c145 (Nat.pos_iff_ne_zero.mp c150)), if_pos c127, ← hO _ (by omega)])
                | (rw [if_neg (fun z => z.elim c145 (Nat.pos_iff_ne_zero.mp c150)), if_neg c127, ← hO j (by omega), ← hO (j - 1) (by omega)])
            · rw [if_neg (fun z => e z.2)]; exact hN j (by omega) hj2
set_option maxRecDepth 20000 in
set_option maxHeartbeats 1000000 in
theorem l0_X9_countWays {L : Nat → Nat → Int64} {Q : bh_Q} {d : Nat} (hd : 0 ≤ d) {w u b : Nat} {a5 a6 a7 a8 a9 a10 a11 a12 : Value} {D0 : Nat → Nat → Int32} (kE : ∀ L : Nat → Nat → Int64, (∀ j, j < 17 → L 48 j = lZ) → bw m_X9_countWays d Q 24 [.ref 0, .int (nI w), .int (nI u), .int (nI b), .int (nI 17), a5, a6, a7, a8, a9, a10, a11, a12] [] D0 L) : ∀ (f i : Nat) (D : Nat → Nat → Int32) (L : Nat → Nat → Int64), i + f = 17 → (D0 = D) → (∀ j, j < i → L 48 j = lZ) → bw m_X9_countWays d Q 3 [.ref 0, .int (nI w), .int (nI u), .int (nI b), .int (nI i), a5, a6, a7, a8, a9, a10, a11, a12] [] D L := by
  intro f
  induction f with
  | zero =>
    intro i D L hf hD h0
    subst hD
    refine x_iload (pc' := 5) rfl rfl rfl ?_
    refine x_int (pc' := 7) (v := nI 16) rfl rfl rfl ?_
    refine y_ic_gt (pc' := 10) rfl rfl (by omega) (by omega) (fun c7 => ?_) (fun c7 => ?_)
    · obtain rfl : i = 17 := by omega
      exact kE L h0
    · exact absurd c7 (by omega)
  | succ f ih =>
    intro i D L hf hD h0
    subst hD
    refine x_iload (pc' := 5) rfl rfl rfl ?_
    refine x_int (pc' := 7) (v := nI 16) rfl rfl rfl ?_
    refine y_ic_gt (pc' := 10) rfl rfl (by omega) (by omega) (fun c7 => ?_) (fun c7 => ?_)
    · exact absurd c7 (by omega)
    · refine x_aload (pc' := 11) rfl rfl rfl ?_
      refine x_getR (pc' := 14) rfl rfl rfl (by decide) rfl (by decide) rfl rfl ?_
      refine x_iload (pc' := 16) rfl rfl rfl ?_
      refine x_long (pc' := 17) (v := (nI 0).toInt64) rfl rfl (by decide) ?_
      refine x_last (pc' := 18) rfl rfl (by decide) rfl (by decide) (show _ < 17 by omega) ?_
      refine y_inc (pc' := 21) (lv' := [_, _, _, _, _, _, _, _, _, _, _, _, _]) rfl rfl rfl (by decide) rfl ?_
      refine x_goto rfl ?_
      refine ih (i + 1) D0 _ (by omega) rfl (fun j hj => ?_)
      rw [up2_at]
      by_cases e : j = i
      · rw [if_pos ⟨rfl, e⟩]
      · rw [if_neg (fun z => e z.2)]; exact h0 j (by omega)
set_option maxRecDepth 20000 in
set_option maxHeartbeats 1000000 in
theorem l2_X9_countWays {L : Nat → Nat → Int64} {Q : bh_Q} {d : Nat} (hd : 4 ≤ d) {T : TW} (hW : WF T) {D0 : Nat → Nat → Int32} {w u b : Nat} (hw : w < nw T) (hu : u < nw T) (hb : b < nb T) (kE : ∀ D L, OffH D0 D → (∀ j, j < 17 → L 48 j = wayF T w u b (ns T) j) → Q none (hp D L)) : ∀ (f i : Nat) (D : Nat → Nat → Int32) (L : Nat → Nat → Int64) (a5 : Value) (a6 : Value) (a7 : Value) (a8 : Value) (a9 : Value) (a10 : Value) (a11 : Value) (a12 : Value), i + f = ns T → (OffH D0 D) → (tv D = T) → (∀ j, j < 17 → L 48 j = wayF T w u b i j) → bw m_X9_countWays d Q 34 [.ref 0, .int (nI w), .int (nI u), .int (nI b), .int (nI i), a5, a6, a7, a8, a9, a10, a11, a12] [] D L := by
  intro f
  induction f with
  | zero =>
    intro i D L a5 a6 a7 a8 a9 a10 a11 a12 hf o hT hO
    subst hT
    have h12 := hW.nwl
    have h16 := hW.nsl
    have hq : i % lng (tv D) b < lng (tv D) b := Nat.mod_lt _ (hW.lng0 hb)
    have h8 := hW.lngl hb
    refine x_iload (pc' := 36) rfl rfl rfl ?_
    refine x_aload (pc' := 37) rfl rfl rfl ?_
    refine x_getR (pc' := 40) rfl rfl rfl (by decide) rfl (by decide) rfl rfl ?_
    refine x_getI (j := 2) (pc' := 43) rfl rfl rfl (by decide) rfl (by decide) rfl rfl ?_
    refine x_top (hW.ens) ?_
    refine y_ic_ge (pc' := 46) rfl rfl (by omega) (by omega) (fun c43 => ?_) (fun c43 => ?_)
    · refine x_vret rfl rfl ?_
      obtain rfl : i = ns (tv D) := by omega
      exact kE D L o hO
    · exact absurd c43 (by omega)
  | succ f ih =>
    intro i D L a5 a6 a7 a8 a9 a10 a11 a12 hf o hT hO
    subst hT
    have h12 := hW.nwl
    have h16 := hW.nsl
    have hq : i % lng (tv D) b < lng (tv D) b := Nat.mod_lt _ (hW.lng0 hb)
    have h8 := hW.lngl hb
    refine x_iload (pc' := 36) rfl rfl rfl ?_
    refine x_aload (pc' := 37) rfl rfl rfl ?_
    refine x_getR (pc' := 40) rfl rfl rfl (by decide) rfl (by decide) rfl rfl ?_
    refine x_getI (j := 2) (pc' := 43) rfl rfl rfl (by decide) rfl (by decide) rfl rfl ?_
    refine x_top (hW.ens) ?_
    refine y_ic_ge (pc' := 46) rfl rfl (by omega) (by omega) (fun c43 => ?_) (fun c43 => ?_)
    · exact absurd c43 (by omega)
    · refine x_aload (pc' := 47) rfl rfl rfl ?_
      refine x_getR (pc' := 50) rfl rfl rfl (by decide) rfl (by decide) rfl rfl ?_
      refine x_iload (pc' := 51) rfl rfl rfl ?_
      refine x_iload (pc' := 53) rfl rfl rfl ?_
      refine x_callV (pc' := 56) (d1 := 1) (Bs := [_, _]) rfl rfl rfl rfl rfl rfl rfl (Nat.le_of_ble_eq_true rfl) ⟨rfl, rfl⟩ (by decide) rfl (by omega) ?_
      refine w_X7_pageOfSeen hW hb (by omega) ?_
      refine ⟨rfl, ?_⟩
      refine x_istore (pc' := 58) (lv' := [_, _, _, _, _, _, _, _, _, _, _, _, _]) rfl rfl (by decide) rfl ?_
      refine x_aload (pc' := 59) rfl rfl rfl ?_
      refine x_iload (pc' := 60) rfl rfl rfl ?_
      refine x_iload (pc' := 61) rfl rfl rfl ?_
      refine x_iload (pc' := 63) rfl rfl rfl ?_
      refine x_callV (pc' := 66) (d1 := 4) (Bs := [_, _, _]) rfl rfl rfl rfl rfl rfl rfl (Nat.le_of_ble_eq_true rfl) ⟨rfl, rfl⟩ (by decide) rfl (by omega) ?_
      refine w_X9_lineOf hW hw hb hq (fun D1 o1 => ?_)
      refine ⟨rfl, ?_⟩
      refine x_aload (pc' := 67) rfl rfl rfl ?_
      refine x_getR (pc' := 70) rfl rfl rfl (by decide) rfl (by decide) rfl rfl ?_
      refine x_getR (pc' := 73) rfl rfl rfl (by decide) rfl (by decide) rfl rfl ?_
      refine x_iload (pc' := 75) rfl rfl rfl ?_
      refine x_iald (pc' := 76) rfl rfl (by decide) rfl (by decide) (show _ < 16 by omega) ?_
      refine x_top ((congrFun (congrFun o1.tv 12) i).trans (hW.esn (by omega))) ?_
      refine x_ic_ne (pc' := 79) rfl rfl (fun c76 => ?_) (fun c76 => ?_)
      · refine x_int (pc' := 84) (v := nI 0) rfl rfl rfl ?_
        refine x_istore (pc' := 86) (lv' := [_, _, _, _, _, _, _, _, _, _, _, _, _]) rfl rfl (by decide) rfl ?_
        refine x_aload (pc' := 87) rfl rfl rfl ?_
        refine x_iload (pc' := 88) rfl rfl rfl ?_
        refine x_iload (pc' := 89) rfl rfl rfl ?_
        refine x_iload (pc' := 91) rfl rfl rfl ?_
        refine x_callV (pc' := 94) (d1 := 4) (Bs := [_, _, _]) rfl rfl rfl rfl rfl rfl rfl (Nat.le_of_ble_eq_true rfl) ⟨rfl, rfl⟩ (by decide) rfl (by omega) ?_
        refine w_X9_lineOf (D := D1) (by rw [o1.tv]; exact hW) (by rw [o1.tv]; exact hu) (by rw [o1.tv]; exact hb) (by rw [o1.tv]; exact hq) (fun D2 o2 => ?_)
        refine ⟨rfl, ?_⟩
        rw [o1.tv]
        refine x_aload (pc' := 95) rfl rfl rfl ?_
        refine x_getR (pc' := 98) rfl rfl rfl (by decide) rfl (by decide) rfl rfl ?_
        refine x_getR (pc' := 101) rfl rfl rfl (by decide) rfl (by decide) rfl rfl ?_
        refine x_iload (pc' := 103) rfl rfl rfl ?_
        refine x_iald (pc' := 104) rfl rfl (by decide) rfl (by decide) (show _ < 16 by omega) ?_
        refine x_top ((congrFun (congrFun (o2.tv.trans o1.tv) 12) i).trans (hW.esn (by omega))) ?_
        refine x_ic_ne (pc' := 107) rfl rfl (fun c104 => ?_) (fun c104 => ?_)
        · refine x_int (pc' := 112) (v := nI 0) rfl rfl rfl ?_
          refine x_istore (pc' := 114) (lv' := [_, _, _, _, _, _, _, _, _, _, _, _, _]) rfl rfl (by decide) rfl ?_
          refine x_iload (pc' := 116) rfl rfl rfl ?_
          refine x_int (pc' := 117) (v := nI 1) rfl rfl rfl ?_
          refine y_iadd (pc' := 118) rfl rfl ?_
          refine x_istore (pc' := 120) (lv' := [_, _, _, _, _, _, _, _, _, _, _, _, _]) rfl rfl (by decide) rfl ?_
          first
            | (have es := wayB_1 (T := tv D) c76
               have et := wayB_1 (T := tv D) c104
               have hl := l1_X9_countWays (x4 := 0) (Q := Q) (d := d) (D := D2) (w := w) (u := u) (b := b) (i := i) (q := i % lng (tv D) b) (wayB_lt (tv D) w b i) (wayB_lt (tv D) u b i) (f := wayF (tv D) w u b i) (fun L3 v3 b9 b10 b11 b12 h3 => ?kk) (i + 2) L (nI (i + 2) - 1) a9 a10 a11 a12 (by omega) rfl (fun j hj => hO j (by omega)) (fun j hj hj2 => ?ww)
               case kk =>
                 refine y_inc (pc' := 189) (lv' := [_, _, _, _, _, _, _, _, _, _, _, _, _]) rfl rfl rfl (by decide) rfl ?_
                 refine x_goto rfl ?_
                 exact ih (i + 1) D2 L3 _ _ _ _ _ _ _ _ (by omega) ((o.tr o1).tr o2) (o2.tv.trans o1.tv) h3
               case ww =>
                 rw [hO j (by omega), wayF_out i j (by omega)]
                 exact (wayF_out (T := tv D) (w := w) (u := u) (b := b) (i + 1) j (by omega)).symm
               rw [es, et, show nI (i + 2) - 1 = nI (i + 1) from nI_pred _] at hl
               exact hl)
            | (have es := wayB_1 (T := tv D) c76
               have et := wayB_0 (T := tv D) c104
               have hl := l1_X9_countWays (x4 := 0) (Q := Q) (d := d) (D := D2) (w := w) (u := u) (b := b) (i := i) (q := i % lng (tv D) b) (wayB_lt (tv D) w b i) (wayB_lt (tv D) u b i) (f := wayF (tv D) w u b i) (fun L3 v3 b9 b10 b11 b12 h3 => ?kk) (i + 2) L (nI (i + 2) - 1) a9 a10 a11 a12 (by omega) rfl (fun j hj => hO j (by omega)) (fun j hj hj2 => ?ww)
               case kk =>
                 refine y_inc (pc' := 189) (lv' := [_, _, _, _, _, _, _, _, _, _, _, _, _]) rfl rfl rfl (by decide) rfl ?_
                 refine x_goto rfl ?_
                 exact ih (i + 1) D2 L3 _ _ _ _ _ _ _ _ (by omega) ((o.tr o1).tr o2) (o2.tv.trans o1.tv) h3
               case ww =>
                 rw [hO j (by omega), wayF_out i j (by omega)]
                 exact (wayF_out (T := tv D) (w := w) (u := u) (b := b) (i + 1) j (by omega)).symm
               rw [es, et, show nI (i + 2) - 1 = nI (i + 1) from nI_pred _] at hl
               exact hl)
            | (have es := wayB_0 (T := tv D) c76
               have et := wayB_1 (T := tv D) c104
               have hl := l1_X9_countWays (x4 := 0) (Q := Q) (d := d) (D := D2) (w := w) (u := u) (b := b) (i := i) (q := i % lng (tv D) b) (wayB_lt (tv D) w b i) (wayB_lt (tv D) u b i) (f := wayF (tv D) w u b i) (fun L3 v3 b9 b10 b11 b12 h3 => ?kk) (i + 2) L (nI (i + 2) - 1) a9 a10 a11 a12 (by omega) rfl (fun j hj => hO j (by omega)) (fun j hj hj2 => ?ww)
               case kk =>
                 refine y_inc (pc' := 189) (lv' := [_, _, _, _, _, _, _, _, _, _, _, _, _]) rfl rfl rfl (by decide) rfl ?_
                 refine x_goto rfl ?_
                 exact ih (i + 1) D2 L3 _ _ _ _ _ _ _ _ (by omega) ((o.tr o1).tr o2) (o2.tv.trans o1.tv) h3
               case ww =>
                 rw [hO j (by omega), wayF_out i j (by omega)]
                 exact (wayF_out (T := tv D) (w := w) (u := u) (b := b) (i + 1) j (by omega)).symm
               rw [es, et, show nI (i + 2) - 1 = nI (i + 1) from nI_pred _] at hl
               exact hl)
            | (have es := wayB_0 (T := tv D) c76
               have et := wayB_0 (T := tv D) c104
               have hl := l1_X9_countWays (x4 := 0) (Q := Q) (d := d) (D := D2) (w := w) (u := u) (b := b) (i := i) (q := i % lng (tv D) b) (wayB_lt (tv D) w b i) (wayB_lt (tv D) u b i) (f := wayF (tv D) w u b i) (fun L3 v3 b9 b10 b11 b12 h3 => ?kk) (i + 2) L (nI (i + 2) - 1) a9 a10 a11 a12 (by omega) rfl (fun j hj => hO j (by omega)) (fun j hj hj2 => ?ww)
               case kk =>
                 refine y_inc (pc' := 189) (lv' := [_, _, _, _, _, _, _, _, _, _, _, _, _]) rfl rfl rfl (by decide) rfl ?_
                 refine x_goto rfl ?_
                 exact ih (i + 1) D2 L3 _ _ _ _ _ _ _ _ (by omega) ((o.tr o1).tr o2) (o2.tv.trans o1.tv) h3
               case ww =>
                 rw [hO j (by omega), wayF_out i j (by omega)]
                 exact (wayF_out (T := tv D) (w := w) (u := u) (b := b) (i + 1) j (by omega)).symm
               rw [es, et, show nI (i + 2) - 1 = nI (i + 1) from nI_pred _] at hl
               exact hl)
        · refine x_int (pc' := 108) (v := nI 1) rfl rfl rfl ?_
          refine x_goto rfl ?_
          refine x_istore (pc' := 114) (lv' := [_, _, _, _, _, _, _, _, _, _, _, _, _]) rfl rfl (by decide) rfl ?_
          refine x_iload (pc' := 116) rfl rfl rfl ?_
          refine x_int (pc' := 117) (v := nI 1) rfl rfl rfl ?_
          refine y_iadd (pc' := 118) rfl rfl ?_
          refine x_istore (pc' := 120) (lv' := [_, _, _, _, _, _, _, _, _, _, _, _, _]) rfl rfl (by decide) rfl ?_
          first
            | (have es := wayB_1 (T := tv D) c76
               have et := wayB_1 (T := tv D) c104
               have hl := l1_X9_countWays (x4 := 0) (Q := Q) (d := d) (D := D2) (w := w) (u := u) (b := b) (i := i) (q := i % lng (tv D) b) (wayB_lt (tv D) w b i) (wayB_lt (tv D) u b i) (f := wayF (tv D) w u b i) (fun L3 v3 b9 b10 b11 b12 h3 => ?kk) (i + 2) L (nI (i + 2) - 1) a9 a10 a11 a12 (by omega) rfl (fun j hj => hO j (by omega)) (fun j hj hj2 => ?ww)
               case kk =>
                 refine y_inc (pc' := 189) (lv' := [_, _, _, _, _, _, _, _, _, _, _, _, _]) rfl rfl rfl (by decide) rfl ?_
                 refine x_goto rfl ?_
                 exact ih (i + 1) D2 L3 _ _ _ _ _ _ _ _ (by omega) ((o.tr o1).tr o2) (o2.tv.trans o1.tv) h3
               case ww =>
                 rw [hO j (by omega), wayF_out i j (by omega)]
                 exact (wayF_out (T := tv D) (w := w) (u := u) (b := b) (i + 1) j (by omega)).symm
               rw [es, et, show nI (i + 2) - 1 = nI (i + 1) from nI_pred _] at hl
               exact hl)
            | (have es := wayB_1 (T := tv D) c76
               have et := wayB_0 (T := tv D) c104
               have hl := l1_X9_countWays (x4 := 0) (Q := Q) (d := d) (D := D2) (w := w) (u := u) (b := b) (i := i) (q := i % lng (tv D) b) (wayB_lt (tv D) w b i) (wayB_lt (tv D) u b i) (f := wayF (tv D) w u b i) (fun L3 v3 b9 b10 b11 b12 h3 => ?kk) (i + 2) L (nI (i + 2) - 1) a9 a10 a11 a12 (by omega) rfl (fun j hj => hO j (by omega)) (fun j hj hj2 => ?ww)
               case kk =>
                 refine y_inc (pc' := 189) (lv' := [_, _, _, _, _, _, _, _, _, _, _, _, _]) rfl rfl rfl (by decide) rfl ?_
                 refine x_goto rfl ?_
                 exact ih (i + 1) D2 L3 _ _ _ _ _ _ _ _ (by omega) ((o.tr o1).tr o2) (o2.tv.trans o1.tv) h3
               case ww =>
                 rw [hO j (by omega), wayF_out i j (by omega)]
                 exact (wayF_out (T := tv D) (w := w) (u := u) (b := b) (i + 1) j (by omega)).symm
               rw [es, et, show nI (i + 2) - 1 = nI (i + 1) from nI_pred _] at hl
               exact hl)
            | (have es := wayB_0 (T := tv D) c76
               have et := wayB_1 (T := tv D) c104
               have hl := l1_X9_countWays (x4 := 0) (Q := Q) (d := d) (D := D2) (w := w) (u := u) (b := b) (i := i) (q := i % lng (tv D) b) (wayB_lt (tv D) w b i) (wayB_lt (tv D) u b i) (f := wayF (tv D) w u b i) (fun L3 v3 b9 b10 b11 b12 h3 => ?kk) (i + 2) L (nI (i + 2) - 1) a9 a10 a11 a12 (by omega) rfl (fun j hj => hO j (by omega)) (fun j hj hj2 => ?ww)
               case kk =>
                 refine y_inc (pc' := 189) (lv' := [_, _, _, _, _, _, _, _, _, _, _, _, _]) rfl rfl rfl (by decide) rfl ?_
                 refine x_goto rfl ?_
                 exact ih (i + 1) D2 L3 _ _ _ _ _ _ _ _ (by omega) ((o.tr o1).tr o2) (o2.tv.trans o1.tv) h3
               case ww =>
                 rw [hO j (by omega), wayF_out i j (by omega)]
                 exact (wayF_out (T := tv D) (w := w) (u := u) (b := b) (i + 1) j (by omega)).symm
               rw [es, et, show nI (i + 2) - 1 = nI (i + 1) from nI_pred _] at hl
               exact hl)
            | (have es := wayB_0 (T := tv D) c76
               have et := wayB_0 (T := tv D) c104
               have hl := l1_X9_countWays (x4 := 0) (Q := Q) (d := d) (D := D2) (w := w) (u := u) (b := b) (i := i) (q := i % lng (tv D) b) (wayB_lt (tv D) w b i) (wayB_lt (tv D) u b i) (f := wayF (tv D) w u b i) (fun L3 v3 b9 b10 b11 b12 h3 => ?kk) (i + 2) L (nI (i + 2) - 1) a9 a10 a11 a12 (by omega) rfl (fun j hj => hO j (by omega)) (fun j hj hj2 => ?ww)
               case kk =>
                 refine y_inc (pc' := 189) (lv' := [_, _, _, _, _, _, _, _, _, _, _, _, _]) rfl rfl rfl (by decide) rfl ?_
                 refine x_goto rfl ?_
                 exact ih (i + 1) D2 L3 _ _ _ _ _ _ _ _ (by omega) ((o.tr o1).tr o2) (o2.tv.trans o1.tv) h3
               case ww =>
                 rw [hO j (by omega), wayF_out i j (by omega)]
                 exact (wayF_out (T := tv D) (w := w) (u := u) (b := b) (i + 1) j (by omega)).symm
               rw [es, et, show nI (i + 2) - 1 = nI (i + 1) from nI_pred _] at hl
               exact hl)
      · refine x_int (pc' := 80) (v := nI 1) rfl rfl rfl ?_
        refine x_goto rfl ?_
        refine x_istore (pc' := 86) (lv' := [_, _, _, _, _, _, _, _, _, _, _, _, _]) rfl rfl (by decide) rfl ?_
        refine x_aload (pc' := 87) rfl rfl rfl ?_
        refine x_iload (pc' := 88) rfl rfl rfl ?_
        refine x_iload (pc' := 89) rfl rfl rfl ?_
        refine x_iload (pc' := 91) rfl rfl rfl ?_
        refine x_callV (pc' := 94) (d1 := 4) (Bs := [_, _, _]) rfl rfl rfl rfl rfl rfl rfl (Nat.le_of_ble_eq_true rfl) ⟨rfl, rfl⟩ (by decide) rfl (by omega) ?_
        refine w_X9_lineOf (D := D1) (by rw [o1.tv]; exact hW) (by rw [o1.tv]; exact hu) (by rw [o1.tv]; exact hb) (by rw [o1.tv]; exact hq) (fun D2 o2 => ?_)
        refine ⟨rfl, ?_⟩
        rw [o1.tv]
        refine x_aload (pc' := 95) rfl rfl rfl ?_
        refine x_getR (pc' := 98) rfl rfl rfl (by decide) rfl (by decide) rfl rfl ?_
        refine x_getR (pc' := 101) rfl rfl rfl (by decide) rfl (by decide) rfl rfl ?_
        refine x_iload (pc' := 103) rfl rfl rfl ?_
        refine x_iald (pc' := 104) rfl rfl (by decide) rfl (by decide) (show _ < 16 by omega) ?_
        refine x_top ((congrFun (congrFun (o2.tv.trans o1.tv) 12) i).trans (hW.esn (by omega))) ?_
        refine x_ic_ne (pc' := 107) rfl rfl (fun c104 => ?_) (fun c104 => ?_)
        · refine x_int (pc' := 112) (v := nI 0) rfl rfl rfl ?_
          refine x_istore (pc' := 114) (lv' := [_, _, _, _, _, _, _, _, _, _, _, _, _]) rfl rfl (by decide) rfl ?_
          refine x_iload (pc' := 116) rfl rfl rfl ?_
          refine x_int (pc' := 117) (v := nI 1) rfl rfl rfl ?_
          refine y_iadd (pc' := 118) rfl rfl ?_
          refine x_istore (pc' := 120) (lv' := [_, _, _, _, _, _, _, _, _, _, _, _, _]) rfl rfl (by decide) rfl ?_
          first
            | (have es := wayB_1 (T := tv D) c76
               have et := wayB_1 (T := tv D) c104
               have hl := l1_X9_countWays (x4 := 0) (Q := Q) (d := d) (D := D2) (w := w) (u := u) (b := b) (i := i) (q := i % lng (tv D) b) (wayB_lt (tv D) w b i) (wayB_lt (tv D) u b i) (f := wayF (tv D) w u b i) (fun L3 v3 b9 b10 b11 b12 h3 => ?kk) (i + 2) L (nI (i + 2) - 1) a9 a10 a11 a12 (by omega) rfl (fun j hj => hO j (by omega)) (fun j hj hj2 => ?ww)
               case kk =>
                 refine y_inc (pc' := 189) (lv' := [_, _, _, _, _, _, _, _, _, _, _, _, _]) rfl rfl rfl (by decide) rfl ?_
                 refine x_goto rfl ?_
                 exact ih (i + 1) D2 L3 _ _ _ _ _ _ _ _ (by omega) ((o.tr o1).tr o2) (o2.tv.trans o1.tv) h3
               case ww =>
                 rw [hO j (by omega), wayF_out i j (by omega)]
                 exact (wayF_out (T := tv D) (w := w) (u := u) (b := b) (i + 1) j (by omega)).symm
               rw [es, et, show nI (i + 2) - 1 = nI (i + 1) from nI_pred _] at hl
               exact hl)
            | (have es := wayB_1 (T := tv D) c76
               have et := wayB_0 (T := tv D) c104
               have hl := l1_X9_countWays (x4 := 0) (Q := Q) (d := d) (D := D2) (w := w) (u := u) (b := b) (i := i) (q := i % lng (tv D) b) (wayB_lt (tv D) w b i) (wayB_lt (tv D) u b i) (f := wayF (tv D) w u b i) (fun L3 v3 b9 b10 b11 b12 h3 => ?kk) (i + 2) L (nI (i + 2) - 1) a9 a10 a11 a12 (by omega) rfl (fun j hj => hO j (by omega)) (fun j hj hj2 => ?ww)
               case kk =>
                 refine y_inc (pc' := 189) (lv' := [_, _, _, _, _, _, _, _, _, _, _, _, _]) rfl rfl rfl (by decide) rfl ?_
                 refine x_goto rfl ?_
                 exact ih (i + 1) D2 L3 _ _ _ _ _ _ _ _ (by omega) ((o.tr o1).tr o2) (o2.tv.trans o1.tv) h3
               case ww =>
                 rw [hO j (by omega), wayF_out i j (by omega)]
                 exact (wayF_out (T := tv D) (w := w) (u := u) (b := b) (i + 1) j (by omega)).symm
               rw [es, et, show nI (i + 2) - 1 = nI (i + 1) from nI_pred _] at hl
               exact hl)
            | (have es := wayB_0 (T := tv D) c76
               have et := wayB_1 (T := tv D) c104
               have hl := l1_X9_countWays (x4 := 0) (Q := Q) (d := d) (D := D2) (w := w) (u := u) (b := b) (i := i) (q := i % lng (tv D) b) (wayB_lt (tv D) w b i) (wayB_lt (tv D) u b i) (f := wayF (tv D) w u b i) (fun L3 v3 b9 b10 b11 b12 h3 => ?kk) (i + 2) L (nI (i + 2) - 1) a9 a10 a11 a12 (by omega) rfl (fun j hj => hO j (by omega)) (fun j hj hj2 => ?ww)
               case kk =>
                 refine y_inc (pc' := 189) (lv' := [_, _, _, _, _, _, _, _, _, _, _, _, _]) rfl rfl rfl (by decide) rfl ?_
                 refine x_goto rfl ?_
                 exact ih (i + 1) D2 L3 _ _ _ _ _ _ _ _ (by omega) ((o.tr o1).tr o2) (o2.tv.trans o1.tv) h3
               case ww =>
                 rw [hO j (by omega), wayF_out i j (by omega)]
                 exact (wayF_out (T := tv D) (w := w) (u := u) (b := b) (i + 1) j (by omega)).symm
               rw [es, et, show nI (i + 2) - 1 = nI (i + 1) from nI_pred _] at hl
               exact hl)
            | (have es := wayB_0 (T := tv D) c76
               have et := wayB_0 (T := tv D) c104
               have hl := l1_X9_countWays (x4 := 0) (Q := Q) (d := d) (D := D2) (w := w) (u := u) (b := b) (i := i) (q := i % lng (tv D) b) (wayB_lt (tv D) w b i) (wayB_lt (tv D) u b i) (f := wayF (tv D) w u b i) (fun L3 v3 b9 b10 b11 b12 h3 => ?kk) (i + 2) L (nI (i + 2) - 1) a9 a10 a11 a12 (by omega) rfl (fun j hj => hO j (by omega)) (fun j hj hj2 => ?ww)
               case kk =>
                 refine y_inc (pc' := 189) (lv' := [_, _, _, _, _, _, _, _, _, _, _, _, _]) rfl rfl rfl (by decide) rfl ?_
                 refine x_goto rfl ?_
                 exact ih (i + 1) D2 L3 _ _ _ _ _ _ _ _ (by omega) ((o.tr o1).tr o2) (o2.tv.trans o1.tv) h3
               case ww =>
                 rw [hO j (by omega), wayF_out i j (by omega)]
                 exact (wayF_out (T := tv D) (w := w) (u := u) (b := b) (i + 1) j (by omega)).symm
               rw [es, et, show nI (i + 2) - 1 = nI (i + 1) from nI_pred _] at hl
               exact hl)
        · refine x_int (pc' := 108) (v := nI 1) rfl rfl rfl ?_
          refine x_goto rfl ?_
          refine x_istore (pc' := 114) (lv' := [_, _, _, _, _, _, _, _, _, _, _, _, _]) rfl rfl (by decide) rfl ?_
          refine x_iload (pc' := 116) rfl rfl rfl ?_
          refine x_int (pc' := 117) (v := nI 1) rfl rfl rfl ?_
          refine y_iadd (pc' := 118) rfl rfl ?_
          refine x_istore (pc' := 120) (lv' := [_, _, _, _, _, _, _, _, _, _, _, _, _]) rfl rfl (by decide) rfl ?_
          first
            | (have es := wayB_1 (T := tv D) c76
               have et := wayB_1 (T := tv D) c104
               have hl := l1_X9_countWays (x4 := 0) (Q := Q) (d := d) (D := D2) (w := w) (u := u) (b := b) (i := i) (q := i % lng (tv D) b) (wayB_lt (tv D) w b i) (wayB_lt (tv D) u b i) (f := wayF (tv D) w u b i) (fun L3 v3 b9 b10 b11 b12 h3 => ?kk) (i + 2) L (nI (i + 2) - 1) a9 a10 a11 a12 (by omega) rfl (fun j hj => hO j (by omega)) (fun j hj hj2 => ?ww)
               case kk =>
                 refine y_inc (pc' := 189) (lv' := [_, _, _, _, _, _, _, _, _, _, _, _, _]) rfl rfl rfl (by decide) rfl ?_
                 refine x_goto rfl ?_
                 exact ih (i + 1) D2 L3 _ _ _ _ _ _ _ _ (by omega) ((o.tr o1).tr o2) (o2.tv.trans o1.tv) h3
               case ww =>
                 rw [hO j (by omega), wayF_out i j (by omega)]
                 exact (wayF_out (T := tv D) (w := w) (u := u) (b := b) (i + 1) j (by omega)).symm
               rw [es, et, show nI (i + 2) - 1 = nI (i + 1) from nI_pred _] at hl
               exact hl)
            | (have es := wayB_1 (T := tv D) c76
               have et := wayB_0 (T := tv D) c104
               have hl := l1_X9_countWays (x4 := 0) (Q := Q) (d := d) (D := D2) (w := w) (u := u) (b := b) (i := i) (q := i % lng (tv D) b) (wayB_lt (tv D) w b i) (wayB_lt (tv D) u b i) (f := wayF (tv D) w u b i) (fun L3 v3 b9 b10 b11 b12 h3 => ?kk) (i + 2) L (nI (i + 2) - 1) a9 a10 a11 a12 (by omega) rfl (fun j hj => hO j (by omega)) (fun j hj hj2 => ?ww)
               case kk =>
                 refine y_inc (pc' := 189) (lv' := [_, _, _, _, _, _, _, _, _, _, _, _, _]) rfl rfl rfl (by decide) rfl ?_
                 refine x_goto rfl ?_
                 exact ih (i + 1) D2 L3 _ _ _ _ _ _ _ _ (by omega) ((o.tr o1).tr o2) (o2.tv.trans o1.tv) h3
               case ww =>
                 rw [hO j (by omega), wayF_out i j (by omega)]
                 exact (wayF_out (T := tv D) (w := w) (u := u) (b := b) (i + 1) j (by omega)).symm
               rw [es, et, show nI (i + 2) - 1 = nI (i + 1) from nI_pred _] at hl
               exact hl)
            | (have es := wayB_0 (T := tv D) c76
               have et := wayB_1 (T := tv D) c104
               have hl := l1_X9_countWays (x4 := 0) (Q := Q) (d := d) (D := D2) (w := w) (u := u) (b := b) (i := i) (q := i % lng (tv D) b) (wayB_lt (tv D) w b i) (wayB_lt (tv D) u b i) (f := wayF (tv D) w u b i) (fun L3 v3 b9 b10 b11 b12 h3 => ?kk) (i + 2) L (nI (i + 2) - 1) a9 a10 a11 a12 (by omega) rfl (fun j hj => hO j (by omega)) (fun j hj hj2 => ?ww)
               case kk =>
                 refine y_inc (pc' := 189) (lv' := [_, _, _, _, _, _, _, _, _, _, _, _, _]) rfl rfl rfl (by decide) rfl ?_
                 refine x_goto rfl ?_
                 exact ih (i + 1) D2 L3 _ _ _ _ _ _ _ _ (by omega) ((o.tr o1).tr o2) (o2.tv.trans o1.tv) h3
               case ww =>
                 rw [hO j (by omega), wayF_out i j (by omega)]
                 exact (wayF_out (T := tv D) (w := w) (u := u) (b := b) (i + 1) j (by omega)).symm
               rw [es, et, show nI (i + 2) - 1 = nI (i + 1) from nI_pred _] at hl
               exact hl)
            | (have es := wayB_0 (T := tv D) c76
               have et := wayB_0 (T := tv D) c104
               have hl := l1_X9_countWays (x4 := 0) (Q := Q) (d := d) (D := D2) (w := w) (u := u) (b := b) (i := i) (q := i % lng (tv D) b) (wayB_lt (tv D) w b i) (wayB_lt (tv D) u b i) (f := wayF (tv D) w u b i) (fun L3 v3 b9 b10 b11 b12 h3 => ?kk) (i + 2) L (nI (i + 2) - 1) a9 a10 a11 a12 (by omega) rfl (fun j hj => hO j (by omega)) (fun j hj hj2 => ?ww)
               case kk =>
                 refine y_inc (pc' := 189) (lv' := [_, _, _, _, _, _, _, _, _, _, _, _, _]) rfl rfl rfl (by decide) rfl ?_
                 refine x_goto rfl ?_
                 exact ih (i + 1) D2 L3 _ _ _ _ _ _ _ _ (by omega) ((o.tr o1).tr o2) (o2.tv.trans o1.tv) h3
               case ww =>
                 rw [hO j (by omega), wayF_out i j (by omega)]
                 exact (wayF_out (T := tv D) (w := w) (u := u) (b := b) (i + 1) j (by omega)).symm
               rw [es, et, show nI (i + 2) - 1 = nI (i + 1) from nI_pred _] at hl
               exact hl)
set_option maxRecDepth 20000 in
set_option maxHeartbeats 1000000 in
theorem w_X9_countWays {D : Nat → Nat → Int32} {L : Nat → Nat → Int64} {Q : bh_Q} (hW : WF (tv D)) {w u b : Nat} (hw : w < nw (tv D)) (hu : u < nw (tv D)) (hb : b < nb (tv D)) (k1 : ∀ D' L', OffH D D' → (∀ j, j < 17 → L' 48 j = wayF (tv D) w u b (ns (tv D)) j) → Q none (hp D' L')) : bh_wc 5 m_X9_countWays [.ref 0, .int (nI w), .int (nI u), .int (nI b)] (hp D L) Q := by
  refine x_start (lv0 := [_, _, _, _, _, _, _, _, _, _, _, _, _]) (Nat.le_of_ble_eq_true rfl) rfl ?_
  refine x_int (pc' := 1) (v := nI 0) rfl rfl rfl ?_
  refine x_istore (pc' := 3) (lv' := [_, _, _, _, _, _, _, _, _, _, _, _, _]) rfl rfl (by decide) rfl ?_
  refine l0_X9_countWays (L := L) (d := 4) (Nat.zero_le _) (D0 := D) (fun L1 h1 => ?_) 17 0 D L rfl rfl (fun j hj => absurd hj (Nat.not_lt_zero j))
  refine x_aload (pc' := 25) rfl rfl rfl ?_
  refine x_getR (pc' := 28) rfl rfl rfl (by decide) rfl (by decide) rfl rfl ?_
  refine x_int (pc' := 29) (v := nI 0) rfl rfl rfl ?_
  refine x_long (pc' := 30) (v := (nI 1).toInt64) rfl rfl (by decide) ?_
  refine x_last (pc' := 31) rfl rfl (by decide) rfl (by decide) (show _ < 17 by omega) ?_
  refine x_int (pc' := 32) (v := nI 0) rfl rfl rfl ?_
  refine x_istore (pc' := 34) (lv' := [_, _, _, _, _, _, _, _, _, _, _, _, _]) rfl rfl (by decide) rfl ?_
  refine l2_X9_countWays (L := L) (d := 4) (Nat.le_refl _) hW (D0 := D) hw hu hb k1 (ns (tv D)) 0 D _ _ _ _ _ _ _ _ _ (Nat.zero_add _) OffH.rf rfl (fun j hj => ?_)
  rw [up2_at]
  show _ = if j = 0 then _ else _
  by_cases e : j = 0
  · rw [if_pos ⟨rfl, e⟩, if_pos e]
  · rw [if_neg (fun z => e z.2), if_neg e]; exact h1 j hj
set_option maxRecDepth 20000 in
set_option maxHeartbeats 1000000 in
theorem w_X9_untangle {D : Nat → Nat → Int32} {L : Nat → Nat → Int64} {Q : bh_Q} (hW : WF (tv D)) {x u y v : Int32} (k1 : ∀ D1 L1, OffC D D1 → Q (some (.long (untangleQ (tv D) x u y v))) (hp D1 L1)) : bh_wc 6 m_X9_untangle [.ref 0, .int x, .int u, .int y, .int v] (hp D L) Q := by
  refine x_start (lv0 := [_, _, _, _, _]) (Nat.le_of_ble_eq_true rfl) rfl ?_
  have h12 := hW.nwl
  have h16 := hW.nsl
  have h4 := hW.nbl
  refine x_aload (pc' := 1) rfl rfl rfl ?_
  refine x_getR (pc' := 4) rfl rfl rfl (by decide) rfl (by decide) rfl rfl ?_
  refine x_iload (pc' := 5) rfl rfl rfl ?_
  refine x_callV (pc' := 8) (d1 := 1) (Bs := [_]) rfl rfl rfl rfl rfl rfl rfl (Nat.le_of_ble_eq_true rfl) ⟨rfl, rfl⟩ (by decide) rfl (by decide) ?_
  refine w_X7_isWriter hW (fun h5w h5l e => ?_) (fun h5 => ?_)
  · subst e
    refine ⟨rfl, ?_⟩
    refine x_if_eq (pc' := 11) rfl rfl (fun c8 => absurd c8 (by decide)) (fun _ => ?_)
    refine x_aload (pc' := 12) rfl rfl rfl ?_
    refine x_getR (pc' := 15) rfl rfl rfl (by decide) rfl (by decide) rfl rfl ?_
    refine x_iload (pc' := 16) rfl rfl rfl ?_
    refine x_callV (pc' := 19) (d1 := 1) (Bs := [_]) rfl rfl rfl rfl rfl rfl rfl (Nat.le_of_ble_eq_true rfl) ⟨rfl, rfl⟩ (by decide) rfl (by decide) ?_
    refine w_X7_isWriter hW (fun h16w h16l e => ?_) (fun h16 => ?_)
    · subst e
      refine ⟨rfl, ?_⟩
      refine x_if_eq (pc' := 22) rfl rfl (fun c19 => absurd c19 (by decide)) (fun _ => ?_)
      refine x_iload (pc' := 23) rfl rfl rfl ?_
      refine x_iload (pc' := 24) rfl rfl rfl ?_
      refine y_ic_ne (pc' := 27) rfl rfl (by omega) (by omega) (fun c24 => ?_) (fun c24 => ?_)
      · refine x_aload (pc' := 32) rfl rfl rfl ?_
        refine x_getR (pc' := 35) rfl rfl rfl (by decide) rfl (by decide) rfl rfl ?_
        refine x_iload (pc' := 36) rfl rfl rfl ?_
        refine x_callV (pc' := 39) (d1 := 1) (Bs := [_]) rfl rfl rfl rfl rfl rfl rfl (Nat.le_of_ble_eq_true rfl) ⟨rfl, rfl⟩ (by decide) rfl (by decide) ?_
        refine w_X7_isBook hW (fun b hb e => ?_) (fun h36 => ?_)
        · subst e
          refine ⟨rfl, ?_⟩
          refine x_if_ne (pc' := 42) rfl rfl (fun _ => ?_) (fun c39 => absurd c39 (by decide))
          refine x_iload (pc' := 48) rfl rfl rfl ?_
          refine x_if_lt (pc' := 51) rfl rfl (fun c48 => ?_) (fun c48 => ?_)
          · have hv := okN_neg (n := ns (tv D) + 1) (by omega) c48
            refine x_long (pc' := 64) (v := (nI 0).toInt64) rfl rfl (by decide) ?_
            refine x_lret rfl rfl ?_
            simp (disch := first | assumption | omega) only [untangleQ, onN_1, onN_0, onP_1, onP_0, ↓reduceIte] at k1
            rw [if_neg c24] at k1
            exact k1 D L OffC.rf
          · refine x_iload (pc' := 53) rfl rfl rfl ?_
            refine x_aload (pc' := 54) rfl rfl rfl ?_
            refine x_getR (pc' := 57) rfl rfl rfl (by decide) rfl (by decide) rfl rfl ?_
            refine x_getI (j := 2) (pc' := 60) rfl rfl rfl (by decide) rfl (by decide) rfl rfl ?_
            refine x_top (hW.ens) ?_
            refine x_ic_le (pc' := 63) rfl rfl (fun c60 => ?_) (fun c60 => ?_)
            · obtain ⟨m, hm, rfl⟩ := le_ofI (n := ns (tv D)) c48 c60 (by omega)
              refine x_aload (pc' := 66) rfl rfl rfl ?_
              refine x_iload (pc' := 67) rfl rfl rfl ?_
              refine x_iload (pc' := 68) rfl rfl rfl ?_
              refine x_iload (pc' := 69) rfl rfl rfl ?_
              refine x_callV (pc' := 72) (d1 := 5) (Bs := [_, _, _]) rfl rfl rfl rfl rfl rfl rfl (Nat.le_of_ble_eq_true rfl) ⟨rfl, rfl⟩ (by decide) rfl (by decide) ?_
              refine w_X9_countWays hW h5l h16l hb (fun D1 L1 o1 hL => ?_)
              refine ⟨rfl, ?_⟩
              refine x_aload (pc' := 73) rfl rfl rfl ?_
              refine x_getR (pc' := 76) rfl rfl rfl (by decide) rfl (by decide) rfl rfl ?_
              refine x_iload (pc' := 78) rfl rfl rfl ?_
              refine x_lald (pc' := 79) rfl rfl (by decide) rfl (by decide) (show _ < 17 by omega) ?_
              refine x_lret rfl rfl ?_
              simp (disch := first | assumption | omega) only [untangleQ, onN_1, onN_0, onP_1, onP_0, ↓reduceIte] at k1
              rw [if_neg c24] at k1
              rw [hL _ (by omega)]
              exact k1 D1 L1 o1.c
            · have hv := okN_gt (n := ns (tv D)) (by omega) (Int32.not_le.mp c60)
              refine x_long (pc' := 64) (v := (nI 0).toInt64) rfl rfl (by decide) ?_
              refine x_lret rfl rfl ?_
              simp (disch := first | assumption | omega) only [untangleQ, onN_1, onN_0, onP_1, onP_0, ↓reduceIte] at k1
              rw [if_neg c24] at k1
              exact k1 D L OffC.rf
        · refine ⟨rfl, ?_⟩
          refine x_if_ne (pc' := 42) rfl rfl (fun c39 => absurd (by decide) c39) (fun _ => ?_)
          refine x_long (pc' := 45) (v := (-1 : Int32).toInt64) rfl rfl (by decide) ?_
          refine x_lret rfl rfl ?_
          simp (disch := first | assumption | omega) only [untangleQ, onN_1, onN_0, onP_1, onP_0, ↓reduceIte] at k1
          rw [if_neg c24] at k1
          exact k1 D L OffC.rf
      · refine x_long (pc' := 30) (v := (-1 : Int32).toInt64) rfl rfl (by decide) ?_
        refine x_lret rfl rfl ?_
        first
          | (simp (disch := first | assumption | omega) only [untangleQ, onN_1, onN_0, onP_1, onP_0, ↓reduceIte] at k1
             exact k1 D L OffC.rf)
          | (simp (disch := first | assumption | omega) only [untangleQ, onN_1, onN_0, onP_1, onP_0, ↓reduceIte] at k1
             rw [if_pos c24] at k1
             exact k1 D L OffC.rf)
    · refine ⟨rfl, ?_⟩
      refine x_if_eq (pc' := 22) rfl rfl (fun _ => ?_) (fun c19 => absurd (by decide) c19)
      refine x_long (pc' := 30) (v := (-1 : Int32).toInt64) rfl rfl (by decide) ?_
      refine x_lret rfl rfl ?_
      first
        | (simp (disch := first | assumption | omega) only [untangleQ, onN_1, onN_0, onP_1, onP_0, ↓reduceIte] at k1
           exact k1 D L OffC.rf)
        | (simp (disch := first | assumption | omega) only [untangleQ, onN_1, onN_0, onP_1, onP_0, ↓reduceIte] at k1
           rw [if_pos c24] at k1
           exact k1 D L OffC.rf)
  · refine ⟨rfl, ?_⟩
    refine x_if_eq (pc' := 11) rfl rfl (fun _ => ?_) (fun c8 => absurd (by decide) c8)
    refine x_long (pc' := 30) (v := (-1 : Int32).toInt64) rfl rfl (by decide) ?_
    refine x_lret rfl rfl ?_
    first
      | (simp (disch := first | assumption | omega) only [untangleQ, onN_1, onN_0, onP_1, onP_0, ↓reduceIte] at k1
         exact k1 D L OffC.rf)
      | (simp (disch := first | assumption | omega) only [untangleQ, onN_1, onN_0, onP_1, onP_0, ↓reduceIte] at k1
         rw [if_pos c24] at k1
         exact k1 D L OffC.rf)
set_option maxRecDepth 20000 in
set_option maxHeartbeats 1000000 in
theorem l1_X10_untangle {Q : bh_Q} {d : Nat} {D : Nat → Nat → Int32} {w u b i q s6 s7 : Nat} {x4 : Int32} (hs6 : s6 < 2) (hs7 : s7 < 2) {f : Nat → Int64} (kE : ∀ (L : Nat → Nat → Int64) (v : Int32), (∀ j, j < 17 → L 223 j = wayS s6 s7 f j) → bw m_X10_untangle d Q 204 [.ref 205, .int (nI w), .int (nI u), .int (nI b), .int x4, .int (nI i), .int (nI q), .int (nI s6), .int (nI s7), .int v] [] D L) : ∀ (n : Nat) (L : Nat → Nat → Int64) (v : Int32), n ≤ 17 → v = nI n - 1 → (∀ j, j < n → L 223 j = f j) → (∀ j, n ≤ j → j < 17 → L 223 j = wayS s6 s7 f j) → bw m_X10_untangle d Q 146 [.ref 205, .int (nI w), .int (nI u), .int (nI b), .int x4, .int (nI i), .int (nI q), .int (nI s6), .int (nI s7), .int v] [] D L := by
  intro n
  induction n with
  | zero =>
    intro L v hn hv hO hN
    refine x_iload (pc' := 148) rfl rfl rfl ?_
    refine x_if_lt (pc' := 151) rfl rfl (fun c148 => ?_) (fun c148 => ?_)
    · exact kE L _  (fun j hj => hN j (Nat.zero_le _) hj)
    · exact absurd (by rw [hv]; exact sub1_lt (by omega)) c148
  | succ n ih =>
    intro L v hn hv hO hN
    have hv : v = nI n := by rw [hv]; exact nI_pred _
    subst hv
    refine x_iload (pc' := 148) rfl rfl rfl ?_
    refine y_if_lt (pc' := 151) rfl rfl (by omega) ?_
    refine x_aload (pc' := 152) rfl rfl rfl ?_
    refine x_getR (pc' := 155) rfl rfl rfl (by decide) rfl (by decide) rfl rfl ?_
    refine x_iload (pc' := 157) rfl rfl rfl ?_
    refine x_iload (pc' := 159) rfl rfl rfl ?_
    refine y_if_eq (pc' := 162) rfl rfl (by omega) (fun c159 => ?_) (fun c159 => ?_)
    · refine x_long (pc' := 173) (v := (nI 0).toInt64) rfl rfl (by decide) ?_
      refine x_iload (pc' := 175) rfl rfl rfl ?_
      refine y_if_eq (pc' := 178) rfl rfl (by omega) (fun c175 => ?_) (fun c175 => ?_)
      · refine x_long (pc' := 196) (v := (nI 0).toInt64) rfl rfl (by decide) ?_
        refine x_ladd (pc' := 197) rfl rfl ?_
        refine x_last (pc' := 198) rfl rfl (by decide) rfl (by decide) (show _ < 17 by omega) ?_
        refine x_iinc (pc' := 201) (w := (-1)) (lv' := [_, _, _, _, _, _, _, _, _, _]) rfl rfl rfl rfl (by decide) (add_m1 _) rfl ?_
        refine x_goto rfl ?_
        refine ih _ (nI n - 1)  (by omega) rfl (fun j hj => ?_) (fun j hj hj2 => ?_)
        · rw [up2_at, if_neg (fun e => absurd e.2 (by omega))]; exact hO j (by omega)
        · rw [up2_at]
          by_cases e : j = n
          · subst e
            rw [if_pos ⟨rfl, rfl⟩]
            unfold wayS
            first
              | (rw [if_pos (Or.inl c175), if_pos c159] <;> exact Int64.add_comm _ _)
              | (rw [if_pos (Or.inl c175), if_neg c159, ← hO _ (by omega)] <;> exact Int64.add_comm _ _)
              | (rw [if_pos (Or.inr c180), if_pos c159] <;> exact Int64.add_comm _ _)
              | (rw [if_pos (Or.inr c180), if_neg c159, ← hO _ (by omega)] <;> exact Int64.add_comm _ _)
              | (rw [if_neg (fun z => z.elim c175 (Nat.pos_iff_ne_zero.mp c180)), if_pos c159, ← hO _ (by omega)] <;> exact Int64.add_comm _ _)
              | (rw [if_neg (fun z => z.elim c175 (Nat.pos_iff_ne_zero.mp c180)), if_neg c159, ← hO j (by omega), ← hO (j - 1) (by omega)] <;> exact Int64.add_comm _ _)
          · rw [if_neg (fun z => e z.2)]; exact hN j (by omega) hj2
      · refine x_iload (pc' := 180) rfl rfl rfl ?_
        refine y_if_le (pc' := 183) rfl rfl (by omega) (fun c180 => ?_) (fun c180 => ?_)
        · refine x_long (pc' := 196) (v := (nI 0).toInt64) rfl rfl (by decide) ?_
          refine x_ladd (pc' := 197) rfl rfl ?_
          refine x_last (pc' := 198) rfl rfl (by decide) rfl (by decide) (show _ < 17 by omega) ?_
          refine x_iinc (pc' := 201) (w := (-1)) (lv' := [_, _, _, _, _, _, _, _, _, _]) rfl rfl rfl rfl (by decide) (add_m1 _) rfl ?_
          refine x_goto rfl ?_
          refine ih _ (nI n - 1)  (by omega) rfl (fun j hj => ?_) (fun j hj hj2 => ?_)
          · rw [up2_at, if_neg (fun e => absurd e.2 (by omega))]; exact hO j (by omega)
          · rw [up2_at]
            by_cases e : j = n
            · subst e
              rw [if_pos ⟨rfl, rfl⟩]
              unfold wayS
              first
                | (rw [if_pos (Or.inl c175), if_pos c159] <;> exact Int64.add_comm _ _)
                | (rw [if_pos (Or.inl c175), if_neg c159, ← hO _ (by omega)] <;> exact Int64.add_comm _ _)
                | (rw [if_pos (Or.inr c180), if_pos c159] <;> exact Int64.add_comm _ _)
                | (rw [if_pos (Or.inr c180), if_neg c159, ← hO _ (by omega)] <;> exact Int64.add_comm _ _)
                | (rw [if_neg (fun z => z.elim c175 (Nat.pos_iff_ne_zero.mp c180)), if_pos c159, ← hO _ (by omega)] <;> exact Int64.add_comm _ _)
                | (rw [if_neg (fun z => z.elim c175 (Nat.pos_iff_ne_zero.mp c180)), if_neg c159, ← hO j (by omega), ← hO (j - 1) (by omega)] <;> exact Int64.add_comm _ _)
            · rw [if_neg (fun z => e z.2)]; exact hN j (by omega) hj2
        · refine x_aload (pc' := 184) rfl rfl rfl ?_
          refine x_getR (pc' := 187) rfl rfl rfl (by decide) rfl (by decide) rfl rfl ?_
          refine x_iload (pc' := 189) rfl rfl rfl ?_
          refine x_int (pc' := 190) (v := nI 1) rfl rfl rfl ?_
          refine y_isub (pc' := 191) rfl rfl (by omega) ?_
          refine x_lald (pc' := 192) rfl rfl (by decide) rfl (by decide) (show _ < 17 by omega) ?_
          refine x_goto rfl ?_
          refine x_ladd (pc' := 197) rfl rfl ?_
          refine x_last (pc' := 198) rfl rfl (by decide) rfl (by decide) (show _ < 17 by omega) ?_
          refine x_iinc (pc' := 201) (w := (-1)) (lv' := [_, _, _, _, _, _, _, _, _, _]) rfl rfl rfl rfl (by decide) (add_m1 _) rfl ?_
          refine x_goto rfl ?_
          refine ih _ (nI n - 1)  (by omega) rfl (fun j hj => ?_) (fun j hj hj2 => ?_)
          · rw [up2_at, if_neg (fun e => absurd e.2 (by omega))]; exact hO j (by omega)
          · rw [up2_at]
            by_cases e : j = n
            · subst e
              rw [if_pos ⟨rfl, rfl⟩]
              unfold wayS
              first
                | (rw [if_pos (Or.inl c175), if_pos c159] <;> exact Int64.add_comm _ _)
                | (rw [if_pos (Or.inl c175), if_neg c159, ← hO _ (by omega)] <;> exact Int64.add_comm _ _)
                | (rw [if_pos (Or.inr c180), if_pos c159] <;> exact Int64.add_comm _ _)
                | (rw [if_pos (Or.inr c180), if_neg c159, ← hO _ (by omega)] <;> exact Int64.add_comm _ _)
                | (rw [if_neg (fun z => z.elim c175 (Nat.pos_iff_ne_zero.mp c180)), if_pos c159, ← hO _ (by omega)] <;> exact Int64.add_comm _ _)
                | (rw [if_neg (fun z => z.elim c175 (Nat.pos_iff_ne_zero.mp c180)), if_neg c159, ← hO j (by omega), ← hO (j - 1) (by omega)] <;> exact Int64.add_comm _ _)
            · rw [if_neg (fun z => e z.2)]; exact hN j (by omega) hj2
    · refine x_aload (pc' := 163) rfl rfl rfl ?_
      refine x_getR (pc' := 166) rfl rfl rfl (by decide) rfl (by decide) rfl rfl ?_
      refine x_iload (pc' := 168) rfl rfl rfl ?_
      refine x_lald (pc' := 169) rfl rfl (by decide) rfl (by decide) (show _ < 17 by omega) ?_
      refine x_goto rfl ?_
      refine x_iload (pc' := 175) rfl rfl rfl ?_
      refine y_if_eq (pc' := 178) rfl rfl (by omega) (fun c175 => ?_) (fun c175 => ?_)
      · refine x_long (pc' := 196) (v := (nI 0).toInt64) rfl rfl (by decide) ?_
        refine x_ladd (pc' := 197) rfl rfl ?_
        refine x_last (pc' := 198) rfl rfl (by decide) rfl (by decide) (show _ < 17 by omega) ?_
        refine x_iinc (pc' := 201) (w := (-1)) (lv' := [_, _, _, _, _, _, _, _, _, _]) rfl rfl rfl rfl (by decide) (add_m1 _) rfl ?_
        refine x_goto rfl ?_
        refine ih _ (nI n - 1)  (by omega) rfl (fun j hj => ?_) (fun j hj hj2 => ?_)
        · rw [up2_at, if_neg (fun e => absurd e.2 (by omega))]; exact hO j (by omega)
        · rw [up2_at]
          by_cases e : j = n
          · subst e
            rw [if_pos ⟨rfl, rfl⟩]
            unfold wayS
            first
              | (rw [if_pos (Or.inl c175), if_pos c159] <;> exact Int64.add_comm _ _)
              | (rw [if_pos (Or.inl c175), if_neg c159, ← hO _ (by omega)] <;> exact Int64.add_comm _ _)
              | (rw [if_pos (Or.inr c180), if_pos c159] <;> exact Int64.add_comm _ _)
              | (rw [if_pos (Or.inr c180), if_neg c159, ← hO _ (by omega)] <;> exact Int64.add_comm _ _)
              | (rw [if_neg (fun z => z.elim c175 (Nat.pos_iff_ne_zero.mp c180)), if_pos c159, ← hO _ (by omega)] <;> exact Int64.add_comm _ _)
              | (rw [if_neg (fun z => z.elim c175 (Nat.pos_iff_ne_zero.mp c180)), if_neg c159, ← hO j (by omega), ← hO (j - 1) (by omega)] <;> exact Int64.add_comm _ _)
          · rw [if_neg (fun z => e z.2)]; exact hN j (by omega) hj2
      · refine x_iload (pc' := 180) rfl rfl rfl ?_
        refine y_if_le (pc' := 183) rfl rfl (by omega) (fun c180 => ?_) (fun c180 => ?_)
        · refine x_long (pc' := 196) (v := (nI 0).toInt64) rfl rfl (by decide) ?_
          refine x_ladd (pc' := 197) rfl rfl ?_
          refine x_last (pc' := 198) rfl rfl (by decide) rfl (by decide) (show _ < 17 by omega) ?_
          refine x_iinc (pc' := 201) (w := (-1)) (lv' := [_, _, _, _, _, _, _, _, _, _]) rfl rfl rfl rfl (by decide) (add_m1 _) rfl ?_
          refine x_goto rfl ?_
          refine ih _ (nI n - 1)  (by omega) rfl (fun j hj => ?_) (fun j hj hj2 => ?_)
          · rw [up2_at, if_neg (fun e => absurd e.2 (by omega))]; exact hO j (by omega)
          · rw [up2_at]
            by_cases e : j = n
            · subst e
              rw [if_pos ⟨rfl, rfl⟩]
              unfold wayS
              first
                | (rw [if_pos (Or.inl c175), if_pos c159] <;> exact Int64.add_comm _ _)
                | (rw [if_pos (Or.inl c175), if_neg c159, ← hO _ (by omega)] <;> exact Int64.add_comm _ _)
                | (rw [if_pos (Or.inr c180), if_pos c159] <;> exact Int64.add_comm _ _)
                | (rw [if_pos (Or.inr c180), if_neg c159, ← hO _ (by omega)] <;> exact Int64.add_comm _ _)
                | (rw [if_neg (fun z => z.elim c175 (Nat.pos_iff_ne_zero.mp c180)), if_pos c159, ← hO _ (by omega)] <;> exact Int64.add_comm _ _)
                | (rw [if_neg (fun z => z.elim c175 (Nat.pos_iff_ne_zero.mp c180)), if_neg c159, ← hO j (by omega), ← hO (j - 1) (by omega)] <;> exact Int64.add_comm _ _)
            · rw [if_neg (fun z => e z.2)]; exact hN j (by omega) hj2
        · refine x_aload (pc' := 184) rfl rfl rfl ?_
          refine x_getR (pc' := 187) rfl rfl rfl (by decide) rfl (by decide) rfl rfl ?_
          refine x_iload (pc' := 189) rfl rfl rfl ?_
          refine x_int (pc' := 190) (v := nI 1) rfl rfl rfl ?_
          refine y_isub (pc' := 191) rfl rfl (by omega) ?_
          refine x_lald (pc' := 192) rfl rfl (by decide) rfl (by decide) (show _ < 17 by omega) ?_
          refine x_goto rfl ?_
          refine x_ladd (pc' := 197) rfl rfl ?_
          refine x_last (pc' := 198) rfl rfl (by decide) rfl (by decide) (show _ < 17 by omega) ?_
          refine x_iinc (pc' := 201) (w := (-1)) (lv' := [_, _, _, _, _, _, _, _, _, _]) rfl rfl rfl rfl (by decide) (add_m1 _) rfl ?_
          refine x_goto rfl ?_
          refine ih _ (nI n - 1)  (by omega) rfl (fun j hj => ?_) (fun j hj hj2 => ?_)
          · rw [up2_at, if_neg (fun e => absurd e.2 (by omega))]; exact hO j (by omega)
          · rw [up2_at]
            by_cases e : j = n
            · subst e
              rw [if_pos ⟨rfl, rfl⟩]
              unfold wayS
              first
                | (rw [if_pos (Or.inl c175), if_pos c159] <;> exact Int64.add_comm _ _)
                | (rw [if_pos (Or.inl c175), if_neg c159, ← hO _ (by omega)] <;> exact Int64.add_comm _ _)
                | (rw [if_pos (Or.inr c180), if_pos c159] <;> exact Int64.add_comm _ _)
                | (rw [if_pos (Or.inr c180), if_neg c159, ← hO _ (by omega)] <;> exact Int64.add_comm _ _)
                | (rw [if_neg (fun z => z.elim c175 (Nat.pos_iff_ne_zero.mp c180)), if_pos c159, ← hO _ (by omega)] <;> exact Int64.add_comm _ _)
                | (rw [if_neg (fun z => z.elim c175 (Nat.pos_iff_ne_zero.mp c180)), if_neg c159, ← hO j (by omega), ← hO (j - 1) (by omega)] <;> exact Int64.add_comm _ _)
            · rw [if_neg (fun z => e z.2)]; exact hN j (by omega) hj2
set_option maxRecDepth 20000 in
set_option maxHeartbeats 1000000 in
theorem l0_X10_untangle {L : Nat → Nat → Int64} {Q : bh_Q} {d : Nat} (hd : 1 ≤ d) {w u b : Nat} {x4 : Int32} {a6 a7 a8 a9 : Value} {D0 : Nat → Nat → Int32} (kE : ∀ L : Nat → Nat → Int64, (∀ j, j < 17 → L 223 j = if j = 0 then (nI 1).toInt64 else lZ) → bw m_X10_untangle d Q 70 [.ref 205, .int (nI w), .int (nI u), .int (nI b), .int x4, .int (nI 17), a6, a7, a8, a9] [] D0 L) : ∀ (f i : Nat) (D : Nat → Nat → Int32) (L : Nat → Nat → Int64), i + f = 17 → (D0 = D) → (∀ j, j < i → L 223 j = if j = 0 then (nI 1).toInt64 else lZ) → bw m_X10_untangle d Q 36 [.ref 205, .int (nI w), .int (nI u), .int (nI b), .int x4, .int (nI i), a6, a7, a8, a9] [] D L := by
  intro f
  induction f with
  | zero =>
    intro i D L hf hD h0
    subst hD
    refine x_iload (pc' := 38) rfl rfl rfl ?_
    refine x_int (pc' := 40) (v := nI 16) rfl rfl rfl ?_
    refine y_ic_gt (pc' := 43) rfl rfl (by omega) (by omega) (fun c40 => ?_) (fun c40 => ?_)
    · obtain rfl : i = 17 := by omega
      exact kE L h0
    · exact absurd c40 (by omega)
  | succ f ih =>
    intro i D L hf hD h0
    subst hD
    refine x_iload (pc' := 38) rfl rfl rfl ?_
    refine x_int (pc' := 40) (v := nI 16) rfl rfl rfl ?_
    refine y_ic_gt (pc' := 43) rfl rfl (by omega) (by omega) (fun c40 => ?_) (fun c40 => ?_)
    · exact absurd c40 (by omega)
    · refine x_aload (pc' := 44) rfl rfl rfl ?_
      refine x_getR (pc' := 47) rfl rfl rfl (by decide) rfl (by decide) rfl rfl ?_
      refine x_iload (pc' := 49) rfl rfl rfl ?_
      refine x_iload (pc' := 51) rfl rfl rfl ?_
      refine y_if_ne (pc' := 54) rfl rfl (by omega) (fun c51 => ?_) (fun c51 => ?_)
      · refine x_int (pc' := 59) (v := nI 0) rfl rfl rfl ?_
        refine x_callS (pc' := 62) (d1 := 1) (As := [_]) rfl rfl rfl rfl (by decide) rfl rfl (Nat.le_of_ble_eq_true rfl) ⟨rfl, rfl⟩ (by omega) ?_
        refine w_X10_truth (by decide) ?_
        refine ⟨rfl, ?_⟩
        refine x_i2l (pc' := 63) rfl rfl ?_
        refine x_last (pc' := 64) rfl rfl (by decide) rfl (by decide) (show _ < 17 by omega) ?_
        refine y_inc (pc' := 67) (lv' := [_, _, _, _, _, _, _, _, _, _]) rfl rfl rfl (by decide) rfl ?_
        refine x_goto rfl ?_
        refine ih (i + 1) D0 _ (by omega) rfl (fun j hj => ?_)
        rw [up2_at]
        by_cases e : j = i
        · rw [if_pos ⟨rfl, e⟩, e]; first | (rw [if_pos c51]) | (rw [if_neg c51])
        · rw [if_neg (fun z => e z.2)]; exact h0 j (by omega)
      · refine x_int (pc' := 55) (v := nI 1) rfl rfl rfl ?_
        refine x_goto rfl ?_
        refine x_callS (pc' := 62) (d1 := 1) (As := [_]) rfl rfl rfl rfl (by decide) rfl rfl (Nat.le_of_ble_eq_true rfl) ⟨rfl, rfl⟩ (by omega) ?_
        refine w_X10_truth (by decide) ?_
        refine ⟨rfl, ?_⟩
        refine x_i2l (pc' := 63) rfl rfl ?_
        refine x_last (pc' := 64) rfl rfl (by decide) rfl (by decide) (show _ < 17 by omega) ?_
        refine y_inc (pc' := 67) (lv' := [_, _, _, _, _, _, _, _, _, _]) rfl rfl rfl (by decide) rfl ?_
        refine x_goto rfl ?_
        refine ih (i + 1) D0 _ (by omega) rfl (fun j hj => ?_)
        rw [up2_at]
        by_cases e : j = i
        · rw [if_pos ⟨rfl, e⟩, e]; first | (rw [if_pos c51]) | (rw [if_neg c51])
        · rw [if_neg (fun z => e z.2)]; exact h0 j (by omega)
set_option maxRecDepth 20000 in
set_option maxHeartbeats 1000000 in
theorem l2_X10_untangle {L : Nat → Nat → Int64} {Q : bh_Q} {d : Nat} (hd : 5 ≤ d) {T : TW} (hW : WF T) {D0 : Nat → Nat → Int32} {w u b : Nat} {x4 : Int32} (hw : w < nw T) (hu : u < nw T) (hb : b < nb T) (kE : ∀ D L v6 v7 v8 v9, OffL [212] D0 D → (∀ j, j < 17 → L 223 j = wayF T w u b (ns T) j) → bw m_X10_untangle d Q 210 [.ref 205, .int (nI w), .int (nI u), .int (nI b), .int x4, .int (nI (ns T)), v6, v7, v8, v9] [] D L) : ∀ (f i : Nat) (D : Nat → Nat → Int32) (L : Nat → Nat → Int64) (a6 : Value) (a7 : Value) (a8 : Value) (a9 : Value), i + f = ns T → (OffL [212] D0 D) → (Rn T (D 206)) → (∀ j, j < 17 → L 223 j = wayF T w u b i j) → bw m_X10_untangle d Q 73 [.ref 205, .int (nI w), .int (nI u), .int (nI b), .int x4, .int (nI i), a6, a7, a8, a9] [] D L := by
  intro f
  induction f with
  | zero =>
    intro i D L a6 a7 a8 a9 hf o hR hO
    have h12 := hW.nwl
    have h16 := hW.nsl
    have hq : i % lng T b < lng T b := Nat.mod_lt _ (hW.lng0 hb)
    have h8 := hW.lngl hb
    have h0 := hW.lng0 hb
    refine x_iload (pc' := 75) rfl rfl rfl ?_
    refine x_aload (pc' := 76) rfl rfl rfl ?_
    refine x_getR (pc' := 79) rfl rfl rfl (by decide) rfl (by decide) rfl rfl ?_
    refine x_int (pc' := 80) (v := nI 2) rfl rfl rfl ?_
    refine x_iald (pc' := 81) rfl rfl (by decide) rfl (by decide) (show _ < 560 by omega) ?_
    refine x_top (hR.1.2.2.1.trans hW.ens) ?_
    refine y_ic_ge (pc' := 84) rfl rfl (by omega) (by omega) (fun c81 => ?_) (fun c81 => ?_)
    · obtain rfl : i = ns T := by omega
      exact kE D L _ _ _ _ o hO
    · exact absurd c81 (by omega)
  | succ f ih =>
    intro i D L a6 a7 a8 a9 hf o hR hO
    have h12 := hW.nwl
    have h16 := hW.nsl
    have hq : i % lng T b < lng T b := Nat.mod_lt _ (hW.lng0 hb)
    have h8 := hW.lngl hb
    have h0 := hW.lng0 hb
    refine x_iload (pc' := 75) rfl rfl rfl ?_
    refine x_aload (pc' := 76) rfl rfl rfl ?_
    refine x_getR (pc' := 79) rfl rfl rfl (by decide) rfl (by decide) rfl rfl ?_
    refine x_int (pc' := 80) (v := nI 2) rfl rfl rfl ?_
    refine x_iald (pc' := 81) rfl rfl (by decide) rfl (by decide) (show _ < 560 by omega) ?_
    refine x_top (hR.1.2.2.1.trans hW.ens) ?_
    refine y_ic_ge (pc' := 84) rfl rfl (by omega) (by omega) (fun c81 => ?_) (fun c81 => ?_)
    · exact absurd c81 (by omega)
    · refine x_iload (pc' := 86) rfl rfl rfl ?_
      refine x_aload (pc' := 87) rfl rfl rfl ?_
      refine x_iload (pc' := 88) rfl rfl rfl ?_
      refine x_callV (pc' := 91) (d1 := 1) (Bs := [_]) rfl rfl rfl rfl rfl rfl rfl (Nat.le_of_ble_eq_true rfl) ⟨rfl, rfl⟩ (by decide) rfl (by omega) ?_
      refine w_X10_pagesOf hW hR hb ?_
      refine ⟨rfl, ?_⟩
      refine y_irem (pc' := 92) rfl rfl (by omega) (by omega) (by omega) ?_
      refine x_istore (pc' := 94) (lv' := [_, _, _, _, _, _, _, _, _, _]) rfl rfl (by decide) rfl ?_
      refine x_aload (pc' := 95) rfl rfl rfl ?_
      refine x_iload (pc' := 96) rfl rfl rfl ?_
      refine x_iload (pc' := 97) rfl rfl rfl ?_
      refine x_iload (pc' := 99) rfl rfl rfl ?_
      refine x_callV (pc' := 102) (d1 := 5) (Bs := [_, _, _]) rfl rfl rfl rfl rfl rfl rfl (Nat.le_of_ble_eq_true rfl) ⟨rfl, rfl⟩ (by decide) rfl (by omega) ?_
      refine w_X10_lineOf hW hR hw hb hq (fun D1 o1 => ?_)
      refine ⟨rfl, ?_⟩
      have hR1 := OffL212.rn o1 hR
      refine x_aload (pc' := 103) rfl rfl rfl ?_
      refine x_iload (pc' := 105) rfl rfl rfl ?_
      refine x_callV (pc' := 108) (d1 := 1) (Bs := [_]) rfl rfl rfl rfl rfl rfl rfl (Nat.le_of_ble_eq_true rfl) ⟨rfl, rfl⟩ (by decide) rfl (by omega) ?_
      refine w_X10_seen hW hR1 (by omega) ?_
      refine ⟨rfl, ?_⟩
      refine x_ic_ne (pc' := 111) rfl rfl (fun c108 => ?_) (fun c108 => ?_)
      · refine x_int (pc' := 116) (v := nI 0) rfl rfl rfl ?_
        refine x_istore (pc' := 118) (lv' := [_, _, _, _, _, _, _, _, _, _]) rfl rfl (by decide) rfl ?_
        refine x_aload (pc' := 119) rfl rfl rfl ?_
        refine x_iload (pc' := 120) rfl rfl rfl ?_
        refine x_iload (pc' := 121) rfl rfl rfl ?_
        refine x_iload (pc' := 123) rfl rfl rfl ?_
        refine x_callV (pc' := 126) (d1 := 5) (Bs := [_, _, _]) rfl rfl rfl rfl rfl rfl rfl (Nat.le_of_ble_eq_true rfl) ⟨rfl, rfl⟩ (by decide) rfl (by omega) ?_
        refine w_X10_lineOf (D := D1) hW hR1 hu hb hq (fun D2 o2 => ?_)
        refine ⟨rfl, ?_⟩
        have hR2 := OffL212.rn o2 hR1
        refine x_aload (pc' := 127) rfl rfl rfl ?_
        refine x_iload (pc' := 129) rfl rfl rfl ?_
        refine x_callV (pc' := 132) (d1 := 1) (Bs := [_]) rfl rfl rfl rfl rfl rfl rfl (Nat.le_of_ble_eq_true rfl) ⟨rfl, rfl⟩ (by decide) rfl (by omega) ?_
        refine w_X10_seen hW hR2 (by omega) ?_
        refine ⟨rfl, ?_⟩
        refine x_ic_ne (pc' := 135) rfl rfl (fun c132 => ?_) (fun c132 => ?_)
        · refine x_int (pc' := 140) (v := nI 0) rfl rfl rfl ?_
          refine x_istore (pc' := 142) (lv' := [_, _, _, _, _, _, _, _, _, _]) rfl rfl (by decide) rfl ?_
          refine x_int (pc' := 144) (v := nI 16) rfl rfl rfl ?_
          refine x_istore (pc' := 146) (lv' := [_, _, _, _, _, _, _, _, _, _]) rfl rfl (by decide) rfl ?_
          first
            | (have es := wayB_1 (T := T) c108
               have et := wayB_1 (T := T) c132
               have hl := l1_X10_untangle (Q := Q) (d := d) (D := D2) (w := w) (u := u) (b := b) (i := i) (q := i % lng T b) (x4 := x4) (wayB_lt T w b i) (wayB_lt T u b i) (f := wayF T w u b i) (fun L3 v3 h3 => ?kk) 17 L (nI 17 - 1) (by omega) rfl (fun j hj => hO j (by omega)) (fun j hj hj2 => absurd hj2 (by omega))
               case kk =>
                 refine y_inc (pc' := 207) (lv' := [_, _, _, _, _, _, _, _, _, _]) rfl rfl rfl (by decide) rfl ?_
                 refine x_goto rfl ?_
                 exact ih (i + 1) D2 L3 _ _ _ _ (by omega) ((o.tr o1).tr o2) hR2 h3
               rw [es, et, show nI 17 - 1 = nI 16 from nI_pred 16] at hl
               exact hl)
            | (have es := wayB_1 (T := T) c108
               have et := wayB_0 (T := T) c132
               have hl := l1_X10_untangle (Q := Q) (d := d) (D := D2) (w := w) (u := u) (b := b) (i := i) (q := i % lng T b) (x4 := x4) (wayB_lt T w b i) (wayB_lt T u b i) (f := wayF T w u b i) (fun L3 v3 h3 => ?kk) 17 L (nI 17 - 1) (by omega) rfl (fun j hj => hO j (by omega)) (fun j hj hj2 => absurd hj2 (by omega))
               case kk =>
                 refine y_inc (pc' := 207) (lv' := [_, _, _, _, _, _, _, _, _, _]) rfl rfl rfl (by decide) rfl ?_
                 refine x_goto rfl ?_
                 exact ih (i + 1) D2 L3 _ _ _ _ (by omega) ((o.tr o1).tr o2) hR2 h3
               rw [es, et, show nI 17 - 1 = nI 16 from nI_pred 16] at hl
               exact hl)
            | (have es := wayB_0 (T := T) c108
               have et := wayB_1 (T := T) c132
               have hl := l1_X10_untangle (Q := Q) (d := d) (D := D2) (w := w) (u := u) (b := b) (i := i) (q := i % lng T b) (x4 := x4) (wayB_lt T w b i) (wayB_lt T u b i) (f := wayF T w u b i) (fun L3 v3 h3 => ?kk) 17 L (nI 17 - 1) (by omega) rfl (fun j hj => hO j (by omega)) (fun j hj hj2 => absurd hj2 (by omega))
               case kk =>
                 refine y_inc (pc' := 207) (lv' := [_, _, _, _, _, _, _, _, _, _]) rfl rfl rfl (by decide) rfl ?_
                 refine x_goto rfl ?_
                 exact ih (i + 1) D2 L3 _ _ _ _ (by omega) ((o.tr o1).tr o2) hR2 h3
               rw [es, et, show nI 17 - 1 = nI 16 from nI_pred 16] at hl
               exact hl)
            | (have es := wayB_0 (T := T) c108
               have et := wayB_0 (T := T) c132
               have hl := l1_X10_untangle (Q := Q) (d := d) (D := D2) (w := w) (u := u) (b := b) (i := i) (q := i % lng T b) (x4 := x4) (wayB_lt T w b i) (wayB_lt T u b i) (f := wayF T w u b i) (fun L3 v3 h3 => ?kk) 17 L (nI 17 - 1) (by omega) rfl (fun j hj => hO j (by omega)) (fun j hj hj2 => absurd hj2 (by omega))
               case kk =>
                 refine y_inc (pc' := 207) (lv' := [_, _, _, _, _, _, _, _, _, _]) rfl rfl rfl (by decide) rfl ?_
                 refine x_goto rfl ?_
                 exact ih (i + 1) D2 L3 _ _ _ _ (by omega) ((o.tr o1).tr o2) hR2 h3
               rw [es, et, show nI 17 - 1 = nI 16 from nI_pred 16] at hl
               exact hl)
        · refine x_int (pc' := 136) (v := nI 1) rfl rfl rfl ?_
          refine x_goto rfl ?_
          refine x_istore (pc' := 142) (lv' := [_, _, _, _, _, _, _, _, _, _]) rfl rfl (by decide) rfl ?_
          refine x_int (pc' := 144) (v := nI 16) rfl rfl rfl ?_
          refine x_istore (pc' := 146) (lv' := [_, _, _, _, _, _, _, _, _, _]) rfl rfl (by decide) rfl ?_
          first
            | (have es := wayB_1 (T := T) c108
               have et := wayB_1 (T := T) c132
               have hl := l1_X10_untangle (Q := Q) (d := d) (D := D2) (w := w) (u := u) (b := b) (i := i) (q := i % lng T b) (x4 := x4) (wayB_lt T w b i) (wayB_lt T u b i) (f := wayF T w u b i) (fun L3 v3 h3 => ?kk) 17 L (nI 17 - 1) (by omega) rfl (fun j hj => hO j (by omega)) (fun j hj hj2 => absurd hj2 (by omega))
               case kk =>
                 refine y_inc (pc' := 207) (lv' := [_, _, _, _, _, _, _, _, _, _]) rfl rfl rfl (by decide) rfl ?_
                 refine x_goto rfl ?_
                 exact ih (i + 1) D2 L3 _ _ _ _ (by omega) ((o.tr o1).tr o2) hR2 h3
               rw [es, et, show nI 17 - 1 = nI 16 from nI_pred 16] at hl
               exact hl)
            | (have es := wayB_1 (T := T) c108
               have et := wayB_0 (T := T) c132
               have hl := l1_X10_untangle (Q := Q) (d := d) (D := D2) (w := w) (u := u) (b := b) (i := i) (q := i % lng T b) (x4 := x4) (wayB_lt T w b i) (wayB_lt T u b i) (f := wayF T w u b i) (fun L3 v3 h3 => ?kk) 17 L (nI 17 - 1) (by omega) rfl (fun j hj => hO j (by omega)) (fun j hj hj2 => absurd hj2 (by omega))
               case kk =>
                 refine y_inc (pc' := 207) (lv' := [_, _, _, _, _, _, _, _, _, _]) rfl rfl rfl (by decide) rfl ?_
                 refine x_goto rfl ?_
                 exact ih (i + 1) D2 L3 _ _ _ _ (by omega) ((o.tr o1).tr o2) hR2 h3
               rw [es, et, show nI 17 - 1 = nI 16 from nI_pred 16] at hl
               exact hl)
            | (have es := wayB_0 (T := T) c108
               have et := wayB_1 (T := T) c132
               have hl := l1_X10_untangle (Q := Q) (d := d) (D := D2) (w := w) (u := u) (b := b) (i := i) (q := i % lng T b) (x4 := x4) (wayB_lt T w b i) (wayB_lt T u b i) (f := wayF T w u b i) (fun L3 v3 h3 => ?kk) 17 L (nI 17 - 1) (by omega) rfl (fun j hj => hO j (by omega)) (fun j hj hj2 => absurd hj2 (by omega))
               case kk =>
                 refine y_inc (pc' := 207) (lv' := [_, _, _, _, _, _, _, _, _, _]) rfl rfl rfl (by decide) rfl ?_
                 refine x_goto rfl ?_
                 exact ih (i + 1) D2 L3 _ _ _ _ (by omega) ((o.tr o1).tr o2) hR2 h3
               rw [es, et, show nI 17 - 1 = nI 16 from nI_pred 16] at hl
               exact hl)
            | (have es := wayB_0 (T := T) c108
               have et := wayB_0 (T := T) c132
               have hl := l1_X10_untangle (Q := Q) (d := d) (D := D2) (w := w) (u := u) (b := b) (i := i) (q := i % lng T b) (x4 := x4) (wayB_lt T w b i) (wayB_lt T u b i) (f := wayF T w u b i) (fun L3 v3 h3 => ?kk) 17 L (nI 17 - 1) (by omega) rfl (fun j hj => hO j (by omega)) (fun j hj hj2 => absurd hj2 (by omega))
               case kk =>
                 refine y_inc (pc' := 207) (lv' := [_, _, _, _, _, _, _, _, _, _]) rfl rfl rfl (by decide) rfl ?_
                 refine x_goto rfl ?_
                 exact ih (i + 1) D2 L3 _ _ _ _ (by omega) ((o.tr o1).tr o2) hR2 h3
               rw [es, et, show nI 17 - 1 = nI 16 from nI_pred 16] at hl
               exact hl)
      · refine x_int (pc' := 112) (v := nI 1) rfl rfl rfl ?_
        refine x_goto rfl ?_
        refine x_istore (pc' := 118) (lv' := [_, _, _, _, _, _, _, _, _, _]) rfl rfl (by decide) rfl ?_
        refine x_aload (pc' := 119) rfl rfl rfl ?_
        refine x_iload (pc' := 120) rfl rfl rfl ?_
        refine x_iload (pc' := 121) rfl rfl rfl ?_
        refine x_iload (pc' := 123) rfl rfl rfl ?_
        refine x_callV (pc' := 126) (d1 := 5) (Bs := [_, _, _]) rfl rfl rfl rfl rfl rfl rfl (Nat.le_of_ble_eq_true rfl) ⟨rfl, rfl⟩ (by decide) rfl (by omega) ?_
        refine w_X10_lineOf (D := D1) hW hR1 hu hb hq (fun D2 o2 => ?_)
        refine ⟨rfl, ?_⟩
        have hR2 := OffL212.rn o2 hR1
        refine x_aload (pc' := 127) rfl rfl rfl ?_
        refine x_iload (pc' := 129) rfl rfl rfl ?_
        refine x_callV (pc' := 132) (d1 := 1) (Bs := [_]) rfl rfl rfl rfl rfl rfl rfl (Nat.le_of_ble_eq_true rfl) ⟨rfl, rfl⟩ (by decide) rfl (by omega) ?_
        refine w_X10_seen hW hR2 (by omega) ?_
        refine ⟨rfl, ?_⟩
        refine x_ic_ne (pc' := 135) rfl rfl (fun c132 => ?_) (fun c132 => ?_)
        · refine x_int (pc' := 140) (v := nI 0) rfl rfl rfl ?_
          refine x_istore (pc' := 142) (lv' := [_, _, _, _, _, _, _, _, _, _]) rfl rfl (by decide) rfl ?_
          refine x_int (pc' := 144) (v := nI 16) rfl rfl rfl ?_
          refine x_istore (pc' := 146) (lv' := [_, _, _, _, _, _, _, _, _, _]) rfl rfl (by decide) rfl ?_
          first
            | (have es := wayB_1 (T := T) c108
               have et := wayB_1 (T := T) c132
               have hl := l1_X10_untangle (Q := Q) (d := d) (D := D2) (w := w) (u := u) (b := b) (i := i) (q := i % lng T b) (x4 := x4) (wayB_lt T w b i) (wayB_lt T u b i) (f := wayF T w u b i) (fun L3 v3 h3 => ?kk) 17 L (nI 17 - 1) (by omega) rfl (fun j hj => hO j (by omega)) (fun j hj hj2 => absurd hj2 (by omega))
               case kk =>
                 refine y_inc (pc' := 207) (lv' := [_, _, _, _, _, _, _, _, _, _]) rfl rfl rfl (by decide) rfl ?_
                 refine x_goto rfl ?_
                 exact ih (i + 1) D2 L3 _ _ _ _ (by omega) ((o.tr o1).tr o2) hR2 h3
               rw [es, et, show nI 17 - 1 = nI 16 from nI_pred 16] at hl
               exact hl)
            | (have es := wayB_1 (T := T) c108
               have et := wayB_0 (T := T) c132
               have hl := l1_X10_untangle (Q := Q) (d := d) (D := D2) (w := w) (u := u) (b := b) (i := i) (q := i % lng T b) (x4 := x4) (wayB_lt T w b i) (wayB_lt T u b i) (f := wayF T w u b i) (fun L3 v3 h3 => ?kk) 17 L (nI 17 - 1) (by omega) rfl (fun j hj => hO j (by omega)) (fun j hj hj2 => absurd hj2 (by omega))
               case kk =>
                 refine y_inc (pc' := 207) (lv' := [_, _, _, _, _, _, _, _, _, _]) rfl rfl rfl (by decide) rfl ?_
                 refine x_goto rfl ?_
                 exact ih (i + 1) D2 L3 _ _ _ _ (by omega) ((o.tr o1).tr o2) hR2 h3
               rw [es, et, show nI 17 - 1 = nI 16 from nI_pred 16] at hl
               exact hl)
            | (have es := wayB_0 (T := T) c108
               have et := wayB_1 (T := T) c132
               have hl := l1_X10_untangle (Q := Q) (d := d) (D := D2) (w := w) (u := u) (b := b) (i := i) (q := i % lng T b) (x4 := x4) (wayB_lt T w b i) (wayB_lt T u b i) (f := wayF T w u b i) (fun L3 v3 h3 => ?kk) 17 L (nI 17 - 1) (by omega) rfl (fun j hj => hO j (by omega)) (fun j hj hj2 => absurd hj2 (by omega))
               case kk =>
                 refine y_inc (pc' := 207) (lv' := [_, _, _, _, _, _, _, _, _, _]) rfl rfl rfl (by decide) rfl ?_
                 refine x_goto rfl ?_
                 exact ih (i + 1) D2 L3 _ _ _ _ (by omega) ((o.tr o1).tr o2) hR2 h3
               rw [es, et, show nI 17 - 1 = nI 16 from nI_pred 16] at hl
               exact hl)
            | (have es := wayB_0 (T := T) c108
               have et := wayB_0 (T := T) c132
               have hl := l1_X10_untangle (Q := Q) (d := d) (D := D2) (w := w) (u := u) (b := b) (i := i) (q := i % lng T b) (x4 := x4) (wayB_lt T w b i) (wayB_lt T u b i) (f := wayF T w u b i) (fun L3 v3 h3 => ?kk) 17 L (nI 17 - 1) (by omega) rfl (fun j hj => hO j (by omega)) (fun j hj hj2 => absurd hj2 (by omega))
               case kk =>
                 refine y_inc (pc' := 207) (lv' := [_, _, _, _, _, _, _, _, _, _]) rfl rfl rfl (by decide) rfl ?_
                 refine x_goto rfl ?_
                 exact ih (i + 1) D2 L3 _ _ _ _ (by omega) ((o.tr o1).tr o2) hR2 h3
               rw [es, et, show nI 17 - 1 = nI 16 from nI_pred 16] at hl
               exact hl)
        · refine x_int (pc' := 136) (v := nI 1) rfl rfl rfl ?_
          refine x_goto rfl ?_
          refine x_istore (pc' := 142) (lv' := [_, _, _, _, _, _, _, _, _, _]) rfl rfl (by decide) rfl ?_
          refine x_int (pc' := 144) (v := nI 16) rfl rfl rfl ?_
          refine x_istore (pc' := 146) (lv' := [_, _, _, _, _, _, _, _, _, _]) rfl rfl (by decide) rfl ?_
          first
            | (have es := wayB_1 (T := T) c108
               have et := wayB_1 (T := T) c132
               have hl := l1_X10_untangle (Q := Q) (d := d) (D := D2) (w := w) (u := u) (b := b) (i := i) (q := i % lng T b) (x4 := x4) (wayB_lt T w b i) (wayB_lt T u b i) (f := wayF T w u b i) (fun L3 v3 h3 => ?kk) 17 L (nI 17 - 1) (by omega) rfl (fun j hj => hO j (by omega)) (fun j hj hj2 => absurd hj2 (by omega))
               case kk =>
                 refine y_inc (pc' := 207) (lv' := [_, _, _, _, _, _, _, _, _, _]) rfl rfl rfl (by decide) rfl ?_
                 refine x_goto rfl ?_
                 exact ih (i + 1) D2 L3 _ _ _ _ (by omega) ((o.tr o1).tr o2) hR2 h3
               rw [es, et, show nI 17 - 1 = nI 16 from nI_pred 16] at hl
               exact hl)
            | (have es := wayB_1 (T := T) c108
               have et := wayB_0 (T := T) c132
               have hl := l1_X10_untangle (Q := Q) (d := d) (D := D2) (w := w) (u := u) (b := b) (i := i) (q := i % lng T b) (x4 := x4) (wayB_lt T w b i) (wayB_lt T u b i) (f := wayF T w u b i) (fun L3 v3 h3 => ?kk) 17 L (nI 17 - 1) (by omega) rfl (fun j hj => hO j (by omega)) (fun j hj hj2 => absurd hj2 (by omega))
               case kk =>
                 refine y_inc (pc' := 207) (lv' := [_, _, _, _, _, _, _, _, _, _]) rfl rfl rfl (by decide) rfl ?_
                 refine x_goto rfl ?_
                 exact ih (i + 1) D2 L3 _ _ _ _ (by omega) ((o.tr o1).tr o2) hR2 h3
               rw [es, et, show nI 17 - 1 = nI 16 from nI_pred 16] at hl
               exact hl)
            | (have es := wayB_0 (T := T) c108
               have et := wayB_1 (T := T) c132
               have hl := l1_X10_untangle (Q := Q) (d := d) (D := D2) (w := w) (u := u) (b := b) (i := i) (q := i % lng T b) (x4 := x4) (wayB_lt T w b i) (wayB_lt T u b i) (f := wayF T w u b i) (fun L3 v3 h3 => ?kk) 17 L (nI 17 - 1) (by omega) rfl (fun j hj => hO j (by omega)) (fun j hj hj2 => absurd hj2 (by omega))
               case kk =>
                 refine y_inc (pc' := 207) (lv' := [_, _, _, _, _, _, _, _, _, _]) rfl rfl rfl (by decide) rfl ?_
                 refine x_goto rfl ?_
                 exact ih (i + 1) D2 L3 _ _ _ _ (by omega) ((o.tr o1).tr o2) hR2 h3
               rw [es, et, show nI 17 - 1 = nI 16 from nI_pred 16] at hl
               exact hl)
            | (have es := wayB_0 (T := T) c108
               have et := wayB_0 (T := T) c132
               have hl := l1_X10_untangle (Q := Q) (d := d) (D := D2) (w := w) (u := u) (b := b) (i := i) (q := i % lng T b) (x4 := x4) (wayB_lt T w b i) (wayB_lt T u b i) (f := wayF T w u b i) (fun L3 v3 h3 => ?kk) 17 L (nI 17 - 1) (by omega) rfl (fun j hj => hO j (by omega)) (fun j hj hj2 => absurd hj2 (by omega))
               case kk =>
                 refine y_inc (pc' := 207) (lv' := [_, _, _, _, _, _, _, _, _, _]) rfl rfl rfl (by decide) rfl ?_
                 refine x_goto rfl ?_
                 exact ih (i + 1) D2 L3 _ _ _ _ (by omega) ((o.tr o1).tr o2) hR2 h3
               rw [es, et, show nI 17 - 1 = nI 16 from nI_pred 16] at hl
               exact hl)
set_option maxRecDepth 20000 in
set_option maxHeartbeats 1000000 in
theorem w_X10_untangle {D : Nat → Nat → Int32} {L : Nat → Nat → Int64} {Q : bh_Q} {T : TW} (hW : WF T) (hR : Rn T (D 206)) {x u y v : Int32} (k1 : ∀ D1 L1, OffM D D1 → Q (some (.long (untangleQ T x u y v))) (hp D1 L1)) : bh_wc 6 m_X10_untangle [.ref 205, .int x, .int u, .int y, .int v] (hp D L) Q := by
  refine x_start (lv0 := [_, _, _, _, _, _, _, _, _, _]) (Nat.le_of_ble_eq_true rfl) rfl ?_
  have h12 := hW.nwl
  have h16 := hW.nsl
  have h4 := hW.nbl
  refine x_aload (pc' := 1) rfl rfl rfl ?_
  refine x_iload (pc' := 2) rfl rfl rfl ?_
  refine x_callV (pc' := 5) (d1 := 2) (Bs := [_]) rfl rfl rfl rfl rfl rfl rfl (Nat.le_of_ble_eq_true rfl) ⟨rfl, rfl⟩ (by decide) rfl (by decide) ?_
  refine w_X10_isWriter hW hR (fun h2w h2l e => ?_) (fun h2 => ?_)
  · subst e
    refine ⟨rfl, ?_⟩
    refine x_if_eq (pc' := 8) rfl rfl (fun c5 => absurd c5 (by decide)) (fun _ => ?_)
    refine x_aload (pc' := 9) rfl rfl rfl ?_
    refine x_iload (pc' := 10) rfl rfl rfl ?_
    refine x_callV (pc' := 13) (d1 := 2) (Bs := [_]) rfl rfl rfl rfl rfl rfl rfl (Nat.le_of_ble_eq_true rfl) ⟨rfl, rfl⟩ (by decide) rfl (by decide) ?_
    refine w_X10_isWriter hW hR (fun h10w h10l e => ?_) (fun h10 => ?_)
    · subst e
      refine ⟨rfl, ?_⟩
      refine x_if_eq (pc' := 16) rfl rfl (fun c13 => absurd c13 (by decide)) (fun _ => ?_)
      refine x_iload (pc' := 17) rfl rfl rfl ?_
      refine x_iload (pc' := 18) rfl rfl rfl ?_
      refine y_ic_eq (pc' := 21) rfl rfl (by omega) (by omega) (fun c18 => ?_) (fun c18 => ?_)
      · refine x_long (pc' := 32) (v := (-1 : Int32).toInt64) rfl rfl (by decide) ?_
        refine x_lret rfl rfl ?_
        first
          | (simp (disch := first | assumption | omega) only [untangleQ, onN_1, onN_0, onP_1, onP_0, ↓reduceIte] at k1
             exact k1 D L OffM.rf)
          | (simp (disch := first | assumption | omega) only [untangleQ, onN_1, onN_0, onP_1, onP_0, ↓reduceIte] at k1
             rw [if_pos c18] at k1
             exact k1 D L OffM.rf)
          | (simp (disch := first | assumption | omega) only [untangleQ, onN_1, onN_0, onP_1, onP_0, ↓reduceIte] at k1
             rw [if_neg c18] at k1
             exact k1 D L OffM.rf)
      · refine x_aload (pc' := 22) rfl rfl rfl ?_
        refine x_iload (pc' := 23) rfl rfl rfl ?_
        refine x_callV (pc' := 26) (d1 := 2) (Bs := [_]) rfl rfl rfl rfl rfl rfl rfl (Nat.le_of_ble_eq_true rfl) ⟨rfl, rfl⟩ (by decide) rfl (by decide) ?_
        refine w_X10_isBook hW hR (fun b hb e => ?_) (fun h23 => ?_)
        · subst e
          refine ⟨rfl, ?_⟩
          refine x_if_ne (pc' := 29) rfl rfl (fun _ => ?_) (fun c26 => absurd c26 (by decide))
          refine x_int (pc' := 34) (v := nI 0) rfl rfl rfl ?_
          refine x_istore (pc' := 36) (lv' := [_, _, _, _, _, _, _, _, _, _]) rfl rfl (by decide) rfl ?_
          refine l0_X10_untangle (L := L) (d := 5) (by decide) (D0 := D) (fun L1 h1 => ?_) 17 0 D L rfl rfl (fun j hj => absurd hj (Nat.not_lt_zero j))
          refine x_int (pc' := 71) (v := nI 0) rfl rfl rfl ?_
          refine x_istore (pc' := 73) (lv' := [_, _, _, _, _, _, _, _, _, _]) rfl rfl (by decide) rfl ?_
          refine l2_X10_untangle (L := L) (d := 5) (Nat.le_refl _) hW (D0 := D) h2l h10l hb (fun D2 L2 v6 v7 v8 v9 o2 hL => ?_) (ns T) 0 D L1 _ _ _ _ (Nat.zero_add _) OffL.rf hR h1
          refine x_iload (pc' := 212) rfl rfl rfl ?_
          refine x_i2l (pc' := 213) rfl rfl ?_
          refine x_long (pc' := 214) (v := (nI 0).toInt64) rfl rfl (by decide) ?_
          refine x_long (pc' := 217) (v := (nI 16).toInt64) rfl rfl (by decide) ?_
          refine x_callS (pc' := 220) (d1 := 1) (As := [_, _, _]) rfl rfl rfl rfl (by decide) rfl rfl (Nat.le_of_ble_eq_true rfl) ⟨rfl, rfl⟩ (by decide) ?_
          refine w_X10_in (fun h217a h217b => ?_) (fun h217 => ?_)
          · obtain ⟨h217w, h217l, rfl⟩ := in_okL (n := 16) (by decide) h217a h217b
            refine ⟨rfl, ?_⟩
            refine x_if_eq (pc' := 223) rfl rfl (fun c220 => absurd c220 (by decide)) (fun _ => ?_)
            refine x_aload (pc' := 224) rfl rfl rfl ?_
            refine x_getR (pc' := 227) rfl rfl rfl (by decide) rfl (by decide) rfl rfl ?_
            refine x_iload (pc' := 229) rfl rfl rfl ?_
            refine x_lald (pc' := 230) rfl rfl (by decide) rfl (by decide) (show _ < 17 by omega) ?_
            refine x_goto rfl ?_
            refine x_lret rfl rfl ?_
            first
              | (simp (disch := first | assumption | omega) only [untangleQ, if_neg c18, onN_1, onN_0, onP_1, onP_0, ↓reduceIte] at k1
                 by_cases hmn : h217w < ns T + 1
                 · rw [onN_1 hmn (by omega)] at k1; rw [hL _ (by omega)]; exact k1 D2 L2 (OffL.m o2 (by decide))
                 · rw [onN_0 (fun ⟨q, hq1, hq2⟩ => hmn (by have := nI_inj (by omega) (by omega) hq2; omega)) (by omega)] at k1; rw [hL _ (by omega), wayF_out (ns T) h217w (by omega)]; exact k1 D2 L2 (OffL.m o2 (by decide)))
              | (have hv : ¬ okN (ns T + 1) v := fun ⟨q, hq1, hq2⟩ => h217 ⟨q, by omega, hq2⟩
                 simp (disch := first | assumption | omega) only [untangleQ, if_neg c18, onN_1, onN_0, onP_1, onP_0, ↓reduceIte] at k1
                 exact k1 D2 L2 (OffL.m o2 (by decide)))
          · have h217 := okN_inL (n := 16) (by decide) h217
            refine ⟨rfl, ?_⟩
            refine x_if_eq (pc' := 223) rfl rfl (fun _ => ?_) (fun c220 => absurd (by decide) c220)
            refine x_long (pc' := 234) (v := (nI 0).toInt64) rfl rfl (by decide) ?_
            refine x_lret rfl rfl ?_
            first
              | (simp (disch := first | assumption | omega) only [untangleQ, if_neg c18, onN_1, onN_0, onP_1, onP_0, ↓reduceIte] at k1
                 by_cases hmn : h217w < ns T + 1
                 · rw [onN_1 hmn (by omega)] at k1; rw [hL _ (by omega)]; exact k1 D2 L2 (OffL.m o2 (by decide))
                 · rw [onN_0 (fun ⟨q, hq1, hq2⟩ => hmn (by have := nI_inj (by omega) (by omega) hq2; omega)) (by omega)] at k1; rw [hL _ (by omega), wayF_out (ns T) h217w (by omega)]; exact k1 D2 L2 (OffL.m o2 (by decide)))
              | (have hv : ¬ okN (ns T + 1) v := fun ⟨q, hq1, hq2⟩ => h217 ⟨q, by omega, hq2⟩
                 simp (disch := first | assumption | omega) only [untangleQ, if_neg c18, onN_1, onN_0, onP_1, onP_0, ↓reduceIte] at k1
                 exact k1 D2 L2 (OffL.m o2 (by decide)))
        · refine ⟨rfl, ?_⟩
          refine x_if_ne (pc' := 29) rfl rfl (fun c26 => absurd (by decide) c26) (fun _ => ?_)
          refine x_long (pc' := 32) (v := (-1 : Int32).toInt64) rfl rfl (by decide) ?_
          refine x_lret rfl rfl ?_
          first
            | (simp (disch := first | assumption | omega) only [untangleQ, onN_1, onN_0, onP_1, onP_0, ↓reduceIte] at k1
               exact k1 D L OffM.rf)
            | (simp (disch := first | assumption | omega) only [untangleQ, onN_1, onN_0, onP_1, onP_0, ↓reduceIte] at k1
               rw [if_pos c18] at k1
               exact k1 D L OffM.rf)
            | (simp (disch := first | assumption | omega) only [untangleQ, onN_1, onN_0, onP_1, onP_0, ↓reduceIte] at k1
               rw [if_neg c18] at k1
               exact k1 D L OffM.rf)
    · refine ⟨rfl, ?_⟩
      refine x_if_eq (pc' := 16) rfl rfl (fun _ => ?_) (fun c13 => absurd (by decide) c13)
      refine x_long (pc' := 32) (v := (-1 : Int32).toInt64) rfl rfl (by decide) ?_
      refine x_lret rfl rfl ?_
      first
        | (simp (disch := first | assumption | omega) only [untangleQ, onN_1, onN_0, onP_1, onP_0, ↓reduceIte] at k1
           exact k1 D L OffM.rf)
        | (simp (disch := first | assumption | omega) only [untangleQ, onN_1, onN_0, onP_1, onP_0, ↓reduceIte] at k1
           rw [if_pos c18] at k1
           exact k1 D L OffM.rf)
        | (simp (disch := first | assumption | omega) only [untangleQ, onN_1, onN_0, onP_1, onP_0, ↓reduceIte] at k1
           rw [if_neg c18] at k1
           exact k1 D L OffM.rf)
  · refine ⟨rfl, ?_⟩
    refine x_if_eq (pc' := 8) rfl rfl (fun _ => ?_) (fun c5 => absurd (by decide) c5)
    refine x_long (pc' := 32) (v := (-1 : Int32).toInt64) rfl rfl (by decide) ?_
    refine x_lret rfl rfl ?_
    first
      | (simp (disch := first | assumption | omega) only [untangleQ, onN_1, onN_0, onP_1, onP_0, ↓reduceIte] at k1
         exact k1 D L OffM.rf)
      | (simp (disch := first | assumption | omega) only [untangleQ, onN_1, onN_0, onP_1, onP_0, ↓reduceIte] at k1
         rw [if_pos c18] at k1
         exact k1 D L OffM.rf)
      | (simp (disch := first | assumption | omega) only [untangleQ, onN_1, onN_0, onP_1, onP_0, ↓reduceIte] at k1
         rw [if_neg c18] at k1
         exact k1 D L OffM.rf)
