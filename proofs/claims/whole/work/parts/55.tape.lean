/-! ===== the tape: what is read ===== -/
def skF (p : Nat → Bool) (tp : List Nat) : Nat → Nat → Nat
  | 0, i => i
  | f + 1, i => if p (tp.getD i 0) = true then skF p tp f (i + 1) else i
def skp (p : Nat → Bool) (tp : List Nat) (i : Nat) : Nat := skF p tp (tp.length - i) i
theorem skp_1 {p : Nat → Bool} {tp : List Nat} {i : Nat} (h : i < tp.length) (hp : p (tp.getD i 0) = true) : skp p tp i = skp p tp (i + 1) := by
  unfold skp
  rw [show tp.length - i = (tp.length - (i + 1)) + 1 by omega]
  exact if_pos hp
theorem skp_0 {p : Nat → Bool} {tp : List Nat} {i : Nat} (h : i < tp.length) (hp : p (tp.getD i 0) = false) : skp p tp i = i := by
  unfold skp
  rw [show tp.length - i = (tp.length - (i + 1)) + 1 by omega]
  exact if_neg (by rw [hp]; decide)
theorem skp_e {p : Nat → Bool} {tp : List Nat} {i : Nat} (h : tp.length ≤ i) : skp p tp i = i := by
  unfold skp
  rw [show tp.length - i = 0 by omega]
  rfl
theorem skF_ge {p : Nat → Bool} {tp : List Nat} : ∀ f i, i ≤ skF p tp f i ∧ skF p tp f i ≤ i + f := by
  intro f
  induction f with
  | zero => intro i; exact ⟨Nat.le_refl _, Nat.le_refl _⟩
  | succ f ih =>
    intro i
    unfold skF
    split
    · have := ih (i + 1); omega
    · omega
theorem skp_ge {p : Nat → Bool} {tp : List Nat} (i : Nat) : i ≤ skp p tp i := (skF_ge _ _).1
theorem skp_le {p : Nat → Bool} {tp : List Nat} {i : Nat} (h : i ≤ tp.length) : skp p tp i ≤ tp.length := by have := (skF_ge (p := p) (tp := tp) (tp.length - i) i).2; unfold skp; omega
/-- where it stands after: the end, or something else -/
theorem skp_end {p : Nat → Bool} {tp : List Nat} : ∀ f i, i + f = tp.length → (skp p tp i < tp.length → p (tp.getD (skp p tp i) 0) = false) := by
  intro f
  induction f with
  | zero => intro i hi h; rw [skp_e (by omega)] at h; omega
  | succ f ih =>
    intro i hi h
    cases hp : p (tp.getD i 0)
    · rw [skp_0 (by omega) hp]; exact hp
    · rw [skp_1 (by omega) hp] at h ⊢; exact ih (i + 1) (by omega) h
theorem skp_fix {p : Nat → Bool} {tp : List Nat} {i : Nat} (h : i ≤ tp.length) : skp p tp (skp p tp i) = skp p tp i := by
  have h1 := skp_le (p := p) h
  rcases Nat.lt_or_ge (skp p tp i) tp.length with h2 | h2
  · exact skp_0 h2 (skp_end (tp.length - i) i (by omega) h2)
  · exact skp_e h2
def isBk (c : Nat) : Bool := decide (c = 32)
def isLt (c : Nat) : Bool := decide (97 ≤ c ∧ c ≤ 122)
def isDg (c : Nat) : Bool := decide (48 ≤ c ∧ c ≤ 57)
def nmV (tp : List Nat) (s : Nat) : Nat → Nat
  | 0 => 0
  | m + 1 => 10 * nmV tp s m + (tp.getD (s + m) 0 - 48)
def nS (tp : List Nat) (a : Nat) : Nat := skp isBk tp a
def nE (tp : List Nat) (a : Nat) : Nat := skp isDg tp (nS tp a)
def nV (tp : List Nat) (a : Nat) : Nat := nmV tp (nS tp a) (nE tp a - nS tp a)
def nF (tp : List Nat) (lo hi a : Nat) : Nat := if nE tp a = nS tp a then 8 * nS tp a + 1 else if nV tp a < lo ∨ hi ≤ nV tp a then 8 * nS tp a + 2 else 0
theorem nS_ge (tp : List Nat) (a : Nat) : a ≤ nS tp a := skp_ge a
theorem nE_ge (tp : List Nat) (a : Nat) : nS tp a ≤ nE tp a := skp_ge _
theorem nS_le {tp : List Nat} {a : Nat} (h : a ≤ tp.length) : nS tp a ≤ tp.length := skp_le h
theorem nE_le {tp : List Nat} {a : Nat} (h : a ≤ tp.length) : nE tp a ≤ tp.length := skp_le (nS_le h)
/-- a number is held as large at most: the class at 1000000, the reference at 999999 -/
theorem min_step {c v d : Nat} : min (10 * min c v + d) c = min (10 * v + d) c := by omega
def scN (j i : Nat) : Nat := (((bh_ST.getD j ("", 0, "")).2.2).toList.getD i 'a').toNat
def wdB (tp : List Nat) (s e j : Nat) : Bool := decide (bh_sl j = e - s) && (List.range (bh_sl j)).all (fun k => decide (tp.getD (s + k) 0 = scN j k))
def TS (D : Nat → Nat → Int32) (tp : List Nat) (a f : Nat) : Prop := PC D tp ∧ D 27 2 = nI a ∧ a ≤ tp.length ∧ D 27 4 = nI f ∧ f < 10000
def O27 (D D' : Nat → Nat → Int32) : Prop := ∀ k, k ≠ 27 → D' k = D k
theorem O27.rf {D : Nat → Nat → Int32} : O27 D D := fun _ _ => rfl
theorem O27.tr {D D1 D2 : Nat → Nat → Int32} (h1 : O27 D D1) (h2 : O27 D1 D2) : O27 D D2 := fun k a => (h2 k a).trans (h1 k a)
theorem O27.up {D : Nat → Nat → Int32} {j : Nat} {x : Int32} : O27 D (bh_up2 D 27 j x) := fun k h => bh_up2_ne _ _ _ h
theorem TS.a {D : Nat → Nat → Int32} {tp : List Nat} {a b f : Nat} (h : TS D tp a f) (hb : b ≤ tp.length) : TS (bh_up2 D 27 2 (nI b)) tp b f := by
  obtain ⟨⟨h1, h2, h3⟩, h4, h5, h6, h7⟩ := h
  refine ⟨⟨h1, ?_, ?_⟩, bh_up2_self _ _ _ _, hb, ?_, h7⟩
  · rw [up2_o (by decide)]; exact h2
  · rw [bh_up2_ne _ _ _ (by decide)]; exact h3
  · rw [up2_o (by decide)]; exact h6
theorem TS.b {D : Nat → Nat → Int32} {tp : List Nat} {a f : Nat} {x : Int32} (h : TS D tp a f) : TS (bh_up2 D 27 3 x) tp a f := by
  obtain ⟨⟨h1, h2, h3⟩, h4, h5, h6, h7⟩ := h
  refine ⟨⟨h1, ?_, ?_⟩, ?_, h5, ?_, h7⟩
  · rw [up2_o (by decide)]; exact h2
  · rw [bh_up2_ne _ _ _ (by decide)]; exact h3
  · rw [up2_o (by decide)]; exact h4
  · rw [up2_o (by decide)]; exact h6
theorem TS.f {D : Nat → Nat → Int32} {tp : List Nat} {a f g : Nat} (h : TS D tp a f) (hg : g < 10000) : TS (bh_up2 D 27 4 (nI g)) tp a g := by
  obtain ⟨⟨h1, h2, h3⟩, h4, h5, h6, h7⟩ := h
  refine ⟨⟨h1, ?_, ?_⟩, ?_, h5, bh_up2_self _ _ _ _, hg⟩
  · rw [up2_o (by decide)]; exact h2
  · rw [bh_up2_ne _ _ _ (by decide)]; exact h3
  · rw [up2_o (by decide)]; exact h4
theorem TS.len {D : Nat → Nat → Int32} {tp : List Nat} {a f : Nat} (h : TS D tp a f) : D 27 1 = nI tp.length := h.1.2.1
theorem TS.at {D : Nat → Nat → Int32} {tp : List Nat} {a f : Nat} (h : TS D tp a f) : D 27 2 = nI a := h.2.1
theorem TS.ft {D : Nat → Nat → Int32} {tp : List Nat} {a f : Nat} (h : TS D tp a f) : D 27 4 = nI f := h.2.2.2.1
theorem TS.l4 {D : Nat → Nat → Int32} {tp : List Nat} {a f : Nat} (h : TS D tp a f) : tp.length ≤ 400 := h.1.1
theorem TS.by {D : Nat → Nat → Int32} {tp : List Nat} {a f i : Nat} (h : TS D tp a f) (hi : i < tp.length) : D 28 i = nI (tp.getD i 0) := (h.1.2.2 i hi).2
theorem TS.b2 {D : Nat → Nat → Int32} {tp : List Nat} {a f i : Nat} (h : TS D tp a f) (hi : i < tp.length) : tp.getD i 0 < 256 := (h.1.2.2 i hi).1

set_option maxRecDepth 20000 in
set_option maxHeartbeats 1000000 in
theorem w_X6_isLetter {D : Nat → Nat → Int32} {L : Nat → Nat → Int64} {Q : bh_Q} {c : Nat} (hc : c < 256) (k1 : 97 ≤ c ∧ c ≤ 122 → Q (some (.int 1)) (hp D L)) (k0 : ¬ (97 ≤ c ∧ c ≤ 122) → Q (some (.int 0)) (hp D L)) : bh_wc 1 m_X6_isLetter [.int (nI c)] (hp D L) Q := by
  refine x_start (lv0 := [_]) (Nat.le_of_ble_eq_true rfl) rfl ?_
  refine x_iload (pc' := 1) rfl rfl rfl ?_
  refine x_int (pc' := 3) (v := nI 97) rfl rfl rfl ?_
  refine y_ic_lt (pc' := 6) rfl rfl (by omega) (by omega) (fun c3 => ?_) (fun c3 => ?_)
  · refine x_int (pc' := 17) (v := nI 0) rfl rfl rfl ?_
    refine x_zret rfl rfl (by decide) ?_
    first
      | (exact k1 ⟨c3, c9⟩)
      | (exact k0 (fun h => by omega))
  · refine x_iload (pc' := 7) rfl rfl rfl ?_
    refine x_int (pc' := 9) (v := nI 122) rfl rfl rfl ?_
    refine y_ic_gt (pc' := 12) rfl rfl (by omega) (by omega) (fun c9 => ?_) (fun c9 => ?_)
    · refine x_int (pc' := 17) (v := nI 0) rfl rfl rfl ?_
      refine x_zret rfl rfl (by decide) ?_
      first
        | (exact k1 ⟨c3, c9⟩)
        | (exact k0 (fun h => by omega))
    · refine x_int (pc' := 13) (v := nI 1) rfl rfl rfl ?_
      refine x_goto rfl ?_
      refine x_zret rfl rfl (by decide) ?_
      first
        | (exact k1 ⟨c3, c9⟩)
        | (exact k0 (fun h => by omega))
set_option maxRecDepth 20000 in
set_option maxHeartbeats 1000000 in
theorem w_X6_isDigit {D : Nat → Nat → Int32} {L : Nat → Nat → Int64} {Q : bh_Q} {c : Nat} (hc : c < 256) (k1 : 48 ≤ c ∧ c ≤ 57 → Q (some (.int 1)) (hp D L)) (k0 : ¬ (48 ≤ c ∧ c ≤ 57) → Q (some (.int 0)) (hp D L)) : bh_wc 1 m_X6_isDigit [.int (nI c)] (hp D L) Q := by
  refine x_start (lv0 := [_]) (Nat.le_of_ble_eq_true rfl) rfl ?_
  refine x_iload (pc' := 1) rfl rfl rfl ?_
  refine x_int (pc' := 3) (v := nI 48) rfl rfl rfl ?_
  refine y_ic_lt (pc' := 6) rfl rfl (by omega) (by omega) (fun c3 => ?_) (fun c3 => ?_)
  · refine x_int (pc' := 17) (v := nI 0) rfl rfl rfl ?_
    refine x_zret rfl rfl (by decide) ?_
    first
      | (exact k1 ⟨c3, c9⟩)
      | (exact k0 (fun h => by omega))
  · refine x_iload (pc' := 7) rfl rfl rfl ?_
    refine x_int (pc' := 9) (v := nI 57) rfl rfl rfl ?_
    refine y_ic_gt (pc' := 12) rfl rfl (by omega) (by omega) (fun c9 => ?_) (fun c9 => ?_)
    · refine x_int (pc' := 17) (v := nI 0) rfl rfl rfl ?_
      refine x_zret rfl rfl (by decide) ?_
      first
        | (exact k1 ⟨c3, c9⟩)
        | (exact k0 (fun h => by omega))
    · refine x_int (pc' := 13) (v := nI 1) rfl rfl rfl ?_
      refine x_goto rfl ?_
      refine x_zret rfl rfl (by decide) ?_
      first
        | (exact k1 ⟨c3, c9⟩)
        | (exact k0 (fun h => by omega))
set_option maxRecDepth 20000 in
set_option maxHeartbeats 1000000 in
theorem w_X6_refuse {D : Nat → Nat → Int32} {L : Nat → Nat → Int64} {Q : bh_Q} {tp : List Nat} {a f s c : Nat} (h : TS D tp a f) (hs : s ≤ 400) (hc : c < 8) (k1 : ∀ D', O27 D D' → D' 27 3 = D 27 3 → TS D' tp a (8 * s + c) → Q (some (.int 0)) (hp D' L)) : bh_wc 1 m_X6_refuse [.ref 27, .int (nI s), .int (nI c)] (hp D L) Q := by
  refine x_start (lv0 := [_, _, _]) (Nat.le_of_ble_eq_true rfl) rfl ?_
  refine x_aload (pc' := 1) rfl rfl rfl ?_
  refine x_int (pc' := 3) (v := nI 8) rfl rfl rfl ?_
  refine x_iload (pc' := 4) rfl rfl rfl ?_
  refine y_imul (pc' := 5) rfl rfl ?_
  refine x_iload (pc' := 6) rfl rfl rfl ?_
  refine y_iadd (pc' := 7) rfl rfl ?_
  refine x_putI (j := 4) (pc' := 10) rfl rfl rfl (by decide) rfl (by decide) rfl rfl ?_
  refine x_int (pc' := 11) (v := nI 0) rfl rfl rfl ?_
  refine x_zret rfl rfl (by decide) ?_
  exact k1 _ O27.up (by rw [up2_o (by decide)]) (h.f (by omega))
set_option maxRecDepth 20000 in
set_option maxHeartbeats 1000000 in
theorem l_X6_skipBlanks {L : Nat → Nat → Int64} {Q : bh_Q} {d : Nat} {tp : List Nat} {f : Nat} : ∀ (n i : Nat) (D : Nat → Nat → Int32), tp.length - i < n → TS D tp i f → (∀ D', O27 D D' → TS D' tp (skp isBk tp i) f → D' 27 3 = D 27 3 → Q none (hp D' L)) → bw m_X6_skipBlanks d Q 0 [.ref 27] [] D L := by
  intro n
  induction n with
  | zero => intro i D hn; omega
  | succ n ih =>
    intro i D hn h k1
    have h4 := h.l4
    have hi := h.2.2.1
    refine x_aload (pc' := 1) rfl rfl rfl ?_
    refine x_getI (j := 2) (pc' := 4) rfl rfl rfl (by decide) rfl (by decide) rfl rfl ?_
    refine x_top (h.at) ?_
    refine x_aload (pc' := 5) rfl rfl rfl ?_
    refine x_getI (j := 1) (pc' := 8) rfl rfl rfl (by decide) rfl (by decide) rfl rfl ?_
    refine x_top (h.len) ?_
    refine y_ic_ge (pc' := 11) rfl rfl (by first | omega | (have := h.b2 (i := i) (by omega); omega)) (by first | omega | (have := h.b2 (i := i) (by omega); omega)) (fun c8 => ?_) (fun c8 => ?_)
    · refine x_vret rfl rfl ?_
      first
        | (rw [skp_0 (show i < tp.length by omega) (show isBk (tp.getD i 0) = false from decide_eq_false c22)] at k1
           exact k1 D O27.rf h rfl)
        | (rw [skp_e (show tp.length ≤ i by omega)] at k1
           exact k1 D O27.rf h rfl)
    · refine x_aload (pc' := 12) rfl rfl rfl ?_
      refine x_getR (pc' := 15) rfl rfl rfl (by decide) rfl (by decide) rfl rfl ?_
      refine x_aload (pc' := 16) rfl rfl rfl ?_
      refine x_getI (j := 2) (pc' := 19) rfl rfl rfl (by decide) rfl (by decide) rfl rfl ?_
      refine x_top (h.at) ?_
      refine x_iald (pc' := 20) rfl rfl (by decide) rfl (by decide) (show _ < 400 by omega) ?_
      refine x_top (h.by (by omega)) ?_
      refine x_int (pc' := 22) (v := nI 32) rfl rfl rfl ?_
      refine y_ic_ne (pc' := 25) rfl rfl (by first | omega | (have := h.b2 (i := i) (by omega); omega)) (by first | omega | (have := h.b2 (i := i) (by omega); omega)) (fun c22 => ?_) (fun c22 => ?_)
      · refine x_vret rfl rfl ?_
        first
          | (rw [skp_0 (show i < tp.length by omega) (show isBk (tp.getD i 0) = false from decide_eq_false c22)] at k1
             exact k1 D O27.rf h rfl)
          | (rw [skp_e (show tp.length ≤ i by omega)] at k1
             exact k1 D O27.rf h rfl)
      · refine x_aload (pc' := 26) rfl rfl rfl ?_
        refine x_dup (pc' := 27) rfl rfl rfl ?_
        refine x_getI (j := 2) (pc' := 30) rfl rfl rfl (by decide) rfl (by decide) rfl rfl ?_
        refine x_top (h.at) ?_
        refine x_int (pc' := 31) (v := nI 1) rfl rfl rfl ?_
        refine y_iadd (pc' := 32) rfl rfl ?_
        refine x_putI (j := 2) (pc' := 35) rfl rfl rfl (by decide) rfl (by decide) rfl rfl ?_
        refine x_goto rfl ?_
        refine ih (i + 1) _ (by omega) (h.a (by omega)) (fun D2 o2 h2 e2 => ?_)
        rw [← skp_1 (show i < tp.length by omega) (show isBk (tp.getD i 0) = true from decide_eq_true c22)] at h2
        exact k1 D2 (O27.up.tr o2) h2 (e2.trans (up2_o (by decide)))
set_option maxRecDepth 20000 in
set_option maxHeartbeats 1000000 in
theorem w_X6_skipBlanks {D : Nat → Nat → Int32} {L : Nat → Nat → Int64} {Q : bh_Q} {tp : List Nat} {a f : Nat} (h : TS D tp a f) (k1 : ∀ D', O27 D D' → TS D' tp (skp isBk tp a) f → D' 27 3 = D 27 3 → Q none (hp D' L)) : bh_wc 1 m_X6_skipBlanks [.ref 27] (hp D L) Q := by
  refine x_start (lv0 := [_]) (Nat.le_of_ble_eq_true rfl) rfl ?_
  exact l_X6_skipBlanks (tp.length - a + 1) a D (by omega) h k1
set_option maxRecDepth 20000 in
set_option maxHeartbeats 1000000 in
theorem l_X6_readWord {L : Nat → Nat → Int64} {Q : bh_Q} {d : Nat} (hd : 1 ≤ d) {tp : List Nat} {f : Nat} : ∀ (n i : Nat) (D : Nat → Nat → Int32), tp.length - i < n → TS D tp i f → (∀ D', O27 D D' → TS D' tp (skp isLt tp i) f → D' 27 3 = D 27 3 → Q none (hp D' L)) → bw m_X6_readWord d Q 12 [.ref 27] [] D L := by
  intro n
  induction n with
  | zero => intro i D hn; omega
  | succ n ih =>
    intro i D hn h k1
    have h4 := h.l4
    have hi := h.2.2.1
    refine x_aload (pc' := 13) rfl rfl rfl ?_
    refine x_getI (j := 2) (pc' := 16) rfl rfl rfl (by decide) rfl (by decide) rfl rfl ?_
    refine x_top (h.at) ?_
    refine x_aload (pc' := 17) rfl rfl rfl ?_
    refine x_getI (j := 1) (pc' := 20) rfl rfl rfl (by decide) rfl (by decide) rfl rfl ?_
    refine x_top (h.len) ?_
    refine y_ic_ge (pc' := 23) rfl rfl (by omega) (by omega) (fun c20 => ?_) (fun c20 => ?_)
    · refine x_vret rfl rfl ?_
      first
        | (rw [skp_0 (show i < tp.length by omega) (show isLt (tp.getD i 0) = false from decide_eq_false hc)] at k1
           exact k1 D O27.rf h rfl)
        | (rw [skp_e (show tp.length ≤ i by omega)] at k1
           exact k1 D O27.rf h rfl)
    · refine x_aload (pc' := 24) rfl rfl rfl ?_
      refine x_getR (pc' := 27) rfl rfl rfl (by decide) rfl (by decide) rfl rfl ?_
      refine x_aload (pc' := 28) rfl rfl rfl ?_
      refine x_getI (j := 2) (pc' := 31) rfl rfl rfl (by decide) rfl (by decide) rfl rfl ?_
      refine x_top (h.at) ?_
      refine x_iald (pc' := 32) rfl rfl (by decide) rfl (by decide) (show _ < 400 by omega) ?_
      refine x_top (h.by (by omega)) ?_
      refine x_callS (pc' := 35) (d1 := 1) (As := [_]) rfl rfl rfl rfl (by decide) rfl rfl (Nat.le_of_ble_eq_true rfl) ⟨rfl, rfl⟩ (by omega) ?_
      refine w_X6_isLetter (h.b2 (i := i) (by omega)) (fun hc => ?_) (fun hc => ?_)
      · refine ⟨rfl, ?_⟩
        refine x_if_eq (pc' := 38) rfl rfl (fun c35 => absurd c35 (by decide)) (fun _ => ?_)
        refine x_aload (pc' := 39) rfl rfl rfl ?_
        refine x_dup (pc' := 40) rfl rfl rfl ?_
        refine x_getI (j := 2) (pc' := 43) rfl rfl rfl (by decide) rfl (by decide) rfl rfl ?_
        refine x_top (h.at) ?_
        refine x_int (pc' := 44) (v := nI 1) rfl rfl rfl ?_
        refine y_iadd (pc' := 45) rfl rfl ?_
        refine x_putI (j := 2) (pc' := 48) rfl rfl rfl (by decide) rfl (by decide) rfl rfl ?_
        refine x_goto rfl ?_
        refine ih (i + 1) _ (by omega) (h.a (by omega)) (fun D2 o2 h2 e2 => ?_)
        rw [← skp_1 (show i < tp.length by omega) (show isLt (tp.getD i 0) = true from decide_eq_true hc)] at h2
        exact k1 D2 (O27.up.tr o2) h2 (e2.trans (up2_o (by decide)))
      · refine ⟨rfl, ?_⟩
        refine x_if_eq (pc' := 38) rfl rfl (fun _ => ?_) (fun c35 => absurd (by decide) c35)
        refine x_vret rfl rfl ?_
        first
          | (rw [skp_0 (show i < tp.length by omega) (show isLt (tp.getD i 0) = false from decide_eq_false hc)] at k1
             exact k1 D O27.rf h rfl)
          | (rw [skp_e (show tp.length ≤ i by omega)] at k1
             exact k1 D O27.rf h rfl)
set_option maxRecDepth 20000 in
set_option maxHeartbeats 1000000 in
theorem w_X6_readWord {D : Nat → Nat → Int32} {L : Nat → Nat → Int64} {Q : bh_Q} {tp : List Nat} {a f : Nat} (h : TS D tp a f) (k1 : ∀ D', O27 D D' → TS D' tp (skp isLt tp (skp isBk tp a)) f → D' 27 3 = nI (skp isBk tp a) → Q none (hp D' L)) : bh_wc 2 m_X6_readWord [.ref 27] (hp D L) Q := by
  refine x_start (lv0 := [_]) (Nat.le_of_ble_eq_true rfl) rfl ?_
  refine x_aload (pc' := 1) rfl rfl rfl ?_
  refine x_callV (pc' := 4) (d1 := 1) (Bs := []) rfl rfl rfl rfl rfl rfl rfl (Nat.le_of_ble_eq_true rfl) ⟨rfl, rfl⟩ (by decide) rfl (by decide) ?_
  refine w_X6_skipBlanks h (fun D1 o1 h1 e1 => ?_)
  refine ⟨rfl, ?_⟩
  refine x_aload (pc' := 5) rfl rfl rfl ?_
  refine x_aload (pc' := 6) rfl rfl rfl ?_
  refine x_getI (j := 2) (pc' := 9) rfl rfl rfl (by decide) rfl (by decide) rfl rfl ?_
  refine x_top (h1.at) ?_
  refine x_putI (j := 3) (pc' := 12) rfl rfl rfl (by decide) rfl (by decide) rfl rfl ?_
  exact l_X6_readWord (d := 1) (Nat.le_refl _) (tp.length - skp isBk tp a + 1) (skp isBk tp a) _ (by omega) h1.b (fun D2 o2 h2 e2 => k1 D2 ((o1.tr O27.up).tr o2) h2 (e2.trans (bh_up2_self _ _ _ _)))
theorem cap_step {v c : Nat} (hc : 48 ≤ c ∧ c ≤ 57) : min (min v 1000000 * 10 + c - 48) 1000000 = min (10 * v + (c - 48)) 1000000 := by omega
set_option maxRecDepth 20000 in
set_option maxHeartbeats 1000000 in
theorem l_X6_readNumber {L : Nat → Nat → Int64} {Q : bh_Q} {d : Nat} (hd : 1 ≤ d) {tp : List Nat} {f s : Nat} {x y : Int32} : ∀ (n m : Nat) (D : Nat → Nat → Int32), tp.length - (s + m) < n → TS D tp (s + m) f → (∀ D' m', O27 D D' → TS D' tp (s + m') f → D' 27 3 = D 27 3 → skp isDg tp (s + m) = s + m' → bw m_X6_readNumber d Q 76 [.ref 27, .int x, .int y, .int (nI (min (nmV tp s m') 1000000))] [] D' L) → bw m_X6_readNumber d Q 14 [.ref 27, .int x, .int y, .int (nI (min (nmV tp s m) 1000000))] [] D L := by
  intro n
  induction n with
  | zero => intro m D hn; omega
  | succ n ih =>
    intro m D hn h k1
    have h4 := h.l4
    have hi := h.2.2.1
    have hml : min (nmV tp s m) 1000000 ≤ 1000000 := Nat.min_le_right _ _
    refine x_aload (pc' := 15) rfl rfl rfl ?_
    refine x_getI (j := 2) (pc' := 18) rfl rfl rfl (by decide) rfl (by decide) rfl rfl ?_
    refine x_top (h.at) ?_
    refine x_aload (pc' := 19) rfl rfl rfl ?_
    refine x_getI (j := 1) (pc' := 22) rfl rfl rfl (by decide) rfl (by decide) rfl rfl ?_
    refine x_top (h.len) ?_
    refine y_ic_ge (pc' := 25) rfl rfl (by first | omega | (have := h.b2 (i := s + m) (by omega); omega)) (by first | omega | (have := h.b2 (i := s + m) (by omega); omega)) (fun c22 => ?_) (fun c22 => ?_)
    · first
        | (have ee : skp isDg tp (s + m) = s + m := skp_0 (show s + m < tp.length by omega) (show isDg (tp.getD (s + m) 0) = false from decide_eq_false hc)
           exact k1 D m O27.rf h rfl ee)
        | (have ee : skp isDg tp (s + m) = s + m := skp_e (by omega)
           exact k1 D m O27.rf h rfl ee)
    · refine x_aload (pc' := 26) rfl rfl rfl ?_
      refine x_getR (pc' := 29) rfl rfl rfl (by decide) rfl (by decide) rfl rfl ?_
      refine x_aload (pc' := 30) rfl rfl rfl ?_
      refine x_getI (j := 2) (pc' := 33) rfl rfl rfl (by decide) rfl (by decide) rfl rfl ?_
      refine x_top (h.at) ?_
      refine x_iald (pc' := 34) rfl rfl (by decide) rfl (by decide) (show _ < 400 by omega) ?_
      refine x_top (h.by (i := s + m) (by omega)) ?_
      refine x_callS (pc' := 37) (d1 := 1) (As := [_]) rfl rfl rfl rfl (by decide) rfl rfl (Nat.le_of_ble_eq_true rfl) ⟨rfl, rfl⟩ (by omega) ?_
      refine w_X6_isDigit (h.b2 (i := s + m) (by omega)) (fun hc => ?_) (fun hc => ?_)
      · refine ⟨rfl, ?_⟩
        refine x_if_eq (pc' := 40) rfl rfl (fun c37 => absurd c37 (by decide)) (fun _ => ?_)
        refine x_iload (pc' := 41) rfl rfl rfl ?_
        refine x_int (pc' := 43) (v := nI 10) rfl rfl rfl ?_
        refine y_imul (pc' := 44) rfl rfl ?_
        refine x_aload (pc' := 45) rfl rfl rfl ?_
        refine x_getR (pc' := 48) rfl rfl rfl (by decide) rfl (by decide) rfl rfl ?_
        refine x_aload (pc' := 49) rfl rfl rfl ?_
        refine x_getI (j := 2) (pc' := 52) rfl rfl rfl (by decide) rfl (by decide) rfl rfl ?_
        refine x_top (h.at) ?_
        refine x_iald (pc' := 53) rfl rfl (by decide) rfl (by decide) (show _ < 400 by omega) ?_
        refine x_top (h.by (i := s + m) (by omega)) ?_
        refine y_iadd (pc' := 54) rfl rfl ?_
        refine x_int (pc' := 56) (v := nI 48) rfl rfl rfl ?_
        refine y_isub (pc' := 57) rfl rfl (by first | omega | (have := h.b2 (i := s + m) (by omega); omega)) ?_
        refine x_int (pc' := 59) (v := nI 1000000) rfl rfl rfl ?_
        refine x_min (pc' := 62) rfl rfl (Nat.le_of_ble_eq_true rfl) (nI_min (by have := h.b2 (i := s + m) (by omega); omega) (by decide)) ?_
        refine x_istore (pc' := 63) (lv' := [_, _, _, _]) rfl rfl (by decide) rfl ?_
        refine x_aload (pc' := 64) rfl rfl rfl ?_
        refine x_dup (pc' := 65) rfl rfl rfl ?_
        refine x_getI (j := 2) (pc' := 68) rfl rfl rfl (by decide) rfl (by decide) rfl rfl ?_
        refine x_top (h.at) ?_
        refine x_int (pc' := 69) (v := nI 1) rfl rfl rfl ?_
        refine y_iadd (pc' := 70) rfl rfl ?_
        refine x_putI (j := 2) (pc' := 73) rfl rfl rfl (by decide) rfl (by decide) rfl rfl ?_
        refine x_goto rfl ?_
        have hh := ih (m + 1) _ (by omega) (h.a (b := s + (m + 1)) (by omega)) (fun D2 m2 o2 h2 e2 hh2 => k1 D2 m2 (O27.up.tr o2) h2 (e2.trans (up2_o (by decide))) ((skp_1 (show s + m < tp.length by omega) (show isDg (tp.getD (s + m) 0) = true from decide_eq_true hc)).trans hh2))
        have ec := cap_step (v := nmV tp s m) hc
        rw [show nmV tp s (m + 1) = 10 * nmV tp s m + (tp.getD (s + m) 0 - 48) from rfl, ← ec] at hh
        exact hh
      · refine ⟨rfl, ?_⟩
        refine x_if_eq (pc' := 40) rfl rfl (fun _ => ?_) (fun c37 => absurd (by decide) c37)
        first
          | (have ee : skp isDg tp (s + m) = s + m := skp_0 (show s + m < tp.length by omega) (show isDg (tp.getD (s + m) 0) = false from decide_eq_false hc)
             exact k1 D m O27.rf h rfl ee)
          | (have ee : skp isDg tp (s + m) = s + m := skp_e (by omega)
             exact k1 D m O27.rf h rfl ee)
set_option maxRecDepth 20000 in
set_option maxHeartbeats 1000000 in
theorem w_X6_readNumber {D : Nat → Nat → Int32} {L : Nat → Nat → Int64} {Q : bh_Q} {tp : List Nat} {a lo hi : Nat} {y : Int32} (h : TS D tp a 0) (hlo : lo < 100) (hhi : hi ≤ 65536) (hy : y = nI hi - 1) (k1 : ∀ D' x, O27 D D' → TS D' tp (nE tp a) (nF tp lo hi a) → D' 27 3 = nI (nS tp a) → (nF tp lo hi a = 0 → x = nI (nV tp a)) → (∃ v, v < 2000000 ∧ x = nI v) → Q (some (.int x)) (hp D' L)) : bh_wc 2 m_X6_readNumber [.ref 27, .int (nI lo), .int y] (hp D L) Q := by
  refine x_start (lv0 := [_, _, _, _]) (Nat.le_of_ble_eq_true rfl) rfl ?_
  refine x_aload (pc' := 1) rfl rfl rfl ?_
  refine x_callV (pc' := 4) (d1 := 1) (Bs := []) rfl rfl rfl rfl rfl rfl rfl (Nat.le_of_ble_eq_true rfl) ⟨rfl, rfl⟩ (by decide) rfl (by decide) ?_
  refine w_X6_skipBlanks h (fun D1 o1 h1 e1 => ?_)
  refine ⟨rfl, ?_⟩
  refine x_aload (pc' := 5) rfl rfl rfl ?_
  refine x_aload (pc' := 6) rfl rfl rfl ?_
  refine x_getI (j := 2) (pc' := 9) rfl rfl rfl (by decide) rfl (by decide) rfl rfl ?_
  refine x_top (h1.at) ?_
  refine x_putI (j := 3) (pc' := 12) rfl rfl rfl (by decide) rfl (by decide) rfl rfl ?_
  refine x_int (pc' := 13) (v := nI 0) rfl rfl rfl ?_
  refine x_istore (pc' := 14) (lv' := [_, _, _, _]) rfl rfl (by decide) rfl ?_
  have h4 := h.l4
  have ha := h.2.2.1
  have hsl := nS_le (tp := tp) ha
  have hh := l_X6_readNumber (L := L) (Q := Q) (d := 1) (Nat.le_refl _) (s := nS tp a) (x := nI lo) (y := y) (tp.length - nS tp a + 1) 0 (bh_up2 D1 27 3 (nI (nS tp a))) (by omega) h1.b (fun D2 m o2 h2 e2 hm => ?kk)
  case kk =>
    have oo := o1.tr (O27.up (D := D1) (j := 3) (x := nI (nS tp a)))
    have e2 : D2 27 3 = nI (nS tp a) := e2.trans (bh_up2_self _ _ _ _)
    have eE : nE tp a = nS tp a + m := hm
    have eV : nV tp a = nmV tp (nS tp a) m := by unfold nV; rw [eE, show nS tp a + m - nS tp a = m by omega]
    have hel := nE_le (tp := tp) ha
    have hml : min (nmV tp (nS tp a) m) 1000000 ≤ 1000000 := Nat.min_le_right _ _
    have cLo : nI (min (nmV tp (nS tp a) m) 1000000) < nI lo → nV tp a < lo := fun c => by have := (nI_ltI (by omega) (by omega)).mp c; omega
    have cHi : ¬ nI (min (nmV tp (nS tp a) m) 1000000) ≤ y → hi ≤ nV tp a := fun c => by
      rcases Nat.lt_or_ge (nmV tp (nS tp a) m) hi with q | q
      · exfalso; apply c; obtain ⟨g, rfl⟩ : ∃ g, hi = g + 1 := ⟨hi - 1, by omega⟩; rw [hy, nI_pred]; exact nI_le (by omega) (by omega)
      · omega
    have cIn : ¬ nI (min (nmV tp (nS tp a) m) 1000000) < nI lo → nI (min (nmV tp (nS tp a) m) 1000000) ≤ y → lo ≤ nV tp a ∧ nV tp a < hi := fun c c2 => by
      rw [hy] at c2
      have c3 := Int32.not_lt.mp c
      have := (nI_leI (by omega) (by omega)).mp c3
      rcases Nat.lt_or_ge (nmV tp (nS tp a) m) hi with q | q
      · omega
      · exfalso; have := Int32.lt_of_le_of_lt c2 (sub1_lt (f := hi) (by omega)); have := (nI_ltI (by omega) (by omega)).mp this; omega
    refine x_aload (pc' := 77) rfl rfl rfl ?_
    refine x_getI (j := 2) (pc' := 80) rfl rfl rfl (by decide) rfl (by decide) rfl rfl ?_
    refine x_top (h2.at) ?_
    refine x_aload (pc' := 81) rfl rfl rfl ?_
    refine x_getI (j := 3) (pc' := 84) rfl rfl rfl (by decide) rfl (by decide) rfl rfl ?_
    refine x_top (e2) ?_
    refine y_ic_ne (pc' := 87) rfl rfl (by omega) (by omega) (fun c84 => ?_) (fun c84 => ?_)
    · refine x_iload (pc' := 101) rfl rfl rfl ?_
      refine x_iload (pc' := 102) rfl rfl rfl ?_
      refine x_ic_lt (pc' := 105) rfl rfl (fun c102 => ?_) (fun c102 => ?_)
      · refine x_aload (pc' := 111) rfl rfl rfl ?_
        refine x_aload (pc' := 112) rfl rfl rfl ?_
        refine x_getI (j := 3) (pc' := 115) rfl rfl rfl (by decide) rfl (by decide) rfl rfl ?_
        refine x_top (e2) ?_
        refine x_int (pc' := 116) (v := nI 2) rfl rfl rfl ?_
        refine x_callV (pc' := 119) (d1 := 1) (Bs := [_, _]) rfl rfl rfl rfl rfl rfl rfl (Nat.le_of_ble_eq_true rfl) ⟨rfl, rfl⟩ (by decide) rfl (by decide) ?_
        refine w_X6_refuse h2 (by omega) (by decide) (fun D3 o3 e3 h3 => ?_)
        refine ⟨rfl, ?_⟩
        refine x_pop (pc' := 120) rfl rfl rfl ?_
        refine x_iload (pc' := 121) rfl rfl rfl ?_
        refine x_iret rfl rfl ?_
        first
          | (have ef : nF tp lo hi a = 8 * nS tp a + 1 := if_pos (by omega)
             rw [ef] at k1
             exact k1 D3 _ ((oo.tr o2).tr o3) (by rw [eE]; exact h3) (e3.trans e2) (fun z => absurd z (by omega)) ⟨_, Nat.lt_of_le_of_lt hml (by decide), rfl⟩)
          | (have ef : nF tp lo hi a = 8 * nS tp a + 2 := by unfold nF; rw [if_neg (by omega), if_pos (by first | exact Or.inl (cLo c102) | exact Or.inr (cHi c107))]
             rw [ef] at k1
             exact k1 D3 _ ((oo.tr o2).tr o3) (by rw [eE]; exact h3) (e3.trans e2) (fun z => absurd z (by omega)) ⟨_, Nat.lt_of_le_of_lt hml (by decide), rfl⟩)
          | (have hin := cIn c102 c107
             have ef : nF tp lo hi a = 0 := by unfold nF; rw [if_neg (by omega), if_neg (by omega)]
             rw [ef] at k1
             exact k1 D2 _ (oo.tr o2) (by rw [eE]; exact h2) e2 (fun _ => congrArg nI (by omega)) ⟨_, Nat.lt_of_le_of_lt hml (by decide), rfl⟩)
      · refine x_iload (pc' := 106) rfl rfl rfl ?_
        refine x_iload (pc' := 107) rfl rfl rfl ?_
        refine x_ic_le (pc' := 110) rfl rfl (fun c107 => ?_) (fun c107 => ?_)
        · refine x_iload (pc' := 121) rfl rfl rfl ?_
          refine x_iret rfl rfl ?_
          first
            | (have ef : nF tp lo hi a = 8 * nS tp a + 1 := if_pos (by omega)
               rw [ef] at k1
               exact k1 D3 _ ((oo.tr o2).tr o3) (by rw [eE]; exact h3) (e3.trans e2) (fun z => absurd z (by omega)) ⟨_, Nat.lt_of_le_of_lt hml (by decide), rfl⟩)
            | (have ef : nF tp lo hi a = 8 * nS tp a + 2 := by unfold nF; rw [if_neg (by omega), if_pos (by first | exact Or.inl (cLo c102) | exact Or.inr (cHi c107))]
               rw [ef] at k1
               exact k1 D3 _ ((oo.tr o2).tr o3) (by rw [eE]; exact h3) (e3.trans e2) (fun z => absurd z (by omega)) ⟨_, Nat.lt_of_le_of_lt hml (by decide), rfl⟩)
            | (have hin := cIn c102 c107
               have ef : nF tp lo hi a = 0 := by unfold nF; rw [if_neg (by omega), if_neg (by omega)]
               rw [ef] at k1
               exact k1 D2 _ (oo.tr o2) (by rw [eE]; exact h2) e2 (fun _ => congrArg nI (by omega)) ⟨_, Nat.lt_of_le_of_lt hml (by decide), rfl⟩)
        · refine x_aload (pc' := 111) rfl rfl rfl ?_
          refine x_aload (pc' := 112) rfl rfl rfl ?_
          refine x_getI (j := 3) (pc' := 115) rfl rfl rfl (by decide) rfl (by decide) rfl rfl ?_
          refine x_top (e2) ?_
          refine x_int (pc' := 116) (v := nI 2) rfl rfl rfl ?_
          refine x_callV (pc' := 119) (d1 := 1) (Bs := [_, _]) rfl rfl rfl rfl rfl rfl rfl (Nat.le_of_ble_eq_true rfl) ⟨rfl, rfl⟩ (by decide) rfl (by decide) ?_
          refine w_X6_refuse h2 (by omega) (by decide) (fun D3 o3 e3 h3 => ?_)
          refine ⟨rfl, ?_⟩
          refine x_pop (pc' := 120) rfl rfl rfl ?_
          refine x_iload (pc' := 121) rfl rfl rfl ?_
          refine x_iret rfl rfl ?_
          first
            | (have ef : nF tp lo hi a = 8 * nS tp a + 1 := if_pos (by omega)
               rw [ef] at k1
               exact k1 D3 _ ((oo.tr o2).tr o3) (by rw [eE]; exact h3) (e3.trans e2) (fun z => absurd z (by omega)) ⟨_, Nat.lt_of_le_of_lt hml (by decide), rfl⟩)
            | (have ef : nF tp lo hi a = 8 * nS tp a + 2 := by unfold nF; rw [if_neg (by omega), if_pos (by first | exact Or.inl (cLo c102) | exact Or.inr (cHi c107))]
               rw [ef] at k1
               exact k1 D3 _ ((oo.tr o2).tr o3) (by rw [eE]; exact h3) (e3.trans e2) (fun z => absurd z (by omega)) ⟨_, Nat.lt_of_le_of_lt hml (by decide), rfl⟩)
            | (have hin := cIn c102 c107
               have ef : nF tp lo hi a = 0 := by unfold nF; rw [if_neg (by omega), if_neg (by omega)]
               rw [ef] at k1
               exact k1 D2 _ (oo.tr o2) (by rw [eE]; exact h2) e2 (fun _ => congrArg nI (by omega)) ⟨_, Nat.lt_of_le_of_lt hml (by decide), rfl⟩)
    · refine x_aload (pc' := 88) rfl rfl rfl ?_
      refine x_aload (pc' := 89) rfl rfl rfl ?_
      refine x_getI (j := 3) (pc' := 92) rfl rfl rfl (by decide) rfl (by decide) rfl rfl ?_
      refine x_top (e2) ?_
      refine x_int (pc' := 93) (v := nI 1) rfl rfl rfl ?_
      refine x_callV (pc' := 96) (d1 := 1) (Bs := [_, _]) rfl rfl rfl rfl rfl rfl rfl (Nat.le_of_ble_eq_true rfl) ⟨rfl, rfl⟩ (by decide) rfl (by decide) ?_
      refine w_X6_refuse h2 (by omega) (by decide) (fun D3 o3 e3 h3 => ?_)
      refine ⟨rfl, ?_⟩
      refine x_pop (pc' := 97) rfl rfl rfl ?_
      refine x_goto rfl ?_
      refine x_iload (pc' := 121) rfl rfl rfl ?_
      refine x_iret rfl rfl ?_
      first
        | (have ef : nF tp lo hi a = 8 * nS tp a + 1 := if_pos (by omega)
           rw [ef] at k1
           exact k1 D3 _ ((oo.tr o2).tr o3) (by rw [eE]; exact h3) (e3.trans e2) (fun z => absurd z (by omega)) ⟨_, Nat.lt_of_le_of_lt hml (by decide), rfl⟩)
        | (have ef : nF tp lo hi a = 8 * nS tp a + 2 := by unfold nF; rw [if_neg (by omega), if_pos (by first | exact Or.inl (cLo c102) | exact Or.inr (cHi c107))]
           rw [ef] at k1
           exact k1 D3 _ ((oo.tr o2).tr o3) (by rw [eE]; exact h3) (e3.trans e2) (fun z => absurd z (by omega)) ⟨_, Nat.lt_of_le_of_lt hml (by decide), rfl⟩)
        | (have hin := cIn c102 c107
           have ef : nF tp lo hi a = 0 := by unfold nF; rw [if_neg (by omega), if_neg (by omega)]
           rw [ef] at k1
           exact k1 D2 _ (oo.tr o2) (by rw [eE]; exact h2) e2 (fun _ => congrArg nI (by omega)) ⟨_, Nat.lt_of_le_of_lt hml (by decide), rfl⟩)
  exact hh
