/-! ===== breaks, between ===== -/
def wmC (T : TW) (w b i : Nat) : Nat := if hbT T w (pg T b (i % lng T b)) = sn T i then 4096 else 0
def wmF (T : TW) (w b i u : Nat) : Bool := decide (pu T u < pu T w) && (match lnO T u b (i % lng T b) with | some r => decide (hbT T w r = sn T i) | none => false)
def wmN (T : TW) (w b i : Nat) : Nat := orS (wmC T w b i) (wmF T w b i) (nw T)
theorem wmF_1 {T : TW} {w b i u r : Nat} (h1 : pu T u < pu T w) (h2 : lnO T u b (i % lng T b) = some r) (h3 : hbT T w r = sn T i) : wmF T w b i u = true := by
  unfold wmF; rw [h2]; simp [h1, h3]
theorem wmF_a {T : TW} {w b i u : Nat} (h1 : pu T w ≤ pu T u) : wmF T w b i u = false := by
  have h : ¬ pu T u < pu T w := by omega
  unfold wmF; simp [h]
theorem wmF_b {T : TW} {w b i u : Nat} (h2 : lnO T u b (i % lng T b) = none) : wmF T w b i u = false := by unfold wmF; rw [h2]; simp
theorem wmF_c {T : TW} {w b i u r : Nat} (h2 : lnO T u b (i % lng T b) = some r) (h3 : ¬ hbT T w r = sn T i) : wmF T w b i u = false := by unfold wmF; rw [h2]; simp [h3]
theorem wmC_lt (T : TW) (w b i : Nat) : wmC T w b i < 8192 := by unfold wmC; split <;> decide
theorem wmN_lt {T : TW} (hW : WF T) {w b i : Nat} : wmN T w b i < 8192 := orS_lt (wmC_lt T w b i) hW.nwl
def upF (f : Nat → Nat) (i v : Nat) : Nat → Nat := fun j => if j = i then v else f j
abbrev Sts : Type := Nat × (Nat → Nat) × (Nat → Nat)
def strS (T : TW) (w b i : Nat) (z : Sts) : Option Sts := if wmN T w b i = 0 then none else if 0 < z.1 ∧ ¬ z.2.2 (z.1 - 1) &&& wmN T w b i = 0 then some ⟨z.1, z.2.1, upF z.2.2 (z.1 - 1) (z.2.2 (z.1 - 1) &&& wmN T w b i)⟩ else some ⟨z.1 + 1, upF z.2.1 z.1 i, upF z.2.2 z.1 (wmN T w b i)⟩
def strF (T : TW) (w b : Nat) : Nat → Option Sts
  | 0 => some ⟨0, fun _ => 0, fun _ => 0⟩
  | i + 1 => match strF T w b i with
    | none => none
    | some z => strS T w b i z
theorem strF_none {T : TW} {w b i : Nat} (h : strF T w b i = none) : ∀ j, strF T w b (i + j) = none := by
  intro j
  induction j with
  | zero => exact h
  | succ j ih => show (match strF T w b (i + j) with | none => none | some z => strS T w b (i + j) z) = none; rw [ih]
theorem strF_s {T : TW} {w b i : Nat} {z : Sts} (h : strF T w b i = some z) : strF T w b (i + 1) = strS T w b i z := by show (match strF T w b i with | none => none | some z => strS T w b i z) = _; rw [h]
theorem strS_n {T : TW} {w b i : Nat} {z : Sts} (h : wmN T w b i = 0) : strS T w b i z = none := if_pos h
theorem strS_1 {T : TW} {w b i : Nat} {z : Sts} (h : ¬ wmN T w b i = 0) (h1 : 0 < z.1) (h2 : ¬ z.2.2 (z.1 - 1) &&& wmN T w b i = 0) : strS T w b i z = some ⟨z.1, z.2.1, upF z.2.2 (z.1 - 1) (z.2.2 (z.1 - 1) &&& wmN T w b i)⟩ := by
  unfold strS; rw [if_neg h, if_pos ⟨h1, h2⟩]
theorem strS_2 {T : TW} {w b i : Nat} {z : Sts} (h : ¬ wmN T w b i = 0) (h1 : z.1 = 0 ∨ z.2.2 (z.1 - 1) &&& wmN T w b i = 0) : strS T w b i z = some ⟨z.1 + 1, upF z.2.1 z.1 i, upF z.2.2 z.1 (wmN T w b i)⟩ := by
  unfold strS; rw [if_neg h, if_neg (fun q => by rcases h1 with e | e; exact absurd q.1 (by omega); exact q.2 e)]
/-- what rows a and c hold of the stretches -/
def StR (z : Sts) (i : Nat) (a c : Nat → Int32) : Prop := z.1 ≤ i ∧ (0 < i → 0 < z.1) ∧ ∀ j, j < z.1 → a j = nI (z.2.1 j) ∧ c j = nI (z.2.2 j) ∧ z.2.2 j < 8192
def breaksV (o : Option Sts) (k : Nat) : Int32 := match o with
  | none => -2
  | some z => if k = 0 then nI (z.1 - 1) else if 1 < z.1 then nI (z.2.1 1) else -1
def betweenV (o : Option Sts) (k : Int32) : Int32 := match o with
  | none => -2
  | some z => onN z.1 k (-2) fun j => nI (z.2.2 j)
def breaksQ (T : TW) (x y v : Int32) : Int32 := onN (nw T) x (-3) fun w => onN (nb T) y (-3) fun b => onN 2 v (-3) fun k => if ns T = 0 then -3 else breaksV (strF T w b (ns T)) k
def betweenQ (T : TW) (x y v : Int32) : Int32 := onN (nw T) x (-1) fun w => onN (nb T) y (-1) fun b => if v < 0 ∨ ns T = 0 then -1 else betweenV (strF T w b (ns T)) v
theorem StR.s1 {T : TW} (hW : WF T) {w b i : Nat} {z : Sts} {a c : Nat → Int32} (h : StR z i a c) (h1 : 0 < z.1) : StR ⟨z.1, z.2.1, upF z.2.2 (z.1 - 1) (z.2.2 (z.1 - 1) &&& wmN T w b i)⟩ (i + 1) a (fun j => if j = z.1 - 1 then nI (z.2.2 (z.1 - 1) &&& wmN T w b i) else c j) := by
  refine ⟨by have := h.1; show z.1 ≤ i + 1; omega, fun _ => h1, fun j hj => ?_⟩
  have hj := h.2.2 j hj
  refine ⟨hj.1, ?_, ?_⟩
  · show (if j = z.1 - 1 then _ else c j) = nI (if j = z.1 - 1 then _ else z.2.2 j)
    by_cases e : j = z.1 - 1
    · rw [if_pos e, if_pos e]
    · rw [if_neg e, if_neg e]; exact hj.2.1
  · show (if j = z.1 - 1 then _ else z.2.2 j) < _
    by_cases e : j = z.1 - 1
    · rw [if_pos e]; exact Nat.lt_of_le_of_lt Nat.and_le_right (wmN_lt hW)
    · rw [if_neg e]; exact hj.2.2
theorem StR.s2 {T : TW} (hW : WF T) {w b i : Nat} {z : Sts} {a c : Nat → Int32} (h : StR z i a c) : StR ⟨z.1 + 1, upF z.2.1 z.1 i, upF z.2.2 z.1 (wmN T w b i)⟩ (i + 1) (fun j => if j = z.1 then nI i else a j) (fun j => if j = z.1 then nI (wmN T w b i) else c j) := by
  refine ⟨by have := h.1; show z.1 + 1 ≤ i + 1; omega, fun _ => Nat.succ_pos _, fun j hj => ?_⟩
  have hj : j < z.1 + 1 := hj
  show (if j = z.1 then nI i else a j) = nI (if j = z.1 then i else z.2.1 j) ∧ (if j = z.1 then _ else c j) = nI (if j = z.1 then _ else z.2.2 j) ∧ (if j = z.1 then _ else z.2.2 j) < 8192
  by_cases e : j = z.1
  · rw [if_pos e, if_pos e, if_pos e, if_pos e]; exact ⟨rfl, rfl, wmN_lt hW⟩
  · rw [if_neg e, if_neg e, if_neg e, if_neg e]; exact h.2.2 j (by omega)
set_option maxRecDepth 20000 in
set_option maxHeartbeats 1000000 in
theorem l_X5_whoMade {L : Nat → Nat → Int64} {Q : bh_Q} {d : Nat} (hd : 3 ≤ d) {T : TW} (hW : WF T) {D0 : Nat → Nat → Int32} {w b n c : Nat} (hw : w < nw T) (hb : b < nb T) (hi : n < ns T) (k1 : ∀ D, OffH D0 D → Q (some (.int (nI (orS c (wmF T w b n) (nw T))))) (hp D L)) : ∀ (f u : Nat) (D : Nat → Nat → Int32) (a9 : Value), u + f = nw T → (OffH D0 D) → (tv D = T) → bw m_X5_whoMade d Q 47 [.ref 1, .ref 31, .int (nI w), .int (nI b), .int (nI n), .int (nI (n % lng T b)), .int (nI (sn T n)), .int (nI (orS c (wmF T w b n) u)), .int (nI u), a9] [] D L := by
  intro f
  induction f with
  | zero =>
    intro u D a9 hf o hT
    subst hT
    have h12 := hW.nwl
    have h16 := hW.nsl
    have hq : n % lng (tv D) b < lng (tv D) b := Nat.mod_lt _ (hW.lng0 hb)
    have h8 := hW.lngl hb
    refine x_iload (pc' := 49) rfl rfl rfl ?_
    refine x_aload (pc' := 50) rfl rfl rfl ?_
    refine x_getI (j := 0) (pc' := 53) rfl rfl rfl (by decide) rfl (by decide) rfl rfl ?_
    refine x_top (hW.enw) ?_
    refine y_ic_ge (pc' := 56) rfl rfl (by first | omega | (have := hab_lt (hW.ehok (w := w) hw) (hW.pgl hb hq); have := hW.snl hi; omega) | (have := hab_lt (hW.ehok (w := w) hw) hrl; have := hW.snl hi; omega) | (have := hW.pul (w := w) (by omega); have := hW.pul (w := u) (by omega); omega)) (by first | omega | (have := hab_lt (hW.ehok (w := w) hw) (hW.pgl hb hq); have := hW.snl hi; omega) | (have := hab_lt (hW.ehok (w := w) hw) hrl; have := hW.snl hi; omega) | (have := hW.pul (w := w) (by omega); have := hW.pul (w := u) (by omega); omega)) (fun c53 => ?_) (fun c53 => ?_)
    · refine x_iload (pc' := 120) rfl rfl rfl ?_
      refine x_iret rfl rfl ?_
      obtain rfl : u = nw (tv D) := by omega
      exact k1 D o
    · exact absurd c53 (by omega)
  | succ f ih =>
    intro u D a9 hf o hT
    subst hT
    have h12 := hW.nwl
    have h16 := hW.nsl
    have hq : n % lng (tv D) b < lng (tv D) b := Nat.mod_lt _ (hW.lng0 hb)
    have h8 := hW.lngl hb
    refine x_iload (pc' := 49) rfl rfl rfl ?_
    refine x_aload (pc' := 50) rfl rfl rfl ?_
    refine x_getI (j := 0) (pc' := 53) rfl rfl rfl (by decide) rfl (by decide) rfl rfl ?_
    refine x_top (hW.enw) ?_
    refine y_ic_ge (pc' := 56) rfl rfl (by first | omega | (have := hab_lt (hW.ehok (w := w) hw) (hW.pgl hb hq); have := hW.snl hi; omega) | (have := hab_lt (hW.ehok (w := w) hw) hrl; have := hW.snl hi; omega) | (have := hW.pul (w := w) (by omega); have := hW.pul (w := u) (by omega); omega)) (by first | omega | (have := hab_lt (hW.ehok (w := w) hw) (hW.pgl hb hq); have := hW.snl hi; omega) | (have := hab_lt (hW.ehok (w := w) hw) hrl; have := hW.snl hi; omega) | (have := hW.pul (w := w) (by omega); have := hW.pul (w := u) (by omega); omega)) (fun c53 => ?_) (fun c53 => ?_)
    · exact absurd c53 (by omega)
    · refine x_aload (pc' := 57) rfl rfl rfl ?_
      refine x_getR (pc' := 60) rfl rfl rfl (by decide) rfl (by decide) rfl rfl ?_
      refine x_iload (pc' := 62) rfl rfl rfl ?_
      refine x_iald (pc' := 63) rfl rfl (by decide) rfl (by decide) (show _ < 12 by omega) ?_
      refine x_top (hW.epu (by omega)) ?_
      refine x_aload (pc' := 64) rfl rfl rfl ?_
      refine x_getR (pc' := 67) rfl rfl rfl (by decide) rfl (by decide) rfl rfl ?_
      refine x_iload (pc' := 68) rfl rfl rfl ?_
      refine x_iald (pc' := 69) rfl rfl (by decide) rfl (by decide) (show _ < 12 by omega) ?_
      refine x_top (hW.epu (by omega)) ?_
      refine y_ic_ge (pc' := 72) rfl rfl (by first | omega | (have := hab_lt (hW.ehok (w := w) hw) (hW.pgl hb hq); have := hW.snl hi; omega) | (have := hab_lt (hW.ehok (w := w) hw) hrl; have := hW.snl hi; omega) | (have := hW.pul (w := w) (by omega); have := hW.pul (w := u) (by omega); omega)) (by first | omega | (have := hab_lt (hW.ehok (w := w) hw) (hW.pgl hb hq); have := hW.snl hi; omega) | (have := hab_lt (hW.ehok (w := w) hw) hrl; have := hW.snl hi; omega) | (have := hW.pul (w := w) (by omega); have := hW.pul (w := u) (by omega); omega)) (fun c69 => ?_) (fun c69 => ?_)
      · refine y_inc (pc' := 115) (lv' := [_, _, _, _, _, _, _, _, _, _]) rfl rfl rfl (by decide) rfl ?_
        refine x_goto rfl ?_
        first
          | (have e := orS_1 (c := c) (wmF_1 (T := (tv D)) (w := w) (b := b) (i := n) (u := u) c69 hz c100)
             have hh := fun z => ih (u + 1) D1 z (by omega) (o.tr o1) o1.tv
             rw [e] at hh
             exact hh _)
          | (have e := orS_0 (c := c) (wmF_c (T := (tv D)) (w := w) (b := b) (i := n) (u := u) hz c100)
             have hh := fun z => ih (u + 1) D1 z (by omega) (o.tr o1) o1.tv
             rw [e] at hh
             exact hh _)
          | (have e := orS_0 (c := c) (wmF_b (T := (tv D)) (w := w) (b := b) (i := n) (u := u) hz)
             have hh := fun z => ih (u + 1) D1 z (by omega) (o.tr o1) o1.tv
             rw [e] at hh
             exact hh _)
          | (have e := orS_0 (c := c) (wmF_a (T := (tv D)) (w := w) (b := b) (i := n) (u := u) c69)
             have hh := fun z => ih (u + 1) D z (by omega) o rfl
             rw [e] at hh
             exact hh _)
      · refine x_aload (pc' := 73) rfl rfl rfl ?_
        refine x_aload (pc' := 74) rfl rfl rfl ?_
        refine x_iload (pc' := 76) rfl rfl rfl ?_
        refine x_iload (pc' := 77) rfl rfl rfl ?_
        refine x_iload (pc' := 79) rfl rfl rfl ?_
        refine x_callV (pc' := 82) (d1 := 3) (Bs := [_, _, _, _]) rfl rfl rfl rfl rfl rfl rfl (Nat.le_of_ble_eq_true rfl) ⟨rfl, rfl⟩ (by decide) rfl (by omega) ?_
        refine w_X2_lineOf hW (show u < nw (tv D) by omega) hb hq (fun D1 o1 => ?_)
        rcases hz : lnO (tv D) u b (n % lng (tv D) b) with _ | r
        · refine ⟨rfl, ?_⟩
          refine x_istore (pc' := 84) (lv' := [_, _, _, _, _, _, _, _, _, _]) rfl rfl (by decide) rfl ?_
          refine x_iload (pc' := 86) rfl rfl rfl ?_
          refine x_int (pc' := 88) (v := (-2)) rfl rfl rfl ?_
          refine x_ic_eq (pc' := 91) rfl rfl (fun _ => ?_) (fun c88 => absurd (by decide) c88)
          refine y_inc (pc' := 115) (lv' := [_, _, _, _, _, _, _, _, _, _]) rfl rfl rfl (by decide) rfl ?_
          refine x_goto rfl ?_
          first
            | (have e := orS_1 (c := c) (wmF_1 (T := (tv D)) (w := w) (b := b) (i := n) (u := u) c69 hz c100)
               have hh := fun z => ih (u + 1) D1 z (by omega) (o.tr o1) o1.tv
               rw [e] at hh
               exact hh _)
            | (have e := orS_0 (c := c) (wmF_c (T := (tv D)) (w := w) (b := b) (i := n) (u := u) hz c100)
               have hh := fun z => ih (u + 1) D1 z (by omega) (o.tr o1) o1.tv
               rw [e] at hh
               exact hh _)
            | (have e := orS_0 (c := c) (wmF_b (T := (tv D)) (w := w) (b := b) (i := n) (u := u) hz)
               have hh := fun z => ih (u + 1) D1 z (by omega) (o.tr o1) o1.tv
               rw [e] at hh
               exact hh _)
            | (have e := orS_0 (c := c) (wmF_a (T := (tv D)) (w := w) (b := b) (i := n) (u := u) c69)
               have hh := fun z => ih (u + 1) D z (by omega) o rfl
               rw [e] at hh
               exact hh _)
        · refine ⟨rfl, ?_⟩
          have hrl := lnO_lt hW (show u < nw (tv D) by omega) hb hq hz
          refine x_istore (pc' := 84) (lv' := [_, _, _, _, _, _, _, _, _, _]) rfl rfl (by decide) rfl ?_
          refine x_iload (pc' := 86) rfl rfl rfl ?_
          refine x_int (pc' := 88) (v := (-2)) rfl rfl rfl ?_
          refine x_ic_eq (pc' := 91) rfl rfl (fun c88 => ?_) (fun c88 => ?_)
          · exact absurd c88 (nI_m2 (by omega))
          · refine x_aload (pc' := 92) rfl rfl rfl ?_
            refine x_iload (pc' := 93) rfl rfl rfl ?_
            refine x_iload (pc' := 95) rfl rfl rfl ?_
            refine x_callV (pc' := 98) (d1 := 2) (Bs := [_, _]) rfl rfl rfl rfl rfl rfl rfl (Nat.le_of_ble_eq_true rfl) ⟨rfl, rfl⟩ (by decide) rfl (by omega) ?_
            refine w_X7_habitOn (D := D1) (by rw [o1.tv]; exact hW) (by rw [o1.tv]; exact hw) hrl ?_
            refine ⟨rfl, ?_⟩
            rw [o1.tv]
            refine x_iload (pc' := 100) rfl rfl rfl ?_
            refine y_ic_ne (pc' := 103) rfl rfl (by first | omega | (have := hab_lt (hW.ehok (w := w) hw) (hW.pgl hb hq); have := hW.snl hi; omega) | (have := hab_lt (hW.ehok (w := w) hw) hrl; have := hW.snl hi; omega) | (have := hW.pul (w := w) (by omega); have := hW.pul (w := u) (by omega); omega)) (by first | omega | (have := hab_lt (hW.ehok (w := w) hw) (hW.pgl hb hq); have := hW.snl hi; omega) | (have := hab_lt (hW.ehok (w := w) hw) hrl; have := hW.snl hi; omega) | (have := hW.pul (w := w) (by omega); have := hW.pul (w := u) (by omega); omega)) (fun c100 => ?_) (fun c100 => ?_)
            · refine y_inc (pc' := 115) (lv' := [_, _, _, _, _, _, _, _, _, _]) rfl rfl rfl (by decide) rfl ?_
              refine x_goto rfl ?_
              first
                | (have e := orS_1 (c := c) (wmF_1 (T := (tv D)) (w := w) (b := b) (i := n) (u := u) c69 hz c100)
                   have hh := fun z => ih (u + 1) D1 z (by omega) (o.tr o1) o1.tv
                   rw [e] at hh
                   exact hh _)
                | (have e := orS_0 (c := c) (wmF_c (T := (tv D)) (w := w) (b := b) (i := n) (u := u) hz c100)
                   have hh := fun z => ih (u + 1) D1 z (by omega) (o.tr o1) o1.tv
                   rw [e] at hh
                   exact hh _)
                | (have e := orS_0 (c := c) (wmF_b (T := (tv D)) (w := w) (b := b) (i := n) (u := u) hz)
                   have hh := fun z => ih (u + 1) D1 z (by omega) (o.tr o1) o1.tv
                   rw [e] at hh
                   exact hh _)
                | (have e := orS_0 (c := c) (wmF_a (T := (tv D)) (w := w) (b := b) (i := n) (u := u) c69)
                   have hh := fun z => ih (u + 1) D z (by omega) o rfl
                   rw [e] at hh
                   exact hh _)
            · refine x_iload (pc' := 105) rfl rfl rfl ?_
              refine x_int (pc' := 106) (v := nI 1) rfl rfl rfl ?_
              refine x_iload (pc' := 108) rfl rfl rfl ?_
              refine y_ishl (pc' := 109) rfl rfl (by first | omega | (have := hab_lt (hW.ehok (w := w) hw) (hW.pgl hb hq); have := hW.snl hi; omega) | (have := hab_lt (hW.ehok (w := w) hw) hrl; have := hW.snl hi; omega) | (have := hW.pul (w := w) (by omega); have := hW.pul (w := u) (by omega); omega)) ?_
              refine y_ior (pc' := 110) rfl rfl ?_
              refine x_istore (pc' := 112) (lv' := [_, _, _, _, _, _, _, _, _, _]) rfl rfl (by decide) rfl ?_
              refine y_inc (pc' := 115) (lv' := [_, _, _, _, _, _, _, _, _, _]) rfl rfl rfl (by decide) rfl ?_
              refine x_goto rfl ?_
              first
                | (have e := orS_1 (c := c) (wmF_1 (T := (tv D)) (w := w) (b := b) (i := n) (u := u) c69 hz c100)
                   have hh := fun z => ih (u + 1) D1 z (by omega) (o.tr o1) o1.tv
                   rw [e] at hh
                   exact hh _)
                | (have e := orS_0 (c := c) (wmF_c (T := (tv D)) (w := w) (b := b) (i := n) (u := u) hz c100)
                   have hh := fun z => ih (u + 1) D1 z (by omega) (o.tr o1) o1.tv
                   rw [e] at hh
                   exact hh _)
                | (have e := orS_0 (c := c) (wmF_b (T := (tv D)) (w := w) (b := b) (i := n) (u := u) hz)
                   have hh := fun z => ih (u + 1) D1 z (by omega) (o.tr o1) o1.tv
                   rw [e] at hh
                   exact hh _)
                | (have e := orS_0 (c := c) (wmF_a (T := (tv D)) (w := w) (b := b) (i := n) (u := u) c69)
                   have hh := fun z => ih (u + 1) D z (by omega) o rfl
                   rw [e] at hh
                   exact hh _)
set_option maxRecDepth 20000 in
set_option maxHeartbeats 1000000 in
theorem w_X5_whoMade {D : Nat → Nat → Int32} {L : Nat → Nat → Int64} {Q : bh_Q} (hW : WF (tv D)) {w b n : Nat} (hw : w < nw (tv D)) (hb : b < nb (tv D)) (hi : n < ns (tv D)) (k1 : ∀ D', OffH D D' → Q (some (.int (nI (wmN (tv D) w b n)))) (hp D' L)) : bh_wc 4 m_X5_whoMade [.ref 1, .ref 31, .int (nI w), .int (nI b), .int (nI n)] (hp D L) Q := by
  refine x_start (lv0 := [_, _, _, _, _, _, _, _, _, _]) (Nat.le_of_ble_eq_true rfl) rfl ?_
  have h12 := hW.nwl
  have h16 := hW.nsl
  have hq : n % lng (tv D) b < lng (tv D) b := Nat.mod_lt _ (hW.lng0 hb)
  have h8 := hW.lngl hb
  refine x_aload (pc' := 1) rfl rfl rfl ?_
  refine x_iload (pc' := 2) rfl rfl rfl ?_
  refine x_iload (pc' := 4) rfl rfl rfl ?_
  refine x_callV (pc' := 7) (d1 := 1) (Bs := [_, _]) rfl rfl rfl rfl rfl rfl rfl (Nat.le_of_ble_eq_true rfl) ⟨rfl, rfl⟩ (by decide) rfl (by decide) ?_
  refine w_X7_pageOfSeen hW hb (by omega) ?_
  refine ⟨rfl, ?_⟩
  refine x_istore (pc' := 9) (lv' := [_, _, _, _, _, _, _, _, _, _]) rfl rfl (by decide) rfl ?_
  refine x_aload (pc' := 10) rfl rfl rfl ?_
  refine x_getR (pc' := 13) rfl rfl rfl (by decide) rfl (by decide) rfl rfl ?_
  refine x_iload (pc' := 15) rfl rfl rfl ?_
  refine x_iald (pc' := 16) rfl rfl (by decide) rfl (by decide) (show _ < 16 by omega) ?_
  refine x_top (hW.esn hi) ?_
  refine x_istore (pc' := 18) (lv' := [_, _, _, _, _, _, _, _, _, _]) rfl rfl (by decide) rfl ?_
  refine x_aload (pc' := 19) rfl rfl rfl ?_
  refine x_iload (pc' := 20) rfl rfl rfl ?_
  refine x_aload (pc' := 21) rfl rfl rfl ?_
  refine x_iload (pc' := 22) rfl rfl rfl ?_
  refine x_iload (pc' := 24) rfl rfl rfl ?_
  refine x_callV (pc' := 27) (d1 := 1) (Bs := [_, _]) rfl rfl rfl rfl rfl rfl rfl (Nat.le_of_ble_eq_true rfl) ⟨rfl, rfl⟩ (by decide) rfl (by decide) ?_
  refine w_X7_rowOf hW hb hq ?_
  refine ⟨rfl, ?_⟩
  refine x_callV (pc' := 30) (d1 := 2) (Bs := [_, _]) rfl rfl rfl rfl rfl rfl rfl (Nat.le_of_ble_eq_true rfl) ⟨rfl, rfl⟩ (by decide) rfl (by decide) ?_
  refine w_X7_habitOn hW hw (hW.pgl hb hq) ?_
  refine ⟨rfl, ?_⟩
  refine x_iload (pc' := 32) rfl rfl rfl ?_
  refine y_ic_ne (pc' := 35) rfl rfl (by first | omega | (have := hab_lt (hW.ehok (w := w) hw) (hW.pgl hb hq); have := hW.snl hi; omega) | (have := hab_lt (hW.ehok (w := w) hw) hrl; have := hW.snl hi; omega) | (have := hW.pul (w := w) (by omega); have := hW.pul (w := u) (by omega); omega)) (by first | omega | (have := hab_lt (hW.ehok (w := w) hw) (hW.pgl hb hq); have := hW.snl hi; omega) | (have := hab_lt (hW.ehok (w := w) hw) hrl; have := hW.snl hi; omega) | (have := hW.pul (w := w) (by omega); have := hW.pul (w := u) (by omega); omega)) (fun c32 => ?_) (fun c32 => ?_)
  · refine x_int (pc' := 42) (v := nI 0) rfl rfl rfl ?_
    refine x_istore (pc' := 44) (lv' := [_, _, _, _, _, _, _, _, _, _]) rfl rfl (by decide) rfl ?_
    refine x_int (pc' := 45) (v := nI 0) rfl rfl rfl ?_
    refine x_istore (pc' := 47) (lv' := [_, _, _, _, _, _, _, _, _, _]) rfl rfl (by decide) rfl ?_
    first
      | (have e : wmC (tv D) w b n = 4096 := if_pos c32
         have hh := l_X5_whoMade (d := 3) (L := L) (Q := Q) (Nat.le_refl _) hW (c := wmC (tv D) w b n) hw hb hi k1 (nw (tv D)) 0 D .null (Nat.zero_add _) OffH.rf rfl
         rw [orS_z, e] at hh
         exact hh)
      | (have e : wmC (tv D) w b n = 0 := if_neg c32
         have hh := l_X5_whoMade (d := 3) (L := L) (Q := Q) (Nat.le_refl _) hW (c := wmC (tv D) w b n) hw hb hi k1 (nw (tv D)) 0 D .null (Nat.zero_add _) OffH.rf rfl
         rw [orS_z, e] at hh
         exact hh)
  · refine x_int (pc' := 38) (v := nI 4096) rfl rfl rfl ?_
    refine x_goto rfl ?_
    refine x_istore (pc' := 44) (lv' := [_, _, _, _, _, _, _, _, _, _]) rfl rfl (by decide) rfl ?_
    refine x_int (pc' := 45) (v := nI 0) rfl rfl rfl ?_
    refine x_istore (pc' := 47) (lv' := [_, _, _, _, _, _, _, _, _, _]) rfl rfl (by decide) rfl ?_
    first
      | (have e : wmC (tv D) w b n = 4096 := if_pos c32
         have hh := l_X5_whoMade (d := 3) (L := L) (Q := Q) (Nat.le_refl _) hW (c := wmC (tv D) w b n) hw hb hi k1 (nw (tv D)) 0 D .null (Nat.zero_add _) OffH.rf rfl
         rw [orS_z, e] at hh
         exact hh)
      | (have e : wmC (tv D) w b n = 0 := if_neg c32
         have hh := l_X5_whoMade (d := 3) (L := L) (Q := Q) (Nat.le_refl _) hW (c := wmC (tv D) w b n) hw hb hi k1 (nw (tv D)) 0 D .null (Nat.zero_add _) OffH.rf rfl
         rw [orS_z, e] at hh
         exact hh)
set_option maxRecDepth 20000 in
set_option maxHeartbeats 1000000 in
theorem l_X5_cut {L : Nat → Nat → Int64} {Q : bh_Q} {d : Nat} (hd : 4 ≤ d) {T : TW} (hW : WF T) {D0 : Nat → Nat → Int32} {w b : Nat} (hw : w < nw T) (hb : b < nb T) (kN : strF T w b (ns T) = none → ∀ D', OffC D0 D' → D' 38 2 = nI 0 → Q none (hp D' L)) (kS : ∀ z D', strF T w b (ns T) = some z → OffC D0 D' → D' 38 2 = nI z.1 → StR z (ns T) (D' 39) (D' 40) → Q none (hp D' L)) : ∀ (f i : Nat) (D : Nat → Nat → Int32) (z : Sts) (a6 : Value), i + f = ns T → (OffC D0 D) → (tv D = T) → (strF T w b i = some z) → (D 38 2 = nI z.1) → (StR z i (D 39) (D 40)) → bw m_X5_cut d Q 8 [.ref 38, .ref 1, .ref 31, .int (nI w), .int (nI b), .int (nI i), a6] [] D L := by
  intro f
  induction f with
  | zero =>
    intro i D z a6 hf o hT hz hm hS
    subst hT
    have h12 := hW.nwl
    have h16 := hW.nsl
    have hzi := hS.1
    refine x_iload (pc' := 10) rfl rfl rfl ?_
    refine x_aload (pc' := 11) rfl rfl rfl ?_
    refine x_getI (j := 2) (pc' := 14) rfl rfl rfl (by decide) rfl (by decide) rfl rfl ?_
    refine x_top (hW.ens) ?_
    refine y_ic_ge (pc' := 17) rfl rfl (by first | omega | (have := Nat.and_le_right (n := z.2.2 (z.1 - 1)) (m := wmN (tv D) w b i); omega)) (by first | omega | (have := Nat.and_le_right (n := z.2.2 (z.1 - 1)) (m := wmN (tv D) w b i); omega)) (fun c14 => ?_) (fun c14 => ?_)
    · refine x_vret rfl rfl ?_
      obtain rfl : i = ns (tv D) := by omega
      exact kS z D hz o hm hS
    · exact absurd c14 (by omega)
  | succ f ih =>
    intro i D z a6 hf o hT hz hm hS
    subst hT
    have h12 := hW.nwl
    have h16 := hW.nsl
    have hzi := hS.1
    refine x_iload (pc' := 10) rfl rfl rfl ?_
    refine x_aload (pc' := 11) rfl rfl rfl ?_
    refine x_getI (j := 2) (pc' := 14) rfl rfl rfl (by decide) rfl (by decide) rfl rfl ?_
    refine x_top (hW.ens) ?_
    refine y_ic_ge (pc' := 17) rfl rfl (by first | omega | (have := Nat.and_le_right (n := z.2.2 (z.1 - 1)) (m := wmN (tv D) w b i); omega)) (by first | omega | (have := Nat.and_le_right (n := z.2.2 (z.1 - 1)) (m := wmN (tv D) w b i); omega)) (fun c14 => ?_) (fun c14 => ?_)
    · exact absurd c14 (by omega)
    · refine x_aload (pc' := 18) rfl rfl rfl ?_
      refine x_aload (pc' := 19) rfl rfl rfl ?_
      refine x_iload (pc' := 20) rfl rfl rfl ?_
      refine x_iload (pc' := 22) rfl rfl rfl ?_
      refine x_iload (pc' := 24) rfl rfl rfl ?_
      refine x_callS (pc' := 27) (d1 := 4) (As := [_, _, _, _, _]) rfl rfl rfl rfl (by decide) rfl rfl (Nat.le_of_ble_eq_true rfl) ⟨rfl, rfl⟩ (by omega) ?_
      refine w_X5_whoMade hW hw hb (show i < ns (tv D) by omega) (fun D1 o1 => ?_)
      refine ⟨rfl, ?_⟩
      have t1 := o1.tv
      have e38 := o1 38 (by decide) (by decide)
      have e39 := o1 39 (by decide) (by decide)
      have e40 := o1 40 (by decide) (by decide)
      have hm1 : D1 38 2 = nI z.1 := by rw [e38]; exact hm
      have hS1 : StR z i (D1 39) (D1 40) := by rw [e39, e40]; exact hS
      have oc1 := o.tr o1.c
      have hal := wmN_lt hW (w := w) (b := b) (i := i)
      refine x_istore (pc' := 29) (lv' := [_, _, _, _, _, _, _]) rfl rfl (by decide) rfl ?_
      refine x_iload (pc' := 31) rfl rfl rfl ?_
      refine y_if_ne (pc' := 34) rfl rfl (by first | omega | (have := Nat.and_le_right (n := z.2.2 (z.1 - 1)) (m := wmN (tv D) w b i); omega)) (fun c31 => ?_) (fun c31 => ?_)
      · refine x_aload (pc' := 41) rfl rfl rfl ?_
        refine x_getI (j := 2) (pc' := 44) rfl rfl rfl (by decide) rfl (by decide) rfl rfl ?_
        refine x_top (hm1) ?_
        refine y_if_le (pc' := 47) rfl rfl (by first | omega | (have := Nat.and_le_right (n := z.2.2 (z.1 - 1)) (m := wmN (tv D) w b i); omega)) (fun c44 => ?_) (fun c44 => ?_)
        · refine x_aload (pc' := 84) rfl rfl rfl ?_
          refine x_getR (pc' := 87) rfl rfl rfl (by decide) rfl (by decide) rfl rfl ?_
          refine x_aload (pc' := 88) rfl rfl rfl ?_
          refine x_getI (j := 2) (pc' := 91) rfl rfl rfl (by decide) rfl (by decide) rfl rfl ?_
          refine x_top (hm1) ?_
          refine x_iload (pc' := 93) rfl rfl rfl ?_
          refine x_iast (pc' := 94) rfl rfl (by decide) rfl (by decide) (show _ < 16 by omega) ?_
          refine x_aload (pc' := 95) rfl rfl rfl ?_
          refine x_getR (pc' := 98) rfl rfl rfl (by decide) rfl (by decide) rfl rfl ?_
          refine x_aload (pc' := 99) rfl rfl rfl ?_
          refine x_getI (j := 2) (pc' := 102) rfl rfl rfl (by decide) rfl (by decide) rfl rfl ?_
          refine x_top (hm1) ?_
          refine x_iload (pc' := 104) rfl rfl rfl ?_
          refine x_iast (pc' := 105) rfl rfl (by decide) rfl (by decide) (show _ < 16 by omega) ?_
          refine x_aload (pc' := 106) rfl rfl rfl ?_
          refine x_dup (pc' := 107) rfl rfl rfl ?_
          refine x_getI (j := 2) (pc' := 110) rfl rfl rfl (by decide) rfl (by decide) rfl rfl ?_
          refine x_top (hm1) ?_
          refine x_int (pc' := 111) (v := nI 1) rfl rfl rfl ?_
          refine y_iadd (pc' := 112) rfl rfl ?_
          refine x_putI (j := 2) (pc' := 115) rfl rfl rfl (by decide) rfl (by decide) rfl rfl ?_
          refine y_inc (pc' := 118) (lv' := [_, _, _, _, _, _, _]) rfl rfl rfl (by decide) rfl ?_
          refine x_goto rfl ?_
          first
            | (refine ih (i + 1) _ ⟨z.1, z.2.1, upF z.2.2 (z.1 - 1) (z.2.2 (z.1 - 1) &&& wmN (tv D) w b i)⟩ _ (by omega) (oc1.tr (OffC.up (by decide) (by decide))) ((OffC.up (D := D1) (by decide) (by decide)).tv.trans t1) (by rw [strF_s hz]; exact strS_1 c31 c44 c61) ?_ ?_
               · rw [bh_up2_ne _ _ _ (by decide)]; exact hm1
               · rw [bh_up2_k, bh_up2_ne _ _ _ (by decide)]; exact hS1.s1 hW c44)
            | (refine ih (i + 1) _ ⟨z.1 + 1, upF z.2.1 z.1 i, upF z.2.2 z.1 (wmN (tv D) w b i)⟩ _ (by omega) (((oc1.tr (OffC.up (by decide) (by decide))).tr (OffC.up (by decide) (by decide))).tr (OffC.up (by decide) (by decide))) ((((OffC.up (D := D1) (by decide) (by decide)).tr (OffC.up (by decide) (by decide))).tr (OffC.up (by decide) (by decide))).tv.trans t1) (by rw [strF_s hz]; exact strS_2 c31 (by first | exact Or.inl c44 | exact Or.inr c61)) (bh_up2_self _ _ _ _) ?_
               rw [bh_up2_ne _ _ _ (by decide), bh_up2_ne _ _ _ (by decide), bh_up2_k, bh_up2_ne _ _ _ (by decide), bh_up2_k, bh_up2_ne _ _ _ (by decide)]
               exact hS1.s2 hW)
        · refine x_aload (pc' := 48) rfl rfl rfl ?_
          refine x_getR (pc' := 51) rfl rfl rfl (by decide) rfl (by decide) rfl rfl ?_
          refine x_aload (pc' := 52) rfl rfl rfl ?_
          refine x_getI (j := 2) (pc' := 55) rfl rfl rfl (by decide) rfl (by decide) rfl rfl ?_
          refine x_top (hm1) ?_
          refine x_int (pc' := 56) (v := nI 1) rfl rfl rfl ?_
          refine y_isub (pc' := 57) rfl rfl (by first | omega | (have := Nat.and_le_right (n := z.2.2 (z.1 - 1)) (m := wmN (tv D) w b i); omega)) ?_
          refine x_iald (pc' := 58) rfl rfl (by decide) rfl (by decide) (show _ < 16 by omega) ?_
          refine x_top ((hS1.2.2 (z.1 - 1) (by omega)).2.1) ?_
          refine x_iload (pc' := 60) rfl rfl rfl ?_
          refine y_iand (pc' := 61) rfl rfl ?_
          refine y_if_eq (pc' := 64) rfl rfl (by first | omega | (have := Nat.and_le_right (n := z.2.2 (z.1 - 1)) (m := wmN (tv D) w b i); omega)) (fun c61 => ?_) (fun c61 => ?_)
          · refine x_aload (pc' := 84) rfl rfl rfl ?_
            refine x_getR (pc' := 87) rfl rfl rfl (by decide) rfl (by decide) rfl rfl ?_
            refine x_aload (pc' := 88) rfl rfl rfl ?_
            refine x_getI (j := 2) (pc' := 91) rfl rfl rfl (by decide) rfl (by decide) rfl rfl ?_
            refine x_top (hm1) ?_
            refine x_iload (pc' := 93) rfl rfl rfl ?_
            refine x_iast (pc' := 94) rfl rfl (by decide) rfl (by decide) (show _ < 16 by omega) ?_
            refine x_aload (pc' := 95) rfl rfl rfl ?_
            refine x_getR (pc' := 98) rfl rfl rfl (by decide) rfl (by decide) rfl rfl ?_
            refine x_aload (pc' := 99) rfl rfl rfl ?_
            refine x_getI (j := 2) (pc' := 102) rfl rfl rfl (by decide) rfl (by decide) rfl rfl ?_
            refine x_top (hm1) ?_
            refine x_iload (pc' := 104) rfl rfl rfl ?_
            refine x_iast (pc' := 105) rfl rfl (by decide) rfl (by decide) (show _ < 16 by omega) ?_
            refine x_aload (pc' := 106) rfl rfl rfl ?_
            refine x_dup (pc' := 107) rfl rfl rfl ?_
            refine x_getI (j := 2) (pc' := 110) rfl rfl rfl (by decide) rfl (by decide) rfl rfl ?_
            refine x_top (hm1) ?_
            refine x_int (pc' := 111) (v := nI 1) rfl rfl rfl ?_
            refine y_iadd (pc' := 112) rfl rfl ?_
            refine x_putI (j := 2) (pc' := 115) rfl rfl rfl (by decide) rfl (by decide) rfl rfl ?_
            refine y_inc (pc' := 118) (lv' := [_, _, _, _, _, _, _]) rfl rfl rfl (by decide) rfl ?_
            refine x_goto rfl ?_
            first
              | (refine ih (i + 1) _ ⟨z.1, z.2.1, upF z.2.2 (z.1 - 1) (z.2.2 (z.1 - 1) &&& wmN (tv D) w b i)⟩ _ (by omega) (oc1.tr (OffC.up (by decide) (by decide))) ((OffC.up (D := D1) (by decide) (by decide)).tv.trans t1) (by rw [strF_s hz]; exact strS_1 c31 c44 c61) ?_ ?_
                 · rw [bh_up2_ne _ _ _ (by decide)]; exact hm1
                 · rw [bh_up2_k, bh_up2_ne _ _ _ (by decide)]; exact hS1.s1 hW c44)
              | (refine ih (i + 1) _ ⟨z.1 + 1, upF z.2.1 z.1 i, upF z.2.2 z.1 (wmN (tv D) w b i)⟩ _ (by omega) (((oc1.tr (OffC.up (by decide) (by decide))).tr (OffC.up (by decide) (by decide))).tr (OffC.up (by decide) (by decide))) ((((OffC.up (D := D1) (by decide) (by decide)).tr (OffC.up (by decide) (by decide))).tr (OffC.up (by decide) (by decide))).tv.trans t1) (by rw [strF_s hz]; exact strS_2 c31 (by first | exact Or.inl c44 | exact Or.inr c61)) (bh_up2_self _ _ _ _) ?_
                 rw [bh_up2_ne _ _ _ (by decide), bh_up2_ne _ _ _ (by decide), bh_up2_k, bh_up2_ne _ _ _ (by decide), bh_up2_k, bh_up2_ne _ _ _ (by decide)]
                 exact hS1.s2 hW)
          · refine x_aload (pc' := 65) rfl rfl rfl ?_
            refine x_getR (pc' := 68) rfl rfl rfl (by decide) rfl (by decide) rfl rfl ?_
            refine x_aload (pc' := 69) rfl rfl rfl ?_
            refine x_getI (j := 2) (pc' := 72) rfl rfl rfl (by decide) rfl (by decide) rfl rfl ?_
            refine x_top (hm1) ?_
            refine x_int (pc' := 73) (v := nI 1) rfl rfl rfl ?_
            refine y_isub (pc' := 74) rfl rfl (by first | omega | (have := Nat.and_le_right (n := z.2.2 (z.1 - 1)) (m := wmN (tv D) w b i); omega)) ?_
            refine x_dup2 (pc' := 75) rfl rfl rfl rfl ?_
            refine x_iald (pc' := 76) rfl rfl (by decide) rfl (by decide) (show _ < 16 by omega) ?_
            refine x_top ((hS1.2.2 (z.1 - 1) (by omega)).2.1) ?_
            refine x_iload (pc' := 78) rfl rfl rfl ?_
            refine y_iand (pc' := 79) rfl rfl ?_
            refine x_iast (pc' := 80) rfl rfl (by decide) rfl (by decide) (show _ < 16 by omega) ?_
            refine x_goto rfl ?_
            refine y_inc (pc' := 118) (lv' := [_, _, _, _, _, _, _]) rfl rfl rfl (by decide) rfl ?_
            refine x_goto rfl ?_
            first
              | (refine ih (i + 1) _ ⟨z.1, z.2.1, upF z.2.2 (z.1 - 1) (z.2.2 (z.1 - 1) &&& wmN (tv D) w b i)⟩ _ (by omega) (oc1.tr (OffC.up (by decide) (by decide))) ((OffC.up (D := D1) (by decide) (by decide)).tv.trans t1) (by rw [strF_s hz]; exact strS_1 c31 c44 c61) ?_ ?_
                 · rw [bh_up2_ne _ _ _ (by decide)]; exact hm1
                 · rw [bh_up2_k, bh_up2_ne _ _ _ (by decide)]; exact hS1.s1 hW c44)
              | (refine ih (i + 1) _ ⟨z.1 + 1, upF z.2.1 z.1 i, upF z.2.2 z.1 (wmN (tv D) w b i)⟩ _ (by omega) (((oc1.tr (OffC.up (by decide) (by decide))).tr (OffC.up (by decide) (by decide))).tr (OffC.up (by decide) (by decide))) ((((OffC.up (D := D1) (by decide) (by decide)).tr (OffC.up (by decide) (by decide))).tr (OffC.up (by decide) (by decide))).tv.trans t1) (by rw [strF_s hz]; exact strS_2 c31 (by first | exact Or.inl c44 | exact Or.inr c61)) (bh_up2_self _ _ _ _) ?_
                 rw [bh_up2_ne _ _ _ (by decide), bh_up2_ne _ _ _ (by decide), bh_up2_k, bh_up2_ne _ _ _ (by decide), bh_up2_k, bh_up2_ne _ _ _ (by decide)]
                 exact hS1.s2 hW)
      · refine x_aload (pc' := 35) rfl rfl rfl ?_
        refine x_int (pc' := 36) (v := nI 0) rfl rfl rfl ?_
        refine x_putI (j := 2) (pc' := 39) rfl rfl rfl (by decide) rfl (by decide) rfl rfl ?_
        refine x_vret rfl rfl ?_
        refine kN ?_ _ (oc1.tr (OffC.up (by decide) (by decide))) (bh_up2_self _ _ _ _)
        have hn := strF_none (i := i + 1) (by rw [strF_s hz]; exact strS_n c31) (ns (tv D) - (i + 1))
        rw [show i + 1 + (ns (tv D) - (i + 1)) = ns (tv D) by omega] at hn
        exact hn
set_option maxRecDepth 20000 in
set_option maxHeartbeats 1000000 in
theorem w_X5_cut {D : Nat → Nat → Int32} {L : Nat → Nat → Int64} {Q : bh_Q} (hW : WF (tv D)) {w b : Nat} (hw : w < nw (tv D)) (hb : b < nb (tv D)) (kN : strF (tv D) w b (ns (tv D)) = none → ∀ D', OffC D D' → D' 38 2 = nI 0 → Q none (hp D' L)) (kS : ∀ z D', strF (tv D) w b (ns (tv D)) = some z → OffC D D' → D' 38 2 = nI z.1 → StR z (ns (tv D)) (D' 39) (D' 40) → Q none (hp D' L)) : bh_wc 5 m_X5_cut [.ref 38, .ref 1, .ref 31, .int (nI w), .int (nI b)] (hp D L) Q := by
  refine x_start (lv0 := [_, _, _, _, _, _, _]) (Nat.le_of_ble_eq_true rfl) rfl ?_
  refine x_aload (pc' := 1) rfl rfl rfl ?_
  refine x_int (pc' := 2) (v := nI 0) rfl rfl rfl ?_
  refine x_putI (j := 2) (pc' := 5) rfl rfl rfl (by decide) rfl (by decide) rfl rfl ?_
  refine x_int (pc' := 6) (v := nI 0) rfl rfl rfl ?_
  refine x_istore (pc' := 8) (lv' := [_, _, _, _, _, _, _]) rfl rfl (by decide) rfl ?_
  refine l_X5_cut (d := 4) (Nat.le_refl _) hW (D0 := D) hw hb kN kS (ns (tv D)) 0 _ ⟨0, fun _ => 0, fun _ => 0⟩ .null (Nat.zero_add _) (OffC.up (by decide) (by decide)) (OffC.up (D := D) (by decide) (by decide)).tv rfl (bh_up2_self _ _ _ _) ⟨Nat.le_refl _, fun h => h, fun j hj => absurd hj (Nat.not_lt_zero j)⟩
set_option maxRecDepth 20000 in
set_option maxHeartbeats 1000000 in
theorem w_X9_breaks {D : Nat → Nat → Int32} {L : Nat → Nat → Int64} {Q : bh_Q} (hW : WF (tv D)) {x y v : Int32} (k1 : ∀ D1, OffC D D1 → Q (some (.int (breaksQ (tv D) x y v))) (hp D1 L)) : bh_wc 6 m_X9_breaks [.ref 0, .int x, .int y, .int v] (hp D L) Q := by
  refine x_start (lv0 := [_, _, _, _]) (Nat.le_of_ble_eq_true rfl) rfl ?_
  have h12 := hW.nwl
  have h16 := hW.nsl
  have h4 := hW.nbl
  refine x_aload (pc' := 1) rfl rfl rfl ?_
  refine x_getR (pc' := 4) rfl rfl rfl (by decide) rfl (by decide) rfl rfl ?_
  refine x_iload (pc' := 5) rfl rfl rfl ?_
  refine x_callV (pc' := 8) (d1 := 1) (Bs := [_]) rfl rfl rfl rfl rfl rfl rfl (Nat.le_of_ble_eq_true rfl) ⟨rfl, rfl⟩ (by decide) rfl (by decide) ?_
  refine w_X7_isWriter hW (fun h5w h5l e => ?_) (fun h5 => ?_)
  · subst e
    refine ⟨rfl, ?_⟩
    refine x_if_eq (pc' := 11) rfl rfl (fun c8 => absurd c8 (by decide)) (fun _ => ?_)
    refine x_aload (pc' := 12) rfl rfl rfl ?_
    refine x_getR (pc' := 15) rfl rfl rfl (by decide) rfl (by decide) rfl rfl ?_
    refine x_iload (pc' := 16) rfl rfl rfl ?_
    refine x_callV (pc' := 19) (d1 := 1) (Bs := [_]) rfl rfl rfl rfl rfl rfl rfl (Nat.le_of_ble_eq_true rfl) ⟨rfl, rfl⟩ (by decide) rfl (by decide) ?_
    refine w_X7_isBook hW (fun b hb e => ?_) (fun h16 => ?_)
    · subst e
      refine ⟨rfl, ?_⟩
      refine x_if_ne (pc' := 22) rfl rfl (fun _ => ?_) (fun c19 => absurd c19 (by decide))
      refine x_iload (pc' := 26) rfl rfl rfl ?_
      refine x_if_lt (pc' := 29) rfl rfl (fun c26 => ?_) (fun c26 => ?_)
      · have hv := okN_neg (n := 2) (by decide) c26
        refine x_int (pc' := 46) (v := (-3)) rfl rfl rfl ?_
        refine x_iret rfl rfl ?_
        first
          | (simp (disch := first | assumption | omega) only [breaksQ, onN_1, onN_0, onP_1, onP_0, ↓reduceIte] at k1
             exact k1 D OffC.rf)
          | (simp (disch := first | assumption | omega) only [breaksQ, onN_1, onN_0, onP_1, onP_0, ↓reduceIte] at k1
             rw [if_pos c41] at k1
             exact k1 D OffC.rf)
      · refine x_iload (pc' := 30) rfl rfl rfl ?_
        refine x_int (pc' := 31) (v := nI 1) rfl rfl rfl ?_
        refine x_ic_gt (pc' := 34) rfl rfl (fun c31 => ?_) (fun c31 => ?_)
        · have hv := okN_gt (n := 1) (by decide) c31
          refine x_int (pc' := 46) (v := (-3)) rfl rfl rfl ?_
          refine x_iret rfl rfl ?_
          first
            | (simp (disch := first | assumption | omega) only [breaksQ, onN_1, onN_0, onP_1, onP_0, ↓reduceIte] at k1
               exact k1 D OffC.rf)
            | (simp (disch := first | assumption | omega) only [breaksQ, onN_1, onN_0, onP_1, onP_0, ↓reduceIte] at k1
               rw [if_pos c41] at k1
               exact k1 D OffC.rf)
        · obtain ⟨m, hm2, rfl⟩ := le_ofI (n := 1) c26 (Int32.not_lt.mp c31)
          refine x_aload (pc' := 35) rfl rfl rfl ?_
          refine x_getR (pc' := 38) rfl rfl rfl (by decide) rfl (by decide) rfl rfl ?_
          refine x_getI (j := 2) (pc' := 41) rfl rfl rfl (by decide) rfl (by decide) rfl rfl ?_
          refine x_top (hW.ens) ?_
          refine y_if_ne (pc' := 44) rfl rfl (by omega) (fun c41 => ?_) (fun c41 => ?_)
          · refine x_aload (pc' := 48) rfl rfl rfl ?_
            refine x_getR (pc' := 51) rfl rfl rfl (by decide) rfl (by decide) rfl rfl ?_
            refine x_aload (pc' := 52) rfl rfl rfl ?_
            refine x_getR (pc' := 55) rfl rfl rfl (by decide) rfl (by decide) rfl rfl ?_
            refine x_aload (pc' := 56) rfl rfl rfl ?_
            refine x_getR (pc' := 59) rfl rfl rfl (by decide) rfl (by decide) rfl rfl ?_
            refine x_iload (pc' := 60) rfl rfl rfl ?_
            refine x_iload (pc' := 61) rfl rfl rfl ?_
            refine x_callV (pc' := 64) (d1 := 5) (Bs := [_, _, _, _]) rfl rfl rfl rfl rfl rfl rfl (Nat.le_of_ble_eq_true rfl) ⟨rfl, rfl⟩ (by decide) rfl (by decide) ?_
            refine w_X5_cut hW h5l hb (fun hN D1 o1 hm => ?_) (fun z D1 hN o1 hm hS => ?_)
            · refine ⟨rfl, ?_⟩
              refine x_aload (pc' := 65) rfl rfl rfl ?_
              refine x_getR (pc' := 68) rfl rfl rfl (by decide) rfl (by decide) rfl rfl ?_
              refine x_getI (j := 2) (pc' := 71) rfl rfl rfl (by decide) rfl (by decide) rfl rfl ?_
              refine x_top (hm) ?_
              refine y_if_ne (pc' := 74) rfl rfl (by omega) (fun c71 => ?_) (fun c71 => ?_)
              · refine x_iload (pc' := 78) rfl rfl rfl ?_
                refine y_if_ne (pc' := 81) rfl rfl (by omega) (fun c78 => ?_) (fun c78 => ?_)
                · refine x_aload (pc' := 92) rfl rfl rfl ?_
                  refine x_getR (pc' := 95) rfl rfl rfl (by decide) rfl (by decide) rfl rfl ?_
                  refine x_getI (j := 2) (pc' := 98) rfl rfl rfl (by decide) rfl (by decide) rfl rfl ?_
                  refine x_top (hm) ?_
                  refine x_int (pc' := 99) (v := nI 1) rfl rfl rfl ?_
                  refine y_ic_le (pc' := 102) rfl rfl (by omega) (by omega) (fun c99 => ?_) (fun c99 => ?_)
                  · refine x_int (pc' := 115) (v := (-1)) rfl rfl rfl ?_
                    refine x_iret rfl rfl ?_
                    exact absurd rfl c71
                  · refine x_aload (pc' := 103) rfl rfl rfl ?_
                    refine x_getR (pc' := 106) rfl rfl rfl (by decide) rfl (by decide) rfl rfl ?_
                    refine x_getR (pc' := 109) rfl rfl rfl (by decide) rfl (by decide) rfl rfl ?_
                    refine x_int (pc' := 110) (v := nI 1) rfl rfl rfl ?_
                    refine x_iald (pc' := 111) rfl rfl (by decide) rfl (by decide) (show _ < 16 by omega) ?_
                    refine x_goto rfl ?_
                    refine x_iret rfl rfl ?_
                    exact absurd rfl c71
                · refine x_aload (pc' := 82) rfl rfl rfl ?_
                  refine x_getR (pc' := 85) rfl rfl rfl (by decide) rfl (by decide) rfl rfl ?_
                  refine x_getI (j := 2) (pc' := 88) rfl rfl rfl (by decide) rfl (by decide) rfl rfl ?_
                  refine x_top (hm) ?_
                  refine x_int (pc' := 89) (v := nI 1) rfl rfl rfl ?_
                  refine y_isub (pc' := 90) rfl rfl (by omega) ?_
                  refine x_iret rfl rfl ?_
                  exact absurd rfl c71
              · refine x_int (pc' := 76) (v := (-2)) rfl rfl rfl ?_
                refine x_iret rfl rfl ?_
                simp (disch := first | assumption | omega) only [breaksQ, onN_1, onN_0, onP_1, onP_0, ↓reduceIte] at k1
                rw [if_neg c41, hN] at k1
                exact k1 D1 o1
            · have hz1 := hS.1
              have hz2 := hS.2.1 (by omega)
              refine ⟨rfl, ?_⟩
              refine x_aload (pc' := 65) rfl rfl rfl ?_
              refine x_getR (pc' := 68) rfl rfl rfl (by decide) rfl (by decide) rfl rfl ?_
              refine x_getI (j := 2) (pc' := 71) rfl rfl rfl (by decide) rfl (by decide) rfl rfl ?_
              refine x_top (hm) ?_
              refine y_if_ne (pc' := 74) rfl rfl (by omega) (fun c71 => ?_) (fun c71 => ?_)
              · refine x_iload (pc' := 78) rfl rfl rfl ?_
                refine y_if_ne (pc' := 81) rfl rfl (by omega) (fun c78 => ?_) (fun c78 => ?_)
                · refine x_aload (pc' := 92) rfl rfl rfl ?_
                  refine x_getR (pc' := 95) rfl rfl rfl (by decide) rfl (by decide) rfl rfl ?_
                  refine x_getI (j := 2) (pc' := 98) rfl rfl rfl (by decide) rfl (by decide) rfl rfl ?_
                  refine x_top (hm) ?_
                  refine x_int (pc' := 99) (v := nI 1) rfl rfl rfl ?_
                  refine y_ic_le (pc' := 102) rfl rfl (by omega) (by omega) (fun c99 => ?_) (fun c99 => ?_)
                  · refine x_int (pc' := 115) (v := (-1)) rfl rfl rfl ?_
                    refine x_iret rfl rfl ?_
                    simp (disch := first | assumption | omega) only [breaksQ, onN_1, onN_0, onP_1, onP_0, ↓reduceIte] at k1
                    rw [if_neg c41, hN] at k1
                    have e : breaksV (some z) m = if 1 < z.1 then nI (z.2.1 1) else -1 := if_neg c78
                    rw [e] at k1
                    first
                      | (rw [if_neg (by omega)] at k1
                         exact k1 D1 o1)
                      | (rw [if_pos (by omega)] at k1
                         rw [(hS.2.2 1 (by omega)).1]
                         exact k1 D1 o1)
                  · refine x_aload (pc' := 103) rfl rfl rfl ?_
                    refine x_getR (pc' := 106) rfl rfl rfl (by decide) rfl (by decide) rfl rfl ?_
                    refine x_getR (pc' := 109) rfl rfl rfl (by decide) rfl (by decide) rfl rfl ?_
                    refine x_int (pc' := 110) (v := nI 1) rfl rfl rfl ?_
                    refine x_iald (pc' := 111) rfl rfl (by decide) rfl (by decide) (show _ < 16 by omega) ?_
                    refine x_goto rfl ?_
                    refine x_iret rfl rfl ?_
                    simp (disch := first | assumption | omega) only [breaksQ, onN_1, onN_0, onP_1, onP_0, ↓reduceIte] at k1
                    rw [if_neg c41, hN] at k1
                    have e : breaksV (some z) m = if 1 < z.1 then nI (z.2.1 1) else -1 := if_neg c78
                    rw [e] at k1
                    first
                      | (rw [if_neg (by omega)] at k1
                         exact k1 D1 o1)
                      | (rw [if_pos (by omega)] at k1
                         rw [(hS.2.2 1 (by omega)).1]
                         exact k1 D1 o1)
                · refine x_aload (pc' := 82) rfl rfl rfl ?_
                  refine x_getR (pc' := 85) rfl rfl rfl (by decide) rfl (by decide) rfl rfl ?_
                  refine x_getI (j := 2) (pc' := 88) rfl rfl rfl (by decide) rfl (by decide) rfl rfl ?_
                  refine x_top (hm) ?_
                  refine x_int (pc' := 89) (v := nI 1) rfl rfl rfl ?_
                  refine y_isub (pc' := 90) rfl rfl (by omega) ?_
                  refine x_iret rfl rfl ?_
                  simp (disch := first | assumption | omega) only [breaksQ, onN_1, onN_0, onP_1, onP_0, ↓reduceIte] at k1
                  rw [if_neg c41, hN] at k1
                  have e : breaksV (some z) m = nI (z.1 - 1) := if_pos c78
                  rw [e] at k1
                  exact k1 D1 o1
              · refine x_int (pc' := 76) (v := (-2)) rfl rfl rfl ?_
                refine x_iret rfl rfl ?_
                exfalso; omega
          · refine x_int (pc' := 46) (v := (-3)) rfl rfl rfl ?_
            refine x_iret rfl rfl ?_
            first
              | (simp (disch := first | assumption | omega) only [breaksQ, onN_1, onN_0, onP_1, onP_0, ↓reduceIte] at k1
                 exact k1 D OffC.rf)
              | (simp (disch := first | assumption | omega) only [breaksQ, onN_1, onN_0, onP_1, onP_0, ↓reduceIte] at k1
                 rw [if_pos c41] at k1
                 exact k1 D OffC.rf)
    · refine ⟨rfl, ?_⟩
      refine x_if_ne (pc' := 22) rfl rfl (fun c19 => absurd (by decide) c19) (fun _ => ?_)
      refine x_int (pc' := 24) (v := (-3)) rfl rfl rfl ?_
      refine x_iret rfl rfl ?_
      simp (disch := first | assumption | omega) only [breaksQ, onN_1, onN_0, onP_1, onP_0, ↓reduceIte] at k1
      exact k1 D OffC.rf
  · refine ⟨rfl, ?_⟩
    refine x_if_eq (pc' := 11) rfl rfl (fun _ => ?_) (fun c8 => absurd (by decide) c8)
    refine x_int (pc' := 24) (v := (-3)) rfl rfl rfl ?_
    refine x_iret rfl rfl ?_
    simp (disch := first | assumption | omega) only [breaksQ, onN_1, onN_0, onP_1, onP_0, ↓reduceIte] at k1
    exact k1 D OffC.rf
set_option maxRecDepth 20000 in
set_option maxHeartbeats 1000000 in
theorem w_X9_between {D : Nat → Nat → Int32} {L : Nat → Nat → Int64} {Q : bh_Q} (hW : WF (tv D)) {x y v : Int32} (k1 : ∀ D1, OffC D D1 → Q (some (.int (betweenQ (tv D) x y v))) (hp D1 L)) : bh_wc 6 m_X9_between [.ref 0, .int x, .int y, .int v] (hp D L) Q := by
  refine x_start (lv0 := [_, _, _, _]) (Nat.le_of_ble_eq_true rfl) rfl ?_
  have h12 := hW.nwl
  have h16 := hW.nsl
  have h4 := hW.nbl
  refine x_aload (pc' := 1) rfl rfl rfl ?_
  refine x_getR (pc' := 4) rfl rfl rfl (by decide) rfl (by decide) rfl rfl ?_
  refine x_iload (pc' := 5) rfl rfl rfl ?_
  refine x_callV (pc' := 8) (d1 := 1) (Bs := [_]) rfl rfl rfl rfl rfl rfl rfl (Nat.le_of_ble_eq_true rfl) ⟨rfl, rfl⟩ (by decide) rfl (by decide) ?_
  refine w_X7_isWriter hW (fun h5w h5l e => ?_) (fun h5 => ?_)
  · subst e
    refine ⟨rfl, ?_⟩
    refine x_if_eq (pc' := 11) rfl rfl (fun c8 => absurd c8 (by decide)) (fun _ => ?_)
    refine x_aload (pc' := 12) rfl rfl rfl ?_
    refine x_getR (pc' := 15) rfl rfl rfl (by decide) rfl (by decide) rfl rfl ?_
    refine x_iload (pc' := 16) rfl rfl rfl ?_
    refine x_callV (pc' := 19) (d1 := 1) (Bs := [_]) rfl rfl rfl rfl rfl rfl rfl (Nat.le_of_ble_eq_true rfl) ⟨rfl, rfl⟩ (by decide) rfl (by decide) ?_
    refine w_X7_isBook hW (fun b hb e => ?_) (fun h16 => ?_)
    · subst e
      refine ⟨rfl, ?_⟩
      refine x_if_ne (pc' := 22) rfl rfl (fun _ => ?_) (fun c19 => absurd c19 (by decide))
      refine x_iload (pc' := 25) rfl rfl rfl ?_
      refine x_if_lt (pc' := 28) rfl rfl (fun c25 => ?_) (fun c25 => ?_)
      · refine x_int (pc' := 39) (v := (-1)) rfl rfl rfl ?_
        refine x_iret rfl rfl ?_
        first
          | (simp (disch := first | assumption | omega) only [betweenQ, onN_1, onN_0, onP_1, onP_0, ↓reduceIte] at k1
             rw [if_pos (Or.inl c25)] at k1
             exact k1 D OffC.rf)
          | (simp (disch := first | assumption | omega) only [betweenQ, onN_1, onN_0, onP_1, onP_0, ↓reduceIte] at k1
             rw [if_pos (Or.inr c35)] at k1
             exact k1 D OffC.rf)
      · refine x_aload (pc' := 29) rfl rfl rfl ?_
        refine x_getR (pc' := 32) rfl rfl rfl (by decide) rfl (by decide) rfl rfl ?_
        refine x_getI (j := 2) (pc' := 35) rfl rfl rfl (by decide) rfl (by decide) rfl rfl ?_
        refine x_top (hW.ens) ?_
        refine y_if_ne (pc' := 38) rfl rfl (by omega) (fun c35 => ?_) (fun c35 => ?_)
        · refine x_aload (pc' := 41) rfl rfl rfl ?_
          refine x_getR (pc' := 44) rfl rfl rfl (by decide) rfl (by decide) rfl rfl ?_
          refine x_aload (pc' := 45) rfl rfl rfl ?_
          refine x_getR (pc' := 48) rfl rfl rfl (by decide) rfl (by decide) rfl rfl ?_
          refine x_aload (pc' := 49) rfl rfl rfl ?_
          refine x_getR (pc' := 52) rfl rfl rfl (by decide) rfl (by decide) rfl rfl ?_
          refine x_iload (pc' := 53) rfl rfl rfl ?_
          refine x_iload (pc' := 54) rfl rfl rfl ?_
          refine x_callV (pc' := 57) (d1 := 5) (Bs := [_, _, _, _]) rfl rfl rfl rfl rfl rfl rfl (Nat.le_of_ble_eq_true rfl) ⟨rfl, rfl⟩ (by decide) rfl (by decide) ?_
          refine w_X5_cut hW h5l hb (fun hN D1 o1 hm => ?_) (fun z D1 hN o1 hm hS => ?_)
          · refine ⟨rfl, ?_⟩
            refine x_iload (pc' := 58) rfl rfl rfl ?_
            refine x_aload (pc' := 59) rfl rfl rfl ?_
            refine x_getR (pc' := 62) rfl rfl rfl (by decide) rfl (by decide) rfl rfl ?_
            refine x_getI (j := 2) (pc' := 65) rfl rfl rfl (by decide) rfl (by decide) rfl rfl ?_
            refine x_top (hm) ?_
            refine x_ic_ge (pc' := 68) rfl rfl (fun c65 => ?_) (fun c65 => ?_)
            · refine x_int (pc' := 82) (v := (-2)) rfl rfl rfl ?_
              refine x_iret rfl rfl ?_
              first
                | (exact absurd hj (Nat.not_lt_zero _))
                | (simp (disch := first | assumption | omega) only [betweenQ, onN_1, onN_0, onP_1, onP_0, ↓reduceIte] at k1
                   rw [if_neg (fun h => h.elim c25 c35), hN] at k1
                   exact k1 D1 o1)
            · obtain ⟨j, hj, rfl⟩ := lt_of (n := 0) (by omega) c25 c65
              refine x_aload (pc' := 69) rfl rfl rfl ?_
              refine x_getR (pc' := 72) rfl rfl rfl (by decide) rfl (by decide) rfl rfl ?_
              refine x_getR (pc' := 75) rfl rfl rfl (by decide) rfl (by decide) rfl rfl ?_
              refine x_iload (pc' := 76) rfl rfl rfl ?_
              refine x_iald (pc' := 77) rfl rfl (by decide) rfl (by decide) (show _ < 16 by omega) ?_
              refine x_goto rfl ?_
              refine x_iret rfl rfl ?_
              first
                | (exact absurd hj (Nat.not_lt_zero _))
                | (simp (disch := first | assumption | omega) only [betweenQ, onN_1, onN_0, onP_1, onP_0, ↓reduceIte] at k1
                   rw [if_neg (fun h => h.elim c25 c35), hN] at k1
                   exact k1 D1 o1)
          · have hz1 := hS.1
            have hz2 := hS.2.1 (by omega)
            refine ⟨rfl, ?_⟩
            refine x_iload (pc' := 58) rfl rfl rfl ?_
            refine x_aload (pc' := 59) rfl rfl rfl ?_
            refine x_getR (pc' := 62) rfl rfl rfl (by decide) rfl (by decide) rfl rfl ?_
            refine x_getI (j := 2) (pc' := 65) rfl rfl rfl (by decide) rfl (by decide) rfl rfl ?_
            refine x_top (hm) ?_
            refine x_ic_ge (pc' := 68) rfl rfl (fun c65 => ?_) (fun c65 => ?_)
            · refine x_int (pc' := 82) (v := (-2)) rfl rfl rfl ?_
              refine x_iret rfl rfl ?_
              simp (disch := first | assumption | omega) only [betweenQ, onN_1, onN_0, onP_1, onP_0, ↓reduceIte] at k1
              rw [if_neg (fun h => h.elim c25 c35), hN] at k1
              dsimp only [betweenV] at k1
              first
                | (rw [onN_1 hj (by omega)] at k1
                   rw [(hS.2.2 j hj).2.1]
                   exact k1 D1 o1)
                | (rw [onN_0 (okN_ge (by omega) c65) (by omega)] at k1
                   exact k1 D1 o1)
            · obtain ⟨j, hj, rfl⟩ := lt_of (n := z.1) (by omega) c25 c65
              refine x_aload (pc' := 69) rfl rfl rfl ?_
              refine x_getR (pc' := 72) rfl rfl rfl (by decide) rfl (by decide) rfl rfl ?_
              refine x_getR (pc' := 75) rfl rfl rfl (by decide) rfl (by decide) rfl rfl ?_
              refine x_iload (pc' := 76) rfl rfl rfl ?_
              refine x_iald (pc' := 77) rfl rfl (by decide) rfl (by decide) (show _ < 16 by omega) ?_
              refine x_goto rfl ?_
              refine x_iret rfl rfl ?_
              simp (disch := first | assumption | omega) only [betweenQ, onN_1, onN_0, onP_1, onP_0, ↓reduceIte] at k1
              rw [if_neg (fun h => h.elim c25 c35), hN] at k1
              dsimp only [betweenV] at k1
              first
                | (rw [onN_1 hj (by omega)] at k1
                   rw [(hS.2.2 j hj).2.1]
                   exact k1 D1 o1)
                | (rw [onN_0 (okN_ge (by omega) c65) (by omega)] at k1
                   exact k1 D1 o1)
        · refine x_int (pc' := 39) (v := (-1)) rfl rfl rfl ?_
          refine x_iret rfl rfl ?_
          first
            | (simp (disch := first | assumption | omega) only [betweenQ, onN_1, onN_0, onP_1, onP_0, ↓reduceIte] at k1
               rw [if_pos (Or.inl c25)] at k1
               exact k1 D OffC.rf)
            | (simp (disch := first | assumption | omega) only [betweenQ, onN_1, onN_0, onP_1, onP_0, ↓reduceIte] at k1
               rw [if_pos (Or.inr c35)] at k1
               exact k1 D OffC.rf)
    · refine ⟨rfl, ?_⟩
      refine x_if_ne (pc' := 22) rfl rfl (fun c19 => absurd (by decide) c19) (fun _ => ?_)
      refine x_int (pc' := 23) (v := (-1)) rfl rfl rfl ?_
      refine x_iret rfl rfl ?_
      simp (disch := first | assumption | omega) only [betweenQ, onN_1, onN_0, onP_1, onP_0, ↓reduceIte] at k1
      exact k1 D OffC.rf
  · refine ⟨rfl, ?_⟩
    refine x_if_eq (pc' := 11) rfl rfl (fun _ => ?_) (fun c8 => absurd (by decide) c8)
    refine x_int (pc' := 23) (v := (-1)) rfl rfl rfl ?_
    refine x_iret rfl rfl ?_
    simp (disch := first | assumption | omega) only [betweenQ, onN_1, onN_0, onP_1, onP_0, ↓reduceIte] at k1
    exact k1 D OffC.rf
set_option maxRecDepth 20000 in
set_option maxHeartbeats 1000000 in
theorem l_X10_couldBe {L : Nat → Nat → Int64} {Q : bh_Q} {d : Nat} (hd : 5 ≤ d) {T : TW} (hW : WF T) {D0 : Nat → Nat → Int32} {w b n c : Nat} (hw : w < nw T) (hb : b < nb T) (hi : n < ns T) (k1 : ∀ D, OffL [212] D0 D → Q (some (.int (nI (orS c (wmF T w b n) (nw T))))) (hp D L)) : ∀ (f u : Nat) (D : Nat → Nat → Int32) (a7 : Value), u + f = nw T → (OffL [212] D0 D) → (Rn T (D 206)) → bw m_X10_couldBe d Q 41 [.ref 205, .int (nI w), .int (nI b), .int (nI n), .int (nI (n % lng T b)), .int (nI (orS c (wmF T w b n) u)), .int (nI u), a7] [] D L := by
  intro f
  induction f with
  | zero =>
    intro u D a7 hf o hR
    have h12 := hW.nwl
    have h16 := hW.nsl
    have hq : n % lng T b < lng T b := Nat.mod_lt _ (hW.lng0 hb)
    have h8 := hW.lngl hb
    refine x_iload (pc' := 43) rfl rfl rfl ?_
    refine x_aload (pc' := 44) rfl rfl rfl ?_
    refine x_getR (pc' := 47) rfl rfl rfl (by decide) rfl (by decide) rfl rfl ?_
    refine x_int (pc' := 48) (v := nI 0) rfl rfl rfl ?_
    refine x_iald (pc' := 49) rfl rfl (by decide) rfl (by decide) (show _ < 560 by omega) ?_
    refine x_top (hR.1.1.trans hW.enw) ?_
    refine y_ic_ge (pc' := 52) rfl rfl (by first | omega | (have := hab_lt (hW.ehok (w := w) hw) (hW.pgl hb hq); have := hW.snl hi; omega) | (have := hab_lt (hW.ehok (w := w) hw) hrl; have := hW.snl hi; omega) | (have := hW.pul (w := w) (by omega); have := hW.pul (w := u) (by omega); omega)) (by first | omega | (have := hab_lt (hW.ehok (w := w) hw) (hW.pgl hb hq); have := hW.snl hi; omega) | (have := hab_lt (hW.ehok (w := w) hw) hrl; have := hW.snl hi; omega) | (have := hW.pul (w := w) (by omega); have := hW.pul (w := u) (by omega); omega)) (fun c49 => ?_) (fun c49 => ?_)
    · refine x_iload (pc' := 127) rfl rfl rfl ?_
      refine x_iret rfl rfl ?_
      obtain rfl : u = nw T := by omega
      exact k1 D o
    · exact absurd c49 (by omega)
  | succ f ih =>
    intro u D a7 hf o hR
    have h12 := hW.nwl
    have h16 := hW.nsl
    have hq : n % lng T b < lng T b := Nat.mod_lt _ (hW.lng0 hb)
    have h8 := hW.lngl hb
    refine x_iload (pc' := 43) rfl rfl rfl ?_
    refine x_aload (pc' := 44) rfl rfl rfl ?_
    refine x_getR (pc' := 47) rfl rfl rfl (by decide) rfl (by decide) rfl rfl ?_
    refine x_int (pc' := 48) (v := nI 0) rfl rfl rfl ?_
    refine x_iald (pc' := 49) rfl rfl (by decide) rfl (by decide) (show _ < 560 by omega) ?_
    refine x_top (hR.1.1.trans hW.enw) ?_
    refine y_ic_ge (pc' := 52) rfl rfl (by first | omega | (have := hab_lt (hW.ehok (w := w) hw) (hW.pgl hb hq); have := hW.snl hi; omega) | (have := hab_lt (hW.ehok (w := w) hw) hrl; have := hW.snl hi; omega) | (have := hW.pul (w := w) (by omega); have := hW.pul (w := u) (by omega); omega)) (by first | omega | (have := hab_lt (hW.ehok (w := w) hw) (hW.pgl hb hq); have := hW.snl hi; omega) | (have := hab_lt (hW.ehok (w := w) hw) hrl; have := hW.snl hi; omega) | (have := hW.pul (w := w) (by omega); have := hW.pul (w := u) (by omega); omega)) (fun c49 => ?_) (fun c49 => ?_)
    · exact absurd c49 (by omega)
    · refine x_aload (pc' := 53) rfl rfl rfl ?_
      refine x_iload (pc' := 55) rfl rfl rfl ?_
      refine x_int (pc' := 56) (v := nI 0) rfl rfl rfl ?_
      refine x_callV (pc' := 59) (d1 := 1) (Bs := [_, _]) rfl rfl rfl rfl rfl rfl rfl (Nat.le_of_ble_eq_true rfl) ⟨rfl, rfl⟩ (by decide) rfl (by omega) ?_
      refine w_X10_of (by omega) (by decide) ?_
      refine ⟨rfl, ?_⟩
      refine x_top ((hR.rpu (w := u) (by omega)).trans (hW.epu (w := u) (by omega))) ?_
      refine x_aload (pc' := 60) rfl rfl rfl ?_
      refine x_iload (pc' := 61) rfl rfl rfl ?_
      refine x_int (pc' := 62) (v := nI 0) rfl rfl rfl ?_
      refine x_callV (pc' := 65) (d1 := 1) (Bs := [_, _]) rfl rfl rfl rfl rfl rfl rfl (Nat.le_of_ble_eq_true rfl) ⟨rfl, rfl⟩ (by decide) rfl (by omega) ?_
      refine w_X10_of (by omega) (by decide) ?_
      refine ⟨rfl, ?_⟩
      refine x_top ((hR.rpu (w := w) hw).trans (hW.epu (w := w) hw)) ?_
      refine y_ic_ge (pc' := 68) rfl rfl (by first | omega | (have := hab_lt (hW.ehok (w := w) hw) (hW.pgl hb hq); have := hW.snl hi; omega) | (have := hab_lt (hW.ehok (w := w) hw) hrl; have := hW.snl hi; omega) | (have := hW.pul (w := w) (by omega); have := hW.pul (w := u) (by omega); omega)) (by first | omega | (have := hab_lt (hW.ehok (w := w) hw) (hW.pgl hb hq); have := hW.snl hi; omega) | (have := hab_lt (hW.ehok (w := w) hw) hrl; have := hW.snl hi; omega) | (have := hW.pul (w := w) (by omega); have := hW.pul (w := u) (by omega); omega)) (fun c65 => ?_) (fun c65 => ?_)
      · refine x_int (pc' := 82) (v := (-2)) rfl rfl rfl ?_
        refine x_istore (pc' := 84) (lv' := [_, _, _, _, _, _, _, _]) rfl rfl (by decide) rfl ?_
        refine x_iload (pc' := 86) rfl rfl rfl ?_
        refine x_iload (pc' := 88) rfl rfl rfl ?_
        refine x_int (pc' := 90) (v := (-2)) rfl rfl rfl ?_
        refine x_ic_eq (pc' := 93) rfl rfl (fun _ => ?_) (fun c90 => absurd (by decide) c90)
        refine x_int (pc' := 116) (v := nI 0) rfl rfl rfl ?_
        refine y_ior (pc' := 117) rfl rfl ?_
        refine x_istore (pc' := 119) (lv' := [_, _, _, _, _, _, _, _]) rfl rfl (by decide) rfl ?_
        refine y_inc (pc' := 122) (lv' := [_, _, _, _, _, _, _, _]) rfl rfl rfl (by decide) rfl ?_
        refine x_goto rfl ?_
        first
          | (have e := orS_1 (c := c) (wmF_1 (T := T) (w := w) (b := b) (i := n) (u := u) c65 hz c105)
             have hh := fun z => ih (u + 1) D1 z (by omega) (OffL.tr o o1) (OffL212.rn o1 (by assumption))
             rw [e] at hh
             exact hh _)
          | (have e := orS_00 (c := c) (wmF_c (T := T) (w := w) (b := b) (i := n) (u := u) hz c105)
             have hh := fun z => ih (u + 1) D1 z (by omega) (OffL.tr o o1) (OffL212.rn o1 (by assumption))
             rw [e] at hh
             exact hh _)
          | (have e := orS_00 (c := c) (wmF_b (T := T) (w := w) (b := b) (i := n) (u := u) hz)
             have hh := fun z => ih (u + 1) D1 z (by omega) (OffL.tr o o1) (OffL212.rn o1 (by assumption))
             rw [e] at hh
             exact hh _)
          | (have e := orS_00 (c := c) (wmF_a (T := T) (w := w) (b := b) (i := n) (u := u) c65)
             have hh := fun z => ih (u + 1) D z (by omega) o hR
             rw [e] at hh
             exact hh _)
      · refine x_aload (pc' := 69) rfl rfl rfl ?_
        refine x_iload (pc' := 71) rfl rfl rfl ?_
        refine x_iload (pc' := 72) rfl rfl rfl ?_
        refine x_iload (pc' := 74) rfl rfl rfl ?_
        refine x_callV (pc' := 77) (d1 := 5) (Bs := [_, _, _]) rfl rfl rfl rfl rfl rfl rfl (Nat.le_of_ble_eq_true rfl) ⟨rfl, rfl⟩ (by decide) rfl (by omega) ?_
        refine w_X10_lineOf hW hR (show u < nw T by omega) hb hq (fun D1 o1 => ?_)
        rcases hz : lnO T u b (n % lng T b) with _ | r
        · refine ⟨rfl, ?_⟩
          refine x_goto rfl ?_
          refine x_istore (pc' := 84) (lv' := [_, _, _, _, _, _, _, _]) rfl rfl (by decide) rfl ?_
          refine x_iload (pc' := 86) rfl rfl rfl ?_
          refine x_iload (pc' := 88) rfl rfl rfl ?_
          refine x_int (pc' := 90) (v := (-2)) rfl rfl rfl ?_
          refine x_ic_eq (pc' := 93) rfl rfl (fun _ => ?_) (fun c90 => absurd (by decide) c90)
          refine x_int (pc' := 116) (v := nI 0) rfl rfl rfl ?_
          refine y_ior (pc' := 117) rfl rfl ?_
          refine x_istore (pc' := 119) (lv' := [_, _, _, _, _, _, _, _]) rfl rfl (by decide) rfl ?_
          refine y_inc (pc' := 122) (lv' := [_, _, _, _, _, _, _, _]) rfl rfl rfl (by decide) rfl ?_
          refine x_goto rfl ?_
          first
            | (have e := orS_1 (c := c) (wmF_1 (T := T) (w := w) (b := b) (i := n) (u := u) c65 hz c105)
               have hh := fun z => ih (u + 1) D1 z (by omega) (OffL.tr o o1) (OffL212.rn o1 (by assumption))
               rw [e] at hh
               exact hh _)
            | (have e := orS_00 (c := c) (wmF_c (T := T) (w := w) (b := b) (i := n) (u := u) hz c105)
               have hh := fun z => ih (u + 1) D1 z (by omega) (OffL.tr o o1) (OffL212.rn o1 (by assumption))
               rw [e] at hh
               exact hh _)
            | (have e := orS_00 (c := c) (wmF_b (T := T) (w := w) (b := b) (i := n) (u := u) hz)
               have hh := fun z => ih (u + 1) D1 z (by omega) (OffL.tr o o1) (OffL212.rn o1 (by assumption))
               rw [e] at hh
               exact hh _)
            | (have e := orS_00 (c := c) (wmF_a (T := T) (w := w) (b := b) (i := n) (u := u) c65)
               have hh := fun z => ih (u + 1) D z (by omega) o hR
               rw [e] at hh
               exact hh _)
        · refine ⟨rfl, ?_⟩
          have hrl := lnO_lt hW (show u < nw T by omega) hb hq hz
          have hR := OffL212.rn o1 hR
          refine x_goto rfl ?_
          refine x_istore (pc' := 84) (lv' := [_, _, _, _, _, _, _, _]) rfl rfl (by decide) rfl ?_
          refine x_iload (pc' := 86) rfl rfl rfl ?_
          refine x_iload (pc' := 88) rfl rfl rfl ?_
          refine x_int (pc' := 90) (v := (-2)) rfl rfl rfl ?_
          refine x_ic_eq (pc' := 93) rfl rfl (fun c90 => ?_) (fun c90 => ?_)
          · exact absurd c90 (nI_m2 (by omega))
          · refine x_aload (pc' := 94) rfl rfl rfl ?_
            refine x_iload (pc' := 95) rfl rfl rfl ?_
            refine x_iload (pc' := 97) rfl rfl rfl ?_
            refine x_callV (pc' := 100) (d1 := 3) (Bs := [_, _]) rfl rfl rfl rfl rfl rfl rfl (Nat.le_of_ble_eq_true rfl) ⟨rfl, rfl⟩ (by decide) rfl (by omega) ?_
            refine w_X10_habit hW hR hw hrl ?_
            refine ⟨rfl, ?_⟩
            refine x_aload (pc' := 101) rfl rfl rfl ?_
            refine x_iload (pc' := 102) rfl rfl rfl ?_
            refine x_callV (pc' := 105) (d1 := 1) (Bs := [_]) rfl rfl rfl rfl rfl rfl rfl (Nat.le_of_ble_eq_true rfl) ⟨rfl, rfl⟩ (by decide) rfl (by omega) ?_
            refine w_X10_seen hW hR hi ?_
            refine ⟨rfl, ?_⟩
            refine y_ic_ne (pc' := 108) rfl rfl (by first | omega | (have := hab_lt (hW.ehok (w := w) hw) (hW.pgl hb hq); have := hW.snl hi; omega) | (have := hab_lt (hW.ehok (w := w) hw) hrl; have := hW.snl hi; omega) | (have := hW.pul (w := w) (by omega); have := hW.pul (w := u) (by omega); omega)) (by first | omega | (have := hab_lt (hW.ehok (w := w) hw) (hW.pgl hb hq); have := hW.snl hi; omega) | (have := hab_lt (hW.ehok (w := w) hw) hrl; have := hW.snl hi; omega) | (have := hW.pul (w := w) (by omega); have := hW.pul (w := u) (by omega); omega)) (fun c105 => ?_) (fun c105 => ?_)
            · refine x_int (pc' := 116) (v := nI 0) rfl rfl rfl ?_
              refine y_ior (pc' := 117) rfl rfl ?_
              refine x_istore (pc' := 119) (lv' := [_, _, _, _, _, _, _, _]) rfl rfl (by decide) rfl ?_
              refine y_inc (pc' := 122) (lv' := [_, _, _, _, _, _, _, _]) rfl rfl rfl (by decide) rfl ?_
              refine x_goto rfl ?_
              first
                | (have e := orS_1 (c := c) (wmF_1 (T := T) (w := w) (b := b) (i := n) (u := u) c65 hz c105)
                   have hh := fun z => ih (u + 1) D1 z (by omega) (OffL.tr o o1) (OffL212.rn o1 (by assumption))
                   rw [e] at hh
                   exact hh _)
                | (have e := orS_00 (c := c) (wmF_c (T := T) (w := w) (b := b) (i := n) (u := u) hz c105)
                   have hh := fun z => ih (u + 1) D1 z (by omega) (OffL.tr o o1) (OffL212.rn o1 (by assumption))
                   rw [e] at hh
                   exact hh _)
                | (have e := orS_00 (c := c) (wmF_b (T := T) (w := w) (b := b) (i := n) (u := u) hz)
                   have hh := fun z => ih (u + 1) D1 z (by omega) (OffL.tr o o1) (OffL212.rn o1 (by assumption))
                   rw [e] at hh
                   exact hh _)
                | (have e := orS_00 (c := c) (wmF_a (T := T) (w := w) (b := b) (i := n) (u := u) c65)
                   have hh := fun z => ih (u + 1) D z (by omega) o hR
                   rw [e] at hh
                   exact hh _)
            · refine x_int (pc' := 109) (v := nI 1) rfl rfl rfl ?_
              refine x_iload (pc' := 111) rfl rfl rfl ?_
              refine y_ishl (pc' := 112) rfl rfl (by first | omega | (have := hab_lt (hW.ehok (w := w) hw) (hW.pgl hb hq); have := hW.snl hi; omega) | (have := hab_lt (hW.ehok (w := w) hw) hrl; have := hW.snl hi; omega) | (have := hW.pul (w := w) (by omega); have := hW.pul (w := u) (by omega); omega)) ?_
              refine x_goto rfl ?_
              refine y_ior (pc' := 117) rfl rfl ?_
              refine x_istore (pc' := 119) (lv' := [_, _, _, _, _, _, _, _]) rfl rfl (by decide) rfl ?_
              refine y_inc (pc' := 122) (lv' := [_, _, _, _, _, _, _, _]) rfl rfl rfl (by decide) rfl ?_
              refine x_goto rfl ?_
              first
                | (have e := orS_1 (c := c) (wmF_1 (T := T) (w := w) (b := b) (i := n) (u := u) c65 hz c105)
                   have hh := fun z => ih (u + 1) D1 z (by omega) (OffL.tr o o1) (OffL212.rn o1 (by assumption))
                   rw [e] at hh
                   exact hh _)
                | (have e := orS_00 (c := c) (wmF_c (T := T) (w := w) (b := b) (i := n) (u := u) hz c105)
                   have hh := fun z => ih (u + 1) D1 z (by omega) (OffL.tr o o1) (OffL212.rn o1 (by assumption))
                   rw [e] at hh
                   exact hh _)
                | (have e := orS_00 (c := c) (wmF_b (T := T) (w := w) (b := b) (i := n) (u := u) hz)
                   have hh := fun z => ih (u + 1) D1 z (by omega) (OffL.tr o o1) (OffL212.rn o1 (by assumption))
                   rw [e] at hh
                   exact hh _)
                | (have e := orS_00 (c := c) (wmF_a (T := T) (w := w) (b := b) (i := n) (u := u) c65)
                   have hh := fun z => ih (u + 1) D z (by omega) o hR
                   rw [e] at hh
                   exact hh _)
set_option maxRecDepth 20000 in
set_option maxHeartbeats 1000000 in
theorem w_X10_couldBe {D : Nat → Nat → Int32} {L : Nat → Nat → Int64} {Q : bh_Q} {T : TW} (hW : WF T) (hR : Rn T (D 206)) {w b n : Nat} (hw : w < nw T) (hb : b < nb T) (hi : n < ns T) (k1 : ∀ D', OffL [212] D D' → Q (some (.int (nI (wmN T w b n)))) (hp D' L)) : bh_wc 6 m_X10_couldBe [.ref 205, .int (nI w), .int (nI b), .int (nI n)] (hp D L) Q := by
  refine x_start (lv0 := [_, _, _, _, _, _, _, _]) (Nat.le_of_ble_eq_true rfl) rfl ?_
  have h12 := hW.nwl
  have h16 := hW.nsl
  have hq : n % lng T b < lng T b := Nat.mod_lt _ (hW.lng0 hb)
  have h8 := hW.lngl hb
  have h0 := hW.lng0 hb
  refine x_iload (pc' := 1) rfl rfl rfl ?_
  refine x_aload (pc' := 2) rfl rfl rfl ?_
  refine x_iload (pc' := 3) rfl rfl rfl ?_
  refine x_callV (pc' := 6) (d1 := 1) (Bs := [_]) rfl rfl rfl rfl rfl rfl rfl (Nat.le_of_ble_eq_true rfl) ⟨rfl, rfl⟩ (by decide) rfl (by decide) ?_
  refine w_X10_pagesOf hW hR hb ?_
  refine ⟨rfl, ?_⟩
  refine y_irem (pc' := 7) rfl rfl (by omega) (by omega) (by omega) ?_
  refine x_istore (pc' := 9) (lv' := [_, _, _, _, _, _, _, _]) rfl rfl (by decide) rfl ?_
  refine x_aload (pc' := 10) rfl rfl rfl ?_
  refine x_iload (pc' := 11) rfl rfl rfl ?_
  refine x_aload (pc' := 12) rfl rfl rfl ?_
  refine x_iload (pc' := 13) rfl rfl rfl ?_
  refine x_iload (pc' := 15) rfl rfl rfl ?_
  refine x_callV (pc' := 18) (d1 := 1) (Bs := [_, _]) rfl rfl rfl rfl rfl rfl rfl (Nat.le_of_ble_eq_true rfl) ⟨rfl, rfl⟩ (by decide) rfl (by decide) ?_
  refine w_X10_pageOf hW hR hb hq ?_
  refine ⟨rfl, ?_⟩
  refine x_callV (pc' := 21) (d1 := 3) (Bs := [_, _]) rfl rfl rfl rfl rfl rfl rfl (Nat.le_of_ble_eq_true rfl) ⟨rfl, rfl⟩ (by decide) rfl (by decide) ?_
  refine w_X10_habit hW hR hw (hW.pgl hb hq) ?_
  refine ⟨rfl, ?_⟩
  refine x_aload (pc' := 22) rfl rfl rfl ?_
  refine x_iload (pc' := 23) rfl rfl rfl ?_
  refine x_callV (pc' := 26) (d1 := 1) (Bs := [_]) rfl rfl rfl rfl rfl rfl rfl (Nat.le_of_ble_eq_true rfl) ⟨rfl, rfl⟩ (by decide) rfl (by decide) ?_
  refine w_X10_seen hW hR hi ?_
  refine ⟨rfl, ?_⟩
  refine y_ic_ne (pc' := 29) rfl rfl (by first | omega | (have := hab_lt (hW.ehok (w := w) hw) (hW.pgl hb hq); have := hW.snl hi; omega) | (have := hab_lt (hW.ehok (w := w) hw) hrl; have := hW.snl hi; omega) | (have := hW.pul (w := w) (by omega); have := hW.pul (w := u) (by omega); omega)) (by first | omega | (have := hab_lt (hW.ehok (w := w) hw) (hW.pgl hb hq); have := hW.snl hi; omega) | (have := hab_lt (hW.ehok (w := w) hw) hrl; have := hW.snl hi; omega) | (have := hW.pul (w := w) (by omega); have := hW.pul (w := u) (by omega); omega)) (fun c26 => ?_) (fun c26 => ?_)
  · refine x_int (pc' := 36) (v := nI 0) rfl rfl rfl ?_
    refine x_istore (pc' := 38) (lv' := [_, _, _, _, _, _, _, _]) rfl rfl (by decide) rfl ?_
    refine x_int (pc' := 39) (v := nI 0) rfl rfl rfl ?_
    refine x_istore (pc' := 41) (lv' := [_, _, _, _, _, _, _, _]) rfl rfl (by decide) rfl ?_
    first
      | (have e : wmC T w b n = 4096 := if_pos c26
         have hh := l_X10_couldBe (d := 5) (L := L) (Q := Q) (Nat.le_refl _) hW (c := wmC T w b n) hw hb hi k1 (nw T) 0 D .null (Nat.zero_add _) OffL.rf hR
         rw [orS_z, e] at hh
         exact hh)
      | (have e : wmC T w b n = 0 := if_neg c26
         have hh := l_X10_couldBe (d := 5) (L := L) (Q := Q) (Nat.le_refl _) hW (c := wmC T w b n) hw hb hi k1 (nw T) 0 D .null (Nat.zero_add _) OffL.rf hR
         rw [orS_z, e] at hh
         exact hh)
  · refine x_int (pc' := 32) (v := nI 4096) rfl rfl rfl ?_
    refine x_goto rfl ?_
    refine x_istore (pc' := 38) (lv' := [_, _, _, _, _, _, _, _]) rfl rfl (by decide) rfl ?_
    refine x_int (pc' := 39) (v := nI 0) rfl rfl rfl ?_
    refine x_istore (pc' := 41) (lv' := [_, _, _, _, _, _, _, _]) rfl rfl (by decide) rfl ?_
    first
      | (have e : wmC T w b n = 4096 := if_pos c26
         have hh := l_X10_couldBe (d := 5) (L := L) (Q := Q) (Nat.le_refl _) hW (c := wmC T w b n) hw hb hi k1 (nw T) 0 D .null (Nat.zero_add _) OffL.rf hR
         rw [orS_z, e] at hh
         exact hh)
      | (have e : wmC T w b n = 0 := if_neg c26
         have hh := l_X10_couldBe (d := 5) (L := L) (Q := Q) (Nat.le_refl _) hW (c := wmC T w b n) hw hb hi k1 (nw T) 0 D .null (Nat.zero_add _) OffL.rf hR
         rw [orS_z, e] at hh
         exact hh)
set_option maxRecDepth 20000 in
set_option maxHeartbeats 1000000 in
theorem l_X10_stretches {L : Nat → Nat → Int64} {Q : bh_Q} {d : Nat} (hd : 6 ≤ d) {T : TW} (hW : WF T) {D0 : Nat → Nat → Int32} {w b : Nat} (hw : w < nw T) (hb : b < nb T) (kN : strF T w b (ns T) = none → ∀ D', OffM D0 D' → Q (some (.int (-2))) (hp D' L)) (kS : ∀ z D', strF T w b (ns T) = some z → OffM D0 D' → StR z (ns T) (D' 221) (D' 222) → Q (some (.int (nI z.1))) (hp D' L)) : ∀ (f i : Nat) (D : Nat → Nat → Int32) (z : Sts) (a5 : Value), i + f = ns T → (OffM D0 D) → (Rn T (D 206)) → (strF T w b i = some z) → (StR z i (D 221) (D 222)) → bw m_X10_stretches d Q 5 [.ref 205, .int (nI w), .int (nI b), .int (nI z.1), .int (nI i), a5] [] D L := by
  intro f
  induction f with
  | zero =>
    intro i D z a5 hf o hR hz hS
    have h12 := hW.nwl
    have h16 := hW.nsl
    have hzi := hS.1
    refine x_iload (pc' := 7) rfl rfl rfl ?_
    refine x_aload (pc' := 8) rfl rfl rfl ?_
    refine x_getR (pc' := 11) rfl rfl rfl (by decide) rfl (by decide) rfl rfl ?_
    refine x_int (pc' := 12) (v := nI 2) rfl rfl rfl ?_
    refine x_iald (pc' := 13) rfl rfl (by decide) rfl (by decide) (show _ < 560 by omega) ?_
    refine x_top (hR.1.2.2.1.trans hW.ens) ?_
    refine y_ic_ge (pc' := 16) rfl rfl (by first | omega | (have := Nat.and_le_right (n := z.2.2 (z.1 - 1)) (m := wmN T w b i); omega)) (by first | omega | (have := Nat.and_le_right (n := z.2.2 (z.1 - 1)) (m := wmN T w b i); omega)) (fun c13 => ?_) (fun c13 => ?_)
    · refine x_iload (pc' := 94) rfl rfl rfl ?_
      refine x_iret rfl rfl ?_
      obtain rfl : i = ns T := by omega
      exact kS z D hz o hS
    · exact absurd c13 (by omega)
  | succ f ih =>
    intro i D z a5 hf o hR hz hS
    have h12 := hW.nwl
    have h16 := hW.nsl
    have hzi := hS.1
    refine x_iload (pc' := 7) rfl rfl rfl ?_
    refine x_aload (pc' := 8) rfl rfl rfl ?_
    refine x_getR (pc' := 11) rfl rfl rfl (by decide) rfl (by decide) rfl rfl ?_
    refine x_int (pc' := 12) (v := nI 2) rfl rfl rfl ?_
    refine x_iald (pc' := 13) rfl rfl (by decide) rfl (by decide) (show _ < 560 by omega) ?_
    refine x_top (hR.1.2.2.1.trans hW.ens) ?_
    refine y_ic_ge (pc' := 16) rfl rfl (by first | omega | (have := Nat.and_le_right (n := z.2.2 (z.1 - 1)) (m := wmN T w b i); omega)) (by first | omega | (have := Nat.and_le_right (n := z.2.2 (z.1 - 1)) (m := wmN T w b i); omega)) (fun c13 => ?_) (fun c13 => ?_)
    · exact absurd c13 (by omega)
    · refine x_aload (pc' := 17) rfl rfl rfl ?_
      refine x_iload (pc' := 18) rfl rfl rfl ?_
      refine x_iload (pc' := 19) rfl rfl rfl ?_
      refine x_iload (pc' := 21) rfl rfl rfl ?_
      refine x_callV (pc' := 24) (d1 := 6) (Bs := [_, _, _]) rfl rfl rfl rfl rfl rfl rfl (Nat.le_of_ble_eq_true rfl) ⟨rfl, rfl⟩ (by decide) rfl (by omega) ?_
      refine w_X10_couldBe hW hR hw hb (show i < ns T by omega) (fun D1 o1 => ?_)
      refine ⟨rfl, ?_⟩
      have e39 := o1 221 (by decide)
      have e40 := o1 222 (by decide)
      have hS1 : StR z i (D1 221) (D1 222) := by rw [e39, e40]; exact hS
      have oc1 := o.tr (OffL.m o1 (by decide))
      have hR1 := OffL212.rn o1 hR
      have hal := wmN_lt hW (w := w) (b := b) (i := i)
      refine x_istore (pc' := 26) (lv' := [_, _, _, _, _, _]) rfl rfl (by decide) rfl ?_
      refine x_iload (pc' := 28) rfl rfl rfl ?_
      refine y_if_ne (pc' := 31) rfl rfl (by first | omega | (have := Nat.and_le_right (n := z.2.2 (z.1 - 1)) (m := wmN T w b i); omega)) (fun c28 => ?_) (fun c28 => ?_)
      · refine x_iload (pc' := 35) rfl rfl rfl ?_
        refine y_if_le (pc' := 38) rfl rfl (by first | omega | (have := Nat.and_le_right (n := z.2.2 (z.1 - 1)) (m := wmN T w b i); omega)) (fun c35 => ?_) (fun c35 => ?_)
        · refine x_aload (pc' := 69) rfl rfl rfl ?_
          refine x_getR (pc' := 72) rfl rfl rfl (by decide) rfl (by decide) rfl rfl ?_
          refine x_iload (pc' := 73) rfl rfl rfl ?_
          refine x_iload (pc' := 75) rfl rfl rfl ?_
          refine x_iast (pc' := 76) rfl rfl (by decide) rfl (by decide) (show _ < 16 by omega) ?_
          refine x_aload (pc' := 77) rfl rfl rfl ?_
          refine x_getR (pc' := 80) rfl rfl rfl (by decide) rfl (by decide) rfl rfl ?_
          refine x_iload (pc' := 81) rfl rfl rfl ?_
          refine x_iload (pc' := 83) rfl rfl rfl ?_
          refine x_iast (pc' := 84) rfl rfl (by decide) rfl (by decide) (show _ < 16 by omega) ?_
          refine y_inc (pc' := 87) (lv' := [_, _, _, _, _, _]) rfl rfl rfl (by decide) rfl ?_
          refine y_inc (pc' := 90) (lv' := [_, _, _, _, _, _]) rfl rfl rfl (by decide) rfl ?_
          refine x_goto rfl ?_
          first
            | (refine ih (i + 1) _ ⟨z.1, z.2.1, upF z.2.2 (z.1 - 1) (z.2.2 (z.1 - 1) &&& wmN T w b i)⟩ _ (by omega) (oc1.tr (OffM.up (by decide) (by decide))) ((OffM.up (by decide) (by decide)).rn hR1) (by rw [strF_s hz]; exact strS_1 c28 c35 c49) ?_
               rw [bh_up2_k, bh_up2_ne _ _ _ (by decide)]; exact hS1.s1 hW c35)
            | (refine ih (i + 1) _ ⟨z.1 + 1, upF z.2.1 z.1 i, upF z.2.2 z.1 (wmN T w b i)⟩ _ (by omega) ((oc1.tr (OffM.up (by decide) (by decide))).tr (OffM.up (by decide) (by decide))) (((OffM.up (by decide) (by decide)).tr (OffM.up (by decide) (by decide))).rn hR1) (by rw [strF_s hz]; exact strS_2 c28 (by first | exact Or.inl c35 | exact Or.inr c49)) ?_
               rw [bh_up2_ne _ _ _ (by decide), bh_up2_k, bh_up2_k, bh_up2_ne _ _ _ (by decide)]
               exact hS1.s2 hW)
        · refine x_aload (pc' := 39) rfl rfl rfl ?_
          refine x_getR (pc' := 42) rfl rfl rfl (by decide) rfl (by decide) rfl rfl ?_
          refine x_iload (pc' := 43) rfl rfl rfl ?_
          refine x_int (pc' := 44) (v := nI 1) rfl rfl rfl ?_
          refine y_isub (pc' := 45) rfl rfl (by first | omega | (have := Nat.and_le_right (n := z.2.2 (z.1 - 1)) (m := wmN T w b i); omega)) ?_
          refine x_iald (pc' := 46) rfl rfl (by decide) rfl (by decide) (show _ < 16 by omega) ?_
          refine x_top ((hS1.2.2 (z.1 - 1) (by omega)).2.1) ?_
          refine x_iload (pc' := 48) rfl rfl rfl ?_
          refine y_iand (pc' := 49) rfl rfl ?_
          refine y_if_eq (pc' := 52) rfl rfl (by first | omega | (have := Nat.and_le_right (n := z.2.2 (z.1 - 1)) (m := wmN T w b i); omega)) (fun c49 => ?_) (fun c49 => ?_)
          · refine x_aload (pc' := 69) rfl rfl rfl ?_
            refine x_getR (pc' := 72) rfl rfl rfl (by decide) rfl (by decide) rfl rfl ?_
            refine x_iload (pc' := 73) rfl rfl rfl ?_
            refine x_iload (pc' := 75) rfl rfl rfl ?_
            refine x_iast (pc' := 76) rfl rfl (by decide) rfl (by decide) (show _ < 16 by omega) ?_
            refine x_aload (pc' := 77) rfl rfl rfl ?_
            refine x_getR (pc' := 80) rfl rfl rfl (by decide) rfl (by decide) rfl rfl ?_
            refine x_iload (pc' := 81) rfl rfl rfl ?_
            refine x_iload (pc' := 83) rfl rfl rfl ?_
            refine x_iast (pc' := 84) rfl rfl (by decide) rfl (by decide) (show _ < 16 by omega) ?_
            refine y_inc (pc' := 87) (lv' := [_, _, _, _, _, _]) rfl rfl rfl (by decide) rfl ?_
            refine y_inc (pc' := 90) (lv' := [_, _, _, _, _, _]) rfl rfl rfl (by decide) rfl ?_
            refine x_goto rfl ?_
            first
              | (refine ih (i + 1) _ ⟨z.1, z.2.1, upF z.2.2 (z.1 - 1) (z.2.2 (z.1 - 1) &&& wmN T w b i)⟩ _ (by omega) (oc1.tr (OffM.up (by decide) (by decide))) ((OffM.up (by decide) (by decide)).rn hR1) (by rw [strF_s hz]; exact strS_1 c28 c35 c49) ?_
                 rw [bh_up2_k, bh_up2_ne _ _ _ (by decide)]; exact hS1.s1 hW c35)
              | (refine ih (i + 1) _ ⟨z.1 + 1, upF z.2.1 z.1 i, upF z.2.2 z.1 (wmN T w b i)⟩ _ (by omega) ((oc1.tr (OffM.up (by decide) (by decide))).tr (OffM.up (by decide) (by decide))) (((OffM.up (by decide) (by decide)).tr (OffM.up (by decide) (by decide))).rn hR1) (by rw [strF_s hz]; exact strS_2 c28 (by first | exact Or.inl c35 | exact Or.inr c49)) ?_
                 rw [bh_up2_ne _ _ _ (by decide), bh_up2_k, bh_up2_k, bh_up2_ne _ _ _ (by decide)]
                 exact hS1.s2 hW)
          · refine x_aload (pc' := 53) rfl rfl rfl ?_
            refine x_getR (pc' := 56) rfl rfl rfl (by decide) rfl (by decide) rfl rfl ?_
            refine x_iload (pc' := 57) rfl rfl rfl ?_
            refine x_int (pc' := 58) (v := nI 1) rfl rfl rfl ?_
            refine y_isub (pc' := 59) rfl rfl (by first | omega | (have := Nat.and_le_right (n := z.2.2 (z.1 - 1)) (m := wmN T w b i); omega)) ?_
            refine x_dup2 (pc' := 60) rfl rfl rfl rfl ?_
            refine x_iald (pc' := 61) rfl rfl (by decide) rfl (by decide) (show _ < 16 by omega) ?_
            refine x_top ((hS1.2.2 (z.1 - 1) (by omega)).2.1) ?_
            refine x_iload (pc' := 63) rfl rfl rfl ?_
            refine y_iand (pc' := 64) rfl rfl ?_
            refine x_iast (pc' := 65) rfl rfl (by decide) rfl (by decide) (show _ < 16 by omega) ?_
            refine x_goto rfl ?_
            refine y_inc (pc' := 90) (lv' := [_, _, _, _, _, _]) rfl rfl rfl (by decide) rfl ?_
            refine x_goto rfl ?_
            first
              | (refine ih (i + 1) _ ⟨z.1, z.2.1, upF z.2.2 (z.1 - 1) (z.2.2 (z.1 - 1) &&& wmN T w b i)⟩ _ (by omega) (oc1.tr (OffM.up (by decide) (by decide))) ((OffM.up (by decide) (by decide)).rn hR1) (by rw [strF_s hz]; exact strS_1 c28 c35 c49) ?_
                 rw [bh_up2_k, bh_up2_ne _ _ _ (by decide)]; exact hS1.s1 hW c35)
              | (refine ih (i + 1) _ ⟨z.1 + 1, upF z.2.1 z.1 i, upF z.2.2 z.1 (wmN T w b i)⟩ _ (by omega) ((oc1.tr (OffM.up (by decide) (by decide))).tr (OffM.up (by decide) (by decide))) (((OffM.up (by decide) (by decide)).tr (OffM.up (by decide) (by decide))).rn hR1) (by rw [strF_s hz]; exact strS_2 c28 (by first | exact Or.inl c35 | exact Or.inr c49)) ?_
                 rw [bh_up2_ne _ _ _ (by decide), bh_up2_k, bh_up2_k, bh_up2_ne _ _ _ (by decide)]
                 exact hS1.s2 hW)
      · refine x_int (pc' := 33) (v := (-2)) rfl rfl rfl ?_
        refine x_iret rfl rfl ?_
        refine kN ?_ _ oc1
        have hn := strF_none (i := i + 1) (by rw [strF_s hz]; exact strS_n c28) (ns T - (i + 1))
        rw [show i + 1 + (ns T - (i + 1)) = ns T by omega] at hn
        exact hn
set_option maxRecDepth 20000 in
set_option maxHeartbeats 1000000 in
theorem w_X10_stretches {D : Nat → Nat → Int32} {L : Nat → Nat → Int64} {Q : bh_Q} {T : TW} (hW : WF T) (hR : Rn T (D 206)) {w b : Nat} (hw : w < nw T) (hb : b < nb T) (kN : strF T w b (ns T) = none → ∀ D', OffM D D' → Q (some (.int (-2))) (hp D' L)) (kS : ∀ z D', strF T w b (ns T) = some z → OffM D D' → StR z (ns T) (D' 221) (D' 222) → Q (some (.int (nI z.1))) (hp D' L)) : bh_wc 7 m_X10_stretches [.ref 205, .int (nI w), .int (nI b)] (hp D L) Q := by
  refine x_start (lv0 := [_, _, _, _, _, _]) (Nat.le_of_ble_eq_true rfl) rfl ?_
  refine x_int (pc' := 1) (v := nI 0) rfl rfl rfl ?_
  refine x_istore (pc' := 2) (lv' := [_, _, _, _, _, _]) rfl rfl (by decide) rfl ?_
  refine x_int (pc' := 3) (v := nI 0) rfl rfl rfl ?_
  refine x_istore (pc' := 5) (lv' := [_, _, _, _, _, _]) rfl rfl (by decide) rfl ?_
  refine l_X10_stretches (d := 6) (Nat.le_refl _) hW (D0 := D) hw hb kN kS (ns T) 0 _ ⟨0, fun _ => 0, fun _ => 0⟩ .null (Nat.zero_add _) OffM.rf hR rfl ⟨Nat.le_refl _, fun h => h, fun j hj => absurd hj (Nat.not_lt_zero j)⟩
set_option maxRecDepth 20000 in
set_option maxHeartbeats 1000000 in
theorem w_X10_canBreak {D : Nat → Nat → Int32} {L : Nat → Nat → Int64} {Q : bh_Q} {T : TW} (hW : WF T) (hR : Rn T (D 206)) {x y : Int32} (k1 : ∀ w b, w < nw T → b < nb T → x = nI w → y = nI b → ¬ ns T = 0 → Q (some (.int 1)) (hp D L)) (k0 : ¬ (okN (nw T) x ∧ okN (nb T) y ∧ ¬ ns T = 0) → Q (some (.int 0)) (hp D L)) : bh_wc 3 m_X10_canBreak [.ref 205, .int x, .int y] (hp D L) Q := by
  refine x_start (lv0 := [_, _, _]) (Nat.le_of_ble_eq_true rfl) rfl ?_
  have h12 := hW.nwl
  have h16 := hW.nsl
  have h4 := hW.nbl
  refine x_aload (pc' := 1) rfl rfl rfl ?_
  refine x_iload (pc' := 2) rfl rfl rfl ?_
  refine x_callV (pc' := 5) (d1 := 2) (Bs := [_]) rfl rfl rfl rfl rfl rfl rfl (Nat.le_of_ble_eq_true rfl) ⟨rfl, rfl⟩ (by decide) rfl (by decide) ?_
  refine w_X10_isWriter hW hR (fun h2w h2l e => ?_) (fun h2 => ?_)
  · subst e
    refine ⟨rfl, ?_⟩
    refine x_if_eq (pc' := 8) rfl rfl (fun c5 => absurd c5 (by decide)) (fun _ => ?_)
    refine x_aload (pc' := 9) rfl rfl rfl ?_
    refine x_iload (pc' := 10) rfl rfl rfl ?_
    refine x_callV (pc' := 13) (d1 := 2) (Bs := [_]) rfl rfl rfl rfl rfl rfl rfl (Nat.le_of_ble_eq_true rfl) ⟨rfl, rfl⟩ (by decide) rfl (by decide) ?_
    refine w_X10_isBook hW hR (fun b hb e => ?_) (fun h10 => ?_)
    · subst e
      refine ⟨rfl, ?_⟩
      refine x_if_eq (pc' := 16) rfl rfl (fun c13 => absurd c13 (by decide)) (fun _ => ?_)
      refine x_aload (pc' := 17) rfl rfl rfl ?_
      refine x_getR (pc' := 20) rfl rfl rfl (by decide) rfl (by decide) rfl rfl ?_
      refine x_int (pc' := 21) (v := nI 2) rfl rfl rfl ?_
      refine x_iald (pc' := 22) rfl rfl (by decide) rfl (by decide) (show _ < 560 by omega) ?_
      refine x_top (hR.1.2.2.1.trans hW.ens) ?_
      refine y_if_le (pc' := 25) rfl rfl (by omega) (fun c22 => ?_) (fun c22 => ?_)
      · refine x_int (pc' := 30) (v := nI 0) rfl rfl rfl ?_
        refine x_zret rfl rfl (by decide) ?_
        first
          | (exact k1 h2w b h2l hb rfl rfl (by omega))
          | (exact k0 (fun h => by omega))
          | (exact k0 (fun h => h10 h.2.1))
          | (exact k0 (fun h => h2 h.1))
      · refine x_int (pc' := 26) (v := nI 1) rfl rfl rfl ?_
        refine x_goto rfl ?_
        refine x_zret rfl rfl (by decide) ?_
        first
          | (exact k1 h2w b h2l hb rfl rfl (by omega))
          | (exact k0 (fun h => by omega))
          | (exact k0 (fun h => h10 h.2.1))
          | (exact k0 (fun h => h2 h.1))
    · refine ⟨rfl, ?_⟩
      refine x_if_eq (pc' := 16) rfl rfl (fun _ => ?_) (fun c13 => absurd (by decide) c13)
      refine x_int (pc' := 30) (v := nI 0) rfl rfl rfl ?_
      refine x_zret rfl rfl (by decide) ?_
      first
        | (exact k1 h2w b h2l hb rfl rfl (by omega))
        | (exact k0 (fun h => by omega))
        | (exact k0 (fun h => h10 h.2.1))
        | (exact k0 (fun h => h2 h.1))
  · refine ⟨rfl, ?_⟩
    refine x_if_eq (pc' := 8) rfl rfl (fun _ => ?_) (fun c5 => absurd (by decide) c5)
    refine x_int (pc' := 30) (v := nI 0) rfl rfl rfl ?_
    refine x_zret rfl rfl (by decide) ?_
    first
      | (exact k1 h2w b h2l hb rfl rfl (by omega))
      | (exact k0 (fun h => by omega))
      | (exact k0 (fun h => h10 h.2.1))
      | (exact k0 (fun h => h2 h.1))
theorem brk_0 {T : TW} {x y v : Int32} (hW : WF T) (h : ¬ (okN (nw T) x ∧ okN (nb T) y ∧ ¬ ns T = 0)) : breaksQ T x y v = -3 := by
  have h12 := hW.nwl
  have h4 := hW.nbl
  unfold breaksQ
  by_cases h1 : okN (nw T) x
  · obtain ⟨w, hw, rfl⟩ := h1
    rw [onN_1 hw (by omega)]
    by_cases h2 : okN (nb T) y
    · obtain ⟨b, hb, rfl⟩ := h2
      rw [onN_1 hb (by omega)]
      have h0 : ns T = 0 := by
        by_cases e : ns T = 0
        · exact e
        · exact absurd ⟨⟨w, hw, rfl⟩, ⟨b, hb, rfl⟩, e⟩ h
      unfold onN
      split
      · exact if_pos h0
      · rfl
    · rw [onN_0 h2 (by omega)]
  · rw [onN_0 h1 (by omega)]
theorem btw_0 {T : TW} {x y v : Int32} (hW : WF T) (h : ¬ (okN (nw T) x ∧ okN (nb T) y ∧ ¬ ns T = 0)) : betweenQ T x y v = -1 := by
  have h12 := hW.nwl
  have h4 := hW.nbl
  unfold betweenQ
  by_cases h1 : okN (nw T) x
  · obtain ⟨w, hw, rfl⟩ := h1
    rw [onN_1 hw (by omega)]
    by_cases h2 : okN (nb T) y
    · obtain ⟨b, hb, rfl⟩ := h2
      rw [onN_1 hb (by omega)]
      have h0 : ns T = 0 := by
        by_cases e : ns T = 0
        · exact e
        · exact absurd ⟨⟨w, hw, rfl⟩, ⟨b, hb, rfl⟩, e⟩ h
      exact if_pos (Or.inr h0)
    · rw [onN_0 h2 (by omega)]
  · rw [onN_0 h1 (by omega)]
set_option maxRecDepth 20000 in
set_option maxHeartbeats 1000000 in
theorem w_X10_breaks {D : Nat → Nat → Int32} {L : Nat → Nat → Int64} {Q : bh_Q} {T : TW} (hW : WF T) (hR : Rn T (D 206)) {x y v : Int32} (k1 : ∀ D1, OffM D D1 → Q (some (.int (breaksQ T x y v))) (hp D1 L)) : bh_wc 8 m_X10_breaks [.ref 205, .int x, .int y, .int v] (hp D L) Q := by
  refine x_start (lv0 := [_, _, _, _, _]) (Nat.le_of_ble_eq_true rfl) rfl ?_
  have h12 := hW.nwl
  have h16 := hW.nsl
  have h4 := hW.nbl
  refine x_aload (pc' := 1) rfl rfl rfl ?_
  refine x_iload (pc' := 2) rfl rfl rfl ?_
  refine x_iload (pc' := 3) rfl rfl rfl ?_
  refine x_callV (pc' := 6) (d1 := 3) (Bs := [_, _]) rfl rfl rfl rfl rfl rfl rfl (Nat.le_of_ble_eq_true rfl) ⟨rfl, rfl⟩ (by decide) rfl (by decide) ?_
  refine w_X10_canBreak hW hR (fun w b hw hb e1 e2 hns => ?_) (fun hC => ?_)
  · subst e1; subst e2
    refine ⟨rfl, ?_⟩
    refine x_if_eq (pc' := 9) rfl rfl (fun c6 => absurd c6 (by decide)) (fun _ => ?_)
    refine x_iload (pc' := 10) rfl rfl rfl ?_
    refine x_i2l (pc' := 11) rfl rfl ?_
    refine x_long (pc' := 12) (v := (nI 0).toInt64) rfl rfl (by decide) ?_
    refine x_long (pc' := 13) (v := (nI 1).toInt64) rfl rfl (by decide) ?_
    refine x_callS (pc' := 16) (d1 := 1) (As := [_, _, _]) rfl rfl rfl rfl (by decide) rfl rfl (Nat.le_of_ble_eq_true rfl) ⟨rfl, rfl⟩ (by decide) ?_
    refine w_X10_in (fun h13a h13b => ?_) (fun h13 => ?_)
    · obtain ⟨h13w, h13l, rfl⟩ := in_okL (n := 1) (by decide) h13a h13b
      refine ⟨rfl, ?_⟩
      refine x_if_ne (pc' := 19) rfl rfl (fun _ => ?_) (fun c16 => absurd c16 (by decide))
      refine x_aload (pc' := 23) rfl rfl rfl ?_
      refine x_iload (pc' := 24) rfl rfl rfl ?_
      refine x_iload (pc' := 25) rfl rfl rfl ?_
      refine x_callV (pc' := 28) (d1 := 7) (Bs := [_, _]) rfl rfl rfl rfl rfl rfl rfl (Nat.le_of_ble_eq_true rfl) ⟨rfl, rfl⟩ (by decide) rfl (by decide) ?_
      refine w_X10_stretches hW hR hw hb (fun hN D1 o1 => ?_) (fun z D1 hN o1 hS => ?_)
      · refine ⟨rfl, ?_⟩
        refine x_istore (pc' := 30) (lv' := [_, _, _, _, _]) rfl rfl (by decide) rfl ?_
        refine x_iload (pc' := 32) rfl rfl rfl ?_
        refine x_int (pc' := 34) (v := (-2)) rfl rfl rfl ?_
        refine x_ic_ne (pc' := 37) rfl rfl (fun c34 => absurd (by decide) c34) (fun _ => ?_)
        refine x_int (pc' := 39) (v := (-2)) rfl rfl rfl ?_
        refine x_iret rfl rfl ?_
        simp (disch := first | assumption | omega) only [breaksQ, onN_1, onN_0, onP_1, onP_0, ↓reduceIte] at k1
        rw [if_neg hns, hN] at k1
        exact k1 D1 o1
      · have hz1 := hS.1
        have hz2 := hS.2.1 (by omega)
        refine ⟨rfl, ?_⟩
        refine x_istore (pc' := 30) (lv' := [_, _, _, _, _]) rfl rfl (by decide) rfl ?_
        refine x_iload (pc' := 32) rfl rfl rfl ?_
        refine x_int (pc' := 34) (v := (-2)) rfl rfl rfl ?_
        refine x_ic_ne (pc' := 37) rfl rfl (fun c34 => ?_) (fun c34 => ?_)
        · refine x_iload (pc' := 41) rfl rfl rfl ?_
          refine y_if_ne (pc' := 44) rfl rfl (by omega) (fun c41 => ?_) (fun c41 => ?_)
          · refine x_iload (pc' := 53) rfl rfl rfl ?_
            refine x_int (pc' := 54) (v := nI 1) rfl rfl rfl ?_
            refine y_ic_le (pc' := 57) rfl rfl (by omega) (by omega) (fun c54 => ?_) (fun c54 => ?_)
            · refine x_int (pc' := 67) (v := (-1)) rfl rfl rfl ?_
              refine x_iret rfl rfl ?_
              first
                | (simp (disch := first | assumption | omega) only [breaksQ, onN_1, onN_0, onP_1, onP_0, ↓reduceIte] at k1
                   rw [if_neg hns, hN] at k1
                   have e : breaksV (some z) h13w = nI (z.1 - 1) := if_pos c41
                   rw [e] at k1
                   exact k1 D1 o1)
                | (simp (disch := first | assumption | omega) only [breaksQ, onN_1, onN_0, onP_1, onP_0, ↓reduceIte] at k1
                   rw [if_neg hns, hN] at k1
                   have e : breaksV (some z) h13w = if 1 < z.1 then nI (z.2.1 1) else -1 := if_neg c41
                   rw [e, if_neg (by omega)] at k1
                   exact k1 D1 o1)
                | (simp (disch := first | assumption | omega) only [breaksQ, onN_1, onN_0, onP_1, onP_0, ↓reduceIte] at k1
                   rw [if_neg hns, hN] at k1
                   have e : breaksV (some z) h13w = if 1 < z.1 then nI (z.2.1 1) else -1 := if_neg c41
                   rw [e, if_pos (by omega)] at k1
                   rw [(hS.2.2 1 (by omega)).1]
                   exact k1 D1 o1)
            · refine x_aload (pc' := 58) rfl rfl rfl ?_
              refine x_getR (pc' := 61) rfl rfl rfl (by decide) rfl (by decide) rfl rfl ?_
              refine x_int (pc' := 62) (v := nI 1) rfl rfl rfl ?_
              refine x_iald (pc' := 63) rfl rfl (by decide) rfl (by decide) (show _ < 16 by omega) ?_
              refine x_goto rfl ?_
              refine x_iret rfl rfl ?_
              first
                | (simp (disch := first | assumption | omega) only [breaksQ, onN_1, onN_0, onP_1, onP_0, ↓reduceIte] at k1
                   rw [if_neg hns, hN] at k1
                   have e : breaksV (some z) h13w = nI (z.1 - 1) := if_pos c41
                   rw [e] at k1
                   exact k1 D1 o1)
                | (simp (disch := first | assumption | omega) only [breaksQ, onN_1, onN_0, onP_1, onP_0, ↓reduceIte] at k1
                   rw [if_neg hns, hN] at k1
                   have e : breaksV (some z) h13w = if 1 < z.1 then nI (z.2.1 1) else -1 := if_neg c41
                   rw [e, if_neg (by omega)] at k1
                   exact k1 D1 o1)
                | (simp (disch := first | assumption | omega) only [breaksQ, onN_1, onN_0, onP_1, onP_0, ↓reduceIte] at k1
                   rw [if_neg hns, hN] at k1
                   have e : breaksV (some z) h13w = if 1 < z.1 then nI (z.2.1 1) else -1 := if_neg c41
                   rw [e, if_pos (by omega)] at k1
                   rw [(hS.2.2 1 (by omega)).1]
                   exact k1 D1 o1)
          · refine x_iload (pc' := 46) rfl rfl rfl ?_
            refine x_int (pc' := 47) (v := nI 1) rfl rfl rfl ?_
            refine y_isub (pc' := 48) rfl rfl (by omega) ?_
            refine x_goto rfl ?_
            refine x_iret rfl rfl ?_
            first
              | (simp (disch := first | assumption | omega) only [breaksQ, onN_1, onN_0, onP_1, onP_0, ↓reduceIte] at k1
                 rw [if_neg hns, hN] at k1
                 have e : breaksV (some z) h13w = nI (z.1 - 1) := if_pos c41
                 rw [e] at k1
                 exact k1 D1 o1)
              | (simp (disch := first | assumption | omega) only [breaksQ, onN_1, onN_0, onP_1, onP_0, ↓reduceIte] at k1
                 rw [if_neg hns, hN] at k1
                 have e : breaksV (some z) h13w = if 1 < z.1 then nI (z.2.1 1) else -1 := if_neg c41
                 rw [e, if_neg (by omega)] at k1
                 exact k1 D1 o1)
              | (simp (disch := first | assumption | omega) only [breaksQ, onN_1, onN_0, onP_1, onP_0, ↓reduceIte] at k1
                 rw [if_neg hns, hN] at k1
                 have e : breaksV (some z) h13w = if 1 < z.1 then nI (z.2.1 1) else -1 := if_neg c41
                 rw [e, if_pos (by omega)] at k1
                 rw [(hS.2.2 1 (by omega)).1]
                 exact k1 D1 o1)
        · refine x_int (pc' := 39) (v := (-2)) rfl rfl rfl ?_
          refine x_iret rfl rfl ?_
          exact absurd c34 (nI_m2 (by omega))
    · have h13 := okN_inL (n := 1) (by decide) h13
      refine ⟨rfl, ?_⟩
      refine x_if_ne (pc' := 19) rfl rfl (fun c16 => absurd (by decide) c16) (fun _ => ?_)
      refine x_int (pc' := 21) (v := (-3)) rfl rfl rfl ?_
      refine x_iret rfl rfl ?_
      first
        | (rw [brk_0 hW hC] at k1
           exact k1 D OffM.rf)
        | (simp (disch := first | assumption | omega) only [breaksQ, onN_1, onN_0, onP_1, onP_0, ↓reduceIte] at k1
           exact k1 D OffM.rf)
  · refine ⟨rfl, ?_⟩
    refine x_if_eq (pc' := 9) rfl rfl (fun _ => ?_) (fun c6 => absurd (by decide) c6)
    refine x_int (pc' := 21) (v := (-3)) rfl rfl rfl ?_
    refine x_iret rfl rfl ?_
    first
      | (rw [brk_0 hW hC] at k1
         exact k1 D OffM.rf)
      | (simp (disch := first | assumption | omega) only [breaksQ, onN_1, onN_0, onP_1, onP_0, ↓reduceIte] at k1
         exact k1 D OffM.rf)
set_option maxRecDepth 20000 in
set_option maxHeartbeats 1000000 in
theorem w_X10_between {D : Nat → Nat → Int32} {L : Nat → Nat → Int64} {Q : bh_Q} {T : TW} (hW : WF T) (hR : Rn T (D 206)) {x y v : Int32} (k1 : ∀ D1, OffM D D1 → Q (some (.int (betweenQ T x y v))) (hp D1 L)) : bh_wc 8 m_X10_between [.ref 205, .int x, .int y, .int v] (hp D L) Q := by
  refine x_start (lv0 := [_, _, _, _, _]) (Nat.le_of_ble_eq_true rfl) rfl ?_
  have h12 := hW.nwl
  have h16 := hW.nsl
  have h4 := hW.nbl
  refine x_aload (pc' := 1) rfl rfl rfl ?_
  refine x_iload (pc' := 2) rfl rfl rfl ?_
  refine x_iload (pc' := 3) rfl rfl rfl ?_
  refine x_callV (pc' := 6) (d1 := 3) (Bs := [_, _]) rfl rfl rfl rfl rfl rfl rfl (Nat.le_of_ble_eq_true rfl) ⟨rfl, rfl⟩ (by decide) rfl (by decide) ?_
  refine w_X10_canBreak hW hR (fun w b hw hb e1 e2 hns => ?_) (fun hC => ?_)
  · subst e1; subst e2
    refine ⟨rfl, ?_⟩
    refine x_if_eq (pc' := 9) rfl rfl (fun c6 => absurd c6 (by decide)) (fun _ => ?_)
    refine x_iload (pc' := 10) rfl rfl rfl ?_
    refine x_if_ge (pc' := 13) rfl rfl (fun c10 => ?_) (fun c10 => ?_)
    · refine x_aload (pc' := 16) rfl rfl rfl ?_
      refine x_iload (pc' := 17) rfl rfl rfl ?_
      refine x_iload (pc' := 18) rfl rfl rfl ?_
      refine x_callV (pc' := 21) (d1 := 7) (Bs := [_, _]) rfl rfl rfl rfl rfl rfl rfl (Nat.le_of_ble_eq_true rfl) ⟨rfl, rfl⟩ (by decide) rfl (by decide) ?_
      refine w_X10_stretches hW hR hw hb (fun hN D1 o1 => ?_) (fun z D1 hN o1 hS => ?_)
      · refine ⟨rfl, ?_⟩
        refine x_istore (pc' := 23) (lv' := [_, _, _, _, _]) rfl rfl (by decide) rfl ?_
        refine x_iload (pc' := 24) rfl rfl rfl ?_
        refine x_iload (pc' := 26) rfl rfl rfl ?_
        refine x_ic_ge (pc' := 29) rfl rfl (fun c26 => ?_) (fun c26 => ?_)
        · refine x_int (pc' := 40) (v := (-2)) rfl rfl rfl ?_
          refine x_iret rfl rfl ?_
          simp (disch := first | assumption | omega) only [betweenQ, onN_1, onN_0, onP_1, onP_0, ↓reduceIte] at k1
          rw [if_neg (fun h => h.elim (Int32.not_lt.mpr c10) hns), hN] at k1
          exact k1 D1 o1
        · exact absurd (Int32.le_trans (by decide) c10) c26
      · have hz1 := hS.1
        have hz2 := hS.2.1 (by omega)
        refine ⟨rfl, ?_⟩
        refine x_istore (pc' := 23) (lv' := [_, _, _, _, _]) rfl rfl (by decide) rfl ?_
        refine x_iload (pc' := 24) rfl rfl rfl ?_
        refine x_iload (pc' := 26) rfl rfl rfl ?_
        refine x_ic_ge (pc' := 29) rfl rfl (fun c26 => ?_) (fun c26 => ?_)
        · refine x_int (pc' := 40) (v := (-2)) rfl rfl rfl ?_
          refine x_iret rfl rfl ?_
          simp (disch := first | assumption | omega) only [betweenQ, onN_1, onN_0, onP_1, onP_0, ↓reduceIte] at k1
          rw [if_neg (fun h => h.elim (Int32.not_lt.mpr c10) hns), hN] at k1
          dsimp only [betweenV] at k1
          first
            | (rw [onN_1 hj (by omega)] at k1
               rw [(hS.2.2 j hj).2.1]
               exact k1 D1 o1)
            | (rw [onN_0 (okN_ge (by omega) c26) (by omega)] at k1
               exact k1 D1 o1)
        · obtain ⟨j, hj, rfl⟩ := lt_of (n := z.1) (by omega) (Int32.not_lt.mpr c10) c26
          refine x_aload (pc' := 30) rfl rfl rfl ?_
          refine x_getR (pc' := 33) rfl rfl rfl (by decide) rfl (by decide) rfl rfl ?_
          refine x_iload (pc' := 34) rfl rfl rfl ?_
          refine x_iald (pc' := 35) rfl rfl (by decide) rfl (by decide) (show _ < 16 by omega) ?_
          refine x_goto rfl ?_
          refine x_iret rfl rfl ?_
          simp (disch := first | assumption | omega) only [betweenQ, onN_1, onN_0, onP_1, onP_0, ↓reduceIte] at k1
          rw [if_neg (fun h => h.elim (Int32.not_lt.mpr c10) hns), hN] at k1
          dsimp only [betweenV] at k1
          first
            | (rw [onN_1 hj (by omega)] at k1
               rw [(hS.2.2 j hj).2.1]
               exact k1 D1 o1)
            | (rw [onN_0 (okN_ge (by omega) c26) (by omega)] at k1
               exact k1 D1 o1)
    · refine x_int (pc' := 14) (v := (-1)) rfl rfl rfl ?_
      refine x_iret rfl rfl ?_
      first
        | (rw [btw_0 hW hC] at k1
           exact k1 D OffM.rf)
        | (simp (disch := first | assumption | omega) only [betweenQ, onN_1, onN_0, onP_1, onP_0, ↓reduceIte] at k1
           rw [if_pos (Or.inl (Int32.not_le.mp c10))] at k1
           exact k1 D OffM.rf)
  · refine ⟨rfl, ?_⟩
    refine x_if_eq (pc' := 9) rfl rfl (fun _ => ?_) (fun c6 => absurd (by decide) c6)
    refine x_int (pc' := 14) (v := (-1)) rfl rfl rfl ?_
    refine x_iret rfl rfl ?_
    first
      | (rw [btw_0 hW hC] at k1
         exact k1 D OffM.rf)
      | (simp (disch := first | assumption | omega) only [betweenQ, onN_1, onN_0, onP_1, onP_0, ↓reduceIte] at k1
         rw [if_pos (Or.inl (Int32.not_le.mp c10))] at k1
         exact k1 D OffM.rf)
