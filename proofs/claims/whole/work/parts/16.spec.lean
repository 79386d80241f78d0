/-! ===== what a town is, in numbers =====
A town is T : its rows. T 0: writers, books, seen, days, moods, dead; T 1 purse, 2 kind, 3 first, 4 second, 5 under, 6 fame, 7 coins, 8 stocked, 9 lengths, 10 pages, 11 stock, 12 seen. -/
abbrev TW : Type := Nat → Nat → Int32
def nw (T : TW) : Nat := (T 0 0).toNatClampNeg
def nb (T : TW) : Nat := (T 0 1).toNatClampNeg
def ns (T : TW) : Nat := (T 0 2).toNatClampNeg
def mo (T : TW) : Nat := (T 0 4).toNatClampNeg
def de (T : TW) : Nat := (T 0 5).toNatClampNeg
def pu (T : TW) (w : Nat) : Nat := (T 1 w).toNatClampNeg
def kd (T : TW) (w : Nat) : Nat := (T 2 w).toNatClampNeg
def fa (T : TW) (w : Nat) : Nat := (T 3 w).toNatClampNeg
def fb (T : TW) (w : Nat) : Nat := (T 4 w).toNatClampNeg
def un (T : TW) (w : Nat) : Nat := (T 5 w).toNatClampNeg
def sk (T : TW) (w : Nat) : Nat := (T 8 w).toNatClampNeg
def lng (T : TW) (b : Nat) : Nat := (T 9 b).toNatClampNeg
def pg (T : TW) (b p : Nat) : Nat := (T 10 (b * 8 + p)).toNatClampNeg
def stk (T : TW) (w b p : Nat) : Nat := (T 11 ((w * 4 + b) * 8 + p)).toNatClampNeg
def sn (T : TW) (i : Nat) : Nat := (T 12 i).toNatClampNeg
/-- a number that stands for itself -/
def is (x : Int32) (n : Nat) : Prop := x = nI x.toNatClampNeg ∧ x.toNatClampNeg < n
theorem is.eq {x : Int32} {n : Nat} (h : is x n) : x = nI x.toNatClampNeg := h.1
theorem is_nI {a n : Nat} (h : a < n) (hn : n < 2 ^ 31) : is (nI a) n := by
  unfold is
  rw [nI_clamp (by omega)]
  exact ⟨rfl, h⟩
/-- a habit that can be; numbers that it does not need are 0 -/
def hok (k a b : Nat) : Prop := k < 7 ∧ a < 16 ∧ b < 16 ∧ (k = 0 → a = 0) ∧ (k < 5 → b = 0) ∧ (k = 4 → a ≠ 0) ∧ (5 ≤ k → a ≠ b)
def wfN (T : TW) : Prop := is (T 0 0) 13 ∧ is (T 0 1) 5 ∧ is (T 0 2) 17 ∧ is (T 0 4) (2 ^ nw T) ∧ is (T 0 5) (2 ^ nw T)
def wfW (T : TW) : Prop := ∀ w, w < nw T → is (T 1 w) 100 ∧ is (T 2 w) 7 ∧ is (T 3 w) 16 ∧ is (T 4 w) 16 ∧ hok (kd T w) (fa T w) (fb T w) ∧ is (T 8 w) (2 ^ nb T) ∧ (T 5 w = -1 ∨ (is (T 5 w) (nw T) ∧ pu T (un T w) < pu T w))
def wfB (T : TW) : Prop := ∀ b, b < nb T → is (T 9 b) 9 ∧ 0 < lng T b ∧ ∀ p, p < lng T b → is (T 10 (b * 8 + p)) 65536
def wfS (T : TW) : Prop := ∀ i, i < 384 → is (T 11 i) 65536
def wfV (T : TW) : Prop := ∀ i, i < ns T → is (T 12 i) 65536
def WF (T : TW) : Prop := wfN T ∧ wfW T ∧ wfB T ∧ wfS T ∧ wfV T
section bh_wfs
variable {T : TW} {w b p i : Nat}
theorem WF.enw (h : WF T) : T 0 0 = nI (nw T) := h.1.1.1
theorem WF.nwl (h : WF T) : nw T ≤ 12 := Nat.le_of_lt_succ h.1.1.2
theorem WF.enb (h : WF T) : T 0 1 = nI (nb T) := h.1.2.1.1
theorem WF.nbl (h : WF T) : nb T ≤ 4 := Nat.le_of_lt_succ h.1.2.1.2
theorem WF.ens (h : WF T) : T 0 2 = nI (ns T) := h.1.2.2.1.1
theorem WF.nsl (h : WF T) : ns T ≤ 16 := Nat.le_of_lt_succ h.1.2.2.1.2
theorem WF.emo (h : WF T) : T 0 4 = nI (mo T) := h.1.2.2.2.1.1
theorem WF.mol (h : WF T) : mo T < 2 ^ nw T := h.1.2.2.2.1.2
theorem WF.ede (h : WF T) : T 0 5 = nI (de T) := h.1.2.2.2.2.1
theorem WF.del (h : WF T) : de T < 2 ^ nw T := h.1.2.2.2.2.2
theorem WF.epu (h : WF T) (hw : w < nw T) : T 1 w = nI (pu T w) := (h.2.1 w hw).1.1
theorem WF.pul (h : WF T) (hw : w < nw T) : pu T w < 100 := (h.2.1 w hw).1.2
theorem WF.ekd (h : WF T) (hw : w < nw T) : T 2 w = nI (kd T w) := (h.2.1 w hw).2.1.1
theorem WF.kdl (h : WF T) (hw : w < nw T) : kd T w < 7 := (h.2.1 w hw).2.1.2
theorem WF.efa (h : WF T) (hw : w < nw T) : T 3 w = nI (fa T w) := (h.2.1 w hw).2.2.1.1
theorem WF.fal (h : WF T) (hw : w < nw T) : fa T w < 16 := (h.2.1 w hw).2.2.1.2
theorem WF.efb (h : WF T) (hw : w < nw T) : T 4 w = nI (fb T w) := (h.2.1 w hw).2.2.2.1.1
theorem WF.fbl (h : WF T) (hw : w < nw T) : fb T w < 16 := (h.2.1 w hw).2.2.2.1.2
theorem WF.ehok (h : WF T) (hw : w < nw T) : hok (kd T w) (fa T w) (fb T w) := (h.2.1 w hw).2.2.2.2.1
theorem WF.esk (h : WF T) (hw : w < nw T) : T 8 w = nI (sk T w) := (h.2.1 w hw).2.2.2.2.2.1.1
theorem WF.skl (h : WF T) (hw : w < nw T) : sk T w < 2 ^ nb T := (h.2.1 w hw).2.2.2.2.2.1.2
theorem WF.eun (h : WF T) (hw : w < nw T) : T 5 w = -1 ∨ (T 5 w = nI (un T w) ∧ un T w < nw T ∧ pu T (un T w) < pu T w) := by
  rcases (h.2.1 w hw).2.2.2.2.2.2 with e | ⟨e, e2⟩
  · exact Or.inl e
  · exact Or.inr ⟨e.1, e.2, e2⟩
theorem WF.elng (h : WF T) (hb : b < nb T) : T 9 b = nI (lng T b) := (h.2.2.1 b hb).1.1
theorem WF.lngl (h : WF T) (hb : b < nb T) : lng T b ≤ 8 := Nat.le_of_lt_succ (h.2.2.1 b hb).1.2
theorem WF.lng0 (h : WF T) (hb : b < nb T) : 0 < lng T b := (h.2.2.1 b hb).2.1
theorem WF.epg (h : WF T) (hb : b < nb T) (hp : p < lng T b) : T 10 (b * 8 + p) = nI (pg T b p) := ((h.2.2.1 b hb).2.2 p hp).1
theorem WF.pgl (h : WF T) (hb : b < nb T) (hp : p < lng T b) : pg T b p < 65536 := ((h.2.2.1 b hb).2.2 p hp).2
theorem WF.estk (h : WF T) (hw : w < nw T) (hb : b < nb T) (hp : p < lng T b) (hs : (sk T w).testBit b = true) : T 11 ((w * 4 + b) * 8 + p) = nI (stk T w b p) := (h.2.2.2.1 _ (by have := h.nwl; have := h.nbl; have := h.lngl hb; omega)).1
theorem WF.stkl (h : WF T) (hw : w < nw T) (hb : b < nb T) (hp : p < lng T b) (hs : (sk T w).testBit b = true) : stk T w b p < 65536 := (h.2.2.2.1 _ (by have := h.nwl; have := h.nbl; have := h.lngl hb; omega)).2
theorem WF.esn (h : WF T) (hi : i < ns T) : T 12 i = nI (sn T i) := (h.2.2.2.2 i hi).1
theorem WF.snl (h : WF T) (hi : i < ns T) : sn T i < 65536 := (h.2.2.2.2 i hi).2
theorem WF.mo12 (h : WF T) : mo T < 4096 := Nat.lt_of_lt_of_le h.mol (Nat.pow_le_pow_right (by decide) h.nwl)
theorem WF.de12 (h : WF T) : de T < 4096 := Nat.lt_of_lt_of_le h.del (Nat.pow_le_pow_right (by decide) h.nwl)
theorem WF.sk4 (h : WF T) (hw : w < nw T) : sk T w < 16 := Nat.lt_of_lt_of_le (h.skl hw) (Nat.pow_le_pow_right (by decide) h.nbl)
end bh_wfs
/-- the class's town, and the one that it is told -/
abbrev tv (D : Nat → Nat → Int32) : TW := fun j i => if j < 13 then D (1 + j) i else 0
abbrev tv2 (D : Nat → Nat → Int32) : TW := fun j i => if j < 13 then D (14 + j) i else 0
def isM (T : TW) (w : Nat) : Bool := (mo T).testBit w
def isD (T : TW) (w : Nat) : Bool := (de T).testBit w
/-- what a habit does to a row -/
def hab (k a b row : Nat) : Nat := match k with
  | 1 => row ^^^ (1 <<< a)
  | 2 => row ||| (1 <<< a)
  | 3 => row &&& (65535 ^^^ (1 <<< a))
  | 4 => ((row <<< a) ||| (row >>> (16 - a))) &&& 65535
  | 5 => if row.testBit a = row.testBit b then row else row ^^^ ((1 <<< a) ||| (1 <<< b))
  | 6 => (row &&& (65535 ^^^ (1 <<< b))) ||| (if row.testBit a then 1 <<< b else 0)
  | _ => row
/-- the hands of a writer: at most f of them -/
def chF (T : TW) : Nat → Nat → List Nat
  | 0, _ => []
  | f + 1, w => w :: (if T 5 w = -1 then [] else chF T f (un T w))
def ch (T : TW) (w : Nat) : List Nat := chF T 12 w
/-- the line that comes up through these hands -/
def lnC (T : TW) (b p : Nat) : List Nat → Option Nat
  | [] => some (pg T b p)
  | w :: r => if isD T w then (if (sk T w).testBit b then some (stk T w b p) else none) else (lnC T b p r).map (fun x => if isM T w then x else hab (kd T w) (fa T w) (fb T w) x)
def lnO (T : TW) (w b p : Nat) : Option Nat := lnC T b p (ch T w)
def toI (o : Option Nat) : Int32 := match o with
  | some r => nI r
  | none => -2
