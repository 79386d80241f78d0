def bh_up2 {α : Type} (f : Nat → Nat → α) (k j : Nat) (x : α) : Nat → Nat → α := fun a => if a = k then (fun b => if b = j then x else f k b) else f a
def bh_upr {α : Type} (f : Nat → Nat → α) (k : Nat) (g : Nat → α) : Nat → Nat → α := fun a => if a = k then g else f a
def bh_cut (lv : List Value) (i : Nat) : List Value := match i with
  | 0 => lv
  | k + 1 => match lv[k]? with
    | some v => if v.category = 2 then lv.set k .null else lv
    | none => lv
def bh_sto (lv : List Value) (i : Nat) (v : Value) : List Value := (bh_cut lv i).set i v
def bh_stoL (lv : List Value) (i : Nat) (v : Value) : List Value := ((bh_cut lv i).set (i + 1) .null).set i v
def bh_ib (a : Nat) (x y : Int32) : Int32 := match a with
  | 0 => x + y
  | 1 => x - y
  | 2 => x * y
  | 3 => x &&& y
  | 4 => x ||| y
  | 5 => x ^^^ y
  | 6 => x <<< (y &&& 31)
  | 7 => x >>> (y &&& 31)
  | _ => (x.toUInt32 >>> (y.toUInt32 &&& Int32.toUInt32 31)).toInt32
def bh_lb (a : Nat) (x y : Int64) : Int64 := match a with
  | 0 => x + y
  | 1 => x * y
  | _ => x ||| y
def bh_cmp (c : Int) (x y : Int32) : Prop := match c with
  | 0 => x = y
  | 1 => ¬ x = y
  | 2 => x < y
  | 3 => y ≤ x
  | 4 => y < x
  | _ => x ≤ y
/-- next; returned; called -/
abbrev bh_N : Type := Nat × List Value × List Value × (Nat × Nat) × bh_H
abbrev bh_C : Type := Nat × List Value × Nat × List Value × List Value × (Nat × Nat)
abbrev bh_P : Type := Nat → List Value → List Value → Nat × Nat → bh_H → Prop
abbrev bh_Q : Type := Option Value → bh_H → Prop
def bh_in (i : Int32) (n : Nat) : Prop := vp_in i n
def bh_sl (j : Nat) : Nat := ((bh_ST.getD j ("", 0, "")).2.2).length
def bh_sc (j i : Nat) : Int32 := nI ((((bh_ST.getD j ("", 0, "")).2.2).toList.getD i 'a').toNat)
def bh_catsum (l : List Value) : Nat := (l.map fun v => v.category).sum
/-- one step, to one of three ends -/
def bh_st (m : Nat) (call : Nat → List Value → bh_H → bh_Q → Prop) (P : bh_P) (Q : bh_Q) (pc : Nat) (lv st : List Value) (u : Nat × Nat) (h : bh_H) : Prop :=
  match bh_cod m pc with
  | (op, len, a, c, l) =>
    match op with
    | 1 => P (pc + len) lv (.int (Int32.ofInt c) :: st) u h
    | 2 => P (pc + len) lv (.long (Int64.ofInt c) :: st) u h
    | 3 => ∃ x, lv[a]? = some (.int x) ∧ P (pc + len) lv (.int x :: st) u h
    | 4 => ∃ x, lv[a]? = some (.long x) ∧ P (pc + len) lv (.long x :: st) u h
    | 5 => ∃ x, lv[a]? = some (.ref x) ∧ P (pc + len) lv (.ref x :: st) u h
    | 6 => ∃ x s, st = .int x :: s ∧ a < bh_mL m ∧ P (pc + len) (bh_sto lv a (.int x)) s u h
    | 7 => ∃ x s, st = .long x :: s ∧ a + 1 < bh_mL m ∧ P (pc + len) (bh_stoL lv a (.long x)) s u h
    | 8 => ∃ x s, st = .ref x :: s ∧ a < bh_mL m ∧ P (pc + len) (bh_sto lv a (.ref x)) s u h
    | 9 => ∃ x, lv[a]? = some (.int x) ∧ a < bh_mL m ∧ P (pc + len) (bh_sto lv a (.int (x + Int32.ofInt c))) st u h
    | 10 => ∃ x y s, st = .int y :: .int x :: s ∧ P (pc + len) lv (.int (bh_ib a x y) :: s) u h
    | 11 => ∃ x y s, st = .int y :: .int x :: s ∧ ¬ y = 0 ∧ P (pc + len) lv (.int (x / y) :: s) u h
    | 12 => ∃ x y s, st = .int y :: .int x :: s ∧ ¬ y = 0 ∧ P (pc + len) lv (.int (x - x / y * y) :: s) u h
    | 13 => ∃ x y s, st = .long y :: .long x :: s ∧ P (pc + len) lv (.long (bh_lb a x y) :: s) u h
    | 14 => ∃ (x : Int64) (y : Int32) (s : List Value), st = .int y :: .long x :: s ∧ P (pc + len) lv (.long (x <<< (y.toInt64 &&& 63)) :: s) u h
    | 15 => ∃ (x : Int32) (s : List Value), st = .int x :: s ∧ P (pc + len) lv (.long x.toInt64 :: s) u h
    | 16 => ∃ (x : Int32) (s : List Value), st = .int x :: s ∧ P (pc + len) lv (.int x.toInt8.toInt32 :: s) u h
    | 17 => ∃ x y s, st = .long y :: .long x :: s ∧ P (pc + len) lv (.int (lg_cmp x y) :: s) u h
    | 18 => ∃ v s, st = v :: s ∧ v.category = 1 ∧ P (pc + len) lv (v :: v :: s) u h
    | 19 => ∃ v s, st = v :: s ∧ v.category = 1 ∧ P (pc + len) lv s u h
    | 20 => ∃ v w s, st = v :: w :: s ∧ v.category = 1 ∧ w.category = 1 ∧ P (pc + len) lv (v :: w :: v :: w :: s) u h
    | 21 => ∃ x s, st = .int x :: s ∧ (bh_cmp c x 0 → P a lv s u h) ∧ (¬ bh_cmp c x 0 → P (pc + len) lv s u h)
    | 22 => ∃ x y s, st = .int y :: .int x :: s ∧ (bh_cmp c x y → P a lv s u h) ∧ (¬ bh_cmp c x y → P (pc + len) lv s u h)
    | 23 => P a lv st u h
    | 24 => ∃ x s, st = .int x :: s ∧ ((¬ x.toInt < c ∧ ¬ c + l.length - 1 < x.toInt) → ∃ t, l[(x.toInt - c).toNat]? = some t ∧ P t lv s u h) ∧ ((x.toInt < c ∨ c + l.length - 1 < x.toInt) → P a lv s u h)
    | 25 => ∃ k s, st = .ref k :: s ∧ k < h.1 ∧ ∃ q, bh_FL[a]? = some q ∧ bh_tg k = q.2.2.1 ∧ q.2.2.2 < bh_ln k ∧
        ((bh_fr q.2.2.1 q.2.2.2 = true ∧ ∃ r, h.2.1 k q.2.2.2 = some r ∧ P (pc + len) lv (.ref r :: s) u h) ∨ (bh_fr q.2.2.1 q.2.2.2 = false ∧ P (pc + len) lv (.int (h.2.2.1 k q.2.2.2) :: s) u h))
    | 26 => ∃ q, bh_FL[a]? = some q ∧
        ((bh_fr q.2.2.1 q.2.2.2 = true ∧ ∃ r k s, st = .ref r :: .ref k :: s ∧ k < h.1 ∧ r < h.1 ∧ bh_tg k = q.2.2.1 ∧ q.2.2.2 < bh_ln k ∧ P (pc + len) lv s u (h.1, bh_up2 h.2.1 k q.2.2.2 (some r), h.2.2.1, h.2.2.2)) ∨
         (bh_fr q.2.2.1 q.2.2.2 = false ∧ ∃ x k s, st = .int x :: .ref k :: s ∧ k < h.1 ∧ bh_tg k = q.2.2.1 ∧ q.2.2.2 < bh_ln k ∧ P (pc + len) lv s u (h.1, h.2.1, bh_up2 h.2.2.1 k q.2.2.2 x, h.2.2.2)))
    | 27 => ∃ i k s, st = .int i :: .ref k :: s ∧
        ((k < h.1 ∧ bh_tg k = 20 ∧ vp_in i (bh_ln k) ∧ P (pc + len) lv (.int (h.2.2.1 k i.toNatClampNeg) :: s) u h) ∨ (k = 1000 ∧ vp_in i (h.2.2.1 1001 0).toNatClampNeg ∧ P (pc + len) lv (.int (h.2.2.1 1000 i.toNatClampNeg) :: s) u h))
    | 28 => ∃ x i k s, st = .int x :: .int i :: .ref k :: s ∧ k < h.1 ∧ bh_tg k = 20 ∧ vp_in i (bh_ln k) ∧ P (pc + len) lv s u (h.1, h.2.1, bh_up2 h.2.2.1 k i.toNatClampNeg x, h.2.2.2)
    | 29 => ∃ i k s, st = .int i :: .ref k :: s ∧ k < h.1 ∧ (bh_tg k = 22 ∨ bh_tg k = 23) ∧ vp_in i (bh_ln k) ∧ P (pc + len) lv (.int (h.2.2.1 k i.toNatClampNeg) :: s) u h
    | 30 => ∃ x i k s, st = .int x :: .int i :: .ref k :: s ∧ k < h.1 ∧ vp_in i (bh_ln k) ∧
        ((bh_tg k = 22 ∧ P (pc + len) lv s u (h.1, h.2.1, bh_up2 h.2.2.1 k i.toNatClampNeg (vp_nar .byte x), h.2.2.2)) ∨ (bh_tg k = 23 ∧ P (pc + len) lv s u (h.1, h.2.1, bh_up2 h.2.2.1 k i.toNatClampNeg (vp_nar .boolean x), h.2.2.2)))
    | 31 => ∃ i k s, st = .int i :: .ref k :: s ∧ k < h.1 ∧ bh_tg k = 21 ∧ vp_in i (bh_ln k) ∧ P (pc + len) lv (.long (h.2.2.2 k i.toNatClampNeg) :: s) u h
    | 32 => ∃ x i k s, st = .long x :: .int i :: .ref k :: s ∧ k < h.1 ∧ bh_tg k = 21 ∧ vp_in i (bh_ln k) ∧ P (pc + len) lv s u (h.1, h.2.1, h.2.2.1, bh_up2 h.2.2.2 k i.toNatClampNeg x)
    | 33 => ∃ i k s r, st = .int i :: .ref k :: s ∧ k < h.1 ∧ bh_tg k = 24 ∧ vp_in i (bh_ln k) ∧ h.2.1 k i.toNatClampNeg = some r ∧ P (pc + len) lv (.ref r :: s) u h
    | 34 => ∃ r i k s, st = .ref r :: .int i :: .ref k :: s ∧ k < h.1 ∧ r < h.1 ∧ bh_tg k = 24 ∧ bh_tg r = 7 ∧ vp_in i (bh_ln k) ∧ P (pc + len) lv s u (h.1, bh_up2 h.2.1 k i.toNatClampNeg (some r), h.2.2.1, h.2.2.2)
    | 35 => ∃ k s, st = .ref k :: s ∧ ((k < h.1 ∧ 20 ≤ bh_tg k ∧ bh_tg k ≤ 24 ∧ P (pc + len) lv (.int (nI (bh_ln k)) :: s) u h) ∨ (k = 1000 ∧ P (pc + len) lv (.int (h.2.2.1 1001 0) :: s) u h))
    | 36 => h.1 < 1000 ∧ bh_tg h.1 = a ∧ a < 20 ∧ u.1 + 1 ≤ bh_mc m ∧ u.2 + bh_ln h.1 ≤ bh_ms m ∧
        P (pc + len) lv (.ref h.1 :: st) (u.1 + 1, u.2 + bh_ln h.1) (h.1 + 1, bh_upr h.2.1 h.1 (fun _ => none), bh_upr h.2.2.1 h.1 (fun _ => 0), h.2.2.2)
    | 37 => ∃ n s, st = .int n :: s ∧ h.1 < 1000 ∧ bh_tg h.1 = a ∧ ¬ n < 0 ∧ n.toNatClampNeg = bh_ln h.1 ∧ bh_ln h.1 < 10000 ∧ u.1 + 1 ≤ bh_mc m ∧ u.2 + bh_ln h.1 ≤ bh_ms m ∧
        P (pc + len) lv (.ref h.1 :: s) (u.1 + 1, u.2 + bh_ln h.1) (h.1 + 1, h.2.1, bh_upr h.2.2.1 h.1 (fun _ => 0), bh_upr h.2.2.2 h.1 (fun _ => 0))
    | 38 => ∃ n s, st = .int n :: s ∧ h.1 < 1000 ∧ bh_tg h.1 = 24 ∧ ¬ n < 0 ∧ n.toNatClampNeg = bh_ln h.1 ∧ bh_ln h.1 < 10000 ∧ u.1 + 1 ≤ bh_mc m ∧ u.2 + bh_ln h.1 ≤ bh_ms m ∧
        P (pc + len) lv (.ref h.1 :: s) (u.1 + 1, u.2 + bh_ln h.1) (h.1 + 1, bh_upr h.2.1 h.1 (fun _ => none), h.2.2.1, h.2.2.2)
    | 39 => ∃ k s, st = .ref k :: s ∧ bh_catsum s ≤ 8 ∧ P (pc + len) lv s u h
    | 40 => ∃ q As s, bh_ML[a]? = some q ∧ st = As.reverse ++ s ∧ As.length = bh_na q.2.2.1 ∧ bh_catsum s ≤ 8 ∧ u.1 + bh_mc q.2.2.1 ≤ bh_mc m ∧ u.2 + bh_ms q.2.2.1 ≤ bh_ms m ∧
        (q.2.2.2 = 0 → ∃ k Bs, As = .ref k :: Bs ∧ k < h.1 ∧ bh_tg k = bh_ci q.2.2.1) ∧ (q.2.2.2 = 2 ∨ q.2.2.2 = 4 → ∃ k Bs, As = .ref k :: Bs) ∧
        call q.2.2.1 As h (fun r h' => h'.1 = h.1 + bh_mc q.2.2.1 ∧ P (pc + len) lv (r.toList ++ s) (u.1 + bh_mc q.2.2.1, u.2 + bh_ms q.2.2.1) h')
    | 41 => ∃ x, st = [.int x] ∧ (u.1 ≤ bh_mc m ∧ u.2 ≤ bh_ms m) ∧ (bh_rt m = some .int ∨ (bh_rt m = some .boolean ∧ (x = 0 ∨ x = 1))) ∧ Q (some (.int x)) h
    | 42 => ∃ x, st = [.long x] ∧ (u.1 ≤ bh_mc m ∧ u.2 ≤ bh_ms m) ∧ bh_rt m = some .long ∧ Q (some (.long x)) h
    | 43 => ∃ x, st = [.ref x] ∧ (u.1 ≤ bh_mc m ∧ u.2 ≤ bh_ms m) ∧ bh_rt m = some (.object "java/lang/String") ∧ Q (some (.ref x)) h
    | 44 => st = [] ∧ (u.1 ≤ bh_mc m ∧ u.2 ≤ bh_ms m) ∧ bh_rt m = none ∧ Q none h
    | 45 => P (pc + len) lv (.ref (1100 + a) :: st) u h
    | 46 => ∃ j s, st = .ref (1100 + j) :: s ∧ j < bh_ST.length ∧ bh_catsum s ≤ 8 ∧ (u.1 ≤ bh_mc m ∧ u.2 ≤ bh_ms m) ∧ P (pc + len) lv (.int (nI (bh_sl j)) :: s) u h
    | 47 => ∃ i j s, st = .int i :: .ref (1100 + j) :: s ∧ j < bh_ST.length ∧ bh_catsum s ≤ 8 ∧ (u.1 ≤ bh_mc m ∧ u.2 ≤ bh_ms m) ∧ vp_in i (bh_sl j) ∧ P (pc + len) lv (.int (bh_sc j i.toNatClampNeg) :: s) u h
    | 48 => ∃ n k s, st = .int n :: .int 0 :: .ref k :: .int 0 :: s ∧ ∃ k0 s0, s = .ref k0 :: s0 ∧ bh_catsum s0 ≤ 8 ∧ k < h.1 ∧ k0 < h.1 ∧ bh_tg k = 20 ∧ bh_tg k0 = 20 ∧ ¬ n < 0 ∧ n.toNatClampNeg ≤ bh_ln k ∧ n.toNatClampNeg ≤ bh_ln k0 ∧ k ≠ k0 ∧
        P (pc + len) lv s0 u (h.1, h.2.1, bh_upr h.2.2.1 k (va_cpy (h.2.2.1 k0) (h.2.2.1 k) 0 0 n.toNatClampNeg), h.2.2.2)
    | 49 => ∃ x y s, st = .int y :: .int x :: s ∧ bh_catsum s ≤ 8 ∧ (u.1 ≤ bh_mc m ∧ u.2 ≤ bh_ms m) ∧ P (pc + len) lv (.int (if x < y then y else x) :: s) u h
    | 50 => ∃ x y s, st = .int y :: .int x :: s ∧ bh_catsum s ≤ 8 ∧ (u.1 ≤ bh_mc m ∧ u.2 ≤ bh_ms m) ∧ P (pc + len) lv (.int (if y < x then y else x) :: s) u h
    | _ => False
/-- the least one that is closed under a step -/
def bh_wf (m : Nat) (call : Nat → List Value → bh_H → bh_Q → Prop) (Q : bh_Q) (pc : Nat) (lv st : List Value) (u : Nat × Nat) (h : bh_H) : Prop :=
  ∀ P : bh_P, (∀ pc lv st u h, bh_st m call P Q pc lv st u h → P pc lv st u h) → P pc lv st u h
def bh_lay : List Value → List Value
  | [] => []
  | .long x :: l => .long x :: .null :: bh_lay l
  | .double x :: l => .double x :: .null :: bh_lay l
  | v :: l => v :: bh_lay l
def bh_ent (m : Nat) (As : List Value) : List Value := bh_lay As ++ List.replicate (bh_mL m - (bh_lay As).length) .null
/-- a method called with these values on this heap comes to an end with Q, at most so many calls deep -/
def bh_wc : Nat → Nat → List Value → bh_H → bh_Q → Prop
  | 0, _, _, _, _ => False
  | d + 1, m, As, h, Q => (bh_lay As).length ≤ bh_mL m ∧ bh_wf m (bh_wc d) Q 0 (bh_ent m As) [] (0, 0) h
/-! ===== it grows with what it must come to ===== -/
theorem bh_st_mono {m : Nat} {c1 c2 : Nat → List Value → bh_H → bh_Q → Prop} {P1 P2 : bh_P} {Q1 Q2 : bh_Q} (hc : ∀ m As h q1 q2, (∀ r t, q1 r t → q2 r t) → c1 m As h q1 → c2 m As h q2) (hP : ∀ pc lv st u h, P1 pc lv st u h → P2 pc lv st u h) (hQ : ∀ r h, Q1 r h → Q2 r h)
    {pc : Nat} {lv st : List Value} {u : Nat × Nat} {h : bh_H} (H : bh_st m c1 P1 Q1 pc lv st u h) : bh_st m c2 P2 Q2 pc lv st u h := by
  unfold bh_st at H ⊢
  generalize bh_cod m pc = q at H ⊢
  obtain ⟨op, len, a, c, l⟩ := q
  dsimp only at H ⊢
  split at H
  case h_24 => obtain ⟨x, s, h1, h2, h3⟩ := H; exact ⟨x, s, h1, fun z => by obtain ⟨t, h4, h5⟩ := h2 z; exact ⟨t, h4, hP _ _ _ _ _ h5⟩, fun z => hP _ _ _ _ _ (h3 z)⟩
  case h_25 =>
    obtain ⟨k, s, h1, h2, q, h3, h4, h5, h6⟩ := H
    refine ⟨k, s, h1, h2, q, h3, h4, h5, ?_⟩
    rcases h6 with ⟨h7, r, h8, h9⟩ | ⟨h7, h8⟩
    · exact Or.inl ⟨h7, r, h8, hP _ _ _ _ _ h9⟩
    · exact Or.inr ⟨h7, hP _ _ _ _ _ h8⟩
  case h_26 =>
    obtain ⟨q, h1, h2⟩ := H
    refine ⟨q, h1, ?_⟩
    rcases h2 with ⟨h3, r, k, s, h4, h5, h6, h7, h8, h9⟩ | ⟨h3, x, k, s, h4, h5, h6, h7, h8⟩
    · exact Or.inl ⟨h3, r, k, s, h4, h5, h6, h7, h8, hP _ _ _ _ _ h9⟩
    · exact Or.inr ⟨h3, x, k, s, h4, h5, h6, h7, hP _ _ _ _ _ h8⟩
  case h_27 =>
    obtain ⟨i, k, s, h1, h2⟩ := H
    refine ⟨i, k, s, h1, ?_⟩
    rcases h2 with ⟨h3, h4, h5, h6⟩ | ⟨h3, h4, h5⟩
    · exact Or.inl ⟨h3, h4, h5, hP _ _ _ _ _ h6⟩
    · exact Or.inr ⟨h3, h4, hP _ _ _ _ _ h5⟩
  case h_30 =>
    obtain ⟨x, i, k, s, h1, h2, h3, h4⟩ := H
    refine ⟨x, i, k, s, h1, h2, h3, ?_⟩
    rcases h4 with ⟨h5, h6⟩ | ⟨h5, h6⟩
    · exact Or.inl ⟨h5, hP _ _ _ _ _ h6⟩
    · exact Or.inr ⟨h5, hP _ _ _ _ _ h6⟩
  case h_35 =>
    obtain ⟨k, s, h1, h2⟩ := H
    refine ⟨k, s, h1, ?_⟩
    rcases h2 with ⟨h3, h4, h5, h6⟩ | ⟨h3, h4⟩
    · exact Or.inl ⟨h3, h4, h5, hP _ _ _ _ _ h6⟩
    · exact Or.inr ⟨h3, hP _ _ _ _ _ h4⟩
  case h_40 =>
    obtain ⟨q, As, s, h1, h2, h3, h4, h5, h6, h7, h8, h9⟩ := H
    exact ⟨q, As, s, h1, h2, h3, h4, h5, h6, h7, h8, hc _ _ _ _ _ (fun r t z => ⟨z.1, hP _ _ _ _ _ z.2⟩) h9⟩
  case h_41 => obtain ⟨x, h1, h0, h2, h3⟩ := H; exact ⟨x, h1, h0, h2, hQ _ _ h3⟩
  case h_42 => obtain ⟨x, h1, h0, h2, h3⟩ := H; exact ⟨x, h1, h0, h2, hQ _ _ h3⟩
  case h_43 => obtain ⟨x, h1, h0, h2, h3⟩ := H; exact ⟨x, h1, h0, h2, hQ _ _ h3⟩
  case h_44 => obtain ⟨h1, h0, h2, h3⟩ := H; exact ⟨h1, h0, h2, hQ _ _ h3⟩
  case h_46 => obtain ⟨x, s, h1, h2, h3, h4, h5⟩ := H; exact ⟨x, s, h1, h2, h3, h4, hP _ _ _ _ _ h5⟩
  case h_47 => obtain ⟨x, y, s, h1, h2, h3, h4, h5, h6⟩ := H; exact ⟨x, y, s, h1, h2, h3, h4, h5, hP _ _ _ _ _ h6⟩
  case h_48 =>
    obtain ⟨n, k, s, h1, k0, s0, h2, h3, h4, h5, h6, h7, h8, h9, h10, h11, h12⟩ := H
    exact ⟨n, k, s, h1, k0, s0, h2, h3, h4, h5, h6, h7, h8, h9, h10, h11, hP _ _ _ _ _ h12⟩
  all_goals first
    | exact hP _ _ _ _ _ H
    | (obtain ⟨x, h1, h2⟩ := H; exact ⟨x, h1, hP _ _ _ _ _ h2⟩)
    | (obtain ⟨x, h1, h2, h3⟩ := H; exact ⟨x, h1, h2, hP _ _ _ _ _ h3⟩)
    | (obtain ⟨x, s, h1, h2⟩ := H; exact ⟨x, s, h1, hP _ _ _ _ _ h2⟩)
    | (obtain ⟨x, s, h1, h2, h3⟩ := H; exact ⟨x, s, h1, h2, hP _ _ _ _ _ h3⟩)
    | (obtain ⟨x, s, h1, h2, h3⟩ := H; exact ⟨x, s, h1, fun z => hP _ _ _ _ _ (h2 z), fun z => hP _ _ _ _ _ (h3 z)⟩)
    | (obtain ⟨x, y, s, h1, h2⟩ := H; exact ⟨x, y, s, h1, hP _ _ _ _ _ h2⟩)
    | (obtain ⟨x, y, s, h1, h2, h3⟩ := H; exact ⟨x, y, s, h1, h2, hP _ _ _ _ _ h3⟩)
    | (obtain ⟨x, y, s, h1, h2, h3⟩ := H; exact ⟨x, y, s, h1, fun z => hP _ _ _ _ _ (h2 z), fun z => hP _ _ _ _ _ (h3 z)⟩)
    | (obtain ⟨x, y, s, h1, h2, h3, h4⟩ := H; exact ⟨x, y, s, h1, h2, h3, hP _ _ _ _ _ h4⟩)
    | (obtain ⟨x, y, s, h1, h2, h3, h4, h5⟩ := H; exact ⟨x, y, s, h1, h2, h3, h4, hP _ _ _ _ _ h5⟩)
    | (obtain ⟨x, y, k, s, h1, h2, h3, h4, h5⟩ := H; exact ⟨x, y, k, s, h1, h2, h3, h4, hP _ _ _ _ _ h5⟩)
    | (obtain ⟨x, y, k, s, h1, h2, h3, h4, h5, h6⟩ := H; exact ⟨x, y, k, s, h1, h2, h3, h4, h5, hP _ _ _ _ _ h6⟩)
    | (obtain ⟨x, y, k, s, h1, h2, h3, h4, h5, h6, h7⟩ := H; exact ⟨x, y, k, s, h1, h2, h3, h4, h5, h6, hP _ _ _ _ _ h7⟩)
    | (obtain ⟨h1, h2, h3, h4, h5, h6⟩ := H; exact ⟨h1, h2, h3, h4, h5, hP _ _ _ _ _ h6⟩)
    | (obtain ⟨n, s, h1, h2, h3, h4, h5, h6, h7, h8, h9⟩ := H; exact ⟨n, s, h1, h2, h3, h4, h5, h6, h7, h8, hP _ _ _ _ _ h9⟩)
    | exact H
theorem bh_wf_mono {m : Nat} {c1 c2 : Nat → List Value → bh_H → bh_Q → Prop} {Q1 Q2 : bh_Q} (hc : ∀ m As h q1 q2, (∀ r t, q1 r t → q2 r t) → c1 m As h q1 → c2 m As h q2) (hQ : ∀ r h, Q1 r h → Q2 r h) {pc : Nat} {lv st : List Value} {u : Nat × Nat} {h : bh_H} (H : bh_wf m c1 Q1 pc lv st u h) : bh_wf m c2 Q2 pc lv st u h :=
  fun P hP => H P fun pc lv st u h z => hP _ _ _ _ _ (bh_st_mono hc (fun _ _ _ _ _ y => y) hQ z)
theorem bh_wc_mono {d : Nat} : ∀ {m : Nat} {As : List Value} {h : bh_H} {Q1 Q2 : bh_Q}, (∀ r h, Q1 r h → Q2 r h) → bh_wc d m As h Q1 → bh_wc d m As h Q2 := by
  induction d with
  | zero => intro m As h Q1 Q2 _ H; exact H
  | succ d ih => intro m As h Q1 Q2 hQ H; exact ⟨H.1, bh_wf_mono (c1 := bh_wc d) (c2 := bh_wc d) (fun _ _ _ _ _ hq z => ih hq z) hQ H.2⟩
theorem bh_wc_deep {d : Nat} : ∀ {m : Nat} {As : List Value} {h : bh_H} {Q : bh_Q}, bh_wc d m As h Q → bh_wc (d + 1) m As h Q := by
  induction d with
  | zero => intro m As h Q H; exact H.elim
  | succ d ih => intro m As h Q H; exact ⟨H.1, bh_wf_mono (c1 := bh_wc d) (c2 := bh_wc (d + 1)) (fun _ _ _ _ _ hq z => bh_wc_mono hq (ih z)) (fun _ _ z => z) H.2⟩
theorem bh_wc_le {d d' : Nat} (hd : d ≤ d') {m : Nat} {As : List Value} {h : bh_H} {Q : bh_Q} (H : bh_wc d m As h Q) : bh_wc d' m As h Q := by
  induction hd with
  | refl => exact H
  | step _ ih => exact bh_wc_deep ih
/-- a step -/
theorem bh_go {m d : Nat} {Q : bh_Q} {pc : Nat} {lv st : List Value} {u : Nat × Nat} {h : bh_H} (H : bh_st m (bh_wc d) (bh_wf m (bh_wc d) Q) Q pc lv st u h) : bh_wf m (bh_wc d) Q pc lv st u h :=
  fun P hP => hP _ _ _ _ _ (bh_st_mono (c1 := bh_wc d) (c2 := bh_wc d) (P1 := bh_wf m (bh_wc d) Q) (P2 := P) (Q1 := Q) (Q2 := Q) (fun _ _ _ _ _ hq z => bh_wc_mono hq z) (fun _ _ _ _ _ z => z P hP) (fun _ _ z => z) H)
