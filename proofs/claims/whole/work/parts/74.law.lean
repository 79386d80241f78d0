/-! ===== the law ===== -/
section bh_rulel
variable {m d : Nat} {Q : bh_Q} {pc pc' len a : Nat} {c : Int} {l : List Nat} {lv lv' st : List Value} {u : Nat × Nat} {h : bh_H}
theorem z_lcmp (hc : bh_cod m pc = (17, len, a, c, l)) (hp0 : pc + len = pc') {x : Int64} (k : bg m d Q pc' lv (.int 0 :: st) u h) : bg m d Q pc lv (.long x :: .long x :: st) u h := by
  have e : lg_cmp x x = 0 := by unfold lg_cmp; simp
  subst hp0; apply bh_go; unfold bh_st; rw [hc]; exact ⟨x, x, st, rfl, by rw [e]; exact k⟩
theorem z_if0 (hc : bh_cod m pc = (21, len, a, 0, l)) (k : bg m d Q a lv st u h) : bg m d Q pc lv (.int 0 :: st) u h := by
  apply bh_go; unfold bh_st; rw [hc]; exact ⟨0, st, rfl, fun _ => k, fun z => absurd rfl z⟩
theorem z_eq (hc : bh_cod m pc = (22, len, a, 0, l)) {x : Int32} (k : bg m d Q a lv st u h) : bg m d Q pc lv (.int x :: .int x :: st) u h := by
  apply bh_go; unfold bh_st; rw [hc]; exact ⟨x, x, st, rfl, fun _ => k, fun z => absurd rfl z⟩
theorem z_cC {m1 m10 : Nat} {q : String × Nat × Nat × Nat} {Bs : List Value} {s0 s1 : Nat → Int32} {u1 u2 : Nat} (hc : bh_cod m pc = (40, len, a, c, l)) (hp0 : pc + len = pc') (hq : bh_ML[a]? = some q) (hm : q.2.2.1 = m1) (hkd : q.2.2.2 = 0) (hst : st = Bs.reverse ++ [.ref 0]) (hn : Bs.length + 1 = bh_na m1) (hz : bh_mc m1 = 0 ∧ bh_ms m1 = 0) (hz1 : u1 ≤ bh_mc m) (hz2 : u2 ≤ bh_ms m) (ht : bh_tg 0 = bh_ci m1) (hd : 16 ≤ d) (hh : h.1 = 228)
    (k : bh_wc 16 m1 (.ref 0 :: Bs) h (fun r t => ∃ v : Int32, Mid s0 s1 m10 Bs r t (.int v))) (k2 : ∀ v t, t.1 = 228 → SI s0 s1 t → bh_wc 16 m10 (.ref 205 :: Bs) t (fun r2 t2 => r2 = some (.int v) ∧ LI s0 s1 t2) → bg m d Q pc' lv [.int v] (u1, u2) t) : bg m d Q pc lv st (u1, u2) h := by
  refine z_call (Bs := Bs) (rest := []) (d1 := 16) (v1 := u1) (v2 := u2) (N := 228) (N' := 228) hc hp0 hq hm (Or.inl hkd) hst hn (by decide) (by rw [hz.1, Nat.add_zero]) (by rw [hz.2, Nat.add_zero]) hz1 hz2 hh (by decide) (fun _ => ht) (by rw [hz.1, Nat.add_zero]) hd (bh_wc_mono (fun r t z => ?_) k)
  obtain ⟨v, e, n, si, w⟩ := z
  subst e
  exact ⟨n, k2 v t n si w⟩
theorem z_cL {m1 m10 : Nat} {q : String × Nat × Nat × Nat} {Bs : List Value} {s0 s1 : Nat → Int32} {u1 u2 : Nat} (hc : bh_cod m pc = (40, len, a, c, l)) (hp0 : pc + len = pc') (hq : bh_ML[a]? = some q) (hm : q.2.2.1 = m1) (hkd : q.2.2.2 = 0) (hst : st = Bs.reverse ++ [.ref 0]) (hn : Bs.length + 1 = bh_na m1) (hz : bh_mc m1 = 0 ∧ bh_ms m1 = 0) (hz1 : u1 ≤ bh_mc m) (hz2 : u2 ≤ bh_ms m) (ht : bh_tg 0 = bh_ci m1) (hd : 16 ≤ d) (hh : h.1 = 228)
    (k : bh_wc 16 m1 (.ref 0 :: Bs) h (fun r t => ∃ v : Int64, Mid s0 s1 m10 Bs r t (.long v))) (k2 : ∀ v t, t.1 = 228 → SI s0 s1 t → bh_wc 16 m10 (.ref 205 :: Bs) t (fun r2 t2 => r2 = some (.long v) ∧ LI s0 s1 t2) → bg m d Q pc' lv [.long v] (u1, u2) t) : bg m d Q pc lv st (u1, u2) h := by
  refine z_call (Bs := Bs) (rest := []) (d1 := 16) (v1 := u1) (v2 := u2) (N := 228) (N' := 228) hc hp0 hq hm (Or.inl hkd) hst hn (by decide) (by rw [hz.1, Nat.add_zero]) (by rw [hz.2, Nat.add_zero]) hz1 hz2 hh (by decide) (fun _ => ht) (by rw [hz.1, Nat.add_zero]) hd (bh_wc_mono (fun r t z => ?_) k)
  obtain ⟨v, e, n, si, w⟩ := z
  subst e
  exact ⟨n, k2 v t n si w⟩
theorem z_cM {m1 : Nat} {q : String × Nat × Nat × Nat} {Bs : List Value} {s0 s1 : Nat → Int32} {u1 u2 : Nat} {x : Value} (hc : bh_cod m pc = (40, len, a, c, l)) (hp0 : pc + len = pc') (hq : bh_ML[a]? = some q) (hm : q.2.2.1 = m1) (hkd : q.2.2.2 = 0) (hst : st = Bs.reverse ++ [.ref 205, x]) (hx : x.category ≤ 8) (hn : Bs.length + 1 = bh_na m1) (hz : bh_mc m1 = 0 ∧ bh_ms m1 = 0) (hz1 : u1 ≤ bh_mc m) (hz2 : u2 ≤ bh_ms m) (ht : bh_tg 205 = bh_ci m1) (hd : 16 ≤ d) (hh : h.1 = 228)
    (k : bh_wc 16 m1 (.ref 205 :: Bs) h (fun r2 t2 => r2 = some x ∧ LI s0 s1 t2)) (k2 : ∀ t, LI s0 s1 t → bg m d Q pc' lv [x, x] (u1, u2) t) : bg m d Q pc lv st (u1, u2) h := by
  refine z_call (Bs := Bs) (rest := [x]) (d1 := 16) (v1 := u1) (v2 := u2) (N := 228) (N' := 228) hc hp0 hq hm (Or.inl hkd) hst hn (by simpa [bh_catsum] using hx) (by rw [hz.1, Nat.add_zero]) (by rw [hz.2, Nat.add_zero]) hz1 hz2 hh (by decide) (fun _ => ht) (by rw [hz.1, Nat.add_zero]) hd (bh_wc_mono (fun r t z => ?_) k)
  obtain ⟨e, li⟩ := z
  subst e
  have n : t.1 = 228 := by obtain ⟨D, L, rfl, _⟩ := li; rfl
  exact ⟨n, k2 t li⟩
end bh_rulel
theorem LI.n {s0 s1 : Nat → Int32} {h : bh_H} (li : LI s0 s1 h) : h.1 = 228 := by obtain ⟨D, L, rfl, _⟩ := li; rfl
theorem LI.s {s0 s1 : Nat → Int32} {h : bh_H} (li : LI s0 s1 h) : SI s0 s1 h := by obtain ⟨D, L, rfl, si, _⟩ := li; exact si
set_option maxRecDepth 20000 in
set_option maxHeartbeats 1000000 in
theorem lc_0 {s0 s1 : Nat → Int32} {n i : Nat} {h : bh_H} {Q : bh_Q} (h1 : s1 0 = nI n) (hn : n < 10000) (hi : i + 6 ≤ n) (li : LI s0 s1 h) (kN : ∀ t, LI s0 s1 t → bg m_L_law 16 Q 1631 [.ref 1000, .ref 0, .ref 205, .int (nI i)] [] (228, 17198) t) : bg m_L_law 16 Q 208 [.ref 1000, .ref 0, .ref 205, .int (nI i)] [] (228, 17198) h := by
  refine z_aload (pc' := 209) rfl rfl rfl ?_
  refine z_aload (pc' := 210) rfl rfl rfl ?_
  refine z_iload (pc' := 211) rfl rfl rfl ?_
  refine z_int (pc' := 212) (v := nI 1) rfl rfl rfl ?_
  refine z_ib (pc' := 213) (v := nI (i + 1)) rfl rfl (nI_add i 1) ?_
  refine z_scr (pc' := 214) (n := n) (i := i + 1) rfl rfl li.s h1 hn (by omega) rfl ?_
  refine z_aload (pc' := 215) rfl rfl rfl ?_
  refine z_iload (pc' := 216) rfl rfl rfl ?_
  refine z_int (pc' := 217) (v := nI 2) rfl rfl rfl ?_
  refine z_ib (pc' := 218) (v := nI (i + 2)) rfl rfl (nI_add i 2) ?_
  refine z_scr (pc' := 219) (n := n) (i := i + 2) rfl rfl li.s h1 hn (by omega) rfl ?_
  refine z_aload (pc' := 220) rfl rfl rfl ?_
  refine z_iload (pc' := 221) rfl rfl rfl ?_
  refine z_int (pc' := 222) (v := nI 3) rfl rfl rfl ?_
  refine z_ib (pc' := 223) (v := nI (i + 3)) rfl rfl (nI_add i 3) ?_
  refine z_scr (pc' := 224) (n := n) (i := i + 3) rfl rfl li.s h1 hn (by omega) rfl ?_
  refine z_aload (pc' := 225) rfl rfl rfl ?_
  refine z_iload (pc' := 226) rfl rfl rfl ?_
  refine z_int (pc' := 227) (v := nI 4) rfl rfl rfl ?_
  refine z_ib (pc' := 228) (v := nI (i + 4)) rfl rfl (nI_add i 4) ?_
  refine z_scr (pc' := 229) (n := n) (i := i + 4) rfl rfl li.s h1 hn (by omega) rfl ?_
  refine z_aload (pc' := 230) rfl rfl rfl ?_
  refine z_iload (pc' := 231) rfl rfl rfl ?_
  refine z_int (pc' := 232) (v := nI 5) rfl rfl rfl ?_
  refine z_ib (pc' := 233) (v := nI (i + 5)) rfl rfl (nI_add i 5) ?_
  refine z_scr (pc' := 234) (n := n) (i := i + 5) rfl rfl li.s h1 hn (by omega) rfl ?_
  refine z_cC (pc' := 237) (Bs := [.int (s0 (i + 1)), .int (s0 (i + 2)), .int (s0 (i + 3)), .int (s0 (i + 4)), .int (s0 (i + 5))]) rfl rfl rfl rfl rfl rfl rfl ⟨rfl, rfl⟩ (Nat.le_of_ble_eq_true rfl) (Nat.le_of_ble_eq_true rfl) rfl (by decide) li.n (pr_feed li) (fun v t nt si w => ?_)
  refine z_aload (pc' := 238) rfl rfl rfl ?_
  refine z_aload (pc' := 239) rfl rfl rfl ?_
  refine z_iload (pc' := 240) rfl rfl rfl ?_
  refine z_int (pc' := 241) (v := nI 1) rfl rfl rfl ?_
  refine z_ib (pc' := 242) (v := nI (i + 1)) rfl rfl (nI_add i 1) ?_
  refine z_scr (pc' := 243) (n := n) (i := i + 1) rfl rfl si h1 hn (by omega) rfl ?_
  refine z_aload (pc' := 244) rfl rfl rfl ?_
  refine z_iload (pc' := 245) rfl rfl rfl ?_
  refine z_int (pc' := 246) (v := nI 2) rfl rfl rfl ?_
  refine z_ib (pc' := 247) (v := nI (i + 2)) rfl rfl (nI_add i 2) ?_
  refine z_scr (pc' := 248) (n := n) (i := i + 2) rfl rfl si h1 hn (by omega) rfl ?_
  refine z_aload (pc' := 249) rfl rfl rfl ?_
  refine z_iload (pc' := 250) rfl rfl rfl ?_
  refine z_int (pc' := 251) (v := nI 3) rfl rfl rfl ?_
  refine z_ib (pc' := 252) (v := nI (i + 3)) rfl rfl (nI_add i 3) ?_
  refine z_scr (pc' := 253) (n := n) (i := i + 3) rfl rfl si h1 hn (by omega) rfl ?_
  refine z_aload (pc' := 254) rfl rfl rfl ?_
  refine z_iload (pc' := 255) rfl rfl rfl ?_
  refine z_int (pc' := 256) (v := nI 4) rfl rfl rfl ?_
  refine z_ib (pc' := 257) (v := nI (i + 4)) rfl rfl (nI_add i 4) ?_
  refine z_scr (pc' := 258) (n := n) (i := i + 4) rfl rfl si h1 hn (by omega) rfl ?_
  refine z_aload (pc' := 259) rfl rfl rfl ?_
  refine z_iload (pc' := 260) rfl rfl rfl ?_
  refine z_int (pc' := 261) (v := nI 5) rfl rfl rfl ?_
  refine z_ib (pc' := 262) (v := nI (i + 5)) rfl rfl (nI_add i 5) ?_
  refine z_scr (pc' := 263) (n := n) (i := i + 5) rfl rfl si h1 hn (by omega) rfl ?_
  refine z_cM (pc' := 266) (Bs := [.int (s0 (i + 1)), .int (s0 (i + 2)), .int (s0 (i + 3)), .int (s0 (i + 4)), .int (s0 (i + 5))]) rfl rfl rfl rfl rfl rfl (Nat.le_of_ble_eq_true rfl) rfl ⟨rfl, rfl⟩ (Nat.le_of_ble_eq_true rfl) (Nat.le_of_ble_eq_true rfl) rfl (by decide) nt w (fun t2 li2 => ?_)
  exact z_eq rfl (kN t2 li2)
set_option maxRecDepth 20000 in
set_option maxHeartbeats 1000000 in
theorem lc_1 {s0 s1 : Nat → Int32} {n i : Nat} {h : bh_H} {Q : bh_Q} (h1 : s1 0 = nI n) (hn : n < 10000) (hi : i + 6 ≤ n) (li : LI s0 s1 h) (kN : ∀ t, LI s0 s1 t → bg m_L_law 16 Q 1631 [.ref 1000, .ref 0, .ref 205, .int (nI i)] [] (228, 17198) t) : bg m_L_law 16 Q 271 [.ref 1000, .ref 0, .ref 205, .int (nI i)] [] (228, 17198) h := by
  refine z_aload (pc' := 272) rfl rfl rfl ?_
  refine z_aload (pc' := 273) rfl rfl rfl ?_
  refine z_iload (pc' := 274) rfl rfl rfl ?_
  refine z_int (pc' := 275) (v := nI 1) rfl rfl rfl ?_
  refine z_ib (pc' := 276) (v := nI (i + 1)) rfl rfl (nI_add i 1) ?_
  refine z_scr (pc' := 277) (n := n) (i := i + 1) rfl rfl li.s h1 hn (by omega) rfl ?_
  refine z_cC (pc' := 280) (Bs := [.int (s0 (i + 1))]) rfl rfl rfl rfl rfl rfl rfl ⟨rfl, rfl⟩ (Nat.le_of_ble_eq_true rfl) (Nat.le_of_ble_eq_true rfl) rfl (by decide) li.n (pr_end li) (fun v t nt si w => ?_)
  refine z_aload (pc' := 281) rfl rfl rfl ?_
  refine z_aload (pc' := 282) rfl rfl rfl ?_
  refine z_iload (pc' := 283) rfl rfl rfl ?_
  refine z_int (pc' := 284) (v := nI 1) rfl rfl rfl ?_
  refine z_ib (pc' := 285) (v := nI (i + 1)) rfl rfl (nI_add i 1) ?_
  refine z_scr (pc' := 286) (n := n) (i := i + 1) rfl rfl si h1 hn (by omega) rfl ?_
  refine z_cM (pc' := 289) (Bs := [.int (s0 (i + 1))]) rfl rfl rfl rfl rfl rfl (Nat.le_of_ble_eq_true rfl) rfl ⟨rfl, rfl⟩ (Nat.le_of_ble_eq_true rfl) (Nat.le_of_ble_eq_true rfl) rfl (by decide) nt w (fun t2 li2 => ?_)
  exact z_eq rfl (kN t2 li2)
set_option maxRecDepth 20000 in
set_option maxHeartbeats 1000000 in
theorem lc_2 {s0 s1 : Nat → Int32} {n i : Nat} {h : bh_H} {Q : bh_Q} (h1 : s1 0 = nI n) (hn : n < 10000) (hi : i + 6 ≤ n) (li : LI s0 s1 h) (kN : ∀ t, LI s0 s1 t → bg m_L_law 16 Q 1631 [.ref 1000, .ref 0, .ref 205, .int (nI i)] [] (228, 17198) t) : bg m_L_law 16 Q 294 [.ref 1000, .ref 0, .ref 205, .int (nI i)] [] (228, 17198) h := by
  refine z_aload (pc' := 295) rfl rfl rfl ?_
  refine z_cC (pc' := 298) (Bs := []) rfl rfl rfl rfl rfl rfl rfl ⟨rfl, rfl⟩ (Nat.le_of_ble_eq_true rfl) (Nat.le_of_ble_eq_true rfl) rfl (by decide) li.n (pr_tell li) (fun v t nt si w => ?_)
  refine z_aload (pc' := 299) rfl rfl rfl ?_
  refine z_cM (pc' := 302) (Bs := []) rfl rfl rfl rfl rfl rfl (Nat.le_of_ble_eq_true rfl) rfl ⟨rfl, rfl⟩ (Nat.le_of_ble_eq_true rfl) (Nat.le_of_ble_eq_true rfl) rfl (by decide) nt w (fun t2 li2 => ?_)
  exact z_eq rfl (kN t2 li2)
set_option maxRecDepth 20000 in
set_option maxHeartbeats 1000000 in
theorem lc_3 {s0 s1 : Nat → Int32} {n i : Nat} {h : bh_H} {Q : bh_Q} (h1 : s1 0 = nI n) (hn : n < 10000) (hi : i + 6 ≤ n) (li : LI s0 s1 h) (kN : ∀ t, LI s0 s1 t → bg m_L_law 16 Q 1631 [.ref 1000, .ref 0, .ref 205, .int (nI i)] [] (228, 17198) t) : bg m_L_law 16 Q 307 [.ref 1000, .ref 0, .ref 205, .int (nI i)] [] (228, 17198) h := by
  refine z_aload (pc' := 308) rfl rfl rfl ?_
  refine z_aload (pc' := 309) rfl rfl rfl ?_
  refine z_iload (pc' := 310) rfl rfl rfl ?_
  refine z_int (pc' := 311) (v := nI 1) rfl rfl rfl ?_
  refine z_ib (pc' := 312) (v := nI (i + 1)) rfl rfl (nI_add i 1) ?_
  refine z_scr (pc' := 313) (n := n) (i := i + 1) rfl rfl li.s h1 hn (by omega) rfl ?_
  refine z_aload (pc' := 314) rfl rfl rfl ?_
  refine z_iload (pc' := 315) rfl rfl rfl ?_
  refine z_int (pc' := 316) (v := nI 2) rfl rfl rfl ?_
  refine z_ib (pc' := 317) (v := nI (i + 2)) rfl rfl (nI_add i 2) ?_
  refine z_scr (pc' := 318) (n := n) (i := i + 2) rfl rfl li.s h1 hn (by omega) rfl ?_
  refine z_cC (pc' := 321) (Bs := [.int (s0 (i + 1)), .int (s0 (i + 2))]) rfl rfl rfl rfl rfl rfl rfl ⟨rfl, rfl⟩ (Nat.le_of_ble_eq_true rfl) (Nat.le_of_ble_eq_true rfl) rfl (by decide) li.n (pr_hire li) (fun v t nt si w => ?_)
  refine z_aload (pc' := 322) rfl rfl rfl ?_
  refine z_aload (pc' := 323) rfl rfl rfl ?_
  refine z_iload (pc' := 324) rfl rfl rfl ?_
  refine z_int (pc' := 325) (v := nI 1) rfl rfl rfl ?_
  refine z_ib (pc' := 326) (v := nI (i + 1)) rfl rfl (nI_add i 1) ?_
  refine z_scr (pc' := 327) (n := n) (i := i + 1) rfl rfl si h1 hn (by omega) rfl ?_
  refine z_aload (pc' := 328) rfl rfl rfl ?_
  refine z_iload (pc' := 329) rfl rfl rfl ?_
  refine z_int (pc' := 330) (v := nI 2) rfl rfl rfl ?_
  refine z_ib (pc' := 331) (v := nI (i + 2)) rfl rfl (nI_add i 2) ?_
  refine z_scr (pc' := 332) (n := n) (i := i + 2) rfl rfl si h1 hn (by omega) rfl ?_
  refine z_cM (pc' := 335) (Bs := [.int (s0 (i + 1)), .int (s0 (i + 2))]) rfl rfl rfl rfl rfl rfl (Nat.le_of_ble_eq_true rfl) rfl ⟨rfl, rfl⟩ (Nat.le_of_ble_eq_true rfl) (Nat.le_of_ble_eq_true rfl) rfl (by decide) nt w (fun t2 li2 => ?_)
  exact z_eq rfl (kN t2 li2)
set_option maxRecDepth 20000 in
set_option maxHeartbeats 1000000 in
theorem lc_4 {s0 s1 : Nat → Int32} {n i : Nat} {h : bh_H} {Q : bh_Q} (h1 : s1 0 = nI n) (hn : n < 10000) (hi : i + 6 ≤ n) (li : LI s0 s1 h) (kN : ∀ t, LI s0 s1 t → bg m_L_law 16 Q 1631 [.ref 1000, .ref 0, .ref 205, .int (nI i)] [] (228, 17198) t) : bg m_L_law 16 Q 340 [.ref 1000, .ref 0, .ref 205, .int (nI i)] [] (228, 17198) h := by
  refine z_aload (pc' := 341) rfl rfl rfl ?_
  refine z_aload (pc' := 342) rfl rfl rfl ?_
  refine z_iload (pc' := 343) rfl rfl rfl ?_
  refine z_int (pc' := 344) (v := nI 1) rfl rfl rfl ?_
  refine z_ib (pc' := 345) (v := nI (i + 1)) rfl rfl (nI_add i 1) ?_
  refine z_scr (pc' := 346) (n := n) (i := i + 1) rfl rfl li.s h1 hn (by omega) rfl ?_
  refine z_cC (pc' := 349) (Bs := [.int (s0 (i + 1))]) rfl rfl rfl rfl rfl rfl rfl ⟨rfl, rfl⟩ (Nat.le_of_ble_eq_true rfl) (Nat.le_of_ble_eq_true rfl) rfl (by decide) li.n (pr_sack li) (fun v t nt si w => ?_)
  refine z_aload (pc' := 350) rfl rfl rfl ?_
  refine z_aload (pc' := 351) rfl rfl rfl ?_
  refine z_iload (pc' := 352) rfl rfl rfl ?_
  refine z_int (pc' := 353) (v := nI 1) rfl rfl rfl ?_
  refine z_ib (pc' := 354) (v := nI (i + 1)) rfl rfl (nI_add i 1) ?_
  refine z_scr (pc' := 355) (n := n) (i := i + 1) rfl rfl si h1 hn (by omega) rfl ?_
  refine z_cM (pc' := 358) (Bs := [.int (s0 (i + 1))]) rfl rfl rfl rfl rfl rfl (Nat.le_of_ble_eq_true rfl) rfl ⟨rfl, rfl⟩ (Nat.le_of_ble_eq_true rfl) (Nat.le_of_ble_eq_true rfl) rfl (by decide) nt w (fun t2 li2 => ?_)
  exact z_eq rfl (kN t2 li2)
set_option maxRecDepth 20000 in
set_option maxHeartbeats 1000000 in
theorem lc_5 {s0 s1 : Nat → Int32} {n i : Nat} {h : bh_H} {Q : bh_Q} (h1 : s1 0 = nI n) (hn : n < 10000) (hi : i + 6 ≤ n) (li : LI s0 s1 h) (kN : ∀ t, LI s0 s1 t → bg m_L_law 16 Q 1631 [.ref 1000, .ref 0, .ref 205, .int (nI i)] [] (228, 17198) t) : bg m_L_law 16 Q 363 [.ref 1000, .ref 0, .ref 205, .int (nI i)] [] (228, 17198) h := by
  refine z_aload (pc' := 364) rfl rfl rfl ?_
  refine z_aload (pc' := 365) rfl rfl rfl ?_
  refine z_iload (pc' := 366) rfl rfl rfl ?_
  refine z_int (pc' := 367) (v := nI 1) rfl rfl rfl ?_
  refine z_ib (pc' := 368) (v := nI (i + 1)) rfl rfl (nI_add i 1) ?_
  refine z_scr (pc' := 369) (n := n) (i := i + 1) rfl rfl li.s h1 hn (by omega) rfl ?_
  refine z_aload (pc' := 370) rfl rfl rfl ?_
  refine z_iload (pc' := 371) rfl rfl rfl ?_
  refine z_int (pc' := 372) (v := nI 2) rfl rfl rfl ?_
  refine z_ib (pc' := 373) (v := nI (i + 2)) rfl rfl (nI_add i 2) ?_
  refine z_scr (pc' := 374) (n := n) (i := i + 2) rfl rfl li.s h1 hn (by omega) rfl ?_
  refine z_aload (pc' := 375) rfl rfl rfl ?_
  refine z_iload (pc' := 376) rfl rfl rfl ?_
  refine z_int (pc' := 377) (v := nI 3) rfl rfl rfl ?_
  refine z_ib (pc' := 378) (v := nI (i + 3)) rfl rfl (nI_add i 3) ?_
  refine z_scr (pc' := 379) (n := n) (i := i + 3) rfl rfl li.s h1 hn (by omega) rfl ?_
  refine z_aload (pc' := 380) rfl rfl rfl ?_
  refine z_iload (pc' := 381) rfl rfl rfl ?_
  refine z_int (pc' := 382) (v := nI 4) rfl rfl rfl ?_
  refine z_ib (pc' := 383) (v := nI (i + 4)) rfl rfl (nI_add i 4) ?_
  refine z_scr (pc' := 384) (n := n) (i := i + 4) rfl rfl li.s h1 hn (by omega) rfl ?_
  refine z_cC (pc' := 387) (Bs := [.int (s0 (i + 1)), .int (s0 (i + 2)), .int (s0 (i + 3)), .int (s0 (i + 4))]) rfl rfl rfl rfl rfl rfl rfl ⟨rfl, rfl⟩ (Nat.le_of_ble_eq_true rfl) (Nat.le_of_ble_eq_true rfl) rfl (by decide) li.n (pr_teach li) (fun v t nt si w => ?_)
  refine z_aload (pc' := 388) rfl rfl rfl ?_
  refine z_aload (pc' := 389) rfl rfl rfl ?_
  refine z_iload (pc' := 390) rfl rfl rfl ?_
  refine z_int (pc' := 391) (v := nI 1) rfl rfl rfl ?_
  refine z_ib (pc' := 392) (v := nI (i + 1)) rfl rfl (nI_add i 1) ?_
  refine z_scr (pc' := 393) (n := n) (i := i + 1) rfl rfl si h1 hn (by omega) rfl ?_
  refine z_aload (pc' := 394) rfl rfl rfl ?_
  refine z_iload (pc' := 395) rfl rfl rfl ?_
  refine z_int (pc' := 396) (v := nI 2) rfl rfl rfl ?_
  refine z_ib (pc' := 397) (v := nI (i + 2)) rfl rfl (nI_add i 2) ?_
  refine z_scr (pc' := 398) (n := n) (i := i + 2) rfl rfl si h1 hn (by omega) rfl ?_
  refine z_aload (pc' := 399) rfl rfl rfl ?_
  refine z_iload (pc' := 400) rfl rfl rfl ?_
  refine z_int (pc' := 401) (v := nI 3) rfl rfl rfl ?_
  refine z_ib (pc' := 402) (v := nI (i + 3)) rfl rfl (nI_add i 3) ?_
  refine z_scr (pc' := 403) (n := n) (i := i + 3) rfl rfl si h1 hn (by omega) rfl ?_
  refine z_aload (pc' := 404) rfl rfl rfl ?_
  refine z_iload (pc' := 405) rfl rfl rfl ?_
  refine z_int (pc' := 406) (v := nI 4) rfl rfl rfl ?_
  refine z_ib (pc' := 407) (v := nI (i + 4)) rfl rfl (nI_add i 4) ?_
  refine z_scr (pc' := 408) (n := n) (i := i + 4) rfl rfl si h1 hn (by omega) rfl ?_
  refine z_cM (pc' := 411) (Bs := [.int (s0 (i + 1)), .int (s0 (i + 2)), .int (s0 (i + 3)), .int (s0 (i + 4))]) rfl rfl rfl rfl rfl rfl (Nat.le_of_ble_eq_true rfl) rfl ⟨rfl, rfl⟩ (Nat.le_of_ble_eq_true rfl) (Nat.le_of_ble_eq_true rfl) rfl (by decide) nt w (fun t2 li2 => ?_)
  exact z_eq rfl (kN t2 li2)
set_option maxRecDepth 20000 in
set_option maxHeartbeats 1000000 in
theorem lc_6 {s0 s1 : Nat → Int32} {n i : Nat} {h : bh_H} {Q : bh_Q} (h1 : s1 0 = nI n) (hn : n < 10000) (hi : i + 6 ≤ n) (li : LI s0 s1 h) (kN : ∀ t, LI s0 s1 t → bg m_L_law 16 Q 1631 [.ref 1000, .ref 0, .ref 205, .int (nI i)] [] (228, 17198) t) : bg m_L_law 16 Q 416 [.ref 1000, .ref 0, .ref 205, .int (nI i)] [] (228, 17198) h := by
  refine z_aload (pc' := 417) rfl rfl rfl ?_
  refine z_aload (pc' := 418) rfl rfl rfl ?_
  refine z_iload (pc' := 419) rfl rfl rfl ?_
  refine z_int (pc' := 420) (v := nI 1) rfl rfl rfl ?_
  refine z_ib (pc' := 421) (v := nI (i + 1)) rfl rfl (nI_add i 1) ?_
  refine z_scr (pc' := 422) (n := n) (i := i + 1) rfl rfl li.s h1 hn (by omega) rfl ?_
  refine z_aload (pc' := 423) rfl rfl rfl ?_
  refine z_iload (pc' := 424) rfl rfl rfl ?_
  refine z_int (pc' := 425) (v := nI 2) rfl rfl rfl ?_
  refine z_ib (pc' := 426) (v := nI (i + 2)) rfl rfl (nI_add i 2) ?_
  refine z_scr (pc' := 427) (n := n) (i := i + 2) rfl rfl li.s h1 hn (by omega) rfl ?_
  refine z_cC (pc' := 430) (Bs := [.int (s0 (i + 1)), .int (s0 (i + 2))]) rfl rfl rfl rfl rfl rfl rfl ⟨rfl, rfl⟩ (Nat.le_of_ble_eq_true rfl) (Nat.le_of_ble_eq_true rfl) rfl (by decide) li.n (pr_praise li) (fun v t nt si w => ?_)
  refine z_aload (pc' := 431) rfl rfl rfl ?_
  refine z_aload (pc' := 432) rfl rfl rfl ?_
  refine z_iload (pc' := 433) rfl rfl rfl ?_
  refine z_int (pc' := 434) (v := nI 1) rfl rfl rfl ?_
  refine z_ib (pc' := 435) (v := nI (i + 1)) rfl rfl (nI_add i 1) ?_
  refine z_scr (pc' := 436) (n := n) (i := i + 1) rfl rfl si h1 hn (by omega) rfl ?_
  refine z_aload (pc' := 437) rfl rfl rfl ?_
  refine z_iload (pc' := 438) rfl rfl rfl ?_
  refine z_int (pc' := 439) (v := nI 2) rfl rfl rfl ?_
  refine z_ib (pc' := 440) (v := nI (i + 2)) rfl rfl (nI_add i 2) ?_
  refine z_scr (pc' := 441) (n := n) (i := i + 2) rfl rfl si h1 hn (by omega) rfl ?_
  refine z_cM (pc' := 444) (Bs := [.int (s0 (i + 1)), .int (s0 (i + 2))]) rfl rfl rfl rfl rfl rfl (Nat.le_of_ble_eq_true rfl) rfl ⟨rfl, rfl⟩ (Nat.le_of_ble_eq_true rfl) (Nat.le_of_ble_eq_true rfl) rfl (by decide) nt w (fun t2 li2 => ?_)
  exact z_eq rfl (kN t2 li2)
set_option maxRecDepth 20000 in
set_option maxHeartbeats 1000000 in
theorem lc_7 {s0 s1 : Nat → Int32} {n i : Nat} {h : bh_H} {Q : bh_Q} (h1 : s1 0 = nI n) (hn : n < 10000) (hi : i + 6 ≤ n) (li : LI s0 s1 h) (kN : ∀ t, LI s0 s1 t → bg m_L_law 16 Q 1631 [.ref 1000, .ref 0, .ref 205, .int (nI i)] [] (228, 17198) t) : bg m_L_law 16 Q 449 [.ref 1000, .ref 0, .ref 205, .int (nI i)] [] (228, 17198) h := by
  refine z_aload (pc' := 450) rfl rfl rfl ?_
  refine z_aload (pc' := 451) rfl rfl rfl ?_
  refine z_iload (pc' := 452) rfl rfl rfl ?_
  refine z_int (pc' := 453) (v := nI 1) rfl rfl rfl ?_
  refine z_ib (pc' := 454) (v := nI (i + 1)) rfl rfl (nI_add i 1) ?_
  refine z_scr (pc' := 455) (n := n) (i := i + 1) rfl rfl li.s h1 hn (by omega) rfl ?_
  refine z_aload (pc' := 456) rfl rfl rfl ?_
  refine z_iload (pc' := 457) rfl rfl rfl ?_
  refine z_int (pc' := 458) (v := nI 2) rfl rfl rfl ?_
  refine z_ib (pc' := 459) (v := nI (i + 2)) rfl rfl (nI_add i 2) ?_
  refine z_scr (pc' := 460) (n := n) (i := i + 2) rfl rfl li.s h1 hn (by omega) rfl ?_
  refine z_cC (pc' := 463) (Bs := [.int (s0 (i + 1)), .int (s0 (i + 2))]) rfl rfl rfl rfl rfl rfl rfl ⟨rfl, rfl⟩ (Nat.le_of_ble_eq_true rfl) (Nat.le_of_ble_eq_true rfl) rfl (by decide) li.n (pr_blame li) (fun v t nt si w => ?_)
  refine z_aload (pc' := 464) rfl rfl rfl ?_
  refine z_aload (pc' := 465) rfl rfl rfl ?_
  refine z_iload (pc' := 466) rfl rfl rfl ?_
  refine z_int (pc' := 467) (v := nI 1) rfl rfl rfl ?_
  refine z_ib (pc' := 468) (v := nI (i + 1)) rfl rfl (nI_add i 1) ?_
  refine z_scr (pc' := 469) (n := n) (i := i + 1) rfl rfl si h1 hn (by omega) rfl ?_
  refine z_aload (pc' := 470) rfl rfl rfl ?_
  refine z_iload (pc' := 471) rfl rfl rfl ?_
  refine z_int (pc' := 472) (v := nI 2) rfl rfl rfl ?_
  refine z_ib (pc' := 473) (v := nI (i + 2)) rfl rfl (nI_add i 2) ?_
  refine z_scr (pc' := 474) (n := n) (i := i + 2) rfl rfl si h1 hn (by omega) rfl ?_
  refine z_cM (pc' := 477) (Bs := [.int (s0 (i + 1)), .int (s0 (i + 2))]) rfl rfl rfl rfl rfl rfl (Nat.le_of_ble_eq_true rfl) rfl ⟨rfl, rfl⟩ (Nat.le_of_ble_eq_true rfl) (Nat.le_of_ble_eq_true rfl) rfl (by decide) nt w (fun t2 li2 => ?_)
  exact z_eq rfl (kN t2 li2)
set_option maxRecDepth 20000 in
set_option maxHeartbeats 1000000 in
theorem lc_8 {s0 s1 : Nat → Int32} {n i : Nat} {h : bh_H} {Q : bh_Q} (h1 : s1 0 = nI n) (hn : n < 10000) (hi : i + 6 ≤ n) (li : LI s0 s1 h) (kN : ∀ t, LI s0 s1 t → bg m_L_law 16 Q 1631 [.ref 1000, .ref 0, .ref 205, .int (nI i)] [] (228, 17198) t) : bg m_L_law 16 Q 482 [.ref 1000, .ref 0, .ref 205, .int (nI i)] [] (228, 17198) h := by
  refine z_aload (pc' := 483) rfl rfl rfl ?_
  refine z_aload (pc' := 484) rfl rfl rfl ?_
  refine z_iload (pc' := 485) rfl rfl rfl ?_
  refine z_int (pc' := 486) (v := nI 1) rfl rfl rfl ?_
  refine z_ib (pc' := 487) (v := nI (i + 1)) rfl rfl (nI_add i 1) ?_
  refine z_scr (pc' := 488) (n := n) (i := i + 1) rfl rfl li.s h1 hn (by omega) rfl ?_
  refine z_aload (pc' := 489) rfl rfl rfl ?_
  refine z_iload (pc' := 490) rfl rfl rfl ?_
  refine z_int (pc' := 491) (v := nI 2) rfl rfl rfl ?_
  refine z_ib (pc' := 492) (v := nI (i + 2)) rfl rfl (nI_add i 2) ?_
  refine z_scr (pc' := 493) (n := n) (i := i + 2) rfl rfl li.s h1 hn (by omega) rfl ?_
  refine z_cC (pc' := 496) (Bs := [.int (s0 (i + 1)), .int (s0 (i + 2))]) rfl rfl rfl rfl rfl rfl rfl ⟨rfl, rfl⟩ (Nat.le_of_ble_eq_true rfl) (Nat.le_of_ble_eq_true rfl) rfl (by decide) li.n (pr_order li) (fun v t nt si w => ?_)
  refine z_aload (pc' := 497) rfl rfl rfl ?_
  refine z_aload (pc' := 498) rfl rfl rfl ?_
  refine z_iload (pc' := 499) rfl rfl rfl ?_
  refine z_int (pc' := 500) (v := nI 1) rfl rfl rfl ?_
  refine z_ib (pc' := 501) (v := nI (i + 1)) rfl rfl (nI_add i 1) ?_
  refine z_scr (pc' := 502) (n := n) (i := i + 1) rfl rfl si h1 hn (by omega) rfl ?_
  refine z_aload (pc' := 503) rfl rfl rfl ?_
  refine z_iload (pc' := 504) rfl rfl rfl ?_
  refine z_int (pc' := 505) (v := nI 2) rfl rfl rfl ?_
  refine z_ib (pc' := 506) (v := nI (i + 2)) rfl rfl (nI_add i 2) ?_
  refine z_scr (pc' := 507) (n := n) (i := i + 2) rfl rfl si h1 hn (by omega) rfl ?_
  refine z_cM (pc' := 510) (Bs := [.int (s0 (i + 1)), .int (s0 (i + 2))]) rfl rfl rfl rfl rfl rfl (Nat.le_of_ble_eq_true rfl) rfl ⟨rfl, rfl⟩ (Nat.le_of_ble_eq_true rfl) (Nat.le_of_ble_eq_true rfl) rfl (by decide) nt w (fun t2 li2 => ?_)
  exact z_eq rfl (kN t2 li2)
set_option maxRecDepth 20000 in
set_option maxHeartbeats 1000000 in
theorem lc_9 {s0 s1 : Nat → Int32} {n i : Nat} {h : bh_H} {Q : bh_Q} (h1 : s1 0 = nI n) (hn : n < 10000) (hi : i + 6 ≤ n) (li : LI s0 s1 h) (kN : ∀ t, LI s0 s1 t → bg m_L_law 16 Q 1631 [.ref 1000, .ref 0, .ref 205, .int (nI i)] [] (228, 17198) t) : bg m_L_law 16 Q 515 [.ref 1000, .ref 0, .ref 205, .int (nI i)] [] (228, 17198) h := by
  refine z_aload (pc' := 516) rfl rfl rfl ?_
  refine z_aload (pc' := 517) rfl rfl rfl ?_
  refine z_iload (pc' := 518) rfl rfl rfl ?_
  refine z_int (pc' := 519) (v := nI 1) rfl rfl rfl ?_
  refine z_ib (pc' := 520) (v := nI (i + 1)) rfl rfl (nI_add i 1) ?_
  refine z_scr (pc' := 521) (n := n) (i := i + 1) rfl rfl li.s h1 hn (by omega) rfl ?_
  refine z_cC (pc' := 524) (Bs := [.int (s0 (i + 1))]) rfl rfl rfl rfl rfl rfl rfl ⟨rfl, rfl⟩ (Nat.le_of_ble_eq_true rfl) (Nat.le_of_ble_eq_true rfl) rfl (by decide) li.n (pr_day li) (fun v t nt si w => ?_)
  refine z_aload (pc' := 525) rfl rfl rfl ?_
  refine z_aload (pc' := 526) rfl rfl rfl ?_
  refine z_iload (pc' := 527) rfl rfl rfl ?_
  refine z_int (pc' := 528) (v := nI 1) rfl rfl rfl ?_
  refine z_ib (pc' := 529) (v := nI (i + 1)) rfl rfl (nI_add i 1) ?_
  refine z_scr (pc' := 530) (n := n) (i := i + 1) rfl rfl si h1 hn (by omega) rfl ?_
  refine z_cM (pc' := 533) (Bs := [.int (s0 (i + 1))]) rfl rfl rfl rfl rfl rfl (Nat.le_of_ble_eq_true rfl) rfl ⟨rfl, rfl⟩ (Nat.le_of_ble_eq_true rfl) (Nat.le_of_ble_eq_true rfl) rfl (by decide) nt w (fun t2 li2 => ?_)
  exact z_eq rfl (kN t2 li2)
set_option maxRecDepth 20000 in
set_option maxHeartbeats 1000000 in
theorem lc_10 {s0 s1 : Nat → Int32} {n i : Nat} {h : bh_H} {Q : bh_Q} (h1 : s1 0 = nI n) (hn : n < 10000) (hi : i + 6 ≤ n) (li : LI s0 s1 h) (kN : ∀ t, LI s0 s1 t → bg m_L_law 16 Q 1631 [.ref 1000, .ref 0, .ref 205, .int (nI i)] [] (228, 17198) t) : bg m_L_law 16 Q 538 [.ref 1000, .ref 0, .ref 205, .int (nI i)] [] (228, 17198) h := by
  refine z_aload (pc' := 539) rfl rfl rfl ?_
  refine z_aload (pc' := 540) rfl rfl rfl ?_
  refine z_iload (pc' := 541) rfl rfl rfl ?_
  refine z_int (pc' := 542) (v := nI 1) rfl rfl rfl ?_
  refine z_ib (pc' := 543) (v := nI (i + 1)) rfl rfl (nI_add i 1) ?_
  refine z_scr (pc' := 544) (n := n) (i := i + 1) rfl rfl li.s h1 hn (by omega) rfl ?_
  refine z_aload (pc' := 545) rfl rfl rfl ?_
  refine z_iload (pc' := 546) rfl rfl rfl ?_
  refine z_int (pc' := 547) (v := nI 2) rfl rfl rfl ?_
  refine z_ib (pc' := 548) (v := nI (i + 2)) rfl rfl (nI_add i 2) ?_
  refine z_scr (pc' := 549) (n := n) (i := i + 2) rfl rfl li.s h1 hn (by omega) rfl ?_
  refine z_cC (pc' := 552) (Bs := [.int (s0 (i + 1)), .int (s0 (i + 2))]) rfl rfl rfl rfl rfl rfl rfl ⟨rfl, rfl⟩ (Nat.le_of_ble_eq_true rfl) (Nat.le_of_ble_eq_true rfl) rfl (by decide) li.n (pr_store li) (fun v t nt si w => ?_)
  refine z_aload (pc' := 553) rfl rfl rfl ?_
  refine z_aload (pc' := 554) rfl rfl rfl ?_
  refine z_iload (pc' := 555) rfl rfl rfl ?_
  refine z_int (pc' := 556) (v := nI 1) rfl rfl rfl ?_
  refine z_ib (pc' := 557) (v := nI (i + 1)) rfl rfl (nI_add i 1) ?_
  refine z_scr (pc' := 558) (n := n) (i := i + 1) rfl rfl si h1 hn (by omega) rfl ?_
  refine z_aload (pc' := 559) rfl rfl rfl ?_
  refine z_iload (pc' := 560) rfl rfl rfl ?_
  refine z_int (pc' := 561) (v := nI 2) rfl rfl rfl ?_
  refine z_ib (pc' := 562) (v := nI (i + 2)) rfl rfl (nI_add i 2) ?_
  refine z_scr (pc' := 563) (n := n) (i := i + 2) rfl rfl si h1 hn (by omega) rfl ?_
  refine z_cM (pc' := 566) (Bs := [.int (s0 (i + 1)), .int (s0 (i + 2))]) rfl rfl rfl rfl rfl rfl (Nat.le_of_ble_eq_true rfl) rfl ⟨rfl, rfl⟩ (Nat.le_of_ble_eq_true rfl) (Nat.le_of_ble_eq_true rfl) rfl (by decide) nt w (fun t2 li2 => ?_)
  exact z_eq rfl (kN t2 li2)
set_option maxRecDepth 20000 in
set_option maxHeartbeats 1000000 in
theorem lc_11 {s0 s1 : Nat → Int32} {n i : Nat} {h : bh_H} {Q : bh_Q} (h1 : s1 0 = nI n) (hn : n < 10000) (hi : i + 6 ≤ n) (li : LI s0 s1 h) (kN : ∀ t, LI s0 s1 t → bg m_L_law 16 Q 1631 [.ref 1000, .ref 0, .ref 205, .int (nI i)] [] (228, 17198) t) : bg m_L_law 16 Q 571 [.ref 1000, .ref 0, .ref 205, .int (nI i)] [] (228, 17198) h := by
  refine z_aload (pc' := 572) rfl rfl rfl ?_
  refine z_aload (pc' := 573) rfl rfl rfl ?_
  refine z_iload (pc' := 574) rfl rfl rfl ?_
  refine z_int (pc' := 575) (v := nI 1) rfl rfl rfl ?_
  refine z_ib (pc' := 576) (v := nI (i + 1)) rfl rfl (nI_add i 1) ?_
  refine z_scr (pc' := 577) (n := n) (i := i + 1) rfl rfl li.s h1 hn (by omega) rfl ?_
  refine z_cC (pc' := 580) (Bs := [.int (s0 (i + 1))]) rfl rfl rfl rfl rfl rfl rfl ⟨rfl, rfl⟩ (Nat.le_of_ble_eq_true rfl) (Nat.le_of_ble_eq_true rfl) rfl (by decide) li.n (pr_die li) (fun v t nt si w => ?_)
  refine z_aload (pc' := 581) rfl rfl rfl ?_
  refine z_aload (pc' := 582) rfl rfl rfl ?_
  refine z_iload (pc' := 583) rfl rfl rfl ?_
  refine z_int (pc' := 584) (v := nI 1) rfl rfl rfl ?_
  refine z_ib (pc' := 585) (v := nI (i + 1)) rfl rfl (nI_add i 1) ?_
  refine z_scr (pc' := 586) (n := n) (i := i + 1) rfl rfl si h1 hn (by omega) rfl ?_
  refine z_cM (pc' := 589) (Bs := [.int (s0 (i + 1))]) rfl rfl rfl rfl rfl rfl (Nat.le_of_ble_eq_true rfl) rfl ⟨rfl, rfl⟩ (Nat.le_of_ble_eq_true rfl) (Nat.le_of_ble_eq_true rfl) rfl (by decide) nt w (fun t2 li2 => ?_)
  exact z_eq rfl (kN t2 li2)
set_option maxRecDepth 20000 in
set_option maxHeartbeats 1000000 in
theorem lc_12 {s0 s1 : Nat → Int32} {n i : Nat} {h : bh_H} {Q : bh_Q} (h1 : s1 0 = nI n) (hn : n < 10000) (hi : i + 6 ≤ n) (li : LI s0 s1 h) (kN : ∀ t, LI s0 s1 t → bg m_L_law 16 Q 1631 [.ref 1000, .ref 0, .ref 205, .int (nI i)] [] (228, 17198) t) : bg m_L_law 16 Q 594 [.ref 1000, .ref 0, .ref 205, .int (nI i)] [] (228, 17198) h := by
  refine z_aload (pc' := 595) rfl rfl rfl ?_
  refine z_aload (pc' := 596) rfl rfl rfl ?_
  refine z_iload (pc' := 597) rfl rfl rfl ?_
  refine z_int (pc' := 598) (v := nI 1) rfl rfl rfl ?_
  refine z_ib (pc' := 599) (v := nI (i + 1)) rfl rfl (nI_add i 1) ?_
  refine z_scr (pc' := 600) (n := n) (i := i + 1) rfl rfl li.s h1 hn (by omega) rfl ?_
  refine z_cC (pc' := 603) (Bs := [.int (s0 (i + 1))]) rfl rfl rfl rfl rfl rfl rfl ⟨rfl, rfl⟩ (Nat.le_of_ble_eq_true rfl) (Nat.le_of_ble_eq_true rfl) rfl (by decide) li.n (pr_see li) (fun v t nt si w => ?_)
  refine z_aload (pc' := 604) rfl rfl rfl ?_
  refine z_aload (pc' := 605) rfl rfl rfl ?_
  refine z_iload (pc' := 606) rfl rfl rfl ?_
  refine z_int (pc' := 607) (v := nI 1) rfl rfl rfl ?_
  refine z_ib (pc' := 608) (v := nI (i + 1)) rfl rfl (nI_add i 1) ?_
  refine z_scr (pc' := 609) (n := n) (i := i + 1) rfl rfl si h1 hn (by omega) rfl ?_
  refine z_cM (pc' := 612) (Bs := [.int (s0 (i + 1))]) rfl rfl rfl rfl rfl rfl (Nat.le_of_ble_eq_true rfl) rfl ⟨rfl, rfl⟩ (Nat.le_of_ble_eq_true rfl) (Nat.le_of_ble_eq_true rfl) rfl (by decide) nt w (fun t2 li2 => ?_)
  exact z_eq rfl (kN t2 li2)
set_option maxRecDepth 20000 in
set_option maxHeartbeats 1000000 in
theorem lc_13 {s0 s1 : Nat → Int32} {n i : Nat} {h : bh_H} {Q : bh_Q} (h1 : s1 0 = nI n) (hn : n < 10000) (hi : i + 6 ≤ n) (li : LI s0 s1 h) (kN : ∀ t, LI s0 s1 t → bg m_L_law 16 Q 1631 [.ref 1000, .ref 0, .ref 205, .int (nI i)] [] (228, 17198) t) : bg m_L_law 16 Q 617 [.ref 1000, .ref 0, .ref 205, .int (nI i)] [] (228, 17198) h := by
  refine z_aload (pc' := 618) rfl rfl rfl ?_
  refine z_cC (pc' := 621) (Bs := []) rfl rfl rfl rfl rfl rfl rfl ⟨rfl, rfl⟩ (Nat.le_of_ble_eq_true rfl) (Nat.le_of_ble_eq_true rfl) rfl (by decide) li.n (pr_forget li) (fun v t nt si w => ?_)
  refine z_aload (pc' := 622) rfl rfl rfl ?_
  refine z_cM (pc' := 625) (Bs := []) rfl rfl rfl rfl rfl rfl (Nat.le_of_ble_eq_true rfl) rfl ⟨rfl, rfl⟩ (Nat.le_of_ble_eq_true rfl) (Nat.le_of_ble_eq_true rfl) rfl (by decide) nt w (fun t2 li2 => ?_)
  exact z_eq rfl (kN t2 li2)
set_option maxRecDepth 20000 in
set_option maxHeartbeats 1000000 in
theorem lc_14 {s0 s1 : Nat → Int32} {n i : Nat} {h : bh_H} {Q : bh_Q} (h1 : s1 0 = nI n) (hn : n < 10000) (hi : i + 6 ≤ n) (li : LI s0 s1 h) (kN : ∀ t, LI s0 s1 t → bg m_L_law 16 Q 1631 [.ref 1000, .ref 0, .ref 205, .int (nI i)] [] (228, 17198) t) : bg m_L_law 16 Q 630 [.ref 1000, .ref 0, .ref 205, .int (nI i)] [] (228, 17198) h := by
  refine z_aload (pc' := 631) rfl rfl rfl ?_
  refine z_cC (pc' := 634) (Bs := []) rfl rfl rfl rfl rfl rfl rfl ⟨rfl, rfl⟩ (Nat.le_of_ble_eq_true rfl) (Nat.le_of_ble_eq_true rfl) rfl (by decide) li.n (pr_undo li) (fun v t nt si w => ?_)
  refine z_aload (pc' := 635) rfl rfl rfl ?_
  refine z_cM (pc' := 638) (Bs := []) rfl rfl rfl rfl rfl rfl (Nat.le_of_ble_eq_true rfl) rfl ⟨rfl, rfl⟩ (Nat.le_of_ble_eq_true rfl) (Nat.le_of_ble_eq_true rfl) rfl (by decide) nt w (fun t2 li2 => ?_)
  exact z_eq rfl (kN t2 li2)
set_option maxRecDepth 20000 in
set_option maxHeartbeats 1000000 in
theorem lc_15 {s0 s1 : Nat → Int32} {n i : Nat} {h : bh_H} {Q : bh_Q} (h1 : s1 0 = nI n) (hn : n < 10000) (hi : i + 6 ≤ n) (li : LI s0 s1 h) (kN : ∀ t, LI s0 s1 t → bg m_L_law 16 Q 1631 [.ref 1000, .ref 0, .ref 205, .int (nI i)] [] (228, 17198) t) : bg m_L_law 16 Q 643 [.ref 1000, .ref 0, .ref 205, .int (nI i)] [] (228, 17198) h := by
  refine z_aload (pc' := 644) rfl rfl rfl ?_
  refine z_aload (pc' := 645) rfl rfl rfl ?_
  refine z_iload (pc' := 646) rfl rfl rfl ?_
  refine z_int (pc' := 647) (v := nI 1) rfl rfl rfl ?_
  refine z_ib (pc' := 648) (v := nI (i + 1)) rfl rfl (nI_add i 1) ?_
  refine z_scr (pc' := 649) (n := n) (i := i + 1) rfl rfl li.s h1 hn (by omega) rfl ?_
  refine z_cC (pc' := 652) (Bs := [.int (s0 (i + 1))]) rfl rfl rfl rfl rfl rfl rfl ⟨rfl, rfl⟩ (Nat.le_of_ble_eq_true rfl) (Nat.le_of_ble_eq_true rfl) rfl (by decide) li.n (pr_keep li) (fun v t nt si w => ?_)
  refine z_aload (pc' := 653) rfl rfl rfl ?_
  refine z_aload (pc' := 654) rfl rfl rfl ?_
  refine z_iload (pc' := 655) rfl rfl rfl ?_
  refine z_int (pc' := 656) (v := nI 1) rfl rfl rfl ?_
  refine z_ib (pc' := 657) (v := nI (i + 1)) rfl rfl (nI_add i 1) ?_
  refine z_scr (pc' := 658) (n := n) (i := i + 1) rfl rfl si h1 hn (by omega) rfl ?_
  refine z_cM (pc' := 661) (Bs := [.int (s0 (i + 1))]) rfl rfl rfl rfl rfl rfl (Nat.le_of_ble_eq_true rfl) rfl ⟨rfl, rfl⟩ (Nat.le_of_ble_eq_true rfl) (Nat.le_of_ble_eq_true rfl) rfl (by decide) nt w (fun t2 li2 => ?_)
  exact z_eq rfl (kN t2 li2)
set_option maxRecDepth 20000 in
set_option maxHeartbeats 1000000 in
theorem lc_16 {s0 s1 : Nat → Int32} {n i : Nat} {h : bh_H} {Q : bh_Q} (h1 : s1 0 = nI n) (hn : n < 10000) (hi : i + 6 ≤ n) (li : LI s0 s1 h) (kN : ∀ t, LI s0 s1 t → bg m_L_law 16 Q 1631 [.ref 1000, .ref 0, .ref 205, .int (nI i)] [] (228, 17198) t) : bg m_L_law 16 Q 666 [.ref 1000, .ref 0, .ref 205, .int (nI i)] [] (228, 17198) h := by
  refine z_aload (pc' := 667) rfl rfl rfl ?_
  refine z_aload (pc' := 668) rfl rfl rfl ?_
  refine z_iload (pc' := 669) rfl rfl rfl ?_
  refine z_int (pc' := 670) (v := nI 1) rfl rfl rfl ?_
  refine z_ib (pc' := 671) (v := nI (i + 1)) rfl rfl (nI_add i 1) ?_
  refine z_scr (pc' := 672) (n := n) (i := i + 1) rfl rfl li.s h1 hn (by omega) rfl ?_
  refine z_cC (pc' := 675) (Bs := [.int (s0 (i + 1))]) rfl rfl rfl rfl rfl rfl rfl ⟨rfl, rfl⟩ (Nat.le_of_ble_eq_true rfl) (Nat.le_of_ble_eq_true rfl) rfl (by decide) li.n (pr_back li) (fun v t nt si w => ?_)
  refine z_aload (pc' := 676) rfl rfl rfl ?_
  refine z_aload (pc' := 677) rfl rfl rfl ?_
  refine z_iload (pc' := 678) rfl rfl rfl ?_
  refine z_int (pc' := 679) (v := nI 1) rfl rfl rfl ?_
  refine z_ib (pc' := 680) (v := nI (i + 1)) rfl rfl (nI_add i 1) ?_
  refine z_scr (pc' := 681) (n := n) (i := i + 1) rfl rfl si h1 hn (by omega) rfl ?_
  refine z_cM (pc' := 684) (Bs := [.int (s0 (i + 1))]) rfl rfl rfl rfl rfl rfl (Nat.le_of_ble_eq_true rfl) rfl ⟨rfl, rfl⟩ (Nat.le_of_ble_eq_true rfl) (Nat.le_of_ble_eq_true rfl) rfl (by decide) nt w (fun t2 li2 => ?_)
  exact z_eq rfl (kN t2 li2)
set_option maxRecDepth 20000 in
set_option maxHeartbeats 1000000 in
theorem lc_17 {s0 s1 : Nat → Int32} {n i : Nat} {h : bh_H} {Q : bh_Q} (h1 : s1 0 = nI n) (hn : n < 10000) (hi : i + 6 ≤ n) (li : LI s0 s1 h) (kN : ∀ t, LI s0 s1 t → bg m_L_law 16 Q 1631 [.ref 1000, .ref 0, .ref 205, .int (nI i)] [] (228, 17198) t) : bg m_L_law 16 Q 689 [.ref 1000, .ref 0, .ref 205, .int (nI i)] [] (228, 17198) h := by
  refine z_aload (pc' := 690) rfl rfl rfl ?_
  refine z_aload (pc' := 691) rfl rfl rfl ?_
  refine z_iload (pc' := 692) rfl rfl rfl ?_
  refine z_int (pc' := 693) (v := nI 1) rfl rfl rfl ?_
  refine z_ib (pc' := 694) (v := nI (i + 1)) rfl rfl (nI_add i 1) ?_
  refine z_scr (pc' := 695) (n := n) (i := i + 1) rfl rfl li.s h1 hn (by omega) rfl ?_
  refine z_aload (pc' := 696) rfl rfl rfl ?_
  refine z_iload (pc' := 697) rfl rfl rfl ?_
  refine z_int (pc' := 698) (v := nI 2) rfl rfl rfl ?_
  refine z_ib (pc' := 699) (v := nI (i + 2)) rfl rfl (nI_add i 2) ?_
  refine z_scr (pc' := 700) (n := n) (i := i + 2) rfl rfl li.s h1 hn (by omega) rfl ?_
  refine z_cC (pc' := 703) (Bs := [.int (s0 (i + 1)), .int (s0 (i + 2))]) rfl rfl rfl rfl rfl rfl rfl ⟨rfl, rfl⟩ (Nat.le_of_ble_eq_true rfl) (Nat.le_of_ble_eq_true rfl) rfl (by decide) li.n (pr_writer li) (fun v t nt si w => ?_)
  refine z_aload (pc' := 704) rfl rfl rfl ?_
  refine z_aload (pc' := 705) rfl rfl rfl ?_
  refine z_iload (pc' := 706) rfl rfl rfl ?_
  refine z_int (pc' := 707) (v := nI 1) rfl rfl rfl ?_
  refine z_ib (pc' := 708) (v := nI (i + 1)) rfl rfl (nI_add i 1) ?_
  refine z_scr (pc' := 709) (n := n) (i := i + 1) rfl rfl si h1 hn (by omega) rfl ?_
  refine z_aload (pc' := 710) rfl rfl rfl ?_
  refine z_iload (pc' := 711) rfl rfl rfl ?_
  refine z_int (pc' := 712) (v := nI 2) rfl rfl rfl ?_
  refine z_ib (pc' := 713) (v := nI (i + 2)) rfl rfl (nI_add i 2) ?_
  refine z_scr (pc' := 714) (n := n) (i := i + 2) rfl rfl si h1 hn (by omega) rfl ?_
  refine z_cM (pc' := 717) (Bs := [.int (s0 (i + 1)), .int (s0 (i + 2))]) rfl rfl rfl rfl rfl rfl (Nat.le_of_ble_eq_true rfl) rfl ⟨rfl, rfl⟩ (Nat.le_of_ble_eq_true rfl) (Nat.le_of_ble_eq_true rfl) rfl (by decide) nt w (fun t2 li2 => ?_)
  exact z_eq rfl (kN t2 li2)
set_option maxRecDepth 20000 in
set_option maxHeartbeats 1000000 in
theorem lc_18 {s0 s1 : Nat → Int32} {n i : Nat} {h : bh_H} {Q : bh_Q} (h1 : s1 0 = nI n) (hn : n < 10000) (hi : i + 6 ≤ n) (li : LI s0 s1 h) (kN : ∀ t, LI s0 s1 t → bg m_L_law 16 Q 1631 [.ref 1000, .ref 0, .ref 205, .int (nI i)] [] (228, 17198) t) : bg m_L_law 16 Q 722 [.ref 1000, .ref 0, .ref 205, .int (nI i)] [] (228, 17198) h := by
  refine z_aload (pc' := 723) rfl rfl rfl ?_
  refine z_aload (pc' := 724) rfl rfl rfl ?_
  refine z_iload (pc' := 725) rfl rfl rfl ?_
  refine z_int (pc' := 726) (v := nI 1) rfl rfl rfl ?_
  refine z_ib (pc' := 727) (v := nI (i + 1)) rfl rfl (nI_add i 1) ?_
  refine z_scr (pc' := 728) (n := n) (i := i + 1) rfl rfl li.s h1 hn (by omega) rfl ?_
  refine z_aload (pc' := 729) rfl rfl rfl ?_
  refine z_iload (pc' := 730) rfl rfl rfl ?_
  refine z_int (pc' := 731) (v := nI 2) rfl rfl rfl ?_
  refine z_ib (pc' := 732) (v := nI (i + 2)) rfl rfl (nI_add i 2) ?_
  refine z_scr (pc' := 733) (n := n) (i := i + 2) rfl rfl li.s h1 hn (by omega) rfl ?_
  refine z_cC (pc' := 736) (Bs := [.int (s0 (i + 1)), .int (s0 (i + 2))]) rfl rfl rfl rfl rfl rfl rfl ⟨rfl, rfl⟩ (Nat.le_of_ble_eq_true rfl) (Nat.le_of_ble_eq_true rfl) rfl (by decide) li.n (pr_page li) (fun v t nt si w => ?_)
  refine z_aload (pc' := 737) rfl rfl rfl ?_
  refine z_aload (pc' := 738) rfl rfl rfl ?_
  refine z_iload (pc' := 739) rfl rfl rfl ?_
  refine z_int (pc' := 740) (v := nI 1) rfl rfl rfl ?_
  refine z_ib (pc' := 741) (v := nI (i + 1)) rfl rfl (nI_add i 1) ?_
  refine z_scr (pc' := 742) (n := n) (i := i + 1) rfl rfl si h1 hn (by omega) rfl ?_
  refine z_aload (pc' := 743) rfl rfl rfl ?_
  refine z_iload (pc' := 744) rfl rfl rfl ?_
  refine z_int (pc' := 745) (v := nI 2) rfl rfl rfl ?_
  refine z_ib (pc' := 746) (v := nI (i + 2)) rfl rfl (nI_add i 2) ?_
  refine z_scr (pc' := 747) (n := n) (i := i + 2) rfl rfl si h1 hn (by omega) rfl ?_
  refine z_cM (pc' := 750) (Bs := [.int (s0 (i + 1)), .int (s0 (i + 2))]) rfl rfl rfl rfl rfl rfl (Nat.le_of_ble_eq_true rfl) rfl ⟨rfl, rfl⟩ (Nat.le_of_ble_eq_true rfl) (Nat.le_of_ble_eq_true rfl) rfl (by decide) nt w (fun t2 li2 => ?_)
  exact z_eq rfl (kN t2 li2)
set_option maxRecDepth 20000 in
set_option maxHeartbeats 1000000 in
theorem lc_19 {s0 s1 : Nat → Int32} {n i : Nat} {h : bh_H} {Q : bh_Q} (h1 : s1 0 = nI n) (hn : n < 10000) (hi : i + 6 ≤ n) (li : LI s0 s1 h) (kN : ∀ t, LI s0 s1 t → bg m_L_law 16 Q 1631 [.ref 1000, .ref 0, .ref 205, .int (nI i)] [] (228, 17198) t) : bg m_L_law 16 Q 755 [.ref 1000, .ref 0, .ref 205, .int (nI i)] [] (228, 17198) h := by
  refine z_aload (pc' := 756) rfl rfl rfl ?_
  refine z_aload (pc' := 757) rfl rfl rfl ?_
  refine z_iload (pc' := 758) rfl rfl rfl ?_
  refine z_int (pc' := 759) (v := nI 1) rfl rfl rfl ?_
  refine z_ib (pc' := 760) (v := nI (i + 1)) rfl rfl (nI_add i 1) ?_
  refine z_scr (pc' := 761) (n := n) (i := i + 1) rfl rfl li.s h1 hn (by omega) rfl ?_
  refine z_aload (pc' := 762) rfl rfl rfl ?_
  refine z_iload (pc' := 763) rfl rfl rfl ?_
  refine z_int (pc' := 764) (v := nI 2) rfl rfl rfl ?_
  refine z_ib (pc' := 765) (v := nI (i + 2)) rfl rfl (nI_add i 2) ?_
  refine z_scr (pc' := 766) (n := n) (i := i + 2) rfl rfl li.s h1 hn (by omega) rfl ?_
  refine z_aload (pc' := 767) rfl rfl rfl ?_
  refine z_iload (pc' := 768) rfl rfl rfl ?_
  refine z_int (pc' := 769) (v := nI 3) rfl rfl rfl ?_
  refine z_ib (pc' := 770) (v := nI (i + 3)) rfl rfl (nI_add i 3) ?_
  refine z_scr (pc' := 771) (n := n) (i := i + 3) rfl rfl li.s h1 hn (by omega) rfl ?_
  refine z_cC (pc' := 774) (Bs := [.int (s0 (i + 1)), .int (s0 (i + 2)), .int (s0 (i + 3))]) rfl rfl rfl rfl rfl rfl rfl ⟨rfl, rfl⟩ (Nat.le_of_ble_eq_true rfl) (Nat.le_of_ble_eq_true rfl) rfl (by decide) li.n (pr_line li) (fun v t nt si w => ?_)
  refine z_aload (pc' := 775) rfl rfl rfl ?_
  refine z_aload (pc' := 776) rfl rfl rfl ?_
  refine z_iload (pc' := 777) rfl rfl rfl ?_
  refine z_int (pc' := 778) (v := nI 1) rfl rfl rfl ?_
  refine z_ib (pc' := 779) (v := nI (i + 1)) rfl rfl (nI_add i 1) ?_
  refine z_scr (pc' := 780) (n := n) (i := i + 1) rfl rfl si h1 hn (by omega) rfl ?_
  refine z_aload (pc' := 781) rfl rfl rfl ?_
  refine z_iload (pc' := 782) rfl rfl rfl ?_
  refine z_int (pc' := 783) (v := nI 2) rfl rfl rfl ?_
  refine z_ib (pc' := 784) (v := nI (i + 2)) rfl rfl (nI_add i 2) ?_
  refine z_scr (pc' := 785) (n := n) (i := i + 2) rfl rfl si h1 hn (by omega) rfl ?_
  refine z_aload (pc' := 786) rfl rfl rfl ?_
  refine z_iload (pc' := 787) rfl rfl rfl ?_
  refine z_int (pc' := 788) (v := nI 3) rfl rfl rfl ?_
  refine z_ib (pc' := 789) (v := nI (i + 3)) rfl rfl (nI_add i 3) ?_
  refine z_scr (pc' := 790) (n := n) (i := i + 3) rfl rfl si h1 hn (by omega) rfl ?_
  refine z_cM (pc' := 793) (Bs := [.int (s0 (i + 1)), .int (s0 (i + 2)), .int (s0 (i + 3))]) rfl rfl rfl rfl rfl rfl (Nat.le_of_ble_eq_true rfl) rfl ⟨rfl, rfl⟩ (Nat.le_of_ble_eq_true rfl) (Nat.le_of_ble_eq_true rfl) rfl (by decide) nt w (fun t2 li2 => ?_)
  exact z_eq rfl (kN t2 li2)
set_option maxRecDepth 20000 in
set_option maxHeartbeats 1000000 in
theorem lc_20 {s0 s1 : Nat → Int32} {n i : Nat} {h : bh_H} {Q : bh_Q} (h1 : s1 0 = nI n) (hn : n < 10000) (hi : i + 6 ≤ n) (li : LI s0 s1 h) (kN : ∀ t, LI s0 s1 t → bg m_L_law 16 Q 1631 [.ref 1000, .ref 0, .ref 205, .int (nI i)] [] (228, 17198) t) : bg m_L_law 16 Q 798 [.ref 1000, .ref 0, .ref 205, .int (nI i)] [] (228, 17198) h := by
  refine z_aload (pc' := 799) rfl rfl rfl ?_
  refine z_aload (pc' := 800) rfl rfl rfl ?_
  refine z_iload (pc' := 801) rfl rfl rfl ?_
  refine z_int (pc' := 802) (v := nI 1) rfl rfl rfl ?_
  refine z_ib (pc' := 803) (v := nI (i + 1)) rfl rfl (nI_add i 1) ?_
  refine z_scr (pc' := 804) (n := n) (i := i + 1) rfl rfl li.s h1 hn (by omega) rfl ?_
  refine z_aload (pc' := 805) rfl rfl rfl ?_
  refine z_iload (pc' := 806) rfl rfl rfl ?_
  refine z_int (pc' := 807) (v := nI 2) rfl rfl rfl ?_
  refine z_ib (pc' := 808) (v := nI (i + 2)) rfl rfl (nI_add i 2) ?_
  refine z_scr (pc' := 809) (n := n) (i := i + 2) rfl rfl li.s h1 hn (by omega) rfl ?_
  refine z_aload (pc' := 810) rfl rfl rfl ?_
  refine z_iload (pc' := 811) rfl rfl rfl ?_
  refine z_int (pc' := 812) (v := nI 3) rfl rfl rfl ?_
  refine z_ib (pc' := 813) (v := nI (i + 3)) rfl rfl (nI_add i 3) ?_
  refine z_scr (pc' := 814) (n := n) (i := i + 3) rfl rfl li.s h1 hn (by omega) rfl ?_
  refine z_aload (pc' := 815) rfl rfl rfl ?_
  refine z_iload (pc' := 816) rfl rfl rfl ?_
  refine z_int (pc' := 817) (v := nI 4) rfl rfl rfl ?_
  refine z_ib (pc' := 818) (v := nI (i + 4)) rfl rfl (nI_add i 4) ?_
  refine z_scr (pc' := 819) (n := n) (i := i + 4) rfl rfl li.s h1 hn (by omega) rfl ?_
  refine z_aload (pc' := 820) rfl rfl rfl ?_
  refine z_iload (pc' := 821) rfl rfl rfl ?_
  refine z_int (pc' := 822) (v := nI 5) rfl rfl rfl ?_
  refine z_ib (pc' := 823) (v := nI (i + 5)) rfl rfl (nI_add i 5) ?_
  refine z_scr (pc' := 824) (n := n) (i := i + 5) rfl rfl li.s h1 hn (by omega) rfl ?_
  refine z_cC (pc' := 827) (Bs := [.int (s0 (i + 1)), .int (s0 (i + 2)), .int (s0 (i + 3)), .int (s0 (i + 4)), .int (s0 (i + 5))]) rfl rfl rfl rfl rfl rfl rfl ⟨rfl, rfl⟩ (Nat.le_of_ble_eq_true rfl) (Nat.le_of_ble_eq_true rfl) rfl (by decide) li.n (pr_trace li) (fun v t nt si w => ?_)
  refine z_aload (pc' := 828) rfl rfl rfl ?_
  refine z_aload (pc' := 829) rfl rfl rfl ?_
  refine z_iload (pc' := 830) rfl rfl rfl ?_
  refine z_int (pc' := 831) (v := nI 1) rfl rfl rfl ?_
  refine z_ib (pc' := 832) (v := nI (i + 1)) rfl rfl (nI_add i 1) ?_
  refine z_scr (pc' := 833) (n := n) (i := i + 1) rfl rfl si h1 hn (by omega) rfl ?_
  refine z_aload (pc' := 834) rfl rfl rfl ?_
  refine z_iload (pc' := 835) rfl rfl rfl ?_
  refine z_int (pc' := 836) (v := nI 2) rfl rfl rfl ?_
  refine z_ib (pc' := 837) (v := nI (i + 2)) rfl rfl (nI_add i 2) ?_
  refine z_scr (pc' := 838) (n := n) (i := i + 2) rfl rfl si h1 hn (by omega) rfl ?_
  refine z_aload (pc' := 839) rfl rfl rfl ?_
  refine z_iload (pc' := 840) rfl rfl rfl ?_
  refine z_int (pc' := 841) (v := nI 3) rfl rfl rfl ?_
  refine z_ib (pc' := 842) (v := nI (i + 3)) rfl rfl (nI_add i 3) ?_
  refine z_scr (pc' := 843) (n := n) (i := i + 3) rfl rfl si h1 hn (by omega) rfl ?_
  refine z_aload (pc' := 844) rfl rfl rfl ?_
  refine z_iload (pc' := 845) rfl rfl rfl ?_
  refine z_int (pc' := 846) (v := nI 4) rfl rfl rfl ?_
  refine z_ib (pc' := 847) (v := nI (i + 4)) rfl rfl (nI_add i 4) ?_
  refine z_scr (pc' := 848) (n := n) (i := i + 4) rfl rfl si h1 hn (by omega) rfl ?_
  refine z_aload (pc' := 849) rfl rfl rfl ?_
  refine z_iload (pc' := 850) rfl rfl rfl ?_
  refine z_int (pc' := 851) (v := nI 5) rfl rfl rfl ?_
  refine z_ib (pc' := 852) (v := nI (i + 5)) rfl rfl (nI_add i 5) ?_
  refine z_scr (pc' := 853) (n := n) (i := i + 5) rfl rfl si h1 hn (by omega) rfl ?_
  refine z_cM (pc' := 856) (Bs := [.int (s0 (i + 1)), .int (s0 (i + 2)), .int (s0 (i + 3)), .int (s0 (i + 4)), .int (s0 (i + 5))]) rfl rfl rfl rfl rfl rfl (Nat.le_of_ble_eq_true rfl) rfl ⟨rfl, rfl⟩ (Nat.le_of_ble_eq_true rfl) (Nat.le_of_ble_eq_true rfl) rfl (by decide) nt w (fun t2 li2 => ?_)
  exact z_eq rfl (kN t2 li2)
set_option maxRecDepth 20000 in
set_option maxHeartbeats 1000000 in
theorem lc_21 {s0 s1 : Nat → Int32} {n i : Nat} {h : bh_H} {Q : bh_Q} (h1 : s1 0 = nI n) (hn : n < 10000) (hi : i + 6 ≤ n) (li : LI s0 s1 h) (kN : ∀ t, LI s0 s1 t → bg m_L_law 16 Q 1631 [.ref 1000, .ref 0, .ref 205, .int (nI i)] [] (228, 17198) t) : bg m_L_law 16 Q 861 [.ref 1000, .ref 0, .ref 205, .int (nI i)] [] (228, 17198) h := by
  refine z_aload (pc' := 862) rfl rfl rfl ?_
  refine z_aload (pc' := 863) rfl rfl rfl ?_
  refine z_iload (pc' := 864) rfl rfl rfl ?_
  refine z_int (pc' := 865) (v := nI 1) rfl rfl rfl ?_
  refine z_ib (pc' := 866) (v := nI (i + 1)) rfl rfl (nI_add i 1) ?_
  refine z_scr (pc' := 867) (n := n) (i := i + 1) rfl rfl li.s h1 hn (by omega) rfl ?_
  refine z_aload (pc' := 868) rfl rfl rfl ?_
  refine z_iload (pc' := 869) rfl rfl rfl ?_
  refine z_int (pc' := 870) (v := nI 2) rfl rfl rfl ?_
  refine z_ib (pc' := 871) (v := nI (i + 2)) rfl rfl (nI_add i 2) ?_
  refine z_scr (pc' := 872) (n := n) (i := i + 2) rfl rfl li.s h1 hn (by omega) rfl ?_
  refine z_aload (pc' := 873) rfl rfl rfl ?_
  refine z_iload (pc' := 874) rfl rfl rfl ?_
  refine z_int (pc' := 875) (v := nI 3) rfl rfl rfl ?_
  refine z_ib (pc' := 876) (v := nI (i + 3)) rfl rfl (nI_add i 3) ?_
  refine z_scr (pc' := 877) (n := n) (i := i + 3) rfl rfl li.s h1 hn (by omega) rfl ?_
  refine z_cC (pc' := 880) (Bs := [.int (s0 (i + 1)), .int (s0 (i + 2)), .int (s0 (i + 3))]) rfl rfl rfl rfl rfl rfl rfl ⟨rfl, rfl⟩ (Nat.le_of_ble_eq_true rfl) (Nat.le_of_ble_eq_true rfl) rfl (by decide) li.n (pr_own li) (fun v t nt si w => ?_)
  refine z_aload (pc' := 881) rfl rfl rfl ?_
  refine z_aload (pc' := 882) rfl rfl rfl ?_
  refine z_iload (pc' := 883) rfl rfl rfl ?_
  refine z_int (pc' := 884) (v := nI 1) rfl rfl rfl ?_
  refine z_ib (pc' := 885) (v := nI (i + 1)) rfl rfl (nI_add i 1) ?_
  refine z_scr (pc' := 886) (n := n) (i := i + 1) rfl rfl si h1 hn (by omega) rfl ?_
  refine z_aload (pc' := 887) rfl rfl rfl ?_
  refine z_iload (pc' := 888) rfl rfl rfl ?_
  refine z_int (pc' := 889) (v := nI 2) rfl rfl rfl ?_
  refine z_ib (pc' := 890) (v := nI (i + 2)) rfl rfl (nI_add i 2) ?_
  refine z_scr (pc' := 891) (n := n) (i := i + 2) rfl rfl si h1 hn (by omega) rfl ?_
  refine z_aload (pc' := 892) rfl rfl rfl ?_
  refine z_iload (pc' := 893) rfl rfl rfl ?_
  refine z_int (pc' := 894) (v := nI 3) rfl rfl rfl ?_
  refine z_ib (pc' := 895) (v := nI (i + 3)) rfl rfl (nI_add i 3) ?_
  refine z_scr (pc' := 896) (n := n) (i := i + 3) rfl rfl si h1 hn (by omega) rfl ?_
  refine z_cM (pc' := 899) (Bs := [.int (s0 (i + 1)), .int (s0 (i + 2)), .int (s0 (i + 3))]) rfl rfl rfl rfl rfl rfl (Nat.le_of_ble_eq_true rfl) rfl ⟨rfl, rfl⟩ (Nat.le_of_ble_eq_true rfl) (Nat.le_of_ble_eq_true rfl) rfl (by decide) nt w (fun t2 li2 => ?_)
  exact z_eq rfl (kN t2 li2)
set_option maxRecDepth 20000 in
set_option maxHeartbeats 1000000 in
theorem lc_22 {s0 s1 : Nat → Int32} {n i : Nat} {h : bh_H} {Q : bh_Q} (h1 : s1 0 = nI n) (hn : n < 10000) (hi : i + 6 ≤ n) (li : LI s0 s1 h) (kN : ∀ t, LI s0 s1 t → bg m_L_law 16 Q 1631 [.ref 1000, .ref 0, .ref 205, .int (nI i)] [] (228, 17198) t) : bg m_L_law 16 Q 904 [.ref 1000, .ref 0, .ref 205, .int (nI i)] [] (228, 17198) h := by
  refine z_aload (pc' := 905) rfl rfl rfl ?_
  refine z_aload (pc' := 906) rfl rfl rfl ?_
  refine z_iload (pc' := 907) rfl rfl rfl ?_
  refine z_int (pc' := 908) (v := nI 1) rfl rfl rfl ?_
  refine z_ib (pc' := 909) (v := nI (i + 1)) rfl rfl (nI_add i 1) ?_
  refine z_scr (pc' := 910) (n := n) (i := i + 1) rfl rfl li.s h1 hn (by omega) rfl ?_
  refine z_aload (pc' := 911) rfl rfl rfl ?_
  refine z_iload (pc' := 912) rfl rfl rfl ?_
  refine z_int (pc' := 913) (v := nI 2) rfl rfl rfl ?_
  refine z_ib (pc' := 914) (v := nI (i + 2)) rfl rfl (nI_add i 2) ?_
  refine z_scr (pc' := 915) (n := n) (i := i + 2) rfl rfl li.s h1 hn (by omega) rfl ?_
  refine z_aload (pc' := 916) rfl rfl rfl ?_
  refine z_iload (pc' := 917) rfl rfl rfl ?_
  refine z_int (pc' := 918) (v := nI 3) rfl rfl rfl ?_
  refine z_ib (pc' := 919) (v := nI (i + 3)) rfl rfl (nI_add i 3) ?_
  refine z_scr (pc' := 920) (n := n) (i := i + 3) rfl rfl li.s h1 hn (by omega) rfl ?_
  refine z_cC (pc' := 923) (Bs := [.int (s0 (i + 1)), .int (s0 (i + 2)), .int (s0 (i + 3))]) rfl rfl rfl rfl rfl rfl rfl ⟨rfl, rfl⟩ (Nat.le_of_ble_eq_true rfl) (Nat.le_of_ble_eq_true rfl) rfl (by decide) li.n (pr_pay li) (fun v t nt si w => ?_)
  refine z_aload (pc' := 924) rfl rfl rfl ?_
  refine z_aload (pc' := 925) rfl rfl rfl ?_
  refine z_iload (pc' := 926) rfl rfl rfl ?_
  refine z_int (pc' := 927) (v := nI 1) rfl rfl rfl ?_
  refine z_ib (pc' := 928) (v := nI (i + 1)) rfl rfl (nI_add i 1) ?_
  refine z_scr (pc' := 929) (n := n) (i := i + 1) rfl rfl si h1 hn (by omega) rfl ?_
  refine z_aload (pc' := 930) rfl rfl rfl ?_
  refine z_iload (pc' := 931) rfl rfl rfl ?_
  refine z_int (pc' := 932) (v := nI 2) rfl rfl rfl ?_
  refine z_ib (pc' := 933) (v := nI (i + 2)) rfl rfl (nI_add i 2) ?_
  refine z_scr (pc' := 934) (n := n) (i := i + 2) rfl rfl si h1 hn (by omega) rfl ?_
  refine z_aload (pc' := 935) rfl rfl rfl ?_
  refine z_iload (pc' := 936) rfl rfl rfl ?_
  refine z_int (pc' := 937) (v := nI 3) rfl rfl rfl ?_
  refine z_ib (pc' := 938) (v := nI (i + 3)) rfl rfl (nI_add i 3) ?_
  refine z_scr (pc' := 939) (n := n) (i := i + 3) rfl rfl si h1 hn (by omega) rfl ?_
  refine z_cM (pc' := 942) (Bs := [.int (s0 (i + 1)), .int (s0 (i + 2)), .int (s0 (i + 3))]) rfl rfl rfl rfl rfl rfl (Nat.le_of_ble_eq_true rfl) rfl ⟨rfl, rfl⟩ (Nat.le_of_ble_eq_true rfl) (Nat.le_of_ble_eq_true rfl) rfl (by decide) nt w (fun t2 li2 => ?_)
  exact z_eq rfl (kN t2 li2)
set_option maxRecDepth 20000 in
set_option maxHeartbeats 1000000 in
theorem lc_23 {s0 s1 : Nat → Int32} {n i : Nat} {h : bh_H} {Q : bh_Q} (h1 : s1 0 = nI n) (hn : n < 10000) (hi : i + 6 ≤ n) (li : LI s0 s1 h) (kN : ∀ t, LI s0 s1 t → bg m_L_law 16 Q 1631 [.ref 1000, .ref 0, .ref 205, .int (nI i)] [] (228, 17198) t) : bg m_L_law 16 Q 947 [.ref 1000, .ref 0, .ref 205, .int (nI i)] [] (228, 17198) h := by
  refine z_aload (pc' := 948) rfl rfl rfl ?_
  refine z_aload (pc' := 949) rfl rfl rfl ?_
  refine z_iload (pc' := 950) rfl rfl rfl ?_
  refine z_int (pc' := 951) (v := nI 1) rfl rfl rfl ?_
  refine z_ib (pc' := 952) (v := nI (i + 1)) rfl rfl (nI_add i 1) ?_
  refine z_scr (pc' := 953) (n := n) (i := i + 1) rfl rfl li.s h1 hn (by omega) rfl ?_
  refine z_aload (pc' := 954) rfl rfl rfl ?_
  refine z_iload (pc' := 955) rfl rfl rfl ?_
  refine z_int (pc' := 956) (v := nI 2) rfl rfl rfl ?_
  refine z_ib (pc' := 957) (v := nI (i + 2)) rfl rfl (nI_add i 2) ?_
  refine z_scr (pc' := 958) (n := n) (i := i + 2) rfl rfl li.s h1 hn (by omega) rfl ?_
  refine z_cC (pc' := 961) (Bs := [.int (s0 (i + 1)), .int (s0 (i + 2))]) rfl rfl rfl rfl rfl rfl rfl ⟨rfl, rfl⟩ (Nat.le_of_ble_eq_true rfl) (Nat.le_of_ble_eq_true rfl) rfl (by decide) li.n (pr_alike li) (fun v t nt si w => ?_)
  refine z_aload (pc' := 962) rfl rfl rfl ?_
  refine z_aload (pc' := 963) rfl rfl rfl ?_
  refine z_iload (pc' := 964) rfl rfl rfl ?_
  refine z_int (pc' := 965) (v := nI 1) rfl rfl rfl ?_
  refine z_ib (pc' := 966) (v := nI (i + 1)) rfl rfl (nI_add i 1) ?_
  refine z_scr (pc' := 967) (n := n) (i := i + 1) rfl rfl si h1 hn (by omega) rfl ?_
  refine z_aload (pc' := 968) rfl rfl rfl ?_
  refine z_iload (pc' := 969) rfl rfl rfl ?_
  refine z_int (pc' := 970) (v := nI 2) rfl rfl rfl ?_
  refine z_ib (pc' := 971) (v := nI (i + 2)) rfl rfl (nI_add i 2) ?_
  refine z_scr (pc' := 972) (n := n) (i := i + 2) rfl rfl si h1 hn (by omega) rfl ?_
  refine z_cM (pc' := 975) (Bs := [.int (s0 (i + 1)), .int (s0 (i + 2))]) rfl rfl rfl rfl rfl rfl (Nat.le_of_ble_eq_true rfl) rfl ⟨rfl, rfl⟩ (Nat.le_of_ble_eq_true rfl) (Nat.le_of_ble_eq_true rfl) rfl (by decide) nt w (fun t2 li2 => ?_)
  exact z_eq rfl (kN t2 li2)
set_option maxRecDepth 20000 in
set_option maxHeartbeats 1000000 in
theorem lc_24 {s0 s1 : Nat → Int32} {n i : Nat} {h : bh_H} {Q : bh_Q} (h1 : s1 0 = nI n) (hn : n < 10000) (hi : i + 6 ≤ n) (li : LI s0 s1 h) (kN : ∀ t, LI s0 s1 t → bg m_L_law 16 Q 1631 [.ref 1000, .ref 0, .ref 205, .int (nI i)] [] (228, 17198) t) : bg m_L_law 16 Q 980 [.ref 1000, .ref 0, .ref 205, .int (nI i)] [] (228, 17198) h := by
  refine z_aload (pc' := 981) rfl rfl rfl ?_
  refine z_aload (pc' := 982) rfl rfl rfl ?_
  refine z_iload (pc' := 983) rfl rfl rfl ?_
  refine z_int (pc' := 984) (v := nI 1) rfl rfl rfl ?_
  refine z_ib (pc' := 985) (v := nI (i + 1)) rfl rfl (nI_add i 1) ?_
  refine z_scr (pc' := 986) (n := n) (i := i + 1) rfl rfl li.s h1 hn (by omega) rfl ?_
  refine z_aload (pc' := 987) rfl rfl rfl ?_
  refine z_iload (pc' := 988) rfl rfl rfl ?_
  refine z_int (pc' := 989) (v := nI 2) rfl rfl rfl ?_
  refine z_ib (pc' := 990) (v := nI (i + 2)) rfl rfl (nI_add i 2) ?_
  refine z_scr (pc' := 991) (n := n) (i := i + 2) rfl rfl li.s h1 hn (by omega) rfl ?_
  refine z_cC (pc' := 994) (Bs := [.int (s0 (i + 1)), .int (s0 (i + 2))]) rfl rfl rfl rfl rfl rfl rfl ⟨rfl, rfl⟩ (Nat.le_of_ble_eq_true rfl) (Nat.le_of_ble_eq_true rfl) rfl (by decide) li.n (pr_fits li) (fun v t nt si w => ?_)
  refine z_aload (pc' := 995) rfl rfl rfl ?_
  refine z_aload (pc' := 996) rfl rfl rfl ?_
  refine z_iload (pc' := 997) rfl rfl rfl ?_
  refine z_int (pc' := 998) (v := nI 1) rfl rfl rfl ?_
  refine z_ib (pc' := 999) (v := nI (i + 1)) rfl rfl (nI_add i 1) ?_
  refine z_scr (pc' := 1000) (n := n) (i := i + 1) rfl rfl si h1 hn (by omega) rfl ?_
  refine z_aload (pc' := 1001) rfl rfl rfl ?_
  refine z_iload (pc' := 1002) rfl rfl rfl ?_
  refine z_int (pc' := 1003) (v := nI 2) rfl rfl rfl ?_
  refine z_ib (pc' := 1004) (v := nI (i + 2)) rfl rfl (nI_add i 2) ?_
  refine z_scr (pc' := 1005) (n := n) (i := i + 2) rfl rfl si h1 hn (by omega) rfl ?_
  refine z_cM (pc' := 1008) (Bs := [.int (s0 (i + 1)), .int (s0 (i + 2))]) rfl rfl rfl rfl rfl rfl (Nat.le_of_ble_eq_true rfl) rfl ⟨rfl, rfl⟩ (Nat.le_of_ble_eq_true rfl) (Nat.le_of_ble_eq_true rfl) rfl (by decide) nt w (fun t2 li2 => ?_)
  exact z_eq rfl (kN t2 li2)
set_option maxRecDepth 20000 in
set_option maxHeartbeats 1000000 in
theorem lc_25 {s0 s1 : Nat → Int32} {n i : Nat} {h : bh_H} {Q : bh_Q} (h1 : s1 0 = nI n) (hn : n < 10000) (hi : i + 6 ≤ n) (li : LI s0 s1 h) (kN : ∀ t, LI s0 s1 t → bg m_L_law 16 Q 1631 [.ref 1000, .ref 0, .ref 205, .int (nI i)] [] (228, 17198) t) : bg m_L_law 16 Q 1013 [.ref 1000, .ref 0, .ref 205, .int (nI i)] [] (228, 17198) h := by
  refine z_aload (pc' := 1014) rfl rfl rfl ?_
  refine z_aload (pc' := 1015) rfl rfl rfl ?_
  refine z_iload (pc' := 1016) rfl rfl rfl ?_
  refine z_int (pc' := 1017) (v := nI 1) rfl rfl rfl ?_
  refine z_ib (pc' := 1018) (v := nI (i + 1)) rfl rfl (nI_add i 1) ?_
  refine z_scr (pc' := 1019) (n := n) (i := i + 1) rfl rfl li.s h1 hn (by omega) rfl ?_
  refine z_aload (pc' := 1020) rfl rfl rfl ?_
  refine z_iload (pc' := 1021) rfl rfl rfl ?_
  refine z_int (pc' := 1022) (v := nI 2) rfl rfl rfl ?_
  refine z_ib (pc' := 1023) (v := nI (i + 2)) rfl rfl (nI_add i 2) ?_
  refine z_scr (pc' := 1024) (n := n) (i := i + 2) rfl rfl li.s h1 hn (by omega) rfl ?_
  refine z_cC (pc' := 1027) (Bs := [.int (s0 (i + 1)), .int (s0 (i + 2))]) rfl rfl rfl rfl rfl rfl rfl ⟨rfl, rfl⟩ (Nat.le_of_ble_eq_true rfl) (Nat.le_of_ble_eq_true rfl) rfl (by decide) li.n (pr_likeliest li) (fun v t nt si w => ?_)
  refine z_aload (pc' := 1028) rfl rfl rfl ?_
  refine z_aload (pc' := 1029) rfl rfl rfl ?_
  refine z_iload (pc' := 1030) rfl rfl rfl ?_
  refine z_int (pc' := 1031) (v := nI 1) rfl rfl rfl ?_
  refine z_ib (pc' := 1032) (v := nI (i + 1)) rfl rfl (nI_add i 1) ?_
  refine z_scr (pc' := 1033) (n := n) (i := i + 1) rfl rfl si h1 hn (by omega) rfl ?_
  refine z_aload (pc' := 1034) rfl rfl rfl ?_
  refine z_iload (pc' := 1035) rfl rfl rfl ?_
  refine z_int (pc' := 1036) (v := nI 2) rfl rfl rfl ?_
  refine z_ib (pc' := 1037) (v := nI (i + 2)) rfl rfl (nI_add i 2) ?_
  refine z_scr (pc' := 1038) (n := n) (i := i + 2) rfl rfl si h1 hn (by omega) rfl ?_
  refine z_cM (pc' := 1041) (Bs := [.int (s0 (i + 1)), .int (s0 (i + 2))]) rfl rfl rfl rfl rfl rfl (Nat.le_of_ble_eq_true rfl) rfl ⟨rfl, rfl⟩ (Nat.le_of_ble_eq_true rfl) (Nat.le_of_ble_eq_true rfl) rfl (by decide) nt w (fun t2 li2 => ?_)
  exact z_eq rfl (kN t2 li2)
set_option maxRecDepth 20000 in
set_option maxHeartbeats 1000000 in
theorem lc_26 {s0 s1 : Nat → Int32} {n i : Nat} {h : bh_H} {Q : bh_Q} (h1 : s1 0 = nI n) (hn : n < 10000) (hi : i + 6 ≤ n) (li : LI s0 s1 h) (kN : ∀ t, LI s0 s1 t → bg m_L_law 16 Q 1631 [.ref 1000, .ref 0, .ref 205, .int (nI i)] [] (228, 17198) t) : bg m_L_law 16 Q 1046 [.ref 1000, .ref 0, .ref 205, .int (nI i)] [] (228, 17198) h := by
  refine z_aload (pc' := 1047) rfl rfl rfl ?_
  refine z_aload (pc' := 1048) rfl rfl rfl ?_
  refine z_iload (pc' := 1049) rfl rfl rfl ?_
  refine z_int (pc' := 1050) (v := nI 1) rfl rfl rfl ?_
  refine z_ib (pc' := 1051) (v := nI (i + 1)) rfl rfl (nI_add i 1) ?_
  refine z_scr (pc' := 1052) (n := n) (i := i + 1) rfl rfl li.s h1 hn (by omega) rfl ?_
  refine z_aload (pc' := 1053) rfl rfl rfl ?_
  refine z_iload (pc' := 1054) rfl rfl rfl ?_
  refine z_int (pc' := 1055) (v := nI 2) rfl rfl rfl ?_
  refine z_ib (pc' := 1056) (v := nI (i + 2)) rfl rfl (nI_add i 2) ?_
  refine z_scr (pc' := 1057) (n := n) (i := i + 2) rfl rfl li.s h1 hn (by omega) rfl ?_
  refine z_cL (pc' := 1060) (Bs := [.int (s0 (i + 1)), .int (s0 (i + 2))]) rfl rfl rfl rfl rfl rfl rfl ⟨rfl, rfl⟩ (Nat.le_of_ble_eq_true rfl) (Nat.le_of_ble_eq_true rfl) rfl (by decide) li.n (pr_matches li) (fun v t nt si w => ?_)
  refine z_aload (pc' := 1061) rfl rfl rfl ?_
  refine z_aload (pc' := 1062) rfl rfl rfl ?_
  refine z_iload (pc' := 1063) rfl rfl rfl ?_
  refine z_int (pc' := 1064) (v := nI 1) rfl rfl rfl ?_
  refine z_ib (pc' := 1065) (v := nI (i + 1)) rfl rfl (nI_add i 1) ?_
  refine z_scr (pc' := 1066) (n := n) (i := i + 1) rfl rfl si h1 hn (by omega) rfl ?_
  refine z_aload (pc' := 1067) rfl rfl rfl ?_
  refine z_iload (pc' := 1068) rfl rfl rfl ?_
  refine z_int (pc' := 1069) (v := nI 2) rfl rfl rfl ?_
  refine z_ib (pc' := 1070) (v := nI (i + 2)) rfl rfl (nI_add i 2) ?_
  refine z_scr (pc' := 1071) (n := n) (i := i + 2) rfl rfl si h1 hn (by omega) rfl ?_
  refine z_cM (pc' := 1074) (Bs := [.int (s0 (i + 1)), .int (s0 (i + 2))]) rfl rfl rfl rfl rfl rfl (Nat.le_of_ble_eq_true rfl) rfl ⟨rfl, rfl⟩ (Nat.le_of_ble_eq_true rfl) (Nat.le_of_ble_eq_true rfl) rfl (by decide) nt w (fun t2 li2 => ?_)
  refine z_lcmp (pc' := 1075) rfl rfl ?_
  exact z_if0 rfl (kN t2 li2)
set_option maxRecDepth 20000 in
set_option maxHeartbeats 1000000 in
theorem lc_27 {s0 s1 : Nat → Int32} {n i : Nat} {h : bh_H} {Q : bh_Q} (h1 : s1 0 = nI n) (hn : n < 10000) (hi : i + 6 ≤ n) (li : LI s0 s1 h) (kN : ∀ t, LI s0 s1 t → bg m_L_law 16 Q 1631 [.ref 1000, .ref 0, .ref 205, .int (nI i)] [] (228, 17198) t) : bg m_L_law 16 Q 1080 [.ref 1000, .ref 0, .ref 205, .int (nI i)] [] (228, 17198) h := by
  refine z_aload (pc' := 1081) rfl rfl rfl ?_
  refine z_aload (pc' := 1082) rfl rfl rfl ?_
  refine z_iload (pc' := 1083) rfl rfl rfl ?_
  refine z_int (pc' := 1084) (v := nI 1) rfl rfl rfl ?_
  refine z_ib (pc' := 1085) (v := nI (i + 1)) rfl rfl (nI_add i 1) ?_
  refine z_scr (pc' := 1086) (n := n) (i := i + 1) rfl rfl li.s h1 hn (by omega) rfl ?_
  refine z_aload (pc' := 1087) rfl rfl rfl ?_
  refine z_iload (pc' := 1088) rfl rfl rfl ?_
  refine z_int (pc' := 1089) (v := nI 2) rfl rfl rfl ?_
  refine z_ib (pc' := 1090) (v := nI (i + 2)) rfl rfl (nI_add i 2) ?_
  refine z_scr (pc' := 1091) (n := n) (i := i + 2) rfl rfl li.s h1 hn (by omega) rfl ?_
  refine z_cL (pc' := 1094) (Bs := [.int (s0 (i + 1)), .int (s0 (i + 2))]) rfl rfl rfl rfl rfl rfl rfl ⟨rfl, rfl⟩ (Nat.le_of_ble_eq_true rfl) (Nat.le_of_ble_eq_true rfl) rfl (by decide) li.n (pr_trees li) (fun v t nt si w => ?_)
  refine z_aload (pc' := 1095) rfl rfl rfl ?_
  refine z_aload (pc' := 1096) rfl rfl rfl ?_
  refine z_iload (pc' := 1097) rfl rfl rfl ?_
  refine z_int (pc' := 1098) (v := nI 1) rfl rfl rfl ?_
  refine z_ib (pc' := 1099) (v := nI (i + 1)) rfl rfl (nI_add i 1) ?_
  refine z_scr (pc' := 1100) (n := n) (i := i + 1) rfl rfl si h1 hn (by omega) rfl ?_
  refine z_aload (pc' := 1101) rfl rfl rfl ?_
  refine z_iload (pc' := 1102) rfl rfl rfl ?_
  refine z_int (pc' := 1103) (v := nI 2) rfl rfl rfl ?_
  refine z_ib (pc' := 1104) (v := nI (i + 2)) rfl rfl (nI_add i 2) ?_
  refine z_scr (pc' := 1105) (n := n) (i := i + 2) rfl rfl si h1 hn (by omega) rfl ?_
  refine z_cM (pc' := 1108) (Bs := [.int (s0 (i + 1)), .int (s0 (i + 2))]) rfl rfl rfl rfl rfl rfl (Nat.le_of_ble_eq_true rfl) rfl ⟨rfl, rfl⟩ (Nat.le_of_ble_eq_true rfl) (Nat.le_of_ble_eq_true rfl) rfl (by decide) nt w (fun t2 li2 => ?_)
  refine z_lcmp (pc' := 1109) rfl rfl ?_
  exact z_if0 rfl (kN t2 li2)
set_option maxRecDepth 20000 in
set_option maxHeartbeats 1000000 in
theorem lc_28 {s0 s1 : Nat → Int32} {n i : Nat} {h : bh_H} {Q : bh_Q} (h1 : s1 0 = nI n) (hn : n < 10000) (hi : i + 6 ≤ n) (li : LI s0 s1 h) (kN : ∀ t, LI s0 s1 t → bg m_L_law 16 Q 1631 [.ref 1000, .ref 0, .ref 205, .int (nI i)] [] (228, 17198) t) : bg m_L_law 16 Q 1114 [.ref 1000, .ref 0, .ref 205, .int (nI i)] [] (228, 17198) h := by
  refine z_aload (pc' := 1115) rfl rfl rfl ?_
  refine z_aload (pc' := 1116) rfl rfl rfl ?_
  refine z_iload (pc' := 1117) rfl rfl rfl ?_
  refine z_int (pc' := 1118) (v := nI 1) rfl rfl rfl ?_
  refine z_ib (pc' := 1119) (v := nI (i + 1)) rfl rfl (nI_add i 1) ?_
  refine z_scr (pc' := 1120) (n := n) (i := i + 1) rfl rfl li.s h1 hn (by omega) rfl ?_
  refine z_aload (pc' := 1121) rfl rfl rfl ?_
  refine z_iload (pc' := 1122) rfl rfl rfl ?_
  refine z_int (pc' := 1123) (v := nI 2) rfl rfl rfl ?_
  refine z_ib (pc' := 1124) (v := nI (i + 2)) rfl rfl (nI_add i 2) ?_
  refine z_scr (pc' := 1125) (n := n) (i := i + 2) rfl rfl li.s h1 hn (by omega) rfl ?_
  refine z_aload (pc' := 1126) rfl rfl rfl ?_
  refine z_iload (pc' := 1127) rfl rfl rfl ?_
  refine z_int (pc' := 1128) (v := nI 3) rfl rfl rfl ?_
  refine z_ib (pc' := 1129) (v := nI (i + 3)) rfl rfl (nI_add i 3) ?_
  refine z_scr (pc' := 1130) (n := n) (i := i + 3) rfl rfl li.s h1 hn (by omega) rfl ?_
  refine z_cC (pc' := 1133) (Bs := [.int (s0 (i + 1)), .int (s0 (i + 2)), .int (s0 (i + 3))]) rfl rfl rfl rfl rfl rfl rfl ⟨rfl, rfl⟩ (Nat.le_of_ble_eq_true rfl) (Nat.le_of_ble_eq_true rfl) rfl (by decide) li.n (pr_under li) (fun v t nt si w => ?_)
  refine z_aload (pc' := 1134) rfl rfl rfl ?_
  refine z_aload (pc' := 1135) rfl rfl rfl ?_
  refine z_iload (pc' := 1136) rfl rfl rfl ?_
  refine z_int (pc' := 1137) (v := nI 1) rfl rfl rfl ?_
  refine z_ib (pc' := 1138) (v := nI (i + 1)) rfl rfl (nI_add i 1) ?_
  refine z_scr (pc' := 1139) (n := n) (i := i + 1) rfl rfl si h1 hn (by omega) rfl ?_
  refine z_aload (pc' := 1140) rfl rfl rfl ?_
  refine z_iload (pc' := 1141) rfl rfl rfl ?_
  refine z_int (pc' := 1142) (v := nI 2) rfl rfl rfl ?_
  refine z_ib (pc' := 1143) (v := nI (i + 2)) rfl rfl (nI_add i 2) ?_
  refine z_scr (pc' := 1144) (n := n) (i := i + 2) rfl rfl si h1 hn (by omega) rfl ?_
  refine z_aload (pc' := 1145) rfl rfl rfl ?_
  refine z_iload (pc' := 1146) rfl rfl rfl ?_
  refine z_int (pc' := 1147) (v := nI 3) rfl rfl rfl ?_
  refine z_ib (pc' := 1148) (v := nI (i + 3)) rfl rfl (nI_add i 3) ?_
  refine z_scr (pc' := 1149) (n := n) (i := i + 3) rfl rfl si h1 hn (by omega) rfl ?_
  refine z_cM (pc' := 1152) (Bs := [.int (s0 (i + 1)), .int (s0 (i + 2)), .int (s0 (i + 3))]) rfl rfl rfl rfl rfl rfl (Nat.le_of_ble_eq_true rfl) rfl ⟨rfl, rfl⟩ (Nat.le_of_ble_eq_true rfl) (Nat.le_of_ble_eq_true rfl) rfl (by decide) nt w (fun t2 li2 => ?_)
  exact z_eq rfl (kN t2 li2)
set_option maxRecDepth 20000 in
set_option maxHeartbeats 1000000 in
theorem lc_29 {s0 s1 : Nat → Int32} {n i : Nat} {h : bh_H} {Q : bh_Q} (h1 : s1 0 = nI n) (hn : n < 10000) (hi : i + 6 ≤ n) (li : LI s0 s1 h) (kN : ∀ t, LI s0 s1 t → bg m_L_law 16 Q 1631 [.ref 1000, .ref 0, .ref 205, .int (nI i)] [] (228, 17198) t) : bg m_L_law 16 Q 1157 [.ref 1000, .ref 0, .ref 205, .int (nI i)] [] (228, 17198) h := by
  refine z_aload (pc' := 1158) rfl rfl rfl ?_
  refine z_aload (pc' := 1159) rfl rfl rfl ?_
  refine z_iload (pc' := 1160) rfl rfl rfl ?_
  refine z_int (pc' := 1161) (v := nI 1) rfl rfl rfl ?_
  refine z_ib (pc' := 1162) (v := nI (i + 1)) rfl rfl (nI_add i 1) ?_
  refine z_scr (pc' := 1163) (n := n) (i := i + 1) rfl rfl li.s h1 hn (by omega) rfl ?_
  refine z_aload (pc' := 1164) rfl rfl rfl ?_
  refine z_iload (pc' := 1165) rfl rfl rfl ?_
  refine z_int (pc' := 1166) (v := nI 2) rfl rfl rfl ?_
  refine z_ib (pc' := 1167) (v := nI (i + 2)) rfl rfl (nI_add i 2) ?_
  refine z_scr (pc' := 1168) (n := n) (i := i + 2) rfl rfl li.s h1 hn (by omega) rfl ?_
  refine z_aload (pc' := 1169) rfl rfl rfl ?_
  refine z_iload (pc' := 1170) rfl rfl rfl ?_
  refine z_int (pc' := 1171) (v := nI 3) rfl rfl rfl ?_
  refine z_ib (pc' := 1172) (v := nI (i + 3)) rfl rfl (nI_add i 3) ?_
  refine z_scr (pc' := 1173) (n := n) (i := i + 3) rfl rfl li.s h1 hn (by omega) rfl ?_
  refine z_cC (pc' := 1176) (Bs := [.int (s0 (i + 1)), .int (s0 (i + 2)), .int (s0 (i + 3))]) rfl rfl rfl rfl rfl rfl rfl ⟨rfl, rfl⟩ (Nat.le_of_ble_eq_true rfl) (Nat.le_of_ble_eq_true rfl) rfl (by decide) li.n (pr_breaks li) (fun v t nt si w => ?_)
  refine z_aload (pc' := 1177) rfl rfl rfl ?_
  refine z_aload (pc' := 1178) rfl rfl rfl ?_
  refine z_iload (pc' := 1179) rfl rfl rfl ?_
  refine z_int (pc' := 1180) (v := nI 1) rfl rfl rfl ?_
  refine z_ib (pc' := 1181) (v := nI (i + 1)) rfl rfl (nI_add i 1) ?_
  refine z_scr (pc' := 1182) (n := n) (i := i + 1) rfl rfl si h1 hn (by omega) rfl ?_
  refine z_aload (pc' := 1183) rfl rfl rfl ?_
  refine z_iload (pc' := 1184) rfl rfl rfl ?_
  refine z_int (pc' := 1185) (v := nI 2) rfl rfl rfl ?_
  refine z_ib (pc' := 1186) (v := nI (i + 2)) rfl rfl (nI_add i 2) ?_
  refine z_scr (pc' := 1187) (n := n) (i := i + 2) rfl rfl si h1 hn (by omega) rfl ?_
  refine z_aload (pc' := 1188) rfl rfl rfl ?_
  refine z_iload (pc' := 1189) rfl rfl rfl ?_
  refine z_int (pc' := 1190) (v := nI 3) rfl rfl rfl ?_
  refine z_ib (pc' := 1191) (v := nI (i + 3)) rfl rfl (nI_add i 3) ?_
  refine z_scr (pc' := 1192) (n := n) (i := i + 3) rfl rfl si h1 hn (by omega) rfl ?_
  refine z_cM (pc' := 1195) (Bs := [.int (s0 (i + 1)), .int (s0 (i + 2)), .int (s0 (i + 3))]) rfl rfl rfl rfl rfl rfl (Nat.le_of_ble_eq_true rfl) rfl ⟨rfl, rfl⟩ (Nat.le_of_ble_eq_true rfl) (Nat.le_of_ble_eq_true rfl) rfl (by decide) nt w (fun t2 li2 => ?_)
  exact z_eq rfl (kN t2 li2)
set_option maxRecDepth 20000 in
set_option maxHeartbeats 1000000 in
theorem lc_30 {s0 s1 : Nat → Int32} {n i : Nat} {h : bh_H} {Q : bh_Q} (h1 : s1 0 = nI n) (hn : n < 10000) (hi : i + 6 ≤ n) (li : LI s0 s1 h) (kN : ∀ t, LI s0 s1 t → bg m_L_law 16 Q 1631 [.ref 1000, .ref 0, .ref 205, .int (nI i)] [] (228, 17198) t) : bg m_L_law 16 Q 1200 [.ref 1000, .ref 0, .ref 205, .int (nI i)] [] (228, 17198) h := by
  refine z_aload (pc' := 1201) rfl rfl rfl ?_
  refine z_aload (pc' := 1202) rfl rfl rfl ?_
  refine z_iload (pc' := 1203) rfl rfl rfl ?_
  refine z_int (pc' := 1204) (v := nI 1) rfl rfl rfl ?_
  refine z_ib (pc' := 1205) (v := nI (i + 1)) rfl rfl (nI_add i 1) ?_
  refine z_scr (pc' := 1206) (n := n) (i := i + 1) rfl rfl li.s h1 hn (by omega) rfl ?_
  refine z_aload (pc' := 1207) rfl rfl rfl ?_
  refine z_iload (pc' := 1208) rfl rfl rfl ?_
  refine z_int (pc' := 1209) (v := nI 2) rfl rfl rfl ?_
  refine z_ib (pc' := 1210) (v := nI (i + 2)) rfl rfl (nI_add i 2) ?_
  refine z_scr (pc' := 1211) (n := n) (i := i + 2) rfl rfl li.s h1 hn (by omega) rfl ?_
  refine z_aload (pc' := 1212) rfl rfl rfl ?_
  refine z_iload (pc' := 1213) rfl rfl rfl ?_
  refine z_int (pc' := 1214) (v := nI 3) rfl rfl rfl ?_
  refine z_ib (pc' := 1215) (v := nI (i + 3)) rfl rfl (nI_add i 3) ?_
  refine z_scr (pc' := 1216) (n := n) (i := i + 3) rfl rfl li.s h1 hn (by omega) rfl ?_
  refine z_aload (pc' := 1217) rfl rfl rfl ?_
  refine z_iload (pc' := 1218) rfl rfl rfl ?_
  refine z_int (pc' := 1219) (v := nI 4) rfl rfl rfl ?_
  refine z_ib (pc' := 1220) (v := nI (i + 4)) rfl rfl (nI_add i 4) ?_
  refine z_scr (pc' := 1221) (n := n) (i := i + 4) rfl rfl li.s h1 hn (by omega) rfl ?_
  refine z_cL (pc' := 1224) (Bs := [.int (s0 (i + 1)), .int (s0 (i + 2)), .int (s0 (i + 3)), .int (s0 (i + 4))]) rfl rfl rfl rfl rfl rfl rfl ⟨rfl, rfl⟩ (Nat.le_of_ble_eq_true rfl) (Nat.le_of_ble_eq_true rfl) rfl (by decide) li.n (pr_untangle li) (fun v t nt si w => ?_)
  refine z_aload (pc' := 1225) rfl rfl rfl ?_
  refine z_aload (pc' := 1226) rfl rfl rfl ?_
  refine z_iload (pc' := 1227) rfl rfl rfl ?_
  refine z_int (pc' := 1228) (v := nI 1) rfl rfl rfl ?_
  refine z_ib (pc' := 1229) (v := nI (i + 1)) rfl rfl (nI_add i 1) ?_
  refine z_scr (pc' := 1230) (n := n) (i := i + 1) rfl rfl si h1 hn (by omega) rfl ?_
  refine z_aload (pc' := 1231) rfl rfl rfl ?_
  refine z_iload (pc' := 1232) rfl rfl rfl ?_
  refine z_int (pc' := 1233) (v := nI 2) rfl rfl rfl ?_
  refine z_ib (pc' := 1234) (v := nI (i + 2)) rfl rfl (nI_add i 2) ?_
  refine z_scr (pc' := 1235) (n := n) (i := i + 2) rfl rfl si h1 hn (by omega) rfl ?_
  refine z_aload (pc' := 1236) rfl rfl rfl ?_
  refine z_iload (pc' := 1237) rfl rfl rfl ?_
  refine z_int (pc' := 1238) (v := nI 3) rfl rfl rfl ?_
  refine z_ib (pc' := 1239) (v := nI (i + 3)) rfl rfl (nI_add i 3) ?_
  refine z_scr (pc' := 1240) (n := n) (i := i + 3) rfl rfl si h1 hn (by omega) rfl ?_
  refine z_aload (pc' := 1241) rfl rfl rfl ?_
  refine z_iload (pc' := 1242) rfl rfl rfl ?_
  refine z_int (pc' := 1243) (v := nI 4) rfl rfl rfl ?_
  refine z_ib (pc' := 1244) (v := nI (i + 4)) rfl rfl (nI_add i 4) ?_
  refine z_scr (pc' := 1245) (n := n) (i := i + 4) rfl rfl si h1 hn (by omega) rfl ?_
  refine z_cM (pc' := 1248) (Bs := [.int (s0 (i + 1)), .int (s0 (i + 2)), .int (s0 (i + 3)), .int (s0 (i + 4))]) rfl rfl rfl rfl rfl rfl (Nat.le_of_ble_eq_true rfl) rfl ⟨rfl, rfl⟩ (Nat.le_of_ble_eq_true rfl) (Nat.le_of_ble_eq_true rfl) rfl (by decide) nt w (fun t2 li2 => ?_)
  refine z_lcmp (pc' := 1249) rfl rfl ?_
  exact z_if0 rfl (kN t2 li2)
set_option maxRecDepth 20000 in
set_option maxHeartbeats 1000000 in
theorem lc_31 {s0 s1 : Nat → Int32} {n i : Nat} {h : bh_H} {Q : bh_Q} (h1 : s1 0 = nI n) (hn : n < 10000) (hi : i + 6 ≤ n) (li : LI s0 s1 h) (kN : ∀ t, LI s0 s1 t → bg m_L_law 16 Q 1631 [.ref 1000, .ref 0, .ref 205, .int (nI i)] [] (228, 17198) t) : bg m_L_law 16 Q 1254 [.ref 1000, .ref 0, .ref 205, .int (nI i)] [] (228, 17198) h := by
  refine z_aload (pc' := 1255) rfl rfl rfl ?_
  refine z_aload (pc' := 1256) rfl rfl rfl ?_
  refine z_iload (pc' := 1257) rfl rfl rfl ?_
  refine z_int (pc' := 1258) (v := nI 1) rfl rfl rfl ?_
  refine z_ib (pc' := 1259) (v := nI (i + 1)) rfl rfl (nI_add i 1) ?_
  refine z_scr (pc' := 1260) (n := n) (i := i + 1) rfl rfl li.s h1 hn (by omega) rfl ?_
  refine z_aload (pc' := 1261) rfl rfl rfl ?_
  refine z_iload (pc' := 1262) rfl rfl rfl ?_
  refine z_int (pc' := 1263) (v := nI 2) rfl rfl rfl ?_
  refine z_ib (pc' := 1264) (v := nI (i + 2)) rfl rfl (nI_add i 2) ?_
  refine z_scr (pc' := 1265) (n := n) (i := i + 2) rfl rfl li.s h1 hn (by omega) rfl ?_
  refine z_aload (pc' := 1266) rfl rfl rfl ?_
  refine z_iload (pc' := 1267) rfl rfl rfl ?_
  refine z_int (pc' := 1268) (v := nI 3) rfl rfl rfl ?_
  refine z_ib (pc' := 1269) (v := nI (i + 3)) rfl rfl (nI_add i 3) ?_
  refine z_scr (pc' := 1270) (n := n) (i := i + 3) rfl rfl li.s h1 hn (by omega) rfl ?_
  refine z_cC (pc' := 1273) (Bs := [.int (s0 (i + 1)), .int (s0 (i + 2)), .int (s0 (i + 3))]) rfl rfl rfl rfl rfl rfl rfl ⟨rfl, rfl⟩ (Nat.le_of_ble_eq_true rfl) (Nat.le_of_ble_eq_true rfl) rfl (by decide) li.n (pr_tells li) (fun v t nt si w => ?_)
  refine z_aload (pc' := 1274) rfl rfl rfl ?_
  refine z_aload (pc' := 1275) rfl rfl rfl ?_
  refine z_iload (pc' := 1276) rfl rfl rfl ?_
  refine z_int (pc' := 1277) (v := nI 1) rfl rfl rfl ?_
  refine z_ib (pc' := 1278) (v := nI (i + 1)) rfl rfl (nI_add i 1) ?_
  refine z_scr (pc' := 1279) (n := n) (i := i + 1) rfl rfl si h1 hn (by omega) rfl ?_
  refine z_aload (pc' := 1280) rfl rfl rfl ?_
  refine z_iload (pc' := 1281) rfl rfl rfl ?_
  refine z_int (pc' := 1282) (v := nI 2) rfl rfl rfl ?_
  refine z_ib (pc' := 1283) (v := nI (i + 2)) rfl rfl (nI_add i 2) ?_
  refine z_scr (pc' := 1284) (n := n) (i := i + 2) rfl rfl si h1 hn (by omega) rfl ?_
  refine z_aload (pc' := 1285) rfl rfl rfl ?_
  refine z_iload (pc' := 1286) rfl rfl rfl ?_
  refine z_int (pc' := 1287) (v := nI 3) rfl rfl rfl ?_
  refine z_ib (pc' := 1288) (v := nI (i + 3)) rfl rfl (nI_add i 3) ?_
  refine z_scr (pc' := 1289) (n := n) (i := i + 3) rfl rfl si h1 hn (by omega) rfl ?_
  refine z_cM (pc' := 1292) (Bs := [.int (s0 (i + 1)), .int (s0 (i + 2)), .int (s0 (i + 3))]) rfl rfl rfl rfl rfl rfl (Nat.le_of_ble_eq_true rfl) rfl ⟨rfl, rfl⟩ (Nat.le_of_ble_eq_true rfl) (Nat.le_of_ble_eq_true rfl) rfl (by decide) nt w (fun t2 li2 => ?_)
  exact z_eq rfl (kN t2 li2)
set_option maxRecDepth 20000 in
set_option maxHeartbeats 1000000 in
theorem lc_32 {s0 s1 : Nat → Int32} {n i : Nat} {h : bh_H} {Q : bh_Q} (h1 : s1 0 = nI n) (hn : n < 10000) (hi : i + 6 ≤ n) (li : LI s0 s1 h) (kN : ∀ t, LI s0 s1 t → bg m_L_law 16 Q 1631 [.ref 1000, .ref 0, .ref 205, .int (nI i)] [] (228, 17198) t) : bg m_L_law 16 Q 1297 [.ref 1000, .ref 0, .ref 205, .int (nI i)] [] (228, 17198) h := by
  refine z_aload (pc' := 1298) rfl rfl rfl ?_
  refine z_aload (pc' := 1299) rfl rfl rfl ?_
  refine z_iload (pc' := 1300) rfl rfl rfl ?_
  refine z_int (pc' := 1301) (v := nI 1) rfl rfl rfl ?_
  refine z_ib (pc' := 1302) (v := nI (i + 1)) rfl rfl (nI_add i 1) ?_
  refine z_scr (pc' := 1303) (n := n) (i := i + 1) rfl rfl li.s h1 hn (by omega) rfl ?_
  refine z_aload (pc' := 1304) rfl rfl rfl ?_
  refine z_iload (pc' := 1305) rfl rfl rfl ?_
  refine z_int (pc' := 1306) (v := nI 2) rfl rfl rfl ?_
  refine z_ib (pc' := 1307) (v := nI (i + 2)) rfl rfl (nI_add i 2) ?_
  refine z_scr (pc' := 1308) (n := n) (i := i + 2) rfl rfl li.s h1 hn (by omega) rfl ?_
  refine z_aload (pc' := 1309) rfl rfl rfl ?_
  refine z_iload (pc' := 1310) rfl rfl rfl ?_
  refine z_int (pc' := 1311) (v := nI 3) rfl rfl rfl ?_
  refine z_ib (pc' := 1312) (v := nI (i + 3)) rfl rfl (nI_add i 3) ?_
  refine z_scr (pc' := 1313) (n := n) (i := i + 3) rfl rfl li.s h1 hn (by omega) rfl ?_
  refine z_aload (pc' := 1314) rfl rfl rfl ?_
  refine z_iload (pc' := 1315) rfl rfl rfl ?_
  refine z_int (pc' := 1316) (v := nI 4) rfl rfl rfl ?_
  refine z_ib (pc' := 1317) (v := nI (i + 4)) rfl rfl (nI_add i 4) ?_
  refine z_scr (pc' := 1318) (n := n) (i := i + 4) rfl rfl li.s h1 hn (by omega) rfl ?_
  refine z_aload (pc' := 1319) rfl rfl rfl ?_
  refine z_iload (pc' := 1320) rfl rfl rfl ?_
  refine z_int (pc' := 1321) (v := nI 5) rfl rfl rfl ?_
  refine z_ib (pc' := 1322) (v := nI (i + 5)) rfl rfl (nI_add i 5) ?_
  refine z_scr (pc' := 1323) (n := n) (i := i + 5) rfl rfl li.s h1 hn (by omega) rfl ?_
  refine z_cC (pc' := 1326) (Bs := [.int (s0 (i + 1)), .int (s0 (i + 2)), .int (s0 (i + 3)), .int (s0 (i + 4)), .int (s0 (i + 5))]) rfl rfl rfl rfl rfl rfl rfl ⟨rfl, rfl⟩ (Nat.le_of_ble_eq_true rfl) (Nat.le_of_ble_eq_true rfl) rfl (by decide) li.n (pr_slips li) (fun v t nt si w => ?_)
  refine z_aload (pc' := 1327) rfl rfl rfl ?_
  refine z_aload (pc' := 1328) rfl rfl rfl ?_
  refine z_iload (pc' := 1329) rfl rfl rfl ?_
  refine z_int (pc' := 1330) (v := nI 1) rfl rfl rfl ?_
  refine z_ib (pc' := 1331) (v := nI (i + 1)) rfl rfl (nI_add i 1) ?_
  refine z_scr (pc' := 1332) (n := n) (i := i + 1) rfl rfl si h1 hn (by omega) rfl ?_
  refine z_aload (pc' := 1333) rfl rfl rfl ?_
  refine z_iload (pc' := 1334) rfl rfl rfl ?_
  refine z_int (pc' := 1335) (v := nI 2) rfl rfl rfl ?_
  refine z_ib (pc' := 1336) (v := nI (i + 2)) rfl rfl (nI_add i 2) ?_
  refine z_scr (pc' := 1337) (n := n) (i := i + 2) rfl rfl si h1 hn (by omega) rfl ?_
  refine z_aload (pc' := 1338) rfl rfl rfl ?_
  refine z_iload (pc' := 1339) rfl rfl rfl ?_
  refine z_int (pc' := 1340) (v := nI 3) rfl rfl rfl ?_
  refine z_ib (pc' := 1341) (v := nI (i + 3)) rfl rfl (nI_add i 3) ?_
  refine z_scr (pc' := 1342) (n := n) (i := i + 3) rfl rfl si h1 hn (by omega) rfl ?_
  refine z_aload (pc' := 1343) rfl rfl rfl ?_
  refine z_iload (pc' := 1344) rfl rfl rfl ?_
  refine z_int (pc' := 1345) (v := nI 4) rfl rfl rfl ?_
  refine z_ib (pc' := 1346) (v := nI (i + 4)) rfl rfl (nI_add i 4) ?_
  refine z_scr (pc' := 1347) (n := n) (i := i + 4) rfl rfl si h1 hn (by omega) rfl ?_
  refine z_aload (pc' := 1348) rfl rfl rfl ?_
  refine z_iload (pc' := 1349) rfl rfl rfl ?_
  refine z_int (pc' := 1350) (v := nI 5) rfl rfl rfl ?_
  refine z_ib (pc' := 1351) (v := nI (i + 5)) rfl rfl (nI_add i 5) ?_
  refine z_scr (pc' := 1352) (n := n) (i := i + 5) rfl rfl si h1 hn (by omega) rfl ?_
  refine z_cM (pc' := 1355) (Bs := [.int (s0 (i + 1)), .int (s0 (i + 2)), .int (s0 (i + 3)), .int (s0 (i + 4)), .int (s0 (i + 5))]) rfl rfl rfl rfl rfl rfl (Nat.le_of_ble_eq_true rfl) rfl ⟨rfl, rfl⟩ (Nat.le_of_ble_eq_true rfl) (Nat.le_of_ble_eq_true rfl) rfl (by decide) nt w (fun t2 li2 => ?_)
  exact z_eq rfl (kN t2 li2)
set_option maxRecDepth 20000 in
set_option maxHeartbeats 1000000 in
theorem lc_33 {s0 s1 : Nat → Int32} {n i : Nat} {h : bh_H} {Q : bh_Q} (h1 : s1 0 = nI n) (hn : n < 10000) (hi : i + 6 ≤ n) (li : LI s0 s1 h) (kN : ∀ t, LI s0 s1 t → bg m_L_law 16 Q 1631 [.ref 1000, .ref 0, .ref 205, .int (nI i)] [] (228, 17198) t) : bg m_L_law 16 Q 1360 [.ref 1000, .ref 0, .ref 205, .int (nI i)] [] (228, 17198) h := by
  refine z_aload (pc' := 1361) rfl rfl rfl ?_
  refine z_aload (pc' := 1362) rfl rfl rfl ?_
  refine z_iload (pc' := 1363) rfl rfl rfl ?_
  refine z_int (pc' := 1364) (v := nI 1) rfl rfl rfl ?_
  refine z_ib (pc' := 1365) (v := nI (i + 1)) rfl rfl (nI_add i 1) ?_
  refine z_scr (pc' := 1366) (n := n) (i := i + 1) rfl rfl li.s h1 hn (by omega) rfl ?_
  refine z_aload (pc' := 1367) rfl rfl rfl ?_
  refine z_iload (pc' := 1368) rfl rfl rfl ?_
  refine z_int (pc' := 1369) (v := nI 2) rfl rfl rfl ?_
  refine z_ib (pc' := 1370) (v := nI (i + 2)) rfl rfl (nI_add i 2) ?_
  refine z_scr (pc' := 1371) (n := n) (i := i + 2) rfl rfl li.s h1 hn (by omega) rfl ?_
  refine z_aload (pc' := 1372) rfl rfl rfl ?_
  refine z_iload (pc' := 1373) rfl rfl rfl ?_
  refine z_int (pc' := 1374) (v := nI 3) rfl rfl rfl ?_
  refine z_ib (pc' := 1375) (v := nI (i + 3)) rfl rfl (nI_add i 3) ?_
  refine z_scr (pc' := 1376) (n := n) (i := i + 3) rfl rfl li.s h1 hn (by omega) rfl ?_
  refine z_cC (pc' := 1379) (Bs := [.int (s0 (i + 1)), .int (s0 (i + 2)), .int (s0 (i + 3))]) rfl rfl rfl rfl rfl rfl rfl ⟨rfl, rfl⟩ (Nat.le_of_ble_eq_true rfl) (Nat.le_of_ble_eq_true rfl) rfl (by decide) li.n (pr_errors li) (fun v t nt si w => ?_)
  refine z_aload (pc' := 1380) rfl rfl rfl ?_
  refine z_aload (pc' := 1381) rfl rfl rfl ?_
  refine z_iload (pc' := 1382) rfl rfl rfl ?_
  refine z_int (pc' := 1383) (v := nI 1) rfl rfl rfl ?_
  refine z_ib (pc' := 1384) (v := nI (i + 1)) rfl rfl (nI_add i 1) ?_
  refine z_scr (pc' := 1385) (n := n) (i := i + 1) rfl rfl si h1 hn (by omega) rfl ?_
  refine z_aload (pc' := 1386) rfl rfl rfl ?_
  refine z_iload (pc' := 1387) rfl rfl rfl ?_
  refine z_int (pc' := 1388) (v := nI 2) rfl rfl rfl ?_
  refine z_ib (pc' := 1389) (v := nI (i + 2)) rfl rfl (nI_add i 2) ?_
  refine z_scr (pc' := 1390) (n := n) (i := i + 2) rfl rfl si h1 hn (by omega) rfl ?_
  refine z_aload (pc' := 1391) rfl rfl rfl ?_
  refine z_iload (pc' := 1392) rfl rfl rfl ?_
  refine z_int (pc' := 1393) (v := nI 3) rfl rfl rfl ?_
  refine z_ib (pc' := 1394) (v := nI (i + 3)) rfl rfl (nI_add i 3) ?_
  refine z_scr (pc' := 1395) (n := n) (i := i + 3) rfl rfl si h1 hn (by omega) rfl ?_
  refine z_cM (pc' := 1398) (Bs := [.int (s0 (i + 1)), .int (s0 (i + 2)), .int (s0 (i + 3))]) rfl rfl rfl rfl rfl rfl (Nat.le_of_ble_eq_true rfl) rfl ⟨rfl, rfl⟩ (Nat.le_of_ble_eq_true rfl) (Nat.le_of_ble_eq_true rfl) rfl (by decide) nt w (fun t2 li2 => ?_)
  exact z_eq rfl (kN t2 li2)
set_option maxRecDepth 20000 in
set_option maxHeartbeats 1000000 in
theorem lc_34 {s0 s1 : Nat → Int32} {n i : Nat} {h : bh_H} {Q : bh_Q} (h1 : s1 0 = nI n) (hn : n < 10000) (hi : i + 6 ≤ n) (li : LI s0 s1 h) (kN : ∀ t, LI s0 s1 t → bg m_L_law 16 Q 1631 [.ref 1000, .ref 0, .ref 205, .int (nI i)] [] (228, 17198) t) : bg m_L_law 16 Q 1403 [.ref 1000, .ref 0, .ref 205, .int (nI i)] [] (228, 17198) h := by
  refine z_aload (pc' := 1404) rfl rfl rfl ?_
  refine z_aload (pc' := 1405) rfl rfl rfl ?_
  refine z_iload (pc' := 1406) rfl rfl rfl ?_
  refine z_int (pc' := 1407) (v := nI 1) rfl rfl rfl ?_
  refine z_ib (pc' := 1408) (v := nI (i + 1)) rfl rfl (nI_add i 1) ?_
  refine z_scr (pc' := 1409) (n := n) (i := i + 1) rfl rfl li.s h1 hn (by omega) rfl ?_
  refine z_aload (pc' := 1410) rfl rfl rfl ?_
  refine z_iload (pc' := 1411) rfl rfl rfl ?_
  refine z_int (pc' := 1412) (v := nI 2) rfl rfl rfl ?_
  refine z_ib (pc' := 1413) (v := nI (i + 2)) rfl rfl (nI_add i 2) ?_
  refine z_scr (pc' := 1414) (n := n) (i := i + 2) rfl rfl li.s h1 hn (by omega) rfl ?_
  refine z_aload (pc' := 1415) rfl rfl rfl ?_
  refine z_iload (pc' := 1416) rfl rfl rfl ?_
  refine z_int (pc' := 1417) (v := nI 3) rfl rfl rfl ?_
  refine z_ib (pc' := 1418) (v := nI (i + 3)) rfl rfl (nI_add i 3) ?_
  refine z_scr (pc' := 1419) (n := n) (i := i + 3) rfl rfl li.s h1 hn (by omega) rfl ?_
  refine z_cC (pc' := 1422) (Bs := [.int (s0 (i + 1)), .int (s0 (i + 2)), .int (s0 (i + 3))]) rfl rfl rfl rfl rfl rfl rfl ⟨rfl, rfl⟩ (Nat.le_of_ble_eq_true rfl) (Nat.le_of_ble_eq_true rfl) rfl (by decide) li.n (pr_nested li) (fun v t nt si w => ?_)
  refine z_aload (pc' := 1423) rfl rfl rfl ?_
  refine z_aload (pc' := 1424) rfl rfl rfl ?_
  refine z_iload (pc' := 1425) rfl rfl rfl ?_
  refine z_int (pc' := 1426) (v := nI 1) rfl rfl rfl ?_
  refine z_ib (pc' := 1427) (v := nI (i + 1)) rfl rfl (nI_add i 1) ?_
  refine z_scr (pc' := 1428) (n := n) (i := i + 1) rfl rfl si h1 hn (by omega) rfl ?_
  refine z_aload (pc' := 1429) rfl rfl rfl ?_
  refine z_iload (pc' := 1430) rfl rfl rfl ?_
  refine z_int (pc' := 1431) (v := nI 2) rfl rfl rfl ?_
  refine z_ib (pc' := 1432) (v := nI (i + 2)) rfl rfl (nI_add i 2) ?_
  refine z_scr (pc' := 1433) (n := n) (i := i + 2) rfl rfl si h1 hn (by omega) rfl ?_
  refine z_aload (pc' := 1434) rfl rfl rfl ?_
  refine z_iload (pc' := 1435) rfl rfl rfl ?_
  refine z_int (pc' := 1436) (v := nI 3) rfl rfl rfl ?_
  refine z_ib (pc' := 1437) (v := nI (i + 3)) rfl rfl (nI_add i 3) ?_
  refine z_scr (pc' := 1438) (n := n) (i := i + 3) rfl rfl si h1 hn (by omega) rfl ?_
  refine z_cM (pc' := 1441) (Bs := [.int (s0 (i + 1)), .int (s0 (i + 2)), .int (s0 (i + 3))]) rfl rfl rfl rfl rfl rfl (Nat.le_of_ble_eq_true rfl) rfl ⟨rfl, rfl⟩ (Nat.le_of_ble_eq_true rfl) (Nat.le_of_ble_eq_true rfl) rfl (by decide) nt w (fun t2 li2 => ?_)
  exact z_eq rfl (kN t2 li2)
set_option maxRecDepth 20000 in
set_option maxHeartbeats 1000000 in
theorem lc_35 {s0 s1 : Nat → Int32} {n i : Nat} {h : bh_H} {Q : bh_Q} (h1 : s1 0 = nI n) (hn : n < 10000) (hi : i + 6 ≤ n) (li : LI s0 s1 h) (kN : ∀ t, LI s0 s1 t → bg m_L_law 16 Q 1631 [.ref 1000, .ref 0, .ref 205, .int (nI i)] [] (228, 17198) t) : bg m_L_law 16 Q 1446 [.ref 1000, .ref 0, .ref 205, .int (nI i)] [] (228, 17198) h := by
  refine z_aload (pc' := 1447) rfl rfl rfl ?_
  refine z_aload (pc' := 1448) rfl rfl rfl ?_
  refine z_iload (pc' := 1449) rfl rfl rfl ?_
  refine z_int (pc' := 1450) (v := nI 1) rfl rfl rfl ?_
  refine z_ib (pc' := 1451) (v := nI (i + 1)) rfl rfl (nI_add i 1) ?_
  refine z_scr (pc' := 1452) (n := n) (i := i + 1) rfl rfl li.s h1 hn (by omega) rfl ?_
  refine z_aload (pc' := 1453) rfl rfl rfl ?_
  refine z_iload (pc' := 1454) rfl rfl rfl ?_
  refine z_int (pc' := 1455) (v := nI 2) rfl rfl rfl ?_
  refine z_ib (pc' := 1456) (v := nI (i + 2)) rfl rfl (nI_add i 2) ?_
  refine z_scr (pc' := 1457) (n := n) (i := i + 2) rfl rfl li.s h1 hn (by omega) rfl ?_
  refine z_cC (pc' := 1460) (Bs := [.int (s0 (i + 1)), .int (s0 (i + 2))]) rfl rfl rfl rfl rfl rfl rfl ⟨rfl, rfl⟩ (Nat.le_of_ble_eq_true rfl) (Nat.le_of_ble_eq_true rfl) rfl (by decide) li.n (pr_shared li) (fun v t nt si w => ?_)
  refine z_aload (pc' := 1461) rfl rfl rfl ?_
  refine z_aload (pc' := 1462) rfl rfl rfl ?_
  refine z_iload (pc' := 1463) rfl rfl rfl ?_
  refine z_int (pc' := 1464) (v := nI 1) rfl rfl rfl ?_
  refine z_ib (pc' := 1465) (v := nI (i + 1)) rfl rfl (nI_add i 1) ?_
  refine z_scr (pc' := 1466) (n := n) (i := i + 1) rfl rfl si h1 hn (by omega) rfl ?_
  refine z_aload (pc' := 1467) rfl rfl rfl ?_
  refine z_iload (pc' := 1468) rfl rfl rfl ?_
  refine z_int (pc' := 1469) (v := nI 2) rfl rfl rfl ?_
  refine z_ib (pc' := 1470) (v := nI (i + 2)) rfl rfl (nI_add i 2) ?_
  refine z_scr (pc' := 1471) (n := n) (i := i + 2) rfl rfl si h1 hn (by omega) rfl ?_
  refine z_cM (pc' := 1474) (Bs := [.int (s0 (i + 1)), .int (s0 (i + 2))]) rfl rfl rfl rfl rfl rfl (Nat.le_of_ble_eq_true rfl) rfl ⟨rfl, rfl⟩ (Nat.le_of_ble_eq_true rfl) (Nat.le_of_ble_eq_true rfl) rfl (by decide) nt w (fun t2 li2 => ?_)
  exact z_eq rfl (kN t2 li2)
set_option maxRecDepth 20000 in
set_option maxHeartbeats 1000000 in
theorem lc_36 {s0 s1 : Nat → Int32} {n i : Nat} {h : bh_H} {Q : bh_Q} (h1 : s1 0 = nI n) (hn : n < 10000) (hi : i + 6 ≤ n) (li : LI s0 s1 h) (kN : ∀ t, LI s0 s1 t → bg m_L_law 16 Q 1631 [.ref 1000, .ref 0, .ref 205, .int (nI i)] [] (228, 17198) t) : bg m_L_law 16 Q 1479 [.ref 1000, .ref 0, .ref 205, .int (nI i)] [] (228, 17198) h := by
  refine z_aload (pc' := 1480) rfl rfl rfl ?_
  refine z_aload (pc' := 1481) rfl rfl rfl ?_
  refine z_iload (pc' := 1482) rfl rfl rfl ?_
  refine z_int (pc' := 1483) (v := nI 1) rfl rfl rfl ?_
  refine z_ib (pc' := 1484) (v := nI (i + 1)) rfl rfl (nI_add i 1) ?_
  refine z_scr (pc' := 1485) (n := n) (i := i + 1) rfl rfl li.s h1 hn (by omega) rfl ?_
  refine z_aload (pc' := 1486) rfl rfl rfl ?_
  refine z_iload (pc' := 1487) rfl rfl rfl ?_
  refine z_int (pc' := 1488) (v := nI 2) rfl rfl rfl ?_
  refine z_ib (pc' := 1489) (v := nI (i + 2)) rfl rfl (nI_add i 2) ?_
  refine z_scr (pc' := 1490) (n := n) (i := i + 2) rfl rfl li.s h1 hn (by omega) rfl ?_
  refine z_aload (pc' := 1491) rfl rfl rfl ?_
  refine z_iload (pc' := 1492) rfl rfl rfl ?_
  refine z_int (pc' := 1493) (v := nI 3) rfl rfl rfl ?_
  refine z_ib (pc' := 1494) (v := nI (i + 3)) rfl rfl (nI_add i 3) ?_
  refine z_scr (pc' := 1495) (n := n) (i := i + 3) rfl rfl li.s h1 hn (by omega) rfl ?_
  refine z_aload (pc' := 1496) rfl rfl rfl ?_
  refine z_iload (pc' := 1497) rfl rfl rfl ?_
  refine z_int (pc' := 1498) (v := nI 4) rfl rfl rfl ?_
  refine z_ib (pc' := 1499) (v := nI (i + 4)) rfl rfl (nI_add i 4) ?_
  refine z_scr (pc' := 1500) (n := n) (i := i + 4) rfl rfl li.s h1 hn (by omega) rfl ?_
  refine z_cC (pc' := 1503) (Bs := [.int (s0 (i + 1)), .int (s0 (i + 2)), .int (s0 (i + 3)), .int (s0 (i + 4))]) rfl rfl rfl rfl rfl rfl rfl ⟨rfl, rfl⟩ (Nat.le_of_ble_eq_true rfl) (Nat.le_of_ble_eq_true rfl) rfl (by decide) li.n (pr_quarrel li) (fun v t nt si w => ?_)
  refine z_aload (pc' := 1504) rfl rfl rfl ?_
  refine z_aload (pc' := 1505) rfl rfl rfl ?_
  refine z_iload (pc' := 1506) rfl rfl rfl ?_
  refine z_int (pc' := 1507) (v := nI 1) rfl rfl rfl ?_
  refine z_ib (pc' := 1508) (v := nI (i + 1)) rfl rfl (nI_add i 1) ?_
  refine z_scr (pc' := 1509) (n := n) (i := i + 1) rfl rfl si h1 hn (by omega) rfl ?_
  refine z_aload (pc' := 1510) rfl rfl rfl ?_
  refine z_iload (pc' := 1511) rfl rfl rfl ?_
  refine z_int (pc' := 1512) (v := nI 2) rfl rfl rfl ?_
  refine z_ib (pc' := 1513) (v := nI (i + 2)) rfl rfl (nI_add i 2) ?_
  refine z_scr (pc' := 1514) (n := n) (i := i + 2) rfl rfl si h1 hn (by omega) rfl ?_
  refine z_aload (pc' := 1515) rfl rfl rfl ?_
  refine z_iload (pc' := 1516) rfl rfl rfl ?_
  refine z_int (pc' := 1517) (v := nI 3) rfl rfl rfl ?_
  refine z_ib (pc' := 1518) (v := nI (i + 3)) rfl rfl (nI_add i 3) ?_
  refine z_scr (pc' := 1519) (n := n) (i := i + 3) rfl rfl si h1 hn (by omega) rfl ?_
  refine z_aload (pc' := 1520) rfl rfl rfl ?_
  refine z_iload (pc' := 1521) rfl rfl rfl ?_
  refine z_int (pc' := 1522) (v := nI 4) rfl rfl rfl ?_
  refine z_ib (pc' := 1523) (v := nI (i + 4)) rfl rfl (nI_add i 4) ?_
  refine z_scr (pc' := 1524) (n := n) (i := i + 4) rfl rfl si h1 hn (by omega) rfl ?_
  refine z_cM (pc' := 1527) (Bs := [.int (s0 (i + 1)), .int (s0 (i + 2)), .int (s0 (i + 3)), .int (s0 (i + 4))]) rfl rfl rfl rfl rfl rfl (Nat.le_of_ble_eq_true rfl) rfl ⟨rfl, rfl⟩ (Nat.le_of_ble_eq_true rfl) (Nat.le_of_ble_eq_true rfl) rfl (by decide) nt w (fun t2 li2 => ?_)
  exact z_eq rfl (kN t2 li2)
set_option maxRecDepth 20000 in
set_option maxHeartbeats 1000000 in
theorem lc_37 {s0 s1 : Nat → Int32} {n i : Nat} {h : bh_H} {Q : bh_Q} (h1 : s1 0 = nI n) (hn : n < 10000) (hi : i + 6 ≤ n) (li : LI s0 s1 h) (kN : ∀ t, LI s0 s1 t → bg m_L_law 16 Q 1631 [.ref 1000, .ref 0, .ref 205, .int (nI i)] [] (228, 17198) t) : bg m_L_law 16 Q 1532 [.ref 1000, .ref 0, .ref 205, .int (nI i)] [] (228, 17198) h := by
  refine z_aload (pc' := 1533) rfl rfl rfl ?_
  refine z_aload (pc' := 1534) rfl rfl rfl ?_
  refine z_iload (pc' := 1535) rfl rfl rfl ?_
  refine z_int (pc' := 1536) (v := nI 1) rfl rfl rfl ?_
  refine z_ib (pc' := 1537) (v := nI (i + 1)) rfl rfl (nI_add i 1) ?_
  refine z_scr (pc' := 1538) (n := n) (i := i + 1) rfl rfl li.s h1 hn (by omega) rfl ?_
  refine z_aload (pc' := 1539) rfl rfl rfl ?_
  refine z_iload (pc' := 1540) rfl rfl rfl ?_
  refine z_int (pc' := 1541) (v := nI 2) rfl rfl rfl ?_
  refine z_ib (pc' := 1542) (v := nI (i + 2)) rfl rfl (nI_add i 2) ?_
  refine z_scr (pc' := 1543) (n := n) (i := i + 2) rfl rfl li.s h1 hn (by omega) rfl ?_
  refine z_cC (pc' := 1546) (Bs := [.int (s0 (i + 1)), .int (s0 (i + 2))]) rfl rfl rfl rfl rfl rfl rfl ⟨rfl, rfl⟩ (Nat.le_of_ble_eq_true rfl) (Nat.le_of_ble_eq_true rfl) rfl (by decide) li.n (pr_served li) (fun v t nt si w => ?_)
  refine z_aload (pc' := 1547) rfl rfl rfl ?_
  refine z_aload (pc' := 1548) rfl rfl rfl ?_
  refine z_iload (pc' := 1549) rfl rfl rfl ?_
  refine z_int (pc' := 1550) (v := nI 1) rfl rfl rfl ?_
  refine z_ib (pc' := 1551) (v := nI (i + 1)) rfl rfl (nI_add i 1) ?_
  refine z_scr (pc' := 1552) (n := n) (i := i + 1) rfl rfl si h1 hn (by omega) rfl ?_
  refine z_aload (pc' := 1553) rfl rfl rfl ?_
  refine z_iload (pc' := 1554) rfl rfl rfl ?_
  refine z_int (pc' := 1555) (v := nI 2) rfl rfl rfl ?_
  refine z_ib (pc' := 1556) (v := nI (i + 2)) rfl rfl (nI_add i 2) ?_
  refine z_scr (pc' := 1557) (n := n) (i := i + 2) rfl rfl si h1 hn (by omega) rfl ?_
  refine z_cM (pc' := 1560) (Bs := [.int (s0 (i + 1)), .int (s0 (i + 2))]) rfl rfl rfl rfl rfl rfl (Nat.le_of_ble_eq_true rfl) rfl ⟨rfl, rfl⟩ (Nat.le_of_ble_eq_true rfl) (Nat.le_of_ble_eq_true rfl) rfl (by decide) nt w (fun t2 li2 => ?_)
  exact z_eq rfl (kN t2 li2)
set_option maxRecDepth 20000 in
set_option maxHeartbeats 1000000 in
theorem lc_38 {s0 s1 : Nat → Int32} {n i : Nat} {h : bh_H} {Q : bh_Q} (h1 : s1 0 = nI n) (hn : n < 10000) (hi : i + 6 ≤ n) (li : LI s0 s1 h) (kN : ∀ t, LI s0 s1 t → bg m_L_law 16 Q 1631 [.ref 1000, .ref 0, .ref 205, .int (nI i)] [] (228, 17198) t) : bg m_L_law 16 Q 1565 [.ref 1000, .ref 0, .ref 205, .int (nI i)] [] (228, 17198) h := by
  refine z_aload (pc' := 1566) rfl rfl rfl ?_
  refine z_aload (pc' := 1567) rfl rfl rfl ?_
  refine z_iload (pc' := 1568) rfl rfl rfl ?_
  refine z_int (pc' := 1569) (v := nI 1) rfl rfl rfl ?_
  refine z_ib (pc' := 1570) (v := nI (i + 1)) rfl rfl (nI_add i 1) ?_
  refine z_scr (pc' := 1571) (n := n) (i := i + 1) rfl rfl li.s h1 hn (by omega) rfl ?_
  refine z_aload (pc' := 1572) rfl rfl rfl ?_
  refine z_iload (pc' := 1573) rfl rfl rfl ?_
  refine z_int (pc' := 1574) (v := nI 2) rfl rfl rfl ?_
  refine z_ib (pc' := 1575) (v := nI (i + 2)) rfl rfl (nI_add i 2) ?_
  refine z_scr (pc' := 1576) (n := n) (i := i + 2) rfl rfl li.s h1 hn (by omega) rfl ?_
  refine z_aload (pc' := 1577) rfl rfl rfl ?_
  refine z_iload (pc' := 1578) rfl rfl rfl ?_
  refine z_int (pc' := 1579) (v := nI 3) rfl rfl rfl ?_
  refine z_ib (pc' := 1580) (v := nI (i + 3)) rfl rfl (nI_add i 3) ?_
  refine z_scr (pc' := 1581) (n := n) (i := i + 3) rfl rfl li.s h1 hn (by omega) rfl ?_
  refine z_cC (pc' := 1584) (Bs := [.int (s0 (i + 1)), .int (s0 (i + 2)), .int (s0 (i + 3))]) rfl rfl rfl rfl rfl rfl rfl ⟨rfl, rfl⟩ (Nat.le_of_ble_eq_true rfl) (Nat.le_of_ble_eq_true rfl) rfl (by decide) li.n (pr_between li) (fun v t nt si w => ?_)
  refine z_aload (pc' := 1585) rfl rfl rfl ?_
  refine z_aload (pc' := 1586) rfl rfl rfl ?_
  refine z_iload (pc' := 1587) rfl rfl rfl ?_
  refine z_int (pc' := 1588) (v := nI 1) rfl rfl rfl ?_
  refine z_ib (pc' := 1589) (v := nI (i + 1)) rfl rfl (nI_add i 1) ?_
  refine z_scr (pc' := 1590) (n := n) (i := i + 1) rfl rfl si h1 hn (by omega) rfl ?_
  refine z_aload (pc' := 1591) rfl rfl rfl ?_
  refine z_iload (pc' := 1592) rfl rfl rfl ?_
  refine z_int (pc' := 1593) (v := nI 2) rfl rfl rfl ?_
  refine z_ib (pc' := 1594) (v := nI (i + 2)) rfl rfl (nI_add i 2) ?_
  refine z_scr (pc' := 1595) (n := n) (i := i + 2) rfl rfl si h1 hn (by omega) rfl ?_
  refine z_aload (pc' := 1596) rfl rfl rfl ?_
  refine z_iload (pc' := 1597) rfl rfl rfl ?_
  refine z_int (pc' := 1598) (v := nI 3) rfl rfl rfl ?_
  refine z_ib (pc' := 1599) (v := nI (i + 3)) rfl rfl (nI_add i 3) ?_
  refine z_scr (pc' := 1600) (n := n) (i := i + 3) rfl rfl si h1 hn (by omega) rfl ?_
  refine z_cM (pc' := 1603) (Bs := [.int (s0 (i + 1)), .int (s0 (i + 2)), .int (s0 (i + 3))]) rfl rfl rfl rfl rfl rfl (Nat.le_of_ble_eq_true rfl) rfl ⟨rfl, rfl⟩ (Nat.le_of_ble_eq_true rfl) (Nat.le_of_ble_eq_true rfl) rfl (by decide) nt w (fun t2 li2 => ?_)
  exact z_eq rfl (kN t2 li2)
set_option maxRecDepth 20000 in
set_option maxHeartbeats 1000000 in
theorem lc_39 {s0 s1 : Nat → Int32} {n i : Nat} {h : bh_H} {Q : bh_Q} (h1 : s1 0 = nI n) (hn : n < 10000) (hi : i + 6 ≤ n) (li : LI s0 s1 h) (kN : ∀ t, LI s0 s1 t → bg m_L_law 16 Q 1631 [.ref 1000, .ref 0, .ref 205, .int (nI i)] [] (228, 17198) t) : bg m_L_law 16 Q 1608 [.ref 1000, .ref 0, .ref 205, .int (nI i)] [] (228, 17198) h := by
  refine z_aload (pc' := 1609) rfl rfl rfl ?_
  refine z_aload (pc' := 1610) rfl rfl rfl ?_
  refine z_iload (pc' := 1611) rfl rfl rfl ?_
  refine z_int (pc' := 1612) (v := nI 1) rfl rfl rfl ?_
  refine z_ib (pc' := 1613) (v := nI (i + 1)) rfl rfl (nI_add i 1) ?_
  refine z_scr (pc' := 1614) (n := n) (i := i + 1) rfl rfl li.s h1 hn (by omega) rfl ?_
  refine z_cC (pc' := 1617) (Bs := [.int (s0 (i + 1))]) rfl rfl rfl rfl rfl rfl rfl ⟨rfl, rfl⟩ (Nat.le_of_ble_eq_true rfl) (Nat.le_of_ble_eq_true rfl) rfl (by decide) li.n (pr_count li) (fun v t nt si w => ?_)
  refine z_aload (pc' := 1618) rfl rfl rfl ?_
  refine z_aload (pc' := 1619) rfl rfl rfl ?_
  refine z_iload (pc' := 1620) rfl rfl rfl ?_
  refine z_int (pc' := 1621) (v := nI 1) rfl rfl rfl ?_
  refine z_ib (pc' := 1622) (v := nI (i + 1)) rfl rfl (nI_add i 1) ?_
  refine z_scr (pc' := 1623) (n := n) (i := i + 1) rfl rfl si h1 hn (by omega) rfl ?_
  refine z_cM (pc' := 1626) (Bs := [.int (s0 (i + 1))]) rfl rfl rfl rfl rfl rfl (Nat.le_of_ble_eq_true rfl) rfl ⟨rfl, rfl⟩ (Nat.le_of_ble_eq_true rfl) (Nat.le_of_ble_eq_true rfl) rfl (by decide) nt w (fun t2 li2 => ?_)
  exact z_eq rfl (kN t2 li2)
