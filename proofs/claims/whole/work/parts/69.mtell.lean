/-! ===== the reference: a part told, and tell ===== -/
theorem sgV_n {tp : List Nat} {a : Nat} (hb : a < tp.length → tp.getD a 0 < 256) : sgV tp a = -1 ↔ tp.length ≤ a := by
  unfold sgV
  by_cases h : a < tp.length
  · rw [if_pos h]
    have h2 := hb h
    refine ⟨fun z => ?_, fun z => by omega⟩
    exfalso
    revert h2 z
    generalize tp.getD a 0 = c
    revert c
    decide +kernel
  · rw [if_neg h]; exact ⟨fun _ => by omega, fun _ => rfl⟩
theorem let_sk {tp : List Nat} {s : Nat} (h : letB tp s = true) : s < tp.length ∧ skp isBk tp s = s ∧ tp.getD s 0 ≠ 59 := by
  unfold letB isLt at h
  rw [Bool.and_eq_true] at h
  have h1 : s < tp.length := of_decide_eq_true h.1
  have h2 : 97 ≤ tp.getD s 0 ∧ tp.getD s 0 ≤ 122 := of_decide_eq_true h.2
  exact ⟨h1, skp_0 h1 (by unfold isBk; exact decide_eq_false (by omega)), by omega⟩
theorem rn_em {S : TW} (hs : ∀ i, i < 384 → is (S 11 i) 65536) {N : Nat → Int32} (h : ∀ j, j < 560 → N j = nI 0) : Rn (emS S) N ∧ HdZ (emS S) N := by
  have e0 : nw (emS S) = 0 := (emS_wf hs).2.1
  have e1 : nb (emS S) = 0 := (emS_wf hs).2.2
  have e2 : ns (emS S) = 0 := by show ((emS S) 0 2).toNatClampNeg = 0; simp only [emS, up2_at]; rfl
  refine ⟨⟨⟨?_, ?_, ?_, ?_⟩, fun w hw => ?_, fun b hb => ?_, fun w b q hw => ?_, fun i hi => ?_⟩, fun w h1 h2 j j5 j10 => h _ (by omega), fun b h1 h2 => h _ (by omega)⟩
  · rw [h 0 (by decide)]; simp only [emS, up2_at]; rfl
  · rw [h 1 (by decide)]; simp only [emS, up2_at]; rfl
  · rw [h 2 (by decide)]; simp only [emS, up2_at]; rfl
  · rw [h 3 (by decide)]; simp only [emS, up2_at]; rfl
  · rw [e0] at hw; exact absurd hw (Nat.not_lt_zero _)
  · rw [e1] at hb; exact absurd hb (Nat.not_lt_zero _)
  · rw [e0] at hw; exact absurd hw (Nat.not_lt_zero _)
  · rw [e2] at hi; exact absurd hi (Nat.not_lt_zero _)
set_option maxRecDepth 20000 in
set_option maxHeartbeats 1000000 in
theorem w2_X10_readsWriter {D : Nat → Nat → Int32} {L : Nat → Nat → Int64} {Q : bh_Q} {tp : List Nat} {S : TW} {a s : Nat} (h : MS D tp a 0) (hW : WF S) (hR : Rn S (D 207)) (hs : s ≤ 400) (hw : nw S = 12) (k1 : ∀ D', O205 D D' → MS D' tp a (8 * s + 3) → Q none (hp D' L)) : bh_wc 3 m_X10_readsWriter [.ref 205, .int (nI s)] (hp D L) Q := by
  refine x_start (lv0 := [_, _, _, _]) (Nat.le_of_ble_eq_true rfl) rfl ?_
  have hwl := hW.nwl
  have hbl := hW.nbl
  refine x_aload (pc' := 1) rfl rfl rfl ?_
  refine x_getR (pc' := 4) rfl rfl rfl (by decide) rfl (by decide) rfl rfl ?_
  refine x_int (pc' := 5) (v := nI 0) rfl rfl rfl ?_
  refine x_iald (pc' := 6) rfl rfl (by decide) rfl (by decide) (show _ < 560 by omega) ?_
  refine x_top (hR.1.1.trans hW.enw) ?_
  refine x_int (pc' := 8) (v := nI 12) rfl rfl rfl ?_
  refine y_ic_ne (pc' := 11) rfl rfl (by omega) (by omega) (fun c8 => ?_) (fun c8 => ?_)
  · exact absurd hw c8
  · refine x_aload (pc' := 12) rfl rfl rfl ?_
    refine x_int (pc' := 13) (v := nI 3) rfl rfl rfl ?_
    refine x_iload (pc' := 14) rfl rfl rfl ?_
    refine x_callV (pc' := 17) (d1 := 2) (Bs := [_, _]) rfl rfl rfl rfl rfl rfl rfl (Nat.le_of_ble_eq_true rfl) ⟨rfl, rfl⟩ (by decide) rfl (by decide) ?_
    refine w_X10_fails h hs (by decide) (by decide) (fun D9 o9 h9 e9 => ?_)
    rw [if_pos rfl] at h9
    refine ⟨rfl, ?_⟩
    refine x_vret rfl rfl ?_
    exact k1 D9 o9 h9
set_option maxRecDepth 20000 in
set_option maxHeartbeats 1000000 in
theorem w2_X10_readsBook {D : Nat → Nat → Int32} {L : Nat → Nat → Int64} {Q : bh_Q} {tp : List Nat} {S : TW} {a s : Nat} (h : MS D tp a 0) (hW : WF S) (hR : Rn S (D 207)) (hs : s ≤ 400) (hw : nb S = 4) (k1 : ∀ D', O205 D D' → MS D' tp a (8 * s + 3) → Q none (hp D' L)) : bh_wc 3 m_X10_readsBook [.ref 205, .int (nI s)] (hp D L) Q := by
  refine x_start (lv0 := [_, _, _, _, _]) (Nat.le_of_ble_eq_true rfl) rfl ?_
  have hwl := hW.nwl
  have hbl := hW.nbl
  refine x_aload (pc' := 1) rfl rfl rfl ?_
  refine x_getR (pc' := 4) rfl rfl rfl (by decide) rfl (by decide) rfl rfl ?_
  refine x_int (pc' := 5) (v := nI 1) rfl rfl rfl ?_
  refine x_iald (pc' := 6) rfl rfl (by decide) rfl (by decide) (show _ < 560 by omega) ?_
  refine x_top (hR.1.2.1.trans hW.enb) ?_
  refine x_int (pc' := 7) (v := nI 4) rfl rfl rfl ?_
  refine y_ic_ne (pc' := 10) rfl rfl (by omega) (by omega) (fun c7 => ?_) (fun c7 => ?_)
  · exact absurd hw c7
  · refine x_aload (pc' := 11) rfl rfl rfl ?_
    refine x_int (pc' := 12) (v := nI 3) rfl rfl rfl ?_
    refine x_iload (pc' := 13) rfl rfl rfl ?_
    refine x_callV (pc' := 16) (d1 := 2) (Bs := [_, _]) rfl rfl rfl rfl rfl rfl rfl (Nat.le_of_ble_eq_true rfl) ⟨rfl, rfl⟩ (by decide) rfl (by decide) ?_
    refine w_X10_fails h hs (by decide) (by decide) (fun D9 o9 h9 e9 => ?_)
    rw [if_pos rfl] at h9
    refine ⟨rfl, ?_⟩
    refine x_vret rfl rfl ?_
    exact k1 D9 o9 h9
set_option maxRecDepth 20000 in
set_option maxHeartbeats 1000000 in
theorem w2_X10_isRight {D : Nat → Nat → Int32} {L : Nat → Nat → Int64} {Q : bh_Q} {f : Nat} (h : D 205 9 = fI f) (hf : f < 10000) (k1 : f = 0 → Q (some (.int 1)) (hp D L)) (k0 : ¬ f = 0 → Q (some (.int 0)) (hp D L)) : bh_wc 1 m_X10_isRight [.ref 205] (hp D L) Q := by
  refine x_start (lv0 := [_]) (Nat.le_of_ble_eq_true rfl) rfl ?_
  refine x_aload (pc' := 1) rfl rfl rfl ?_
  refine x_getI (j := 9) (pc' := 4) rfl rfl rfl (by decide) rfl (by decide) rfl rfl ?_
  refine x_int (pc' := 5) (v := (-1)) rfl rfl rfl ?_
  refine x_ic_ne (pc' := 8) rfl rfl (fun c5 => ?_) (fun c5 => ?_)
  · refine x_int (pc' := 13) (v := nI 0) rfl rfl rfl ?_
    refine x_zret rfl rfl (by decide) ?_
    first
      | (exact k0 (fun e => c5 (h.trans ((fI_0 hf).mpr e))))
      | (exact k1 ((fI_0 hf).mp (h.symm.trans c5)))
  · refine x_int (pc' := 9) (v := nI 1) rfl rfl rfl ?_
    refine x_goto rfl ?_
    refine x_zret rfl rfl (by decide) ?_
    first
      | (exact k0 (fun e => c5 (h.trans ((fI_0 hf).mpr e))))
      | (exact k1 ((fI_0 hf).mp (h.symm.trans c5)))
set_option maxRecDepth 20000 in
set_option maxHeartbeats 1000000 in
theorem w_X10_readsPart {D : Nat → Nat → Int32} {L : Nat → Nat → Int64} {Q : bh_Q} {tp : List Nat} {S : TW} {a : Nat} (h : MS D tp a 0) (hW : WF S) (hR : Rn S (D 207)) (hZ : HdZ S (D 207)) (k1 : (pPart tp S a).1 = 0 → ∀ D', OHd D D' → MS D' tp (pPart tp S a).2.2 0 → Rn (pPart tp S a).2.1 (D' 207) → HdZ (pPart tp S a).2.1 (D' 207) → Q none (hp D' L)) (k0 : ¬ (pPart tp S a).1 = 0 → ∀ D', OHd D D' → (∃ e, MS D' tp e (pPart tp S a).1) → Q none (hp D' L)) (k2 : ∀ s, (pPart tp S a).1 = 8 * s + 1 → letB tp s = true → ∀ D', OHd D D' → MS D' tp s 0 → Q none (hp D' L)) : bh_wc 7 m_X10_readsPart [.ref 205] (hp D L) Q := by
  refine x_start (lv0 := [_, _]) (Nat.le_of_ble_eq_true rfl) rfl ?_
  refine x_aload (pc' := 1) rfl rfl rfl ?_
  refine x_callV (pc' := 4) (d1 := 2) (Bs := []) rfl rfl rfl rfl rfl rfl rfl (Nat.le_of_ble_eq_true rfl) ⟨rfl, rfl⟩ (by decide) rfl (by decide) ?_
  refine w_X10_next h (fun D1 o1 h1 e1 => ?_)
  refine ⟨rfl, ?_⟩
  have hfx : skp isBk tp (skp isBk tp a) = (skp isBk tp a) := skp_fix h.al
  have hr1 : Rn S (D1 207) := by rw [o1.1 207 (by decide)]; exact hR
  have hz1 : HdZ S (D1 207) := by rw [o1.1 207 (by decide)]; exact hZ
  have hs4 : (skp isBk tp a) ≤ 400 := Nat.le_trans h1.al h1.l4
  refine x_pop (pc' := 5) rfl rfl rfl ?_
  refine x_aload (pc' := 6) rfl rfl rfl ?_
  refine x_getI (j := 8) (pc' := 9) rfl rfl rfl (by decide) rfl (by decide) rfl rfl ?_
  refine x_top (h1.at) ?_
  refine x_istore (pc' := 10) (lv' := [_, _]) rfl rfl (by decide) rfl ?_
  refine x_aload (pc' := 11) rfl rfl rfl ?_
  refine x_ldcS (pc' := 13) rfl rfl ?_
  refine x_callV (pc' := 16) (d1 := 3) (Bs := [_]) rfl rfl rfl rfl rfl rfl rfl (Nat.le_of_ble_eq_true rfl) ⟨rfl, rfl⟩ (by decide) rfl (by decide) ?_
  refine w_X10_takes h1 (by decide) (fun _ hw2 D2 o2 h2 e2 => ?_) (fun hw2 D2 o2 h2 e2 => ?_)
  · rw [hfx] at h2
    have hr2 : Rn S (D2 207) := by rw [o2.1 207 (by decide)]; exact hr1
    have hz2 : HdZ S (D2 207) := by rw [o2.1 207 (by decide)]; exact hz1
    rw [hfx, wM10] at hw2
    refine ⟨rfl, ?_⟩
    refine x_if_eq (pc' := 19) rfl rfl (fun c16 => absurd c16 (by decide)) (fun _ => ?_)
    refine x_aload (pc' := 20) rfl rfl rfl ?_
    refine x_iload (pc' := 21) rfl rfl rfl ?_
    by_cases hfull : nw S = 12
    · have e : pPart tp S a = (8 * (skp isBk tp a) + 3, S, 0) := by unfold pPart; rw [if_pos hw2, if_pos hfull]
      rw [e] at k0
      refine x_callV (pc' := 24) (d1 := 3) (Bs := [_]) rfl rfl rfl rfl rfl rfl rfl (Nat.le_of_ble_eq_true rfl) ⟨rfl, rfl⟩ (by decide) rfl (by decide) ?_
      refine w2_X10_readsWriter h2 hW hr2 hs4 hfull (fun D9 o9 h9 => ?_)
      refine ⟨rfl, ?_⟩
      refine x_goto rfl ?_
      refine x_vret rfl rfl ?_
      exact k0 (Nat.succ_ne_zero _) D9 ((o1.tr o2).h.tr o9.h) ⟨_, h9⟩
    · have e : pPart tp S a = pWr tp S (skp isLt tp (skp isBk tp a)) := by unfold pPart; rw [if_pos hw2, if_neg hfull]
      rw [e] at k0 k1
      have k2 := fun q => k2 q ∘ (fun z => (congrArg Prod.fst e).trans z)
      refine x_callV (pc' := 24) (d1 := 6) (Bs := [_]) rfl rfl rfl rfl rfl rfl rfl (Nat.le_of_ble_eq_true rfl) ⟨rfl, rfl⟩ (by decide) rfl (by decide) ?_
      refine w_X10_readsWriter h2 hW hr2 hz2 (by have := hW.nwl; omega) (fun hf D9 o9 h9 r9 z9 => ?_) (fun hf D9 o9 h9 => ?_) (fun q hq hl D9 o9 h9 => ?_)
      · refine ⟨rfl, ?_⟩
        refine x_goto rfl ?_
        refine x_vret rfl rfl ?_
        exact k1 hf D9 ((o1.tr o2).h.tr o9) h9 r9 z9
      · refine ⟨rfl, ?_⟩
        refine x_goto rfl ?_
        refine x_vret rfl rfl ?_
        exact k0 hf D9 ((o1.tr o2).h.tr o9) h9
      · refine ⟨rfl, ?_⟩
        refine x_goto rfl ?_
        refine x_vret rfl rfl ?_
        exact k2 q hq hl D9 ((o1.tr o2).h.tr o9) h9
  · rw [hfx] at h2
    have hr2 : Rn S (D2 207) := by rw [o2.1 207 (by decide)]; exact hr1
    have hz2 : HdZ S (D2 207) := by rw [o2.1 207 (by decide)]; exact hz1
    have hw2 : ¬ wdB tp (skp isBk tp a) (skp isLt tp (skp isBk tp a)) 0 = true := fun z => hw2 ⟨rfl, by rw [hfx, wM10]; exact z⟩
    refine ⟨rfl, ?_⟩
    refine x_if_eq (pc' := 19) rfl rfl (fun _ => ?_) (fun c16 => absurd (by decide) c16)
    refine x_aload (pc' := 28) rfl rfl rfl ?_
    refine x_ldcS (pc' := 30) rfl rfl ?_
    refine x_callV (pc' := 33) (d1 := 3) (Bs := [_]) rfl rfl rfl rfl rfl rfl rfl (Nat.le_of_ble_eq_true rfl) ⟨rfl, rfl⟩ (by decide) rfl (by decide) ?_
    refine w_X10_takes h2 (by decide) (fun _ hw3 D3 o3 h3 e3 => ?_) (fun hw3 D3 o3 h3 e3 => ?_)
    · rw [hfx] at h3
      have hr3 : Rn S (D3 207) := by rw [o3.1 207 (by decide)]; exact hr2
      have hz3 : HdZ S (D3 207) := by rw [o3.1 207 (by decide)]; exact hz2
      rw [hfx, wM19] at hw3
      refine ⟨rfl, ?_⟩
      refine x_if_eq (pc' := 36) rfl rfl (fun c33 => absurd c33 (by decide)) (fun _ => ?_)
      refine x_aload (pc' := 37) rfl rfl rfl ?_
      refine x_iload (pc' := 38) rfl rfl rfl ?_
      by_cases hfull : nb S = 4
      · have e : pPart tp S a = (8 * (skp isBk tp a) + 3, S, 0) := by unfold pPart; rw [if_neg hw2, if_pos hw3, if_pos hfull]
        rw [e] at k0
        refine x_callV (pc' := 41) (d1 := 3) (Bs := [_]) rfl rfl rfl rfl rfl rfl rfl (Nat.le_of_ble_eq_true rfl) ⟨rfl, rfl⟩ (by decide) rfl (by decide) ?_
        refine w2_X10_readsBook h3 hW hr3 hs4 hfull (fun D9 o9 h9 => ?_)
        refine ⟨rfl, ?_⟩
        refine x_goto rfl ?_
        refine x_vret rfl rfl ?_
        exact k0 (Nat.succ_ne_zero _) D9 (((o1.tr o2).tr o3).h.tr o9.h) ⟨_, h9⟩
      · have e : pPart tp S a = pBk tp S (skp isLt tp (skp isBk tp a)) := by unfold pPart; rw [if_neg hw2, if_pos hw3, if_neg hfull]
        rw [e] at k0 k1
        refine x_callV (pc' := 41) (d1 := 4) (Bs := [_]) rfl rfl rfl rfl rfl rfl rfl (Nat.le_of_ble_eq_true rfl) ⟨rfl, rfl⟩ (by decide) rfl (by decide) ?_
        refine w_X10_readsBook h3 hW hr3 hz3 (by have := hW.nbl; omega) (fun hf D9 o9 h9 r9 z9 => ?_) (fun hf D9 o9 h9 => ?_)
        · refine ⟨rfl, ?_⟩
          refine x_goto rfl ?_
          refine x_vret rfl rfl ?_
          exact k1 hf D9 (((o1.tr o2).tr o3).h.tr o9) h9 r9 z9
        · refine ⟨rfl, ?_⟩
          refine x_goto rfl ?_
          refine x_vret rfl rfl ?_
          exact k0 hf D9 (((o1.tr o2).tr o3).h.tr o9) h9
    · rw [hfx] at h3
      have hr3 : Rn S (D3 207) := by rw [o3.1 207 (by decide)]; exact hr2
      have hz3 : HdZ S (D3 207) := by rw [o3.1 207 (by decide)]; exact hz2
      have hw3 : ¬ wdB tp (skp isBk tp a) (skp isLt tp (skp isBk tp a)) 9 = true := fun z => hw3 ⟨rfl, by rw [hfx, wM19]; exact z⟩
      refine ⟨rfl, ?_⟩
      refine x_if_eq (pc' := 36) rfl rfl (fun _ => ?_) (fun c33 => absurd (by decide) c33)
      refine x_aload (pc' := 45) rfl rfl rfl ?_
      refine x_int (pc' := 46) (v := nI 1) rfl rfl rfl ?_
      refine x_iload (pc' := 47) rfl rfl rfl ?_
      refine x_callV (pc' := 50) (d1 := 2) (Bs := [_, _]) rfl rfl rfl rfl rfl rfl rfl (Nat.le_of_ble_eq_true rfl) ⟨rfl, rfl⟩ (by decide) rfl (by decide) ?_
      refine w_X10_fails h3 hs4 (by decide) (by decide) (fun D9 o9 h9 e9 => ?_)
      rw [if_pos rfl] at h9
      refine ⟨rfl, ?_⟩
      refine x_vret rfl rfl ?_
      have e : pPart tp S a = (8 * (skp isBk tp a) + 1, S, 0) := by unfold pPart; rw [if_neg hw2, if_neg hw3]
      rw [e] at k0
      exact k0 (Nat.succ_ne_zero _) D9 (((o1.tr o2).tr o3).h.tr o9.h) ⟨_, h9⟩
set_option maxRecDepth 20000 in
set_option maxHeartbeats 1000000 in
theorem l0_X10_tell {L : Nat → Nat → Int64} {Q : bh_Q} {d : Nat} (hd : 0 ≤ d) {D0 : Nat → Nat → Int32} (k1 : ∀ D', (∀ k, k ≠ 207 → D' k = D0 k) → (∀ j, j < 560 → D' 207 j = nI 0) → bw m_X10_tell d Q 32 [.ref 205, .int (nI 560)] [] D' L) : ∀ (f i : Nat) (D : Nat → Nat → Int32), i + f = 560 → (∀ k, k ≠ 207 → D k = D0 k) → (∀ j, j < i → D 207 j = nI 0) → bw m_X10_tell d Q 12 [.ref 205, .int (nI i)] [] D L := by
  intro f
  induction f with
  | zero =>
    intro i D hf o z
    refine x_iload (pc' := 13) rfl rfl rfl ?_
    refine x_int (pc' := 16) (v := nI 560) rfl rfl rfl ?_
    refine y_ic_ge (pc' := 19) rfl rfl (by omega) (by omega) (fun c16 => ?_) (fun c16 => ?_)
    · obtain rfl : i = 560 := by omega
      exact k1 D o z
    · exact absurd c16 (by omega)
  | succ f ih =>
    intro i D hf o z
    refine x_iload (pc' := 13) rfl rfl rfl ?_
    refine x_int (pc' := 16) (v := nI 560) rfl rfl rfl ?_
    refine y_ic_ge (pc' := 19) rfl rfl (by omega) (by omega) (fun c16 => ?_) (fun c16 => ?_)
    · exact absurd c16 (by omega)
    · refine x_aload (pc' := 20) rfl rfl rfl ?_
      refine x_getR (pc' := 23) rfl rfl rfl (by decide) rfl (by decide) rfl rfl ?_
      refine x_iload (pc' := 24) rfl rfl rfl ?_
      refine x_int (pc' := 25) (v := nI 0) rfl rfl rfl ?_
      refine x_iast (pc' := 26) rfl rfl (by decide) rfl (by decide) (show _ < 560 by omega) ?_
      refine y_inc (pc' := 29) (lv' := [_, _]) rfl rfl rfl (by decide) rfl ?_
      refine x_goto rfl ?_
      refine ih (i + 1) _ (by omega) (fun k hk => (bh_up2_ne _ _ _ hk).trans (o k hk)) (fun j hj => ?_)
      by_cases e : j = i
      · rw [e]; exact bh_up2_self _ _ _ _
      · rw [up2_o e]; exact z j (by omega)
set_option maxRecDepth 20000 in
set_option maxHeartbeats 1000000 in
theorem l_X10_tell {L : Nat → Nat → Int64} {Q : bh_Q} {d : Nat} (hd : 7 ≤ d) {tp : List Nat} {R : Nat × TW} {D0 : Nat → Nat → Int32} (k1 : ∀ S', (0, S') = R → WF S' → ∀ D', OHd D0 D' → (∃ e, MS D' tp e 0) → Rn S' (D' 207) → bw m_X10_tell d Q 116 [.ref 205, .int (nI 0)] [] D' L) (k0 : ∀ f S', ¬ f = 0 → (f, S') = R → ∀ D', OHd D0 D' → (∃ e, MS D' tp e f) → bw m_X10_tell d Q 116 [.ref 205, .int (nI 0)] [] D' L) : ∀ (f : Nat) (S : TW) (a : Nat) (D : Nat → Nat → Int32), tp.length - a < f → MS D tp a 0 → WF S → Rn S (D 207) → HdZ S (D 207) → OHd D0 D → pAll tp f S a = R → bw m_X10_tell d Q 46 [.ref 205, .int (nI 1)] [] D L := by
  intro f
  induction f with
  | zero => intro S a D hf; omega
  | succ f ih =>
    intro S a D hf2 h hW hR hZ o hr
    have h4 := h.l4
    have ha := h.al
    refine x_iload (pc' := 47) rfl rfl rfl ?_
    refine x_if_eq (pc' := 50) rfl rfl (fun c47 => absurd c47 (by decide)) (fun _ => ?_)
    refine x_aload (pc' := 51) rfl rfl rfl ?_
    refine x_callV (pc' := 54) (d1 := 7) (Bs := []) rfl rfl rfl rfl rfl rfl rfl (Nat.le_of_ble_eq_true rfl) ⟨rfl, rfl⟩ (by decide) rfl (by omega) ?_
    refine w_X10_readsPart h hW hR hZ (fun hf D1 o1 h1 r1 z1 => ?_) (fun hf D1 o1 h1 => ?_) (fun q hf hl D1 o1 h1 => ?_)
    · have hok := pPart_ok hW hf
      have hsk := skp_ge (p := isBk) (tp := tp) (pPart tp S a).2.2
      refine ⟨rfl, ?_⟩
      refine x_aload (pc' := 55) rfl rfl rfl ?_
      refine x_callV (pc' := 58) (d1 := 1) (Bs := []) rfl rfl rfl rfl rfl rfl rfl (Nat.le_of_ble_eq_true rfl) ⟨rfl, rfl⟩ (by decide) rfl (by omega) ?_
      refine w_X10_isRight h1 (fun _ => ?_) (fun hf => absurd rfl hf)
      refine ⟨rfl, ?_⟩
      refine x_if_eq (pc' := 61) rfl rfl (fun c58 => absurd c58 (by decide)) (fun _ => ?_)
      refine x_aload (pc' := 62) rfl rfl rfl ?_
      refine x_callV (pc' := 65) (d1 := 2) (Bs := []) rfl rfl rfl rfl rfl rfl rfl (Nat.le_of_ble_eq_true rfl) ⟨rfl, rfl⟩ (by decide) rfl (by omega) ?_
      refine w_X10_next h1 (fun D2 o2 h2 e2 => ?_)
      refine ⟨rfl, ?_⟩
      have hrr : Rn (pPart tp S a).2.1 (D2 207) := by rw [o2.1 207 (by decide)]; exact r1
      have hzz : HdZ (pPart tp S a).2.1 (D2 207) := by rw [o2.1 207 (by decide)]; exact z1
      have hal := h2.al
      refine x_int (pc' := 67) (v := nI 59) rfl rfl rfl ?_
      refine x_ic_ne (pc' := 70) rfl rfl (fun c67 => ?_) (fun c67 => ?_)
      · refine x_int (pc' := 75) (v := nI 0) rfl rfl rfl ?_
        refine x_istore (pc' := 76) (lv' := [_, _]) rfl rfl (by decide) rfl ?_
        refine x_aload (pc' := 77) rfl rfl rfl ?_
        refine x_dup (pc' := 78) rfl rfl rfl ?_
        refine x_getI (j := 8) (pc' := 81) rfl rfl rfl (by decide) rfl (by decide) rfl rfl ?_
        refine x_top (h2.at) ?_
        refine x_iload (pc' := 82) rfl rfl rfl ?_
        refine x_callS (pc' := 85) (d1 := 1) (As := [_]) rfl rfl rfl rfl (by decide) rfl rfl (Nat.le_of_ble_eq_true rfl) ⟨rfl, rfl⟩ (by omega) ?_
        refine w_X10_truth (by decide) ?_
        refine ⟨rfl, ?_⟩
        refine y_iadd (pc' := 86) rfl rfl ?_
        refine x_putI (j := 8) (pc' := 89) rfl rfl rfl (by decide) rfl (by decide) rfl rfl ?_
        refine x_goto rfl ?_
        refine x_iload (pc' := 47) rfl rfl rfl ?_
        refine x_if_eq (pc' := 50) rfl rfl (fun _ => ?_) (fun c47 => absurd (by decide) c47)
        have h3 := h2.a (b := (skp isBk tp (pPart tp S a).2.2) + 0) h2.al
        refine x_aload (pc' := 93) rfl rfl rfl ?_
        refine x_callV (pc' := 96) (d1 := 1) (Bs := []) rfl rfl rfl rfl rfl rfl rfl (Nat.le_of_ble_eq_true rfl) ⟨rfl, rfl⟩ (by decide) rfl (by omega) ?_
        refine w_X10_isRight h3 (fun _ => ?_) (fun hf => absurd rfl hf)
        refine ⟨rfl, ?_⟩
        refine x_if_eq (pc' := 99) rfl rfl (fun c96 => absurd c96 (by decide)) (fun _ => ?_)
        refine x_aload (pc' := 100) rfl rfl rfl ?_
        refine x_callV (pc' := 103) (d1 := 1) (Bs := []) rfl rfl rfl rfl rfl rfl rfl (Nat.le_of_ble_eq_true rfl) ⟨rfl, rfl⟩ (by decide) rfl (by omega) ?_
        refine w_X10_sign h3 ?_
        refine ⟨rfl, ?_⟩
        refine x_int (pc' := 104) (v := (-1)) rfl rfl rfl ?_
        refine x_ic_eq (pc' := 107) rfl rfl (fun c104 => ?_) (fun c104 => ?_)
        · have hq := (sgV_n (fun z => h2.b2 z)).mp c104
          have e : pAll tp (f + 1) S a = (0, (pPart tp S a).2.1) := by rw [pAll_s, if_neg (fun z => z hf), if_pos (by omega)]
          rw [e] at hr
          exact k1 _ hr hok.1 _ ((o.tr (o1.tr o2.h)).tr (O205.up (Or.inl rfl)).h) ⟨_, h3⟩ (by rw [bh_up2_ne _ _ _ (by decide)]; exact hrr)
        · refine x_aload (pc' := 108) rfl rfl rfl ?_
          refine x_int (pc' := 109) (v := nI 1) rfl rfl rfl ?_
          refine x_aload (pc' := 110) rfl rfl rfl ?_
          refine x_getI (j := 8) (pc' := 113) rfl rfl rfl (by decide) rfl (by decide) rfl rfl ?_
          refine x_top (h3.at) ?_
          refine x_callV (pc' := 116) (d1 := 2) (Bs := [_, _]) rfl rfl rfl rfl rfl rfl rfl (Nat.le_of_ble_eq_true rfl) ⟨rfl, rfl⟩ (by decide) rfl (by omega) ?_
          refine w_X10_fails (s := (skp isBk tp (pPart tp S a).2.2)) h3 (show (skp isBk tp (pPart tp S a).2.2) ≤ 400 by have := h3.al; have := h3.l4; omega) (by decide) (by decide) (fun D9 o9 h9 e9 => ?_)
          rw [if_pos rfl] at h9
          refine ⟨rfl, ?_⟩
          have hn : ¬ tp.length ≤ (skp isBk tp (pPart tp S a).2.2) := fun z => c104 ((sgV_n (fun z => h2.b2 z)).mpr z)
          have e : pAll tp (f + 1) S a = (8 * (skp isBk tp (pPart tp S a).2.2) + 1, S) := by rw [pAll_s, if_neg (fun z => z hf), if_neg hn, if_neg (fun z => c67 ((sgV_eq (by decide) (fun z => h2.b2 z)).mpr ⟨by omega, z⟩))]
          rw [e] at hr
          exact k0 _ _ (Nat.succ_ne_zero _) hr _ (((o.tr (o1.tr o2.h)).tr (O205.up (Or.inl rfl)).h).tr o9.h) ⟨_, h9⟩
      · refine x_int (pc' := 71) (v := nI 1) rfl rfl rfl ?_
        refine x_goto rfl ?_
        refine x_istore (pc' := 76) (lv' := [_, _]) rfl rfl (by decide) rfl ?_
        refine x_aload (pc' := 77) rfl rfl rfl ?_
        refine x_dup (pc' := 78) rfl rfl rfl ?_
        refine x_getI (j := 8) (pc' := 81) rfl rfl rfl (by decide) rfl (by decide) rfl rfl ?_
        refine x_top (h2.at) ?_
        refine x_iload (pc' := 82) rfl rfl rfl ?_
        refine x_callS (pc' := 85) (d1 := 1) (As := [_]) rfl rfl rfl rfl (by decide) rfl rfl (Nat.le_of_ble_eq_true rfl) ⟨rfl, rfl⟩ (by omega) ?_
        refine w_X10_truth (by decide) ?_
        refine ⟨rfl, ?_⟩
        refine y_iadd (pc' := 86) rfl rfl ?_
        refine x_putI (j := 8) (pc' := 89) rfl rfl rfl (by decide) rfl (by decide) rfl rfl ?_
        refine x_goto rfl ?_
        have hq := (sgV_eq (by decide) (fun z => h2.b2 z)).mp c67
        have e : pAll tp (f + 1) S a = pAll tp f (pPart tp S a).2.1 ((skp isBk tp (pPart tp S a).2.2) + 1) := by rw [pAll_s, if_neg (fun z => z hf), if_neg (by omega), if_pos hq.2]
        rw [e] at hr
        exact ih _ _ _ (by have := hok.2; omega) (h2.a (b := (skp isBk tp (pPart tp S a).2.2) + 1) (by omega)) hok.1 (by rw [bh_up2_ne _ _ _ (by decide)]; exact hrr) (by rw [bh_up2_ne _ _ _ (by decide)]; exact hzz) ((o.tr (o1.tr o2.h)).tr (O205.up (Or.inl rfl)).h) hr
    · obtain ⟨e1, h1⟩ := h1
      refine ⟨rfl, ?_⟩
      refine x_aload (pc' := 55) rfl rfl rfl ?_
      refine x_callV (pc' := 58) (d1 := 1) (Bs := []) rfl rfl rfl rfl rfl rfl rfl (Nat.le_of_ble_eq_true rfl) ⟨rfl, rfl⟩ (by decide) rfl (by omega) ?_
      refine w_X10_isRight h1 (fun hf2 => absurd hf2 hf) (fun _ => ?_)
      refine ⟨rfl, ?_⟩
      refine x_if_eq (pc' := 61) rfl rfl (fun _ => ?_) (fun c58 => absurd (by decide) c58)
      refine x_int (pc' := 75) (v := nI 0) rfl rfl rfl ?_
      refine x_istore (pc' := 76) (lv' := [_, _]) rfl rfl (by decide) rfl ?_
      refine x_aload (pc' := 77) rfl rfl rfl ?_
      refine x_dup (pc' := 78) rfl rfl rfl ?_
      refine x_getI (j := 8) (pc' := 81) rfl rfl rfl (by decide) rfl (by decide) rfl rfl ?_
      refine x_top (h1.at) ?_
      refine x_iload (pc' := 82) rfl rfl rfl ?_
      refine x_callS (pc' := 85) (d1 := 1) (As := [_]) rfl rfl rfl rfl (by decide) rfl rfl (Nat.le_of_ble_eq_true rfl) ⟨rfl, rfl⟩ (by omega) ?_
      refine w_X10_truth (by decide) ?_
      refine ⟨rfl, ?_⟩
      refine y_iadd (pc' := 86) rfl rfl ?_
      refine x_putI (j := 8) (pc' := 89) rfl rfl rfl (by decide) rfl (by decide) rfl rfl ?_
      refine x_goto rfl ?_
      refine x_iload (pc' := 47) rfl rfl rfl ?_
      refine x_if_eq (pc' := 50) rfl rfl (fun _ => ?_) (fun c47 => absurd (by decide) c47)
      refine x_aload (pc' := 93) rfl rfl rfl ?_
      refine x_callV (pc' := 96) (d1 := 1) (Bs := []) rfl rfl rfl rfl rfl rfl rfl (Nat.le_of_ble_eq_true rfl) ⟨rfl, rfl⟩ (by decide) rfl (by omega) ?_
      refine w_X10_isRight (h1.a (b := e1 + 0) h1.al) (fun hf2 => absurd hf2 hf) (fun _ => ?_)
      refine ⟨rfl, ?_⟩
      refine x_if_eq (pc' := 99) rfl rfl (fun _ => ?_) (fun c96 => absurd (by decide) c96)
      have e : pAll tp (f + 1) S a = ((pPart tp S a).1, S) := by rw [pAll_s, if_pos hf]
      rw [e] at hr
      exact k0 _ _ hf hr _ ((o.tr o1).tr (O205.up (Or.inl rfl)).h) ⟨_, h1.a (b := e1 + 0) h1.al⟩
    · obtain ⟨hl1, hl2, hl3⟩ := let_sk hl
      refine ⟨rfl, ?_⟩
      refine x_aload (pc' := 55) rfl rfl rfl ?_
      refine x_callV (pc' := 58) (d1 := 1) (Bs := []) rfl rfl rfl rfl rfl rfl rfl (Nat.le_of_ble_eq_true rfl) ⟨rfl, rfl⟩ (by decide) rfl (by omega) ?_
      refine w_X10_isRight h1 (fun _ => ?_) (fun hf => absurd rfl hf)
      refine ⟨rfl, ?_⟩
      refine x_if_eq (pc' := 61) rfl rfl (fun c58 => absurd c58 (by decide)) (fun _ => ?_)
      refine x_aload (pc' := 62) rfl rfl rfl ?_
      refine x_callV (pc' := 65) (d1 := 2) (Bs := []) rfl rfl rfl rfl rfl rfl rfl (Nat.le_of_ble_eq_true rfl) ⟨rfl, rfl⟩ (by decide) rfl (by omega) ?_
      refine w_X10_next h1 (fun D2 o2 h2 e2 => ?_)
      refine ⟨rfl, ?_⟩
      rw [hl2] at h2 ⊢
      refine x_int (pc' := 67) (v := nI 59) rfl rfl rfl ?_
      refine x_ic_ne (pc' := 70) rfl rfl (fun c67 => ?_) (fun c67 => ?_)
      · refine x_int (pc' := 75) (v := nI 0) rfl rfl rfl ?_
        refine x_istore (pc' := 76) (lv' := [_, _]) rfl rfl (by decide) rfl ?_
        refine x_aload (pc' := 77) rfl rfl rfl ?_
        refine x_dup (pc' := 78) rfl rfl rfl ?_
        refine x_getI (j := 8) (pc' := 81) rfl rfl rfl (by decide) rfl (by decide) rfl rfl ?_
        refine x_top (h2.at) ?_
        refine x_iload (pc' := 82) rfl rfl rfl ?_
        refine x_callS (pc' := 85) (d1 := 1) (As := [_]) rfl rfl rfl rfl (by decide) rfl rfl (Nat.le_of_ble_eq_true rfl) ⟨rfl, rfl⟩ (by omega) ?_
        refine w_X10_truth (by decide) ?_
        refine ⟨rfl, ?_⟩
        refine y_iadd (pc' := 86) rfl rfl ?_
        refine x_putI (j := 8) (pc' := 89) rfl rfl rfl (by decide) rfl (by decide) rfl rfl ?_
        refine x_goto rfl ?_
        refine x_iload (pc' := 47) rfl rfl rfl ?_
        refine x_if_eq (pc' := 50) rfl rfl (fun _ => ?_) (fun c47 => absurd (by decide) c47)
        have h3 := h2.a (b := q + 0) h2.al
        refine x_aload (pc' := 93) rfl rfl rfl ?_
        refine x_callV (pc' := 96) (d1 := 1) (Bs := []) rfl rfl rfl rfl rfl rfl rfl (Nat.le_of_ble_eq_true rfl) ⟨rfl, rfl⟩ (by decide) rfl (by omega) ?_
        refine w_X10_isRight h3 (fun _ => ?_) (fun hf => absurd rfl hf)
        refine ⟨rfl, ?_⟩
        refine x_if_eq (pc' := 99) rfl rfl (fun c96 => absurd c96 (by decide)) (fun _ => ?_)
        refine x_aload (pc' := 100) rfl rfl rfl ?_
        refine x_callV (pc' := 103) (d1 := 1) (Bs := []) rfl rfl rfl rfl rfl rfl rfl (Nat.le_of_ble_eq_true rfl) ⟨rfl, rfl⟩ (by decide) rfl (by omega) ?_
        refine w_X10_sign h3 ?_
        refine ⟨rfl, ?_⟩
        refine x_int (pc' := 104) (v := (-1)) rfl rfl rfl ?_
        refine x_ic_eq (pc' := 107) rfl rfl (fun c104 => ?_) (fun c104 => ?_)
        · exact absurd ((sgV_n (fun z => h2.b2 z)).mp c104) (by omega)
        · refine x_aload (pc' := 108) rfl rfl rfl ?_
          refine x_int (pc' := 109) (v := nI 1) rfl rfl rfl ?_
          refine x_aload (pc' := 110) rfl rfl rfl ?_
          refine x_getI (j := 8) (pc' := 113) rfl rfl rfl (by decide) rfl (by decide) rfl rfl ?_
          refine x_top (h3.at) ?_
          refine x_callV (pc' := 116) (d1 := 2) (Bs := [_, _]) rfl rfl rfl rfl rfl rfl rfl (Nat.le_of_ble_eq_true rfl) ⟨rfl, rfl⟩ (by decide) rfl (by omega) ?_
          refine w_X10_fails (s := q) h3 (show q ≤ 400 by have := h3.al; have := h3.l4; omega) (by decide) (by decide) (fun D9 o9 h9 e9 => ?_)
          rw [if_pos rfl] at h9
          refine ⟨rfl, ?_⟩
          have e : pAll tp (f + 1) S a = (8 * q + 1, S) := by rw [pAll_s, if_pos (by rw [hf]; exact Nat.succ_ne_zero _), hf]
          rw [e] at hr
          exact k0 _ _ (Nat.succ_ne_zero _) hr _ (((o.tr (o1.tr o2.h)).tr (O205.up (Or.inl rfl)).h).tr o9.h) ⟨_, h9⟩
      · exact absurd ((sgV_eq (by decide) (fun z => h2.b2 z)).mp c67).2 hl3
set_option maxRecDepth 20000 in
set_option maxHeartbeats 1000000 in
theorem t_X10_tell {D : Nat → Nat → Int32} {L : Nat → Nat → Int64} {Q : bh_Q} {d : Nat} (hd : 7 ≤ d) {T S2 : TW} {ps : List TW} {sh : Nat → Option TW} {tp : List Nat} {f : Nat} {x : Int32} (hI : InvM D T ps sh tp) (h9 : D 205 9 = fI f) (hf : f < 10000) (hS : f = 0 → WF S2 ∧ Rn S2 (D 207)) (k1 : f = 0 → ∀ D', (∀ k, k < 205 → D' k = D k) → InvM D' S2 [] sh [] → Q (some (.int (nI (nw S2)))) (hp D' L)) (k0 : ¬ f = 0 → ∀ D', (∀ k, k < 205 → D' k = D k) → InvM D' T ps sh [] → Q (some (.int (-2 - nI f))) (hp D' L)) : bw m_X10_tell d Q 116 [.ref 205, .int x] [] D L := by
  refine x_aload (pc' := 117) rfl rfl rfl ?_
  refine x_int (pc' := 118) (v := nI 0) rfl rfl rfl ?_
  refine x_putI (j := 7) (pc' := 121) rfl rfl rfl (by decide) rfl (by decide) rfl rfl ?_
  refine x_aload (pc' := 122) rfl rfl rfl ?_
  refine x_callV (pc' := 125) (d1 := 1) (Bs := []) rfl rfl rfl rfl rfl rfl rfl (Nat.le_of_ble_eq_true rfl) ⟨rfl, rfl⟩ (by decide) rfl (by omega) ?_
  refine w2_X10_isRight (show bh_up2 D 205 7 (nI 0) 205 9 = fI f from (up2_o (by decide)).trans h9) hf (fun hf0 => ?_) (fun hf0 => ?_)
  · refine ⟨rfl, ?_⟩
    refine x_if_ne (pc' := 128) rfl rfl (fun _ => ?_) (fun c125 => absurd c125 (by decide))
    refine x_aload (pc' := 137) rfl rfl rfl ?_
    refine x_getR (pc' := 140) rfl rfl rfl (by decide) rfl (by decide) rfl rfl ?_
    refine x_int (pc' := 141) (v := nI 0) rfl rfl rfl ?_
    refine x_aload (pc' := 142) rfl rfl rfl ?_
    refine x_getR (pc' := 145) rfl rfl rfl (by decide) rfl (by decide) rfl rfl ?_
    refine x_int (pc' := 146) (v := nI 0) rfl rfl rfl ?_
    refine x_callS (pc' := 149) (d1 := 1) (As := [_, _, _, _]) rfl rfl rfl rfl (by decide) rfl rfl (Nat.le_of_ble_eq_true rfl) ⟨rfl, rfl⟩ (by omega) ?_
    refine w_X10_moves (by decide) (by decide) rfl rfl (by decide) (by decide) (by decide) (by decide) (by decide) (fun D2 v2 => ?_)
    obtain ⟨hW, hR⟩ := hS hf0
    have hR2 : Rn S2 (D2 206) := rn_row hW (fun k hk => by have := v2.1 k hk; rw [Nat.zero_add] at this; exact this.trans (by rw [bh_up2_ne _ _ _ (by decide)])) hR
    have oo : ∀ k, k ≠ 206 → k ≠ 205 → D2 k = D k := fun k a b => (v2.2.2 k a).trans (bh_up2_ne _ _ _ b)
    refine ⟨rfl, ?_⟩
    refine x_aload (pc' := 150) rfl rfl rfl ?_
    refine x_int (pc' := 151) (v := nI 0) rfl rfl rfl ?_
    refine x_putI (j := 5) (pc' := 154) rfl rfl rfl (by decide) rfl (by decide) rfl rfl ?_
    refine x_aload (pc' := 155) rfl rfl rfl ?_
    refine x_getR (pc' := 158) rfl rfl rfl (by decide) rfl (by decide) rfl rfl ?_
    refine x_int (pc' := 159) (v := nI 0) rfl rfl rfl ?_
    refine x_iald (pc' := 160) rfl rfl (by decide) rfl (by decide) (show _ < 560 by omega) ?_
    refine x_top (hR2.1.1.trans hW.enw) ?_
    refine x_iret rfl rfl ?_
    refine k1 hf0 _ (fun k hk => ?_) ⟨?_, ⟨Nat.zero_le _, bh_up2_self _ _ _ _, fun j hj => absurd hj (Nat.not_lt_zero j)⟩, ?_, ?_, fun i hi => absurd hi (Nat.not_lt_zero i)⟩
    · rw [bh_up2_ne _ _ _ (by omega)]; exact oo k (by omega) (by omega)
    · rw [bh_up2_ne _ _ _ (by decide)]; exact hR2
    · unfold KM
      rw [bh_up2_ne _ _ _ (by decide), bh_up2_ne _ _ _ (by decide), oo 209 (by decide) (by decide), oo 210 (by decide) (by decide)]
      exact hI.2.2.1
    · rw [up2_o (by decide), v2.2.2 205 (by decide)]; exact bh_up2_self _ _ _ _
  · refine ⟨rfl, ?_⟩
    refine x_if_ne (pc' := 128) rfl rfl (fun c125 => absurd (by decide) c125) (fun _ => ?_)
    refine x_int (pc' := 130) (v := (-2)) rfl rfl rfl ?_
    refine x_aload (pc' := 131) rfl rfl rfl ?_
    refine x_getI (j := 9) (pc' := 134) rfl rfl rfl (by decide) rfl (by decide) rfl rfl ?_
    refine x_top ((up2_o (by decide)).trans (h9.trans (if_neg hf0))) ?_
    refine x_isub (pc' := 135) rfl rfl ?_
    refine x_iret rfl rfl ?_
    exact k0 hf0 _ (fun k hk => bh_up2_ne _ _ _ (by omega)) ⟨by rw [bh_up2_ne _ _ _ (by decide)]; exact hI.1, ⟨hI.2.1.1, (up2_o (by decide)).trans hI.2.1.2.1, by rw [bh_up2_ne _ _ _ (by decide)]; exact hI.2.1.2.2⟩, (by unfold KM; rw [bh_up2_ne _ _ _ (by decide), bh_up2_ne _ _ _ (by decide)]; exact hI.2.2.1), bh_up2_self _ _ _ _, fun i hi => absurd hi (Nat.not_lt_zero i)⟩
theorem OHd.inv {D D' : Nat → Nat → Int32} {T : TW} {ps : List TW} {sh : Nat → Option TW} {tp : List Nat} (o : OHd D D') (hI : InvM D T ps sh tp) : InvM D' T ps sh tp := invM_off hI (fun k a b c => o.1 k (by omega) c) (o.2 5 (by decide) (by decide) (by decide)) (o.2 7 (by decide) (by decide) (by decide))
theorem OHd.lo {D D' : Nat → Nat → Int32} (o : OHd D D') : ∀ k, k < 205 → D' k = D k := fun k hk => o.1 k (by omega) (by omega)
set_option maxRecDepth 20000 in
set_option maxHeartbeats 1000000 in
theorem w_X10_tell {D : Nat → Nat → Int32} {L : Nat → Nat → Int64} {Q : bh_Q} {T S0 : TW} {ps : List TW} {sh : Nat → Option TW} {tp : List Nat} (hI : InvM D T ps sh tp) (hP : tp.length ≤ 400 ∧ ∀ i, i < tp.length → tp.getD i 0 < 256) (hs : ∀ i, i < 384 → is (S0 11 i) 65536) (k1 : (pTell tp S0).1 = 0 → ∀ D', (∀ k, k < 205 → D' k = D k) → InvM D' (pTell tp S0).2 [] sh [] → Q (some (.int (nI (nw (pTell tp S0).2)))) (hp D' L)) (k0 : ¬ (pTell tp S0).1 = 0 → ∀ D', (∀ k, k < 205 → D' k = D k) → InvM D' T ps sh [] → Q (some (.int (-2 - nI (pTell tp S0).1))) (hp D' L)) : bh_wc 8 m_X10_tell [.ref 205] (hp D L) Q := by
  refine x_start (lv0 := [_, _]) (Nat.le_of_ble_eq_true rfl) rfl ?_
  have hE := emS_wf (S := S0) hs
  refine x_aload (pc' := 1) rfl rfl rfl ?_
  refine x_int (pc' := 2) (v := nI 0) rfl rfl rfl ?_
  refine x_putI (j := 8) (pc' := 5) rfl rfl rfl (by decide) rfl (by decide) rfl rfl ?_
  refine x_aload (pc' := 6) rfl rfl rfl ?_
  refine x_int (pc' := 7) (v := (-1)) rfl rfl rfl ?_
  refine x_putI (j := 9) (pc' := 10) rfl rfl rfl (by decide) rfl (by decide) rfl rfl ?_
  refine x_int (pc' := 11) (v := nI 0) rfl rfl rfl ?_
  refine x_istore (pc' := 12) (lv' := [_, _]) rfl rfl (by decide) rfl ?_
  refine l0_X10_tell (d := 7) (by decide) (D0 := bh_up2 (bh_up2 D 205 8 (nI 0)) 205 9 (-1)) (fun D1 o1 z1 => ?_) 560 0 _ rfl (fun _ _ => rfl) (fun j hj => absurd hj (Nat.not_lt_zero j))
  have hem := rn_em hs z1
  have oD : OHd D D1 := ⟨fun k a b => by rw [o1 k b, bh_up2_ne _ _ _ a, bh_up2_ne _ _ _ a], fun j a b c => by rw [o1 205 (by decide), up2_o b, up2_o a]⟩
  have hM : MS D1 tp 0 0 := ⟨(oD.inv hI).2.2.2, hP, by rw [o1 205 (by decide)]; exact (up2_o (by decide)).trans (bh_up2_self _ _ _ _), Nat.zero_le _, by rw [o1 205 (by decide)]; exact bh_up2_self _ _ _ _, by decide⟩
  refine x_aload (pc' := 33) rfl rfl rfl ?_
  refine x_callV (pc' := 36) (d1 := 2) (Bs := []) rfl rfl rfl rfl rfl rfl rfl (Nat.le_of_ble_eq_true rfl) ⟨rfl, rfl⟩ (by decide) rfl (by omega) ?_
  refine w_X10_next hM (fun D2 o2 h2 e2 => ?_)
  refine ⟨rfl, ?_⟩
  have oo : OHd D D2 := oD.tr o2.h
  have hr2 : Rn (emS S0) (D2 207) := by rw [o2.1 207 (by decide)]; exact hem.1
  have hz2 : HdZ (emS S0) (D2 207) := by rw [o2.1 207 (by decide)]; exact hem.2
  refine x_int (pc' := 37) (v := (-1)) rfl rfl rfl ?_
  refine x_ic_eq (pc' := 40) rfl rfl (fun c37 => ?_) (fun c37 => ?_)
  · refine x_int (pc' := 45) (v := nI 0) rfl rfl rfl ?_
    refine x_istore (pc' := 46) (lv' := [_, _]) rfl rfl (by decide) rfl ?_
    refine x_iload (pc' := 47) rfl rfl rfl ?_
    refine x_if_eq (pc' := 50) rfl rfl (fun _ => ?_) (fun c47 => absurd (by decide) c47)
    refine x_aload (pc' := 93) rfl rfl rfl ?_
    refine x_callV (pc' := 96) (d1 := 1) (Bs := []) rfl rfl rfl rfl rfl rfl rfl (Nat.le_of_ble_eq_true rfl) ⟨rfl, rfl⟩ (by decide) rfl (by omega) ?_
    refine w_X10_isRight h2 (fun _ => ?_) (fun hf => absurd rfl hf)
    refine ⟨rfl, ?_⟩
    refine x_if_eq (pc' := 99) rfl rfl (fun c96 => absurd c96 (by decide)) (fun _ => ?_)
    refine x_aload (pc' := 100) rfl rfl rfl ?_
    refine x_callV (pc' := 103) (d1 := 1) (Bs := []) rfl rfl rfl rfl rfl rfl rfl (Nat.le_of_ble_eq_true rfl) ⟨rfl, rfl⟩ (by decide) rfl (by omega) ?_
    refine w_X10_sign h2 ?_
    refine ⟨rfl, ?_⟩
    refine x_int (pc' := 104) (v := (-1)) rfl rfl rfl ?_
    refine x_ic_eq (pc' := 107) rfl rfl (fun c104 => ?_) (fun c104 => ?_)
    · have hq := (sgV_n (fun z => h2.b2 z)).mp c37
      have e : pTell tp S0 = (0, emS S0) := if_pos hq
      rw [e] at k1
      dsimp only at k1
      exact t_X10_tell (Nat.le_refl _) (oo.inv hI) h2.ft h2.fl (fun _ => ⟨hE.1, hr2⟩) (fun _ D6 g6 i6 => k1 rfl D6 (fun k hk => (g6 k hk).trans (oo.lo k hk)) i6) (fun z => absurd rfl z)
    · exact absurd c37 c104
  · refine x_int (pc' := 41) (v := nI 1) rfl rfl rfl ?_
    refine x_goto rfl ?_
    refine x_istore (pc' := 46) (lv' := [_, _]) rfl rfl (by decide) rfl ?_
    have e : pTell tp S0 = pAll tp 401 (emS S0) (skp isBk tp 0) := if_neg (fun z => c37 ((sgV_n (fun z => h2.b2 z)).mpr z))
    refine l_X10_tell (d := 7) (Nat.le_refl _) (R := pTell tp S0) (D0 := D) (fun S2 er hW2 D5 o5 h5 r5 => ?_) (fun f S2 hf er D5 o5 h5 => ?_) 401 (emS S0) (skp isBk tp 0) D2 (by have := h2.l4; omega) h2 hE.1 hr2 hz2 oo e.symm
    · obtain ⟨e5, h5⟩ := h5
      rw [← er] at k1
      dsimp only at k1
      exact t_X10_tell (Nat.le_refl _) (o5.inv hI) h5.ft h5.fl (fun _ => ⟨hW2, r5⟩) (fun _ D6 g6 i6 => k1 rfl D6 (fun k hk => (g6 k hk).trans (o5.lo k hk)) i6) (fun z => absurd rfl z)
    · obtain ⟨e5, h5⟩ := h5
      rw [← er] at k0
      dsimp only at k0
      exact t_X10_tell (S2 := S2) (Nat.le_refl _) (o5.inv hI) h5.ft h5.fl (fun z => absurd z hf) (fun z => absurd z hf) (fun _ D6 g6 i6 => k0 hf D6 (fun k hk => (g6 k hk).trans (o5.lo k hk)) i6)
