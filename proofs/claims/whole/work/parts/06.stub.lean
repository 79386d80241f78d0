theorem bh_ok_of {m : Nat} (hm : m < 261) (pc : Nat) : bh_ok m pc (bh_cod m pc) = true := sorry
theorem bh_fok_of {i : Nat} {q : String × Nat × Nat × Nat} (h : bh_FL[i]? = some q) : ∃ t, bh_cls[q.2.2.1]? = some t ∧ q.2.2.2 < t.2.2 ∧ Jvm.Cond.fieldLink q.1 q.2.1 (t.2.1 q.2.2.2).1 (t.2.1 q.2.2.2).2.1 (t.2.1 q.2.2.2).2.2.1 ∈ bh_WS := sorry
theorem mok_all {m : Nat} (hm : m < 291) : bh_mok m = true := sorry
theorem cok_all {m : Nat} (hm : m < 261) : bh_cok m = true := sorry
theorem bh_cls_of {ci : Nat} {t : vw_C} (h : bh_cls[ci]? = some t) : ci < 11 := sorry
theorem bh_uok_of {ci : Nat} {t : vw_C} (h : bh_cls[ci]? = some t) : (∀ w ∈ u_ws t.1 t.2.1 t.2.2, w ∈ bh_WS) ∧ (∀ k, k < t.2.2 → parseFieldDescriptor (t.2.1 k).2.2.1 = some (bh_ty ci k)) ∧ (∀ k, k < t.2.2 → (bh_fr ci k = true → bh_ty ci k ≠ .int ∧ defaultValue (bh_ty ci k) = .null) ∧ (bh_fr ci k = false → bh_ty ci k = .int)) ∧ ∀ a, a < t.2.2 → ∀ b, b < t.2.2 → a ≠ b → (t.2.1 a).2.1 ≠ (t.2.1 b).2.1 := sorry
theorem bh_pok_all : (List.range bh_plan.length).all bh_pok = true := sorry
theorem bh_plan_len : bh_plan.length = 228 := sorry
