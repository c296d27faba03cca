/-! floorMod; what is remembered -/
theorem cpy_0 {f g : Nat → Int32} {k : Nat} {j : Nat} : va_cpy f g 0 0 k j = if j < k then f j else g j := by
  unfold va_cpy
  simp
theorem cpy_e {f g : Nat → Int32} {k : Nat} {h : Nat → Int32} (hf : ∀ j, j < k → f j = h j) : ∀ j, j < k → va_cpy f g 0 0 k j = h j := fun j hj => by rw [cpy_0, if_pos hj, hf j hj]
theorem of_fi {P : Nat → Prop} {u u1 : am_U} {a k : Nat} {x : Int32} (h : Only P u u1) (hp : P a) : Only P u (sFI u1 a k x) := h.tr (Only.sFI hp)
theorem of_fj {P : Nat → Prop} {u u1 : am_U} {a k : Nat} {x : Int64} (h : Only P u u1) (hp : P a) : Only P u (sFJ u1 a k x) := h.tr (Only.sFJ hp)
theorem of_fr {P : Nat → Prop} {u u1 : am_U} {a k : Nat} {x : Option Nat} (h : Only P u u1) (hp : P a) : Only P u (sFR u1 a k x) := h.tr (Only.sFR hp)
theorem of_ai {P : Nat → Prop} {u u1 : am_U} {a : Nat} {g : Nat → Int32} (h : Only P u u1) (hp : P a) : Only P u (sAI u1 a g) := h.tr (Only.sAI hp)
theorem of_aj {P : Nat → Prop} {u u1 : am_U} {a : Nat} {g : Nat → Int64} (h : Only P u u1) (hp : P a) : Only P u (sAJ u1 a g) := h.tr (Only.sAJ hp)
section Undo
variable {d : Nat} {u : am_U} {m : am_M} {v : LV} {l : LF} {post : Option Value → am_M → Prop}
theorem fm_dec : ∀ a, a < 33 → nI a - nI a / 16 * 16 = nI (a % 16) ∧ (0 : Int32) ≤ (nI a ^^^ 16) := by decide +kernel
theorem floorMod_ok {a : Nat} (h : a < 33) : Cl d 273 [.int (nI a), .int 16] m post ↔ post (some (.int (nI (a % 16)))) m := by
  have h1 : ¬ (16 : Int32) = 0 := by decide
  rw [op_273]
  simp (disch := first | exact am_nl_i _ | exact am_nl_r _ | exact am_nl_0 | assumption | omega | (refine vi_nI ?_ ?_ <;> omega) | exact b2i_01 _ | exact Or.inl rfl | exact Or.inr rfl | (unfold vi; decide)) only [ex_273_0, ex_273_1, ex_273_2, ex_273_3, ex_273_4, ex_273_5, ex_273_6, ex_273_7, ex_273_10, ex_273_11, ex_273_14, ex_273_15, ex_273_16, ex_273_17, ex_273_18, ex_273_19, if_true, if_false, and_self, Option.toList_some, Option.toList_none, List.singleton_append, List.cons_append, List.nil_append, List.append_nil, nI_1, nt_e, Int32.le_refl, (fm_dec a h).1, (fm_dec a h).2]
theorem set_ok {a b : Nat} (ha : sh a 4 6) (hb : sh b 4 6) (hab : b + 4 ≤ a ∨ a + 4 ≤ b) (hl : LifeC u b l) (h : ∀ u', Only (inL a) u u' → LifeC u' a l → post none (am_emb u')) : Cl (d + 1) 36 [.ref a, .ref b] (am_emb u) post := by
  obtain ⟨l1, l2, l3, l4, l5, l6⟩ := hl
  rw [op_36]
  simp (disch := first | exact am_nl_i _ | exact am_nl_r _ | exact am_nl_0 | assumption | omega | (refine vi_nI ?_ ?_ <;> omega) | exact b2i_01 _ | exact Or.inl rfl | exact Or.inr rfl | (unfold vi; decide)) only [ex_36_0, ex_36_1, ex_36_4, ex_36_5, ex_36_6, ex_36_9, ex_36_10, ex_36_12, ex_36_15, ex_36_16, ex_36_19, ex_36_20, ex_36_21, ex_36_24, ex_36_25, ex_36_27, ex_36_30, ex_36_31, ex_36_34, ex_36_35, ex_36_36, ex_36_39, ex_36_40, ex_36_42, ex_36_45, ex_36_46, ex_36_47, ex_36_50, ex_36_53, ex_36_54, ex_36_55, ex_36_58, ex_36_61, ex_36_62, ex_36_63, ex_36_66, ex_36_69, if_true, if_false, and_self, Option.toList_some, Option.toList_none, List.singleton_append, List.cons_append, List.nil_append, List.append_nil, nI_1, nt_e, Int32.le_refl, AI_sAI, FI_sAI, FI_sFI, show ¬ a + 2 = a + 1 by omega, show ¬ a + 3 = a + 1 by omega, show ¬ a + 3 = a + 2 by omega, show ¬ b + 2 = a + 1 by omega, show ¬ b + 3 = a + 1 by omega, show ¬ b + 3 = a + 2 by omega, show ¬ b = a by omega, false_and]
  have hp : ∀ k, k < 4 → inL a (a + k) := fun k hk => by unfold inL; omega
  refine h _ (of_fi (of_fi (of_fi (of_ai (of_ai (of_ai (Only.rf _ _) (hp 1 (by omega))) (hp 2 (by omega))) (hp 3 (by omega))) (hp 0 (by omega))) (hp 0 (by omega))) (hp 0 (by omega))) ⟨?_, ?_, ?_, ?_, ?_, ?_⟩
  · simp only [AI_sAI, AI_sFI, show ¬ a + 1 = a + 2 by omega, show ¬ a + 1 = a + 3 by omega, if_true, if_false]
    exact cpy_e l1
  · simp only [AI_sAI, AI_sFI, show ¬ a + 2 = a + 3 by omega, if_true, if_false]
    exact cpy_e l2
  · simp only [AI_sAI, AI_sFI, if_true, if_false]
    exact cpy_e l3
  · rw [FI_sFI, if_neg (by omega), FI_sFI, if_neg (by omega), FI_sFI, if_pos ⟨rfl, rfl⟩, l4]
  · rw [FI_sFI, if_neg (by omega), FI_sFI, if_pos ⟨rfl, rfl⟩, l5]
  · rw [FI_sFI, if_pos ⟨rfl, rfl⟩, l6]
end Undo
