/-! WHAT IS LAID: Lines.set, Standing.set -/
def in5 (b a : Nat) : Prop := b ≤ a ∧ a ≤ b + 4
def in10 (b a : Nat) : Prop := b ≤ a ∧ a ≤ b + 9
section Sets
variable {d a b : Nat} {u : am_U} {post : Option Value → am_M → Prop}
theorem linesSet_ok {h : HL} (ha : sh a 5 5) (hb : sh b 5 5) (hab : b + 5 ≤ a ∨ a + 5 ≤ b) (h24 : h.1 ≤ 24) (hl : LinesC u b h) (hp : ∀ u', Only (in5 a) u u' → LinesC u' a h → post none (am_emb u')) : Cl (d + 1) 57 [.ref a, .ref b] (am_emb u) post := by
  obtain ⟨l0, l1⟩ := hl
  rw [op_57]
  simp (disch := first | exact am_nl_i _ | exact am_nl_r _ | exact am_nl_0 | assumption | omega | (refine vi_nI ?_ ?_ <;> omega) | exact b2i_01 _ | exact Or.inl rfl | exact Or.inr rfl | (unfold vi; decide)) only [ex_57_0, ex_57_1, ex_57_4, ex_57_5, ex_57_6, ex_57_9, ex_57_10, ex_57_12, ex_57_15, ex_57_16, ex_57_19, ex_57_20, ex_57_21, ex_57_24, ex_57_25, ex_57_27, ex_57_30, ex_57_31, ex_57_34, ex_57_35, ex_57_36, ex_57_39, ex_57_40, ex_57_42, ex_57_45, ex_57_46, ex_57_49, ex_57_50, ex_57_51, ex_57_54, ex_57_55, ex_57_57, ex_57_60, ex_57_61, ex_57_62, ex_57_65, ex_57_68, if_true, if_false, and_self, Option.toList_some, Option.toList_none, List.singleton_append, List.cons_append, List.nil_append, List.append_nil, nI_1, nt_e, Int32.le_refl, AI_sAI, FI_sAI, show ¬ a + 2 = a + 1 by omega, show ¬ a + 3 = a + 1 by omega, show ¬ a + 3 = a + 2 by omega, show ¬ a + 4 = a + 1 by omega, show ¬ a + 4 = a + 2 by omega, show ¬ a + 4 = a + 3 by omega, show ¬ b + 2 = a + 1 by omega, show ¬ b + 3 = a + 1 by omega, show ¬ b + 3 = a + 2 by omega, show ¬ b + 4 = a + 1 by omega, show ¬ b + 4 = a + 2 by omega, show ¬ b + 4 = a + 3 by omega]
  have w : ∀ k, k < 5 → in5 a (a + k) := fun k hk => by unfold in5; omega
  refine hp _ (of_fi (of_ai (of_ai (of_ai (of_ai (Only.rf _ _) (w 1 (by omega))) (w 2 (by omega))) (w 3 (by omega))) (w 4 (by omega))) (w 0 (by omega))) ⟨?_, fun j hj => ?_⟩
  · rw [FI_sFI, if_pos ⟨rfl, rfl⟩, l0]
  · obtain ⟨b1, b2, b3, b4⟩ := l1 j hj
    have e : ∀ f g : Nat → Int32, va_cpy f g 0 0 24 j = f j := fun f g => by rw [cpy_0, if_pos (by omega)]
    simp only [AI_sFI, AI_sAI, show ¬ a + 1 = a + 2 by omega, show ¬ a + 1 = a + 3 by omega, show ¬ a + 1 = a + 4 by omega, show ¬ a + 2 = a + 3 by omega, show ¬ a + 2 = a + 4 by omega, show ¬ a + 3 = a + 4 by omega, if_true, if_false, e]
    exact ⟨b1, b2, b3, b4⟩
theorem stand_places (ha : sh a 9 6) : 64 ≤ a ∧ a ≤ 178 := by
  have h1 : (List.range am_N).all (fun a => !decide (am_shL[a]? = some (9, 6)) || decide (64 ≤ a ∧ a ≤ 178)) = true := by decide +kernel
  have h2 := List.all_eq_true.mp h1 a (List.mem_range.mpr (sh_lt ha))
  simp only [Bool.or_eq_true, Bool.not_eq_true', decide_eq_false_iff_not, decide_eq_true_eq] at h2
  rcases h2 with h2 | h2
  · exact absurd ha h2
  · exact h2
theorem standSet_ok {s : SN} (ha : sh a 9 6) (hb : sh b 9 6) (hab : b + 10 ≤ a ∨ a + 10 ≤ b) (h24 : s.2.1.1 ≤ 24) (hl : StandC u b s) (hp : ∀ u', Only (in10 a) u u' → StandC u' a s → FI u' a 5 = FI u a 5 → post none (am_emb u')) : Cl (d + 2) 103 [.ref a, .ref b] (am_emb u) post := by
  obtain ⟨l1, l2, t1, t2, t3⟩ := hl
  rw [op_103]
  simp (disch := first | exact am_nl_i _ | exact am_nl_r _ | exact am_nl_0 | assumption | omega | (refine vi_nI ?_ ?_ <;> omega) | exact b2i_01 _ | exact Or.inl rfl | exact Or.inr rfl | (unfold vi; decide)) only [ex_103_0, ex_103_1, ex_103_4, ex_103_5, ex_103_11, ex_103_12, ex_103_15, ex_103_16, ex_103_22, ex_103_23, ex_103_24, ex_103_27, ex_103_30, ex_103_31, ex_103_32, ex_103_35, ex_103_38, ex_103_39, ex_103_40, ex_103_43, ex_103_46, if_true, if_false, and_self, Option.toList_some, Option.toList_none, List.singleton_append, List.cons_append, List.nil_append, List.append_nil, nI_1, nt_e, Int32.le_refl]
  rw [ex_103_8 ha]
  refine set_ok (sh_9_1 ha) (sh_9_1 hb) (by omega) l1 (fun u1 o1 a1 => ?_)
  simp (disch := first | exact am_nl_i _ | exact am_nl_r _ | exact am_nl_0 | assumption | omega | (refine vi_nI ?_ ?_ <;> omega) | exact b2i_01 _ | exact Or.inl rfl | exact Or.inr rfl | (unfold vi; decide)) only [ex_103_0, ex_103_1, ex_103_4, ex_103_5, ex_103_11, ex_103_12, ex_103_15, ex_103_16, ex_103_22, ex_103_23, ex_103_24, ex_103_27, ex_103_30, ex_103_31, ex_103_32, ex_103_35, ex_103_38, ex_103_39, ex_103_40, ex_103_43, ex_103_46, if_true, if_false, and_self, Option.toList_some, Option.toList_none, List.singleton_append, List.cons_append, List.nil_append, List.append_nil, nI_1, nt_e, Int32.le_refl]
  rw [ex_103_19 ha]
  have l2' : LinesC u1 (b + 5) s.2.1 := l2.keep o1 (fun k hk q => by unfold inL at q; omega)
  refine linesSet_ok (sh_9_5 ha) (sh_9_5 hb) (by omega) h24 l2' (fun u2 o2 a2 => ?_)
  have ea : FI u2 a = FI u a := by rw [(o2 a (by unfold in5; omega)).1, (o1 a (by unfold inL; omega)).1]
  have eb : FI u2 b = FI u b := by rw [(o2 b (by unfold in5; omega)).1, (o1 b (by unfold inL; omega)).1]
  have hba : ¬ b = a := by omega
  simp (disch := first | exact am_nl_i _ | exact am_nl_r _ | exact am_nl_0 | assumption | omega | (refine vi_nI ?_ ?_ <;> omega) | exact b2i_01 _ | exact Or.inl rfl | exact Or.inr rfl | (unfold vi; decide)) only [ex_103_0, ex_103_1, ex_103_4, ex_103_5, ex_103_11, ex_103_12, ex_103_15, ex_103_16, ex_103_22, ex_103_23, ex_103_24, ex_103_27, ex_103_30, ex_103_31, ex_103_32, ex_103_35, ex_103_38, ex_103_39, ex_103_40, ex_103_43, ex_103_46, if_true, if_false, and_self, Option.toList_some, Option.toList_none, List.singleton_append, List.cons_append, List.nil_append, List.append_nil, nI_1, nt_e, Int32.le_refl, FI_sFI, hba, false_and, eb, t1, t2, t3]
  have w : in10 a a := by unfold in10; omega
  have o3 := (o1.wk (Q := in10 a) (fun k q => by unfold inL at q; unfold in10; omega)).tr (o2.wk (Q := in10 a) (fun k q => by unfold in5 at q; unfold in10; omega))
  have K : ∀ u3, Only (fun z => z = a) u2 u3 → LifeC u3 (a + 1) s.1 ∧ LinesC u3 (a + 5) s.2.1 := fun u3 o => ⟨(a1.keep o2 (fun k hk q => by unfold in5 at q; omega)).keep o (fun k hk (q : a + 1 + k = a) => by omega), a2.keep o (fun k hk (q : a + 5 + k = a) => by omega)⟩
  refine hp _ (of_fi (of_fi (of_fi o3 w) w) w) ⟨(K _ (of_fi (of_fi (of_fi (Only.rf _ _) rfl) rfl) rfl)).1, (K _ (of_fi (of_fi (of_fi (Only.rf _ _) rfl) rfl) rfl)).2, ?_, ?_, ?_⟩ ?_
  · rw [FI_sFI, if_neg (by omega), FI_sFI, if_neg (by omega), FI_sFI, if_pos ⟨rfl, rfl⟩]
  · rw [FI_sFI, if_neg (by omega), FI_sFI, if_pos ⟨rfl, rfl⟩]
  · rw [FI_sFI, if_pos ⟨rfl, rfl⟩]
  · rw [FI_sFI, if_neg (by omega), FI_sFI, if_neg (by omega), FI_sFI, if_neg (by omega), ea]
end Sets
