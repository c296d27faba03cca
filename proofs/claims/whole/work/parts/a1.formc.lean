/-! FORMULAS, of the class -/
theorem jt_d : ∀ c, c < 229 → ¬ (c = 42 ∨ c = 43 ∨ c = 45 ∨ c = 60 ∨ c = 61 ∨ c = 224 ∨ c = 225) → Op.lookupswitch.offset [(42, 135), (43, 111), (45, 123), (60, 87), (61, 99), (224, 67), (225, 77)] 147 (nI c).toInt = 147 := by decide +kernel
theorem joint_ok {d l c : Nat} {m : am_M} {post : Option Value → am_M → Prop} (hl : l ≤ 4) (hc : c < 229) : Cl d 88 [.int (nI l), .int (nI c)] m post ↔ post (some (.int (oI (jn l c)))) m := by
  rw [op_88]
  have hl5 : l = 0 ∨ l = 1 ∨ l = 2 ∨ l = 3 ∨ l = 4 := by omega
  by_cases q : c = 42 ∨ c = 43 ∨ c = 45 ∨ c = 60 ∨ c = 61 ∨ c = 224 ∨ c = 225
  · rcases q with rfl | rfl | rfl | rfl | rfl | rfl | rfl <;> rcases hl5 with rfl | rfl | rfl | rfl | rfl
    all_goals
      simp (disch := first | exact am_nl_i _ | exact am_nl_r _ | exact am_nl_0 | (refine vi_nI ?_ ?_ <;> omega) | assumption | omega | exact b2i_01 _ | exact Or.inl rfl | exact Or.inr rfl | (unfold vi; decide)) only [ex_88_0, ex_88_68, ex_88_69, ex_88_72, ex_88_73, ex_88_76, ex_88_77, ex_88_78, ex_88_79, ex_88_82, ex_88_83, ex_88_86, ex_88_87, ex_88_88, ex_88_89, ex_88_90, ex_88_93, ex_88_95, ex_88_98, ex_88_99, ex_88_100, ex_88_101, ex_88_102, ex_88_105, ex_88_107, ex_88_110, ex_88_111, ex_88_112, ex_88_113, ex_88_114, ex_88_117, ex_88_119, ex_88_122, ex_88_123, ex_88_124, ex_88_125, ex_88_126, ex_88_129, ex_88_131, ex_88_134, ex_88_135, ex_88_136, ex_88_137, ex_88_138, ex_88_141, ex_88_143, ex_88_146, ex_88_147, ex_88_148, ex_88_149, if_true, if_false, and_self, Option.toList_some, Option.toList_none, List.singleton_append, List.cons_append, List.nil_append, List.append_nil, nI_1, nt_e, Int32.le_refl, ex_88_1_42, ex_88_1_43, ex_88_1_45, ex_88_1_60, ex_88_1_61, ex_88_1_224, ex_88_1_225, show (nI 0 = (0 : Int32)) = True from eq_true (by decide), show (nI 0 = (1 : Int32)) = False from eq_false (by decide), show (nI 0 = (2 : Int32)) = False from eq_false (by decide), show (nI 0 = (3 : Int32)) = False from eq_false (by decide), show (nI 1 = (0 : Int32)) = False from eq_false (by decide), show (nI 1 = (1 : Int32)) = True from eq_true (by decide), show (nI 1 = (2 : Int32)) = False from eq_false (by decide), show (nI 1 = (3 : Int32)) = False from eq_false (by decide), show (nI 2 = (0 : Int32)) = False from eq_false (by decide), show (nI 2 = (1 : Int32)) = False from eq_false (by decide), show (nI 2 = (2 : Int32)) = True from eq_true (by decide), show (nI 2 = (3 : Int32)) = False from eq_false (by decide), show (nI 3 = (0 : Int32)) = False from eq_false (by decide), show (nI 3 = (1 : Int32)) = False from eq_false (by decide), show (nI 3 = (2 : Int32)) = False from eq_false (by decide), show (nI 3 = (3 : Int32)) = True from eq_true (by decide), show (nI 4 = (0 : Int32)) = False from eq_false (by decide), show (nI 4 = (1 : Int32)) = False from eq_false (by decide), show (nI 4 = (2 : Int32)) = False from eq_false (by decide), show (nI 4 = (3 : Int32)) = False from eq_false (by decide), Bool.true_eq_false, Bool.false_eq_true, ↓reduceIte]
      exact Iff.rfl
  · have e : jn l c = none := by
      unfold jn
      rw [if_neg (show ¬ c = 224 by omega), if_neg (show ¬ c = 225 by omega), if_neg (show ¬ c = 60 by omega), if_neg (show ¬ c = 61 by omega), if_neg (show ¬ c = 43 by omega), if_neg (show ¬ c = 45 by omega), if_neg (show ¬ c = 42 by omega)]
      simp
    rw [e]
    simp (disch := first | exact am_nl_i _ | exact am_nl_r _ | exact am_nl_0 | (refine vi_nI ?_ ?_ <;> omega) | assumption | omega | exact b2i_01 _ | exact Or.inl rfl | exact Or.inr rfl | (unfold vi; decide)) only [ex_88_0, ex_88_68, ex_88_69, ex_88_72, ex_88_73, ex_88_76, ex_88_77, ex_88_78, ex_88_79, ex_88_82, ex_88_83, ex_88_86, ex_88_87, ex_88_88, ex_88_89, ex_88_90, ex_88_93, ex_88_95, ex_88_98, ex_88_99, ex_88_100, ex_88_101, ex_88_102, ex_88_105, ex_88_107, ex_88_110, ex_88_111, ex_88_112, ex_88_113, ex_88_114, ex_88_117, ex_88_119, ex_88_122, ex_88_123, ex_88_124, ex_88_125, ex_88_126, ex_88_129, ex_88_131, ex_88_134, ex_88_135, ex_88_136, ex_88_137, ex_88_138, ex_88_141, ex_88_143, ex_88_146, ex_88_147, ex_88_148, ex_88_149, if_true, if_false, and_self, Option.toList_some, Option.toList_none, List.singleton_append, List.cons_append, List.nil_append, List.append_nil, nI_1, nt_e, Int32.le_refl, ex_88_1_d (jt_d c hc q), Bool.true_eq_false, Bool.false_eq_true, ↓reduceIte]
    exact Iff.rfl
def fmP (a x : Nat) : Prop := x = 6 ∨ x = a ∨ x = a + 1
def FmO (a : Nat) (u u' : am_U) : Prop := Only (fmP a) u u' ∧ (∀ k, ¬ k = 1 → ¬ k = 9 → FI u' 6 k = FI u 6 k) ∧ FR u' 6 = FR u 6
theorem FmO.rf (a : Nat) (u : am_U) : FmO a u u := ⟨Only.rf _ _, fun _ _ _ => rfl, rfl⟩
theorem FmO.tr {a : Nat} {u1 u2 u3 : am_U} (h1 : FmO a u1 u2) (h2 : FmO a u2 u3) : FmO a u1 u3 := ⟨h1.1.tr h2.1, fun k p q => (h2.2.1 k p q).trans (h1.2.1 k p q), h2.2.2.trans h1.2.2⟩
theorem RdO.fm {a : Nat} {u u' : am_U} (h : RdO u u') : FmO a u u' := ⟨h.1.wk (fun x q => Or.inl q), h.2.1, h.2.2⟩
def fAt (a : Nat) : Prop := a = 27 ∨ a = 30 ∨ a = 53 ∨ a = 56
/-- the formula that is read: at a, c steps -/
def FoC (u : am_U) (a oth c : Nat) : Prop := FR u 6 4 = some a ∧ FI u 6 5 = nI oth ∧ FI u a 2 = nI c ∧ c ≤ 1000
theorem FoC.rd {u u' : am_U} {a oth c : Nat} (h : FoC u a oth c) (ha : fAt a) (ho : RdO u u') : FoC u' a oth c ∧ AI u' (a + 1) = AI u (a + 1) := by
  obtain ⟨h1, h2, h3, h4⟩ := h
  have n : ∀ x, ¬ x = 6 → ¬ is 6 x := fun x q r => q r
  have e := ho.1 a (n a (by unfold fAt at ha; omega))
  have e1 := ho.1 (a + 1) (n (a + 1) (by unfold fAt at ha; omega))
  exact ⟨⟨by rw [ho.2.2]; exact h1, by rw [ho.2.1 5 (by decide) (by decide)]; exact h2, by rw [e.1]; exact h3, h4⟩, e1.2.2.2.1⟩
theorem fAt_sh {a : Nat} (h : fAt a) : sh a 0 3 := by
  rcases h with rfl | rfl | rfl | rfl
  · exact shl_27
  · exact shl_30
  · exact shl_53
  · exact shl_56
theorem RdC.fm {a : Nat} {u u' : am_U} {n m i : Nat} {f : Nat → Nat} (h : RdC u n f m i) (ha : fAt a) (ho : Only (fun x => x = a ∨ x = a + 1) u u') : RdC u' n f m i := by
  unfold fAt at ha
  exact h.keep ho (by omega) (by omega) (by omega) (by omega) (by omega)
section FormC
variable {d n m i e a c oth : Nat} {u : am_U} {f : Nat → Nat} {post : Option Value → am_M → Prop}
theorem fadd_any {s x : Int32} (ha : fAt a) (hc : FI u a 2 = nI c) (hc2 : c ≤ 1000) (h : ∀ u' c', Only (fun y => y = a ∨ y = a + 1) u u' → c' ≤ 1000 → FI u' a 2 = nI c' → (c < 1000 → c' = c + 1 ∧ AI u' (a + 1) = upd (AI u (a + 1)) c (x * 16 + s)) → post none (am_emb u')) : Cl d 1 [.ref a, .int s, .int x] (am_emb u) post := by
  have hs := fAt_sh ha
  rw [op_1]
  by_cases q : c < 1000
  · have q2 : ¬ 1000 ≤ c := by omega
    have e2 : FI (sAI u (a + 1) (upd (AI u (a + 1)) c (x * 16 + s))) a 2 = nI c := hc
    have hfin := h (sFI (sAI u (a + 1) (upd (AI u (a + 1)) c (x * 16 + s))) a 2 (nI (c + 1))) (c + 1) (of_fi (of_ai (Only.rf _ _) (Or.inr rfl)) (Or.inl rfl)) (by omega) (by rw [FI_sFI, if_pos ⟨rfl, rfl⟩]) (fun _ => ⟨rfl, by rw [AI_sFI, AI_sAI, if_pos rfl]⟩)
    simp (disch := first | exact am_nl_i _ | exact am_nl_r _ | exact am_nl_0 | (refine vi_nI ?_ ?_ <;> omega) | assumption | omega | exact b2i_01 _ | exact Or.inl rfl | exact Or.inr rfl | (unfold vi; decide)) only [ex_1_0, ex_1_1, ex_1_4, ex_1_7, ex_1_8, ex_1_11, ex_1_12, ex_1_15, ex_1_16, ex_1_19, ex_1_20, ex_1_23, ex_1_24, ex_1_27, ex_1_28, ex_1_30, ex_1_31, ex_1_32, ex_1_33, ex_1_34, ex_1_35, ex_1_36, ex_1_39, ex_1_40, ex_1_41, ex_1_44, if_true, if_false, and_self, Option.toList_some, Option.toList_none, List.singleton_append, List.cons_append, List.nil_append, List.append_nil, nI_1, nt_e, Int32.le_refl, hc, i_lt0, lq1000, nI_leI, q2, nI_clamp, e2, nI_1, Bool.true_eq_false, Bool.false_eq_true, ↓reduceIte]
    exact hfin
  · have q2 : 1000 ≤ c := by omega
    have hfin := h u c (Only.rf _ _) hc2 hc (fun h => absurd h q)
    simp (disch := first | exact am_nl_i _ | exact am_nl_r _ | exact am_nl_0 | (refine vi_nI ?_ ?_ <;> omega) | assumption | omega | exact b2i_01 _ | exact Or.inl rfl | exact Or.inr rfl | (unfold vi; decide)) only [ex_1_0, ex_1_1, ex_1_4, ex_1_7, ex_1_8, ex_1_11, ex_1_12, ex_1_15, ex_1_16, ex_1_19, ex_1_20, ex_1_23, ex_1_24, ex_1_27, ex_1_28, ex_1_30, ex_1_31, ex_1_32, ex_1_33, ex_1_34, ex_1_35, ex_1_36, ex_1_39, ex_1_40, ex_1_41, ex_1_44, if_true, if_false, and_self, Option.toList_some, Option.toList_none, List.singleton_append, List.cons_append, List.nil_append, List.append_nil, nI_1, nt_e, Int32.le_refl, hc, i_lt0, lq1000, nI_leI, q2, Bool.true_eq_false, Bool.false_eq_true, ↓reduceIte]
    exact hfin
theorem stB_ok (h : RdC u n f m i) (hF : FoC u a oth c) (ho : oth < 229) : Cl (d + 1) 90 [.ref 6] (am_emb u) post ↔ post (some (.int (b2i (stB oth (csort (tk n f i)))))) (am_emb u) := by
  have hl := cs_lt (tk_ok (n := n) (f := f) i)
  have hk : ∀ k, k < 1000 → (nI (csort (tk n f i)) = nI k ↔ csort (tk n f i) = k) := fun k hk => nI_eqI (by omega) (by omega)
  have k2 : nI (csort (tk n f i)) = 2 ↔ csort (tk n f i) = 2 := hk 2 (by decide)
  have k3 : nI (csort (tk n f i)) = 223 ↔ csort (tk n f i) = 223 := hk 223 (by decide)
  have k4 : nI (csort (tk n f i)) = 40 ↔ csort (tk n f i) = 40 := hk 40 (by decide)
  have k5 : nI (csort (tk n f i)) = 226 ↔ csort (tk n f i) = 226 := hk 226 (by decide)
  have k6 := hk oth (by omega)
  rw [op_90]
  unfold stB
  by_cases c1 : csort (tk n f i) = 2
  · rw [decide_eq_true c1]
    simp (disch := first | exact am_nl_i _ | exact am_nl_r _ | exact am_nl_0 | (refine vi_nI ?_ ?_ <;> omega) | assumption | omega | exact b2i_01 _ | exact Or.inl rfl | exact Or.inr rfl | (unfold vi; decide)) only [ex_90_0, ex_90_1, ex_90_4, ex_90_5, ex_90_8, ex_90_9, ex_90_12, ex_90_15, ex_90_18, ex_90_19, ex_90_22, ex_90_24, ex_90_27, ex_90_28, ex_90_31, ex_90_34, ex_90_37, ex_90_38, ex_90_41, ex_90_42, ex_90_45, ex_90_48, ex_90_49, ex_90_52, ex_90_53, if_true, if_false, and_self, Option.toList_some, Option.toList_none, List.singleton_append, List.cons_append, List.nil_append, List.append_nil, nI_1, nt_e, Int32.le_refl, rsort_ok h, k2, c1, Bool.true_or, Bool.true_eq_false, Bool.false_eq_true, ↓reduceIte]
    exact Iff.rfl
  by_cases c2 : csort (tk n f i) = 223
  · rw [decide_eq_false c1, decide_eq_true c2]
    simp (disch := first | exact am_nl_i _ | exact am_nl_r _ | exact am_nl_0 | (refine vi_nI ?_ ?_ <;> omega) | assumption | omega | exact b2i_01 _ | exact Or.inl rfl | exact Or.inr rfl | (unfold vi; decide)) only [ex_90_0, ex_90_1, ex_90_4, ex_90_5, ex_90_8, ex_90_9, ex_90_12, ex_90_15, ex_90_18, ex_90_19, ex_90_22, ex_90_24, ex_90_27, ex_90_28, ex_90_31, ex_90_34, ex_90_37, ex_90_38, ex_90_41, ex_90_42, ex_90_45, ex_90_48, ex_90_49, ex_90_52, ex_90_53, if_true, if_false, and_self, Option.toList_some, Option.toList_none, List.singleton_append, List.cons_append, List.nil_append, List.append_nil, nI_1, nt_e, Int32.le_refl, rsort_ok h, k2, c1, k3, c2, Bool.true_or, Bool.false_or, Bool.true_eq_false, Bool.false_eq_true, ↓reduceIte]
    exact Iff.rfl
  by_cases c3 : csort (tk n f i) = 40
  · rw [decide_eq_false c1, decide_eq_false c2, decide_eq_true c3]
    simp (disch := first | exact am_nl_i _ | exact am_nl_r _ | exact am_nl_0 | (refine vi_nI ?_ ?_ <;> omega) | assumption | omega | exact b2i_01 _ | exact Or.inl rfl | exact Or.inr rfl | (unfold vi; decide)) only [ex_90_0, ex_90_1, ex_90_4, ex_90_5, ex_90_8, ex_90_9, ex_90_12, ex_90_15, ex_90_18, ex_90_19, ex_90_22, ex_90_24, ex_90_27, ex_90_28, ex_90_31, ex_90_34, ex_90_37, ex_90_38, ex_90_41, ex_90_42, ex_90_45, ex_90_48, ex_90_49, ex_90_52, ex_90_53, if_true, if_false, and_self, Option.toList_some, Option.toList_none, List.singleton_append, List.cons_append, List.nil_append, List.append_nil, nI_1, nt_e, Int32.le_refl, rsort_ok h, k2, c1, k3, c2, k4, c3, Bool.true_or, Bool.false_or, Bool.true_eq_false, Bool.false_eq_true, ↓reduceIte]
    exact Iff.rfl
  by_cases c4 : csort (tk n f i) = 226
  · rw [decide_eq_false c1, decide_eq_false c2, decide_eq_false c3, decide_eq_true c4]
    simp (disch := first | exact am_nl_i _ | exact am_nl_r _ | exact am_nl_0 | (refine vi_nI ?_ ?_ <;> omega) | assumption | omega | exact b2i_01 _ | exact Or.inl rfl | exact Or.inr rfl | (unfold vi; decide)) only [ex_90_0, ex_90_1, ex_90_4, ex_90_5, ex_90_8, ex_90_9, ex_90_12, ex_90_15, ex_90_18, ex_90_19, ex_90_22, ex_90_24, ex_90_27, ex_90_28, ex_90_31, ex_90_34, ex_90_37, ex_90_38, ex_90_41, ex_90_42, ex_90_45, ex_90_48, ex_90_49, ex_90_52, ex_90_53, if_true, if_false, and_self, Option.toList_some, Option.toList_none, List.singleton_append, List.cons_append, List.nil_append, List.append_nil, nI_1, nt_e, Int32.le_refl, rsort_ok h, k2, c1, k3, c2, k4, c3, k5, c4, Bool.true_or, Bool.false_or, Bool.true_eq_false, Bool.false_eq_true, ↓reduceIte]
    exact Iff.rfl
  by_cases c5 : csort (tk n f i) = oth
  · rw [decide_eq_false c1, decide_eq_false c2, decide_eq_false c3, decide_eq_false c4, decide_eq_true c5]
    simp (disch := first | exact am_nl_i _ | exact am_nl_r _ | exact am_nl_0 | (refine vi_nI ?_ ?_ <;> omega) | assumption | omega | exact b2i_01 _ | exact Or.inl rfl | exact Or.inr rfl | (unfold vi; decide)) only [ex_90_0, ex_90_1, ex_90_4, ex_90_5, ex_90_8, ex_90_9, ex_90_12, ex_90_15, ex_90_18, ex_90_19, ex_90_22, ex_90_24, ex_90_27, ex_90_28, ex_90_31, ex_90_34, ex_90_37, ex_90_38, ex_90_41, ex_90_42, ex_90_45, ex_90_48, ex_90_49, ex_90_52, ex_90_53, if_true, if_false, and_self, Option.toList_some, Option.toList_none, List.singleton_append, List.cons_append, List.nil_append, List.append_nil, nI_1, nt_e, Int32.le_refl, rsort_ok h, k2, c1, k3, c2, k4, c3, k5, c4, hF.2.1, k6, c5, Bool.false_or, Bool.true_eq_false, Bool.false_eq_true, ↓reduceIte]
    simp only [ite_self]
    exact Iff.rfl
  · rw [decide_eq_false c1, decide_eq_false c2, decide_eq_false c3, decide_eq_false c4, decide_eq_false c5]
    simp (disch := first | exact am_nl_i _ | exact am_nl_r _ | exact am_nl_0 | (refine vi_nI ?_ ?_ <;> omega) | assumption | omega | exact b2i_01 _ | exact Or.inl rfl | exact Or.inr rfl | (unfold vi; decide)) only [ex_90_0, ex_90_1, ex_90_4, ex_90_5, ex_90_8, ex_90_9, ex_90_12, ex_90_15, ex_90_18, ex_90_19, ex_90_22, ex_90_24, ex_90_27, ex_90_28, ex_90_31, ex_90_34, ex_90_37, ex_90_38, ex_90_41, ex_90_42, ex_90_45, ex_90_48, ex_90_49, ex_90_52, ex_90_53, if_true, if_false, and_self, Option.toList_some, Option.toList_none, List.singleton_append, List.cons_append, List.nil_append, List.append_nil, nI_1, nt_e, Int32.le_refl, rsort_ok h, k2, c1, k3, c2, k4, c3, k5, c4, hF.2.1, k6, c5, Bool.false_or, Bool.true_eq_false, Bool.false_eq_true, ↓reduceIte]
    exact Iff.rfl
theorem startsX (h : FI u 6 1 = nI i) (hi : i ≤ 1000) : ∃ b : Bool, ∀ {d : Nat} {post : Option Value → am_M → Prop}, Cl (d + 1) 90 [.ref 6] (am_emb u) post ↔ post (some (.int (b2i b))) (am_emb u) := by
  by_cases c1 : AI u 3 i = 2 ∨ AI u 3 i = 223 ∨ AI u 3 i = 40 ∨ AI u 3 i = 226 ∨ AI u 3 i = FI u 6 5
  · refine ⟨true, fun {d} {post} => ?_⟩
    rw [op_90]
    by_cases d1 : AI u 3 i = 2
    · simp (disch := first | exact am_nl_i _ | exact am_nl_r _ | exact am_nl_0 | (refine vi_nI ?_ ?_ <;> omega) | assumption | omega | exact b2i_01 _ | exact Or.inl rfl | exact Or.inr rfl | (unfold vi; decide)) only [ex_90_0, ex_90_1, ex_90_4, ex_90_5, ex_90_8, ex_90_9, ex_90_12, ex_90_15, ex_90_18, ex_90_19, ex_90_22, ex_90_24, ex_90_27, ex_90_28, ex_90_31, ex_90_34, ex_90_37, ex_90_38, ex_90_41, ex_90_42, ex_90_45, ex_90_48, ex_90_49, ex_90_52, ex_90_53, if_true, if_false, and_self, Option.toList_some, Option.toList_none, List.singleton_append, List.cons_append, List.nil_append, List.append_nil, nI_1, nt_e, Int32.le_refl, rsort_g h hi, d1, Bool.true_eq_false, Bool.false_eq_true, ↓reduceIte]
      exact Iff.rfl
    by_cases d2 : AI u 3 i = 223
    · simp (disch := first | exact am_nl_i _ | exact am_nl_r _ | exact am_nl_0 | (refine vi_nI ?_ ?_ <;> omega) | assumption | omega | exact b2i_01 _ | exact Or.inl rfl | exact Or.inr rfl | (unfold vi; decide)) only [ex_90_0, ex_90_1, ex_90_4, ex_90_5, ex_90_8, ex_90_9, ex_90_12, ex_90_15, ex_90_18, ex_90_19, ex_90_22, ex_90_24, ex_90_27, ex_90_28, ex_90_31, ex_90_34, ex_90_37, ex_90_38, ex_90_41, ex_90_42, ex_90_45, ex_90_48, ex_90_49, ex_90_52, ex_90_53, if_true, if_false, and_self, Option.toList_some, Option.toList_none, List.singleton_append, List.cons_append, List.nil_append, List.append_nil, nI_1, nt_e, Int32.le_refl, rsort_g h hi, d1, d2, show ((223 : Int32) = (2 : Int32)) = False from eq_false (by decide), Bool.true_eq_false, Bool.false_eq_true, ↓reduceIte]
      exact Iff.rfl
    by_cases d3 : AI u 3 i = 40
    · simp (disch := first | exact am_nl_i _ | exact am_nl_r _ | exact am_nl_0 | (refine vi_nI ?_ ?_ <;> omega) | assumption | omega | exact b2i_01 _ | exact Or.inl rfl | exact Or.inr rfl | (unfold vi; decide)) only [ex_90_0, ex_90_1, ex_90_4, ex_90_5, ex_90_8, ex_90_9, ex_90_12, ex_90_15, ex_90_18, ex_90_19, ex_90_22, ex_90_24, ex_90_27, ex_90_28, ex_90_31, ex_90_34, ex_90_37, ex_90_38, ex_90_41, ex_90_42, ex_90_45, ex_90_48, ex_90_49, ex_90_52, ex_90_53, if_true, if_false, and_self, Option.toList_some, Option.toList_none, List.singleton_append, List.cons_append, List.nil_append, List.append_nil, nI_1, nt_e, Int32.le_refl, rsort_g h hi, d1, d2, d3, show ((40 : Int32) = (2 : Int32)) = False from eq_false (by decide), show ((40 : Int32) = (223 : Int32)) = False from eq_false (by decide), Bool.true_eq_false, Bool.false_eq_true, ↓reduceIte]
      exact Iff.rfl
    by_cases d4 : AI u 3 i = 226
    · simp (disch := first | exact am_nl_i _ | exact am_nl_r _ | exact am_nl_0 | (refine vi_nI ?_ ?_ <;> omega) | assumption | omega | exact b2i_01 _ | exact Or.inl rfl | exact Or.inr rfl | (unfold vi; decide)) only [ex_90_0, ex_90_1, ex_90_4, ex_90_5, ex_90_8, ex_90_9, ex_90_12, ex_90_15, ex_90_18, ex_90_19, ex_90_22, ex_90_24, ex_90_27, ex_90_28, ex_90_31, ex_90_34, ex_90_37, ex_90_38, ex_90_41, ex_90_42, ex_90_45, ex_90_48, ex_90_49, ex_90_52, ex_90_53, if_true, if_false, and_self, Option.toList_some, Option.toList_none, List.singleton_append, List.cons_append, List.nil_append, List.append_nil, nI_1, nt_e, Int32.le_refl, rsort_g h hi, d1, d2, d3, d4, show ((226 : Int32) = (2 : Int32)) = False from eq_false (by decide), show ((226 : Int32) = (223 : Int32)) = False from eq_false (by decide), show ((226 : Int32) = (40 : Int32)) = False from eq_false (by decide), Bool.true_eq_false, Bool.false_eq_true, ↓reduceIte]
      exact Iff.rfl
    have d5 : AI u 3 i = FI u 6 5 := by
      rcases c1 with c | c | c | c | c
      · exact absurd c d1
      · exact absurd c d2
      · exact absurd c d3
      · exact absurd c d4
      · exact c
    rw [d5] at d1 d2 d3 d4
    simp (disch := first | exact am_nl_i _ | exact am_nl_r _ | exact am_nl_0 | (refine vi_nI ?_ ?_ <;> omega) | assumption | omega | exact b2i_01 _ | exact Or.inl rfl | exact Or.inr rfl | (unfold vi; decide)) only [ex_90_0, ex_90_1, ex_90_4, ex_90_5, ex_90_8, ex_90_9, ex_90_12, ex_90_15, ex_90_18, ex_90_19, ex_90_22, ex_90_24, ex_90_27, ex_90_28, ex_90_31, ex_90_34, ex_90_37, ex_90_38, ex_90_41, ex_90_42, ex_90_45, ex_90_48, ex_90_49, ex_90_52, ex_90_53, if_true, if_false, and_self, Option.toList_some, Option.toList_none, List.singleton_append, List.cons_append, List.nil_append, List.append_nil, nI_1, nt_e, Int32.le_refl, rsort_g h hi, d5, d1, d2, d3, d4, Bool.true_eq_false, Bool.false_eq_true, ↓reduceIte]
    exact Iff.rfl
  · refine ⟨false, fun {d} {post} => ?_⟩
    have d1 : ¬ AI u 3 i = 2 := fun q => c1 (Or.inl q)
    have d2 : ¬ AI u 3 i = 223 := fun q => c1 (Or.inr (Or.inl q))
    have d3 : ¬ AI u 3 i = 40 := fun q => c1 (Or.inr (Or.inr (Or.inl q)))
    have d4 : ¬ AI u 3 i = 226 := fun q => c1 (Or.inr (Or.inr (Or.inr (Or.inl q))))
    have d5 : ¬ AI u 3 i = FI u 6 5 := fun q => c1 (Or.inr (Or.inr (Or.inr (Or.inr q))))
    rw [op_90]
    simp (disch := first | exact am_nl_i _ | exact am_nl_r _ | exact am_nl_0 | (refine vi_nI ?_ ?_ <;> omega) | assumption | omega | exact b2i_01 _ | exact Or.inl rfl | exact Or.inr rfl | (unfold vi; decide)) only [ex_90_0, ex_90_1, ex_90_4, ex_90_5, ex_90_8, ex_90_9, ex_90_12, ex_90_15, ex_90_18, ex_90_19, ex_90_22, ex_90_24, ex_90_27, ex_90_28, ex_90_31, ex_90_34, ex_90_37, ex_90_38, ex_90_41, ex_90_42, ex_90_45, ex_90_48, ex_90_49, ex_90_52, ex_90_53, if_true, if_false, and_self, Option.toList_some, Option.toList_none, List.singleton_append, List.cons_append, List.nil_append, List.append_nil, nI_1, nt_e, Int32.le_refl, rsort_g h hi, d1, d2, d3, d4, d5, Bool.true_eq_false, Bool.false_eq_true, ↓reduceIte]
    exact Iff.rfl
theorem readPartX {x : Int32} (h : FltC u e) : Cl (d + 2) 91 [.ref 6, .int x] (am_emb u) post ↔ post none (am_emb u) := by
  obtain ⟨i, hi, h1⟩ := h.2.2.2
  have z := flt_ne h
  obtain ⟨b, hb⟩ := startsX h1 hi
  rw [op_91]
  cases b
  · simp (disch := first | exact am_nl_i _ | exact am_nl_r _ | exact am_nl_0 | (refine vi_nI ?_ ?_ <;> omega) | assumption | omega | exact b2i_01 _ | exact Or.inl rfl | exact Or.inr rfl | (unfold vi; decide)) only [ex_91_0, ex_91_1, ex_91_4, ex_91_7, ex_91_8, ex_91_9, ex_91_12, ex_91_15, ex_91_16, ex_91_17, ex_91_20, ex_91_21, ex_91_22, ex_91_25, ex_91_26, ex_91_29, ex_91_32, ex_91_33, ex_91_34, ex_91_37, ex_91_38, ex_91_39, ex_91_42, ex_91_43, ex_91_44, ex_91_45, ex_91_48, ex_91_49, ex_91_50, ex_91_53, ex_91_54, ex_91_57, ex_91_58, ex_91_59, ex_91_62, ex_91_65, ex_91_66, ex_91_69, ex_91_72, ex_91_73, ex_91_74, ex_91_75, ex_91_76, ex_91_79, ex_91_80, ex_91_83, ex_91_84, ex_91_85, ex_91_88, ex_91_91, ex_91_92, ex_91_94, ex_91_97, ex_91_98, ex_91_99, ex_91_100, ex_91_101, ex_91_102, ex_91_105, ex_91_106, ex_91_108, ex_91_111, ex_91_114, ex_91_115, ex_91_118, ex_91_119, ex_91_122, ex_91_125, ex_91_126, ex_91_129, ex_91_130, ex_91_131, ex_91_134, if_true, if_false, and_self, Option.toList_some, Option.toList_none, List.singleton_append, List.cons_append, List.nil_append, List.append_nil, nI_1, nt_e, Int32.le_refl, hb, b2i_f, failX h, z, Bool.true_eq_false, Bool.false_eq_true, ↓reduceIte]
  · by_cases q : x < 5
    · simp (disch := first | exact am_nl_i _ | exact am_nl_r _ | exact am_nl_0 | (refine vi_nI ?_ ?_ <;> omega) | assumption | omega | exact b2i_01 _ | exact Or.inl rfl | exact Or.inr rfl | (unfold vi; decide)) only [ex_91_0, ex_91_1, ex_91_4, ex_91_7, ex_91_8, ex_91_9, ex_91_12, ex_91_15, ex_91_16, ex_91_17, ex_91_20, ex_91_21, ex_91_22, ex_91_25, ex_91_26, ex_91_29, ex_91_32, ex_91_33, ex_91_34, ex_91_37, ex_91_38, ex_91_39, ex_91_42, ex_91_43, ex_91_44, ex_91_45, ex_91_48, ex_91_49, ex_91_50, ex_91_53, ex_91_54, ex_91_57, ex_91_58, ex_91_59, ex_91_62, ex_91_65, ex_91_66, ex_91_69, ex_91_72, ex_91_73, ex_91_74, ex_91_75, ex_91_76, ex_91_79, ex_91_80, ex_91_83, ex_91_84, ex_91_85, ex_91_88, ex_91_91, ex_91_92, ex_91_94, ex_91_97, ex_91_98, ex_91_99, ex_91_100, ex_91_101, ex_91_102, ex_91_105, ex_91_106, ex_91_108, ex_91_111, ex_91_114, ex_91_115, ex_91_118, ex_91_119, ex_91_122, ex_91_125, ex_91_126, ex_91_129, ex_91_130, ex_91_131, ex_91_134, if_true, if_false, and_self, Option.toList_some, Option.toList_none, List.singleton_append, List.cons_append, List.nil_append, List.append_nil, nI_1, nt_e, Int32.le_refl, hb, b2i_t, show ((1 : Int32) = (0 : Int32)) = False from eq_false (by decide), failX h, z, q, Bool.true_eq_false, Bool.false_eq_true, ↓reduceIte]
    · simp (disch := first | exact am_nl_i _ | exact am_nl_r _ | exact am_nl_0 | (refine vi_nI ?_ ?_ <;> omega) | assumption | omega | exact b2i_01 _ | exact Or.inl rfl | exact Or.inr rfl | (unfold vi; decide)) only [ex_91_0, ex_91_1, ex_91_4, ex_91_7, ex_91_8, ex_91_9, ex_91_12, ex_91_15, ex_91_16, ex_91_17, ex_91_20, ex_91_21, ex_91_22, ex_91_25, ex_91_26, ex_91_29, ex_91_32, ex_91_33, ex_91_34, ex_91_37, ex_91_38, ex_91_39, ex_91_42, ex_91_43, ex_91_44, ex_91_45, ex_91_48, ex_91_49, ex_91_50, ex_91_53, ex_91_54, ex_91_57, ex_91_58, ex_91_59, ex_91_62, ex_91_65, ex_91_66, ex_91_69, ex_91_72, ex_91_73, ex_91_74, ex_91_75, ex_91_76, ex_91_79, ex_91_80, ex_91_83, ex_91_84, ex_91_85, ex_91_88, ex_91_91, ex_91_92, ex_91_94, ex_91_97, ex_91_98, ex_91_99, ex_91_100, ex_91_101, ex_91_102, ex_91_105, ex_91_106, ex_91_108, ex_91_111, ex_91_114, ex_91_115, ex_91_118, ex_91_119, ex_91_122, ex_91_125, ex_91_126, ex_91_129, ex_91_130, ex_91_131, ex_91_134, if_true, if_false, and_self, Option.toList_some, Option.toList_none, List.singleton_append, List.cons_append, List.nil_append, List.append_nil, nI_1, nt_e, Int32.le_refl, hb, b2i_t, show ((1 : Int32) = (0 : Int32)) = False from eq_false (by decide), failX h, z, q, Bool.true_eq_false, Bool.false_eq_true, ↓reduceIte]
theorem readLevelX (h : FltC u e) : ∀ (k l : Nat), l + k = 4 → ∀ {d : Nat} {x : Int32} {post : Option Value → am_M → Prop}, Cl (d + 3 + k) 89 [.ref 6, .int (nI l), .int x] (am_emb u) post ↔ post none (am_emb u)
  | 0, l, hl, d, x, post => by
    obtain rfl : l = 4 := by omega
    rw [op_89]
    simp (disch := first | exact am_nl_i _ | exact am_nl_r _ | exact am_nl_0 | (refine vi_nI ?_ ?_ <;> omega) | assumption | omega | exact b2i_01 _ | exact Or.inl rfl | exact Or.inr rfl | (unfold vi; decide)) only [ex_89_0, ex_89_1, ex_89_2, ex_89_5, ex_89_6, ex_89_7, ex_89_10, ex_89_11, ex_89_12, ex_89_13, ex_89_14, ex_89_15, ex_89_16, ex_89_19, ex_89_20, ex_89_21, ex_89_22, ex_89_25, ex_89_28, ex_89_29, ex_89_32, ex_89_35, ex_89_36, ex_89_37, ex_89_40, ex_89_43, ex_89_45, ex_89_47, ex_89_48, ex_89_51, ex_89_52, ex_89_53, ex_89_56, ex_89_57, ex_89_60, ex_89_61, ex_89_62, ex_89_65, ex_89_66, ex_89_67, ex_89_68, ex_89_69, ex_89_70, ex_89_73, ex_89_74, ex_89_77, ex_89_79, ex_89_80, ex_89_83, ex_89_86, ex_89_89, if_true, if_false, and_self, Option.toList_some, Option.toList_none, List.singleton_append, List.cons_append, List.nil_append, List.append_nil, nI_1, nt_e, Int32.le_refl, show (nI 4 < (4 : Int32)) = False from eq_false (by decide), readPartX h, Bool.true_eq_false, Bool.false_eq_true, ↓reduceIte]
  | k + 1, l, hl, d, x, post => by
    have z := flt_ne h
    have q : nI l < 4 := (nI_ltI (a := l) (b := 4) (by omega) (by omega)).mpr (by omega)
    have ih := fun {d} {post} => readLevelX h k (l + 1) (by omega) (d := d) (x := x) (post := post)
    rw [show d + 3 + (k + 1) = d + 3 + k + 1 by omega, op_89]
    simp (disch := first | exact am_nl_i _ | exact am_nl_r _ | exact am_nl_0 | (refine vi_nI ?_ ?_ <;> omega) | assumption | omega | exact b2i_01 _ | exact Or.inl rfl | exact Or.inr rfl | (unfold vi; decide)) only [ex_89_0, ex_89_1, ex_89_2, ex_89_5, ex_89_6, ex_89_7, ex_89_10, ex_89_11, ex_89_12, ex_89_13, ex_89_14, ex_89_15, ex_89_19, ex_89_20, ex_89_21, ex_89_22, ex_89_25, ex_89_28, ex_89_29, ex_89_32, ex_89_35, ex_89_36, ex_89_37, ex_89_40, ex_89_43, ex_89_45, ex_89_47, ex_89_48, ex_89_51, ex_89_52, ex_89_53, ex_89_56, ex_89_57, ex_89_60, ex_89_61, ex_89_62, ex_89_65, ex_89_66, ex_89_67, ex_89_68, ex_89_69, ex_89_70, ex_89_73, ex_89_74, ex_89_77, ex_89_79, ex_89_80, ex_89_83, ex_89_86, ex_89_89, if_true, if_false, and_self, Option.toList_some, Option.toList_none, List.singleton_append, List.cons_append, List.nil_append, List.append_nil, nI_1, nt_e, Int32.le_refl, q, nI_1, Bool.true_eq_false, Bool.false_eq_true, ↓reduceIte]
    rw [ex_89_16, ih]
    simp (disch := first | exact am_nl_i _ | exact am_nl_r _ | exact am_nl_0 | (refine vi_nI ?_ ?_ <;> omega) | assumption | omega | exact b2i_01 _ | exact Or.inl rfl | exact Or.inr rfl | (unfold vi; decide)) only [ex_89_0, ex_89_1, ex_89_2, ex_89_5, ex_89_6, ex_89_7, ex_89_10, ex_89_11, ex_89_12, ex_89_13, ex_89_14, ex_89_15, ex_89_16, ex_89_19, ex_89_20, ex_89_22, ex_89_25, ex_89_28, ex_89_29, ex_89_32, ex_89_35, ex_89_36, ex_89_37, ex_89_40, ex_89_43, ex_89_45, ex_89_47, ex_89_48, ex_89_51, ex_89_52, ex_89_53, ex_89_56, ex_89_57, ex_89_60, ex_89_61, ex_89_62, ex_89_65, ex_89_66, ex_89_67, ex_89_68, ex_89_69, ex_89_70, ex_89_73, ex_89_74, ex_89_77, ex_89_79, ex_89_80, ex_89_83, ex_89_86, ex_89_89, if_true, if_false, and_self, Option.toList_some, Option.toList_none, List.singleton_append, List.cons_append, List.nil_append, List.append_nil, nI_1, nt_e, Int32.le_refl, Bool.true_eq_false, Bool.false_eq_true, ↓reduceIte]
    rw [ex_89_21]
    simp (disch := first | exact am_nl_i _ | exact am_nl_r _ | exact am_nl_0 | (refine vi_nI ?_ ?_ <;> omega) | assumption | omega | exact b2i_01 _ | exact Or.inl rfl | exact Or.inr rfl | (unfold vi; decide)) only [ex_89_0, ex_89_1, ex_89_2, ex_89_5, ex_89_6, ex_89_7, ex_89_10, ex_89_11, ex_89_12, ex_89_13, ex_89_14, ex_89_15, ex_89_16, ex_89_19, ex_89_20, ex_89_21, ex_89_22, ex_89_25, ex_89_28, ex_89_29, ex_89_32, ex_89_35, ex_89_36, ex_89_37, ex_89_40, ex_89_43, ex_89_45, ex_89_47, ex_89_48, ex_89_51, ex_89_52, ex_89_53, ex_89_56, ex_89_57, ex_89_60, ex_89_61, ex_89_62, ex_89_65, ex_89_66, ex_89_67, ex_89_68, ex_89_69, ex_89_70, ex_89_73, ex_89_74, ex_89_77, ex_89_79, ex_89_80, ex_89_83, ex_89_86, ex_89_89, if_true, if_false, and_self, Option.toList_some, Option.toList_none, List.singleton_append, List.cons_append, List.nil_append, List.append_nil, nI_1, nt_e, Int32.le_refl, show ((1000 : Int32) ≤ (0 : Int32)) = False from eq_false (by decide), z, Bool.true_eq_false, Bool.false_eq_true, ↓reduceIte]
end FormC
