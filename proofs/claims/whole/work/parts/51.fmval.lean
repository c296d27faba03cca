/-! A FORMULA'S VALUE, of the class -/
theorem lq64 : (64 : Int32) = nI 64 := rfl
theorem lq1000 : (1000 : Int32) = nI 1000 := rfl
theorem i_lt1 {n : Nat} (h : n < 2 ^ 31) : nI n < 1 ↔ n = 0 := by
  rw [show (1 : Int32) = nI 1 from rfl, nI_ltI h (by decide)]
  omega
theorem i_lt2 {n : Nat} (h : n < 2 ^ 31) : nI n < 2 ↔ n < 2 := by
  rw [show (2 : Int32) = nI 2 from rfl, nI_ltI h (by decide)]
theorem i_1le {n : Nat} (h : n < 2 ^ 31) : (1 : Int32) ≤ nI n ↔ 1 ≤ n := by
  rw [show (1 : Int32) = nI 1 from rfl, nI_leI (by decide) h]
theorem i_0le {n : Nat} (h : n < 2 ^ 31) : (0 : Int32) ≤ nI n ↔ True := by
  rw [show (0 : Int32) = nI 0 from rfl, nI_leI (by decide) h]
  simp
theorem i_lt0 {n : Nat} (h : n < 2 ^ 31) : nI n < 0 ↔ False := by
  rw [show (0 : Int32) = nI 0 from rfl, nI_ltI h (by decide)]
  simp
theorem i_le0 {n : Nat} (h : n < 2 ^ 31) : nI n ≤ 0 ↔ n = 0 := by
  rw [show (0 : Int32) = nI 0 from rfl, nI_leI h (by decide)]
  exact Nat.le_zero
theorem i_0lt {n : Nat} (h : n < 2 ^ 31) : (0 : Int32) < nI n ↔ 0 < n := by
  rw [show (0 : Int32) = nI 0 from rfl, nI_ltI (by decide) h]
theorem i_eq0 {n : Nat} (h : n < 2 ^ 31) : nI n = 0 ↔ n = 0 := by
  rw [show (0 : Int32) = nI 0 from rfl, nI_eq h (by decide)]
theorem i_eqm {n : Nat} (h : n < 2 ^ 31) : nI n = -1 ↔ False := by
  rw [← Int32.toInt_inj, nI_toInt h, show (-1 : Int32).toInt = -1 from rfl, iff_false]
  omega
theorem i_pm {n : Nat} (h : 1 ≤ n) : nI n + (-1) = nI (n - 1) := by
  obtain ⟨k, rfl⟩ : ∃ k, n = k + 1 := ⟨n - 1, by omega⟩
  exact pk_m1 k
theorem i_sb {n : Nat} (h : 1 ≤ n) : nI n - 1 = nI (n - 1) := by
  obtain ⟨k, rfl⟩ : ∃ k, n = k + 1 := ⟨n - 1, by omega⟩
  exact nI_pred k
theorem runP_le (st : Nat → Int32) (h o : Int32) (k0 : Nat → Int32) : ∀ n, (runP st h o k0 n).2 ≤ 64
  | 0 => Nat.zero_le _
  | n + 1 => by
    have h1 := runP_le st h o k0 n
    show (stepP h o (st n) (runP st h o k0 n)).2 ≤ 64
    generalize runP st h o k0 n = q at h1 ⊢
    unfold stepP
    split
    · split
      · show q.2 + 1 ≤ 64
        omega
      · exact h1
    · split
      · split
        · exact h1
        · exact h1
      · split
        · show q.2 - 1 ≤ 64
          omega
        · exact h1
section FmVal
variable {d f : Nat} {u : am_U} {m : am_M} {post : Option Value → am_M → Prop}
theorem joined_ok {s a b : Int32} : Cl d 3 [.int s, .int a, .int b] m post ↔ post (some (.int (joinP s a b))) m := by
  rw [op_3]
  simp (disch := first | exact am_nl_i _ | exact am_nl_r _ | exact am_nl_0 | assumption | omega | (refine vi_nI ?_ ?_ <;> omega) | exact b2i_01 _ | exact Or.inl rfl | exact Or.inr rfl | (unfold vi; decide)) only [ex_3_0, ex_3_1, ex_3_40, ex_3_41, ex_3_44, ex_3_45, ex_3_48, ex_3_49, ex_3_52, ex_3_53, ex_3_54, ex_3_55, ex_3_58, ex_3_59, ex_3_62, ex_3_63, ex_3_66, ex_3_67, ex_3_68, ex_3_69, ex_3_70, ex_3_73, ex_3_74, ex_3_77, ex_3_78, ex_3_79, ex_3_80, ex_3_81, ex_3_84, ex_3_85, ex_3_88, ex_3_89, ex_3_90, ex_3_91, ex_3_92, ex_3_93, ex_3_94, ex_3_95, ex_3_96, ex_3_97, ex_3_98, ex_3_99, ex_3_100, ex_3_101, if_true, if_false, and_self, Option.toList_some, Option.toList_none, List.singleton_append, List.cons_append, List.nil_append, List.append_nil, nI_1, nt_e, Int32.le_refl]
  by_cases h4 : s = 4
  · subst h4
    rw [show (4 : Int32) = nI 4 from rfl, show am_tgt 1 97 4 9 #[39, 53, 67, 78, 89, 93] (nI 4).toInt = 40 by decide]
    unfold joinP
    by_cases ha : a = 0 <;> by_cases hb : b = 0 <;> (try simp (disch := first | exact am_nl_i _ | exact am_nl_r _ | exact am_nl_0 | (refine vi_nI ?_ ?_ <;> omega) | assumption | omega | exact b2i_01 _ | exact Or.inl rfl | exact Or.inr rfl | (unfold vi; decide)) only [ex_3_0, ex_3_1, ex_3_40, ex_3_41, ex_3_44, ex_3_45, ex_3_48, ex_3_49, ex_3_52, ex_3_53, ex_3_54, ex_3_55, ex_3_58, ex_3_59, ex_3_62, ex_3_63, ex_3_66, ex_3_67, ex_3_68, ex_3_69, ex_3_70, ex_3_73, ex_3_74, ex_3_77, ex_3_78, ex_3_79, ex_3_80, ex_3_81, ex_3_84, ex_3_85, ex_3_88, ex_3_89, ex_3_90, ex_3_91, ex_3_92, ex_3_93, ex_3_94, ex_3_95, ex_3_96, ex_3_97, ex_3_98, ex_3_99, ex_3_100, ex_3_101, if_true, if_false, and_self, Option.toList_some, Option.toList_none, List.singleton_append, List.cons_append, List.nil_append, List.append_nil, nI_1, nt_e, Int32.le_refl, show (nI 4 = (4 : Int32)) = True from eq_true (by decide), ha, hb, Bool.true_eq_false, Bool.false_eq_true, ↓reduceIte]) <;> (try simp [ha, hb, b2i]) <;> rfl
  by_cases h5 : s = 5
  · subst h5
    rw [show (5 : Int32) = nI 5 from rfl, show am_tgt 1 97 4 9 #[39, 53, 67, 78, 89, 93] (nI 5).toInt = 54 by decide]
    unfold joinP
    by_cases ha : a = 0 <;> by_cases hb : b = 0 <;> (try simp (disch := first | exact am_nl_i _ | exact am_nl_r _ | exact am_nl_0 | (refine vi_nI ?_ ?_ <;> omega) | assumption | omega | exact b2i_01 _ | exact Or.inl rfl | exact Or.inr rfl | (unfold vi; decide)) only [ex_3_0, ex_3_1, ex_3_40, ex_3_41, ex_3_44, ex_3_45, ex_3_48, ex_3_49, ex_3_52, ex_3_53, ex_3_54, ex_3_55, ex_3_58, ex_3_59, ex_3_62, ex_3_63, ex_3_66, ex_3_67, ex_3_68, ex_3_69, ex_3_70, ex_3_73, ex_3_74, ex_3_77, ex_3_78, ex_3_79, ex_3_80, ex_3_81, ex_3_84, ex_3_85, ex_3_88, ex_3_89, ex_3_90, ex_3_91, ex_3_92, ex_3_93, ex_3_94, ex_3_95, ex_3_96, ex_3_97, ex_3_98, ex_3_99, ex_3_100, ex_3_101, if_true, if_false, and_self, Option.toList_some, Option.toList_none, List.singleton_append, List.cons_append, List.nil_append, List.append_nil, nI_1, nt_e, Int32.le_refl, show (nI 5 = (4 : Int32)) = False from eq_false (by decide), show (nI 5 = (5 : Int32)) = True from eq_true (by decide), ha, hb, Bool.true_eq_false, Bool.false_eq_true, ↓reduceIte]) <;> (try simp [ha, hb, b2i]) <;> rfl
  by_cases h6 : s = 6
  · subst h6
    rw [show (6 : Int32) = nI 6 from rfl, show am_tgt 1 97 4 9 #[39, 53, 67, 78, 89, 93] (nI 6).toInt = 68 by decide]
    unfold joinP
    by_cases ha : a < b
    · simp (disch := first | exact am_nl_i _ | exact am_nl_r _ | exact am_nl_0 | assumption | omega | (refine vi_nI ?_ ?_ <;> omega) | exact b2i_01 _ | exact Or.inl rfl | exact Or.inr rfl | (unfold vi; decide)) only [ex_3_0, ex_3_1, ex_3_40, ex_3_41, ex_3_44, ex_3_45, ex_3_48, ex_3_49, ex_3_52, ex_3_53, ex_3_54, ex_3_55, ex_3_58, ex_3_59, ex_3_62, ex_3_63, ex_3_66, ex_3_67, ex_3_68, ex_3_69, ex_3_70, ex_3_73, ex_3_74, ex_3_77, ex_3_78, ex_3_79, ex_3_80, ex_3_81, ex_3_84, ex_3_85, ex_3_88, ex_3_89, ex_3_90, ex_3_91, ex_3_92, ex_3_93, ex_3_94, ex_3_95, ex_3_96, ex_3_97, ex_3_98, ex_3_99, ex_3_100, ex_3_101, if_true, if_false, and_self, Option.toList_some, Option.toList_none, List.singleton_append, List.cons_append, List.nil_append, List.append_nil, nI_1, nt_e, Int32.le_refl, show (nI 6 = (4 : Int32)) = False from eq_false (by decide), show (nI 6 = (5 : Int32)) = False from eq_false (by decide), show (nI 6 = (6 : Int32)) = True from eq_true (by decide), Int32.not_le.mpr ha, ha]
      rfl
    · simp (disch := first | exact am_nl_i _ | exact am_nl_r _ | exact am_nl_0 | assumption | omega | (refine vi_nI ?_ ?_ <;> omega) | exact b2i_01 _ | exact Or.inl rfl | exact Or.inr rfl | (unfold vi; decide)) only [ex_3_0, ex_3_1, ex_3_40, ex_3_41, ex_3_44, ex_3_45, ex_3_48, ex_3_49, ex_3_52, ex_3_53, ex_3_54, ex_3_55, ex_3_58, ex_3_59, ex_3_62, ex_3_63, ex_3_66, ex_3_67, ex_3_68, ex_3_69, ex_3_70, ex_3_73, ex_3_74, ex_3_77, ex_3_78, ex_3_79, ex_3_80, ex_3_81, ex_3_84, ex_3_85, ex_3_88, ex_3_89, ex_3_90, ex_3_91, ex_3_92, ex_3_93, ex_3_94, ex_3_95, ex_3_96, ex_3_97, ex_3_98, ex_3_99, ex_3_100, ex_3_101, if_true, if_false, and_self, Option.toList_some, Option.toList_none, List.singleton_append, List.cons_append, List.nil_append, List.append_nil, nI_1, nt_e, Int32.le_refl, show (nI 6 = (4 : Int32)) = False from eq_false (by decide), show (nI 6 = (5 : Int32)) = False from eq_false (by decide), show (nI 6 = (6 : Int32)) = True from eq_true (by decide), Int32.not_lt.mp ha, ha]
      rfl
  by_cases h7 : s = 7
  · subst h7
    rw [show (7 : Int32) = nI 7 from rfl, show am_tgt 1 97 4 9 #[39, 53, 67, 78, 89, 93] (nI 7).toInt = 79 by decide]
    unfold joinP
    by_cases ha : a = b
    · simp (disch := first | exact am_nl_i _ | exact am_nl_r _ | exact am_nl_0 | assumption | omega | (refine vi_nI ?_ ?_ <;> omega) | exact b2i_01 _ | exact Or.inl rfl | exact Or.inr rfl | (unfold vi; decide)) only [ex_3_0, ex_3_1, ex_3_40, ex_3_41, ex_3_44, ex_3_45, ex_3_48, ex_3_49, ex_3_52, ex_3_53, ex_3_54, ex_3_55, ex_3_58, ex_3_59, ex_3_62, ex_3_63, ex_3_66, ex_3_67, ex_3_68, ex_3_69, ex_3_70, ex_3_73, ex_3_74, ex_3_77, ex_3_78, ex_3_79, ex_3_80, ex_3_81, ex_3_84, ex_3_85, ex_3_88, ex_3_89, ex_3_90, ex_3_91, ex_3_92, ex_3_93, ex_3_94, ex_3_95, ex_3_96, ex_3_97, ex_3_98, ex_3_99, ex_3_100, ex_3_101, if_true, if_false, and_self, Option.toList_some, Option.toList_none, List.singleton_append, List.cons_append, List.nil_append, List.append_nil, nI_1, nt_e, Int32.le_refl, show (nI 7 = (4 : Int32)) = False from eq_false (by decide), show (nI 7 = (5 : Int32)) = False from eq_false (by decide), show (nI 7 = (6 : Int32)) = False from eq_false (by decide), show (nI 7 = (7 : Int32)) = True from eq_true (by decide), ha]
      rfl
    · simp (disch := first | exact am_nl_i _ | exact am_nl_r _ | exact am_nl_0 | assumption | omega | (refine vi_nI ?_ ?_ <;> omega) | exact b2i_01 _ | exact Or.inl rfl | exact Or.inr rfl | (unfold vi; decide)) only [ex_3_0, ex_3_1, ex_3_40, ex_3_41, ex_3_44, ex_3_45, ex_3_48, ex_3_49, ex_3_52, ex_3_53, ex_3_54, ex_3_55, ex_3_58, ex_3_59, ex_3_62, ex_3_63, ex_3_66, ex_3_67, ex_3_68, ex_3_69, ex_3_70, ex_3_73, ex_3_74, ex_3_77, ex_3_78, ex_3_79, ex_3_80, ex_3_81, ex_3_84, ex_3_85, ex_3_88, ex_3_89, ex_3_90, ex_3_91, ex_3_92, ex_3_93, ex_3_94, ex_3_95, ex_3_96, ex_3_97, ex_3_98, ex_3_99, ex_3_100, ex_3_101, if_true, if_false, and_self, Option.toList_some, Option.toList_none, List.singleton_append, List.cons_append, List.nil_append, List.append_nil, nI_1, nt_e, Int32.le_refl, show (nI 7 = (4 : Int32)) = False from eq_false (by decide), show (nI 7 = (5 : Int32)) = False from eq_false (by decide), show (nI 7 = (6 : Int32)) = False from eq_false (by decide), show (nI 7 = (7 : Int32)) = True from eq_true (by decide), ha]
      rfl
  by_cases h8 : s = 8
  · subst h8
    rw [show (8 : Int32) = nI 8 from rfl, show am_tgt 1 97 4 9 #[39, 53, 67, 78, 89, 93] (nI 8).toInt = 90 by decide]
    unfold joinP
    simp (disch := first | exact am_nl_i _ | exact am_nl_r _ | exact am_nl_0 | assumption | omega | (refine vi_nI ?_ ?_ <;> omega) | exact b2i_01 _ | exact Or.inl rfl | exact Or.inr rfl | (unfold vi; decide)) only [ex_3_0, ex_3_1, ex_3_40, ex_3_41, ex_3_44, ex_3_45, ex_3_48, ex_3_49, ex_3_52, ex_3_53, ex_3_54, ex_3_55, ex_3_58, ex_3_59, ex_3_62, ex_3_63, ex_3_66, ex_3_67, ex_3_68, ex_3_69, ex_3_70, ex_3_73, ex_3_74, ex_3_77, ex_3_78, ex_3_79, ex_3_80, ex_3_81, ex_3_84, ex_3_85, ex_3_88, ex_3_89, ex_3_90, ex_3_91, ex_3_92, ex_3_93, ex_3_94, ex_3_95, ex_3_96, ex_3_97, ex_3_98, ex_3_99, ex_3_100, ex_3_101, if_true, if_false, and_self, Option.toList_some, Option.toList_none, List.singleton_append, List.cons_append, List.nil_append, List.append_nil, nI_1, nt_e, Int32.le_refl, show (nI 8 = (4 : Int32)) = False from eq_false (by decide), show (nI 8 = (5 : Int32)) = False from eq_false (by decide), show (nI 8 = (6 : Int32)) = False from eq_false (by decide), show (nI 8 = (7 : Int32)) = False from eq_false (by decide), show (nI 8 = (8 : Int32)) = True from eq_true (by decide)]
  by_cases h9 : s = 9
  · subst h9
    rw [show (9 : Int32) = nI 9 from rfl, show am_tgt 1 97 4 9 #[39, 53, 67, 78, 89, 93] (nI 9).toInt = 94 by decide]
    unfold joinP
    simp (disch := first | exact am_nl_i _ | exact am_nl_r _ | exact am_nl_0 | assumption | omega | (refine vi_nI ?_ ?_ <;> omega) | exact b2i_01 _ | exact Or.inl rfl | exact Or.inr rfl | (unfold vi; decide)) only [ex_3_0, ex_3_1, ex_3_40, ex_3_41, ex_3_44, ex_3_45, ex_3_48, ex_3_49, ex_3_52, ex_3_53, ex_3_54, ex_3_55, ex_3_58, ex_3_59, ex_3_62, ex_3_63, ex_3_66, ex_3_67, ex_3_68, ex_3_69, ex_3_70, ex_3_73, ex_3_74, ex_3_77, ex_3_78, ex_3_79, ex_3_80, ex_3_81, ex_3_84, ex_3_85, ex_3_88, ex_3_89, ex_3_90, ex_3_91, ex_3_92, ex_3_93, ex_3_94, ex_3_95, ex_3_96, ex_3_97, ex_3_98, ex_3_99, ex_3_100, ex_3_101, if_true, if_false, and_self, Option.toList_some, Option.toList_none, List.singleton_append, List.cons_append, List.nil_append, List.append_nil, nI_1, nt_e, Int32.le_refl, show (nI 9 = (4 : Int32)) = False from eq_false (by decide), show (nI 9 = (5 : Int32)) = False from eq_false (by decide), show (nI 9 = (6 : Int32)) = False from eq_false (by decide), show (nI 9 = (7 : Int32)) = False from eq_false (by decide), show (nI 9 = (8 : Int32)) = False from eq_false (by decide), show (nI 9 = (9 : Int32)) = True from eq_true (by decide)]
  have g : s.toInt < 4 ∨ 9 < s.toInt := by
    have g4 : s.toInt ≠ 4 := fun q => h4 (Int32.toInt_inj.mp q)
    have g5 : s.toInt ≠ 5 := fun q => h5 (Int32.toInt_inj.mp q)
    have g6 : s.toInt ≠ 6 := fun q => h6 (Int32.toInt_inj.mp q)
    have g7 : s.toInt ≠ 7 := fun q => h7 (Int32.toInt_inj.mp q)
    have g8 : s.toInt ≠ 8 := fun q => h8 (Int32.toInt_inj.mp q)
    have g9 : s.toInt ≠ 9 := fun q => h9 (Int32.toInt_inj.mp q)
    omega
  unfold am_tgt
  rw [if_pos g, show am_jmp 1 97 = 98 by decide]
  unfold joinP
  simp (disch := first | exact am_nl_i _ | exact am_nl_r _ | exact am_nl_0 | assumption | omega | (refine vi_nI ?_ ?_ <;> omega) | exact b2i_01 _ | exact Or.inl rfl | exact Or.inr rfl | (unfold vi; decide)) only [ex_3_0, ex_3_1, ex_3_40, ex_3_41, ex_3_44, ex_3_45, ex_3_48, ex_3_49, ex_3_52, ex_3_53, ex_3_54, ex_3_55, ex_3_58, ex_3_59, ex_3_62, ex_3_63, ex_3_66, ex_3_67, ex_3_68, ex_3_69, ex_3_70, ex_3_73, ex_3_74, ex_3_77, ex_3_78, ex_3_79, ex_3_80, ex_3_81, ex_3_84, ex_3_85, ex_3_88, ex_3_89, ex_3_90, ex_3_91, ex_3_92, ex_3_93, ex_3_94, ex_3_95, ex_3_96, ex_3_97, ex_3_98, ex_3_99, ex_3_100, ex_3_101, if_true, if_false, and_self, Option.toList_some, Option.toList_none, List.singleton_append, List.cons_append, List.nil_append, List.append_nil, nI_1, nt_e, Int32.le_refl, h4, h5, h6, h7, h8, h9]
theorem value_ok {law : Int32 → Int32 → Int32} {h o : Int32} (hf : sh f 0 3) (hF : FmC u f law) (hpost : ∀ u', Only (is (f + 2)) u u' → post (some (.int (law h o))) (am_emb u')) : Cl (d + 1) 2 [.ref f, .int h, .int o] (am_emb u) post := by
  obtain ⟨n, hn, hfn, hlaw⟩ := hF
  have hlaw := hlaw h o (AI u (f + 2))
  rw [op_2]
  have loop : ∀ (k i : Nat) (j5 : Option Value), i + k = n → ∀ u', Only (is (f + 2)) u u' → AI u' (f + 2) = (runP (AI u (f + 1)) h o (AI u (f + 2)) i).1 → Ex (d + 1) 2 5 [some (.ref f), some (.int h), some (.int o), some (.int (nI (runP (AI u (f + 1)) h o (AI u (f + 2)) i).2)), some (.int (nI i)), j5] [] (am_emb u') post := by
    intro k
    induction k with
    | zero =>
      intro i j5 hi u' ho hA
      obtain rfl : i = n := by omega
      have e0 : FI u' f = FI u f := (ho f (by unfold is; omega)).1
      have ht := runP_le (AI u (f + 1)) h o (AI u (f + 2)) i
      unfold evalP at hlaw
      rw [← hA] at hlaw
      have hp := hpost u' ho
      rw [← hlaw] at hp
      generalize (runP (AI u (f + 1)) h o (AI u (f + 2)) i).2 = top at *
      rw [ex_2_5]
      simp (disch := first | exact am_nl_i _ | exact am_nl_r _ | exact am_nl_0 | assumption | omega | (refine vi_nI ?_ ?_ <;> omega) | exact b2i_01 _ | exact Or.inl rfl | exact Or.inr rfl | (unfold vi; decide)) only [ex_2_0, ex_2_1, ex_2_2, ex_2_3, ex_2_7, ex_2_8, ex_2_11, ex_2_14, ex_2_16, ex_2_17, ex_2_20, ex_2_21, ex_2_24, ex_2_25, ex_2_28, ex_2_30, ex_2_31, ex_2_33, ex_2_34, ex_2_36, ex_2_38, ex_2_39, ex_2_42, ex_2_43, ex_2_44, ex_2_47, ex_2_48, ex_2_51, ex_2_52, ex_2_55, ex_2_56, ex_2_58, ex_2_61, ex_2_62, ex_2_65, ex_2_67, ex_2_68, ex_2_69, ex_2_70, ex_2_73, ex_2_75, ex_2_76, ex_2_79, ex_2_80, ex_2_83, ex_2_84, ex_2_85, ex_2_88, ex_2_91, ex_2_93, ex_2_94, ex_2_97, ex_2_98, ex_2_99, ex_2_102, ex_2_103, ex_2_104, ex_2_107, ex_2_108, ex_2_111, ex_2_112, ex_2_115, ex_2_116, ex_2_117, ex_2_118, ex_2_119, ex_2_122, ex_2_123, ex_2_124, ex_2_125, ex_2_126, ex_2_129, ex_2_130, ex_2_133, ex_2_134, ex_2_135, ex_2_138, ex_2_139, ex_2_140, ex_2_143, ex_2_144, ex_2_145, ex_2_148, ex_2_149, ex_2_152, ex_2_155, ex_2_156, ex_2_159, ex_2_160, ex_2_161, ex_2_162, ex_2_164, ex_2_165, ex_2_168, ex_2_169, ex_2_170, ex_2_171, ex_2_172, ex_2_173, ex_2_176, ex_2_177, ex_2_178, ex_2_181, ex_2_182, ex_2_185, ex_2_188, ex_2_189, ex_2_190, ex_2_193, ex_2_194, ex_2_197, ex_2_198, ex_2_199, ex_2_202, ex_2_203, if_true, if_false, and_self, Option.toList_some, Option.toList_none, List.singleton_append, List.cons_append, List.nil_append, List.append_nil, nI_1, nt_e, Int32.le_refl, e0, hfn, Nat.le_refl, c0, i_lt1]
      by_cases q : top = 0
      · rw [if_neg (by omega)] at hp
        rw [if_pos q]
        exact hp
      · rw [if_pos (by omega)] at hp
        rw [if_neg q]
        exact hp
    | succ k ih =>
      intro i j5 hi u' ho hA
      have hlt : ¬ n ≤ i := by omega
      have hlt2 : ¬ 1000 ≤ i := by omega
      have e0 : FI u' f = FI u f := (ho f (by unfold is; omega)).1
      have e1 : AI u' (f + 1) = AI u (f + 1) := (ho (f + 1) (by unfold is; omega)).2.2.2.1
      have ht := runP_le (AI u (f + 1)) h o (AI u (f + 2)) i
      have fin : ∀ (u2 : am_U) (top' : Nat) (q5 : Int32), Only (is (f + 2)) u u2 → (AI u2 (f + 2), top') = stepP h o (AI u (f + 1) i) (runP (AI u (f + 1)) h o (AI u (f + 2)) i) → Ex (d + 1) 2 182 [some (.ref f), some (.int h), some (.int o), some (.int (nI top')), some (.int (nI i)), some (.int q5)] [] (am_emb u2) post := by
        intro u2 top' q5 ho2 hr
        have hr' : (AI u2 (f + 2), top') = runP (AI u (f + 1)) h o (AI u (f + 2)) (i + 1) := hr
        have h2 := ih (i + 1) (some (.int q5)) (by omega) u2 ho2 (by rw [← hr'])
        rw [← hr'] at h2
        simp (disch := first | exact am_nl_i _ | exact am_nl_r _ | exact am_nl_0 | assumption | omega | (refine vi_nI ?_ ?_ <;> omega) | exact b2i_01 _ | exact Or.inl rfl | exact Or.inr rfl | (unfold vi; decide)) only [ex_2_0, ex_2_1, ex_2_2, ex_2_3, ex_2_7, ex_2_8, ex_2_11, ex_2_14, ex_2_16, ex_2_17, ex_2_20, ex_2_21, ex_2_24, ex_2_25, ex_2_28, ex_2_30, ex_2_31, ex_2_33, ex_2_34, ex_2_36, ex_2_38, ex_2_39, ex_2_42, ex_2_43, ex_2_44, ex_2_47, ex_2_48, ex_2_51, ex_2_52, ex_2_55, ex_2_56, ex_2_58, ex_2_61, ex_2_62, ex_2_65, ex_2_67, ex_2_68, ex_2_69, ex_2_70, ex_2_73, ex_2_75, ex_2_76, ex_2_79, ex_2_80, ex_2_83, ex_2_84, ex_2_85, ex_2_88, ex_2_91, ex_2_93, ex_2_94, ex_2_97, ex_2_98, ex_2_99, ex_2_102, ex_2_103, ex_2_104, ex_2_107, ex_2_108, ex_2_111, ex_2_112, ex_2_115, ex_2_116, ex_2_117, ex_2_118, ex_2_119, ex_2_122, ex_2_123, ex_2_124, ex_2_125, ex_2_126, ex_2_129, ex_2_130, ex_2_133, ex_2_134, ex_2_135, ex_2_138, ex_2_139, ex_2_140, ex_2_143, ex_2_144, ex_2_145, ex_2_148, ex_2_149, ex_2_152, ex_2_155, ex_2_156, ex_2_159, ex_2_160, ex_2_161, ex_2_162, ex_2_164, ex_2_165, ex_2_168, ex_2_169, ex_2_170, ex_2_171, ex_2_172, ex_2_173, ex_2_176, ex_2_177, ex_2_178, ex_2_181, ex_2_182, ex_2_185, ex_2_188, ex_2_189, ex_2_190, ex_2_193, ex_2_194, ex_2_197, ex_2_198, ex_2_199, ex_2_202, ex_2_203, if_true, if_false, and_self, Option.toList_some, Option.toList_none, List.singleton_append, List.cons_append, List.nil_append, List.append_nil, nI_1, nt_e, Int32.le_refl]
        exact h2
      clear ih
      generalize runP (AI u (f + 1)) h o (AI u (f + 2)) i = R at *
      obtain ⟨g, top⟩ := R
      simp only at hA ht ⊢
      subst hA
      generalize hw : AI u (f + 1) i = w at fin
      rw [ex_2_5]
      simp (disch := first | exact am_nl_i _ | exact am_nl_r _ | exact am_nl_0 | assumption | omega | (refine vi_nI ?_ ?_ <;> omega) | exact b2i_01 _ | exact Or.inl rfl | exact Or.inr rfl | (unfold vi; decide)) only [ex_2_0, ex_2_1, ex_2_2, ex_2_3, ex_2_7, ex_2_8, ex_2_11, ex_2_14, ex_2_16, ex_2_17, ex_2_20, ex_2_21, ex_2_24, ex_2_25, ex_2_28, ex_2_30, ex_2_31, ex_2_33, ex_2_34, ex_2_36, ex_2_38, ex_2_42, ex_2_43, ex_2_44, ex_2_47, ex_2_48, ex_2_51, ex_2_52, ex_2_55, ex_2_56, ex_2_58, ex_2_61, ex_2_62, ex_2_65, ex_2_67, ex_2_68, ex_2_69, ex_2_70, ex_2_73, ex_2_75, ex_2_76, ex_2_79, ex_2_80, ex_2_83, ex_2_84, ex_2_85, ex_2_88, ex_2_91, ex_2_93, ex_2_94, ex_2_97, ex_2_98, ex_2_99, ex_2_102, ex_2_103, ex_2_104, ex_2_107, ex_2_108, ex_2_111, ex_2_112, ex_2_115, ex_2_116, ex_2_117, ex_2_118, ex_2_119, ex_2_122, ex_2_123, ex_2_124, ex_2_125, ex_2_126, ex_2_129, ex_2_130, ex_2_133, ex_2_134, ex_2_135, ex_2_138, ex_2_139, ex_2_140, ex_2_143, ex_2_144, ex_2_145, ex_2_148, ex_2_149, ex_2_152, ex_2_155, ex_2_156, ex_2_159, ex_2_160, ex_2_161, ex_2_162, ex_2_164, ex_2_165, ex_2_168, ex_2_169, ex_2_170, ex_2_171, ex_2_172, ex_2_173, ex_2_176, ex_2_177, ex_2_178, ex_2_181, ex_2_182, ex_2_185, ex_2_188, ex_2_189, ex_2_190, ex_2_193, ex_2_194, ex_2_197, ex_2_198, ex_2_199, ex_2_202, ex_2_203, if_true, if_false, and_self, Option.toList_some, Option.toList_none, List.singleton_append, List.cons_append, List.nil_append, List.append_nil, nI_1, nt_e, Int32.le_refl, e0, e1, hfn, nI_leI, hlt, lq1000, hlt2, nI_clamp, hw]
      rw [ex_2_39]
      unfold stepP at fin
      by_cases hA : w &&& 15 ≤ 2
      · rw [if_neg (Int32.not_lt.mpr hA)]
        simp only [if_pos hA] at fin
        by_cases ht2 : top < 64
        · have hnle : ¬ 64 ≤ top := by omega
          simp only [if_pos ht2] at fin
          by_cases s0 : w &&& 15 = 0
          · simp only [if_pos s0] at fin
            simp (disch := first | exact am_nl_i _ | exact am_nl_r _ | exact am_nl_0 | assumption | omega | (refine vi_nI ?_ ?_ <;> omega) | exact b2i_01 _ | exact Or.inl rfl | exact Or.inr rfl | (unfold vi; decide)) only [ex_2_0, ex_2_1, ex_2_2, ex_2_3, ex_2_7, ex_2_8, ex_2_11, ex_2_14, ex_2_16, ex_2_17, ex_2_20, ex_2_21, ex_2_24, ex_2_25, ex_2_28, ex_2_30, ex_2_31, ex_2_33, ex_2_34, ex_2_36, ex_2_38, ex_2_39, ex_2_42, ex_2_43, ex_2_44, ex_2_47, ex_2_48, ex_2_51, ex_2_52, ex_2_55, ex_2_56, ex_2_58, ex_2_61, ex_2_62, ex_2_65, ex_2_67, ex_2_68, ex_2_69, ex_2_70, ex_2_73, ex_2_75, ex_2_76, ex_2_79, ex_2_80, ex_2_83, ex_2_84, ex_2_85, ex_2_88, ex_2_91, ex_2_93, ex_2_94, ex_2_97, ex_2_98, ex_2_99, ex_2_102, ex_2_103, ex_2_104, ex_2_107, ex_2_108, ex_2_111, ex_2_112, ex_2_115, ex_2_116, ex_2_117, ex_2_118, ex_2_119, ex_2_122, ex_2_123, ex_2_124, ex_2_125, ex_2_126, ex_2_129, ex_2_130, ex_2_133, ex_2_134, ex_2_135, ex_2_138, ex_2_139, ex_2_140, ex_2_143, ex_2_144, ex_2_145, ex_2_148, ex_2_149, ex_2_152, ex_2_155, ex_2_156, ex_2_159, ex_2_160, ex_2_161, ex_2_162, ex_2_164, ex_2_165, ex_2_168, ex_2_169, ex_2_170, ex_2_171, ex_2_172, ex_2_173, ex_2_176, ex_2_177, ex_2_178, ex_2_181, ex_2_185, ex_2_188, ex_2_189, ex_2_190, ex_2_193, ex_2_194, ex_2_197, ex_2_198, ex_2_199, ex_2_202, ex_2_203, if_true, if_false, and_self, Option.toList_some, Option.toList_none, List.singleton_append, List.cons_append, List.nil_append, List.append_nil, nI_1, nt_e, Int32.le_refl, lq64, nI_leI, hnle, s0, e1, nI_clamp, hw]
            refine fin _ _ _ (of_ai ho rfl) ?_
            rw [AI_sAI, if_pos rfl]
          · simp only [if_neg s0] at fin
            by_cases s1 : w &&& 15 = 1
            · simp only [if_pos s1] at fin
              simp (disch := first | exact am_nl_i _ | exact am_nl_r _ | exact am_nl_0 | assumption | omega | (refine vi_nI ?_ ?_ <;> omega) | exact b2i_01 _ | exact Or.inl rfl | exact Or.inr rfl | (unfold vi; decide)) only [ex_2_0, ex_2_1, ex_2_2, ex_2_3, ex_2_7, ex_2_8, ex_2_11, ex_2_14, ex_2_16, ex_2_17, ex_2_20, ex_2_21, ex_2_24, ex_2_25, ex_2_28, ex_2_30, ex_2_31, ex_2_33, ex_2_34, ex_2_36, ex_2_38, ex_2_39, ex_2_42, ex_2_43, ex_2_44, ex_2_47, ex_2_48, ex_2_51, ex_2_52, ex_2_55, ex_2_56, ex_2_58, ex_2_61, ex_2_62, ex_2_65, ex_2_67, ex_2_68, ex_2_69, ex_2_70, ex_2_73, ex_2_75, ex_2_76, ex_2_79, ex_2_80, ex_2_83, ex_2_84, ex_2_85, ex_2_88, ex_2_91, ex_2_93, ex_2_94, ex_2_97, ex_2_98, ex_2_99, ex_2_102, ex_2_103, ex_2_104, ex_2_107, ex_2_108, ex_2_111, ex_2_112, ex_2_115, ex_2_116, ex_2_117, ex_2_118, ex_2_119, ex_2_122, ex_2_123, ex_2_124, ex_2_125, ex_2_126, ex_2_129, ex_2_130, ex_2_133, ex_2_134, ex_2_135, ex_2_138, ex_2_139, ex_2_140, ex_2_143, ex_2_144, ex_2_145, ex_2_148, ex_2_149, ex_2_152, ex_2_155, ex_2_156, ex_2_159, ex_2_160, ex_2_161, ex_2_162, ex_2_164, ex_2_165, ex_2_168, ex_2_169, ex_2_170, ex_2_171, ex_2_172, ex_2_173, ex_2_176, ex_2_177, ex_2_178, ex_2_181, ex_2_185, ex_2_188, ex_2_189, ex_2_190, ex_2_193, ex_2_194, ex_2_197, ex_2_198, ex_2_199, ex_2_202, ex_2_203, if_true, if_false, and_self, Option.toList_some, Option.toList_none, List.singleton_append, List.cons_append, List.nil_append, List.append_nil, nI_1, nt_e, Int32.le_refl, show ((1 : Int32) = (0 : Int32)) = False from eq_false (by decide), lq64, nI_leI, hnle, s1, e1, nI_clamp, hw]
              refine fin _ _ _ (of_ai ho rfl) ?_
              rw [AI_sAI, if_pos rfl]
            · simp only [if_neg s1] at fin
              simp (disch := first | exact am_nl_i _ | exact am_nl_r _ | exact am_nl_0 | assumption | omega | (refine vi_nI ?_ ?_ <;> omega) | exact b2i_01 _ | exact Or.inl rfl | exact Or.inr rfl | (unfold vi; decide)) only [ex_2_0, ex_2_1, ex_2_2, ex_2_3, ex_2_7, ex_2_8, ex_2_11, ex_2_14, ex_2_16, ex_2_17, ex_2_20, ex_2_21, ex_2_24, ex_2_25, ex_2_28, ex_2_30, ex_2_31, ex_2_33, ex_2_34, ex_2_36, ex_2_38, ex_2_39, ex_2_42, ex_2_43, ex_2_44, ex_2_47, ex_2_48, ex_2_51, ex_2_52, ex_2_55, ex_2_56, ex_2_58, ex_2_61, ex_2_62, ex_2_65, ex_2_67, ex_2_68, ex_2_69, ex_2_70, ex_2_73, ex_2_75, ex_2_76, ex_2_79, ex_2_80, ex_2_83, ex_2_84, ex_2_85, ex_2_88, ex_2_91, ex_2_93, ex_2_94, ex_2_97, ex_2_98, ex_2_99, ex_2_102, ex_2_103, ex_2_104, ex_2_107, ex_2_108, ex_2_111, ex_2_112, ex_2_115, ex_2_116, ex_2_117, ex_2_118, ex_2_119, ex_2_122, ex_2_123, ex_2_124, ex_2_125, ex_2_126, ex_2_129, ex_2_130, ex_2_133, ex_2_134, ex_2_135, ex_2_138, ex_2_139, ex_2_140, ex_2_143, ex_2_144, ex_2_145, ex_2_148, ex_2_149, ex_2_152, ex_2_155, ex_2_156, ex_2_159, ex_2_160, ex_2_161, ex_2_162, ex_2_164, ex_2_165, ex_2_168, ex_2_169, ex_2_170, ex_2_171, ex_2_172, ex_2_173, ex_2_176, ex_2_177, ex_2_178, ex_2_181, ex_2_185, ex_2_188, ex_2_189, ex_2_190, ex_2_193, ex_2_194, ex_2_197, ex_2_198, ex_2_199, ex_2_202, ex_2_203, if_true, if_false, and_self, Option.toList_some, Option.toList_none, List.singleton_append, List.cons_append, List.nil_append, List.append_nil, nI_1, nt_e, Int32.le_refl, lq64, nI_leI, hnle, s0, s1, e1, nI_clamp, hw]
              refine fin _ _ _ (of_ai ho rfl) ?_
              rw [AI_sAI, if_pos rfl]
        · have hle : 64 ≤ top := by omega
          simp only [if_neg ht2] at fin
          simp (disch := first | exact am_nl_i _ | exact am_nl_r _ | exact am_nl_0 | assumption | omega | (refine vi_nI ?_ ?_ <;> omega) | exact b2i_01 _ | exact Or.inl rfl | exact Or.inr rfl | (unfold vi; decide)) only [ex_2_0, ex_2_1, ex_2_2, ex_2_3, ex_2_7, ex_2_8, ex_2_11, ex_2_14, ex_2_16, ex_2_17, ex_2_20, ex_2_21, ex_2_24, ex_2_25, ex_2_28, ex_2_30, ex_2_31, ex_2_33, ex_2_34, ex_2_36, ex_2_38, ex_2_39, ex_2_42, ex_2_43, ex_2_44, ex_2_47, ex_2_48, ex_2_51, ex_2_52, ex_2_55, ex_2_56, ex_2_58, ex_2_61, ex_2_62, ex_2_65, ex_2_67, ex_2_68, ex_2_69, ex_2_70, ex_2_73, ex_2_75, ex_2_76, ex_2_79, ex_2_80, ex_2_83, ex_2_84, ex_2_85, ex_2_88, ex_2_91, ex_2_93, ex_2_94, ex_2_97, ex_2_98, ex_2_99, ex_2_102, ex_2_103, ex_2_104, ex_2_107, ex_2_108, ex_2_111, ex_2_112, ex_2_115, ex_2_116, ex_2_117, ex_2_118, ex_2_119, ex_2_122, ex_2_123, ex_2_124, ex_2_125, ex_2_126, ex_2_129, ex_2_130, ex_2_133, ex_2_134, ex_2_135, ex_2_138, ex_2_139, ex_2_140, ex_2_143, ex_2_144, ex_2_145, ex_2_148, ex_2_149, ex_2_152, ex_2_155, ex_2_156, ex_2_159, ex_2_160, ex_2_161, ex_2_162, ex_2_164, ex_2_165, ex_2_168, ex_2_169, ex_2_170, ex_2_171, ex_2_172, ex_2_173, ex_2_176, ex_2_177, ex_2_178, ex_2_181, ex_2_185, ex_2_188, ex_2_189, ex_2_190, ex_2_193, ex_2_194, ex_2_197, ex_2_198, ex_2_199, ex_2_202, ex_2_203, if_true, if_false, and_self, Option.toList_some, Option.toList_none, List.singleton_append, List.cons_append, List.nil_append, List.append_nil, nI_1, nt_e, Int32.le_refl, lq64, nI_leI, hle]
          exact fin _ _ _ ho rfl
      · rw [if_pos (Int32.not_le.mp hA)]
        simp only [if_neg hA] at fin
        by_cases s3 : w &&& 15 = 3
        · simp only [if_pos s3] at fin
          have hg : ¬ 64 < top := by omega
          by_cases h1 : 1 ≤ top
          · have h0 : ¬ top = 0 := by omega
            rw [if_pos ⟨h1, ht⟩] at fin
            by_cases z : AI u' (f + 2) (top - 1) = 0
            · simp (disch := first | exact am_nl_i _ | exact am_nl_r _ | exact am_nl_0 | assumption | omega | (refine vi_nI ?_ ?_ <;> omega) | exact b2i_01 _ | exact Or.inl rfl | exact Or.inr rfl | (unfold vi; decide)) only [ex_2_0, ex_2_1, ex_2_2, ex_2_3, ex_2_7, ex_2_8, ex_2_11, ex_2_14, ex_2_16, ex_2_17, ex_2_20, ex_2_21, ex_2_24, ex_2_25, ex_2_28, ex_2_30, ex_2_31, ex_2_33, ex_2_34, ex_2_36, ex_2_38, ex_2_39, ex_2_42, ex_2_43, ex_2_44, ex_2_47, ex_2_48, ex_2_51, ex_2_52, ex_2_55, ex_2_56, ex_2_58, ex_2_61, ex_2_62, ex_2_65, ex_2_67, ex_2_68, ex_2_69, ex_2_70, ex_2_73, ex_2_75, ex_2_76, ex_2_79, ex_2_80, ex_2_83, ex_2_84, ex_2_85, ex_2_88, ex_2_91, ex_2_93, ex_2_94, ex_2_97, ex_2_98, ex_2_99, ex_2_102, ex_2_103, ex_2_104, ex_2_107, ex_2_108, ex_2_111, ex_2_112, ex_2_115, ex_2_116, ex_2_117, ex_2_118, ex_2_119, ex_2_122, ex_2_123, ex_2_124, ex_2_125, ex_2_126, ex_2_129, ex_2_130, ex_2_133, ex_2_134, ex_2_135, ex_2_138, ex_2_139, ex_2_140, ex_2_143, ex_2_144, ex_2_145, ex_2_148, ex_2_149, ex_2_152, ex_2_155, ex_2_156, ex_2_159, ex_2_160, ex_2_161, ex_2_162, ex_2_164, ex_2_165, ex_2_168, ex_2_169, ex_2_170, ex_2_171, ex_2_172, ex_2_173, ex_2_176, ex_2_177, ex_2_178, ex_2_181, ex_2_185, ex_2_188, ex_2_189, ex_2_190, ex_2_193, ex_2_194, ex_2_197, ex_2_198, ex_2_199, ex_2_202, ex_2_203, if_true, if_false, and_self, Option.toList_some, Option.toList_none, List.singleton_append, List.cons_append, List.nil_append, List.append_nil, nI_1, nt_e, Int32.le_refl, s3, lq64, nI_ltI, i_lt1, h0, hg, i_sb, nI_clamp, z]
              refine fin _ _ _ (of_ai ho rfl) ?_
              rw [AI_sAI, if_pos rfl, decide_eq_true z]
              rfl
            · simp (disch := first | exact am_nl_i _ | exact am_nl_r _ | exact am_nl_0 | assumption | omega | (refine vi_nI ?_ ?_ <;> omega) | exact b2i_01 _ | exact Or.inl rfl | exact Or.inr rfl | (unfold vi; decide)) only [ex_2_0, ex_2_1, ex_2_2, ex_2_3, ex_2_7, ex_2_8, ex_2_11, ex_2_14, ex_2_16, ex_2_17, ex_2_20, ex_2_21, ex_2_24, ex_2_25, ex_2_28, ex_2_30, ex_2_31, ex_2_33, ex_2_34, ex_2_36, ex_2_38, ex_2_39, ex_2_42, ex_2_43, ex_2_44, ex_2_47, ex_2_48, ex_2_51, ex_2_52, ex_2_55, ex_2_56, ex_2_58, ex_2_61, ex_2_62, ex_2_65, ex_2_67, ex_2_68, ex_2_69, ex_2_70, ex_2_73, ex_2_75, ex_2_76, ex_2_79, ex_2_80, ex_2_83, ex_2_84, ex_2_85, ex_2_88, ex_2_91, ex_2_93, ex_2_94, ex_2_97, ex_2_98, ex_2_99, ex_2_102, ex_2_103, ex_2_104, ex_2_107, ex_2_108, ex_2_111, ex_2_112, ex_2_115, ex_2_116, ex_2_117, ex_2_118, ex_2_119, ex_2_122, ex_2_123, ex_2_124, ex_2_125, ex_2_126, ex_2_129, ex_2_130, ex_2_133, ex_2_134, ex_2_135, ex_2_138, ex_2_139, ex_2_140, ex_2_143, ex_2_144, ex_2_145, ex_2_148, ex_2_149, ex_2_152, ex_2_155, ex_2_156, ex_2_159, ex_2_160, ex_2_161, ex_2_162, ex_2_164, ex_2_165, ex_2_168, ex_2_169, ex_2_170, ex_2_171, ex_2_172, ex_2_173, ex_2_176, ex_2_177, ex_2_178, ex_2_181, ex_2_185, ex_2_188, ex_2_189, ex_2_190, ex_2_193, ex_2_194, ex_2_197, ex_2_198, ex_2_199, ex_2_202, ex_2_203, if_true, if_false, and_self, Option.toList_some, Option.toList_none, List.singleton_append, List.cons_append, List.nil_append, List.append_nil, nI_1, nt_e, Int32.le_refl, s3, lq64, nI_ltI, i_lt1, h0, hg, i_sb, nI_clamp, z]
              refine fin _ _ _ (of_ai ho rfl) ?_
              rw [AI_sAI, if_pos rfl, decide_eq_false z]
              rfl
          · have h0 : top = 0 := by omega
            rw [if_neg (fun q => h1 q.1)] at fin
            simp (disch := first | exact am_nl_i _ | exact am_nl_r _ | exact am_nl_0 | assumption | omega | (refine vi_nI ?_ ?_ <;> omega) | exact b2i_01 _ | exact Or.inl rfl | exact Or.inr rfl | (unfold vi; decide)) only [ex_2_0, ex_2_1, ex_2_2, ex_2_3, ex_2_7, ex_2_8, ex_2_11, ex_2_14, ex_2_16, ex_2_17, ex_2_20, ex_2_21, ex_2_24, ex_2_25, ex_2_28, ex_2_30, ex_2_31, ex_2_33, ex_2_34, ex_2_36, ex_2_38, ex_2_39, ex_2_42, ex_2_43, ex_2_44, ex_2_47, ex_2_48, ex_2_51, ex_2_52, ex_2_55, ex_2_56, ex_2_58, ex_2_61, ex_2_62, ex_2_65, ex_2_67, ex_2_68, ex_2_69, ex_2_70, ex_2_73, ex_2_75, ex_2_76, ex_2_79, ex_2_80, ex_2_83, ex_2_84, ex_2_85, ex_2_88, ex_2_91, ex_2_93, ex_2_94, ex_2_97, ex_2_98, ex_2_99, ex_2_102, ex_2_103, ex_2_104, ex_2_107, ex_2_108, ex_2_111, ex_2_112, ex_2_115, ex_2_116, ex_2_117, ex_2_118, ex_2_119, ex_2_122, ex_2_123, ex_2_124, ex_2_125, ex_2_126, ex_2_129, ex_2_130, ex_2_133, ex_2_134, ex_2_135, ex_2_138, ex_2_139, ex_2_140, ex_2_143, ex_2_144, ex_2_145, ex_2_148, ex_2_149, ex_2_152, ex_2_155, ex_2_156, ex_2_159, ex_2_160, ex_2_161, ex_2_162, ex_2_164, ex_2_165, ex_2_168, ex_2_169, ex_2_170, ex_2_171, ex_2_172, ex_2_173, ex_2_176, ex_2_177, ex_2_178, ex_2_181, ex_2_185, ex_2_188, ex_2_189, ex_2_190, ex_2_193, ex_2_194, ex_2_197, ex_2_198, ex_2_199, ex_2_202, ex_2_203, if_true, if_false, and_self, Option.toList_some, Option.toList_none, List.singleton_append, List.cons_append, List.nil_append, List.append_nil, nI_1, nt_e, Int32.le_refl, s3, i_lt1, h0]
            rw [h0] at fin
            exact fin _ _ _ ho rfl
        · simp only [if_neg s3] at fin
          have hg : ¬ 64 < top := by omega
          by_cases h2 : 2 ≤ top
          · have h0 : ¬ top < 2 := by omega
            rw [if_pos ⟨h2, ht⟩] at fin
            simp (disch := first | exact am_nl_i _ | exact am_nl_r _ | exact am_nl_0 | assumption | omega | (refine vi_nI ?_ ?_ <;> omega) | exact b2i_01 _ | exact Or.inl rfl | exact Or.inr rfl | (unfold vi; decide)) only [ex_2_0, ex_2_1, ex_2_2, ex_2_3, ex_2_7, ex_2_8, ex_2_11, ex_2_14, ex_2_16, ex_2_17, ex_2_20, ex_2_21, ex_2_24, ex_2_25, ex_2_28, ex_2_30, ex_2_31, ex_2_33, ex_2_34, ex_2_36, ex_2_38, ex_2_39, ex_2_42, ex_2_43, ex_2_44, ex_2_47, ex_2_48, ex_2_51, ex_2_52, ex_2_55, ex_2_56, ex_2_58, ex_2_61, ex_2_62, ex_2_65, ex_2_67, ex_2_68, ex_2_69, ex_2_70, ex_2_73, ex_2_75, ex_2_76, ex_2_79, ex_2_80, ex_2_83, ex_2_84, ex_2_85, ex_2_88, ex_2_91, ex_2_93, ex_2_94, ex_2_97, ex_2_98, ex_2_99, ex_2_102, ex_2_103, ex_2_104, ex_2_107, ex_2_108, ex_2_111, ex_2_112, ex_2_115, ex_2_116, ex_2_117, ex_2_118, ex_2_119, ex_2_122, ex_2_123, ex_2_124, ex_2_125, ex_2_126, ex_2_129, ex_2_130, ex_2_133, ex_2_134, ex_2_135, ex_2_138, ex_2_139, ex_2_140, ex_2_143, ex_2_144, ex_2_145, ex_2_148, ex_2_149, ex_2_152, ex_2_155, ex_2_156, ex_2_159, ex_2_160, ex_2_161, ex_2_162, ex_2_164, ex_2_165, ex_2_168, ex_2_169, ex_2_170, ex_2_171, ex_2_172, ex_2_173, ex_2_176, ex_2_177, ex_2_178, ex_2_181, ex_2_185, ex_2_188, ex_2_189, ex_2_190, ex_2_193, ex_2_194, ex_2_197, ex_2_198, ex_2_199, ex_2_202, ex_2_203, if_true, if_false, and_self, Option.toList_some, Option.toList_none, List.singleton_append, List.cons_append, List.nil_append, List.append_nil, nI_1, nt_e, Int32.le_refl, s3, lq64, nI_ltI, i_lt2, h0, hg, i_pm, i_sb, nI_clamp, joined_ok, show top - 1 - 1 = top - 2 by omega]
            refine fin _ _ _ (of_ai ho rfl) ?_
            rw [AI_sAI, if_pos rfl]
          · have h0 : top < 2 := by omega
            rw [if_neg (fun q => h2 q.1)] at fin
            simp (disch := first | exact am_nl_i _ | exact am_nl_r _ | exact am_nl_0 | assumption | omega | (refine vi_nI ?_ ?_ <;> omega) | exact b2i_01 _ | exact Or.inl rfl | exact Or.inr rfl | (unfold vi; decide)) only [ex_2_0, ex_2_1, ex_2_2, ex_2_3, ex_2_7, ex_2_8, ex_2_11, ex_2_14, ex_2_16, ex_2_17, ex_2_20, ex_2_21, ex_2_24, ex_2_25, ex_2_28, ex_2_30, ex_2_31, ex_2_33, ex_2_34, ex_2_36, ex_2_38, ex_2_39, ex_2_42, ex_2_43, ex_2_44, ex_2_47, ex_2_48, ex_2_51, ex_2_52, ex_2_55, ex_2_56, ex_2_58, ex_2_61, ex_2_62, ex_2_65, ex_2_67, ex_2_68, ex_2_69, ex_2_70, ex_2_73, ex_2_75, ex_2_76, ex_2_79, ex_2_80, ex_2_83, ex_2_84, ex_2_85, ex_2_88, ex_2_91, ex_2_93, ex_2_94, ex_2_97, ex_2_98, ex_2_99, ex_2_102, ex_2_103, ex_2_104, ex_2_107, ex_2_108, ex_2_111, ex_2_112, ex_2_115, ex_2_116, ex_2_117, ex_2_118, ex_2_119, ex_2_122, ex_2_123, ex_2_124, ex_2_125, ex_2_126, ex_2_129, ex_2_130, ex_2_133, ex_2_134, ex_2_135, ex_2_138, ex_2_139, ex_2_140, ex_2_143, ex_2_144, ex_2_145, ex_2_148, ex_2_149, ex_2_152, ex_2_155, ex_2_156, ex_2_159, ex_2_160, ex_2_161, ex_2_162, ex_2_164, ex_2_165, ex_2_168, ex_2_169, ex_2_170, ex_2_171, ex_2_172, ex_2_173, ex_2_176, ex_2_177, ex_2_178, ex_2_181, ex_2_185, ex_2_188, ex_2_189, ex_2_190, ex_2_193, ex_2_194, ex_2_197, ex_2_198, ex_2_199, ex_2_202, ex_2_203, if_true, if_false, and_self, Option.toList_some, Option.toList_none, List.singleton_append, List.cons_append, List.nil_append, List.append_nil, nI_1, nt_e, Int32.le_refl, s3, i_lt2, h0]
            exact fin _ _ _ ho rfl
  simp (disch := first | exact am_nl_i _ | exact am_nl_r _ | exact am_nl_0 | assumption | omega | (refine vi_nI ?_ ?_ <;> omega) | exact b2i_01 _ | exact Or.inl rfl | exact Or.inr rfl | (unfold vi; decide)) only [ex_2_0, ex_2_1, ex_2_2, ex_2_3, ex_2_7, ex_2_8, ex_2_11, ex_2_14, ex_2_16, ex_2_17, ex_2_20, ex_2_21, ex_2_24, ex_2_25, ex_2_28, ex_2_30, ex_2_31, ex_2_33, ex_2_34, ex_2_36, ex_2_38, ex_2_39, ex_2_42, ex_2_43, ex_2_44, ex_2_47, ex_2_48, ex_2_51, ex_2_52, ex_2_55, ex_2_56, ex_2_58, ex_2_61, ex_2_62, ex_2_65, ex_2_67, ex_2_68, ex_2_69, ex_2_70, ex_2_73, ex_2_75, ex_2_76, ex_2_79, ex_2_80, ex_2_83, ex_2_84, ex_2_85, ex_2_88, ex_2_91, ex_2_93, ex_2_94, ex_2_97, ex_2_98, ex_2_99, ex_2_102, ex_2_103, ex_2_104, ex_2_107, ex_2_108, ex_2_111, ex_2_112, ex_2_115, ex_2_116, ex_2_117, ex_2_118, ex_2_119, ex_2_122, ex_2_123, ex_2_124, ex_2_125, ex_2_126, ex_2_129, ex_2_130, ex_2_133, ex_2_134, ex_2_135, ex_2_138, ex_2_139, ex_2_140, ex_2_143, ex_2_144, ex_2_145, ex_2_148, ex_2_149, ex_2_152, ex_2_155, ex_2_156, ex_2_159, ex_2_160, ex_2_161, ex_2_162, ex_2_164, ex_2_165, ex_2_168, ex_2_169, ex_2_170, ex_2_171, ex_2_172, ex_2_173, ex_2_176, ex_2_177, ex_2_178, ex_2_181, ex_2_182, ex_2_185, ex_2_188, ex_2_189, ex_2_190, ex_2_193, ex_2_194, ex_2_197, ex_2_198, ex_2_199, ex_2_202, ex_2_203, if_true, if_false, and_self, Option.toList_some, Option.toList_none, List.singleton_append, List.cons_append, List.nil_append, List.append_nil, nI_1, nt_e, Int32.le_refl]
  exact loop n 0 none (by omega) u (Only.rf _ _) rfl
end FmVal
