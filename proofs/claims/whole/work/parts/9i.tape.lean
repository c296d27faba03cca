/-! THE CLASS'S TAPE: signs, marks -/
def TpC (u : am_U) (n : Nat) (f : Nat → Nat) : Prop := FI u 1 4 = nI n ∧ (∀ j, j < n → AI u 2 j = nI (f j)) ∧ n ≤ 1000 ∧ ∀ j, j < n → f j ≤ 126
theorem TpC.keep {P : Nat → Prop} {u u' : am_U} {n : Nat} {f : Nat → Nat} (h : TpC u n f) (ho : Only P u u') (hf : FI u' 1 4 = FI u 1 4) (h2 : ¬ P 2) : TpC u' n f := by
  obtain ⟨a, b, c⟩ := h
  exact ⟨hf.trans a, by rw [(ho 2 h2).2.2.2.1]; exact b, c⟩
theorem isL_lit : ∀ c, c < 127 → ((97 : Int32) ≤ nI c ↔ 97 ≤ c) ∧ (nI c ≤ (122 : Int32) ↔ c ≤ 122) ∧ (nI c < (97 : Int32) ↔ c < 97) ∧ ((122 : Int32) < nI c ↔ 122 < c) := by decide +kernel
theorem isD_lit : ∀ c, c < 127 → ((48 : Int32) ≤ nI c ↔ 48 ≤ c) ∧ (nI c ≤ (57 : Int32) ↔ c ≤ 57) ∧ (nI c < (48 : Int32) ↔ c < 48) ∧ ((57 : Int32) < nI c ↔ 57 < c) := by decide +kernel
theorem isM_tgt : ∀ c, c < 127 → am_tgt 1 105 40 61 #[103, 103, 103, 103, 105, 103, 105, 105, 105, 105, 105, 105, 105, 105, 105, 105, 105, 105, 105, 103, 103, 103] (nI c).toInt = if isM c then 104 else 106 := by decide +kernel
theorem eq_lit : ∀ c, c < 127 → (nI c = (10 : Int32) ↔ c = 10) ∧ (nI c = (32 : Int32) ↔ c = 32) := by decide +kernel
theorem l26 : ∀ c, c < 127 → 97 ≤ c → (nI c - 97 + 1).toInt64 = Int64.ofNat (c - 96) := by decide +kernel
theorem d10 : ∀ c, c < 127 → 48 ≤ c → (nI c - 48).toInt64 = Int64.ofNat (c - 48) := by decide +kernel
section TapeC1
variable {d n : Nat} {u : am_U} {m : am_M} {f : Nat → Nat} {post : Option Value → am_M → Prop}
theorem signAt_ok {k : Nat} (h : TpC u n f) (hk : k < 2 ^ 31) : Cl d 108 [.ref 1, .int (nI k)] (am_emb u) post ↔ post (some (.int (nI (if k < n then f k else 0)))) (am_emb u) := by
  obtain ⟨h1, h2, h3, h4⟩ := h
  rw [op_108]
  by_cases q : k < n
  · have q2 : ¬ n ≤ k := by omega
    have q3 : k < 1000 := by omega
    have q4 : ¬ 1000 ≤ k := by omega
    have e := h2 k q
    rw [if_pos q]
    simp (disch := first | exact am_nl_i _ | exact am_nl_r _ | exact am_nl_0 | (refine vi_nI ?_ ?_ <;> omega) | assumption | omega | exact b2i_01 _ | exact Or.inl rfl | exact Or.inr rfl | (unfold vi; decide)) only [ex_108_0, ex_108_1, ex_108_4, ex_108_5, ex_108_6, ex_108_9, ex_108_12, ex_108_13, ex_108_14, ex_108_17, ex_108_18, ex_108_21, ex_108_22, ex_108_25, ex_108_26, ex_108_27, ex_108_30, ex_108_31, if_true, if_false, and_self, Option.toList_some, Option.toList_none, List.singleton_append, List.cons_append, List.nil_append, List.append_nil, nI_1, nt_e, Int32.le_refl, i_lt0, h1, nI_leI, q2, lq1000, q4, nI_clamp, e, Bool.true_eq_false, Bool.false_eq_true, ↓reduceIte]
  · have q2 : n ≤ k := by omega
    rw [if_neg q]
    simp (disch := first | exact am_nl_i _ | exact am_nl_r _ | exact am_nl_0 | (refine vi_nI ?_ ?_ <;> omega) | assumption | omega | exact b2i_01 _ | exact Or.inl rfl | exact Or.inr rfl | (unfold vi; decide)) only [ex_108_0, ex_108_1, ex_108_4, ex_108_5, ex_108_6, ex_108_9, ex_108_12, ex_108_13, ex_108_14, ex_108_17, ex_108_18, ex_108_21, ex_108_22, ex_108_25, ex_108_26, ex_108_27, ex_108_30, ex_108_31, if_true, if_false, and_self, Option.toList_some, Option.toList_none, List.singleton_append, List.cons_append, List.nil_append, List.append_nil, nI_1, nt_e, Int32.le_refl, i_lt0, h1, nI_leI, q2, Bool.true_eq_false, Bool.false_eq_true, ↓reduceIte]
    exact Iff.rfl
theorem isLetter_ok {c : Nat} (hc : c < 127) : Cl d 109 [.int (nI c)] m post ↔ post (some (.int (b2i (isL c)))) m := by
  obtain ⟨a1, a2, a3, a4⟩ := isL_lit c hc
  rw [op_109]
  unfold isL
  by_cases q1 : 97 ≤ c
  · have q1' : ¬ c < 97 := by omega
    by_cases q2 : c ≤ 122
    · have q2' : ¬ 122 < c := by omega
      rw [decide_eq_true ⟨q1, q2⟩]
      simp (disch := first | exact am_nl_i _ | exact am_nl_r _ | exact am_nl_0 | (refine vi_nI ?_ ?_ <;> omega) | assumption | omega | exact b2i_01 _ | exact Or.inl rfl | exact Or.inr rfl | (unfold vi; decide)) only [ex_109_0, ex_109_1, ex_109_3, ex_109_6, ex_109_7, ex_109_9, ex_109_12, ex_109_13, ex_109_16, ex_109_17, if_true, if_false, and_self, Option.toList_some, Option.toList_none, List.singleton_append, List.cons_append, List.nil_append, List.append_nil, nI_1, nt_e, Int32.le_refl, a1, a2, a3, a4, q1, q2, q1', q2', Bool.true_eq_false, Bool.false_eq_true, ↓reduceIte]
      exact Iff.rfl
    · have q2' : 122 < c := by omega
      rw [decide_eq_false (fun q => q2 q.2)]
      simp (disch := first | exact am_nl_i _ | exact am_nl_r _ | exact am_nl_0 | (refine vi_nI ?_ ?_ <;> omega) | assumption | omega | exact b2i_01 _ | exact Or.inl rfl | exact Or.inr rfl | (unfold vi; decide)) only [ex_109_0, ex_109_1, ex_109_3, ex_109_6, ex_109_7, ex_109_9, ex_109_12, ex_109_13, ex_109_16, ex_109_17, if_true, if_false, and_self, Option.toList_some, Option.toList_none, List.singleton_append, List.cons_append, List.nil_append, List.append_nil, nI_1, nt_e, Int32.le_refl, a1, a2, a3, a4, q1, q2, q1', q2', Bool.true_eq_false, Bool.false_eq_true, ↓reduceIte]
      exact Iff.rfl
  · have q1' : c < 97 := by omega
    rw [decide_eq_false (fun q => q1 q.1)]
    simp (disch := first | exact am_nl_i _ | exact am_nl_r _ | exact am_nl_0 | (refine vi_nI ?_ ?_ <;> omega) | assumption | omega | exact b2i_01 _ | exact Or.inl rfl | exact Or.inr rfl | (unfold vi; decide)) only [ex_109_0, ex_109_1, ex_109_3, ex_109_6, ex_109_7, ex_109_9, ex_109_12, ex_109_13, ex_109_16, ex_109_17, if_true, if_false, and_self, Option.toList_some, Option.toList_none, List.singleton_append, List.cons_append, List.nil_append, List.append_nil, nI_1, nt_e, Int32.le_refl, a1, a2, a3, a4, q1, q1', Bool.true_eq_false, Bool.false_eq_true, ↓reduceIte]
    exact Iff.rfl
theorem isDigit_ok {c : Nat} (hc : c < 127) : Cl d 110 [.int (nI c)] m post ↔ post (some (.int (b2i (isD c)))) m := by
  obtain ⟨a1, a2, a3, a4⟩ := isD_lit c hc
  rw [op_110]
  unfold isD
  by_cases q1 : 48 ≤ c
  · have q1' : ¬ c < 48 := by omega
    by_cases q2 : c ≤ 57
    · have q2' : ¬ 57 < c := by omega
      rw [decide_eq_true ⟨q1, q2⟩]
      simp (disch := first | exact am_nl_i _ | exact am_nl_r _ | exact am_nl_0 | (refine vi_nI ?_ ?_ <;> omega) | assumption | omega | exact b2i_01 _ | exact Or.inl rfl | exact Or.inr rfl | (unfold vi; decide)) only [ex_110_0, ex_110_1, ex_110_3, ex_110_6, ex_110_7, ex_110_9, ex_110_12, ex_110_13, ex_110_16, ex_110_17, if_true, if_false, and_self, Option.toList_some, Option.toList_none, List.singleton_append, List.cons_append, List.nil_append, List.append_nil, nI_1, nt_e, Int32.le_refl, a1, a2, a3, a4, q1, q2, q1', q2', Bool.true_eq_false, Bool.false_eq_true, ↓reduceIte]
      exact Iff.rfl
    · have q2' : 57 < c := by omega
      rw [decide_eq_false (fun q => q2 q.2)]
      simp (disch := first | exact am_nl_i _ | exact am_nl_r _ | exact am_nl_0 | (refine vi_nI ?_ ?_ <;> omega) | assumption | omega | exact b2i_01 _ | exact Or.inl rfl | exact Or.inr rfl | (unfold vi; decide)) only [ex_110_0, ex_110_1, ex_110_3, ex_110_6, ex_110_7, ex_110_9, ex_110_12, ex_110_13, ex_110_16, ex_110_17, if_true, if_false, and_self, Option.toList_some, Option.toList_none, List.singleton_append, List.cons_append, List.nil_append, List.append_nil, nI_1, nt_e, Int32.le_refl, a1, a2, a3, a4, q1, q2, q1', q2', Bool.true_eq_false, Bool.false_eq_true, ↓reduceIte]
      exact Iff.rfl
  · have q1' : c < 48 := by omega
    rw [decide_eq_false (fun q => q1 q.1)]
    simp (disch := first | exact am_nl_i _ | exact am_nl_r _ | exact am_nl_0 | (refine vi_nI ?_ ?_ <;> omega) | assumption | omega | exact b2i_01 _ | exact Or.inl rfl | exact Or.inr rfl | (unfold vi; decide)) only [ex_110_0, ex_110_1, ex_110_3, ex_110_6, ex_110_7, ex_110_9, ex_110_12, ex_110_13, ex_110_16, ex_110_17, if_true, if_false, and_self, Option.toList_some, Option.toList_none, List.singleton_append, List.cons_append, List.nil_append, List.append_nil, nI_1, nt_e, Int32.le_refl, a1, a2, a3, a4, q1, q1', Bool.true_eq_false, Bool.false_eq_true, ↓reduceIte]
    exact Iff.rfl
theorem isMark_ok {c : Nat} (hc : c < 127) : Cl d 111 [.int (nI c)] m post ↔ post (some (.int (b2i (isM c)))) m := by
  rw [op_111]
  simp (disch := first | exact am_nl_i _ | exact am_nl_r _ | exact am_nl_0 | (refine vi_nI ?_ ?_ <;> omega) | assumption | omega | exact b2i_01 _ | exact Or.inl rfl | exact Or.inr rfl | (unfold vi; decide)) only [ex_111_0, ex_111_1, ex_111_105, ex_111_107, if_true, if_false, and_self, Option.toList_some, Option.toList_none, List.singleton_append, List.cons_append, List.nil_append, List.append_nil, nI_1, nt_e, Int32.le_refl, isM_tgt c hc, Bool.true_eq_false, Bool.false_eq_true, ↓reduceIte]
  cases q : isM c
  · simp (disch := first | exact am_nl_i _ | exact am_nl_r _ | exact am_nl_0 | (refine vi_nI ?_ ?_ <;> omega) | assumption | omega | exact b2i_01 _ | exact Or.inl rfl | exact Or.inr rfl | (unfold vi; decide)) only [ex_111_0, ex_111_1, ex_111_104, ex_111_105, ex_111_106, ex_111_107, if_true, if_false, and_self, Option.toList_some, Option.toList_none, List.singleton_append, List.cons_append, List.nil_append, List.append_nil, nI_1, nt_e, Int32.le_refl, Bool.true_eq_false, Bool.false_eq_true, ↓reduceIte]
    exact Iff.rfl
  · simp (disch := first | exact am_nl_i _ | exact am_nl_r _ | exact am_nl_0 | (refine vi_nI ?_ ?_ <;> omega) | assumption | omega | exact b2i_01 _ | exact Or.inl rfl | exact Or.inr rfl | (unfold vi; decide)) only [ex_111_0, ex_111_1, ex_111_104, ex_111_105, ex_111_106, ex_111_107, if_true, if_false, and_self, Option.toList_some, Option.toList_none, List.singleton_append, List.cons_append, List.nil_append, List.append_nil, nI_1, nt_e, Int32.le_refl, Bool.true_eq_false, Bool.false_eq_true, ↓reduceIte]
    exact Iff.rfl
end TapeC1
/-- the class's tokens so far: k of them -/
def tkP (a : Nat) : Prop := a = 1 ∨ a = 3 ∨ a = 4 ∨ a = 5
section TapeC2
variable {d n k : Nat} {u : am_U} {f : Nat → Nat} {post : Option Value → am_M → Prop}
theorem tadd_ok {s p : Int32} {w : Int64} (hk : FI u 1 5 = nI k) (hk2 : k < 1001) (h : ∀ u', Only tkP u u' → FI u' 1 5 = nI (k + 1) → FI u' 1 4 = FI u 1 4 → AI u' 3 = upd (AI u 3) k s → AI u' 4 = upd (AI u 4) k p → AJ u' 5 = vp_updL (AJ u 5) k w → post none (am_emb u')) : Cl d 107 [.ref 1, .int s, .int p, .long w] (am_emb u) post := by
  have q : ¬ 1001 ≤ k := by omega
  have hfin := h (sFI (sAJ (sAI (sAI u 3 (upd (AI u 3) k s)) 4 (upd (AI u 4) k p)) 5 (vp_updL (AJ u 5) k w)) 1 5 (nI (k + 1))) (of_fi (of_aj (of_ai (of_ai (Only.rf _ _) (Or.inr (Or.inl rfl))) (Or.inr (Or.inr (Or.inl rfl)))) (Or.inr (Or.inr (Or.inr rfl)))) (Or.inl rfl)) (by rw [FI_sFI, if_pos ⟨rfl, rfl⟩]) (by rw [FI_sFI, if_neg (by decide)]; rfl) rfl rfl rfl
  rw [op_107]
  simp (disch := first | exact am_nl_i _ | exact am_nl_r _ | exact am_nl_0 | (refine vi_nI ?_ ?_ <;> omega) | assumption | omega | exact b2i_01 _ | exact Or.inl rfl | exact Or.inr rfl | (unfold vi; decide)) only [ex_107_0, ex_107_1, ex_107_4, ex_107_7, ex_107_8, ex_107_11, ex_107_12, ex_107_15, ex_107_16, ex_107_19, ex_107_20, ex_107_23, ex_107_24, ex_107_27, ex_107_28, ex_107_29, ex_107_30, ex_107_33, ex_107_34, ex_107_37, ex_107_38, ex_107_39, ex_107_40, ex_107_43, ex_107_44, ex_107_47, ex_107_48, ex_107_49, ex_107_50, ex_107_51, ex_107_54, ex_107_55, ex_107_56, ex_107_59, if_true, if_false, and_self, Option.toList_some, Option.toList_none, List.singleton_append, List.cons_append, List.nil_append, List.append_nil, nI_1, nt_e, Int32.le_refl, FI_sAI, FI_sAJ, hk, i_lt0, show (1001 : Int32) = nI 1001 from rfl, nI_leI, q, nI_clamp, nI_1, Bool.true_eq_false, Bool.false_eq_true, ↓reduceIte]
  exact hfin
end TapeC2
