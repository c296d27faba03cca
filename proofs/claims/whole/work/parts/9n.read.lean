/-! READING, of the class: the small steps -/
def RdC (u : am_U) (n : Nat) (f : Nat → Nat) (m i : Nat) : Prop := FI u 6 1 = nI i ∧ i ≤ m ∧ FI u 6 9 = 0 ∧ FI u 1 5 = nI (m + 1) ∧ EndAt n f m ∧ m ≤ 1000 ∧ (∀ j, j ≤ m → TokC u j (tk n f j)) ∧ n ≤ 1000
/-- behind a fault -/
def FltC (u : am_U) (e : Nat) : Prop := FI u 6 9 = nI e ∧ 0 < e ∧ e < 2 ^ 31 ∧ ∃ i, i ≤ 1000 ∧ FI u 6 1 = nI i
def RdO (u u' : am_U) : Prop := Only (is 6) u u' ∧ (∀ k, ¬ k = 1 → ¬ k = 9 → FI u' 6 k = FI u 6 k) ∧ FR u' 6 = FR u 6
theorem RdO.rf (u : am_U) : RdO u u := ⟨Only.rf _ _, fun _ _ _ => rfl, rfl⟩
theorem RdO.tr {u1 u2 u3 : am_U} (h1 : RdO u1 u2) (h2 : RdO u2 u3) : RdO u1 u3 := ⟨h1.1.tr h2.1, fun k a b => (h2.2.1 k a b).trans (h1.2.1 k a b), h2.2.2.trans h1.2.2⟩
theorem RdO.fi {u u1 : am_U} {k : Nat} {x : Int32} (h : RdO u u1) (hk : k = 1 ∨ k = 9) : RdO u (sFI u1 6 k x) := ⟨of_fi h.1 rfl, fun j a b => by rw [FI_sFI, if_neg (by omega)]; exact h.2.1 j a b, h.2.2⟩
theorem TokC.keep {P : Nat → Prop} {u u' : am_U} {i : Nat} {t : Tok} (h : TokC u i t) (ho : Only P u u') (h3 : ¬ P 3) (h4 : ¬ P 4) (h5 : ¬ P 5) : TokC u' i t := by
  unfold TokC
  rw [(ho 3 h3).2.2.2.1, (ho 4 h4).2.2.2.1, (ho 5 h5).2.2.2.2.1]
  exact h
theorem RdC.keep {P : Nat → Prop} {u u' : am_U} {n m i : Nat} {f : Nat → Nat} (h : RdC u n f m i) (ho : Only P u u') (h6 : ¬ P 6) (h1 : ¬ P 1) (h3 : ¬ P 3) (h4 : ¬ P 4) (h5 : ¬ P 5) : RdC u' n f m i := by
  obtain ⟨a, b, c, d, e, g, t, w⟩ := h
  exact ⟨by rw [(ho 6 h6).1]; exact a, b, by rw [(ho 6 h6).1]; exact c, by rw [(ho 1 h1).1]; exact d, e, g, fun j hj => (t j hj).keep ho h3 h4 h5, w⟩
theorem FltC.keep {P : Nat → Prop} {u u' : am_U} {e : Nat} (h : FltC u e) (ho : Only P u u') (h6 : ¬ P 6) : FltC u' e := by
  unfold FltC
  rw [(ho 6 h6).1]
  exact h
theorem cs_lt {n : Nat} {f : Nat → Nat} {t : Tok} (ht : TokOk n f t) : csort t < 229 := by
  rcases cs_rng ht with h | h | h | h | h
  · omega
  · omega
  · omega
  · have := isM_rng h.2.2.1; omega
  · omega
theorem nm_lit : ∀ s, s < 229 → (nI s = (1 : Int32) ↔ s = 1) ∧ (nI s < (226 : Int32) ↔ s < 226) ∧ ((226 : Int32) ≤ nI s ↔ 226 ≤ s) := by decide +kernel
theorem nI_eqI {a b : Nat} (ha : a < 2 ^ 31) (hb : b < 2 ^ 31) : nI a = nI b ↔ a = b := ⟨fun h => by have h := congrArg ix h; rwa [ix_nI ha, ix_nI hb] at h, fun h => by rw [h]⟩
section ReadC
variable {d n m i e : Nat} {u : am_U} {f : Nat → Nat} {post : Option Value → am_M → Prop}
theorem rsort_g (h : FI u 6 1 = nI i) (hi : i ≤ 1000) : Cl d 68 [.ref 6] (am_emb u) post ↔ post (some (.int (AI u 3 i))) (am_emb u) := by
  have q : ¬ 1001 ≤ i := by omega
  rw [op_68]
  simp (disch := first | exact am_nl_i _ | exact am_nl_r _ | exact am_nl_0 | (refine vi_nI ?_ ?_ <;> omega) | assumption | omega | exact b2i_01 _ | exact Or.inl rfl | exact Or.inr rfl | (unfold vi; decide)) only [ex_68_0, ex_68_1, ex_68_4, ex_68_7, ex_68_8, ex_68_11, ex_68_12, ex_68_15, ex_68_18, ex_68_19, ex_68_22, ex_68_23, ex_68_26, ex_68_29, ex_68_30, ex_68_33, ex_68_34, ex_68_37, ex_68_38, if_true, if_false, and_self, Option.toList_some, Option.toList_none, List.singleton_append, List.cons_append, List.nil_append, List.append_nil, nI_1, nt_e, Int32.le_refl, h, i_lt0, show (1001 : Int32) = nI 1001 from rfl, nI_leI, q, nI_clamp, Bool.true_eq_false, Bool.false_eq_true, ↓reduceIte]
theorem rvalue_g (h : FI u 6 1 = nI i) (hi : i ≤ 1000) : Cl d 69 [.ref 6] (am_emb u) post ↔ post (some (.long (AJ u 5 i))) (am_emb u) := by
  have q : ¬ 1001 ≤ i := by omega
  rw [op_69]
  simp (disch := first | exact am_nl_i _ | exact am_nl_r _ | exact am_nl_0 | (refine vi_nI ?_ ?_ <;> omega) | assumption | omega | exact b2i_01 _ | exact Or.inl rfl | exact Or.inr rfl | (unfold vi; decide)) only [ex_69_0, ex_69_1, ex_69_4, ex_69_7, ex_69_8, ex_69_11, ex_69_12, ex_69_15, ex_69_18, ex_69_19, ex_69_22, ex_69_23, ex_69_26, ex_69_29, ex_69_30, ex_69_33, ex_69_34, ex_69_37, ex_69_38, if_true, if_false, and_self, Option.toList_some, Option.toList_none, List.singleton_append, List.cons_append, List.nil_append, List.append_nil, nI_1, nt_e, Int32.le_refl, h, i_lt0, show (1001 : Int32) = nI 1001 from rfl, nI_leI, q, nI_clamp, Bool.true_eq_false, Bool.false_eq_true, ↓reduceIte]
theorem rname_g (h : FI u 6 1 = nI i) (hi : i ≤ 1000) : Cl (d + 1) 70 [.ref 6] (am_emb u) post ↔ post (some (.int (b2i (decide (AI u 3 i = 1) || decide ((226 : Int32) ≤ AI u 3 i))))) (am_emb u) := by
  rw [op_70]
  by_cases q1 : AI u 3 i = 1
  · rw [decide_eq_true q1, Bool.true_or]
    simp (disch := first | exact am_nl_i _ | exact am_nl_r _ | exact am_nl_0 | (refine vi_nI ?_ ?_ <;> omega) | assumption | omega | exact b2i_01 _ | exact Or.inl rfl | exact Or.inr rfl | (unfold vi; decide)) only [ex_70_0, ex_70_1, ex_70_4, ex_70_5, ex_70_8, ex_70_9, ex_70_12, ex_70_15, ex_70_18, ex_70_19, ex_70_22, ex_70_23, if_true, if_false, and_self, Option.toList_some, Option.toList_none, List.singleton_append, List.cons_append, List.nil_append, List.append_nil, nI_1, nt_e, Int32.le_refl, rsort_g h hi, q1, Bool.true_eq_false, Bool.false_eq_true, ↓reduceIte]
    exact Iff.rfl
  · rw [decide_eq_false q1, Bool.false_or]
    by_cases q2 : (226 : Int32) ≤ AI u 3 i
    · have q3 : ¬ AI u 3 i < 226 := Int32.not_lt.mpr q2
      rw [decide_eq_true q2]
      simp (disch := first | exact am_nl_i _ | exact am_nl_r _ | exact am_nl_0 | (refine vi_nI ?_ ?_ <;> omega) | assumption | omega | exact b2i_01 _ | exact Or.inl rfl | exact Or.inr rfl | (unfold vi; decide)) only [ex_70_0, ex_70_1, ex_70_4, ex_70_5, ex_70_8, ex_70_9, ex_70_12, ex_70_15, ex_70_18, ex_70_19, ex_70_22, ex_70_23, if_true, if_false, and_self, Option.toList_some, Option.toList_none, List.singleton_append, List.cons_append, List.nil_append, List.append_nil, nI_1, nt_e, Int32.le_refl, rsort_g h hi, q1, q2, q3, Bool.true_eq_false, Bool.false_eq_true, ↓reduceIte]
      exact Iff.rfl
    · have q3 : AI u 3 i < 226 := Int32.not_le.mp q2
      rw [decide_eq_false q2]
      simp (disch := first | exact am_nl_i _ | exact am_nl_r _ | exact am_nl_0 | (refine vi_nI ?_ ?_ <;> omega) | assumption | omega | exact b2i_01 _ | exact Or.inl rfl | exact Or.inr rfl | (unfold vi; decide)) only [ex_70_0, ex_70_1, ex_70_4, ex_70_5, ex_70_8, ex_70_9, ex_70_12, ex_70_15, ex_70_18, ex_70_19, ex_70_22, ex_70_23, if_true, if_false, and_self, Option.toList_some, Option.toList_none, List.singleton_append, List.cons_append, List.nil_append, List.append_nil, nI_1, nt_e, Int32.le_refl, rsort_g h hi, q1, q2, q3, Bool.true_eq_false, Bool.false_eq_true, ↓reduceIte]
      exact Iff.rfl
theorem RdC.so (h : RdC u n f m i) : AI u 3 i = nI (csort (tk n f i)) := (h.2.2.2.2.2.2.1 i h.2.1).1
theorem RdC.im (h : RdC u n f m i) : i ≤ 1000 := Nat.le_trans h.2.1 h.2.2.2.2.2.1
theorem rsort_ok (h : RdC u n f m i) : Cl d 68 [.ref 6] (am_emb u) post ↔ post (some (.int (nI (csort (tk n f i))))) (am_emb u) := by
  rw [rsort_g h.1 h.im, h.so]
theorem rname_ok (h : RdC u n f m i) : Cl (d + 1) 70 [.ref 6] (am_emb u) post ↔ post (some (.int (b2i (nmB (csort (tk n f i)))))) (am_emb u) := by
  obtain ⟨a, b, c⟩ := nm_lit _ (cs_lt (tk_ok (n := n) (f := f) i))
  rw [rname_g h.1 h.im, h.so]
  unfold nmB
  rw [decide_eq_decide.mpr a, decide_eq_decide.mpr c]
theorem fail_ok {k : Nat} (h : RdC u n f m i) : Cl d 71 [.ref 6, .int (nI k)] (am_emb u) post ↔ post none (am_emb (sFI u 6 9 (nI (fl k (tk n f i))))) := by
  have hi := h.im
  have q : ¬ 1001 ≤ i := by omega
  have hp := (h.2.2.2.2.2.2.1 i h.2.1).2.1
  have e16 : nI k + 16 * nI (tk n f i).2.1 = nI (fl k (tk n f i)) := by
    rw [show (16 : Int32) = nI 16 from rfl, mul_nI, nI_add]
    rfl
  rw [op_71]
  simp (disch := first | exact am_nl_i _ | exact am_nl_r _ | exact am_nl_0 | (refine vi_nI ?_ ?_ <;> omega) | assumption | omega | exact b2i_01 _ | exact Or.inl rfl | exact Or.inr rfl | (unfold vi; decide)) only [ex_71_0, ex_71_1, ex_71_4, ex_71_7, ex_71_8, ex_71_11, ex_71_14, ex_71_15, ex_71_18, ex_71_19, ex_71_22, ex_71_25, ex_71_26, ex_71_29, ex_71_30, ex_71_31, ex_71_33, ex_71_34, ex_71_37, ex_71_40, ex_71_41, ex_71_44, ex_71_45, ex_71_46, ex_71_47, ex_71_50, if_true, if_false, and_self, Option.toList_some, Option.toList_none, List.singleton_append, List.cons_append, List.nil_append, List.append_nil, nI_1, nt_e, Int32.le_refl, h.1, h.2.2.1, i_lt0, show (1001 : Int32) = nI 1001 from rfl, nI_leI, q, nI_clamp, hp, e16, Bool.true_eq_false, Bool.false_eq_true, ↓reduceIte]
theorem fail_f {k : Nat} (h : RdC u n f m i) (hk : 1 ≤ k) (hk2 : k ≤ 5) : FltC (sFI u 6 9 (nI (fl k (tk n f i)))) (fl k (tk n f i)) := by
  have hb := tk_ble (n := n) (f := f) (i := i)
  have hn := h.2.2.2.2.2.2.2
  refine ⟨by rw [FI_sFI, if_pos ⟨rfl, rfl⟩], by unfold fl; omega, by unfold fl; omega, i, h.im, ?_⟩
  rw [FI_sFI, if_neg (by decide)]
  exact h.1
theorem flt_ne (h : FltC u e) : ¬ FI u 6 9 = 0 := by
  rw [h.1, i_eq0 h.2.2.1]
  have := h.2.1
  omega
theorem failX {x : Int32} (h : FltC u e) : Cl d 71 [.ref 6, .int x] (am_emb u) post ↔ post none (am_emb u) := by
  have q := flt_ne h
  rw [op_71]
  simp (disch := first | exact am_nl_i _ | exact am_nl_r _ | exact am_nl_0 | (refine vi_nI ?_ ?_ <;> omega) | assumption | omega | exact b2i_01 _ | exact Or.inl rfl | exact Or.inr rfl | (unfold vi; decide)) only [ex_71_0, ex_71_1, ex_71_4, ex_71_7, ex_71_8, ex_71_11, ex_71_14, ex_71_15, ex_71_18, ex_71_19, ex_71_22, ex_71_25, ex_71_26, ex_71_29, ex_71_30, ex_71_31, ex_71_33, ex_71_34, ex_71_37, ex_71_40, ex_71_41, ex_71_44, ex_71_45, ex_71_46, ex_71_47, ex_71_50, if_true, if_false, and_self, Option.toList_some, Option.toList_none, List.singleton_append, List.cons_append, List.nil_append, List.append_nil, nI_1, nt_e, Int32.le_refl, q, Bool.true_eq_false, Bool.false_eq_true, ↓reduceIte]
theorem step_ok (h : RdC u n f m i) (hne : ¬ csort (tk n f i) = 3) : Cl d 72 [.ref 6] (am_emb u) post ↔ post none (am_emb (sFI u 6 1 (nI (i + 1)))) := by
  have hi := h.im
  have hlt : i < m := end_lt h.2.2.2.2.1 (fun q => hne ((cs_0 (tk_ok i)).mp q))
  have q : ¬ m + 1 ≤ i + 1 := by omega
  have hm := h.2.2.2.2.2.1
  rw [op_72]
  simp (disch := first | exact am_nl_i _ | exact am_nl_r _ | exact am_nl_0 | (refine vi_nI ?_ ?_ <;> omega) | assumption | omega | exact b2i_01 _ | exact Or.inl rfl | exact Or.inr rfl | (unfold vi; decide)) only [ex_72_0, ex_72_1, ex_72_4, ex_72_7, ex_72_8, ex_72_11, ex_72_12, ex_72_13, ex_72_14, ex_72_17, ex_72_20, ex_72_23, ex_72_24, ex_72_25, ex_72_28, ex_72_29, ex_72_30, ex_72_33, if_true, if_false, and_self, Option.toList_some, Option.toList_none, List.singleton_append, List.cons_append, List.nil_append, List.append_nil, nI_1, nt_e, Int32.le_refl, h.1, h.2.2.1, h.2.2.2.1, nI_1, nI_leI, q, Bool.true_eq_false, Bool.false_eq_true, ↓reduceIte]
theorem step_r (h : RdC u n f m i) (hne : ¬ csort (tk n f i) = 3) : RdC (sFI u 6 1 (nI (i + 1))) n f m (i + 1) := by
  have hlt : i < m := end_lt h.2.2.2.2.1 (fun q => hne ((cs_0 (tk_ok i)).mp q))
  obtain ⟨a, b, c, d, e, g, t, w⟩ := h
  exact ⟨by rw [FI_sFI, if_pos ⟨rfl, rfl⟩], by omega, by rw [FI_sFI, if_neg (by decide)]; exact c, by rw [FI_sFI, if_neg (by decide)]; exact d, e, g, t, w⟩
theorem stepX (h : FltC u e) : Cl d 72 [.ref 6] (am_emb u) post ↔ post none (am_emb u) := by
  have q := flt_ne h
  rw [op_72]
  simp (disch := first | exact am_nl_i _ | exact am_nl_r _ | exact am_nl_0 | (refine vi_nI ?_ ?_ <;> omega) | assumption | omega | exact b2i_01 _ | exact Or.inl rfl | exact Or.inr rfl | (unfold vi; decide)) only [ex_72_0, ex_72_1, ex_72_4, ex_72_7, ex_72_8, ex_72_11, ex_72_12, ex_72_13, ex_72_14, ex_72_17, ex_72_20, ex_72_23, ex_72_24, ex_72_25, ex_72_28, ex_72_29, ex_72_30, ex_72_33, if_true, if_false, and_self, Option.toList_some, Option.toList_none, List.singleton_append, List.cons_append, List.nil_append, List.append_nil, nI_1, nt_e, Int32.le_refl, q, Bool.true_eq_false, Bool.false_eq_true, ↓reduceIte]
theorem take_ok {s : Nat} (h : RdC u n f m i) (hs : ¬ s = 3) (hs2 : s < 1000) (hb : ¬ csort (tk n f i) = s → ∀ u', RdO u u' → FltC u' (fl 1 (tk n f i)) → post none (am_emb u')) (hg : csort (tk n f i) = s → ∀ u', RdO u u' → RdC u' n f m (i + 1) → post none (am_emb u')) : Cl (d + 1) 73 [.ref 6, .int (nI s)] (am_emb u) post := by
  have hl := cs_lt (tk_ok (n := n) (f := f) i)
  rw [op_73]
  by_cases q : csort (tk n f i) = s
  · have hfin := hg q _ ((RdO.rf u).fi (Or.inl rfl)) (step_r h (by omega))
    simp (disch := first | exact am_nl_i _ | exact am_nl_r _ | exact am_nl_0 | (refine vi_nI ?_ ?_ <;> omega) | assumption | omega | exact b2i_01 _ | exact Or.inl rfl | exact Or.inr rfl | (unfold vi; decide)) only [ex_73_0, ex_73_1, ex_73_4, ex_73_5, ex_73_8, ex_73_9, ex_73_10, ex_73_13, ex_73_14, ex_73_17, if_true, if_false, and_self, Option.toList_some, Option.toList_none, List.singleton_append, List.cons_append, List.nil_append, List.append_nil, nI_1, nt_e, Int32.le_refl, rsort_ok h, q, step_ok h (show ¬ csort (tk n f i) = 3 by omega), Bool.true_eq_false, Bool.false_eq_true, ↓reduceIte]
    exact hfin
  · have q2 : ¬ nI (csort (tk n f i)) = nI s := fun e => q ((nI_eqI (by omega) (by omega)).mp e)
    have F := fail_f (k := 1) h (by decide) (by decide)
    have hfin := hb q _ ((RdO.rf u).fi (Or.inr rfl)) F
    simp (disch := first | exact am_nl_i _ | exact am_nl_r _ | exact am_nl_0 | (refine vi_nI ?_ ?_ <;> omega) | assumption | omega | exact b2i_01 _ | exact Or.inl rfl | exact Or.inr rfl | (unfold vi; decide)) only [ex_73_0, ex_73_1, ex_73_4, ex_73_5, ex_73_8, ex_73_9, ex_73_10, ex_73_13, ex_73_14, ex_73_17, if_true, if_false, and_self, Option.toList_some, Option.toList_none, List.singleton_append, List.cons_append, List.nil_append, List.append_nil, nI_1, nt_e, Int32.le_refl, rsort_ok h, q2, show (1 : Int32) = nI 1 from rfl, fail_ok h, stepX F, Bool.true_eq_false, Bool.false_eq_true, ↓reduceIte]
    exact hfin
theorem takeX {x : Int32} (h : FltC u e) : Cl (d + 1) 73 [.ref 6, .int x] (am_emb u) post ↔ post none (am_emb u) := by
  obtain ⟨i, hi, h1⟩ := h.2.2.2
  rw [op_73]
  by_cases q : AI u 3 i = x
  · simp (disch := first | exact am_nl_i _ | exact am_nl_r _ | exact am_nl_0 | (refine vi_nI ?_ ?_ <;> omega) | assumption | omega | exact b2i_01 _ | exact Or.inl rfl | exact Or.inr rfl | (unfold vi; decide)) only [ex_73_0, ex_73_1, ex_73_4, ex_73_5, ex_73_8, ex_73_9, ex_73_10, ex_73_13, ex_73_14, ex_73_17, if_true, if_false, and_self, Option.toList_some, Option.toList_none, List.singleton_append, List.cons_append, List.nil_append, List.append_nil, nI_1, nt_e, Int32.le_refl, rsort_g h1 hi, q, stepX h, Bool.true_eq_false, Bool.false_eq_true, ↓reduceIte]
  · simp (disch := first | exact am_nl_i _ | exact am_nl_r _ | exact am_nl_0 | (refine vi_nI ?_ ?_ <;> omega) | assumption | omega | exact b2i_01 _ | exact Or.inl rfl | exact Or.inr rfl | (unfold vi; decide)) only [ex_73_0, ex_73_1, ex_73_4, ex_73_5, ex_73_8, ex_73_9, ex_73_10, ex_73_13, ex_73_14, ex_73_17, if_true, if_false, and_self, Option.toList_some, Option.toList_none, List.singleton_append, List.cons_append, List.nil_append, List.append_nil, nI_1, nt_e, Int32.le_refl, rsort_g h1 hi, q, stepX h, failX h, Bool.true_eq_false, Bool.false_eq_true, ↓reduceIte]
theorem endsC_ok (h : RdC u n f m i) (hb : ¬ csort (tk n f i) = 59 → ∀ u', RdO u u' → FltC u' (fl 1 (tk n f i)) → post (some (.int 0)) (am_emb u')) (hg : csort (tk n f i) = 59 → ∀ u', RdO u u' → RdC u' n f m (i + 1) → post (some (.int 1)) (am_emb u')) : Cl (d + 2) 79 [.ref 6] (am_emb u) post := by
  rw [op_79]
  simp (disch := first | exact am_nl_i _ | exact am_nl_r _ | exact am_nl_0 | assumption | omega | (refine vi_nI ?_ ?_ <;> omega) | exact b2i_01 _ | exact Or.inl rfl | exact Or.inr rfl | (unfold vi; decide)) only [ex_79_0, ex_79_1, ex_79_6, ex_79_7, ex_79_10, ex_79_13, ex_79_14, ex_79_17, ex_79_18, if_true, if_false, and_self, Option.toList_some, Option.toList_none, List.singleton_append, List.cons_append, List.nil_append, List.append_nil, nI_1, nt_e, Int32.le_refl, show (59 : Int32) = nI 59 from rfl]
  rw [ex_79_3]
  refine take_ok h (by decide) (by decide) (fun q u1 o1 F => ?_) (fun q u1 o1 R => ?_)
  · have z := flt_ne F
    simp (disch := first | exact am_nl_i _ | exact am_nl_r _ | exact am_nl_0 | (refine vi_nI ?_ ?_ <;> omega) | assumption | omega | exact b2i_01 _ | exact Or.inl rfl | exact Or.inr rfl | (unfold vi; decide)) only [ex_79_0, ex_79_1, ex_79_3, ex_79_6, ex_79_7, ex_79_10, ex_79_13, ex_79_14, ex_79_17, ex_79_18, if_true, if_false, and_self, Option.toList_some, Option.toList_none, List.singleton_append, List.cons_append, List.nil_append, List.append_nil, nI_1, nt_e, Int32.le_refl, z, Bool.true_eq_false, Bool.false_eq_true, ↓reduceIte]
    exact hb q u1 o1 F
  · simp (disch := first | exact am_nl_i _ | exact am_nl_r _ | exact am_nl_0 | (refine vi_nI ?_ ?_ <;> omega) | assumption | omega | exact b2i_01 _ | exact Or.inl rfl | exact Or.inr rfl | (unfold vi; decide)) only [ex_79_0, ex_79_1, ex_79_3, ex_79_6, ex_79_7, ex_79_10, ex_79_13, ex_79_14, ex_79_17, ex_79_18, if_true, if_false, and_self, Option.toList_some, Option.toList_none, List.singleton_append, List.cons_append, List.nil_append, List.append_nil, nI_1, nt_e, Int32.le_refl, R.2.2.1, Bool.true_eq_false, Bool.false_eq_true, ↓reduceIte]
    exact hg q u1 o1 R
theorem endsX (h : FltC u e) : Cl (d + 2) 79 [.ref 6] (am_emb u) post ↔ post (some (.int 0)) (am_emb u) := by
  have z := flt_ne h
  rw [op_79]
  simp (disch := first | exact am_nl_i _ | exact am_nl_r _ | exact am_nl_0 | (refine vi_nI ?_ ?_ <;> omega) | assumption | omega | exact b2i_01 _ | exact Or.inl rfl | exact Or.inr rfl | (unfold vi; decide)) only [ex_79_0, ex_79_1, ex_79_3, ex_79_6, ex_79_7, ex_79_10, ex_79_13, ex_79_14, ex_79_17, ex_79_18, if_true, if_false, and_self, Option.toList_some, Option.toList_none, List.singleton_append, List.cons_append, List.nil_append, List.append_nil, nI_1, nt_e, Int32.le_refl, takeX h, z, Bool.true_eq_false, Bool.false_eq_true, ↓reduceIte]
theorem toI_ofNat (a : Nat) : (Int64.ofNat a).toInt32 = nI a := by
  apply Int32.toBitVec_inj.mp
  rw [Int64.toBitVec_toInt32, Int64.toBitVec_ofNat']
  show (BitVec.ofNat 64 a).signExtend 32 = BitVec.ofNat 32 a
  apply BitVec.eq_of_getLsbD_eq
  intro j hj
  rw [BitVec.getLsbD_signExtend, BitVec.getLsbD_ofNat, BitVec.getLsbD_ofNat]
  have h1 : j < 64 := by omega
  simp only [h1, hj, if_true, decide_true, Bool.true_and]
theorem takeNum_ok {lo hi : Nat} (h : RdC u n f m i) (hlo : lo < 10000) (hhi : hi < 10000) (hb1 : ¬ csort (tk n f i) = 2 → ∀ x u', RdO u u' → FltC u' (fl 1 (tk n f i)) → post (some (.int x)) (am_emb u')) (hb2 : csort (tk n f i) = 2 → ¬ (lo ≤ bas 10 (tk n f i).2.2 ∧ bas 10 (tk n f i).2.2 ≤ hi) → ∀ x u', RdO u u' → FltC u' (fl 4 (tk n f i)) → post (some (.int x)) (am_emb u'))
    (hg : csort (tk n f i) = 2 → lo ≤ bas 10 (tk n f i).2.2 → bas 10 (tk n f i).2.2 ≤ hi → ∀ u', RdO u u' → RdC u' n f m (i + 1) → post (some (.int (nI (bas 10 (tk n f i).2.2)))) (am_emb u')) : Cl (d + 1) 74 [.ref 6, .int (nI lo), .int (nI hi)] (am_emb u) post := by
  have ht := tk_ok (n := n) (f := f) i
  have hl := cs_lt ht
  have hsrt : ∀ k, k < 1000 → (nI (csort (tk n f i)) = nI k ↔ csort (tk n f i) = k) := fun k hk => nI_eqI (by omega) (by omega)
  rw [op_74]
  by_cases q : csort (tk n f i) = 2
  · have h2 := (cs_2 ht).mpr q
    have hv := (h.2.2.2.2.2.2.1 i h.2.1).2.2.2 h2
    have hlt := ht.2.1 h2
    generalize bas 10 (tk n f i).2.2 = b at *
    have hv2 : (AJ u 5 i).toInt32 = nI b := by rw [hv]; exact toI_ofNat b
    have q2 : nI (csort (tk n f i)) = 2 := by rw [q]; rfl
    by_cases q3 : lo ≤ b
    · have q3' : ¬ b < lo := by omega
      by_cases q4 : b ≤ hi
      · have hfin := hg q q3 q4 _ ((RdO.rf u).fi (Or.inl rfl)) (step_r h (by omega))
        simp (disch := first | exact am_nl_i _ | exact am_nl_r _ | exact am_nl_0 | (refine vi_nI ?_ ?_ <;> omega) | assumption | omega | exact b2i_01 _ | exact Or.inl rfl | exact Or.inr rfl | (unfold vi; decide)) only [ex_74_0, ex_74_1, ex_74_4, ex_74_5, ex_74_6, ex_74_7, ex_74_10, ex_74_11, ex_74_14, ex_74_15, ex_74_16, ex_74_19, ex_74_22, ex_74_23, ex_74_24, ex_74_27, ex_74_28, ex_74_29, ex_74_32, ex_74_33, ex_74_34, ex_74_37, ex_74_38, ex_74_41, ex_74_42, if_true, if_false, and_self, Option.toList_some, Option.toList_none, List.singleton_append, List.cons_append, List.nil_append, List.append_nil, nI_1, nt_e, Int32.le_refl, rvalue_g h.1 h.im, rsort_ok h, q2, hv2, nI_leI, nI_ltI, q3, q3', q4, step_ok h (show ¬ csort (tk n f i) = 3 by omega), Bool.true_eq_false, Bool.false_eq_true, ↓reduceIte]
        exact hfin
      · have q4' : hi < b := by omega
        have F := fail_f (k := 4) h (by decide) (by decide)
        have hfin := hb2 q (fun z => q4 z.2) (nI b) _ ((RdO.rf u).fi (Or.inr rfl)) F
        simp (disch := first | exact am_nl_i _ | exact am_nl_r _ | exact am_nl_0 | (refine vi_nI ?_ ?_ <;> omega) | assumption | omega | exact b2i_01 _ | exact Or.inl rfl | exact Or.inr rfl | (unfold vi; decide)) only [ex_74_0, ex_74_1, ex_74_4, ex_74_5, ex_74_6, ex_74_7, ex_74_10, ex_74_11, ex_74_14, ex_74_15, ex_74_16, ex_74_19, ex_74_22, ex_74_23, ex_74_24, ex_74_27, ex_74_28, ex_74_29, ex_74_32, ex_74_33, ex_74_34, ex_74_37, ex_74_38, ex_74_41, ex_74_42, if_true, if_false, and_self, Option.toList_some, Option.toList_none, List.singleton_append, List.cons_append, List.nil_append, List.append_nil, nI_1, nt_e, Int32.le_refl, rvalue_g h.1 h.im, rsort_ok h, q2, hv2, nI_leI, nI_ltI, q3, q3', q4, show (4 : Int32) = nI 4 from rfl, fail_ok h, stepX F, Bool.true_eq_false, Bool.false_eq_true, ↓reduceIte]
        exact hfin
    · have q3' : b < lo := by omega
      have F := fail_f (k := 4) h (by decide) (by decide)
      have hfin := hb2 q (fun z => q3 z.1) (nI b) _ ((RdO.rf u).fi (Or.inr rfl)) F
      simp (disch := first | exact am_nl_i _ | exact am_nl_r _ | exact am_nl_0 | (refine vi_nI ?_ ?_ <;> omega) | assumption | omega | exact b2i_01 _ | exact Or.inl rfl | exact Or.inr rfl | (unfold vi; decide)) only [ex_74_0, ex_74_1, ex_74_4, ex_74_5, ex_74_6, ex_74_7, ex_74_10, ex_74_11, ex_74_14, ex_74_15, ex_74_16, ex_74_19, ex_74_22, ex_74_23, ex_74_24, ex_74_27, ex_74_28, ex_74_29, ex_74_32, ex_74_33, ex_74_34, ex_74_37, ex_74_38, ex_74_41, ex_74_42, if_true, if_false, and_self, Option.toList_some, Option.toList_none, List.singleton_append, List.cons_append, List.nil_append, List.append_nil, nI_1, nt_e, Int32.le_refl, rvalue_g h.1 h.im, rsort_ok h, q2, hv2, nI_leI, nI_ltI, q3, q3', show (4 : Int32) = nI 4 from rfl, fail_ok h, stepX F, Bool.true_eq_false, Bool.false_eq_true, ↓reduceIte]
      exact hfin
  · have q2 : ¬ nI (csort (tk n f i)) = 2 := fun z => q ((hsrt 2 (by decide)).mp z)
    have F := fail_f (k := 1) h (by decide) (by decide)
    have hfin := hb1 q ((AJ u 5 i).toInt32) _ ((RdO.rf u).fi (Or.inr rfl)) F
    simp (disch := first | exact am_nl_i _ | exact am_nl_r _ | exact am_nl_0 | (refine vi_nI ?_ ?_ <;> omega) | assumption | omega | exact b2i_01 _ | exact Or.inl rfl | exact Or.inr rfl | (unfold vi; decide)) only [ex_74_0, ex_74_1, ex_74_4, ex_74_5, ex_74_6, ex_74_7, ex_74_10, ex_74_11, ex_74_14, ex_74_15, ex_74_16, ex_74_19, ex_74_22, ex_74_23, ex_74_24, ex_74_27, ex_74_28, ex_74_29, ex_74_32, ex_74_33, ex_74_34, ex_74_37, ex_74_38, ex_74_41, ex_74_42, if_true, if_false, and_self, Option.toList_some, Option.toList_none, List.singleton_append, List.cons_append, List.nil_append, List.append_nil, nI_1, nt_e, Int32.le_refl, rvalue_g h.1 h.im, rsort_ok h, q2, show (1 : Int32) = nI 1 from rfl, fail_ok h, stepX F, Bool.true_eq_false, Bool.false_eq_true, ↓reduceIte]
    exact hfin
theorem takeNumX {x y : Int32} (h : FltC u e) (hp : ∀ z, post (some (.int z)) (am_emb u)) : Cl (d + 1) 74 [.ref 6, .int x, .int y] (am_emb u) post := by
  obtain ⟨i, hi, h1⟩ := h.2.2.2
  have hfin := hp ((AJ u 5 i).toInt32)
  rw [op_74]
  by_cases q : AI u 3 i = 2
  · by_cases q1 : (AJ u 5 i).toInt32 < x
    · simp (disch := first | exact am_nl_i _ | exact am_nl_r _ | exact am_nl_0 | (refine vi_nI ?_ ?_ <;> omega) | assumption | omega | exact b2i_01 _ | exact Or.inl rfl | exact Or.inr rfl | (unfold vi; decide)) only [ex_74_0, ex_74_1, ex_74_4, ex_74_5, ex_74_6, ex_74_7, ex_74_10, ex_74_11, ex_74_14, ex_74_15, ex_74_16, ex_74_19, ex_74_22, ex_74_23, ex_74_24, ex_74_27, ex_74_28, ex_74_29, ex_74_32, ex_74_33, ex_74_34, ex_74_37, ex_74_38, ex_74_41, ex_74_42, if_true, if_false, and_self, Option.toList_some, Option.toList_none, List.singleton_append, List.cons_append, List.nil_append, List.append_nil, nI_1, nt_e, Int32.le_refl, rvalue_g h1 hi, rsort_g h1 hi, q, q1, stepX h, failX h, Bool.true_eq_false, Bool.false_eq_true, ↓reduceIte]
      exact hfin
    · by_cases q2 : (AJ u 5 i).toInt32 ≤ y
      · simp (disch := first | exact am_nl_i _ | exact am_nl_r _ | exact am_nl_0 | (refine vi_nI ?_ ?_ <;> omega) | assumption | omega | exact b2i_01 _ | exact Or.inl rfl | exact Or.inr rfl | (unfold vi; decide)) only [ex_74_0, ex_74_1, ex_74_4, ex_74_5, ex_74_6, ex_74_7, ex_74_10, ex_74_11, ex_74_14, ex_74_15, ex_74_16, ex_74_19, ex_74_22, ex_74_23, ex_74_24, ex_74_27, ex_74_28, ex_74_29, ex_74_32, ex_74_33, ex_74_34, ex_74_37, ex_74_38, ex_74_41, ex_74_42, if_true, if_false, and_self, Option.toList_some, Option.toList_none, List.singleton_append, List.cons_append, List.nil_append, List.append_nil, nI_1, nt_e, Int32.le_refl, rvalue_g h1 hi, rsort_g h1 hi, q, q1, q2, stepX h, failX h, Bool.true_eq_false, Bool.false_eq_true, ↓reduceIte]
        exact hfin
      · simp (disch := first | exact am_nl_i _ | exact am_nl_r _ | exact am_nl_0 | (refine vi_nI ?_ ?_ <;> omega) | assumption | omega | exact b2i_01 _ | exact Or.inl rfl | exact Or.inr rfl | (unfold vi; decide)) only [ex_74_0, ex_74_1, ex_74_4, ex_74_5, ex_74_6, ex_74_7, ex_74_10, ex_74_11, ex_74_14, ex_74_15, ex_74_16, ex_74_19, ex_74_22, ex_74_23, ex_74_24, ex_74_27, ex_74_28, ex_74_29, ex_74_32, ex_74_33, ex_74_34, ex_74_37, ex_74_38, ex_74_41, ex_74_42, if_true, if_false, and_self, Option.toList_some, Option.toList_none, List.singleton_append, List.cons_append, List.nil_append, List.append_nil, nI_1, nt_e, Int32.le_refl, rvalue_g h1 hi, rsort_g h1 hi, q, q1, q2, stepX h, failX h, Bool.true_eq_false, Bool.false_eq_true, ↓reduceIte]
        exact hfin
  · simp (disch := first | exact am_nl_i _ | exact am_nl_r _ | exact am_nl_0 | (refine vi_nI ?_ ?_ <;> omega) | assumption | omega | exact b2i_01 _ | exact Or.inl rfl | exact Or.inr rfl | (unfold vi; decide)) only [ex_74_0, ex_74_1, ex_74_4, ex_74_5, ex_74_6, ex_74_7, ex_74_10, ex_74_11, ex_74_14, ex_74_15, ex_74_16, ex_74_19, ex_74_22, ex_74_23, ex_74_24, ex_74_27, ex_74_28, ex_74_29, ex_74_32, ex_74_33, ex_74_34, ex_74_37, ex_74_38, ex_74_41, ex_74_42, if_true, if_false, and_self, Option.toList_some, Option.toList_none, List.singleton_append, List.cons_append, List.nil_append, List.append_nil, nI_1, nt_e, Int32.le_refl, rvalue_g h1 hi, rsort_g h1 hi, q, stepX h, failX h, Bool.true_eq_false, Bool.false_eq_true, ↓reduceIte]
    exact hfin
end ReadC
