/-! THE CLASS'S TAPE: split -/
def csort (t : Tok) : Nat := if t.1 = 0 then 3 else if t.1 = 1 then sortW t.2.2 else if t.1 = 2 then 2 else if t.1 = 3 then t.2.2.headD 0 else 4
/-- the class's token i -/
def TokC (u : am_U) (i : Nat) (t : Tok) : Prop := AI u 3 i = nI (csort t) ∧ AI u 4 i = nI t.2.1 ∧ (t.1 = 1 → AJ u 5 i = Int64.ofNat (bas 32 t.2.2)) ∧ (t.1 = 2 → AJ u 5 i = Int64.ofNat (bas 10 t.2.2))
theorem updL_s {f : Nat → Int64} {k : Nat} {x : Int64} : vp_updL f k x k = x := if_pos rfl
theorem updL_n {f : Nat → Int64} {k j : Nat} {x : Int64} (h : ¬ j = k) : vp_updL f k x j = f j := if_neg h
theorem TokC_new {u u' : am_U} {k : Nat} {t : Tok} {s p : Int32} {w : Int64} (h3 : AI u' 3 = upd (AI u 3) k s) (h4 : AI u' 4 = upd (AI u 4) k p) (h5 : AJ u' 5 = vp_updL (AJ u 5) k w) (e3 : s = nI (csort t)) (e4 : p = nI t.2.1) (e5 : t.1 = 1 → w = Int64.ofNat (bas 32 t.2.2)) (e6 : t.1 = 2 → w = Int64.ofNat (bas 10 t.2.2)) : TokC u' k t := by
  unfold TokC
  rw [h3, h4, h5, upd_s, upd_s, updL_s]
  exact ⟨e3, e4, e5, e6⟩
theorem TokC_old {u u' : am_U} {k i : Nat} {t : Tok} {s p : Int32} {w : Int64} (h3 : AI u' 3 = upd (AI u 3) k s) (h4 : AI u' 4 = upd (AI u 4) k p) (h5 : AJ u' 5 = vp_updL (AJ u 5) k w) (hi : i < k) (h : TokC u i t) : TokC u' i t := by
  unfold TokC
  rw [h3, h4, h5, upd_n (by omega), upd_n (by omega), updL_n (by omega)]
  exact h
theorem wordAt_get {f : Nat → Nat} {d q l j : Nat} (h : j < (wordAt f d q l).length) : (wordAt f d q l)[j] = f (q + j) - d := by
  simp [wordAt]
section Split
variable {d n k q : Nat} {u : am_U} {f : Nat → Nat} {post : Option Value → am_M → Prop}
theorem lt8 : ∀ l, l < 1001 → (nI l ≤ (8 : Int32) ↔ l ≤ 8) ∧ ((8 : Int32) < nI l ↔ 8 < l) ∧ (nI l ≤ (4 : Int32) ↔ l ≤ 4) ∧ ((4 : Int32) < nI l ↔ 4 < l) := by decide +kernel
theorem addWord_ok (hT : TpC u n f) (hk : FI u 1 5 = nI k) (hk2 : k < 1001) (hq : q < n) (hL : isL (f q) = true)
    (h : ∀ u', Only tkP u u' → FI u' 1 5 = nI (k + 1) → FI u' 1 4 = FI u 1 4 → AI u' 3 = upd (AI u 3) k (nI (csort (tokQ n f q).1)) → AI u' 4 = upd (AI u 4) k (nI q) → AJ u' 5 = vp_updL (AJ u 5) k (Int64.ofNat (bas 32 (tokQ n f q).1.2.2)) → post (some (.int (nI (tokQ n f q).2))) (am_emb u')) : Cl (d + 6) 112 [.ref 1, .int (nI q)] (am_emb u) post := by
  have hT' := hT
  obtain ⟨t1, t2, t3, t4⟩ := hT
  have hl1 := runF_le (p := isL) (f := f) (k := n - q) (s := q)
  have hin : ∀ i, i < runF isL f (n - q) q → isL (f (q + i)) = true := fun i hi => runF_in hi
  have hout : q + runF isL f (n - q) q < n → isL (f (q + runF isL f (n - q) q)) = false := fun hh => runF_out (by omega)
  have hp := runF_pos (f := f) (k := n - q) (by omega) hL
  have et : tokQ n f q = ((if 8 < runF isL f (n - q) q then 4 else 1, q, wordAt f 96 q (runF isL f (n - q) q)), q + runF isL f (n - q) q) := by
    unfold tokQ
    rw [if_neg (by omega), if_pos hL]
  rw [et] at h
  generalize runF isL f (n - q) q = l at *
  have hlet : ∀ i, i < l → 97 ≤ f (q + i) ∧ f (q + i) ≤ 122 := fun i hi => of_decide_eq_true (hin i hi)
  rw [op_112]
  have tail : ∀ (j5 : Option Value), Ex (d + 6) 112 47 [some (.ref 1), some (.int (nI q)), some (.int (nI (q + l))), some (.long (Int64.ofNat (bas 32 (wordAt f 96 q l)))), none, j5] [] (am_emb u) post := by
    intro j5
    obtain ⟨a1, a2, _, _⟩ := lt8 l (by omega)
    rw [ex_112_47]
    by_cases e : 8 < l
    · have e2 : ¬ l ≤ 8 := by omega
      rw [if_pos e] at h
      simp (disch := first | exact am_nl_i _ | exact am_nl_r _ | exact am_nl_0 | (refine vi_nI ?_ ?_ <;> omega) | assumption | omega | exact b2i_01 _ | exact Or.inl rfl | exact Or.inr rfl | (unfold vi; decide)) only [ex_112_0, ex_112_1, ex_112_2, ex_112_3, ex_112_5, ex_112_6, ex_112_9, ex_112_12, ex_112_13, ex_112_14, ex_112_17, ex_112_20, ex_112_23, ex_112_24, ex_112_27, ex_112_28, ex_112_29, ex_112_30, ex_112_33, ex_112_35, ex_112_36, ex_112_37, ex_112_38, ex_112_39, ex_112_40, ex_112_41, ex_112_44, ex_112_48, ex_112_49, ex_112_50, ex_112_52, ex_112_53, ex_112_55, ex_112_57, ex_112_60, ex_112_61, ex_112_64, ex_112_65, ex_112_66, ex_112_68, ex_112_71, ex_112_72, ex_112_76, ex_112_77, if_true, if_false, and_self, Option.toList_some, Option.toList_none, List.singleton_append, List.cons_append, List.nil_append, List.append_nil, nI_1, nt_e, Int32.le_refl, nI_subl, a1, a2, e, e2, Bool.true_eq_false, Bool.false_eq_true, ↓reduceIte]
      rw [ex_112_73]
      refine tadd_ok (d := d + 5) hk hk2 (fun u1 o1 g1 g2 g3 g4 g5 => ?_)
      simp (disch := first | exact am_nl_i _ | exact am_nl_r _ | exact am_nl_0 | (refine vi_nI ?_ ?_ <;> omega) | assumption | omega | exact b2i_01 _ | exact Or.inl rfl | exact Or.inr rfl | (unfold vi; decide)) only [ex_112_0, ex_112_1, ex_112_2, ex_112_3, ex_112_5, ex_112_6, ex_112_9, ex_112_12, ex_112_13, ex_112_14, ex_112_17, ex_112_20, ex_112_23, ex_112_24, ex_112_27, ex_112_28, ex_112_29, ex_112_30, ex_112_33, ex_112_35, ex_112_36, ex_112_37, ex_112_38, ex_112_39, ex_112_40, ex_112_41, ex_112_44, ex_112_48, ex_112_49, ex_112_50, ex_112_52, ex_112_53, ex_112_55, ex_112_57, ex_112_60, ex_112_61, ex_112_64, ex_112_65, ex_112_66, ex_112_68, ex_112_71, ex_112_72, ex_112_73, ex_112_76, ex_112_77, if_true, if_false, and_self, Option.toList_some, Option.toList_none, List.singleton_append, List.cons_append, List.nil_append, List.append_nil, nI_1, nt_e, Int32.le_refl, Bool.true_eq_false, Bool.false_eq_true, ↓reduceIte]
      exact h u1 o1 g1 g2 g3 g4 g5
    · have e2 : l ≤ 8 := by omega
      rw [if_neg e] at h
      have hwl : (wordAt f 96 q l).length = l := by unfold wordAt; rw [List.length_map, List.length_range]
      have hs := sort_ok (d := d) (w := wordAt f 96 q l) (q := q) (post := (fun v m9 => Ex (d + 6) 112 71 [some (.ref 1), some (.int (nI q)), some (.int (nI (q + l))), some (.long (Int64.ofNat (bas 32 (wordAt f 96 q l)))), none, some (.int (nI l))] (v.toList ++ [.ref 1]) m9 post)) hT' (by omega) (by omega) (fun j hj => by
        have hj2 : j < l := by omega
        have := hlet j hj2
        rw [wordAt_get]
        omega) (fun x hx => by
        unfold wordAt at hx
        obtain ⟨j, hj, rfl⟩ := List.mem_map.mp hx
        have := hlet j (List.mem_range.mp hj)
        omega)
      rw [hwl] at hs
      simp (disch := first | exact am_nl_i _ | exact am_nl_r _ | exact am_nl_0 | (refine vi_nI ?_ ?_ <;> omega) | assumption | omega | exact b2i_01 _ | exact Or.inl rfl | exact Or.inr rfl | (unfold vi; decide)) only [ex_112_0, ex_112_1, ex_112_2, ex_112_3, ex_112_5, ex_112_6, ex_112_9, ex_112_12, ex_112_13, ex_112_14, ex_112_17, ex_112_20, ex_112_23, ex_112_24, ex_112_27, ex_112_28, ex_112_29, ex_112_30, ex_112_33, ex_112_35, ex_112_36, ex_112_37, ex_112_38, ex_112_39, ex_112_40, ex_112_41, ex_112_44, ex_112_48, ex_112_49, ex_112_50, ex_112_52, ex_112_53, ex_112_55, ex_112_57, ex_112_60, ex_112_61, ex_112_64, ex_112_65, ex_112_66, ex_112_71, ex_112_72, ex_112_76, ex_112_77, if_true, if_false, and_self, Option.toList_some, Option.toList_none, List.singleton_append, List.cons_append, List.nil_append, List.append_nil, nI_1, nt_e, Int32.le_refl, nI_subl, a1, a2, e, e2, Bool.true_eq_false, Bool.false_eq_true, ↓reduceIte]
      rw [ex_112_68, hs]
      simp (disch := first | exact am_nl_i _ | exact am_nl_r _ | exact am_nl_0 | (refine vi_nI ?_ ?_ <;> omega) | assumption | omega | exact b2i_01 _ | exact Or.inl rfl | exact Or.inr rfl | (unfold vi; decide)) only [ex_112_0, ex_112_1, ex_112_2, ex_112_3, ex_112_5, ex_112_6, ex_112_9, ex_112_12, ex_112_13, ex_112_14, ex_112_17, ex_112_20, ex_112_23, ex_112_24, ex_112_27, ex_112_28, ex_112_29, ex_112_30, ex_112_33, ex_112_35, ex_112_36, ex_112_37, ex_112_38, ex_112_39, ex_112_40, ex_112_41, ex_112_44, ex_112_48, ex_112_49, ex_112_50, ex_112_52, ex_112_53, ex_112_55, ex_112_57, ex_112_60, ex_112_61, ex_112_64, ex_112_65, ex_112_66, ex_112_68, ex_112_71, ex_112_72, ex_112_76, ex_112_77, if_true, if_false, and_self, Option.toList_some, Option.toList_none, List.singleton_append, List.cons_append, List.nil_append, List.append_nil, nI_1, nt_e, Int32.le_refl, Bool.true_eq_false, Bool.false_eq_true, ↓reduceIte]
      rw [ex_112_73]
      refine tadd_ok (d := d + 5) hk hk2 (fun u1 o1 g1 g2 g3 g4 g5 => ?_)
      simp (disch := first | exact am_nl_i _ | exact am_nl_r _ | exact am_nl_0 | (refine vi_nI ?_ ?_ <;> omega) | assumption | omega | exact b2i_01 _ | exact Or.inl rfl | exact Or.inr rfl | (unfold vi; decide)) only [ex_112_0, ex_112_1, ex_112_2, ex_112_3, ex_112_5, ex_112_6, ex_112_9, ex_112_12, ex_112_13, ex_112_14, ex_112_17, ex_112_20, ex_112_23, ex_112_24, ex_112_27, ex_112_28, ex_112_29, ex_112_30, ex_112_33, ex_112_35, ex_112_36, ex_112_37, ex_112_38, ex_112_39, ex_112_40, ex_112_41, ex_112_44, ex_112_48, ex_112_49, ex_112_50, ex_112_52, ex_112_53, ex_112_55, ex_112_57, ex_112_60, ex_112_61, ex_112_64, ex_112_65, ex_112_66, ex_112_68, ex_112_71, ex_112_72, ex_112_73, ex_112_76, ex_112_77, if_true, if_false, and_self, Option.toList_some, Option.toList_none, List.singleton_append, List.cons_append, List.nil_append, List.append_nil, nI_1, nt_e, Int32.le_refl, Bool.true_eq_false, Bool.false_eq_true, ↓reduceIte]
      exact h u1 o1 g1 g2 g3 g4 g5
  have loop : ∀ (kz j : Nat) (j5 : Option Value), j + kz = l → Ex (d + 6) 112 4 [some (.ref 1), some (.int (nI q)), some (.int (nI (q + j))), some (.long (Int64.ofNat (bas 32 (wordAt f 96 q j)))), none, j5] [] (am_emb u) post := by
    intro kz
    induction kz with
    | zero =>
      intro j j5 hj
      obtain rfl : j = l := by omega
      rw [ex_112_4]
      by_cases e : q + j < n
      · have e2 : ¬ n ≤ q + j := by omega
        have e3 := hout e
        have e4 : f (q + j) < 127 := by have := t4 _ e; omega
        simp (disch := first | exact am_nl_i _ | exact am_nl_r _ | exact am_nl_0 | (refine vi_nI ?_ ?_ <;> omega) | assumption | omega | exact b2i_01 _ | exact Or.inl rfl | exact Or.inr rfl | (unfold vi; decide)) only [ex_112_0, ex_112_1, ex_112_2, ex_112_3, ex_112_5, ex_112_6, ex_112_9, ex_112_12, ex_112_13, ex_112_14, ex_112_17, ex_112_20, ex_112_23, ex_112_24, ex_112_27, ex_112_28, ex_112_29, ex_112_30, ex_112_33, ex_112_35, ex_112_36, ex_112_37, ex_112_38, ex_112_39, ex_112_40, ex_112_41, ex_112_44, ex_112_48, ex_112_49, ex_112_50, ex_112_52, ex_112_53, ex_112_55, ex_112_57, ex_112_60, ex_112_61, ex_112_64, ex_112_65, ex_112_66, ex_112_68, ex_112_71, ex_112_72, ex_112_73, ex_112_76, ex_112_77, if_true, if_false, and_self, Option.toList_some, Option.toList_none, List.singleton_append, List.cons_append, List.nil_append, List.append_nil, nI_1, nt_e, Int32.le_refl, t1, nI_leI, e, e2, signAt_ok hT', isLetter_ok e4, e3, b2i_0, b2i_f, Bool.true_eq_false, Bool.false_eq_true, ↓reduceIte]
        exact tail j5
      · have e2 : n ≤ q + j := by omega
        simp (disch := first | exact am_nl_i _ | exact am_nl_r _ | exact am_nl_0 | (refine vi_nI ?_ ?_ <;> omega) | assumption | omega | exact b2i_01 _ | exact Or.inl rfl | exact Or.inr rfl | (unfold vi; decide)) only [ex_112_0, ex_112_1, ex_112_2, ex_112_3, ex_112_5, ex_112_6, ex_112_9, ex_112_12, ex_112_13, ex_112_14, ex_112_17, ex_112_20, ex_112_23, ex_112_24, ex_112_27, ex_112_28, ex_112_29, ex_112_30, ex_112_33, ex_112_35, ex_112_36, ex_112_37, ex_112_38, ex_112_39, ex_112_40, ex_112_41, ex_112_44, ex_112_48, ex_112_49, ex_112_50, ex_112_52, ex_112_53, ex_112_55, ex_112_57, ex_112_60, ex_112_61, ex_112_64, ex_112_65, ex_112_66, ex_112_68, ex_112_71, ex_112_72, ex_112_73, ex_112_76, ex_112_77, if_true, if_false, and_self, Option.toList_some, Option.toList_none, List.singleton_append, List.cons_append, List.nil_append, List.append_nil, nI_1, nt_e, Int32.le_refl, t1, nI_leI, e, e2, Bool.true_eq_false, Bool.false_eq_true, ↓reduceIte]
        exact tail j5
    | succ kz ih =>
      intro j j5 hj
      have hj2 : j < l := by omega
      have e : q + j < n := by omega
      have e2 : ¬ n ≤ q + j := by omega
      have e3 := hin j hj2
      have e5 := hlet j hj2
      have e4 : f (q + j) < 127 := by omega
      have e6 := l26 (f (q + j)) e4 e5.1
      have ih := ih (j + 1) j5 (by omega)
      rw [wordAt_s, bas_s, Int64.ofNat_add, Int64.ofNat_mul] at ih
      rw [ex_112_4]
      simp (disch := first | exact am_nl_i _ | exact am_nl_r _ | exact am_nl_0 | (refine vi_nI ?_ ?_ <;> omega) | assumption | omega | exact b2i_01 _ | exact Or.inl rfl | exact Or.inr rfl | (unfold vi; decide)) only [ex_112_0, ex_112_1, ex_112_2, ex_112_3, ex_112_5, ex_112_6, ex_112_9, ex_112_12, ex_112_13, ex_112_14, ex_112_17, ex_112_20, ex_112_23, ex_112_24, ex_112_27, ex_112_28, ex_112_29, ex_112_30, ex_112_33, ex_112_35, ex_112_36, ex_112_37, ex_112_38, ex_112_39, ex_112_40, ex_112_41, ex_112_44, ex_112_48, ex_112_49, ex_112_50, ex_112_52, ex_112_53, ex_112_55, ex_112_57, ex_112_60, ex_112_61, ex_112_64, ex_112_65, ex_112_66, ex_112_68, ex_112_71, ex_112_72, ex_112_73, ex_112_76, ex_112_77, if_true, if_false, and_self, Option.toList_some, Option.toList_none, List.singleton_append, List.cons_append, List.nil_append, List.append_nil, nI_1, nt_e, Int32.le_refl, t1, nI_leI, e, e2, signAt_ok hT', isLetter_ok e4, e3, b2i_0, b2i_t, show ((1 : Int32) = (0 : Int32)) = False from eq_false (by decide), e6, Nat.add_assoc, Bool.true_eq_false, Bool.false_eq_true, ↓reduceIte]
      exact ih
  simp (disch := first | exact am_nl_i _ | exact am_nl_r _ | exact am_nl_0 | assumption | omega | (refine vi_nI ?_ ?_ <;> omega) | exact b2i_01 _ | exact Or.inl rfl | exact Or.inr rfl | (unfold vi; decide)) only [ex_112_0, ex_112_1, ex_112_2, ex_112_3, ex_112_5, ex_112_6, ex_112_9, ex_112_12, ex_112_13, ex_112_14, ex_112_17, ex_112_20, ex_112_23, ex_112_24, ex_112_27, ex_112_28, ex_112_29, ex_112_30, ex_112_33, ex_112_35, ex_112_36, ex_112_37, ex_112_38, ex_112_39, ex_112_40, ex_112_41, ex_112_44, ex_112_47, ex_112_48, ex_112_49, ex_112_50, ex_112_52, ex_112_53, ex_112_55, ex_112_57, ex_112_60, ex_112_61, ex_112_64, ex_112_65, ex_112_66, ex_112_68, ex_112_71, ex_112_72, ex_112_73, ex_112_76, ex_112_77, if_true, if_false, and_self, Option.toList_some, Option.toList_none, List.singleton_append, List.cons_append, List.nil_append, List.append_nil, nI_1, nt_e, Int32.le_refl]
  exact loop l 0 none (by omega)
theorem addNumber_ok (hT : TpC u n f) (hk : FI u 1 5 = nI k) (hk2 : k < 1001) (hq : q < n) (hL : isD (f q) = true)
    (h : ∀ u', Only tkP u u' → FI u' 1 5 = nI (k + 1) → FI u' 1 4 = FI u 1 4 → AI u' 3 = upd (AI u 3) k (nI (csort (tokQ n f q).1)) → AI u' 4 = upd (AI u 4) k (nI q) → AJ u' 5 = vp_updL (AJ u 5) k (Int64.ofNat (bas 10 (tokQ n f q).1.2.2)) → post (some (.int (nI (tokQ n f q).2))) (am_emb u')) : Cl (d + 6) 113 [.ref 1, .int (nI q)] (am_emb u) post := by
  have hT' := hT
  obtain ⟨t1, t2, t3, t4⟩ := hT
  have hnl : ¬ isL (f q) = true := fun h => by
    unfold isL at h
    unfold isD at hL
    have := of_decide_eq_true h
    have := of_decide_eq_true hL
    omega
  have hl1 := runF_le (p := isD) (f := f) (k := n - q) (s := q)
  have hin : ∀ i, i < runF isD f (n - q) q → isD (f (q + i)) = true := fun i hi => runF_in hi
  have hout : q + runF isD f (n - q) q < n → isD (f (q + runF isD f (n - q) q)) = false := fun hh => runF_out (by omega)
  have et : tokQ n f q = ((if 4 < runF isD f (n - q) q then 4 else 2, q, wordAt f 48 q (runF isD f (n - q) q)), q + runF isD f (n - q) q) := by
    unfold tokQ
    rw [if_neg (by omega), if_neg hnl, if_pos hL]
  rw [et] at h
  generalize runF isD f (n - q) q = l at *
  have hlet : ∀ i, i < l → 48 ≤ f (q + i) ∧ f (q + i) ≤ 57 := fun i hi => of_decide_eq_true (hin i hi)
  rw [op_113]
  have tail : Ex (d + 6) 113 45 [some (.ref 1), some (.int (nI q)), some (.int (nI (q + l))), some (.long (Int64.ofNat (bas 10 (wordAt f 48 q l)))), none] [] (am_emb u) post := by
    obtain ⟨_, _, a1, a2⟩ := lt8 l (by omega)
    rw [ex_113_45]
    by_cases e : 4 < l
    · have e2 : ¬ l ≤ 4 := by omega
      rw [if_pos e] at h
      simp (disch := first | exact am_nl_i _ | exact am_nl_r _ | exact am_nl_0 | (refine vi_nI ?_ ?_ <;> omega) | assumption | omega | exact b2i_01 _ | exact Or.inl rfl | exact Or.inr rfl | (unfold vi; decide)) only [ex_113_0, ex_113_1, ex_113_2, ex_113_3, ex_113_5, ex_113_6, ex_113_9, ex_113_12, ex_113_13, ex_113_14, ex_113_17, ex_113_20, ex_113_23, ex_113_24, ex_113_27, ex_113_28, ex_113_29, ex_113_30, ex_113_33, ex_113_35, ex_113_36, ex_113_37, ex_113_38, ex_113_39, ex_113_42, ex_113_46, ex_113_47, ex_113_48, ex_113_49, ex_113_50, ex_113_53, ex_113_54, ex_113_57, ex_113_58, ex_113_59, ex_113_63, ex_113_64, if_true, if_false, and_self, Option.toList_some, Option.toList_none, List.singleton_append, List.cons_append, List.nil_append, List.append_nil, nI_1, nt_e, Int32.le_refl, nI_subl, a1, a2, e, e2, Bool.true_eq_false, Bool.false_eq_true, ↓reduceIte]
      rw [ex_113_60]
      refine tadd_ok (d := d + 5) hk hk2 (fun u1 o1 g1 g2 g3 g4 g5 => ?_)
      simp (disch := first | exact am_nl_i _ | exact am_nl_r _ | exact am_nl_0 | (refine vi_nI ?_ ?_ <;> omega) | assumption | omega | exact b2i_01 _ | exact Or.inl rfl | exact Or.inr rfl | (unfold vi; decide)) only [ex_113_0, ex_113_1, ex_113_2, ex_113_3, ex_113_5, ex_113_6, ex_113_9, ex_113_12, ex_113_13, ex_113_14, ex_113_17, ex_113_20, ex_113_23, ex_113_24, ex_113_27, ex_113_28, ex_113_29, ex_113_30, ex_113_33, ex_113_35, ex_113_36, ex_113_37, ex_113_38, ex_113_39, ex_113_42, ex_113_46, ex_113_47, ex_113_48, ex_113_49, ex_113_50, ex_113_53, ex_113_54, ex_113_57, ex_113_58, ex_113_59, ex_113_60, ex_113_63, ex_113_64, if_true, if_false, and_self, Option.toList_some, Option.toList_none, List.singleton_append, List.cons_append, List.nil_append, List.append_nil, nI_1, nt_e, Int32.le_refl, Bool.true_eq_false, Bool.false_eq_true, ↓reduceIte]
      exact h u1 o1 g1 g2 g3 g4 g5
    · have e2 : l ≤ 4 := by omega
      rw [if_neg e] at h
      simp (disch := first | exact am_nl_i _ | exact am_nl_r _ | exact am_nl_0 | (refine vi_nI ?_ ?_ <;> omega) | assumption | omega | exact b2i_01 _ | exact Or.inl rfl | exact Or.inr rfl | (unfold vi; decide)) only [ex_113_0, ex_113_1, ex_113_2, ex_113_3, ex_113_5, ex_113_6, ex_113_9, ex_113_12, ex_113_13, ex_113_14, ex_113_17, ex_113_20, ex_113_23, ex_113_24, ex_113_27, ex_113_28, ex_113_29, ex_113_30, ex_113_33, ex_113_35, ex_113_36, ex_113_37, ex_113_38, ex_113_39, ex_113_42, ex_113_46, ex_113_47, ex_113_48, ex_113_49, ex_113_50, ex_113_53, ex_113_54, ex_113_57, ex_113_58, ex_113_59, ex_113_63, ex_113_64, if_true, if_false, and_self, Option.toList_some, Option.toList_none, List.singleton_append, List.cons_append, List.nil_append, List.append_nil, nI_1, nt_e, Int32.le_refl, nI_subl, a1, a2, e, e2, Bool.true_eq_false, Bool.false_eq_true, ↓reduceIte]
      rw [ex_113_60]
      refine tadd_ok (d := d + 5) hk hk2 (fun u1 o1 g1 g2 g3 g4 g5 => ?_)
      simp (disch := first | exact am_nl_i _ | exact am_nl_r _ | exact am_nl_0 | (refine vi_nI ?_ ?_ <;> omega) | assumption | omega | exact b2i_01 _ | exact Or.inl rfl | exact Or.inr rfl | (unfold vi; decide)) only [ex_113_0, ex_113_1, ex_113_2, ex_113_3, ex_113_5, ex_113_6, ex_113_9, ex_113_12, ex_113_13, ex_113_14, ex_113_17, ex_113_20, ex_113_23, ex_113_24, ex_113_27, ex_113_28, ex_113_29, ex_113_30, ex_113_33, ex_113_35, ex_113_36, ex_113_37, ex_113_38, ex_113_39, ex_113_42, ex_113_46, ex_113_47, ex_113_48, ex_113_49, ex_113_50, ex_113_53, ex_113_54, ex_113_57, ex_113_58, ex_113_59, ex_113_60, ex_113_63, ex_113_64, if_true, if_false, and_self, Option.toList_some, Option.toList_none, List.singleton_append, List.cons_append, List.nil_append, List.append_nil, nI_1, nt_e, Int32.le_refl, Bool.true_eq_false, Bool.false_eq_true, ↓reduceIte]
      exact h u1 o1 g1 g2 g3 g4 g5
  have loop : ∀ (kz j : Nat), j + kz = l → Ex (d + 6) 113 4 [some (.ref 1), some (.int (nI q)), some (.int (nI (q + j))), some (.long (Int64.ofNat (bas 10 (wordAt f 48 q j)))), none] [] (am_emb u) post := by
    intro kz
    induction kz with
    | zero =>
      intro j hj
      obtain rfl : j = l := by omega
      rw [ex_113_4]
      by_cases e : q + j < n
      · have e2 : ¬ n ≤ q + j := by omega
        have e3 := hout e
        have e4 : f (q + j) < 127 := by have := t4 _ e; omega
        simp (disch := first | exact am_nl_i _ | exact am_nl_r _ | exact am_nl_0 | (refine vi_nI ?_ ?_ <;> omega) | assumption | omega | exact b2i_01 _ | exact Or.inl rfl | exact Or.inr rfl | (unfold vi; decide)) only [ex_113_0, ex_113_1, ex_113_2, ex_113_3, ex_113_5, ex_113_6, ex_113_9, ex_113_12, ex_113_13, ex_113_14, ex_113_17, ex_113_20, ex_113_23, ex_113_24, ex_113_27, ex_113_28, ex_113_29, ex_113_30, ex_113_33, ex_113_35, ex_113_36, ex_113_37, ex_113_38, ex_113_39, ex_113_42, ex_113_46, ex_113_47, ex_113_48, ex_113_49, ex_113_50, ex_113_53, ex_113_54, ex_113_57, ex_113_58, ex_113_59, ex_113_60, ex_113_63, ex_113_64, if_true, if_false, and_self, Option.toList_some, Option.toList_none, List.singleton_append, List.cons_append, List.nil_append, List.append_nil, nI_1, nt_e, Int32.le_refl, t1, nI_leI, e, e2, signAt_ok hT', isDigit_ok e4, e3, b2i_0, b2i_f, Bool.true_eq_false, Bool.false_eq_true, ↓reduceIte]
        exact tail
      · have e2 : n ≤ q + j := by omega
        simp (disch := first | exact am_nl_i _ | exact am_nl_r _ | exact am_nl_0 | (refine vi_nI ?_ ?_ <;> omega) | assumption | omega | exact b2i_01 _ | exact Or.inl rfl | exact Or.inr rfl | (unfold vi; decide)) only [ex_113_0, ex_113_1, ex_113_2, ex_113_3, ex_113_5, ex_113_6, ex_113_9, ex_113_12, ex_113_13, ex_113_14, ex_113_17, ex_113_20, ex_113_23, ex_113_24, ex_113_27, ex_113_28, ex_113_29, ex_113_30, ex_113_33, ex_113_35, ex_113_36, ex_113_37, ex_113_38, ex_113_39, ex_113_42, ex_113_46, ex_113_47, ex_113_48, ex_113_49, ex_113_50, ex_113_53, ex_113_54, ex_113_57, ex_113_58, ex_113_59, ex_113_60, ex_113_63, ex_113_64, if_true, if_false, and_self, Option.toList_some, Option.toList_none, List.singleton_append, List.cons_append, List.nil_append, List.append_nil, nI_1, nt_e, Int32.le_refl, t1, nI_leI, e, e2, Bool.true_eq_false, Bool.false_eq_true, ↓reduceIte]
        exact tail
    | succ kz ih =>
      intro j hj
      have hj2 : j < l := by omega
      have e : q + j < n := by omega
      have e2 : ¬ n ≤ q + j := by omega
      have e3 := hin j hj2
      have e5 := hlet j hj2
      have e4 : f (q + j) < 127 := by omega
      have e6 := d10 (f (q + j)) e4 e5.1
      have ih := ih (j + 1) (by omega)
      rw [wordAt_s, bas_s, Int64.ofNat_add, Int64.ofNat_mul] at ih
      rw [ex_113_4]
      simp (disch := first | exact am_nl_i _ | exact am_nl_r _ | exact am_nl_0 | (refine vi_nI ?_ ?_ <;> omega) | assumption | omega | exact b2i_01 _ | exact Or.inl rfl | exact Or.inr rfl | (unfold vi; decide)) only [ex_113_0, ex_113_1, ex_113_2, ex_113_3, ex_113_5, ex_113_6, ex_113_9, ex_113_12, ex_113_13, ex_113_14, ex_113_17, ex_113_20, ex_113_23, ex_113_24, ex_113_27, ex_113_28, ex_113_29, ex_113_30, ex_113_33, ex_113_35, ex_113_36, ex_113_37, ex_113_38, ex_113_39, ex_113_42, ex_113_46, ex_113_47, ex_113_48, ex_113_49, ex_113_50, ex_113_53, ex_113_54, ex_113_57, ex_113_58, ex_113_59, ex_113_60, ex_113_63, ex_113_64, if_true, if_false, and_self, Option.toList_some, Option.toList_none, List.singleton_append, List.cons_append, List.nil_append, List.append_nil, nI_1, nt_e, Int32.le_refl, t1, nI_leI, e, e2, signAt_ok hT', isDigit_ok e4, e3, b2i_0, b2i_t, show ((1 : Int32) = (0 : Int32)) = False from eq_false (by decide), e6, Nat.add_assoc, Bool.true_eq_false, Bool.false_eq_true, ↓reduceIte]
      exact ih
  simp (disch := first | exact am_nl_i _ | exact am_nl_r _ | exact am_nl_0 | assumption | omega | (refine vi_nI ?_ ?_ <;> omega) | exact b2i_01 _ | exact Or.inl rfl | exact Or.inr rfl | (unfold vi; decide)) only [ex_113_0, ex_113_1, ex_113_2, ex_113_3, ex_113_5, ex_113_6, ex_113_9, ex_113_12, ex_113_13, ex_113_14, ex_113_17, ex_113_20, ex_113_23, ex_113_24, ex_113_27, ex_113_28, ex_113_29, ex_113_30, ex_113_33, ex_113_35, ex_113_36, ex_113_37, ex_113_38, ex_113_39, ex_113_42, ex_113_45, ex_113_46, ex_113_47, ex_113_48, ex_113_49, ex_113_50, ex_113_53, ex_113_54, ex_113_57, ex_113_58, ex_113_59, ex_113_60, ex_113_63, ex_113_64, if_true, if_false, and_self, Option.toList_some, Option.toList_none, List.singleton_append, List.cons_append, List.nil_append, List.append_nil, nI_1, nt_e, Int32.le_refl]
  exact loop l 0 (by omega)
theorem split_ok (hT : TpC u n f) (h : ∀ u' m, EndAt n f m → Only tkP u u' → FI u' 1 4 = 0 → FI u' 1 5 = nI (m + 1) → (∀ i, i ≤ m → TokC u' i (tk n f i)) → post none (am_emb u')) : Cl (d + 7) 106 [.ref 1] (am_emb u) post := by
  have hn := hT.2.2.1
  have loop : ∀ (g at_ k : Nat) (u1 : am_U) (j2 j3 : Option Value), n - at_ ≤ g → at_ ≤ n → k ≤ at_ → TpC u1 n f → Only tkP u u1 → FI u1 1 5 = nI k → (∀ i, i < k → TokC u1 i (tk n f i)) → (∀ i, i < k → ¬ (tk n f i).1 = 0) → skipF n f at_ = skipF n f (posF n f k) → Ex (d + 7) 106 7 [some (.ref 1), some (.int (nI at_)), j2, j3] [] (am_emb u1) post := by
    intro g
    induction g with
    | zero =>
      intro at_ k u1 j2 j3 hg ha hka hT1 o1 f1 f2 f3 f4
      obtain rfl : at_ = n := by omega
      have esk : skipF at_ f at_ = at_ := skip_n (fun h => absurd h (Nat.lt_irrefl _))
      have hend : (tk at_ f k).1 = 0 := tk_c0.mpr (by rw [← f4, esk])
      have htk : tk at_ f k = (0, at_, []) := tk_n (by rw [← f4, esk])
      rw [ex_106_7]
      simp (disch := first | exact am_nl_i _ | exact am_nl_r _ | exact am_nl_0 | (refine vi_nI ?_ ?_ <;> omega) | assumption | omega | exact b2i_01 _ | exact Or.inl rfl | exact Or.inr rfl | (unfold vi; decide)) only [ex_106_0, ex_106_1, ex_106_2, ex_106_5, ex_106_6, ex_106_8, ex_106_9, ex_106_12, ex_106_15, ex_106_16, ex_106_17, ex_106_20, ex_106_21, ex_106_22, ex_106_23, ex_106_24, ex_106_25, ex_106_26, ex_106_29, ex_106_32, ex_106_33, ex_106_34, ex_106_37, ex_106_38, ex_106_41, ex_106_42, ex_106_45, ex_106_48, ex_106_49, ex_106_50, ex_106_53, ex_106_54, ex_106_57, ex_106_58, ex_106_60, ex_106_63, ex_106_64, ex_106_66, ex_106_69, ex_106_70, ex_106_71, ex_106_74, ex_106_77, ex_106_78, ex_106_81, ex_106_82, ex_106_83, ex_106_84, ex_106_87, ex_106_88, ex_106_89, ex_106_90, ex_106_91, ex_106_94, ex_106_95, ex_106_98, ex_106_99, ex_106_100, ex_106_101, ex_106_104, ex_106_108, ex_106_109, ex_106_110, ex_106_113, if_true, if_false, and_self, Option.toList_some, Option.toList_none, List.singleton_append, List.cons_append, List.nil_append, List.append_nil, nI_1, nt_e, Int32.le_refl, hT1.1, nI_leI, Nat.le_refl, Bool.true_eq_false, Bool.false_eq_true, ↓reduceIte]
      rw [ex_106_105]
      refine tadd_ok (d := d + 6) f1 (by omega) (fun u2 o2 g1 g2 g3 g4 g5 => ?_)
      have hfin := h (sFI u2 1 4 0) k ⟨hka, hend, f3⟩ (of_fi (o1.tr o2) (Or.inl rfl)) (by rw [FI_sFI, if_pos ⟨rfl, rfl⟩]) (by rw [FI_sFI, if_neg (by decide)]; exact g1) (fun i hi => by
        show TokC u2 i _
        by_cases e : i = k
        · rw [e, htk]
          exact TokC_new g3 g4 g5 rfl rfl (fun q => absurd q (by show ¬ 0 = 1; decide)) (fun q => absurd q (by show ¬ 0 = 2; decide))
        · exact TokC_old g3 g4 g5 (by omega) (f2 i (by omega)))
      simp (disch := first | exact am_nl_i _ | exact am_nl_r _ | exact am_nl_0 | (refine vi_nI ?_ ?_ <;> omega) | assumption | omega | exact b2i_01 _ | exact Or.inl rfl | exact Or.inr rfl | (unfold vi; decide)) only [ex_106_0, ex_106_1, ex_106_2, ex_106_5, ex_106_6, ex_106_8, ex_106_9, ex_106_12, ex_106_15, ex_106_16, ex_106_17, ex_106_20, ex_106_21, ex_106_22, ex_106_23, ex_106_24, ex_106_25, ex_106_26, ex_106_29, ex_106_32, ex_106_33, ex_106_34, ex_106_37, ex_106_38, ex_106_41, ex_106_42, ex_106_45, ex_106_48, ex_106_49, ex_106_50, ex_106_53, ex_106_54, ex_106_57, ex_106_58, ex_106_60, ex_106_63, ex_106_64, ex_106_66, ex_106_69, ex_106_70, ex_106_71, ex_106_74, ex_106_77, ex_106_78, ex_106_81, ex_106_82, ex_106_83, ex_106_84, ex_106_87, ex_106_88, ex_106_89, ex_106_90, ex_106_91, ex_106_94, ex_106_95, ex_106_98, ex_106_99, ex_106_100, ex_106_101, ex_106_104, ex_106_105, ex_106_108, ex_106_109, ex_106_110, ex_106_113, if_true, if_false, and_self, Option.toList_some, Option.toList_none, List.singleton_append, List.cons_append, List.nil_append, List.append_nil, nI_1, nt_e, Int32.le_refl, Bool.true_eq_false, Bool.false_eq_true, ↓reduceIte]
      exact hfin
    | succ g ih =>
      intro at_ k u1 j2 j3 hg ha hka hT1 o1 f1 f2 f3 f4
      by_cases hlt : at_ < n
      · have hnle : ¬ n ≤ at_ := by omega
        have hc : f at_ < 127 := by have := hT1.2.2.2 _ hlt; omega
        have hmax : ∀ b, b ≤ n → at_ < b → (nI (if at_ + 1 < b then b else at_ + 1) = nI b) := fun b hb hb2 => by
          split
          · rfl
          · rw [show at_ + 1 = b by omega]
        have good : skipF n f at_ = at_ → ∀ (u2 : am_U) (s : Int32) (w : Int64), Only tkP u1 u2 → FI u2 1 5 = nI (k + 1) → FI u2 1 4 = FI u1 1 4 → AI u2 3 = upd (AI u1 3) k s → AI u2 4 = upd (AI u1 4) k (nI at_) → AJ u2 5 = vp_updL (AJ u1 5) k w → s = nI (csort (tokQ n f at_).1) → ((tokQ n f at_).1.1 = 1 → w = Int64.ofNat (bas 32 (tokQ n f at_).1.2.2)) → ((tokQ n f at_).1.1 = 2 → w = Int64.ofNat (bas 10 (tokQ n f at_).1.2.2)) → ∀ j2 j3, Ex (d + 7) 106 7 [some (.ref 1), some (.int (nI (tokQ n f at_).2)), j2, j3] [] (am_emb u2) post := by
          intro hsk u2 s w o2 g1 g2 g3 g4 g5 e3 e5 e6 j2 j3
          have hq := tokQ_le (n := n) (f := f) ha
          have hlt2 := hq.2.1 hlt
          have htk : tk n f k = (tokQ n f at_).1 := by rw [tk, tokP, ← f4, hsk]
          have hpos : posF n f (k + 1) = (tokQ n f at_).2 := by rw [posF, tokP, ← f4, hsk]
          refine ih _ (k + 1) u2 j2 j3 (by omega) hq.1 (by omega) (hT1.keep (P := fun a => a = 1 ∨ a = 3 ∨ a = 4 ∨ a = 5) o2 g2 (by omega)) (o1.tr o2) g1 (fun i hi => ?_) (fun i hi => ?_) (by rw [hpos])
          · by_cases e : i = k
            · rw [e, htk]
              exact TokC_new g3 g4 g5 e3 (by rw [hq.2.2.1]) e5 e6
            · exact TokC_old g3 g4 g5 (by omega) (f2 i (by omega))
          · by_cases e : i = k
            · rw [e, htk, hq.2.2.2]; omega
            · exact f3 i (by omega)
        have hq := tokQ_le (n := n) (f := f) ha
        have hlt2 := hq.2.1 hlt
        have hmx : nI (if at_ + 1 < (tokQ n f at_).2 then (tokQ n f at_).2 else at_ + 1) = nI (tokQ n f at_).2 := hmax _ hq.1 hlt2
        have hmq : ∀ {post : Option Value → am_M → Prop} {m : am_M} {d b : Nat}, b ≤ n → (Cl d 274 [.int (nI (at_ + 1)), .int (nI b)] m post ↔ post (some (.int (nI (if at_ + 1 < b then b else at_ + 1)))) m) := by
          intro post m d b hb
          rw [max_ok]
          by_cases e : at_ + 1 < b
          · have e1 : nI (at_ + 1) < nI b := (nI_ltI (by omega) (by omega)).mpr e
            rw [if_pos e]
            first | rw [if_pos e1] | simp [e1]
          · have e1 : ¬ nI (at_ + 1) < nI b := fun q => e ((nI_ltI (by omega) (by omega)).mp q)
            rw [if_neg e]
            first | rw [if_neg e1] | simp [e1]
        rw [ex_106_7]
        by_cases hL : isL (f at_) = true
        · have hsk : skipF n f at_ = at_ := skip_n (fun _ => isL_W hL)
          simp (disch := first | exact am_nl_i _ | exact am_nl_r _ | exact am_nl_0 | (refine vi_nI ?_ ?_ <;> omega) | assumption | omega | exact b2i_01 _ | exact Or.inl rfl | exact Or.inr rfl | (unfold vi; decide)) only [ex_106_0, ex_106_1, ex_106_2, ex_106_5, ex_106_6, ex_106_8, ex_106_9, ex_106_12, ex_106_15, ex_106_16, ex_106_17, ex_106_20, ex_106_21, ex_106_22, ex_106_23, ex_106_24, ex_106_25, ex_106_26, ex_106_29, ex_106_32, ex_106_33, ex_106_37, ex_106_38, ex_106_41, ex_106_42, ex_106_45, ex_106_48, ex_106_49, ex_106_50, ex_106_53, ex_106_54, ex_106_57, ex_106_58, ex_106_60, ex_106_63, ex_106_64, ex_106_66, ex_106_69, ex_106_70, ex_106_71, ex_106_74, ex_106_77, ex_106_78, ex_106_81, ex_106_82, ex_106_83, ex_106_84, ex_106_87, ex_106_88, ex_106_89, ex_106_90, ex_106_91, ex_106_94, ex_106_95, ex_106_98, ex_106_99, ex_106_100, ex_106_101, ex_106_104, ex_106_105, ex_106_108, ex_106_109, ex_106_110, ex_106_113, if_true, if_false, and_self, Option.toList_some, Option.toList_none, List.singleton_append, List.cons_append, List.nil_append, List.append_nil, nI_1, nt_e, Int32.le_refl, hT1.1, nI_leI, hnle, signAt_ok hT1, hlt, isLetter_ok hc, hL, b2i_t, show ((1 : Int32) = (0 : Int32)) = False from eq_false (by decide), Bool.true_eq_false, Bool.false_eq_true, ↓reduceIte]
          rw [ex_106_34]
          refine addWord_ok (d := d) hT1 f1 (by omega) hlt hL (fun u2 o2 g1 g2 g3 g4 g5 => ?_)
          simp (disch := first | exact am_nl_i _ | exact am_nl_r _ | exact am_nl_0 | (refine vi_nI ?_ ?_ <;> omega) | assumption | omega | exact b2i_01 _ | exact Or.inl rfl | exact Or.inr rfl | (unfold vi; decide)) only [ex_106_0, ex_106_1, ex_106_2, ex_106_5, ex_106_6, ex_106_8, ex_106_9, ex_106_12, ex_106_15, ex_106_16, ex_106_17, ex_106_20, ex_106_21, ex_106_22, ex_106_23, ex_106_24, ex_106_25, ex_106_26, ex_106_29, ex_106_32, ex_106_33, ex_106_34, ex_106_37, ex_106_38, ex_106_41, ex_106_42, ex_106_45, ex_106_48, ex_106_49, ex_106_50, ex_106_53, ex_106_54, ex_106_57, ex_106_58, ex_106_60, ex_106_63, ex_106_64, ex_106_66, ex_106_69, ex_106_70, ex_106_71, ex_106_74, ex_106_77, ex_106_78, ex_106_81, ex_106_82, ex_106_83, ex_106_84, ex_106_87, ex_106_88, ex_106_89, ex_106_90, ex_106_91, ex_106_94, ex_106_95, ex_106_98, ex_106_99, ex_106_100, ex_106_101, ex_106_104, ex_106_105, ex_106_108, ex_106_109, ex_106_110, ex_106_113, if_true, if_false, and_self, Option.toList_some, Option.toList_none, List.singleton_append, List.cons_append, List.nil_append, List.append_nil, nI_1, nt_e, Int32.le_refl, hmq hq.1, hmx, Bool.true_eq_false, Bool.false_eq_true, ↓reduceIte]
          refine good hsk u2 _ _ o2 g1 g2 g3 g4 g5 rfl (fun _ => rfl) (fun q => ?_) _ _
          have q2 := q
          unfold tokQ at q2
          rw [if_neg hnle, if_pos hL] at q2
          have q2 : (if 8 < runF isL f (n - at_) at_ then 4 else 1) = 2 := q2
          split at q2 <;> omega
        · have hL2 : isL (f at_) = false := by simpa using hL
          by_cases hD : isD (f at_) = true
          · have hsk : skipF n f at_ = at_ := skip_n (fun _ => isD_W hD)
            simp (disch := first | exact am_nl_i _ | exact am_nl_r _ | exact am_nl_0 | (refine vi_nI ?_ ?_ <;> omega) | assumption | omega | exact b2i_01 _ | exact Or.inl rfl | exact Or.inr rfl | (unfold vi; decide)) only [ex_106_0, ex_106_1, ex_106_2, ex_106_5, ex_106_6, ex_106_8, ex_106_9, ex_106_12, ex_106_15, ex_106_16, ex_106_17, ex_106_20, ex_106_21, ex_106_22, ex_106_23, ex_106_24, ex_106_25, ex_106_26, ex_106_29, ex_106_32, ex_106_33, ex_106_34, ex_106_37, ex_106_38, ex_106_41, ex_106_42, ex_106_45, ex_106_48, ex_106_49, ex_106_53, ex_106_54, ex_106_57, ex_106_58, ex_106_60, ex_106_63, ex_106_64, ex_106_66, ex_106_69, ex_106_70, ex_106_71, ex_106_74, ex_106_77, ex_106_78, ex_106_81, ex_106_82, ex_106_83, ex_106_84, ex_106_87, ex_106_88, ex_106_89, ex_106_90, ex_106_91, ex_106_94, ex_106_95, ex_106_98, ex_106_99, ex_106_100, ex_106_101, ex_106_104, ex_106_105, ex_106_108, ex_106_109, ex_106_110, ex_106_113, if_true, if_false, and_self, Option.toList_some, Option.toList_none, List.singleton_append, List.cons_append, List.nil_append, List.append_nil, nI_1, nt_e, Int32.le_refl, hT1.1, nI_leI, hnle, signAt_ok hT1, hlt, isLetter_ok hc, hL2, isDigit_ok hc, hD, b2i_t, b2i_f, show ((1 : Int32) = (0 : Int32)) = False from eq_false (by decide), Bool.true_eq_false, Bool.false_eq_true, ↓reduceIte]
            rw [ex_106_50]
            refine addNumber_ok (d := d) hT1 f1 (by omega) hlt hD (fun u2 o2 g1 g2 g3 g4 g5 => ?_)
            simp (disch := first | exact am_nl_i _ | exact am_nl_r _ | exact am_nl_0 | (refine vi_nI ?_ ?_ <;> omega) | assumption | omega | exact b2i_01 _ | exact Or.inl rfl | exact Or.inr rfl | (unfold vi; decide)) only [ex_106_0, ex_106_1, ex_106_2, ex_106_5, ex_106_6, ex_106_8, ex_106_9, ex_106_12, ex_106_15, ex_106_16, ex_106_17, ex_106_20, ex_106_21, ex_106_22, ex_106_23, ex_106_24, ex_106_25, ex_106_26, ex_106_29, ex_106_32, ex_106_33, ex_106_34, ex_106_37, ex_106_38, ex_106_41, ex_106_42, ex_106_45, ex_106_48, ex_106_49, ex_106_50, ex_106_53, ex_106_54, ex_106_57, ex_106_58, ex_106_60, ex_106_63, ex_106_64, ex_106_66, ex_106_69, ex_106_70, ex_106_71, ex_106_74, ex_106_77, ex_106_78, ex_106_81, ex_106_82, ex_106_83, ex_106_84, ex_106_87, ex_106_88, ex_106_89, ex_106_90, ex_106_91, ex_106_94, ex_106_95, ex_106_98, ex_106_99, ex_106_100, ex_106_101, ex_106_104, ex_106_105, ex_106_108, ex_106_109, ex_106_110, ex_106_113, if_true, if_false, and_self, Option.toList_some, Option.toList_none, List.singleton_append, List.cons_append, List.nil_append, List.append_nil, nI_1, nt_e, Int32.le_refl, hmq hq.1, hmx, Bool.true_eq_false, Bool.false_eq_true, ↓reduceIte]
            refine good hsk u2 _ _ o2 g1 g2 g3 g4 g5 rfl (fun q => ?_) (fun _ => rfl) _ _
            have q2 := q
            unfold tokQ at q2
            rw [if_neg hnle, if_neg hL, if_pos hD] at q2
            have q2 : (if 4 < runF isD f (n - at_) at_ then 4 else 2) = 1 := q2
            split at q2 <;> omega
          · have hD2 : isD (f at_) = false := by simpa using hD
            obtain ⟨z10, z32⟩ := eq_lit (f at_) hc
            have h1 : nI (if at_ + 1 < at_ + 1 then at_ + 1 else at_ + 1) = nI (at_ + 1) := by rw [if_neg (Nat.lt_irrefl _)]
            by_cases hWs : isW (f at_) = true
            · have hw := of_decide_eq_true hWs
              have hnext := ih (at_ + 1) k u1 (some (.int (nI (f at_)))) (some (.int (nI (at_ + 1)))) (by omega) (by omega) (by omega) hT1 o1 f1 f2 f3 (by rw [skip_s hlt hWs]; exact f4)
              by_cases e10 : f at_ = 10
              · have z10 : nI (f at_) = 10 := z10.mpr e10
                simp (disch := first | exact am_nl_i _ | exact am_nl_r _ | exact am_nl_0 | (refine vi_nI ?_ ?_ <;> omega) | assumption | omega | exact b2i_01 _ | exact Or.inl rfl | exact Or.inr rfl | (unfold vi; decide)) only [ex_106_0, ex_106_1, ex_106_2, ex_106_5, ex_106_6, ex_106_8, ex_106_9, ex_106_12, ex_106_15, ex_106_16, ex_106_17, ex_106_20, ex_106_21, ex_106_22, ex_106_23, ex_106_24, ex_106_25, ex_106_26, ex_106_29, ex_106_32, ex_106_33, ex_106_34, ex_106_37, ex_106_38, ex_106_41, ex_106_42, ex_106_45, ex_106_48, ex_106_49, ex_106_50, ex_106_53, ex_106_54, ex_106_58, ex_106_60, ex_106_63, ex_106_64, ex_106_66, ex_106_69, ex_106_70, ex_106_71, ex_106_74, ex_106_77, ex_106_78, ex_106_81, ex_106_82, ex_106_83, ex_106_84, ex_106_87, ex_106_88, ex_106_89, ex_106_90, ex_106_91, ex_106_94, ex_106_95, ex_106_98, ex_106_99, ex_106_100, ex_106_101, ex_106_104, ex_106_105, ex_106_108, ex_106_109, ex_106_110, ex_106_113, if_true, if_false, and_self, Option.toList_some, Option.toList_none, List.singleton_append, List.cons_append, List.nil_append, List.append_nil, nI_1, nt_e, Int32.le_refl, hT1.1, nI_leI, hnle, signAt_ok hT1, hlt, isLetter_ok hc, hL2, isDigit_ok hc, hD2, b2i_f, Bool.true_eq_false, Bool.false_eq_true, ↓reduceIte]
                rw [ex_106_57]
                simp (disch := first | exact am_nl_i _ | exact am_nl_r _ | exact am_nl_0 | (refine vi_nI ?_ ?_ <;> omega) | assumption | omega | exact b2i_01 _ | exact Or.inl rfl | exact Or.inr rfl | (unfold vi; decide)) only [ex_106_0, ex_106_1, ex_106_2, ex_106_5, ex_106_6, ex_106_8, ex_106_9, ex_106_12, ex_106_15, ex_106_16, ex_106_17, ex_106_20, ex_106_21, ex_106_22, ex_106_23, ex_106_24, ex_106_25, ex_106_26, ex_106_29, ex_106_32, ex_106_33, ex_106_34, ex_106_37, ex_106_38, ex_106_41, ex_106_42, ex_106_45, ex_106_48, ex_106_49, ex_106_50, ex_106_53, ex_106_54, ex_106_57, ex_106_58, ex_106_60, ex_106_63, ex_106_64, ex_106_66, ex_106_69, ex_106_70, ex_106_71, ex_106_74, ex_106_77, ex_106_78, ex_106_81, ex_106_82, ex_106_83, ex_106_84, ex_106_87, ex_106_88, ex_106_89, ex_106_90, ex_106_91, ex_106_94, ex_106_95, ex_106_98, ex_106_99, ex_106_100, ex_106_101, ex_106_104, ex_106_105, ex_106_108, ex_106_109, ex_106_110, ex_106_113, if_true, if_false, and_self, Option.toList_some, Option.toList_none, List.singleton_append, List.cons_append, List.nil_append, List.append_nil, nI_1, nt_e, Int32.le_refl, z10, hmq (b := at_ + 1) (by omega), h1, Bool.true_eq_false, Bool.false_eq_true, ↓reduceIte]
                rw [z10] at hnext
                exact hnext
              · have e32 : f at_ = 32 := by omega
                have z10 : ¬ nI (f at_) = 10 := fun q => e10 (z10.mp q)
                have z32 : nI (f at_) = 32 := z32.mpr e32
                simp (disch := first | exact am_nl_i _ | exact am_nl_r _ | exact am_nl_0 | (refine vi_nI ?_ ?_ <;> omega) | assumption | omega | exact b2i_01 _ | exact Or.inl rfl | exact Or.inr rfl | (unfold vi; decide)) only [ex_106_0, ex_106_1, ex_106_2, ex_106_5, ex_106_6, ex_106_8, ex_106_9, ex_106_12, ex_106_15, ex_106_16, ex_106_17, ex_106_20, ex_106_21, ex_106_22, ex_106_23, ex_106_24, ex_106_25, ex_106_26, ex_106_29, ex_106_32, ex_106_33, ex_106_34, ex_106_37, ex_106_38, ex_106_41, ex_106_42, ex_106_45, ex_106_48, ex_106_49, ex_106_50, ex_106_53, ex_106_54, ex_106_58, ex_106_60, ex_106_63, ex_106_64, ex_106_66, ex_106_69, ex_106_70, ex_106_71, ex_106_74, ex_106_77, ex_106_78, ex_106_81, ex_106_82, ex_106_83, ex_106_84, ex_106_87, ex_106_88, ex_106_89, ex_106_90, ex_106_91, ex_106_94, ex_106_95, ex_106_98, ex_106_99, ex_106_100, ex_106_101, ex_106_104, ex_106_105, ex_106_108, ex_106_109, ex_106_110, ex_106_113, if_true, if_false, and_self, Option.toList_some, Option.toList_none, List.singleton_append, List.cons_append, List.nil_append, List.append_nil, nI_1, nt_e, Int32.le_refl, hT1.1, nI_leI, hnle, signAt_ok hT1, hlt, isLetter_ok hc, hL2, isDigit_ok hc, hD2, b2i_f, Bool.true_eq_false, Bool.false_eq_true, ↓reduceIte]
                rw [ex_106_57]
                simp (disch := first | exact am_nl_i _ | exact am_nl_r _ | exact am_nl_0 | (refine vi_nI ?_ ?_ <;> omega) | assumption | omega | exact b2i_01 _ | exact Or.inl rfl | exact Or.inr rfl | (unfold vi; decide)) only [ex_106_0, ex_106_1, ex_106_2, ex_106_5, ex_106_6, ex_106_8, ex_106_9, ex_106_12, ex_106_15, ex_106_16, ex_106_17, ex_106_20, ex_106_21, ex_106_22, ex_106_23, ex_106_24, ex_106_25, ex_106_26, ex_106_29, ex_106_32, ex_106_33, ex_106_34, ex_106_37, ex_106_38, ex_106_41, ex_106_42, ex_106_45, ex_106_48, ex_106_49, ex_106_50, ex_106_53, ex_106_54, ex_106_57, ex_106_58, ex_106_60, ex_106_63, ex_106_64, ex_106_66, ex_106_69, ex_106_70, ex_106_71, ex_106_74, ex_106_77, ex_106_78, ex_106_81, ex_106_82, ex_106_83, ex_106_84, ex_106_87, ex_106_88, ex_106_89, ex_106_90, ex_106_91, ex_106_94, ex_106_95, ex_106_98, ex_106_99, ex_106_100, ex_106_101, ex_106_104, ex_106_105, ex_106_108, ex_106_109, ex_106_110, ex_106_113, if_true, if_false, and_self, Option.toList_some, Option.toList_none, List.singleton_append, List.cons_append, List.nil_append, List.append_nil, nI_1, nt_e, Int32.le_refl, z10, z32, hmq (b := at_ + 1) (by omega), h1, show ¬ (32 : Int32) = 10 from by decide, Bool.true_eq_false, Bool.false_eq_true, ↓reduceIte]
                rw [z32] at hnext
                exact hnext
            · have hW2 : isW (f at_) = false := by simpa using hWs
              have hw := of_decide_eq_false hW2
              have hsk : skipF n f at_ = at_ := skip_n (fun _ => hW2)
              have z10 : ¬ nI (f at_) = 10 := fun q => hw (Or.inr (z10.mp q))
              have z32 : ¬ nI (f at_) = 32 := fun q => hw (Or.inl (z32.mp q))
              have et : tokQ n f at_ = ((if isM (f at_) then 3 else 4, at_, [f at_]), at_ + 1) := by
                unfold tokQ
                rw [if_neg hnle, if_neg hL, if_neg hD]
              rw [et] at good
              cases hM : isM (f at_)
              · rw [hM, if_neg (by decide)] at good
                simp (disch := first | exact am_nl_i _ | exact am_nl_r _ | exact am_nl_0 | (refine vi_nI ?_ ?_ <;> omega) | assumption | omega | exact b2i_01 _ | exact Or.inl rfl | exact Or.inr rfl | (unfold vi; decide)) only [ex_106_0, ex_106_1, ex_106_2, ex_106_5, ex_106_6, ex_106_8, ex_106_9, ex_106_12, ex_106_15, ex_106_16, ex_106_17, ex_106_20, ex_106_21, ex_106_22, ex_106_23, ex_106_24, ex_106_25, ex_106_26, ex_106_29, ex_106_32, ex_106_33, ex_106_34, ex_106_37, ex_106_38, ex_106_41, ex_106_42, ex_106_45, ex_106_48, ex_106_49, ex_106_50, ex_106_53, ex_106_54, ex_106_57, ex_106_58, ex_106_60, ex_106_63, ex_106_64, ex_106_66, ex_106_69, ex_106_70, ex_106_71, ex_106_74, ex_106_77, ex_106_78, ex_106_81, ex_106_82, ex_106_83, ex_106_87, ex_106_88, ex_106_89, ex_106_90, ex_106_91, ex_106_94, ex_106_95, ex_106_98, ex_106_99, ex_106_100, ex_106_101, ex_106_104, ex_106_105, ex_106_108, ex_106_109, ex_106_110, ex_106_113, if_true, if_false, and_self, Option.toList_some, Option.toList_none, List.singleton_append, List.cons_append, List.nil_append, List.append_nil, nI_1, nt_e, Int32.le_refl, hT1.1, nI_leI, hnle, signAt_ok hT1, hlt, isLetter_ok hc, hL2, isDigit_ok hc, hD2, b2i_f, z10, z32, isMark_ok hc, hM, Bool.true_eq_false, Bool.false_eq_true, ↓reduceIte]
                rw [ex_106_84]
                refine tadd_ok (d := d + 6) f1 (by omega) (fun u2 o2 g1 g2 g3 g4 g5 => ?_)
                simp (disch := first | exact am_nl_i _ | exact am_nl_r _ | exact am_nl_0 | (refine vi_nI ?_ ?_ <;> omega) | assumption | omega | exact b2i_01 _ | exact Or.inl rfl | exact Or.inr rfl | (unfold vi; decide)) only [ex_106_0, ex_106_1, ex_106_2, ex_106_5, ex_106_6, ex_106_8, ex_106_9, ex_106_12, ex_106_15, ex_106_16, ex_106_17, ex_106_20, ex_106_21, ex_106_22, ex_106_23, ex_106_24, ex_106_25, ex_106_26, ex_106_29, ex_106_32, ex_106_33, ex_106_34, ex_106_37, ex_106_38, ex_106_41, ex_106_42, ex_106_45, ex_106_48, ex_106_49, ex_106_50, ex_106_53, ex_106_54, ex_106_57, ex_106_58, ex_106_60, ex_106_63, ex_106_64, ex_106_66, ex_106_69, ex_106_70, ex_106_71, ex_106_74, ex_106_77, ex_106_78, ex_106_81, ex_106_82, ex_106_83, ex_106_84, ex_106_87, ex_106_88, ex_106_89, ex_106_90, ex_106_91, ex_106_94, ex_106_95, ex_106_98, ex_106_99, ex_106_100, ex_106_101, ex_106_104, ex_106_105, ex_106_108, ex_106_109, ex_106_110, ex_106_113, if_true, if_false, and_self, Option.toList_some, Option.toList_none, List.singleton_append, List.cons_append, List.nil_append, List.append_nil, nI_1, nt_e, Int32.le_refl, hmq (b := at_ + 1) (by omega), h1, Bool.true_eq_false, Bool.false_eq_true, ↓reduceIte]
                exact good hsk u2 _ _ o2 g1 g2 g3 g4 g5 rfl (fun q => absurd q (by show ¬ 4 = 1; decide)) (fun q => absurd q (by show ¬ 4 = 2; decide)) _ _
              · rw [hM, if_pos rfl] at good
                simp (disch := first | exact am_nl_i _ | exact am_nl_r _ | exact am_nl_0 | (refine vi_nI ?_ ?_ <;> omega) | assumption | omega | exact b2i_01 _ | exact Or.inl rfl | exact Or.inr rfl | (unfold vi; decide)) only [ex_106_0, ex_106_1, ex_106_2, ex_106_5, ex_106_6, ex_106_8, ex_106_9, ex_106_12, ex_106_15, ex_106_16, ex_106_17, ex_106_20, ex_106_21, ex_106_22, ex_106_23, ex_106_24, ex_106_25, ex_106_26, ex_106_29, ex_106_32, ex_106_33, ex_106_34, ex_106_37, ex_106_38, ex_106_41, ex_106_42, ex_106_45, ex_106_48, ex_106_49, ex_106_50, ex_106_53, ex_106_54, ex_106_57, ex_106_58, ex_106_60, ex_106_63, ex_106_64, ex_106_66, ex_106_69, ex_106_70, ex_106_71, ex_106_74, ex_106_77, ex_106_78, ex_106_81, ex_106_82, ex_106_83, ex_106_87, ex_106_88, ex_106_89, ex_106_90, ex_106_91, ex_106_94, ex_106_95, ex_106_98, ex_106_99, ex_106_100, ex_106_101, ex_106_104, ex_106_105, ex_106_108, ex_106_109, ex_106_110, ex_106_113, if_true, if_false, and_self, Option.toList_some, Option.toList_none, List.singleton_append, List.cons_append, List.nil_append, List.append_nil, nI_1, nt_e, Int32.le_refl, hT1.1, nI_leI, hnle, signAt_ok hT1, hlt, isLetter_ok hc, hL2, isDigit_ok hc, hD2, b2i_f, b2i_t, z10, z32, isMark_ok hc, hM, show ((1 : Int32) = (0 : Int32)) = False from eq_false (by decide), Bool.true_eq_false, Bool.false_eq_true, ↓reduceIte]
                rw [ex_106_84]
                refine tadd_ok (d := d + 6) f1 (by omega) (fun u2 o2 g1 g2 g3 g4 g5 => ?_)
                simp (disch := first | exact am_nl_i _ | exact am_nl_r _ | exact am_nl_0 | (refine vi_nI ?_ ?_ <;> omega) | assumption | omega | exact b2i_01 _ | exact Or.inl rfl | exact Or.inr rfl | (unfold vi; decide)) only [ex_106_0, ex_106_1, ex_106_2, ex_106_5, ex_106_6, ex_106_8, ex_106_9, ex_106_12, ex_106_15, ex_106_16, ex_106_17, ex_106_20, ex_106_21, ex_106_22, ex_106_23, ex_106_24, ex_106_25, ex_106_26, ex_106_29, ex_106_32, ex_106_33, ex_106_34, ex_106_37, ex_106_38, ex_106_41, ex_106_42, ex_106_45, ex_106_48, ex_106_49, ex_106_50, ex_106_53, ex_106_54, ex_106_57, ex_106_58, ex_106_60, ex_106_63, ex_106_64, ex_106_66, ex_106_69, ex_106_70, ex_106_71, ex_106_74, ex_106_77, ex_106_78, ex_106_81, ex_106_82, ex_106_83, ex_106_84, ex_106_87, ex_106_88, ex_106_89, ex_106_90, ex_106_91, ex_106_94, ex_106_95, ex_106_98, ex_106_99, ex_106_100, ex_106_101, ex_106_104, ex_106_105, ex_106_108, ex_106_109, ex_106_110, ex_106_113, if_true, if_false, and_self, Option.toList_some, Option.toList_none, List.singleton_append, List.cons_append, List.nil_append, List.append_nil, nI_1, nt_e, Int32.le_refl, hmq (b := at_ + 1) (by omega), h1, Bool.true_eq_false, Bool.false_eq_true, ↓reduceIte]
                exact good hsk u2 _ _ o2 g1 g2 g3 g4 g5 rfl (fun q => absurd q (by show ¬ 3 = 1; decide)) (fun q => absurd q (by show ¬ 3 = 2; decide)) _ _
      · exact ih at_ k u1 j2 j3 (by omega) ha hka hT1 o1 f1 f2 f3 f4
  rw [op_106]
  simp (disch := first | exact am_nl_i _ | exact am_nl_r _ | exact am_nl_0 | assumption | omega | (refine vi_nI ?_ ?_ <;> omega) | exact b2i_01 _ | exact Or.inl rfl | exact Or.inr rfl | (unfold vi; decide)) only [ex_106_0, ex_106_1, ex_106_2, ex_106_5, ex_106_6, ex_106_8, ex_106_9, ex_106_12, ex_106_15, ex_106_16, ex_106_17, ex_106_20, ex_106_21, ex_106_22, ex_106_23, ex_106_24, ex_106_25, ex_106_26, ex_106_29, ex_106_32, ex_106_33, ex_106_34, ex_106_37, ex_106_38, ex_106_41, ex_106_42, ex_106_45, ex_106_48, ex_106_49, ex_106_50, ex_106_53, ex_106_54, ex_106_57, ex_106_58, ex_106_60, ex_106_63, ex_106_64, ex_106_66, ex_106_69, ex_106_70, ex_106_71, ex_106_74, ex_106_77, ex_106_78, ex_106_81, ex_106_82, ex_106_83, ex_106_84, ex_106_87, ex_106_88, ex_106_89, ex_106_90, ex_106_91, ex_106_94, ex_106_95, ex_106_98, ex_106_99, ex_106_100, ex_106_101, ex_106_104, ex_106_105, ex_106_108, ex_106_109, ex_106_110, ex_106_113, if_true, if_false, and_self, Option.toList_some, Option.toList_none, List.singleton_append, List.cons_append, List.nil_append, List.append_nil, nI_1, nt_e, Int32.le_refl]
  exact loop n 0 0 _ none none (by omega) (Nat.zero_le _) (Nat.le_refl _) (hT.keep (P := fun a => a = 1) (Only.sFI rfl) (by rw [FI_sFI, if_neg (by decide)]) (by decide)) (Only.sFI (Or.inl rfl)) (by rw [FI_sFI, if_pos ⟨rfl, rfl⟩]; rfl) (fun i hi => absurd hi (Nat.not_lt_zero i)) (fun i hi => absurd hi (Nat.not_lt_zero i)) rfl
end Split
