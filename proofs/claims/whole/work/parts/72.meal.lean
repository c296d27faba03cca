/-! MEAL -/
theorem lt_tri {a b : Int32} (h1 : ¬ b < a) (h2 : ¬ a = b) : a < b := by
  rw [Int32.lt_iff_toInt_lt] at h1 ⊢
  have : a.toInt ≠ b.toInt := fun q => h2 (Int32.toInt_inj.mp q)
  omega
theorem or_cm (x y : Int32) : x ||| y = y ||| x := b_ext fun i hi => by rw [b_or, b_or, Bool.or_comm]
def lighter (v : LV) (k b : Nat) : Bool := decide (weightV v (nI k) < weightV v (nI b)) || (decide (weightV v (nI k) = weightV v (nI b)) && few k b)
def okMeal (v : LV) (l : LF) (e : Int32) (t k : Nat) : Bool := decide (nI k &&& nt (inStockL l &&& nt e) = 0) && bt (tasksV v (knowsV v (e ||| nI k))) t
def mealA (v : LV) (o : Option Nat) (z : Int32) : Int32 := match o with
  | none => -1
  | some b => if z = 0 then weightV v (nI b) else nI b
def mealS (S : ST) (x y z : Int32) : Int32 := if livesI S.2.1.1 x && (okI y (nT S.1) && okI z 2) then mealA S.1 (bestF (okMeal S.1 S.2.1.1 (eatL S.2.1.1 (ix x)) (ix y)) (lighter S.1) (2 ^ nP S.1)) z else -1
section Meal
variable {d L L' : Nat} {u : am_U} {S : ST} {post : Option Value → am_M → Prop}
theorem isLighter_ok {k : Nat} {o : Option Nat} (hr : FR u 0 2 = some L) (hL : sh L 3 19) (hC : LibC u L S.1) (hW : WF S.1) (hk : k < 8192) (ho : ∀ b, o = some b → b < 8192) : Cl (d + 2) 149 [.ref 0, .int (nI k), .int (ob o)] (am_emb u) post ↔ post (some (.int (b2i (o.all (fun b => lighter S.1 k b))))) (am_emb u) := by
  rw [op_149]
  cases o with
  | none =>
    simp (disch := first | exact am_nl_i _ | exact am_nl_r _ | exact am_nl_0 | assumption | omega | (refine vi_nI ?_ ?_ <;> omega) | exact b2i_01 _ | exact Or.inl rfl | exact Or.inr rfl | (unfold vi; decide)) only [ex_149_0, ex_149_1, ex_149_2, ex_149_5, ex_149_6, ex_149_7, ex_149_8, ex_149_11, ex_149_12, ex_149_15, ex_149_16, ex_149_17, ex_149_20, ex_149_21, ex_149_24, ex_149_26, ex_149_27, ex_149_29, ex_149_32, ex_149_33, ex_149_35, ex_149_38, ex_149_39, ex_149_40, ex_149_43, ex_149_46, ex_149_47, ex_149_50, ex_149_51, if_true, if_false, and_self, Option.toList_some, Option.toList_none, List.singleton_append, List.cons_append, List.nil_append, List.append_nil, nI_1, nt_e, Int32.le_refl, show ob none = -1 from rfl]
    exact Iff.rfl
  | some b =>
    have hb := ho b rfl
    have hF := isFewer_ok (d := d) (m := am_emb u) (o := some b) hk (fun b' h => by cases h; exact hb) (post := fun v m9 => Ex (d + 2) 149 43 [some (.ref 0), some (.int (nI k)), some (.int (nI b)), some (.int (weightV S.1 (nI k))), some (.int (weightV S.1 (nI b)))] (v.toList ++ []) m9 post)
    rw [Option.all_some, lighter]
    by_cases q1 : weightV S.1 (nI k) < weightV S.1 (nI b)
    · rw [decide_eq_true q1]
      simp (disch := first | exact am_nl_i _ | exact am_nl_r _ | exact am_nl_0 | (refine vi_nI ?_ ?_ <;> omega) | assumption | omega | exact b2i_01 _ | exact Or.inl rfl | exact Or.inr rfl | (unfold vi; decide)) only [ex_149_0, ex_149_1, ex_149_2, ex_149_5, ex_149_6, ex_149_7, ex_149_8, ex_149_11, ex_149_12, ex_149_15, ex_149_16, ex_149_17, ex_149_20, ex_149_21, ex_149_24, ex_149_26, ex_149_27, ex_149_29, ex_149_32, ex_149_33, ex_149_35, ex_149_38, ex_149_39, ex_149_43, ex_149_46, ex_149_47, ex_149_50, ex_149_51, if_true, if_false, and_self, Option.toList_some, Option.toList_none, List.singleton_append, List.cons_append, List.nil_append, List.append_nil, nI_1, nt_e, Int32.le_refl, show ob (some b) = nI b from rfl, i_eqm, hr, va_rfs, weightOf_ok hL hC hW, q1, Bool.true_eq_false, Bool.false_eq_true, ↓reduceIte]
      exact Iff.rfl
    · by_cases q2 : weightV S.1 (nI k) = weightV S.1 (nI b)
      · rw [decide_eq_false q1, decide_eq_true q2, Bool.false_or, Bool.true_and]
        simp (disch := first | exact am_nl_i _ | exact am_nl_r _ | exact am_nl_0 | (refine vi_nI ?_ ?_ <;> omega) | assumption | omega | exact b2i_01 _ | exact Or.inl rfl | exact Or.inr rfl | (unfold vi; decide)) only [ex_149_0, ex_149_1, ex_149_2, ex_149_5, ex_149_6, ex_149_7, ex_149_8, ex_149_11, ex_149_12, ex_149_15, ex_149_16, ex_149_17, ex_149_20, ex_149_21, ex_149_24, ex_149_26, ex_149_27, ex_149_29, ex_149_32, ex_149_33, ex_149_35, ex_149_38, ex_149_39, ex_149_43, ex_149_46, ex_149_47, ex_149_50, ex_149_51, if_true, if_false, and_self, Option.toList_some, Option.toList_none, List.singleton_append, List.cons_append, List.nil_append, List.append_nil, nI_1, nt_e, Int32.le_refl, show ob (some b) = nI b from rfl, i_eqm, hr, va_rfs, weightOf_ok hL hC hW, q1, Bool.true_eq_false, Bool.false_eq_true, ↓reduceIte]
        rw [if_pos q2, ex_149_40]
        refine hF.trans ?_
        rw [Option.all_some]
        cases few k b
        · simp (disch := first | exact am_nl_i _ | exact am_nl_r _ | exact am_nl_0 | (refine vi_nI ?_ ?_ <;> omega) | assumption | omega | exact b2i_01 _ | exact Or.inl rfl | exact Or.inr rfl | (unfold vi; decide)) only [ex_149_0, ex_149_1, ex_149_2, ex_149_5, ex_149_6, ex_149_7, ex_149_8, ex_149_11, ex_149_12, ex_149_15, ex_149_16, ex_149_17, ex_149_20, ex_149_21, ex_149_24, ex_149_26, ex_149_27, ex_149_29, ex_149_32, ex_149_33, ex_149_35, ex_149_38, ex_149_39, ex_149_40, ex_149_43, ex_149_46, ex_149_47, ex_149_50, ex_149_51, if_true, if_false, and_self, Option.toList_some, Option.toList_none, List.singleton_append, List.cons_append, List.nil_append, List.append_nil, nI_1, nt_e, Int32.le_refl, b2i_0, Bool.true_eq_false, Bool.false_eq_true, ↓reduceIte]
          exact Iff.rfl
        · simp (disch := first | exact am_nl_i _ | exact am_nl_r _ | exact am_nl_0 | (refine vi_nI ?_ ?_ <;> omega) | assumption | omega | exact b2i_01 _ | exact Or.inl rfl | exact Or.inr rfl | (unfold vi; decide)) only [ex_149_0, ex_149_1, ex_149_2, ex_149_5, ex_149_6, ex_149_7, ex_149_8, ex_149_11, ex_149_12, ex_149_15, ex_149_16, ex_149_17, ex_149_20, ex_149_21, ex_149_24, ex_149_26, ex_149_27, ex_149_29, ex_149_32, ex_149_33, ex_149_35, ex_149_38, ex_149_39, ex_149_40, ex_149_43, ex_149_46, ex_149_47, ex_149_50, ex_149_51, if_true, if_false, and_self, Option.toList_some, Option.toList_none, List.singleton_append, List.cons_append, List.nil_append, List.append_nil, nI_1, nt_e, Int32.le_refl, b2i_0, Bool.true_eq_false, Bool.false_eq_true, ↓reduceIte]
          exact Iff.rfl
      · rw [decide_eq_false q1, decide_eq_false q2]
        simp (disch := first | exact am_nl_i _ | exact am_nl_r _ | exact am_nl_0 | (refine vi_nI ?_ ?_ <;> omega) | assumption | omega | exact b2i_01 _ | exact Or.inl rfl | exact Or.inr rfl | (unfold vi; decide)) only [ex_149_0, ex_149_1, ex_149_2, ex_149_5, ex_149_6, ex_149_7, ex_149_8, ex_149_11, ex_149_12, ex_149_15, ex_149_16, ex_149_17, ex_149_20, ex_149_21, ex_149_24, ex_149_26, ex_149_27, ex_149_29, ex_149_32, ex_149_33, ex_149_35, ex_149_38, ex_149_39, ex_149_43, ex_149_46, ex_149_47, ex_149_50, ex_149_51, if_true, if_false, and_self, Option.toList_some, Option.toList_none, List.singleton_append, List.cons_append, List.nil_append, List.append_nil, nI_1, nt_e, Int32.le_refl, show ob (some b) = nI b from rfl, i_eqm, hr, va_rfs, weightOf_ok hL hC hW, q1, q2, Bool.true_eq_false, Bool.false_eq_true, ↓reduceIte]
        exact Iff.rfl
theorem leastMeal_ok {e : Int32} {t : Nat} (hI : InvC u S L L') (hS : WS S) (ht : t < nT S.1) : Cl (d + 3) 148 [.ref 0, .int e, .int (nI t)] (am_emb u) post ↔ post (some (.int (ob (bestF (okMeal S.1 S.2.1.1 e t) (lighter S.1) (2 ^ nP S.1))))) (am_emb u) := by
  refine Cl_iff ?_ post
  have hL := lib_sh hI.1.2.2.1
  have hW := hS.1
  have hw := hS.2.1.1
  have h12 := hW.1.2.1
  have hp := pow_8192 h12
  obtain ⟨⟨r1, r2, r3, r4, r5, r6⟩, ⟨l1, l2, l3⟩, ⟨st1, st2, st3⟩, pst, mk, tp⟩ := hI
  obtain ⟨m, hm, hmu⟩ := set_nat (x := inStockL S.2.1.1 &&& nt e) (n := nP S.1) (by omega) (fun j hj => by rw [b_and, stock_bt hw hj]; rfl)
  have hend : bestF (okMeal S.1 S.2.1.1 e t) (lighter S.1) (2 ^ nP S.1) = bestF (okMeal S.1 S.2.1.1 e t) (lighter S.1) (m + 1) := bestF_ext (by omega) (fun k h1 h2 => by
    unfold okMeal
    rw [decide_eq_false, Bool.false_and]
    intro h
    rw [hmu] at h
    have := sub_le (by omega) (by omega) h
    omega)
  rw [hend, op_148]
  have loop : ∀ (kz k : Nat), k + kz = m + 1 → Ex (d + 3) 148 21 [some (.ref 0), some (.int e), some (.int (nI t)), some (.int (inStockL S.2.1.1 &&& nt e)), some (.int (ob (bestF (okMeal S.1 S.2.1.1 e t) (lighter S.1) k))), some (.int (nI k))] [] (am_emb u) (fun w n => w = some (.int (ob (bestF (okMeal S.1 S.2.1.1 e t) (lighter S.1) (m + 1)))) ∧ n = am_emb u) := by
    intro kz
    induction kz with
    | zero =>
      intro k hk
      obtain rfl : k = m + 1 := by omega
      have g1 : (inStockL S.2.1.1 &&& nt e < nI (m + 1)) = True := by rw [hmu, nI_ltI (by omega) (by omega)]; exact eq_true (by omega)
      rw [ex_148_21]
      simp (disch := first | exact am_nl_i _ | exact am_nl_r _ | exact am_nl_0 | (refine vi_nI ?_ ?_ <;> omega) | assumption | omega | exact b2i_01 _ | exact Or.inl rfl | exact Or.inr rfl | (unfold vi; decide)) only [ex_148_0, ex_148_1, ex_148_4, ex_148_7, ex_148_10, ex_148_11, ex_148_12, ex_148_13, ex_148_14, ex_148_15, ex_148_16, ex_148_18, ex_148_19, ex_148_23, ex_148_24, ex_148_29, ex_148_30, ex_148_31, ex_148_32, ex_148_33, ex_148_36, ex_148_37, ex_148_39, ex_148_41, ex_148_44, ex_148_47, ex_148_48, ex_148_51, ex_148_52, ex_148_54, ex_148_55, ex_148_56, ex_148_59, ex_148_62, ex_148_64, ex_148_66, ex_148_69, ex_148_72, ex_148_74, if_true, if_false, and_self, Option.toList_some, Option.toList_none, List.singleton_append, List.cons_append, List.nil_append, List.append_nil, nI_1, nt_e, Int32.le_refl, g1, Bool.true_eq_false, Bool.false_eq_true, ↓reduceIte]
      (try (first | exact ⟨rfl, rfl⟩ | exact ⟨rfl, trivial⟩))
    | succ kz ih =>
      intro k hk
      have ih := ih (k + 1) (by omega)
      have hb := best_b (ok := okMeal S.1 S.2.1.1 e t) (lt := lighter S.1) (n := k) (N := 8192) (by omega)
      have hk8 : k < 8192 := by omega
      have g1 : (inStockL S.2.1.1 &&& nt e < nI k) = False := by rw [hmu, nI_ltI (by omega) (by omega)]; exact eq_false (by omega)
      have hs : ∀ o', o' = bestF (okMeal S.1 S.2.1.1 e t) (lighter S.1) (k + 1) → Ex (d + 3) 148 66 [some (.ref 0), some (.int e), some (.int (nI t)), some (.int (inStockL S.2.1.1 &&& nt e)), some (.int (ob o')), some (.int (nI k))] [] (am_emb u) (fun w n => w = some (.int (ob (bestF (okMeal S.1 S.2.1.1 e t) (lighter S.1) (m + 1)))) ∧ n = am_emb u) := by
        intro o' e
        simp (disch := first | exact am_nl_i _ | exact am_nl_r _ | exact am_nl_0 | assumption | omega | (refine vi_nI ?_ ?_ <;> omega) | exact b2i_01 _ | exact Or.inl rfl | exact Or.inr rfl | (unfold vi; decide)) only [ex_148_0, ex_148_1, ex_148_4, ex_148_7, ex_148_10, ex_148_11, ex_148_12, ex_148_13, ex_148_14, ex_148_15, ex_148_16, ex_148_18, ex_148_19, ex_148_23, ex_148_24, ex_148_27, ex_148_29, ex_148_30, ex_148_31, ex_148_32, ex_148_33, ex_148_36, ex_148_37, ex_148_39, ex_148_41, ex_148_44, ex_148_47, ex_148_48, ex_148_51, ex_148_52, ex_148_54, ex_148_55, ex_148_56, ex_148_59, ex_148_62, ex_148_64, ex_148_66, ex_148_69, ex_148_72, ex_148_74, if_true, if_false, and_self, Option.toList_some, Option.toList_none, List.singleton_append, List.cons_append, List.nil_append, List.append_nil, nI_1, nt_e, Int32.le_refl]
        rw [e]
        exact ih
      rw [bestF] at hs
      generalize bestF (okMeal S.1 S.2.1.1 e t) (lighter S.1) k = o at *
      rw [ex_148_21]
      by_cases q1 : nI k &&& nt (inStockL S.2.1.1 &&& nt e) = 0
      · cases q2 : o.all (fun b => lighter S.1 k b)
        · simp (disch := first | exact am_nl_i _ | exact am_nl_r _ | exact am_nl_0 | (refine vi_nI ?_ ?_ <;> omega) | assumption | omega | exact b2i_01 _ | exact Or.inl rfl | exact Or.inr rfl | (unfold vi; decide)) only [ex_148_0, ex_148_1, ex_148_4, ex_148_7, ex_148_10, ex_148_11, ex_148_12, ex_148_13, ex_148_14, ex_148_15, ex_148_16, ex_148_18, ex_148_19, ex_148_23, ex_148_24, ex_148_27, ex_148_29, ex_148_30, ex_148_31, ex_148_32, ex_148_33, ex_148_36, ex_148_37, ex_148_39, ex_148_41, ex_148_44, ex_148_47, ex_148_48, ex_148_51, ex_148_52, ex_148_54, ex_148_55, ex_148_56, ex_148_59, ex_148_62, ex_148_64, ex_148_69, ex_148_74, if_true, if_false, and_self, Option.toList_some, Option.toList_none, List.singleton_append, List.cons_append, List.nil_append, List.append_nil, nI_1, nt_e, Int32.le_refl, g1, q1, isLighter_ok r1 hL l1 hW hk8 hb, q2, b2i_0, Bool.true_eq_false, Bool.false_eq_true, ↓reduceIte]
          exact hs _ (by rw [q2]; simp)
        · cases q3 : bt (tasksV S.1 (knowsV S.1 (e ||| nI k))) t
          · simp (disch := first | exact am_nl_i _ | exact am_nl_r _ | exact am_nl_0 | (refine vi_nI ?_ ?_ <;> omega) | assumption | omega | exact b2i_01 _ | exact Or.inl rfl | exact Or.inr rfl | (unfold vi; decide)) only [ex_148_0, ex_148_1, ex_148_4, ex_148_7, ex_148_10, ex_148_11, ex_148_12, ex_148_13, ex_148_14, ex_148_15, ex_148_16, ex_148_18, ex_148_19, ex_148_23, ex_148_24, ex_148_27, ex_148_29, ex_148_30, ex_148_31, ex_148_32, ex_148_33, ex_148_36, ex_148_37, ex_148_39, ex_148_41, ex_148_44, ex_148_47, ex_148_48, ex_148_51, ex_148_52, ex_148_54, ex_148_55, ex_148_56, ex_148_59, ex_148_62, ex_148_64, ex_148_69, ex_148_74, if_true, if_false, and_self, Option.toList_some, Option.toList_none, List.singleton_append, List.cons_append, List.nil_append, List.append_nil, nI_1, nt_e, Int32.le_refl, g1, q1, isLighter_ok r1 hL l1 hW hk8 hb, q2, b2i_0, r1, va_rfs, can_ok hL l1 hW ht, q3, Bool.true_eq_false, Bool.false_eq_true, ↓reduceIte]
            exact hs _ (by rw [okMeal, q3]; simp)
          · simp (disch := first | exact am_nl_i _ | exact am_nl_r _ | exact am_nl_0 | (refine vi_nI ?_ ?_ <;> omega) | assumption | omega | exact b2i_01 _ | exact Or.inl rfl | exact Or.inr rfl | (unfold vi; decide)) only [ex_148_0, ex_148_1, ex_148_4, ex_148_7, ex_148_10, ex_148_11, ex_148_12, ex_148_13, ex_148_14, ex_148_15, ex_148_16, ex_148_18, ex_148_19, ex_148_23, ex_148_24, ex_148_27, ex_148_29, ex_148_30, ex_148_31, ex_148_32, ex_148_33, ex_148_36, ex_148_37, ex_148_39, ex_148_41, ex_148_44, ex_148_47, ex_148_48, ex_148_51, ex_148_52, ex_148_54, ex_148_55, ex_148_56, ex_148_59, ex_148_62, ex_148_64, ex_148_69, ex_148_74, if_true, if_false, and_self, Option.toList_some, Option.toList_none, List.singleton_append, List.cons_append, List.nil_append, List.append_nil, nI_1, nt_e, Int32.le_refl, g1, q1, isLighter_ok r1 hL l1 hW hk8 hb, q2, b2i_0, r1, va_rfs, can_ok hL l1 hW ht, q3, Bool.true_eq_false, Bool.false_eq_true, ↓reduceIte]
            exact hs (some k) (by rw [q2, okMeal, decide_eq_true q1, q3]; rfl)
      · simp (disch := first | exact am_nl_i _ | exact am_nl_r _ | exact am_nl_0 | (refine vi_nI ?_ ?_ <;> omega) | assumption | omega | exact b2i_01 _ | exact Or.inl rfl | exact Or.inr rfl | (unfold vi; decide)) only [ex_148_0, ex_148_1, ex_148_4, ex_148_7, ex_148_10, ex_148_11, ex_148_12, ex_148_13, ex_148_14, ex_148_15, ex_148_16, ex_148_18, ex_148_19, ex_148_23, ex_148_24, ex_148_27, ex_148_29, ex_148_30, ex_148_31, ex_148_32, ex_148_33, ex_148_36, ex_148_37, ex_148_39, ex_148_41, ex_148_44, ex_148_47, ex_148_48, ex_148_51, ex_148_52, ex_148_54, ex_148_55, ex_148_56, ex_148_59, ex_148_62, ex_148_64, ex_148_69, ex_148_74, if_true, if_false, and_self, Option.toList_some, Option.toList_none, List.singleton_append, List.cons_append, List.nil_append, List.append_nil, nI_1, nt_e, Int32.le_refl, g1, q1, Bool.true_eq_false, Bool.false_eq_true, ↓reduceIte]
        exact hs _ (by rw [okMeal, decide_eq_false q1]; simp)
  simp (disch := first | exact am_nl_i _ | exact am_nl_r _ | exact am_nl_0 | assumption | omega | (refine vi_nI ?_ ?_ <;> omega) | exact b2i_01 _ | exact Or.inl rfl | exact Or.inr rfl | (unfold vi; decide)) only [ex_148_0, ex_148_1, ex_148_4, ex_148_7, ex_148_10, ex_148_11, ex_148_12, ex_148_13, ex_148_14, ex_148_15, ex_148_16, ex_148_18, ex_148_19, ex_148_23, ex_148_24, ex_148_27, ex_148_29, ex_148_30, ex_148_31, ex_148_32, ex_148_33, ex_148_36, ex_148_37, ex_148_39, ex_148_41, ex_148_44, ex_148_47, ex_148_48, ex_148_51, ex_148_52, ex_148_54, ex_148_55, ex_148_56, ex_148_59, ex_148_62, ex_148_64, ex_148_66, ex_148_69, ex_148_72, ex_148_74, if_true, if_false, and_self, Option.toList_some, Option.toList_none, List.singleton_append, List.cons_append, List.nil_append, List.append_nil, nI_1, nt_e, Int32.le_refl, inStock_ok shl_65 st1]
  exact loop (m + 1) 0 (by omega)
theorem C_meal {x y z : Int32} (hI : InvC u S L L') (hS : WS S) : Cl (d + 4) 131 [.ref 0, .int x, .int y, .int z] (am_emb u) post ↔ post (some (.int (mealS S x y z))) (am_emb u) := by
  refine Cl_iff ?_ post
  have hIc := hI
  have hL := lib_sh hI.1.2.2.1
  have hW := hS.1
  have hw := hS.2.1.1
  have h5 := hW.1.2.2.2
  have h12 := hW.1.2.1
  have hp := pow_8192 h12
  obtain ⟨⟨r1, r2, r3, r4, r5, r6⟩, ⟨l1, l2, l3⟩, ⟨st1, st2, st3⟩, pst, mk, tp⟩ := hI
  rw [op_131]
  simp (disch := first | exact am_nl_i _ | exact am_nl_r _ | exact am_nl_0 | assumption | omega | (refine vi_nI ?_ ?_ <;> omega) | exact b2i_01 _ | exact Or.inl rfl | exact Or.inr rfl | (unfold vi; decide)) only [ex_131_0, ex_131_1, ex_131_4, ex_131_7, ex_131_8, ex_131_11, ex_131_14, ex_131_15, ex_131_18, ex_131_21, ex_131_22, ex_131_25, ex_131_28, ex_131_29, ex_131_32, ex_131_33, ex_131_34, ex_131_37, ex_131_38, ex_131_40, ex_131_41, ex_131_44, ex_131_47, ex_131_50, ex_131_51, ex_131_52, ex_131_53, ex_131_56, ex_131_58, ex_131_60, ex_131_61, ex_131_64, ex_131_65, ex_131_66, ex_131_67, ex_131_70, ex_131_71, ex_131_74, ex_131_76, ex_131_79, ex_131_82, ex_131_84, if_true, if_false, and_self, Option.toList_some, Option.toList_none, List.singleton_append, List.cons_append, List.nil_append, List.append_nil, nI_1, nt_e, Int32.le_refl, lives_ok shl_65 st1, b2i_0]
  unfold mealS
  cases q1 : livesI S.2.1.1 x
  · simp only [if_true]
    (try (first | exact ⟨rfl, rfl⟩ | exact ⟨rfl, trivial⟩))
  rw [if_neg (by simp)]
  simp (disch := first | exact am_nl_i _ | exact am_nl_r _ | exact am_nl_0 | assumption | omega | (refine vi_nI ?_ ?_ <;> omega) | exact b2i_01 _ | exact Or.inl rfl | exact Or.inr rfl | (unfold vi; decide)) only [ex_131_0, ex_131_1, ex_131_4, ex_131_7, ex_131_8, ex_131_11, ex_131_14, ex_131_15, ex_131_18, ex_131_21, ex_131_22, ex_131_25, ex_131_28, ex_131_29, ex_131_32, ex_131_33, ex_131_34, ex_131_37, ex_131_38, ex_131_40, ex_131_41, ex_131_44, ex_131_47, ex_131_50, ex_131_51, ex_131_52, ex_131_53, ex_131_56, ex_131_58, ex_131_60, ex_131_61, ex_131_64, ex_131_65, ex_131_66, ex_131_67, ex_131_70, ex_131_71, ex_131_74, ex_131_76, ex_131_79, ex_131_82, ex_131_84, if_true, if_false, and_self, Option.toList_some, Option.toList_none, List.singleton_append, List.cons_append, List.nil_append, List.append_nil, nI_1, nt_e, Int32.le_refl, r1, va_rfs, has_ok (sh_3_7 hL) l1.1.2.2.2 l1.2.1.2.2.2 (Nat.le_trans h5 (by decide)) h5 (by decide), b2i_0]
  rw [show decide (0 ≤ y.toInt ∧ y.toInt < (nT S.1 : Int)) = okI y (nT S.1) from rfl]
  cases q2 : okI y (nT S.1)
  · simp only [if_true]
    (try (first | exact ⟨rfl, rfl⟩ | exact ⟨rfl, trivial⟩))
  rw [if_neg (by simp)]
  refine okI_g2 (n := 1) (by decide) (fun q => ?_) (fun q => ?_)
  · rw [q]
    (try (first | exact ⟨rfl, rfl⟩ | exact ⟨rfl, trivial⟩))
  rw [q]
  obtain ⟨i1, i2⟩ := alive_ix hw q1
  obtain ⟨i3, i4⟩ := okI_ix q2
  have h6 := hW.1.2.2.1
  generalize ix x = p at *
  generalize ix y = t at *
  subst i2
  subst i4
  simp only [Bool.and_self, if_true]
  simp (disch := first | exact am_nl_i _ | exact am_nl_r _ | exact am_nl_0 | assumption | omega | (refine vi_nI ?_ ?_ <;> omega) | exact b2i_01 _ | exact Or.inl rfl | exact Or.inr rfl | (unfold vi; decide)) only [ex_131_0, ex_131_1, ex_131_4, ex_131_7, ex_131_8, ex_131_11, ex_131_14, ex_131_15, ex_131_18, ex_131_21, ex_131_22, ex_131_25, ex_131_28, ex_131_29, ex_131_32, ex_131_33, ex_131_34, ex_131_37, ex_131_38, ex_131_39, ex_131_40, ex_131_41, ex_131_44, ex_131_47, ex_131_50, ex_131_51, ex_131_52, ex_131_53, ex_131_56, ex_131_58, ex_131_60, ex_131_61, ex_131_64, ex_131_65, ex_131_66, ex_131_67, ex_131_70, ex_131_71, ex_131_74, ex_131_76, ex_131_79, ex_131_82, ex_131_84, if_true, if_false, and_self, Option.toList_some, Option.toList_none, List.singleton_append, List.cons_append, List.nil_append, List.append_nil, nI_1, nt_e, Int32.le_refl, st1.1, nI_clamp, leastMeal_ok hIc hS i3]
  have hb := best_b (ok := okMeal S.1 S.2.1.1 (eatL S.2.1.1 p) t) (lt := lighter S.1) (n := 2 ^ nP S.1) (N := 8192) (by omega)
  generalize bestF (okMeal S.1 S.2.1.1 (eatL S.2.1.1 p) t) (lighter S.1) (2 ^ nP S.1) = o at *
  cases o with
  | none =>
    rw [show ob none = -1 from rfl, if_pos rfl]
    (try (first | exact ⟨rfl, rfl⟩ | exact ⟨rfl, trivial⟩))
  | some b =>
    have := hb b rfl
    rw [if_neg (by rw [show ob (some b) = nI b from rfl, i_eqm (by omega)]; simp), mealA]
    by_cases z0 : z = 0
    · rw [if_pos z0, if_pos z0]
      simp (disch := first | exact am_nl_i _ | exact am_nl_r _ | exact am_nl_0 | assumption | omega | (refine vi_nI ?_ ?_ <;> omega) | exact b2i_01 _ | exact Or.inl rfl | exact Or.inr rfl | (unfold vi; decide)) only [ex_131_0, ex_131_1, ex_131_4, ex_131_7, ex_131_8, ex_131_11, ex_131_14, ex_131_15, ex_131_18, ex_131_21, ex_131_22, ex_131_25, ex_131_28, ex_131_29, ex_131_32, ex_131_33, ex_131_34, ex_131_37, ex_131_38, ex_131_39, ex_131_40, ex_131_41, ex_131_44, ex_131_47, ex_131_50, ex_131_51, ex_131_52, ex_131_53, ex_131_56, ex_131_58, ex_131_60, ex_131_61, ex_131_64, ex_131_65, ex_131_66, ex_131_67, ex_131_70, ex_131_71, ex_131_74, ex_131_76, ex_131_79, ex_131_82, ex_131_84, if_true, if_false, and_self, Option.toList_some, Option.toList_none, List.singleton_append, List.cons_append, List.nil_append, List.append_nil, nI_1, nt_e, Int32.le_refl, r1, va_rfs, weightOf_ok hL l1 hW]
      (try (first | exact ⟨rfl, rfl⟩ | exact ⟨rfl, trivial⟩))
    · rw [if_neg z0, if_neg z0]
      try simp (disch := first | exact am_nl_i _ | exact am_nl_r _ | exact am_nl_0 | assumption | omega | (refine vi_nI ?_ ?_ <;> omega) | exact b2i_01 _ | exact Or.inl rfl | exact Or.inr rfl | (unfold vi; decide)) only [ex_131_0, ex_131_1, ex_131_4, ex_131_7, ex_131_8, ex_131_11, ex_131_14, ex_131_15, ex_131_18, ex_131_21, ex_131_22, ex_131_25, ex_131_28, ex_131_29, ex_131_32, ex_131_33, ex_131_34, ex_131_37, ex_131_38, ex_131_39, ex_131_40, ex_131_41, ex_131_44, ex_131_47, ex_131_50, ex_131_51, ex_131_52, ex_131_53, ex_131_56, ex_131_58, ex_131_60, ex_131_61, ex_131_64, ex_131_65, ex_131_66, ex_131_67, ex_131_70, ex_131_71, ex_131_74, ex_131_76, ex_131_79, ex_131_82, ex_131_84, if_true, if_false, and_self, Option.toList_some, Option.toList_none, List.singleton_append, List.cons_append, List.nil_append, List.append_nil, nI_1, nt_e, Int32.le_refl]
      (try (first | exact ⟨rfl, rfl⟩ | exact ⟨rfl, trivial⟩))
def leastW (v : LV) (o : Option Nat) : Int32 := match o with
  | none => 0
  | some b => weightV v (nI b)
theorem R_meal {x y z : Int32} (hI : InvR u S) (hS : WS S) : Cl (d + 3) 248 [.ref 203, .int x, .int y, .int z] (am_emb u) post ↔ post (some (.int (mealS S x y z))) (am_emb (th u 0)) := by
  refine Cl_iff ?_ post
  have hI1 : InvR (th u 0) S := th_inv hI
  obtain ⟨hR, hcd, ⟨hl, hl2, hl3⟩, hp, hm, htp⟩ := hI1
  have hW := hS.1
  have hw := hS.2.1.1
  have h6 := hW.1.2.2.1
  have h5 := hW.1.2.2.2
  have h12 := hW.1.2.1
  have hp := pow_8192 h12
  have hn := hR.1.2.1
  have he : ∀ p, p < 6 → AI (th u 0) 241 p = eatL S.2.1.1 p := fun p hp => by have := hl.1 p hp; rwa [Nat.zero_add] at this
  rw [op_248]
  simp (disch := first | exact am_nl_i _ | exact am_nl_r _ | exact am_nl_0 | assumption | omega | (refine vi_nI ?_ ?_ <;> omega) | exact b2i_01 _ | exact Or.inl rfl | exact Or.inr rfl | (unfold vi; decide)) only [ex_248_0, ex_248_1, ex_248_2, ex_248_5, ex_248_6, ex_248_7, ex_248_10, ex_248_13, ex_248_14, ex_248_15, ex_248_18, ex_248_21, ex_248_22, ex_248_23, ex_248_24, ex_248_27, ex_248_30, ex_248_31, ex_248_32, ex_248_36, ex_248_37, ex_248_40, ex_248_41, ex_248_42, ex_248_43, ex_248_44, ex_248_45, ex_248_47, ex_248_48, ex_248_50, ex_248_51, ex_248_53, ex_248_54, ex_248_58, ex_248_59, ex_248_60, ex_248_63, ex_248_64, ex_248_65, ex_248_66, ex_248_69, ex_248_71, ex_248_73, ex_248_74, ex_248_75, ex_248_76, ex_248_79, ex_248_82, ex_248_83, ex_248_85, ex_248_88, ex_248_90, ex_248_92, ex_248_95, ex_248_97, ex_248_99, ex_248_102, ex_248_104, ex_248_106, ex_248_109, ex_248_111, ex_248_114, ex_248_116, ex_248_119, ex_248_122, ex_248_123, ex_248_124, ex_248_126, ex_248_127, ex_248_130, ex_248_131, ex_248_132, ex_248_133, ex_248_136, ex_248_137, ex_248_140, ex_248_143, ex_248_146, ex_248_148, ex_248_150, ex_248_152, ex_248_154, ex_248_157, ex_248_160, ex_248_162, ex_248_165, ex_248_166, ex_248_167, ex_248_170, ex_248_172, ex_248_175, ex_248_177, if_true, if_false, and_self, Option.toList_some, Option.toList_none, List.singleton_append, List.cons_append, List.nil_append, List.append_nil, nI_1, nt_e, Int32.le_refl, th_e, isAlive_ok hR hl hW hw, b2i_0]
  unfold mealS
  cases q1 : livesI S.2.1.1 x
  · simp only [if_true]
    (try (first | exact ⟨rfl, rfl⟩ | exact ⟨rfl, trivial⟩))
  rw [if_neg (by simp)]
  simp (disch := first | exact am_nl_i _ | exact am_nl_r _ | exact am_nl_0 | assumption | omega | (refine vi_nI ?_ ?_ <;> omega) | exact b2i_01 _ | exact Or.inl rfl | exact Or.inr rfl | (unfold vi; decide)) only [ex_248_0, ex_248_1, ex_248_2, ex_248_5, ex_248_6, ex_248_7, ex_248_10, ex_248_13, ex_248_14, ex_248_15, ex_248_18, ex_248_21, ex_248_22, ex_248_23, ex_248_24, ex_248_27, ex_248_30, ex_248_31, ex_248_32, ex_248_36, ex_248_37, ex_248_40, ex_248_41, ex_248_42, ex_248_43, ex_248_44, ex_248_45, ex_248_47, ex_248_48, ex_248_50, ex_248_51, ex_248_53, ex_248_54, ex_248_58, ex_248_59, ex_248_60, ex_248_63, ex_248_64, ex_248_65, ex_248_66, ex_248_69, ex_248_71, ex_248_73, ex_248_74, ex_248_75, ex_248_76, ex_248_79, ex_248_82, ex_248_83, ex_248_85, ex_248_88, ex_248_90, ex_248_92, ex_248_95, ex_248_97, ex_248_99, ex_248_102, ex_248_104, ex_248_106, ex_248_109, ex_248_111, ex_248_114, ex_248_116, ex_248_119, ex_248_122, ex_248_123, ex_248_124, ex_248_126, ex_248_127, ex_248_130, ex_248_131, ex_248_132, ex_248_133, ex_248_136, ex_248_137, ex_248_140, ex_248_143, ex_248_146, ex_248_148, ex_248_150, ex_248_152, ex_248_154, ex_248_157, ex_248_160, ex_248_162, ex_248_165, ex_248_166, ex_248_167, ex_248_170, ex_248_172, ex_248_175, ex_248_177, if_true, if_false, and_self, Option.toList_some, Option.toList_none, List.singleton_append, List.cons_append, List.nil_append, List.append_nil, nI_1, nt_e, Int32.le_refl, isTask_ok hR hW, b2i_0]
  cases q2 : okI y (nT S.1)
  · simp only [if_true]
    (try (first | exact ⟨rfl, rfl⟩ | exact ⟨rfl, trivial⟩))
  rw [if_neg (by simp)]
  simp (disch := first | exact am_nl_i _ | exact am_nl_r _ | exact am_nl_0 | assumption | omega | (refine vi_nI ?_ ?_ <;> omega) | exact b2i_01 _ | exact Or.inl rfl | exact Or.inr rfl | (unfold vi; decide)) only [ex_248_0, ex_248_1, ex_248_2, ex_248_5, ex_248_6, ex_248_7, ex_248_10, ex_248_13, ex_248_14, ex_248_15, ex_248_18, ex_248_21, ex_248_22, ex_248_23, ex_248_24, ex_248_27, ex_248_30, ex_248_31, ex_248_32, ex_248_36, ex_248_37, ex_248_40, ex_248_41, ex_248_42, ex_248_43, ex_248_44, ex_248_45, ex_248_47, ex_248_48, ex_248_50, ex_248_51, ex_248_53, ex_248_54, ex_248_58, ex_248_59, ex_248_60, ex_248_63, ex_248_64, ex_248_65, ex_248_66, ex_248_69, ex_248_71, ex_248_73, ex_248_74, ex_248_75, ex_248_76, ex_248_79, ex_248_82, ex_248_83, ex_248_85, ex_248_88, ex_248_90, ex_248_92, ex_248_95, ex_248_97, ex_248_99, ex_248_102, ex_248_104, ex_248_106, ex_248_109, ex_248_111, ex_248_114, ex_248_116, ex_248_119, ex_248_122, ex_248_123, ex_248_124, ex_248_126, ex_248_127, ex_248_130, ex_248_131, ex_248_132, ex_248_133, ex_248_136, ex_248_137, ex_248_140, ex_248_143, ex_248_146, ex_248_148, ex_248_150, ex_248_152, ex_248_154, ex_248_157, ex_248_160, ex_248_162, ex_248_165, ex_248_166, ex_248_167, ex_248_170, ex_248_172, ex_248_175, ex_248_177, if_true, if_false, and_self, Option.toList_some, Option.toList_none, List.singleton_append, List.cons_append, List.nil_append, List.append_nil, nI_1, nt_e, Int32.le_refl, within_ok, b2i_0, show (1 : Int32) = nI 1 from rfl, within_okI (n := 1) (by decide) rfl]
  rw [show (1 + 1) = 2 from rfl]
  cases q3 : okI z 2
  · simp only [if_true]
    (try (first | exact ⟨rfl, rfl⟩ | exact ⟨rfl, trivial⟩))
  rw [if_neg (by simp)]
  obtain ⟨i1, i2⟩ := alive_ix hw q1
  obtain ⟨i3, i4⟩ := okI_ix q2
  have hzz : z = 0 ∨ z = 1 := by
    obtain ⟨k, hk, rfl⟩ := what_in q3
    match k, hk with
    | 0, _ => exact Or.inl rfl
    | 1, _ => exact Or.inr rfl
  generalize ix x = p at *
  generalize ix y = t at *
  subst i2
  subst i4
  simp only [Bool.and_self, if_true]
  have e1 := he p (by omega)
  have loop : ∀ (kz k : Nat) (j8 : Option Value), k + kz = 2 ^ nP S.1 → Ex (d + 3) 248 56 [some (.ref 203), some (.int (nI p)), some (.int (nI t)), some (.int z), some (.int (inStockL S.2.1.1 &&& nt (eatL S.2.1.1 p))), some (.int (ob (bestF (okMeal S.1 S.2.1.1 (eatL S.2.1.1 p) t) (lighter S.1) k))), some (.int (leastW S.1 (bestF (okMeal S.1 S.2.1.1 (eatL S.2.1.1 p) t) (lighter S.1) k))), some (.int (nI k)), j8] [] (am_emb (th u 0)) (fun w n => w = some (.int (mealA S.1 (bestF (okMeal S.1 S.2.1.1 (eatL S.2.1.1 p) t) (lighter S.1) (2 ^ nP S.1)) z)) ∧ n = am_emb (th u 0)) := by
    intro kz
    induction kz with
    | zero =>
      intro k j8 hk
      obtain rfl : k = 2 ^ nP S.1 := by omega
      have hb := best_b (ok := okMeal S.1 S.2.1.1 (eatL S.2.1.1 p) t) (lt := lighter S.1) (n := 2 ^ nP S.1) (N := 8192) (by omega)
      rw [ex_248_56]
      simp (disch := first | exact am_nl_i _ | exact am_nl_r _ | exact am_nl_0 | (refine vi_nI ?_ ?_ <;> omega) | assumption | omega | exact b2i_01 _ | exact Or.inl rfl | exact Or.inr rfl | (unfold vi; decide)) only [ex_248_0, ex_248_1, ex_248_2, ex_248_5, ex_248_6, ex_248_7, ex_248_10, ex_248_13, ex_248_14, ex_248_15, ex_248_18, ex_248_21, ex_248_22, ex_248_23, ex_248_24, ex_248_27, ex_248_30, ex_248_31, ex_248_32, ex_248_33, ex_248_36, ex_248_37, ex_248_40, ex_248_41, ex_248_42, ex_248_43, ex_248_44, ex_248_45, ex_248_47, ex_248_48, ex_248_50, ex_248_51, ex_248_53, ex_248_54, ex_248_58, ex_248_59, ex_248_60, ex_248_63, ex_248_64, ex_248_65, ex_248_66, ex_248_71, ex_248_73, ex_248_74, ex_248_75, ex_248_76, ex_248_79, ex_248_82, ex_248_83, ex_248_85, ex_248_88, ex_248_90, ex_248_92, ex_248_95, ex_248_97, ex_248_99, ex_248_102, ex_248_104, ex_248_106, ex_248_109, ex_248_111, ex_248_114, ex_248_116, ex_248_119, ex_248_122, ex_248_123, ex_248_124, ex_248_126, ex_248_127, ex_248_130, ex_248_131, ex_248_132, ex_248_133, ex_248_136, ex_248_137, ex_248_140, ex_248_143, ex_248_146, ex_248_148, ex_248_150, ex_248_152, ex_248_154, ex_248_157, ex_248_160, ex_248_162, ex_248_165, ex_248_166, ex_248_167, ex_248_170, ex_248_172, ex_248_175, ex_248_177, if_true, if_false, and_self, Option.toList_some, Option.toList_none, List.singleton_append, List.cons_append, List.nil_append, List.append_nil, nI_1, nt_e, Int32.le_refl, c1, hn, bi_e, pow_nI h12, nI_leI, Nat.le_refl, Bool.true_eq_false, Bool.false_eq_true, ↓reduceIte]
      generalize bestF (okMeal S.1 S.2.1.1 (eatL S.2.1.1 p) t) (lighter S.1) (2 ^ nP S.1) = o at *
      cases o with
      | none =>
        rw [if_pos (by decide)]
        (try (first | exact ⟨rfl, rfl⟩ | exact ⟨rfl, trivial⟩))
      | some b =>
        have := hb b rfl
        rw [if_neg (by rw [show ob (some b) = nI b from rfl, i_lt0 (by omega)]; simp)]
        rcases hzz with rfl | rfl
        · rw [if_neg (by decide)]
          (try (first | exact ⟨rfl, rfl⟩ | exact ⟨rfl, trivial⟩))
        · rw [if_pos rfl]
          (try (first | exact ⟨rfl, rfl⟩ | exact ⟨rfl, trivial⟩))
    | succ kz ih =>
      intro k j8 hk
      have ih := fun j8 => ih (k + 1) j8 (by omega)
      have hb := best_b (ok := okMeal S.1 S.2.1.1 (eatL S.2.1.1 p) t) (lt := lighter S.1) (n := k) (N := 8192) (by omega)
      have hnle : ¬ 2 ^ nP S.1 ≤ k := by omega
      have hs : ∀ o' w j8, o' = bestF (okMeal S.1 S.2.1.1 (eatL S.2.1.1 p) t) (lighter S.1) (k + 1) → w = leastW S.1 o' → Ex (d + 3) 248 154 [some (.ref 203), some (.int (nI p)), some (.int (nI t)), some (.int z), some (.int (inStockL S.2.1.1 &&& nt (eatL S.2.1.1 p))), some (.int (ob o')), some (.int w), some (.int (nI k)), j8] [] (am_emb (th u 0)) (fun w n => w = some (.int (mealA S.1 (bestF (okMeal S.1 S.2.1.1 (eatL S.2.1.1 p) t) (lighter S.1) (2 ^ nP S.1)) z)) ∧ n = am_emb (th u 0)) := by
        intro o' w j8 e e2
        simp (disch := first | exact am_nl_i _ | exact am_nl_r _ | exact am_nl_0 | assumption | omega | (refine vi_nI ?_ ?_ <;> omega) | exact b2i_01 _ | exact Or.inl rfl | exact Or.inr rfl | (unfold vi; decide)) only [ex_248_0, ex_248_1, ex_248_2, ex_248_5, ex_248_6, ex_248_7, ex_248_10, ex_248_13, ex_248_14, ex_248_15, ex_248_18, ex_248_21, ex_248_22, ex_248_23, ex_248_24, ex_248_27, ex_248_30, ex_248_31, ex_248_32, ex_248_33, ex_248_36, ex_248_37, ex_248_40, ex_248_41, ex_248_42, ex_248_43, ex_248_44, ex_248_45, ex_248_47, ex_248_48, ex_248_50, ex_248_51, ex_248_53, ex_248_54, ex_248_58, ex_248_59, ex_248_60, ex_248_63, ex_248_64, ex_248_65, ex_248_66, ex_248_69, ex_248_71, ex_248_73, ex_248_74, ex_248_75, ex_248_76, ex_248_79, ex_248_82, ex_248_83, ex_248_85, ex_248_88, ex_248_90, ex_248_92, ex_248_95, ex_248_97, ex_248_99, ex_248_102, ex_248_104, ex_248_106, ex_248_109, ex_248_111, ex_248_114, ex_248_116, ex_248_119, ex_248_122, ex_248_123, ex_248_124, ex_248_126, ex_248_127, ex_248_130, ex_248_131, ex_248_132, ex_248_133, ex_248_136, ex_248_137, ex_248_140, ex_248_143, ex_248_146, ex_248_148, ex_248_150, ex_248_152, ex_248_154, ex_248_157, ex_248_160, ex_248_162, ex_248_165, ex_248_166, ex_248_167, ex_248_170, ex_248_172, ex_248_175, ex_248_177, if_true, if_false, and_self, Option.toList_some, Option.toList_none, List.singleton_append, List.cons_append, List.nil_append, List.append_nil, nI_1, nt_e, Int32.le_refl]
        rw [e2, e]
        exact ih j8
      rw [bestF] at hs
      generalize bestF (okMeal S.1 S.2.1.1 (eatL S.2.1.1 p) t) (lighter S.1) k = o at *
      have tail : o.all (fun b => lighter S.1 k b) = true → nI k &&& nt (inStockL S.2.1.1 &&& nt (eatL S.2.1.1 p)) = 0 → Ex (d + 3) 248 122 [some (.ref 203), some (.int (nI p)), some (.int (nI t)), some (.int z), some (.int (inStockL S.2.1.1 &&& nt (eatL S.2.1.1 p))), some (.int (ob o)), some (.int (leastW S.1 o)), some (.int (nI k)), some (.int (weightV S.1 (nI k)))] [] (am_emb (th u 0)) (fun w n => w = some (.int (mealA S.1 (bestF (okMeal S.1 S.2.1.1 (eatL S.2.1.1 p) t) (lighter S.1) (2 ^ nP S.1)) z)) ∧ n = am_emb (th u 0)) := by
        intro q2 q1
        have hcan := tasks_bt hW (s := knowsV S.1 (eatL S.2.1.1 p ||| nI k)) t i3
        cases q3 : bt (tasksV S.1 (knowsV S.1 (eatL S.2.1.1 p ||| nI k))) t
        · rw [q3] at hcan
          simp (disch := first | exact am_nl_i _ | exact am_nl_r _ | exact am_nl_0 | (refine vi_nI ?_ ?_ <;> omega) | assumption | omega | exact b2i_01 _ | exact Or.inl rfl | exact Or.inr rfl | (unfold vi; decide)) only [ex_248_0, ex_248_1, ex_248_2, ex_248_5, ex_248_6, ex_248_7, ex_248_10, ex_248_13, ex_248_14, ex_248_15, ex_248_18, ex_248_21, ex_248_22, ex_248_23, ex_248_24, ex_248_27, ex_248_30, ex_248_31, ex_248_32, ex_248_33, ex_248_36, ex_248_37, ex_248_40, ex_248_41, ex_248_42, ex_248_43, ex_248_44, ex_248_45, ex_248_47, ex_248_48, ex_248_50, ex_248_51, ex_248_53, ex_248_54, ex_248_56, ex_248_58, ex_248_59, ex_248_60, ex_248_63, ex_248_64, ex_248_65, ex_248_66, ex_248_69, ex_248_71, ex_248_73, ex_248_74, ex_248_75, ex_248_76, ex_248_79, ex_248_82, ex_248_83, ex_248_85, ex_248_88, ex_248_90, ex_248_92, ex_248_95, ex_248_97, ex_248_99, ex_248_102, ex_248_104, ex_248_106, ex_248_109, ex_248_111, ex_248_114, ex_248_116, ex_248_119, ex_248_122, ex_248_123, ex_248_124, ex_248_126, ex_248_127, ex_248_130, ex_248_131, ex_248_132, ex_248_133, ex_248_136, ex_248_137, ex_248_140, ex_248_143, ex_248_146, ex_248_148, ex_248_150, ex_248_152, ex_248_157, ex_248_160, ex_248_162, ex_248_165, ex_248_166, ex_248_167, ex_248_170, ex_248_172, ex_248_175, ex_248_177, if_true, if_false, and_self, Option.toList_some, Option.toList_none, List.singleton_append, List.cons_append, List.nil_append, List.append_nil, nI_1, nt_e, Int32.le_refl, nI_clamp, e1, or_cm (nI k), knows_ok hR hW, canBy_ok hR hW i3, ← hcan, b2i_0, Bool.true_eq_false, Bool.false_eq_true, ↓reduceIte]
          exact hs _ _ _ (by rw [okMeal, q3]; simp) rfl
        · rw [q3] at hcan
          simp (disch := first | exact am_nl_i _ | exact am_nl_r _ | exact am_nl_0 | (refine vi_nI ?_ ?_ <;> omega) | assumption | omega | exact b2i_01 _ | exact Or.inl rfl | exact Or.inr rfl | (unfold vi; decide)) only [ex_248_0, ex_248_1, ex_248_2, ex_248_5, ex_248_6, ex_248_7, ex_248_10, ex_248_13, ex_248_14, ex_248_15, ex_248_18, ex_248_21, ex_248_22, ex_248_23, ex_248_24, ex_248_27, ex_248_30, ex_248_31, ex_248_32, ex_248_33, ex_248_36, ex_248_37, ex_248_40, ex_248_41, ex_248_42, ex_248_43, ex_248_44, ex_248_45, ex_248_47, ex_248_48, ex_248_50, ex_248_51, ex_248_53, ex_248_54, ex_248_56, ex_248_58, ex_248_59, ex_248_60, ex_248_63, ex_248_64, ex_248_65, ex_248_66, ex_248_69, ex_248_71, ex_248_73, ex_248_74, ex_248_75, ex_248_76, ex_248_79, ex_248_82, ex_248_83, ex_248_85, ex_248_88, ex_248_90, ex_248_92, ex_248_95, ex_248_97, ex_248_99, ex_248_102, ex_248_104, ex_248_106, ex_248_109, ex_248_111, ex_248_114, ex_248_116, ex_248_119, ex_248_122, ex_248_123, ex_248_124, ex_248_126, ex_248_127, ex_248_130, ex_248_131, ex_248_132, ex_248_133, ex_248_136, ex_248_137, ex_248_140, ex_248_143, ex_248_146, ex_248_148, ex_248_150, ex_248_152, ex_248_157, ex_248_160, ex_248_162, ex_248_165, ex_248_166, ex_248_167, ex_248_170, ex_248_172, ex_248_175, ex_248_177, if_true, if_false, and_self, Option.toList_some, Option.toList_none, List.singleton_append, List.cons_append, List.nil_append, List.append_nil, nI_1, nt_e, Int32.le_refl, nI_clamp, e1, or_cm (nI k), knows_ok hR hW, canBy_ok hR hW i3, ← hcan, b2i_0, Bool.true_eq_false, Bool.false_eq_true, ↓reduceIte]
          exact hs (some k) _ _ (by rw [q2, okMeal, decide_eq_true q1, q3]; rfl) rfl
      rw [ex_248_56]
      by_cases q1 : nI k &&& nt (inStockL S.2.1.1 &&& nt (eatL S.2.1.1 p)) = 0
      · cases o with
        | none =>
          simp (disch := first | exact am_nl_i _ | exact am_nl_r _ | exact am_nl_0 | (refine vi_nI ?_ ?_ <;> omega) | assumption | omega | exact b2i_01 _ | exact Or.inl rfl | exact Or.inr rfl | (unfold vi; decide)) only [ex_248_0, ex_248_1, ex_248_2, ex_248_5, ex_248_6, ex_248_7, ex_248_10, ex_248_13, ex_248_14, ex_248_15, ex_248_18, ex_248_21, ex_248_22, ex_248_23, ex_248_24, ex_248_27, ex_248_30, ex_248_31, ex_248_32, ex_248_33, ex_248_36, ex_248_37, ex_248_40, ex_248_41, ex_248_42, ex_248_43, ex_248_44, ex_248_45, ex_248_47, ex_248_48, ex_248_50, ex_248_51, ex_248_53, ex_248_54, ex_248_58, ex_248_59, ex_248_60, ex_248_63, ex_248_64, ex_248_65, ex_248_66, ex_248_69, ex_248_71, ex_248_73, ex_248_74, ex_248_75, ex_248_76, ex_248_79, ex_248_82, ex_248_83, ex_248_85, ex_248_88, ex_248_90, ex_248_92, ex_248_95, ex_248_97, ex_248_99, ex_248_102, ex_248_104, ex_248_106, ex_248_109, ex_248_111, ex_248_114, ex_248_116, ex_248_119, ex_248_123, ex_248_124, ex_248_126, ex_248_127, ex_248_130, ex_248_131, ex_248_132, ex_248_133, ex_248_136, ex_248_137, ex_248_140, ex_248_143, ex_248_146, ex_248_148, ex_248_150, ex_248_152, ex_248_157, ex_248_162, ex_248_165, ex_248_166, ex_248_167, ex_248_170, ex_248_172, ex_248_175, ex_248_177, if_true, if_false, and_self, Option.toList_some, Option.toList_none, List.singleton_append, List.cons_append, List.nil_append, List.append_nil, nI_1, nt_e, Int32.le_refl, c1, hn, bi_e, pow_nI h12, nI_leI, hnle, q1, show ob none = -1 from rfl, show ((-1 : Int32) < (0 : Int32)) = True from eq_true (by decide), weightOfR_ok hR hW, Bool.true_eq_false, Bool.false_eq_true, ↓reduceIte]
          exact tail rfl q1
        | some b =>
          have hb8 := hb b rfl
          rw [show leastW S.1 (some b) = weightV S.1 (nI b) from rfl] at tail
          rw [show leastW S.1 (some b) = weightV S.1 (nI b) from rfl]
          by_cases q4 : weightV S.1 (nI b) < weightV S.1 (nI k)
          · have n1 : ¬ weightV S.1 (nI k) < weightV S.1 (nI b) := fun q => by rw [Int32.lt_iff_toInt_lt] at q q4; omega
            have n2 : ¬ weightV S.1 (nI k) = weightV S.1 (nI b) := fun q => by rw [q] at n1 q4; exact n1 q4
            simp (disch := first | exact am_nl_i _ | exact am_nl_r _ | exact am_nl_0 | (refine vi_nI ?_ ?_ <;> omega) | assumption | omega | exact b2i_01 _ | exact Or.inl rfl | exact Or.inr rfl | (unfold vi; decide)) only [ex_248_0, ex_248_1, ex_248_2, ex_248_5, ex_248_6, ex_248_7, ex_248_10, ex_248_13, ex_248_14, ex_248_15, ex_248_18, ex_248_21, ex_248_22, ex_248_23, ex_248_24, ex_248_27, ex_248_30, ex_248_31, ex_248_32, ex_248_33, ex_248_36, ex_248_37, ex_248_40, ex_248_41, ex_248_42, ex_248_43, ex_248_44, ex_248_45, ex_248_47, ex_248_48, ex_248_50, ex_248_51, ex_248_53, ex_248_54, ex_248_58, ex_248_59, ex_248_60, ex_248_63, ex_248_64, ex_248_65, ex_248_66, ex_248_69, ex_248_71, ex_248_73, ex_248_74, ex_248_75, ex_248_76, ex_248_79, ex_248_82, ex_248_83, ex_248_85, ex_248_88, ex_248_90, ex_248_92, ex_248_95, ex_248_97, ex_248_99, ex_248_102, ex_248_104, ex_248_106, ex_248_109, ex_248_111, ex_248_114, ex_248_116, ex_248_119, ex_248_123, ex_248_124, ex_248_126, ex_248_127, ex_248_130, ex_248_131, ex_248_132, ex_248_133, ex_248_136, ex_248_137, ex_248_140, ex_248_143, ex_248_146, ex_248_148, ex_248_150, ex_248_152, ex_248_157, ex_248_162, ex_248_165, ex_248_166, ex_248_167, ex_248_170, ex_248_172, ex_248_175, ex_248_177, if_true, if_false, and_self, Option.toList_some, Option.toList_none, List.singleton_append, List.cons_append, List.nil_append, List.append_nil, nI_1, nt_e, Int32.le_refl, c1, hn, bi_e, pow_nI h12, nI_leI, hnle, q1, show ob (some b) = nI b from rfl, i_lt0, weightOfR_ok hR hW, q4, Bool.true_eq_false, Bool.false_eq_true, ↓reduceIte]
            exact hs (some b) _ _ (by rw [Option.all_some, lighter, decide_eq_false n1, decide_eq_false n2]; simp) rfl
          · by_cases q5 : weightV S.1 (nI k) = weightV S.1 (nI b)
            · by_cases q6 : bitsV (nI b) ≤ bitsV (nI k)
              · simp (disch := first | exact am_nl_i _ | exact am_nl_r _ | exact am_nl_0 | (refine vi_nI ?_ ?_ <;> omega) | assumption | omega | exact b2i_01 _ | exact Or.inl rfl | exact Or.inr rfl | (unfold vi; decide)) only [ex_248_0, ex_248_1, ex_248_2, ex_248_5, ex_248_6, ex_248_7, ex_248_10, ex_248_13, ex_248_14, ex_248_15, ex_248_18, ex_248_21, ex_248_22, ex_248_23, ex_248_24, ex_248_27, ex_248_30, ex_248_31, ex_248_32, ex_248_33, ex_248_36, ex_248_37, ex_248_40, ex_248_41, ex_248_42, ex_248_43, ex_248_44, ex_248_45, ex_248_47, ex_248_48, ex_248_50, ex_248_51, ex_248_53, ex_248_54, ex_248_58, ex_248_59, ex_248_60, ex_248_63, ex_248_64, ex_248_65, ex_248_66, ex_248_69, ex_248_71, ex_248_73, ex_248_74, ex_248_75, ex_248_76, ex_248_79, ex_248_82, ex_248_83, ex_248_85, ex_248_88, ex_248_90, ex_248_92, ex_248_95, ex_248_97, ex_248_99, ex_248_102, ex_248_104, ex_248_106, ex_248_109, ex_248_111, ex_248_114, ex_248_116, ex_248_119, ex_248_123, ex_248_124, ex_248_126, ex_248_127, ex_248_130, ex_248_131, ex_248_132, ex_248_133, ex_248_136, ex_248_137, ex_248_140, ex_248_143, ex_248_146, ex_248_148, ex_248_150, ex_248_152, ex_248_157, ex_248_162, ex_248_165, ex_248_166, ex_248_167, ex_248_170, ex_248_172, ex_248_175, ex_248_177, if_true, if_false, and_self, Option.toList_some, Option.toList_none, List.singleton_append, List.cons_append, List.nil_append, List.append_nil, nI_1, nt_e, Int32.le_refl, c1, hn, bi_e, pow_nI h12, nI_leI, hnle, q1, show ob (some b) = nI b from rfl, i_lt0, weightOfR_ok hR hW, q5, Int32.lt_irrefl, bits_ok, q6, Bool.true_eq_false, Bool.false_eq_true, ↓reduceIte]
                exact hs (some b) _ _ (by rw [Option.all_some, lighter, q5, few, decide_eq_false (Int32.not_lt.mpr q6), decide_eq_false (Int32.lt_irrefl)]; simp) rfl
              · simp (disch := first | exact am_nl_i _ | exact am_nl_r _ | exact am_nl_0 | (refine vi_nI ?_ ?_ <;> omega) | assumption | omega | exact b2i_01 _ | exact Or.inl rfl | exact Or.inr rfl | (unfold vi; decide)) only [ex_248_0, ex_248_1, ex_248_2, ex_248_5, ex_248_6, ex_248_7, ex_248_10, ex_248_13, ex_248_14, ex_248_15, ex_248_18, ex_248_21, ex_248_22, ex_248_23, ex_248_24, ex_248_27, ex_248_30, ex_248_31, ex_248_32, ex_248_33, ex_248_36, ex_248_37, ex_248_40, ex_248_41, ex_248_42, ex_248_43, ex_248_44, ex_248_45, ex_248_47, ex_248_48, ex_248_50, ex_248_51, ex_248_53, ex_248_54, ex_248_58, ex_248_59, ex_248_60, ex_248_63, ex_248_64, ex_248_65, ex_248_66, ex_248_69, ex_248_71, ex_248_73, ex_248_74, ex_248_75, ex_248_76, ex_248_79, ex_248_82, ex_248_83, ex_248_85, ex_248_88, ex_248_90, ex_248_92, ex_248_95, ex_248_97, ex_248_99, ex_248_102, ex_248_104, ex_248_106, ex_248_109, ex_248_111, ex_248_114, ex_248_116, ex_248_119, ex_248_123, ex_248_124, ex_248_126, ex_248_127, ex_248_130, ex_248_131, ex_248_132, ex_248_133, ex_248_136, ex_248_137, ex_248_140, ex_248_143, ex_248_146, ex_248_148, ex_248_150, ex_248_152, ex_248_157, ex_248_162, ex_248_165, ex_248_166, ex_248_167, ex_248_170, ex_248_172, ex_248_175, ex_248_177, if_true, if_false, and_self, Option.toList_some, Option.toList_none, List.singleton_append, List.cons_append, List.nil_append, List.append_nil, nI_1, nt_e, Int32.le_refl, c1, hn, bi_e, pow_nI h12, nI_leI, hnle, q1, show ob (some b) = nI b from rfl, i_lt0, weightOfR_ok hR hW, q5, Int32.lt_irrefl, bits_ok, q6, Bool.true_eq_false, Bool.false_eq_true, ↓reduceIte]
                have := tail (by rw [Option.all_some, lighter, q5, few, decide_eq_true (Int32.not_le.mp q6)]; simp) q1
                rw [q5] at this
                exact this
            · simp (disch := first | exact am_nl_i _ | exact am_nl_r _ | exact am_nl_0 | (refine vi_nI ?_ ?_ <;> omega) | assumption | omega | exact b2i_01 _ | exact Or.inl rfl | exact Or.inr rfl | (unfold vi; decide)) only [ex_248_0, ex_248_1, ex_248_2, ex_248_5, ex_248_6, ex_248_7, ex_248_10, ex_248_13, ex_248_14, ex_248_15, ex_248_18, ex_248_21, ex_248_22, ex_248_23, ex_248_24, ex_248_27, ex_248_30, ex_248_31, ex_248_32, ex_248_33, ex_248_36, ex_248_37, ex_248_40, ex_248_41, ex_248_42, ex_248_43, ex_248_44, ex_248_45, ex_248_47, ex_248_48, ex_248_50, ex_248_51, ex_248_53, ex_248_54, ex_248_58, ex_248_59, ex_248_60, ex_248_63, ex_248_64, ex_248_65, ex_248_66, ex_248_69, ex_248_71, ex_248_73, ex_248_74, ex_248_75, ex_248_76, ex_248_79, ex_248_82, ex_248_83, ex_248_85, ex_248_88, ex_248_90, ex_248_92, ex_248_95, ex_248_97, ex_248_99, ex_248_102, ex_248_104, ex_248_106, ex_248_109, ex_248_111, ex_248_114, ex_248_116, ex_248_119, ex_248_123, ex_248_124, ex_248_126, ex_248_127, ex_248_130, ex_248_131, ex_248_132, ex_248_133, ex_248_136, ex_248_137, ex_248_140, ex_248_143, ex_248_146, ex_248_148, ex_248_150, ex_248_152, ex_248_157, ex_248_162, ex_248_165, ex_248_166, ex_248_167, ex_248_170, ex_248_172, ex_248_175, ex_248_177, if_true, if_false, and_self, Option.toList_some, Option.toList_none, List.singleton_append, List.cons_append, List.nil_append, List.append_nil, nI_1, nt_e, Int32.le_refl, c1, hn, bi_e, pow_nI h12, nI_leI, hnle, q1, show ob (some b) = nI b from rfl, i_lt0, weightOfR_ok hR hW, q4, q5, Bool.true_eq_false, Bool.false_eq_true, ↓reduceIte]
              exact tail (by rw [Option.all_some, lighter, decide_eq_true (lt_tri q4 q5)]; rfl) q1
      · simp (disch := first | exact am_nl_i _ | exact am_nl_r _ | exact am_nl_0 | (refine vi_nI ?_ ?_ <;> omega) | assumption | omega | exact b2i_01 _ | exact Or.inl rfl | exact Or.inr rfl | (unfold vi; decide)) only [ex_248_0, ex_248_1, ex_248_2, ex_248_5, ex_248_6, ex_248_7, ex_248_10, ex_248_13, ex_248_14, ex_248_15, ex_248_18, ex_248_21, ex_248_22, ex_248_23, ex_248_24, ex_248_27, ex_248_30, ex_248_31, ex_248_32, ex_248_33, ex_248_36, ex_248_37, ex_248_40, ex_248_41, ex_248_42, ex_248_43, ex_248_44, ex_248_45, ex_248_47, ex_248_48, ex_248_50, ex_248_51, ex_248_53, ex_248_54, ex_248_58, ex_248_59, ex_248_60, ex_248_63, ex_248_64, ex_248_65, ex_248_66, ex_248_69, ex_248_71, ex_248_73, ex_248_74, ex_248_75, ex_248_76, ex_248_79, ex_248_82, ex_248_83, ex_248_85, ex_248_88, ex_248_90, ex_248_92, ex_248_95, ex_248_97, ex_248_99, ex_248_102, ex_248_104, ex_248_106, ex_248_109, ex_248_111, ex_248_114, ex_248_116, ex_248_119, ex_248_123, ex_248_124, ex_248_126, ex_248_127, ex_248_130, ex_248_131, ex_248_132, ex_248_133, ex_248_136, ex_248_137, ex_248_140, ex_248_143, ex_248_146, ex_248_148, ex_248_150, ex_248_152, ex_248_157, ex_248_162, ex_248_165, ex_248_166, ex_248_167, ex_248_170, ex_248_172, ex_248_175, ex_248_177, if_true, if_false, and_self, Option.toList_some, Option.toList_none, List.singleton_append, List.cons_append, List.nil_append, List.append_nil, nI_1, nt_e, Int32.le_refl, c1, hn, bi_e, pow_nI h12, nI_leI, hnle, q1, Bool.true_eq_false, Bool.false_eq_true, ↓reduceIte]
        exact hs _ _ _ (by rw [okMeal, decide_eq_false q1]; simp) rfl
  simp (disch := first | exact am_nl_i _ | exact am_nl_r _ | exact am_nl_0 | assumption | omega | (refine vi_nI ?_ ?_ <;> omega) | exact b2i_01 _ | exact Or.inl rfl | exact Or.inr rfl | (unfold vi; decide)) only [ex_248_0, ex_248_1, ex_248_2, ex_248_5, ex_248_6, ex_248_7, ex_248_10, ex_248_13, ex_248_14, ex_248_15, ex_248_18, ex_248_21, ex_248_22, ex_248_23, ex_248_24, ex_248_27, ex_248_30, ex_248_31, ex_248_32, ex_248_33, ex_248_36, ex_248_37, ex_248_40, ex_248_41, ex_248_42, ex_248_43, ex_248_44, ex_248_45, ex_248_47, ex_248_48, ex_248_50, ex_248_51, ex_248_53, ex_248_54, ex_248_58, ex_248_59, ex_248_60, ex_248_63, ex_248_64, ex_248_65, ex_248_66, ex_248_69, ex_248_71, ex_248_73, ex_248_74, ex_248_75, ex_248_76, ex_248_79, ex_248_82, ex_248_83, ex_248_85, ex_248_88, ex_248_90, ex_248_92, ex_248_95, ex_248_97, ex_248_99, ex_248_102, ex_248_104, ex_248_106, ex_248_109, ex_248_111, ex_248_114, ex_248_116, ex_248_119, ex_248_122, ex_248_123, ex_248_124, ex_248_126, ex_248_127, ex_248_130, ex_248_131, ex_248_132, ex_248_133, ex_248_136, ex_248_137, ex_248_140, ex_248_143, ex_248_146, ex_248_148, ex_248_150, ex_248_152, ex_248_154, ex_248_157, ex_248_160, ex_248_162, ex_248_165, ex_248_166, ex_248_167, ex_248_170, ex_248_172, ex_248_175, ex_248_177, if_true, if_false, and_self, Option.toList_some, Option.toList_none, List.singleton_append, List.cons_append, List.nil_append, List.append_nil, nI_1, nt_e, Int32.le_refl, withCopies_ok hR hl hW hw, nI_clamp, e1]
  have := loop (2 ^ nP S.1) 0 none (by omega)
  exact this
end Meal
