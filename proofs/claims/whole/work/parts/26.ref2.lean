/-! THE REFERENCE'S LEAVES: what is asked -/
theorem c0 : (0 : Int32).toNatClampNeg = 0 := rfl
theorem c1 : (1 : Int32).toNatClampNeg = 1 := rfl
theorem c2 : (2 : Int32).toNatClampNeg = 2 := rfl
theorem c3 : (3 : Int32).toNatClampNeg = 3 := rfl
theorem c4 : (4 : Int32).toNatClampNeg = 4 := rfl
theorem c5 : (5 : Int32).toNatClampNeg = 5 := rfl
theorem c12 : (12 : Int32).toNatClampNeg = 12 := rfl
theorem c25 : (25 : Int32).toNatClampNeg = 25 := rfl
theorem c26 : (26 : Int32).toNatClampNeg = 26 := rfl
section RefLeaves2
variable {d : Nat} {u : am_U} {m : am_M} {v : LV} {l : LF} {post : Option Value → am_M → Prop}
theorem believes_ok {s : Int32} (hR : LibR u v) (hW : WF v) : Cl d 216 [.ref 203, .int s] (am_emb u) post ↔ post (some (.int (believesV v s))) (am_emb u) := by
  refine Cl_iff ?_ post
  have h12 := hW.1.2.1
  have hn := hR.1.2.1
  have hs := hR.2.2.2.2.2.2.1
  rw [op_216]
  have loop : ∀ (kz i : Nat), i + kz = nP v → Ex d 216 4 [some (.ref 203), some (.int s), some (.int (orF i (fun i => if bt s i then saysV v i else 0))), some (.int (nI i))] [] (am_emb u) (fun w m => w = some (.int (believesV v s)) ∧ m = am_emb u) := by
    intro kz
    induction kz with
    | zero =>
      intro i h1
      obtain rfl : i = nP v := by omega
      rw [ex_216_4]
      simp (disch := first | exact am_nl_i _ | exact am_nl_r _ | exact am_nl_0 | assumption | omega | (refine vi_nI ?_ ?_ <;> omega) | exact b2i_01 _ | exact Or.inl rfl | exact Or.inr rfl | (unfold vi; decide)) only [ex_216_0, ex_216_1, ex_216_2, ex_216_3, ex_216_5, ex_216_6, ex_216_9, ex_216_10, ex_216_11, ex_216_14, ex_216_15, ex_216_16, ex_216_17, ex_216_18, ex_216_19, ex_216_20, ex_216_21, ex_216_24, ex_216_25, ex_216_28, ex_216_29, ex_216_30, ex_216_33, ex_216_34, ex_216_35, ex_216_36, ex_216_39, ex_216_42, ex_216_43, if_true, if_false, and_self, Option.toList_some, Option.toList_none, List.singleton_append, List.cons_append, List.nil_append, List.append_nil, nI_1, nt_e, Int32.le_refl, c1, hn, hs]
      exact ⟨rfl, trivial⟩
    | succ kz ih =>
      intro i h1
      have hlt : i < nP v := by omega
      have hnle : ¬ nP v ≤ i := by omega
      have h2 := ih (i + 1) (by omega)
      rw [ex_216_4]
      simp (disch := first | exact am_nl_i _ | exact am_nl_r _ | exact am_nl_0 | assumption | omega | (refine vi_nI ?_ ?_ <;> omega) | exact b2i_01 _ | exact Or.inl rfl | exact Or.inr rfl | (unfold vi; decide)) only [ex_216_0, ex_216_1, ex_216_2, ex_216_3, ex_216_5, ex_216_6, ex_216_9, ex_216_10, ex_216_11, ex_216_14, ex_216_15, ex_216_16, ex_216_17, ex_216_18, ex_216_19, ex_216_20, ex_216_21, ex_216_24, ex_216_25, ex_216_28, ex_216_29, ex_216_30, ex_216_33, ex_216_34, ex_216_35, ex_216_36, ex_216_39, ex_216_42, ex_216_43, if_true, if_false, and_self, Option.toList_some, Option.toList_none, List.singleton_append, List.cons_append, List.nil_append, List.append_nil, nI_1, nt_e, Int32.le_refl, nI_leI, nI_ltI, hlt, hnle, bit_e, bi_e, nI_clamp, b2i_0, b2i_1, c1, hn, hs]
      rw [orF] at h2; cases hb : bt s i <;> simpa [hb, or_0] using h2
  simp (disch := first | exact am_nl_i _ | exact am_nl_r _ | exact am_nl_0 | assumption | omega | (refine vi_nI ?_ ?_ <;> omega) | exact b2i_01 _ | exact Or.inl rfl | exact Or.inr rfl | (unfold vi; decide)) only [ex_216_0, ex_216_1, ex_216_2, ex_216_3, ex_216_5, ex_216_6, ex_216_9, ex_216_10, ex_216_11, ex_216_14, ex_216_15, ex_216_16, ex_216_17, ex_216_18, ex_216_19, ex_216_20, ex_216_21, ex_216_24, ex_216_25, ex_216_28, ex_216_29, ex_216_30, ex_216_33, ex_216_34, ex_216_35, ex_216_36, ex_216_39, ex_216_42, ex_216_43, if_true, if_false, and_self, Option.toList_some, Option.toList_none, List.singleton_append, List.cons_append, List.nil_append, List.append_nil, nI_1, nt_e, Int32.le_refl]
  exact loop (nP v) 0 (by omega)
theorem knows_ok {s : Int32} (hR : LibR u v) (hW : WF v) : Cl d 217 [.ref 203, .int s] (am_emb u) post ↔ post (some (.int (knowsV v s))) (am_emb u) := by
  refine Cl_iff ?_ post
  have h12 := hW.1.2.1
  have hn := hR.1.2.1
  have hs := hR.2.2.2.2.2.2.1
  have hk := hR.2.2.2.1
  rw [op_217]
  have loop : ∀ (kz i : Nat), i + kz = nP v → Ex d 217 4 [some (.ref 203), some (.int s), some (.int (orF i (fun i => if bt s i && !lie v i then saysV v i else 0))), some (.int (nI i))] [] (am_emb u) (fun w m => w = some (.int (knowsV v s)) ∧ m = am_emb u) := by
    intro kz
    induction kz with
    | zero =>
      intro i h1
      obtain rfl : i = nP v := by omega
      rw [ex_217_4]
      simp (disch := first | exact am_nl_i _ | exact am_nl_r _ | exact am_nl_0 | assumption | omega | (refine vi_nI ?_ ?_ <;> omega) | exact b2i_01 _ | exact Or.inl rfl | exact Or.inr rfl | (unfold vi; decide)) only [ex_217_0, ex_217_1, ex_217_2, ex_217_3, ex_217_5, ex_217_6, ex_217_9, ex_217_10, ex_217_11, ex_217_14, ex_217_15, ex_217_16, ex_217_17, ex_217_18, ex_217_19, ex_217_20, ex_217_21, ex_217_24, ex_217_25, ex_217_28, ex_217_29, ex_217_30, ex_217_31, ex_217_34, ex_217_35, ex_217_38, ex_217_39, ex_217_40, ex_217_43, ex_217_44, ex_217_45, ex_217_46, ex_217_49, ex_217_52, ex_217_53, if_true, if_false, and_self, Option.toList_some, Option.toList_none, List.singleton_append, List.cons_append, List.nil_append, List.append_nil, nI_1, nt_e, Int32.le_refl, c1, hn, hs, hk]
      exact ⟨rfl, trivial⟩
    | succ kz ih =>
      intro i h1
      have hlt : i < nP v := by omega
      have hnle : ¬ nP v ≤ i := by omega
      have h2 := ih (i + 1) (by omega)
      rw [ex_217_4]
      simp (disch := first | exact am_nl_i _ | exact am_nl_r _ | exact am_nl_0 | assumption | omega | (refine vi_nI ?_ ?_ <;> omega) | exact b2i_01 _ | exact Or.inl rfl | exact Or.inr rfl | (unfold vi; decide)) only [ex_217_0, ex_217_1, ex_217_2, ex_217_3, ex_217_5, ex_217_6, ex_217_9, ex_217_10, ex_217_11, ex_217_14, ex_217_15, ex_217_16, ex_217_17, ex_217_18, ex_217_19, ex_217_20, ex_217_21, ex_217_24, ex_217_25, ex_217_28, ex_217_29, ex_217_30, ex_217_31, ex_217_34, ex_217_35, ex_217_38, ex_217_39, ex_217_40, ex_217_43, ex_217_44, ex_217_45, ex_217_46, ex_217_49, ex_217_52, ex_217_53, if_true, if_false, and_self, Option.toList_some, Option.toList_none, List.singleton_append, List.cons_append, List.nil_append, List.append_nil, nI_1, nt_e, Int32.le_refl, nI_leI, nI_ltI, hlt, hnle, bit_e, bi_e, nI_clamp, b2i_0, b2i_1, c1, hn, hs, hk]
      rw [orF] at h2; cases hb : bt s i <;> by_cases hq : kindV v i = 1 <;> simpa [lie, hb, hq, or_0] using h2
  simp (disch := first | exact am_nl_i _ | exact am_nl_r _ | exact am_nl_0 | assumption | omega | (refine vi_nI ?_ ?_ <;> omega) | exact b2i_01 _ | exact Or.inl rfl | exact Or.inr rfl | (unfold vi; decide)) only [ex_217_0, ex_217_1, ex_217_2, ex_217_3, ex_217_5, ex_217_6, ex_217_9, ex_217_10, ex_217_11, ex_217_14, ex_217_15, ex_217_16, ex_217_17, ex_217_18, ex_217_19, ex_217_20, ex_217_21, ex_217_24, ex_217_25, ex_217_28, ex_217_29, ex_217_30, ex_217_31, ex_217_34, ex_217_35, ex_217_38, ex_217_39, ex_217_40, ex_217_43, ex_217_44, ex_217_45, ex_217_46, ex_217_49, ex_217_52, ex_217_53, if_true, if_false, and_self, Option.toList_some, Option.toList_none, List.singleton_append, List.cons_append, List.nil_append, List.append_nil, nI_1, nt_e, Int32.le_refl]
  exact loop (nP v) 0 (by omega)
theorem understands_ok {s : Int32} (hR : LibR u v) (hW : WF v) : Cl d 218 [.ref 203, .int s] (am_emb u) post ↔ post (some (.int (underV v s))) (am_emb u) := by
  refine Cl_iff ?_ post
  have h12 := hW.1.1
  have hn := hR.1.1
  have hs := hR.2.1
  rw [op_218]
  have loop : ∀ (kz i : Nat), i + kz = nF v → Ex d 218 4 [some (.ref 203), some (.int s), some (.int (underF (leanV v) s i)), some (.int (nI i))] [] (am_emb u) (fun w m => w = some (.int (underV v s)) ∧ m = am_emb u) := by
    intro kz
    induction kz with
    | zero =>
      intro i h1
      obtain rfl : i = nF v := by omega
      rw [ex_218_4]
      simp (disch := first | exact am_nl_i _ | exact am_nl_r _ | exact am_nl_0 | assumption | omega | (refine vi_nI ?_ ?_ <;> omega) | exact b2i_01 _ | exact Or.inl rfl | exact Or.inr rfl | (unfold vi; decide)) only [ex_218_0, ex_218_1, ex_218_2, ex_218_3, ex_218_5, ex_218_6, ex_218_9, ex_218_10, ex_218_11, ex_218_14, ex_218_15, ex_218_16, ex_218_17, ex_218_18, ex_218_19, ex_218_20, ex_218_21, ex_218_24, ex_218_25, ex_218_28, ex_218_29, ex_218_30, ex_218_31, ex_218_32, ex_218_33, ex_218_34, ex_218_37, ex_218_38, ex_218_39, ex_218_40, ex_218_43, ex_218_44, ex_218_45, ex_218_46, ex_218_49, ex_218_52, ex_218_53, if_true, if_false, and_self, Option.toList_some, Option.toList_none, List.singleton_append, List.cons_append, List.nil_append, List.append_nil, nI_1, nt_e, Int32.le_refl, c0, hn, hs]
      exact ⟨rfl, trivial⟩
    | succ kz ih =>
      intro i h1
      have hlt : i < nF v := by omega
      have hnle : ¬ nF v ≤ i := by omega
      have h2 := ih (i + 1) (by omega)
      rw [ex_218_4]
      simp (disch := first | exact am_nl_i _ | exact am_nl_r _ | exact am_nl_0 | assumption | omega | (refine vi_nI ?_ ?_ <;> omega) | exact b2i_01 _ | exact Or.inl rfl | exact Or.inr rfl | (unfold vi; decide)) only [ex_218_0, ex_218_1, ex_218_2, ex_218_3, ex_218_5, ex_218_6, ex_218_9, ex_218_10, ex_218_11, ex_218_14, ex_218_15, ex_218_16, ex_218_17, ex_218_18, ex_218_19, ex_218_20, ex_218_21, ex_218_24, ex_218_25, ex_218_28, ex_218_29, ex_218_30, ex_218_31, ex_218_32, ex_218_33, ex_218_34, ex_218_37, ex_218_38, ex_218_39, ex_218_40, ex_218_43, ex_218_44, ex_218_45, ex_218_46, ex_218_49, ex_218_52, ex_218_53, if_true, if_false, and_self, Option.toList_some, Option.toList_none, List.singleton_append, List.cons_append, List.nil_append, List.append_nil, nI_1, nt_e, Int32.le_refl, nI_leI, nI_ltI, hlt, hnle, bit_e, bi_e, nI_clamp, b2i_0, b2i_1, c0, hn, hs]
      rw [underF] at h2; cases hb : bt s i <;> by_cases hq : leanV v i &&& nt (underF (leanV v) s i) = 0 <;> simpa [hb, hq, or_0] using h2
  simp (disch := first | exact am_nl_i _ | exact am_nl_r _ | exact am_nl_0 | assumption | omega | (refine vi_nI ?_ ?_ <;> omega) | exact b2i_01 _ | exact Or.inl rfl | exact Or.inr rfl | (unfold vi; decide)) only [ex_218_0, ex_218_1, ex_218_2, ex_218_3, ex_218_5, ex_218_6, ex_218_9, ex_218_10, ex_218_11, ex_218_14, ex_218_15, ex_218_16, ex_218_17, ex_218_18, ex_218_19, ex_218_20, ex_218_21, ex_218_24, ex_218_25, ex_218_28, ex_218_29, ex_218_30, ex_218_31, ex_218_32, ex_218_33, ex_218_34, ex_218_37, ex_218_38, ex_218_39, ex_218_40, ex_218_43, ex_218_44, ex_218_45, ex_218_46, ex_218_49, ex_218_52, ex_218_53, if_true, if_false, and_self, Option.toList_some, Option.toList_none, List.singleton_append, List.cons_append, List.nil_append, List.append_nil, nI_1, nt_e, Int32.le_refl]
  exact loop (nF v) 0 (by omega)
theorem canBy_ok {s : Int32} {t : Nat} (hR : LibR u v) (hW : WF v) (ht : t < nT v) : Cl (d + 1) 219 [.ref 203, .int s, .int (nI t)] (am_emb u) post ↔ post (some (.int (b2i (canV v s t)))) (am_emb u) := by
  have h12 := hW.1.2.2.2
  rw [op_219]
  simp (disch := first | exact am_nl_i _ | exact am_nl_r _ | exact am_nl_0 | assumption | omega | (refine vi_nI ?_ ?_ <;> omega) | exact b2i_01 _ | exact Or.inl rfl | exact Or.inr rfl | (unfold vi; decide)) only [ex_219_0, ex_219_1, ex_219_4, ex_219_5, ex_219_6, ex_219_7, ex_219_8, ex_219_11, ex_219_12, ex_219_13, ex_219_14, ex_219_17, ex_219_18, ex_219_21, ex_219_22, if_true, if_false, and_self, Option.toList_some, Option.toList_none, List.singleton_append, List.cons_append, List.nil_append, List.append_nil, nI_1, nt_e, Int32.le_refl, nI_clamp, hR.2.2.2.2.2.2.2.2.2.2.2, understands_ok hR hW]
  unfold canV
  by_cases hq : needV v t &&& nt (underV v s) = 0
  · rw [if_pos hq, decide_eq_true hq]; rfl
  · rw [if_neg hq, decide_eq_false hq]; rfl
theorem tasksBy_ok {s : Int32} (hR : LibR u v) (hW : WF v) : Cl (d + 2) 220 [.ref 203, .int s] (am_emb u) post ↔ post (some (.int (tasksV v s))) (am_emb u) := by
  refine Cl_iff ?_ post
  have h12 := hW.1.2.2.2
  have hn := hR.1.2.2.2.1
  rw [op_220]
  have loop : ∀ (kz i : Nat), i + kz = nT v → Ex (d + 2) 220 4 [some (.ref 203), some (.int s), some (.int (orF i (fun t => if canV v s t then bi t else 0))), some (.int (nI i))] [] (am_emb u) (fun w m => w = some (.int (tasksV v s)) ∧ m = am_emb u) := by
    intro kz
    induction kz with
    | zero =>
      intro i h1
      obtain rfl : i = nT v := by omega
      rw [ex_220_4]
      simp (disch := first | exact am_nl_i _ | exact am_nl_r _ | exact am_nl_0 | assumption | omega | (refine vi_nI ?_ ?_ <;> omega) | exact b2i_01 _ | exact Or.inl rfl | exact Or.inr rfl | (unfold vi; decide)) only [ex_220_0, ex_220_1, ex_220_2, ex_220_3, ex_220_5, ex_220_6, ex_220_9, ex_220_10, ex_220_11, ex_220_14, ex_220_15, ex_220_16, ex_220_17, ex_220_18, ex_220_21, ex_220_24, ex_220_25, ex_220_26, ex_220_27, ex_220_30, ex_220_31, ex_220_32, ex_220_33, ex_220_36, ex_220_39, ex_220_40, if_true, if_false, and_self, Option.toList_some, Option.toList_none, List.singleton_append, List.cons_append, List.nil_append, List.append_nil, nI_1, nt_e, Int32.le_refl, c3, hn, canBy_ok hR hW]
      exact ⟨rfl, trivial⟩
    | succ kz ih =>
      intro i h1
      have hlt : i < nT v := by omega
      have hnle : ¬ nT v ≤ i := by omega
      have h2 := ih (i + 1) (by omega)
      rw [ex_220_4]
      simp (disch := first | exact am_nl_i _ | exact am_nl_r _ | exact am_nl_0 | assumption | omega | (refine vi_nI ?_ ?_ <;> omega) | exact b2i_01 _ | exact Or.inl rfl | exact Or.inr rfl | (unfold vi; decide)) only [ex_220_0, ex_220_1, ex_220_2, ex_220_3, ex_220_5, ex_220_6, ex_220_9, ex_220_10, ex_220_11, ex_220_14, ex_220_15, ex_220_16, ex_220_17, ex_220_18, ex_220_21, ex_220_24, ex_220_25, ex_220_26, ex_220_27, ex_220_30, ex_220_31, ex_220_32, ex_220_33, ex_220_36, ex_220_39, ex_220_40, if_true, if_false, and_self, Option.toList_some, Option.toList_none, List.singleton_append, List.cons_append, List.nil_append, List.append_nil, nI_1, nt_e, Int32.le_refl, nI_leI, nI_ltI, hlt, hnle, bit_e, bi_e, nI_clamp, b2i_0, b2i_1, c3, hn, canBy_ok hR hW]
      rw [orF] at h2; cases hb : canV v s i <;> simpa [hb, or_0] using h2
  simp (disch := first | exact am_nl_i _ | exact am_nl_r _ | exact am_nl_0 | assumption | omega | (refine vi_nI ?_ ?_ <;> omega) | exact b2i_01 _ | exact Or.inl rfl | exact Or.inr rfl | (unfold vi; decide)) only [ex_220_0, ex_220_1, ex_220_2, ex_220_3, ex_220_5, ex_220_6, ex_220_9, ex_220_10, ex_220_11, ex_220_14, ex_220_15, ex_220_16, ex_220_17, ex_220_18, ex_220_21, ex_220_24, ex_220_25, ex_220_26, ex_220_27, ex_220_30, ex_220_31, ex_220_32, ex_220_33, ex_220_36, ex_220_39, ex_220_40, if_true, if_false, and_self, Option.toList_some, Option.toList_none, List.singleton_append, List.cons_append, List.nil_append, List.append_nil, nI_1, nt_e, Int32.le_refl]
  exact loop (nT v) 0 (by omega)
theorem worthBy_ok {s : Int32} (hR : LibR u v) (hW : WF v) : Cl (d + 2) 221 [.ref 203, .int s] (am_emb u) post ↔ post (some (.int (worthOfV v s))) (am_emb u) := by
  refine Cl_iff ?_ post
  have h12 := hW.1.2.2.2
  have hn := hR.1.2.2.2.1
  have hs := hR.2.2.2.2.2.2.2.2.2.2.1
  rw [op_221]
  have loop : ∀ (kz i : Nat), i + kz = nT v → Ex (d + 2) 221 4 [some (.ref 203), some (.int s), some (.int (sumF i (fun t => if canV v s t then worthV v t else 0))), some (.int (nI i))] [] (am_emb u) (fun w m => w = some (.int (worthOfV v s)) ∧ m = am_emb u) := by
    intro kz
    induction kz with
    | zero =>
      intro i h1
      obtain rfl : i = nT v := by omega
      rw [ex_221_4]
      simp (disch := first | exact am_nl_i _ | exact am_nl_r _ | exact am_nl_0 | assumption | omega | (refine vi_nI ?_ ?_ <;> omega) | exact b2i_01 _ | exact Or.inl rfl | exact Or.inr rfl | (unfold vi; decide)) only [ex_221_0, ex_221_1, ex_221_2, ex_221_3, ex_221_5, ex_221_6, ex_221_9, ex_221_10, ex_221_11, ex_221_14, ex_221_15, ex_221_16, ex_221_17, ex_221_18, ex_221_21, ex_221_24, ex_221_25, ex_221_28, ex_221_29, ex_221_30, ex_221_33, ex_221_34, ex_221_35, ex_221_36, ex_221_39, ex_221_42, ex_221_43, if_true, if_false, and_self, Option.toList_some, Option.toList_none, List.singleton_append, List.cons_append, List.nil_append, List.append_nil, nI_1, nt_e, Int32.le_refl, c3, hn, hs, canBy_ok hR hW]
      exact ⟨rfl, trivial⟩
    | succ kz ih =>
      intro i h1
      have hlt : i < nT v := by omega
      have hnle : ¬ nT v ≤ i := by omega
      have h2 := ih (i + 1) (by omega)
      rw [ex_221_4]
      simp (disch := first | exact am_nl_i _ | exact am_nl_r _ | exact am_nl_0 | assumption | omega | (refine vi_nI ?_ ?_ <;> omega) | exact b2i_01 _ | exact Or.inl rfl | exact Or.inr rfl | (unfold vi; decide)) only [ex_221_0, ex_221_1, ex_221_2, ex_221_3, ex_221_5, ex_221_6, ex_221_9, ex_221_10, ex_221_11, ex_221_14, ex_221_15, ex_221_16, ex_221_17, ex_221_18, ex_221_21, ex_221_24, ex_221_25, ex_221_28, ex_221_29, ex_221_30, ex_221_33, ex_221_34, ex_221_35, ex_221_36, ex_221_39, ex_221_42, ex_221_43, if_true, if_false, and_self, Option.toList_some, Option.toList_none, List.singleton_append, List.cons_append, List.nil_append, List.append_nil, nI_1, nt_e, Int32.le_refl, nI_leI, nI_ltI, hlt, hnle, bit_e, bi_e, nI_clamp, b2i_0, b2i_1, c3, hn, hs, canBy_ok hR hW]
      rw [sumF] at h2; cases hb : canV v s i <;> simpa [hb] using h2
  simp (disch := first | exact am_nl_i _ | exact am_nl_r _ | exact am_nl_0 | assumption | omega | (refine vi_nI ?_ ?_ <;> omega) | exact b2i_01 _ | exact Or.inl rfl | exact Or.inr rfl | (unfold vi; decide)) only [ex_221_0, ex_221_1, ex_221_2, ex_221_3, ex_221_5, ex_221_6, ex_221_9, ex_221_10, ex_221_11, ex_221_14, ex_221_15, ex_221_16, ex_221_17, ex_221_18, ex_221_21, ex_221_24, ex_221_25, ex_221_28, ex_221_29, ex_221_30, ex_221_33, ex_221_34, ex_221_35, ex_221_36, ex_221_39, ex_221_42, ex_221_43, if_true, if_false, and_self, Option.toList_some, Option.toList_none, List.singleton_append, List.cons_append, List.nil_append, List.append_nil, nI_1, nt_e, Int32.le_refl]
  exact loop (nT v) 0 (by omega)
theorem weightOfR_ok {s : Int32} (hR : LibR u v) (hW : WF v) : Cl d 247 [.ref 203, .int s] (am_emb u) post ↔ post (some (.int (weightV v s))) (am_emb u) := by
  refine Cl_iff ?_ post
  have h12 := hW.1.2.1
  have hn := hR.1.2.1
  have hs := hR.2.2.2.2.1
  rw [op_247]
  have loop : ∀ (kz i : Nat), i + kz = nP v → Ex d 247 4 [some (.ref 203), some (.int s), some (.int (sumF i (fun i => if bt s i then weighV v i else 0))), some (.int (nI i))] [] (am_emb u) (fun w m => w = some (.int (weightV v s)) ∧ m = am_emb u) := by
    intro kz
    induction kz with
    | zero =>
      intro i h1
      obtain rfl : i = nP v := by omega
      rw [ex_247_4]
      simp (disch := first | exact am_nl_i _ | exact am_nl_r _ | exact am_nl_0 | assumption | omega | (refine vi_nI ?_ ?_ <;> omega) | exact b2i_01 _ | exact Or.inl rfl | exact Or.inr rfl | (unfold vi; decide)) only [ex_247_0, ex_247_1, ex_247_2, ex_247_3, ex_247_5, ex_247_6, ex_247_9, ex_247_10, ex_247_11, ex_247_14, ex_247_15, ex_247_16, ex_247_17, ex_247_18, ex_247_19, ex_247_20, ex_247_21, ex_247_24, ex_247_25, ex_247_28, ex_247_29, ex_247_30, ex_247_33, ex_247_34, ex_247_35, ex_247_36, ex_247_39, ex_247_42, ex_247_43, if_true, if_false, and_self, Option.toList_some, Option.toList_none, List.singleton_append, List.cons_append, List.nil_append, List.append_nil, nI_1, nt_e, Int32.le_refl, c1, hn, hs]
      exact ⟨rfl, trivial⟩
    | succ kz ih =>
      intro i h1
      have hlt : i < nP v := by omega
      have hnle : ¬ nP v ≤ i := by omega
      have h2 := ih (i + 1) (by omega)
      rw [ex_247_4]
      simp (disch := first | exact am_nl_i _ | exact am_nl_r _ | exact am_nl_0 | assumption | omega | (refine vi_nI ?_ ?_ <;> omega) | exact b2i_01 _ | exact Or.inl rfl | exact Or.inr rfl | (unfold vi; decide)) only [ex_247_0, ex_247_1, ex_247_2, ex_247_3, ex_247_5, ex_247_6, ex_247_9, ex_247_10, ex_247_11, ex_247_14, ex_247_15, ex_247_16, ex_247_17, ex_247_18, ex_247_19, ex_247_20, ex_247_21, ex_247_24, ex_247_25, ex_247_28, ex_247_29, ex_247_30, ex_247_33, ex_247_34, ex_247_35, ex_247_36, ex_247_39, ex_247_42, ex_247_43, if_true, if_false, and_self, Option.toList_some, Option.toList_none, List.singleton_append, List.cons_append, List.nil_append, List.append_nil, nI_1, nt_e, Int32.le_refl, nI_leI, nI_ltI, hlt, hnle, bit_e, bi_e, nI_clamp, b2i_0, b2i_1, c1, hn, hs]
      rw [sumF] at h2; cases hb : bt s i <;> simpa [hb] using h2
  simp (disch := first | exact am_nl_i _ | exact am_nl_r _ | exact am_nl_0 | assumption | omega | (refine vi_nI ?_ ?_ <;> omega) | exact b2i_01 _ | exact Or.inl rfl | exact Or.inr rfl | (unfold vi; decide)) only [ex_247_0, ex_247_1, ex_247_2, ex_247_3, ex_247_5, ex_247_6, ex_247_9, ex_247_10, ex_247_11, ex_247_14, ex_247_15, ex_247_16, ex_247_17, ex_247_18, ex_247_19, ex_247_20, ex_247_21, ex_247_24, ex_247_25, ex_247_28, ex_247_29, ex_247_30, ex_247_33, ex_247_34, ex_247_35, ex_247_36, ex_247_39, ex_247_42, ex_247_43, if_true, if_false, and_self, Option.toList_some, Option.toList_none, List.singleton_append, List.cons_append, List.nil_append, List.append_nil, nI_1, nt_e, Int32.le_refl]
  exact loop (nP v) 0 (by omega)
theorem orF_ext {n k : Nat} {f : Nat → Int32} (h : n ≤ k) (h0 : ∀ i, n ≤ i → i < k → f i = 0) : orF k f = orF n f := by
  induction k with
  | zero => rw [show n = 0 by omega]
  | succ k ih =>
    by_cases e : n = k + 1
    · rw [e]
    · rw [orF, ih (by omega) (fun i h1 h2 => h0 i h1 (by omega)), h0 k (by omega) (by omega), or_0]
theorem sumF_ext {n k : Nat} {f : Nat → Int32} (h : n ≤ k) (h0 : ∀ i, n ≤ i → i < k → f i = 0) : sumF k f = sumF n f := by
  induction k with
  | zero => rw [show n = 0 by omega]
  | succ k ih =>
    by_cases e : n = k + 1
    · rw [e]
    · rw [sumF, ih (by omega) (fun i h1 h2 => h0 i h1 (by omega)), h0 k (by omega) (by omega), Int32.add_zero]
theorem stock_e (hW : WF v) (hw : WL v l) : orF (nP v) (fun i => if 0 < copL l i then bi i else 0) = inStockL l := by
  unfold inStockL
  rw [orF_ext hW.1.2.1 (fun i h1 h2 => by rw [hw.2.2.2.2.1 i h1]; rfl)]
theorem nI13 (i : Nat) : (13 : Int32) + nI i = nI (13 + i) := nI_add 13 i
theorem nI6 (i : Nat) : (6 : Int32) + nI i = nI (6 + i) := nI_add 6 i
theorem withCopies_ok (hR : LibR u v) (hl : LifeR u v l) (hW : WF v) (hw : WL v l) : Cl d 242 [.ref 203] (am_emb u) post ↔ post (some (.int (inStockL l))) (am_emb u) := by
  refine Cl_iff ?_ post
  have h12 := hW.1.2.1
  have hn := hR.1.2.1
  have hs : ∀ k, k < 12 → AI u 241 (13 + k) = copL l k := fun k hk => by have := hl.2.2.2.1 k hk; rwa [Nat.zero_add] at this
  rw [← stock_e hW hw, op_242]
  have loop : ∀ (kz i : Nat), i + kz = nP v → Ex d 242 4 [some (.ref 203), some (.int (orF i (fun i => if 0 < copL l i then bi i else 0))), some (.int (nI i))] [] (am_emb u) (fun w m => w = some (.int (orF (nP v) (fun i => if 0 < copL l i then bi i else 0))) ∧ m = am_emb u) := by
    intro kz
    induction kz with
    | zero =>
      intro i h1
      obtain rfl : i = nP v := by omega
      rw [ex_242_4]
      simp (disch := first | exact am_nl_i _ | exact am_nl_r _ | exact am_nl_0 | assumption | omega | (refine vi_nI ?_ ?_ <;> omega) | exact b2i_01 _ | exact Or.inl rfl | exact Or.inr rfl | (unfold vi; decide)) only [ex_242_0, ex_242_1, ex_242_2, ex_242_3, ex_242_5, ex_242_6, ex_242_9, ex_242_10, ex_242_11, ex_242_14, ex_242_15, ex_242_16, ex_242_19, ex_242_21, ex_242_22, ex_242_23, ex_242_24, ex_242_27, ex_242_28, ex_242_29, ex_242_30, ex_242_33, ex_242_34, ex_242_35, ex_242_36, ex_242_39, ex_242_42, ex_242_43, if_true, if_false, and_self, Option.toList_some, Option.toList_none, List.singleton_append, List.cons_append, List.nil_append, List.append_nil, nI_1, nt_e, Int32.le_refl, c1, hn, hs, nI13]
      (try exact ⟨rfl, trivial⟩)
    | succ kz ih =>
      intro i h1
      have hlt : i < nP v := by omega
      have hnle : ¬ nP v ≤ i := by omega
      have h2 := ih (i + 1) (by omega)
      rw [ex_242_4]
      simp (disch := first | exact am_nl_i _ | exact am_nl_r _ | exact am_nl_0 | assumption | omega | (refine vi_nI ?_ ?_ <;> omega) | exact b2i_01 _ | exact Or.inl rfl | exact Or.inr rfl | (unfold vi; decide)) only [ex_242_0, ex_242_1, ex_242_2, ex_242_3, ex_242_5, ex_242_6, ex_242_9, ex_242_10, ex_242_11, ex_242_14, ex_242_15, ex_242_16, ex_242_19, ex_242_21, ex_242_22, ex_242_23, ex_242_24, ex_242_27, ex_242_28, ex_242_29, ex_242_30, ex_242_33, ex_242_34, ex_242_35, ex_242_36, ex_242_39, ex_242_42, ex_242_43, if_true, if_false, and_self, Option.toList_some, Option.toList_none, List.singleton_append, List.cons_append, List.nil_append, List.append_nil, nI_1, nt_e, Int32.le_refl, nI_leI, nI_ltI, hlt, hnle, bit_e, bi_e, nI_clamp, b2i_0, b2i_1, c1, hn, hs, nI13]
      rw [orF] at h2; by_cases hq : 0 < copL l i; (· rw [if_neg (Int32.not_le.mpr hq)]; simpa [hq] using h2); (· rw [if_pos (Int32.not_lt.mp hq)]; simpa [hq, or_0] using h2)
  simp (disch := first | exact am_nl_i _ | exact am_nl_r _ | exact am_nl_0 | assumption | omega | (refine vi_nI ?_ ?_ <;> omega) | exact b2i_01 _ | exact Or.inl rfl | exact Or.inr rfl | (unfold vi; decide)) only [ex_242_0, ex_242_1, ex_242_2, ex_242_3, ex_242_5, ex_242_6, ex_242_9, ex_242_10, ex_242_11, ex_242_14, ex_242_15, ex_242_16, ex_242_19, ex_242_21, ex_242_22, ex_242_23, ex_242_24, ex_242_27, ex_242_28, ex_242_29, ex_242_30, ex_242_33, ex_242_34, ex_242_35, ex_242_36, ex_242_39, ex_242_42, ex_242_43, if_true, if_false, and_self, Option.toList_some, Option.toList_none, List.singleton_append, List.cons_append, List.nil_append, List.append_nil, nI_1, nt_e, Int32.le_refl]
  exact loop (nP v) 0 (by omega)
theorem isAlive_ok {x : Int32} (hR : LibR u v) (hl : LifeR u v l) (hW : WF v) (hw : WL v l) : Cl (d + 1) 213 [.ref 203, .int x] (am_emb u) post ↔ post (some (.int (b2i (livesI l x)))) (am_emb u) := by
  have h6 := hW.1.2.2.1
  rw [op_213]
  simp (disch := first | exact am_nl_i _ | exact am_nl_r _ | exact am_nl_0 | assumption | omega | (refine vi_nI ?_ ?_ <;> omega) | exact b2i_01 _ | exact Or.inl rfl | exact Or.inr rfl | (unfold vi; decide)) only [ex_213_0, ex_213_1, ex_213_2, ex_213_5, ex_213_8, ex_213_9, ex_213_12, ex_213_14, ex_213_15, ex_213_16, ex_213_17, ex_213_18, ex_213_19, ex_213_20, ex_213_23, ex_213_24, ex_213_27, ex_213_28, if_true, if_false, and_self, Option.toList_some, Option.toList_none, List.singleton_append, List.cons_append, List.nil_append, List.append_nil, nI_1, nt_e, Int32.le_refl, isPerson_ok hR hW, b2i_0, c12, show AI u 241 12 = aliveL l from hl.2.2.1]
  rw [← liveR hW hw]
  cases h : okI x (nE v)
  · simp only [if_true]; rfl
  · obtain ⟨g1, g2⟩ := okI_ix h
    rw [if_neg (by simp), Bool.true_and, livesL]
    generalize ix x = j at g1 g2
    subst g2
    rw [bit_e _ (by omega)]
    simp only [b2i_1]
    cases bt (aliveL l) j <;> rfl
end RefLeaves2
