/-! THE CLASS'S LEAVES: Names, Library -/
theorem bi_e (j : Nat) : (1 : Int32) <<< (nI j &&& 31) = bi j := rfl
theorem dec_f {p : Prop} {i : Decidable p} : decide p = false ↔ ¬ p := by simp
theorem zero_ok {α β : Type} {a : α} {b : β} : (a = a ∧ b = b) := ⟨rfl, rfl⟩
theorem torn_mono {c : Nat → Int32} {s : Int32} : ∀ {n m : Nat}, m ≤ n → tornF c s m = true → tornF c s n = true
  | 0, m, h, hm => by
    obtain rfl : m = 0 := by omega
    exact hm
  | n + 1, m, h, hm => by
    by_cases e : m = n + 1
    · rw [← e]; exact hm
    · rw [tornF, torn_mono (n := n) (m := m) (by omega) hm]; rfl
theorem tasks_bt {v : LV} (hW : WF v) {s : Int32} (i : Nat) (hi : i < nT v) : bt (tasksV v s) i = canV v s i := by
  have h12 := hW.1.2.2.2
  have h : bt (tasksV v s) i = true ↔ canV v s i = true := by
    unfold tasksV
    rw [orF_bt]
    constructor
    · rintro ⟨k, hk, h⟩
      cases hl : canV v s k
      · rw [hl] at h; simp [b_0] at h
      · rw [hl] at h
        simp only [if_true] at h
        rw [bt_bi (by omega) (by omega)] at h
        have := of_decide_eq_true h
        subst this
        exact hl
    · intro hl
      refine ⟨i, hi, ?_⟩
      rw [hl]
      simp only [if_true]
      rw [bt_bi (by omega) (by omega)]
      simp
  cases hc : canV v s i <;> cases hb : bt (tasksV v s) i
  · rfl
  · rw [hc] at h; exact absurd (h.mp hb) (by simp)
  · rw [hb] at h; exact absurd (h.mpr hc) (by simp)
  · rfl
section ClassLeaves
variable {d L : Nat} {u : am_U} {v : LV} {post : Option Value → am_M → Prop}
theorem has_ok {a n : Nat} {c : Nat} {x : Int32} (ha : sh a 6 3) (hn : FI u a 2 = nI n) (hm : FI u a 1 = nI c) (h12 : n ≤ 12) (hc : n ≤ c) (hc2 : c ≤ 12) : Cl d 60 [.ref a, .int x] (am_emb u) post ↔ post (some (.int (b2i (decide (0 ≤ x.toInt ∧ x.toInt < n))))) (am_emb u) := by
  rw [op_60]
  simp (disch := first | exact am_nl_i _ | exact am_nl_r _ | exact am_nl_0 | assumption | omega | (refine vi_nI ?_ ?_ <;> omega) | exact b2i_01 _ | exact Or.inl rfl | exact Or.inr rfl | (unfold vi; decide)) only [ex_60_0, ex_60_1, ex_60_4, ex_60_5, ex_60_6, ex_60_9, ex_60_12, ex_60_13, ex_60_14, ex_60_17, ex_60_20, ex_60_21, ex_60_24, ex_60_25, if_true, if_false, and_self, Option.toList_some, Option.toList_none, List.singleton_append, List.cons_append, List.nil_append, List.append_nil, nI_1, nt_e, Int32.le_refl, hn, hm]
  have e1 : x < 0 ↔ x.toInt < 0 := by rw [Int32.lt_iff_toInt_lt, Int32.toInt_zero]
  have e2 : nI n ≤ x ↔ (n : Int) ≤ x.toInt := by rw [Int32.le_iff_toInt_le, nI_toInt (by omega)]
  have e3 : nI c ≤ x ↔ (c : Int) ≤ x.toInt := by rw [Int32.le_iff_toInt_le, nI_toInt (by omega)]
  by_cases h0 : x < 0
  · have g0 := e1.mp h0
    rw [if_pos h0, decide_eq_false (by omega)]; rfl
  · have g0 := mt e1.mpr h0
    rw [if_neg h0]
    by_cases h1 : nI n ≤ x
    · have g1 := e2.mp h1
      rw [if_pos h1, decide_eq_false (by omega)]; rfl
    · have g1 := mt e2.mpr h1
      rw [if_neg h1, if_neg (fun q => by have := e3.mp q; omega), decide_eq_true (by omega)]; rfl
theorem isFull_ok {a n c : Nat} (ha : sh a 6 3) (hn : FI u a 2 = nI n) (hm : FI u a 1 = nI c) (h12 : n ≤ 12) (hc2 : c ≤ 12) : Cl d 61 [.ref a] (am_emb u) post ↔ post (some (.int (b2i (decide (c ≤ n))))) (am_emb u) := by
  rw [op_61]
  simp (disch := first | exact am_nl_i _ | exact am_nl_r _ | exact am_nl_0 | assumption | omega | (refine vi_nI ?_ ?_ <;> omega) | exact b2i_01 _ | exact Or.inl rfl | exact Or.inr rfl | (unfold vi; decide)) only [ex_61_0, ex_61_1, ex_61_4, ex_61_5, ex_61_8, ex_61_11, ex_61_12, ex_61_15, ex_61_16, if_true, if_false, and_self, Option.toList_some, Option.toList_none, List.singleton_append, List.cons_append, List.nil_append, List.append_nil, nI_1, nt_e, Int32.le_refl, hn, hm, nI_ltI]
  by_cases h : n < c
  · rw [if_pos h, decide_eq_false (by omega)]; rfl
  · rw [if_neg h, decide_eq_true (by omega)]; rfl
theorem allFacts_ok (hL : sh L 3 19) (hC : LibC u L v) : Cl d 24 [.ref L] (am_emb u) post ↔ post (some (.int (allFV v))) (am_emb u) := by
  rw [op_24]
  simp (disch := first | exact am_nl_i _ | exact am_nl_r _ | exact am_nl_0 | assumption | omega | (refine vi_nI ?_ ?_ <;> omega) | exact b2i_01 _ | exact Or.inl rfl | exact Or.inr rfl | (unfold vi; decide)) only [ex_24_0, ex_24_1, ex_24_2, ex_24_5, ex_24_8, ex_24_9, ex_24_10, ex_24_11, if_true, if_false, and_self, Option.toList_some, Option.toList_none, List.singleton_append, List.cons_append, List.nil_append, List.append_nil, nI_1, nt_e, Int32.le_refl, hC.1.1, bi_e]
  exact Iff.rfl
theorem allPages_ok (hL : sh L 3 19) (hC : LibC u L v) : Cl d 25 [.ref L] (am_emb u) post ↔ post (some (.int (bi (nP v) - 1))) (am_emb u) := by
  rw [op_25]
  simp (disch := first | exact am_nl_i _ | exact am_nl_r _ | exact am_nl_0 | assumption | omega | (refine vi_nI ?_ ?_ <;> omega) | exact b2i_01 _ | exact Or.inl rfl | exact Or.inr rfl | (unfold vi; decide)) only [ex_25_0, ex_25_1, ex_25_2, ex_25_5, ex_25_8, ex_25_9, ex_25_10, ex_25_11, if_true, if_false, and_self, Option.toList_some, Option.toList_none, List.singleton_append, List.cons_append, List.nil_append, List.append_nil, nI_1, nt_e, Int32.le_refl, hC.1.2.1, bi_e]
theorem said_ok {s : Int32} (hL : sh L 3 19) (hC : LibC u L v) (hW : WF v) : Cl d 27 [.ref L, .int s] (am_emb u) post ↔ post (some (.int (believesV v s))) (am_emb u) := by
  refine Cl_iff ?_ post
  have hn := hC.1.2.1
  have h12 := hW.1.2.1
  have hs := hC.2.2.2.2.2.2.2.1
  rw [op_27]
  have loop : ∀ (kz i : Nat), i + kz = nP v → Ex d 27 4 [some (.ref L), some (.int s), some (.int (orF i (fun i => if bt s i then saysV v i else 0))), some (.int (nI i))] [] (am_emb u) (fun w m => w = some (.int (believesV v s)) ∧ m = am_emb u) := by
    intro kz
    induction kz with
    | zero =>
      intro i h1
      obtain rfl : i = nP v := by omega
      rw [ex_27_4]
      simp (disch := first | exact am_nl_i _ | exact am_nl_r _ | exact am_nl_0 | assumption | omega | (refine vi_nI ?_ ?_ <;> omega) | exact b2i_01 _ | exact Or.inl rfl | exact Or.inr rfl | (unfold vi; decide)) only [ex_27_0, ex_27_1, ex_27_2, ex_27_3, ex_27_5, ex_27_6, ex_27_9, ex_27_12, ex_27_15, ex_27_16, ex_27_17, ex_27_18, ex_27_19, ex_27_20, ex_27_23, ex_27_24, ex_27_25, ex_27_28, ex_27_29, ex_27_30, ex_27_31, ex_27_32, ex_27_35, ex_27_38, ex_27_39, if_true, if_false, and_self, Option.toList_some, Option.toList_none, List.singleton_append, List.cons_append, List.nil_append, List.append_nil, nI_1, nt_e, Int32.le_refl, hn, hs]
      exact ⟨rfl, trivial⟩
    | succ kz ih =>
      intro i h1
      have hlt : i < nP v := by omega
      have hnle : ¬ nP v ≤ i := by omega
      have h2 := ih (i + 1) (by omega)
      rw [ex_27_4]
      simp (disch := first | exact am_nl_i _ | exact am_nl_r _ | exact am_nl_0 | assumption | omega | (refine vi_nI ?_ ?_ <;> omega) | exact b2i_01 _ | exact Or.inl rfl | exact Or.inr rfl | (unfold vi; decide)) only [ex_27_0, ex_27_1, ex_27_2, ex_27_3, ex_27_5, ex_27_6, ex_27_9, ex_27_12, ex_27_15, ex_27_16, ex_27_17, ex_27_18, ex_27_19, ex_27_20, ex_27_23, ex_27_24, ex_27_25, ex_27_28, ex_27_29, ex_27_30, ex_27_31, ex_27_32, ex_27_35, ex_27_38, ex_27_39, if_true, if_false, and_self, Option.toList_some, Option.toList_none, List.singleton_append, List.cons_append, List.nil_append, List.append_nil, nI_1, nt_e, Int32.le_refl, nI_leI, nI_ltI, hlt, hnle, bit_e, bi_e, nI_clamp, b2i_0, b2i_1, hn, hs]
      rw [orF] at h2; cases hb : bt s i <;> simpa [hb, or_0] using h2
  simp (disch := first | exact am_nl_i _ | exact am_nl_r _ | exact am_nl_0 | assumption | omega | (refine vi_nI ?_ ?_ <;> omega) | exact b2i_01 _ | exact Or.inl rfl | exact Or.inr rfl | (unfold vi; decide)) only [ex_27_0, ex_27_1, ex_27_2, ex_27_3, ex_27_5, ex_27_6, ex_27_9, ex_27_12, ex_27_15, ex_27_16, ex_27_17, ex_27_18, ex_27_19, ex_27_20, ex_27_23, ex_27_24, ex_27_25, ex_27_28, ex_27_29, ex_27_30, ex_27_31, ex_27_32, ex_27_35, ex_27_38, ex_27_39, if_true, if_false, and_self, Option.toList_some, Option.toList_none, List.singleton_append, List.cons_append, List.nil_append, List.append_nil, nI_1, nt_e, Int32.le_refl]
  exact loop (nP v) 0 (by omega)
theorem weightOf_ok {s : Int32} (hL : sh L 3 19) (hC : LibC u L v) (hW : WF v) : Cl d 28 [.ref L, .int s] (am_emb u) post ↔ post (some (.int (weightV v s))) (am_emb u) := by
  refine Cl_iff ?_ post
  have hn := hC.1.2.1
  have h12 := hW.1.2.1
  have hs := hC.2.2.2.2.2.1
  rw [op_28]
  have loop : ∀ (kz i : Nat), i + kz = nP v → Ex d 28 4 [some (.ref L), some (.int s), some (.int (sumF i (fun i => if bt s i then weighV v i else 0))), some (.int (nI i))] [] (am_emb u) (fun w m => w = some (.int (weightV v s)) ∧ m = am_emb u) := by
    intro kz
    induction kz with
    | zero =>
      intro i h1
      obtain rfl : i = nP v := by omega
      rw [ex_28_4]
      simp (disch := first | exact am_nl_i _ | exact am_nl_r _ | exact am_nl_0 | assumption | omega | (refine vi_nI ?_ ?_ <;> omega) | exact b2i_01 _ | exact Or.inl rfl | exact Or.inr rfl | (unfold vi; decide)) only [ex_28_0, ex_28_1, ex_28_2, ex_28_3, ex_28_5, ex_28_6, ex_28_9, ex_28_12, ex_28_15, ex_28_16, ex_28_17, ex_28_18, ex_28_19, ex_28_20, ex_28_23, ex_28_24, ex_28_25, ex_28_28, ex_28_29, ex_28_30, ex_28_31, ex_28_32, ex_28_35, ex_28_38, ex_28_39, if_true, if_false, and_self, Option.toList_some, Option.toList_none, List.singleton_append, List.cons_append, List.nil_append, List.append_nil, nI_1, nt_e, Int32.le_refl, hn, hs]
      exact ⟨rfl, trivial⟩
    | succ kz ih =>
      intro i h1
      have hlt : i < nP v := by omega
      have hnle : ¬ nP v ≤ i := by omega
      have h2 := ih (i + 1) (by omega)
      rw [ex_28_4]
      simp (disch := first | exact am_nl_i _ | exact am_nl_r _ | exact am_nl_0 | assumption | omega | (refine vi_nI ?_ ?_ <;> omega) | exact b2i_01 _ | exact Or.inl rfl | exact Or.inr rfl | (unfold vi; decide)) only [ex_28_0, ex_28_1, ex_28_2, ex_28_3, ex_28_5, ex_28_6, ex_28_9, ex_28_12, ex_28_15, ex_28_16, ex_28_17, ex_28_18, ex_28_19, ex_28_20, ex_28_23, ex_28_24, ex_28_25, ex_28_28, ex_28_29, ex_28_30, ex_28_31, ex_28_32, ex_28_35, ex_28_38, ex_28_39, if_true, if_false, and_self, Option.toList_some, Option.toList_none, List.singleton_append, List.cons_append, List.nil_append, List.append_nil, nI_1, nt_e, Int32.le_refl, nI_leI, nI_ltI, hlt, hnle, bit_e, bi_e, nI_clamp, b2i_0, b2i_1, hn, hs]
      rw [sumF] at h2; cases hb : bt s i <;> simpa [hb] using h2
  simp (disch := first | exact am_nl_i _ | exact am_nl_r _ | exact am_nl_0 | assumption | omega | (refine vi_nI ?_ ?_ <;> omega) | exact b2i_01 _ | exact Or.inl rfl | exact Or.inr rfl | (unfold vi; decide)) only [ex_28_0, ex_28_1, ex_28_2, ex_28_3, ex_28_5, ex_28_6, ex_28_9, ex_28_12, ex_28_15, ex_28_16, ex_28_17, ex_28_18, ex_28_19, ex_28_20, ex_28_23, ex_28_24, ex_28_25, ex_28_28, ex_28_29, ex_28_30, ex_28_31, ex_28_32, ex_28_35, ex_28_38, ex_28_39, if_true, if_false, and_self, Option.toList_some, Option.toList_none, List.singleton_append, List.cons_append, List.nil_append, List.append_nil, nI_1, nt_e, Int32.le_refl]
  exact loop (nP v) 0 (by omega)
theorem understood_ok {s : Int32} (hL : sh L 3 19) (hC : LibC u L v) (hW : WF v) : Cl d 29 [.ref L, .int s] (am_emb u) post ↔ post (some (.int (underV v s))) (am_emb u) := by
  refine Cl_iff ?_ post
  have hn := hC.1.1
  have h12 := hW.1.1
  have hs := hC.2.2.1
  rw [op_29]
  have loop : ∀ (kz i : Nat), i + kz = nF v → Ex d 29 4 [some (.ref L), some (.int s), some (.int (underF (leanV v) s i)), some (.int (nI i))] [] (am_emb u) (fun w m => w = some (.int (underV v s)) ∧ m = am_emb u) := by
    intro kz
    induction kz with
    | zero =>
      intro i h1
      obtain rfl : i = nF v := by omega
      rw [ex_29_4]
      simp (disch := first | exact am_nl_i _ | exact am_nl_r _ | exact am_nl_0 | assumption | omega | (refine vi_nI ?_ ?_ <;> omega) | exact b2i_01 _ | exact Or.inl rfl | exact Or.inr rfl | (unfold vi; decide)) only [ex_29_0, ex_29_1, ex_29_2, ex_29_3, ex_29_5, ex_29_6, ex_29_9, ex_29_12, ex_29_15, ex_29_16, ex_29_17, ex_29_18, ex_29_19, ex_29_20, ex_29_23, ex_29_24, ex_29_27, ex_29_28, ex_29_29, ex_29_30, ex_29_31, ex_29_32, ex_29_33, ex_29_36, ex_29_37, ex_29_38, ex_29_39, ex_29_40, ex_29_41, ex_29_42, ex_29_45, ex_29_48, ex_29_49, if_true, if_false, and_self, Option.toList_some, Option.toList_none, List.singleton_append, List.cons_append, List.nil_append, List.append_nil, nI_1, nt_e, Int32.le_refl, hn, hs]
      exact ⟨rfl, trivial⟩
    | succ kz ih =>
      intro i h1
      have hlt : i < nF v := by omega
      have hnle : ¬ nF v ≤ i := by omega
      have h2 := ih (i + 1) (by omega)
      rw [ex_29_4]
      simp (disch := first | exact am_nl_i _ | exact am_nl_r _ | exact am_nl_0 | assumption | omega | (refine vi_nI ?_ ?_ <;> omega) | exact b2i_01 _ | exact Or.inl rfl | exact Or.inr rfl | (unfold vi; decide)) only [ex_29_0, ex_29_1, ex_29_2, ex_29_3, ex_29_5, ex_29_6, ex_29_9, ex_29_12, ex_29_15, ex_29_16, ex_29_17, ex_29_18, ex_29_19, ex_29_20, ex_29_23, ex_29_24, ex_29_27, ex_29_28, ex_29_29, ex_29_30, ex_29_31, ex_29_32, ex_29_33, ex_29_36, ex_29_37, ex_29_38, ex_29_39, ex_29_40, ex_29_41, ex_29_42, ex_29_45, ex_29_48, ex_29_49, if_true, if_false, and_self, Option.toList_some, Option.toList_none, List.singleton_append, List.cons_append, List.nil_append, List.append_nil, nI_1, nt_e, Int32.le_refl, nI_leI, nI_ltI, hlt, hnle, bit_e, bi_e, nI_clamp, b2i_0, b2i_1, hn, hs]
      rw [underF] at h2; cases hb : bt s i <;> by_cases hq : leanV v i &&& nt (underF (leanV v) s i) = 0 <;> simpa [hb, hq] using h2
  simp (disch := first | exact am_nl_i _ | exact am_nl_r _ | exact am_nl_0 | assumption | omega | (refine vi_nI ?_ ?_ <;> omega) | exact b2i_01 _ | exact Or.inl rfl | exact Or.inr rfl | (unfold vi; decide)) only [ex_29_0, ex_29_1, ex_29_2, ex_29_3, ex_29_5, ex_29_6, ex_29_9, ex_29_12, ex_29_15, ex_29_16, ex_29_17, ex_29_18, ex_29_19, ex_29_20, ex_29_23, ex_29_24, ex_29_27, ex_29_28, ex_29_29, ex_29_30, ex_29_31, ex_29_32, ex_29_33, ex_29_36, ex_29_37, ex_29_38, ex_29_39, ex_29_40, ex_29_41, ex_29_42, ex_29_45, ex_29_48, ex_29_49, if_true, if_false, and_self, Option.toList_some, Option.toList_none, List.singleton_append, List.cons_append, List.nil_append, List.append_nil, nI_1, nt_e, Int32.le_refl]
  exact loop (nF v) 0 (by omega)
theorem doable_ok {s : Int32} (hL : sh L 3 19) (hC : LibC u L v) (hW : WF v) : Cl (d + 1) 30 [.ref L, .int s] (am_emb u) post ↔ post (some (.int (tasksV v s))) (am_emb u) := by
  refine Cl_iff ?_ post
  have hn := hC.1.2.2.2
  have h12 := hW.1.2.2.2
  have hs := hC.2.2.2.2.2.2.2.2.2.2.2.2.1
  rw [op_30]
  have loop : ∀ (kz i : Nat), i + kz = nT v → Ex (d + 1) 30 11 [some (.ref L), some (.int s), some (.int (underV v s)), some (.int (orF i (fun t => if canV v s t then bi t else 0))), some (.int (nI i))] [] (am_emb u) (fun w m => w = some (.int (tasksV v s)) ∧ m = am_emb u) := by
    intro kz
    induction kz with
    | zero =>
      intro i h1
      obtain rfl : i = nT v := by omega
      rw [ex_30_11]
      simp (disch := first | exact am_nl_i _ | exact am_nl_r _ | exact am_nl_0 | assumption | omega | (refine vi_nI ?_ ?_ <;> omega) | exact b2i_01 _ | exact Or.inl rfl | exact Or.inr rfl | (unfold vi; decide)) only [ex_30_0, ex_30_1, ex_30_2, ex_30_5, ex_30_6, ex_30_7, ex_30_8, ex_30_9, ex_30_13, ex_30_14, ex_30_17, ex_30_20, ex_30_23, ex_30_24, ex_30_27, ex_30_29, ex_30_30, ex_30_31, ex_30_32, ex_30_33, ex_30_34, ex_30_37, ex_30_38, ex_30_39, ex_30_41, ex_30_42, ex_30_43, ex_30_44, ex_30_47, ex_30_50, ex_30_51, if_true, if_false, and_self, Option.toList_some, Option.toList_none, List.singleton_append, List.cons_append, List.nil_append, List.append_nil, nI_1, nt_e, Int32.le_refl, hn, hs]
      exact ⟨rfl, trivial⟩
    | succ kz ih =>
      intro i h1
      have hlt : i < nT v := by omega
      have hnle : ¬ nT v ≤ i := by omega
      have h2 := ih (i + 1) (by omega)
      rw [ex_30_11]
      simp (disch := first | exact am_nl_i _ | exact am_nl_r _ | exact am_nl_0 | assumption | omega | (refine vi_nI ?_ ?_ <;> omega) | exact b2i_01 _ | exact Or.inl rfl | exact Or.inr rfl | (unfold vi; decide)) only [ex_30_0, ex_30_1, ex_30_2, ex_30_5, ex_30_6, ex_30_7, ex_30_8, ex_30_9, ex_30_13, ex_30_14, ex_30_17, ex_30_20, ex_30_23, ex_30_24, ex_30_27, ex_30_29, ex_30_30, ex_30_31, ex_30_32, ex_30_33, ex_30_34, ex_30_37, ex_30_38, ex_30_39, ex_30_41, ex_30_42, ex_30_43, ex_30_44, ex_30_47, ex_30_50, ex_30_51, if_true, if_false, and_self, Option.toList_some, Option.toList_none, List.singleton_append, List.cons_append, List.nil_append, List.append_nil, nI_1, nt_e, Int32.le_refl, nI_leI, nI_ltI, hlt, hnle, bit_e, bi_e, nI_clamp, b2i_0, b2i_1, hn, hs]
      rw [orF] at h2; by_cases hq : needV v i &&& nt (underV v s) = 0 <;> simpa [canV, hq, or_0] using h2
  simp (disch := first | exact am_nl_i _ | exact am_nl_r _ | exact am_nl_0 | assumption | omega | (refine vi_nI ?_ ?_ <;> omega) | exact b2i_01 _ | exact Or.inl rfl | exact Or.inr rfl | (unfold vi; decide)) only [ex_30_0, ex_30_1, ex_30_2, ex_30_5, ex_30_6, ex_30_7, ex_30_8, ex_30_9, ex_30_13, ex_30_14, ex_30_17, ex_30_20, ex_30_23, ex_30_24, ex_30_27, ex_30_29, ex_30_30, ex_30_31, ex_30_32, ex_30_33, ex_30_34, ex_30_37, ex_30_38, ex_30_39, ex_30_41, ex_30_42, ex_30_43, ex_30_44, ex_30_47, ex_30_50, ex_30_51, if_true, if_false, and_self, Option.toList_some, Option.toList_none, List.singleton_append, List.cons_append, List.nil_append, List.append_nil, nI_1, nt_e, Int32.le_refl, understood_ok hL hC hW]
  exact loop (nT v) 0 (by omega)
theorem honest_bt (hW : WF v) {i : Nat} (hi : i < nP v) : bt (honestV v) i = !lie v i := by
  have h12 := hW.1.2.1
  have h : bt (honestV v) i = true ↔ lie v i = false := by
    unfold honestV
    rw [orF_bt]
    constructor
    · rintro ⟨k, hk, h⟩
      cases hl : lie v k
      · rw [hl] at h
        simp only [Bool.false_eq_true, if_false] at h
        rw [bt_bi (by omega) (by omega)] at h
        have := of_decide_eq_true h
        subst this
        exact hl
      · rw [hl] at h
        simp [b_0] at h
    · intro hl
      refine ⟨i, hi, ?_⟩
      rw [hl]
      simp only [Bool.false_eq_true, if_false]
      rw [bt_bi (by omega) (by omega)]
      simp
  cases hl : lie v i
  · rw [h.mpr hl]; rfl
  · cases hb : bt (honestV v) i
    · rfl
    · rw [h.mp hb] at hl; cases hl
theorem know_e (hW : WF v) (s : Int32) : believesV v (s &&& honestV v) = knowsV v s :=
  orF_congr fun i hi => by rw [b_and, honest_bt hW hi]
theorem can_ok {e : Int32} {t : Nat} (hL : sh L 3 19) (hC : LibC u L v) (hW : WF v) (ht : t < nT v) : Cl (d + 2) 31 [.ref L, .int e, .int (nI t)] (am_emb u) post ↔ post (some (.int (b2i (bt (tasksV v (knowsV v e)) t)))) (am_emb u) := by
  have h12 := hW.1.2.2.2
  rw [op_31]
  simp (disch := first | exact am_nl_i _ | exact am_nl_r _ | exact am_nl_0 | assumption | omega | (refine vi_nI ?_ ?_ <;> omega) | exact b2i_01 _ | exact Or.inl rfl | exact Or.inr rfl | (unfold vi; decide)) only [ex_31_0, ex_31_1, ex_31_2, ex_31_3, ex_31_4, ex_31_7, ex_31_8, ex_31_11, ex_31_14, ex_31_15, ex_31_16, ex_31_17, ex_31_18, ex_31_21, ex_31_22, ex_31_25, ex_31_26, if_true, if_false, and_self, Option.toList_some, Option.toList_none, List.singleton_append, List.cons_append, List.nil_append, List.append_nil, nI_1, nt_e, Int32.le_refl, hC.2.2.2.2.2.2.2.2.2.2.2.2.2.1, said_ok hL hC hW, doable_ok hL hC hW, know_e hW, bit_e, b2i_0]
  cases bt (tasksV v (knowsV v e)) t <;> rfl
theorem worthWith_ok {e : Int32} (hL : sh L 3 19) (hC : LibC u L v) (hW : WF v) : Cl (d + 2) 32 [.ref L, .int e] (am_emb u) post ↔ post (some (.int (worthOfV v (knowsV v e)))) (am_emb u) := by
  refine Cl_iff ?_ post
  have hn := hC.1.2.2.2
  have h12 := hW.1.2.2.2
  have hs := hC.2.2.2.2.2.2.2.2.2.2.2.1
  have hbt : ∀ i, i < nT v → bt (tasksV v (knowsV v e)) i = canV v (knowsV v e) i := tasks_bt hW
  rw [op_32]
  have loop : ∀ (kz i : Nat), i + kz = nT v → Ex (d + 2) 32 20 [some (.ref L), some (.int e), some (.int (tasksV v (knowsV v e))), some (.int (sumF i (fun t => if canV v (knowsV v e) t then worthV v t else 0))), some (.int (nI i))] [] (am_emb u) (fun w m => w = some (.int (worthOfV v (knowsV v e))) ∧ m = am_emb u) := by
    intro kz
    induction kz with
    | zero =>
      intro i h1
      obtain rfl : i = nT v := by omega
      rw [ex_32_20]
      simp (disch := first | exact am_nl_i _ | exact am_nl_r _ | exact am_nl_0 | assumption | omega | (refine vi_nI ?_ ?_ <;> omega) | exact b2i_01 _ | exact Or.inl rfl | exact Or.inr rfl | (unfold vi; decide)) only [ex_32_0, ex_32_1, ex_32_2, ex_32_3, ex_32_4, ex_32_7, ex_32_8, ex_32_11, ex_32_14, ex_32_15, ex_32_16, ex_32_17, ex_32_18, ex_32_22, ex_32_23, ex_32_26, ex_32_29, ex_32_32, ex_32_33, ex_32_35, ex_32_36, ex_32_37, ex_32_38, ex_32_41, ex_32_42, ex_32_43, ex_32_46, ex_32_48, ex_32_49, ex_32_50, ex_32_51, ex_32_54, ex_32_57, ex_32_58, if_true, if_false, and_self, Option.toList_some, Option.toList_none, List.singleton_append, List.cons_append, List.nil_append, List.append_nil, nI_1, nt_e, Int32.le_refl, hn, hs, hbt]
      exact ⟨rfl, trivial⟩
    | succ kz ih =>
      intro i h1
      have hlt : i < nT v := by omega
      have hnle : ¬ nT v ≤ i := by omega
      have h2 := ih (i + 1) (by omega)
      rw [ex_32_20]
      simp (disch := first | exact am_nl_i _ | exact am_nl_r _ | exact am_nl_0 | assumption | omega | (refine vi_nI ?_ ?_ <;> omega) | exact b2i_01 _ | exact Or.inl rfl | exact Or.inr rfl | (unfold vi; decide)) only [ex_32_0, ex_32_1, ex_32_2, ex_32_3, ex_32_4, ex_32_7, ex_32_8, ex_32_11, ex_32_14, ex_32_15, ex_32_16, ex_32_17, ex_32_18, ex_32_22, ex_32_23, ex_32_26, ex_32_29, ex_32_32, ex_32_33, ex_32_35, ex_32_36, ex_32_37, ex_32_38, ex_32_41, ex_32_42, ex_32_43, ex_32_46, ex_32_48, ex_32_49, ex_32_50, ex_32_51, ex_32_54, ex_32_57, ex_32_58, if_true, if_false, and_self, Option.toList_some, Option.toList_none, List.singleton_append, List.cons_append, List.nil_append, List.append_nil, nI_1, nt_e, Int32.le_refl, nI_leI, nI_ltI, hlt, hnle, bit_e, bi_e, nI_clamp, b2i_0, b2i_1, hn, hs, hbt]
      rw [sumF] at h2; cases hq : canV v (knowsV v e) i <;> simpa [hq] using h2
  simp (disch := first | exact am_nl_i _ | exact am_nl_r _ | exact am_nl_0 | assumption | omega | (refine vi_nI ?_ ?_ <;> omega) | exact b2i_01 _ | exact Or.inl rfl | exact Or.inr rfl | (unfold vi; decide)) only [ex_32_0, ex_32_1, ex_32_2, ex_32_3, ex_32_4, ex_32_7, ex_32_8, ex_32_11, ex_32_14, ex_32_15, ex_32_16, ex_32_17, ex_32_18, ex_32_22, ex_32_23, ex_32_26, ex_32_29, ex_32_32, ex_32_33, ex_32_35, ex_32_36, ex_32_37, ex_32_38, ex_32_41, ex_32_42, ex_32_43, ex_32_46, ex_32_48, ex_32_49, ex_32_50, ex_32_51, ex_32_54, ex_32_57, ex_32_58, if_true, if_false, and_self, Option.toList_some, Option.toList_none, List.singleton_append, List.cons_append, List.nil_append, List.append_nil, nI_1, nt_e, Int32.le_refl, hC.2.2.2.2.2.2.2.2.2.2.2.2.2.1, said_ok hL hC hW, doable_ok hL hC hW, know_e hW]
  exact loop (nT v) 0 (by omega)
theorem isTorn_ok {s : Int32} (hL : sh L 3 19) (hC : LibC u L v) (hW : WF v) : Cl d 33 [.ref L, .int s] (am_emb u) post ↔ post (some (.int (b2i (tornV v s)))) (am_emb u) := by
  refine Cl_iff ?_ post
  have hn := hC.1.1
  have h12 := hW.1.1
  have hs := hC.2.2.2.1
  rw [op_33]
  have loop : ∀ (k i : Nat), i + k = nF v → tornF (clashV v) s i = false → Ex d 33 2 [some (.ref L), some (.int s), some (.int (nI i))] [] (am_emb u) (fun w m => w = some (.int (b2i (tornV v s))) ∧ m = am_emb u) := by
    intro k
    induction k with
    | zero =>
      intro i h1 hf
      obtain rfl : i = nF v := by omega
      rw [ex_33_2]
      simp (disch := first | exact am_nl_i _ | exact am_nl_r _ | exact am_nl_0 | assumption | omega | (refine vi_nI ?_ ?_ <;> omega) | exact b2i_01 _ | exact Or.inl rfl | exact Or.inr rfl | (unfold vi; decide)) only [ex_33_0, ex_33_1, ex_33_3, ex_33_4, ex_33_7, ex_33_10, ex_33_13, ex_33_14, ex_33_15, ex_33_16, ex_33_17, ex_33_18, ex_33_21, ex_33_22, ex_33_25, ex_33_26, ex_33_27, ex_33_28, ex_33_29, ex_33_32, ex_33_33, ex_33_34, ex_33_37, ex_33_40, ex_33_41, if_true, if_false, and_self, Option.toList_some, Option.toList_none, List.singleton_append, List.cons_append, List.nil_append, List.append_nil, nI_1, nt_e, Int32.le_refl, hn]
      rw [tornV, hf]
      exact ⟨rfl, trivial⟩
    | succ k ih =>
      intro i h1 hf
      have hlt : i < nF v := by omega
      have hnle : ¬ nF v ≤ i := by omega
      rw [ex_33_2]
      simp (disch := first | exact am_nl_i _ | exact am_nl_r _ | exact am_nl_0 | assumption | omega | (refine vi_nI ?_ ?_ <;> omega) | exact b2i_01 _ | exact Or.inl rfl | exact Or.inr rfl | (unfold vi; decide)) only [ex_33_0, ex_33_1, ex_33_3, ex_33_4, ex_33_7, ex_33_10, ex_33_13, ex_33_14, ex_33_15, ex_33_16, ex_33_17, ex_33_18, ex_33_21, ex_33_22, ex_33_25, ex_33_26, ex_33_27, ex_33_28, ex_33_29, ex_33_32, ex_33_33, ex_33_34, ex_33_37, ex_33_40, ex_33_41, if_true, if_false, and_self, Option.toList_some, Option.toList_none, List.singleton_append, List.cons_append, List.nil_append, List.append_nil, nI_1, nt_e, Int32.le_refl, nI_leI, hn, hs, hlt, hnle, bit_e, nI_clamp, b2i_0]
      have e1 : tornF (clashV v) s (i + 1) = (bt s i && !decide (clashV v i &&& s = 0)) := by rw [tornF, hf, Bool.false_or]
      by_cases hb : bt s i = false
      · rw [if_pos hb]
        exact ih (i + 1) (by omega) (by rw [e1, hb]; rfl)
      · rw [if_neg hb]
        by_cases hq : clashV v i &&& s = 0
        · rw [if_pos hq]
          exact ih (i + 1) (by omega) (by rw [e1, decide_eq_true hq]; simp)
        · rw [if_neg hq, tornV, torn_mono (n := nF v) (m := i + 1) (by omega) (by rw [e1, decide_eq_false hq]; simpa using hb)]
          exact ⟨rfl, trivial⟩
  simp (disch := first | exact am_nl_i _ | exact am_nl_r _ | exact am_nl_0 | assumption | omega | (refine vi_nI ?_ ?_ <;> omega) | exact b2i_01 _ | exact Or.inl rfl | exact Or.inr rfl | (unfold vi; decide)) only [ex_33_0, ex_33_1, ex_33_3, ex_33_4, ex_33_7, ex_33_10, ex_33_13, ex_33_14, ex_33_15, ex_33_16, ex_33_17, ex_33_18, ex_33_21, ex_33_22, ex_33_25, ex_33_26, ex_33_27, ex_33_28, ex_33_29, ex_33_32, ex_33_33, ex_33_34, ex_33_37, ex_33_40, ex_33_41, if_true, if_false, and_self, Option.toList_some, Option.toList_none, List.singleton_append, List.cons_append, List.nil_append, List.append_nil, nI_1, nt_e, Int32.le_refl]
  exact loop (nF v) 0 (by omega) rfl
theorem pagesSaying_ok {f : Int32} (hL : sh L 3 19) (hC : LibC u L v) (hW : WF v) : Cl d 26 [.ref L, .int f] (am_emb u) post ↔ post (some (.int (pagesOfV v f))) (am_emb u) := by
  refine Cl_iff ?_ post
  have hn := hC.1.2.1
  have h12 := hW.1.2.1
  have hs := hC.2.2.2.2.2.2.2.1
  rw [op_26]
  have loop : ∀ (kz i : Nat), i + kz = nP v → Ex d 26 4 [some (.ref L), some (.int f), some (.int (orF i (fun i => ((saysV v i >>> (f &&& 31)) &&& 1) <<< (nI i &&& 31)))), some (.int (nI i))] [] (am_emb u) (fun w m => w = some (.int (pagesOfV v f)) ∧ m = am_emb u) := by
    intro kz
    induction kz with
    | zero =>
      intro i h1
      obtain rfl : i = nP v := by omega
      rw [ex_26_4]
      simp (disch := first | exact am_nl_i _ | exact am_nl_r _ | exact am_nl_0 | assumption | omega | (refine vi_nI ?_ ?_ <;> omega) | exact b2i_01 _ | exact Or.inl rfl | exact Or.inr rfl | (unfold vi; decide)) only [ex_26_0, ex_26_1, ex_26_2, ex_26_3, ex_26_5, ex_26_6, ex_26_9, ex_26_12, ex_26_15, ex_26_16, ex_26_17, ex_26_20, ex_26_21, ex_26_22, ex_26_23, ex_26_24, ex_26_25, ex_26_26, ex_26_27, ex_26_28, ex_26_29, ex_26_30, ex_26_33, ex_26_36, ex_26_37, if_true, if_false, and_self, Option.toList_some, Option.toList_none, List.singleton_append, List.cons_append, List.nil_append, List.append_nil, nI_1, nt_e, Int32.le_refl, hn, hs]
      exact ⟨rfl, trivial⟩
    | succ kz ih =>
      intro i h1
      have hlt : i < nP v := by omega
      have hnle : ¬ nP v ≤ i := by omega
      have h2 := ih (i + 1) (by omega)
      rw [ex_26_4]
      simp (disch := first | exact am_nl_i _ | exact am_nl_r _ | exact am_nl_0 | assumption | omega | (refine vi_nI ?_ ?_ <;> omega) | exact b2i_01 _ | exact Or.inl rfl | exact Or.inr rfl | (unfold vi; decide)) only [ex_26_0, ex_26_1, ex_26_2, ex_26_3, ex_26_5, ex_26_6, ex_26_9, ex_26_12, ex_26_15, ex_26_16, ex_26_17, ex_26_20, ex_26_21, ex_26_22, ex_26_23, ex_26_24, ex_26_25, ex_26_26, ex_26_27, ex_26_28, ex_26_29, ex_26_30, ex_26_33, ex_26_36, ex_26_37, if_true, if_false, and_self, Option.toList_some, Option.toList_none, List.singleton_append, List.cons_append, List.nil_append, List.append_nil, nI_1, nt_e, Int32.le_refl, nI_leI, nI_ltI, hlt, hnle, bit_e, bi_e, nI_clamp, b2i_0, b2i_1, hn, hs]
      rw [orF] at h2; exact h2
  simp (disch := first | exact am_nl_i _ | exact am_nl_r _ | exact am_nl_0 | assumption | omega | (refine vi_nI ?_ ?_ <;> omega) | exact b2i_01 _ | exact Or.inl rfl | exact Or.inr rfl | (unfold vi; decide)) only [ex_26_0, ex_26_1, ex_26_2, ex_26_3, ex_26_5, ex_26_6, ex_26_9, ex_26_12, ex_26_15, ex_26_16, ex_26_17, ex_26_20, ex_26_21, ex_26_22, ex_26_23, ex_26_24, ex_26_25, ex_26_26, ex_26_27, ex_26_28, ex_26_29, ex_26_30, ex_26_33, ex_26_36, ex_26_37, if_true, if_false, and_self, Option.toList_some, Option.toList_none, List.singleton_append, List.cons_append, List.nil_append, List.append_nil, nI_1, nt_e, Int32.le_refl]
  exact loop (nP v) 0 (by omega)
end ClassLeaves
