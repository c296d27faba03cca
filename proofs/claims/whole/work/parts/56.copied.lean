/-! A COPY -/
def copiedB (v : LV) (l : LF) (x : Int32) : Bool := okI x (nP v) && (!decide (copL l (ix x) < 1) && decide (copL l (ix x) < 9))
def clampV (r : Int32) : Int32 := if r < 0 then 0 else if 99 < r then 99 else r
def costV (v : LV) (l : LF) (k : Nat) : Int32 := clampV (lawV v 0 (weighV v k) (copL l k))
def copiedL (v : LV) (l : LF) (k : Nat) : LF := (eatL l, leftL l, upd (copL l) k (copL l k + 1), aliveL l, dayL l, spentL l + costV v l k)
theorem clamp_c (r : Int32) : (if 0 < (if r < 99 then r else 99) then (if r < 99 then r else 99) else 0) = clampV r := by
  unfold clampV
  by_cases h1 : r < 0
  · have h2 : r < 99 := by
      rw [Int32.lt_iff_toInt_lt] at h1 ⊢
      rw [Int32.toInt_zero] at h1
      rw [show (99 : Int32).toInt = 99 from rfl]
      omega
    rw [if_pos h1, if_pos h2, if_neg]
    intro q
    rw [Int32.lt_iff_toInt_lt] at h1 q
    omega
  · rw [if_neg h1]
    by_cases h2 : 99 < r
    · have h3 : ¬ r < 99 := fun q => by
        rw [Int32.lt_iff_toInt_lt] at h2 q
        omega
      rw [if_pos h2, if_neg h3, if_pos (by decide)]
    · rw [if_neg h2]
      by_cases h3 : r < 99
      · rw [if_pos h3]
        by_cases h4 : 0 < r
        · rw [if_pos h4]
        · rw [if_neg h4]
          apply Int32.toInt_inj.mp
          rw [Int32.lt_iff_toInt_lt] at h1 h4
          rw [Int32.toInt_zero] at h1 h4 ⊢
          omega
      · rw [if_neg h3, if_pos (by decide)]
        apply Int32.toInt_inj.mp
        rw [Int32.lt_iff_toInt_lt] at h2 h3
        omega
theorem clamp_m (r : Int32) : ¬ clampV r = -1 := by
  unfold clampV
  split
  · decide
  · split
    · decide
    · next h _ => exact fun q => h (by rw [q]; decide)
theorem clamp_w {v : LV} {k : Nat} (hW : WF v) (hk : k < nP v) : clampV (weighV v k) = weighV v k := by
  obtain ⟨n, h1, h2, h3⟩ := (hW.2.2.2.1 k hk).2.1
  rw [h3]
  exact (by decide +kernel : ∀ n, n ≤ 9 → clampV (nI n) = nI n) n h2
section Copied
variable {d L b : Nat} {u : am_U} {m : am_M} {v : LV} {l : LF} {post : Option Value → am_M → Prop}
theorem cop_C {k : Nat} {w : Int32} (hk : k < 12) (hl : LifeC u b l) : LifeC (sAI u (b + 3) (upd (AI u (b + 3)) k w)) b (eatL l, leftL l, upd (copL l) k w, aliveL l, dayL l, spentL l) := by
  obtain ⟨l1, l2, l3, l4, l5, l6⟩ := hl
  refine ⟨?_, ?_, fun p hp => ?_, l4, l5, l6⟩
  · rw [AI_sAI, if_neg (by omega)]; exact l1
  · rw [AI_sAI, if_neg (by omega)]; exact l2
  · rw [AI_sAI, if_pos rfl]
    show _ = upd (copL l) k w p
    by_cases e : p = k
    · rw [e, upd_s, upd_s]
    · rw [upd_n e, upd_n e]; exact l3 p hp
theorem spent_C {w : Int32} (hl : LifeC u b l) : LifeC (sFI u b 5 w) b (eatL l, leftL l, copL l, aliveL l, dayL l, w) := by
  obtain ⟨l1, l2, l3, l4, l5, l6⟩ := hl
  refine ⟨l1, l2, l3, ?_, ?_, ?_⟩
  · rw [FI_sFI, if_neg (by omega)]; exact l4
  · rw [FI_sFI, if_neg (by omega)]; exact l5
  · rw [FI_sFI, if_pos ⟨rfl, rfl⟩]; rfl
theorem copied_ok {x : Int32} (hb : sh b 4 6) (hL : sh L 3 19) (hl : LifeC u b l) (hC : LibC u L v) (hF : FmC u (L + 20) (lawV v 0)) (hW : WF v)
    (h0 : copiedB v l x = false → post (some (.int (-1))) (am_emb u)) (h1 : copiedB v l x = true → ∀ u', Only (inLS b L) u u' → LifeC u' b (copiedL v l (ix x)) → post (some (.int (costV v l (ix x)))) (am_emb u')) : Cl (d + 2) 43 [.ref b, .ref L, .int x] (am_emb u) post := by
  have h12 := hW.1.2.1
  have hbp := life_places hb
  have hLp := lib_places hL
  rw [op_43]
  simp (disch := first | exact am_nl_i _ | exact am_nl_r _ | exact am_nl_0 | assumption | omega | (refine vi_nI ?_ ?_ <;> omega) | exact b2i_01 _ | exact Or.inl rfl | exact Or.inr rfl | (unfold vi; decide)) only [ex_43_0, ex_43_1, ex_43_4, ex_43_5, ex_43_8, ex_43_11, ex_43_12, ex_43_15, ex_43_16, ex_43_17, ex_43_18, ex_43_21, ex_43_22, ex_43_25, ex_43_26, ex_43_27, ex_43_29, ex_43_32, ex_43_33, ex_43_34, ex_43_35, ex_43_37, ex_43_38, ex_43_41, ex_43_42, ex_43_45, ex_43_46, ex_43_47, ex_43_48, ex_43_51, ex_43_52, ex_43_53, ex_43_56, ex_43_59, ex_43_62, ex_43_63, ex_43_64, ex_43_67, ex_43_68, ex_43_69, ex_43_70, ex_43_71, ex_43_72, ex_43_73, ex_43_74, ex_43_75, ex_43_78, ex_43_79, ex_43_80, ex_43_83, ex_43_84, if_true, if_false, and_self, Option.toList_some, Option.toList_none, List.singleton_append, List.cons_append, List.nil_append, List.append_nil, nI_1, nt_e, Int32.le_refl, has_ok (sh_3_3 hL) hC.1.2.1 hC.2.1.2.1 h12 h12 (Nat.le_refl 12), b2i_0]
  rw [show decide (0 ≤ x.toInt ∧ x.toInt < (nP v : Int)) = okI x (nP v) from rfl]
  unfold copiedB at h0 h1
  cases hx : okI x (nP v)
  · simp only [if_true]
    exact h0 (by rw [hx]; rfl)
  rw [hx] at h0 h1
  rw [if_neg (by simp)]
  obtain ⟨g1, g2⟩ := okI_ix hx
  generalize ix x = k at *
  subst g2
  simp (disch := first | exact am_nl_i _ | exact am_nl_r _ | exact am_nl_0 | assumption | omega | (refine vi_nI ?_ ?_ <;> omega) | exact b2i_01 _ | exact Or.inl rfl | exact Or.inr rfl | (unfold vi; decide)) only [ex_43_0, ex_43_1, ex_43_4, ex_43_5, ex_43_8, ex_43_11, ex_43_12, ex_43_15, ex_43_16, ex_43_17, ex_43_18, ex_43_21, ex_43_22, ex_43_25, ex_43_26, ex_43_27, ex_43_29, ex_43_32, ex_43_33, ex_43_34, ex_43_35, ex_43_37, ex_43_38, ex_43_41, ex_43_42, ex_43_45, ex_43_46, ex_43_47, ex_43_48, ex_43_51, ex_43_52, ex_43_56, ex_43_59, ex_43_62, ex_43_63, ex_43_64, ex_43_67, ex_43_68, ex_43_69, ex_43_70, ex_43_71, ex_43_72, ex_43_73, ex_43_74, ex_43_75, ex_43_78, ex_43_79, ex_43_80, ex_43_83, ex_43_84, if_true, if_false, and_self, Option.toList_some, Option.toList_none, List.singleton_append, List.cons_append, List.nil_append, List.append_nil, nI_1, nt_e, Int32.le_refl, hl.2.2.1, nI_clamp]
  by_cases q1 : copL l k < 1
  · rw [if_pos q1]
    exact h0 (by rw [decide_eq_true q1]; rfl)
  rw [if_neg q1]
  rw [decide_eq_false q1] at h0 h1
  by_cases q2 : copL l k < 9
  · rw [if_pos q2]
    rw [decide_eq_true q2] at h1
    simp (disch := first | exact am_nl_i _ | exact am_nl_r _ | exact am_nl_0 | assumption | omega | (refine vi_nI ?_ ?_ <;> omega) | exact b2i_01 _ | exact Or.inl rfl | exact Or.inr rfl | (unfold vi; decide)) only [ex_43_0, ex_43_1, ex_43_4, ex_43_5, ex_43_8, ex_43_11, ex_43_12, ex_43_15, ex_43_16, ex_43_17, ex_43_18, ex_43_21, ex_43_22, ex_43_25, ex_43_26, ex_43_27, ex_43_29, ex_43_32, ex_43_33, ex_43_34, ex_43_35, ex_43_37, ex_43_38, ex_43_41, ex_43_42, ex_43_45, ex_43_46, ex_43_47, ex_43_48, ex_43_51, ex_43_52, ex_43_56, ex_43_59, ex_43_62, ex_43_63, ex_43_64, ex_43_67, ex_43_68, ex_43_69, ex_43_70, ex_43_71, ex_43_72, ex_43_73, ex_43_74, ex_43_75, ex_43_78, ex_43_79, ex_43_80, ex_43_83, ex_43_84, if_true, if_false, and_self, Option.toList_some, Option.toList_none, List.singleton_append, List.cons_append, List.nil_append, List.append_nil, nI_1, nt_e, Int32.le_refl, hl.2.2.1, hC.2.2.2.2.2.1, nI_clamp]
    rw [ex_43_53 hL]
    refine value_ok (sh_3_20 hL) hF (fun u1 o1 => ?_)
    have a1 : LifeC u1 b l := hl.keep o1 (fun k hk q => by unfold is at q; omega)
    have e3 : AI u1 (b + 3) k = copL l k := a1.2.2.1 k (by omega)
    have h1 := h1 rfl
    unfold copiedL costV at h1
    simp (disch := first | exact am_nl_i _ | exact am_nl_r _ | exact am_nl_0 | assumption | omega | (refine vi_nI ?_ ?_ <;> omega) | exact b2i_01 _ | exact Or.inl rfl | exact Or.inr rfl | (unfold vi; decide)) only [ex_43_0, ex_43_1, ex_43_4, ex_43_5, ex_43_8, ex_43_11, ex_43_12, ex_43_15, ex_43_16, ex_43_17, ex_43_18, ex_43_21, ex_43_22, ex_43_25, ex_43_26, ex_43_27, ex_43_29, ex_43_32, ex_43_33, ex_43_34, ex_43_35, ex_43_37, ex_43_38, ex_43_41, ex_43_42, ex_43_45, ex_43_46, ex_43_47, ex_43_48, ex_43_51, ex_43_52, ex_43_53, ex_43_56, ex_43_59, ex_43_62, ex_43_63, ex_43_64, ex_43_67, ex_43_68, ex_43_69, ex_43_70, ex_43_71, ex_43_72, ex_43_73, ex_43_74, ex_43_75, ex_43_78, ex_43_79, ex_43_80, ex_43_83, ex_43_84, if_true, if_false, and_self, Option.toList_some, Option.toList_none, List.singleton_append, List.cons_append, List.nil_append, List.append_nil, nI_1, nt_e, Int32.le_refl, min_ok, max_ok, clamp_c, nI_clamp, e3]
    have e5 : FI (sAI u1 (b + 3) (upd (AI u1 (b + 3)) k (copL l k + 1))) b 5 = spentL l := a1.2.2.2.2.2
    rw [e5]
    refine h1 _ (of_fi (of_ai (o1.wk (fun a q => Or.inr (Or.inl q))) (Or.inl ?_)) (Or.inl ?_)) (spent_C (cop_C (by omega) a1))
    · unfold inL; omega
    · unfold inL; omega
  · rw [if_neg q2]
    try simp (disch := first | exact am_nl_i _ | exact am_nl_r _ | exact am_nl_0 | assumption | omega | (refine vi_nI ?_ ?_ <;> omega) | exact b2i_01 _ | exact Or.inl rfl | exact Or.inr rfl | (unfold vi; decide)) only [ex_43_0, ex_43_1, ex_43_4, ex_43_5, ex_43_8, ex_43_11, ex_43_12, ex_43_15, ex_43_16, ex_43_17, ex_43_18, ex_43_21, ex_43_22, ex_43_25, ex_43_26, ex_43_27, ex_43_29, ex_43_32, ex_43_33, ex_43_34, ex_43_35, ex_43_37, ex_43_38, ex_43_41, ex_43_42, ex_43_45, ex_43_46, ex_43_47, ex_43_48, ex_43_51, ex_43_52, ex_43_53, ex_43_56, ex_43_59, ex_43_62, ex_43_63, ex_43_64, ex_43_67, ex_43_68, ex_43_69, ex_43_70, ex_43_71, ex_43_72, ex_43_73, ex_43_74, ex_43_75, ex_43_78, ex_43_79, ex_43_80, ex_43_83, ex_43_84, if_true, if_false, and_self, Option.toList_some, Option.toList_none, List.singleton_append, List.cons_append, List.nil_append, List.append_nil, nI_1, nt_e, Int32.le_refl]
    exact h0 (by rw [decide_eq_false q2]; rfl)
theorem between_ok {x a b : Int32} : Cl d 162 [.int x, .int a, .int b] m post ↔ post (some (.int (if x < a then a else if b < x then b else x))) m := by
  rw [op_162]
  simp (disch := first | exact am_nl_i _ | exact am_nl_r _ | exact am_nl_0 | assumption | omega | (refine vi_nI ?_ ?_ <;> omega) | exact b2i_01 _ | exact Or.inl rfl | exact Or.inr rfl | (unfold vi; decide)) only [ex_162_0, ex_162_1, ex_162_2, ex_162_5, ex_162_6, ex_162_9, ex_162_10, ex_162_11, ex_162_14, ex_162_15, ex_162_18, ex_162_19, if_true, if_false, and_self, Option.toList_some, Option.toList_none, List.singleton_append, List.cons_append, List.nil_append, List.append_nil, nI_1, nt_e, Int32.le_refl]
  by_cases h1 : x < a
  · rw [if_neg (Int32.not_le.mpr h1), if_pos h1]
  · rw [if_pos (Int32.not_lt.mp h1), if_neg h1]
    by_cases h2 : b < x
    · rw [if_neg (Int32.not_le.mpr h2), if_pos h2]
    · rw [if_pos (Int32.not_lt.mp h2), if_neg h2]
theorem cop_in {c : Int32} : decide ((1 : Int32) ≤ c ∧ c ≤ 8) = (!decide (c < 1) && decide (c < 9)) := by
  have e1 : (1 : Int32) ≤ c ↔ ¬ c < 1 := Int32.not_lt.symm
  have e2 : c ≤ 8 ↔ c < 9 := by
    rw [Int32.le_iff_toInt_le, Int32.lt_iff_toInt_lt, show (8 : Int32).toInt = 8 from rfl, show (9 : Int32).toInt = 9 from rfl]
    omega
  by_cases q1 : c < 1 <;> by_cases q2 : c < 9 <;> simp [e1, e2, q1, q2]
theorem canCopy_ok {x : Int32} (hR : LibR u v) (hl : LifeR u v l) (hW : WF v) : Cl (d + 1) 233 [.ref 203, .int x] (am_emb u) post ↔ post (some (.int (b2i (copiedB v l x)))) (am_emb u) := by
  have h12 := hW.1.2.1
  have hc : ∀ k, k < 12 → AI u 241 (13 + k) = copL l k := fun k hk => by have := hl.2.2.2.1 k hk; rwa [Nat.zero_add] at this
  rw [op_233]
  simp (disch := first | exact am_nl_i _ | exact am_nl_r _ | exact am_nl_0 | assumption | omega | (refine vi_nI ?_ ?_ <;> omega) | exact b2i_01 _ | exact Or.inl rfl | exact Or.inr rfl | (unfold vi; decide)) only [ex_233_0, ex_233_1, ex_233_2, ex_233_5, ex_233_8, ex_233_9, ex_233_12, ex_233_14, ex_233_15, ex_233_16, ex_233_17, ex_233_18, ex_233_20, ex_233_23, ex_233_26, ex_233_27, ex_233_30, ex_233_31, if_true, if_false, and_self, Option.toList_some, Option.toList_none, List.singleton_append, List.cons_append, List.nil_append, List.append_nil, nI_1, nt_e, Int32.le_refl, isPage_ok hR hW, b2i_0]
  unfold copiedB
  cases g3 : okI x (nP v)
  · simp only [if_true]; rfl
  rw [if_neg (by simp)]
  obtain ⟨i1, i2⟩ := okI_ix g3
  generalize ix x = k at *
  subst i2
  simp (disch := first | exact am_nl_i _ | exact am_nl_r _ | exact am_nl_0 | assumption | omega | (refine vi_nI ?_ ?_ <;> omega) | exact b2i_01 _ | exact Or.inl rfl | exact Or.inr rfl | (unfold vi; decide)) only [ex_233_0, ex_233_1, ex_233_2, ex_233_5, ex_233_8, ex_233_9, ex_233_12, ex_233_14, ex_233_15, ex_233_16, ex_233_17, ex_233_18, ex_233_20, ex_233_23, ex_233_26, ex_233_27, ex_233_30, ex_233_31, if_true, if_false, and_self, Option.toList_some, Option.toList_none, List.singleton_append, List.cons_append, List.nil_append, List.append_nil, nI_1, nt_e, Int32.le_refl, nI13, nI_clamp, hc, within_ok, cop_in, b2i_0]
  cases (!decide (copL l k < 1) && decide (copL l k < 9)) <;> rfl
theorem cop_R {k : Nat} {w z : Int32} (h6 : nE v ≤ 6) (hk : k < 12) (hl : LifeR u v l) : LifeR (sAI (sAI u 241 (upd (AI u 241) (13 + k) w)) 241 (upd (upd (AI u 241) (13 + k) w) 26 z)) v (eatL l, leftL l, upd (copL l) k w, aliveL l, dayL l, z) := by
  obtain ⟨a1, a2, a3, a4, a5, a6⟩ := hl
  simp only [Nat.zero_add] at a1 a2 a3 a4 a5 a6
  unfold LifeR RowR
  simp only [AI_sAI, if_true, Nat.zero_add]
  refine ⟨fun p hp => ?_, fun p hp => ?_, ?_, fun j hj => ?_, ?_, ?_⟩
  · rw [upd_n (by omega), upd_n (by omega)]; exact a1 p hp
  · rw [upd_n (by omega), upd_n (by omega)]; exact a2 p hp
  · rw [upd_n (by omega), upd_n (by omega)]; exact a3
  · show _ = upd (copL l) k w j
    rw [upd_n (by omega)]
    by_cases e : j = k
    · rw [e, upd_s, upd_s]
    · rw [upd_n (by omega), upd_n e]; exact a4 j hj
  · rw [upd_n (by omega), upd_n (by omega)]; exact a5
  · rw [upd_s]; rfl
theorem makes_ok {k : Nat} (hR : LibR u v) (hcd : CodeR u v) (hl : LifeR u v l) (hW : WF v) (hk : k < nP v)
    (h : ∀ u', Only bR u u' → LifeR u' v (copiedL v l k) → post (some (.int (costV v l k))) (am_emb u')) : Cl (d + 3) 234 [.ref 203, .int (nI k)] (am_emb u) post := by
  have h6 := hW.1.2.2.1
  have h12 := hW.1.2.1
  have hc : ∀ k, k < 12 → AI u 241 (13 + k) = copL l k := fun k hk => by have := hl.2.2.2.1 k hk; rwa [Nat.zero_add] at this
  have hsp : AI u 241 26 = spentL l := hl.2.2.2.2.2
  have hwg := hR.2.2.2.2.1 k hk
  have hB : ∀ u1 x, Only wkQ u u1 → x = costV v l k → Ex (d + 3) 234 61 [some (.ref 203), some (.int (nI k)), some (.int x)] [] (am_emb u1) post := by
    intro u1 x o1 hx
    have l1 : LifeR u1 v l := hl.keep o1 (by unfold wkQ; omega)
    have e1 : AI u1 241 (13 + k) = copL l k := by rw [(o1 241 (by unfold wkQ; omega)).2.2.2.1]; exact hc k (by omega)
    have e2 : AI u1 241 26 = spentL l := l1.2.2.2.2.2
    have e3 : ¬ (26 : Nat) = 13 + k := by omega
    simp (disch := first | exact am_nl_i _ | exact am_nl_r _ | exact am_nl_0 | assumption | omega | (refine vi_nI ?_ ?_ <;> omega) | exact b2i_01 _ | exact Or.inl rfl | exact Or.inr rfl | (unfold vi; decide)) only [ex_234_0, ex_234_1, ex_234_4, ex_234_5, ex_234_6, ex_234_7, ex_234_8, ex_234_11, ex_234_12, ex_234_13, ex_234_14, ex_234_17, ex_234_18, ex_234_19, ex_234_22, ex_234_23, ex_234_26, ex_234_27, ex_234_28, ex_234_31, ex_234_32, ex_234_33, ex_234_34, ex_234_35, ex_234_38, ex_234_39, ex_234_40, ex_234_43, ex_234_45, ex_234_46, ex_234_47, ex_234_48, ex_234_49, ex_234_50, ex_234_51, ex_234_54, ex_234_55, ex_234_57, ex_234_60, ex_234_61, ex_234_62, ex_234_65, ex_234_67, ex_234_68, ex_234_69, ex_234_70, ex_234_71, ex_234_72, ex_234_73, ex_234_74, ex_234_75, ex_234_78, ex_234_80, ex_234_81, ex_234_82, ex_234_83, ex_234_84, ex_234_85, ex_234_86, if_true, if_false, and_self, Option.toList_some, Option.toList_none, List.singleton_append, List.cons_append, List.nil_append, List.append_nil, nI_1, nt_e, Int32.le_refl, nI13, nI_clamp, AI_sAI, e1, c26]
    rw [hx]
    refine h _ (of_ai (of_ai (o1.wk (fun a q => Or.inl q)) (Or.inr rfl)) (Or.inr rfl)) ?_
    rw [upd_n e3, e2]
    exact cop_R h6 (by omega) l1
  obtain ⟨f, t, hc1, hc2, hc3, hc4⟩ := hcd
  obtain ⟨c1a, c1b, c1c, c1d⟩ := hc1 0 (by decide)
  rw [op_234]
  simp (disch := first | exact am_nl_i _ | exact am_nl_r _ | exact am_nl_0 | assumption | omega | (refine vi_nI ?_ ?_ <;> omega) | exact b2i_01 _ | exact Or.inl rfl | exact Or.inr rfl | (unfold vi; decide)) only [ex_234_0, ex_234_1, ex_234_4, ex_234_5, ex_234_6, ex_234_7, ex_234_8, ex_234_11, ex_234_12, ex_234_13, ex_234_14, ex_234_17, ex_234_18, ex_234_19, ex_234_22, ex_234_23, ex_234_26, ex_234_27, ex_234_28, ex_234_31, ex_234_32, ex_234_33, ex_234_34, ex_234_35, ex_234_38, ex_234_39, ex_234_40, ex_234_43, ex_234_45, ex_234_46, ex_234_47, ex_234_48, ex_234_49, ex_234_50, ex_234_54, ex_234_55, ex_234_57, ex_234_60, ex_234_62, ex_234_65, ex_234_67, ex_234_68, ex_234_69, ex_234_70, ex_234_71, ex_234_72, ex_234_73, ex_234_74, ex_234_75, ex_234_78, ex_234_80, ex_234_81, ex_234_82, ex_234_83, ex_234_84, ex_234_85, ex_234_86, if_true, if_false, and_self, Option.toList_some, Option.toList_none, List.singleton_append, List.cons_append, List.nil_append, List.append_nil, nI_1, nt_e, Int32.le_refl, c0, c1a, c1b, nI_leI, nI_clamp, hwg]
  by_cases hft : f 0 < t 0
  · rw [if_neg (by omega)]
    try simp (disch := first | exact am_nl_i _ | exact am_nl_r _ | exact am_nl_0 | assumption | omega | (refine vi_nI ?_ ?_ <;> omega) | exact b2i_01 _ | exact Or.inl rfl | exact Or.inr rfl | (unfold vi; decide)) only [ex_234_0, ex_234_1, ex_234_4, ex_234_5, ex_234_6, ex_234_7, ex_234_8, ex_234_11, ex_234_12, ex_234_13, ex_234_14, ex_234_17, ex_234_18, ex_234_19, ex_234_22, ex_234_23, ex_234_26, ex_234_27, ex_234_28, ex_234_31, ex_234_32, ex_234_33, ex_234_34, ex_234_35, ex_234_38, ex_234_39, ex_234_40, ex_234_43, ex_234_45, ex_234_46, ex_234_47, ex_234_48, ex_234_49, ex_234_50, ex_234_54, ex_234_55, ex_234_57, ex_234_60, ex_234_62, ex_234_65, ex_234_67, ex_234_68, ex_234_69, ex_234_70, ex_234_71, ex_234_72, ex_234_73, ex_234_74, ex_234_75, ex_234_78, ex_234_80, ex_234_81, ex_234_82, ex_234_83, ex_234_84, ex_234_85, ex_234_86, if_true, if_false, and_self, Option.toList_some, Option.toList_none, List.singleton_append, List.cons_append, List.nil_append, List.append_nil, nI_1, nt_e, Int32.le_refl, c1, c2, nI_clamp, hwg, AI_sAI, Nat.reduceEqDiff, nI13, hc]
    rw [ex_234_51]
    refine worked_ok (k := 0) (h := weighV v k) (o := copL l k) (by decide) c1a c1b hft c1d ?_ ?_ (fun q0 => hc2 0 (by decide) hft _ _ q0) (fun u1 o1 => ?_)
    · simp only [AI_sAI, if_true]
      rw [upd_n (by decide), upd_s]
    · simp only [AI_sAI, if_true]
      exact upd_s
    · simp (disch := first | exact am_nl_i _ | exact am_nl_r _ | exact am_nl_0 | assumption | omega | (refine vi_nI ?_ ?_ <;> omega) | exact b2i_01 _ | exact Or.inl rfl | exact Or.inr rfl | (unfold vi; decide)) only [ex_234_0, ex_234_1, ex_234_4, ex_234_5, ex_234_6, ex_234_7, ex_234_8, ex_234_11, ex_234_12, ex_234_13, ex_234_14, ex_234_17, ex_234_18, ex_234_19, ex_234_22, ex_234_23, ex_234_26, ex_234_27, ex_234_28, ex_234_31, ex_234_32, ex_234_33, ex_234_34, ex_234_35, ex_234_38, ex_234_39, ex_234_40, ex_234_43, ex_234_45, ex_234_46, ex_234_47, ex_234_48, ex_234_49, ex_234_50, ex_234_51, ex_234_54, ex_234_55, ex_234_57, ex_234_60, ex_234_62, ex_234_65, ex_234_67, ex_234_68, ex_234_69, ex_234_70, ex_234_71, ex_234_72, ex_234_73, ex_234_74, ex_234_75, ex_234_78, ex_234_80, ex_234_81, ex_234_82, ex_234_83, ex_234_84, ex_234_85, ex_234_86, if_true, if_false, and_self, Option.toList_some, Option.toList_none, List.singleton_append, List.cons_append, List.nil_append, List.append_nil, nI_1, nt_e, Int32.le_refl, between_ok]
      have w : wkQ 235 := by unfold wkQ; omega
      exact hB u1 _ (Only.tr (of_ai (of_ai (Only.rf _ _) w) w) (o1.wk (fun a q => by unfold wkP at q; unfold wkQ; omega))) rfl
  · rw [if_pos (by omega)]
    refine hB u _ (Only.rf _ _) ?_
    unfold costV
    rw [hc3 hft, clamp_w hW hk]
end Copied
