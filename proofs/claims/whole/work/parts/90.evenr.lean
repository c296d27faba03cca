/-! EVENINGS, of the reference -/
def descB : Bool := (List.range 64).all (fun p => (List.range 64).all (fun g => !(g &&& p == g) || (g == 0 || (decide (((g - 1) &&& p) < g) && ((((g - 1) &&& p) &&& p == ((g - 1) &&& p)) && (List.range 64).all (fun h => !(h &&& p == h) || (!decide (h < g) || decide (h ≤ ((g - 1) &&& p)))))))))
theorem descB_t : descB = true := by decide +kernel
theorem desc_dec (p : Nat) (hp : p < 64) (g : Nat) (hg : g < 64) (h1 : g &&& p = g) (h2 : ¬ g = 0) : ((g - 1) &&& p) < g ∧ ((g - 1) &&& p) &&& p = ((g - 1) &&& p) ∧ ∀ h, h < 64 → h &&& p = h → h < g → h ≤ ((g - 1) &&& p) := by
  have t1 := descB_t
  unfold descB at t1
  have t2 := List.all_eq_true.mp t1 p (List.mem_range.mpr hp)
  have t3 := List.all_eq_true.mp t2 g (List.mem_range.mpr hg)
  have e1 : (g &&& p == g) = true := beq_iff_eq.mpr h1
  have e2 : (g == 0) = false := beq_eq_false_iff_ne.mpr h2
  rw [e1, e2, Bool.not_true, Bool.false_or, Bool.false_or, Bool.and_eq_true, Bool.and_eq_true, decide_eq_true_eq, beq_iff_eq] at t3
  refine ⟨t3.1, t3.2.1, fun h hh g1 g2 => ?_⟩
  have t4 := List.all_eq_true.mp t3.2.2 h (List.mem_range.mpr hh)
  have e3 : (h &&& p == h) = true := beq_iff_eq.mpr g1
  rw [e3, decide_eq_true g2, Bool.not_true, Bool.false_or, Bool.false_or, decide_eq_true_eq] at t4
  exact t4
theorem and_nI (a b : Nat) : nI a &&& nI b = nI (a &&& b) := b_ext fun i hi => by
  rw [b_and, bt_nI hi, bt_nI hi, bt_nI hi, Nat.testBit_and]
theorem subB_nat {g p : Nat} (hg : g < 2 ^ 31) (hp : p < 2 ^ 31) : subB g p = true ↔ g &&& p = g := by
  unfold subB
  rw [decide_eq_true_eq, sub_iff]
  constructor
  · intro h
    apply Nat.eq_of_testBit_eq
    intro i
    rw [Nat.testBit_and]
    cases hb : g.testBit i
    · rfl
    · rcases Nat.lt_or_ge i 32 with q | q
      · have := h i q (by rw [bt_nI q]; exact hb)
        rw [bt_nI q] at this
        rw [this]; rfl
      · rw [Nat.testBit_lt_two_pow (Nat.lt_of_lt_of_le hg (Nat.pow_le_pow_right (by omega) (show 31 ≤ i by omega)))] at hb
        cases hb
  · intro h i hi hb
    rw [bt_nI hi] at hb ⊢
    rw [← h, Nat.testBit_and, Bool.and_eq_true] at hb
    exact hb.2
theorem bi_and0 {x : Int32} {i : Nat} (hi : i < 32) : bi i &&& x = 0 ↔ bt x i = false := by
  have : bi i &&& x = x &&& bi i := b_ext fun j hj => by rw [b_and, b_and, Bool.and_comm]
  rw [this]
  exact and_bi0 hi
theorem sitF_congr {A B : Nat → Int32} : ∀ n t p, p < 64 → (∀ g, subB g p = true → g ≤ p → A g = B g) → sitF A n t p = sitF B n t p
  | 0, _, _, _, _ => rfl
  | n + 1, t, p, hp, h => by
    rw [sitF, sitF]
    congr 1
    refine anyF_congr (fun g hg => ?_)
    cases hs : subB g p
    · rfl
    · have ds := D6_sub (k := 6) (g := g) (by omega) (show p < 2 ^ 6 by omega)
      obtain ⟨d1, d2⟩ := D6_e (k := 6) (by omega) (show p < 2 ^ 6 by omega) g
      have dle : D6 p g ≤ p := sub_le (by omega) (by omega) (of_decide_eq_true ds)
      rw [h g hs (by omega), sitF_congr (A := A) (B := B) n (othN t) (D6 p g) (by omega) (fun g2 h2 h3 => h g2 (subB_tr h2 ds) (by omega))]
def tasksG (v : LV) (l : LF) (g : Nat) : Int32 := tasksV v (togL v l g)
theorem apE_e {v : LV} {l : LF} (hW : WF v) (hw : WL v l) (t : Nat) : apE v l t = sitP (tasksG v l) t (aliveN l) := by
  have := pow_64 hW.1.2.2.1
  have := (alive_N hW hw).2
  exact sitF_congr 5 t (aliveN l) (by omega) (fun g hg _ => able_E hW hw hg)
def eoR (a : Nat) : Prop := a = 246
def eeR (a : Nat) : Prop := a = 246 ∨ a = 247
section EvenR
variable {d : Nat} {u : am_U} {S : ST} {v : LV} {l : LF} {post : Option Value → am_M → Prop}
theorem evenings0_ok (hR : LibR u v) (hl : LifeR u v l) (hW : WF v) (hw : WL v l) (h : ∀ u', Only eoR u u' → (∀ p t, p < 64 → t < 32 → AI u' 246 (32 * p + t) = b2i (sitP (tasksG v l) t p)) → post none (am_emb u')) : Cl (d + 3) 252 [.ref 203] (am_emb u) post := by
  have keep : ∀ u1, Only eoR u u1 → LibR u1 v ∧ LifeR u1 v l := fun u1 o1 => ⟨hR.keep o1 (fun a h1 h2 q => by unfold eoR at q; omega), hl.keep o1 (by unfold eoR; omega)⟩
  rw [op_252]
  have outer : ∀ (kz p : Nat) (j2 j3 j4 j5 : Option Value), am_nl j2 = true → am_nl j3 = true → am_nl j4 = true → p + kz = 64 → ∀ u1, Only eoR u u1 → (∀ p' t, p' < p → t < 32 → AI u1 246 (32 * p' + t) = b2i (sitP (tasksG v l) t p')) → Ex (d + 3) 252 2 [some (.ref 203), some (.int (nI p)), j2, j3, j4, j5] [] (am_emb u1) post := by
    intro kz
    induction kz with
    | zero =>
      intro p j2 j3 j4 j5 n2 n3 n4 hp u1 o1 H
      obtain rfl : p = 64 := by omega
      rw [ex_252_2]
      simp (disch := first | exact am_nl_i _ | exact am_nl_r _ | exact am_nl_0 | (refine vi_nI ?_ ?_ <;> omega) | assumption | omega | exact b2i_01 _ | exact Or.inl rfl | exact Or.inr rfl | (unfold vi; decide)) only [ex_252_0, ex_252_1, ex_252_3, ex_252_5, ex_252_9, ex_252_10, ex_252_11, ex_252_13, ex_252_16, ex_252_17, ex_252_20, ex_252_21, ex_252_24, ex_252_25, ex_252_26, ex_252_27, ex_252_28, ex_252_29, ex_252_30, ex_252_32, ex_252_33, ex_252_35, ex_252_37, ex_252_40, ex_252_41, ex_252_44, ex_252_45, ex_252_48, ex_252_50, ex_252_51, ex_252_53, ex_252_54, ex_252_55, ex_252_56, ex_252_57, ex_252_58, ex_252_60, ex_252_61, ex_252_62, ex_252_63, ex_252_64, ex_252_65, ex_252_68, ex_252_70, ex_252_71, ex_252_72, ex_252_74, ex_252_77, ex_252_80, ex_252_81, ex_252_84, ex_252_85, ex_252_88, ex_252_89, ex_252_90, ex_252_92, ex_252_93, ex_252_94, ex_252_95, ex_252_96, ex_252_98, ex_252_101, ex_252_102, ex_252_105, ex_252_107, ex_252_108, ex_252_109, ex_252_110, ex_252_111, ex_252_112, ex_252_113, ex_252_116, ex_252_119, ex_252_122, ex_252_125, if_true, if_false, and_self, Option.toList_some, Option.toList_none, List.singleton_append, List.cons_append, List.nil_append, List.append_nil, nI_1, nt_e, Int32.le_refl, lq64, nI_leI, Nat.le_refl, Bool.true_eq_false, Bool.false_eq_true, ↓reduceIte]
      exact h u1 o1 H
    | succ kz ih =>
      intro p j2 j3 j4 j5 n2 n3 n4 hp u1 o1 H
      have hnle : ¬ 64 ≤ p := by omega
      have hp64 : p < 64 := by omega
      have inner : ∀ (tz t : Nat) (j3 j4 j5 : Option Value), am_nl j3 = true → am_nl j4 = true → t + tz = 32 → ∀ u2, Only eoR u u2 → (∀ p' t, p' < p → t < 32 → AI u2 246 (32 * p' + t) = b2i (sitP (tasksG v l) t p')) → (∀ t', t' < t → AI u2 246 (32 * p + t') = b2i (sitP (tasksG v l) t' p)) → Ex (d + 3) 252 10 [some (.ref 203), some (.int (nI p)), some (.int (nI t)), j3, j4, j5] [] (am_emb u2) post := by
        intro tz
        induction tz with
        | zero =>
          intro t j3 j4 j5 n3 n4 ht u2 o2 H1 H2
          obtain rfl : t = 32 := by omega
          rw [ex_252_10]
          simp (disch := first | exact am_nl_i _ | exact am_nl_r _ | exact am_nl_0 | (refine vi_nI ?_ ?_ <;> omega) | assumption | omega | exact b2i_01 _ | exact Or.inl rfl | exact Or.inr rfl | (unfold vi; decide)) only [ex_252_0, ex_252_1, ex_252_3, ex_252_5, ex_252_8, ex_252_9, ex_252_11, ex_252_13, ex_252_17, ex_252_20, ex_252_21, ex_252_24, ex_252_25, ex_252_26, ex_252_27, ex_252_28, ex_252_29, ex_252_30, ex_252_32, ex_252_33, ex_252_35, ex_252_37, ex_252_40, ex_252_41, ex_252_44, ex_252_45, ex_252_48, ex_252_50, ex_252_51, ex_252_53, ex_252_54, ex_252_55, ex_252_56, ex_252_57, ex_252_58, ex_252_60, ex_252_61, ex_252_62, ex_252_63, ex_252_64, ex_252_65, ex_252_68, ex_252_70, ex_252_71, ex_252_72, ex_252_74, ex_252_77, ex_252_80, ex_252_81, ex_252_84, ex_252_85, ex_252_88, ex_252_89, ex_252_90, ex_252_92, ex_252_93, ex_252_94, ex_252_95, ex_252_96, ex_252_98, ex_252_101, ex_252_102, ex_252_105, ex_252_107, ex_252_108, ex_252_109, ex_252_110, ex_252_111, ex_252_112, ex_252_113, ex_252_116, ex_252_119, ex_252_122, ex_252_125, if_true, if_false, and_self, Option.toList_some, Option.toList_none, List.singleton_append, List.cons_append, List.nil_append, List.append_nil, nI_1, nt_e, Int32.le_refl, show (32 : Int32) = nI 32 from rfl, nI_leI, Nat.le_refl, Bool.true_eq_false, Bool.false_eq_true, ↓reduceIte]
          refine ih (p + 1) _ _ _ _ rfl n3 n4 (by omega) u2 o2 (fun p' t h1 h2 => ?_)
          by_cases e : p' = p
          · rw [e]; exact H2 t h2
          · exact H1 p' t (by omega) h2
        | succ tz ih2 =>
          intro t j3 j4 j5 n3 n4 ht u2 o2 H1 H2
          have ht32 : t < 32 := by omega
          have hnle2 : ¬ 32 ≤ t := by omega
          obtain ⟨k1, k2⟩ := keep u2 o2
          have ih2 := fun j3 j4 j5 n3 n4 => ih2 (t + 1) j3 j4 j5 n3 n4 (by omega)
          have fin : ∀ (c : Bool) (j4 j5 : Option Value), am_nl j4 = true → c = sitP (tasksG v l) t p → Ex (d + 3) 252 101 [some (.ref 203), some (.int (nI p)), some (.int (nI t)), some (.int (b2i c)), j4, j5] [] (am_emb u2) post := by
            intro c j4 j5 n4 hc
            simp (disch := first | exact am_nl_i _ | exact am_nl_r _ | exact am_nl_0 | (refine vi_nI ?_ ?_ <;> omega) | assumption | omega | exact b2i_01 _ | exact Or.inl rfl | exact Or.inr rfl | (unfold vi; decide)) only [ex_252_0, ex_252_1, ex_252_2, ex_252_3, ex_252_5, ex_252_8, ex_252_9, ex_252_11, ex_252_13, ex_252_16, ex_252_17, ex_252_20, ex_252_21, ex_252_24, ex_252_25, ex_252_26, ex_252_27, ex_252_28, ex_252_29, ex_252_30, ex_252_32, ex_252_33, ex_252_35, ex_252_37, ex_252_40, ex_252_41, ex_252_44, ex_252_45, ex_252_48, ex_252_50, ex_252_51, ex_252_53, ex_252_54, ex_252_55, ex_252_56, ex_252_57, ex_252_58, ex_252_60, ex_252_61, ex_252_62, ex_252_63, ex_252_64, ex_252_65, ex_252_68, ex_252_70, ex_252_71, ex_252_72, ex_252_74, ex_252_77, ex_252_80, ex_252_81, ex_252_84, ex_252_85, ex_252_88, ex_252_89, ex_252_90, ex_252_92, ex_252_93, ex_252_94, ex_252_95, ex_252_96, ex_252_98, ex_252_101, ex_252_102, ex_252_105, ex_252_107, ex_252_108, ex_252_109, ex_252_110, ex_252_111, ex_252_112, ex_252_113, ex_252_116, ex_252_119, ex_252_122, ex_252_125, if_true, if_false, and_self, Option.toList_some, Option.toList_none, List.singleton_append, List.cons_append, List.nil_append, List.append_nil, nI_1, nt_e, Int32.le_refl, show (32 : Int32) = nI 32 from rfl, mul_nI, nI_add, nI_clamp, Bool.true_eq_false, Bool.false_eq_true, ↓reduceIte]
            refine ih2 _ _ _ rfl n4 _ (of_ai o2 rfl) (fun p' t' h1 h2 => ?_) (fun t' h1 => ?_)
            · rw [AI_sAI, if_pos rfl, upd_n (by omega)]; exact H1 p' t' h1 h2
            · rw [AI_sAI, if_pos rfl]
              by_cases e : t' = t
              · rw [e, upd_s, hc]
              · rw [upd_n (by omega)]; exact H2 t' (by omega)
          rw [ex_252_10]
          by_cases h0 : t = 0
          · have f := fun j4 j5 n4 => fin true j4 j5 n4 (by rw [h0, sitP_0])
            rw [show b2i true = 1 from rfl] at f
            by_cases p0 : p = 0
            · simp (disch := first | exact am_nl_i _ | exact am_nl_r _ | exact am_nl_0 | (refine vi_nI ?_ ?_ <;> omega) | assumption | omega | exact b2i_01 _ | exact Or.inl rfl | exact Or.inr rfl | (unfold vi; decide)) only [ex_252_0, ex_252_1, ex_252_2, ex_252_3, ex_252_5, ex_252_8, ex_252_9, ex_252_11, ex_252_13, ex_252_16, ex_252_17, ex_252_20, ex_252_21, ex_252_24, ex_252_25, ex_252_26, ex_252_27, ex_252_28, ex_252_29, ex_252_30, ex_252_32, ex_252_33, ex_252_37, ex_252_40, ex_252_41, ex_252_44, ex_252_45, ex_252_48, ex_252_50, ex_252_51, ex_252_53, ex_252_54, ex_252_55, ex_252_56, ex_252_57, ex_252_58, ex_252_60, ex_252_61, ex_252_62, ex_252_63, ex_252_64, ex_252_65, ex_252_68, ex_252_70, ex_252_71, ex_252_72, ex_252_74, ex_252_77, ex_252_80, ex_252_81, ex_252_84, ex_252_85, ex_252_88, ex_252_89, ex_252_90, ex_252_92, ex_252_93, ex_252_94, ex_252_95, ex_252_96, ex_252_98, ex_252_101, ex_252_102, ex_252_105, ex_252_107, ex_252_108, ex_252_109, ex_252_110, ex_252_111, ex_252_112, ex_252_113, ex_252_116, ex_252_122, ex_252_125, if_true, if_false, and_self, Option.toList_some, Option.toList_none, List.singleton_append, List.cons_append, List.nil_append, List.append_nil, nI_1, nt_e, Int32.le_refl, show (32 : Int32) = nI 32 from rfl, nI_leI, hnle2, i_eq0, h0, Bool.true_eq_false, Bool.false_eq_true, ↓reduceIte]
              rw [ex_252_35]
              rw [h0] at f
              simp (disch := first | exact am_nl_i _ | exact am_nl_r _ | exact am_nl_0 | (refine vi_nI ?_ ?_ <;> omega) | assumption | omega | exact b2i_01 _ | exact Or.inl rfl | exact Or.inr rfl | (unfold vi; decide)) only [ex_252_0, ex_252_1, ex_252_2, ex_252_3, ex_252_5, ex_252_8, ex_252_9, ex_252_11, ex_252_13, ex_252_16, ex_252_17, ex_252_20, ex_252_21, ex_252_24, ex_252_25, ex_252_26, ex_252_27, ex_252_28, ex_252_29, ex_252_30, ex_252_32, ex_252_33, ex_252_37, ex_252_40, ex_252_41, ex_252_44, ex_252_45, ex_252_48, ex_252_50, ex_252_51, ex_252_53, ex_252_54, ex_252_55, ex_252_56, ex_252_57, ex_252_58, ex_252_60, ex_252_61, ex_252_62, ex_252_63, ex_252_64, ex_252_65, ex_252_68, ex_252_70, ex_252_71, ex_252_72, ex_252_74, ex_252_77, ex_252_80, ex_252_81, ex_252_84, ex_252_85, ex_252_88, ex_252_89, ex_252_90, ex_252_92, ex_252_93, ex_252_94, ex_252_95, ex_252_96, ex_252_98, ex_252_102, ex_252_105, ex_252_107, ex_252_108, ex_252_109, ex_252_110, ex_252_111, ex_252_112, ex_252_113, ex_252_116, ex_252_119, ex_252_122, ex_252_125, if_true, if_false, and_self, Option.toList_some, Option.toList_none, List.singleton_append, List.cons_append, List.nil_append, List.append_nil, nI_1, nt_e, Int32.le_refl, i_le0, p0, show ((1 : Int32) = (0 : Int32)) = False from eq_false (by decide), Bool.true_eq_false, Bool.false_eq_true, ↓reduceIte]
              rw [p0] at f
              exact f _ _ rfl
            · simp (disch := first | exact am_nl_i _ | exact am_nl_r _ | exact am_nl_0 | (refine vi_nI ?_ ?_ <;> omega) | assumption | omega | exact b2i_01 _ | exact Or.inl rfl | exact Or.inr rfl | (unfold vi; decide)) only [ex_252_0, ex_252_1, ex_252_2, ex_252_3, ex_252_5, ex_252_8, ex_252_9, ex_252_11, ex_252_13, ex_252_16, ex_252_17, ex_252_20, ex_252_21, ex_252_24, ex_252_25, ex_252_26, ex_252_27, ex_252_28, ex_252_29, ex_252_30, ex_252_32, ex_252_33, ex_252_37, ex_252_40, ex_252_41, ex_252_44, ex_252_45, ex_252_48, ex_252_50, ex_252_51, ex_252_53, ex_252_54, ex_252_55, ex_252_56, ex_252_57, ex_252_58, ex_252_60, ex_252_61, ex_252_62, ex_252_63, ex_252_64, ex_252_65, ex_252_68, ex_252_70, ex_252_71, ex_252_72, ex_252_74, ex_252_77, ex_252_80, ex_252_81, ex_252_84, ex_252_85, ex_252_88, ex_252_89, ex_252_90, ex_252_92, ex_252_93, ex_252_94, ex_252_95, ex_252_96, ex_252_98, ex_252_101, ex_252_102, ex_252_105, ex_252_107, ex_252_108, ex_252_109, ex_252_110, ex_252_111, ex_252_112, ex_252_113, ex_252_116, ex_252_122, ex_252_125, if_true, if_false, and_self, Option.toList_some, Option.toList_none, List.singleton_append, List.cons_append, List.nil_append, List.append_nil, nI_1, nt_e, Int32.le_refl, show (32 : Int32) = nI 32 from rfl, nI_leI, hnle2, i_eq0, h0, Bool.true_eq_false, Bool.false_eq_true, ↓reduceIte]
              rw [ex_252_35]
              rw [h0] at f
              simp (disch := first | exact am_nl_i _ | exact am_nl_r _ | exact am_nl_0 | (refine vi_nI ?_ ?_ <;> omega) | assumption | omega | exact b2i_01 _ | exact Or.inl rfl | exact Or.inr rfl | (unfold vi; decide)) only [ex_252_0, ex_252_1, ex_252_2, ex_252_3, ex_252_5, ex_252_8, ex_252_9, ex_252_11, ex_252_13, ex_252_16, ex_252_17, ex_252_20, ex_252_21, ex_252_24, ex_252_25, ex_252_26, ex_252_27, ex_252_28, ex_252_29, ex_252_30, ex_252_32, ex_252_33, ex_252_37, ex_252_40, ex_252_41, ex_252_44, ex_252_45, ex_252_48, ex_252_50, ex_252_51, ex_252_53, ex_252_54, ex_252_55, ex_252_56, ex_252_57, ex_252_58, ex_252_60, ex_252_61, ex_252_62, ex_252_63, ex_252_64, ex_252_65, ex_252_68, ex_252_70, ex_252_71, ex_252_72, ex_252_74, ex_252_77, ex_252_80, ex_252_81, ex_252_84, ex_252_85, ex_252_88, ex_252_89, ex_252_90, ex_252_92, ex_252_93, ex_252_94, ex_252_95, ex_252_96, ex_252_98, ex_252_102, ex_252_105, ex_252_107, ex_252_108, ex_252_109, ex_252_110, ex_252_111, ex_252_112, ex_252_113, ex_252_116, ex_252_119, ex_252_122, ex_252_125, if_true, if_false, and_self, Option.toList_some, Option.toList_none, List.singleton_append, List.cons_append, List.nil_append, List.append_nil, nI_1, nt_e, Int32.le_refl, i_le0, p0, show ((1 : Int32) = (0 : Int32)) = False from eq_false (by decide), Bool.true_eq_false, Bool.false_eq_true, ↓reduceIte]
              exact f _ _ rfl
          obtain ⟨-, b2, -, h4, e5, e6, -, -⟩ := low_dec t ht32 h0
          have done1 : ∀ g, g ≤ p → subB g p = true → ¬ g = 0 → sitP (tasksG v l) (othN t) (D6 p g) = true → bt (tasksG v l g) (lowN t) = true → sitP (tasksG v l) t p = true := fun g h1 h2 h3 h5 h6 => by
            rw [sitP_e _ ht32 h0]
            exact anyF_t (show g < p + 1 by omega) (by rw [h2, h5, h6]; rfl)
          have grp : ∀ (n g : Nat), g < n → g ≤ p → subB g p = true → (∀ k, k ≤ p → subB k p = true → g < k → (sitP (tasksG v l) (othN t) (D6 p k) && bt (tasksG v l k) (lowN t)) = false) → Ex (d + 3) 252 35 [some (.ref 203), some (.int (nI p)), some (.int (nI t)), some (.int 0), some (.int (nI t &&& - nI t)), some (.int (nI g))] [] (am_emb u2) post := by
            intro n
            induction n with
            | zero => intro g hg; omega
            | succ n ih3 =>
              intro g hg hgp hgs hno
              rw [ex_252_35]
              by_cases g0 : g = 0
              · have f := fin false (some (.int (nI t &&& - nI t))) (some (.int (nI g))) rfl (by
                  rw [sitP_e _ ht32 h0]
                  refine (anyF_iff.mpr (fun k hk => ?_)).symm
                  cases hs : subB k p
                  · rfl
                  · by_cases k0 : k = 0
                    · rw [k0]
                      rw [show bt (tasksG v l 0) (lowN t) = false from able_0g hW _ (by omega)]
                      rfl
                    · have := hno k (by omega) hs (by omega)
                      rw [Bool.true_and, Bool.and_comm]
                      exact this)
                rw [show b2i false = 0 from rfl] at f
                simp (disch := first | exact am_nl_i _ | exact am_nl_r _ | exact am_nl_0 | (refine vi_nI ?_ ?_ <;> omega) | assumption | omega | exact b2i_01 _ | exact Or.inl rfl | exact Or.inr rfl | (unfold vi; decide)) only [ex_252_0, ex_252_1, ex_252_2, ex_252_3, ex_252_5, ex_252_8, ex_252_9, ex_252_11, ex_252_13, ex_252_16, ex_252_17, ex_252_20, ex_252_21, ex_252_24, ex_252_25, ex_252_26, ex_252_27, ex_252_28, ex_252_29, ex_252_30, ex_252_32, ex_252_33, ex_252_37, ex_252_40, ex_252_41, ex_252_44, ex_252_45, ex_252_48, ex_252_50, ex_252_51, ex_252_53, ex_252_54, ex_252_55, ex_252_56, ex_252_57, ex_252_58, ex_252_60, ex_252_61, ex_252_62, ex_252_63, ex_252_64, ex_252_65, ex_252_68, ex_252_70, ex_252_71, ex_252_72, ex_252_74, ex_252_77, ex_252_80, ex_252_81, ex_252_84, ex_252_85, ex_252_88, ex_252_89, ex_252_90, ex_252_92, ex_252_93, ex_252_94, ex_252_95, ex_252_96, ex_252_98, ex_252_102, ex_252_105, ex_252_107, ex_252_108, ex_252_109, ex_252_110, ex_252_111, ex_252_112, ex_252_113, ex_252_116, ex_252_119, ex_252_122, ex_252_125, if_true, if_false, and_self, Option.toList_some, Option.toList_none, List.singleton_append, List.cons_append, List.nil_append, List.append_nil, nI_1, nt_e, Int32.le_refl, i_le0, g0, Bool.true_eq_false, Bool.false_eq_true, ↓reduceIte]
                rw [g0] at f
                exact f
              · obtain ⟨d1, d2⟩ := D6_e (k := 6) (by omega) (show p < 2 ^ 6 by omega) g
                have hgn := (subB_nat (by omega) (by omega)).mp hgs
                obtain ⟨z1, z2, z3⟩ := desc_dec p hp64 g (by omega) hgn g0
                have dlt : D6 p g < p := by
                  have hle : D6 p g ≤ p := sub_le (by omega) (by omega) (of_decide_eq_true (D6_sub (k := 6) (by omega) (show p < 2 ^ 6 by omega)))
                  rcases Nat.lt_or_ge (D6 p g) p with q | q
                  · exact q
                  · exfalso
                    have e : D6 p g = p := by omega
                    rw [e] at d1
                    have hg0 : nI g = 0 := by
                      rw [bt_eq0]
                      intro i hi
                      cases hb : bt (nI g) i
                      · rfl
                      · have h3 := sub_iff.mp (of_decide_eq_true hgs) i hi hb
                        have h5 : bt (nI p &&& nt (nI g)) i = bt (nI p) i := by rw [d1]
                        rw [b_and, bt_nt _ hi, hb, h3] at h5
                        cases h5
                    rw [i_eq0 (by omega)] at hg0
                    exact g0 hg0
                have hm := H1 (D6 p g) (othN t) dlt (by omega)
                have next : Ex (d + 3) 252 35 [some (.ref 203), some (.int (nI p)), some (.int (nI t)), some (.int 0), some (.int (nI t &&& - nI t)), some (.int (nI ((g - 1) &&& p)))] [] (am_emb u2) post ∨ (sitP (tasksG v l) (othN t) (D6 p g) && bt (tasksG v l g) (lowN t)) = true := by
                  cases hq : sitP (tasksG v l) (othN t) (D6 p g) && bt (tasksG v l g) (lowN t)
                  · refine Or.inl (ih3 _ (by omega) (by omega) ((subB_nat (by omega) (by omega)).mpr z2) (fun k hk hs hlt => ?_))
                    by_cases e : k = g
                    · rw [e]; exact hq
                    · rcases Nat.lt_or_ge g k with w | w
                      · exact hno k hk hs w
                      · have := z3 k (by omega) ((subB_nat (by omega) (by omega)).mp hs) (by omega)
                        omega
                  · exact Or.inr rfl
                have hg1 : ¬ g = 0 := g0
                have e6' : nI t &&& nt (bi (lowN t)) = nI (othN t) := by rw [← e5]; exact e6
                have e7 : nI g - 1 = nI (g - 1) := i_sb (by omega)
                cases q1 : sitP (tasksG v l) (othN t) (D6 p g)
                · rw [q1] at hm next
                  rcases next with nx | nx
                  · simp (disch := first | exact am_nl_i _ | exact am_nl_r _ | exact am_nl_0 | (refine vi_nI ?_ ?_ <;> omega) | assumption | omega | exact b2i_01 _ | exact Or.inl rfl | exact Or.inr rfl | (unfold vi; decide)) only [ex_252_0, ex_252_1, ex_252_2, ex_252_3, ex_252_5, ex_252_8, ex_252_9, ex_252_10, ex_252_11, ex_252_13, ex_252_16, ex_252_17, ex_252_20, ex_252_21, ex_252_24, ex_252_25, ex_252_26, ex_252_27, ex_252_28, ex_252_29, ex_252_30, ex_252_32, ex_252_33, ex_252_37, ex_252_40, ex_252_41, ex_252_44, ex_252_45, ex_252_48, ex_252_50, ex_252_51, ex_252_53, ex_252_54, ex_252_55, ex_252_56, ex_252_57, ex_252_58, ex_252_60, ex_252_61, ex_252_62, ex_252_63, ex_252_64, ex_252_65, ex_252_68, ex_252_70, ex_252_71, ex_252_72, ex_252_74, ex_252_77, ex_252_80, ex_252_81, ex_252_84, ex_252_85, ex_252_88, ex_252_89, ex_252_90, ex_252_92, ex_252_93, ex_252_94, ex_252_95, ex_252_96, ex_252_98, ex_252_102, ex_252_105, ex_252_107, ex_252_108, ex_252_109, ex_252_110, ex_252_111, ex_252_112, ex_252_113, ex_252_116, ex_252_119, ex_252_122, ex_252_125, if_true, if_false, and_self, Option.toList_some, Option.toList_none, List.singleton_append, List.cons_append, List.nil_append, List.append_nil, nI_1, nt_e, Int32.le_refl, i_le0, hg1, show (32 : Int32) = nI 32 from rfl, d1, e6, mul_nI, nI_add, nI_clamp, hm, b2i_0, e7, and_nI, Bool.true_eq_false, Bool.false_eq_true, ↓reduceIte]
                    exact nx
                  · cases nx
                · rw [q1] at hm next
                  have htg : tasksV v (togL v l g) = tasksG v l g := rfl
                  cases q2 : bt (tasksG v l g) (lowN t)
                  · rw [q2] at next
                    rcases next with nx | nx
                    · have e8 : (bi (lowN t) &&& tasksG v l g = 0) = True := eq_true ((bi_and0 (by omega)).mpr q2)
                      simp (disch := first | exact am_nl_i _ | exact am_nl_r _ | exact am_nl_0 | (refine vi_nI ?_ ?_ <;> omega) | assumption | omega | exact b2i_01 _ | exact Or.inl rfl | exact Or.inr rfl | (unfold vi; decide)) only [ex_252_0, ex_252_1, ex_252_2, ex_252_3, ex_252_5, ex_252_8, ex_252_9, ex_252_10, ex_252_11, ex_252_13, ex_252_16, ex_252_17, ex_252_20, ex_252_21, ex_252_24, ex_252_25, ex_252_26, ex_252_27, ex_252_28, ex_252_29, ex_252_30, ex_252_32, ex_252_33, ex_252_37, ex_252_40, ex_252_41, ex_252_44, ex_252_45, ex_252_48, ex_252_50, ex_252_51, ex_252_53, ex_252_54, ex_252_55, ex_252_56, ex_252_57, ex_252_58, ex_252_60, ex_252_61, ex_252_62, ex_252_63, ex_252_64, ex_252_65, ex_252_68, ex_252_70, ex_252_71, ex_252_72, ex_252_74, ex_252_77, ex_252_80, ex_252_81, ex_252_84, ex_252_85, ex_252_88, ex_252_89, ex_252_90, ex_252_92, ex_252_93, ex_252_94, ex_252_95, ex_252_96, ex_252_98, ex_252_102, ex_252_105, ex_252_107, ex_252_108, ex_252_109, ex_252_110, ex_252_111, ex_252_112, ex_252_113, ex_252_116, ex_252_119, ex_252_122, ex_252_125, if_true, if_false, and_self, Option.toList_some, Option.toList_none, List.singleton_append, List.cons_append, List.nil_append, List.append_nil, nI_1, nt_e, Int32.le_refl, i_le0, hg1, show (32 : Int32) = nI 32 from rfl, d1, e6, mul_nI, nI_add, nI_clamp, hm, b2i_0, tog_ok k1 k2 hW hw, tasksBy_ok k1 hW, htg, e5, e6', e8, e7, and_nI, Bool.true_eq_false, Bool.false_eq_true, ↓reduceIte]
                      rw [e5] at nx
                      exact nx
                    · cases nx
                  · have e8 : (bi (lowN t) &&& tasksG v l g = 0) = False := eq_false (fun z => by rw [(bi_and0 (by omega)).mp z] at q2; cases q2)
                    have f := fun j5 => fin true (some (.int (bi (lowN t)))) j5 rfl (done1 g hgp hgs hg1 q1 q2).symm
                    rw [show b2i true = 1 from rfl] at f
                    simp (disch := first | exact am_nl_i _ | exact am_nl_r _ | exact am_nl_0 | (refine vi_nI ?_ ?_ <;> omega) | assumption | omega | exact b2i_01 _ | exact Or.inl rfl | exact Or.inr rfl | (unfold vi; decide)) only [ex_252_0, ex_252_1, ex_252_2, ex_252_3, ex_252_5, ex_252_8, ex_252_9, ex_252_10, ex_252_11, ex_252_13, ex_252_16, ex_252_17, ex_252_20, ex_252_21, ex_252_24, ex_252_25, ex_252_26, ex_252_27, ex_252_28, ex_252_29, ex_252_30, ex_252_32, ex_252_33, ex_252_37, ex_252_40, ex_252_41, ex_252_44, ex_252_45, ex_252_48, ex_252_50, ex_252_51, ex_252_53, ex_252_54, ex_252_55, ex_252_56, ex_252_57, ex_252_58, ex_252_60, ex_252_61, ex_252_62, ex_252_63, ex_252_64, ex_252_65, ex_252_68, ex_252_70, ex_252_71, ex_252_72, ex_252_74, ex_252_77, ex_252_80, ex_252_81, ex_252_84, ex_252_85, ex_252_88, ex_252_89, ex_252_90, ex_252_92, ex_252_93, ex_252_94, ex_252_95, ex_252_96, ex_252_98, ex_252_102, ex_252_105, ex_252_107, ex_252_108, ex_252_109, ex_252_110, ex_252_111, ex_252_112, ex_252_113, ex_252_116, ex_252_119, ex_252_122, ex_252_125, if_true, if_false, and_self, Option.toList_some, Option.toList_none, List.singleton_append, List.cons_append, List.nil_append, List.append_nil, nI_1, nt_e, Int32.le_refl, i_le0, hg1, show (32 : Int32) = nI 32 from rfl, d1, e6, mul_nI, nI_add, nI_clamp, hm, b2i_0, tog_ok k1 k2 hW hw, tasksBy_ok k1 hW, htg, e5, e6', e8, e7, and_nI, Bool.true_eq_false, Bool.false_eq_true, ↓reduceIte]
                    rw [ex_252_35]
                    by_cases w0 : (g - 1) &&& p = 0
                    · simp (disch := first | exact am_nl_i _ | exact am_nl_r _ | exact am_nl_0 | (refine vi_nI ?_ ?_ <;> omega) | assumption | omega | exact b2i_01 _ | exact Or.inl rfl | exact Or.inr rfl | (unfold vi; decide)) only [ex_252_0, ex_252_1, ex_252_2, ex_252_3, ex_252_5, ex_252_8, ex_252_9, ex_252_10, ex_252_11, ex_252_13, ex_252_16, ex_252_17, ex_252_20, ex_252_21, ex_252_24, ex_252_25, ex_252_26, ex_252_27, ex_252_28, ex_252_29, ex_252_30, ex_252_32, ex_252_33, ex_252_37, ex_252_40, ex_252_41, ex_252_44, ex_252_45, ex_252_48, ex_252_50, ex_252_51, ex_252_53, ex_252_54, ex_252_55, ex_252_56, ex_252_57, ex_252_58, ex_252_60, ex_252_61, ex_252_62, ex_252_63, ex_252_64, ex_252_65, ex_252_68, ex_252_70, ex_252_71, ex_252_72, ex_252_74, ex_252_77, ex_252_80, ex_252_81, ex_252_84, ex_252_85, ex_252_88, ex_252_89, ex_252_90, ex_252_92, ex_252_93, ex_252_94, ex_252_95, ex_252_96, ex_252_98, ex_252_102, ex_252_105, ex_252_107, ex_252_108, ex_252_109, ex_252_110, ex_252_111, ex_252_112, ex_252_113, ex_252_116, ex_252_119, ex_252_122, ex_252_125, if_true, if_false, and_self, Option.toList_some, Option.toList_none, List.singleton_append, List.cons_append, List.nil_append, List.append_nil, nI_1, nt_e, Int32.le_refl, i_le0, w0, show ((1 : Int32) = (0 : Int32)) = False from eq_false (by decide), Bool.true_eq_false, Bool.false_eq_true, ↓reduceIte]
                      exact f _
                    · simp (disch := first | exact am_nl_i _ | exact am_nl_r _ | exact am_nl_0 | (refine vi_nI ?_ ?_ <;> omega) | assumption | omega | exact b2i_01 _ | exact Or.inl rfl | exact Or.inr rfl | (unfold vi; decide)) only [ex_252_0, ex_252_1, ex_252_2, ex_252_3, ex_252_5, ex_252_8, ex_252_9, ex_252_10, ex_252_11, ex_252_13, ex_252_16, ex_252_17, ex_252_20, ex_252_21, ex_252_24, ex_252_25, ex_252_26, ex_252_27, ex_252_28, ex_252_29, ex_252_30, ex_252_32, ex_252_33, ex_252_37, ex_252_40, ex_252_41, ex_252_44, ex_252_45, ex_252_48, ex_252_50, ex_252_51, ex_252_53, ex_252_54, ex_252_55, ex_252_56, ex_252_57, ex_252_58, ex_252_60, ex_252_61, ex_252_62, ex_252_63, ex_252_64, ex_252_65, ex_252_68, ex_252_70, ex_252_71, ex_252_72, ex_252_74, ex_252_77, ex_252_80, ex_252_81, ex_252_84, ex_252_85, ex_252_88, ex_252_89, ex_252_90, ex_252_92, ex_252_93, ex_252_94, ex_252_95, ex_252_96, ex_252_98, ex_252_102, ex_252_105, ex_252_107, ex_252_108, ex_252_109, ex_252_110, ex_252_111, ex_252_112, ex_252_113, ex_252_116, ex_252_119, ex_252_122, ex_252_125, if_true, if_false, and_self, Option.toList_some, Option.toList_none, List.singleton_append, List.cons_append, List.nil_append, List.append_nil, nI_1, nt_e, Int32.le_refl, i_le0, w0, show ((1 : Int32) = (0 : Int32)) = False from eq_false (by decide), Bool.true_eq_false, Bool.false_eq_true, ↓reduceIte]
                      exact f _
          simp (disch := first | exact am_nl_i _ | exact am_nl_r _ | exact am_nl_0 | (refine vi_nI ?_ ?_ <;> omega) | assumption | omega | exact b2i_01 _ | exact Or.inl rfl | exact Or.inr rfl | (unfold vi; decide)) only [ex_252_0, ex_252_1, ex_252_2, ex_252_3, ex_252_5, ex_252_8, ex_252_9, ex_252_11, ex_252_13, ex_252_16, ex_252_17, ex_252_20, ex_252_21, ex_252_24, ex_252_25, ex_252_26, ex_252_27, ex_252_28, ex_252_29, ex_252_30, ex_252_32, ex_252_33, ex_252_37, ex_252_40, ex_252_41, ex_252_44, ex_252_45, ex_252_48, ex_252_50, ex_252_51, ex_252_53, ex_252_54, ex_252_55, ex_252_56, ex_252_57, ex_252_58, ex_252_60, ex_252_61, ex_252_62, ex_252_63, ex_252_64, ex_252_65, ex_252_68, ex_252_70, ex_252_71, ex_252_72, ex_252_74, ex_252_77, ex_252_80, ex_252_81, ex_252_84, ex_252_85, ex_252_88, ex_252_89, ex_252_90, ex_252_92, ex_252_93, ex_252_94, ex_252_95, ex_252_96, ex_252_98, ex_252_101, ex_252_102, ex_252_105, ex_252_107, ex_252_108, ex_252_109, ex_252_110, ex_252_111, ex_252_112, ex_252_113, ex_252_116, ex_252_122, ex_252_125, if_true, if_false, and_self, Option.toList_some, Option.toList_none, List.singleton_append, List.cons_append, List.nil_append, List.append_nil, nI_1, nt_e, Int32.le_refl, show (32 : Int32) = nI 32 from rfl, nI_leI, hnle2, i_eq0, h0, Bool.true_eq_false, Bool.false_eq_true, ↓reduceIte]
          exact grp (p + 1) p (by omega) (Nat.le_refl _) (subB_rf p) (fun k h1 _ h3 => by omega)
      rw [ex_252_2]
      simp (disch := first | exact am_nl_i _ | exact am_nl_r _ | exact am_nl_0 | (refine vi_nI ?_ ?_ <;> omega) | assumption | omega | exact b2i_01 _ | exact Or.inl rfl | exact Or.inr rfl | (unfold vi; decide)) only [ex_252_0, ex_252_1, ex_252_3, ex_252_5, ex_252_8, ex_252_9, ex_252_11, ex_252_13, ex_252_16, ex_252_17, ex_252_20, ex_252_21, ex_252_24, ex_252_25, ex_252_26, ex_252_27, ex_252_28, ex_252_29, ex_252_30, ex_252_32, ex_252_33, ex_252_35, ex_252_37, ex_252_40, ex_252_41, ex_252_44, ex_252_45, ex_252_48, ex_252_50, ex_252_51, ex_252_53, ex_252_54, ex_252_55, ex_252_56, ex_252_57, ex_252_58, ex_252_60, ex_252_61, ex_252_62, ex_252_63, ex_252_64, ex_252_65, ex_252_68, ex_252_70, ex_252_71, ex_252_72, ex_252_74, ex_252_77, ex_252_80, ex_252_81, ex_252_84, ex_252_85, ex_252_88, ex_252_89, ex_252_90, ex_252_92, ex_252_93, ex_252_94, ex_252_95, ex_252_96, ex_252_98, ex_252_101, ex_252_102, ex_252_105, ex_252_107, ex_252_108, ex_252_109, ex_252_110, ex_252_111, ex_252_112, ex_252_113, ex_252_116, ex_252_119, ex_252_122, if_true, if_false, and_self, Option.toList_some, Option.toList_none, List.singleton_append, List.cons_append, List.nil_append, List.append_nil, nI_1, nt_e, Int32.le_refl, lq64, nI_leI, hnle, Bool.true_eq_false, Bool.false_eq_true, ↓reduceIte]
      exact inner 32 0 _ _ _ n3 n4 (by omega) u1 o1 H (fun t' h1 => absurd h1 (Nat.not_lt_zero _))
  simp (disch := first | exact am_nl_i _ | exact am_nl_r _ | exact am_nl_0 | assumption | omega | (refine vi_nI ?_ ?_ <;> omega) | exact b2i_01 _ | exact Or.inl rfl | exact Or.inr rfl | (unfold vi; decide)) only [ex_252_0, ex_252_1, ex_252_3, ex_252_5, ex_252_8, ex_252_9, ex_252_10, ex_252_11, ex_252_13, ex_252_16, ex_252_17, ex_252_20, ex_252_21, ex_252_24, ex_252_25, ex_252_26, ex_252_27, ex_252_28, ex_252_29, ex_252_30, ex_252_32, ex_252_33, ex_252_35, ex_252_37, ex_252_40, ex_252_41, ex_252_44, ex_252_45, ex_252_48, ex_252_50, ex_252_51, ex_252_53, ex_252_54, ex_252_55, ex_252_56, ex_252_57, ex_252_58, ex_252_60, ex_252_61, ex_252_62, ex_252_63, ex_252_64, ex_252_65, ex_252_68, ex_252_70, ex_252_71, ex_252_72, ex_252_74, ex_252_77, ex_252_80, ex_252_81, ex_252_84, ex_252_85, ex_252_88, ex_252_89, ex_252_90, ex_252_92, ex_252_93, ex_252_94, ex_252_95, ex_252_96, ex_252_98, ex_252_101, ex_252_102, ex_252_105, ex_252_107, ex_252_108, ex_252_109, ex_252_110, ex_252_111, ex_252_112, ex_252_113, ex_252_116, ex_252_119, ex_252_122, ex_252_125, if_true, if_false, and_self, Option.toList_some, Option.toList_none, List.singleton_append, List.cons_append, List.nil_append, List.append_nil, nI_1, nt_e, Int32.le_refl]
  exact outer 64 0 none none none none rfl rfl rfl (by omega) u (Only.rf _ _) (fun p' t h1 => absurd h1 (Nat.not_lt_zero _))
end EvenR
