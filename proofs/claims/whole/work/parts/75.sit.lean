/-! SIT -/
def togL (v : LV) (l : LF) (g : Nat) : Int32 := orF 6 (fun i => if bt (nI g) i then knowsV v (eatL l i) else 0)
def ableG (v : LV) (l : LF) (g : Nat) : Int32 := if nI g &&& nt (aliveL l) = 0 then tasksV v (togL v l g) else 0
def grP (a : Nat) : Prop := 189 ≤ a ∧ a ≤ 192
theorem InvC.keepS {P : Nat → Prop} {u u' : am_U} {S : ST} {L L' : Nat} (h : InvC u S L L') (ho : Only P u u') (hp : ∀ a, a < 188 → ¬ P a) : InvC u' S L L' := by
  obtain ⟨⟨r1, r2, r3, r4, r5, r6⟩, ⟨l1, l2, l3⟩, st, pst, mk, tp⟩ := h
  have e := fun a ha => ho a (hp a ha)
  refine ⟨⟨by rw [(e 0 (by omega)).2.2.1]; exact r1, by rw [(e 0 (by omega)).2.2.1]; exact r2, r3, by rw [(e 82 (by omega)).2.2.2.2.2]; exact r4, by rw [(e 147 (by omega)).2.2.2.2.2]; exact r5, ?_⟩, ⟨l1.keep ho (fun k hk => hp _ (by omega)), l2.keep ho (hp _ (by omega)) (hp _ (by omega)), l3.keep ho (hp _ (by omega)) (hp _ (by omega))⟩, st.keep ho (fun k hk => hp _ (by omega)), past_keep pst ho (e 0 (by omega)).1 (fun a h1 h2 => hp _ (by omega)), fun k hk => ⟨by rw [(e (148 + 10 * k) (by omega)).1]; exact (mk k hk).1, fun s hs => ((mk k hk).2 s hs).keep ho (fun i hi => hp _ (by omega))⟩, ?_⟩
  · unfold most4
    rw [(e (L' + 1) (by omega)).1, (e (L' + 3) (by omega)).1, (e (L' + 5) (by omega)).1, (e (L' + 7) (by omega)).1]
    exact r6
  · unfold TapeC
    rw [(e 1 (by omega)).1, (e 2 (by omega)).2.2.2.1]
    exact tp
theorem knows_0 (v : LV) : knowsV v 0 = 0 := by
  apply b_ext
  intro i hi
  rw [b_0]
  cases h : bt (knowsV v 0) i
  · rfl
  · unfold knowsV at h
    obtain ⟨k, hk, h⟩ := orF_bt.mp h
    rw [b_0] at h
    simp [b_0] at h
theorem alive_sub {v : LV} {l : LF} (hw : WL v l) (hW : WF v) : ∃ m, m < 2 ^ nE v ∧ aliveL l = nI m := set_nat (by have := hW.1.2.2.1; omega) (fun j hj => hw.1 j hj)
section Sit
variable {d L L' : Nat} {u : am_U} {S : ST} {v : LV} {l : LF} {post : Option Value → am_M → Prop}
theorem look_ok (hL : sh L 3 19) (hl : LifeC u 65 l) (hC : LibC u L v) (hW : WF v) (h : ∀ u', Only grP u u' → FI u' 189 3 = nI (2 ^ nE v) → (∀ g, g < 2 ^ nE v → AI u' 190 g = ableG v l g) → post none (am_emb u')) : Cl (d + 2) 5 [.ref 189, .ref L, .ref 65] (am_emb u) post := by
  have h6 := hW.1.2.2.1
  have h65 := shl_65
  have hp := pow_64 h6
  have hLp := lib_places hL
  have keep : ∀ u1, Only grP u u1 → LifeC u1 65 l ∧ LibC u1 L v := fun u1 o1 => ⟨hl.keep o1 (fun k hk q => by unfold grP at q; omega), hC.keep o1 (fun k hk q => by unfold grP at q; omega)⟩
  rw [op_5]
  simp (disch := first | exact am_nl_i _ | exact am_nl_r _ | exact am_nl_0 | assumption | omega | (refine vi_nI ?_ ?_ <;> omega) | exact b2i_01 _ | exact Or.inl rfl | exact Or.inr rfl | (unfold vi; decide)) only [ex_5_0, ex_5_1, ex_5_2, ex_5_3, ex_5_6, ex_5_9, ex_5_10, ex_5_13, ex_5_14, ex_5_16, ex_5_17, ex_5_20, ex_5_23, ex_5_24, ex_5_26, ex_5_29, ex_5_30, ex_5_32, ex_5_33, ex_5_35, ex_5_37, ex_5_39, ex_5_42, ex_5_43, ex_5_45, ex_5_46, ex_5_47, ex_5_48, ex_5_51, ex_5_53, ex_5_54, ex_5_55, ex_5_57, ex_5_60, ex_5_61, ex_5_63, ex_5_66, ex_5_69, ex_5_70, ex_5_73, ex_5_74, ex_5_75, ex_5_76, ex_5_79, ex_5_80, ex_5_81, ex_5_82, ex_5_85, ex_5_86, ex_5_88, ex_5_91, ex_5_94, ex_5_95, ex_5_96, ex_5_99, ex_5_102, if_true, if_false, and_self, Option.toList_some, Option.toList_none, List.singleton_append, List.cons_append, List.nil_append, List.append_nil, nI_1, nt_e, Int32.le_refl, hC.1.2.2.1, bi_e, pow_nI (show nE v ≤ 12 by omega)]
  have loop : ∀ (kz g : Nat) (j4 j5 : Option Value), am_nl j4 = true → g + kz = 2 ^ nE v → ∀ u', Only grP u u' → FI u' 189 3 = nI (2 ^ nE v) → (∀ j, j < g → AI u' 190 j = ableG v l j) → Ex (d + 2) 5 15 [some (.ref 189), some (.ref L), some (.ref 65), some (.int (nI g)), j4, j5] [] (am_emb u') post := by
    intro kz
    induction kz with
    | zero =>
      intro g j4 j5 hj hg u' ho hm ha
      obtain rfl : g = 2 ^ nE v := by omega
      rw [ex_5_15]
      simp (disch := first | exact am_nl_i _ | exact am_nl_r _ | exact am_nl_0 | (refine vi_nI ?_ ?_ <;> omega) | assumption | omega | exact b2i_01 _ | exact Or.inl rfl | exact Or.inr rfl | (unfold vi; decide)) only [ex_5_0, ex_5_1, ex_5_2, ex_5_3, ex_5_6, ex_5_9, ex_5_10, ex_5_13, ex_5_14, ex_5_16, ex_5_17, ex_5_20, ex_5_24, ex_5_26, ex_5_29, ex_5_30, ex_5_32, ex_5_33, ex_5_35, ex_5_37, ex_5_39, ex_5_42, ex_5_43, ex_5_45, ex_5_46, ex_5_47, ex_5_48, ex_5_51, ex_5_53, ex_5_54, ex_5_55, ex_5_57, ex_5_60, ex_5_61, ex_5_63, ex_5_66, ex_5_69, ex_5_70, ex_5_73, ex_5_74, ex_5_75, ex_5_76, ex_5_79, ex_5_80, ex_5_81, ex_5_82, ex_5_85, ex_5_86, ex_5_88, ex_5_91, ex_5_94, ex_5_95, ex_5_96, ex_5_99, ex_5_102, if_true, if_false, and_self, Option.toList_some, Option.toList_none, List.singleton_append, List.cons_append, List.nil_append, List.append_nil, nI_1, nt_e, Int32.le_refl, hm, nI_leI, Nat.le_refl, Bool.true_eq_false, Bool.false_eq_true, ↓reduceIte]
      exact h u' ho hm ha
    | succ kz ih =>
      intro g j4 j5 hj hg u' ho hm ha
      have hnle : ¬ 2 ^ nE v ≤ g := by omega
      have hnle2 : ¬ 64 ≤ g := by omega
      obtain ⟨l1, c1⟩ := keep u' ho
      have inner : ∀ (iz i : Nat), i + iz = 6 → Ex (d + 2) 5 35 [some (.ref 189), some (.ref L), some (.ref 65), some (.int (nI g)), some (.int (orF i (fun i => if bt (nI g) i then knowsV v (eatL l i) else 0))), some (.int (nI i))] [] (am_emb u') post := by
        intro iz
        induction iz with
        | zero =>
          intro i hi
          obtain rfl : i = 6 := by omega
          rw [ex_5_35]
          rw [show orF 6 (fun i => if bt (nI g) i then knowsV v (eatL l i) else 0) = togL v l g from rfl]
          have fin : ∀ x, x = ableG v l g → Ex (d + 2) 5 95 [some (.ref 189), some (.ref L), some (.ref 65), some (.int (nI g)), some (.int (togL v l g)), some (.int (nI 6))] [.int x, .int (nI g), .ref 190] (am_emb u') post := by
            intro x hx
            simp (disch := first | exact am_nl_i _ | exact am_nl_r _ | exact am_nl_0 | assumption | omega | (refine vi_nI ?_ ?_ <;> omega) | exact b2i_01 _ | exact Or.inl rfl | exact Or.inr rfl | (unfold vi; decide)) only [ex_5_0, ex_5_1, ex_5_2, ex_5_3, ex_5_6, ex_5_9, ex_5_10, ex_5_13, ex_5_14, ex_5_16, ex_5_17, ex_5_20, ex_5_23, ex_5_24, ex_5_26, ex_5_29, ex_5_30, ex_5_32, ex_5_33, ex_5_35, ex_5_37, ex_5_39, ex_5_42, ex_5_43, ex_5_45, ex_5_46, ex_5_47, ex_5_48, ex_5_51, ex_5_53, ex_5_54, ex_5_55, ex_5_57, ex_5_60, ex_5_61, ex_5_63, ex_5_66, ex_5_69, ex_5_70, ex_5_73, ex_5_74, ex_5_75, ex_5_76, ex_5_79, ex_5_80, ex_5_81, ex_5_82, ex_5_85, ex_5_86, ex_5_88, ex_5_91, ex_5_94, ex_5_95, ex_5_96, ex_5_99, ex_5_102, if_true, if_false, and_self, Option.toList_some, Option.toList_none, List.singleton_append, List.cons_append, List.nil_append, List.append_nil, nI_1, nt_e, Int32.le_refl, nI_clamp]
            refine ih (g + 1) _ _ rfl (by omega) _ (of_ai ho (by unfold grP; omega)) hm (fun j hj => ?_)
            rw [AI_sAI, if_pos rfl]
            by_cases e : j = g
            · rw [e, upd_s, hx]
            · rw [upd_n e]; exact ha j (by omega)
          unfold ableG at fin
          by_cases q : nI g &&& nt (aliveL l) = 0
          · rw [if_pos q] at fin
            simp (disch := first | exact am_nl_i _ | exact am_nl_r _ | exact am_nl_0 | (refine vi_nI ?_ ?_ <;> omega) | assumption | omega | exact b2i_01 _ | exact Or.inl rfl | exact Or.inr rfl | (unfold vi; decide)) only [ex_5_0, ex_5_1, ex_5_2, ex_5_3, ex_5_6, ex_5_9, ex_5_10, ex_5_13, ex_5_14, ex_5_15, ex_5_16, ex_5_17, ex_5_20, ex_5_23, ex_5_24, ex_5_26, ex_5_29, ex_5_30, ex_5_32, ex_5_33, ex_5_37, ex_5_39, ex_5_43, ex_5_45, ex_5_46, ex_5_47, ex_5_48, ex_5_51, ex_5_53, ex_5_54, ex_5_55, ex_5_57, ex_5_60, ex_5_61, ex_5_63, ex_5_66, ex_5_69, ex_5_70, ex_5_73, ex_5_74, ex_5_75, ex_5_76, ex_5_79, ex_5_80, ex_5_81, ex_5_82, ex_5_85, ex_5_86, ex_5_88, ex_5_91, ex_5_94, ex_5_96, ex_5_99, ex_5_102, if_true, if_false, and_self, Option.toList_some, Option.toList_none, List.singleton_append, List.cons_append, List.nil_append, List.append_nil, nI_1, nt_e, Int32.le_refl, lq6, nI_leI, Nat.le_refl, l1.2.2.2.1, q, doable_ok hL c1 hW, Bool.true_eq_false, Bool.false_eq_true, ↓reduceIte]
            exact fin _ rfl
          · rw [if_neg q] at fin
            simp (disch := first | exact am_nl_i _ | exact am_nl_r _ | exact am_nl_0 | (refine vi_nI ?_ ?_ <;> omega) | assumption | omega | exact b2i_01 _ | exact Or.inl rfl | exact Or.inr rfl | (unfold vi; decide)) only [ex_5_0, ex_5_1, ex_5_2, ex_5_3, ex_5_6, ex_5_9, ex_5_10, ex_5_13, ex_5_14, ex_5_15, ex_5_16, ex_5_17, ex_5_20, ex_5_23, ex_5_24, ex_5_26, ex_5_29, ex_5_30, ex_5_32, ex_5_33, ex_5_37, ex_5_39, ex_5_43, ex_5_45, ex_5_46, ex_5_47, ex_5_48, ex_5_51, ex_5_53, ex_5_54, ex_5_55, ex_5_57, ex_5_60, ex_5_61, ex_5_63, ex_5_66, ex_5_69, ex_5_70, ex_5_73, ex_5_74, ex_5_75, ex_5_76, ex_5_79, ex_5_80, ex_5_81, ex_5_82, ex_5_85, ex_5_86, ex_5_88, ex_5_91, ex_5_94, ex_5_96, ex_5_99, ex_5_102, if_true, if_false, and_self, Option.toList_some, Option.toList_none, List.singleton_append, List.cons_append, List.nil_append, List.append_nil, nI_1, nt_e, Int32.le_refl, lq6, nI_leI, Nat.le_refl, l1.2.2.2.1, q, Bool.true_eq_false, Bool.false_eq_true, ↓reduceIte]
            exact fin _ rfl
        | succ iz ih2 =>
          intro i hi
          have ih2 := ih2 (i + 1) (by omega)
          have hnle3 : ¬ 6 ≤ i := by omega
          rw [orF] at ih2
          rw [ex_5_35]
          cases hb : bt (nI g) i
          · rw [hb] at ih2
            simp only [Bool.false_eq_true, if_false, or_0] at ih2
            simp (disch := first | exact am_nl_i _ | exact am_nl_r _ | exact am_nl_0 | (refine vi_nI ?_ ?_ <;> omega) | assumption | omega | exact b2i_01 _ | exact Or.inl rfl | exact Or.inr rfl | (unfold vi; decide)) only [ex_5_0, ex_5_1, ex_5_2, ex_5_3, ex_5_6, ex_5_9, ex_5_10, ex_5_13, ex_5_14, ex_5_15, ex_5_16, ex_5_17, ex_5_20, ex_5_23, ex_5_24, ex_5_26, ex_5_29, ex_5_30, ex_5_32, ex_5_33, ex_5_37, ex_5_39, ex_5_42, ex_5_43, ex_5_45, ex_5_46, ex_5_47, ex_5_48, ex_5_51, ex_5_53, ex_5_54, ex_5_55, ex_5_57, ex_5_60, ex_5_61, ex_5_63, ex_5_66, ex_5_70, ex_5_73, ex_5_74, ex_5_75, ex_5_76, ex_5_79, ex_5_80, ex_5_81, ex_5_82, ex_5_85, ex_5_86, ex_5_88, ex_5_91, ex_5_94, ex_5_95, ex_5_96, ex_5_99, ex_5_102, if_true, if_false, and_self, Option.toList_some, Option.toList_none, List.singleton_append, List.cons_append, List.nil_append, List.append_nil, nI_1, nt_e, Int32.le_refl, lq6, nI_leI, hnle3, bit_e, hb, b2i_0, Bool.true_eq_false, Bool.false_eq_true, ↓reduceIte]
            exact ih2
          · rw [hb] at ih2
            simp only [if_true] at ih2
            simp (disch := first | exact am_nl_i _ | exact am_nl_r _ | exact am_nl_0 | (refine vi_nI ?_ ?_ <;> omega) | assumption | omega | exact b2i_01 _ | exact Or.inl rfl | exact Or.inr rfl | (unfold vi; decide)) only [ex_5_0, ex_5_1, ex_5_2, ex_5_3, ex_5_6, ex_5_9, ex_5_10, ex_5_13, ex_5_14, ex_5_15, ex_5_16, ex_5_17, ex_5_20, ex_5_23, ex_5_24, ex_5_26, ex_5_29, ex_5_30, ex_5_32, ex_5_33, ex_5_37, ex_5_39, ex_5_42, ex_5_43, ex_5_45, ex_5_46, ex_5_47, ex_5_48, ex_5_51, ex_5_53, ex_5_54, ex_5_55, ex_5_57, ex_5_60, ex_5_61, ex_5_63, ex_5_66, ex_5_70, ex_5_73, ex_5_74, ex_5_75, ex_5_76, ex_5_79, ex_5_80, ex_5_81, ex_5_82, ex_5_85, ex_5_86, ex_5_88, ex_5_91, ex_5_94, ex_5_95, ex_5_96, ex_5_99, ex_5_102, if_true, if_false, and_self, Option.toList_some, Option.toList_none, List.singleton_append, List.cons_append, List.nil_append, List.append_nil, nI_1, nt_e, Int32.le_refl, lq6, nI_leI, hnle3, bit_e, hb, b2i_0, known_ok shl_65 hL l1 c1 hW, Bool.true_eq_false, Bool.false_eq_true, ↓reduceIte]
            exact ih2
      rw [ex_5_15]
      simp (disch := first | exact am_nl_i _ | exact am_nl_r _ | exact am_nl_0 | (refine vi_nI ?_ ?_ <;> omega) | assumption | omega | exact b2i_01 _ | exact Or.inl rfl | exact Or.inr rfl | (unfold vi; decide)) only [ex_5_0, ex_5_1, ex_5_2, ex_5_3, ex_5_6, ex_5_9, ex_5_10, ex_5_13, ex_5_14, ex_5_16, ex_5_17, ex_5_20, ex_5_23, ex_5_24, ex_5_26, ex_5_29, ex_5_30, ex_5_32, ex_5_33, ex_5_37, ex_5_39, ex_5_42, ex_5_43, ex_5_45, ex_5_46, ex_5_47, ex_5_48, ex_5_51, ex_5_53, ex_5_54, ex_5_55, ex_5_57, ex_5_60, ex_5_61, ex_5_63, ex_5_66, ex_5_69, ex_5_70, ex_5_73, ex_5_74, ex_5_75, ex_5_76, ex_5_79, ex_5_80, ex_5_81, ex_5_82, ex_5_85, ex_5_86, ex_5_88, ex_5_91, ex_5_94, ex_5_95, ex_5_96, ex_5_99, if_true, if_false, and_self, Option.toList_some, Option.toList_none, List.singleton_append, List.cons_append, List.nil_append, List.append_nil, nI_1, nt_e, Int32.le_refl, hm, nI_leI, hnle, lq64, hnle2, Bool.true_eq_false, Bool.false_eq_true, ↓reduceIte]
      exact inner 6 0 (by omega)
  exact loop (2 ^ nE v) 0 none none rfl (by omega) _ (Only.sFI (by unfold grP; omega)) (by rw [FI_sFI, if_pos ⟨rfl, rfl⟩]) (fun j hj => absurd hj (Nat.not_lt_zero j))
def okSit (v : LV) (l : LF) (t k : Nat) : Bool := bt (ableG v l k) t
def sitS (S : ST) (x : Int32) : Int32 := if okI x (nT S.1) then ob (bestF (okSit S.1 S.2.1.1 (ix x)) few (2 ^ nE S.1)) else -1
theorem fewestG_ok {t : Nat} (hL : sh L 3 19) (hl : LifeC u 65 l) (hC : LibC u L v) (hW : WF v) (ht : t < nT v) (h : ∀ u', Only grP u u' → post (some (.int (ob (bestF (okSit v l t) few (2 ^ nE v))))) (am_emb u')) : Cl (d + 3) 6 [.ref 189, .ref L, .ref 65, .int (nI t)] (am_emb u) post := by
  have h5 := hW.1.2.2.2
  have h6 := hW.1.2.2.1
  have hp := pow_64 h6
  rw [op_6]
  simp (disch := first | exact am_nl_i _ | exact am_nl_r _ | exact am_nl_0 | assumption | omega | (refine vi_nI ?_ ?_ <;> omega) | exact b2i_01 _ | exact Or.inl rfl | exact Or.inr rfl | (unfold vi; decide)) only [ex_6_0, ex_6_1, ex_6_2, ex_6_6, ex_6_7, ex_6_9, ex_6_10, ex_6_14, ex_6_15, ex_6_18, ex_6_21, ex_6_23, ex_6_25, ex_6_28, ex_6_29, ex_6_32, ex_6_34, ex_6_35, ex_6_36, ex_6_37, ex_6_38, ex_6_39, ex_6_42, ex_6_44, ex_6_46, ex_6_49, ex_6_52, ex_6_54, ex_6_56, ex_6_59, ex_6_62, ex_6_64, if_true, if_false, and_self, Option.toList_some, Option.toList_none, List.singleton_append, List.cons_append, List.nil_append, List.append_nil, nI_1, nt_e, Int32.le_refl]
  rw [ex_6_3]
  refine look_ok hL hl hC hW (fun u1 o1 m1 a1 => ?_)
  have hfin := h u1 o1
  simp (disch := first | exact am_nl_i _ | exact am_nl_r _ | exact am_nl_0 | assumption | omega | (refine vi_nI ?_ ?_ <;> omega) | exact b2i_01 _ | exact Or.inl rfl | exact Or.inr rfl | (unfold vi; decide)) only [ex_6_0, ex_6_1, ex_6_2, ex_6_6, ex_6_7, ex_6_9, ex_6_10, ex_6_14, ex_6_15, ex_6_18, ex_6_21, ex_6_23, ex_6_25, ex_6_28, ex_6_29, ex_6_32, ex_6_34, ex_6_35, ex_6_36, ex_6_37, ex_6_38, ex_6_39, ex_6_42, ex_6_44, ex_6_46, ex_6_49, ex_6_52, ex_6_54, ex_6_56, ex_6_59, ex_6_62, ex_6_64, if_true, if_false, and_self, Option.toList_some, Option.toList_none, List.singleton_append, List.cons_append, List.nil_append, List.append_nil, nI_1, nt_e, Int32.le_refl]
  have loop : ∀ (kz k : Nat), k + kz = 2 ^ nE v → Ex (d + 3) 6 12 [some (.ref 189), some (.ref L), some (.ref 65), some (.int (nI t)), some (.int (ob (bestF (okSit v l t) few k))), some (.int (nI k))] [] (am_emb u1) post := by
    intro kz
    induction kz with
    | zero =>
      intro k hk
      obtain rfl : k = 2 ^ nE v := by omega
      rw [ex_6_12]
      simp (disch := first | exact am_nl_i _ | exact am_nl_r _ | exact am_nl_0 | (refine vi_nI ?_ ?_ <;> omega) | assumption | omega | exact b2i_01 _ | exact Or.inl rfl | exact Or.inr rfl | (unfold vi; decide)) only [ex_6_0, ex_6_1, ex_6_2, ex_6_3, ex_6_6, ex_6_7, ex_6_9, ex_6_10, ex_6_14, ex_6_15, ex_6_18, ex_6_23, ex_6_25, ex_6_28, ex_6_29, ex_6_32, ex_6_34, ex_6_35, ex_6_36, ex_6_37, ex_6_38, ex_6_39, ex_6_42, ex_6_44, ex_6_46, ex_6_49, ex_6_52, ex_6_54, ex_6_56, ex_6_59, ex_6_62, ex_6_64, if_true, if_false, and_self, Option.toList_some, Option.toList_none, List.singleton_append, List.cons_append, List.nil_append, List.append_nil, nI_1, nt_e, Int32.le_refl, m1, nI_leI, Nat.le_refl, Bool.true_eq_false, Bool.false_eq_true, ↓reduceIte]
      exact hfin
    | succ kz ih =>
      intro k hk
      have ih := ih (k + 1) (by omega)
      have hb := best_b (ok := okSit v l t) (lt := few) (n := k) (N := 8192) (by omega)
      have hk8 : k < 8192 := by omega
      have hnle : ¬ 2 ^ nE v ≤ k := by omega
      have hnle2 : ¬ 64 ≤ k := by omega
      have ha := a1 k (by omega)
      rw [bestF] at ih
      have e1 : okSit v l t k = bt (ableG v l k) t := rfl
      rw [e1] at ih
      generalize bestF (okSit v l t) few k = o at *
      rw [ex_6_12]
      cases q1 : bt (ableG v l k) t
      · simp only [q1, Bool.false_and, Bool.false_eq_true, if_false] at ih
        simp (disch := first | exact am_nl_i _ | exact am_nl_r _ | exact am_nl_0 | (refine vi_nI ?_ ?_ <;> omega) | assumption | omega | exact b2i_01 _ | exact Or.inl rfl | exact Or.inr rfl | (unfold vi; decide)) only [ex_6_0, ex_6_1, ex_6_2, ex_6_3, ex_6_6, ex_6_7, ex_6_9, ex_6_10, ex_6_14, ex_6_15, ex_6_18, ex_6_21, ex_6_23, ex_6_25, ex_6_28, ex_6_29, ex_6_32, ex_6_34, ex_6_35, ex_6_36, ex_6_37, ex_6_38, ex_6_39, ex_6_42, ex_6_44, ex_6_46, ex_6_49, ex_6_52, ex_6_54, ex_6_56, ex_6_59, ex_6_64, if_true, if_false, and_self, Option.toList_some, Option.toList_none, List.singleton_append, List.cons_append, List.nil_append, List.append_nil, nI_1, nt_e, Int32.le_refl, m1, nI_leI, hnle, lq64, hnle2, nI_clamp, ha, bit_e, q1, b2i_0, Bool.true_eq_false, Bool.false_eq_true, ↓reduceIte]
        exact ih
      · cases q2 : o.all (fun b => few k b)
        · simp only [q1, q2, Bool.true_and, Bool.false_eq_true, if_false] at ih
          simp (disch := first | exact am_nl_i _ | exact am_nl_r _ | exact am_nl_0 | (refine vi_nI ?_ ?_ <;> omega) | assumption | omega | exact b2i_01 _ | exact Or.inl rfl | exact Or.inr rfl | (unfold vi; decide)) only [ex_6_0, ex_6_1, ex_6_2, ex_6_3, ex_6_6, ex_6_7, ex_6_9, ex_6_10, ex_6_14, ex_6_15, ex_6_18, ex_6_21, ex_6_23, ex_6_25, ex_6_28, ex_6_29, ex_6_32, ex_6_34, ex_6_35, ex_6_36, ex_6_37, ex_6_38, ex_6_39, ex_6_42, ex_6_44, ex_6_46, ex_6_49, ex_6_52, ex_6_54, ex_6_56, ex_6_59, ex_6_64, if_true, if_false, and_self, Option.toList_some, Option.toList_none, List.singleton_append, List.cons_append, List.nil_append, List.append_nil, nI_1, nt_e, Int32.le_refl, m1, nI_leI, hnle, lq64, hnle2, nI_clamp, ha, bit_e, q1, b2i_0, isFewer_ok hk8 hb, q2, Bool.true_eq_false, Bool.false_eq_true, ↓reduceIte]
          exact ih
        · simp only [q1, q2, Bool.true_and, if_true] at ih
          simp (disch := first | exact am_nl_i _ | exact am_nl_r _ | exact am_nl_0 | (refine vi_nI ?_ ?_ <;> omega) | assumption | omega | exact b2i_01 _ | exact Or.inl rfl | exact Or.inr rfl | (unfold vi; decide)) only [ex_6_0, ex_6_1, ex_6_2, ex_6_3, ex_6_6, ex_6_7, ex_6_9, ex_6_10, ex_6_14, ex_6_15, ex_6_18, ex_6_21, ex_6_23, ex_6_25, ex_6_28, ex_6_29, ex_6_32, ex_6_34, ex_6_35, ex_6_36, ex_6_37, ex_6_38, ex_6_39, ex_6_42, ex_6_44, ex_6_46, ex_6_49, ex_6_52, ex_6_54, ex_6_56, ex_6_59, ex_6_64, if_true, if_false, and_self, Option.toList_some, Option.toList_none, List.singleton_append, List.cons_append, List.nil_append, List.append_nil, nI_1, nt_e, Int32.le_refl, m1, nI_leI, hnle, lq64, hnle2, nI_clamp, ha, bit_e, q1, b2i_0, isFewer_ok hk8 hb, q2, Bool.true_eq_false, Bool.false_eq_true, ↓reduceIte]
          exact ih
  exact loop (2 ^ nE v) 0 (by omega)
theorem C_sit {x : Int32} (hI : InvC u S L L') (hS : WS S) (h : ∀ u', Only inC u u' → InvC u' S L L' → post (some (.int (sitS S x))) (am_emb u')) : Cl (d + 4) 133 [.ref 0, .int x] (am_emb u) post := by
  have hIc := hI
  have hL := lib_sh hI.1.2.2.1
  have hW := hS.1
  have h5 := hW.1.2.2.2
  obtain ⟨⟨r1, r2, r3, r4, r5, r6⟩, ⟨l1, l2, l3⟩, ⟨st1, st2, st3⟩, pst, mk, tp⟩ := hI
  rw [op_133]
  simp (disch := first | exact am_nl_i _ | exact am_nl_r _ | exact am_nl_0 | assumption | omega | (refine vi_nI ?_ ?_ <;> omega) | exact b2i_01 _ | exact Or.inl rfl | exact Or.inr rfl | (unfold vi; decide)) only [ex_133_0, ex_133_1, ex_133_4, ex_133_7, ex_133_8, ex_133_11, ex_133_14, ex_133_15, ex_133_16, ex_133_17, ex_133_20, ex_133_21, ex_133_24, ex_133_25, ex_133_28, ex_133_31, ex_133_35, if_true, if_false, and_self, Option.toList_some, Option.toList_none, List.singleton_append, List.cons_append, List.nil_append, List.append_nil, nI_1, nt_e, Int32.le_refl, r1, va_rfs, has_ok (sh_3_7 hL) l1.1.2.2.2 l1.2.1.2.2.2 (Nat.le_trans h5 (by decide)) h5 (by decide), b2i_0]
  unfold sitS at h
  rw [show decide (0 ≤ x.toInt ∧ x.toInt < (nT S.1 : Int)) = okI x (nT S.1) from rfl]
  cases q : okI x (nT S.1)
  · rw [q] at h
    rw [if_pos rfl]
    exact h u (Only.rf _ _) hIc
  rw [q] at h
  rw [if_neg (by simp)]
  obtain ⟨i1, i2⟩ := okI_ix q
  generalize ix x = t at *
  subst i2
  rw [ex_133_32]
  refine fewestG_ok hL st1 l1 hW i1 (fun u1 o1 => ?_)
  simp (disch := first | exact am_nl_i _ | exact am_nl_r _ | exact am_nl_0 | assumption | omega | (refine vi_nI ?_ ?_ <;> omega) | exact b2i_01 _ | exact Or.inl rfl | exact Or.inr rfl | (unfold vi; decide)) only [ex_133_0, ex_133_1, ex_133_4, ex_133_7, ex_133_8, ex_133_11, ex_133_14, ex_133_15, ex_133_16, ex_133_17, ex_133_20, ex_133_21, ex_133_24, ex_133_25, ex_133_28, ex_133_31, ex_133_32, ex_133_35, if_true, if_false, and_self, Option.toList_some, Option.toList_none, List.singleton_append, List.cons_append, List.nil_append, List.append_nil, nI_1, nt_e, Int32.le_refl]
  exact h u1 (o1.wk (fun a q => by unfold grP at q; unfold inC; omega)) (hIc.keepS o1 (fun a ha q => by unfold grP at q; omega))
theorem tog_ok {g : Nat} (hR : LibR u v) (hl : LifeR u v l) (hW : WF v) (hw : WL v l) : Cl (d + 1) 250 [.ref 203, .int (nI g)] (am_emb u) post ↔ post (some (.int (togL v l g))) (am_emb u) := by
  refine Cl_iff ?_ post
  have h6 := hW.1.2.2.1
  have hn := hR.1.2.2.1
  have he : ∀ p, p < 6 → AI u 241 p = eatL l p := fun p hp => by have := hl.1 p hp; rwa [Nat.zero_add] at this
  have hx : togL v l g = orF (nE v) (fun i => if bt (nI g) i then knowsV v (eatL l i) else 0) := orF_ext h6 (fun i h1 h2 => by rw [hw.2.2.2.2.2 i h1, knows_0]; simp)
  rw [hx, op_250]
  have loop : ∀ (kz i : Nat), i + kz = nE v → Ex (d + 1) 250 4 [some (.ref 203), some (.int (nI g)), some (.int (orF i (fun i => if bt (nI g) i then knowsV v (eatL l i) else 0))), some (.int (nI i))] [] (am_emb u) (fun w m => w = some (.int (orF (nE v) (fun i => if bt (nI g) i then knowsV v (eatL l i) else 0))) ∧ m = am_emb u) := by
    intro kz
    induction kz with
    | zero =>
      intro i h1
      obtain rfl : i = nE v := by omega
      rw [ex_250_4]
      simp (disch := first | exact am_nl_i _ | exact am_nl_r _ | exact am_nl_0 | assumption | omega | (refine vi_nI ?_ ?_ <;> omega) | exact b2i_01 _ | exact Or.inl rfl | exact Or.inr rfl | (unfold vi; decide)) only [ex_250_0, ex_250_1, ex_250_2, ex_250_3, ex_250_5, ex_250_6, ex_250_9, ex_250_10, ex_250_11, ex_250_14, ex_250_15, ex_250_16, ex_250_17, ex_250_18, ex_250_19, ex_250_20, ex_250_21, ex_250_24, ex_250_25, ex_250_26, ex_250_29, ex_250_30, ex_250_31, ex_250_34, ex_250_37, ex_250_38, ex_250_39, ex_250_40, ex_250_43, ex_250_46, ex_250_47, if_true, if_false, and_self, Option.toList_some, Option.toList_none, List.singleton_append, List.cons_append, List.nil_append, List.append_nil, nI_1, nt_e, Int32.le_refl, c2, hn, he, knows_ok hR hW]
      (try exact ⟨rfl, trivial⟩)
    | succ kz ih =>
      intro i h1
      have hlt : i < nE v := by omega
      have hnle : ¬ nE v ≤ i := by omega
      have h2 := ih (i + 1) (by omega)
      rw [ex_250_4]
      simp (disch := first | exact am_nl_i _ | exact am_nl_r _ | exact am_nl_0 | assumption | omega | (refine vi_nI ?_ ?_ <;> omega) | exact b2i_01 _ | exact Or.inl rfl | exact Or.inr rfl | (unfold vi; decide)) only [ex_250_0, ex_250_1, ex_250_2, ex_250_3, ex_250_5, ex_250_6, ex_250_9, ex_250_10, ex_250_11, ex_250_14, ex_250_15, ex_250_16, ex_250_17, ex_250_18, ex_250_19, ex_250_20, ex_250_21, ex_250_24, ex_250_25, ex_250_26, ex_250_29, ex_250_30, ex_250_31, ex_250_34, ex_250_37, ex_250_38, ex_250_39, ex_250_40, ex_250_43, ex_250_46, ex_250_47, if_true, if_false, and_self, Option.toList_some, Option.toList_none, List.singleton_append, List.cons_append, List.nil_append, List.append_nil, nI_1, nt_e, Int32.le_refl, nI_leI, nI_ltI, hlt, hnle, bit_e, bi_e, nI_clamp, b2i_0, b2i_1, c2, hn, he, knows_ok hR hW]
      rw [orF] at h2; cases hb : bt (nI g) i <;> simpa [hb, or_0] using h2
  simp (disch := first | exact am_nl_i _ | exact am_nl_r _ | exact am_nl_0 | assumption | omega | (refine vi_nI ?_ ?_ <;> omega) | exact b2i_01 _ | exact Or.inl rfl | exact Or.inr rfl | (unfold vi; decide)) only [ex_250_0, ex_250_1, ex_250_2, ex_250_3, ex_250_5, ex_250_6, ex_250_9, ex_250_10, ex_250_11, ex_250_14, ex_250_15, ex_250_16, ex_250_17, ex_250_18, ex_250_19, ex_250_20, ex_250_21, ex_250_24, ex_250_25, ex_250_26, ex_250_29, ex_250_30, ex_250_31, ex_250_34, ex_250_37, ex_250_38, ex_250_39, ex_250_40, ex_250_43, ex_250_46, ex_250_47, if_true, if_false, and_self, Option.toList_some, Option.toList_none, List.singleton_append, List.cons_append, List.nil_append, List.append_nil, nI_1, nt_e, Int32.le_refl]
  exact loop (nE v) 0 (by omega)
theorem R_sit {x : Int32} (hI : InvR u S) (hS : WS S) : Cl (d + 3) 251 [.ref 203, .int x] (am_emb u) post ↔ post (some (.int (sitS S x))) (am_emb (th u 0)) := by
  refine Cl_iff ?_ post
  have hI1 : InvR (th u 0) S := th_inv hI
  obtain ⟨hR, hcd, ⟨hl, hl2, hl3⟩, hp, hm, htp⟩ := hI1
  have hW := hS.1
  have hw := hS.2.1.1
  have h6 := hW.1.2.2.1
  have h5 := hW.1.2.2.2
  have hp := pow_64 h6
  have hn := hR.1.2.2.1
  have ha : AI (th u 0) 241 12 = aliveL S.2.1.1 := hl.2.2.1
  rw [op_251]
  simp (disch := first | exact am_nl_i _ | exact am_nl_r _ | exact am_nl_0 | assumption | omega | (refine vi_nI ?_ ?_ <;> omega) | exact b2i_01 _ | exact Or.inl rfl | exact Or.inr rfl | (unfold vi; decide)) only [ex_251_0, ex_251_1, ex_251_2, ex_251_5, ex_251_6, ex_251_7, ex_251_10, ex_251_13, ex_251_14, ex_251_15, ex_251_16, ex_251_17, ex_251_18, ex_251_20, ex_251_21, ex_251_22, ex_251_25, ex_251_26, ex_251_27, ex_251_28, ex_251_31, ex_251_32, ex_251_33, ex_251_36, ex_251_38, ex_251_39, ex_251_40, ex_251_41, ex_251_42, ex_251_45, ex_251_46, ex_251_49, ex_251_50, ex_251_53, ex_251_54, ex_251_57, ex_251_60, ex_251_63, ex_251_64, ex_251_65, ex_251_66, ex_251_69, ex_251_70, ex_251_73, ex_251_76, ex_251_77, ex_251_78, ex_251_81, ex_251_84, ex_251_85, if_true, if_false, and_self, Option.toList_some, Option.toList_none, List.singleton_append, List.cons_append, List.nil_append, List.append_nil, nI_1, nt_e, Int32.le_refl, th_e, isTask_ok hR hW, b2i_0]
  unfold sitS
  cases q : okI x (nT S.1)
  · rw [if_pos rfl]
    (try (first | exact ⟨rfl, rfl⟩ | exact ⟨rfl, trivial⟩))
  rw [if_neg (by simp), if_pos rfl]
  obtain ⟨i1, i2⟩ := okI_ix q
  generalize ix x = t at *
  subst i2
  have loop : ∀ (kz k : Nat), k + kz = 2 ^ nE S.1 → Ex (d + 3) 251 19 [some (.ref 203), some (.int (nI t)), some (.int (ob (bestF (okSit S.1 S.2.1.1 t) few k))), some (.int (nI k))] [] (am_emb (th u 0)) (fun w n => w = some (.int (ob (bestF (okSit S.1 S.2.1.1 t) few (2 ^ nE S.1)))) ∧ n = am_emb (th u 0)) := by
    intro kz
    induction kz with
    | zero =>
      intro k hk
      obtain rfl : k = 2 ^ nE S.1 := by omega
      rw [ex_251_19]
      simp (disch := first | exact am_nl_i _ | exact am_nl_r _ | exact am_nl_0 | (refine vi_nI ?_ ?_ <;> omega) | assumption | omega | exact b2i_01 _ | exact Or.inl rfl | exact Or.inr rfl | (unfold vi; decide)) only [ex_251_0, ex_251_1, ex_251_2, ex_251_5, ex_251_6, ex_251_7, ex_251_10, ex_251_13, ex_251_14, ex_251_15, ex_251_16, ex_251_17, ex_251_18, ex_251_20, ex_251_21, ex_251_22, ex_251_25, ex_251_26, ex_251_27, ex_251_28, ex_251_32, ex_251_33, ex_251_36, ex_251_38, ex_251_39, ex_251_40, ex_251_41, ex_251_42, ex_251_45, ex_251_46, ex_251_49, ex_251_50, ex_251_53, ex_251_54, ex_251_57, ex_251_60, ex_251_63, ex_251_64, ex_251_65, ex_251_66, ex_251_69, ex_251_70, ex_251_73, ex_251_76, ex_251_77, ex_251_78, ex_251_81, ex_251_84, ex_251_85, if_true, if_false, and_self, Option.toList_some, Option.toList_none, List.singleton_append, List.cons_append, List.nil_append, List.append_nil, nI_1, nt_e, Int32.le_refl, c2, hn, bi_e, pow_nI (show nE S.1 ≤ 12 by omega), nI_leI, Nat.le_refl, Bool.true_eq_false, Bool.false_eq_true, ↓reduceIte]
      (try (first | exact ⟨rfl, rfl⟩ | exact ⟨rfl, trivial⟩))
    | succ kz ih =>
      intro k hk
      have ih := ih (k + 1) (by omega)
      have hb := best_b (ok := okSit S.1 S.2.1.1 t) (lt := few) (n := k) (N := 8192) (by omega)
      have hnle : ¬ 2 ^ nE S.1 ≤ k := by omega
      have hs : ∀ o', o' = bestF (okSit S.1 S.2.1.1 t) few (k + 1) → Ex (d + 3) 251 78 [some (.ref 203), some (.int (nI t)), some (.int (ob o')), some (.int (nI k))] [] (am_emb (th u 0)) (fun w n => w = some (.int (ob (bestF (okSit S.1 S.2.1.1 t) few (2 ^ nE S.1)))) ∧ n = am_emb (th u 0)) := by
        intro o' e
        simp (disch := first | exact am_nl_i _ | exact am_nl_r _ | exact am_nl_0 | assumption | omega | (refine vi_nI ?_ ?_ <;> omega) | exact b2i_01 _ | exact Or.inl rfl | exact Or.inr rfl | (unfold vi; decide)) only [ex_251_0, ex_251_1, ex_251_2, ex_251_5, ex_251_6, ex_251_7, ex_251_10, ex_251_13, ex_251_14, ex_251_15, ex_251_16, ex_251_17, ex_251_18, ex_251_20, ex_251_21, ex_251_22, ex_251_25, ex_251_26, ex_251_27, ex_251_28, ex_251_31, ex_251_32, ex_251_33, ex_251_36, ex_251_38, ex_251_39, ex_251_40, ex_251_41, ex_251_42, ex_251_45, ex_251_46, ex_251_49, ex_251_50, ex_251_53, ex_251_54, ex_251_57, ex_251_60, ex_251_63, ex_251_64, ex_251_65, ex_251_66, ex_251_69, ex_251_70, ex_251_73, ex_251_76, ex_251_77, ex_251_78, ex_251_81, ex_251_84, ex_251_85, if_true, if_false, and_self, Option.toList_some, Option.toList_none, List.singleton_append, List.cons_append, List.nil_append, List.append_nil, nI_1, nt_e, Int32.le_refl]
        rw [e]
        exact ih
      have hcan := tasks_bt hW (s := togL S.1 S.2.1.1 k) t i1
      rw [bestF] at hs
      generalize bestF (okSit S.1 S.2.1.1 t) few k = o at *
      have tail : o.all (fun b => few k b) = true → nI k &&& nt (aliveL S.2.1.1) = 0 → Ex (d + 3) 251 63 [some (.ref 203), some (.int (nI t)), some (.int (ob o)), some (.int (nI k))] [] (am_emb (th u 0)) (fun w n => w = some (.int (ob (bestF (okSit S.1 S.2.1.1 t) few (2 ^ nE S.1)))) ∧ n = am_emb (th u 0)) := by
        intro q2 q1
        cases q3 : canV S.1 (togL S.1 S.2.1.1 k) t
        · simp (disch := first | exact am_nl_i _ | exact am_nl_r _ | exact am_nl_0 | (refine vi_nI ?_ ?_ <;> omega) | assumption | omega | exact b2i_01 _ | exact Or.inl rfl | exact Or.inr rfl | (unfold vi; decide)) only [ex_251_0, ex_251_1, ex_251_2, ex_251_5, ex_251_6, ex_251_7, ex_251_10, ex_251_13, ex_251_14, ex_251_15, ex_251_16, ex_251_17, ex_251_18, ex_251_19, ex_251_20, ex_251_21, ex_251_22, ex_251_25, ex_251_26, ex_251_27, ex_251_28, ex_251_31, ex_251_32, ex_251_33, ex_251_36, ex_251_38, ex_251_39, ex_251_40, ex_251_41, ex_251_42, ex_251_45, ex_251_46, ex_251_49, ex_251_50, ex_251_53, ex_251_54, ex_251_57, ex_251_60, ex_251_63, ex_251_64, ex_251_65, ex_251_66, ex_251_69, ex_251_70, ex_251_73, ex_251_76, ex_251_77, ex_251_81, ex_251_84, ex_251_85, if_true, if_false, and_self, Option.toList_some, Option.toList_none, List.singleton_append, List.cons_append, List.nil_append, List.append_nil, nI_1, nt_e, Int32.le_refl, tog_ok hR hl hW hw, canBy_ok hR hW i1, q3, b2i_0, Bool.true_eq_false, Bool.false_eq_true, ↓reduceIte]
          exact hs _ (by rw [okSit, ableG, if_pos q1, hcan, q3]; simp)
        · simp (disch := first | exact am_nl_i _ | exact am_nl_r _ | exact am_nl_0 | (refine vi_nI ?_ ?_ <;> omega) | assumption | omega | exact b2i_01 _ | exact Or.inl rfl | exact Or.inr rfl | (unfold vi; decide)) only [ex_251_0, ex_251_1, ex_251_2, ex_251_5, ex_251_6, ex_251_7, ex_251_10, ex_251_13, ex_251_14, ex_251_15, ex_251_16, ex_251_17, ex_251_18, ex_251_19, ex_251_20, ex_251_21, ex_251_22, ex_251_25, ex_251_26, ex_251_27, ex_251_28, ex_251_31, ex_251_32, ex_251_33, ex_251_36, ex_251_38, ex_251_39, ex_251_40, ex_251_41, ex_251_42, ex_251_45, ex_251_46, ex_251_49, ex_251_50, ex_251_53, ex_251_54, ex_251_57, ex_251_60, ex_251_63, ex_251_64, ex_251_65, ex_251_66, ex_251_69, ex_251_70, ex_251_73, ex_251_76, ex_251_77, ex_251_81, ex_251_84, ex_251_85, if_true, if_false, and_self, Option.toList_some, Option.toList_none, List.singleton_append, List.cons_append, List.nil_append, List.append_nil, nI_1, nt_e, Int32.le_refl, tog_ok hR hl hW hw, canBy_ok hR hW i1, q3, b2i_0, Bool.true_eq_false, Bool.false_eq_true, ↓reduceIte]
          exact hs (some k) (by rw [q2, okSit, ableG, if_pos q1, hcan, q3]; rfl)
      rw [ex_251_19]
      by_cases q1 : nI k &&& nt (aliveL S.2.1.1) = 0
      · cases o with
        | none =>
          simp (disch := first | exact am_nl_i _ | exact am_nl_r _ | exact am_nl_0 | (refine vi_nI ?_ ?_ <;> omega) | assumption | omega | exact b2i_01 _ | exact Or.inl rfl | exact Or.inr rfl | (unfold vi; decide)) only [ex_251_0, ex_251_1, ex_251_2, ex_251_5, ex_251_6, ex_251_7, ex_251_10, ex_251_13, ex_251_14, ex_251_15, ex_251_16, ex_251_17, ex_251_18, ex_251_20, ex_251_21, ex_251_22, ex_251_25, ex_251_26, ex_251_27, ex_251_28, ex_251_31, ex_251_32, ex_251_33, ex_251_36, ex_251_38, ex_251_39, ex_251_40, ex_251_41, ex_251_42, ex_251_45, ex_251_46, ex_251_49, ex_251_50, ex_251_53, ex_251_54, ex_251_57, ex_251_60, ex_251_64, ex_251_65, ex_251_66, ex_251_69, ex_251_70, ex_251_73, ex_251_76, ex_251_77, ex_251_81, ex_251_85, if_true, if_false, and_self, Option.toList_some, Option.toList_none, List.singleton_append, List.cons_append, List.nil_append, List.append_nil, nI_1, nt_e, Int32.le_refl, c2, hn, bi_e, pow_nI (show nE S.1 ≤ 12 by omega), nI_leI, hnle, c12, ha, q1, show ob none = -1 from rfl, show ((-1 : Int32) < (0 : Int32)) = True from eq_true (by decide), Bool.true_eq_false, Bool.false_eq_true, ↓reduceIte]
          exact tail rfl q1
        | some b =>
          have hb8 := hb b rfl
          by_cases q2 : bitsV (nI k) < bitsV (nI b)
          · simp (disch := first | exact am_nl_i _ | exact am_nl_r _ | exact am_nl_0 | (refine vi_nI ?_ ?_ <;> omega) | assumption | omega | exact b2i_01 _ | exact Or.inl rfl | exact Or.inr rfl | (unfold vi; decide)) only [ex_251_0, ex_251_1, ex_251_2, ex_251_5, ex_251_6, ex_251_7, ex_251_10, ex_251_13, ex_251_14, ex_251_15, ex_251_16, ex_251_17, ex_251_18, ex_251_20, ex_251_21, ex_251_22, ex_251_25, ex_251_26, ex_251_27, ex_251_28, ex_251_31, ex_251_32, ex_251_33, ex_251_36, ex_251_38, ex_251_39, ex_251_40, ex_251_41, ex_251_42, ex_251_45, ex_251_46, ex_251_49, ex_251_50, ex_251_53, ex_251_54, ex_251_57, ex_251_60, ex_251_64, ex_251_65, ex_251_66, ex_251_69, ex_251_70, ex_251_73, ex_251_76, ex_251_77, ex_251_81, ex_251_85, if_true, if_false, and_self, Option.toList_some, Option.toList_none, List.singleton_append, List.cons_append, List.nil_append, List.append_nil, nI_1, nt_e, Int32.le_refl, c2, hn, bi_e, pow_nI (show nE S.1 ≤ 12 by omega), nI_leI, hnle, c12, ha, q1, show ob (some b) = nI b from rfl, i_lt0, bits_ok, q2, Bool.true_eq_false, Bool.false_eq_true, ↓reduceIte]
            exact tail (by rw [Option.all_some, few, decide_eq_true q2]) q1
          · simp (disch := first | exact am_nl_i _ | exact am_nl_r _ | exact am_nl_0 | (refine vi_nI ?_ ?_ <;> omega) | assumption | omega | exact b2i_01 _ | exact Or.inl rfl | exact Or.inr rfl | (unfold vi; decide)) only [ex_251_0, ex_251_1, ex_251_2, ex_251_5, ex_251_6, ex_251_7, ex_251_10, ex_251_13, ex_251_14, ex_251_15, ex_251_16, ex_251_17, ex_251_18, ex_251_20, ex_251_21, ex_251_22, ex_251_25, ex_251_26, ex_251_27, ex_251_28, ex_251_31, ex_251_32, ex_251_33, ex_251_36, ex_251_38, ex_251_39, ex_251_40, ex_251_41, ex_251_42, ex_251_45, ex_251_46, ex_251_49, ex_251_50, ex_251_53, ex_251_54, ex_251_57, ex_251_60, ex_251_64, ex_251_65, ex_251_66, ex_251_69, ex_251_70, ex_251_73, ex_251_76, ex_251_77, ex_251_81, ex_251_85, if_true, if_false, and_self, Option.toList_some, Option.toList_none, List.singleton_append, List.cons_append, List.nil_append, List.append_nil, nI_1, nt_e, Int32.le_refl, c2, hn, bi_e, pow_nI (show nE S.1 ≤ 12 by omega), nI_leI, hnle, c12, ha, q1, show ob (some b) = nI b from rfl, i_lt0, bits_ok, q2, Bool.true_eq_false, Bool.false_eq_true, ↓reduceIte]
            exact hs (some b) (by rw [Option.all_some, few, decide_eq_false q2]; simp)
      · simp (disch := first | exact am_nl_i _ | exact am_nl_r _ | exact am_nl_0 | (refine vi_nI ?_ ?_ <;> omega) | assumption | omega | exact b2i_01 _ | exact Or.inl rfl | exact Or.inr rfl | (unfold vi; decide)) only [ex_251_0, ex_251_1, ex_251_2, ex_251_5, ex_251_6, ex_251_7, ex_251_10, ex_251_13, ex_251_14, ex_251_15, ex_251_16, ex_251_17, ex_251_18, ex_251_20, ex_251_21, ex_251_22, ex_251_25, ex_251_26, ex_251_27, ex_251_28, ex_251_31, ex_251_32, ex_251_33, ex_251_36, ex_251_38, ex_251_39, ex_251_40, ex_251_41, ex_251_42, ex_251_45, ex_251_46, ex_251_49, ex_251_50, ex_251_53, ex_251_54, ex_251_57, ex_251_60, ex_251_64, ex_251_65, ex_251_66, ex_251_69, ex_251_70, ex_251_73, ex_251_76, ex_251_77, ex_251_81, ex_251_85, if_true, if_false, and_self, Option.toList_some, Option.toList_none, List.singleton_append, List.cons_append, List.nil_append, List.append_nil, nI_1, nt_e, Int32.le_refl, c2, hn, bi_e, pow_nI (show nE S.1 ≤ 12 by omega), nI_leI, hnle, c12, ha, q1, Bool.true_eq_false, Bool.false_eq_true, ↓reduceIte]
        exact hs _ (by rw [okSit, ableG, if_neg q1, b_0]; simp)
  try simp (disch := first | exact am_nl_i _ | exact am_nl_r _ | exact am_nl_0 | assumption | omega | (refine vi_nI ?_ ?_ <;> omega) | exact b2i_01 _ | exact Or.inl rfl | exact Or.inr rfl | (unfold vi; decide)) only [ex_251_0, ex_251_1, ex_251_2, ex_251_5, ex_251_6, ex_251_7, ex_251_10, ex_251_13, ex_251_14, ex_251_15, ex_251_16, ex_251_17, ex_251_18, ex_251_20, ex_251_21, ex_251_22, ex_251_25, ex_251_26, ex_251_27, ex_251_28, ex_251_31, ex_251_32, ex_251_33, ex_251_36, ex_251_38, ex_251_39, ex_251_40, ex_251_41, ex_251_42, ex_251_45, ex_251_46, ex_251_49, ex_251_50, ex_251_53, ex_251_54, ex_251_57, ex_251_60, ex_251_63, ex_251_64, ex_251_65, ex_251_66, ex_251_69, ex_251_70, ex_251_73, ex_251_76, ex_251_77, ex_251_78, ex_251_81, ex_251_84, ex_251_85, if_true, if_false, and_self, Option.toList_some, Option.toList_none, List.singleton_append, List.cons_append, List.nil_append, List.append_nil, nI_1, nt_e, Int32.le_refl]
  exact loop (2 ^ nE S.1) 0 (by omega)
end Sit
