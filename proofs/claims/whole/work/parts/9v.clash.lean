/-! A CLASH, of the class -/
section ClashC
variable {d n m i e L : Nat} {u : am_U} {f : Nat → Nat} {v : LV} {post : Option Value → am_M → Prop}
theorem addClash_ok {a b : Nat} (hB : BkC u L v) (ha : a < nF v) (hb : b < nF v) (hab : ¬ a = b) (h : ∀ u', Only (libP L) u u' → BkC u' L (addClashV v a b) → post none (am_emb u')) : Cl (d + 1) 22 [.ref L, .int (nI a), .int (nI b)] (am_emb u) post := by
  have hL := hB.sh
  have hB0 := hB
  obtain ⟨hC, hN, hbk, hbd, hLL⟩ := hB
  have hrows := LibC_rows hC
  have h12 := hbd.1
  have xa : decide (0 ≤ (nI a).toInt ∧ (nI a).toInt < (nF v : Int)) = true := by
    have : okI (nI a) (nF v) = true := by rw [okI_nI (by omega) (by omega)]; exact decide_eq_true ha
    exact this
  have xb : decide (0 ≤ (nI b).toInt ∧ (nI b).toInt < (nF v : Int)) = true := by
    have : okI (nI b) (nF v) = true := by rw [okI_nI (by omega) (by omega)]; exact decide_eq_true hb
    exact this
  have ca : AI u (L + 10) a = clashV v a := hC.2.2.2.1 a ha
  have cb : AI u (L + 10) b = clashV v b := hC.2.2.2.1 b hb
  have o1 : Only (libP L) u (sAI (sAI u (L + 10) (upd (AI u (L + 10)) a (clashV v a ||| bi b))) (L + 10) (upd (upd (AI u (L + 10)) a (clashV v a ||| bi b)) b (clashV v b ||| bi a))) := of_ai (of_ai (Only.rf _ _) (by unfold libP; omega)) (by unfold libP; omega)
  have hsame : ∀ r i, ¬ r = 1 → (addClashV v a b).2.1 r i = v.2.1 r i := fun r i hr => by
    show putR (putR v.2.1 1 a _) 1 b _ r i = _
    rw [putR_at, putR_at, if_neg (by omega), if_neg (by omega)]
  have hfin := h _ o1 (BkC_mk (P := libP L) hB0 o1 (by unfold libP; omega) hC.1 hC.2.1 (fun r i hr hD => by
    have hD : i < bndC v r := by
      revert hD
      refine r11 (P := fun r => i < bndC (addClashV v a b) r → i < bndC v r) id id id id id id id id id id id r hr
    have h0 := hrows r i hr hD
    rw [AI_sAI, AI_sAI]
    by_cases e : r = 1
    · have e2 : (addClashV v a b).2.1 r i = clashV (addClashV v a b) i := by rw [e]; rfl
      rw [if_pos (by omega), e2, clash_at hab, Nat.zero_add]
      by_cases e3 : i = b
      · rw [e3, upd_s, if_pos rfl]
      · rw [upd_n e3, if_neg e3]
        by_cases e4 : i = a
        · rw [e4, upd_s, if_pos rfl]
        · rw [upd_n e4, if_neg e4]
          rw [e, Nat.zero_add] at h0
          exact h0
    · rw [if_neg (by omega), if_neg (by omega), hsame r i e]
      exact h0) (hC.2.2.2.2.2.2.2.2.2.2.2.2.2.1.trans (by
        show orF (nP v) _ = orF (nP v) _
        refine orF_congr (fun i _ => ?_)
        show (if decide (v.2.1 2 i = 1) then _ else _) = (if decide ((addClashV v a b).2.1 2 i = 1) then _ else _)
        rw [hsame 2 i (by decide)])) hC.2.2.2.2.2.2.2.2.2.2.2.2.2.2 hN hbd)
  have hk : ∀ {d} {post} {x : Int32}, Cl d 60 [.ref (L + 1), .int x] (am_emb u) post ↔ post (some (.int (b2i (decide (0 ≤ x.toInt ∧ x.toInt < nF v))))) (am_emb u) := has_ok (sh_3_1 hL) hC.1.1 hC.2.1.1 h12 h12 (by decide)
  have cb2 : upd (AI u (L + 10)) a (clashV v a ||| bi b) b = clashV v b := by rw [upd_n (by omega)]; exact cb
  rw [op_22]
  simp (disch := first | exact am_nl_i _ | exact am_nl_r _ | exact am_nl_0 | (refine vi_nI ?_ ?_ <;> omega) | assumption | omega | exact b2i_01 _ | exact Or.inl rfl | exact Or.inr rfl | (unfold vi; decide)) only [ex_22_0, ex_22_1, ex_22_4, ex_22_5, ex_22_8, ex_22_11, ex_22_12, ex_22_15, ex_22_16, ex_22_19, ex_22_22, ex_22_23, ex_22_26, ex_22_27, ex_22_28, ex_22_29, ex_22_30, ex_22_31, ex_22_32, ex_22_33, ex_22_35, ex_22_38, ex_22_39, ex_22_40, ex_22_41, ex_22_42, ex_22_43, ex_22_44, ex_22_45, ex_22_46, if_true, if_false, and_self, Option.toList_some, Option.toList_none, List.singleton_append, List.cons_append, List.nil_append, List.append_nil, nI_1, nt_e, Int32.le_refl, hk, xa, xb, b2i_t, show ((1 : Int32) = (0 : Int32)) = False from eq_false (by decide), nI_clamp, ca, bi_e, Bool.true_eq_false, Bool.false_eq_true, ↓reduceIte]
  rw [ex_22_34]
  simp (disch := first | exact am_nl_i _ | exact am_nl_r _ | exact am_nl_0 | (refine vi_nI ?_ ?_ <;> omega) | assumption | omega | exact b2i_01 _ | exact Or.inl rfl | exact Or.inr rfl | (unfold vi; decide)) only [ex_22_0, ex_22_1, ex_22_4, ex_22_5, ex_22_8, ex_22_11, ex_22_12, ex_22_15, ex_22_16, ex_22_19, ex_22_22, ex_22_23, ex_22_26, ex_22_27, ex_22_28, ex_22_29, ex_22_30, ex_22_31, ex_22_32, ex_22_33, ex_22_34, ex_22_35, ex_22_38, ex_22_39, ex_22_40, ex_22_41, ex_22_42, ex_22_43, ex_22_44, ex_22_45, ex_22_46, if_true, if_false, and_self, Option.toList_some, Option.toList_none, List.singleton_append, List.cons_append, List.nil_append, List.append_nil, nI_1, nt_e, Int32.le_refl, nI_clamp, bi_e, AI_sAI, cb2, Bool.true_eq_false, Bool.false_eq_true, ↓reduceIte]
  exact hfin
  all_goals exact hL
theorem readClash_ok (h : RdC u n f m i) (hk : ¬ csort (tk n f i) = 3) (hB : BkC u L v) (hW : WF v) (hp : StmC u n f m L (clashR v (tk n f) i) post) : Cl (d + 4) 84 [.ref 6] (am_emb u) post := by
  obtain ⟨hb, hg⟩ := hp
  have hL := hB.sh
  have hLL := hB.2.2.2.2
  have h12 := hB.2.2.2.1.1
  have R1 := step_r h hk
  have o1 : RdO u (sFI u 6 1 (nI (i + 1))) := (RdO.rf u).fi (Or.inl rfl)
  have B1 := hB.rd o1
  rw [op_84]
  simp (disch := first | exact am_nl_i _ | exact am_nl_r _ | exact am_nl_0 | (refine vi_nI ?_ ?_ <;> omega) | assumption | omega | exact b2i_01 _ | exact Or.inl rfl | exact Or.inr rfl | (unfold vi; decide)) only [ex_84_0, ex_84_1, ex_84_4, ex_84_5, ex_84_6, ex_84_9, ex_84_15, ex_84_16, ex_84_17, ex_84_18, ex_84_21, ex_84_24, ex_84_27, ex_84_28, ex_84_29, ex_84_30, ex_84_33, ex_84_34, ex_84_35, ex_84_38, ex_84_39, ex_84_42, ex_84_45, ex_84_46, ex_84_47, ex_84_48, ex_84_49, ex_84_50, ex_84_51, ex_84_54, ex_84_55, ex_84_56, ex_84_59, ex_84_60, ex_84_63, ex_84_64, ex_84_67, ex_84_70, ex_84_71, ex_84_74, ex_84_75, ex_84_76, ex_84_79, if_true, if_false, and_self, Option.toList_some, Option.toList_none, List.singleton_append, List.cons_append, List.nil_append, List.append_nil, nI_1, nt_e, Int32.le_refl, step_ok h hk, Bool.true_eq_false, Bool.false_eq_true, ↓reduceIte]
  generalize sFI u 6 1 (nI (i + 1)) = u1 at *
  try simp (disch := first | exact am_nl_i _ | exact am_nl_r _ | exact am_nl_0 | (refine vi_nI ?_ ?_ <;> omega) | assumption | omega | exact b2i_01 _ | exact Or.inl rfl | exact Or.inr rfl | (unfold vi; decide)) only [ex_84_0, ex_84_1, ex_84_4, ex_84_5, ex_84_6, ex_84_9, ex_84_15, ex_84_16, ex_84_17, ex_84_18, ex_84_21, ex_84_24, ex_84_27, ex_84_28, ex_84_29, ex_84_30, ex_84_33, ex_84_34, ex_84_35, ex_84_38, ex_84_39, ex_84_42, ex_84_45, ex_84_46, ex_84_47, ex_84_48, ex_84_49, ex_84_50, ex_84_51, ex_84_54, ex_84_55, ex_84_56, ex_84_59, ex_84_60, ex_84_63, ex_84_64, ex_84_67, ex_84_70, ex_84_71, ex_84_74, ex_84_75, ex_84_76, ex_84_79, if_true, if_false, and_self, Option.toList_some, Option.toList_none, List.singleton_append, List.cons_append, List.nil_append, List.append_nil, nI_1, nt_e, Int32.le_refl, B1.2.2.1, va_rfs, Bool.true_eq_false, Bool.false_eq_true, ↓reduceIte]
  rw [ex_84_12]
  refine takeTold_ok (nm := nameV v 0) (cnt := nF v) R1 (sh_3_1 hL) B1.1.1.1 h12 B1.2.1.1 (fun e u2 z q F => ?_) (fun a u2 z ha q R2 => ?_)
  · have B2 := B1.rd q
    have hfin := hb e u2 (by simp only [clashR, lookR]; rw [show lookN (nameV v 0) (v.1 0) (tk n f (i + 1)) = _ from z]) (Only.rd (o1.tr q)) B2.most F
    simp (disch := first | exact am_nl_i _ | exact am_nl_r _ | exact am_nl_0 | (refine vi_nI ?_ ?_ <;> omega) | assumption | omega | exact b2i_01 _ | exact Or.inl rfl | exact Or.inr rfl | (unfold vi; decide)) only [ex_84_0, ex_84_1, ex_84_4, ex_84_5, ex_84_6, ex_84_9, ex_84_12, ex_84_15, ex_84_16, ex_84_17, ex_84_18, ex_84_21, ex_84_24, ex_84_27, ex_84_28, ex_84_29, ex_84_30, ex_84_33, ex_84_34, ex_84_35, ex_84_38, ex_84_39, ex_84_42, ex_84_45, ex_84_46, ex_84_47, ex_84_48, ex_84_49, ex_84_50, ex_84_51, ex_84_54, ex_84_55, ex_84_56, ex_84_59, ex_84_60, ex_84_63, ex_84_64, ex_84_67, ex_84_70, ex_84_71, ex_84_74, ex_84_75, ex_84_76, ex_84_79, if_true, if_false, and_self, Option.toList_some, Option.toList_none, List.singleton_append, List.cons_append, List.nil_append, List.append_nil, nI_1, nt_e, Int32.le_refl, B2.2.2.1, va_rfs, lookUpXi F (sh_3_1 hL) B2.1.1.1 h12, stepX F, endsX F, Bool.true_eq_false, Bool.false_eq_true, ↓reduceIte]
    exact hfin
    all_goals exact hL
  · have o2 := o1.tr q
    have B2 := hB.rd o2
    have z1 : lookR v 0 (tk n f (i + 1)) = .ok a := z
    simp (disch := first | exact am_nl_i _ | exact am_nl_r _ | exact am_nl_0 | (refine vi_nI ?_ ?_ <;> omega) | assumption | omega | exact b2i_01 _ | exact Or.inl rfl | exact Or.inr rfl | (unfold vi; decide)) only [ex_84_0, ex_84_1, ex_84_4, ex_84_5, ex_84_6, ex_84_9, ex_84_12, ex_84_15, ex_84_16, ex_84_17, ex_84_18, ex_84_21, ex_84_27, ex_84_28, ex_84_29, ex_84_30, ex_84_33, ex_84_34, ex_84_35, ex_84_38, ex_84_39, ex_84_42, ex_84_45, ex_84_46, ex_84_47, ex_84_48, ex_84_49, ex_84_50, ex_84_51, ex_84_54, ex_84_55, ex_84_56, ex_84_59, ex_84_60, ex_84_63, ex_84_64, ex_84_67, ex_84_70, ex_84_71, ex_84_74, ex_84_75, ex_84_76, ex_84_79, if_true, if_false, and_self, Option.toList_some, Option.toList_none, List.singleton_append, List.cons_append, List.nil_append, List.append_nil, nI_1, nt_e, Int32.le_refl, B2.2.2.1, va_rfs, Bool.true_eq_false, Bool.false_eq_true, ↓reduceIte]
    rw [ex_84_24]
    refine lookUp_ok (nm := nameV v 0) (cnt := nF v) R2 (sh_3_1 hL) B2.1.1.1 h12 B2.2.1.1 (fun e u3 z2 q3 F => ?_) (fun b z2 hb2 => ?_)
    · have z2 : lookR v 0 (tk n f (i + 2)) = .error e := z2
      have hfin := hb e u3 (by simp only [clashR, z1, z2]) (Only.rd (o2.tr q3)) (hB.rd (o2.tr q3)).most F
      simp (disch := first | exact am_nl_i _ | exact am_nl_r _ | exact am_nl_0 | (refine vi_nI ?_ ?_ <;> omega) | assumption | omega | exact b2i_01 _ | exact Or.inl rfl | exact Or.inr rfl | (unfold vi; decide)) only [ex_84_0, ex_84_1, ex_84_4, ex_84_5, ex_84_6, ex_84_9, ex_84_12, ex_84_15, ex_84_16, ex_84_17, ex_84_18, ex_84_21, ex_84_24, ex_84_27, ex_84_28, ex_84_29, ex_84_30, ex_84_33, ex_84_34, ex_84_35, ex_84_38, ex_84_39, ex_84_42, ex_84_45, ex_84_46, ex_84_47, ex_84_48, ex_84_49, ex_84_50, ex_84_51, ex_84_54, ex_84_55, ex_84_56, ex_84_59, ex_84_60, ex_84_63, ex_84_64, ex_84_67, ex_84_70, ex_84_71, ex_84_74, ex_84_75, ex_84_76, ex_84_79, if_true, if_false, and_self, Option.toList_some, Option.toList_none, List.singleton_append, List.cons_append, List.nil_append, List.append_nil, nI_1, nt_e, Int32.le_refl, stepX F, endsX F, Bool.true_eq_false, Bool.false_eq_true, ↓reduceIte]
      exact hfin
    · have z2' : lookR v 0 (tk n f (i + 2)) = .ok b := z2
      have hne := nm_3 (lookN_nm z2)
      have zb : ¬ nI b = -1 := fun y => by have := (i_eqm (n := b) (by omega)).mp y; exact this
      have cb : AI u2 (L + 10) b = clashV v b := B2.1.2.2.2.1 b hb2
      have hsy : bt (clashV v b) a = bt (clashV v a) b := (hW.2.2.2.2.2.2.1 b hb2).2.2 a ha
      by_cases qq : a = b ∨ bt (clashV v a) b = true
      · have F := fail_f (k := 3) R2 (by decide) (by decide)
        have hfin := hb _ _ (by simp only [clashR, z1, z2', if_pos qq]) (Only.rd (o2.fi (Or.inr rfl))) (hB.rd (o2.fi (Or.inr rfl))).most F
        by_cases qe : a = b
        · have qe2 : nI a = nI b := by rw [qe]
          simp (disch := first | exact am_nl_i _ | exact am_nl_r _ | exact am_nl_0 | (refine vi_nI ?_ ?_ <;> omega) | assumption | omega | exact b2i_01 _ | exact Or.inl rfl | exact Or.inr rfl | (unfold vi; decide)) only [ex_84_0, ex_84_1, ex_84_4, ex_84_5, ex_84_6, ex_84_9, ex_84_12, ex_84_15, ex_84_16, ex_84_17, ex_84_18, ex_84_21, ex_84_24, ex_84_27, ex_84_28, ex_84_29, ex_84_30, ex_84_33, ex_84_34, ex_84_35, ex_84_38, ex_84_39, ex_84_42, ex_84_45, ex_84_46, ex_84_47, ex_84_48, ex_84_49, ex_84_50, ex_84_51, ex_84_54, ex_84_55, ex_84_56, ex_84_59, ex_84_60, ex_84_63, ex_84_64, ex_84_67, ex_84_70, ex_84_71, ex_84_74, ex_84_75, ex_84_76, ex_84_79, if_true, if_false, and_self, Option.toList_some, Option.toList_none, List.singleton_append, List.cons_append, List.nil_append, List.append_nil, nI_1, nt_e, Int32.le_refl, zb, qe2, show (3 : Int32) = nI 3 from rfl, fail_ok R2, stepX F, endsX F, Bool.true_eq_false, Bool.false_eq_true, ↓reduceIte]
          exact hfin
        · have qe2 : ¬ nI a = nI b := fun y => qe ((nI_eqI (by omega) (by omega)).mp y)
          have qb : bt (clashV v b) a = true := by rw [hsy]; exact qq.resolve_left qe
          simp (disch := first | exact am_nl_i _ | exact am_nl_r _ | exact am_nl_0 | (refine vi_nI ?_ ?_ <;> omega) | assumption | omega | exact b2i_01 _ | exact Or.inl rfl | exact Or.inr rfl | (unfold vi; decide)) only [ex_84_0, ex_84_1, ex_84_4, ex_84_5, ex_84_6, ex_84_9, ex_84_12, ex_84_15, ex_84_16, ex_84_17, ex_84_18, ex_84_21, ex_84_24, ex_84_27, ex_84_28, ex_84_29, ex_84_30, ex_84_33, ex_84_34, ex_84_35, ex_84_38, ex_84_39, ex_84_42, ex_84_45, ex_84_46, ex_84_47, ex_84_48, ex_84_49, ex_84_50, ex_84_51, ex_84_54, ex_84_55, ex_84_56, ex_84_59, ex_84_60, ex_84_63, ex_84_64, ex_84_67, ex_84_70, ex_84_71, ex_84_74, ex_84_75, ex_84_76, ex_84_79, if_true, if_false, and_self, Option.toList_some, Option.toList_none, List.singleton_append, List.cons_append, List.nil_append, List.append_nil, nI_1, nt_e, Int32.le_refl, zb, qe2, B2.2.2.1, va_rfs, nI_clamp, cb, bit_e, qb, b2i_t, show ((1 : Int32) = (0 : Int32)) = False from eq_false (by decide), show (3 : Int32) = nI 3 from rfl, fail_ok R2, stepX F, endsX F, Bool.true_eq_false, Bool.false_eq_true, ↓reduceIte]
          exact hfin
      · have qe : ¬ a = b := fun y => qq (Or.inl y)
        have qe2 : ¬ nI a = nI b := fun y => qe ((nI_eqI (by omega) (by omega)).mp y)
        have qb : bt (clashV v b) a = false := by rw [hsy]; cases y : bt (clashV v a) b; rfl; exact absurd (Or.inr y) qq
        have R3 := step_r R2 hne
        have o3 : RdO u (sFI u2 6 1 (nI (i + 1 + 1 + 1))) := o2.fi (Or.inl rfl)
        simp (disch := first | exact am_nl_i _ | exact am_nl_r _ | exact am_nl_0 | (refine vi_nI ?_ ?_ <;> omega) | assumption | omega | exact b2i_01 _ | exact Or.inl rfl | exact Or.inr rfl | (unfold vi; decide)) only [ex_84_0, ex_84_1, ex_84_4, ex_84_5, ex_84_6, ex_84_9, ex_84_12, ex_84_15, ex_84_16, ex_84_17, ex_84_18, ex_84_21, ex_84_24, ex_84_27, ex_84_28, ex_84_29, ex_84_30, ex_84_33, ex_84_34, ex_84_35, ex_84_38, ex_84_39, ex_84_42, ex_84_45, ex_84_46, ex_84_47, ex_84_48, ex_84_49, ex_84_50, ex_84_51, ex_84_54, ex_84_55, ex_84_56, ex_84_59, ex_84_60, ex_84_63, ex_84_67, ex_84_70, ex_84_71, ex_84_74, ex_84_75, ex_84_76, ex_84_79, if_true, if_false, and_self, Option.toList_some, Option.toList_none, List.singleton_append, List.cons_append, List.nil_append, List.append_nil, nI_1, nt_e, Int32.le_refl, zb, qe2, B2.2.2.1, va_rfs, nI_clamp, cb, bit_e, qb, b2i_f, step_ok R2 hne, Bool.true_eq_false, Bool.false_eq_true, ↓reduceIte]
        generalize sFI u2 6 1 (nI (i + 1 + 1 + 1)) = u3 at *
        rw [ex_84_64]
        refine endsW_ok R3 (fun e u4 z4 q4 F => ?_) (fun j4 u4 z4 q4 R4 => ?_)
        · have z4 : wordR 59 (tk n f) (i + 3) = .error e := z4
          have hfin := hb e u4 (by simp only [clashR, z1, z2', if_neg qq, z4]) (Only.rd (o3.tr q4)) (hB.rd (o3.tr q4)).most F
          simp (disch := first | exact am_nl_i _ | exact am_nl_r _ | exact am_nl_0 | (refine vi_nI ?_ ?_ <;> omega) | assumption | omega | exact b2i_01 _ | exact Or.inl rfl | exact Or.inr rfl | (unfold vi; decide)) only [ex_84_0, ex_84_1, ex_84_4, ex_84_5, ex_84_6, ex_84_9, ex_84_12, ex_84_15, ex_84_16, ex_84_17, ex_84_18, ex_84_21, ex_84_24, ex_84_27, ex_84_28, ex_84_29, ex_84_30, ex_84_33, ex_84_34, ex_84_35, ex_84_38, ex_84_39, ex_84_42, ex_84_45, ex_84_46, ex_84_47, ex_84_48, ex_84_49, ex_84_50, ex_84_51, ex_84_54, ex_84_55, ex_84_56, ex_84_59, ex_84_60, ex_84_63, ex_84_64, ex_84_67, ex_84_70, ex_84_71, ex_84_74, ex_84_75, ex_84_76, ex_84_79, if_true, if_false, and_self, Option.toList_some, Option.toList_none, List.singleton_append, List.cons_append, List.nil_append, List.append_nil, nI_1, nt_e, Int32.le_refl, Bool.true_eq_false, Bool.false_eq_true, ↓reduceIte]
          exact hfin
        · have z4 : wordR 59 (tk n f) (i + 3) = .ok j4 := z4
          have o4 := o3.tr q4
          have B4 := hB.rd o4
          simp (disch := first | exact am_nl_i _ | exact am_nl_r _ | exact am_nl_0 | (refine vi_nI ?_ ?_ <;> omega) | assumption | omega | exact b2i_01 _ | exact Or.inl rfl | exact Or.inr rfl | (unfold vi; decide)) only [ex_84_0, ex_84_1, ex_84_4, ex_84_5, ex_84_6, ex_84_9, ex_84_12, ex_84_15, ex_84_16, ex_84_17, ex_84_18, ex_84_21, ex_84_24, ex_84_27, ex_84_28, ex_84_29, ex_84_30, ex_84_33, ex_84_34, ex_84_35, ex_84_38, ex_84_39, ex_84_42, ex_84_45, ex_84_46, ex_84_47, ex_84_48, ex_84_49, ex_84_50, ex_84_51, ex_84_54, ex_84_55, ex_84_56, ex_84_59, ex_84_60, ex_84_63, ex_84_64, ex_84_67, ex_84_70, ex_84_71, ex_84_74, ex_84_75, ex_84_79, if_true, if_false, and_self, Option.toList_some, Option.toList_none, List.singleton_append, List.cons_append, List.nil_append, List.append_nil, nI_1, nt_e, Int32.le_refl, B4.2.2.1, va_rfs, show ((1 : Int32) = (0 : Int32)) = False from eq_false (by decide), Bool.true_eq_false, Bool.false_eq_true, ↓reduceIte]
          rw [ex_84_76]
          refine addClash_ok B4 ha hb2 qe (fun uy oy By => ?_)
          have ky := lib_6 hLL oy
          have hfin := hg _ j4 uy (by simp only [clashR, z1, z2', if_neg qq, z4]) ((Only.rd o4).tr (Only.lb oy)) (fun k a b => by rw [ky.1]; exact o4.2.1 k a b) (by rw [ky.2]; exact o4.2.2) By (R4.lib hLL oy)
          simp (disch := first | exact am_nl_i _ | exact am_nl_r _ | exact am_nl_0 | (refine vi_nI ?_ ?_ <;> omega) | assumption | omega | exact b2i_01 _ | exact Or.inl rfl | exact Or.inr rfl | (unfold vi; decide)) only [ex_84_0, ex_84_1, ex_84_4, ex_84_5, ex_84_6, ex_84_9, ex_84_12, ex_84_15, ex_84_16, ex_84_17, ex_84_18, ex_84_21, ex_84_24, ex_84_27, ex_84_28, ex_84_29, ex_84_30, ex_84_33, ex_84_34, ex_84_35, ex_84_38, ex_84_39, ex_84_42, ex_84_45, ex_84_46, ex_84_47, ex_84_48, ex_84_49, ex_84_50, ex_84_51, ex_84_54, ex_84_55, ex_84_56, ex_84_59, ex_84_60, ex_84_63, ex_84_64, ex_84_67, ex_84_70, ex_84_71, ex_84_74, ex_84_75, ex_84_76, ex_84_79, if_true, if_false, and_self, Option.toList_some, Option.toList_none, List.singleton_append, List.cons_append, List.nil_append, List.append_nil, nI_1, nt_e, Int32.le_refl, Bool.true_eq_false, Bool.false_eq_true, ↓reduceIte]
          exact hfin
          all_goals exact hL
    all_goals exact hL
  all_goals exact hL
end ClashC
