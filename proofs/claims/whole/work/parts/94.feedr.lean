/-! FEED, of the reference -/
def tqP (a : Nat) : Prop := a = 203 ∨ a = 204
section FeedR
variable {d : Nat} {u : am_U} {S : ST} {post : Option Value → am_M → Prop}
theorem R_feed {a b c : Int64} (hI : InvR u S) (hS : WS S) (h : ∀ u', Only inR u u' → InvR u' (feedS S a b c).1 → post (some (.int (feedS S a b c).2)) (am_emb u')) : Cl d 164 [.ref 203, .long a, .long b, .long c] (am_emb u) post := by
  have hI1 : InvR (th u 0) S := th_inv hI
  have hWT : WTP S.2.2.2.2 := hS.2.2.2.2
  have hT : TapeR (th u 0) S.2.2.2.2 := hI1.2.2.2.2.2
  have o0 : Only inR u (th u 0) := Only.sFI (by unfold inR; omega)
  rw [op_164]
  have one : ∀ (T : TP) (x : Int32) (k : Nat) (w : Int64) (u' : am_U), WTP T → TapeR u' T → Only tqP (th u 0) u' → FI u' 203 55 = FI (th u 0) 203 55 → (∀ u2, Only tqP (th u 0) u2 → FI u2 203 55 = FI (th u 0) 203 55 → TapeR u2 (putT T x) → Ex d 164 114 [some (.ref 203), some (.long a), none, some (.long b), none, some (.long c), none, some (.int (nI k)), some (.long w), none, some (.int x)] [] (am_emb u2) post) → Ex d 164 62 [some (.ref 203), some (.long a), none, some (.long b), none, some (.long c), none, some (.int (nI k)), some (.long w), none, some (.int x)] [] (am_emb u') post := by
    intro T x k w u' hW ht ho hf hnext
    obtain ⟨t1, t2⟩ := ht
    have w1 := hW.1
    have skip : (okS x && decide (T.1 < 1000)) = false → Ex d 164 114 [some (.ref 203), some (.long a), none, some (.long b), none, some (.long c), none, some (.int (nI k)), some (.long w), none, some (.int x)] [] (am_emb u') post := by
      intro z
      refine hnext u' ho hf ?_
      unfold putT
      rw [z]
      exact ⟨t1, t2⟩
    by_cases q2 : T.1 < 1000
    · have hn : ¬ 1000 ≤ T.1 := by omega
      have take : okS x = true → Ex d 164 93 [some (.ref 203), some (.long a), none, some (.long b), none, some (.long c), none, some (.int (nI k)), some (.long w), none, some (.int x)] [] (am_emb u') post := by
        intro q
        simp (disch := first | exact am_nl_i _ | exact am_nl_r _ | exact am_nl_0 | (refine vi_nI ?_ ?_ <;> omega) | assumption | omega | exact b2i_01 _ | exact Or.inl rfl | exact Or.inr rfl | (unfold vi; decide)) only [ex_164_0, ex_164_1, ex_164_2, ex_164_5, ex_164_6, ex_164_8, ex_164_10, ex_164_12, ex_164_15, ex_164_17, ex_164_19, ex_164_22, ex_164_23, ex_164_26, ex_164_28, ex_164_30, ex_164_33, ex_164_34, ex_164_37, ex_164_39, ex_164_41, ex_164_43, ex_164_45, ex_164_47, ex_164_49, ex_164_51, ex_164_52, ex_164_53, ex_164_54, ex_164_55, ex_164_58, ex_164_59, ex_164_60, ex_164_62, ex_164_63, ex_164_66, ex_164_69, ex_164_72, ex_164_74, ex_164_76, ex_164_79, ex_164_81, ex_164_83, ex_164_86, ex_164_88, ex_164_90, ex_164_93, ex_164_94, ex_164_97, ex_164_98, ex_164_101, ex_164_103, ex_164_104, ex_164_105, ex_164_106, ex_164_109, ex_164_110, ex_164_111, ex_164_117, ex_164_120, ex_164_121, ex_164_124, if_true, if_false, and_self, Option.toList_some, Option.toList_none, List.singleton_append, List.cons_append, List.nil_append, List.append_nil, nI_1, nt_e, Int32.le_refl, t1, nI_clamp, Bool.true_eq_false, Bool.false_eq_true, ↓reduceIte]
        refine hnext _ (of_fi (of_ai ho (Or.inr rfl)) (Or.inl rfl)) ?_ ?_
        · rw [FI_sFI, if_neg (by omega)]
          exact hf
        unfold putT
        rw [q, decide_eq_true q2]
        refine ⟨?_, fun j hj => ?_⟩
        · rw [FI_sFI, if_pos ⟨rfl, rfl⟩]
          first | rfl | (show FI u' 203 1 + 1 = nI (T.1 + 1); rw [t1, nI_1])
        · have hj : j < T.1 + 1 := hj
          rw [AI_sFI, AI_sAI, if_pos rfl]
          show upd (AI u' 204) T.1 x j = (if j = T.1 then x else T.2 j)
          by_cases e : j = T.1
          · rw [if_pos e, e, upd_s]
          · rw [if_neg e, upd_n e]; exact t2 j (by omega)
      by_cases x10 : x = 10
      · simp (disch := first | exact am_nl_i _ | exact am_nl_r _ | exact am_nl_0 | (refine vi_nI ?_ ?_ <;> omega) | assumption | omega | exact b2i_01 _ | exact Or.inl rfl | exact Or.inr rfl | (unfold vi; decide)) only [ex_164_0, ex_164_1, ex_164_2, ex_164_5, ex_164_6, ex_164_8, ex_164_10, ex_164_12, ex_164_15, ex_164_17, ex_164_19, ex_164_22, ex_164_23, ex_164_26, ex_164_28, ex_164_30, ex_164_33, ex_164_34, ex_164_37, ex_164_39, ex_164_41, ex_164_43, ex_164_45, ex_164_47, ex_164_49, ex_164_51, ex_164_52, ex_164_53, ex_164_54, ex_164_55, ex_164_58, ex_164_59, ex_164_60, ex_164_62, ex_164_63, ex_164_66, ex_164_69, ex_164_72, ex_164_74, ex_164_76, ex_164_79, ex_164_81, ex_164_83, ex_164_86, ex_164_88, ex_164_90, ex_164_94, ex_164_97, ex_164_98, ex_164_101, ex_164_103, ex_164_104, ex_164_105, ex_164_106, ex_164_109, ex_164_110, ex_164_111, ex_164_117, ex_164_120, ex_164_121, ex_164_124, if_true, if_false, and_self, Option.toList_some, Option.toList_none, List.singleton_append, List.cons_append, List.nil_append, List.append_nil, nI_1, nt_e, Int32.le_refl, t1, lq1000, nI_leI, hn, eq_true x10, Bool.true_eq_false, Bool.false_eq_true, ↓reduceIte]
        exact take (by unfold okS; rw [decide_eq_true x10]; rfl)
      · by_cases x32 : x < 32
        · simp (disch := first | exact am_nl_i _ | exact am_nl_r _ | exact am_nl_0 | (refine vi_nI ?_ ?_ <;> omega) | assumption | omega | exact b2i_01 _ | exact Or.inl rfl | exact Or.inr rfl | (unfold vi; decide)) only [ex_164_0, ex_164_1, ex_164_2, ex_164_5, ex_164_6, ex_164_8, ex_164_10, ex_164_12, ex_164_15, ex_164_17, ex_164_19, ex_164_22, ex_164_23, ex_164_26, ex_164_28, ex_164_30, ex_164_33, ex_164_34, ex_164_37, ex_164_39, ex_164_41, ex_164_43, ex_164_45, ex_164_47, ex_164_49, ex_164_51, ex_164_52, ex_164_53, ex_164_54, ex_164_55, ex_164_58, ex_164_59, ex_164_60, ex_164_62, ex_164_63, ex_164_66, ex_164_69, ex_164_72, ex_164_74, ex_164_76, ex_164_79, ex_164_81, ex_164_83, ex_164_86, ex_164_88, ex_164_90, ex_164_94, ex_164_97, ex_164_98, ex_164_101, ex_164_103, ex_164_104, ex_164_105, ex_164_106, ex_164_109, ex_164_110, ex_164_111, ex_164_117, ex_164_120, ex_164_121, ex_164_124, if_true, if_false, and_self, Option.toList_some, Option.toList_none, List.singleton_append, List.cons_append, List.nil_append, List.append_nil, nI_1, nt_e, Int32.le_refl, t1, lq1000, nI_leI, hn, x10, x32, Bool.true_eq_false, Bool.false_eq_true, ↓reduceIte]
          exact skip (by unfold okS; rw [decide_eq_false x10, decide_eq_false (Int32.not_le.mpr x32)]; rfl)
        · by_cases x126 : 126 < x
          · simp (disch := first | exact am_nl_i _ | exact am_nl_r _ | exact am_nl_0 | (refine vi_nI ?_ ?_ <;> omega) | assumption | omega | exact b2i_01 _ | exact Or.inl rfl | exact Or.inr rfl | (unfold vi; decide)) only [ex_164_0, ex_164_1, ex_164_2, ex_164_5, ex_164_6, ex_164_8, ex_164_10, ex_164_12, ex_164_15, ex_164_17, ex_164_19, ex_164_22, ex_164_23, ex_164_26, ex_164_28, ex_164_30, ex_164_33, ex_164_34, ex_164_37, ex_164_39, ex_164_41, ex_164_43, ex_164_45, ex_164_47, ex_164_49, ex_164_51, ex_164_52, ex_164_53, ex_164_54, ex_164_55, ex_164_58, ex_164_59, ex_164_60, ex_164_62, ex_164_63, ex_164_66, ex_164_69, ex_164_72, ex_164_74, ex_164_76, ex_164_79, ex_164_81, ex_164_83, ex_164_86, ex_164_88, ex_164_90, ex_164_94, ex_164_97, ex_164_98, ex_164_101, ex_164_103, ex_164_104, ex_164_105, ex_164_106, ex_164_109, ex_164_110, ex_164_111, ex_164_117, ex_164_120, ex_164_121, ex_164_124, if_true, if_false, and_self, Option.toList_some, Option.toList_none, List.singleton_append, List.cons_append, List.nil_append, List.append_nil, nI_1, nt_e, Int32.le_refl, t1, lq1000, nI_leI, hn, x10, x32, x126, Bool.true_eq_false, Bool.false_eq_true, ↓reduceIte]
            exact skip (by unfold okS; rw [decide_eq_false x10, decide_eq_false (Int32.not_le.mpr x126)]; simp)
          · have x126' : x ≤ 126 := Int32.not_lt.mp x126
            simp (disch := first | exact am_nl_i _ | exact am_nl_r _ | exact am_nl_0 | (refine vi_nI ?_ ?_ <;> omega) | assumption | omega | exact b2i_01 _ | exact Or.inl rfl | exact Or.inr rfl | (unfold vi; decide)) only [ex_164_0, ex_164_1, ex_164_2, ex_164_5, ex_164_6, ex_164_8, ex_164_10, ex_164_12, ex_164_15, ex_164_17, ex_164_19, ex_164_22, ex_164_23, ex_164_26, ex_164_28, ex_164_30, ex_164_33, ex_164_34, ex_164_37, ex_164_39, ex_164_41, ex_164_43, ex_164_45, ex_164_47, ex_164_49, ex_164_51, ex_164_52, ex_164_53, ex_164_54, ex_164_55, ex_164_58, ex_164_59, ex_164_60, ex_164_62, ex_164_63, ex_164_66, ex_164_69, ex_164_72, ex_164_74, ex_164_76, ex_164_79, ex_164_81, ex_164_83, ex_164_86, ex_164_88, ex_164_90, ex_164_94, ex_164_97, ex_164_98, ex_164_101, ex_164_103, ex_164_104, ex_164_105, ex_164_106, ex_164_109, ex_164_110, ex_164_111, ex_164_117, ex_164_120, ex_164_121, ex_164_124, if_true, if_false, and_self, Option.toList_some, Option.toList_none, List.singleton_append, List.cons_append, List.nil_append, List.append_nil, nI_1, nt_e, Int32.le_refl, t1, lq1000, nI_leI, hn, x10, x32, x126, Bool.true_eq_false, Bool.false_eq_true, ↓reduceIte]
            exact take (by unfold okS; rw [decide_eq_true (Int32.not_lt.mp x32), decide_eq_true x126']; simp)
    · have hn : 1000 ≤ T.1 := by omega
      simp (disch := first | exact am_nl_i _ | exact am_nl_r _ | exact am_nl_0 | (refine vi_nI ?_ ?_ <;> omega) | assumption | omega | exact b2i_01 _ | exact Or.inl rfl | exact Or.inr rfl | (unfold vi; decide)) only [ex_164_0, ex_164_1, ex_164_2, ex_164_5, ex_164_6, ex_164_8, ex_164_10, ex_164_12, ex_164_15, ex_164_17, ex_164_19, ex_164_22, ex_164_23, ex_164_26, ex_164_28, ex_164_30, ex_164_33, ex_164_34, ex_164_37, ex_164_39, ex_164_41, ex_164_43, ex_164_45, ex_164_47, ex_164_49, ex_164_51, ex_164_52, ex_164_53, ex_164_54, ex_164_55, ex_164_58, ex_164_59, ex_164_60, ex_164_62, ex_164_63, ex_164_66, ex_164_69, ex_164_72, ex_164_74, ex_164_76, ex_164_79, ex_164_81, ex_164_83, ex_164_86, ex_164_88, ex_164_90, ex_164_94, ex_164_97, ex_164_98, ex_164_101, ex_164_103, ex_164_104, ex_164_105, ex_164_106, ex_164_109, ex_164_110, ex_164_111, ex_164_117, ex_164_120, ex_164_121, ex_164_124, if_true, if_false, and_self, Option.toList_some, Option.toList_none, List.singleton_append, List.cons_append, List.nil_append, List.append_nil, nI_1, nt_e, Int32.le_refl, t1, lq1000, nI_leI, hn, Bool.true_eq_false, Bool.false_eq_true, ↓reduceIte]
      exact skip (by rw [decide_eq_false q2, Bool.and_false])
  have seg16 : ∀ (kz i : Nat) (j8 j9 j10 : Option Value), am_nl j9 = true → i + kz = 8 → ∀ u', Only tqP (th u 0) u' → FI u' 203 55 = FI (th u 0) 203 55 → TapeR u' (feedT (feedT (feedT S.2.2.2.2 a 8) b 8) c i) → Ex d 164 8 [some (.ref 203), some (.long a), none, some (.long b), none, some (.long c), none, some (.int (nI (16 + i))), j8, j9, j10] [] (am_emb u') post := by
    intro kz
    induction kz with
    | zero =>
      intro i j8 j9 j10 h9 hi u' ho hf ht
      obtain rfl : i = 8 := by omega
      have ht : TapeR u' (feedT (feedT (feedT S.2.2.2.2 a 8) b 8) c 8) := ht
      rw [ex_164_8]
      simp (disch := first | exact am_nl_i _ | exact am_nl_r _ | exact am_nl_0 | (refine vi_nI ?_ ?_ <;> omega) | assumption | omega | exact b2i_01 _ | exact Or.inl rfl | exact Or.inr rfl | (unfold vi; decide)) only [ex_164_0, ex_164_1, ex_164_2, ex_164_5, ex_164_6, ex_164_10, ex_164_12, ex_164_17, ex_164_19, ex_164_22, ex_164_23, ex_164_26, ex_164_28, ex_164_30, ex_164_33, ex_164_34, ex_164_37, ex_164_39, ex_164_41, ex_164_43, ex_164_45, ex_164_47, ex_164_49, ex_164_51, ex_164_52, ex_164_53, ex_164_54, ex_164_55, ex_164_58, ex_164_59, ex_164_60, ex_164_62, ex_164_63, ex_164_66, ex_164_69, ex_164_72, ex_164_74, ex_164_76, ex_164_79, ex_164_81, ex_164_83, ex_164_86, ex_164_88, ex_164_90, ex_164_93, ex_164_94, ex_164_97, ex_164_98, ex_164_101, ex_164_103, ex_164_104, ex_164_105, ex_164_106, ex_164_109, ex_164_110, ex_164_111, ex_164_114, ex_164_117, ex_164_120, ex_164_121, ex_164_124, if_true, if_false, and_self, Option.toList_some, Option.toList_none, List.singleton_append, List.cons_append, List.nil_append, List.append_nil, nI_1, nt_e, Int32.le_refl, show (24 : Int32) = nI 24 from rfl, nI_leI, Nat.le_refl, ht.1, Bool.true_eq_false, Bool.false_eq_true, ↓reduceIte]
      have hI2 := hI1
      obtain ⟨g1, g2, g3, g4, g5, g6⟩ := hI1
      have n : ∀ a, 205 ≤ a → ¬ tqP a := fun a h1 q => by unfold tqP at q; omega
      have e := fun a (h1 : 205 ≤ a) => (ho a (n a h1)).2.2.2.1
      refine h u' (o0.tr (ho.wk (fun a q => by unfold tqP at q; unfold inR; omega))) ⟨g1.keep ho (fun a q1 q2 => n a (by omega)), g2.keep ho (fun a q1 q2 => n a (by omega)), ⟨g3.1.keep ho (n _ (by omega)), ?_, ?_⟩, ?_, fun k hk => ?_, ht⟩
      · unfold LinesR
        rw [e 236 (by decide), e 237 (by decide)]
        exact g3.2.1
      · unfold ToldR
        rw [e 238 (by decide), e 239 (by decide), e 240 (by decide)]
        exact g3.2.2
      · unfold PastR
        rw [hf, e 244 (by decide)]
        exact g4
      · unfold LinesR ToldR
        rw [e 236 (by decide), e 237 (by decide), e 238 (by decide), e 239 (by decide), e 240 (by decide), e 243 (by decide), e 245 (by decide)]
        exact g5 k hk
    | succ kz ih =>
      intro i j8 j9 j10 h9 hi u' ho hf ht
      have hnle : ¬ 24 ≤ 16 + i := by omega
      have z1 : 8 ≤ 16 + i := by omega
      have z2 : 16 ≤ 16 + i := by omega
      have hk := shk_dec (16 + i) (by omega)
      rw [show (16 + i) % 8 = i by omega] at hk
      have hb : ((c).toUInt64 >>> ((shI i).toInt64.toUInt64 &&& Int64.toUInt64 63)).toInt64 &&& 255 = ((c).toUInt64 >>> ((shI i).toInt64.toUInt64 &&& Int64.toUInt64 63)).toInt64 &&& 255 := rfl
      have ih := fun j8 j9 j10 g9 => ih (i + 1) j8 j9 j10 g9 (by omega)
      rw [ex_164_8]
      have hgo := one (feedT (feedT (feedT S.2.2.2.2 a 8) b 8) c i) (byteV c i) (16 + i) c u' (WTP_feed (WTP_feed (WTP_feed hWT 8) 8) i) ht ho hf (fun u2 o2 f2 t2 => by
        simp (disch := first | exact am_nl_i _ | exact am_nl_r _ | exact am_nl_0 | assumption | omega | (refine vi_nI ?_ ?_ <;> omega) | exact b2i_01 _ | exact Or.inl rfl | exact Or.inr rfl | (unfold vi; decide)) only [ex_164_0, ex_164_1, ex_164_2, ex_164_5, ex_164_6, ex_164_10, ex_164_12, ex_164_15, ex_164_17, ex_164_19, ex_164_22, ex_164_23, ex_164_26, ex_164_28, ex_164_30, ex_164_33, ex_164_34, ex_164_37, ex_164_39, ex_164_41, ex_164_43, ex_164_45, ex_164_47, ex_164_49, ex_164_51, ex_164_52, ex_164_53, ex_164_54, ex_164_55, ex_164_58, ex_164_59, ex_164_60, ex_164_62, ex_164_63, ex_164_66, ex_164_69, ex_164_72, ex_164_74, ex_164_76, ex_164_79, ex_164_81, ex_164_83, ex_164_86, ex_164_88, ex_164_90, ex_164_93, ex_164_94, ex_164_97, ex_164_98, ex_164_101, ex_164_103, ex_164_104, ex_164_105, ex_164_106, ex_164_109, ex_164_110, ex_164_111, ex_164_114, ex_164_117, ex_164_120, ex_164_121, ex_164_124, if_true, if_false, and_self, Option.toList_some, Option.toList_none, List.singleton_append, List.cons_append, List.nil_append, List.append_nil, nI_1, nt_e, Int32.le_refl, Nat.add_assoc]
        exact ih _ _ _ rfl u2 o2 f2 t2)
      simp (disch := first | exact am_nl_i _ | exact am_nl_r _ | exact am_nl_0 | (refine vi_nI ?_ ?_ <;> omega) | assumption | omega | exact b2i_01 _ | exact Or.inl rfl | exact Or.inr rfl | (unfold vi; decide)) only [ex_164_0, ex_164_1, ex_164_2, ex_164_5, ex_164_6, ex_164_10, ex_164_12, ex_164_15, ex_164_17, ex_164_19, ex_164_22, ex_164_23, ex_164_26, ex_164_28, ex_164_30, ex_164_33, ex_164_34, ex_164_37, ex_164_39, ex_164_43, ex_164_45, ex_164_47, ex_164_49, ex_164_51, ex_164_52, ex_164_53, ex_164_54, ex_164_55, ex_164_58, ex_164_59, ex_164_60, ex_164_63, ex_164_66, ex_164_69, ex_164_72, ex_164_74, ex_164_76, ex_164_79, ex_164_81, ex_164_83, ex_164_86, ex_164_88, ex_164_90, ex_164_93, ex_164_94, ex_164_97, ex_164_98, ex_164_101, ex_164_103, ex_164_104, ex_164_105, ex_164_106, ex_164_109, ex_164_110, ex_164_111, ex_164_114, ex_164_117, ex_164_121, ex_164_124, if_true, if_false, and_self, Option.toList_some, Option.toList_none, List.singleton_append, List.cons_append, List.nil_append, List.append_nil, nI_1, nt_e, Int32.le_refl, show (24 : Int32) = nI 24 from rfl, show (8 : Int32) = nI 8 from rfl, show (16 : Int32) = nI 16 from rfl, nI_leI, hnle, z1, z2, Bool.true_eq_false, Bool.false_eq_true, ↓reduceIte]
      simp (disch := first | exact am_nl_i _ | exact am_nl_r _ | exact am_nl_0 | (refine vi_nI ?_ ?_ <;> omega) | assumption | omega | exact b2i_01 _ | exact Or.inl rfl | exact Or.inr rfl | (unfold vi; decide)) only [ex_164_0, ex_164_1, ex_164_2, ex_164_5, ex_164_6, ex_164_10, ex_164_12, ex_164_15, ex_164_17, ex_164_19, ex_164_22, ex_164_23, ex_164_26, ex_164_28, ex_164_30, ex_164_33, ex_164_34, ex_164_37, ex_164_39, ex_164_41, ex_164_43, ex_164_45, ex_164_47, ex_164_49, ex_164_51, ex_164_52, ex_164_53, ex_164_54, ex_164_55, ex_164_58, ex_164_59, ex_164_60, ex_164_63, ex_164_66, ex_164_69, ex_164_72, ex_164_74, ex_164_76, ex_164_79, ex_164_81, ex_164_83, ex_164_86, ex_164_88, ex_164_90, ex_164_93, ex_164_94, ex_164_97, ex_164_98, ex_164_101, ex_164_103, ex_164_104, ex_164_105, ex_164_106, ex_164_109, ex_164_110, ex_164_111, ex_164_114, ex_164_117, ex_164_120, ex_164_121, ex_164_124, if_true, if_false, and_self, Option.toList_some, Option.toList_none, List.singleton_append, List.cons_append, List.nil_append, List.append_nil, nI_1, nt_e, Int32.le_refl, hk, Bool.true_eq_false, Bool.false_eq_true, ↓reduceIte]
      exact hgo
  have seg8 : ∀ (kz i : Nat) (j8 j9 j10 : Option Value), am_nl j9 = true → i + kz = 8 → ∀ u', Only tqP (th u 0) u' → FI u' 203 55 = FI (th u 0) 203 55 → TapeR u' (feedT (feedT S.2.2.2.2 a 8) b i) → Ex d 164 8 [some (.ref 203), some (.long a), none, some (.long b), none, some (.long c), none, some (.int (nI (8 + i))), j8, j9, j10] [] (am_emb u') post := by
    intro kz
    induction kz with
    | zero =>
      intro i j8 j9 j10 h9 hi u' ho hf ht
      obtain rfl : i = 8 := by omega
      exact seg16 8 0 _ _ _ h9 (by omega) u' ho hf ht
    | succ kz ih =>
      intro i j8 j9 j10 h9 hi u' ho hf ht
      have hnle : ¬ 24 ≤ 8 + i := by omega
      have z1 : 8 ≤ 8 + i := by omega
      have z2 : ¬ 16 ≤ 8 + i := by omega
      have hk := shk_dec (8 + i) (by omega)
      rw [show (8 + i) % 8 = i by omega] at hk
      have hb : ((b).toUInt64 >>> ((shI i).toInt64.toUInt64 &&& Int64.toUInt64 63)).toInt64 &&& 255 = ((b).toUInt64 >>> ((shI i).toInt64.toUInt64 &&& Int64.toUInt64 63)).toInt64 &&& 255 := rfl
      have ih := fun j8 j9 j10 g9 => ih (i + 1) j8 j9 j10 g9 (by omega)
      rw [ex_164_8]
      have hgo := one (feedT (feedT S.2.2.2.2 a 8) b i) (byteV b i) (8 + i) b u' (WTP_feed (WTP_feed hWT 8) i) ht ho hf (fun u2 o2 f2 t2 => by
        simp (disch := first | exact am_nl_i _ | exact am_nl_r _ | exact am_nl_0 | assumption | omega | (refine vi_nI ?_ ?_ <;> omega) | exact b2i_01 _ | exact Or.inl rfl | exact Or.inr rfl | (unfold vi; decide)) only [ex_164_0, ex_164_1, ex_164_2, ex_164_5, ex_164_6, ex_164_10, ex_164_12, ex_164_15, ex_164_17, ex_164_19, ex_164_22, ex_164_23, ex_164_26, ex_164_28, ex_164_30, ex_164_33, ex_164_34, ex_164_37, ex_164_39, ex_164_41, ex_164_43, ex_164_45, ex_164_47, ex_164_49, ex_164_51, ex_164_52, ex_164_53, ex_164_54, ex_164_55, ex_164_58, ex_164_59, ex_164_60, ex_164_62, ex_164_63, ex_164_66, ex_164_69, ex_164_72, ex_164_74, ex_164_76, ex_164_79, ex_164_81, ex_164_83, ex_164_86, ex_164_88, ex_164_90, ex_164_93, ex_164_94, ex_164_97, ex_164_98, ex_164_101, ex_164_103, ex_164_104, ex_164_105, ex_164_106, ex_164_109, ex_164_110, ex_164_111, ex_164_114, ex_164_117, ex_164_120, ex_164_121, ex_164_124, if_true, if_false, and_self, Option.toList_some, Option.toList_none, List.singleton_append, List.cons_append, List.nil_append, List.append_nil, nI_1, nt_e, Int32.le_refl, Nat.add_assoc]
        exact ih _ _ _ rfl u2 o2 f2 t2)
      simp (disch := first | exact am_nl_i _ | exact am_nl_r _ | exact am_nl_0 | (refine vi_nI ?_ ?_ <;> omega) | assumption | omega | exact b2i_01 _ | exact Or.inl rfl | exact Or.inr rfl | (unfold vi; decide)) only [ex_164_0, ex_164_1, ex_164_2, ex_164_5, ex_164_6, ex_164_10, ex_164_12, ex_164_15, ex_164_17, ex_164_19, ex_164_22, ex_164_23, ex_164_26, ex_164_28, ex_164_30, ex_164_33, ex_164_34, ex_164_37, ex_164_39, ex_164_43, ex_164_45, ex_164_47, ex_164_49, ex_164_51, ex_164_52, ex_164_53, ex_164_54, ex_164_55, ex_164_58, ex_164_59, ex_164_60, ex_164_63, ex_164_66, ex_164_69, ex_164_72, ex_164_74, ex_164_76, ex_164_79, ex_164_81, ex_164_83, ex_164_86, ex_164_88, ex_164_90, ex_164_93, ex_164_94, ex_164_97, ex_164_98, ex_164_101, ex_164_103, ex_164_104, ex_164_105, ex_164_106, ex_164_109, ex_164_110, ex_164_111, ex_164_114, ex_164_117, ex_164_121, ex_164_124, if_true, if_false, and_self, Option.toList_some, Option.toList_none, List.singleton_append, List.cons_append, List.nil_append, List.append_nil, nI_1, nt_e, Int32.le_refl, show (24 : Int32) = nI 24 from rfl, show (8 : Int32) = nI 8 from rfl, show (16 : Int32) = nI 16 from rfl, nI_leI, hnle, z1, z2, Bool.true_eq_false, Bool.false_eq_true, ↓reduceIte]
      simp (disch := first | exact am_nl_i _ | exact am_nl_r _ | exact am_nl_0 | (refine vi_nI ?_ ?_ <;> omega) | assumption | omega | exact b2i_01 _ | exact Or.inl rfl | exact Or.inr rfl | (unfold vi; decide)) only [ex_164_0, ex_164_1, ex_164_2, ex_164_5, ex_164_6, ex_164_10, ex_164_12, ex_164_15, ex_164_17, ex_164_19, ex_164_22, ex_164_23, ex_164_26, ex_164_28, ex_164_30, ex_164_33, ex_164_34, ex_164_37, ex_164_39, ex_164_41, ex_164_43, ex_164_45, ex_164_47, ex_164_49, ex_164_51, ex_164_52, ex_164_53, ex_164_54, ex_164_55, ex_164_58, ex_164_59, ex_164_60, ex_164_63, ex_164_66, ex_164_69, ex_164_72, ex_164_74, ex_164_76, ex_164_79, ex_164_81, ex_164_83, ex_164_86, ex_164_88, ex_164_90, ex_164_93, ex_164_94, ex_164_97, ex_164_98, ex_164_101, ex_164_103, ex_164_104, ex_164_105, ex_164_106, ex_164_109, ex_164_110, ex_164_111, ex_164_114, ex_164_117, ex_164_120, ex_164_121, ex_164_124, if_true, if_false, and_self, Option.toList_some, Option.toList_none, List.singleton_append, List.cons_append, List.nil_append, List.append_nil, nI_1, nt_e, Int32.le_refl, hk, Bool.true_eq_false, Bool.false_eq_true, ↓reduceIte]
      exact hgo
  have seg0 : ∀ (kz i : Nat) (j8 j9 j10 : Option Value), am_nl j9 = true → i + kz = 8 → ∀ u', Only tqP (th u 0) u' → FI u' 203 55 = FI (th u 0) 203 55 → TapeR u' (feedT (S.2.2.2.2) a i) → Ex d 164 8 [some (.ref 203), some (.long a), none, some (.long b), none, some (.long c), none, some (.int (nI (0 + i))), j8, j9, j10] [] (am_emb u') post := by
    intro kz
    induction kz with
    | zero =>
      intro i j8 j9 j10 h9 hi u' ho hf ht
      obtain rfl : i = 8 := by omega
      exact seg8 8 0 _ _ _ h9 (by omega) u' ho hf ht
    | succ kz ih =>
      intro i j8 j9 j10 h9 hi u' ho hf ht
      have hnle : ¬ 24 ≤ 0 + i := by omega
      have z1 : ¬ 8 ≤ 0 + i := by omega
      have hk := shk_dec (0 + i) (by omega)
      rw [show (0 + i) % 8 = i by omega] at hk
      have hb : ((a).toUInt64 >>> ((shI i).toInt64.toUInt64 &&& Int64.toUInt64 63)).toInt64 &&& 255 = ((a).toUInt64 >>> ((shI i).toInt64.toUInt64 &&& Int64.toUInt64 63)).toInt64 &&& 255 := rfl
      have ih := fun j8 j9 j10 g9 => ih (i + 1) j8 j9 j10 g9 (by omega)
      rw [ex_164_8]
      have hgo := one (feedT (S.2.2.2.2) a i) (byteV a i) (0 + i) a u' (WTP_feed (hWT) i) ht ho hf (fun u2 o2 f2 t2 => by
        simp (disch := first | exact am_nl_i _ | exact am_nl_r _ | exact am_nl_0 | assumption | omega | (refine vi_nI ?_ ?_ <;> omega) | exact b2i_01 _ | exact Or.inl rfl | exact Or.inr rfl | (unfold vi; decide)) only [ex_164_0, ex_164_1, ex_164_2, ex_164_5, ex_164_6, ex_164_10, ex_164_12, ex_164_15, ex_164_17, ex_164_19, ex_164_22, ex_164_23, ex_164_26, ex_164_28, ex_164_30, ex_164_33, ex_164_34, ex_164_37, ex_164_39, ex_164_41, ex_164_43, ex_164_45, ex_164_47, ex_164_49, ex_164_51, ex_164_52, ex_164_53, ex_164_54, ex_164_55, ex_164_58, ex_164_59, ex_164_60, ex_164_62, ex_164_63, ex_164_66, ex_164_69, ex_164_72, ex_164_74, ex_164_76, ex_164_79, ex_164_81, ex_164_83, ex_164_86, ex_164_88, ex_164_90, ex_164_93, ex_164_94, ex_164_97, ex_164_98, ex_164_101, ex_164_103, ex_164_104, ex_164_105, ex_164_106, ex_164_109, ex_164_110, ex_164_111, ex_164_114, ex_164_117, ex_164_120, ex_164_121, ex_164_124, if_true, if_false, and_self, Option.toList_some, Option.toList_none, List.singleton_append, List.cons_append, List.nil_append, List.append_nil, nI_1, nt_e, Int32.le_refl, Nat.add_assoc]
        exact ih _ _ _ rfl u2 o2 f2 t2)
      simp (disch := first | exact am_nl_i _ | exact am_nl_r _ | exact am_nl_0 | (refine vi_nI ?_ ?_ <;> omega) | assumption | omega | exact b2i_01 _ | exact Or.inl rfl | exact Or.inr rfl | (unfold vi; decide)) only [ex_164_0, ex_164_1, ex_164_2, ex_164_5, ex_164_6, ex_164_10, ex_164_12, ex_164_15, ex_164_17, ex_164_19, ex_164_22, ex_164_23, ex_164_26, ex_164_28, ex_164_30, ex_164_33, ex_164_34, ex_164_37, ex_164_39, ex_164_43, ex_164_45, ex_164_47, ex_164_49, ex_164_51, ex_164_52, ex_164_53, ex_164_54, ex_164_55, ex_164_58, ex_164_59, ex_164_60, ex_164_63, ex_164_66, ex_164_69, ex_164_72, ex_164_74, ex_164_76, ex_164_79, ex_164_81, ex_164_83, ex_164_86, ex_164_88, ex_164_90, ex_164_93, ex_164_94, ex_164_97, ex_164_98, ex_164_101, ex_164_103, ex_164_104, ex_164_105, ex_164_106, ex_164_109, ex_164_110, ex_164_111, ex_164_114, ex_164_117, ex_164_121, ex_164_124, if_true, if_false, and_self, Option.toList_some, Option.toList_none, List.singleton_append, List.cons_append, List.nil_append, List.append_nil, nI_1, nt_e, Int32.le_refl, show (24 : Int32) = nI 24 from rfl, show (8 : Int32) = nI 8 from rfl, show (16 : Int32) = nI 16 from rfl, nI_leI, hnle, z1, Bool.true_eq_false, Bool.false_eq_true, ↓reduceIte]
      simp (disch := first | exact am_nl_i _ | exact am_nl_r _ | exact am_nl_0 | (refine vi_nI ?_ ?_ <;> omega) | assumption | omega | exact b2i_01 _ | exact Or.inl rfl | exact Or.inr rfl | (unfold vi; decide)) only [ex_164_0, ex_164_1, ex_164_2, ex_164_5, ex_164_6, ex_164_10, ex_164_12, ex_164_15, ex_164_17, ex_164_19, ex_164_22, ex_164_23, ex_164_26, ex_164_28, ex_164_30, ex_164_33, ex_164_34, ex_164_37, ex_164_39, ex_164_41, ex_164_43, ex_164_45, ex_164_47, ex_164_49, ex_164_51, ex_164_52, ex_164_53, ex_164_54, ex_164_55, ex_164_58, ex_164_59, ex_164_60, ex_164_63, ex_164_66, ex_164_69, ex_164_72, ex_164_74, ex_164_76, ex_164_79, ex_164_81, ex_164_83, ex_164_86, ex_164_88, ex_164_90, ex_164_93, ex_164_94, ex_164_97, ex_164_98, ex_164_101, ex_164_103, ex_164_104, ex_164_105, ex_164_106, ex_164_109, ex_164_110, ex_164_111, ex_164_114, ex_164_117, ex_164_120, ex_164_121, ex_164_124, if_true, if_false, and_self, Option.toList_some, Option.toList_none, List.singleton_append, List.cons_append, List.nil_append, List.append_nil, nI_1, nt_e, Int32.le_refl, hk, Bool.true_eq_false, Bool.false_eq_true, ↓reduceIte]
      exact hgo
  simp (disch := first | exact am_nl_i _ | exact am_nl_r _ | exact am_nl_0 | assumption | omega | (refine vi_nI ?_ ?_ <;> omega) | exact b2i_01 _ | exact Or.inl rfl | exact Or.inr rfl | (unfold vi; decide)) only [ex_164_0, ex_164_1, ex_164_2, ex_164_5, ex_164_6, ex_164_10, ex_164_12, ex_164_15, ex_164_17, ex_164_19, ex_164_22, ex_164_23, ex_164_26, ex_164_28, ex_164_30, ex_164_33, ex_164_34, ex_164_37, ex_164_39, ex_164_41, ex_164_43, ex_164_45, ex_164_47, ex_164_49, ex_164_51, ex_164_52, ex_164_53, ex_164_54, ex_164_55, ex_164_58, ex_164_59, ex_164_60, ex_164_62, ex_164_63, ex_164_66, ex_164_69, ex_164_72, ex_164_74, ex_164_76, ex_164_79, ex_164_81, ex_164_83, ex_164_86, ex_164_88, ex_164_90, ex_164_93, ex_164_94, ex_164_97, ex_164_98, ex_164_101, ex_164_103, ex_164_104, ex_164_105, ex_164_106, ex_164_109, ex_164_110, ex_164_111, ex_164_114, ex_164_117, ex_164_120, ex_164_121, ex_164_124, if_true, if_false, and_self, Option.toList_some, Option.toList_none, List.singleton_append, List.cons_append, List.nil_append, List.append_nil, nI_1, nt_e, Int32.le_refl, th_e]
  exact seg0 8 0 none none none rfl (by omega) (th u 0) (Only.rf _ _) rfl hT
end FeedR
