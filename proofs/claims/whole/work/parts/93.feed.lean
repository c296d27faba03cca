/-! FEED -/
def shI (i : Nat) : Int32 := nI 56 - nI (8 * i)
def byteV (w : Int64) (i : Nat) : Int32 := ((w.toUInt64 >>> ((shI i).toInt64.toUInt64 &&& Int64.toUInt64 63)).toInt64 &&& 255).toInt32
def okS (x : Int32) : Bool := decide (x = 10) || (decide (32 ≤ x) && decide (x ≤ 126))
abbrev TP : Type := Nat × (Nat → Int32)
def putT (t : TP) (x : Int32) : TP := if okS x && decide (t.1 < 1000) then (t.1 + 1, fun j => if j = t.1 then x else t.2 j) else t
def feedT (t : TP) (w : Int64) : Nat → TP
  | 0 => t
  | n + 1 => putT (feedT t w n) (byteV w n)
def withT (S : ST) (t : TP) : ST := (S.1, S.2.1, S.2.2.1, S.2.2.2.1, t)
def feedS (S : ST) (a b c : Int64) : ST × Int32 := (withT S (feedT (feedT (feedT S.2.2.2.2 a 8) b 8) c 8), nI (feedT (feedT (feedT S.2.2.2.2 a 8) b 8) c 8).1)
def WTP (t : TP) : Prop := t.1 ≤ 1000 ∧ ∀ j, j < t.1 → ∃ c : Nat, c ≤ 126 ∧ t.2 j = nI c
theorem okS_nI {x : Int32} (h : okS x = true) : ∃ n : Nat, n ≤ 126 ∧ x = nI n := by
  unfold okS at h
  rw [Bool.or_eq_true, Bool.and_eq_true, decide_eq_true_eq, decide_eq_true_eq, decide_eq_true_eq] at h
  rcases h with h | h
  · exact ⟨10, by omega, h⟩
  · obtain ⟨n, h1, h2, h3⟩ := in_nI (a := 32) (b := 126) (by decide) h.1 h.2 (by decide)
    exact ⟨n, h2, h3⟩
theorem char_dec : ∀ n, n < 127 → ((nI n).toUInt32 % 65536).toInt32 = nI n := by decide +kernel
theorem char_e {x : Int32} (h : okS x = true) : (x.toUInt32 % 65536).toInt32 = x := by
  obtain ⟨n, h1, rfl⟩ := okS_nI h
  exact char_dec n (by omega)
theorem WTP_put {t : TP} (x : Int32) (h : WTP t) : WTP (putT t x) := by
  unfold putT
  cases q : okS x && decide (t.1 < 1000)
  · exact h
  · rw [Bool.and_eq_true, decide_eq_true_eq] at q
    refine ⟨by show t.1 + 1 ≤ 1000; omega, fun j hj => ?_⟩
    have hj : j < t.1 + 1 := hj
    show ∃ c : Nat, c ≤ 126 ∧ (if j = t.1 then x else t.2 j) = nI c
    by_cases e : j = t.1
    · rw [if_pos e]; exact okS_nI q.1
    · rw [if_neg e]; exact h.2 j (by omega)
theorem WTP_feed {t : TP} {w : Int64} (h : WTP t) : ∀ n, WTP (feedT t w n)
  | 0 => h
  | n + 1 => WTP_put _ (WTP_feed h n)
theorem WS_feed {S : ST} (h : WS S) (a b c : Int64) : WS (feedS S a b c).1 := by
  obtain ⟨h1, h2, h3, h4, h5⟩ := h
  exact ⟨h1, h2, h3, h4, WTP_feed (WTP_feed (WTP_feed h5 8) 8) 8⟩
theorem sh_dec : ∀ i, i < 8 → shI i + (-8) = shI (i + 1) ∧ ¬ shI i < 0 := by decide +kernel
theorem sh_8 : shI 8 < 0 := by decide
theorem shk_dec : ∀ k, k < 24 → (56 : Int32) - 8 * (nI k &&& 7) = shI (k % 8) := by decide +kernel
def tpP (a : Nat) : Prop := a = 1 ∨ a = 2
theorem tape_inv {u u' : am_U} {S : ST} {L L' : Nat} {t : TP} (h : InvC u S L L') (ho : Only tpP u u') (ht : TapeC u' t) : InvC u' (withT S t) L L' := by
  obtain ⟨⟨r1, r2, r3, r4, r5, r6⟩, ⟨l1, l2, l3⟩, st, pst, mk, tp⟩ := h
  have hp : ∀ a, a = 0 ∨ 3 ≤ a → ¬ tpP a := fun a ha q => by unfold tpP at q; omega
  have e := fun a ha => ho a (hp a ha)
  refine ⟨⟨by rw [(e 0 (by omega)).2.2.1]; exact r1, by rw [(e 0 (by omega)).2.2.1]; exact r2, r3, by rw [(e 82 (by omega)).2.2.2.2.2]; exact r4, by rw [(e 147 (by omega)).2.2.2.2.2]; exact r5, ?_⟩, ⟨l1.keep ho (fun k hk => hp _ (by omega)), l2.keep ho (hp _ (by omega)) (hp _ (by omega)), l3.keep ho (hp _ (by omega)) (hp _ (by omega))⟩, st.keep ho (fun k hk => hp _ (by omega)), past_keep pst ho (e 0 (by omega)).1 (fun a h1 h2 => hp _ (by omega)), fun k hk => ⟨by rw [(e (148 + 10 * k) (by omega)).1]; exact (mk k hk).1, fun s hs => ((mk k hk).2 s hs).keep ho (fun i hi => hp _ (by omega))⟩, ht⟩
  unfold most4
  rw [(e (L' + 1) (by omega)).1, (e (L' + 3) (by omega)).1, (e (L' + 5) (by omega)).1, (e (L' + 7) (by omega)).1]
  exact r6
section Feed
variable {d L L' : Nat} {u : am_U} {S : ST} {post : Option Value → am_M → Prop}
theorem put_ok {t : TP} {w : Int64} (ht : TapeC u t) (hW : WTP t) (h : ∀ u', Only tpP u u' → TapeC u' (feedT t w 8) → post none (am_emb u')) : Cl d 105 [.ref 1, .long w] (am_emb u) post := by
  rw [op_105]
  have loop : ∀ (kz i : Nat) (j4 j5 : Option Value), am_nl j4 = true → i + kz = 8 → ∀ u', Only tpP u u' → TapeC u' (feedT t w i) → Ex d 105 3 [some (.ref 1), some (.long w), none, some (.int (shI i)), j4, j5] [] (am_emb u') post := by
    intro kz
    induction kz with
    | zero =>
      intro i j4 j5 hj hi u' ho ht'
      obtain rfl : i = 8 := by omega
      have n8 := sh_8
      rw [ex_105_3]
      simp (disch := first | exact am_nl_i _ | exact am_nl_r _ | exact am_nl_0 | (refine vi_nI ?_ ?_ <;> omega) | assumption | omega | exact b2i_01 _ | exact Or.inl rfl | exact Or.inr rfl | (unfold vi; decide)) only [ex_105_0, ex_105_2, ex_105_4, ex_105_8, ex_105_9, ex_105_10, ex_105_13, ex_105_14, ex_105_15, ex_105_17, ex_105_19, ex_105_21, ex_105_24, ex_105_26, ex_105_28, ex_105_31, ex_105_33, ex_105_35, ex_105_38, ex_105_39, ex_105_42, ex_105_43, ex_105_45, ex_105_47, ex_105_50, ex_105_51, ex_105_54, ex_105_57, ex_105_58, ex_105_61, ex_105_62, ex_105_65, ex_105_66, ex_105_69, ex_105_70, ex_105_73, ex_105_74, ex_105_77, ex_105_79, ex_105_80, ex_105_81, ex_105_82, ex_105_83, ex_105_86, ex_105_87, ex_105_88, ex_105_91, ex_105_94, ex_105_97, if_true, if_false, and_self, Option.toList_some, Option.toList_none, List.singleton_append, List.cons_append, List.nil_append, List.append_nil, nI_1, nt_e, Int32.le_refl, eq_true n8, Bool.true_eq_false, Bool.false_eq_true, ↓reduceIte]
      exact h u' ho ht'
    | succ kz ih =>
      intro i j4 j5 hj hi u' ho ht'
      obtain ⟨s1, s2⟩ := sh_dec i (by omega)
      have hWi := WTP_feed (w := w) hW i
      have ih := fun j4 j5 h4 => ih (i + 1) j4 j5 h4 (by omega)
      rw [feedT] at ih
      have hb : ((w.toUInt64 >>> ((shI i).toInt64.toUInt64 &&& Int64.toUInt64 63)).toInt64 &&& 255).toInt32 = byteV w i := rfl
      have hvc : vp_nar .char ((byteV w i).toUInt32 % 65536).toInt32 = ((byteV w i).toUInt32 % 65536).toInt32 := pk_vc _
      obtain ⟨t1, t2⟩ := ht'
      obtain ⟨w1, w2⟩ := hWi
      generalize feedT t w i = T at *
      generalize byteV w i = x at *
      have skip : (okS x && decide (T.1 < 1000)) = false → ∀ j4 j5, am_nl j4 = true → Ex d 105 91 [some (.ref 1), some (.long w), none, some (.int (shI i)), j4, j5] [] (am_emb u') post := by
        intro z j4 j5 h4
        simp (disch := first | exact am_nl_i _ | exact am_nl_r _ | exact am_nl_0 | assumption | omega | (refine vi_nI ?_ ?_ <;> omega) | exact b2i_01 _ | exact Or.inl rfl | exact Or.inr rfl | (unfold vi; decide)) only [ex_105_0, ex_105_2, ex_105_4, ex_105_7, ex_105_8, ex_105_9, ex_105_10, ex_105_13, ex_105_14, ex_105_15, ex_105_17, ex_105_19, ex_105_21, ex_105_24, ex_105_26, ex_105_28, ex_105_31, ex_105_33, ex_105_35, ex_105_38, ex_105_39, ex_105_42, ex_105_43, ex_105_45, ex_105_47, ex_105_50, ex_105_51, ex_105_54, ex_105_57, ex_105_58, ex_105_61, ex_105_62, ex_105_65, ex_105_66, ex_105_69, ex_105_70, ex_105_73, ex_105_74, ex_105_77, ex_105_79, ex_105_80, ex_105_81, ex_105_82, ex_105_83, ex_105_86, ex_105_87, ex_105_88, ex_105_91, ex_105_94, ex_105_97, if_true, if_false, and_self, Option.toList_some, Option.toList_none, List.singleton_append, List.cons_append, List.nil_append, List.append_nil, nI_1, nt_e, Int32.le_refl, s1]
        refine ih _ _ h4 u' ho ?_
        unfold putT
        rw [z]
        exact ⟨t1, t2⟩
      have take : okS x = true → ∀ j5, Ex d 105 50 [some (.ref 1), some (.long w), none, some (.int (shI i)), some (.int x), j5] [] (am_emb u') post := by
        intro q j5
        by_cases q2 : T.1 < 1000
        · have hn : ¬ 1000 ≤ T.1 := by omega
          have hch := char_e q
          rw [hch] at hvc
          simp (disch := first | exact am_nl_i _ | exact am_nl_r _ | exact am_nl_0 | (refine vi_nI ?_ ?_ <;> omega) | assumption | omega | exact b2i_01 _ | exact Or.inl rfl | exact Or.inr rfl | (unfold vi; decide)) only [ex_105_0, ex_105_2, ex_105_4, ex_105_7, ex_105_8, ex_105_9, ex_105_10, ex_105_13, ex_105_14, ex_105_15, ex_105_17, ex_105_19, ex_105_21, ex_105_24, ex_105_26, ex_105_28, ex_105_31, ex_105_33, ex_105_35, ex_105_38, ex_105_39, ex_105_42, ex_105_43, ex_105_45, ex_105_47, ex_105_50, ex_105_51, ex_105_54, ex_105_57, ex_105_58, ex_105_61, ex_105_62, ex_105_65, ex_105_66, ex_105_69, ex_105_70, ex_105_73, ex_105_74, ex_105_77, ex_105_79, ex_105_80, ex_105_81, ex_105_82, ex_105_83, ex_105_86, ex_105_87, ex_105_88, ex_105_94, ex_105_97, if_true, if_false, and_self, Option.toList_some, Option.toList_none, List.singleton_append, List.cons_append, List.nil_append, List.append_nil, nI_1, nt_e, Int32.le_refl, t1, i_lt0, lq1000, nI_leI, hn, hch, nI_clamp, Bool.true_eq_false, Bool.false_eq_true, ↓reduceIte]
          simp (disch := first | exact am_nl_i _ | exact am_nl_r _ | exact am_nl_0 | assumption | omega | (refine vi_nI ?_ ?_ <;> omega) | exact b2i_01 _ | exact Or.inl rfl | exact Or.inr rfl | (unfold vi; decide)) only [ex_105_0, ex_105_2, ex_105_4, ex_105_7, ex_105_8, ex_105_9, ex_105_10, ex_105_13, ex_105_14, ex_105_15, ex_105_17, ex_105_19, ex_105_21, ex_105_24, ex_105_26, ex_105_28, ex_105_31, ex_105_33, ex_105_35, ex_105_38, ex_105_39, ex_105_42, ex_105_43, ex_105_45, ex_105_47, ex_105_50, ex_105_51, ex_105_54, ex_105_57, ex_105_58, ex_105_61, ex_105_62, ex_105_65, ex_105_66, ex_105_69, ex_105_70, ex_105_73, ex_105_74, ex_105_77, ex_105_79, ex_105_80, ex_105_81, ex_105_82, ex_105_83, ex_105_86, ex_105_87, ex_105_88, ex_105_91, ex_105_94, ex_105_97, if_true, if_false, and_self, Option.toList_some, Option.toList_none, List.singleton_append, List.cons_append, List.nil_append, List.append_nil, nI_1, nt_e, Int32.le_refl, s1]
          refine ih _ _ rfl _ (of_fi (of_ai ho (Or.inr rfl)) (Or.inl rfl)) ?_
          unfold putT
          rw [q, decide_eq_true q2]
          refine ⟨?_, fun j hj => ?_⟩
          · rw [FI_sFI, if_pos ⟨rfl, rfl⟩]; show FI u' 1 4 + 1 = nI (T.1 + 1); rw [t1, nI_1]
          · have hj : j < T.1 + 1 := hj
            rw [AI_sFI, AI_sAI, if_pos rfl]
            show upd (AI u' 2) T.1 x j = (if j = T.1 then x else T.2 j)
            by_cases e : j = T.1
            · rw [if_pos e, e, upd_s]
            · rw [if_neg e, upd_n e]; exact t2 j (by omega)
        · have hn : 1000 ≤ T.1 := by omega
          simp (disch := first | exact am_nl_i _ | exact am_nl_r _ | exact am_nl_0 | (refine vi_nI ?_ ?_ <;> omega) | assumption | omega | exact b2i_01 _ | exact Or.inl rfl | exact Or.inr rfl | (unfold vi; decide)) only [ex_105_0, ex_105_2, ex_105_4, ex_105_7, ex_105_8, ex_105_9, ex_105_10, ex_105_13, ex_105_14, ex_105_15, ex_105_17, ex_105_19, ex_105_21, ex_105_24, ex_105_26, ex_105_28, ex_105_31, ex_105_33, ex_105_35, ex_105_38, ex_105_39, ex_105_42, ex_105_43, ex_105_45, ex_105_47, ex_105_50, ex_105_51, ex_105_54, ex_105_57, ex_105_58, ex_105_61, ex_105_62, ex_105_65, ex_105_66, ex_105_69, ex_105_70, ex_105_73, ex_105_74, ex_105_77, ex_105_79, ex_105_80, ex_105_81, ex_105_82, ex_105_83, ex_105_86, ex_105_87, ex_105_88, ex_105_94, ex_105_97, if_true, if_false, and_self, Option.toList_some, Option.toList_none, List.singleton_append, List.cons_append, List.nil_append, List.append_nil, nI_1, nt_e, Int32.le_refl, t1, i_lt0, lq1000, nI_leI, hn, Bool.true_eq_false, Bool.false_eq_true, ↓reduceIte]
          exact skip (by rw [decide_eq_false q2, Bool.and_false]) _ _ rfl
      rw [ex_105_3]
      by_cases x10 : x = 10
      · simp (disch := first | exact am_nl_i _ | exact am_nl_r _ | exact am_nl_0 | (refine vi_nI ?_ ?_ <;> omega) | assumption | omega | exact b2i_01 _ | exact Or.inl rfl | exact Or.inr rfl | (unfold vi; decide)) only [ex_105_0, ex_105_2, ex_105_4, ex_105_7, ex_105_8, ex_105_9, ex_105_10, ex_105_13, ex_105_14, ex_105_15, ex_105_17, ex_105_19, ex_105_21, ex_105_24, ex_105_26, ex_105_28, ex_105_31, ex_105_33, ex_105_35, ex_105_38, ex_105_39, ex_105_42, ex_105_43, ex_105_45, ex_105_47, ex_105_51, ex_105_54, ex_105_57, ex_105_58, ex_105_61, ex_105_62, ex_105_65, ex_105_66, ex_105_69, ex_105_70, ex_105_73, ex_105_74, ex_105_77, ex_105_79, ex_105_80, ex_105_81, ex_105_82, ex_105_83, ex_105_86, ex_105_87, ex_105_88, ex_105_94, if_true, if_false, and_self, Option.toList_some, Option.toList_none, List.singleton_append, List.cons_append, List.nil_append, List.append_nil, nI_1, nt_e, Int32.le_refl, s2, hb, eq_true x10, show ((1 : Int32) = (0 : Int32)) = False from eq_false (by decide), Bool.true_eq_false, Bool.false_eq_true, ↓reduceIte]
        exact take (by unfold okS; rw [decide_eq_true x10]; rfl) _
      · by_cases x32 : x < 32
        · simp (disch := first | exact am_nl_i _ | exact am_nl_r _ | exact am_nl_0 | (refine vi_nI ?_ ?_ <;> omega) | assumption | omega | exact b2i_01 _ | exact Or.inl rfl | exact Or.inr rfl | (unfold vi; decide)) only [ex_105_0, ex_105_2, ex_105_4, ex_105_7, ex_105_8, ex_105_9, ex_105_10, ex_105_13, ex_105_14, ex_105_15, ex_105_17, ex_105_19, ex_105_21, ex_105_24, ex_105_26, ex_105_28, ex_105_31, ex_105_33, ex_105_35, ex_105_38, ex_105_39, ex_105_42, ex_105_43, ex_105_45, ex_105_47, ex_105_51, ex_105_54, ex_105_57, ex_105_58, ex_105_61, ex_105_62, ex_105_65, ex_105_66, ex_105_69, ex_105_70, ex_105_73, ex_105_74, ex_105_77, ex_105_79, ex_105_80, ex_105_81, ex_105_82, ex_105_83, ex_105_86, ex_105_87, ex_105_88, ex_105_94, if_true, if_false, and_self, Option.toList_some, Option.toList_none, List.singleton_append, List.cons_append, List.nil_append, List.append_nil, nI_1, nt_e, Int32.le_refl, s2, hb, x10, x32, Bool.true_eq_false, Bool.false_eq_true, ↓reduceIte]
          exact skip (by unfold okS; rw [decide_eq_false x10, decide_eq_false (Int32.not_le.mpr x32)]; rfl) _ _ rfl
        · by_cases x126 : 126 < x
          · simp (disch := first | exact am_nl_i _ | exact am_nl_r _ | exact am_nl_0 | (refine vi_nI ?_ ?_ <;> omega) | assumption | omega | exact b2i_01 _ | exact Or.inl rfl | exact Or.inr rfl | (unfold vi; decide)) only [ex_105_0, ex_105_2, ex_105_4, ex_105_7, ex_105_8, ex_105_9, ex_105_10, ex_105_13, ex_105_14, ex_105_15, ex_105_17, ex_105_19, ex_105_21, ex_105_24, ex_105_26, ex_105_28, ex_105_31, ex_105_33, ex_105_35, ex_105_38, ex_105_39, ex_105_42, ex_105_43, ex_105_45, ex_105_47, ex_105_51, ex_105_54, ex_105_57, ex_105_58, ex_105_61, ex_105_62, ex_105_65, ex_105_66, ex_105_69, ex_105_70, ex_105_73, ex_105_74, ex_105_77, ex_105_79, ex_105_80, ex_105_81, ex_105_82, ex_105_83, ex_105_86, ex_105_87, ex_105_88, ex_105_94, if_true, if_false, and_self, Option.toList_some, Option.toList_none, List.singleton_append, List.cons_append, List.nil_append, List.append_nil, nI_1, nt_e, Int32.le_refl, s2, hb, x10, x32, x126, Bool.true_eq_false, Bool.false_eq_true, ↓reduceIte]
            exact skip (by unfold okS; rw [decide_eq_false x10, decide_eq_false (Int32.not_le.mpr x126)]; simp) _ _ rfl
          · simp (disch := first | exact am_nl_i _ | exact am_nl_r _ | exact am_nl_0 | (refine vi_nI ?_ ?_ <;> omega) | assumption | omega | exact b2i_01 _ | exact Or.inl rfl | exact Or.inr rfl | (unfold vi; decide)) only [ex_105_0, ex_105_2, ex_105_4, ex_105_7, ex_105_8, ex_105_9, ex_105_10, ex_105_13, ex_105_14, ex_105_15, ex_105_17, ex_105_19, ex_105_21, ex_105_24, ex_105_26, ex_105_28, ex_105_31, ex_105_33, ex_105_35, ex_105_38, ex_105_39, ex_105_42, ex_105_43, ex_105_45, ex_105_47, ex_105_51, ex_105_54, ex_105_57, ex_105_58, ex_105_61, ex_105_62, ex_105_65, ex_105_66, ex_105_69, ex_105_70, ex_105_73, ex_105_74, ex_105_77, ex_105_79, ex_105_80, ex_105_81, ex_105_82, ex_105_83, ex_105_86, ex_105_87, ex_105_88, ex_105_94, if_true, if_false, and_self, Option.toList_some, Option.toList_none, List.singleton_append, List.cons_append, List.nil_append, List.append_nil, nI_1, nt_e, Int32.le_refl, s2, hb, x10, x32, x126, show ((1 : Int32) = (0 : Int32)) = False from eq_false (by decide), Bool.true_eq_false, Bool.false_eq_true, ↓reduceIte]
            exact take (by unfold okS; rw [decide_eq_true (Int32.not_lt.mp x32), decide_eq_true (Int32.not_lt.mp x126)]; simp) _
  simp (disch := first | exact am_nl_i _ | exact am_nl_r _ | exact am_nl_0 | assumption | omega | (refine vi_nI ?_ ?_ <;> omega) | exact b2i_01 _ | exact Or.inl rfl | exact Or.inr rfl | (unfold vi; decide)) only [ex_105_0, ex_105_2, ex_105_4, ex_105_7, ex_105_8, ex_105_9, ex_105_10, ex_105_13, ex_105_14, ex_105_15, ex_105_17, ex_105_19, ex_105_21, ex_105_24, ex_105_26, ex_105_28, ex_105_31, ex_105_33, ex_105_35, ex_105_38, ex_105_39, ex_105_42, ex_105_43, ex_105_45, ex_105_47, ex_105_50, ex_105_51, ex_105_54, ex_105_57, ex_105_58, ex_105_61, ex_105_62, ex_105_65, ex_105_66, ex_105_69, ex_105_70, ex_105_73, ex_105_74, ex_105_77, ex_105_79, ex_105_80, ex_105_81, ex_105_82, ex_105_83, ex_105_86, ex_105_87, ex_105_88, ex_105_91, ex_105_94, ex_105_97, if_true, if_false, and_self, Option.toList_some, Option.toList_none, List.singleton_append, List.cons_append, List.nil_append, List.append_nil, nI_1, nt_e, Int32.le_refl]
  exact loop 8 0 none none rfl (by omega) u (Only.rf _ _) ht
theorem C_feed {a b c : Int64} (hI : InvC u S L L') (hS : WS S) (h : ∀ u', Only inC u u' → InvC u' (feedS S a b c).1 L L' → post (some (.int (feedS S a b c).2)) (am_emb u')) : Cl (d + 1) 116 [.ref 0, .long a, .long b, .long c] (am_emb u) post := by
  have hWT : WTP S.2.2.2.2 := hS.2.2.2.2
  have hT : TapeC u S.2.2.2.2 := hI.2.2.2.2.2
  rw [op_116]
  simp (disch := first | exact am_nl_i _ | exact am_nl_r _ | exact am_nl_0 | assumption | omega | (refine vi_nI ?_ ?_ <;> omega) | exact b2i_01 _ | exact Or.inl rfl | exact Or.inr rfl | (unfold vi; decide)) only [ex_116_0, ex_116_1, ex_116_4, ex_116_8, ex_116_9, ex_116_12, ex_116_13, ex_116_16, ex_116_17, ex_116_20, ex_116_22, ex_116_25, ex_116_26, ex_116_29, ex_116_32, if_true, if_false, and_self, Option.toList_some, Option.toList_none, List.singleton_append, List.cons_append, List.nil_append, List.append_nil, nI_1, nt_e, Int32.le_refl]
  rw [ex_116_5]
  refine put_ok hT hWT (fun u1 o1 t1 => ?_)
  simp (disch := first | exact am_nl_i _ | exact am_nl_r _ | exact am_nl_0 | assumption | omega | (refine vi_nI ?_ ?_ <;> omega) | exact b2i_01 _ | exact Or.inl rfl | exact Or.inr rfl | (unfold vi; decide)) only [ex_116_0, ex_116_1, ex_116_4, ex_116_5, ex_116_8, ex_116_9, ex_116_12, ex_116_16, ex_116_17, ex_116_20, ex_116_22, ex_116_25, ex_116_26, ex_116_29, ex_116_32, if_true, if_false, and_self, Option.toList_some, Option.toList_none, List.singleton_append, List.cons_append, List.nil_append, List.append_nil, nI_1, nt_e, Int32.le_refl]
  rw [ex_116_13]
  refine put_ok t1 (WTP_feed hWT 8) (fun u2 o2 t2 => ?_)
  simp (disch := first | exact am_nl_i _ | exact am_nl_r _ | exact am_nl_0 | assumption | omega | (refine vi_nI ?_ ?_ <;> omega) | exact b2i_01 _ | exact Or.inl rfl | exact Or.inr rfl | (unfold vi; decide)) only [ex_116_0, ex_116_1, ex_116_4, ex_116_5, ex_116_8, ex_116_9, ex_116_12, ex_116_13, ex_116_16, ex_116_17, ex_116_20, ex_116_25, ex_116_26, ex_116_29, ex_116_32, if_true, if_false, and_self, Option.toList_some, Option.toList_none, List.singleton_append, List.cons_append, List.nil_append, List.append_nil, nI_1, nt_e, Int32.le_refl]
  rw [ex_116_22]
  refine put_ok t2 (WTP_feed (WTP_feed hWT 8) 8) (fun u3 o3 t3 => ?_)
  simp (disch := first | exact am_nl_i _ | exact am_nl_r _ | exact am_nl_0 | assumption | omega | (refine vi_nI ?_ ?_ <;> omega) | exact b2i_01 _ | exact Or.inl rfl | exact Or.inr rfl | (unfold vi; decide)) only [ex_116_0, ex_116_1, ex_116_4, ex_116_5, ex_116_8, ex_116_9, ex_116_12, ex_116_13, ex_116_16, ex_116_17, ex_116_20, ex_116_22, ex_116_25, ex_116_26, ex_116_29, ex_116_32, if_true, if_false, and_self, Option.toList_some, Option.toList_none, List.singleton_append, List.cons_append, List.nil_append, List.append_nil, nI_1, nt_e, Int32.le_refl, t3.1]
  have oo := o1.tr (o2.tr o3)
  exact h u3 (oo.wk (fun a q => by unfold tpP at q; unfold inC; omega)) (tape_inv hI oo t3)
end Feed
