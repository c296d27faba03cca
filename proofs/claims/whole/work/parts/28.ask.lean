/-! WHAT IS ASKED: fact, task, lost, page -/
def factV (v : LV) (f w : Int32) : Int32 := if okI f (nF v) && okI w 3 then (if ix w = 0 then leanV v (ix f) else if ix w = 1 then clashV v (ix f) else pagesOfV v f) else -1
def taskV (v : LV) (l : LF) (t w : Int32) : Int32 := if okI t (nT v) && okI w 3 then (if ix w = 0 then worthV v (ix t) else if ix w = 1 then needV v (ix t) else ableL v l (ix t)) else -1
theorem what_in {w : Int32} {n : Nat} (h : okI w n = true) : ∃ k, k < n ∧ w = nI k := ⟨ix w, okI_ix h⟩
theorem va_rfs (a : Nat) : va_rf (some a) = .ref a := rfl
theorem tgt_out {pc : Nat} {dd : Int} {offs : Array Int} {x : Int32} (n : Nat) {hi : Int} (hh : hi + 1 = (n : Int)) (h : okI x n = false) : am_tgt pc dd 0 hi offs x.toInt = am_jmp pc dd := by
  unfold am_tgt
  have := of_decide_eq_false h
  rw [if_pos (by omega)]
section Ask
variable {d L : Nat} {u : am_U} {m : am_M} {v : LV} {l : LF} {post : Option Value → am_M → Prop}
theorem C_fact {f w : Int32} (hr : FR u 0 2 = some L) (hL : sh L 3 19) (hC : LibC u L v) (hW : WF v) : Cl (d + 1) 119 [.ref 0, .int f, .int w] (am_emb u) post ↔ post (some (.int (factV v f w))) (am_emb u) := by
  have h12 := hW.1.1
  rw [op_119]
  simp (disch := first | exact am_nl_i _ | exact am_nl_r _ | exact am_nl_0 | assumption | omega | (refine vi_nI ?_ ?_ <;> omega) | exact b2i_01 _ | exact Or.inl rfl | exact Or.inr rfl | (unfold vi; decide)) only [ex_119_0, ex_119_1, ex_119_4, ex_119_7, ex_119_8, ex_119_11, ex_119_14, ex_119_15, ex_119_16, ex_119_17, ex_119_44, ex_119_45, ex_119_48, ex_119_51, ex_119_52, ex_119_53, ex_119_54, ex_119_55, ex_119_58, ex_119_61, ex_119_62, ex_119_63, ex_119_64, ex_119_65, ex_119_68, ex_119_69, ex_119_72, ex_119_73, ex_119_74, if_true, if_false, and_self, Option.toList_some, Option.toList_none, List.singleton_append, List.cons_append, List.nil_append, List.append_nil, nI_1, nt_e, Int32.le_refl, hr, va_rfs, has_ok (sh_3_1 hL) hC.1.1 hC.2.1.1 hW.1.1 hW.1.1 (Nat.le_refl 12), b2i_0]
  unfold factV
  rw [show decide (0 ≤ f.toInt ∧ f.toInt < (nF v : Int)) = okI f (nF v) from rfl]
  cases hf : okI f (nF v)
  · rfl
  · rw [if_neg (by simp), Bool.true_and]
    cases hw : okI w 3
    · rw [tgt_out 3 rfl hw, show am_jmp 17 56 = 73 by decide]
      simp (disch := first | exact am_nl_i _ | exact am_nl_r _ | exact am_nl_0 | assumption | omega | (refine vi_nI ?_ ?_ <;> omega) | exact b2i_01 _ | exact Or.inl rfl | exact Or.inr rfl | (unfold vi; decide)) only [ex_119_0, ex_119_1, ex_119_4, ex_119_7, ex_119_8, ex_119_11, ex_119_14, ex_119_15, ex_119_16, ex_119_17, ex_119_44, ex_119_45, ex_119_48, ex_119_51, ex_119_52, ex_119_53, ex_119_54, ex_119_55, ex_119_58, ex_119_61, ex_119_62, ex_119_63, ex_119_64, ex_119_65, ex_119_68, ex_119_69, ex_119_72, ex_119_73, ex_119_74, if_true, if_false, and_self, Option.toList_some, Option.toList_none, List.singleton_append, List.cons_append, List.nil_append, List.append_nil, nI_1, nt_e, Int32.le_refl]
      exact Iff.rfl
    · obtain ⟨g1, g2⟩ := okI_ix hf
      obtain ⟨k, hk, rfl⟩ := what_in hw
      rw [ix_nI (by omega), if_pos rfl]
      generalize ix f = j at g1 g2
      subst g2
      match k, hk with
      | 0, _ =>
        rw [show am_tgt 17 56 0 2 #[27, 37, 47] (nI 0).toInt = 44 by decide]
        simp (disch := first | exact am_nl_i _ | exact am_nl_r _ | exact am_nl_0 | assumption | omega | (refine vi_nI ?_ ?_ <;> omega) | exact b2i_01 _ | exact Or.inl rfl | exact Or.inr rfl | (unfold vi; decide)) only [ex_119_0, ex_119_1, ex_119_4, ex_119_7, ex_119_8, ex_119_11, ex_119_14, ex_119_15, ex_119_16, ex_119_17, ex_119_44, ex_119_45, ex_119_48, ex_119_51, ex_119_52, ex_119_53, ex_119_54, ex_119_55, ex_119_58, ex_119_61, ex_119_62, ex_119_63, ex_119_64, ex_119_65, ex_119_68, ex_119_69, ex_119_72, ex_119_73, ex_119_74, if_true, if_false, and_self, Option.toList_some, Option.toList_none, List.singleton_append, List.cons_append, List.nil_append, List.append_nil, nI_1, nt_e, Int32.le_refl, hr, va_rfs, hC.2.2.1, nI_clamp]
      | 1, _ =>
        rw [show am_tgt 17 56 0 2 #[27, 37, 47] (nI 1).toInt = 54 by decide]
        simp (disch := first | exact am_nl_i _ | exact am_nl_r _ | exact am_nl_0 | assumption | omega | (refine vi_nI ?_ ?_ <;> omega) | exact b2i_01 _ | exact Or.inl rfl | exact Or.inr rfl | (unfold vi; decide)) only [ex_119_0, ex_119_1, ex_119_4, ex_119_7, ex_119_8, ex_119_11, ex_119_14, ex_119_15, ex_119_16, ex_119_17, ex_119_44, ex_119_45, ex_119_48, ex_119_51, ex_119_52, ex_119_53, ex_119_54, ex_119_55, ex_119_58, ex_119_61, ex_119_62, ex_119_63, ex_119_64, ex_119_65, ex_119_68, ex_119_69, ex_119_72, ex_119_73, ex_119_74, if_true, if_false, and_self, Option.toList_some, Option.toList_none, List.singleton_append, List.cons_append, List.nil_append, List.append_nil, nI_1, nt_e, Int32.le_refl, hr, va_rfs, hC.2.2.2.1, nI_clamp]
        exact Iff.rfl
      | 2, _ =>
        rw [show am_tgt 17 56 0 2 #[27, 37, 47] (nI 2).toInt = 64 by decide]
        simp (disch := first | exact am_nl_i _ | exact am_nl_r _ | exact am_nl_0 | assumption | omega | (refine vi_nI ?_ ?_ <;> omega) | exact b2i_01 _ | exact Or.inl rfl | exact Or.inr rfl | (unfold vi; decide)) only [ex_119_0, ex_119_1, ex_119_4, ex_119_7, ex_119_8, ex_119_11, ex_119_14, ex_119_15, ex_119_16, ex_119_17, ex_119_44, ex_119_45, ex_119_48, ex_119_51, ex_119_52, ex_119_53, ex_119_54, ex_119_55, ex_119_58, ex_119_61, ex_119_62, ex_119_63, ex_119_64, ex_119_65, ex_119_68, ex_119_69, ex_119_72, ex_119_73, ex_119_74, if_true, if_false, and_self, Option.toList_some, Option.toList_none, List.singleton_append, List.cons_append, List.nil_append, List.append_nil, nI_1, nt_e, Int32.le_refl, hr, va_rfs, pagesSaying_ok hL hC hW]
        exact Iff.rfl
theorem C_task {t w : Int32} (hr : FR u 0 2 = some L) (hL : sh L 3 19) (hC : LibC u L v) (hW : WF v) (hl : LifeC u 65 l) : Cl (d + 4) 122 [.ref 0, .int t, .int w] (am_emb u) post ↔ post (some (.int (taskV v l t w))) (am_emb u) := by
  have h12 := hW.1.2.2.2
  rw [op_122]
  simp (disch := first | exact am_nl_i _ | exact am_nl_r _ | exact am_nl_0 | assumption | omega | (refine vi_nI ?_ ?_ <;> omega) | exact b2i_01 _ | exact Or.inl rfl | exact Or.inr rfl | (unfold vi; decide)) only [ex_122_0, ex_122_1, ex_122_4, ex_122_7, ex_122_8, ex_122_11, ex_122_14, ex_122_15, ex_122_16, ex_122_17, ex_122_44, ex_122_45, ex_122_48, ex_122_51, ex_122_52, ex_122_53, ex_122_54, ex_122_55, ex_122_58, ex_122_61, ex_122_62, ex_122_63, ex_122_64, ex_122_65, ex_122_68, ex_122_71, ex_122_72, ex_122_75, ex_122_76, ex_122_79, ex_122_80, ex_122_81, if_true, if_false, and_self, Option.toList_some, Option.toList_none, List.singleton_append, List.cons_append, List.nil_append, List.append_nil, nI_1, nt_e, Int32.le_refl, hr, va_rfs, has_ok (sh_3_7 hL) hC.1.2.2.2 hC.2.1.2.2.2 (Nat.le_trans hW.1.2.2.2 (by decide)) hW.1.2.2.2 (by decide), b2i_0]
  unfold taskV
  rw [show decide (0 ≤ t.toInt ∧ t.toInt < (nT v : Int)) = okI t (nT v) from rfl]
  cases hf : okI t (nT v)
  · rfl
  · rw [if_neg (by simp), Bool.true_and]
    cases hw : okI w 3
    · rw [tgt_out 3 rfl hw, show am_jmp 17 63 = 80 by decide]
      simp (disch := first | exact am_nl_i _ | exact am_nl_r _ | exact am_nl_0 | assumption | omega | (refine vi_nI ?_ ?_ <;> omega) | exact b2i_01 _ | exact Or.inl rfl | exact Or.inr rfl | (unfold vi; decide)) only [ex_122_0, ex_122_1, ex_122_4, ex_122_7, ex_122_8, ex_122_11, ex_122_14, ex_122_15, ex_122_16, ex_122_17, ex_122_44, ex_122_45, ex_122_48, ex_122_51, ex_122_52, ex_122_53, ex_122_54, ex_122_55, ex_122_58, ex_122_61, ex_122_62, ex_122_63, ex_122_64, ex_122_65, ex_122_68, ex_122_71, ex_122_72, ex_122_75, ex_122_76, ex_122_79, ex_122_80, ex_122_81, if_true, if_false, and_self, Option.toList_some, Option.toList_none, List.singleton_append, List.cons_append, List.nil_append, List.append_nil, nI_1, nt_e, Int32.le_refl]
      exact Iff.rfl
    · obtain ⟨g1, g2⟩ := okI_ix hf
      obtain ⟨k, hk, rfl⟩ := what_in hw
      rw [ix_nI (by omega), if_pos rfl]
      generalize ix t = j at g1 g2
      subst g2
      match k, hk with
      | 0, _ =>
        rw [show am_tgt 17 63 0 2 #[27, 37, 47] (nI 0).toInt = 44 by decide]
        simp (disch := first | exact am_nl_i _ | exact am_nl_r _ | exact am_nl_0 | assumption | omega | (refine vi_nI ?_ ?_ <;> omega) | exact b2i_01 _ | exact Or.inl rfl | exact Or.inr rfl | (unfold vi; decide)) only [ex_122_0, ex_122_1, ex_122_4, ex_122_7, ex_122_8, ex_122_11, ex_122_14, ex_122_15, ex_122_16, ex_122_17, ex_122_44, ex_122_45, ex_122_48, ex_122_51, ex_122_52, ex_122_53, ex_122_54, ex_122_55, ex_122_58, ex_122_61, ex_122_62, ex_122_63, ex_122_64, ex_122_65, ex_122_68, ex_122_71, ex_122_72, ex_122_75, ex_122_76, ex_122_79, ex_122_80, ex_122_81, if_true, if_false, and_self, Option.toList_some, Option.toList_none, List.singleton_append, List.cons_append, List.nil_append, List.append_nil, nI_1, nt_e, Int32.le_refl, hr, va_rfs, hC.2.2.2.2.2.2.2.2.2.2.2.1, nI_clamp]
      | 1, _ =>
        rw [show am_tgt 17 63 0 2 #[27, 37, 47] (nI 1).toInt = 54 by decide]
        simp (disch := first | exact am_nl_i _ | exact am_nl_r _ | exact am_nl_0 | assumption | omega | (refine vi_nI ?_ ?_ <;> omega) | exact b2i_01 _ | exact Or.inl rfl | exact Or.inr rfl | (unfold vi; decide)) only [ex_122_0, ex_122_1, ex_122_4, ex_122_7, ex_122_8, ex_122_11, ex_122_14, ex_122_15, ex_122_16, ex_122_17, ex_122_44, ex_122_45, ex_122_48, ex_122_51, ex_122_52, ex_122_53, ex_122_54, ex_122_55, ex_122_58, ex_122_61, ex_122_62, ex_122_63, ex_122_64, ex_122_65, ex_122_68, ex_122_71, ex_122_72, ex_122_75, ex_122_76, ex_122_79, ex_122_80, ex_122_81, if_true, if_false, and_self, Option.toList_some, Option.toList_none, List.singleton_append, List.cons_append, List.nil_append, List.append_nil, nI_1, nt_e, Int32.le_refl, hr, va_rfs, hC.2.2.2.2.2.2.2.2.2.2.2.2.1, nI_clamp]
        exact Iff.rfl
      | 2, _ =>
        rw [show am_tgt 17 63 0 2 #[27, 37, 47] (nI 2).toInt = 64 by decide]
        simp (disch := first | exact am_nl_i _ | exact am_nl_r _ | exact am_nl_0 | assumption | omega | (refine vi_nI ?_ ?_ <;> omega) | exact b2i_01 _ | exact Or.inl rfl | exact Or.inr rfl | (unfold vi; decide)) only [ex_122_0, ex_122_1, ex_122_4, ex_122_7, ex_122_8, ex_122_11, ex_122_14, ex_122_15, ex_122_16, ex_122_17, ex_122_44, ex_122_45, ex_122_48, ex_122_51, ex_122_52, ex_122_53, ex_122_54, ex_122_55, ex_122_58, ex_122_61, ex_122_62, ex_122_63, ex_122_64, ex_122_65, ex_122_68, ex_122_71, ex_122_72, ex_122_75, ex_122_76, ex_122_79, ex_122_80, ex_122_81, if_true, if_false, and_self, Option.toList_some, Option.toList_none, List.singleton_append, List.cons_append, List.nil_append, List.append_nil, nI_1, nt_e, Int32.le_refl, hr, va_rfs, ableTo_ok shl_65 hL hl hC hW g1]
        exact Iff.rfl
theorem C_lost (hr : FR u 0 2 = some L) (hL : sh L 3 19) (hC : LibC u L v) (hW : WF v) (hl : LifeC u 65 l) : Cl (d + 4) 129 [.ref 0] (am_emb u) post ↔ post (some (.int (goneV v l))) (am_emb u) := by
  rw [op_129]
  simp (disch := first | exact am_nl_i _ | exact am_nl_r _ | exact am_nl_0 | assumption | omega | (refine vi_nI ?_ ?_ <;> omega) | exact b2i_01 _ | exact Or.inl rfl | exact Or.inr rfl | (unfold vi; decide)) only [ex_129_0, ex_129_1, ex_129_4, ex_129_7, ex_129_8, ex_129_11, ex_129_14, if_true, if_false, and_self, Option.toList_some, Option.toList_none, List.singleton_append, List.cons_append, List.nil_append, List.append_nil, nI_1, nt_e, Int32.le_refl, hr, va_rfs, gone_ok shl_65 hL hl hC hW]
/-- with the flag of the last throw put down -/
def th (u : am_U) (x : Int32) : am_U := sFI u 203 0 x
theorem th_R {x : Int32} : LibR (th u x) v ↔ LibR u v := Iff.rfl
theorem th_L {x : Int32} : LifeR (th u x) v l ↔ LifeR u v l := Iff.rfl
theorem th_e (u : am_U) (x : Int32) : sFI u 203 0 x = th u x := rfl
theorem th_AI (u : am_U) (x : Int32) : AI (th u x) = AI u := rfl
theorem R_lost (hR : LibR u v) (hl : LifeR u v l) (hW : WF v) (hw : WL v l) : Cl (d + 4) 244 [.ref 203] (am_emb u) post ↔ post (some (.int (goneV v l))) (am_emb (th u 0)) := by
  rw [op_244]
  simp (disch := first | exact am_nl_i _ | exact am_nl_r _ | exact am_nl_0 | assumption | omega | (refine vi_nI ?_ ?_ <;> omega) | exact b2i_01 _ | exact Or.inl rfl | exact Or.inr rfl | (unfold vi; decide)) only [ex_244_0, ex_244_1, ex_244_2, ex_244_5, ex_244_6, ex_244_9, if_true, if_false, and_self, Option.toList_some, Option.toList_none, List.singleton_append, List.cons_append, List.nil_append, List.append_nil, nI_1, nt_e, Int32.le_refl, th_e, lostNow_ok (th_R.mpr hR) (th_L.mpr hl) hW hw]
theorem within_okI {x : Int32} {n : Nat} (hn : n < 2 ^ 31 - 1) (h : (nI n).toInt = n) : decide ((0 : Int32) ≤ x ∧ x ≤ nI n) = okI x (n + 1) := by
  unfold okI
  simp only [Int32.le_iff_toInt_le, h, Int32.toInt_zero]
  by_cases q : 0 ≤ x.toInt ∧ x.toInt ≤ (n : Int)
  · rw [decide_eq_true q, decide_eq_true (by omega)]
  · rw [decide_eq_false q, decide_eq_false (by omega)]
theorem R_fact {f w : Int32} (hR : LibR u v) (hW : WF v) : Cl (d + 1) 214 [.ref 203, .int f, .int w] (am_emb u) post ↔ post (some (.int (factV v f w))) (am_emb (th u 0)) := by
  refine Cl_iff ?_ post
  have h12 := hW.1.2.1
  have h13 := hW.1.1
  have hR' : LibR (th u 0) v := th_R.mpr hR
  have hn := hR'.1.2.1
  have hs := hR'.2.2.2.2.2.2.1
  rw [op_214]
  simp (disch := first | exact am_nl_i _ | exact am_nl_r _ | exact am_nl_0 | assumption | omega | (refine vi_nI ?_ ?_ <;> omega) | exact b2i_01 _ | exact Or.inl rfl | exact Or.inr rfl | (unfold vi; decide)) only [ex_214_0, ex_214_1, ex_214_2, ex_214_5, ex_214_6, ex_214_7, ex_214_10, ex_214_13, ex_214_14, ex_214_15, ex_214_16, ex_214_19, ex_214_22, ex_214_23, ex_214_24, ex_214_25, ex_214_26, ex_214_29, ex_214_30, ex_214_33, ex_214_34, ex_214_37, ex_214_38, ex_214_39, ex_214_42, ex_214_43, ex_214_46, ex_214_47, ex_214_48, ex_214_49, ex_214_50, ex_214_51, ex_214_52, ex_214_56, ex_214_57, ex_214_60, ex_214_61, ex_214_62, ex_214_65, ex_214_66, ex_214_67, ex_214_70, ex_214_72, ex_214_73, ex_214_74, ex_214_75, ex_214_76, ex_214_77, ex_214_79, ex_214_80, ex_214_81, ex_214_82, ex_214_85, ex_214_88, ex_214_89, if_true, if_false, and_self, Option.toList_some, Option.toList_none, List.singleton_append, List.cons_append, List.nil_append, List.append_nil, nI_1, nt_e, Int32.le_refl, th_e, isFact_ok hR' hW, within_ok, b2i_0, show (2 : Int32) = nI 2 from rfl, within_okI (n := 2) (by decide) rfl]
  have ev : factV v f w = if okI f (nF v) && okI w 3 then (if ix w = 0 then leanV v (ix f) else if ix w = 1 then clashV v (ix f) else pagesOfV v f) else -1 := rfl
  rw [show (2 + 1) = 3 from rfl]
  cases hf : okI f (nF v)
  · rw [if_pos rfl, ev, hf]; (try (first | exact ⟨rfl, rfl⟩ | exact ⟨rfl, trivial⟩))
  · rw [if_neg (by simp)]
    cases hw : okI w 3
    · rw [if_pos rfl, ev, hf, hw]; (try (first | exact ⟨rfl, rfl⟩ | exact ⟨rfl, trivial⟩))
    · rw [if_neg (by simp)]
      obtain ⟨g1, g2⟩ := okI_ix hf
      obtain ⟨k, hk, rfl⟩ := what_in hw
      rw [hf, hw, ix_nI (by omega)] at ev
      simp only [Bool.and_self, if_true] at ev
      match k, hk with
      | 0, _ =>
        rw [ev, if_pos rfl]
        generalize ix f = j at g1 g2
        subst g2
        rw [if_neg (by decide), if_pos (show nI 0 = 0 from rfl)]
        simp (disch := first | exact am_nl_i _ | exact am_nl_r _ | exact am_nl_0 | assumption | omega | (refine vi_nI ?_ ?_ <;> omega) | exact b2i_01 _ | exact Or.inl rfl | exact Or.inr rfl | (unfold vi; decide)) only [ex_214_0, ex_214_1, ex_214_2, ex_214_5, ex_214_6, ex_214_7, ex_214_10, ex_214_13, ex_214_14, ex_214_15, ex_214_16, ex_214_19, ex_214_22, ex_214_23, ex_214_24, ex_214_25, ex_214_26, ex_214_29, ex_214_30, ex_214_33, ex_214_34, ex_214_37, ex_214_38, ex_214_39, ex_214_42, ex_214_43, ex_214_46, ex_214_47, ex_214_48, ex_214_49, ex_214_50, ex_214_51, ex_214_52, ex_214_54, ex_214_56, ex_214_57, ex_214_60, ex_214_61, ex_214_62, ex_214_65, ex_214_66, ex_214_67, ex_214_70, ex_214_72, ex_214_73, ex_214_74, ex_214_75, ex_214_76, ex_214_77, ex_214_79, ex_214_80, ex_214_81, ex_214_82, ex_214_85, ex_214_88, ex_214_89, if_true, if_false, and_self, Option.toList_some, Option.toList_none, List.singleton_append, List.cons_append, List.nil_append, List.append_nil, nI_1, nt_e, Int32.le_refl, hR'.2.1, nI_clamp]
        (try (first | exact ⟨rfl, rfl⟩ | exact ⟨rfl, trivial⟩))
      | 1, _ =>
        rw [ev, if_neg (by decide), if_pos rfl]
        generalize ix f = j at g1 g2
        subst g2
        rw [if_neg (by decide), if_neg (by decide)]
        simp (disch := first | exact am_nl_i _ | exact am_nl_r _ | exact am_nl_0 | assumption | omega | (refine vi_nI ?_ ?_ <;> omega) | exact b2i_01 _ | exact Or.inl rfl | exact Or.inr rfl | (unfold vi; decide)) only [ex_214_0, ex_214_1, ex_214_2, ex_214_5, ex_214_6, ex_214_7, ex_214_10, ex_214_13, ex_214_14, ex_214_15, ex_214_16, ex_214_19, ex_214_22, ex_214_23, ex_214_24, ex_214_25, ex_214_26, ex_214_29, ex_214_30, ex_214_33, ex_214_34, ex_214_37, ex_214_38, ex_214_39, ex_214_42, ex_214_43, ex_214_46, ex_214_47, ex_214_48, ex_214_49, ex_214_50, ex_214_51, ex_214_52, ex_214_54, ex_214_56, ex_214_57, ex_214_60, ex_214_61, ex_214_62, ex_214_65, ex_214_66, ex_214_67, ex_214_70, ex_214_72, ex_214_73, ex_214_74, ex_214_75, ex_214_76, ex_214_77, ex_214_79, ex_214_80, ex_214_81, ex_214_82, ex_214_85, ex_214_88, ex_214_89, if_true, if_false, and_self, Option.toList_some, Option.toList_none, List.singleton_append, List.cons_append, List.nil_append, List.append_nil, nI_1, nt_e, Int32.le_refl, hR'.2.2.1, nI_clamp]
        (try (first | exact ⟨rfl, rfl⟩ | exact ⟨rfl, trivial⟩))
      | 2, _ =>
        rw [ev, if_pos (show nI 2 ≤ nI 2 by decide), if_neg (show ¬ (2 : Nat) = 0 by decide), if_neg (show ¬ (2 : Nat) = 1 by decide)]
        have loop : ∀ (kz i : Nat), i + kz = nP v → Ex (d + 1) 214 54 [some (.ref 203), some (.int f), some (.int (nI 2)), some (.int (orF i (fun i => ((saysV v i >>> (f &&& 31)) &&& 1) <<< (nI i &&& 31)))), some (.int (nI i))] [] (am_emb (th u 0)) (fun w m => w = some (.int (pagesOfV v f)) ∧ m = am_emb (th u 0)) := by
          intro kz
          induction kz with
          | zero =>
            intro i h1
            obtain rfl : i = nP v := by omega
            rw [ex_214_54]
            simp (disch := first | exact am_nl_i _ | exact am_nl_r _ | exact am_nl_0 | assumption | omega | (refine vi_nI ?_ ?_ <;> omega) | exact b2i_01 _ | exact Or.inl rfl | exact Or.inr rfl | (unfold vi; decide)) only [ex_214_0, ex_214_1, ex_214_2, ex_214_5, ex_214_6, ex_214_7, ex_214_10, ex_214_13, ex_214_14, ex_214_15, ex_214_16, ex_214_19, ex_214_22, ex_214_23, ex_214_24, ex_214_25, ex_214_26, ex_214_29, ex_214_30, ex_214_33, ex_214_34, ex_214_37, ex_214_38, ex_214_39, ex_214_42, ex_214_43, ex_214_46, ex_214_47, ex_214_48, ex_214_49, ex_214_50, ex_214_51, ex_214_52, ex_214_56, ex_214_57, ex_214_60, ex_214_61, ex_214_62, ex_214_65, ex_214_66, ex_214_67, ex_214_70, ex_214_72, ex_214_73, ex_214_74, ex_214_75, ex_214_76, ex_214_77, ex_214_79, ex_214_80, ex_214_81, ex_214_82, ex_214_85, ex_214_88, ex_214_89, if_true, if_false, and_self, Option.toList_some, Option.toList_none, List.singleton_append, List.cons_append, List.nil_append, List.append_nil, nI_1, nt_e, Int32.le_refl, c1, hn, hs]
            exact ⟨rfl, trivial⟩
          | succ kz ih =>
            intro i h1
            have hlt : i < nP v := by omega
            have hnle : ¬ nP v ≤ i := by omega
            have h2 := ih (i + 1) (by omega)
            rw [ex_214_54]
            simp (disch := first | exact am_nl_i _ | exact am_nl_r _ | exact am_nl_0 | assumption | omega | (refine vi_nI ?_ ?_ <;> omega) | exact b2i_01 _ | exact Or.inl rfl | exact Or.inr rfl | (unfold vi; decide)) only [ex_214_0, ex_214_1, ex_214_2, ex_214_5, ex_214_6, ex_214_7, ex_214_10, ex_214_13, ex_214_14, ex_214_15, ex_214_16, ex_214_19, ex_214_22, ex_214_23, ex_214_24, ex_214_25, ex_214_26, ex_214_29, ex_214_30, ex_214_33, ex_214_34, ex_214_37, ex_214_38, ex_214_39, ex_214_42, ex_214_43, ex_214_46, ex_214_47, ex_214_48, ex_214_49, ex_214_50, ex_214_51, ex_214_52, ex_214_56, ex_214_57, ex_214_60, ex_214_61, ex_214_62, ex_214_65, ex_214_66, ex_214_67, ex_214_70, ex_214_72, ex_214_73, ex_214_74, ex_214_75, ex_214_76, ex_214_77, ex_214_79, ex_214_80, ex_214_81, ex_214_82, ex_214_85, ex_214_88, ex_214_89, if_true, if_false, and_self, Option.toList_some, Option.toList_none, List.singleton_append, List.cons_append, List.nil_append, List.append_nil, nI_1, nt_e, Int32.le_refl, nI_leI, nI_ltI, hlt, hnle, bit_e, bi_e, nI_clamp, b2i_0, b2i_1, c1, hn, hs]
            rw [orF] at h2; exact h2
        try simp (disch := first | exact am_nl_i _ | exact am_nl_r _ | exact am_nl_0 | assumption | omega | (refine vi_nI ?_ ?_ <;> omega) | exact b2i_01 _ | exact Or.inl rfl | exact Or.inr rfl | (unfold vi; decide)) only [ex_214_0, ex_214_1, ex_214_2, ex_214_5, ex_214_6, ex_214_7, ex_214_10, ex_214_13, ex_214_14, ex_214_15, ex_214_16, ex_214_19, ex_214_22, ex_214_23, ex_214_24, ex_214_25, ex_214_26, ex_214_29, ex_214_30, ex_214_33, ex_214_34, ex_214_37, ex_214_38, ex_214_39, ex_214_42, ex_214_43, ex_214_46, ex_214_47, ex_214_48, ex_214_49, ex_214_50, ex_214_51, ex_214_52, ex_214_56, ex_214_57, ex_214_60, ex_214_61, ex_214_62, ex_214_65, ex_214_66, ex_214_67, ex_214_70, ex_214_72, ex_214_73, ex_214_74, ex_214_75, ex_214_76, ex_214_77, ex_214_79, ex_214_80, ex_214_81, ex_214_82, ex_214_85, ex_214_88, ex_214_89, if_true, if_false, and_self, Option.toList_some, Option.toList_none, List.singleton_append, List.cons_append, List.nil_append, List.append_nil, nI_1, nt_e, Int32.le_refl]
        exact loop (nP v) 0 (by omega)
end Ask
