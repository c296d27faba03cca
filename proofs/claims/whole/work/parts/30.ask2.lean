/-! WHAT IS ASKED: task of the reference, page, the bits of a set -/
def pageV (v : LV) (l : LF) (p w : Int32) : Int32 := if okI p (nP v) && okI w 5 then (if ix w = 0 then kindV v (ix p) else if ix w = 1 then weighV v (ix p) else if ix w = 2 then copL l (ix p) else if ix w = 3 then saysV v (ix p) else eatersL l (ix p)) else -1
theorem lif_f {c : Prop} {i : Decidable c} {a b : Int32} (h : ¬ c) : (if c then a else b) = b := if_neg h
section Ask2
variable {d L : Nat} {u : am_U} {m : am_M} {v : LV} {l : LF} {post : Option Value → am_M → Prop}
theorem able_e (hW : WF v) (hw : WL v l) {t : Nat} (ht : t < nT v) : orF (nE v) (fun p => if livesL l p && canV v (knowsV v (eatL l p)) t then bi p else 0) = ableL v l t := by
  unfold ableL
  rw [orF_ext hW.1.2.2.1 (fun i h1 h2 => by rw [livesL, hw.1 i h1]; rfl)]
  exact orF_congr fun i hi => by rw [tasks_bt hW t ht]
theorem eaters_e (hW : WF v) (hw : WL v l) (k : Nat) : orF (nE v) (fun p => if livesL l p && bt (eatL l p) k then bi p else 0) = eatersL l k := by
  unfold eatersL
  rw [orF_ext hW.1.2.2.1 (fun i h1 h2 => by rw [livesL, hw.1 i h1]; rfl)]
theorem R_task {t w : Int32} (hR : LibR u v) (hl : LifeR u v l) (hW : WF v) (hw : WL v l) : Cl (d + 3) 223 [.ref 203, .int t, .int w] (am_emb u) post ↔ post (some (.int (taskV v l t w))) (am_emb (th u 0)) := by
  refine Cl_iff ?_ post
  have h12 := hW.1.2.2.1
  have h13 := hW.1.2.2.2
  have hR' : LibR (th u 0) v := th_R.mpr hR
  have hl' : LifeR (th u 0) v l := th_L.mpr hl
  have hn := hR'.1.2.2.1
  have hs : ∀ p, p < 6 → AI (th u 0) 241 p = eatL l p := fun p hp => by have := hl'.1 p hp; rwa [Nat.zero_add] at this
  rw [op_223]
  simp (disch := first | exact am_nl_i _ | exact am_nl_r _ | exact am_nl_0 | assumption | omega | (refine vi_nI ?_ ?_ <;> omega) | exact b2i_01 _ | exact Or.inl rfl | exact Or.inr rfl | (unfold vi; decide)) only [ex_223_0, ex_223_1, ex_223_2, ex_223_5, ex_223_6, ex_223_7, ex_223_10, ex_223_13, ex_223_14, ex_223_15, ex_223_16, ex_223_19, ex_223_22, ex_223_23, ex_223_24, ex_223_25, ex_223_26, ex_223_29, ex_223_30, ex_223_33, ex_223_34, ex_223_37, ex_223_38, ex_223_39, ex_223_42, ex_223_43, ex_223_46, ex_223_47, ex_223_48, ex_223_49, ex_223_50, ex_223_51, ex_223_52, ex_223_56, ex_223_57, ex_223_60, ex_223_61, ex_223_62, ex_223_65, ex_223_66, ex_223_67, ex_223_69, ex_223_72, ex_223_75, ex_223_76, ex_223_77, ex_223_78, ex_223_81, ex_223_83, ex_223_84, ex_223_87, ex_223_88, ex_223_91, ex_223_94, ex_223_95, ex_223_97, ex_223_98, ex_223_101, ex_223_102, ex_223_103, ex_223_104, ex_223_107, ex_223_110, ex_223_111, if_true, if_false, and_self, Option.toList_some, Option.toList_none, List.singleton_append, List.cons_append, List.nil_append, List.append_nil, nI_1, nt_e, Int32.le_refl, th_e, isTask_ok hR' hW, within_ok, b2i_0, show (2 : Int32) = nI 2 from rfl, within_okI (n := 2) (by decide) rfl]
  have ev : taskV v l t w = if okI t (nT v) && okI w 3 then (if ix w = 0 then worthV v (ix t) else if ix w = 1 then needV v (ix t) else ableL v l (ix t)) else -1 := rfl
  rw [show (2 + 1) = 3 from rfl]
  cases hf : okI t (nT v)
  · rw [if_pos rfl, ev, hf]; (try (first | exact ⟨rfl, rfl⟩ | exact ⟨rfl, trivial⟩))
  · rw [if_neg (by simp)]
    cases hq : okI w 3
    · rw [if_pos rfl, ev, hf, hq]; (try (first | exact ⟨rfl, rfl⟩ | exact ⟨rfl, trivial⟩))
    · rw [if_neg (by simp)]
      obtain ⟨g1, g2⟩ := okI_ix hf
      obtain ⟨k, hk, rfl⟩ := what_in hq
      rw [hf, hq, ix_nI (by omega)] at ev
      simp only [Bool.and_self, if_true] at ev
      match k, hk with
      | 0, _ =>
        rw [ev, if_pos rfl]
        generalize ix t = j at g1 g2
        subst g2
        rw [if_neg (by decide), if_pos (show nI 0 = 0 from rfl)]
        simp (disch := first | exact am_nl_i _ | exact am_nl_r _ | exact am_nl_0 | assumption | omega | (refine vi_nI ?_ ?_ <;> omega) | exact b2i_01 _ | exact Or.inl rfl | exact Or.inr rfl | (unfold vi; decide)) only [ex_223_0, ex_223_1, ex_223_2, ex_223_5, ex_223_6, ex_223_7, ex_223_10, ex_223_13, ex_223_14, ex_223_15, ex_223_16, ex_223_19, ex_223_22, ex_223_23, ex_223_24, ex_223_25, ex_223_26, ex_223_29, ex_223_30, ex_223_33, ex_223_34, ex_223_37, ex_223_38, ex_223_39, ex_223_42, ex_223_43, ex_223_46, ex_223_47, ex_223_48, ex_223_49, ex_223_50, ex_223_51, ex_223_52, ex_223_54, ex_223_56, ex_223_57, ex_223_60, ex_223_61, ex_223_62, ex_223_65, ex_223_66, ex_223_67, ex_223_69, ex_223_72, ex_223_75, ex_223_76, ex_223_77, ex_223_78, ex_223_81, ex_223_83, ex_223_84, ex_223_87, ex_223_88, ex_223_91, ex_223_94, ex_223_95, ex_223_97, ex_223_98, ex_223_101, ex_223_102, ex_223_103, ex_223_104, ex_223_107, ex_223_110, ex_223_111, if_true, if_false, and_self, Option.toList_some, Option.toList_none, List.singleton_append, List.cons_append, List.nil_append, List.append_nil, nI_1, nt_e, Int32.le_refl, hR'.2.2.2.2.2.2.2.2.2.2.1, nI_clamp]
        (try (first | exact ⟨rfl, rfl⟩ | exact ⟨rfl, trivial⟩))
      | 1, _ =>
        rw [ev, if_neg (by decide), if_pos rfl]
        generalize ix t = j at g1 g2
        subst g2
        rw [if_neg (by decide), if_neg (by decide)]
        simp (disch := first | exact am_nl_i _ | exact am_nl_r _ | exact am_nl_0 | assumption | omega | (refine vi_nI ?_ ?_ <;> omega) | exact b2i_01 _ | exact Or.inl rfl | exact Or.inr rfl | (unfold vi; decide)) only [ex_223_0, ex_223_1, ex_223_2, ex_223_5, ex_223_6, ex_223_7, ex_223_10, ex_223_13, ex_223_14, ex_223_15, ex_223_16, ex_223_19, ex_223_22, ex_223_23, ex_223_24, ex_223_25, ex_223_26, ex_223_29, ex_223_30, ex_223_33, ex_223_34, ex_223_37, ex_223_38, ex_223_39, ex_223_42, ex_223_43, ex_223_46, ex_223_47, ex_223_48, ex_223_49, ex_223_50, ex_223_51, ex_223_52, ex_223_54, ex_223_56, ex_223_57, ex_223_60, ex_223_61, ex_223_62, ex_223_65, ex_223_66, ex_223_67, ex_223_69, ex_223_72, ex_223_75, ex_223_76, ex_223_77, ex_223_78, ex_223_81, ex_223_83, ex_223_84, ex_223_87, ex_223_88, ex_223_91, ex_223_94, ex_223_95, ex_223_97, ex_223_98, ex_223_101, ex_223_102, ex_223_103, ex_223_104, ex_223_107, ex_223_110, ex_223_111, if_true, if_false, and_self, Option.toList_some, Option.toList_none, List.singleton_append, List.cons_append, List.nil_append, List.append_nil, nI_1, nt_e, Int32.le_refl, hR'.2.2.2.2.2.2.2.2.2.2.2, nI_clamp]
        (try (first | exact ⟨rfl, rfl⟩ | exact ⟨rfl, trivial⟩))
      | 2, _ =>
        rw [ev, if_pos (show nI 2 ≤ nI 2 by decide), if_neg (show ¬ (2 : Nat) = 0 by decide), if_neg (show ¬ (2 : Nat) = 1 by decide)]
        generalize ix t = j at g1 g2
        subst g2
        rw [← able_e hW hw g1]
        have loop : ∀ (kz i : Nat), i + kz = nE v → Ex (d + 3) 223 54 [some (.ref 203), some (.int (nI j)), some (.int (nI 2)), some (.int (orF i (fun p => if livesL l p && canV v (knowsV v (eatL l p)) j then bi p else 0))), some (.int (nI i))] [] (am_emb (th u 0)) (fun w m => w = some (.int (orF (nE v) (fun p => if livesL l p && canV v (knowsV v (eatL l p)) j then bi p else 0))) ∧ m = am_emb (th u 0)) := by
          intro kz
          induction kz with
          | zero =>
            intro i h1
            obtain rfl : i = nE v := by omega
            rw [ex_223_54]
            simp (disch := first | exact am_nl_i _ | exact am_nl_r _ | exact am_nl_0 | assumption | omega | (refine vi_nI ?_ ?_ <;> omega) | exact b2i_01 _ | exact Or.inl rfl | exact Or.inr rfl | (unfold vi; decide)) only [ex_223_0, ex_223_1, ex_223_2, ex_223_5, ex_223_6, ex_223_7, ex_223_10, ex_223_13, ex_223_14, ex_223_15, ex_223_16, ex_223_19, ex_223_22, ex_223_23, ex_223_24, ex_223_25, ex_223_26, ex_223_29, ex_223_30, ex_223_33, ex_223_34, ex_223_37, ex_223_38, ex_223_39, ex_223_42, ex_223_43, ex_223_46, ex_223_47, ex_223_48, ex_223_49, ex_223_50, ex_223_51, ex_223_52, ex_223_56, ex_223_57, ex_223_60, ex_223_61, ex_223_62, ex_223_65, ex_223_66, ex_223_67, ex_223_69, ex_223_72, ex_223_75, ex_223_76, ex_223_77, ex_223_78, ex_223_81, ex_223_83, ex_223_84, ex_223_87, ex_223_88, ex_223_91, ex_223_94, ex_223_95, ex_223_97, ex_223_98, ex_223_101, ex_223_102, ex_223_103, ex_223_104, ex_223_107, ex_223_110, ex_223_111, if_true, if_false, and_self, Option.toList_some, Option.toList_none, List.singleton_append, List.cons_append, List.nil_append, List.append_nil, nI_1, nt_e, Int32.le_refl, c2, hn, hs, isAlive_ok hR' hl' hW hw, livesI_nI, knows_ok hR' hW, canBy_ok hR' hW g1]
            (try exact ⟨rfl, trivial⟩)
          | succ kz ih =>
            intro i h1
            have hlt : i < nE v := by omega
            have hnle : ¬ nE v ≤ i := by omega
            have h2 := ih (i + 1) (by omega)
            rw [ex_223_54]
            simp (disch := first | exact am_nl_i _ | exact am_nl_r _ | exact am_nl_0 | assumption | omega | (refine vi_nI ?_ ?_ <;> omega) | exact b2i_01 _ | exact Or.inl rfl | exact Or.inr rfl | (unfold vi; decide)) only [ex_223_0, ex_223_1, ex_223_2, ex_223_5, ex_223_6, ex_223_7, ex_223_10, ex_223_13, ex_223_14, ex_223_15, ex_223_16, ex_223_19, ex_223_22, ex_223_23, ex_223_24, ex_223_25, ex_223_26, ex_223_29, ex_223_30, ex_223_33, ex_223_34, ex_223_37, ex_223_38, ex_223_39, ex_223_42, ex_223_43, ex_223_46, ex_223_47, ex_223_48, ex_223_49, ex_223_50, ex_223_51, ex_223_52, ex_223_56, ex_223_57, ex_223_60, ex_223_61, ex_223_62, ex_223_65, ex_223_66, ex_223_67, ex_223_69, ex_223_72, ex_223_75, ex_223_76, ex_223_77, ex_223_78, ex_223_81, ex_223_83, ex_223_84, ex_223_87, ex_223_88, ex_223_91, ex_223_94, ex_223_95, ex_223_97, ex_223_98, ex_223_101, ex_223_102, ex_223_103, ex_223_104, ex_223_107, ex_223_110, ex_223_111, if_true, if_false, and_self, Option.toList_some, Option.toList_none, List.singleton_append, List.cons_append, List.nil_append, List.append_nil, nI_1, nt_e, Int32.le_refl, nI_leI, nI_ltI, hlt, hnle, bit_e, bi_e, nI_clamp, b2i_0, b2i_1, c2, hn, hs, isAlive_ok hR' hl' hW hw, livesI_nI, knows_ok hR' hW, canBy_ok hR' hW g1]
            rw [orF] at h2; cases ha : livesL l i <;> cases hq : canV v (knowsV v (eatL l i)) j <;> simpa [ha, hq, or_0] using h2
        try simp (disch := first | exact am_nl_i _ | exact am_nl_r _ | exact am_nl_0 | assumption | omega | (refine vi_nI ?_ ?_ <;> omega) | exact b2i_01 _ | exact Or.inl rfl | exact Or.inr rfl | (unfold vi; decide)) only [ex_223_0, ex_223_1, ex_223_2, ex_223_5, ex_223_6, ex_223_7, ex_223_10, ex_223_13, ex_223_14, ex_223_15, ex_223_16, ex_223_19, ex_223_22, ex_223_23, ex_223_24, ex_223_25, ex_223_26, ex_223_29, ex_223_30, ex_223_33, ex_223_34, ex_223_37, ex_223_38, ex_223_39, ex_223_42, ex_223_43, ex_223_46, ex_223_47, ex_223_48, ex_223_49, ex_223_50, ex_223_51, ex_223_52, ex_223_56, ex_223_57, ex_223_60, ex_223_61, ex_223_62, ex_223_65, ex_223_66, ex_223_67, ex_223_69, ex_223_72, ex_223_75, ex_223_76, ex_223_77, ex_223_78, ex_223_81, ex_223_83, ex_223_84, ex_223_87, ex_223_88, ex_223_91, ex_223_94, ex_223_95, ex_223_97, ex_223_98, ex_223_101, ex_223_102, ex_223_103, ex_223_104, ex_223_107, ex_223_110, ex_223_111, if_true, if_false, and_self, Option.toList_some, Option.toList_none, List.singleton_append, List.cons_append, List.nil_append, List.append_nil, nI_1, nt_e, Int32.le_refl]
        exact loop (nE v) 0 (by omega)
theorem C_page {p w : Int32} (hr : FR u 0 2 = some L) (hL : sh L 3 19) (hC : LibC u L v) (hW : WF v) (hl : LifeC u 65 l) : Cl (d + 2) 120 [.ref 0, .int p, .int w] (am_emb u) post ↔ post (some (.int (pageV v l p w))) (am_emb u) := by
  have h12 := hW.1.2.1
  rw [op_120]
  simp (disch := first | exact am_nl_i _ | exact am_nl_r _ | exact am_nl_0 | assumption | omega | (refine vi_nI ?_ ?_ <;> omega) | exact b2i_01 _ | exact Or.inl rfl | exact Or.inr rfl | (unfold vi; decide)) only [ex_120_0, ex_120_1, ex_120_4, ex_120_7, ex_120_8, ex_120_11, ex_120_14, ex_120_15, ex_120_16, ex_120_17, ex_120_52, ex_120_53, ex_120_56, ex_120_59, ex_120_60, ex_120_61, ex_120_62, ex_120_63, ex_120_66, ex_120_69, ex_120_70, ex_120_71, ex_120_72, ex_120_73, ex_120_76, ex_120_79, ex_120_82, ex_120_83, ex_120_84, ex_120_85, ex_120_86, ex_120_89, ex_120_92, ex_120_93, ex_120_94, ex_120_95, ex_120_96, ex_120_99, ex_120_102, ex_120_103, ex_120_106, ex_120_107, ex_120_108, if_true, if_false, and_self, Option.toList_some, Option.toList_none, List.singleton_append, List.cons_append, List.nil_append, List.append_nil, nI_1, nt_e, Int32.le_refl, hr, va_rfs, has_ok (sh_3_3 hL) hC.1.2.1 hC.2.1.2.1 hW.1.2.1 hW.1.2.1 (Nat.le_refl 12), b2i_0]
  unfold pageV
  rw [show decide (0 ≤ p.toInt ∧ p.toInt < (nP v : Int)) = okI p (nP v) from rfl]
  cases hf : okI p (nP v)
  · rfl
  · rw [if_neg (by simp), Bool.true_and]
    cases hq : okI w 5
    · rw [tgt_out 5 rfl hq, show am_jmp 17 90 = 107 by decide]
      simp (disch := first | exact am_nl_i _ | exact am_nl_r _ | exact am_nl_0 | assumption | omega | (refine vi_nI ?_ ?_ <;> omega) | exact b2i_01 _ | exact Or.inl rfl | exact Or.inr rfl | (unfold vi; decide)) only [ex_120_0, ex_120_1, ex_120_4, ex_120_7, ex_120_8, ex_120_11, ex_120_14, ex_120_15, ex_120_16, ex_120_17, ex_120_52, ex_120_53, ex_120_56, ex_120_59, ex_120_60, ex_120_61, ex_120_62, ex_120_63, ex_120_66, ex_120_69, ex_120_70, ex_120_71, ex_120_72, ex_120_73, ex_120_76, ex_120_79, ex_120_82, ex_120_83, ex_120_84, ex_120_85, ex_120_86, ex_120_89, ex_120_92, ex_120_93, ex_120_94, ex_120_95, ex_120_96, ex_120_99, ex_120_102, ex_120_103, ex_120_106, ex_120_107, ex_120_108, if_true, if_false, and_self, Option.toList_some, Option.toList_none, List.singleton_append, List.cons_append, List.nil_append, List.append_nil, nI_1, nt_e, Int32.le_refl]
      exact Iff.rfl
    · obtain ⟨g1, g2⟩ := okI_ix hf
      obtain ⟨k, hk, rfl⟩ := what_in hq
      rw [ix_nI (by omega), if_pos rfl]
      generalize ix p = j at g1 g2
      subst g2
      match k, hk with
      | 0, _ =>
        rw [show am_tgt 17 90 0 4 #[35, 45, 55, 68, 78] (nI 0).toInt = 52 by decide]
        simp (disch := first | exact am_nl_i _ | exact am_nl_r _ | exact am_nl_0 | assumption | omega | (refine vi_nI ?_ ?_ <;> omega) | exact b2i_01 _ | exact Or.inl rfl | exact Or.inr rfl | (unfold vi; decide)) only [ex_120_0, ex_120_1, ex_120_4, ex_120_7, ex_120_8, ex_120_11, ex_120_14, ex_120_15, ex_120_16, ex_120_17, ex_120_52, ex_120_53, ex_120_56, ex_120_59, ex_120_60, ex_120_61, ex_120_62, ex_120_63, ex_120_66, ex_120_69, ex_120_70, ex_120_71, ex_120_72, ex_120_73, ex_120_76, ex_120_79, ex_120_82, ex_120_83, ex_120_84, ex_120_85, ex_120_86, ex_120_89, ex_120_92, ex_120_93, ex_120_94, ex_120_95, ex_120_96, ex_120_99, ex_120_102, ex_120_103, ex_120_106, ex_120_107, ex_120_108, if_true, if_false, and_self, Option.toList_some, Option.toList_none, List.singleton_append, List.cons_append, List.nil_append, List.append_nil, nI_1, nt_e, Int32.le_refl, hr, va_rfs, hC.2.2.2.2.1, nI_clamp]
      | 1, _ =>
        rw [show am_tgt 17 90 0 4 #[35, 45, 55, 68, 78] (nI 1).toInt = 62 by decide]
        simp (disch := first | exact am_nl_i _ | exact am_nl_r _ | exact am_nl_0 | assumption | omega | (refine vi_nI ?_ ?_ <;> omega) | exact b2i_01 _ | exact Or.inl rfl | exact Or.inr rfl | (unfold vi; decide)) only [ex_120_0, ex_120_1, ex_120_4, ex_120_7, ex_120_8, ex_120_11, ex_120_14, ex_120_15, ex_120_16, ex_120_17, ex_120_52, ex_120_53, ex_120_56, ex_120_59, ex_120_60, ex_120_61, ex_120_62, ex_120_63, ex_120_66, ex_120_69, ex_120_70, ex_120_71, ex_120_72, ex_120_73, ex_120_76, ex_120_79, ex_120_82, ex_120_83, ex_120_84, ex_120_85, ex_120_86, ex_120_89, ex_120_92, ex_120_93, ex_120_94, ex_120_95, ex_120_96, ex_120_99, ex_120_102, ex_120_103, ex_120_106, ex_120_107, ex_120_108, if_true, if_false, and_self, Option.toList_some, Option.toList_none, List.singleton_append, List.cons_append, List.nil_append, List.append_nil, nI_1, nt_e, Int32.le_refl, hr, va_rfs, hC.2.2.2.2.2.1, nI_clamp]
        exact Iff.rfl
      | 2, _ =>
        rw [show am_tgt 17 90 0 4 #[35, 45, 55, 68, 78] (nI 2).toInt = 72 by decide]
        simp (disch := first | exact am_nl_i _ | exact am_nl_r _ | exact am_nl_0 | assumption | omega | (refine vi_nI ?_ ?_ <;> omega) | exact b2i_01 _ | exact Or.inl rfl | exact Or.inr rfl | (unfold vi; decide)) only [ex_120_0, ex_120_1, ex_120_4, ex_120_7, ex_120_8, ex_120_11, ex_120_14, ex_120_15, ex_120_16, ex_120_17, ex_120_52, ex_120_53, ex_120_56, ex_120_59, ex_120_60, ex_120_61, ex_120_62, ex_120_63, ex_120_66, ex_120_69, ex_120_70, ex_120_71, ex_120_72, ex_120_73, ex_120_76, ex_120_79, ex_120_82, ex_120_83, ex_120_84, ex_120_85, ex_120_86, ex_120_89, ex_120_92, ex_120_93, ex_120_94, ex_120_95, ex_120_96, ex_120_99, ex_120_102, ex_120_103, ex_120_106, ex_120_107, ex_120_108, if_true, if_false, and_self, Option.toList_some, Option.toList_none, List.singleton_append, List.cons_append, List.nil_append, List.append_nil, nI_1, nt_e, Int32.le_refl, hr, va_rfs, hl.2.2.1, nI_clamp]
        exact Iff.rfl
      | 3, _ =>
        rw [show am_tgt 17 90 0 4 #[35, 45, 55, 68, 78] (nI 3).toInt = 85 by decide]
        simp (disch := first | exact am_nl_i _ | exact am_nl_r _ | exact am_nl_0 | assumption | omega | (refine vi_nI ?_ ?_ <;> omega) | exact b2i_01 _ | exact Or.inl rfl | exact Or.inr rfl | (unfold vi; decide)) only [ex_120_0, ex_120_1, ex_120_4, ex_120_7, ex_120_8, ex_120_11, ex_120_14, ex_120_15, ex_120_16, ex_120_17, ex_120_52, ex_120_53, ex_120_56, ex_120_59, ex_120_60, ex_120_61, ex_120_62, ex_120_63, ex_120_66, ex_120_69, ex_120_70, ex_120_71, ex_120_72, ex_120_73, ex_120_76, ex_120_79, ex_120_82, ex_120_83, ex_120_84, ex_120_85, ex_120_86, ex_120_89, ex_120_92, ex_120_93, ex_120_94, ex_120_95, ex_120_96, ex_120_99, ex_120_102, ex_120_103, ex_120_106, ex_120_107, ex_120_108, if_true, if_false, and_self, Option.toList_some, Option.toList_none, List.singleton_append, List.cons_append, List.nil_append, List.append_nil, nI_1, nt_e, Int32.le_refl, hr, va_rfs, hC.2.2.2.2.2.2.2.1, nI_clamp]
        exact Iff.rfl
      | 4, _ =>
        rw [show am_tgt 17 90 0 4 #[35, 45, 55, 68, 78] (nI 4).toInt = 95 by decide]
        simp (disch := first | exact am_nl_i _ | exact am_nl_r _ | exact am_nl_0 | assumption | omega | (refine vi_nI ?_ ?_ <;> omega) | exact b2i_01 _ | exact Or.inl rfl | exact Or.inr rfl | (unfold vi; decide)) only [ex_120_0, ex_120_1, ex_120_4, ex_120_7, ex_120_8, ex_120_11, ex_120_14, ex_120_15, ex_120_16, ex_120_17, ex_120_52, ex_120_53, ex_120_56, ex_120_59, ex_120_60, ex_120_61, ex_120_62, ex_120_63, ex_120_66, ex_120_69, ex_120_70, ex_120_71, ex_120_72, ex_120_73, ex_120_76, ex_120_79, ex_120_82, ex_120_83, ex_120_84, ex_120_85, ex_120_86, ex_120_89, ex_120_92, ex_120_93, ex_120_94, ex_120_95, ex_120_96, ex_120_99, ex_120_102, ex_120_103, ex_120_106, ex_120_107, ex_120_108, if_true, if_false, and_self, Option.toList_some, Option.toList_none, List.singleton_append, List.cons_append, List.nil_append, List.append_nil, nI_1, nt_e, Int32.le_refl, hr, va_rfs, eatersOf_ok shl_65 hl]
        exact Iff.rfl
theorem R_page {p w : Int32} (hR : LibR u v) (hl : LifeR u v l) (hW : WF v) (hw : WL v l) : Cl (d + 2) 215 [.ref 203, .int p, .int w] (am_emb u) post ↔ post (some (.int (pageV v l p w))) (am_emb (th u 0)) := by
  refine Cl_iff ?_ post
  have h12 := hW.1.2.2.1
  have h13 := hW.1.2.1
  have hR' : LibR (th u 0) v := th_R.mpr hR
  have hl' : LifeR (th u 0) v l := th_L.mpr hl
  have hn := hR'.1.2.2.1
  have hs : ∀ p, p < 6 → AI (th u 0) 241 p = eatL l p := fun p hp => by have := hl'.1 p hp; rwa [Nat.zero_add] at this
  have hc : ∀ k, k < 12 → AI (th u 0) 241 (13 + k) = copL l k := fun k hk => by have := hl'.2.2.2.1 k hk; rwa [Nat.zero_add] at this
  rw [op_215]
  simp (disch := first | exact am_nl_i _ | exact am_nl_r _ | exact am_nl_0 | assumption | omega | (refine vi_nI ?_ ?_ <;> omega) | exact b2i_01 _ | exact Or.inl rfl | exact Or.inr rfl | (unfold vi; decide)) only [ex_215_0, ex_215_1, ex_215_2, ex_215_5, ex_215_6, ex_215_7, ex_215_10, ex_215_13, ex_215_14, ex_215_15, ex_215_16, ex_215_19, ex_215_22, ex_215_23, ex_215_24, ex_215_25, ex_215_26, ex_215_29, ex_215_30, ex_215_33, ex_215_34, ex_215_37, ex_215_38, ex_215_39, ex_215_42, ex_215_43, ex_215_44, ex_215_47, ex_215_48, ex_215_51, ex_215_52, ex_215_53, ex_215_56, ex_215_57, ex_215_58, ex_215_61, ex_215_62, ex_215_65, ex_215_67, ex_215_68, ex_215_69, ex_215_70, ex_215_73, ex_215_74, ex_215_77, ex_215_78, ex_215_79, ex_215_80, ex_215_81, ex_215_82, ex_215_83, ex_215_87, ex_215_88, ex_215_91, ex_215_92, ex_215_93, ex_215_96, ex_215_97, ex_215_98, ex_215_100, ex_215_103, ex_215_106, ex_215_107, ex_215_110, ex_215_112, ex_215_113, ex_215_114, ex_215_115, ex_215_116, ex_215_117, ex_215_118, ex_215_121, ex_215_122, ex_215_124, ex_215_125, ex_215_128, ex_215_129, ex_215_130, ex_215_131, ex_215_134, ex_215_137, ex_215_138, if_true, if_false, and_self, Option.toList_some, Option.toList_none, List.singleton_append, List.cons_append, List.nil_append, List.append_nil, nI_1, nt_e, Int32.le_refl, th_e, isPage_ok hR' hW, within_ok, b2i_0, show (4 : Int32) = nI 4 from rfl, within_okI (n := 4) (by decide) rfl]
  have ev : pageV v l p w = if okI p (nP v) && okI w 5 then (if ix w = 0 then kindV v (ix p) else if ix w = 1 then weighV v (ix p) else if ix w = 2 then copL l (ix p) else if ix w = 3 then saysV v (ix p) else eatersL l (ix p)) else -1 := rfl
  rw [show (4 + 1) = 5 from rfl]
  cases hf : okI p (nP v)
  · rw [if_pos rfl, ev, hf]; (try (first | exact ⟨rfl, rfl⟩ | exact ⟨rfl, trivial⟩))
  · rw [if_neg (by simp)]
    cases hq : okI w 5
    · rw [if_pos rfl, ev, hf, hq]; (try (first | exact ⟨rfl, rfl⟩ | exact ⟨rfl, trivial⟩))
    · rw [if_neg (by simp)]
      obtain ⟨g1, g2⟩ := okI_ix hf
      obtain ⟨k, hk, rfl⟩ := what_in hq
      rw [hf, hq, ix_nI (by omega)] at ev
      simp only [Bool.and_self, if_true] at ev
      generalize ix p = j at g1 g2 ev
      subst g2
      match k, hk with
      | 0, _ =>
        simp (decide := true) only [ev, ↓reduceIte]
        simp (disch := first | exact am_nl_i _ | exact am_nl_r _ | exact am_nl_0 | assumption | omega | (refine vi_nI ?_ ?_ <;> omega) | exact b2i_01 _ | exact Or.inl rfl | exact Or.inr rfl | (unfold vi; decide)) only [ex_215_0, ex_215_1, ex_215_2, ex_215_5, ex_215_6, ex_215_7, ex_215_10, ex_215_13, ex_215_14, ex_215_15, ex_215_16, ex_215_19, ex_215_22, ex_215_23, ex_215_24, ex_215_25, ex_215_26, ex_215_29, ex_215_30, ex_215_33, ex_215_34, ex_215_37, ex_215_38, ex_215_39, ex_215_42, ex_215_43, ex_215_44, ex_215_47, ex_215_48, ex_215_51, ex_215_52, ex_215_53, ex_215_56, ex_215_57, ex_215_58, ex_215_61, ex_215_62, ex_215_65, ex_215_67, ex_215_68, ex_215_69, ex_215_70, ex_215_73, ex_215_74, ex_215_77, ex_215_78, ex_215_79, ex_215_80, ex_215_81, ex_215_82, ex_215_83, ex_215_85, ex_215_87, ex_215_88, ex_215_91, ex_215_92, ex_215_93, ex_215_96, ex_215_97, ex_215_98, ex_215_100, ex_215_103, ex_215_106, ex_215_107, ex_215_110, ex_215_112, ex_215_113, ex_215_114, ex_215_115, ex_215_116, ex_215_117, ex_215_118, ex_215_121, ex_215_122, ex_215_124, ex_215_125, ex_215_128, ex_215_129, ex_215_130, ex_215_131, ex_215_134, ex_215_137, ex_215_138, if_true, if_false, and_self, Option.toList_some, Option.toList_none, List.singleton_append, List.cons_append, List.nil_append, List.append_nil, nI_1, nt_e, Int32.le_refl, hR'.2.2.2.1, nI_clamp]
        (try (first | exact ⟨rfl, rfl⟩ | exact ⟨rfl, trivial⟩))
      | 1, _ =>
        simp (decide := true) only [ev, ↓reduceIte]
        simp (disch := first | exact am_nl_i _ | exact am_nl_r _ | exact am_nl_0 | assumption | omega | (refine vi_nI ?_ ?_ <;> omega) | exact b2i_01 _ | exact Or.inl rfl | exact Or.inr rfl | (unfold vi; decide)) only [ex_215_0, ex_215_1, ex_215_2, ex_215_5, ex_215_6, ex_215_7, ex_215_10, ex_215_13, ex_215_14, ex_215_15, ex_215_16, ex_215_19, ex_215_22, ex_215_23, ex_215_24, ex_215_25, ex_215_26, ex_215_29, ex_215_30, ex_215_33, ex_215_34, ex_215_37, ex_215_38, ex_215_39, ex_215_42, ex_215_43, ex_215_44, ex_215_47, ex_215_48, ex_215_51, ex_215_52, ex_215_53, ex_215_56, ex_215_57, ex_215_58, ex_215_61, ex_215_62, ex_215_65, ex_215_67, ex_215_68, ex_215_69, ex_215_70, ex_215_73, ex_215_74, ex_215_77, ex_215_78, ex_215_79, ex_215_80, ex_215_81, ex_215_82, ex_215_83, ex_215_85, ex_215_87, ex_215_88, ex_215_91, ex_215_92, ex_215_93, ex_215_96, ex_215_97, ex_215_98, ex_215_100, ex_215_103, ex_215_106, ex_215_107, ex_215_110, ex_215_112, ex_215_113, ex_215_114, ex_215_115, ex_215_116, ex_215_117, ex_215_118, ex_215_121, ex_215_122, ex_215_124, ex_215_125, ex_215_128, ex_215_129, ex_215_130, ex_215_131, ex_215_134, ex_215_137, ex_215_138, if_true, if_false, and_self, Option.toList_some, Option.toList_none, List.singleton_append, List.cons_append, List.nil_append, List.append_nil, nI_1, nt_e, Int32.le_refl, hR'.2.2.2.2.1, nI_clamp]
        (try (first | exact ⟨rfl, rfl⟩ | exact ⟨rfl, trivial⟩))
      | 2, _ =>
        simp (decide := true) only [ev, ↓reduceIte]
        simp (disch := first | exact am_nl_i _ | exact am_nl_r _ | exact am_nl_0 | assumption | omega | (refine vi_nI ?_ ?_ <;> omega) | exact b2i_01 _ | exact Or.inl rfl | exact Or.inr rfl | (unfold vi; decide)) only [ex_215_0, ex_215_1, ex_215_2, ex_215_5, ex_215_6, ex_215_7, ex_215_10, ex_215_13, ex_215_14, ex_215_15, ex_215_16, ex_215_19, ex_215_22, ex_215_23, ex_215_24, ex_215_25, ex_215_26, ex_215_29, ex_215_30, ex_215_33, ex_215_34, ex_215_37, ex_215_38, ex_215_39, ex_215_42, ex_215_43, ex_215_44, ex_215_47, ex_215_48, ex_215_51, ex_215_52, ex_215_53, ex_215_56, ex_215_57, ex_215_58, ex_215_61, ex_215_62, ex_215_65, ex_215_67, ex_215_68, ex_215_69, ex_215_70, ex_215_73, ex_215_74, ex_215_77, ex_215_78, ex_215_79, ex_215_80, ex_215_81, ex_215_82, ex_215_83, ex_215_85, ex_215_87, ex_215_88, ex_215_91, ex_215_92, ex_215_93, ex_215_96, ex_215_97, ex_215_98, ex_215_100, ex_215_103, ex_215_106, ex_215_107, ex_215_110, ex_215_112, ex_215_113, ex_215_114, ex_215_115, ex_215_116, ex_215_117, ex_215_118, ex_215_121, ex_215_122, ex_215_124, ex_215_125, ex_215_128, ex_215_129, ex_215_130, ex_215_131, ex_215_134, ex_215_137, ex_215_138, if_true, if_false, and_self, Option.toList_some, Option.toList_none, List.singleton_append, List.cons_append, List.nil_append, List.append_nil, nI_1, nt_e, Int32.le_refl, hc, nI13, nI_clamp]
        (try (first | exact ⟨rfl, rfl⟩ | exact ⟨rfl, trivial⟩))
      | 3, _ =>
        simp (decide := true) only [ev, ↓reduceIte]
        simp (disch := first | exact am_nl_i _ | exact am_nl_r _ | exact am_nl_0 | assumption | omega | (refine vi_nI ?_ ?_ <;> omega) | exact b2i_01 _ | exact Or.inl rfl | exact Or.inr rfl | (unfold vi; decide)) only [ex_215_0, ex_215_1, ex_215_2, ex_215_5, ex_215_6, ex_215_7, ex_215_10, ex_215_13, ex_215_14, ex_215_15, ex_215_16, ex_215_19, ex_215_22, ex_215_23, ex_215_24, ex_215_25, ex_215_26, ex_215_29, ex_215_30, ex_215_33, ex_215_34, ex_215_37, ex_215_38, ex_215_39, ex_215_42, ex_215_43, ex_215_44, ex_215_47, ex_215_48, ex_215_51, ex_215_52, ex_215_53, ex_215_56, ex_215_57, ex_215_58, ex_215_61, ex_215_62, ex_215_65, ex_215_67, ex_215_68, ex_215_69, ex_215_70, ex_215_73, ex_215_74, ex_215_77, ex_215_78, ex_215_79, ex_215_80, ex_215_81, ex_215_82, ex_215_83, ex_215_85, ex_215_87, ex_215_88, ex_215_91, ex_215_92, ex_215_93, ex_215_96, ex_215_97, ex_215_98, ex_215_100, ex_215_103, ex_215_106, ex_215_107, ex_215_110, ex_215_112, ex_215_113, ex_215_114, ex_215_115, ex_215_116, ex_215_117, ex_215_118, ex_215_121, ex_215_122, ex_215_124, ex_215_125, ex_215_128, ex_215_129, ex_215_130, ex_215_131, ex_215_134, ex_215_137, ex_215_138, if_true, if_false, and_self, Option.toList_some, Option.toList_none, List.singleton_append, List.cons_append, List.nil_append, List.append_nil, nI_1, nt_e, Int32.le_refl, hR'.2.2.2.2.2.2.1, nI_clamp]
        (try (first | exact ⟨rfl, rfl⟩ | exact ⟨rfl, trivial⟩))
      | 4, _ =>
        simp (decide := true) only [ev, ↓reduceIte]
        rw [← eaters_e hW hw]
        have loop : ∀ (kz i : Nat), i + kz = nE v → Ex (d + 2) 215 85 [some (.ref 203), some (.int (nI j)), some (.int (nI 4)), some (.int (orF i (fun p => if livesL l p && bt (eatL l p) j then bi p else 0))), some (.int (nI i))] [] (am_emb (th u 0)) (fun w m => w = some (.int (orF (nE v) (fun p => if livesL l p && bt (eatL l p) j then bi p else 0))) ∧ m = am_emb (th u 0)) := by
          intro kz
          induction kz with
          | zero =>
            intro i h1
            obtain rfl : i = nE v := by omega
            rw [ex_215_85]
            simp (disch := first | exact am_nl_i _ | exact am_nl_r _ | exact am_nl_0 | assumption | omega | (refine vi_nI ?_ ?_ <;> omega) | exact b2i_01 _ | exact Or.inl rfl | exact Or.inr rfl | (unfold vi; decide)) only [ex_215_0, ex_215_1, ex_215_2, ex_215_5, ex_215_6, ex_215_7, ex_215_10, ex_215_13, ex_215_14, ex_215_15, ex_215_16, ex_215_19, ex_215_22, ex_215_23, ex_215_24, ex_215_25, ex_215_26, ex_215_29, ex_215_30, ex_215_33, ex_215_34, ex_215_37, ex_215_38, ex_215_39, ex_215_42, ex_215_43, ex_215_44, ex_215_47, ex_215_48, ex_215_51, ex_215_52, ex_215_53, ex_215_56, ex_215_57, ex_215_58, ex_215_61, ex_215_62, ex_215_65, ex_215_67, ex_215_68, ex_215_69, ex_215_70, ex_215_73, ex_215_74, ex_215_77, ex_215_78, ex_215_79, ex_215_80, ex_215_81, ex_215_82, ex_215_83, ex_215_87, ex_215_88, ex_215_91, ex_215_92, ex_215_93, ex_215_96, ex_215_97, ex_215_98, ex_215_100, ex_215_103, ex_215_106, ex_215_107, ex_215_110, ex_215_112, ex_215_113, ex_215_114, ex_215_115, ex_215_116, ex_215_117, ex_215_118, ex_215_121, ex_215_122, ex_215_124, ex_215_125, ex_215_128, ex_215_129, ex_215_130, ex_215_131, ex_215_134, ex_215_137, ex_215_138, if_true, if_false, and_self, Option.toList_some, Option.toList_none, List.singleton_append, List.cons_append, List.nil_append, List.append_nil, nI_1, nt_e, Int32.le_refl, c2, hn, hs, isAlive_ok hR' hl' hW hw, livesI_nI]
            (try exact ⟨rfl, trivial⟩)
          | succ kz ih =>
            intro i h1
            have hlt : i < nE v := by omega
            have hnle : ¬ nE v ≤ i := by omega
            have h2 := ih (i + 1) (by omega)
            rw [ex_215_85]
            simp (disch := first | exact am_nl_i _ | exact am_nl_r _ | exact am_nl_0 | assumption | omega | (refine vi_nI ?_ ?_ <;> omega) | exact b2i_01 _ | exact Or.inl rfl | exact Or.inr rfl | (unfold vi; decide)) only [ex_215_0, ex_215_1, ex_215_2, ex_215_5, ex_215_6, ex_215_7, ex_215_10, ex_215_13, ex_215_14, ex_215_15, ex_215_16, ex_215_19, ex_215_22, ex_215_23, ex_215_24, ex_215_25, ex_215_26, ex_215_29, ex_215_30, ex_215_33, ex_215_34, ex_215_37, ex_215_38, ex_215_39, ex_215_42, ex_215_43, ex_215_44, ex_215_47, ex_215_48, ex_215_51, ex_215_52, ex_215_53, ex_215_56, ex_215_57, ex_215_58, ex_215_61, ex_215_62, ex_215_65, ex_215_67, ex_215_68, ex_215_69, ex_215_70, ex_215_73, ex_215_74, ex_215_77, ex_215_78, ex_215_79, ex_215_80, ex_215_81, ex_215_82, ex_215_83, ex_215_87, ex_215_88, ex_215_91, ex_215_92, ex_215_93, ex_215_96, ex_215_97, ex_215_98, ex_215_100, ex_215_103, ex_215_106, ex_215_107, ex_215_110, ex_215_112, ex_215_113, ex_215_114, ex_215_115, ex_215_116, ex_215_117, ex_215_118, ex_215_121, ex_215_122, ex_215_124, ex_215_125, ex_215_128, ex_215_129, ex_215_130, ex_215_131, ex_215_134, ex_215_137, ex_215_138, if_true, if_false, and_self, Option.toList_some, Option.toList_none, List.singleton_append, List.cons_append, List.nil_append, List.append_nil, nI_1, nt_e, Int32.le_refl, nI_leI, nI_ltI, hlt, hnle, bit_e, bi_e, nI_clamp, b2i_0, b2i_1, c2, hn, hs, isAlive_ok hR' hl' hW hw, livesI_nI]
            rw [orF] at h2; cases ha : livesL l i <;> cases hq : bt (eatL l i) j <;> simpa [ha, hq, or_0] using h2
        try simp (disch := first | exact am_nl_i _ | exact am_nl_r _ | exact am_nl_0 | assumption | omega | (refine vi_nI ?_ ?_ <;> omega) | exact b2i_01 _ | exact Or.inl rfl | exact Or.inr rfl | (unfold vi; decide)) only [ex_215_0, ex_215_1, ex_215_2, ex_215_5, ex_215_6, ex_215_7, ex_215_10, ex_215_13, ex_215_14, ex_215_15, ex_215_16, ex_215_19, ex_215_22, ex_215_23, ex_215_24, ex_215_25, ex_215_26, ex_215_29, ex_215_30, ex_215_33, ex_215_34, ex_215_37, ex_215_38, ex_215_39, ex_215_42, ex_215_43, ex_215_44, ex_215_47, ex_215_48, ex_215_51, ex_215_52, ex_215_53, ex_215_56, ex_215_57, ex_215_58, ex_215_61, ex_215_62, ex_215_65, ex_215_67, ex_215_68, ex_215_69, ex_215_70, ex_215_73, ex_215_74, ex_215_77, ex_215_78, ex_215_79, ex_215_80, ex_215_81, ex_215_82, ex_215_83, ex_215_87, ex_215_88, ex_215_91, ex_215_92, ex_215_93, ex_215_96, ex_215_97, ex_215_98, ex_215_100, ex_215_103, ex_215_106, ex_215_107, ex_215_110, ex_215_112, ex_215_113, ex_215_114, ex_215_115, ex_215_116, ex_215_117, ex_215_118, ex_215_121, ex_215_122, ex_215_124, ex_215_125, ex_215_128, ex_215_129, ex_215_130, ex_215_131, ex_215_134, ex_215_137, ex_215_138, if_true, if_false, and_self, Option.toList_some, Option.toList_none, List.singleton_append, List.cons_append, List.nil_append, List.append_nil, nI_1, nt_e, Int32.le_refl]
        exact loop (nE v) 0 (by omega)
end Ask2
