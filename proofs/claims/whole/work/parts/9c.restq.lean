/-! RESTS, of the reference: plays -/
def plP (a : Nat) : Prop := a = 241 ∨ a = 242 ∨ a = 251
section Plays
variable {d n : Nat} {u : am_U} {v : LV} {l : LF} {pp ch : Nat → Nat} {post : Option Value → am_M → Prop}
theorem plays_ok (hR : LibR u v) (hl : LifeR u v l) (hW : WF v) (hw : WL v l) (hn : n ≤ 3) (hF : FI u 203 62 = nI n) (hpl : ∀ k, k < n → AI u 249 k = nI (pp k)) (hcv : ∀ k, k < n → AI u 250 k = nI (ch k)) (hpp : ∀ k, k < n → pp k < nE v) (hinj : ∀ j k, j < k → k < n → ¬ pp k = pp j) (hch : ∀ k, k < n → ch k ≤ nP v)
    (h : ∀ u', Only plP u u' → LifeR u' v l → (∀ k, k < n → AI u' 251 k = gainS v l (pp k) (stAt v l pp (stk0 l) ch k) (ch k)) → post none (am_emb u')) : Cl (d + 3) 261 [.ref 203] (am_emb u) post := by
  have h6 := hW.1.2.2.1
  have h12 := hW.1.2.1
  rw [op_261]
  simp (disch := first | exact am_nl_i _ | exact am_nl_r _ | exact am_nl_0 | assumption | omega | (refine vi_nI ?_ ?_ <;> omega) | exact b2i_01 _ | exact Or.inl rfl | exact Or.inr rfl | (unfold vi; decide)) only [ex_261_0, ex_261_1, ex_261_4, ex_261_5, ex_261_6, ex_261_9, ex_261_13, ex_261_14, ex_261_16, ex_261_17, ex_261_20, ex_261_23, ex_261_24, ex_261_27, ex_261_28, ex_261_29, ex_261_32, ex_261_33, ex_261_34, ex_261_37, ex_261_38, ex_261_39, ex_261_40, ex_261_43, ex_261_44, ex_261_45, ex_261_46, ex_261_47, ex_261_50, ex_261_53, ex_261_54, ex_261_57, ex_261_58, ex_261_59, ex_261_60, ex_261_63, ex_261_64, ex_261_65, ex_261_68, ex_261_69, ex_261_70, ex_261_71, ex_261_74, ex_261_75, ex_261_76, ex_261_77, ex_261_78, ex_261_81, ex_261_82, ex_261_85, ex_261_86, ex_261_87, ex_261_88, ex_261_89, ex_261_92, ex_261_93, ex_261_96, ex_261_97, ex_261_98, ex_261_99, ex_261_102, ex_261_105, ex_261_106, ex_261_109, ex_261_110, ex_261_113, ex_261_114, ex_261_117, ex_261_118, ex_261_119, ex_261_120, ex_261_121, ex_261_122, ex_261_125, ex_261_126, ex_261_127, ex_261_128, ex_261_131, ex_261_134, ex_261_135, ex_261_138, ex_261_139, ex_261_140, ex_261_143, ex_261_144, ex_261_147, if_true, if_false, and_self, Option.toList_some, Option.toList_none, List.singleton_append, List.cons_append, List.nil_append, List.append_nil, nI_1, nt_e, Int32.le_refl]
  rw [ex_261_10]
  refine copies_ok (x := 0) (y := 0) shl_241 shl_242 (by omega) (by omega) (by omega) (by omega) (by omega) (fun u1 o1 g1 => ?_)
  have a1 : RowR v (AI u1 242) 0 l := RowR_map h6 hl (fun k hk => by rw [g1, if_pos (by omega), show 0 + (0 + k - 0) = 0 + k by omega])
  have l1 : LifeR u1 v l := hl.keep o1 (by unfold is; omega)
  have o1 : Only plP u u1 := o1.wk (fun a q => Or.inr (Or.inl q))
  have keep : ∀ u2, Only plP u u2 → LibR u2 v ∧ FI u2 203 62 = nI n ∧ (∀ k, k < n → AI u2 249 k = nI (pp k)) ∧ (∀ k, k < n → AI u2 250 k = nI (ch k)) := fun u2 o2 => by
    refine ⟨hR.keep o2 (fun a q1 q2 q => by unfold plP at q; omega), ?_, fun k hk => ?_, fun k hk => ?_⟩
    · rw [(o2 203 (by unfold plP; omega)).1]; exact hF
    · rw [(o2 249 (by unfold plP; omega)).2.2.2.1]; exact hpl k hk
    · rw [(o2 250 (by unfold plP; omega)).2.2.2.1]; exact hcv k hk
  have loop : ∀ (kz k : Nat), k + kz = n → ∀ (u2 : am_U) (j2 : Option Value), Only plP u u2 → AI u2 242 = AI u1 242 → LifeR u2 v (lfAt v l pp (stk0 l) ch k) → (∀ j, j < k → AI u2 251 j = gainS v l (pp j) (stAt v l pp (stk0 l) ch j) (ch j)) → Ex (d + 3) 261 15 [some (.ref 203), some (.int (nI k)), j2] [] (am_emb u2) post := by
    intro kz
    induction kz with
    | zero =>
      intro k hk u2 j2 o2 e2 l2 g2
      obtain rfl : k = n := by omega
      obtain ⟨k1, k2, k3, k4⟩ := keep u2 o2
      rw [ex_261_15]
      simp (disch := first | exact am_nl_i _ | exact am_nl_r _ | exact am_nl_0 | (refine vi_nI ?_ ?_ <;> omega) | assumption | omega | exact b2i_01 _ | exact Or.inl rfl | exact Or.inr rfl | (unfold vi; decide)) only [ex_261_0, ex_261_1, ex_261_4, ex_261_5, ex_261_6, ex_261_9, ex_261_10, ex_261_13, ex_261_14, ex_261_16, ex_261_17, ex_261_20, ex_261_24, ex_261_27, ex_261_28, ex_261_29, ex_261_32, ex_261_33, ex_261_34, ex_261_37, ex_261_38, ex_261_39, ex_261_40, ex_261_43, ex_261_44, ex_261_45, ex_261_46, ex_261_47, ex_261_50, ex_261_53, ex_261_54, ex_261_57, ex_261_58, ex_261_59, ex_261_60, ex_261_63, ex_261_64, ex_261_65, ex_261_68, ex_261_69, ex_261_70, ex_261_71, ex_261_74, ex_261_75, ex_261_76, ex_261_77, ex_261_78, ex_261_81, ex_261_82, ex_261_85, ex_261_86, ex_261_87, ex_261_88, ex_261_89, ex_261_92, ex_261_93, ex_261_96, ex_261_97, ex_261_98, ex_261_99, ex_261_102, ex_261_105, ex_261_106, ex_261_109, ex_261_110, ex_261_113, ex_261_114, ex_261_117, ex_261_118, ex_261_119, ex_261_120, ex_261_121, ex_261_122, ex_261_125, ex_261_126, ex_261_127, ex_261_128, ex_261_131, ex_261_134, ex_261_135, ex_261_138, ex_261_139, ex_261_140, ex_261_143, ex_261_147, if_true, if_false, and_self, Option.toList_some, Option.toList_none, List.singleton_append, List.cons_append, List.nil_append, List.append_nil, nI_1, nt_e, Int32.le_refl, k2, nI_leI, Nat.le_refl, Bool.true_eq_false, Bool.false_eq_true, ↓reduceIte]
      rw [ex_261_144]
      refine copies_ok (x := 0) (y := 0) shl_242 shl_241 (by omega) (by omega) (by omega) (by omega) (by omega) (fun u4 o4 g4 => ?_)
      have l4 : LifeR u4 v l := RowR_map h6 a1 (fun k hk => by rw [g4, if_pos (by omega), show 0 + (0 + k - 0) = 0 + k by omega, e2])
      simp (disch := first | exact am_nl_i _ | exact am_nl_r _ | exact am_nl_0 | assumption | omega | (refine vi_nI ?_ ?_ <;> omega) | exact b2i_01 _ | exact Or.inl rfl | exact Or.inr rfl | (unfold vi; decide)) only [ex_261_0, ex_261_1, ex_261_4, ex_261_5, ex_261_6, ex_261_9, ex_261_10, ex_261_13, ex_261_14, ex_261_15, ex_261_16, ex_261_17, ex_261_20, ex_261_23, ex_261_24, ex_261_27, ex_261_28, ex_261_29, ex_261_32, ex_261_33, ex_261_34, ex_261_37, ex_261_38, ex_261_39, ex_261_40, ex_261_43, ex_261_44, ex_261_45, ex_261_46, ex_261_47, ex_261_50, ex_261_53, ex_261_54, ex_261_57, ex_261_58, ex_261_59, ex_261_60, ex_261_63, ex_261_64, ex_261_65, ex_261_68, ex_261_69, ex_261_70, ex_261_71, ex_261_74, ex_261_75, ex_261_76, ex_261_77, ex_261_78, ex_261_81, ex_261_82, ex_261_85, ex_261_86, ex_261_87, ex_261_88, ex_261_89, ex_261_92, ex_261_93, ex_261_96, ex_261_97, ex_261_98, ex_261_99, ex_261_102, ex_261_105, ex_261_106, ex_261_109, ex_261_110, ex_261_113, ex_261_114, ex_261_117, ex_261_118, ex_261_119, ex_261_120, ex_261_121, ex_261_122, ex_261_125, ex_261_126, ex_261_127, ex_261_128, ex_261_131, ex_261_134, ex_261_135, ex_261_138, ex_261_139, ex_261_140, ex_261_143, ex_261_144, ex_261_147, if_true, if_false, and_self, Option.toList_some, Option.toList_none, List.singleton_append, List.cons_append, List.nil_append, List.append_nil, nI_1, nt_e, Int32.le_refl]
      refine h u4 (o2.tr (o4.wk (fun a q => Or.inl q))) l4 (fun j hj => ?_)
      rw [(o4 251 (by unfold is; omega)).2.2.2.1]
      exact g2 j hj
    | succ kz ih =>
      intro k hk u2 j2 o2 e2 l2 g2
      have hkn : k < n := by omega
      obtain ⟨k1, k2, k3, k4⟩ := keep u2 o2
      have hnle : ¬ n ≤ k := by omega
      have kp := k3 k hkn
      have kc := k4 k hkn
      have hp := hpp k hkn
      have hc := hch k hkn
      obtain ⟨w1, w2, w3, w4⟩ := lf_at hW hw hpp hch k (by omega)
      have w3 := w3 (pp k) (fun j hj => hinj j k hj hkn)
      have tail : ∀ (u3 : am_U), Only plP u u3 → AI u3 242 = AI u1 242 → LifeR u3 v (lfAt v l pp (stk0 l) ch (k + 1)) → (∀ j, j < k → AI u3 251 j = gainS v l (pp j) (stAt v l pp (stk0 l) ch j) (ch j)) → Ex (d + 3) 261 81 [some (.ref 203), some (.int (nI k)), some (.int (b2i (canS v l (pp k) (stAt v l pp (stk0 l) ch k) (ch k))))] [] (am_emb u3) post := by
        intro u3 o3 e3 l3 g3
        obtain ⟨k1, k2, k3, k4⟩ := keep u3 o3
        have kp := k3 k hkn
        have kc := k4 k hkn
        have hs : AI u3 241 (pp k) = eatL (lfAt v l pp (stk0 l) ch (k + 1)) (pp k) := by have := l3.1 (pp k) (by omega); rwa [Nat.zero_add] at this
        have hwe := k1.2.2.2.2.1
        have fin : ∀ (x : Int32) j2, x = gainS v l (pp k) (stAt v l pp (stk0 l) ch k) (ch k) → Ex (d + 3) 261 15 [some (.ref 203), some (.int (nI (k + 1))), j2] [] (am_emb (sAI u3 251 (upd (AI u3 251) k x))) post := fun x j2 hx => by
          refine ih (k + 1) (by omega) _ _ (of_ai o3 (Or.inr (Or.inr rfl))) (by rw [AI_sAI, if_neg (by decide)]; exact e3) (l3.keep (Only.sAI (P := is 251) rfl) (by unfold is; omega)) (fun j hj => ?_)
          rw [AI_sAI, if_pos rfl]
          by_cases e : j = k
          · rw [e, upd_s, hx]
          · rw [upd_n e]; exact g3 j (by omega)
        unfold gainS at fin
        rw [lfAt] at hs
        cases q : canS v l (pp k) (stAt v l pp (stk0 l) ch k) (ch k)
        · rw [q, if_neg (by decide), w3.1] at hs
          rw [q] at fin
          simp (disch := first | exact am_nl_i _ | exact am_nl_r _ | exact am_nl_0 | (refine vi_nI ?_ ?_ <;> omega) | assumption | omega | exact b2i_01 _ | exact Or.inl rfl | exact Or.inr rfl | (unfold vi; decide)) only [ex_261_0, ex_261_1, ex_261_4, ex_261_5, ex_261_6, ex_261_9, ex_261_10, ex_261_13, ex_261_14, ex_261_16, ex_261_17, ex_261_20, ex_261_23, ex_261_24, ex_261_27, ex_261_28, ex_261_29, ex_261_32, ex_261_33, ex_261_34, ex_261_37, ex_261_38, ex_261_39, ex_261_40, ex_261_43, ex_261_44, ex_261_45, ex_261_46, ex_261_47, ex_261_50, ex_261_53, ex_261_54, ex_261_57, ex_261_58, ex_261_59, ex_261_60, ex_261_63, ex_261_64, ex_261_65, ex_261_68, ex_261_69, ex_261_70, ex_261_71, ex_261_74, ex_261_75, ex_261_76, ex_261_77, ex_261_78, ex_261_81, ex_261_82, ex_261_85, ex_261_86, ex_261_87, ex_261_88, ex_261_89, ex_261_92, ex_261_93, ex_261_96, ex_261_97, ex_261_98, ex_261_99, ex_261_102, ex_261_105, ex_261_106, ex_261_109, ex_261_110, ex_261_113, ex_261_114, ex_261_117, ex_261_118, ex_261_119, ex_261_120, ex_261_121, ex_261_122, ex_261_125, ex_261_126, ex_261_127, ex_261_128, ex_261_131, ex_261_134, ex_261_135, ex_261_138, ex_261_139, ex_261_140, ex_261_143, ex_261_144, ex_261_147, if_true, if_false, and_self, Option.toList_some, Option.toList_none, List.singleton_append, List.cons_append, List.nil_append, List.append_nil, nI_1, nt_e, Int32.le_refl, kp, nI_clamp, hs, knows_ok k1 hW, worthBy_ok k1 hW, b2i_0, Int32.sub_zero, Bool.true_eq_false, Bool.false_eq_true, ↓reduceIte]
          exact fin _ _ rfl
        · obtain ⟨c1, c2⟩ := can_p q
          have hwk := hwe (ch k - 1) (by omega)
          have e1 : eatL (eatsL v (lfAt v l pp (stk0 l) ch k) (pp k) (ch k - 1)) (pp k) = eatL l (pp k) ||| bi (ch k - 1) := by
            rw [← w3.1]
            unfold eatsL dropL
            split <;> exact upd_s
          rw [q, if_pos rfl, e1] at hs
          rw [q] at fin
          simp (disch := first | exact am_nl_i _ | exact am_nl_r _ | exact am_nl_0 | (refine vi_nI ?_ ?_ <;> omega) | assumption | omega | exact b2i_01 _ | exact Or.inl rfl | exact Or.inr rfl | (unfold vi; decide)) only [ex_261_0, ex_261_1, ex_261_4, ex_261_5, ex_261_6, ex_261_9, ex_261_10, ex_261_13, ex_261_14, ex_261_16, ex_261_17, ex_261_20, ex_261_23, ex_261_24, ex_261_27, ex_261_28, ex_261_29, ex_261_32, ex_261_33, ex_261_34, ex_261_37, ex_261_38, ex_261_39, ex_261_40, ex_261_43, ex_261_44, ex_261_45, ex_261_46, ex_261_47, ex_261_50, ex_261_53, ex_261_54, ex_261_57, ex_261_58, ex_261_59, ex_261_60, ex_261_63, ex_261_64, ex_261_65, ex_261_68, ex_261_69, ex_261_70, ex_261_71, ex_261_74, ex_261_75, ex_261_76, ex_261_77, ex_261_78, ex_261_81, ex_261_82, ex_261_85, ex_261_86, ex_261_87, ex_261_88, ex_261_89, ex_261_92, ex_261_93, ex_261_96, ex_261_97, ex_261_98, ex_261_99, ex_261_102, ex_261_105, ex_261_106, ex_261_109, ex_261_110, ex_261_113, ex_261_114, ex_261_117, ex_261_118, ex_261_119, ex_261_120, ex_261_121, ex_261_122, ex_261_125, ex_261_126, ex_261_127, ex_261_128, ex_261_131, ex_261_134, ex_261_135, ex_261_138, ex_261_139, ex_261_140, ex_261_143, ex_261_144, ex_261_147, if_true, if_false, and_self, Option.toList_some, Option.toList_none, List.singleton_append, List.cons_append, List.nil_append, List.append_nil, nI_1, nt_e, Int32.le_refl, kp, kc, nI_clamp, hs, knows_ok k1 hW, worthBy_ok k1 hW, b2i_0, i_sb, hwk, show ((1 : Int32) = (0 : Int32)) = False from eq_false (by decide), Bool.true_eq_false, Bool.false_eq_true, ↓reduceIte]
          refine fin _ _ ?_
          rw [if_pos rfl]
          unfold gnS
          rw [if_neg (by omega)]
      rw [ex_261_15]
      rw [lfAt] at tail
      by_cases c0 : ch k = 0
      · have q : canS v l (pp k) (stAt v l pp (stk0 l) ch k) (ch k) = false := by rw [c0]; rfl
        rw [q, if_neg (by decide)] at tail
        simp (disch := first | exact am_nl_i _ | exact am_nl_r _ | exact am_nl_0 | (refine vi_nI ?_ ?_ <;> omega) | assumption | omega | exact b2i_01 _ | exact Or.inl rfl | exact Or.inr rfl | (unfold vi; decide)) only [ex_261_0, ex_261_1, ex_261_4, ex_261_5, ex_261_6, ex_261_9, ex_261_10, ex_261_13, ex_261_14, ex_261_16, ex_261_17, ex_261_20, ex_261_23, ex_261_24, ex_261_27, ex_261_28, ex_261_29, ex_261_32, ex_261_33, ex_261_34, ex_261_37, ex_261_38, ex_261_39, ex_261_40, ex_261_43, ex_261_44, ex_261_45, ex_261_46, ex_261_47, ex_261_50, ex_261_53, ex_261_54, ex_261_57, ex_261_58, ex_261_59, ex_261_60, ex_261_63, ex_261_64, ex_261_65, ex_261_68, ex_261_69, ex_261_70, ex_261_71, ex_261_74, ex_261_75, ex_261_76, ex_261_77, ex_261_78, ex_261_82, ex_261_85, ex_261_86, ex_261_87, ex_261_88, ex_261_89, ex_261_92, ex_261_93, ex_261_96, ex_261_97, ex_261_98, ex_261_99, ex_261_102, ex_261_105, ex_261_106, ex_261_109, ex_261_110, ex_261_113, ex_261_114, ex_261_117, ex_261_118, ex_261_119, ex_261_120, ex_261_121, ex_261_122, ex_261_125, ex_261_126, ex_261_127, ex_261_128, ex_261_131, ex_261_134, ex_261_135, ex_261_138, ex_261_139, ex_261_140, ex_261_143, ex_261_144, ex_261_147, if_true, if_false, and_self, Option.toList_some, Option.toList_none, List.singleton_append, List.cons_append, List.nil_append, List.append_nil, nI_1, nt_e, Int32.le_refl, k2, nI_leI, hnle, kc, c0, nI_clamp, i_le0, Bool.true_eq_false, Bool.false_eq_true, ↓reduceIte]
        exact tail u2 o2 e2 l2 g2
      · have c1 : 1 ≤ ch k := by omega
        have hcan := eats_can (v := v) (l := l) (lf := lfAt v l pp (stk0 l) ch k) (p := pp k) (c := ch k) (σ := stAt v l pp (stk0 l) ch k) h12 (by omega) c1 hc w2 w3 (w4 (ch k - 1))
        have ce := fun {post : Option Value → am_M → Prop} => canEat_ok (d := d) (post := post) (x := nI (pp k)) (y := nI (ch k - 1)) k1 l2 hW w1
        cases q : canS v l (pp k) (stAt v l pp (stk0 l) ch k) (ch k)
        · rw [q, if_neg (by decide)] at tail
          rw [q] at hcan
          simp (disch := first | exact am_nl_i _ | exact am_nl_r _ | exact am_nl_0 | (refine vi_nI ?_ ?_ <;> omega) | assumption | omega | exact b2i_01 _ | exact Or.inl rfl | exact Or.inr rfl | (unfold vi; decide)) only [ex_261_0, ex_261_1, ex_261_4, ex_261_5, ex_261_6, ex_261_9, ex_261_10, ex_261_13, ex_261_14, ex_261_16, ex_261_17, ex_261_20, ex_261_23, ex_261_24, ex_261_27, ex_261_28, ex_261_29, ex_261_32, ex_261_33, ex_261_34, ex_261_37, ex_261_38, ex_261_39, ex_261_40, ex_261_43, ex_261_44, ex_261_45, ex_261_46, ex_261_47, ex_261_50, ex_261_53, ex_261_54, ex_261_57, ex_261_58, ex_261_59, ex_261_60, ex_261_63, ex_261_64, ex_261_65, ex_261_68, ex_261_69, ex_261_70, ex_261_71, ex_261_74, ex_261_75, ex_261_76, ex_261_77, ex_261_78, ex_261_82, ex_261_85, ex_261_86, ex_261_87, ex_261_88, ex_261_89, ex_261_92, ex_261_93, ex_261_96, ex_261_97, ex_261_98, ex_261_99, ex_261_102, ex_261_105, ex_261_106, ex_261_109, ex_261_110, ex_261_113, ex_261_114, ex_261_117, ex_261_118, ex_261_119, ex_261_120, ex_261_121, ex_261_122, ex_261_125, ex_261_126, ex_261_127, ex_261_128, ex_261_131, ex_261_134, ex_261_135, ex_261_138, ex_261_139, ex_261_140, ex_261_143, ex_261_144, ex_261_147, if_true, if_false, and_self, Option.toList_some, Option.toList_none, List.singleton_append, List.cons_append, List.nil_append, List.append_nil, nI_1, nt_e, Int32.le_refl, k2, nI_leI, hnle, kc, kp, c0, nI_clamp, i_le0, i_sb, ce, hcan, b2i_0, Bool.true_eq_false, Bool.false_eq_true, ↓reduceIte]
          exact tail u2 o2 e2 l2 g2
        · rw [q, if_pos rfl] at tail
          rw [q] at hcan
          simp (disch := first | exact am_nl_i _ | exact am_nl_r _ | exact am_nl_0 | (refine vi_nI ?_ ?_ <;> omega) | assumption | omega | exact b2i_01 _ | exact Or.inl rfl | exact Or.inr rfl | (unfold vi; decide)) only [ex_261_0, ex_261_1, ex_261_4, ex_261_5, ex_261_6, ex_261_9, ex_261_10, ex_261_13, ex_261_14, ex_261_16, ex_261_17, ex_261_20, ex_261_23, ex_261_24, ex_261_27, ex_261_28, ex_261_29, ex_261_32, ex_261_33, ex_261_34, ex_261_37, ex_261_38, ex_261_39, ex_261_40, ex_261_43, ex_261_44, ex_261_45, ex_261_46, ex_261_47, ex_261_50, ex_261_53, ex_261_54, ex_261_57, ex_261_58, ex_261_59, ex_261_60, ex_261_63, ex_261_64, ex_261_65, ex_261_68, ex_261_69, ex_261_70, ex_261_71, ex_261_74, ex_261_75, ex_261_76, ex_261_77, ex_261_82, ex_261_85, ex_261_86, ex_261_87, ex_261_88, ex_261_89, ex_261_92, ex_261_93, ex_261_96, ex_261_97, ex_261_98, ex_261_99, ex_261_102, ex_261_105, ex_261_106, ex_261_109, ex_261_110, ex_261_113, ex_261_114, ex_261_117, ex_261_118, ex_261_119, ex_261_120, ex_261_121, ex_261_122, ex_261_125, ex_261_126, ex_261_127, ex_261_128, ex_261_131, ex_261_134, ex_261_135, ex_261_138, ex_261_139, ex_261_140, ex_261_143, ex_261_144, ex_261_147, if_true, if_false, and_self, Option.toList_some, Option.toList_none, List.singleton_append, List.cons_append, List.nil_append, List.append_nil, nI_1, nt_e, Int32.le_refl, k2, nI_leI, hnle, kc, kp, c0, nI_clamp, i_le0, i_sb, ce, hcan, b2i_0, show ((1 : Int32) = (0 : Int32)) = False from eq_false (by decide), Bool.true_eq_false, Bool.false_eq_true, ↓reduceIte]
          rw [ex_261_78, show d + 2 = d + 1 + 1 from rfl]
          refine eatsR_ok k1 l2 hW hp (by omega) (fun u3 o3 l3 => ?_)
          have o3' : Only plP u2 u3 := o3.wk (fun a q => Or.inl q)
          simp (disch := first | exact am_nl_i _ | exact am_nl_r _ | exact am_nl_0 | assumption | omega | (refine vi_nI ?_ ?_ <;> omega) | exact b2i_01 _ | exact Or.inl rfl | exact Or.inr rfl | (unfold vi; decide)) only [ex_261_0, ex_261_1, ex_261_4, ex_261_5, ex_261_6, ex_261_9, ex_261_10, ex_261_13, ex_261_14, ex_261_16, ex_261_17, ex_261_20, ex_261_23, ex_261_24, ex_261_27, ex_261_28, ex_261_29, ex_261_32, ex_261_33, ex_261_34, ex_261_37, ex_261_38, ex_261_39, ex_261_40, ex_261_43, ex_261_44, ex_261_45, ex_261_46, ex_261_47, ex_261_50, ex_261_53, ex_261_54, ex_261_57, ex_261_58, ex_261_59, ex_261_60, ex_261_63, ex_261_64, ex_261_65, ex_261_68, ex_261_69, ex_261_70, ex_261_71, ex_261_74, ex_261_75, ex_261_76, ex_261_77, ex_261_78, ex_261_82, ex_261_85, ex_261_86, ex_261_87, ex_261_88, ex_261_89, ex_261_92, ex_261_93, ex_261_96, ex_261_97, ex_261_98, ex_261_99, ex_261_102, ex_261_105, ex_261_106, ex_261_109, ex_261_110, ex_261_113, ex_261_114, ex_261_117, ex_261_118, ex_261_119, ex_261_120, ex_261_121, ex_261_122, ex_261_125, ex_261_126, ex_261_127, ex_261_128, ex_261_131, ex_261_134, ex_261_135, ex_261_138, ex_261_139, ex_261_140, ex_261_143, ex_261_144, ex_261_147, if_true, if_false, and_self, Option.toList_some, Option.toList_none, List.singleton_append, List.cons_append, List.nil_append, List.append_nil, nI_1, nt_e, Int32.le_refl]
          exact tail u3 (o2.tr o3') (by rw [(o3 242 (by unfold is; omega)).2.2.2.1]; exact e2) l3 (fun j hj => by rw [(o3 251 (by unfold is; omega)).2.2.2.1]; exact g2 j hj)
  simp (disch := first | exact am_nl_i _ | exact am_nl_r _ | exact am_nl_0 | assumption | omega | (refine vi_nI ?_ ?_ <;> omega) | exact b2i_01 _ | exact Or.inl rfl | exact Or.inr rfl | (unfold vi; decide)) only [ex_261_0, ex_261_1, ex_261_4, ex_261_5, ex_261_6, ex_261_9, ex_261_10, ex_261_13, ex_261_14, ex_261_16, ex_261_17, ex_261_20, ex_261_23, ex_261_24, ex_261_27, ex_261_28, ex_261_29, ex_261_32, ex_261_33, ex_261_34, ex_261_37, ex_261_38, ex_261_39, ex_261_40, ex_261_43, ex_261_44, ex_261_45, ex_261_46, ex_261_47, ex_261_50, ex_261_53, ex_261_54, ex_261_57, ex_261_58, ex_261_59, ex_261_60, ex_261_63, ex_261_64, ex_261_65, ex_261_68, ex_261_69, ex_261_70, ex_261_71, ex_261_74, ex_261_75, ex_261_76, ex_261_77, ex_261_78, ex_261_81, ex_261_82, ex_261_85, ex_261_86, ex_261_87, ex_261_88, ex_261_89, ex_261_92, ex_261_93, ex_261_96, ex_261_97, ex_261_98, ex_261_99, ex_261_102, ex_261_105, ex_261_106, ex_261_109, ex_261_110, ex_261_113, ex_261_114, ex_261_117, ex_261_118, ex_261_119, ex_261_120, ex_261_121, ex_261_122, ex_261_125, ex_261_126, ex_261_127, ex_261_128, ex_261_131, ex_261_134, ex_261_135, ex_261_138, ex_261_139, ex_261_140, ex_261_143, ex_261_144, ex_261_147, if_true, if_false, and_self, Option.toList_some, Option.toList_none, List.singleton_append, List.cons_append, List.nil_append, List.append_nil, nI_1, nt_e, Int32.le_refl]
  exact loop n 0 (by omega) u1 none o1 rfl l1 (fun j hj => absurd hj (Nat.not_lt_zero j))
end Plays
