/-! RESTS, of the reference: isRest -/
def rsP (a : Nat) : Prop := plP a ∨ a = 250
section IsRest
variable {d n : Nat} {u : am_U} {v : LV} {l : LF} {pp ch : Nat → Nat} {post : Option Value → am_M → Prop}
theorem isRest_ok (r : Bool) (hR : LibR u v) (hl : LifeR u v l) (hW : WF v) (hw : WL v l) (hn : n ≤ 3) (hF : FI u 203 62 = nI n) (hpl : ∀ k, k < n → AI u 249 k = nI (pp k)) (hcv : ∀ k, k < n → AI u 250 k = nI (ch k)) (hpp : ∀ k, k < n → pp k < nE v) (hinj : ∀ j k, j < k → k < n → ¬ pp k = pp j) (hch : ∀ k, k < n → ch k ≤ nP v)
    (hr : r = true ↔ ∀ k, k < n → gainS v l (pp k) (stAt v l pp (stk0 l) ch k) (ch k) = mostS v l (pp k) (stAt v l pp (stk0 l) ch k))
    (h : ∀ u', Only rsP u u' → LifeR u' v l → (∀ k, k < n → AI u' 250 k = nI (ch k)) → post (some (.int (b2i r))) (am_emb u')) : Cl (d + 4) 262 [.ref 203] (am_emb u) post := by
  have h6 := hW.1.2.2.1
  have h12 := hW.1.2.1
  have keep : ∀ u2, Only rsP u u2 → LibR u2 v ∧ FI u2 203 62 = nI n ∧ (∀ k, k < n → AI u2 249 k = nI (pp k)) := fun u2 o2 => by
    refine ⟨hR.keep o2 (fun a q1 q2 q => by unfold rsP plP at q; omega), ?_, fun k hk => ?_⟩
    · rw [(o2 203 (by unfold rsP plP; omega)).1]; exact hF
    · rw [(o2 249 (by unfold rsP plP; omega)).2.2.2.1]; exact hpl k hk
  rw [op_262]
  have loop : ∀ (kz k : Nat), k + kz = n → ∀ (u2 : am_U) (j2 j3 j4 j5 : Option Value), Only rsP u u2 → LifeR u2 v l → (∀ j, j < n → AI u2 250 j = nI (ch j)) → (∀ j, j < k → gainS v l (pp j) (stAt v l pp (stk0 l) ch j) (ch j) = mostS v l (pp j) (stAt v l pp (stk0 l) ch j)) → Ex (d + 4) 262 2 [some (.ref 203), some (.int (nI k)), j2, j3, j4, j5] [] (am_emb u2) post := by
    intro kz
    induction kz with
    | zero =>
      intro k hk u2 j2 j3 j4 j5 o2 l2 f1 f2
      obtain rfl : k = n := by omega
      obtain ⟨k1, k2, k3⟩ := keep u2 o2
      have hfin := h u2 o2 l2 f1
      rw [hr.mpr f2] at hfin
      rw [ex_262_2]
      simp (disch := first | exact am_nl_i _ | exact am_nl_r _ | exact am_nl_0 | (refine vi_nI ?_ ?_ <;> omega) | assumption | omega | exact b2i_01 _ | exact Or.inl rfl | exact Or.inr rfl | (unfold vi; decide)) only [ex_262_0, ex_262_1, ex_262_3, ex_262_4, ex_262_7, ex_262_11, ex_262_14, ex_262_15, ex_262_16, ex_262_17, ex_262_18, ex_262_21, ex_262_22, ex_262_25, ex_262_26, ex_262_27, ex_262_28, ex_262_29, ex_262_31, ex_262_32, ex_262_34, ex_262_36, ex_262_37, ex_262_40, ex_262_41, ex_262_42, ex_262_45, ex_262_47, ex_262_50, ex_262_51, ex_262_54, ex_262_55, ex_262_57, ex_262_58, ex_262_59, ex_262_62, ex_262_63, ex_262_66, ex_262_67, ex_262_68, ex_262_69, ex_262_72, ex_262_73, ex_262_76, ex_262_77, ex_262_79, ex_262_82, ex_262_85, ex_262_86, ex_262_89, ex_262_90, ex_262_91, ex_262_92, ex_262_94, ex_262_97, ex_262_98, ex_262_99, ex_262_102, ex_262_105, ex_262_106, if_true, if_false, and_self, Option.toList_some, Option.toList_none, List.singleton_append, List.cons_append, List.nil_append, List.append_nil, nI_1, nt_e, Int32.le_refl, k2, nI_leI, Nat.le_refl, Bool.true_eq_false, Bool.false_eq_true, ↓reduceIte]
      exact hfin
    | succ kz ih =>
      intro k hk u2 j2 j3 j4 j5 o2 l2 f1 f2
      have hkn : k < n := by omega
      obtain ⟨k1, k2, k3⟩ := keep u2 o2
      have hnle : ¬ n ≤ k := by omega
      have kc := f1 k hkn
      have inner : ∀ (cz c : Nat), c + cz = nP v + 1 → ∀ (u3 : am_U), Only rsP u u3 → LifeR u3 v l → (∀ j, j < n → ¬ j = k → AI u3 250 j = nI (ch j)) → (∀ c', c' < c → ¬ gainS v l (pp k) (stAt v l pp (stk0 l) ch k) (ch k) < gainS v l (pp k) (stAt v l pp (stk0 l) ch k) c') → Ex (d + 4) 262 34 [some (.ref 203), some (.int (nI k)), some (.int (nI (ch k))), some (.int (gainS v l (pp k) (stAt v l pp (stk0 l) ch k) (ch k))), some (.int 0), some (.int (nI c))] [] (am_emb u3) post := by
        intro cz
        induction cz with
        | zero =>
          intro c hc u3 o3 l3 f3 f4
          obtain rfl : c = nP v + 1 := by omega
          obtain ⟨k1, k2, k3⟩ := keep u3 o3
          have hN := k1.1.2.1
          have hlt : nP v < nP v + 1 := by omega
          have hle : ¬ nP v + 1 ≤ nP v := by omega
          rw [ex_262_34]
          simp (disch := first | exact am_nl_i _ | exact am_nl_r _ | exact am_nl_0 | (refine vi_nI ?_ ?_ <;> omega) | assumption | omega | exact b2i_01 _ | exact Or.inl rfl | exact Or.inr rfl | (unfold vi; decide)) only [ex_262_0, ex_262_1, ex_262_3, ex_262_4, ex_262_7, ex_262_10, ex_262_11, ex_262_14, ex_262_15, ex_262_16, ex_262_17, ex_262_18, ex_262_21, ex_262_22, ex_262_25, ex_262_26, ex_262_27, ex_262_28, ex_262_29, ex_262_31, ex_262_32, ex_262_36, ex_262_37, ex_262_40, ex_262_41, ex_262_42, ex_262_47, ex_262_50, ex_262_51, ex_262_54, ex_262_55, ex_262_57, ex_262_58, ex_262_59, ex_262_62, ex_262_63, ex_262_66, ex_262_67, ex_262_68, ex_262_69, ex_262_72, ex_262_73, ex_262_76, ex_262_77, ex_262_79, ex_262_82, ex_262_85, ex_262_86, ex_262_89, ex_262_90, ex_262_91, ex_262_92, ex_262_94, ex_262_97, ex_262_98, ex_262_99, ex_262_102, ex_262_105, ex_262_106, if_true, if_false, and_self, Option.toList_some, Option.toList_none, List.singleton_append, List.cons_append, List.nil_append, List.append_nil, nI_1, nt_e, Int32.le_refl, c1, hN, nI_ltI, nI_leI, hlt, hle, nI_clamp, Bool.true_eq_false, Bool.false_eq_true, ↓reduceIte]
          refine ih (k + 1) (by omega) _ _ _ _ _ (of_ai o3 (Or.inr rfl)) (l3.keep (Only.sAI (P := is 250) rfl) (by unfold is; omega)) (fun j hj => ?_) (fun j hj => ?_)
          · rw [AI_sAI, if_pos rfl]
            by_cases e : j = k
            · rw [e, upd_s]
            · rw [upd_n e]; exact f3 j hj e
          · by_cases e : j = k
            · rw [e]
              exact (most_iff (hch k hkn)).mpr (fun c hc => f4 c (by omega))
            · exact f2 j (by omega)
        | succ cz ih2 =>
          intro c hc u3 o3 l3 f3 f4
          obtain ⟨k1, k2, k3⟩ := keep u3 o3
          have hN := k1.1.2.1
          have hnlt : ¬ nP v < c := by omega
          have hle : c ≤ nP v := by omega
          rw [ex_262_34]
          simp (disch := first | exact am_nl_i _ | exact am_nl_r _ | exact am_nl_0 | (refine vi_nI ?_ ?_ <;> omega) | assumption | omega | exact b2i_01 _ | exact Or.inl rfl | exact Or.inr rfl | (unfold vi; decide)) only [ex_262_0, ex_262_1, ex_262_3, ex_262_4, ex_262_7, ex_262_10, ex_262_11, ex_262_14, ex_262_15, ex_262_16, ex_262_17, ex_262_18, ex_262_21, ex_262_22, ex_262_25, ex_262_26, ex_262_27, ex_262_28, ex_262_29, ex_262_31, ex_262_32, ex_262_36, ex_262_37, ex_262_40, ex_262_41, ex_262_42, ex_262_45, ex_262_47, ex_262_50, ex_262_51, ex_262_54, ex_262_55, ex_262_57, ex_262_58, ex_262_62, ex_262_63, ex_262_66, ex_262_67, ex_262_68, ex_262_69, ex_262_72, ex_262_73, ex_262_76, ex_262_77, ex_262_79, ex_262_82, ex_262_86, ex_262_89, ex_262_90, ex_262_91, ex_262_92, ex_262_94, ex_262_97, ex_262_98, ex_262_99, ex_262_102, ex_262_105, ex_262_106, if_true, if_false, and_self, Option.toList_some, Option.toList_none, List.singleton_append, List.cons_append, List.nil_append, List.append_nil, nI_1, nt_e, Int32.le_refl, c1, hN, nI_ltI, nI_leI, hnlt, hle, nI_clamp, Bool.true_eq_false, Bool.false_eq_true, ↓reduceIte]
          rw [ex_262_59]
          have o3' : Only rsP u (sAI u3 250 (upd (AI u3 250) k (nI c))) := of_ai o3 (Or.inr rfl)
          obtain ⟨m1, m2, m3⟩ := keep _ o3'
          have hst : stAt v l pp (stk0 l) (upN ch k c) k = stAt v l pp (stk0 l) ch k := stAt_congr (fun j hj => upN_n (by omega))
          refine plays_ok (ch := upN ch k c) m1 (l3.keep (Only.sAI (P := is 250) rfl) (by unfold is; omega)) hW hw hn m2 m3 (fun j hj => ?_) hpp hinj (fun j hj => ?_) (fun u4 o4 l4 g4 => ?_)
          · rw [AI_sAI, if_pos rfl]
            by_cases e : j = k
            · rw [e, upd_s, upN_s]
            · rw [upd_n e, upN_n e]; exact f3 j hj e
          · by_cases e : j = k
            · rw [e, upN_s]; exact hle
            · rw [upN_n e]; exact hch j hj
          have gk := g4 k hkn
          rw [hst, upN_s] at gk
          have o4' : Only rsP u u4 := o3'.tr (o4.wk (fun a q => Or.inl q))
          have f5 : ∀ j, j < n → ¬ j = k → AI u4 250 j = nI (ch j) := fun j hj e => by
            rw [(o4 250 (by unfold plP; omega)).2.2.2.1, AI_sAI, if_pos rfl, upd_n e]
            exact f3 j hj e
          by_cases q : gainS v l (pp k) (stAt v l pp (stk0 l) ch k) (ch k) < gainS v l (pp k) (stAt v l pp (stk0 l) ch k) c
          · have hN4 := (keep u4 o4').1.1.2.1
            have hrf : r = false := by
              cases e : r
              · rfl
              · exact absurd q ((most_iff (hch k hkn)).mp (hr.mp e k hkn) c hle)
            have hfin := h (sAI u4 250 (upd (AI u4 250) k (nI (ch k)))) (of_ai o4' (Or.inr rfl)) (l4.keep (Only.sAI (P := is 250) rfl) (by unfold is; omega)) (fun j hj => by
              rw [AI_sAI, if_pos rfl]
              by_cases e : j = k
              · rw [e, upd_s]
              · rw [upd_n e]; exact f5 j hj e)
            rw [hrf] at hfin
            have q' : ¬ gainS v l (pp k) (stAt v l pp (stk0 l) ch k) c ≤ gainS v l (pp k) (stAt v l pp (stk0 l) ch k) (ch k) := Int32.not_le.mpr q
            simp (disch := first | exact am_nl_i _ | exact am_nl_r _ | exact am_nl_0 | (refine vi_nI ?_ ?_ <;> omega) | assumption | omega | exact b2i_01 _ | exact Or.inl rfl | exact Or.inr rfl | (unfold vi; decide)) only [ex_262_0, ex_262_1, ex_262_3, ex_262_4, ex_262_7, ex_262_10, ex_262_11, ex_262_14, ex_262_15, ex_262_16, ex_262_17, ex_262_18, ex_262_21, ex_262_22, ex_262_25, ex_262_26, ex_262_27, ex_262_28, ex_262_29, ex_262_31, ex_262_32, ex_262_36, ex_262_37, ex_262_40, ex_262_41, ex_262_42, ex_262_45, ex_262_47, ex_262_50, ex_262_51, ex_262_54, ex_262_55, ex_262_57, ex_262_58, ex_262_59, ex_262_62, ex_262_63, ex_262_66, ex_262_67, ex_262_68, ex_262_69, ex_262_72, ex_262_73, ex_262_76, ex_262_77, ex_262_79, ex_262_82, ex_262_85, ex_262_86, ex_262_89, ex_262_90, ex_262_91, ex_262_92, ex_262_94, ex_262_97, ex_262_98, ex_262_99, ex_262_102, ex_262_105, ex_262_106, if_true, if_false, and_self, Option.toList_some, Option.toList_none, List.singleton_append, List.cons_append, List.nil_append, List.append_nil, nI_1, nt_e, Int32.le_refl, gk, q, q', nI_clamp, nI_1, Bool.true_eq_false, Bool.false_eq_true, ↓reduceIte]
            rw [ex_262_34]
            by_cases q2 : nP v < c + 1
            · have q3 : ¬ c + 1 ≤ nP v := by omega
              simp (disch := first | exact am_nl_i _ | exact am_nl_r _ | exact am_nl_0 | (refine vi_nI ?_ ?_ <;> omega) | assumption | omega | exact b2i_01 _ | exact Or.inl rfl | exact Or.inr rfl | (unfold vi; decide)) only [ex_262_0, ex_262_1, ex_262_3, ex_262_4, ex_262_7, ex_262_10, ex_262_11, ex_262_14, ex_262_15, ex_262_16, ex_262_17, ex_262_18, ex_262_21, ex_262_22, ex_262_25, ex_262_26, ex_262_27, ex_262_28, ex_262_29, ex_262_31, ex_262_32, ex_262_36, ex_262_37, ex_262_40, ex_262_41, ex_262_42, ex_262_47, ex_262_50, ex_262_51, ex_262_54, ex_262_55, ex_262_57, ex_262_58, ex_262_59, ex_262_62, ex_262_63, ex_262_66, ex_262_67, ex_262_68, ex_262_69, ex_262_72, ex_262_73, ex_262_76, ex_262_77, ex_262_79, ex_262_82, ex_262_85, ex_262_86, ex_262_89, ex_262_90, ex_262_91, ex_262_92, ex_262_94, ex_262_97, ex_262_98, ex_262_99, ex_262_102, ex_262_105, ex_262_106, if_true, if_false, and_self, Option.toList_some, Option.toList_none, List.singleton_append, List.cons_append, List.nil_append, List.append_nil, nI_1, nt_e, Int32.le_refl, c1, hN4, nI_ltI, nI_leI, q2, q3, nI_clamp, show ((1 : Int32) = (0 : Int32)) = False from eq_false (by decide), Bool.true_eq_false, Bool.false_eq_true, ↓reduceIte]
              exact hfin
            · have q3 : c + 1 ≤ nP v := by omega
              simp (disch := first | exact am_nl_i _ | exact am_nl_r _ | exact am_nl_0 | (refine vi_nI ?_ ?_ <;> omega) | assumption | omega | exact b2i_01 _ | exact Or.inl rfl | exact Or.inr rfl | (unfold vi; decide)) only [ex_262_0, ex_262_1, ex_262_3, ex_262_4, ex_262_7, ex_262_10, ex_262_11, ex_262_14, ex_262_15, ex_262_16, ex_262_17, ex_262_18, ex_262_21, ex_262_22, ex_262_25, ex_262_26, ex_262_27, ex_262_28, ex_262_29, ex_262_31, ex_262_32, ex_262_36, ex_262_37, ex_262_40, ex_262_41, ex_262_42, ex_262_45, ex_262_47, ex_262_51, ex_262_54, ex_262_55, ex_262_57, ex_262_58, ex_262_59, ex_262_62, ex_262_63, ex_262_66, ex_262_67, ex_262_68, ex_262_69, ex_262_72, ex_262_73, ex_262_76, ex_262_77, ex_262_79, ex_262_82, ex_262_85, ex_262_86, ex_262_89, ex_262_90, ex_262_91, ex_262_92, ex_262_94, ex_262_97, ex_262_98, ex_262_99, ex_262_102, ex_262_105, ex_262_106, if_true, if_false, and_self, Option.toList_some, Option.toList_none, List.singleton_append, List.cons_append, List.nil_append, List.append_nil, nI_1, nt_e, Int32.le_refl, c1, hN4, nI_ltI, nI_leI, q2, q3, nI_clamp, show ((1 : Int32) = (0 : Int32)) = False from eq_false (by decide), Bool.true_eq_false, Bool.false_eq_true, ↓reduceIte]
              exact hfin
          · have q' : gainS v l (pp k) (stAt v l pp (stk0 l) ch k) c ≤ gainS v l (pp k) (stAt v l pp (stk0 l) ch k) (ch k) := Int32.not_lt.mp q
            simp (disch := first | exact am_nl_i _ | exact am_nl_r _ | exact am_nl_0 | (refine vi_nI ?_ ?_ <;> omega) | assumption | omega | exact b2i_01 _ | exact Or.inl rfl | exact Or.inr rfl | (unfold vi; decide)) only [ex_262_0, ex_262_1, ex_262_3, ex_262_4, ex_262_7, ex_262_10, ex_262_11, ex_262_14, ex_262_15, ex_262_16, ex_262_17, ex_262_18, ex_262_21, ex_262_22, ex_262_25, ex_262_26, ex_262_27, ex_262_28, ex_262_29, ex_262_31, ex_262_32, ex_262_36, ex_262_37, ex_262_40, ex_262_41, ex_262_42, ex_262_45, ex_262_47, ex_262_50, ex_262_51, ex_262_54, ex_262_55, ex_262_57, ex_262_58, ex_262_59, ex_262_62, ex_262_63, ex_262_66, ex_262_67, ex_262_68, ex_262_69, ex_262_72, ex_262_73, ex_262_76, ex_262_77, ex_262_79, ex_262_82, ex_262_85, ex_262_86, ex_262_89, ex_262_90, ex_262_91, ex_262_92, ex_262_94, ex_262_97, ex_262_98, ex_262_99, ex_262_102, ex_262_105, ex_262_106, if_true, if_false, and_self, Option.toList_some, Option.toList_none, List.singleton_append, List.cons_append, List.nil_append, List.append_nil, nI_1, nt_e, Int32.le_refl, gk, q, q', nI_clamp, nI_1, Bool.true_eq_false, Bool.false_eq_true, ↓reduceIte]
            refine ih2 (c + 1) (by omega) u4 o4' l4 f5 (fun c' hc' => ?_)
            by_cases e : c' = c
            · rw [e]; exact q
            · exact f4 c' (by omega)
      rw [ex_262_2]
      simp (disch := first | exact am_nl_i _ | exact am_nl_r _ | exact am_nl_0 | (refine vi_nI ?_ ?_ <;> omega) | assumption | omega | exact b2i_01 _ | exact Or.inl rfl | exact Or.inr rfl | (unfold vi; decide)) only [ex_262_0, ex_262_1, ex_262_3, ex_262_4, ex_262_7, ex_262_10, ex_262_11, ex_262_14, ex_262_15, ex_262_16, ex_262_17, ex_262_21, ex_262_22, ex_262_25, ex_262_26, ex_262_27, ex_262_28, ex_262_29, ex_262_31, ex_262_32, ex_262_36, ex_262_37, ex_262_40, ex_262_41, ex_262_42, ex_262_45, ex_262_47, ex_262_50, ex_262_51, ex_262_54, ex_262_55, ex_262_57, ex_262_58, ex_262_59, ex_262_62, ex_262_63, ex_262_66, ex_262_67, ex_262_68, ex_262_69, ex_262_72, ex_262_73, ex_262_76, ex_262_77, ex_262_79, ex_262_82, ex_262_85, ex_262_86, ex_262_89, ex_262_90, ex_262_91, ex_262_92, ex_262_94, ex_262_97, ex_262_98, ex_262_99, ex_262_102, ex_262_106, if_true, if_false, and_self, Option.toList_some, Option.toList_none, List.singleton_append, List.cons_append, List.nil_append, List.append_nil, nI_1, nt_e, Int32.le_refl, k2, nI_leI, hnle, kc, nI_clamp, Bool.true_eq_false, Bool.false_eq_true, ↓reduceIte]
      rw [ex_262_18]
      refine plays_ok (ch := ch) k1 l2 hW hw hn k2 k3 f1 hpp hinj hch (fun u4 o4 l4 g4 => ?_)
      have gk := g4 k hkn
      simp (disch := first | exact am_nl_i _ | exact am_nl_r _ | exact am_nl_0 | (refine vi_nI ?_ ?_ <;> omega) | assumption | omega | exact b2i_01 _ | exact Or.inl rfl | exact Or.inr rfl | (unfold vi; decide)) only [ex_262_0, ex_262_1, ex_262_3, ex_262_4, ex_262_7, ex_262_10, ex_262_11, ex_262_14, ex_262_15, ex_262_16, ex_262_17, ex_262_18, ex_262_21, ex_262_22, ex_262_25, ex_262_26, ex_262_27, ex_262_28, ex_262_29, ex_262_31, ex_262_32, ex_262_36, ex_262_37, ex_262_40, ex_262_41, ex_262_42, ex_262_45, ex_262_47, ex_262_50, ex_262_51, ex_262_54, ex_262_55, ex_262_57, ex_262_58, ex_262_59, ex_262_62, ex_262_63, ex_262_66, ex_262_67, ex_262_68, ex_262_69, ex_262_72, ex_262_73, ex_262_76, ex_262_77, ex_262_79, ex_262_82, ex_262_85, ex_262_86, ex_262_89, ex_262_90, ex_262_91, ex_262_92, ex_262_94, ex_262_97, ex_262_98, ex_262_99, ex_262_102, ex_262_105, ex_262_106, if_true, if_false, and_self, Option.toList_some, Option.toList_none, List.singleton_append, List.cons_append, List.nil_append, List.append_nil, nI_1, nt_e, Int32.le_refl, gk, nI_clamp, Bool.true_eq_false, Bool.false_eq_true, ↓reduceIte]
      exact inner (nP v + 1) 0 (by omega) u4 (o2.tr (o4.wk (fun a q => Or.inl q))) l4 (fun j hj e => by rw [(o4 250 (by unfold plP; omega)).2.2.2.1]; exact f1 j hj) (fun c' hc' => absurd hc' (Nat.not_lt_zero c'))
  simp (disch := first | exact am_nl_i _ | exact am_nl_r _ | exact am_nl_0 | assumption | omega | (refine vi_nI ?_ ?_ <;> omega) | exact b2i_01 _ | exact Or.inl rfl | exact Or.inr rfl | (unfold vi; decide)) only [ex_262_0, ex_262_1, ex_262_3, ex_262_4, ex_262_7, ex_262_10, ex_262_11, ex_262_14, ex_262_15, ex_262_16, ex_262_17, ex_262_18, ex_262_21, ex_262_22, ex_262_25, ex_262_26, ex_262_27, ex_262_28, ex_262_29, ex_262_31, ex_262_32, ex_262_34, ex_262_36, ex_262_37, ex_262_40, ex_262_41, ex_262_42, ex_262_45, ex_262_47, ex_262_50, ex_262_51, ex_262_54, ex_262_55, ex_262_57, ex_262_58, ex_262_59, ex_262_62, ex_262_63, ex_262_66, ex_262_67, ex_262_68, ex_262_69, ex_262_72, ex_262_73, ex_262_76, ex_262_77, ex_262_79, ex_262_82, ex_262_85, ex_262_86, ex_262_89, ex_262_90, ex_262_91, ex_262_92, ex_262_94, ex_262_97, ex_262_98, ex_262_99, ex_262_102, ex_262_105, ex_262_106, if_true, if_false, and_self, Option.toList_some, Option.toList_none, List.singleton_append, List.cons_append, List.nil_append, List.append_nil, nI_1, nt_e, Int32.le_refl]
  exact loop n 0 (by omega) u none none none none (Only.rf _ _) hl hcv (fun j hj => absurd hj (Nat.not_lt_zero j))
end IsRest
