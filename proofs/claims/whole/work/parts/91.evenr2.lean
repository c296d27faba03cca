/-! EVENINGS, of the reference: all of it -/
section EvenR2
variable {d : Nat} {u : am_U} {S : ST} {post : Option Value → am_M → Prop}
theorem ee_inv {u u1 : am_U} {S : ST} {P : Nat → Prop} (h : InvR u S) (o1 : Only P u u1) (hP : ∀ a, P a → 246 ≤ a) : InvR u1 S := by
  have n : ∀ a, a ≤ 245 → ¬ P a := fun a ha q => by have := hP a q; omega
  have e := fun a (ha : a ≤ 245) => (o1 a (n a ha)).2.2.2.1
  have eF : FI u1 203 = FI u 203 := (o1 203 (n _ (by decide))).1
  obtain ⟨h1, h2, h3, h4, h5, h6⟩ := h
  refine ⟨h1.keep o1 (fun a q1 q2 => n a (by omega)), h2.keep o1 (fun a q1 q2 => n a (by omega)), ⟨h3.1.keep o1 (n _ (by decide)), ?_, ?_⟩, ?_, fun k hk => ?_, ?_⟩
  · unfold LinesR
    rw [e 236 (by decide), e 237 (by decide)]
    exact h3.2.1
  · unfold ToldR
    rw [e 238 (by decide), e 239 (by decide), e 240 (by decide)]
    exact h3.2.2
  · unfold PastR
    rw [eF, e 244 (by decide)]
    exact h4
  · unfold LinesR ToldR
    rw [e 236 (by decide), e 237 (by decide), e 238 (by decide), e 239 (by decide), e 240 (by decide), e 243 (by decide), e 245 (by decide)]
    exact h5 k hk
  · unfold TapeR
    rw [eF, e 204 (by decide)]
    exact h6
theorem R_evenings (hI : InvR u S) (hS : WS S) (h : ∀ u', Only inR u u' → InvR u' S → post (some (.int (evenS S.1 S.2.1.1))) (am_emb u')) : Cl (d + 4) 253 [.ref 203] (am_emb u) post := by
  have hI1 : InvR (th u 0) S := th_inv hI
  obtain ⟨hR, hcd, ⟨hl, hl2, hl3⟩, hp, hm, htp⟩ := hI1
  have hI1 : InvR (th u 0) S := th_inv hI
  have hW := hS.1
  have hw := hS.2.1.1
  have h6 := hW.1.2.2.1
  have hp6 := pow_64 h6
  have o0 : Only inR u (th u 0) := Only.sFI (by unfold inR; omega)
  have ha : AI (th u 0) 241 12 = aliveL S.2.1.1 := hl.2.2.1
  obtain ⟨hE, hE2⟩ := alive_N hW hw
  obtain ⟨hWt, hW2⟩ := want_N (l := S.2.1.1) hW
  rw [op_253]
  simp (disch := first | exact am_nl_i _ | exact am_nl_r _ | exact am_nl_0 | assumption | omega | (refine vi_nI ?_ ?_ <;> omega) | exact b2i_01 _ | exact Or.inl rfl | exact Or.inr rfl | (unfold vi; decide)) only [ex_253_0, ex_253_1, ex_253_2, ex_253_5, ex_253_6, ex_253_7, ex_253_8, ex_253_11, ex_253_13, ex_253_14, ex_253_17, ex_253_20, ex_253_21, ex_253_25, ex_253_26, ex_253_28, ex_253_30, ex_253_33, ex_253_34, ex_253_37, ex_253_38, ex_253_39, ex_253_42, ex_253_43, ex_253_46, ex_253_48, ex_253_49, ex_253_50, ex_253_51, ex_253_52, ex_253_55, ex_253_56, ex_253_59, ex_253_61, ex_253_62, ex_253_65, ex_253_67, ex_253_68, ex_253_69, ex_253_70, ex_253_71, ex_253_72, ex_253_75, ex_253_76, ex_253_79, ex_253_80, ex_253_81, ex_253_84, ex_253_85, ex_253_86, ex_253_87, ex_253_88, ex_253_91, ex_253_92, ex_253_93, ex_253_94, ex_253_95, ex_253_96, ex_253_97, ex_253_98, ex_253_101, ex_253_102, ex_253_103, ex_253_104, ex_253_105, ex_253_106, ex_253_107, ex_253_108, ex_253_111, ex_253_114, ex_253_117, ex_253_118, ex_253_121, ex_253_122, ex_253_123, if_true, if_false, and_self, Option.toList_some, Option.toList_none, List.singleton_append, List.cons_append, List.nil_append, List.append_nil, nI_1, nt_e, Int32.le_refl, th_e, c12, ha, hE, tog_ok hR hl hW hw, tasksBy_ok hR hW, hWt]
  rw [ex_253_22]
  refine evenings0_ok hR hl hW hw (fun u1 o1 H => ?_)
  have hE1 : AI u1 241 12 = nI (aliveN S.2.1.1) := by rw [(o1 241 (by unfold eoR; omega)).2.2.2.1, ha, hE]
  have hap : ∀ k, k < 32 → AI u1 246 (32 * aliveN S.2.1.1 + k) = b2i (apE S.1 S.2.1.1 k) := fun k hk => by rw [H _ k (by omega) hk, apE_e hW hw]
  have outer : ∀ (kz t : Nat) (j3 : Option Value), t + kz = 32 → ∀ u2, Only (is 247) u1 u2 → (∀ t', t' < t → AI u2 247 t' = nI (eV 100 (apE S.1 S.2.1.1) t')) → Ex (d + 4) 253 27 [some (.ref 203), some (.int (nI (wantN S.1 S.2.1.1))), some (.int (nI t)), j3] [] (am_emb u2) post := by
    intro kz
    induction kz with
    | zero =>
      intro t j3 ht u2 o2 H2
      obtain rfl : t = 32 := by omega
      have e1 := H2 (wantN S.1 S.2.1.1) hW2
      have oE : Only (fun a => a = 246 ∨ a = 247) (th u 0) u2 := (o1.wk (fun a q => Or.inl q)).tr (o2.wk (fun a q => Or.inr q))
      rw [ex_253_27]
      simp (disch := first | exact am_nl_i _ | exact am_nl_r _ | exact am_nl_0 | (refine vi_nI ?_ ?_ <;> omega) | assumption | omega | exact b2i_01 _ | exact Or.inl rfl | exact Or.inr rfl | (unfold vi; decide)) only [ex_253_0, ex_253_1, ex_253_2, ex_253_5, ex_253_6, ex_253_7, ex_253_8, ex_253_11, ex_253_13, ex_253_14, ex_253_17, ex_253_20, ex_253_21, ex_253_22, ex_253_25, ex_253_26, ex_253_28, ex_253_30, ex_253_34, ex_253_37, ex_253_38, ex_253_39, ex_253_42, ex_253_43, ex_253_46, ex_253_48, ex_253_49, ex_253_50, ex_253_51, ex_253_52, ex_253_55, ex_253_56, ex_253_59, ex_253_61, ex_253_62, ex_253_65, ex_253_67, ex_253_68, ex_253_69, ex_253_70, ex_253_71, ex_253_72, ex_253_75, ex_253_76, ex_253_79, ex_253_80, ex_253_81, ex_253_84, ex_253_85, ex_253_86, ex_253_87, ex_253_88, ex_253_91, ex_253_92, ex_253_93, ex_253_94, ex_253_95, ex_253_96, ex_253_97, ex_253_98, ex_253_101, ex_253_102, ex_253_103, ex_253_104, ex_253_105, ex_253_106, ex_253_107, ex_253_108, ex_253_111, ex_253_114, ex_253_117, ex_253_118, ex_253_121, ex_253_122, ex_253_123, if_true, if_false, and_self, Option.toList_some, Option.toList_none, List.singleton_append, List.cons_append, List.nil_append, List.append_nil, nI_1, nt_e, Int32.le_refl, show (32 : Int32) = nI 32 from rfl, nI_leI, Nat.le_refl, nI_clamp, e1, Bool.true_eq_false, Bool.false_eq_true, ↓reduceIte]
      exact h u2 (o0.tr (oE.wk (fun a q => by unfold inR; omega))) (ee_inv hI1 oE (fun a q => by omega))
    | succ kz ih =>
      intro t j3 ht u2 o2 H2
      have ht32 : t < 32 := by omega
      have hnle : ¬ 32 ≤ t := by omega
      have ih := fun j3 => ih (t + 1) j3 (by omega)
      have hVe := eV_e (init := 100) (ap := apE S.1 S.2.1.1) ht32
      generalize hi0 : (if t = 0 then 0 else 100) = i0 at hVe
      have hi100 : i0 ≤ 100 := by rw [← hi0]; split <;> omega
      have inner : ∀ (n g : Nat), g < n → g ≤ t → subB g t = true → ∀ u3, Only (is 247) u1 u3 → (∀ t', t' < t → AI u3 247 t' = nI (eV 100 (apE S.1 S.2.1.1) t')) → AI u3 247 t = nI (minP i0 (fun k => (subB k t && apE S.1 S.2.1.1 k) && decide (g < k)) (fun k => eV 100 (apE S.1 S.2.1.1) (D6 t k) + 1) t) → Ex (d + 4) 253 51 [some (.ref 203), some (.int (nI (wantN S.1 S.2.1.1))), some (.int (nI t)), some (.int (nI g))] [] (am_emb u3) post := by
        intro n
        induction n with
        | zero => intro g hg; omega
        | succ n ih2 =>
          intro g hg hgt hgs u3 o3 H3 hcur
          rw [ex_253_51]
          by_cases g0 : g = 0
          · simp (disch := first | exact am_nl_i _ | exact am_nl_r _ | exact am_nl_0 | (refine vi_nI ?_ ?_ <;> omega) | assumption | omega | exact b2i_01 _ | exact Or.inl rfl | exact Or.inr rfl | (unfold vi; decide)) only [ex_253_0, ex_253_1, ex_253_2, ex_253_5, ex_253_6, ex_253_7, ex_253_8, ex_253_11, ex_253_13, ex_253_14, ex_253_17, ex_253_20, ex_253_21, ex_253_22, ex_253_25, ex_253_26, ex_253_28, ex_253_30, ex_253_33, ex_253_34, ex_253_37, ex_253_38, ex_253_39, ex_253_42, ex_253_43, ex_253_46, ex_253_48, ex_253_49, ex_253_50, ex_253_52, ex_253_56, ex_253_59, ex_253_61, ex_253_62, ex_253_65, ex_253_67, ex_253_68, ex_253_69, ex_253_70, ex_253_71, ex_253_72, ex_253_75, ex_253_76, ex_253_79, ex_253_80, ex_253_81, ex_253_84, ex_253_85, ex_253_86, ex_253_87, ex_253_88, ex_253_91, ex_253_92, ex_253_93, ex_253_94, ex_253_95, ex_253_96, ex_253_97, ex_253_98, ex_253_101, ex_253_102, ex_253_103, ex_253_104, ex_253_105, ex_253_106, ex_253_107, ex_253_108, ex_253_111, ex_253_114, ex_253_117, ex_253_118, ex_253_121, ex_253_122, ex_253_123, if_true, if_false, and_self, Option.toList_some, Option.toList_none, List.singleton_append, List.cons_append, List.nil_append, List.append_nil, nI_1, nt_e, Int32.le_refl, i_le0, g0, Bool.true_eq_false, Bool.false_eq_true, ↓reduceIte]
            refine ih _ u3 o3 (fun t' h1 => ?_)
            by_cases e : t' = t
            · rw [e, hcur, hVe, g0]
              congr 1
              exact minP_congr (fun k h1 _ => by rw [decide_eq_true (show 0 < k by omega), Bool.and_true]) (fun _ _ _ _ => rfl)
            · exact H3 t' (by omega)
          · obtain ⟨d1, d2⟩ := D6_e (k := 5) (by omega) (show t < 2 ^ 5 by omega) g
            have hgn := (subB_nat (by omega) (by omega)).mp hgs
            obtain ⟨z1, z2, z3⟩ := desc_dec t (by omega) g (by omega) hgn g0
            have dlt := D6_lt (show 1 ≤ g by omega) hgt ht32 hgs
            have e3E : AI u3 241 12 = nI (aliveN S.2.1.1) := by rw [(o3 241 (by unfold is; omega)).2.2.2.1]; exact hE1
            have e3a : AI u3 246 (32 * aliveN S.2.1.1 + g) = b2i (apE S.1 S.2.1.1 g) := by rw [(o3 246 (by unfold is; omega)).2.2.2.1]; exact hap g (by omega)
            have e7 : nI g - 1 = nI (g - 1) := i_sb (by omega)
            have hg1 : ¬ g = 0 := g0
            have hadd := minP_add (init := i0) (c := fun k => subB k t && apE S.1 S.2.1.1 k) (val := fun k => eV 100 (apE S.1 S.2.1.1) (D6 t k) + 1) (m := g) (by omega) hgt
            have hnext : minP i0 (fun k => (subB k t && apE S.1 S.2.1.1 k) && decide (((g - 1) &&& t) < k)) (fun k => eV 100 (apE S.1 S.2.1.1) (D6 t k) + 1) t = minP i0 (fun k => (subB k t && apE S.1 S.2.1.1 k) && decide (g ≤ k)) (fun k => eV 100 (apE S.1 S.2.1.1) (D6 t k) + 1) t := by
              refine minP_congr (fun k h1 h2 => ?_) (fun _ _ _ _ => rfl)
              cases hs : subB k t
              · rfl
              · congr 1
                by_cases w : g ≤ k
                · rw [decide_eq_true w, decide_eq_true (by omega)]
                · have := z3 k (by omega) ((subB_nat (by omega) (by omega)).mp hs) (by omega)
                  rw [decide_eq_false w, decide_eq_false (by omega)]
            have hold := H3 (D6 t g) dlt
            have hle1 := eV_le (apE S.1 S.2.1.1) 100 (D6 t g) (by omega)
            have ih2 := ih2 ((g - 1) &&& t) (by omega) (by omega) ((subB_nat (by omega) (by omega)).mpr z2)
            have hml : minP i0 (fun k => (subB k t && apE S.1 S.2.1.1 k) && decide (g < k)) (fun k => eV 100 (apE S.1 S.2.1.1) (D6 t k) + 1) t ≤ 100 := Nat.le_trans (minP_le).1 hi100
            rw [hnext, hadd] at ih2
            simp only [hgs, Bool.true_and] at ih2
            generalize minP i0 (fun k => (subB k t && apE S.1 S.2.1.1 k) && decide (g < k)) (fun k => eV 100 (apE S.1 S.2.1.1) (D6 t k) + 1) t = x at *
            cases q : apE S.1 S.2.1.1 g
            · rw [q] at e3a
              simp only [q, Bool.false_eq_true, if_false] at ih2
              simp (disch := first | exact am_nl_i _ | exact am_nl_r _ | exact am_nl_0 | (refine vi_nI ?_ ?_ <;> omega) | assumption | omega | exact b2i_01 _ | exact Or.inl rfl | exact Or.inr rfl | (unfold vi; decide)) only [ex_253_0, ex_253_1, ex_253_2, ex_253_5, ex_253_6, ex_253_7, ex_253_8, ex_253_11, ex_253_13, ex_253_14, ex_253_17, ex_253_20, ex_253_21, ex_253_22, ex_253_25, ex_253_26, ex_253_28, ex_253_30, ex_253_33, ex_253_34, ex_253_37, ex_253_38, ex_253_39, ex_253_42, ex_253_43, ex_253_46, ex_253_48, ex_253_49, ex_253_50, ex_253_52, ex_253_55, ex_253_56, ex_253_59, ex_253_61, ex_253_62, ex_253_65, ex_253_67, ex_253_68, ex_253_69, ex_253_70, ex_253_71, ex_253_72, ex_253_75, ex_253_76, ex_253_79, ex_253_80, ex_253_81, ex_253_84, ex_253_85, ex_253_86, ex_253_87, ex_253_88, ex_253_91, ex_253_92, ex_253_93, ex_253_94, ex_253_95, ex_253_96, ex_253_97, ex_253_98, ex_253_101, ex_253_102, ex_253_103, ex_253_104, ex_253_105, ex_253_106, ex_253_107, ex_253_108, ex_253_114, ex_253_117, ex_253_118, ex_253_121, ex_253_122, ex_253_123, if_true, if_false, and_self, Option.toList_some, Option.toList_none, List.singleton_append, List.cons_append, List.nil_append, List.append_nil, nI_1, nt_e, Int32.le_refl, i_le0, hg1, c12, e3E, show (32 : Int32) = nI 32 from rfl, mul_nI, nI_add, nI_clamp, e3a, b2i_0, e7, and_nI, Bool.true_eq_false, Bool.false_eq_true, ↓reduceIte]
              exact ih2 u3 o3 H3 hcur
            · rw [q] at e3a
              simp only [q, if_true] at ih2
              have hmin : (if nI (1 + eV 100 (apE S.1 S.2.1.1) (D6 t g)) < nI x then nI (1 + eV 100 (apE S.1 S.2.1.1) (D6 t g)) else nI x) = nI (min x (eV 100 (apE S.1 S.2.1.1) (D6 t g) + 1)) := by
                by_cases z : 1 + eV 100 (apE S.1 S.2.1.1) (D6 t g) < x
                · rw [if_pos ((nI_ltI (by omega) (by omega)).mpr z), Nat.min_eq_right (by omega), Nat.add_comm]
                · rw [if_neg (fun w => z ((nI_ltI (by omega) (by omega)).mp w)), Nat.min_eq_left (by omega)]
              have h1e : ∀ y : Nat, (1 : Int32) + nI y = nI (1 + y) := fun y => nI_add 1 y
              simp (disch := first | exact am_nl_i _ | exact am_nl_r _ | exact am_nl_0 | (refine vi_nI ?_ ?_ <;> omega) | assumption | omega | exact b2i_01 _ | exact Or.inl rfl | exact Or.inr rfl | (unfold vi; decide)) only [ex_253_0, ex_253_1, ex_253_2, ex_253_5, ex_253_6, ex_253_7, ex_253_8, ex_253_11, ex_253_13, ex_253_14, ex_253_17, ex_253_20, ex_253_21, ex_253_22, ex_253_25, ex_253_26, ex_253_28, ex_253_30, ex_253_33, ex_253_34, ex_253_37, ex_253_38, ex_253_39, ex_253_42, ex_253_43, ex_253_46, ex_253_48, ex_253_49, ex_253_50, ex_253_52, ex_253_55, ex_253_56, ex_253_59, ex_253_61, ex_253_62, ex_253_65, ex_253_67, ex_253_68, ex_253_69, ex_253_70, ex_253_71, ex_253_72, ex_253_75, ex_253_76, ex_253_79, ex_253_80, ex_253_81, ex_253_84, ex_253_85, ex_253_86, ex_253_87, ex_253_88, ex_253_91, ex_253_92, ex_253_93, ex_253_94, ex_253_95, ex_253_96, ex_253_97, ex_253_98, ex_253_101, ex_253_102, ex_253_103, ex_253_104, ex_253_105, ex_253_106, ex_253_107, ex_253_108, ex_253_114, ex_253_117, ex_253_118, ex_253_121, ex_253_122, ex_253_123, if_true, if_false, and_self, Option.toList_some, Option.toList_none, List.singleton_append, List.cons_append, List.nil_append, List.append_nil, nI_1, nt_e, Int32.le_refl, i_le0, hg1, c12, e3E, show (32 : Int32) = nI 32 from rfl, mul_nI, nI_add, nI_clamp, e3a, b2i_0, e7, and_nI, hcur, d1, hold, h1e, min_ok, hmin, Bool.true_eq_false, Bool.false_eq_true, ↓reduceIte]
              refine ih2 _ (of_ai o3 rfl) (fun t' h1 => ?_) ?_
              · rw [AI_sAI, if_pos rfl, upd_n (by omega)]; exact H3 t' h1
              · rw [AI_sAI, if_pos rfl, upd_s]
      have start : ∀ x, x = nI i0 → Ex (d + 4) 253 51 [some (.ref 203), some (.int (nI (wantN S.1 S.2.1.1))), some (.int (nI t)), some (.int (nI t))] [] (am_emb (sAI u2 247 (upd (AI u2 247) t x))) post := fun x hx => by
        refine inner (t + 1) t (by omega) (Nat.le_refl _) (subB_rf t) _ (of_ai o2 rfl) (fun t' h1 => ?_) ?_
        · rw [AI_sAI, if_pos rfl, upd_n (by omega)]; exact H2 t' h1
        · rw [AI_sAI, if_pos rfl, upd_s, hx, minP_none (fun k h1 h2 => by rw [decide_eq_false (by omega), Bool.and_false])]
      rw [ex_253_27]
      by_cases t0 : t = 0
      · have hx : (0 : Int32) = nI i0 := by rw [← hi0, if_pos t0]; rfl
        have := start 0 hx
        rw [t0] at this
        simp (disch := first | exact am_nl_i _ | exact am_nl_r _ | exact am_nl_0 | (refine vi_nI ?_ ?_ <;> omega) | assumption | omega | exact b2i_01 _ | exact Or.inl rfl | exact Or.inr rfl | (unfold vi; decide)) only [ex_253_0, ex_253_1, ex_253_2, ex_253_5, ex_253_6, ex_253_7, ex_253_8, ex_253_11, ex_253_13, ex_253_14, ex_253_17, ex_253_20, ex_253_21, ex_253_22, ex_253_25, ex_253_26, ex_253_28, ex_253_30, ex_253_33, ex_253_34, ex_253_37, ex_253_38, ex_253_39, ex_253_42, ex_253_43, ex_253_46, ex_253_48, ex_253_49, ex_253_50, ex_253_52, ex_253_55, ex_253_56, ex_253_59, ex_253_61, ex_253_62, ex_253_65, ex_253_67, ex_253_68, ex_253_69, ex_253_70, ex_253_71, ex_253_72, ex_253_75, ex_253_76, ex_253_79, ex_253_80, ex_253_81, ex_253_84, ex_253_85, ex_253_86, ex_253_87, ex_253_88, ex_253_91, ex_253_92, ex_253_93, ex_253_94, ex_253_95, ex_253_96, ex_253_97, ex_253_98, ex_253_101, ex_253_102, ex_253_103, ex_253_104, ex_253_105, ex_253_106, ex_253_107, ex_253_108, ex_253_111, ex_253_114, ex_253_118, ex_253_121, ex_253_122, ex_253_123, if_true, if_false, and_self, Option.toList_some, Option.toList_none, List.singleton_append, List.cons_append, List.nil_append, List.append_nil, nI_1, nt_e, Int32.le_refl, show (32 : Int32) = nI 32 from rfl, nI_leI, hnle, i_eq0, t0, nI_clamp, Bool.true_eq_false, Bool.false_eq_true, ↓reduceIte]
        exact this
      · have hx : (100 : Int32) = nI i0 := by rw [← hi0, if_neg t0]; rfl
        simp (disch := first | exact am_nl_i _ | exact am_nl_r _ | exact am_nl_0 | (refine vi_nI ?_ ?_ <;> omega) | assumption | omega | exact b2i_01 _ | exact Or.inl rfl | exact Or.inr rfl | (unfold vi; decide)) only [ex_253_0, ex_253_1, ex_253_2, ex_253_5, ex_253_6, ex_253_7, ex_253_8, ex_253_11, ex_253_13, ex_253_14, ex_253_17, ex_253_20, ex_253_21, ex_253_22, ex_253_25, ex_253_26, ex_253_28, ex_253_30, ex_253_33, ex_253_34, ex_253_37, ex_253_38, ex_253_39, ex_253_42, ex_253_43, ex_253_46, ex_253_48, ex_253_49, ex_253_50, ex_253_52, ex_253_55, ex_253_56, ex_253_59, ex_253_61, ex_253_62, ex_253_65, ex_253_67, ex_253_68, ex_253_69, ex_253_70, ex_253_71, ex_253_72, ex_253_75, ex_253_76, ex_253_79, ex_253_80, ex_253_81, ex_253_84, ex_253_85, ex_253_86, ex_253_87, ex_253_88, ex_253_91, ex_253_92, ex_253_93, ex_253_94, ex_253_95, ex_253_96, ex_253_97, ex_253_98, ex_253_101, ex_253_102, ex_253_103, ex_253_104, ex_253_105, ex_253_106, ex_253_107, ex_253_108, ex_253_111, ex_253_114, ex_253_118, ex_253_121, ex_253_122, ex_253_123, if_true, if_false, and_self, Option.toList_some, Option.toList_none, List.singleton_append, List.cons_append, List.nil_append, List.append_nil, nI_1, nt_e, Int32.le_refl, show (32 : Int32) = nI 32 from rfl, nI_leI, hnle, i_eq0, t0, nI_clamp, Bool.true_eq_false, Bool.false_eq_true, ↓reduceIte]
        exact start 100 hx
  simp (disch := first | exact am_nl_i _ | exact am_nl_r _ | exact am_nl_0 | assumption | omega | (refine vi_nI ?_ ?_ <;> omega) | exact b2i_01 _ | exact Or.inl rfl | exact Or.inr rfl | (unfold vi; decide)) only [ex_253_0, ex_253_1, ex_253_2, ex_253_5, ex_253_6, ex_253_7, ex_253_8, ex_253_11, ex_253_13, ex_253_14, ex_253_17, ex_253_20, ex_253_21, ex_253_22, ex_253_25, ex_253_26, ex_253_28, ex_253_30, ex_253_33, ex_253_34, ex_253_37, ex_253_38, ex_253_39, ex_253_42, ex_253_43, ex_253_46, ex_253_48, ex_253_49, ex_253_50, ex_253_51, ex_253_52, ex_253_55, ex_253_56, ex_253_59, ex_253_61, ex_253_62, ex_253_65, ex_253_67, ex_253_68, ex_253_69, ex_253_70, ex_253_71, ex_253_72, ex_253_75, ex_253_76, ex_253_79, ex_253_80, ex_253_81, ex_253_84, ex_253_85, ex_253_86, ex_253_87, ex_253_88, ex_253_91, ex_253_92, ex_253_93, ex_253_94, ex_253_95, ex_253_96, ex_253_97, ex_253_98, ex_253_101, ex_253_102, ex_253_103, ex_253_104, ex_253_105, ex_253_106, ex_253_107, ex_253_108, ex_253_111, ex_253_114, ex_253_117, ex_253_118, ex_253_121, ex_253_122, ex_253_123, if_true, if_false, and_self, Option.toList_some, Option.toList_none, List.singleton_append, List.cons_append, List.nil_append, List.append_nil, nI_1, nt_e, Int32.le_refl]
  exact outer 32 0 none (by omega) u1 (Only.rf _ _) (fun t' h1 => absurd h1 (Nat.not_lt_zero _))
end EvenR2
