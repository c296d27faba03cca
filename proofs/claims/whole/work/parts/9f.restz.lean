/-! RESTS, of the reference: all of it -/
theorem seatF_inj {x : Int32} : ∀ {i j k : Nat}, j < k → k < (seatF x i).1 → (seatF x i).2 j < (seatF x i).2 k
  | 0, _, k, _, h => absurd h (Nat.not_lt_zero k)
  | i + 1, j, k, hj, h => by
    rw [seatF] at h ⊢
    by_cases b : bt x i = true
    · rw [if_pos b] at h ⊢
      have h : k < (seatF x i).1 + 1 := h
      show upN (seatF x i).2 (seatF x i).1 i j < upN (seatF x i).2 (seatF x i).1 i k
      by_cases e : k = (seatF x i).1
      · rw [e, upN_s, upN_n (by omega)]
        exact (seatF_6 (x := x) (i := i) (k := j) (by omega)).1
      · rw [upN_n e, upN_n (by omega)]
        exact seatF_inj hj (by omega)
    · rw [if_neg b] at h ⊢
      exact seatF_inj hj h
def rrP (a : Nat) : Prop := a = 203 ∨ rsP a ∨ a = 249
theorem rr_inv {u u1 : am_U} {S : ST} (h : InvR u S) (o1 : Only rrP u u1) (hf : ∀ k, ¬ k = 62 → FI u1 203 k = FI u 203 k) (hl : LifeR u1 S.1 S.2.1.1) : InvR u1 S := by
  have n : ∀ a, 204 ≤ a → a ≤ 240 ∨ (243 ≤ a ∧ a ≤ 248) → ¬ rrP a := fun a h1 h2 q => by unfold rrP rsP plP at q; omega
  have e := fun a (ha : 204 ≤ a) hb => (o1 a (n a ha hb)).2.2.2.1
  obtain ⟨h1, h2, h3, h4, h5, h6⟩ := h
  refine ⟨h1.keep o1 (fun a q1 q2 => n a (by omega) (by omega)), h2.keep o1 (fun a q1 q2 => n a (by omega) (by omega)), ⟨hl, ?_, ?_⟩, ?_, fun k hk => ?_, ?_⟩
  · unfold LinesR
    rw [e 236 (by decide) (by decide), e 237 (by decide) (by decide)]
    exact h3.2.1
  · unfold ToldR
    rw [e 238 (by decide) (by decide), e 239 (by decide) (by decide), e 240 (by decide) (by decide)]
    exact h3.2.2
  · unfold PastR
    rw [hf 55 (by decide), e 244 (by decide) (by decide)]
    exact h4
  · unfold LinesR ToldR
    rw [e 236 (by decide) (by decide), e 237 (by decide) (by decide), e 238 (by decide) (by decide), e 239 (by decide) (by decide), e 240 (by decide) (by decide), e 243 (by decide) (by decide), e 245 (by decide) (by decide)]
    exact h5 k hk
  · unfold TapeR
    rw [hf 1 (by decide), e 204 (by decide) (by decide)]
    exact h6
section RestsR
variable {d n N : Nat} {u : am_U} {S : ST} {v : LV} {l : LF} {pp : Nat → Nat} {x y : Int32} {post : Option Value → am_M → Prop}
theorem rloop_ok (hR : LibR u v) (hl : LifeR u v l) (hW : WF v) (hw : WL v l) (hn : n ≤ 3) (hN : 13 ^ n = N) (hF : FI u 203 62 = nI n) (hpl : ∀ k, k < n → AI u 249 k = nI (pp k)) (hpp : ∀ k, k < n → pp k < nE v) (hinj : ∀ j k, j < k → k < n → ¬ pp k = pp j)
    (h : ∀ u', Only rsP u u' → LifeR u' v l → post (some (.int (if y = -1 then nI (chS v l y n pp n (stk0 l) 0 (0, -1)).1 else (chS v l y n pp n (stk0 l) 0 (0, -1)).2))) (am_emb u')) :
    ∀ (kz c : Nat), c + kz = N → ∀ (u2 : am_U) (j6 j7 j8 : Option Value), Only rsP u u2 → LifeR u2 v l → (scanF (tryF v l y n pp n (stk0 l) 0) c 0 (0, -1)).2 = -1 → Ex (d + 5) 263 115 [some (.ref 203), some (.int x), some (.int y), some (.int (nI N)), some (.int (nI (scanF (tryF v l y n pp n (stk0 l) 0) c 0 (0, -1)).1)), some (.int (nI c)), j6, j7, j8] [] (am_emb u2) post := by
  have h12 := hW.1.2.1
  have hN2 : N ≤ 2197 := by
    have : n = 0 ∨ n = 1 ∨ n = 2 ∨ n = 3 := by omega
    rcases this with rfl | rfl | rfl | rfl <;> simp at hN <;> omega
  have keep : ∀ u2, Only rsP u u2 → LibR u2 v ∧ FI u2 203 62 = nI n ∧ (∀ k, k < n → AI u2 249 k = nI (pp k)) := fun u2 o2 => by
    refine ⟨hR.keep o2 (fun a q1 q2 q => by unfold rsP plP at q; omega), ?_, fun k hk => ?_⟩
    · rw [(o2 203 (by unfold rsP plP; omega)).1]; exact hF
    · rw [(o2 249 (by unfold rsP plP; omega)).2.2.2.1]; exact hpl k hk
  have hsc := chS_scan (l := l) (w := y) (n := n) (pp := pp) h12 n (stk0 l) 0 (0, -1)
  rw [hN] at hsc
  have hle := fun c => scan_le (v := v) (l := l) (w := y) (n := n) (m := n) (P := 0) (pp := pp) (σ := stk0 l) c 0 (0, -1)
  have hne : ∀ a, a ≤ 2197 → ¬ nI a = -1 := fun a ha q => by
    have e2 : ¬ nI a < 0 := by rw [i_lt0 (by omega)]; exact id
    rw [q] at e2
    exact e2 (by decide)
  rw [hsc] at h
  intro kz
  induction kz with
  | zero =>
    intro c hc u2 j6 j7 j8 o2 l2 e2
    obtain rfl : c = N := by omega
    have hfin := h u2 o2 l2
    rw [ex_263_115]
    by_cases q : y = -1
    · rw [if_pos q] at hfin
      simp (disch := first | exact am_nl_i _ | exact am_nl_r _ | exact am_nl_0 | (refine vi_nI ?_ ?_ <;> omega) | assumption | omega | exact b2i_01 _ | exact Or.inl rfl | exact Or.inr rfl | (unfold vi; decide)) only [ex_263_0, ex_263_1, ex_263_2, ex_263_5, ex_263_6, ex_263_7, ex_263_10, ex_263_11, ex_263_14, ex_263_15, ex_263_17, ex_263_20, ex_263_21, ex_263_22, ex_263_25, ex_263_27, ex_263_28, ex_263_29, ex_263_30, ex_263_31, ex_263_34, ex_263_35, ex_263_36, ex_263_39, ex_263_40, ex_263_43, ex_263_44, ex_263_45, ex_263_48, ex_263_51, ex_263_52, ex_263_53, ex_263_54, ex_263_55, ex_263_56, ex_263_58, ex_263_60, ex_263_62, ex_263_65, ex_263_66, ex_263_68, ex_263_69, ex_263_70, ex_263_71, ex_263_74, ex_263_77, ex_263_78, ex_263_81, ex_263_82, ex_263_85, ex_263_87, ex_263_88, ex_263_89, ex_263_90, ex_263_93, ex_263_94, ex_263_95, ex_263_98, ex_263_99, ex_263_101, ex_263_102, ex_263_103, ex_263_106, ex_263_109, ex_263_110, ex_263_112, ex_263_113, ex_263_117, ex_263_118, ex_263_121, ex_263_123, ex_263_125, ex_263_126, ex_263_128, ex_263_129, ex_263_132, ex_263_133, ex_263_134, ex_263_136, ex_263_138, ex_263_141, ex_263_142, ex_263_145, ex_263_147, ex_263_149, ex_263_151, ex_263_152, ex_263_153, ex_263_155, ex_263_158, ex_263_159, ex_263_162, ex_263_164, ex_263_165, ex_263_166, ex_263_169, ex_263_170, ex_263_171, ex_263_174, ex_263_175, ex_263_178, ex_263_179, ex_263_181, ex_263_183, ex_263_185, ex_263_186, ex_263_188, ex_263_191, ex_263_194, ex_263_196, ex_263_199, ex_263_200, ex_263_203, ex_263_206, ex_263_209, ex_263_211, ex_263_212, ex_263_215, ex_263_217, ex_263_218, ex_263_221, ex_263_224, ex_263_227, ex_263_228, ex_263_229, ex_263_232, ex_263_234, ex_263_237, ex_263_238, if_true, if_false, and_self, Option.toList_some, Option.toList_none, List.singleton_append, List.cons_append, List.nil_append, List.append_nil, nI_1, nt_e, Int32.le_refl, nI_leI, Nat.le_refl, q, Bool.true_eq_false, Bool.false_eq_true, ↓reduceIte]
      rw [q] at hfin
      exact hfin
    · rw [if_neg q, e2] at hfin
      simp (disch := first | exact am_nl_i _ | exact am_nl_r _ | exact am_nl_0 | (refine vi_nI ?_ ?_ <;> omega) | assumption | omega | exact b2i_01 _ | exact Or.inl rfl | exact Or.inr rfl | (unfold vi; decide)) only [ex_263_0, ex_263_1, ex_263_2, ex_263_5, ex_263_6, ex_263_7, ex_263_10, ex_263_11, ex_263_14, ex_263_15, ex_263_17, ex_263_20, ex_263_21, ex_263_22, ex_263_25, ex_263_27, ex_263_28, ex_263_29, ex_263_30, ex_263_31, ex_263_34, ex_263_35, ex_263_36, ex_263_39, ex_263_40, ex_263_43, ex_263_44, ex_263_45, ex_263_48, ex_263_51, ex_263_52, ex_263_53, ex_263_54, ex_263_55, ex_263_56, ex_263_58, ex_263_60, ex_263_62, ex_263_65, ex_263_66, ex_263_68, ex_263_69, ex_263_70, ex_263_71, ex_263_74, ex_263_77, ex_263_78, ex_263_81, ex_263_82, ex_263_85, ex_263_87, ex_263_88, ex_263_89, ex_263_90, ex_263_93, ex_263_94, ex_263_95, ex_263_98, ex_263_99, ex_263_101, ex_263_102, ex_263_103, ex_263_106, ex_263_109, ex_263_110, ex_263_112, ex_263_113, ex_263_117, ex_263_118, ex_263_121, ex_263_123, ex_263_125, ex_263_126, ex_263_128, ex_263_129, ex_263_132, ex_263_133, ex_263_134, ex_263_136, ex_263_138, ex_263_141, ex_263_142, ex_263_145, ex_263_147, ex_263_149, ex_263_151, ex_263_152, ex_263_153, ex_263_155, ex_263_158, ex_263_159, ex_263_162, ex_263_164, ex_263_165, ex_263_166, ex_263_169, ex_263_170, ex_263_171, ex_263_174, ex_263_175, ex_263_178, ex_263_179, ex_263_181, ex_263_183, ex_263_185, ex_263_186, ex_263_188, ex_263_191, ex_263_194, ex_263_196, ex_263_199, ex_263_200, ex_263_203, ex_263_206, ex_263_209, ex_263_211, ex_263_212, ex_263_215, ex_263_217, ex_263_218, ex_263_221, ex_263_224, ex_263_227, ex_263_228, ex_263_229, ex_263_232, ex_263_234, ex_263_237, ex_263_238, if_true, if_false, and_self, Option.toList_some, Option.toList_none, List.singleton_append, List.cons_append, List.nil_append, List.append_nil, nI_1, nt_e, Int32.le_refl, nI_leI, Nat.le_refl, q, Bool.true_eq_false, Bool.false_eq_true, ↓reduceIte]
      exact hfin
  | succ kz ih =>
    intro c hc u2 j6 j7 j8 o2 l2 e2
    obtain ⟨k1, k2, k3⟩ := keep u2 o2
    have hnle : ¬ N ≤ c := by omega
    have esub : nI n - 1 = nI n + -1 := Int32.sub_eq_add_neg ..
    have ih := ih (c + 1) (by omega)
    have esc : scanF (tryF v l y n pp n (stk0 l) 0) (c + 1) 0 (0, -1) = tryF v l y n pp n (stk0 l) 0 c (scanF (tryF v l y n pp n (stk0 l) 0) c 0 (0, -1)) := by
      rw [scanF_add, Nat.zero_add]; rfl
    have hle1 := hle c
    rw [esc] at ih
    have hrest : (scanF (tryF v l y n pp n (stk0 l) 0) N 0 (0, -1)) = scanF (tryF v l y n pp n (stk0 l) 0) kz (c + 1) (tryF v l y n pp n (stk0 l) 0 c (scanF (tryF v l y n pp n (stk0 l) 0) c 0 (0, -1))) := by
      rw [← esc, show N = (c + 1) + kz by omega, scanF_add, Nat.zero_add]
    generalize hst : scanF (tryF v l y n pp n (stk0 l) 0) c 0 (0, -1) = st at *
    have hle1 : st.1 ≤ 0 + c := hle1
    rw [ex_263_115]
    simp (disch := first | exact am_nl_i _ | exact am_nl_r _ | exact am_nl_0 | (refine vi_nI ?_ ?_ <;> omega) | assumption | omega | exact b2i_01 _ | exact Or.inl rfl | exact Or.inr rfl | (unfold vi; decide)) only [ex_263_0, ex_263_1, ex_263_2, ex_263_5, ex_263_6, ex_263_7, ex_263_10, ex_263_11, ex_263_14, ex_263_15, ex_263_17, ex_263_20, ex_263_21, ex_263_22, ex_263_25, ex_263_27, ex_263_28, ex_263_29, ex_263_30, ex_263_31, ex_263_34, ex_263_35, ex_263_36, ex_263_39, ex_263_40, ex_263_43, ex_263_44, ex_263_45, ex_263_48, ex_263_51, ex_263_52, ex_263_53, ex_263_54, ex_263_55, ex_263_56, ex_263_58, ex_263_60, ex_263_62, ex_263_65, ex_263_66, ex_263_68, ex_263_69, ex_263_70, ex_263_71, ex_263_74, ex_263_77, ex_263_78, ex_263_81, ex_263_82, ex_263_85, ex_263_87, ex_263_88, ex_263_89, ex_263_90, ex_263_93, ex_263_94, ex_263_95, ex_263_98, ex_263_99, ex_263_101, ex_263_102, ex_263_103, ex_263_106, ex_263_109, ex_263_110, ex_263_112, ex_263_113, ex_263_117, ex_263_118, ex_263_121, ex_263_123, ex_263_125, ex_263_126, ex_263_128, ex_263_129, ex_263_132, ex_263_133, ex_263_134, ex_263_138, ex_263_141, ex_263_142, ex_263_145, ex_263_147, ex_263_149, ex_263_151, ex_263_152, ex_263_153, ex_263_155, ex_263_158, ex_263_159, ex_263_162, ex_263_164, ex_263_165, ex_263_166, ex_263_169, ex_263_170, ex_263_171, ex_263_174, ex_263_175, ex_263_178, ex_263_179, ex_263_181, ex_263_183, ex_263_185, ex_263_186, ex_263_188, ex_263_191, ex_263_194, ex_263_196, ex_263_199, ex_263_200, ex_263_203, ex_263_206, ex_263_209, ex_263_211, ex_263_212, ex_263_215, ex_263_217, ex_263_218, ex_263_221, ex_263_224, ex_263_227, ex_263_228, ex_263_229, ex_263_232, ex_263_234, ex_263_237, ex_263_238, if_true, if_false, and_self, Option.toList_some, Option.toList_none, List.singleton_append, List.cons_append, List.nil_append, List.append_nil, nI_1, nt_e, Int32.le_refl, nI_leI, hnle, k2, esub, Bool.true_eq_false, Bool.false_eq_true, ↓reduceIte]
    have dg := digits_ok (L0 := none) (d := d + 5) (n := n) (u := u2) (v := v) (post := post) (L1 := some (.int x)) (L2 := some (.int y)) (L3 := some (.int (nI N))) (L4 := some (.int (nI st.1))) (c := c) hn (by omega) h12 k1.1.2.1 (fun u3 j6 j8 o3 g3 => ?_) n 0 (by omega) u2 (Only.rf _ _) (fun k h1 h2 => by omega)
    · rw [Nat.pow_zero, Nat.div_one] at dg
      exact dg
    have o3' : Only rsP u u3 := o2.tr (o3.wk (fun a q => Or.inr q))
    have l3 : LifeR u3 v l := l2.keep o3 (by unfold is; omega)
    obtain ⟨m1, m2, m3⟩ := keep u3 o3'
    have ra := restF_at (v := v) (l := l) (n := n) (pp := pp) (σ := stk0 l) (ch := fun k => c / 13 ^ (n - 1 - k) % 13) n (Nat.le_refl n) c (by rw [hN]; omega) (fun k _ _ => rfl)
    rw [Nat.sub_self] at ra
    have ra : restF v l n pp n (stk0 l) c = true ↔ _ := ra
    have hgo : (tryF v l y n pp n (stk0 l) 0 c st).2 = -1 → Ex (d + 5) 263 115 [some (.ref 203), some (.int x), some (.int y), some (.int (nI N)), some (.int (nI (tryF v l y n pp n (stk0 l) 0 c st).1)), some (.int (nI (c + 1))), j6, some (.int (b2i (alN n (fun j => decide (c / 13 ^ j % 13 ≤ nP v))))), j8] [] (am_emb u3) post := fun e => ih u3 _ _ _ o3' l3 e
    rw [ex_263_194]
    cases qa : alN n (fun j => decide (c / 13 ^ j % 13 ≤ nP v))
    · have hrf : restF v l n pp n (stk0 l) c = false := by
        cases e : restF v l n pp n (stk0 l) c
        · rfl
        · have := ra.mp e
          have q : alN n (fun j => decide (c / 13 ^ j % 13 ≤ nP v)) = true := alN_iff.mpr (fun j hj => by
            have := (this (n - 1 - j) (Nat.zero_le _) (by omega)).1
            rw [show n - 1 - (n - 1 - j) = j by omega] at this
            exact decide_eq_true this)
          rw [q] at qa
          exact absurd qa (by decide)
      have et : tryF v l y n pp n (stk0 l) 0 c st = st := by
        unfold tryF
        rw [hrf, if_neg (by decide)]
      rw [et, qa] at hgo
      simp (disch := first | exact am_nl_i _ | exact am_nl_r _ | exact am_nl_0 | (refine vi_nI ?_ ?_ <;> omega) | assumption | omega | exact b2i_01 _ | exact Or.inl rfl | exact Or.inr rfl | (unfold vi; decide)) only [ex_263_0, ex_263_1, ex_263_2, ex_263_5, ex_263_6, ex_263_7, ex_263_10, ex_263_11, ex_263_14, ex_263_15, ex_263_17, ex_263_20, ex_263_21, ex_263_22, ex_263_25, ex_263_27, ex_263_28, ex_263_29, ex_263_30, ex_263_31, ex_263_34, ex_263_35, ex_263_36, ex_263_39, ex_263_40, ex_263_43, ex_263_44, ex_263_45, ex_263_48, ex_263_51, ex_263_52, ex_263_53, ex_263_54, ex_263_55, ex_263_56, ex_263_58, ex_263_60, ex_263_62, ex_263_65, ex_263_66, ex_263_68, ex_263_69, ex_263_70, ex_263_71, ex_263_74, ex_263_77, ex_263_78, ex_263_81, ex_263_82, ex_263_85, ex_263_87, ex_263_88, ex_263_89, ex_263_90, ex_263_93, ex_263_94, ex_263_95, ex_263_98, ex_263_99, ex_263_101, ex_263_102, ex_263_103, ex_263_106, ex_263_109, ex_263_110, ex_263_112, ex_263_113, ex_263_117, ex_263_118, ex_263_121, ex_263_123, ex_263_125, ex_263_126, ex_263_128, ex_263_129, ex_263_132, ex_263_133, ex_263_134, ex_263_136, ex_263_138, ex_263_141, ex_263_142, ex_263_145, ex_263_147, ex_263_149, ex_263_151, ex_263_152, ex_263_153, ex_263_155, ex_263_158, ex_263_159, ex_263_162, ex_263_164, ex_263_165, ex_263_166, ex_263_169, ex_263_170, ex_263_171, ex_263_174, ex_263_175, ex_263_178, ex_263_179, ex_263_181, ex_263_183, ex_263_185, ex_263_186, ex_263_188, ex_263_191, ex_263_196, ex_263_199, ex_263_200, ex_263_203, ex_263_206, ex_263_209, ex_263_211, ex_263_212, ex_263_215, ex_263_217, ex_263_218, ex_263_221, ex_263_224, ex_263_227, ex_263_228, ex_263_229, ex_263_232, ex_263_234, ex_263_237, ex_263_238, if_true, if_false, and_self, Option.toList_some, Option.toList_none, List.singleton_append, List.cons_append, List.nil_append, List.append_nil, nI_1, nt_e, Int32.le_refl, b2i_0, Bool.true_eq_false, Bool.false_eq_true, ↓reduceIte]
      exact hgo e2
    · have hdig : ∀ k, k < n → c / 13 ^ (n - 1 - k) % 13 ≤ nP v := fun k hk => of_decide_eq_true (alN_iff.mp qa (n - 1 - k) (by omega))
      simp (disch := first | exact am_nl_i _ | exact am_nl_r _ | exact am_nl_0 | (refine vi_nI ?_ ?_ <;> omega) | assumption | omega | exact b2i_01 _ | exact Or.inl rfl | exact Or.inr rfl | (unfold vi; decide)) only [ex_263_0, ex_263_1, ex_263_2, ex_263_5, ex_263_6, ex_263_7, ex_263_10, ex_263_11, ex_263_14, ex_263_15, ex_263_17, ex_263_20, ex_263_21, ex_263_22, ex_263_25, ex_263_27, ex_263_28, ex_263_29, ex_263_30, ex_263_31, ex_263_34, ex_263_35, ex_263_36, ex_263_39, ex_263_40, ex_263_43, ex_263_44, ex_263_45, ex_263_48, ex_263_51, ex_263_52, ex_263_53, ex_263_54, ex_263_55, ex_263_56, ex_263_58, ex_263_60, ex_263_62, ex_263_65, ex_263_66, ex_263_68, ex_263_69, ex_263_70, ex_263_71, ex_263_74, ex_263_77, ex_263_78, ex_263_81, ex_263_82, ex_263_85, ex_263_87, ex_263_88, ex_263_89, ex_263_90, ex_263_93, ex_263_94, ex_263_95, ex_263_98, ex_263_99, ex_263_101, ex_263_102, ex_263_103, ex_263_106, ex_263_109, ex_263_110, ex_263_112, ex_263_113, ex_263_117, ex_263_118, ex_263_121, ex_263_123, ex_263_125, ex_263_126, ex_263_128, ex_263_129, ex_263_132, ex_263_133, ex_263_134, ex_263_136, ex_263_138, ex_263_141, ex_263_142, ex_263_145, ex_263_147, ex_263_149, ex_263_151, ex_263_152, ex_263_153, ex_263_155, ex_263_158, ex_263_159, ex_263_162, ex_263_164, ex_263_165, ex_263_166, ex_263_169, ex_263_170, ex_263_171, ex_263_174, ex_263_175, ex_263_178, ex_263_179, ex_263_181, ex_263_183, ex_263_185, ex_263_186, ex_263_188, ex_263_191, ex_263_196, ex_263_199, ex_263_203, ex_263_206, ex_263_209, ex_263_211, ex_263_212, ex_263_215, ex_263_217, ex_263_218, ex_263_221, ex_263_224, ex_263_227, ex_263_228, ex_263_229, ex_263_232, ex_263_234, ex_263_237, ex_263_238, if_true, if_false, and_self, Option.toList_some, Option.toList_none, List.singleton_append, List.cons_append, List.nil_append, List.append_nil, nI_1, nt_e, Int32.le_refl, b2i_t, show ((1 : Int32) = (0 : Int32)) = False from eq_false (by decide), Bool.true_eq_false, Bool.false_eq_true, ↓reduceIte]
      rw [ex_263_200]
      refine isRest_ok (d := d) (ch := fun k => c / 13 ^ (n - 1 - k) % 13) (restF v l n pp n (stk0 l) c) m1 l3 hW hw hn m2 m3 g3 hpp hinj hdig ⟨fun e k hk => (ra.mp e k (Nat.zero_le _) hk).2, fun e => ra.mpr (fun k _ hk => ⟨hdig k hk, e k hk⟩)⟩ (fun u4 o4 l4 g4 => ?_)
      have o4' : Only rsP u u4 := o3'.tr o4
      cases qr : restF v l n pp n (stk0 l) c
      · have et : tryF v l y n pp n (stk0 l) 0 c st = st := by
          unfold tryF
          rw [qr, if_neg (by decide)]
        rw [et] at ih
        simp (disch := first | exact am_nl_i _ | exact am_nl_r _ | exact am_nl_0 | (refine vi_nI ?_ ?_ <;> omega) | assumption | omega | exact b2i_01 _ | exact Or.inl rfl | exact Or.inr rfl | (unfold vi; decide)) only [ex_263_0, ex_263_1, ex_263_2, ex_263_5, ex_263_6, ex_263_7, ex_263_10, ex_263_11, ex_263_14, ex_263_15, ex_263_17, ex_263_20, ex_263_21, ex_263_22, ex_263_25, ex_263_27, ex_263_28, ex_263_29, ex_263_30, ex_263_31, ex_263_34, ex_263_35, ex_263_36, ex_263_39, ex_263_40, ex_263_43, ex_263_44, ex_263_45, ex_263_48, ex_263_51, ex_263_52, ex_263_53, ex_263_54, ex_263_55, ex_263_56, ex_263_58, ex_263_60, ex_263_62, ex_263_65, ex_263_66, ex_263_68, ex_263_69, ex_263_70, ex_263_71, ex_263_74, ex_263_77, ex_263_78, ex_263_81, ex_263_82, ex_263_85, ex_263_87, ex_263_88, ex_263_89, ex_263_90, ex_263_93, ex_263_94, ex_263_95, ex_263_98, ex_263_99, ex_263_101, ex_263_102, ex_263_103, ex_263_106, ex_263_109, ex_263_110, ex_263_112, ex_263_113, ex_263_117, ex_263_118, ex_263_121, ex_263_123, ex_263_125, ex_263_126, ex_263_128, ex_263_129, ex_263_132, ex_263_133, ex_263_134, ex_263_136, ex_263_138, ex_263_141, ex_263_142, ex_263_145, ex_263_147, ex_263_149, ex_263_151, ex_263_152, ex_263_153, ex_263_155, ex_263_158, ex_263_159, ex_263_162, ex_263_164, ex_263_165, ex_263_166, ex_263_169, ex_263_170, ex_263_171, ex_263_174, ex_263_175, ex_263_178, ex_263_179, ex_263_181, ex_263_183, ex_263_185, ex_263_186, ex_263_188, ex_263_191, ex_263_194, ex_263_196, ex_263_199, ex_263_200, ex_263_203, ex_263_206, ex_263_209, ex_263_211, ex_263_212, ex_263_215, ex_263_217, ex_263_218, ex_263_221, ex_263_224, ex_263_227, ex_263_228, ex_263_229, ex_263_232, ex_263_234, ex_263_237, ex_263_238, if_true, if_false, and_self, Option.toList_some, Option.toList_none, List.singleton_append, List.cons_append, List.nil_append, List.append_nil, nI_1, nt_e, Int32.le_refl, b2i_0, Bool.true_eq_false, Bool.false_eq_true, ↓reduceIte]
        exact ih u4 _ _ _ o4' l4 e2
      · have et : tryF v l y n pp n (stk0 l) 0 c st = (st.1 + 1, if nI st.1 = y then nI c else st.2) := by
          unfold tryF hitS
          rw [qr, if_pos rfl, Nat.mul_zero, Nat.zero_add]
        by_cases q : nI st.1 = y
        · have hy : ¬ y = -1 := by rw [← q]; exact hne _ (by omega)
          have hfin := h u4 o4' l4
          rw [if_neg hy, hrest, et, if_pos q, scan_after q kz (c + 1) _ (show st.1 < st.1 + 1 by omega) (show st.1 + 1 + kz < 2 ^ 31 by omega)] at hfin
          simp (disch := first | exact am_nl_i _ | exact am_nl_r _ | exact am_nl_0 | (refine vi_nI ?_ ?_ <;> omega) | assumption | omega | exact b2i_01 _ | exact Or.inl rfl | exact Or.inr rfl | (unfold vi; decide)) only [ex_263_0, ex_263_1, ex_263_2, ex_263_5, ex_263_6, ex_263_7, ex_263_10, ex_263_11, ex_263_14, ex_263_15, ex_263_17, ex_263_20, ex_263_21, ex_263_22, ex_263_25, ex_263_27, ex_263_28, ex_263_29, ex_263_30, ex_263_31, ex_263_34, ex_263_35, ex_263_36, ex_263_39, ex_263_40, ex_263_43, ex_263_44, ex_263_45, ex_263_48, ex_263_51, ex_263_52, ex_263_53, ex_263_54, ex_263_55, ex_263_56, ex_263_58, ex_263_60, ex_263_62, ex_263_65, ex_263_66, ex_263_68, ex_263_69, ex_263_70, ex_263_71, ex_263_74, ex_263_77, ex_263_78, ex_263_81, ex_263_82, ex_263_85, ex_263_87, ex_263_88, ex_263_89, ex_263_90, ex_263_93, ex_263_94, ex_263_95, ex_263_98, ex_263_99, ex_263_101, ex_263_102, ex_263_103, ex_263_106, ex_263_109, ex_263_110, ex_263_112, ex_263_113, ex_263_117, ex_263_118, ex_263_121, ex_263_123, ex_263_125, ex_263_126, ex_263_128, ex_263_129, ex_263_132, ex_263_133, ex_263_134, ex_263_136, ex_263_138, ex_263_141, ex_263_142, ex_263_145, ex_263_147, ex_263_149, ex_263_151, ex_263_152, ex_263_153, ex_263_155, ex_263_158, ex_263_159, ex_263_162, ex_263_164, ex_263_165, ex_263_166, ex_263_169, ex_263_170, ex_263_171, ex_263_174, ex_263_175, ex_263_178, ex_263_179, ex_263_181, ex_263_183, ex_263_185, ex_263_186, ex_263_188, ex_263_191, ex_263_194, ex_263_196, ex_263_199, ex_263_200, ex_263_203, ex_263_206, ex_263_209, ex_263_211, ex_263_212, ex_263_215, ex_263_217, ex_263_218, ex_263_221, ex_263_224, ex_263_227, ex_263_228, ex_263_229, ex_263_232, ex_263_234, ex_263_237, ex_263_238, if_true, if_false, and_self, Option.toList_some, Option.toList_none, List.singleton_append, List.cons_append, List.nil_append, List.append_nil, nI_1, nt_e, Int32.le_refl, b2i_t, show ((1 : Int32) = (0 : Int32)) = False from eq_false (by decide), q, Bool.true_eq_false, Bool.false_eq_true, ↓reduceIte]
          exact hfin
        · rw [et, if_neg q] at ih
          simp (disch := first | exact am_nl_i _ | exact am_nl_r _ | exact am_nl_0 | (refine vi_nI ?_ ?_ <;> omega) | assumption | omega | exact b2i_01 _ | exact Or.inl rfl | exact Or.inr rfl | (unfold vi; decide)) only [ex_263_0, ex_263_1, ex_263_2, ex_263_5, ex_263_6, ex_263_7, ex_263_10, ex_263_11, ex_263_14, ex_263_15, ex_263_17, ex_263_20, ex_263_21, ex_263_22, ex_263_25, ex_263_27, ex_263_28, ex_263_29, ex_263_30, ex_263_31, ex_263_34, ex_263_35, ex_263_36, ex_263_39, ex_263_40, ex_263_43, ex_263_44, ex_263_45, ex_263_48, ex_263_51, ex_263_52, ex_263_53, ex_263_54, ex_263_55, ex_263_56, ex_263_58, ex_263_60, ex_263_62, ex_263_65, ex_263_66, ex_263_68, ex_263_69, ex_263_70, ex_263_71, ex_263_74, ex_263_77, ex_263_78, ex_263_81, ex_263_82, ex_263_85, ex_263_87, ex_263_88, ex_263_89, ex_263_90, ex_263_93, ex_263_94, ex_263_95, ex_263_98, ex_263_99, ex_263_101, ex_263_102, ex_263_103, ex_263_106, ex_263_109, ex_263_110, ex_263_112, ex_263_113, ex_263_117, ex_263_118, ex_263_121, ex_263_123, ex_263_125, ex_263_126, ex_263_128, ex_263_129, ex_263_132, ex_263_133, ex_263_134, ex_263_136, ex_263_138, ex_263_141, ex_263_142, ex_263_145, ex_263_147, ex_263_149, ex_263_151, ex_263_152, ex_263_153, ex_263_155, ex_263_158, ex_263_159, ex_263_162, ex_263_164, ex_263_165, ex_263_166, ex_263_169, ex_263_170, ex_263_171, ex_263_174, ex_263_175, ex_263_178, ex_263_179, ex_263_181, ex_263_183, ex_263_185, ex_263_186, ex_263_188, ex_263_191, ex_263_194, ex_263_196, ex_263_199, ex_263_200, ex_263_203, ex_263_206, ex_263_209, ex_263_211, ex_263_212, ex_263_215, ex_263_217, ex_263_218, ex_263_221, ex_263_224, ex_263_227, ex_263_228, ex_263_229, ex_263_232, ex_263_234, ex_263_237, ex_263_238, if_true, if_false, and_self, Option.toList_some, Option.toList_none, List.singleton_append, List.cons_append, List.nil_append, List.append_nil, nI_1, nt_e, Int32.le_refl, b2i_t, show ((1 : Int32) = (0 : Int32)) = False from eq_false (by decide), q, nI_1, Bool.true_eq_false, Bool.false_eq_true, ↓reduceIte]
          exact ih u4 _ _ _ o4' l4 e2
end RestsR
