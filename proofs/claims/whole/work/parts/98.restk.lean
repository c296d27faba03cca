/-! RESTS, of the class -/
def stk0 (l : LF) : Nat → Nat := fun k => ix (copL l k)
def restT (v : LV) (l : LF) (w x : Int32) : FS := chS v l w (seatF x 6).1 (seatF x 6).2 (seatF x 6).1 (stk0 l) 0 (0, -1)
def restOk (l : LF) (x y : Int32) : Bool := decide (x &&& nt (aliveL l) = 0) && (decide (2 ≤ (seatF x 6).1) && decide ((seatF x 6).1 ≤ 3)) && decide (-1 ≤ y)
def restsS (S : ST) (x y : Int32) : Int32 := if restOk S.2.1.1 x y then (if y = -1 then nI (restT S.1 S.2.1.1 y x).1 else (restT S.1 S.2.1.1 y x).2) else -1
section RestsC
variable {d L L' n : Nat} {u : am_U} {S : ST} {v : LV} {l : LF} {pp : Nat → Nat} {post : Option Value → am_M → Prop}
theorem slook_ok {x w : Int32} (hsf : seatF x 6 = (n, pp)) (hn : n ≤ 3) (hL : sh L 3 19) (hl : LifeC u 65 l) (hC : LibC u L v) (hW : WF v) (hw : WL v l) (h : ∀ u', Only seP u u' → StC u' (chS v l w n pp n (stk0 l) 0 (0, -1)) → post none (am_emb u')) : Cl (d + 4 + n) 94 [.ref 193, .ref L, .ref 65, .int x, .int w] (am_emb u) post := by
  have h65 := shl_65
  have hLp := lib_places hL
  have h12 := hW.1.2.1
  have w3 : seP 193 := by unfold seP; omega
  have w4 : seP 194 := by unfold seP; omega
  have w7 : seP 197 := by unfold seP; omega
  have keep : ∀ u1, Only seP u u1 → LifeC u1 65 l ∧ LibC u1 L v := fun u1 o1 => ⟨hl.keep o1 (fun k hk q => by unfold seP at q; omega), hC.keep2 o1 (fun k hk q => by unfold seP at q; omega)⟩
  have hpp : ∀ k, k < n → pp k < 6 := fun k hk => by
    have := (seatF_6 (x := x) (i := 6) (k := k) (by rw [hsf]; exact hk)).1
    rwa [hsf] at this
  have loopC : ∀ (kz k : Nat), k + kz = n → ∀ u2, Only seP u u2 → FR u2 193 4 = some L → FI u2 193 6 = w → FI u2 193 7 = 0 → FI u2 193 8 = -1 → FI u2 193 5 = nI n → (∀ j, j < n → AI u2 194 j = nI (pp j)) → (∀ j, j < 12 → AI u2 197 j = copL l j) → (∀ j, j < k → ∀ c, c ≤ nP v → AI u2 195 (13 * j + c) = gnS v l (pp j) c ∧ AI u2 196 (13 * j + c) = b2i (tkS v l (pp j) c)) → Ex (d + 3 + n + 1) 94 113 [some (.ref 193), some (.ref L), some (.ref 65), some (.int x), some (.int w), some (.int (nI k))] [] (am_emb u2) post := by
    intro kz
    induction kz with
    | zero =>
      intro k hk u2 o2 f1 f2 f3 f4 f5 f6 f7 f8
      obtain rfl : k = n := by omega
      obtain ⟨l2, c2⟩ := keep u2 o2
      rw [ex_94_113]
      simp (disch := first | exact am_nl_i _ | exact am_nl_r _ | exact am_nl_0 | (refine vi_nI ?_ ?_ <;> omega) | assumption | omega | exact b2i_01 _ | exact Or.inl rfl | exact Or.inr rfl | (unfold vi; decide)) only [ex_94_0, ex_94_1, ex_94_2, ex_94_5, ex_94_6, ex_94_8, ex_94_11, ex_94_12, ex_94_13, ex_94_16, ex_94_17, ex_94_18, ex_94_21, ex_94_22, ex_94_23, ex_94_26, ex_94_27, ex_94_29, ex_94_31, ex_94_33, ex_94_36, ex_94_37, ex_94_40, ex_94_41, ex_94_44, ex_94_45, ex_94_47, ex_94_48, ex_94_49, ex_94_50, ex_94_53, ex_94_54, ex_94_57, ex_94_58, ex_94_61, ex_94_63, ex_94_64, ex_94_65, ex_94_66, ex_94_69, ex_94_70, ex_94_71, ex_94_74, ex_94_77, ex_94_80, ex_94_81, ex_94_83, ex_94_85, ex_94_87, ex_94_90, ex_94_91, ex_94_94, ex_94_96, ex_94_97, ex_94_100, ex_94_102, ex_94_103, ex_94_104, ex_94_107, ex_94_110, ex_94_111, ex_94_115, ex_94_116, ex_94_119, ex_94_123, ex_94_124, ex_94_126, ex_94_129, ex_94_132, ex_94_135, ex_94_136, ex_94_137, ex_94_141, if_true, if_false, and_self, Option.toList_some, Option.toList_none, List.singleton_append, List.cons_append, List.nil_append, List.append_nil, nI_1, nt_e, Int32.le_refl, f5, nI_leI, Nat.le_refl, Bool.true_eq_false, Bool.false_eq_true, ↓reduceIte]
      rw [ex_94_138]
      refine sChoose_ok (pp := pp) hn hL hLp hW k 0 (stk0 l) 0 (0, -1) u2 _ (by omega) (fun j => (ix_cop hw j).2) c2 ⟨f1, f5, f2, fun j hj c hc => (f8 j hj c hc).1, fun j hj c hc => (f8 j hj c hc).2, fun j hj => (f7 j hj).trans (ix_cop hw j).1⟩ ⟨f3, f4⟩ (fun u3 o3 C3 S3 T3 => ?_)
      simp (disch := first | exact am_nl_i _ | exact am_nl_r _ | exact am_nl_0 | assumption | omega | (refine vi_nI ?_ ?_ <;> omega) | exact b2i_01 _ | exact Or.inl rfl | exact Or.inr rfl | (unfold vi; decide)) only [ex_94_0, ex_94_1, ex_94_2, ex_94_5, ex_94_6, ex_94_8, ex_94_11, ex_94_12, ex_94_13, ex_94_16, ex_94_17, ex_94_18, ex_94_21, ex_94_22, ex_94_23, ex_94_26, ex_94_27, ex_94_29, ex_94_31, ex_94_33, ex_94_36, ex_94_37, ex_94_40, ex_94_41, ex_94_44, ex_94_45, ex_94_47, ex_94_48, ex_94_49, ex_94_50, ex_94_53, ex_94_54, ex_94_57, ex_94_58, ex_94_61, ex_94_63, ex_94_64, ex_94_65, ex_94_66, ex_94_69, ex_94_70, ex_94_71, ex_94_74, ex_94_77, ex_94_80, ex_94_81, ex_94_83, ex_94_85, ex_94_87, ex_94_90, ex_94_91, ex_94_94, ex_94_96, ex_94_97, ex_94_100, ex_94_102, ex_94_103, ex_94_104, ex_94_107, ex_94_110, ex_94_111, ex_94_113, ex_94_115, ex_94_116, ex_94_119, ex_94_122, ex_94_123, ex_94_124, ex_94_126, ex_94_129, ex_94_132, ex_94_135, ex_94_136, ex_94_137, ex_94_138, ex_94_141, if_true, if_false, and_self, Option.toList_some, Option.toList_none, List.singleton_append, List.cons_append, List.nil_append, List.append_nil, nI_1, nt_e, Int32.le_refl]
      exact h u3 (o2.tr (o3.wk (fun a q => by unfold chP at q; unfold seP; omega))) T3
    | succ kz ih =>
      intro k hk u2 o2 f1 f2 f3 f4 f5 f6 f7 f8
      obtain ⟨l2, c2⟩ := keep u2 o2
      have hkn : k < n := by omega
      have hnle : ¬ n ≤ k := by omega
      rw [ex_94_113]
      simp (disch := first | exact am_nl_i _ | exact am_nl_r _ | exact am_nl_0 | (refine vi_nI ?_ ?_ <;> omega) | assumption | omega | exact b2i_01 _ | exact Or.inl rfl | exact Or.inr rfl | (unfold vi; decide)) only [ex_94_0, ex_94_1, ex_94_2, ex_94_5, ex_94_6, ex_94_8, ex_94_11, ex_94_12, ex_94_13, ex_94_16, ex_94_17, ex_94_18, ex_94_21, ex_94_22, ex_94_23, ex_94_26, ex_94_27, ex_94_29, ex_94_31, ex_94_33, ex_94_36, ex_94_37, ex_94_40, ex_94_41, ex_94_44, ex_94_45, ex_94_47, ex_94_48, ex_94_49, ex_94_50, ex_94_53, ex_94_54, ex_94_57, ex_94_58, ex_94_61, ex_94_63, ex_94_64, ex_94_65, ex_94_66, ex_94_69, ex_94_70, ex_94_71, ex_94_74, ex_94_77, ex_94_80, ex_94_81, ex_94_83, ex_94_85, ex_94_87, ex_94_90, ex_94_91, ex_94_94, ex_94_96, ex_94_97, ex_94_100, ex_94_102, ex_94_103, ex_94_104, ex_94_107, ex_94_110, ex_94_111, ex_94_115, ex_94_116, ex_94_119, ex_94_122, ex_94_123, ex_94_124, ex_94_129, ex_94_132, ex_94_136, ex_94_137, ex_94_138, ex_94_141, if_true, if_false, and_self, Option.toList_some, Option.toList_none, List.singleton_append, List.cons_append, List.nil_append, List.append_nil, nI_1, nt_e, Int32.le_refl, f5, nI_leI, hnle, Bool.true_eq_false, Bool.false_eq_true, ↓reduceIte]
      rw [ex_94_126, show d + 3 + n = d + n + 3 by omega]
      refine weigh_ok (by omega) (hpp k hkn) hL l2 c2 hW f1 (f6 k hkn) (fun u3 o3 g1 g2 => ?_)
      have a3 := o3 193 (by unfold wgP; omega)
      have o3' : Only seP u2 u3 := o3.wk (fun a q => by unfold wgP at q; unfold seP; omega)
      rw [show d + n + 3 = d + 3 + n by omega]
      simp (disch := first | exact am_nl_i _ | exact am_nl_r _ | exact am_nl_0 | assumption | omega | (refine vi_nI ?_ ?_ <;> omega) | exact b2i_01 _ | exact Or.inl rfl | exact Or.inr rfl | (unfold vi; decide)) only [ex_94_0, ex_94_1, ex_94_2, ex_94_5, ex_94_6, ex_94_8, ex_94_11, ex_94_12, ex_94_13, ex_94_16, ex_94_17, ex_94_18, ex_94_21, ex_94_22, ex_94_23, ex_94_26, ex_94_27, ex_94_29, ex_94_31, ex_94_33, ex_94_36, ex_94_37, ex_94_40, ex_94_41, ex_94_44, ex_94_45, ex_94_47, ex_94_48, ex_94_49, ex_94_50, ex_94_53, ex_94_54, ex_94_57, ex_94_58, ex_94_61, ex_94_63, ex_94_64, ex_94_65, ex_94_66, ex_94_69, ex_94_70, ex_94_71, ex_94_74, ex_94_77, ex_94_80, ex_94_81, ex_94_83, ex_94_85, ex_94_87, ex_94_90, ex_94_91, ex_94_94, ex_94_96, ex_94_97, ex_94_100, ex_94_102, ex_94_103, ex_94_104, ex_94_107, ex_94_110, ex_94_111, ex_94_115, ex_94_116, ex_94_119, ex_94_122, ex_94_123, ex_94_124, ex_94_126, ex_94_129, ex_94_132, ex_94_135, ex_94_136, ex_94_137, ex_94_138, ex_94_141, if_true, if_false, and_self, Option.toList_some, Option.toList_none, List.singleton_append, List.cons_append, List.nil_append, List.append_nil, nI_1, nt_e, Int32.le_refl]
      refine ih (k + 1) (by omega) u3 (o2.tr o3') (by rw [a3.2.2.1]; exact f1) (by rw [a3.1]; exact f2) (by rw [a3.1]; exact f3) (by rw [a3.1]; exact f4) (by rw [a3.1]; exact f5) (fun j hj => by rw [(o3 194 (by unfold wgP; omega)).2.2.2.1]; exact f6 j hj) (fun j hj => by rw [(o3 197 (by unfold wgP; omega)).2.2.2.1]; exact f7 j hj) (fun j hj c hc => ?_)
      by_cases e : j = k
      · rw [e]; exact g2 c hc
      · have := g1 (13 * j + c) (by omega)
        rw [this.1, this.2]
        exact f8 j (by omega) c hc
      all_goals first | exact h65 | exact hL
  have loopB : ∀ (kz k : Nat), k + kz = 12 → ∀ u2, Only seP u u2 → FR u2 193 4 = some L → FI u2 193 6 = w → FI u2 193 7 = 0 → FI u2 193 8 = -1 → FI u2 193 5 = nI n → (∀ j, j < n → AI u2 194 j = nI (pp j)) → (∀ j, j < k → AI u2 197 j = copL l j) → Ex (d + 3 + n + 1) 94 83 [some (.ref 193), some (.ref L), some (.ref 65), some (.int x), some (.int w), some (.int (nI k))] [] (am_emb u2) post := by
    intro kz
    induction kz with
    | zero =>
      intro k hk u2 o2 f1 f2 f3 f4 f5 f6 f7
      obtain rfl : k = 12 := by omega
      rw [ex_94_83]
      simp (disch := first | exact am_nl_i _ | exact am_nl_r _ | exact am_nl_0 | (refine vi_nI ?_ ?_ <;> omega) | assumption | omega | exact b2i_01 _ | exact Or.inl rfl | exact Or.inr rfl | (unfold vi; decide)) only [ex_94_0, ex_94_1, ex_94_2, ex_94_5, ex_94_6, ex_94_8, ex_94_11, ex_94_12, ex_94_13, ex_94_16, ex_94_17, ex_94_18, ex_94_21, ex_94_22, ex_94_23, ex_94_26, ex_94_27, ex_94_29, ex_94_31, ex_94_33, ex_94_36, ex_94_37, ex_94_40, ex_94_41, ex_94_44, ex_94_45, ex_94_47, ex_94_48, ex_94_49, ex_94_50, ex_94_53, ex_94_54, ex_94_57, ex_94_58, ex_94_61, ex_94_63, ex_94_64, ex_94_65, ex_94_66, ex_94_69, ex_94_70, ex_94_71, ex_94_74, ex_94_77, ex_94_80, ex_94_81, ex_94_85, ex_94_87, ex_94_91, ex_94_94, ex_94_96, ex_94_97, ex_94_100, ex_94_102, ex_94_103, ex_94_104, ex_94_107, ex_94_110, ex_94_111, ex_94_115, ex_94_116, ex_94_119, ex_94_122, ex_94_123, ex_94_124, ex_94_126, ex_94_129, ex_94_132, ex_94_135, ex_94_136, ex_94_137, ex_94_138, ex_94_141, if_true, if_false, and_self, Option.toList_some, Option.toList_none, List.singleton_append, List.cons_append, List.nil_append, List.append_nil, nI_1, nt_e, Int32.le_refl, lq12, nI_leI, Nat.le_refl, Bool.true_eq_false, Bool.false_eq_true, ↓reduceIte]
      exact loopC n 0 (by omega) u2 o2 f1 f2 f3 f4 f5 f6 f7 (fun j hj => absurd hj (Nat.not_lt_zero j))
    | succ kz ih =>
      intro k hk u2 o2 f1 f2 f3 f4 f5 f6 f7
      obtain ⟨l2, c2⟩ := keep u2 o2
      have hcop := l2.2.2.1
      have hnle : ¬ 12 ≤ k := by omega
      rw [ex_94_83]
      simp (disch := first | exact am_nl_i _ | exact am_nl_r _ | exact am_nl_0 | (refine vi_nI ?_ ?_ <;> omega) | assumption | omega | exact b2i_01 _ | exact Or.inl rfl | exact Or.inr rfl | (unfold vi; decide)) only [ex_94_0, ex_94_1, ex_94_2, ex_94_5, ex_94_6, ex_94_8, ex_94_11, ex_94_12, ex_94_13, ex_94_16, ex_94_17, ex_94_18, ex_94_21, ex_94_22, ex_94_23, ex_94_26, ex_94_27, ex_94_29, ex_94_31, ex_94_33, ex_94_36, ex_94_37, ex_94_40, ex_94_41, ex_94_44, ex_94_45, ex_94_47, ex_94_48, ex_94_49, ex_94_50, ex_94_53, ex_94_54, ex_94_57, ex_94_58, ex_94_61, ex_94_63, ex_94_64, ex_94_65, ex_94_66, ex_94_69, ex_94_70, ex_94_71, ex_94_74, ex_94_77, ex_94_80, ex_94_81, ex_94_85, ex_94_87, ex_94_90, ex_94_91, ex_94_94, ex_94_96, ex_94_97, ex_94_100, ex_94_102, ex_94_103, ex_94_104, ex_94_107, ex_94_111, ex_94_113, ex_94_115, ex_94_116, ex_94_119, ex_94_122, ex_94_123, ex_94_124, ex_94_126, ex_94_129, ex_94_132, ex_94_135, ex_94_136, ex_94_137, ex_94_138, ex_94_141, if_true, if_false, and_self, Option.toList_some, Option.toList_none, List.singleton_append, List.cons_append, List.nil_append, List.append_nil, nI_1, nt_e, Int32.le_refl, lq12, nI_leI, hnle, nI_clamp, hcop, Bool.true_eq_false, Bool.false_eq_true, ↓reduceIte]
      refine ih (k + 1) (by omega) _ (of_ai o2 w7) f1 f2 f3 f4 f5 f6 (fun j hj => ?_)
      rw [AI_sAI, if_pos rfl]
      by_cases e : j = k
      · rw [e, upd_s]
      · rw [upd_n e]; exact f7 j (by omega)
      all_goals first | exact h65 | exact hL
  have loopA : ∀ (kz i : Nat), i + kz = 6 → ∀ u2, Only seP u u2 → FR u2 193 4 = some L → FI u2 193 6 = w → FI u2 193 7 = 0 → FI u2 193 8 = -1 → FI u2 193 5 = nI (seatF x i).1 → (∀ j, j < (seatF x i).1 → AI u2 194 j = nI ((seatF x i).2 j)) → Ex (d + 3 + n + 1) 94 29 [some (.ref 193), some (.ref L), some (.ref 65), some (.int x), some (.int w), some (.int (nI i))] [] (am_emb u2) post := by
    intro kz
    induction kz with
    | zero =>
      intro i hi u2 o2 f1 f2 f3 f4 f5 f6
      obtain rfl : i = 6 := by omega
      rw [hsf] at f5 f6
      rw [ex_94_29]
      simp (disch := first | exact am_nl_i _ | exact am_nl_r _ | exact am_nl_0 | (refine vi_nI ?_ ?_ <;> omega) | assumption | omega | exact b2i_01 _ | exact Or.inl rfl | exact Or.inr rfl | (unfold vi; decide)) only [ex_94_0, ex_94_1, ex_94_2, ex_94_5, ex_94_6, ex_94_8, ex_94_11, ex_94_12, ex_94_13, ex_94_16, ex_94_17, ex_94_18, ex_94_21, ex_94_22, ex_94_23, ex_94_26, ex_94_27, ex_94_31, ex_94_33, ex_94_37, ex_94_40, ex_94_41, ex_94_44, ex_94_45, ex_94_47, ex_94_48, ex_94_49, ex_94_50, ex_94_53, ex_94_54, ex_94_57, ex_94_58, ex_94_61, ex_94_63, ex_94_64, ex_94_65, ex_94_66, ex_94_69, ex_94_70, ex_94_71, ex_94_74, ex_94_77, ex_94_80, ex_94_81, ex_94_85, ex_94_87, ex_94_90, ex_94_91, ex_94_94, ex_94_96, ex_94_97, ex_94_100, ex_94_102, ex_94_103, ex_94_104, ex_94_107, ex_94_110, ex_94_111, ex_94_113, ex_94_115, ex_94_116, ex_94_119, ex_94_122, ex_94_123, ex_94_124, ex_94_126, ex_94_129, ex_94_132, ex_94_135, ex_94_136, ex_94_137, ex_94_138, ex_94_141, if_true, if_false, and_self, Option.toList_some, Option.toList_none, List.singleton_append, List.cons_append, List.nil_append, List.append_nil, nI_1, nt_e, Int32.le_refl, lq6, nI_leI, Nat.le_refl, Bool.true_eq_false, Bool.false_eq_true, ↓reduceIte]
      exact loopB 12 0 (by omega) u2 o2 f1 f2 f3 f4 f5 f6 (fun j hj => absurd hj (Nat.not_lt_zero j))
    | succ kz ih =>
      intro i hi u2 o2 f1 f2 f3 f4 f5 f6
      have hnle : ¬ 6 ≤ i := by omega
      have mo := seatF_mono (x := x) (i := i) (j := 6) (by omega)
      have mo : (seatF x i).1 ≤ n := by rw [hsf] at mo; exact mo
      rw [ex_94_29]
      by_cases q3 : (seatF x i).1 = 3
      · have hx := seatF_ext (x := x) (i := i) (j := 6) (by omega) (by rw [hsf]; show _ = n; omega)
        have q4 : 3 ≤ (seatF x i).1 := by omega
        simp (disch := first | exact am_nl_i _ | exact am_nl_r _ | exact am_nl_0 | (refine vi_nI ?_ ?_ <;> omega) | assumption | omega | exact b2i_01 _ | exact Or.inl rfl | exact Or.inr rfl | (unfold vi; decide)) only [ex_94_0, ex_94_1, ex_94_2, ex_94_5, ex_94_6, ex_94_8, ex_94_11, ex_94_12, ex_94_13, ex_94_16, ex_94_17, ex_94_18, ex_94_21, ex_94_22, ex_94_23, ex_94_26, ex_94_27, ex_94_31, ex_94_33, ex_94_36, ex_94_37, ex_94_40, ex_94_41, ex_94_45, ex_94_47, ex_94_48, ex_94_49, ex_94_50, ex_94_53, ex_94_54, ex_94_57, ex_94_58, ex_94_61, ex_94_63, ex_94_64, ex_94_65, ex_94_66, ex_94_69, ex_94_70, ex_94_71, ex_94_74, ex_94_77, ex_94_80, ex_94_81, ex_94_85, ex_94_87, ex_94_90, ex_94_91, ex_94_94, ex_94_96, ex_94_97, ex_94_100, ex_94_102, ex_94_103, ex_94_104, ex_94_107, ex_94_110, ex_94_111, ex_94_113, ex_94_115, ex_94_116, ex_94_119, ex_94_122, ex_94_123, ex_94_124, ex_94_126, ex_94_129, ex_94_132, ex_94_135, ex_94_136, ex_94_137, ex_94_138, ex_94_141, if_true, if_false, and_self, Option.toList_some, Option.toList_none, List.singleton_append, List.cons_append, List.nil_append, List.append_nil, nI_1, nt_e, Int32.le_refl, lq6, nI_leI, hnle, f5, show (3 : Int32) = nI 3 from rfl, q4, Bool.true_eq_false, Bool.false_eq_true, ↓reduceIte]
        rw [← hx, hsf] at f5 f6
        exact loopB 12 0 (by omega) u2 o2 f1 f2 f3 f4 f5 f6 (fun j hj => absurd hj (Nat.not_lt_zero j))
      · have q4 : ¬ 3 ≤ (seatF x i).1 := by omega
        have ih := ih (i + 1) (by omega)
        rw [seatF] at ih
        cases b : bt x i
        · rw [b, if_neg (by decide)] at ih
          simp (disch := first | exact am_nl_i _ | exact am_nl_r _ | exact am_nl_0 | (refine vi_nI ?_ ?_ <;> omega) | assumption | omega | exact b2i_01 _ | exact Or.inl rfl | exact Or.inr rfl | (unfold vi; decide)) only [ex_94_0, ex_94_1, ex_94_2, ex_94_5, ex_94_6, ex_94_8, ex_94_11, ex_94_12, ex_94_13, ex_94_16, ex_94_17, ex_94_18, ex_94_21, ex_94_22, ex_94_23, ex_94_26, ex_94_27, ex_94_31, ex_94_33, ex_94_36, ex_94_37, ex_94_40, ex_94_41, ex_94_44, ex_94_45, ex_94_47, ex_94_48, ex_94_49, ex_94_50, ex_94_53, ex_94_54, ex_94_57, ex_94_58, ex_94_61, ex_94_63, ex_94_64, ex_94_65, ex_94_66, ex_94_69, ex_94_70, ex_94_71, ex_94_74, ex_94_77, ex_94_81, ex_94_83, ex_94_85, ex_94_87, ex_94_90, ex_94_91, ex_94_94, ex_94_96, ex_94_97, ex_94_100, ex_94_102, ex_94_103, ex_94_104, ex_94_107, ex_94_110, ex_94_111, ex_94_113, ex_94_115, ex_94_116, ex_94_119, ex_94_122, ex_94_123, ex_94_124, ex_94_126, ex_94_129, ex_94_132, ex_94_135, ex_94_136, ex_94_137, ex_94_138, ex_94_141, if_true, if_false, and_self, Option.toList_some, Option.toList_none, List.singleton_append, List.cons_append, List.nil_append, List.append_nil, nI_1, nt_e, Int32.le_refl, lq6, nI_leI, hnle, f5, show (3 : Int32) = nI 3 from rfl, q4, bit_e, b, b2i_0, Bool.true_eq_false, Bool.false_eq_true, ↓reduceIte]
          exact ih u2 o2 f1 f2 f3 f4 f5 f6
        · rw [b, if_pos rfl] at ih
          simp (disch := first | exact am_nl_i _ | exact am_nl_r _ | exact am_nl_0 | (refine vi_nI ?_ ?_ <;> omega) | assumption | omega | exact b2i_01 _ | exact Or.inl rfl | exact Or.inr rfl | (unfold vi; decide)) only [ex_94_0, ex_94_1, ex_94_2, ex_94_5, ex_94_6, ex_94_8, ex_94_11, ex_94_12, ex_94_13, ex_94_16, ex_94_17, ex_94_18, ex_94_21, ex_94_22, ex_94_23, ex_94_26, ex_94_27, ex_94_31, ex_94_33, ex_94_36, ex_94_37, ex_94_40, ex_94_41, ex_94_44, ex_94_45, ex_94_47, ex_94_48, ex_94_49, ex_94_50, ex_94_53, ex_94_54, ex_94_57, ex_94_58, ex_94_61, ex_94_63, ex_94_64, ex_94_65, ex_94_66, ex_94_69, ex_94_70, ex_94_71, ex_94_74, ex_94_77, ex_94_81, ex_94_83, ex_94_85, ex_94_87, ex_94_90, ex_94_91, ex_94_94, ex_94_96, ex_94_97, ex_94_100, ex_94_102, ex_94_103, ex_94_104, ex_94_107, ex_94_110, ex_94_111, ex_94_113, ex_94_115, ex_94_116, ex_94_119, ex_94_122, ex_94_123, ex_94_124, ex_94_126, ex_94_129, ex_94_132, ex_94_135, ex_94_136, ex_94_137, ex_94_138, ex_94_141, if_true, if_false, and_self, Option.toList_some, Option.toList_none, List.singleton_append, List.cons_append, List.nil_append, List.append_nil, nI_1, nt_e, Int32.le_refl, lq6, nI_leI, hnle, f5, show (3 : Int32) = nI 3 from rfl, q4, bit_e, b, b2i_0, nI_clamp, show ((1 : Int32) = (0 : Int32)) = False from eq_false (by decide), Bool.true_eq_false, Bool.false_eq_true, ↓reduceIte]
          refine ih _ (of_fi (of_ai o2 w4) w3) f1 ?_ ?_ ?_ ?_ (fun j hj => ?_)
          · rw [FI_sFI, if_neg (by omega)]; exact f2
          · rw [FI_sFI, if_neg (by omega)]; exact f3
          · rw [FI_sFI, if_neg (by omega)]; exact f4
          · rw [FI_sFI, if_pos ⟨rfl, rfl⟩]
            show FI u2 193 5 + 1 = nI ((seatF x i).1 + 1)
            rw [f5, nI_1]
          · have hj : j < (seatF x i).1 + 1 := hj
            rw [AI_sFI, AI_sAI, if_pos rfl]
            show upd _ _ _ j = nI (upN (seatF x i).2 (seatF x i).1 i j)
            by_cases e : j = (seatF x i).1
            · rw [e, upd_s, upN_s]
            · rw [upd_n e, upN_n e]; exact f6 j (by omega)
  rw [show d + 4 + n = d + 3 + n + 1 by omega, op_94]
  simp (disch := first | exact am_nl_i _ | exact am_nl_r _ | exact am_nl_0 | assumption | omega | (refine vi_nI ?_ ?_ <;> omega) | exact b2i_01 _ | exact Or.inl rfl | exact Or.inr rfl | (unfold vi; decide)) only [ex_94_0, ex_94_1, ex_94_2, ex_94_5, ex_94_6, ex_94_8, ex_94_11, ex_94_12, ex_94_13, ex_94_16, ex_94_17, ex_94_18, ex_94_21, ex_94_22, ex_94_23, ex_94_26, ex_94_27, ex_94_31, ex_94_33, ex_94_36, ex_94_37, ex_94_40, ex_94_41, ex_94_44, ex_94_45, ex_94_47, ex_94_48, ex_94_49, ex_94_50, ex_94_53, ex_94_54, ex_94_57, ex_94_58, ex_94_61, ex_94_63, ex_94_64, ex_94_65, ex_94_66, ex_94_69, ex_94_70, ex_94_71, ex_94_74, ex_94_77, ex_94_80, ex_94_81, ex_94_83, ex_94_85, ex_94_87, ex_94_90, ex_94_91, ex_94_94, ex_94_96, ex_94_97, ex_94_100, ex_94_102, ex_94_103, ex_94_104, ex_94_107, ex_94_110, ex_94_111, ex_94_113, ex_94_115, ex_94_116, ex_94_119, ex_94_122, ex_94_123, ex_94_124, ex_94_126, ex_94_129, ex_94_132, ex_94_135, ex_94_136, ex_94_137, ex_94_138, ex_94_141, if_true, if_false, and_self, Option.toList_some, Option.toList_none, List.singleton_append, List.cons_append, List.nil_append, List.append_nil, nI_1, nt_e, Int32.le_refl]
  refine loopA 6 0 (by omega) _ (of_fi (of_fi (of_fi (of_fi (of_fr (Only.rf _ _) w3) w3) w3) w3) w3) ?_ ?_ ?_ ?_ ?_ (fun j hj => absurd hj (Nat.not_lt_zero j))
  · rfl
  · simp [FI_sFI]
  · simp [FI_sFI]
  · simp [FI_sFI]
  · simp [FI_sFI]; rfl
theorem sub_6 {x : Int32} (hW : WF v) (hw : WL v l) (e : x &&& nt (aliveL l) = 0) (j : Nat) (hj : 6 ≤ j) : bt x j = false := by
  have h6 := hW.1.2.2.1
  by_cases q : 32 ≤ j
  · exact b_big q
  · have := bt_eq0.mp e j (by omega)
    rw [b_and, bt_nt _ (by omega), hw.1 j (by omega)] at this
    simpa using this
theorem bits_seat {x : Int32} (h : ∀ j, 6 ≤ j → bt x j = false) : bitsV x = nI (seatF x 6).1 := by
  unfold bitsV
  rw [sumF_ext (show 6 ≤ 13 by omega) (fun i h1 h2 => by rw [h i h1]; rfl), seatF_sum]
theorem C_rests {x y : Int32} (hI : InvC u S L L') (hS : WS S) (h : ∀ u', Only inC u u' → InvC u' S L L' → post (some (.int (restsS S x y))) (am_emb u')) : Cl (d + 8) 139 [.ref 0, .int x, .int y] (am_emb u) post := by
  have hIc := hI
  have hL := lib_sh hI.1.2.2.1
  have hW := hS.1
  have hw := hS.2.1.1
  obtain ⟨⟨r1, r2, r3, r4, r5, r6⟩, ⟨l1, l2, l3⟩, ⟨st1, st2, st3⟩, pst, mk, tp⟩ := hI
  have ha : FI u 65 3 = aliveL S.2.1.1 := st1.2.2.2.1
  have nte : ∀ z : Int32, z ^^^ (-1) = nt z := fun _ => rfl
  rw [op_139]
  unfold restsS at h
  unfold restOk at h
  by_cases e : x &&& nt (aliveL S.2.1.1) = 0
  · have hb := sub_6 hW hw e
    have hbc : bcV x = nI (seatF x 6).1 := (bc_small (fun j hj => hb j (by omega))).trans (bits_seat hb)
    have hsf : seatF x 6 = ((seatF x 6).1, (seatF x 6).2) := rfl
    have h6 : (seatF x 6).1 ≤ 6 := by
      have key : ∀ i, (seatF x i).1 ≤ i := fun i => by
        induction i with
        | zero => exact Nat.le_refl _
        | succ i ih =>
          rw [seatF]
          split
          · exact Nat.succ_le_succ ih
          · exact Nat.le_succ_of_le ih
      exact key 6
    unfold restT at h
    generalize (seatF x 6).1 = n at *
    generalize (seatF x 6).2 = pp at *
    rw [decide_eq_true e] at h
    by_cases q2 : 2 ≤ n
    · by_cases q3 : n ≤ 3
      · by_cases q4 : -1 ≤ y
        · have n4 : ¬ y < -1 := Int32.not_lt.mpr q4
          have n3 : ¬ 3 < n := by omega
          have n2 : ¬ n < 2 := by omega
          rw [decide_eq_true q2, decide_eq_true q3, decide_eq_true q4] at h
          simp only [Bool.and_self, if_true] at h
          simp (disch := first | exact am_nl_i _ | exact am_nl_r _ | exact am_nl_0 | (refine vi_nI ?_ ?_ <;> omega) | assumption | omega | exact b2i_01 _ | exact Or.inl rfl | exact Or.inr rfl | (unfold vi; decide)) only [ex_139_0, ex_139_1, ex_139_4, ex_139_5, ex_139_6, ex_139_7, ex_139_10, ex_139_13, ex_139_16, ex_139_17, ex_139_18, ex_139_19, ex_139_22, ex_139_23, ex_139_24, ex_139_27, ex_139_28, ex_139_29, ex_139_32, ex_139_33, ex_139_34, ex_139_37, ex_139_38, ex_139_39, ex_139_40, ex_139_43, ex_139_44, ex_139_47, ex_139_48, ex_139_51, ex_139_54, ex_139_55, ex_139_59, ex_139_60, ex_139_61, ex_139_64, ex_139_65, ex_139_68, ex_139_71, ex_139_74, ex_139_75, ex_139_78, ex_139_81, if_true, if_false, and_self, Option.toList_some, Option.toList_none, List.singleton_append, List.cons_append, List.nil_append, List.append_nil, nI_1, nt_e, Int32.le_refl, bc_ok, hbc, ha, nte, e, show (2 : Int32) = nI 2 from rfl, show (3 : Int32) = nI 3 from rfl, nI_leI, nI_ltI, q2, q3, n2, n3, q4, n4, r1, va_rfs, Bool.true_eq_false, Bool.false_eq_true, ↓reduceIte]
          rw [ex_139_56, show d + 7 = (d + 3 - n) + 4 + n by omega]
          refine slook_ok hsf q3 hL st1 l1 hW hw (fun u1 o1 T1 => ?_)
          have hfin := h u1 (o1.wk (fun a q => by unfold seP at q; unfold inC; omega)) (hIc.keepS o1 (fun a ha q => by unfold seP at q; omega))
          obtain ⟨t1, t2⟩ := T1
          by_cases q5 : y = -1
          · rw [if_pos q5] at hfin
            simp (disch := first | exact am_nl_i _ | exact am_nl_r _ | exact am_nl_0 | (refine vi_nI ?_ ?_ <;> omega) | assumption | omega | exact b2i_01 _ | exact Or.inl rfl | exact Or.inr rfl | (unfold vi; decide)) only [ex_139_0, ex_139_1, ex_139_4, ex_139_5, ex_139_6, ex_139_7, ex_139_10, ex_139_13, ex_139_16, ex_139_17, ex_139_18, ex_139_19, ex_139_22, ex_139_23, ex_139_24, ex_139_27, ex_139_28, ex_139_29, ex_139_32, ex_139_33, ex_139_34, ex_139_37, ex_139_38, ex_139_39, ex_139_40, ex_139_43, ex_139_44, ex_139_47, ex_139_48, ex_139_51, ex_139_54, ex_139_55, ex_139_56, ex_139_59, ex_139_60, ex_139_61, ex_139_64, ex_139_65, ex_139_68, ex_139_71, ex_139_74, ex_139_75, ex_139_78, ex_139_81, if_true, if_false, and_self, Option.toList_some, Option.toList_none, List.singleton_append, List.cons_append, List.nil_append, List.append_nil, nI_1, nt_e, Int32.le_refl, t1, q5, Bool.true_eq_false, Bool.false_eq_true, ↓reduceIte]
            rw [q5] at hfin
            exact hfin
          · rw [if_neg q5] at hfin
            simp (disch := first | exact am_nl_i _ | exact am_nl_r _ | exact am_nl_0 | (refine vi_nI ?_ ?_ <;> omega) | assumption | omega | exact b2i_01 _ | exact Or.inl rfl | exact Or.inr rfl | (unfold vi; decide)) only [ex_139_0, ex_139_1, ex_139_4, ex_139_5, ex_139_6, ex_139_7, ex_139_10, ex_139_13, ex_139_16, ex_139_17, ex_139_18, ex_139_19, ex_139_22, ex_139_23, ex_139_24, ex_139_27, ex_139_28, ex_139_29, ex_139_32, ex_139_33, ex_139_34, ex_139_37, ex_139_38, ex_139_39, ex_139_40, ex_139_43, ex_139_44, ex_139_47, ex_139_48, ex_139_51, ex_139_54, ex_139_55, ex_139_56, ex_139_59, ex_139_60, ex_139_61, ex_139_64, ex_139_65, ex_139_68, ex_139_71, ex_139_74, ex_139_75, ex_139_78, ex_139_81, if_true, if_false, and_self, Option.toList_some, Option.toList_none, List.singleton_append, List.cons_append, List.nil_append, List.append_nil, nI_1, nt_e, Int32.le_refl, t2, q5, Bool.true_eq_false, Bool.false_eq_true, ↓reduceIte]
            exact hfin
        · have n4 : y < -1 := Int32.not_le.mp q4
          rw [decide_eq_false q4, Bool.and_false] at h
          have n3 : ¬ 3 < n := by omega
          have n2 : ¬ n < 2 := by omega
          simp (disch := first | exact am_nl_i _ | exact am_nl_r _ | exact am_nl_0 | (refine vi_nI ?_ ?_ <;> omega) | assumption | omega | exact b2i_01 _ | exact Or.inl rfl | exact Or.inr rfl | (unfold vi; decide)) only [ex_139_0, ex_139_1, ex_139_4, ex_139_5, ex_139_6, ex_139_7, ex_139_10, ex_139_13, ex_139_16, ex_139_17, ex_139_18, ex_139_19, ex_139_22, ex_139_23, ex_139_24, ex_139_27, ex_139_28, ex_139_29, ex_139_32, ex_139_33, ex_139_34, ex_139_37, ex_139_38, ex_139_39, ex_139_40, ex_139_43, ex_139_44, ex_139_47, ex_139_48, ex_139_51, ex_139_54, ex_139_55, ex_139_59, ex_139_60, ex_139_61, ex_139_64, ex_139_65, ex_139_68, ex_139_71, ex_139_74, ex_139_75, ex_139_78, ex_139_81, if_true, if_false, and_self, Option.toList_some, Option.toList_none, List.singleton_append, List.cons_append, List.nil_append, List.append_nil, nI_1, nt_e, Int32.le_refl, bc_ok, hbc, ha, nte, e, show (2 : Int32) = nI 2 from rfl, show (3 : Int32) = nI 3 from rfl, nI_leI, nI_ltI, q2, q3, n2, n3, q4, n4, r1, va_rfs, Bool.true_eq_false, Bool.false_eq_true, ↓reduceIte]
          exact h u (Only.rf _ _) hIc
      · have n3 : 3 < n := by omega
        have n2 : ¬ n < 2 := by omega
        rw [decide_eq_false q3, Bool.and_false, Bool.and_false, Bool.false_and] at h
        simp (disch := first | exact am_nl_i _ | exact am_nl_r _ | exact am_nl_0 | (refine vi_nI ?_ ?_ <;> omega) | assumption | omega | exact b2i_01 _ | exact Or.inl rfl | exact Or.inr rfl | (unfold vi; decide)) only [ex_139_0, ex_139_1, ex_139_4, ex_139_5, ex_139_6, ex_139_7, ex_139_10, ex_139_13, ex_139_16, ex_139_17, ex_139_18, ex_139_19, ex_139_22, ex_139_23, ex_139_24, ex_139_27, ex_139_28, ex_139_29, ex_139_32, ex_139_33, ex_139_34, ex_139_37, ex_139_38, ex_139_39, ex_139_40, ex_139_43, ex_139_44, ex_139_47, ex_139_48, ex_139_51, ex_139_54, ex_139_55, ex_139_59, ex_139_60, ex_139_61, ex_139_64, ex_139_65, ex_139_68, ex_139_71, ex_139_74, ex_139_75, ex_139_78, ex_139_81, if_true, if_false, and_self, Option.toList_some, Option.toList_none, List.singleton_append, List.cons_append, List.nil_append, List.append_nil, nI_1, nt_e, Int32.le_refl, bc_ok, hbc, ha, nte, e, show (2 : Int32) = nI 2 from rfl, show (3 : Int32) = nI 3 from rfl, nI_leI, nI_ltI, q2, q3, n2, n3, r1, va_rfs, Bool.true_eq_false, Bool.false_eq_true, ↓reduceIte]
        exact h u (Only.rf _ _) hIc
    · have n2 : n < 2 := by omega
      rw [decide_eq_false q2, Bool.false_and, Bool.and_false, Bool.false_and] at h
      simp (disch := first | exact am_nl_i _ | exact am_nl_r _ | exact am_nl_0 | (refine vi_nI ?_ ?_ <;> omega) | assumption | omega | exact b2i_01 _ | exact Or.inl rfl | exact Or.inr rfl | (unfold vi; decide)) only [ex_139_0, ex_139_1, ex_139_4, ex_139_5, ex_139_6, ex_139_7, ex_139_10, ex_139_13, ex_139_16, ex_139_17, ex_139_18, ex_139_19, ex_139_22, ex_139_23, ex_139_24, ex_139_27, ex_139_28, ex_139_29, ex_139_32, ex_139_33, ex_139_34, ex_139_37, ex_139_38, ex_139_39, ex_139_40, ex_139_43, ex_139_44, ex_139_47, ex_139_48, ex_139_51, ex_139_54, ex_139_55, ex_139_59, ex_139_60, ex_139_61, ex_139_64, ex_139_65, ex_139_68, ex_139_71, ex_139_74, ex_139_75, ex_139_78, ex_139_81, if_true, if_false, and_self, Option.toList_some, Option.toList_none, List.singleton_append, List.cons_append, List.nil_append, List.append_nil, nI_1, nt_e, Int32.le_refl, bc_ok, hbc, ha, nte, e, show (2 : Int32) = nI 2 from rfl, show (3 : Int32) = nI 3 from rfl, nI_leI, nI_ltI, q2, n2, r1, va_rfs, Bool.true_eq_false, Bool.false_eq_true, ↓reduceIte]
      exact h u (Only.rf _ _) hIc
  · rw [decide_eq_false e, Bool.false_and, Bool.false_and] at h
    simp (disch := first | exact am_nl_i _ | exact am_nl_r _ | exact am_nl_0 | (refine vi_nI ?_ ?_ <;> omega) | assumption | omega | exact b2i_01 _ | exact Or.inl rfl | exact Or.inr rfl | (unfold vi; decide)) only [ex_139_0, ex_139_1, ex_139_4, ex_139_5, ex_139_6, ex_139_7, ex_139_10, ex_139_13, ex_139_16, ex_139_17, ex_139_18, ex_139_19, ex_139_22, ex_139_23, ex_139_24, ex_139_27, ex_139_28, ex_139_29, ex_139_32, ex_139_33, ex_139_34, ex_139_37, ex_139_38, ex_139_39, ex_139_40, ex_139_43, ex_139_44, ex_139_47, ex_139_48, ex_139_51, ex_139_54, ex_139_55, ex_139_59, ex_139_60, ex_139_61, ex_139_64, ex_139_65, ex_139_68, ex_139_71, ex_139_74, ex_139_75, ex_139_78, ex_139_81, if_true, if_false, and_self, Option.toList_some, Option.toList_none, List.singleton_append, List.cons_append, List.nil_append, List.append_nil, nI_1, nt_e, Int32.le_refl, bc_ok, ha, nte, e, r1, va_rfs, Bool.true_eq_false, Bool.false_eq_true, ↓reduceIte]
    exact h u (Only.rf _ _) hIc
end RestsC
