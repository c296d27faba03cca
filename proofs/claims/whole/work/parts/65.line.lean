/-! A LIFE AT FIRST; a line of a history -/
def beginL (v : LV) : LF := (fun _ => 0, roomV v, copyV v, bi (nE v) - 1, 0, 0)
def lineV (v : LV) (l : LF) (r : Nat → Int32) : LF × Bool :=
  if r 0 = 0 then (if eatsB v l (r 1) (r 3) then (eatsL v l (ix (r 1)) (ix (r 3)), true) else (l, false))
  else if r 0 = 1 then (if bitesB v l (r 1) (r 2) (r 3) then (bitesL v l (ix (r 1)) (ix (r 2)) (ix (r 3)), true) else (l, false))
  else if r 0 = 2 then (if copiedB v l (r 3) then (copiedL v l (ix (r 3)), true) else (l, false))
  else if r 0 = 3 then (if livesI l (r 1) then ((endsV v l (ix (r 1))).1, true) else (l, false))
  else (passL v l 1, true)
theorem bim_bt : ∀ n, n ≤ 13 → ∀ j, j < 32 → bt (bi n - 1) j = decide (j < n) := by decide +kernel
theorem WL_begin {v : LV} (hW : WF v) : WL v (beginL v) := by
  have h6 := hW.1.2.2.1
  refine ⟨fun p hp => ?_, fun _ => rfl, fun p k hk => b_0 k, fun k => ?_, fun k hk => hW.2.1 k hk, fun _ _ => rfl⟩
  · show bt (bi (nE v) - 1) p = false
    by_cases h : p < 32
    · rw [bim_bt _ (by omega) p h, decide_eq_false (by omega)]
    · exact b_big (by omega)
  · show ∃ n : Nat, n ≤ 9 ∧ copyV v k = nI n
    by_cases h : k < nP v
    · exact (hW.2.2.2.1 k h).2.2.1
    · exact ⟨0, by omega, hW.2.1 k (by omega)⟩
theorem WL_line {v : LV} {l : LF} {r : Nat → Int32} (hW : WF v) (hw : WL v l) : WL v (lineV v l r).1 := by
  unfold lineV
  split
  · split
    · next hq =>
      unfold eatsB takesB at hq
      simp only [Bool.and_eq_true, Bool.not_eq_true', decide_eq_false_iff_not] at hq
      exact WL_eats hW hw (alive_ix hw hq.1.1.1.1).1 (okI_ix hq.1.1.1.2).1 hq.2
    · exact hw
  · split
    · split
      · next hq =>
        unfold bitesB takesB at hq
        simp only [Bool.and_eq_true] at hq
        exact WL_bites hW hw (alive_ix hw hq.1.1.1.1).1 (alive_ix hw hq.2.1).1 (okI_ix hq.1.1.1.2).1
      · exact hw
    · split
      · split
        · next hq =>
          unfold copiedB at hq
          simp only [Bool.and_eq_true, decide_eq_true_eq] at hq
          exact WL_copied hw (okI_ix hq.1).1 hq.2.2
        · exact hw
      · split
        · split
          · exact WL_ends hW hw
          · exact hw
        · exact hw
section LineC
variable {d L b q : Nat} {u : am_U} {v : LV} {l : LF} {h : HL} {post : Option Value → am_M → Prop}
theorem beginC_ok (hb : sh b 4 6) (hL : sh L 3 19) (hC : LibC u L v) (hp : ∀ u', Only (inL b) u u' → LifeC u' b (beginL v) → post none (am_emb u')) : Cl d 35 [.ref b, .ref L] (am_emb u) post := by
  have hbp := life_places hb
  have hLp := lib_places hL
  rw [op_35]
  have loop2 : ∀ (kz i : Nat), i + kz = 12 → ∀ u', Only (inL b) u u' → (∀ p, p < 6 → AI u' (b + 1) p = 0) → (∀ p, p < 6 → AI u' (b + 2) p = roomV v p) → (∀ k, k < i → AI u' (b + 3) k = copyV v k) → Ex d 35 35 [some (.ref b), some (.ref L), some (.int (nI i))] [] (am_emb u') post := by
    intro kz
    induction kz with
    | zero =>
      intro i hi u' ho g1 g2 g3
      obtain rfl : i = 12 := by omega
      have c' := lib_keep hb hL hC ho
      have e5 := c'.1.2.2.1
      rw [ex_35_35]
      simp (disch := first | exact am_nl_i _ | exact am_nl_r _ | exact am_nl_0 | assumption | omega | (refine vi_nI ?_ ?_ <;> omega) | exact b2i_01 _ | exact Or.inl rfl | exact Or.inr rfl | (unfold vi; decide)) only [ex_35_0, ex_35_1, ex_35_2, ex_35_3, ex_35_5, ex_35_8, ex_35_9, ex_35_12, ex_35_13, ex_35_14, ex_35_15, ex_35_16, ex_35_19, ex_35_20, ex_35_21, ex_35_24, ex_35_25, ex_35_26, ex_35_27, ex_35_30, ex_35_33, ex_35_34, ex_35_36, ex_35_38, ex_35_41, ex_35_42, ex_35_45, ex_35_46, ex_35_47, ex_35_50, ex_35_51, ex_35_52, ex_35_53, ex_35_56, ex_35_59, ex_35_60, ex_35_61, ex_35_62, ex_35_65, ex_35_68, ex_35_69, ex_35_70, ex_35_71, ex_35_74, ex_35_75, ex_35_76, ex_35_79, ex_35_80, ex_35_81, ex_35_84, if_true, if_false, and_self, Option.toList_some, Option.toList_none, List.singleton_append, List.cons_append, List.nil_append, List.append_nil, nI_1, nt_e, Int32.le_refl, lq12, nI_leI, Nat.le_refl, e5, bi_e]
      have w : inL b b := by unfold inL; omega
      refine hp _ (of_fi (of_fi (of_fi ho w) w) w) ⟨g1, g2, g3, ?_, ?_, ?_⟩
      · rw [FI_sFI, if_neg (by omega), FI_sFI, if_neg (by omega), FI_sFI, if_pos ⟨rfl, rfl⟩]; rfl
      · rw [FI_sFI, if_neg (by omega), FI_sFI, if_pos ⟨rfl, rfl⟩]; rfl
      · rw [FI_sFI, if_pos ⟨rfl, rfl⟩]; rfl
    | succ kz ih =>
      intro i hi u' ho g1 g2 g3
      have hnle : ¬ 12 ≤ i := by omega
      have c' := lib_keep hb hL hC ho
      have e7 := c'.2.2.2.2.2.2.1
      rw [ex_35_35]
      simp (disch := first | exact am_nl_i _ | exact am_nl_r _ | exact am_nl_0 | assumption | omega | (refine vi_nI ?_ ?_ <;> omega) | exact b2i_01 _ | exact Or.inl rfl | exact Or.inr rfl | (unfold vi; decide)) only [ex_35_0, ex_35_1, ex_35_2, ex_35_3, ex_35_5, ex_35_8, ex_35_9, ex_35_12, ex_35_13, ex_35_14, ex_35_15, ex_35_16, ex_35_19, ex_35_20, ex_35_21, ex_35_24, ex_35_25, ex_35_26, ex_35_27, ex_35_30, ex_35_33, ex_35_34, ex_35_36, ex_35_38, ex_35_41, ex_35_42, ex_35_45, ex_35_46, ex_35_47, ex_35_50, ex_35_51, ex_35_52, ex_35_53, ex_35_56, ex_35_59, ex_35_60, ex_35_61, ex_35_62, ex_35_65, ex_35_68, ex_35_69, ex_35_70, ex_35_71, ex_35_74, ex_35_75, ex_35_76, ex_35_79, ex_35_80, ex_35_81, ex_35_84, if_true, if_false, and_self, Option.toList_some, Option.toList_none, List.singleton_append, List.cons_append, List.nil_append, List.append_nil, nI_1, nt_e, Int32.le_refl, lq12, nI_leI, hnle, nI_clamp, e7]
      refine ih (i + 1) (by omega) _ (of_ai ho (by unfold inL; omega)) ?_ ?_ (fun k hk => ?_)
      · rw [AI_sAI, if_neg (by omega)]; exact g1
      · rw [AI_sAI, if_neg (by omega)]; exact g2
      · rw [AI_sAI, if_pos rfl]
        by_cases e : k = i
        · rw [e, upd_s]
        · rw [upd_n e]; exact g3 k (by omega)
  have loop1 : ∀ (kz i : Nat), i + kz = 6 → ∀ u', Only (inL b) u u' → (∀ p, p < i → AI u' (b + 1) p = 0) → (∀ p, p < i → AI u' (b + 2) p = roomV v p) → Ex d 35 2 [some (.ref b), some (.ref L), some (.int (nI i))] [] (am_emb u') post := by
    intro kz
    induction kz with
    | zero =>
      intro i hi u' ho g1 g2
      obtain rfl : i = 6 := by omega
      rw [ex_35_2]
      simp (disch := first | exact am_nl_i _ | exact am_nl_r _ | exact am_nl_0 | assumption | omega | (refine vi_nI ?_ ?_ <;> omega) | exact b2i_01 _ | exact Or.inl rfl | exact Or.inr rfl | (unfold vi; decide)) only [ex_35_0, ex_35_1, ex_35_3, ex_35_5, ex_35_8, ex_35_9, ex_35_12, ex_35_13, ex_35_14, ex_35_15, ex_35_16, ex_35_19, ex_35_20, ex_35_21, ex_35_24, ex_35_25, ex_35_26, ex_35_27, ex_35_30, ex_35_33, ex_35_34, ex_35_36, ex_35_38, ex_35_41, ex_35_42, ex_35_45, ex_35_46, ex_35_47, ex_35_50, ex_35_51, ex_35_52, ex_35_53, ex_35_56, ex_35_59, ex_35_60, ex_35_61, ex_35_62, ex_35_65, ex_35_68, ex_35_69, ex_35_70, ex_35_71, ex_35_74, ex_35_75, ex_35_76, ex_35_79, ex_35_80, ex_35_81, ex_35_84, if_true, if_false, and_self, Option.toList_some, Option.toList_none, List.singleton_append, List.cons_append, List.nil_append, List.append_nil, nI_1, nt_e, Int32.le_refl, lq6, nI_leI, Nat.le_refl]
      exact loop2 12 0 (by omega) u' ho g1 g2 (fun k hk => absurd hk (Nat.not_lt_zero k))
    | succ kz ih =>
      intro i hi u' ho g1 g2
      have hnle : ¬ 6 ≤ i := by omega
      have c' := lib_keep hb hL hC ho
      have e8 : ∀ j, j < 6 → AI u' (L + 15) j = roomV v j := c'.2.2.2.2.2.2.2.2.1
      have hne : ¬ L + 15 = b + 1 := by omega
      rw [ex_35_2]
      simp (disch := first | exact am_nl_i _ | exact am_nl_r _ | exact am_nl_0 | assumption | omega | (refine vi_nI ?_ ?_ <;> omega) | exact b2i_01 _ | exact Or.inl rfl | exact Or.inr rfl | (unfold vi; decide)) only [ex_35_0, ex_35_1, ex_35_3, ex_35_5, ex_35_8, ex_35_9, ex_35_12, ex_35_13, ex_35_14, ex_35_15, ex_35_16, ex_35_19, ex_35_20, ex_35_21, ex_35_24, ex_35_25, ex_35_26, ex_35_27, ex_35_30, ex_35_33, ex_35_34, ex_35_36, ex_35_38, ex_35_41, ex_35_42, ex_35_45, ex_35_46, ex_35_47, ex_35_50, ex_35_51, ex_35_52, ex_35_53, ex_35_56, ex_35_59, ex_35_60, ex_35_61, ex_35_62, ex_35_65, ex_35_68, ex_35_69, ex_35_70, ex_35_71, ex_35_74, ex_35_75, ex_35_76, ex_35_79, ex_35_80, ex_35_81, ex_35_84, if_true, if_false, and_self, Option.toList_some, Option.toList_none, List.singleton_append, List.cons_append, List.nil_append, List.append_nil, nI_1, nt_e, Int32.le_refl, lq6, nI_leI, hnle, nI_clamp, AI_sAI, hne, e8]
      refine ih (i + 1) (by omega) _ (of_ai (of_ai ho (by unfold inL; omega)) (by unfold inL; omega)) (fun k hk => ?_) (fun k hk => ?_)
      · rw [AI_sAI, if_neg (by omega), AI_sAI, if_pos rfl]
        by_cases e : k = i
        · rw [e, upd_s]
        · rw [upd_n e]; exact g1 k (by omega)
      · rw [AI_sAI, if_pos rfl]
        by_cases e : k = i
        · rw [e, upd_s]
        · rw [upd_n e, if_neg (by omega)]
          exact g2 k (by omega)
  simp (disch := first | exact am_nl_i _ | exact am_nl_r _ | exact am_nl_0 | assumption | omega | (refine vi_nI ?_ ?_ <;> omega) | exact b2i_01 _ | exact Or.inl rfl | exact Or.inr rfl | (unfold vi; decide)) only [ex_35_0, ex_35_1, ex_35_3, ex_35_5, ex_35_8, ex_35_9, ex_35_12, ex_35_13, ex_35_14, ex_35_15, ex_35_16, ex_35_19, ex_35_20, ex_35_21, ex_35_24, ex_35_25, ex_35_26, ex_35_27, ex_35_30, ex_35_33, ex_35_34, ex_35_36, ex_35_38, ex_35_41, ex_35_42, ex_35_45, ex_35_46, ex_35_47, ex_35_50, ex_35_51, ex_35_52, ex_35_53, ex_35_56, ex_35_59, ex_35_60, ex_35_61, ex_35_62, ex_35_65, ex_35_68, ex_35_69, ex_35_70, ex_35_71, ex_35_74, ex_35_75, ex_35_76, ex_35_79, ex_35_80, ex_35_81, ex_35_84, if_true, if_false, and_self, Option.toList_some, Option.toList_none, List.singleton_append, List.cons_append, List.nil_append, List.append_nil, nI_1, nt_e, Int32.le_refl]
  exact loop1 6 0 (by omega) u (Only.rf _ _) (fun k hk => absurd hk (Nat.not_lt_zero k)) (fun k hk => absurd hk (Nat.not_lt_zero k))
theorem happens_ok {j : Nat} (hq : sh q 5 5) (hb : sh b 4 6) (hL : sh L 3 19) (hl : LifeC u b l) (hC : LibC u L v) (hF0 : FmC u (L + 20) (lawV v 0)) (hF1 : FmC u (L + 23) (lawV v 1)) (hW : WF v) (hw : WL v l) (hH : WH v h) (hlc : LinesC u q h) (hj : j < h.1)
    (hp : ∀ u', Only (inLS b L) u u' → LifeC u' b (lineV v l (h.2 j)).1 → post (some (.int (b2i (lineV v l (h.2 j)).2))) (am_emb u')) : Cl (d + 3) 58 [.ref q, .int (nI j), .ref L, .ref b] (am_emb u) post := by
  have h24 := hH.1
  obtain ⟨l0, l1⟩ := hlc
  obtain ⟨b0, b1, b2, b3⟩ := l1 j hj
  obtain ⟨a, ha, e0, -⟩ := hH.2 j hj
  have hnj : ¬ h.1 ≤ j := by omega
  have hj24 : j < 24 := by omega
  have sub : ∀ z, inL b z → inLS b L z := fun z q => Or.inl q
  rw [op_58]
  simp (disch := first | exact am_nl_i _ | exact am_nl_r _ | exact am_nl_0 | assumption | omega | (refine vi_nI ?_ ?_ <;> omega) | exact b2i_01 _ | exact Or.inl rfl | exact Or.inr rfl | (unfold vi; decide)) only [ex_58_0, ex_58_1, ex_58_4, ex_58_5, ex_58_6, ex_58_9, ex_58_12, ex_58_13, ex_58_15, ex_58_18, ex_58_19, ex_58_20, ex_58_21, ex_58_24, ex_58_25, ex_58_26, ex_58_72, ex_58_73, ex_58_74, ex_58_75, ex_58_78, ex_58_79, ex_58_80, ex_58_81, ex_58_84, ex_58_85, ex_58_86, ex_58_89, ex_58_90, ex_58_91, ex_58_92, ex_58_93, ex_58_96, ex_58_97, ex_58_98, ex_58_99, ex_58_102, ex_58_103, ex_58_104, ex_58_105, ex_58_108, ex_58_109, ex_58_110, ex_58_113, ex_58_114, ex_58_117, ex_58_118, ex_58_121, ex_58_122, ex_58_123, ex_58_124, ex_58_125, ex_58_126, ex_58_129, ex_58_130, ex_58_131, ex_58_134, ex_58_135, ex_58_138, ex_58_139, ex_58_142, ex_58_143, ex_58_144, ex_58_145, ex_58_146, ex_58_147, ex_58_150, ex_58_151, ex_58_152, ex_58_155, ex_58_156, ex_58_159, ex_58_160, ex_58_163, ex_58_164, ex_58_165, ex_58_166, ex_58_167, ex_58_168, ex_58_171, ex_58_172, if_true, if_false, and_self, Option.toList_some, Option.toList_none, List.singleton_append, List.cons_append, List.nil_append, List.append_nil, nI_1, nt_e, Int32.le_refl, i_lt0, l0, nI_leI, hnj, show (24 : Int32) = nI 24 from rfl, nI_ltI, hj24, nI_clamp, b0]
  unfold lineV at hp
  match a, ha with
  | 0, _ =>
    rw [e0] at hp ⊢
    rw [if_pos (by rfl)] at hp
    rw [show tokOf (nI 0) = nI 220 from rfl, show am_tgt 26 139 214 221 #[97, 64, 139, 139, 139, 139, 46, 118] (nI 220).toInt = 72 by decide]
    simp (disch := first | exact am_nl_i _ | exact am_nl_r _ | exact am_nl_0 | assumption | omega | (refine vi_nI ?_ ?_ <;> omega) | exact b2i_01 _ | exact Or.inl rfl | exact Or.inr rfl | (unfold vi; decide)) only [ex_58_0, ex_58_1, ex_58_4, ex_58_5, ex_58_6, ex_58_9, ex_58_12, ex_58_13, ex_58_15, ex_58_18, ex_58_19, ex_58_20, ex_58_21, ex_58_24, ex_58_25, ex_58_26, ex_58_72, ex_58_73, ex_58_74, ex_58_75, ex_58_78, ex_58_79, ex_58_80, ex_58_81, ex_58_84, ex_58_85, ex_58_89, ex_58_90, ex_58_91, ex_58_92, ex_58_93, ex_58_96, ex_58_97, ex_58_98, ex_58_99, ex_58_102, ex_58_103, ex_58_104, ex_58_105, ex_58_108, ex_58_109, ex_58_110, ex_58_113, ex_58_114, ex_58_117, ex_58_118, ex_58_121, ex_58_122, ex_58_123, ex_58_124, ex_58_125, ex_58_126, ex_58_129, ex_58_130, ex_58_131, ex_58_134, ex_58_135, ex_58_138, ex_58_139, ex_58_142, ex_58_143, ex_58_144, ex_58_145, ex_58_146, ex_58_147, ex_58_150, ex_58_151, ex_58_152, ex_58_155, ex_58_156, ex_58_159, ex_58_160, ex_58_163, ex_58_164, ex_58_165, ex_58_166, ex_58_167, ex_58_168, ex_58_171, ex_58_172, if_true, if_false, and_self, Option.toList_some, Option.toList_none, List.singleton_append, List.cons_append, List.nil_append, List.append_nil, nI_1, nt_e, Int32.le_refl, nI_clamp, b1, b3]
    rw [ex_58_86 hb]
    refine eats_ok hb hL hl hC hW (fun hf => ?_) (fun ht u1 o1 a1 => ?_)
    · rw [hf] at hp
      simp (disch := first | exact am_nl_i _ | exact am_nl_r _ | exact am_nl_0 | assumption | omega | (refine vi_nI ?_ ?_ <;> omega) | exact b2i_01 _ | exact Or.inl rfl | exact Or.inr rfl | (unfold vi; decide)) only [ex_58_0, ex_58_1, ex_58_4, ex_58_5, ex_58_6, ex_58_9, ex_58_12, ex_58_13, ex_58_15, ex_58_18, ex_58_19, ex_58_20, ex_58_21, ex_58_24, ex_58_25, ex_58_26, ex_58_72, ex_58_73, ex_58_74, ex_58_75, ex_58_78, ex_58_79, ex_58_80, ex_58_81, ex_58_84, ex_58_85, ex_58_86, ex_58_89, ex_58_90, ex_58_91, ex_58_92, ex_58_93, ex_58_96, ex_58_97, ex_58_98, ex_58_99, ex_58_102, ex_58_103, ex_58_104, ex_58_105, ex_58_108, ex_58_109, ex_58_110, ex_58_113, ex_58_114, ex_58_117, ex_58_118, ex_58_121, ex_58_122, ex_58_123, ex_58_124, ex_58_125, ex_58_126, ex_58_129, ex_58_130, ex_58_131, ex_58_134, ex_58_135, ex_58_138, ex_58_139, ex_58_142, ex_58_143, ex_58_144, ex_58_145, ex_58_146, ex_58_147, ex_58_150, ex_58_151, ex_58_152, ex_58_155, ex_58_156, ex_58_159, ex_58_160, ex_58_163, ex_58_164, ex_58_165, ex_58_166, ex_58_167, ex_58_168, ex_58_171, ex_58_172, if_true, if_false, and_self, Option.toList_some, Option.toList_none, List.singleton_append, List.cons_append, List.nil_append, List.append_nil, nI_1, nt_e, Int32.le_refl]
      exact hp u (Only.rf _ _) hl
    · rw [ht] at hp
      simp (disch := first | exact am_nl_i _ | exact am_nl_r _ | exact am_nl_0 | assumption | omega | (refine vi_nI ?_ ?_ <;> omega) | exact b2i_01 _ | exact Or.inl rfl | exact Or.inr rfl | (unfold vi; decide)) only [ex_58_0, ex_58_1, ex_58_4, ex_58_5, ex_58_6, ex_58_9, ex_58_12, ex_58_13, ex_58_15, ex_58_18, ex_58_19, ex_58_20, ex_58_21, ex_58_24, ex_58_25, ex_58_26, ex_58_72, ex_58_73, ex_58_74, ex_58_75, ex_58_78, ex_58_79, ex_58_80, ex_58_81, ex_58_84, ex_58_85, ex_58_86, ex_58_89, ex_58_90, ex_58_91, ex_58_92, ex_58_93, ex_58_96, ex_58_97, ex_58_98, ex_58_99, ex_58_102, ex_58_103, ex_58_104, ex_58_105, ex_58_108, ex_58_109, ex_58_110, ex_58_113, ex_58_114, ex_58_117, ex_58_118, ex_58_121, ex_58_122, ex_58_123, ex_58_124, ex_58_125, ex_58_126, ex_58_129, ex_58_130, ex_58_131, ex_58_134, ex_58_135, ex_58_138, ex_58_139, ex_58_142, ex_58_143, ex_58_144, ex_58_145, ex_58_146, ex_58_147, ex_58_150, ex_58_151, ex_58_152, ex_58_155, ex_58_156, ex_58_159, ex_58_160, ex_58_163, ex_58_164, ex_58_165, ex_58_166, ex_58_167, ex_58_168, ex_58_171, ex_58_172, if_true, if_false, and_self, Option.toList_some, Option.toList_none, List.singleton_append, List.cons_append, List.nil_append, List.append_nil, nI_1, nt_e, Int32.le_refl]
      exact hp u1 (o1.wk sub) a1
  | 1, _ =>
    rw [e0] at hp ⊢
    rw [if_neg (by decide), if_pos (by rfl)] at hp
    rw [show tokOf (nI 1) = nI 215 from rfl, show am_tgt 26 139 214 221 #[97, 64, 139, 139, 139, 139, 46, 118] (nI 215).toInt = 90 by decide]
    simp (disch := first | exact am_nl_i _ | exact am_nl_r _ | exact am_nl_0 | assumption | omega | (refine vi_nI ?_ ?_ <;> omega) | exact b2i_01 _ | exact Or.inl rfl | exact Or.inr rfl | (unfold vi; decide)) only [ex_58_0, ex_58_1, ex_58_4, ex_58_5, ex_58_6, ex_58_9, ex_58_12, ex_58_13, ex_58_15, ex_58_18, ex_58_19, ex_58_20, ex_58_21, ex_58_24, ex_58_25, ex_58_26, ex_58_72, ex_58_73, ex_58_74, ex_58_75, ex_58_78, ex_58_79, ex_58_80, ex_58_81, ex_58_84, ex_58_85, ex_58_86, ex_58_89, ex_58_90, ex_58_91, ex_58_92, ex_58_93, ex_58_96, ex_58_97, ex_58_98, ex_58_99, ex_58_102, ex_58_103, ex_58_104, ex_58_105, ex_58_108, ex_58_109, ex_58_113, ex_58_114, ex_58_117, ex_58_118, ex_58_121, ex_58_122, ex_58_123, ex_58_124, ex_58_125, ex_58_126, ex_58_129, ex_58_130, ex_58_131, ex_58_134, ex_58_135, ex_58_138, ex_58_139, ex_58_142, ex_58_143, ex_58_144, ex_58_145, ex_58_146, ex_58_147, ex_58_150, ex_58_151, ex_58_152, ex_58_155, ex_58_156, ex_58_159, ex_58_160, ex_58_163, ex_58_164, ex_58_165, ex_58_166, ex_58_167, ex_58_168, ex_58_171, ex_58_172, if_true, if_false, and_self, Option.toList_some, Option.toList_none, List.singleton_append, List.cons_append, List.nil_append, List.append_nil, nI_1, nt_e, Int32.le_refl, nI_clamp, b1, b2, b3]
    rw [ex_58_110 hb]
    refine bites_ok hb hL hl hC hF1 hW hw (fun hf => ?_) (fun ht u1 o1 a1 => ?_)
    · rw [hf] at hp
      simp (disch := first | exact am_nl_i _ | exact am_nl_r _ | exact am_nl_0 | (refine vi_nI ?_ ?_ <;> omega) | assumption | omega | exact b2i_01 _ | exact Or.inl rfl | exact Or.inr rfl | (unfold vi; decide)) only [ex_58_0, ex_58_1, ex_58_4, ex_58_5, ex_58_6, ex_58_9, ex_58_12, ex_58_13, ex_58_15, ex_58_18, ex_58_19, ex_58_20, ex_58_21, ex_58_24, ex_58_25, ex_58_26, ex_58_72, ex_58_73, ex_58_74, ex_58_75, ex_58_78, ex_58_79, ex_58_80, ex_58_81, ex_58_84, ex_58_85, ex_58_86, ex_58_89, ex_58_90, ex_58_91, ex_58_92, ex_58_93, ex_58_96, ex_58_97, ex_58_98, ex_58_99, ex_58_102, ex_58_103, ex_58_104, ex_58_105, ex_58_108, ex_58_109, ex_58_110, ex_58_113, ex_58_114, ex_58_117, ex_58_118, ex_58_121, ex_58_122, ex_58_123, ex_58_124, ex_58_125, ex_58_126, ex_58_129, ex_58_130, ex_58_131, ex_58_134, ex_58_135, ex_58_138, ex_58_139, ex_58_142, ex_58_143, ex_58_144, ex_58_145, ex_58_146, ex_58_147, ex_58_150, ex_58_151, ex_58_152, ex_58_155, ex_58_156, ex_58_159, ex_58_160, ex_58_163, ex_58_164, ex_58_165, ex_58_166, ex_58_167, ex_58_168, ex_58_171, ex_58_172, if_true, if_false, and_self, Option.toList_some, Option.toList_none, List.singleton_append, List.cons_append, List.nil_append, List.append_nil, nI_1, nt_e, Int32.le_refl, Bool.true_eq_false, Bool.false_eq_true, ↓reduceIte]
      exact hp u (Only.rf _ _) hl
    · rw [ht] at hp
      simp (disch := first | exact am_nl_i _ | exact am_nl_r _ | exact am_nl_0 | assumption | omega | (refine vi_nI ?_ ?_ <;> omega) | exact b2i_01 _ | exact Or.inl rfl | exact Or.inr rfl | (unfold vi; decide)) only [ex_58_0, ex_58_1, ex_58_4, ex_58_5, ex_58_6, ex_58_9, ex_58_12, ex_58_13, ex_58_15, ex_58_18, ex_58_19, ex_58_20, ex_58_21, ex_58_24, ex_58_25, ex_58_26, ex_58_72, ex_58_73, ex_58_74, ex_58_75, ex_58_78, ex_58_79, ex_58_80, ex_58_81, ex_58_84, ex_58_85, ex_58_86, ex_58_89, ex_58_90, ex_58_91, ex_58_92, ex_58_93, ex_58_96, ex_58_97, ex_58_98, ex_58_99, ex_58_102, ex_58_103, ex_58_104, ex_58_105, ex_58_108, ex_58_109, ex_58_110, ex_58_113, ex_58_114, ex_58_117, ex_58_118, ex_58_121, ex_58_122, ex_58_123, ex_58_124, ex_58_125, ex_58_126, ex_58_129, ex_58_130, ex_58_131, ex_58_134, ex_58_135, ex_58_138, ex_58_139, ex_58_142, ex_58_143, ex_58_144, ex_58_145, ex_58_146, ex_58_147, ex_58_150, ex_58_151, ex_58_152, ex_58_155, ex_58_156, ex_58_159, ex_58_160, ex_58_163, ex_58_164, ex_58_165, ex_58_166, ex_58_167, ex_58_168, ex_58_171, ex_58_172, if_true, if_false, and_self, Option.toList_some, Option.toList_none, List.singleton_append, List.cons_append, List.nil_append, List.append_nil, nI_1, nt_e, Int32.le_refl, bitesN_m]
      exact hp u1 o1 a1
  | 2, _ =>
    rw [e0] at hp ⊢
    rw [if_neg (by decide), if_neg (by decide), if_pos (by rfl)] at hp
    rw [show tokOf (nI 2) = nI 214 from rfl, show am_tgt 26 139 214 221 #[97, 64, 139, 139, 139, 139, 46, 118] (nI 214).toInt = 123 by decide]
    simp (disch := first | exact am_nl_i _ | exact am_nl_r _ | exact am_nl_0 | assumption | omega | (refine vi_nI ?_ ?_ <;> omega) | exact b2i_01 _ | exact Or.inl rfl | exact Or.inr rfl | (unfold vi; decide)) only [ex_58_0, ex_58_1, ex_58_4, ex_58_5, ex_58_6, ex_58_9, ex_58_12, ex_58_13, ex_58_15, ex_58_18, ex_58_19, ex_58_20, ex_58_21, ex_58_24, ex_58_25, ex_58_26, ex_58_72, ex_58_73, ex_58_74, ex_58_75, ex_58_78, ex_58_79, ex_58_80, ex_58_81, ex_58_84, ex_58_85, ex_58_86, ex_58_89, ex_58_90, ex_58_91, ex_58_92, ex_58_93, ex_58_96, ex_58_97, ex_58_98, ex_58_99, ex_58_102, ex_58_103, ex_58_104, ex_58_105, ex_58_108, ex_58_109, ex_58_110, ex_58_113, ex_58_114, ex_58_117, ex_58_118, ex_58_121, ex_58_122, ex_58_123, ex_58_124, ex_58_125, ex_58_126, ex_58_129, ex_58_130, ex_58_134, ex_58_135, ex_58_138, ex_58_139, ex_58_142, ex_58_143, ex_58_144, ex_58_145, ex_58_146, ex_58_147, ex_58_150, ex_58_151, ex_58_152, ex_58_155, ex_58_156, ex_58_159, ex_58_160, ex_58_163, ex_58_164, ex_58_165, ex_58_166, ex_58_167, ex_58_168, ex_58_171, ex_58_172, if_true, if_false, and_self, Option.toList_some, Option.toList_none, List.singleton_append, List.cons_append, List.nil_append, List.append_nil, nI_1, nt_e, Int32.le_refl, nI_clamp, b3]
    rw [ex_58_131 hb]
    refine copied_ok hb hL hl hC hF0 hW (fun hf => ?_) (fun ht u1 o1 a1 => ?_)
    · rw [hf] at hp
      simp (disch := first | exact am_nl_i _ | exact am_nl_r _ | exact am_nl_0 | (refine vi_nI ?_ ?_ <;> omega) | assumption | omega | exact b2i_01 _ | exact Or.inl rfl | exact Or.inr rfl | (unfold vi; decide)) only [ex_58_0, ex_58_1, ex_58_4, ex_58_5, ex_58_6, ex_58_9, ex_58_12, ex_58_13, ex_58_15, ex_58_18, ex_58_19, ex_58_20, ex_58_21, ex_58_24, ex_58_25, ex_58_26, ex_58_72, ex_58_73, ex_58_74, ex_58_75, ex_58_78, ex_58_79, ex_58_80, ex_58_81, ex_58_84, ex_58_85, ex_58_86, ex_58_89, ex_58_90, ex_58_91, ex_58_92, ex_58_93, ex_58_96, ex_58_97, ex_58_98, ex_58_99, ex_58_102, ex_58_103, ex_58_104, ex_58_105, ex_58_108, ex_58_109, ex_58_110, ex_58_113, ex_58_114, ex_58_117, ex_58_118, ex_58_121, ex_58_122, ex_58_123, ex_58_124, ex_58_125, ex_58_126, ex_58_129, ex_58_130, ex_58_131, ex_58_134, ex_58_135, ex_58_138, ex_58_139, ex_58_142, ex_58_143, ex_58_144, ex_58_145, ex_58_146, ex_58_147, ex_58_150, ex_58_151, ex_58_152, ex_58_155, ex_58_156, ex_58_159, ex_58_160, ex_58_163, ex_58_164, ex_58_165, ex_58_166, ex_58_167, ex_58_168, ex_58_171, ex_58_172, if_true, if_false, and_self, Option.toList_some, Option.toList_none, List.singleton_append, List.cons_append, List.nil_append, List.append_nil, nI_1, nt_e, Int32.le_refl, Bool.true_eq_false, Bool.false_eq_true, ↓reduceIte]
      exact hp u (Only.rf _ _) hl
    · rw [ht] at hp
      have hcm : ¬ costV v l (ix (h.2 j 3)) = -1 := clamp_m _
      simp (disch := first | exact am_nl_i _ | exact am_nl_r _ | exact am_nl_0 | assumption | omega | (refine vi_nI ?_ ?_ <;> omega) | exact b2i_01 _ | exact Or.inl rfl | exact Or.inr rfl | (unfold vi; decide)) only [ex_58_0, ex_58_1, ex_58_4, ex_58_5, ex_58_6, ex_58_9, ex_58_12, ex_58_13, ex_58_15, ex_58_18, ex_58_19, ex_58_20, ex_58_21, ex_58_24, ex_58_25, ex_58_26, ex_58_72, ex_58_73, ex_58_74, ex_58_75, ex_58_78, ex_58_79, ex_58_80, ex_58_81, ex_58_84, ex_58_85, ex_58_86, ex_58_89, ex_58_90, ex_58_91, ex_58_92, ex_58_93, ex_58_96, ex_58_97, ex_58_98, ex_58_99, ex_58_102, ex_58_103, ex_58_104, ex_58_105, ex_58_108, ex_58_109, ex_58_110, ex_58_113, ex_58_114, ex_58_117, ex_58_118, ex_58_121, ex_58_122, ex_58_123, ex_58_124, ex_58_125, ex_58_126, ex_58_129, ex_58_130, ex_58_131, ex_58_134, ex_58_135, ex_58_138, ex_58_139, ex_58_142, ex_58_143, ex_58_144, ex_58_145, ex_58_146, ex_58_147, ex_58_150, ex_58_151, ex_58_152, ex_58_155, ex_58_156, ex_58_159, ex_58_160, ex_58_163, ex_58_164, ex_58_165, ex_58_166, ex_58_167, ex_58_168, ex_58_171, ex_58_172, if_true, if_false, and_self, Option.toList_some, Option.toList_none, List.singleton_append, List.cons_append, List.nil_append, List.append_nil, nI_1, nt_e, Int32.le_refl, hcm]
      exact hp u1 o1 a1
  | 3, _ =>
    rw [e0] at hp ⊢
    rw [if_neg (by decide), if_neg (by decide), if_neg (by decide), if_pos (by rfl)] at hp
    rw [show tokOf (nI 3) = nI 221 from rfl, show am_tgt 26 139 214 221 #[97, 64, 139, 139, 139, 139, 46, 118] (nI 221).toInt = 144 by decide]
    simp (disch := first | exact am_nl_i _ | exact am_nl_r _ | exact am_nl_0 | assumption | omega | (refine vi_nI ?_ ?_ <;> omega) | exact b2i_01 _ | exact Or.inl rfl | exact Or.inr rfl | (unfold vi; decide)) only [ex_58_0, ex_58_1, ex_58_4, ex_58_5, ex_58_6, ex_58_9, ex_58_12, ex_58_13, ex_58_15, ex_58_18, ex_58_19, ex_58_20, ex_58_21, ex_58_24, ex_58_25, ex_58_26, ex_58_72, ex_58_73, ex_58_74, ex_58_75, ex_58_78, ex_58_79, ex_58_80, ex_58_81, ex_58_84, ex_58_85, ex_58_86, ex_58_89, ex_58_90, ex_58_91, ex_58_92, ex_58_93, ex_58_96, ex_58_97, ex_58_98, ex_58_99, ex_58_102, ex_58_103, ex_58_104, ex_58_105, ex_58_108, ex_58_109, ex_58_110, ex_58_113, ex_58_114, ex_58_117, ex_58_118, ex_58_121, ex_58_122, ex_58_123, ex_58_124, ex_58_125, ex_58_126, ex_58_129, ex_58_130, ex_58_131, ex_58_134, ex_58_135, ex_58_138, ex_58_139, ex_58_142, ex_58_143, ex_58_144, ex_58_145, ex_58_146, ex_58_147, ex_58_150, ex_58_151, ex_58_155, ex_58_156, ex_58_159, ex_58_160, ex_58_163, ex_58_164, ex_58_165, ex_58_166, ex_58_167, ex_58_168, ex_58_171, ex_58_172, if_true, if_false, and_self, Option.toList_some, Option.toList_none, List.singleton_append, List.cons_append, List.nil_append, List.append_nil, nI_1, nt_e, Int32.le_refl, nI_clamp, b1]
    rw [ex_58_152 hb]
    refine ends_ok hb hL hl hC hW hw (fun hf => ?_) (fun ht u1 o1 a1 => ?_)
    · rw [hf] at hp
      simp (disch := first | exact am_nl_i _ | exact am_nl_r _ | exact am_nl_0 | (refine vi_nI ?_ ?_ <;> omega) | assumption | omega | exact b2i_01 _ | exact Or.inl rfl | exact Or.inr rfl | (unfold vi; decide)) only [ex_58_0, ex_58_1, ex_58_4, ex_58_5, ex_58_6, ex_58_9, ex_58_12, ex_58_13, ex_58_15, ex_58_18, ex_58_19, ex_58_20, ex_58_21, ex_58_24, ex_58_25, ex_58_26, ex_58_72, ex_58_73, ex_58_74, ex_58_75, ex_58_78, ex_58_79, ex_58_80, ex_58_81, ex_58_84, ex_58_85, ex_58_86, ex_58_89, ex_58_90, ex_58_91, ex_58_92, ex_58_93, ex_58_96, ex_58_97, ex_58_98, ex_58_99, ex_58_102, ex_58_103, ex_58_104, ex_58_105, ex_58_108, ex_58_109, ex_58_110, ex_58_113, ex_58_114, ex_58_117, ex_58_118, ex_58_121, ex_58_122, ex_58_123, ex_58_124, ex_58_125, ex_58_126, ex_58_129, ex_58_130, ex_58_131, ex_58_134, ex_58_135, ex_58_138, ex_58_139, ex_58_142, ex_58_143, ex_58_144, ex_58_145, ex_58_146, ex_58_147, ex_58_150, ex_58_151, ex_58_152, ex_58_155, ex_58_156, ex_58_159, ex_58_160, ex_58_163, ex_58_164, ex_58_165, ex_58_166, ex_58_167, ex_58_168, ex_58_171, ex_58_172, if_true, if_false, and_self, Option.toList_some, Option.toList_none, List.singleton_append, List.cons_append, List.nil_append, List.append_nil, nI_1, nt_e, Int32.le_refl, Bool.true_eq_false, Bool.false_eq_true, ↓reduceIte]
      exact hp u (Only.rf _ _) hl
    · rw [ht] at hp
      simp (disch := first | exact am_nl_i _ | exact am_nl_r _ | exact am_nl_0 | assumption | omega | (refine vi_nI ?_ ?_ <;> omega) | exact b2i_01 _ | exact Or.inl rfl | exact Or.inr rfl | (unfold vi; decide)) only [ex_58_0, ex_58_1, ex_58_4, ex_58_5, ex_58_6, ex_58_9, ex_58_12, ex_58_13, ex_58_15, ex_58_18, ex_58_19, ex_58_20, ex_58_21, ex_58_24, ex_58_25, ex_58_26, ex_58_72, ex_58_73, ex_58_74, ex_58_75, ex_58_78, ex_58_79, ex_58_80, ex_58_81, ex_58_84, ex_58_85, ex_58_86, ex_58_89, ex_58_90, ex_58_91, ex_58_92, ex_58_93, ex_58_96, ex_58_97, ex_58_98, ex_58_99, ex_58_102, ex_58_103, ex_58_104, ex_58_105, ex_58_108, ex_58_109, ex_58_110, ex_58_113, ex_58_114, ex_58_117, ex_58_118, ex_58_121, ex_58_122, ex_58_123, ex_58_124, ex_58_125, ex_58_126, ex_58_129, ex_58_130, ex_58_131, ex_58_134, ex_58_135, ex_58_138, ex_58_139, ex_58_142, ex_58_143, ex_58_144, ex_58_145, ex_58_146, ex_58_147, ex_58_150, ex_58_151, ex_58_152, ex_58_155, ex_58_156, ex_58_159, ex_58_160, ex_58_163, ex_58_164, ex_58_165, ex_58_166, ex_58_167, ex_58_168, ex_58_171, ex_58_172, if_true, if_false, and_self, Option.toList_some, Option.toList_none, List.singleton_append, List.cons_append, List.nil_append, List.append_nil, nI_1, nt_e, Int32.le_refl, ends_m hW]
      exact hp u1 (o1.wk sub) a1
  | 4, _ =>
    rw [e0] at hp ⊢
    rw [if_neg (by decide), if_neg (by decide), if_neg (by decide), if_neg (by decide)] at hp
    rw [show tokOf (nI 4) = nI 222 from rfl, show am_tgt 26 139 214 221 #[97, 64, 139, 139, 139, 139, 46, 118] (nI 222).toInt = 165 by decide]
    simp (disch := first | exact am_nl_i _ | exact am_nl_r _ | exact am_nl_0 | assumption | omega | (refine vi_nI ?_ ?_ <;> omega) | exact b2i_01 _ | exact Or.inl rfl | exact Or.inr rfl | (unfold vi; decide)) only [ex_58_0, ex_58_1, ex_58_4, ex_58_5, ex_58_6, ex_58_9, ex_58_12, ex_58_13, ex_58_15, ex_58_18, ex_58_19, ex_58_20, ex_58_21, ex_58_24, ex_58_25, ex_58_26, ex_58_72, ex_58_73, ex_58_74, ex_58_75, ex_58_78, ex_58_79, ex_58_80, ex_58_81, ex_58_84, ex_58_85, ex_58_86, ex_58_89, ex_58_90, ex_58_91, ex_58_92, ex_58_93, ex_58_96, ex_58_97, ex_58_98, ex_58_99, ex_58_102, ex_58_103, ex_58_104, ex_58_105, ex_58_108, ex_58_109, ex_58_110, ex_58_113, ex_58_114, ex_58_117, ex_58_118, ex_58_121, ex_58_122, ex_58_123, ex_58_124, ex_58_125, ex_58_126, ex_58_129, ex_58_130, ex_58_131, ex_58_134, ex_58_135, ex_58_138, ex_58_139, ex_58_142, ex_58_143, ex_58_144, ex_58_145, ex_58_146, ex_58_147, ex_58_150, ex_58_151, ex_58_152, ex_58_155, ex_58_156, ex_58_159, ex_58_160, ex_58_163, ex_58_164, ex_58_165, ex_58_166, ex_58_167, ex_58_171, ex_58_172, if_true, if_false, and_self, Option.toList_some, Option.toList_none, List.singleton_append, List.cons_append, List.nil_append, List.append_nil, nI_1, nt_e, Int32.le_refl]
    rw [ex_58_168 hb]
    refine pass_ok hb hL hl hC (fun u1 o1 a1 => ?_)
    simp (disch := first | exact am_nl_i _ | exact am_nl_r _ | exact am_nl_0 | assumption | omega | (refine vi_nI ?_ ?_ <;> omega) | exact b2i_01 _ | exact Or.inl rfl | exact Or.inr rfl | (unfold vi; decide)) only [ex_58_0, ex_58_1, ex_58_4, ex_58_5, ex_58_6, ex_58_9, ex_58_12, ex_58_13, ex_58_15, ex_58_18, ex_58_19, ex_58_20, ex_58_21, ex_58_24, ex_58_25, ex_58_26, ex_58_72, ex_58_73, ex_58_74, ex_58_75, ex_58_78, ex_58_79, ex_58_80, ex_58_81, ex_58_84, ex_58_85, ex_58_86, ex_58_89, ex_58_90, ex_58_91, ex_58_92, ex_58_93, ex_58_96, ex_58_97, ex_58_98, ex_58_99, ex_58_102, ex_58_103, ex_58_104, ex_58_105, ex_58_108, ex_58_109, ex_58_110, ex_58_113, ex_58_114, ex_58_117, ex_58_118, ex_58_121, ex_58_122, ex_58_123, ex_58_124, ex_58_125, ex_58_126, ex_58_129, ex_58_130, ex_58_131, ex_58_134, ex_58_135, ex_58_138, ex_58_139, ex_58_142, ex_58_143, ex_58_144, ex_58_145, ex_58_146, ex_58_147, ex_58_150, ex_58_151, ex_58_152, ex_58_155, ex_58_156, ex_58_159, ex_58_160, ex_58_163, ex_58_164, ex_58_165, ex_58_166, ex_58_167, ex_58_168, ex_58_171, ex_58_172, if_true, if_false, and_self, Option.toList_some, Option.toList_none, List.singleton_append, List.cons_append, List.nil_append, List.append_nil, nI_1, nt_e, Int32.le_refl]
    exact hp u1 (o1.wk sub) a1
end LineC
