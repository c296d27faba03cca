/-! RESTS, of the class: the seats laid out -/
def seatF (x : Int32) : Nat → Nat × (Nat → Nat)
  | 0 => (0, fun _ => 0)
  | i + 1 => if bt x i then ((seatF x i).1 + 1, upN (seatF x i).2 (seatF x i).1 i) else seatF x i
theorem seatF_mono {x : Int32} {i : Nat} : ∀ {j : Nat}, i ≤ j → (seatF x i).1 ≤ (seatF x j).1
  | 0, h => by rw [show i = 0 by omega]; exact Nat.le_refl _
  | j + 1, h => by
    by_cases e : i = j + 1
    · rw [e]; exact Nat.le_refl _
    · have := seatF_mono (x := x) (i := i) (j := j) (by omega)
      rw [seatF]
      split
      · exact Nat.le_succ_of_le this
      · exact this
theorem seatF_ext {x : Int32} {i : Nat} : ∀ {j : Nat}, i ≤ j → (seatF x i).1 = (seatF x j).1 → seatF x j = seatF x i
  | 0, h, _ => by rw [show i = 0 by omega]
  | j + 1, h, e => by
    by_cases q : i = j + 1
    · rw [q]
    · have m := seatF_mono (x := x) (i := i) (j := j) (by omega)
      rw [seatF] at e ⊢
      by_cases b : bt x j = true
      · rw [if_pos b] at e
        have e : (seatF x i).1 = (seatF x j).1 + 1 := e
        omega
      · rw [if_neg b] at e ⊢
        exact seatF_ext (by omega) e
theorem seatF_6 {x : Int32} : ∀ {i k : Nat}, k < (seatF x i).1 → (seatF x i).2 k < i ∧ bt x ((seatF x i).2 k) = true
  | 0, k, h => absurd h (Nat.not_lt_zero k)
  | i + 1, k, h => by
    rw [seatF] at h ⊢
    by_cases b : bt x i = true
    · rw [if_pos b] at h ⊢
      have h : k < (seatF x i).1 + 1 := h
      show upN (seatF x i).2 (seatF x i).1 i k < i + 1 ∧ bt x (upN (seatF x i).2 (seatF x i).1 i k) = true
      by_cases e : k = (seatF x i).1
      · rw [e, upN_s]; exact ⟨by omega, b⟩
      · rw [upN_n e]
        have := seatF_6 (x := x) (i := i) (k := k) (by omega)
        exact ⟨by omega, this.2⟩
    · rw [if_neg b] at h ⊢
      have := seatF_6 (x := x) (i := i) (k := k) h
      exact ⟨by omega, this.2⟩
theorem seatF_sum {x : Int32} : ∀ i, sumF i (fun k => b2i (bt x k)) = nI (seatF x i).1
  | 0 => rfl
  | i + 1 => by
    rw [sumF_s, seatF_sum i, seatF]
    cases b : bt x i
    · rw [if_neg (by decide)]; exact Int32.add_zero _
    · rw [if_pos rfl]; exact nI_1 _
theorem tkS_s {v : LV} {l : LF} {p i : Nat} : tkS v l p (i + 1) = takesB v l (nI p) (nI i) := by
  unfold tkS
  rw [decide_eq_true (Nat.succ_pos i), Bool.true_and]
  rfl
theorem gnS_s {v : LV} {l : LF} {p i : Nat} : gnS v l p (i + 1) = worthOfV v (knowsV v (eatL l p ||| bi i)) - weighV v i := by
  unfold gnS
  rw [if_neg (Nat.succ_ne_zero i)]
  rfl
def wgP (a : Nat) : Prop := a = 195 ∨ a = 196
theorem nar_0 : vp_nar .boolean 0 = 0 := rfl
section Look
variable {d L n : Nat} {u : am_U} {v : LV} {l : LF} {post : Option Value → am_M → Prop}
theorem weigh_ok {k p : Nat} (hk : k < 3) (hp : p < 6) (hL : sh L 3 19) (hl : LifeC u 65 l) (hC : LibC u L v) (hW : WF v) (hr : FR u 193 4 = some L) (hpe : AI u 194 k = nI p)
    (h : ∀ u', Only wgP u u' → (∀ j, j < 13 * k → AI u' 195 j = AI u 195 j ∧ AI u' 196 j = AI u 196 j) → (∀ c, c ≤ nP v → AI u' 195 (13 * k + c) = gnS v l p c ∧ AI u' 196 (13 * k + c) = b2i (tkS v l p c)) → post none (am_emb u')) : Cl (d + 3) 95 [.ref 193, .ref 65, .int (nI k)] (am_emb u) post := by
  have h65 := shl_65
  have hLp := lib_places hL
  have h12 := hW.1.2.1
  have keep : ∀ u1, Only wgP u u1 → LifeC u1 65 l ∧ LibC u1 L v := fun u1 o1 => ⟨hl.keep o1 (fun k hk q => by unfold wgP at q; omega), hC.keep2 o1 (fun k hk q => by unfold wgP at q; omega)⟩
  have hea := hl.1 p hp
  rw [op_95]
  have loop : ∀ (kz i : Nat), i + kz = nP v → ∀ (u2 : am_U) (j5 : Option Value), Only wgP u u2 → (∀ j, j < 13 * k → AI u2 195 j = AI u 195 j ∧ AI u2 196 j = AI u 196 j) → (∀ c, c ≤ i → AI u2 195 (13 * k + c) = gnS v l p c ∧ AI u2 196 (13 * k + c) = b2i (tkS v l p c)) → Ex (d + 3) 95 42 [some (.ref 193), some (.ref 65), some (.int (nI k)), some (.int (eatL l p)), some (.int (nI i)), j5] [] (am_emb u2) post := by
    intro kz
    induction kz with
    | zero =>
      intro i hi u2 j5 o2 g1 g2
      obtain rfl : i = nP v := by omega
      obtain ⟨l2, c2⟩ := keep u2 o2
      have hr2 : FR u2 193 4 = some L := by rw [(o2 193 (by unfold wgP; omega)).2.2.1]; exact hr
      rw [ex_95_42]
      simp (disch := first | exact am_nl_i _ | exact am_nl_r _ | exact am_nl_0 | (refine vi_nI ?_ ?_ <;> omega) | assumption | omega | exact b2i_01 _ | exact Or.inl rfl | exact Or.inr rfl | (unfold vi; decide)) only [ex_95_0, ex_95_1, ex_95_4, ex_95_5, ex_95_8, ex_95_9, ex_95_10, ex_95_11, ex_95_12, ex_95_13, ex_95_16, ex_95_17, ex_95_19, ex_95_20, ex_95_21, ex_95_24, ex_95_25, ex_95_28, ex_95_29, ex_95_30, ex_95_33, ex_95_34, ex_95_36, ex_95_37, ex_95_38, ex_95_39, ex_95_40, ex_95_44, ex_95_45, ex_95_48, ex_95_51, ex_95_54, ex_95_58, ex_95_60, ex_95_61, ex_95_63, ex_95_64, ex_95_65, ex_95_66, ex_95_68, ex_95_69, ex_95_72, ex_95_74, ex_95_75, ex_95_76, ex_95_79, ex_95_80, ex_95_83, ex_95_84, ex_95_85, ex_95_87, ex_95_90, ex_95_91, ex_95_92, ex_95_95, ex_95_97, ex_95_98, ex_95_101, ex_95_102, ex_95_103, ex_95_105, ex_95_106, ex_95_107, ex_95_110, ex_95_111, ex_95_114, ex_95_117, ex_95_119, ex_95_120, ex_95_121, ex_95_122, ex_95_125, ex_95_128, if_true, if_false, and_self, Option.toList_some, Option.toList_none, List.singleton_append, List.cons_append, List.nil_append, List.append_nil, nI_1, nt_e, Int32.le_refl, hr2, va_rfs, c2.1.2.1, nI_leI, Nat.le_refl, Bool.true_eq_false, Bool.false_eq_true, ↓reduceIte]
      exact h u2 o2 g1 g2
    | succ kz ih =>
      intro i hi u2 j5 o2 g1 g2
      obtain ⟨l2, c2⟩ := keep u2 o2
      have hnle : ¬ nP v ≤ i := by omega
      have hr2 : FR u2 193 4 = some L := by rw [(o2 193 (by unfold wgP; omega)).2.2.1]; exact hr
      have hp2 : AI u2 194 k = nI p := by rw [(o2 194 (by unfold wgP; omega)).2.2.2.1]; exact hpe
      rw [ex_95_42]
      simp (disch := first | exact am_nl_i _ | exact am_nl_r _ | exact am_nl_0 | (refine vi_nI ?_ ?_ <;> omega) | assumption | omega | exact b2i_01 _ | exact Or.inl rfl | exact Or.inr rfl | (unfold vi; decide)) only [ex_95_0, ex_95_1, ex_95_4, ex_95_5, ex_95_8, ex_95_9, ex_95_10, ex_95_11, ex_95_12, ex_95_13, ex_95_16, ex_95_17, ex_95_19, ex_95_20, ex_95_21, ex_95_24, ex_95_25, ex_95_28, ex_95_29, ex_95_30, ex_95_33, ex_95_34, ex_95_36, ex_95_37, ex_95_38, ex_95_39, ex_95_40, ex_95_44, ex_95_45, ex_95_48, ex_95_51, ex_95_54, ex_95_57, ex_95_58, ex_95_60, ex_95_61, ex_95_63, ex_95_64, ex_95_65, ex_95_66, ex_95_68, ex_95_69, ex_95_72, ex_95_74, ex_95_75, ex_95_76, ex_95_79, ex_95_80, ex_95_83, ex_95_84, ex_95_85, ex_95_90, ex_95_91, ex_95_92, ex_95_95, ex_95_97, ex_95_98, ex_95_101, ex_95_102, ex_95_103, ex_95_105, ex_95_106, ex_95_107, ex_95_110, ex_95_111, ex_95_114, ex_95_117, ex_95_119, ex_95_120, ex_95_121, ex_95_122, ex_95_125, ex_95_128, if_true, if_false, and_self, Option.toList_some, Option.toList_none, List.singleton_append, List.cons_append, List.nil_append, List.append_nil, nI_1, nt_e, Int32.le_refl, hr2, va_rfs, c2.1.2.1, nI_leI, hnle, hp2, nI_clamp, lq13, mul_nI, Nat.mul_comm k 13, nI_add, nI_1, Bool.true_eq_false, Bool.false_eq_true, ↓reduceIte]
      rw [ex_95_87, show d + 2 = (d + 1) + 1 from rfl]
      refine (takes_ok h65 hL l2 c2 hW).mpr ?_
      have hr3 : FR (sAI u2 196 (upd (AI u2 196) (13 * k + i + 1) (b2i (takesB v l (nI p) (nI i))))) 193 4 = some L := hr2
      simp (disch := first | exact am_nl_i _ | exact am_nl_r _ | exact am_nl_0 | assumption | omega | (refine vi_nI ?_ ?_ <;> omega) | exact b2i_01 _ | exact Or.inl rfl | exact Or.inr rfl | (unfold vi; decide)) only [ex_95_0, ex_95_1, ex_95_4, ex_95_5, ex_95_8, ex_95_9, ex_95_10, ex_95_11, ex_95_12, ex_95_13, ex_95_16, ex_95_17, ex_95_19, ex_95_20, ex_95_21, ex_95_24, ex_95_25, ex_95_28, ex_95_29, ex_95_30, ex_95_33, ex_95_34, ex_95_36, ex_95_37, ex_95_38, ex_95_39, ex_95_40, ex_95_44, ex_95_45, ex_95_48, ex_95_51, ex_95_54, ex_95_57, ex_95_58, ex_95_60, ex_95_61, ex_95_63, ex_95_64, ex_95_65, ex_95_66, ex_95_68, ex_95_69, ex_95_72, ex_95_74, ex_95_75, ex_95_76, ex_95_79, ex_95_80, ex_95_83, ex_95_84, ex_95_85, ex_95_87, ex_95_90, ex_95_91, ex_95_92, ex_95_95, ex_95_97, ex_95_98, ex_95_101, ex_95_102, ex_95_103, ex_95_105, ex_95_106, ex_95_110, ex_95_111, ex_95_114, ex_95_117, ex_95_119, ex_95_120, ex_95_121, ex_95_122, ex_95_125, ex_95_128, if_true, if_false, and_self, Option.toList_some, Option.toList_none, List.singleton_append, List.cons_append, List.nil_append, List.append_nil, nI_1, nt_e, Int32.le_refl, nar_b, hr3, va_rfs, bi_e, nI_clamp]
      rw [ex_95_107]
      refine (worthWith_ok hL (keep _ (of_ai o2 (Or.inr rfl))).2 hW).mpr ?_
      have hwe : AI (sAI u2 196 (upd (AI u2 196) (13 * k + i + 1) (b2i (takesB v l (nI p) (nI i))))) (L + 12) i = weighV v i := (keep _ (of_ai o2 (Or.inr rfl))).2.2.2.2.2.2.1 i (by omega)
      simp (disch := first | exact am_nl_i _ | exact am_nl_r _ | exact am_nl_0 | assumption | omega | (refine vi_nI ?_ ?_ <;> omega) | exact b2i_01 _ | exact Or.inl rfl | exact Or.inr rfl | (unfold vi; decide)) only [ex_95_0, ex_95_1, ex_95_4, ex_95_5, ex_95_8, ex_95_9, ex_95_10, ex_95_11, ex_95_12, ex_95_13, ex_95_16, ex_95_17, ex_95_19, ex_95_20, ex_95_21, ex_95_24, ex_95_25, ex_95_28, ex_95_29, ex_95_30, ex_95_33, ex_95_34, ex_95_36, ex_95_37, ex_95_38, ex_95_39, ex_95_40, ex_95_44, ex_95_45, ex_95_48, ex_95_51, ex_95_54, ex_95_57, ex_95_58, ex_95_60, ex_95_61, ex_95_63, ex_95_64, ex_95_65, ex_95_66, ex_95_68, ex_95_69, ex_95_72, ex_95_74, ex_95_75, ex_95_76, ex_95_79, ex_95_80, ex_95_83, ex_95_84, ex_95_85, ex_95_87, ex_95_90, ex_95_91, ex_95_92, ex_95_95, ex_95_97, ex_95_98, ex_95_101, ex_95_102, ex_95_103, ex_95_105, ex_95_106, ex_95_107, ex_95_110, ex_95_111, ex_95_114, ex_95_117, ex_95_119, ex_95_120, ex_95_121, ex_95_122, ex_95_125, ex_95_128, if_true, if_false, and_self, Option.toList_some, Option.toList_none, List.singleton_append, List.cons_append, List.nil_append, List.append_nil, nI_1, nt_e, Int32.le_refl, hr3, va_rfs, nI_clamp, hwe, nI_1]
      refine ih (i + 1) (by omega) _ _ (of_ai (of_ai o2 (Or.inr rfl)) (Or.inl rfl)) (fun j hj => ?_) (fun c hc => ?_)
      · rw [AI_sAI, if_pos rfl, AI_sAI, if_neg (by decide), upd_n (by omega), AI_sAI, if_neg (by decide), AI_sAI, if_pos rfl, upd_n (by omega)]
        exact g1 j hj
      · rw [AI_sAI, if_pos rfl, AI_sAI, if_neg (by decide), AI_sAI, if_neg (by decide), AI_sAI, if_pos rfl]
        by_cases e : c = i + 1
        · rw [e, show 13 * k + (i + 1) = 13 * k + i + 1 from rfl, upd_s, upd_s, gnS_s, tkS_s]
          exact ⟨rfl, rfl⟩
        · rw [upd_n (by omega), upd_n (by omega)]
          exact g2 c (by omega)
      all_goals first | exact h65 | exact hL
  simp (disch := first | exact am_nl_i _ | exact am_nl_r _ | exact am_nl_0 | (refine vi_nI ?_ ?_ <;> omega) | assumption | omega | exact b2i_01 _ | exact Or.inl rfl | exact Or.inr rfl | (unfold vi; decide)) only [ex_95_0, ex_95_1, ex_95_4, ex_95_5, ex_95_8, ex_95_9, ex_95_10, ex_95_11, ex_95_12, ex_95_13, ex_95_16, ex_95_17, ex_95_19, ex_95_20, ex_95_21, ex_95_24, ex_95_28, ex_95_29, ex_95_30, ex_95_33, ex_95_34, ex_95_36, ex_95_37, ex_95_38, ex_95_39, ex_95_40, ex_95_42, ex_95_44, ex_95_45, ex_95_48, ex_95_51, ex_95_54, ex_95_57, ex_95_58, ex_95_60, ex_95_61, ex_95_63, ex_95_64, ex_95_65, ex_95_66, ex_95_68, ex_95_69, ex_95_72, ex_95_74, ex_95_75, ex_95_76, ex_95_79, ex_95_80, ex_95_83, ex_95_84, ex_95_85, ex_95_87, ex_95_90, ex_95_91, ex_95_92, ex_95_95, ex_95_97, ex_95_98, ex_95_101, ex_95_102, ex_95_103, ex_95_105, ex_95_106, ex_95_107, ex_95_110, ex_95_111, ex_95_114, ex_95_117, ex_95_119, ex_95_120, ex_95_121, ex_95_122, ex_95_125, ex_95_128, if_true, if_false, and_self, Option.toList_some, Option.toList_none, List.singleton_append, List.cons_append, List.nil_append, List.append_nil, nI_1, nt_e, Int32.le_refl, hpe, nI_clamp, hea, hr, va_rfs, lq13, mul_nI, Nat.mul_comm k 13, Bool.true_eq_false, Bool.false_eq_true, ↓reduceIte]
  rw [ex_95_25, show d + 2 = d + 2 from rfl]
  refine (worthWith_ok hL hC hW).mpr ?_
  simp (disch := first | exact am_nl_i _ | exact am_nl_r _ | exact am_nl_0 | assumption | omega | (refine vi_nI ?_ ?_ <;> omega) | exact b2i_01 _ | exact Or.inl rfl | exact Or.inr rfl | (unfold vi; decide)) only [ex_95_0, ex_95_1, ex_95_4, ex_95_5, ex_95_8, ex_95_9, ex_95_10, ex_95_11, ex_95_12, ex_95_13, ex_95_16, ex_95_17, ex_95_19, ex_95_20, ex_95_21, ex_95_24, ex_95_25, ex_95_28, ex_95_29, ex_95_30, ex_95_33, ex_95_34, ex_95_36, ex_95_37, ex_95_38, ex_95_39, ex_95_40, ex_95_44, ex_95_45, ex_95_48, ex_95_51, ex_95_54, ex_95_57, ex_95_58, ex_95_60, ex_95_61, ex_95_63, ex_95_64, ex_95_65, ex_95_66, ex_95_68, ex_95_69, ex_95_72, ex_95_74, ex_95_75, ex_95_76, ex_95_79, ex_95_80, ex_95_83, ex_95_84, ex_95_85, ex_95_87, ex_95_90, ex_95_91, ex_95_92, ex_95_95, ex_95_97, ex_95_98, ex_95_101, ex_95_102, ex_95_103, ex_95_105, ex_95_106, ex_95_107, ex_95_110, ex_95_111, ex_95_114, ex_95_117, ex_95_119, ex_95_120, ex_95_121, ex_95_122, ex_95_125, ex_95_128, if_true, if_false, and_self, Option.toList_some, Option.toList_none, List.singleton_append, List.cons_append, List.nil_append, List.append_nil, nI_1, nt_e, Int32.le_refl, hr, va_rfs, nI_clamp, nar_0, lq13, mul_nI, Nat.mul_comm k 13]
  refine loop (nP v) 0 (by omega) _ _ (of_ai (of_ai (Only.rf _ _) (Or.inl rfl)) (Or.inr rfl)) (fun j hj => ?_) (fun c hc => ?_)
  · rw [AI_sAI, if_neg (by decide), AI_sAI, if_pos rfl, upd_n (by omega), AI_sAI, if_pos rfl, AI_sAI, if_neg (by decide), upd_n (by omega)]
    exact ⟨rfl, rfl⟩
  · obtain rfl : c = 0 := by omega
    rw [AI_sAI, if_neg (by decide), AI_sAI, if_pos rfl, AI_sAI, if_pos rfl, AI_sAI, if_neg (by decide), Nat.add_zero, upd_s, upd_s]
    exact ⟨rfl, rfl⟩
  all_goals first | exact h65 | exact hL
end Look
