/-! THE REFERENCE: eating -/
theorem sub_sub_e (a b : Int32) : a - (a - b) = b := by
  apply Int32.toBitVec_inj.mp
  rw [Int32.toBitVec_sub, Int32.toBitVec_sub]
  bv_omega
theorem sub_add_e (a b c : Int32) : (a - b) + c = a - (b - c) := by
  apply Int32.toBitVec_inj.mp
  rw [Int32.toBitVec_add, Int32.toBitVec_sub, Int32.toBitVec_sub, Int32.toBitVec_sub]
  bv_omega
section EatR
variable {d : Nat} {u : am_U} {m : am_M} {v : LV} {l : LF} {post : Option Value → am_M → Prop}
theorem hasRoom_ok {p k : Nat} (hR : LibR u v) (hl : LifeR u v l) (hW : WF v) (hp : p < nE v) (hk : k < nP v) : Cl d 225 [.ref 203, .int (nI p), .int (nI k)] (am_emb u) post ↔ post (some (.int (b2i (decide (weighV v k ≤ leftL l p))))) (am_emb u) := by
  have h6 := hW.1.2.2.1
  have h12 := hW.1.2.1
  have e1 : AI u 241 (6 + p) = roomV v p - leftL l p := by have := hl.2.1 p hp; rwa [Nat.zero_add] at this
  have e2 := hR.2.2.2.2.1 k hk
  have e3 := hR.2.2.2.2.2.2.2.1 p hp
  rw [op_225]
  simp (disch := first | exact am_nl_i _ | exact am_nl_r _ | exact am_nl_0 | assumption | omega | (refine vi_nI ?_ ?_ <;> omega) | exact b2i_01 _ | exact Or.inl rfl | exact Or.inr rfl | (unfold vi; decide)) only [ex_225_0, ex_225_1, ex_225_4, ex_225_5, ex_225_6, ex_225_7, ex_225_10, ex_225_11, ex_225_12, ex_225_13, ex_225_16, ex_225_18, ex_225_19, ex_225_20, ex_225_21, ex_225_22, ex_225_25, ex_225_26, ex_225_29, ex_225_30, if_true, if_false, and_self, Option.toList_some, Option.toList_none, List.singleton_append, List.cons_append, List.nil_append, List.append_nil, nI_1, nt_e, Int32.le_refl, nI6, nI_clamp, e1, e2, e3, sub_sub_e]
  by_cases h : weighV v k ≤ leftL l p
  · rw [if_neg (Int32.not_lt.mpr h), decide_eq_true h]; rfl
  · rw [if_pos (Int32.not_le.mp h), decide_eq_false h]; rfl
theorem takesR_ok {p k : Nat} (hR : LibR u v) (hl : LifeR u v l) (hW : WF v) (hp : p < nE v) (hk : k < nP v) (h : ∀ u', Only (is 241) u u' → LifeR u' v (swallowL v l p k) → post none (am_emb u')) : Cl d 226 [.ref 203, .int (nI p), .int (nI k)] (am_emb u) post := by
  have h6 := hW.1.2.2.1
  have h12 := hW.1.2.1
  obtain ⟨a1, a2, a3, a4, a5, a6⟩ := hl
  simp only [Nat.zero_add] at a1 a2 a3 a4 a5 a6
  have e2 := hR.2.2.2.2.1 k hk
  rw [op_226]
  simp (disch := first | exact am_nl_i _ | exact am_nl_r _ | exact am_nl_0 | assumption | omega | (refine vi_nI ?_ ?_ <;> omega) | exact b2i_01 _ | exact Or.inl rfl | exact Or.inr rfl | (unfold vi; decide)) only [ex_226_0, ex_226_1, ex_226_4, ex_226_5, ex_226_6, ex_226_7, ex_226_8, ex_226_9, ex_226_10, ex_226_11, ex_226_12, ex_226_13, ex_226_16, ex_226_18, ex_226_19, ex_226_20, ex_226_21, ex_226_22, ex_226_23, ex_226_26, ex_226_27, ex_226_28, ex_226_29, ex_226_30, if_true, if_false, and_self, Option.toList_some, Option.toList_none, List.singleton_append, List.cons_append, List.nil_append, List.append_nil, nI_1, nt_e, Int32.le_refl, nI6, nI_clamp, bi_e, AI_sAI, show ¬ (213 : Nat) = 241 by decide, e2]
  refine h _ (of_ai (of_ai (Only.rf _ _) rfl) rfl) ?_
  unfold LifeR RowR
  simp only [AI_sAI, if_true, Nat.zero_add]
  have g : ∀ j, ¬ j = p → ¬ j = 6 + p → upd (upd (AI u 241) p (AI u 241 p ||| bi k)) (6 + p) (upd (AI u 241) p (AI u 241 p ||| bi k) (6 + p) + weighV v k) j = AI u 241 j := fun j h1 h2 => by rw [upd_n h2, upd_n h1]
  refine ⟨fun q hq => ?_, fun q hq => ?_, ?_, fun j hj => ?_, ?_, ?_⟩
  · show _ = upd (eatL l) p (eatL l p ||| bi k) q
    rw [upd_n (by omega)]
    by_cases e : q = p
    · rw [e, upd_s, upd_s, a1 p (by omega)]
    · rw [upd_n e, upd_n e, a1 q hq]
  · show _ = roomV v q - upd (leftL l) p (leftL l p - weighV v k) q
    by_cases e : q = p
    · rw [e, upd_s, upd_s, upd_n (by omega), a2 p hp, sub_add_e]
    · rw [upd_n (by omega), upd_n (by omega), upd_n e, a2 q hq]
  · rw [g 12 (by omega) (by omega)]; exact a3
  · rw [g (13 + j) (by omega) (by omega)]; exact a4 j hj
  · rw [g 25 (by omega) (by omega)]; exact a5
  · rw [g 26 (by omega) (by omega)]; exact a6
theorem alive_ix {x : Int32} (hw : WL v l) (h : livesI l x = true) : ix x < nE v ∧ x = nI (ix x) := by
  unfold livesI at h
  rw [Bool.and_eq_true] at h
  refine ⟨?_, (okI_ix h.1).2⟩
  rcases Nat.lt_or_ge (ix x) (nE v) with q | q
  · exact q
  · have := hw.1 _ q
    rw [livesL] at h
    rw [this] at h
    exact absurd h.2 (by simp)
theorem canEat_ok {x y : Int32} (hR : LibR u v) (hl : LifeR u v l) (hW : WF v) (hw : WL v l) : Cl (d + 2) 227 [.ref 203, .int x, .int y] (am_emb u) post ↔ post (some (.int (b2i (eatsB v l x y)))) (am_emb u) := by
  have h6 := hW.1.2.2.1
  have h12 := hW.1.2.1
  have hs : ∀ p, p < 6 → AI u 241 p = eatL l p := fun p hp => by have := hl.1 p hp; rwa [Nat.zero_add] at this
  have hc : ∀ k, k < 12 → AI u 241 (13 + k) = copL l k := fun k hk => by have := hl.2.2.2.1 k hk; rwa [Nat.zero_add] at this
  rw [op_227]
  simp (disch := first | exact am_nl_i _ | exact am_nl_r _ | exact am_nl_0 | assumption | omega | (refine vi_nI ?_ ?_ <;> omega) | exact b2i_01 _ | exact Or.inl rfl | exact Or.inr rfl | (unfold vi; decide)) only [ex_227_0, ex_227_1, ex_227_2, ex_227_5, ex_227_8, ex_227_9, ex_227_10, ex_227_13, ex_227_16, ex_227_17, ex_227_20, ex_227_22, ex_227_23, ex_227_24, ex_227_25, ex_227_28, ex_227_29, ex_227_32, ex_227_33, ex_227_34, ex_227_35, ex_227_36, ex_227_37, ex_227_38, ex_227_41, ex_227_42, ex_227_43, ex_227_44, ex_227_47, ex_227_50, ex_227_51, ex_227_54, ex_227_55, if_true, if_false, and_self, Option.toList_some, Option.toList_none, List.singleton_append, List.cons_append, List.nil_append, List.append_nil, nI_1, nt_e, Int32.le_refl, isAlive_ok hR hl hW hw, b2i_0]
  unfold eatsB takesB
  cases g1 : livesI l x
  · rfl
  · rw [if_neg (by simp)]
    obtain ⟨i1, i2⟩ := alive_ix hw g1
    simp (disch := first | exact am_nl_i _ | exact am_nl_r _ | exact am_nl_0 | assumption | omega | (refine vi_nI ?_ ?_ <;> omega) | exact b2i_01 _ | exact Or.inl rfl | exact Or.inr rfl | (unfold vi; decide)) only [ex_227_0, ex_227_1, ex_227_2, ex_227_5, ex_227_8, ex_227_9, ex_227_10, ex_227_13, ex_227_16, ex_227_17, ex_227_20, ex_227_22, ex_227_23, ex_227_24, ex_227_25, ex_227_28, ex_227_29, ex_227_32, ex_227_33, ex_227_34, ex_227_35, ex_227_36, ex_227_37, ex_227_38, ex_227_41, ex_227_42, ex_227_43, ex_227_44, ex_227_47, ex_227_50, ex_227_51, ex_227_54, ex_227_55, if_true, if_false, and_self, Option.toList_some, Option.toList_none, List.singleton_append, List.cons_append, List.nil_append, List.append_nil, nI_1, nt_e, Int32.le_refl, isPage_ok hR hW, b2i_0]
    cases g2 : okI y (nP v)
    · rfl
    · rw [if_neg (by simp)]
      obtain ⟨i3, i4⟩ := okI_ix g2
      generalize ix x = p at *
      generalize ix y = k at *
      subst i2
      subst i4
      simp (disch := first | exact am_nl_i _ | exact am_nl_r _ | exact am_nl_0 | assumption | omega | (refine vi_nI ?_ ?_ <;> omega) | exact b2i_01 _ | exact Or.inl rfl | exact Or.inr rfl | (unfold vi; decide)) only [ex_227_0, ex_227_1, ex_227_2, ex_227_5, ex_227_8, ex_227_9, ex_227_10, ex_227_13, ex_227_16, ex_227_17, ex_227_20, ex_227_22, ex_227_23, ex_227_24, ex_227_25, ex_227_28, ex_227_29, ex_227_32, ex_227_33, ex_227_34, ex_227_35, ex_227_36, ex_227_37, ex_227_38, ex_227_41, ex_227_42, ex_227_43, ex_227_44, ex_227_47, ex_227_50, ex_227_51, ex_227_54, ex_227_55, if_true, if_false, and_self, Option.toList_some, Option.toList_none, List.singleton_append, List.cons_append, List.nil_append, List.append_nil, nI_1, nt_e, Int32.le_refl, nI13, nI_clamp, hc, hs, bit_e, b2i_0, hasRoom_ok hR hl hW]
      by_cases q1 : copL l k < 1
      · have q2 : copL l k ≤ 0 := by
          rw [Int32.lt_iff_toInt_lt, show (1 : Int32).toInt = 1 from rfl] at q1
          rw [Int32.le_iff_toInt_le, Int32.toInt_zero]
          omega
        rw [if_pos q2, decide_eq_true q1]
        simp [b2i]
      · have q2 : ¬ copL l k ≤ 0 := by
          rw [Int32.lt_iff_toInt_lt, show (1 : Int32).toInt = 1 from rfl] at q1
          rw [Int32.le_iff_toInt_le, Int32.toInt_zero]
          omega
        rw [if_neg q2, decide_eq_false q1]
        cases bt (eatL l p) k
        · simp only [if_true]
          cases decide (weighV v k ≤ leftL l p) <;> rfl
        · rfl
end EatR
