/-! TELL, of the reference -/
section TellR
variable {d : Nat} {u : am_U} {m : am_M} {S : ST} {post : Option Value → am_M → Prop}
theorem R_tell {x : Int32} {c : Bool} (hI : InvR u S) (hS : WS S) (h : ∀ u', Only inR u u' → InvR u' (tellS S x c).1 → post (some (.int (b2i (tellS S x c).2))) (am_emb u')) : Cl (d + 1) 254 [.ref 203, .int x, .int (b2i c)] (am_emb u) post := by
  have hI1 : InvR (th u 0) S := th_inv hI
  obtain ⟨hR, hcd, ⟨hl, hl2, ht1, ht2⟩, hp, hm, htp⟩ := hI1
  have hI1 : InvR (th u 0) S := th_inv hI
  have hW := hS.1
  have ht := hS.2.1.2.2.1
  have o0 : Only inR u (th u 0) := Only.sFI (by unfold inR; omega)
  have hz := b2i_01 c
  rw [op_254]
  simp (disch := first | exact am_nl_i _ | exact am_nl_r _ | exact am_nl_0 | assumption | omega | (refine vi_nI ?_ ?_ <;> omega) | exact b2i_01 _ | exact Or.inl rfl | exact Or.inr rfl | (unfold vi; decide)) only [ex_254_0, ex_254_1, ex_254_2, ex_254_5, ex_254_6, ex_254_7, ex_254_10, ex_254_13, ex_254_14, ex_254_17, ex_254_18, ex_254_19, ex_254_21, ex_254_24, ex_254_25, ex_254_26, ex_254_27, ex_254_30, ex_254_31, ex_254_34, ex_254_35, ex_254_36, ex_254_38, ex_254_39, ex_254_42, ex_254_43, ex_254_46, ex_254_47, ex_254_48, ex_254_50, ex_254_51, ex_254_54, ex_254_55, ex_254_56, ex_254_57, ex_254_58, ex_254_60, ex_254_61, if_true, if_false, and_self, Option.toList_some, Option.toList_none, List.singleton_append, List.cons_append, List.nil_append, List.append_nil, nI_1, nt_e, Int32.le_refl, th_e, isTask_ok hR hW, b2i_0, c0, ht1]
  unfold tellS at h
  cases hf : okI x (nT S.1)
  · rw [hf] at h
    exact h _ o0 hI1
  · rw [hf] at h
    rw [if_neg (by simp)]
    by_cases hq : S.2.1.2.2.1 < 12
    · rw [decide_eq_true hq] at h
      have hne : ¬ nI S.2.1.2.2.1 = 12 := (by decide +kernel : ∀ n, n < 12 → ¬ nI n = 12) _ hq
      rw [if_neg hne, ex_254_37 (vi_nI (by omega) (by omega)), nI_clamp (by omega)]
      simp (disch := first | exact am_nl_i _ | exact am_nl_r _ | exact am_nl_0 | assumption | omega | (refine vi_nI ?_ ?_ <;> omega) | exact b2i_01 _ | exact Or.inl rfl | exact Or.inr rfl | (unfold vi; decide)) only [ex_254_0, ex_254_1, ex_254_2, ex_254_5, ex_254_6, ex_254_7, ex_254_10, ex_254_13, ex_254_14, ex_254_17, ex_254_18, ex_254_19, ex_254_21, ex_254_24, ex_254_25, ex_254_26, ex_254_27, ex_254_30, ex_254_31, ex_254_34, ex_254_35, ex_254_36, ex_254_38, ex_254_39, ex_254_42, ex_254_43, ex_254_46, ex_254_47, ex_254_48, ex_254_50, ex_254_51, ex_254_54, ex_254_55, ex_254_56, ex_254_57, ex_254_58, ex_254_60, ex_254_61, if_true, if_false, and_self, Option.toList_some, Option.toList_none, List.singleton_append, List.cons_append, List.nil_append, List.append_nil, nI_1, nt_e, Int32.le_refl, c0, AI_sAI, ht1, show ¬ (238 : Nat) = 239 by decide]
      rw [ex_254_49 (vi_nI (by omega) (by omega)) hz, nI_clamp (by omega)]
      simp (disch := first | exact am_nl_i _ | exact am_nl_r _ | exact am_nl_0 | assumption | omega | (refine vi_nI ?_ ?_ <;> omega) | exact b2i_01 _ | exact Or.inl rfl | exact Or.inr rfl | (unfold vi; decide)) only [ex_254_0, ex_254_1, ex_254_2, ex_254_5, ex_254_6, ex_254_7, ex_254_10, ex_254_13, ex_254_14, ex_254_17, ex_254_18, ex_254_19, ex_254_21, ex_254_24, ex_254_25, ex_254_26, ex_254_27, ex_254_30, ex_254_31, ex_254_34, ex_254_35, ex_254_36, ex_254_38, ex_254_39, ex_254_42, ex_254_43, ex_254_46, ex_254_47, ex_254_48, ex_254_50, ex_254_51, ex_254_54, ex_254_55, ex_254_56, ex_254_57, ex_254_58, ex_254_59, ex_254_60, ex_254_61, if_true, if_false, and_self, Option.toList_some, Option.toList_none, List.singleton_append, List.cons_append, List.nil_append, List.append_nil, nI_1, nt_e, Int32.le_refl, c0, AI_sAI, ht1, show ¬ (238 : Nat) = 239 by decide, show ¬ (238 : Nat) = 240 by decide]
      obtain ⟨i1, i2⟩ := okI_ix hf
      generalize ix x = j at *
      subst i2
      refine h _ (of_ai (of_ai (of_ai o0 (by unfold inR; omega)) (by unfold inR; omega)) (by unfold inR; omega)) ⟨hR, hcd, ⟨hl, hl2, ?_, fun k hk => ?_⟩, hp, fun k hk => ⟨(hm k hk).1, fun s hs => ⟨((hm k hk).2 s hs).1, ((hm k hk).2 s hs).2.1, ?_, fun i hi => ?_⟩⟩, htp⟩
      · show upd (AI (th u 0) 238) 0 (nI (S.2.1.2.2.1 + 1)) 0 = nI (S.2.1.2.2.1 + 1)
        exact upd_s
      · have hk : k < S.2.1.2.2.1 + 1 := hk
        show upd (AI (th u 0) 239) S.2.1.2.2.1 (nI j) (12 * 0 + k) = nI (if k = S.2.1.2.2.1 then j else S.2.1.2.2.2.1 k) ∧ upd (AI (th u 0) 240) S.2.1.2.2.1 (b2i c) (12 * 0 + k) = b2i (if k = S.2.1.2.2.1 then c else S.2.1.2.2.2.2 k)
        rw [show 12 * 0 + k = k by omega]
        by_cases e : k = S.2.1.2.2.1
        · rw [if_pos e, if_pos e, e, upd_s, upd_s]; exact ⟨rfl, rfl⟩
        · rw [if_neg e, if_neg e, upd_n e, upd_n e]
          have := ht2 k (by omega)
          rwa [show 12 * 0 + k = k by omega] at this
      · refine Eq.trans (upd_n (by omega)) ((hm k hk).2 s hs).2.2.1
      · have := ((hm k hk).2 s hs).2.2.2 i hi
        exact ⟨Eq.trans (upd_n (by omega)) this.1, Eq.trans (upd_n (by omega)) this.2⟩
    · rw [decide_eq_false hq] at h
      have he : nI S.2.1.2.2.1 = 12 := by rw [show S.2.1.2.2.1 = 12 by omega]; rfl
      rw [if_pos he]
      exact h _ o0 hI1
end TellR
