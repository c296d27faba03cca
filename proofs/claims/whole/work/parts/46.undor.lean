/-! UNDO, of the reference -/
section UndoR
variable {d : Nat} {u : am_U} {m : am_M} {S : ST} {post : Option Value → am_M → Prop}
theorem R_undo (hI : InvR u S) (hS : WS S) (h : ∀ u', Only inR u u' → InvR u' (undoS S).1 → post (some (.int (b2i (undoS S).2))) (am_emb u')) : Cl (d + 1) 240 [.ref 203] (am_emb u) post := by
  have hI1 : InvR (th u 0) S := th_inv hI
  obtain ⟨hR, hcd, ⟨hl, hl2, hl3⟩, hp, hm, htp⟩ := hI1
  have hI1 : InvR (th u 0) S := th_inv hI
  have h6 := hS.1.1.2.2.1
  have h16 := hS.2.2.1.1
  have o0 : Only actR u (th u 0) := Only.sFI (Or.inl rfl)
  have ac : ∀ a, actR a → inR a := fun a q => by unfold actR at q; unfold inR; omega
  obtain ⟨hp1, hp2⟩ := hp
  rw [op_240]
  simp (disch := first | exact am_nl_i _ | exact am_nl_r _ | exact am_nl_0 | assumption | omega | (refine vi_nI ?_ ?_ <;> omega) | exact b2i_01 _ | exact Or.inl rfl | exact Or.inr rfl | (unfold vi; decide)) only [ex_240_0, ex_240_1, ex_240_2, ex_240_5, ex_240_6, ex_240_9, ex_240_12, ex_240_13, ex_240_14, ex_240_15, ex_240_16, ex_240_19, ex_240_20, ex_240_21, ex_240_24, ex_240_25, ex_240_28, ex_240_30, ex_240_31, ex_240_34, ex_240_35, ex_240_36, ex_240_39, ex_240_40, ex_240_43, ex_240_44, if_true, if_false, and_self, Option.toList_some, Option.toList_none, List.singleton_append, List.cons_append, List.nil_append, List.append_nil, nI_1, nt_e, Int32.le_refl, th_e, hp1]
  unfold undoS at h
  by_cases q : S.2.2.1.1 = 0
  · rw [if_pos q] at h
    rw [if_pos (by rw [q]; rfl)]
    exact h _ (o0.wk ac) hI1
  · rw [if_neg q] at h
    have hne : ¬ nI S.2.2.1.1 = 0 := (by decide +kernel : ∀ n, n ≤ 16 → ¬ n = 0 → ¬ nI n = 0) _ h16 q
    rw [if_neg hne, FI_sFI, if_pos ⟨rfl, rfl⟩, nI_m1 h16 q, mul27 (by omega)]
    refine copies_ok (x := 27 * (S.2.2.1.1 - 1)) (y := 0) shl_244 shl_241 (by omega) (by omega) (by omega) (by omega) (by omega) (fun u1 o1 g1 => ?_)
    have f1 := (o1 203 (by unfold is; omega)).1
    have g4 : AI u1 244 = AI (th u 0) 244 := (o1 244 (by unfold is; omega)).2.2.2.1
    simp (disch := first | exact am_nl_i _ | exact am_nl_r _ | exact am_nl_0 | assumption | omega | (refine vi_nI ?_ ?_ <;> omega) | exact b2i_01 _ | exact Or.inl rfl | exact Or.inr rfl | (unfold vi; decide)) only [ex_240_0, ex_240_1, ex_240_2, ex_240_5, ex_240_6, ex_240_9, ex_240_12, ex_240_13, ex_240_14, ex_240_15, ex_240_16, ex_240_19, ex_240_20, ex_240_21, ex_240_24, ex_240_25, ex_240_28, ex_240_30, ex_240_31, ex_240_34, ex_240_35, ex_240_36, ex_240_39, ex_240_40, ex_240_43, ex_240_44, if_true, if_false, and_self, Option.toList_some, Option.toList_none, List.singleton_append, List.cons_append, List.nil_append, List.append_nil, nI_1, nt_e, Int32.le_refl]
    have oo : Only actR (th u 0) u1 := Only.tr (u2 := sFI (th u 0) 203 55 (nI (S.2.2.1.1 - 1))) (Only.sFI (Or.inl rfl)) (o1.wk (fun a q => Or.inr (Or.inl q)))
    refine h u1 ((o0.tr oo).wk ac) (actR_inv hI1 oo (by rw [f1]; rfl) ?_ ⟨?_, fun j hj => ?_⟩)
    · refine RowR_map h6 (hp2 (S.2.2.1.1 - 1) (by omega)) (fun k hk => ?_)
      rw [g1, if_pos (by omega), show 27 * (S.2.2.1.1 - 1) + (0 + k - 0) = 27 * (S.2.2.1.1 - 1) + k by omega]
      rfl
    · rw [f1, FI_sFI, if_pos ⟨rfl, rfl⟩]
    · have hj : j < S.2.2.1.1 - 1 := hj
      rw [g4]
      exact hp2 j (by omega)
end UndoR
