/-! A NIGHT, DAYS -/
def passL (v : LV) (l : LF) (many : Int32) : LF := (eatL l, roomV v, copL l, aliveL l, dayL l + many, spentL l)
section Pass
variable {d L b : Nat} {u : am_U} {m : am_M} {v : LV} {l : LF} {post : Option Value → am_M → Prop}
theorem pass_ok {many : Int32} (hb : sh b 4 6) (hL : sh L 3 19) (hl : LifeC u b l) (hC : LibC u L v) (h : ∀ u', Only (inL b) u u' → LifeC u' b (passL v l many) → post none (am_emb u')) : Cl d 45 [.ref b, .ref L, .int many] (am_emb u) post := by
  have hbp := life_places hb
  have hLp := lib_places hL
  have hr := hC.2.2.2.2.2.2.2.2.1
  rw [op_45]
  have loop : ∀ (k i : Nat), i + k = 6 → ∀ u', Only (is (b + 2)) u u' → (∀ j, j < i → AI u' (b + 2) j = roomV v j) → Ex d 45 2 [some (.ref b), some (.ref L), some (.int many), some (.int (nI i))] [] (am_emb u') post := by
    intro k
    induction k with
    | zero =>
      intro i hi u' ho hj
      obtain rfl : i = 6 := by omega
      have e0 := ho b (by unfold is; omega)
      have e1 := ho (b + 1) (by unfold is; omega)
      have e3 := ho (b + 3) (by unfold is; omega)
      rw [ex_45_2]
      simp (disch := first | exact am_nl_i _ | exact am_nl_r _ | exact am_nl_0 | assumption | omega | (refine vi_nI ?_ ?_ <;> omega) | exact b2i_01 _ | exact Or.inl rfl | exact Or.inr rfl | (unfold vi; decide)) only [ex_45_0, ex_45_1, ex_45_3, ex_45_5, ex_45_8, ex_45_9, ex_45_12, ex_45_13, ex_45_14, ex_45_17, ex_45_18, ex_45_19, ex_45_20, ex_45_23, ex_45_26, ex_45_27, ex_45_28, ex_45_31, ex_45_32, ex_45_33, ex_45_36, if_true, if_false, and_self, Option.toList_some, Option.toList_none, List.singleton_append, List.cons_append, List.nil_append, List.append_nil, nI_1, nt_e, Int32.le_refl, lq6, nI_leI]
      refine h _ (of_fi (ho.wk (fun a q => by unfold is at q; unfold inL; omega)) (by unfold inL; omega)) ⟨?_, hj, ?_, ?_, ?_, ?_⟩
      · rw [AI_sFI, e1.2.2.2.1]; exact hl.1
      · rw [AI_sFI, e3.2.2.2.1]; exact hl.2.2.1
      · rw [FI_sFI, if_neg (by omega), e0.1]; exact hl.2.2.2.1
      · rw [FI_sFI, if_pos ⟨rfl, rfl⟩, e0.1, hl.2.2.2.2.1]; rfl
      · rw [FI_sFI, if_neg (by omega), e0.1]; exact hl.2.2.2.2.2
    | succ k ih =>
      intro i hi u' ho hj
      have hlt : i < 6 := by omega
      have hnle : ¬ 6 ≤ i := by omega
      have e1 : AI u' (L + 15) = AI u (L + 15) := (ho (L + 15) (by unfold is; omega)).2.2.2.1
      rw [ex_45_2]
      simp (disch := first | exact am_nl_i _ | exact am_nl_r _ | exact am_nl_0 | assumption | omega | (refine vi_nI ?_ ?_ <;> omega) | exact b2i_01 _ | exact Or.inl rfl | exact Or.inr rfl | (unfold vi; decide)) only [ex_45_0, ex_45_1, ex_45_3, ex_45_5, ex_45_8, ex_45_9, ex_45_12, ex_45_13, ex_45_14, ex_45_17, ex_45_18, ex_45_19, ex_45_20, ex_45_23, ex_45_26, ex_45_27, ex_45_28, ex_45_31, ex_45_32, ex_45_33, ex_45_36, if_true, if_false, and_self, Option.toList_some, Option.toList_none, List.singleton_append, List.cons_append, List.nil_append, List.append_nil, nI_1, nt_e, Int32.le_refl, lq6, nI_leI, hnle, nI_clamp, e1, hr]
      refine ih (i + 1) (by omega) _ (of_ai ho rfl) (fun j hj2 => ?_)
      rw [AI_sAI, if_pos rfl]
      by_cases e : j = i
      · rw [e, upd_s]
      · rw [upd_n e]; exact hj j (by omega)
  simp (disch := first | exact am_nl_i _ | exact am_nl_r _ | exact am_nl_0 | assumption | omega | (refine vi_nI ?_ ?_ <;> omega) | exact b2i_01 _ | exact Or.inl rfl | exact Or.inr rfl | (unfold vi; decide)) only [ex_45_0, ex_45_1, ex_45_3, ex_45_5, ex_45_8, ex_45_9, ex_45_12, ex_45_13, ex_45_14, ex_45_17, ex_45_18, ex_45_19, ex_45_20, ex_45_23, ex_45_26, ex_45_27, ex_45_28, ex_45_31, ex_45_32, ex_45_33, ex_45_36, if_true, if_false, and_self, Option.toList_some, Option.toList_none, List.singleton_append, List.cons_append, List.nil_append, List.append_nil, nI_1, nt_e, Int32.le_refl]
  exact loop 6 0 (by omega) u (Only.rf _ _) (fun j hj => by omega)
end Pass
