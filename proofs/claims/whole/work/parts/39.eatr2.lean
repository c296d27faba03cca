/-! THE REFERENCE: eat -/
def actR (a : Nat) : Prop := a = 203 ∨ a = 241 ∨ a = 244
theorem actR_inv {u u' : am_U} {S : ST} {l : LF} {p : Nat × (Nat → LF)} (h : InvR u S) (ho : Only actR u u') (hf : FI u' 203 1 = FI u 203 1) (hl : LifeR u' S.1 l) (hp : PastR u' S.1 p) : InvR u' (withLP S l p) := by
  have e := fun a (ha : ¬ actR a) => (ho a ha).2.2.2.1
  have n : ∀ a, 204 ≤ a → ¬ a = 241 → ¬ a = 244 → ¬ actR a := fun a h1 h2 h3 q => by unfold actR at q; omega
  obtain ⟨h1, h2, h3, -, h5, h6⟩ := h
  refine ⟨?_, ?_, ⟨hl, ?_, ?_⟩, hp, fun k hk => ?_, ?_⟩
  · unfold LibR
    show _ ∧ _
    rw [e 205 (n _ (by decide) (by decide) (by decide)), e 210 (n _ (by decide) (by decide) (by decide)), e 211 (n _ (by decide) (by decide) (by decide)), e 212 (n _ (by decide) (by decide) (by decide)), e 213 (n _ (by decide) (by decide) (by decide)), e 214 (n _ (by decide) (by decide) (by decide)), e 215 (n _ (by decide) (by decide) (by decide)), e 216 (n _ (by decide) (by decide) (by decide)), e 217 (n _ (by decide) (by decide) (by decide)), e 218 (n _ (by decide) (by decide) (by decide)), e 219 (n _ (by decide) (by decide) (by decide)), e 220 (n _ (by decide) (by decide) (by decide))]
    exact h1
  · unfold CodeR
    rw [e 221 (n _ (by decide) (by decide) (by decide)), e 222 (n _ (by decide) (by decide) (by decide)), e 223 (n _ (by decide) (by decide) (by decide))]
    exact h2
  · unfold LinesR
    rw [e 236 (n _ (by decide) (by decide) (by decide)), e 237 (n _ (by decide) (by decide) (by decide))]
    exact h3.2.1
  · unfold ToldR
    rw [e 238 (n _ (by decide) (by decide) (by decide)), e 239 (n _ (by decide) (by decide) (by decide)), e 240 (n _ (by decide) (by decide) (by decide))]
    exact h3.2.2
  · unfold LinesR ToldR
    rw [e 236 (n _ (by decide) (by decide) (by decide)), e 237 (n _ (by decide) (by decide) (by decide)), e 238 (n _ (by decide) (by decide) (by decide)), e 239 (n _ (by decide) (by decide) (by decide)), e 240 (n _ (by decide) (by decide) (by decide)), e 243 (n _ (by decide) (by decide) (by decide)), e 245 (n _ (by decide) (by decide) (by decide))]
    exact h5 k hk
  · unfold TapeR
    rw [hf, e 204 (n _ (by decide) (by decide) (by decide))]
    exact h6
section EatR2
variable {d : Nat} {u : am_U} {m : am_M} {v : LV} {l : LF} {S : ST} {post : Option Value → am_M → Prop}
theorem lib_is {u u' : am_U} (hR : LibR u v) (ho : Only (is 241) u u') : LibR u' v := by
  have e := fun a (ha : ¬ a = 241) => (ho a ha).2.2.2.1
  unfold LibR
  rw [e 205 (by decide), e 210 (by decide), e 211 (by decide), e 212 (by decide), e 213 (by decide), e 214 (by decide), e 215 (by decide), e 216 (by decide), e 217 (by decide), e 218 (by decide), e 219 (by decide), e 220 (by decide)]
  exact hR
theorem eatsR_ok {p k : Nat} (hR : LibR u v) (hl : LifeR u v l) (hW : WF v) (hp : p < nE v) (hk : k < nP v) (h : ∀ u', Only (is 241) u u' → LifeR u' v (eatsL v l p k) → post none (am_emb u')) : Cl (d + 1) 228 [.ref 203, .int (nI p), .int (nI k)] (am_emb u) post := by
  have h6 := hW.1.2.2.1
  have h12 := hW.1.2.1
  rw [op_228]
  simp (disch := first | exact am_nl_i _ | exact am_nl_r _ | exact am_nl_0 | assumption | omega | (refine vi_nI ?_ ?_ <;> omega) | exact b2i_01 _ | exact Or.inl rfl | exact Or.inr rfl | (unfold vi; decide)) only [ex_228_0, ex_228_1, ex_228_2, ex_228_6, ex_228_7, ex_228_10, ex_228_11, ex_228_12, ex_228_13, ex_228_16, ex_228_17, ex_228_20, ex_228_22, ex_228_23, ex_228_24, ex_228_25, ex_228_26, ex_228_27, ex_228_28, ex_228_29, if_true, if_false, and_self, Option.toList_some, Option.toList_none, List.singleton_append, List.cons_append, List.nil_append, List.append_nil, nI_1, nt_e, Int32.le_refl]
  rw [ex_228_3]
  refine takesR_ok hR hl hW hp hk (fun u1 o1 l1 => ?_)
  have R1 := lib_is hR o1
  have e2 := R1.2.2.2.1 k hk
  simp (disch := first | exact am_nl_i _ | exact am_nl_r _ | exact am_nl_0 | assumption | omega | (refine vi_nI ?_ ?_ <;> omega) | exact b2i_01 _ | exact Or.inl rfl | exact Or.inr rfl | (unfold vi; decide)) only [ex_228_0, ex_228_1, ex_228_2, ex_228_6, ex_228_7, ex_228_10, ex_228_11, ex_228_12, ex_228_13, ex_228_16, ex_228_17, ex_228_20, ex_228_22, ex_228_23, ex_228_24, ex_228_25, ex_228_26, ex_228_27, ex_228_28, ex_228_29, if_true, if_false, and_self, Option.toList_some, Option.toList_none, List.singleton_append, List.cons_append, List.nil_append, List.append_nil, nI_1, nt_e, Int32.le_refl, nI_clamp, e2]
  unfold eatsL dropL at h
  by_cases q : kindV v k = 2
  · rw [if_pos q] at h
    rw [if_pos q]
    try simp (disch := first | exact am_nl_i _ | exact am_nl_r _ | exact am_nl_0 | assumption | omega | (refine vi_nI ?_ ?_ <;> omega) | exact b2i_01 _ | exact Or.inl rfl | exact Or.inr rfl | (unfold vi; decide)) only [ex_228_0, ex_228_1, ex_228_2, ex_228_6, ex_228_7, ex_228_10, ex_228_11, ex_228_12, ex_228_13, ex_228_16, ex_228_17, ex_228_20, ex_228_22, ex_228_23, ex_228_24, ex_228_25, ex_228_26, ex_228_27, ex_228_28, ex_228_29, if_true, if_false, and_self, Option.toList_some, Option.toList_none, List.singleton_append, List.cons_append, List.nil_append, List.append_nil, nI_1, nt_e, Int32.le_refl]
    exact h u1 o1 l1
  · rw [if_neg q] at h
    rw [if_neg q]
    obtain ⟨a1, a2, a3, a4, a5, a6⟩ := l1
    simp only [Nat.zero_add] at a1 a2 a3 a4 a5 a6
    simp (disch := first | exact am_nl_i _ | exact am_nl_r _ | exact am_nl_0 | assumption | omega | (refine vi_nI ?_ ?_ <;> omega) | exact b2i_01 _ | exact Or.inl rfl | exact Or.inr rfl | (unfold vi; decide)) only [ex_228_0, ex_228_1, ex_228_2, ex_228_6, ex_228_7, ex_228_10, ex_228_11, ex_228_12, ex_228_13, ex_228_16, ex_228_17, ex_228_20, ex_228_22, ex_228_23, ex_228_24, ex_228_25, ex_228_26, ex_228_27, ex_228_28, ex_228_29, if_true, if_false, and_self, Option.toList_some, Option.toList_none, List.singleton_append, List.cons_append, List.nil_append, List.append_nil, nI_1, nt_e, Int32.le_refl, nI13, nI_clamp]
    refine h _ (of_ai o1 rfl) ?_
    unfold LifeR RowR
    simp only [AI_sAI, if_true, Nat.zero_add]
    refine ⟨fun j hj => ?_, fun j hj => ?_, ?_, fun j hj => ?_, ?_, ?_⟩
    · rw [upd_n (by omega)]; exact a1 j hj
    · rw [upd_n (by omega)]; exact a2 j hj
    · rw [upd_n (by omega)]; exact a3
    · show _ = upd (copL (swallowL v l p k)) k _ j
      by_cases e : j = k
      · rw [e, upd_s, upd_s, a4 k (by omega)]
      · rw [upd_n (by omega), upd_n e]; exact a4 j hj
    · rw [upd_n (by omega)]; exact a5
    · rw [upd_n (by omega)]; exact a6
theorem th_inv {x : Int32} (h : InvR u S) : InvR (th u x) S := h
theorem R_eat {x y : Int32} (hI : InvR u S) (hS : WS S) (h : ∀ u', Only inR u u' → InvR u' (eatS S x y).1 → post (some (.int (b2i (eatS S x y).2))) (am_emb u')) : Cl (d + 3) 229 [.ref 203, .int x, .int y] (am_emb u) post := by
  have hI1 : InvR (th u 0) S := th_inv hI
  obtain ⟨hR, hcd, ⟨hl, hl2, hl3⟩, hp, hm, ht⟩ := hI1
  have hI1 : InvR (th u 0) S := th_inv hI
  have hW := hS.1
  have hw := hS.2.1.1
  have o0 : Only actR u (th u 0) := Only.sFI (Or.inl rfl)
  have ac : ∀ a, actR a → inR a := fun a q => by unfold actR at q; unfold inR; omega
  rw [op_229]
  simp (disch := first | exact am_nl_i _ | exact am_nl_r _ | exact am_nl_0 | assumption | omega | (refine vi_nI ?_ ?_ <;> omega) | exact b2i_01 _ | exact Or.inl rfl | exact Or.inr rfl | (unfold vi; decide)) only [ex_229_0, ex_229_1, ex_229_2, ex_229_5, ex_229_6, ex_229_7, ex_229_8, ex_229_11, ex_229_14, ex_229_15, ex_229_16, ex_229_20, ex_229_21, ex_229_22, ex_229_26, ex_229_27, if_true, if_false, and_self, Option.toList_some, Option.toList_none, List.singleton_append, List.cons_append, List.nil_append, List.append_nil, nI_1, nt_e, Int32.le_refl, th_e, canEat_ok hR hl hW hw, b2i_0]
  unfold eatS at h
  cases hq : eatsB S.1 S.2.1.1 x y
  · rw [hq] at h
    simp only [if_true]
    exact h _ (o0.wk ac) hI1
  · rw [hq] at h
    simp only [Bool.true_eq_false, if_false]
    rw [ex_229_17]
    refine keeps_ok hW.1.2.2.1 hS.2.2.1.1 hp hl (fun u1 o1 f1 p1 => ?_)
    have a1 : Only actR (th u 0) u1 := o1.wk (fun a q => by unfold keptP at q; unfold actR; omega)
    have l1 : LifeR u1 S.1 S.2.1.1 := by
      unfold LifeR
      rw [(o1 241 (by unfold keptP; omega)).2.2.2.1]
      exact hl
    have I1 := actR_inv hI1 a1 (f1 1 (by omega)) l1 p1
    have hb : livesI S.2.1.1 x = true ∧ okI y (nP S.1) = true := by
      unfold eatsB takesB at hq
      simp only [Bool.and_eq_true] at hq
      exact ⟨hq.1.1.1.1, hq.1.1.1.2⟩
    obtain ⟨i1, i2⟩ := alive_ix hw hb.1
    obtain ⟨i3, i4⟩ := okI_ix hb.2
    simp (disch := first | exact am_nl_i _ | exact am_nl_r _ | exact am_nl_0 | assumption | omega | (refine vi_nI ?_ ?_ <;> omega) | exact b2i_01 _ | exact Or.inl rfl | exact Or.inr rfl | (unfold vi; decide)) only [ex_229_0, ex_229_1, ex_229_2, ex_229_5, ex_229_6, ex_229_7, ex_229_8, ex_229_11, ex_229_14, ex_229_15, ex_229_16, ex_229_20, ex_229_21, ex_229_22, ex_229_26, ex_229_27, if_true, if_false, and_self, Option.toList_some, Option.toList_none, List.singleton_append, List.cons_append, List.nil_append, List.append_nil, nI_1, nt_e, Int32.le_refl]
    rw [ex_229_23]
    generalize ix x = px at *
    generalize ix y = ky at *
    subst i2
    subst i4
    refine eatsR_ok I1.1 l1 hW i1 i3 (fun u2 o2 l2 => ?_)
    simp (disch := first | exact am_nl_i _ | exact am_nl_r _ | exact am_nl_0 | assumption | omega | (refine vi_nI ?_ ?_ <;> omega) | exact b2i_01 _ | exact Or.inl rfl | exact Or.inr rfl | (unfold vi; decide)) only [ex_229_0, ex_229_1, ex_229_2, ex_229_5, ex_229_6, ex_229_7, ex_229_8, ex_229_11, ex_229_14, ex_229_15, ex_229_16, ex_229_20, ex_229_21, ex_229_22, ex_229_26, ex_229_27, if_true, if_false, and_self, Option.toList_some, Option.toList_none, List.singleton_append, List.cons_append, List.nil_append, List.append_nil, nI_1, nt_e, Int32.le_refl]
    have a2 : Only actR u1 u2 := o2.wk (fun a q => Or.inr (Or.inl q))
    have p2 : PastR u2 S.1 (pushV S.2.2.1 S.2.1.1) := by
      unfold PastR
      rw [(o2 203 (by unfold is; omega)).1, (o2 244 (by unfold is; omega)).2.2.2.1]
      exact p1
    exact h u2 (((o0.tr a1).tr a2).wk ac) (actR_inv (l := eatsL S.1 S.2.1.1 px ky) hI1 (a1.tr a2) (by rw [(o2 203 (by unfold is; omega)).1]; exact f1 1 (by omega)) l2 p2)
end EatR2
