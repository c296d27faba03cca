/-! THE REFERENCE: rows copied, a life kept -/
def is (b a : Nat) : Prop := a = b
theorem lq27 : (27 : Int32) = nI 27 := rfl
section Rows
variable {d : Nat} {u : am_U} {m : am_M} {v : LV} {l : LF} {post : Option Value → am_M → Prop}
theorem copies_ok {a b x y n1 n2 : Nat} (ha : sh a 100 n1) (hb : sh b 100 n2) (hab : a ≠ b) (hx : x + 27 ≤ n1) (hy : y + 27 ≤ n2) (h1 : n1 ≤ 1000) (h2 : n2 ≤ 1000)
    (h : ∀ u', Only (is b) u u' → (∀ j, AI u' b j = if y ≤ j ∧ j < y + 27 then AI u a (x + (j - y)) else AI u b j) → post none (am_emb u')) : Cl d 205 [.ref a, .int (nI x), .ref b, .int (nI y)] (am_emb u) post := by
  rw [op_205]
  have loop : ∀ (k i : Nat), i + k = 27 → ∀ u', Only (is b) u u' → (∀ j, AI u' b j = if y ≤ j ∧ j < y + i then AI u a (x + (j - y)) else AI u b j) → Ex d 205 3 [some (.ref a), some (.int (nI x)), some (.ref b), some (.int (nI y)), some (.int (nI i))] [] (am_emb u') post := by
    intro k
    induction k with
    | zero =>
      intro i hi u' ho hj
      obtain rfl : i = 27 := by omega
      rw [ex_205_3]
      simp (disch := first | exact am_nl_i _ | exact am_nl_r _ | exact am_nl_0 | assumption | omega | (refine vi_nI ?_ ?_ <;> omega) | exact b2i_01 _ | exact Or.inl rfl | exact Or.inr rfl | (unfold vi; decide)) only [ex_205_0, ex_205_1, ex_205_5, ex_205_7, ex_205_10, ex_205_11, ex_205_12, ex_205_14, ex_205_15, ex_205_16, ex_205_17, ex_205_19, ex_205_22, ex_205_25, ex_205_28, if_true, if_false, and_self, Option.toList_some, Option.toList_none, List.singleton_append, List.cons_append, List.nil_append, List.append_nil, nI_1, nt_e, Int32.le_refl, lq27, nI_leI]
      exact h u' ho hj
    | succ k ih =>
      intro i hi u' ho hj
      have hnle : ¬ 27 ≤ i := by omega
      have e1 : AI u' a = AI u a := (ho a (fun q => hab q)).2.2.2.1
      rw [ex_205_3]
      simp (disch := first | exact am_nl_i _ | exact am_nl_r _ | exact am_nl_0 | assumption | omega | (refine vi_nI ?_ ?_ <;> omega) | exact b2i_01 _ | exact Or.inl rfl | exact Or.inr rfl | (unfold vi; decide)) only [ex_205_0, ex_205_1, ex_205_5, ex_205_7, ex_205_10, ex_205_11, ex_205_12, ex_205_14, ex_205_15, ex_205_16, ex_205_17, ex_205_19, ex_205_22, ex_205_25, ex_205_28, if_true, if_false, and_self, Option.toList_some, Option.toList_none, List.singleton_append, List.cons_append, List.nil_append, List.append_nil, nI_1, nt_e, Int32.le_refl, lq27, nI_leI, hnle, nI_add]
      rw [ex_205_20 ha (vi_nI (by omega) (by omega)), ex_205_21 hb (vi_nI (by omega) (by omega)), nI_clamp (by omega), nI_clamp (by omega), e1]
      simp (disch := first | exact am_nl_i _ | exact am_nl_r _ | exact am_nl_0 | assumption | omega | (refine vi_nI ?_ ?_ <;> omega) | exact b2i_01 _ | exact Or.inl rfl | exact Or.inr rfl | (unfold vi; decide)) only [ex_205_0, ex_205_1, ex_205_5, ex_205_7, ex_205_10, ex_205_11, ex_205_12, ex_205_14, ex_205_15, ex_205_16, ex_205_17, ex_205_19, ex_205_22, ex_205_25, ex_205_28, if_true, if_false, and_self, Option.toList_some, Option.toList_none, List.singleton_append, List.cons_append, List.nil_append, List.append_nil, nI_1, nt_e, Int32.le_refl]
      refine ih (i + 1) (by omega) _ (of_ai ho rfl) (fun j => ?_)
      rw [AI_sAI, if_pos rfl]
      by_cases e : j = y + i
      · rw [e, upd_s, if_pos (by omega), show y + i - y = i by omega]
      · rw [upd_n e, hj j]
        by_cases q : y ≤ j ∧ j < y + i
        · rw [if_pos q, if_pos (by omega)]
        · rw [if_neg q, if_neg (by omega)]
  simp (disch := first | exact am_nl_i _ | exact am_nl_r _ | exact am_nl_0 | assumption | omega | (refine vi_nI ?_ ?_ <;> omega) | exact b2i_01 _ | exact Or.inl rfl | exact Or.inr rfl | (unfold vi; decide)) only [ex_205_0, ex_205_1, ex_205_5, ex_205_7, ex_205_10, ex_205_11, ex_205_12, ex_205_14, ex_205_15, ex_205_16, ex_205_17, ex_205_19, ex_205_20, ex_205_21, ex_205_22, ex_205_25, ex_205_28, if_true, if_false, and_self, Option.toList_some, Option.toList_none, List.singleton_append, List.cons_append, List.nil_append, List.append_nil, nI_1, nt_e, Int32.le_refl]
  exact loop 27 0 (by omega) u (Only.rf _ _) (fun j => by rw [if_neg (by omega)])
end Rows
