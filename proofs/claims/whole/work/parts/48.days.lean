/-! DAYS, of the class -/
def daysS (S : ST) (x : Int32) : ST × Int32 := if okI x 1001 && !decide (x = 0) then (withLP S (passL S.1 S.2.1.1 x) (pushV S.2.2.1 S.2.1.1), dayL S.2.1.1 + x) else (S, -1)
theorem okI_le {x : Int32} {n : Nat} (hn : n < 2 ^ 31 - 1) : okI x (n + 1) = decide (0 ≤ x.toInt ∧ x.toInt ≤ (n : Int)) := by
  unfold okI
  by_cases q : 0 ≤ x.toInt ∧ x.toInt ≤ (n : Int)
  · rw [decide_eq_true q, decide_eq_true (by omega)]
  · rw [decide_eq_false q, decide_eq_false (by omega)]
theorem days_in {x : Int32} : (okI x 1001 && !decide (x = 0)) = decide ((1 : Int32) ≤ x ∧ x ≤ 1000) := by
  have e1 : (1 : Int32) ≤ x ↔ 1 ≤ x.toInt := by rw [Int32.le_iff_toInt_le]; rfl
  have e2 : x ≤ 1000 ↔ x.toInt ≤ 1000 := by rw [Int32.le_iff_toInt_le]; rfl
  have e3 : x = 0 ↔ x.toInt = 0 := by rw [← Int32.toInt_inj]; rfl
  rw [okI_le (n := 1000) (by decide)]
  simp only [e1, e2, e3]
  by_cases q : 1 ≤ x.toInt ∧ x.toInt ≤ 1000
  · rw [decide_eq_true q, decide_eq_true (by omega), decide_eq_false (by omega)]; rfl
  · rw [decide_eq_false q]
    by_cases z : x.toInt = 0
    · rw [decide_eq_true z]; simp
    · rw [decide_eq_false (p := 0 ≤ x.toInt ∧ _) (by omega)]; rfl
section Days
variable {d L L' : Nat} {u : am_U} {m : am_M} {S : ST} {post : Option Value → am_M → Prop}
theorem WS_days (h : WS S) (x : Int32) : WS (daysS S x).1 := by
  unfold daysS
  split
  · exact WS_act h h.2.1.1
  · exact h
theorem C_days {x : Int32} (hI : InvC u S L L') (hS : WS S) (h : ∀ u', Only inC u u' → InvC u' (daysS S x).1 L L' → post (some (.int (daysS S x).2)) (am_emb u')) : Cl (d + 3) 127 [.ref 0, .int x] (am_emb u) post := by
  have hL := lib_sh hI.1.2.2.1
  have hp16 := hS.2.2.1.1
  have hIc := hI
  obtain ⟨⟨r1, r2, r3, r4, r5, r6⟩, ⟨l1, l2, l3⟩, st, pst, mk, tp⟩ := hI
  have no : okI x 1001 = true ∧ x ≠ 0 → True := fun _ => trivial
  unfold daysS at h
  rw [days_in] at h
  rw [op_127]
  simp (disch := first | exact am_nl_i _ | exact am_nl_r _ | exact am_nl_0 | assumption | omega | (refine vi_nI ?_ ?_ <;> omega) | exact b2i_01 _ | exact Or.inl rfl | exact Or.inr rfl | (unfold vi; decide)) only [ex_127_0, ex_127_1, ex_127_2, ex_127_5, ex_127_6, ex_127_9, ex_127_12, ex_127_13, ex_127_15, ex_127_18, ex_127_19, ex_127_22, ex_127_25, ex_127_28, ex_127_29, ex_127_32, ex_127_35, ex_127_36, ex_127_39, ex_127_40, ex_127_43, ex_127_44, ex_127_47, ex_127_48, ex_127_51, ex_127_54, ex_127_57, if_true, if_false, and_self, Option.toList_some, Option.toList_none, List.singleton_append, List.cons_append, List.nil_append, List.append_nil, nI_1, nt_e, Int32.le_refl]
  by_cases q1 : x < 1
  · rw [if_pos q1]
    rw [decide_eq_false (fun q => Int32.not_le.mpr q1 q.1)] at h
    exact h u (Only.rf _ _) hIc
  · rw [if_neg q1]
    by_cases q2 : x ≤ 1000
    · rw [if_pos q2]
      rw [decide_eq_true ⟨Int32.not_lt.mp q1, q2⟩] at h
      simp (disch := first | exact am_nl_i _ | exact am_nl_r _ | exact am_nl_0 | assumption | omega | (refine vi_nI ?_ ?_ <;> omega) | exact b2i_01 _ | exact Or.inl rfl | exact Or.inr rfl | (unfold vi; decide)) only [ex_127_0, ex_127_1, ex_127_2, ex_127_5, ex_127_6, ex_127_9, ex_127_12, ex_127_13, ex_127_14, ex_127_15, ex_127_18, ex_127_19, ex_127_22, ex_127_28, ex_127_29, ex_127_32, ex_127_35, ex_127_36, ex_127_39, ex_127_40, ex_127_43, ex_127_44, ex_127_47, ex_127_48, ex_127_51, ex_127_54, ex_127_57, if_true, if_false, and_self, Option.toList_some, Option.toList_none, List.singleton_append, List.cons_append, List.nil_append, List.append_nil, nI_1, nt_e, Int32.le_refl]
      rw [ex_127_25]
      refine set_ok shl_78 shl_65 (by omega) st.1 (fun u1 o1 b1 => ?_)
      have f1 := o1 0 (by unfold inL; omega)
      have c1 : LibC u1 L S.1 := l1.keep o1 (fun k hk q => by unfold inL at q; omega)
      have s1 : LifeC u1 65 S.2.1.1 := st.1.keep o1 (fun k hk q => by unfold inL at q; omega)
      have hr : FR u1 0 2 = some L := by rw [f1.2.2.1]; exact r1
      have p1 : PastC u1 S.2.2.1 := past_keep pst o1 f1.1 (fun a h1 h2 q => by unfold inL at q; omega)
      have a1 : Only actP u u1 := o1.wk (fun a q => Or.inr (Or.inr (Or.inl q)))
      have ac : ∀ a, actP a → inC a := fun a q => by unfold actP inL at q; unfold inC; omega
      simp (disch := first | exact am_nl_i _ | exact am_nl_r _ | exact am_nl_0 | assumption | omega | (refine vi_nI ?_ ?_ <;> omega) | exact b2i_01 _ | exact Or.inl rfl | exact Or.inr rfl | (unfold vi; decide)) only [ex_127_0, ex_127_1, ex_127_2, ex_127_5, ex_127_6, ex_127_9, ex_127_12, ex_127_13, ex_127_14, ex_127_15, ex_127_18, ex_127_19, ex_127_22, ex_127_28, ex_127_29, ex_127_32, ex_127_35, ex_127_36, ex_127_39, ex_127_43, ex_127_47, ex_127_48, ex_127_51, ex_127_54, ex_127_57, if_true, if_false, and_self, Option.toList_some, Option.toList_none, List.singleton_append, List.cons_append, List.nil_append, List.append_nil, nI_1, nt_e, Int32.le_refl, hr, va_rfs]
      rw [ex_127_40]
      refine pass_ok shl_65 hL s1 c1 (fun u2 o2 s2 => ?_)
      simp (disch := first | exact am_nl_i _ | exact am_nl_r _ | exact am_nl_0 | assumption | omega | (refine vi_nI ?_ ?_ <;> omega) | exact b2i_01 _ | exact Or.inl rfl | exact Or.inr rfl | (unfold vi; decide)) only [ex_127_0, ex_127_1, ex_127_2, ex_127_5, ex_127_6, ex_127_9, ex_127_12, ex_127_13, ex_127_14, ex_127_15, ex_127_18, ex_127_19, ex_127_22, ex_127_28, ex_127_29, ex_127_32, ex_127_35, ex_127_36, ex_127_39, ex_127_43, ex_127_47, ex_127_48, ex_127_51, ex_127_54, ex_127_57, if_true, if_false, and_self, Option.toList_some, Option.toList_none, List.singleton_append, List.cons_append, List.nil_append, List.append_nil, nI_1, nt_e, Int32.le_refl]
      rw [ex_127_44]
      have f2 := o2 0 (by unfold inL; omega)
      have p2 : PastC u2 S.2.2.1 := past_keep p1 o2 f2.1 (fun a h1 h2 q => by unfold inL at q; omega)
      have b2 : LifeC u2 78 S.2.1.1 := b1.keep o2 (fun k hk q => by unfold inL at q; omega)
      refine remember_ok hp16 (by rw [(o2 82 (by unfold inL; omega)).2.2.2.2.2, (o1 82 (by unfold inL; omega)).2.2.2.2.2]; exact r4) p2 b2 (fun u3 o3 f3 p3 => ?_)
      have a3 : Only actP u u3 := (a1.tr (o2.wk (fun a q => Or.inr (Or.inl q)))).tr (o3.wk (fun a q => by unfold inPast at q; unfold actP; omega))
      have s3 : LifeC u3 65 (passL S.1 S.2.1.1 x) := s2.keep o3 (fun k hk q => by unfold inPast at q; omega)
      simp (disch := first | exact am_nl_i _ | exact am_nl_r _ | exact am_nl_0 | assumption | omega | (refine vi_nI ?_ ?_ <;> omega) | exact b2i_01 _ | exact Or.inl rfl | exact Or.inr rfl | (unfold vi; decide)) only [ex_127_0, ex_127_1, ex_127_2, ex_127_5, ex_127_6, ex_127_9, ex_127_12, ex_127_13, ex_127_14, ex_127_15, ex_127_18, ex_127_19, ex_127_22, ex_127_28, ex_127_29, ex_127_32, ex_127_35, ex_127_36, ex_127_39, ex_127_43, ex_127_47, ex_127_48, ex_127_51, ex_127_54, ex_127_57, if_true, if_false, and_self, Option.toList_some, Option.toList_none, List.singleton_append, List.cons_append, List.nil_append, List.append_nil, nI_1, nt_e, Int32.le_refl, s3.2.2.2.2.1]
      exact h u3 (a3.wk ac) (act_inv hIc a3 (by rw [f3, f2.2.2.1, f1.2.2.1]) s3 p3)
    · rw [if_neg q2]
      rw [decide_eq_false (fun q => q2 q.2)] at h
      try simp (disch := first | exact am_nl_i _ | exact am_nl_r _ | exact am_nl_0 | assumption | omega | (refine vi_nI ?_ ?_ <;> omega) | exact b2i_01 _ | exact Or.inl rfl | exact Or.inr rfl | (unfold vi; decide)) only [ex_127_0, ex_127_1, ex_127_2, ex_127_5, ex_127_6, ex_127_9, ex_127_12, ex_127_13, ex_127_14, ex_127_15, ex_127_18, ex_127_19, ex_127_22, ex_127_25, ex_127_28, ex_127_29, ex_127_32, ex_127_35, ex_127_36, ex_127_39, ex_127_40, ex_127_43, ex_127_44, ex_127_47, ex_127_48, ex_127_51, ex_127_54, ex_127_57, if_true, if_false, and_self, Option.toList_some, Option.toList_none, List.singleton_append, List.cons_append, List.nil_append, List.append_nil, nI_1, nt_e, Int32.le_refl]
      exact h u (Only.rf _ _) hIc
end Days
