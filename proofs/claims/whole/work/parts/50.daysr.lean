/-! DAYS, of the reference -/
section DaysR
variable {d : Nat} {u : am_U} {m : am_M} {v : LV} {l : LF} {S : ST} {post : Option Value → am_M → Prop}
theorem night_ok (hl : LifeR u v l) (hW : WF v) (h : ∀ u', Only (is 241) u u' → LifeR u' v (passL v l 1) → post none (am_emb u')) : Cl d 238 [.ref 203] (am_emb u) post := by
  rw [op_238]
  have loop : ∀ (k i : Nat), i + k = 6 → ∀ u', Only (is 241) u u' → (∀ j, AI u' 241 j = if 6 ≤ j ∧ j < 6 + i then 0 else AI u 241 j) → Ex d 238 2 [some (.ref 203), some (.int (nI i))] [] (am_emb u') post := by
    intro k
    induction k with
    | zero =>
      intro i hi u' ho hj
      obtain rfl : i = 6 := by omega
      rw [ex_238_2]
      simp (disch := first | exact am_nl_i _ | exact am_nl_r _ | exact am_nl_0 | assumption | omega | (refine vi_nI ?_ ?_ <;> omega) | exact b2i_01 _ | exact Or.inl rfl | exact Or.inr rfl | (unfold vi; decide)) only [ex_238_0, ex_238_1, ex_238_3, ex_238_5, ex_238_8, ex_238_9, ex_238_12, ex_238_14, ex_238_15, ex_238_16, ex_238_17, ex_238_18, ex_238_21, ex_238_24, ex_238_25, ex_238_28, ex_238_30, ex_238_31, ex_238_32, ex_238_33, ex_238_34, ex_238_35, if_true, if_false, and_self, Option.toList_some, Option.toList_none, List.singleton_append, List.cons_append, List.nil_append, List.append_nil, nI_1, nt_e, Int32.le_refl, lq6, nI_leI, c25]
      refine h _ (of_ai ho rfl) ?_
      obtain ⟨a1, a2, a3, a4, a5, a6⟩ := hl
      simp only [Nat.zero_add] at a1 a2 a3 a4 a5 a6
      unfold LifeR RowR
      simp only [AI_sAI, if_true, Nat.zero_add]
      refine ⟨fun p hp => ?_, fun p hp => ?_, ?_, fun k hk => ?_, ?_, ?_⟩
      · rw [upd_n (by omega), hj, if_neg (by omega)]; exact a1 p hp
      · have := hW.1.2.2.1
        rw [upd_n (by omega), hj, if_pos (by omega)]
        show (0 : Int32) = roomV v p - roomV v p
        exact (Int32.sub_self _).symm
      · rw [upd_n (by omega), hj, if_neg (by omega)]; exact a3
      · rw [upd_n (by omega), hj, if_neg (by omega)]; exact a4 k hk
      · rw [upd_s, hj, if_neg (by omega), a5]; rfl
      · rw [upd_n (by omega), hj, if_neg (by omega)]; exact a6
    | succ k ih =>
      intro i hi u' ho hj
      have hnle : ¬ 6 ≤ i := by omega
      rw [ex_238_2]
      simp (disch := first | exact am_nl_i _ | exact am_nl_r _ | exact am_nl_0 | assumption | omega | (refine vi_nI ?_ ?_ <;> omega) | exact b2i_01 _ | exact Or.inl rfl | exact Or.inr rfl | (unfold vi; decide)) only [ex_238_0, ex_238_1, ex_238_3, ex_238_5, ex_238_8, ex_238_9, ex_238_12, ex_238_14, ex_238_15, ex_238_16, ex_238_17, ex_238_18, ex_238_21, ex_238_24, ex_238_25, ex_238_28, ex_238_30, ex_238_31, ex_238_32, ex_238_33, ex_238_34, ex_238_35, if_true, if_false, and_self, Option.toList_some, Option.toList_none, List.singleton_append, List.cons_append, List.nil_append, List.append_nil, nI_1, nt_e, Int32.le_refl, lq6, nI_leI, hnle, nI_add, nI_clamp]
      refine ih (i + 1) (by omega) _ (of_ai ho rfl) (fun j => ?_)
      rw [AI_sAI, if_pos rfl]
      by_cases e : j = 6 + i
      · rw [e, upd_s, if_pos (by omega)]
      · rw [upd_n e, hj j]
        by_cases q : 6 ≤ j ∧ j < 6 + i
        · rw [if_pos q, if_pos (by omega)]
        · rw [if_neg q, if_neg (by omega)]
  simp (disch := first | exact am_nl_i _ | exact am_nl_r _ | exact am_nl_0 | assumption | omega | (refine vi_nI ?_ ?_ <;> omega) | exact b2i_01 _ | exact Or.inl rfl | exact Or.inr rfl | (unfold vi; decide)) only [ex_238_0, ex_238_1, ex_238_3, ex_238_5, ex_238_8, ex_238_9, ex_238_12, ex_238_14, ex_238_15, ex_238_16, ex_238_17, ex_238_18, ex_238_21, ex_238_24, ex_238_25, ex_238_28, ex_238_30, ex_238_31, ex_238_32, ex_238_33, ex_238_34, ex_238_35, if_true, if_false, and_self, Option.toList_some, Option.toList_none, List.singleton_append, List.cons_append, List.nil_append, List.append_nil, nI_1, nt_e, Int32.le_refl]
  exact loop 6 0 (by omega) u (Only.rf _ _) (fun j => by rw [if_neg (by omega)])
theorem in_nI {x : Int32} {a b : Nat} (hb : b < 2 ^ 31) (h1 : nI a ≤ x) (h2 : x ≤ nI b) (ha : a < 2 ^ 31) : ∃ n, a ≤ n ∧ n ≤ b ∧ x = nI n := by
  rw [Int32.le_iff_toInt_le, nI_toInt (by omega)] at h1 h2
  have hk : okI x (b + 1) = true := decide_eq_true (by omega)
  obtain ⟨g1, g2⟩ := okI_ix hk
  refine ⟨ix x, ?_, by omega, g2⟩
  show a ≤ x.toInt.toNat
  omega
theorem passL_0 (n : Nat) : passL v (passL v l (nI n)) 1 = passL v l (nI (n + 1)) := by
  show (_, _, _, _, dayL l + nI n + 1, _) = (_, _, _, _, dayL l + nI (n + 1), _)
  rw [Int32.add_assoc, show nI n + 1 = nI (n + 1) from nI_add n 1]
  rfl
theorem R_days {x : Int32} (hI : InvR u S) (hS : WS S) (h : ∀ u', Only inR u u' → InvR u' (daysS S x).1 → post (some (.int (daysS S x).2)) (am_emb u')) : Cl (d + 2) 239 [.ref 203, .int x] (am_emb u) post := by
  have hI1 : InvR (th u 0) S := th_inv hI
  obtain ⟨hR, hcd, ⟨hl, hl2, hl3⟩, hp, hm, ht⟩ := hI1
  have hI1 : InvR (th u 0) S := th_inv hI
  have hW := hS.1
  have o0 : Only actR u (th u 0) := Only.sFI (Or.inl rfl)
  have ac : ∀ a, actR a → inR a := fun a q => by unfold actR at q; unfold inR; omega
  unfold daysS at h
  rw [days_in] at h
  rw [op_239]
  simp (disch := first | exact am_nl_i _ | exact am_nl_r _ | exact am_nl_0 | assumption | omega | (refine vi_nI ?_ ?_ <;> omega) | exact b2i_01 _ | exact Or.inl rfl | exact Or.inr rfl | (unfold vi; decide)) only [ex_239_0, ex_239_1, ex_239_2, ex_239_5, ex_239_6, ex_239_7, ex_239_10, ex_239_13, ex_239_16, ex_239_17, ex_239_18, ex_239_22, ex_239_23, ex_239_25, ex_239_26, ex_239_29, ex_239_30, ex_239_33, ex_239_36, ex_239_39, ex_239_40, ex_239_43, ex_239_45, ex_239_46, if_true, if_false, and_self, Option.toList_some, Option.toList_none, List.singleton_append, List.cons_append, List.nil_append, List.append_nil, nI_1, nt_e, Int32.le_refl, th_e, within_ok, b2i_0]
  cases hq : decide ((1 : Int32) ≤ x ∧ x ≤ 1000)
  · rw [hq] at h
    simp only [if_true]
    exact h _ (o0.wk ac) hI1
  · rw [hq] at h
    simp only [Bool.true_eq_false, if_false]
    have hq' := of_decide_eq_true hq
    obtain ⟨n, hn1, hn2, rfl⟩ := in_nI (a := 1) (b := 1000) (by decide) hq'.1 hq'.2 (by decide)
    rw [ex_239_19]
    refine keeps_ok hW.1.2.2.1 hS.2.2.1.1 hp hl (fun u1 o1 f1 p1 => ?_)
    have a1 : Only actR (th u 0) u1 := o1.wk (fun a q => by unfold keptP at q; unfold actR; omega)
    have l1 : LifeR u1 S.1 S.2.1.1 := by
      unfold LifeR
      rw [(o1 241 (by unfold keptP; omega)).2.2.2.1]
      exact hl
    have loop : ∀ (k i : Nat), i + k = n → ∀ u', Only (is 241) u1 u' → LifeR u' S.1 (if i = 0 then S.2.1.1 else passL S.1 S.2.1.1 (nI i)) → Ex (d + 2) 239 24 [some (.ref 203), some (.int (nI n)), some (.int (nI i))] [] (am_emb u') post := by
      intro k
      induction k with
      | zero =>
        intro i hi u' ho hl'
        obtain rfl : i = n := by omega
        rw [if_neg (show ¬ i = 0 by omega)] at hl'
        have e5 := hl'.2.2.2.2.1
        rw [ex_239_24]
        simp (disch := first | exact am_nl_i _ | exact am_nl_r _ | exact am_nl_0 | assumption | omega | (refine vi_nI ?_ ?_ <;> omega) | exact b2i_01 _ | exact Or.inl rfl | exact Or.inr rfl | (unfold vi; decide)) only [ex_239_0, ex_239_1, ex_239_2, ex_239_5, ex_239_6, ex_239_7, ex_239_10, ex_239_13, ex_239_16, ex_239_17, ex_239_18, ex_239_19, ex_239_22, ex_239_23, ex_239_25, ex_239_26, ex_239_29, ex_239_30, ex_239_33, ex_239_36, ex_239_39, ex_239_40, ex_239_43, ex_239_45, ex_239_46, if_true, if_false, and_self, Option.toList_some, Option.toList_none, List.singleton_append, List.cons_append, List.nil_append, List.append_nil, nI_1, nt_e, Int32.le_refl, nI_leI, Nat.le_refl, c25]
        rw [show AI u' 241 25 = dayL S.2.1.1 + nI i from e5]
        have p2 : PastR u' S.1 (pushV S.2.2.1 S.2.1.1) := by
          unfold PastR
          rw [(ho 203 (by unfold is; omega)).1, (ho 244 (by unfold is; omega)).2.2.2.1]
          exact p1
        have a2 : Only actR u1 u' := ho.wk (fun a q => Or.inr (Or.inl q))
        exact h u' (((o0.tr a1).tr a2).wk ac) (actR_inv hI1 (a1.tr a2) (by rw [(ho 203 (by unfold is; omega)).1]; exact f1 1 (by omega)) hl' p2)
      | succ k ih =>
        intro i hi u' ho hl'
        have hnle : ¬ n ≤ i := by omega
        rw [ex_239_24]
        simp (disch := first | exact am_nl_i _ | exact am_nl_r _ | exact am_nl_0 | assumption | omega | (refine vi_nI ?_ ?_ <;> omega) | exact b2i_01 _ | exact Or.inl rfl | exact Or.inr rfl | (unfold vi; decide)) only [ex_239_0, ex_239_1, ex_239_2, ex_239_5, ex_239_6, ex_239_7, ex_239_10, ex_239_13, ex_239_16, ex_239_17, ex_239_18, ex_239_19, ex_239_22, ex_239_23, ex_239_25, ex_239_26, ex_239_29, ex_239_33, ex_239_36, ex_239_39, ex_239_40, ex_239_43, ex_239_45, ex_239_46, if_true, if_false, and_self, Option.toList_some, Option.toList_none, List.singleton_append, List.cons_append, List.nil_append, List.append_nil, nI_1, nt_e, Int32.le_refl, nI_leI, hnle]
        rw [ex_239_30]
        refine night_ok hl' hW (fun u2 o2 l2 => ?_)
        simp (disch := first | exact am_nl_i _ | exact am_nl_r _ | exact am_nl_0 | assumption | omega | (refine vi_nI ?_ ?_ <;> omega) | exact b2i_01 _ | exact Or.inl rfl | exact Or.inr rfl | (unfold vi; decide)) only [ex_239_0, ex_239_1, ex_239_2, ex_239_5, ex_239_6, ex_239_7, ex_239_10, ex_239_13, ex_239_16, ex_239_17, ex_239_18, ex_239_19, ex_239_22, ex_239_23, ex_239_25, ex_239_26, ex_239_29, ex_239_33, ex_239_36, ex_239_39, ex_239_40, ex_239_43, ex_239_45, ex_239_46, if_true, if_false, and_self, Option.toList_some, Option.toList_none, List.singleton_append, List.cons_append, List.nil_append, List.append_nil, nI_1, nt_e, Int32.le_refl]
        refine ih (i + 1) (by omega) u2 (ho.tr o2) ?_
        rw [if_neg (by omega)]
        by_cases e : i = 0
        · rw [if_pos e] at l2
          rw [e]
          exact l2
        · rw [if_neg e, passL_0] at l2
          exact l2
    simp (disch := first | exact am_nl_i _ | exact am_nl_r _ | exact am_nl_0 | assumption | omega | (refine vi_nI ?_ ?_ <;> omega) | exact b2i_01 _ | exact Or.inl rfl | exact Or.inr rfl | (unfold vi; decide)) only [ex_239_0, ex_239_1, ex_239_2, ex_239_5, ex_239_6, ex_239_7, ex_239_10, ex_239_13, ex_239_16, ex_239_17, ex_239_18, ex_239_22, ex_239_23, ex_239_25, ex_239_26, ex_239_29, ex_239_30, ex_239_33, ex_239_36, ex_239_39, ex_239_40, ex_239_43, ex_239_45, ex_239_46, if_true, if_false, and_self, Option.toList_some, Option.toList_none, List.singleton_append, List.cons_append, List.nil_append, List.append_nil, nI_1, nt_e, Int32.le_refl]
    exact loop n 0 (by omega) u1 (Only.rf _ _) l1
end DaysR
