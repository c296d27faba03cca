/-! THE CLASS'S LEAVES: Life, what it does -/
theorem kbam_e {v : LV} {l : LF} {most : Int32} (n : Nat) : orF (n + 1) (fun f => if knowersL v l f ≤ most then bi f else 0) = orF n (fun f => if knowersL v l f ≤ most then bi f else 0) ||| (if knowersL v l n ≤ most then bi n else 0) := rfl
theorem sumF_s (n : Nat) (f : Nat → Int32) : sumF (n + 1) f = sumF n f + f n := rfl
theorem orF_s (n : Nat) (f : Nat → Int32) : orF (n + 1) f = orF n f ||| f n := rfl
theorem b2i_add0 (x : Int32) : x + 0 = x := Int32.add_zero x
def swallowL (v : LV) (l : LF) (p k : Nat) : LF := (upd (eatL l) p (eatL l p ||| bi k), upd (leftL l) p (leftL l p - weighV v k), copL l, aliveL l, dayL l, spentL l)
def eatsB (v : LV) (l : LF) (x y : Int32) : Bool := takesB v l x y && !decide (copL l (ix y) < 1)
def dropL (v : LV) (l : LF) (k : Nat) : LF := if kindV v k = 2 then l else (eatL l, leftL l, upd (copL l) k (copL l k - 1), aliveL l, dayL l, spentL l)
def eatsL (v : LV) (l : LF) (p k : Nat) : LF := dropL v (swallowL v l p k) k
theorem life_places {b : Nat} (h : sh b 4 6) : 65 ≤ b ∧ b ≤ 179 := by
  have h1 : (List.range am_N).all (fun a => !decide (am_shL[a]? = some (4, 6)) || decide (65 ≤ a ∧ a ≤ 179)) = true := by decide +kernel
  have h2 := List.all_eq_true.mp h1 b (List.mem_range.mpr (sh_lt h))
  simp only [Bool.or_eq_true, Bool.not_eq_true', decide_eq_false_iff_not, decide_eq_true_eq] at h2
  rcases h2 with h2 | h2
  · exact absurd h h2
  · exact h2
theorem lib_places {L : Nat} (h : sh L 3 19) : L = 7 ∨ L = 33 := by
  have h1 : (List.range am_N).all (fun a => !decide (am_shL[a]? = some (3, 19)) || decide (a = 7 ∨ a = 33)) = true := by decide +kernel
  have h2 := List.all_eq_true.mp h1 L (List.mem_range.mpr (sh_lt h))
  simp only [Bool.or_eq_true, Bool.not_eq_true', decide_eq_false_iff_not, decide_eq_true_eq] at h2
  rcases h2 with h2 | h2
  · exact absurd h h2
  · exact h2
theorem upd_s {f : Nat → Int32} {k : Nat} {x : Int32} : upd f k x k = x := if_pos rfl
theorem upd_n {f : Nat → Int32} {k j : Nat} {x : Int32} (h : j ≠ k) : upd f k x j = f j := if_neg h
theorem upd_c {f g : Nat → Int32} {k n : Nat} {x y : Int32} (h : ∀ j, j < n → f j = g j) (hx : x = y) : ∀ j, j < n → upd f k x j = upd g k y j := fun j hj => by
  by_cases e : j = k
  · rw [e, upd_s, upd_s, hx]
  · rw [upd_n e, upd_n e, h j hj]
/-- the places of a life -/
def inL (b a : Nat) : Prop := b ≤ a ∧ a ≤ b + 3
theorem lib_keep {u u' : am_U} {b L : Nat} {v : LV} (hb : sh b 4 6) (hL : sh L 3 19) (hC : LibC u L v) (ho : Only (inL b) u u') : LibC u' L v := by
  have h1 := life_places hb
  have h2 := lib_places hL
  exact hC.keep ho (fun k hk q => by unfold inL at q; omega)
section ClassLife2
variable {d L b : Nat} {u : am_U} {v : LV} {l : LF} {post : Option Value → am_M → Prop}
theorem atMost_ok {most : Int32} (hb : sh b 4 6) (hL : sh L 3 19) (hl : LifeC u b l) (hC : LibC u L v) (hW : WF v) : Cl (d + 2) 49 [.ref b, .ref L, .int most] (am_emb u) post ↔ post (some (.int (atMostL v l most))) (am_emb u) := by
  refine Cl_iff ?_ post
  have hn := hC.1.1
  have h12 := hW.1.1
  rw [op_49]
  have inner : ∀ (f : Nat), f < nF v → ∀ (acc : Int32), Ex (d + 2) 49 62 [some (.ref b), some (.ref L), some (.int most), some (.int acc), some (.int (nI f)), some (.int (knowersL v l f)), some (.int (nI 6))] [] (am_emb u) (fun w m => w = some (.int (atMostL v l most)) ∧ m = am_emb u) → ∀ (k j : Nat), j + k = 6 → Ex (d + 2) 49 23 [some (.ref b), some (.ref L), some (.int most), some (.int acc), some (.int (nI f)), some (.int (sumF j (fun p => if livesL l p then b2i (bt (knowsV v (eatL l p)) f) else 0))), some (.int (nI j))] [] (am_emb u) (fun w m => w = some (.int (atMostL v l most)) ∧ m = am_emb u) := by
    intro f hf acc hx k
    induction k with
    | zero =>
      intro j h1
      obtain rfl : j = 6 := by omega
      rw [ex_49_23]
      simp (disch := first | exact am_nl_i _ | exact am_nl_r _ | exact am_nl_0 | assumption | omega | (refine vi_nI ?_ ?_ <;> omega) | exact b2i_01 _ | exact Or.inl rfl | exact Or.inr rfl | (unfold vi; decide)) only [ex_49_0, ex_49_1, ex_49_2, ex_49_3, ex_49_5, ex_49_7, ex_49_8, ex_49_11, ex_49_14, ex_49_17, ex_49_18, ex_49_20, ex_49_21, ex_49_25, ex_49_27, ex_49_30, ex_49_31, ex_49_33, ex_49_36, ex_49_39, ex_49_41, ex_49_42, ex_49_43, ex_49_45, ex_49_48, ex_49_50, ex_49_51, ex_49_52, ex_49_53, ex_49_54, ex_49_56, ex_49_59, ex_49_64, ex_49_65, ex_49_68, ex_49_69, ex_49_70, ex_49_72, ex_49_73, ex_49_74, ex_49_75, ex_49_78, ex_49_81, ex_49_82, if_true, if_false, and_self, Option.toList_some, Option.toList_none, List.singleton_append, List.cons_append, List.nil_append, List.append_nil, nI_1, nt_e, Int32.le_refl, lq6]
      exact hx
    | succ k ih =>
      intro j h1
      have hlt : j < 6 := by omega
      have hnle : ¬ 6 ≤ j := by omega
      have h2 := ih (j + 1) (by omega)
      rw [ex_49_23]
      simp (disch := first | exact am_nl_i _ | exact am_nl_r _ | exact am_nl_0 | assumption | omega | (refine vi_nI ?_ ?_ <;> omega) | exact b2i_01 _ | exact Or.inl rfl | exact Or.inr rfl | (unfold vi; decide)) only [ex_49_0, ex_49_1, ex_49_2, ex_49_3, ex_49_5, ex_49_7, ex_49_8, ex_49_11, ex_49_14, ex_49_17, ex_49_18, ex_49_20, ex_49_21, ex_49_25, ex_49_27, ex_49_30, ex_49_31, ex_49_33, ex_49_36, ex_49_39, ex_49_41, ex_49_42, ex_49_43, ex_49_45, ex_49_48, ex_49_50, ex_49_51, ex_49_52, ex_49_53, ex_49_54, ex_49_56, ex_49_59, ex_49_64, ex_49_65, ex_49_68, ex_49_69, ex_49_70, ex_49_72, ex_49_73, ex_49_74, ex_49_75, ex_49_78, ex_49_81, ex_49_82, if_true, if_false, and_self, Option.toList_some, Option.toList_none, List.singleton_append, List.cons_append, List.nil_append, List.append_nil, nI_1, nt_e, Int32.le_refl, lq6, nI_leI, hlt, hnle, lives_ok hb hl, livesI_nI, known_ok hb hL hl hC hW, bit_e, b2i_0]
      rw [sumF] at h2
      cases ha : livesL l j <;> simpa [ha, Int32.add_zero] using h2
  have outer : ∀ (k f : Nat) (j6 j7 : Option Value), am_nl j6 = true → f + k = nF v → Ex (d + 2) 49 5 [some (.ref b), some (.ref L), some (.int most), some (.int (orF f (fun f => if knowersL v l f ≤ most then bi f else 0))), some (.int (nI f)), j6, j7] [] (am_emb u) (fun w m => w = some (.int (atMostL v l most)) ∧ m = am_emb u) := by
    intro k
    induction k with
    | zero =>
      intro f j6 j7 hj h1
      obtain rfl : f = nF v := by omega
      rw [ex_49_5]
      simp (disch := first | exact am_nl_i _ | exact am_nl_r _ | exact am_nl_0 | assumption | omega | (refine vi_nI ?_ ?_ <;> omega) | exact b2i_01 _ | exact Or.inl rfl | exact Or.inr rfl | (unfold vi; decide)) only [ex_49_0, ex_49_1, ex_49_2, ex_49_3, ex_49_7, ex_49_8, ex_49_11, ex_49_14, ex_49_17, ex_49_18, ex_49_20, ex_49_21, ex_49_25, ex_49_27, ex_49_30, ex_49_31, ex_49_33, ex_49_36, ex_49_39, ex_49_41, ex_49_42, ex_49_43, ex_49_45, ex_49_48, ex_49_50, ex_49_51, ex_49_52, ex_49_53, ex_49_54, ex_49_56, ex_49_59, ex_49_62, ex_49_64, ex_49_65, ex_49_68, ex_49_69, ex_49_70, ex_49_72, ex_49_73, ex_49_74, ex_49_75, ex_49_78, ex_49_81, ex_49_82, if_true, if_false, and_self, Option.toList_some, Option.toList_none, List.singleton_append, List.cons_append, List.nil_append, List.append_nil, nI_1, nt_e, Int32.le_refl, hn]
      exact ⟨rfl, trivial⟩
    | succ k ih =>
      intro f j6 j7 hj h1
      have hlt : f < nF v := by omega
      have hnle : ¬ nF v ≤ f := by omega
      rw [ex_49_5]
      simp (disch := first | exact am_nl_i _ | exact am_nl_r _ | exact am_nl_0 | assumption | omega | (refine vi_nI ?_ ?_ <;> omega) | exact b2i_01 _ | exact Or.inl rfl | exact Or.inr rfl | (unfold vi; decide)) only [ex_49_0, ex_49_1, ex_49_2, ex_49_3, ex_49_7, ex_49_8, ex_49_11, ex_49_14, ex_49_17, ex_49_18, ex_49_20, ex_49_21, ex_49_25, ex_49_27, ex_49_30, ex_49_31, ex_49_33, ex_49_36, ex_49_39, ex_49_41, ex_49_42, ex_49_43, ex_49_45, ex_49_48, ex_49_50, ex_49_51, ex_49_52, ex_49_53, ex_49_54, ex_49_56, ex_49_59, ex_49_62, ex_49_64, ex_49_65, ex_49_68, ex_49_69, ex_49_70, ex_49_72, ex_49_73, ex_49_74, ex_49_75, ex_49_78, ex_49_81, ex_49_82, if_true, if_false, and_self, Option.toList_some, Option.toList_none, List.singleton_append, List.cons_append, List.nil_append, List.append_nil, nI_1, nt_e, Int32.le_refl, hn, nI_leI, hlt, hnle]
      refine inner f hlt _ ?_ 6 0 (by omega)
      simp (disch := first | exact am_nl_i _ | exact am_nl_r _ | exact am_nl_0 | assumption | omega | (refine vi_nI ?_ ?_ <;> omega) | exact b2i_01 _ | exact Or.inl rfl | exact Or.inr rfl | (unfold vi; decide)) only [ex_49_0, ex_49_1, ex_49_2, ex_49_3, ex_49_7, ex_49_8, ex_49_11, ex_49_14, ex_49_17, ex_49_18, ex_49_20, ex_49_21, ex_49_25, ex_49_27, ex_49_30, ex_49_31, ex_49_33, ex_49_36, ex_49_39, ex_49_41, ex_49_42, ex_49_43, ex_49_45, ex_49_48, ex_49_50, ex_49_51, ex_49_52, ex_49_53, ex_49_54, ex_49_56, ex_49_59, ex_49_62, ex_49_64, ex_49_65, ex_49_68, ex_49_69, ex_49_70, ex_49_72, ex_49_73, ex_49_74, ex_49_75, ex_49_78, ex_49_81, ex_49_82, if_true, if_false, and_self, Option.toList_some, Option.toList_none, List.singleton_append, List.cons_append, List.nil_append, List.append_nil, nI_1, nt_e, Int32.le_refl, bi_e]
      have h2 := fun a c e => ih (f + 1) a c e (by omega)
      rw [orF] at h2
      by_cases hq : knowersL v l f ≤ most
      · rw [if_neg (Int32.not_lt.mpr hq)]
        have h3 := h2 (some (.int (knowersL v l f))) (some (.int (nI 6))) rfl
        rw [if_pos hq] at h3
        try simp (disch := first | exact am_nl_i _ | exact am_nl_r _ | exact am_nl_0 | assumption | omega | (refine vi_nI ?_ ?_ <;> omega) | exact b2i_01 _ | exact Or.inl rfl | exact Or.inr rfl | (unfold vi; decide)) only [ex_49_0, ex_49_1, ex_49_2, ex_49_3, ex_49_7, ex_49_8, ex_49_11, ex_49_14, ex_49_17, ex_49_18, ex_49_20, ex_49_21, ex_49_25, ex_49_27, ex_49_30, ex_49_31, ex_49_33, ex_49_36, ex_49_39, ex_49_41, ex_49_42, ex_49_43, ex_49_45, ex_49_48, ex_49_50, ex_49_51, ex_49_52, ex_49_53, ex_49_54, ex_49_56, ex_49_59, ex_49_62, ex_49_64, ex_49_65, ex_49_68, ex_49_69, ex_49_70, ex_49_72, ex_49_73, ex_49_74, ex_49_75, ex_49_78, ex_49_81, ex_49_82, if_true, if_false, and_self, Option.toList_some, Option.toList_none, List.singleton_append, List.cons_append, List.nil_append, List.append_nil, nI_1, nt_e, Int32.le_refl, bi_e]
        exact h3
      · rw [if_pos (Int32.not_le.mp hq)]
        have h3 := h2 (some (.int (knowersL v l f))) (some (.int (nI 6))) rfl
        rw [if_neg hq, or_0] at h3
        try simp (disch := first | exact am_nl_i _ | exact am_nl_r _ | exact am_nl_0 | assumption | omega | (refine vi_nI ?_ ?_ <;> omega) | exact b2i_01 _ | exact Or.inl rfl | exact Or.inr rfl | (unfold vi; decide)) only [ex_49_0, ex_49_1, ex_49_2, ex_49_3, ex_49_7, ex_49_8, ex_49_11, ex_49_14, ex_49_17, ex_49_18, ex_49_20, ex_49_21, ex_49_25, ex_49_27, ex_49_30, ex_49_31, ex_49_33, ex_49_36, ex_49_39, ex_49_41, ex_49_42, ex_49_43, ex_49_45, ex_49_48, ex_49_50, ex_49_51, ex_49_52, ex_49_53, ex_49_54, ex_49_56, ex_49_59, ex_49_62, ex_49_64, ex_49_65, ex_49_68, ex_49_69, ex_49_70, ex_49_72, ex_49_73, ex_49_74, ex_49_75, ex_49_78, ex_49_81, ex_49_82, if_true, if_false, and_self, Option.toList_some, Option.toList_none, List.singleton_append, List.cons_append, List.nil_append, List.append_nil, nI_1, nt_e, Int32.le_refl, bi_e]
        exact h3
  simp (disch := first | exact am_nl_i _ | exact am_nl_r _ | exact am_nl_0 | assumption | omega | (refine vi_nI ?_ ?_ <;> omega) | exact b2i_01 _ | exact Or.inl rfl | exact Or.inr rfl | (unfold vi; decide)) only [ex_49_0, ex_49_1, ex_49_2, ex_49_3, ex_49_7, ex_49_8, ex_49_11, ex_49_14, ex_49_17, ex_49_18, ex_49_20, ex_49_21, ex_49_25, ex_49_27, ex_49_30, ex_49_31, ex_49_33, ex_49_36, ex_49_39, ex_49_41, ex_49_42, ex_49_43, ex_49_45, ex_49_48, ex_49_50, ex_49_51, ex_49_52, ex_49_53, ex_49_54, ex_49_56, ex_49_59, ex_49_62, ex_49_64, ex_49_65, ex_49_68, ex_49_69, ex_49_70, ex_49_72, ex_49_73, ex_49_74, ex_49_75, ex_49_78, ex_49_81, ex_49_82, if_true, if_false, and_self, Option.toList_some, Option.toList_none, List.singleton_append, List.cons_append, List.nil_append, List.append_nil, nI_1, nt_e, Int32.le_refl]
  exact outer (nF v) 0 none none rfl (by omega)
theorem swallow_ok {p k : Nat} (hb : sh b 4 6) (hL : sh L 3 19) (hl : LifeC u b l) (hC : LibC u L v) (hW : WF v) (hp : p < 6) (hk : k < nP v) (h : ∀ u', Only (inL b) u u' → LifeC u' b (swallowL v l p k) → post none (am_emb u')) : Cl d 40 [.ref b, .ref L, .int (nI p), .int (nI k)] (am_emb u) post := by
  have h12 := hW.1.2.1
  have hbp := life_places hb
  have hLp := lib_places hL
  have e1 : ¬ L + 12 = b + 1 := by omega
  have e2 : ¬ b + 2 = b + 1 := by omega
  rw [op_40]
  simp (disch := first | exact am_nl_i _ | exact am_nl_r _ | exact am_nl_0 | assumption | omega | (refine vi_nI ?_ ?_ <;> omega) | exact b2i_01 _ | exact Or.inl rfl | exact Or.inr rfl | (unfold vi; decide)) only [ex_40_0, ex_40_1, ex_40_4, ex_40_5, ex_40_6, ex_40_7, ex_40_8, ex_40_9, ex_40_10, ex_40_11, ex_40_12, ex_40_13, ex_40_16, ex_40_17, ex_40_18, ex_40_19, ex_40_20, ex_40_23, ex_40_24, ex_40_25, ex_40_26, ex_40_27, if_true, if_false, and_self, Option.toList_some, Option.toList_none, List.singleton_append, List.cons_append, List.nil_append, List.append_nil, nI_1, nt_e, Int32.le_refl, nI_clamp, bi_e, AI_sAI, e1, e2, hC.2.2.2.2.2.1]
  refine h _ (Only.tr (Only.sAI (by unfold inL; omega)) (Only.sAI (by unfold inL; omega))) ?_
  refine ⟨?_, ?_, ?_, ?_, ?_, ?_⟩
  · simp only [AI_sAI, show ¬ b + 1 = b + 2 by omega, if_false, if_true]
    exact upd_c hl.1 (by rw [hl.1 p hp])
  · simp only [AI_sAI, show ¬ b + 2 = b + 1 by omega, if_false, if_true]
    exact upd_c hl.2.1 (by rw [hl.2.1 p hp])
  · simp only [AI_sAI, show ¬ b + 3 = b + 1 by omega, show ¬ b + 3 = b + 2 by omega, if_false]
    exact hl.2.2.1
  · exact hl.2.2.2.1
  · exact hl.2.2.2.2.1
  · exact hl.2.2.2.2.2
theorem takesB_ix {x y : Int32} (h : takesB v l x y = true) : ix x < 6 ∧ x = nI (ix x) ∧ ix y < nP v ∧ y = nI (ix y) := by
  unfold takesB livesI at h
  simp only [Bool.and_eq_true] at h
  obtain ⟨h1, h2⟩ := okI_ix h.1.1.1.1
  obtain ⟨h3, h4⟩ := okI_ix h.1.1.2
  exact ⟨h1, h2, h3, h4⟩
theorem eats_ok {x y : Int32} (hb : sh b 4 6) (hL : sh L 3 19) (hl : LifeC u b l) (hC : LibC u L v) (hW : WF v)
    (h0 : eatsB v l x y = false → post (some (.int 0)) (am_emb u)) (h1 : eatsB v l x y = true → ∀ u', Only (inL b) u u' → LifeC u' b (eatsL v l (ix x) (ix y)) → post (some (.int 1)) (am_emb u')) : Cl (d + 2) 41 [.ref b, .ref L, .int x, .int y] (am_emb u) post := by
  have h12 := hW.1.2.1
  have hbp := life_places hb
  have hLp := lib_places hL
  rw [op_41]
  simp (disch := first | exact am_nl_i _ | exact am_nl_r _ | exact am_nl_0 | assumption | omega | (refine vi_nI ?_ ?_ <;> omega) | exact b2i_01 _ | exact Or.inl rfl | exact Or.inr rfl | (unfold vi; decide)) only [ex_41_0, ex_41_1, ex_41_2, ex_41_3, ex_41_4, ex_41_7, ex_41_10, ex_41_11, ex_41_14, ex_41_15, ex_41_16, ex_41_17, ex_41_20, ex_41_21, ex_41_22, ex_41_23, ex_41_24, ex_41_25, ex_41_26, ex_41_29, ex_41_30, ex_41_33, ex_41_34, ex_41_35, ex_41_36, ex_41_39, ex_41_40, ex_41_43, ex_41_44, ex_41_45, ex_41_46, ex_41_47, ex_41_48, ex_41_49, ex_41_50, if_true, if_false, and_self, Option.toList_some, Option.toList_none, List.singleton_append, List.cons_append, List.nil_append, List.append_nil, nI_1, nt_e, Int32.le_refl, takes_ok hb hL hl hC hW, b2i_0]
  unfold eatsB at h0 h1
  cases ht : takesB v l x y
  · simp only [if_true]
    exact h0 (by rw [ht]; rfl)
  · rw [ht] at h0 h1
    obtain ⟨g1, g2, g3, g4⟩ := takesB_ix ht
    rw [if_neg (by simp)]
    generalize ix x = p at *
    generalize ix y = k at *
    subst g2
    subst g4
    simp (disch := first | exact am_nl_i _ | exact am_nl_r _ | exact am_nl_0 | assumption | omega | (refine vi_nI ?_ ?_ <;> omega) | exact b2i_01 _ | exact Or.inl rfl | exact Or.inr rfl | (unfold vi; decide)) only [ex_41_0, ex_41_1, ex_41_2, ex_41_3, ex_41_4, ex_41_7, ex_41_10, ex_41_11, ex_41_14, ex_41_15, ex_41_16, ex_41_17, ex_41_20, ex_41_21, ex_41_22, ex_41_23, ex_41_24, ex_41_25, ex_41_26, ex_41_29, ex_41_30, ex_41_33, ex_41_34, ex_41_35, ex_41_36, ex_41_39, ex_41_40, ex_41_43, ex_41_44, ex_41_45, ex_41_46, ex_41_47, ex_41_48, ex_41_49, ex_41_50, if_true, if_false, and_self, Option.toList_some, Option.toList_none, List.singleton_append, List.cons_append, List.nil_append, List.append_nil, nI_1, nt_e, Int32.le_refl, hl.2.2.1, nI_clamp]
    by_cases hc : 1 ≤ copL l k
    · rw [if_pos hc]
      have hnc : ¬ copL l k < 1 := Int32.not_lt.mpr hc
      try simp (disch := first | exact am_nl_i _ | exact am_nl_r _ | exact am_nl_0 | assumption | omega | (refine vi_nI ?_ ?_ <;> omega) | exact b2i_01 _ | exact Or.inl rfl | exact Or.inr rfl | (unfold vi; decide)) only [ex_41_0, ex_41_1, ex_41_2, ex_41_3, ex_41_4, ex_41_7, ex_41_10, ex_41_11, ex_41_14, ex_41_15, ex_41_16, ex_41_17, ex_41_20, ex_41_21, ex_41_22, ex_41_23, ex_41_24, ex_41_25, ex_41_26, ex_41_30, ex_41_33, ex_41_34, ex_41_35, ex_41_36, ex_41_39, ex_41_40, ex_41_43, ex_41_44, ex_41_45, ex_41_46, ex_41_47, ex_41_48, ex_41_49, ex_41_50, if_true, if_false, and_self, Option.toList_some, Option.toList_none, List.singleton_append, List.cons_append, List.nil_append, List.append_nil, nI_1, nt_e, Int32.le_refl]
      refine swallow_ok hb hL hl hC hW g1 g3 (fun u' ho hl' => ?_)
      have hC' := lib_keep hb hL hC ho
      have h2 := h1 (by rw [decide_eq_false hnc]; rfl)
      simp (disch := first | exact am_nl_i _ | exact am_nl_r _ | exact am_nl_0 | assumption | omega | (refine vi_nI ?_ ?_ <;> omega) | exact b2i_01 _ | exact Or.inl rfl | exact Or.inr rfl | (unfold vi; decide)) only [ex_41_0, ex_41_1, ex_41_2, ex_41_3, ex_41_4, ex_41_7, ex_41_10, ex_41_11, ex_41_14, ex_41_15, ex_41_16, ex_41_17, ex_41_20, ex_41_21, ex_41_22, ex_41_23, ex_41_24, ex_41_25, ex_41_26, ex_41_29, ex_41_30, ex_41_33, ex_41_34, ex_41_35, ex_41_36, ex_41_39, ex_41_40, ex_41_43, ex_41_44, ex_41_45, ex_41_46, ex_41_47, ex_41_48, ex_41_49, ex_41_50, if_true, if_false, and_self, Option.toList_some, Option.toList_none, List.singleton_append, List.cons_append, List.nil_append, List.append_nil, nI_1, nt_e, Int32.le_refl, hC'.2.2.2.2.1, nI_clamp]
      unfold eatsL dropL at h2
      by_cases hk2 : kindV v k = 2
      · rw [if_pos hk2]
        rw [if_pos hk2] at h2
        try simp (disch := first | exact am_nl_i _ | exact am_nl_r _ | exact am_nl_0 | assumption | omega | (refine vi_nI ?_ ?_ <;> omega) | exact b2i_01 _ | exact Or.inl rfl | exact Or.inr rfl | (unfold vi; decide)) only [ex_41_0, ex_41_1, ex_41_2, ex_41_3, ex_41_4, ex_41_7, ex_41_10, ex_41_11, ex_41_14, ex_41_15, ex_41_16, ex_41_17, ex_41_20, ex_41_21, ex_41_22, ex_41_23, ex_41_24, ex_41_25, ex_41_26, ex_41_29, ex_41_30, ex_41_33, ex_41_34, ex_41_35, ex_41_36, ex_41_39, ex_41_40, ex_41_43, ex_41_44, ex_41_45, ex_41_46, ex_41_47, ex_41_48, ex_41_49, ex_41_50, if_true, if_false, and_self, Option.toList_some, Option.toList_none, List.singleton_append, List.cons_append, List.nil_append, List.append_nil, nI_1, nt_e, Int32.le_refl]
        exact h2 u' ho hl'
      · rw [if_neg hk2]
        rw [if_neg hk2] at h2
        try simp (disch := first | exact am_nl_i _ | exact am_nl_r _ | exact am_nl_0 | assumption | omega | (refine vi_nI ?_ ?_ <;> omega) | exact b2i_01 _ | exact Or.inl rfl | exact Or.inr rfl | (unfold vi; decide)) only [ex_41_0, ex_41_1, ex_41_2, ex_41_3, ex_41_4, ex_41_7, ex_41_10, ex_41_11, ex_41_14, ex_41_15, ex_41_16, ex_41_17, ex_41_20, ex_41_21, ex_41_22, ex_41_23, ex_41_24, ex_41_25, ex_41_26, ex_41_29, ex_41_30, ex_41_33, ex_41_34, ex_41_35, ex_41_36, ex_41_39, ex_41_40, ex_41_43, ex_41_44, ex_41_45, ex_41_46, ex_41_47, ex_41_48, ex_41_49, ex_41_50, if_true, if_false, and_self, Option.toList_some, Option.toList_none, List.singleton_append, List.cons_append, List.nil_append, List.append_nil, nI_1, nt_e, Int32.le_refl, nI_clamp]
        refine h2 _ (ho.tr (Only.sAI (by unfold inL; omega))) ?_
        refine ⟨?_, ?_, ?_, hl'.2.2.2.1, hl'.2.2.2.2.1, hl'.2.2.2.2.2⟩
        · simp only [AI_sAI, show ¬ b + 1 = b + 3 by omega, if_false]
          exact hl'.1
        · simp only [AI_sAI, show ¬ b + 2 = b + 3 by omega, if_false]
          exact hl'.2.1
        · simp only [AI_sAI, if_true]
          exact upd_c hl'.2.2.1 (by rw [hl'.2.2.1 k (by omega)])
    · rw [if_neg hc]
      try simp (disch := first | exact am_nl_i _ | exact am_nl_r _ | exact am_nl_0 | assumption | omega | (refine vi_nI ?_ ?_ <;> omega) | exact b2i_01 _ | exact Or.inl rfl | exact Or.inr rfl | (unfold vi; decide)) only [ex_41_0, ex_41_1, ex_41_2, ex_41_3, ex_41_4, ex_41_7, ex_41_10, ex_41_11, ex_41_14, ex_41_15, ex_41_16, ex_41_17, ex_41_20, ex_41_21, ex_41_22, ex_41_23, ex_41_24, ex_41_25, ex_41_26, ex_41_29, ex_41_30, ex_41_33, ex_41_34, ex_41_35, ex_41_36, ex_41_39, ex_41_40, ex_41_43, ex_41_44, ex_41_45, ex_41_46, ex_41_47, ex_41_48, ex_41_49, ex_41_50, if_true, if_false, and_self, Option.toList_some, Option.toList_none, List.singleton_append, List.cons_append, List.nil_append, List.append_nil, nI_1, nt_e, Int32.le_refl]
      exact h0 (by rw [decide_eq_true (Int32.not_le.mp hc)]; rfl)
end ClassLife2
