/-! BITE, COPY, DIES, of the reference -/
section Acts3
variable {d : Nat} {u : am_U} {m : am_M} {S : ST} {post : Option Value → am_M → Prop}
theorem R_bite {x y z : Int32} (hI : InvR u S) (hS : WS S) (h : ∀ u', Only inR u u' → InvR u' (biteS S x y z).1 → post (some (.int (biteS S x y z).2)) (am_emb u')) : Cl (d + 4) 232 [.ref 203, .int x, .int y, .int z] (am_emb u) post := by
  have hI1 : InvR (th u 0) S := th_inv hI
  obtain ⟨hR, hcd, ⟨hl, hl2, hl3⟩, hp, hm, ht⟩ := hI1
  have hI1 : InvR (th u 0) S := th_inv hI
  have hW := hS.1
  have hw := hS.2.1.1
  have o0 : Only actS u (th u 0) := Only.sFI (Or.inl rfl)
  rw [op_232]
  simp (disch := first | exact am_nl_i _ | exact am_nl_r _ | exact am_nl_0 | assumption | omega | (refine vi_nI ?_ ?_ <;> omega) | exact b2i_01 _ | exact Or.inl rfl | exact Or.inr rfl | (unfold vi; decide)) only [ex_232_0, ex_232_1, ex_232_2, ex_232_5, ex_232_6, ex_232_7, ex_232_8, ex_232_9, ex_232_12, ex_232_15, ex_232_16, ex_232_17, ex_232_21, ex_232_22, ex_232_23, ex_232_24, ex_232_28, ex_232_31, if_true, if_false, and_self, Option.toList_some, Option.toList_none, List.singleton_append, List.cons_append, List.nil_append, List.append_nil, nI_1, nt_e, Int32.le_refl, th_e, canBite_ok hR hl hW hw, b2i_0]
  unfold biteS at h
  cases hq : bitesB S.1 S.2.1.1 x y z
  · rw [hq] at h
    simp only [if_true]
    exact h _ (o0.wk (fun _ => actS_R)) hI1
  · rw [hq] at h
    simp only [Bool.true_eq_false, if_false]
    rw [ex_232_18]
    refine keeps_ok hW.1.2.2.1 hS.2.2.1.1 hp hl (fun u1 o1 f1 p1 => ?_)
    have a1 : Only actS (th u 0) u1 := o1.wk (fun a q => by unfold keptP at q; unfold actS; omega)
    have l1 : LifeR u1 S.1 S.2.1.1 := hl.keep o1 (by unfold keptP; omega)
    have R1 : LibR u1 S.1 := hR.keep o1 (fun a h1 h2 q => by unfold keptP at q; omega)
    have C1 : CodeR u1 S.1 := hcd.keep o1 (fun a h1 h2 q => by unfold keptP at q; omega)
    have hb : livesI S.2.1.1 x = true ∧ livesI S.2.1.1 y = true ∧ okI z (nP S.1) = true ∧ ¬ y = x := by
      unfold bitesB takesB at hq
      simp only [Bool.and_eq_true, Bool.not_eq_true', decide_eq_false_iff_not] at hq
      exact ⟨hq.1.1.1.1, hq.2.1, hq.1.1.1.2, hq.2.2.1⟩
    obtain ⟨i1, i2⟩ := alive_ix hw hb.1
    obtain ⟨i3, i4⟩ := alive_ix hw hb.2.1
    obtain ⟨i5, i6⟩ := okI_ix hb.2.2.1
    have hne : ¬ ix y = ix x := fun q => hb.2.2.2 (by rw [i4, i2, q])
    have hk12 := Nat.lt_of_lt_of_le i5 hW.1.2.1
    generalize ix x = px at *
    generalize ix y = py at *
    generalize ix z = kz at *
    subst i2
    subst i4
    subst i6
    simp (disch := first | exact am_nl_i _ | exact am_nl_r _ | exact am_nl_0 | assumption | omega | (refine vi_nI ?_ ?_ <;> omega) | exact b2i_01 _ | exact Or.inl rfl | exact Or.inr rfl | (unfold vi; decide)) only [ex_232_0, ex_232_1, ex_232_2, ex_232_5, ex_232_6, ex_232_7, ex_232_8, ex_232_9, ex_232_12, ex_232_15, ex_232_16, ex_232_17, ex_232_21, ex_232_22, ex_232_23, ex_232_24, ex_232_28, ex_232_31, if_true, if_false, and_self, Option.toList_some, Option.toList_none, List.singleton_append, List.cons_append, List.nil_append, List.append_nil, nI_1, nt_e, Int32.le_refl]
    rw [ex_232_25]
    refine bitesR_ok R1 C1 l1 hW hw i1 i3 i5 hne (fun u2 o2 l2 => ?_)
    simp (disch := first | exact am_nl_i _ | exact am_nl_r _ | exact am_nl_0 | assumption | omega | (refine vi_nI ?_ ?_ <;> omega) | exact b2i_01 _ | exact Or.inl rfl | exact Or.inr rfl | (unfold vi; decide)) only [ex_232_0, ex_232_1, ex_232_2, ex_232_5, ex_232_6, ex_232_7, ex_232_8, ex_232_9, ex_232_12, ex_232_15, ex_232_16, ex_232_17, ex_232_21, ex_232_22, ex_232_23, ex_232_24, ex_232_28, ex_232_31, if_true, if_false, and_self, Option.toList_some, Option.toList_none, List.singleton_append, List.cons_append, List.nil_append, List.append_nil, nI_1, nt_e, Int32.le_refl, bits_ok, bitesN_e hk12]
    have a2 : Only actS u1 u2 := o2.wk (fun a q => by unfold bR wkQ at q; unfold actS; omega)
    have p2 : PastR u2 S.1 (pushV S.2.2.1 S.2.1.1) := by
      unfold PastR
      rw [(o2 203 (by unfold bR wkQ; omega)).1, (o2 244 (by unfold bR wkQ; omega)).2.2.2.1]
      exact p1
    exact h u2 (((o0.tr a1).tr a2).wk (fun _ => actS_R)) (actS_inv (l := bitesL S.1 S.2.1.1 px py kz) hI1 (a1.tr a2) (by rw [(o2 203 (by unfold bR wkQ; omega)).1]; exact f1 1 (by omega)) l2 p2)
theorem R_copy {x : Int32} (hI : InvR u S) (hS : WS S) (h : ∀ u', Only inR u u' → InvR u' (copyS S x).1 → post (some (.int (copyS S x).2)) (am_emb u')) : Cl (d + 4) 235 [.ref 203, .int x] (am_emb u) post := by
  have hI1 : InvR (th u 0) S := th_inv hI
  obtain ⟨hR, hcd, ⟨hl, hl2, hl3⟩, hp, hm, ht⟩ := hI1
  have hI1 : InvR (th u 0) S := th_inv hI
  have hW := hS.1
  have hw := hS.2.1.1
  have o0 : Only actS u (th u 0) := Only.sFI (Or.inl rfl)
  rw [op_235]
  simp (disch := first | exact am_nl_i _ | exact am_nl_r _ | exact am_nl_0 | assumption | omega | (refine vi_nI ?_ ?_ <;> omega) | exact b2i_01 _ | exact Or.inl rfl | exact Or.inr rfl | (unfold vi; decide)) only [ex_235_0, ex_235_1, ex_235_2, ex_235_5, ex_235_6, ex_235_7, ex_235_10, ex_235_13, ex_235_14, ex_235_15, ex_235_19, ex_235_20, ex_235_24, if_true, if_false, and_self, Option.toList_some, Option.toList_none, List.singleton_append, List.cons_append, List.nil_append, List.append_nil, nI_1, nt_e, Int32.le_refl, th_e, canCopy_ok hR hl hW, b2i_0]
  unfold copyS at h
  cases hq : copiedB S.1 S.2.1.1 x
  · rw [hq] at h
    simp only [if_true]
    exact h _ (o0.wk (fun _ => actS_R)) hI1
  · rw [hq] at h
    simp only [Bool.true_eq_false, if_false]
    rw [ex_235_16]
    refine keeps_ok hW.1.2.2.1 hS.2.2.1.1 hp hl (fun u1 o1 f1 p1 => ?_)
    have a1 : Only actS (th u 0) u1 := o1.wk (fun a q => by unfold keptP at q; unfold actS; omega)
    have l1 : LifeR u1 S.1 S.2.1.1 := hl.keep o1 (by unfold keptP; omega)
    have R1 : LibR u1 S.1 := hR.keep o1 (fun a h1 h2 q => by unfold keptP at q; omega)
    have C1 : CodeR u1 S.1 := hcd.keep o1 (fun a h1 h2 q => by unfold keptP at q; omega)
    have hb : okI x (nP S.1) = true := by
      unfold copiedB at hq
      simp only [Bool.and_eq_true] at hq
      exact hq.1
    obtain ⟨i5, i6⟩ := okI_ix hb
    generalize ix x = kz at *
    subst i6
    simp (disch := first | exact am_nl_i _ | exact am_nl_r _ | exact am_nl_0 | assumption | omega | (refine vi_nI ?_ ?_ <;> omega) | exact b2i_01 _ | exact Or.inl rfl | exact Or.inr rfl | (unfold vi; decide)) only [ex_235_0, ex_235_1, ex_235_2, ex_235_5, ex_235_6, ex_235_7, ex_235_10, ex_235_13, ex_235_14, ex_235_15, ex_235_19, ex_235_20, ex_235_24, if_true, if_false, and_self, Option.toList_some, Option.toList_none, List.singleton_append, List.cons_append, List.nil_append, List.append_nil, nI_1, nt_e, Int32.le_refl]
    rw [ex_235_21]
    refine makes_ok R1 C1 l1 hW i5 (fun u2 o2 l2 => ?_)
    simp (disch := first | exact am_nl_i _ | exact am_nl_r _ | exact am_nl_0 | assumption | omega | (refine vi_nI ?_ ?_ <;> omega) | exact b2i_01 _ | exact Or.inl rfl | exact Or.inr rfl | (unfold vi; decide)) only [ex_235_0, ex_235_1, ex_235_2, ex_235_5, ex_235_6, ex_235_7, ex_235_10, ex_235_13, ex_235_14, ex_235_15, ex_235_19, ex_235_20, ex_235_24, if_true, if_false, and_self, Option.toList_some, Option.toList_none, List.singleton_append, List.cons_append, List.nil_append, List.append_nil, nI_1, nt_e, Int32.le_refl]
    have a2 : Only actS u1 u2 := o2.wk (fun a q => by unfold bR wkQ at q; unfold actS; omega)
    have p2 : PastR u2 S.1 (pushV S.2.2.1 S.2.1.1) := by
      unfold PastR
      rw [(o2 203 (by unfold bR wkQ; omega)).1, (o2 244 (by unfold bR wkQ; omega)).2.2.2.1]
      exact p1
    exact h u2 (((o0.tr a1).tr a2).wk (fun _ => actS_R)) (actS_inv (l := copiedL S.1 S.2.1.1 kz) hI1 (a1.tr a2) (by rw [(o2 203 (by unfold bR wkQ; omega)).1]; exact f1 1 (by omega)) l2 p2)
theorem R_dies {x : Int32} (hI : InvR u S) (hS : WS S) (h : ∀ u', Only inR u u' → InvR u' (diesS S x).1 → post (some (.int (diesS S x).2)) (am_emb u')) : Cl (d + 4) 237 [.ref 203, .int x] (am_emb u) post := by
  have hI1 : InvR (th u 0) S := th_inv hI
  obtain ⟨hR, hcd, ⟨hl, hl2, hl3⟩, hp, hm, ht⟩ := hI1
  have hI1 : InvR (th u 0) S := th_inv hI
  have hW := hS.1
  have hw := hS.2.1.1
  have o0 : Only actS u (th u 0) := Only.sFI (Or.inl rfl)
  rw [op_237]
  simp (disch := first | exact am_nl_i _ | exact am_nl_r _ | exact am_nl_0 | assumption | omega | (refine vi_nI ?_ ?_ <;> omega) | exact b2i_01 _ | exact Or.inl rfl | exact Or.inr rfl | (unfold vi; decide)) only [ex_237_0, ex_237_1, ex_237_2, ex_237_5, ex_237_6, ex_237_7, ex_237_10, ex_237_13, ex_237_14, ex_237_15, ex_237_19, ex_237_20, ex_237_24, if_true, if_false, and_self, Option.toList_some, Option.toList_none, List.singleton_append, List.cons_append, List.nil_append, List.append_nil, nI_1, nt_e, Int32.le_refl, th_e, isAlive_ok hR hl hW hw, b2i_0]
  unfold diesS at h
  cases hq : livesI S.2.1.1 x
  · rw [hq] at h
    simp only [if_true]
    exact h _ (o0.wk (fun _ => actS_R)) hI1
  · rw [hq] at h
    simp only [Bool.true_eq_false, if_false]
    rw [ex_237_16]
    refine keeps_ok hW.1.2.2.1 hS.2.2.1.1 hp hl (fun u1 o1 f1 p1 => ?_)
    have a1 : Only actS (th u 0) u1 := o1.wk (fun a q => by unfold keptP at q; unfold actS; omega)
    have l1 : LifeR u1 S.1 S.2.1.1 := hl.keep o1 (by unfold keptP; omega)
    have R1 : LibR u1 S.1 := hR.keep o1 (fun a h1 h2 q => by unfold keptP at q; omega)
    have C1 : CodeR u1 S.1 := hcd.keep o1 (fun a h1 h2 q => by unfold keptP at q; omega)
    obtain ⟨i5, i6⟩ := alive_ix hw hq
    clear hq
    generalize ix x = kz at *
    subst i6
    simp (disch := first | exact am_nl_i _ | exact am_nl_r _ | exact am_nl_0 | assumption | omega | (refine vi_nI ?_ ?_ <;> omega) | exact b2i_01 _ | exact Or.inl rfl | exact Or.inr rfl | (unfold vi; decide)) only [ex_237_0, ex_237_1, ex_237_2, ex_237_5, ex_237_6, ex_237_7, ex_237_10, ex_237_13, ex_237_14, ex_237_15, ex_237_19, ex_237_20, ex_237_24, if_true, if_false, and_self, Option.toList_some, Option.toList_none, List.singleton_append, List.cons_append, List.nil_append, List.append_nil, nI_1, nt_e, Int32.le_refl]
    rw [ex_237_21]
    refine passes_ok R1 l1 hW hw i5 (fun u2 o2 l2 => ?_)
    simp (disch := first | exact am_nl_i _ | exact am_nl_r _ | exact am_nl_0 | assumption | omega | (refine vi_nI ?_ ?_ <;> omega) | exact b2i_01 _ | exact Or.inl rfl | exact Or.inr rfl | (unfold vi; decide)) only [ex_237_0, ex_237_1, ex_237_2, ex_237_5, ex_237_6, ex_237_7, ex_237_10, ex_237_13, ex_237_14, ex_237_15, ex_237_19, ex_237_20, ex_237_24, if_true, if_false, and_self, Option.toList_some, Option.toList_none, List.singleton_append, List.cons_append, List.nil_append, List.append_nil, nI_1, nt_e, Int32.le_refl]
    have a2 : Only actS u1 u2 := o2.wk (fun a q => by unfold is at q; unfold actS; omega)
    have p2 : PastR u2 S.1 (pushV S.2.2.1 S.2.1.1) := by
      unfold PastR
      rw [(o2 203 (by unfold is; omega)).1, (o2 244 (by unfold is; omega)).2.2.2.1]
      exact p1
    exact h u2 (((o0.tr a1).tr a2).wk (fun _ => actS_R)) (actS_inv (l := (endsV S.1 S.2.1.1 kz).1) hI1 (a1.tr a2) (by rw [(o2 203 (by unfold is; omega)).1]; exact f1 1 (by omega)) l2 p2)
end Acts3
