/-! HANDS, of the class -/
theorem ix_cop {v : LV} {l : LF} (hw : WL v l) (k : Nat) : copL l k = nI (ix (copL l k)) ∧ ix (copL l k) ≤ 9 := by
  obtain ⟨n, hn, hq⟩ := hw.2.2.2.1 k
  rw [hq, ix_nI (by omega)]
  exact ⟨rfl, hn⟩
def handsH (v : LV) (l : LF) (m : Nat) : HS := tryN v l (ix (burnV v)) m 0 0 (fun k => ix (copL l k)) (fun _ => 0) (none, fun _ => 0)
def handsA (st : HS) (y : Nat) : Int32 := match st.1 with
  | none => -1
  | some z => if y = 0 then nI z else nI (st.2 (y - 1))
def handsS (S : ST) (x y : Int32) : Int32 := if okI x 5 && okI y (ix x + 1) then handsA (handsH S.1 S.2.1.1 (ix x)) (ix y) else -1
section HandsC
variable {d L L' m : Nat} {u : am_U} {S : ST} {v : LV} {l : LF} {post : Option Value → am_M → Prop}
theorem hlook_ok (hm4 : m ≤ 4) (hL : sh L 3 19) (hl : LifeC u 65 l) (hC : LibC u L v) (hW : WF v) (hw : WL v l) (h : ∀ u', Only hdP u u' → HbC u' m (handsH v l m) → HB m (handsH v l m) → post none (am_emb u')) : Cl (d + 4 + m) 11 [.ref 198, .ref L, .ref 65, .int (nI m)] (am_emb u) post := by
  have h65 := shl_65
  have hLp := lib_places hL
  have hbu : ∃ b : Nat, b ≤ 10 ∧ burnV v = nI b := hW.2.2.2.2.2.2.2
  obtain ⟨b, hb, hbv⟩ := hbu
  have hib : ix (burnV v) = b := by rw [hbv, ix_nI (by omega)]
  unfold handsH at h
  rw [hib] at h
  have keep : ∀ u1, Only hdP u u1 → LifeC u1 65 l ∧ LibC u1 L v := fun u1 o1 => ⟨hl.keep o1 (fun k hk q => by unfold hdP at q; omega), hC.keep2 o1 (fun k hk q => by unfold hdP at q; omega)⟩
  have w8 : hdP 198 := by unfold hdP; omega
  have hlA : LifeC (sFI (sFR u 198 3 (some L)) 198 4 (nI m)) 65 l := (keep _ (of_fi (of_fr (Only.rf _ _) w8) w8)).1
  have hcA : LibC (sFI (sFR u 198 3 (some L)) 198 4 (nI m)) L v := (keep _ (of_fi (of_fr (Only.rf _ _) w8) w8)).2
  have hlB : LifeC (sFI (sFI (sFR u 198 3 (some L)) 198 4 (nI m)) 198 6 (knownToSomeV v l)) 65 l := (keep _ (of_fi (of_fi (of_fr (Only.rf _ _) w8) w8) w8)).1
  have hcB : LibC (sFI (sFI (sFR u 198 3 (some L)) 198 4 (nI m)) 198 6 (knownToSomeV v l)) L v := (keep _ (of_fi (of_fi (of_fr (Only.rf _ _) w8) w8) w8)).2
  rw [show d + 4 + m = d + 3 + m + 1 by omega, op_11]
  rw [show d + 3 + m + 1 = (d + m + 1) + 2 + 1 by omega]
  simp (disch := first | exact am_nl_i _ | exact am_nl_r _ | exact am_nl_0 | assumption | omega | (refine vi_nI ?_ ?_ <;> omega) | exact b2i_01 _ | exact Or.inl rfl | exact Or.inr rfl | (unfold vi; decide)) only [ex_11_0, ex_11_1, ex_11_2, ex_11_5, ex_11_6, ex_11_7, ex_11_10, ex_11_11, ex_11_12, ex_11_13, ex_11_16, ex_11_19, ex_11_20, ex_11_21, ex_11_24, ex_11_25, ex_11_26, ex_11_29, ex_11_30, ex_11_31, ex_11_32, ex_11_35, ex_11_36, ex_11_40, ex_11_42, ex_11_45, ex_11_46, ex_11_49, ex_11_51, ex_11_52, ex_11_55, ex_11_57, ex_11_58, ex_11_59, ex_11_60, ex_11_62, ex_11_65, ex_11_68, ex_11_71, ex_11_72, ex_11_73, ex_11_76, ex_11_77, ex_11_78, ex_11_79, ex_11_82, if_true, if_false, and_self, Option.toList_some, Option.toList_none, List.singleton_append, List.cons_append, List.nil_append, List.append_nil, nI_1, nt_e, Int32.le_refl, knownToSome_ok h65 hL hlA hcA hW]
  rw [show (d + m + 1) + 2 + 1 = (d + m) + 3 + 1 by omega]
  simp (disch := first | exact am_nl_i _ | exact am_nl_r _ | exact am_nl_0 | assumption | omega | (refine vi_nI ?_ ?_ <;> omega) | exact b2i_01 _ | exact Or.inl rfl | exact Or.inr rfl | (unfold vi; decide)) only [ex_11_0, ex_11_1, ex_11_2, ex_11_5, ex_11_6, ex_11_7, ex_11_10, ex_11_11, ex_11_12, ex_11_13, ex_11_16, ex_11_19, ex_11_20, ex_11_21, ex_11_24, ex_11_25, ex_11_26, ex_11_29, ex_11_30, ex_11_31, ex_11_32, ex_11_35, ex_11_36, ex_11_40, ex_11_42, ex_11_45, ex_11_46, ex_11_49, ex_11_51, ex_11_52, ex_11_55, ex_11_57, ex_11_58, ex_11_59, ex_11_60, ex_11_62, ex_11_65, ex_11_68, ex_11_71, ex_11_72, ex_11_73, ex_11_76, ex_11_77, ex_11_78, ex_11_79, ex_11_82, if_true, if_false, and_self, Option.toList_some, Option.toList_none, List.singleton_append, List.cons_append, List.nil_append, List.append_nil, nI_1, nt_e, Int32.le_refl, allFacts_ok hL hcB, gone_ok h65 hL hlB hcB hW]
  have loop : ∀ (kz k : Nat), k + kz = 12 → ∀ u2, Only hdP u u2 → FR u2 198 3 = some L → FI u2 198 4 = nI m → FI u2 198 5 = (allFV v &&& nt (goneV v l)) → FI u2 198 6 = knownToSomeV v l → (∀ j, j < k → AI u2 199 j = copL l j) → (∀ j, j < k → AJ u2 200 j = lN (burnN b (ix (copL l j)))) → Ex (d + m + 3 + 1) 11 38 [some (.ref 198), some (.ref L), some (.ref 65), some (.int (nI m)), some (.int (nI k))] [] (am_emb u2) post := by
    intro kz
    induction kz with
    | zero =>
      intro k hk u2 o2 h1 h2 h3 h4 h5 h6
      obtain rfl : k = 12 := by omega
      obtain ⟨l2, c2⟩ := keep u2 o2
      rw [ex_11_38]
      simp (disch := first | exact am_nl_i _ | exact am_nl_r _ | exact am_nl_0 | (refine vi_nI ?_ ?_ <;> omega) | assumption | omega | exact b2i_01 _ | exact Or.inl rfl | exact Or.inr rfl | (unfold vi; decide)) only [ex_11_0, ex_11_1, ex_11_2, ex_11_5, ex_11_6, ex_11_7, ex_11_10, ex_11_11, ex_11_12, ex_11_13, ex_11_16, ex_11_19, ex_11_20, ex_11_21, ex_11_24, ex_11_25, ex_11_26, ex_11_29, ex_11_30, ex_11_31, ex_11_32, ex_11_35, ex_11_36, ex_11_40, ex_11_42, ex_11_46, ex_11_49, ex_11_51, ex_11_52, ex_11_55, ex_11_57, ex_11_58, ex_11_59, ex_11_60, ex_11_62, ex_11_65, ex_11_68, ex_11_71, ex_11_72, ex_11_73, ex_11_76, ex_11_77, ex_11_78, ex_11_82, if_true, if_false, and_self, Option.toList_some, Option.toList_none, List.singleton_append, List.cons_append, List.nil_append, List.append_nil, nI_1, nt_e, Int32.le_refl, lq12, nI_leI, Nat.le_refl, Bool.true_eq_false, Bool.false_eq_true, ↓reduceIte]
      rw [show d + m + 3 + 1 = (d + 1 + 2 + m) + 1 by omega, ex_11_79]
      have o3 : Only hdP u2 (sFI u2 198 8 (-1)) := Only.sFI w8
      refine choose_ok (l := l) hb hL hLp hm4 hW hbv m 0 0 (fun k => ix (copL l k)) (fun _ => 0) (none, fun _ => 0) _ _ (by omega) (by omega) (fun k => (ix_cop hw k).2) (c2.keep2 o3 (fun k hk q => by unfold hdP at q; omega)) ⟨h1, ?_, ?_, ?_, fun k hk => ?_, h6⟩ ⟨?_, fun q => absurd q (by simp)⟩ ⟨fun z hz => absurd hz (by simp), fun i hi q => absurd q (by simp)⟩ (fun i hi => absurd hi (Nat.not_lt_zero i)) (fun u4 o4 C4 H4 B4 HB4 r4 => ?_)
      · rw [FI_sFI, if_neg (by omega)]; exact h2
      · rw [FI_sFI, if_neg (by omega)]; exact h3
      · rw [FI_sFI, if_neg (by omega)]; exact h4
      · rw [AI_sFI, h5 k hk]; exact (ix_cop hw k).1
      · rw [FI_sFI, if_pos ⟨rfl, rfl⟩]; rfl
      · simp (disch := first | exact am_nl_i _ | exact am_nl_r _ | exact am_nl_0 | assumption | omega | (refine vi_nI ?_ ?_ <;> omega) | exact b2i_01 _ | exact Or.inl rfl | exact Or.inr rfl | (unfold vi; decide)) only [ex_11_0, ex_11_1, ex_11_2, ex_11_5, ex_11_6, ex_11_7, ex_11_10, ex_11_11, ex_11_12, ex_11_13, ex_11_16, ex_11_19, ex_11_20, ex_11_21, ex_11_24, ex_11_25, ex_11_26, ex_11_29, ex_11_30, ex_11_31, ex_11_32, ex_11_35, ex_11_36, ex_11_38, ex_11_40, ex_11_42, ex_11_45, ex_11_46, ex_11_49, ex_11_51, ex_11_52, ex_11_55, ex_11_57, ex_11_58, ex_11_59, ex_11_60, ex_11_62, ex_11_65, ex_11_68, ex_11_71, ex_11_72, ex_11_73, ex_11_76, ex_11_77, ex_11_78, ex_11_79, ex_11_82, if_true, if_false, and_self, Option.toList_some, Option.toList_none, List.singleton_append, List.cons_append, List.nil_append, List.append_nil, nI_1, nt_e, Int32.le_refl]
        exact h u4 (o2.tr (o3.tr o4)) B4 HB4
    | succ kz ih =>
      intro k hk u2 o2 h1 h2 h3 h4 h5 h6
      have hnle : ¬ 12 ≤ k := by omega
      obtain ⟨l2, c2⟩ := keep u2 o2
      have hcop := l2.2.2.1
      obtain ⟨e1, e2⟩ := ix_cop hw k
      rw [ex_11_38]
      simp (disch := first | exact am_nl_i _ | exact am_nl_r _ | exact am_nl_0 | (refine vi_nI ?_ ?_ <;> omega) | assumption | omega | exact b2i_01 _ | exact Or.inl rfl | exact Or.inr rfl | (unfold vi; decide)) only [ex_11_0, ex_11_1, ex_11_2, ex_11_5, ex_11_6, ex_11_7, ex_11_10, ex_11_11, ex_11_12, ex_11_13, ex_11_16, ex_11_19, ex_11_20, ex_11_21, ex_11_24, ex_11_25, ex_11_26, ex_11_29, ex_11_30, ex_11_31, ex_11_32, ex_11_35, ex_11_36, ex_11_40, ex_11_42, ex_11_45, ex_11_46, ex_11_49, ex_11_51, ex_11_52, ex_11_55, ex_11_57, ex_11_58, ex_11_59, ex_11_60, ex_11_65, ex_11_68, ex_11_72, ex_11_73, ex_11_76, ex_11_77, ex_11_78, ex_11_79, ex_11_82, if_true, if_false, and_self, Option.toList_some, Option.toList_none, List.singleton_append, List.cons_append, List.nil_append, List.append_nil, nI_1, nt_e, Int32.le_refl, lq12, nI_leI, hnle, nI_clamp, hcop, Bool.true_eq_false, Bool.false_eq_true, ↓reduceIte]
      rw [ex_11_62]
      have hbur : FI u2 L 18 = nI b := by rw [c2.2.2.2.2.2.2.2.2.2.2.2.2.2.2]; exact hbv
      refine burn_ok (x := ix (copL l k)) (b := b) (show k < 12 by omega) e2 hb hL h1 hbur (by omega) ?_ (fun u3 o3 g3 => ?_)
      · rw [AI_sAI, if_pos rfl, upd_s]; exact e1
      simp (disch := first | exact am_nl_i _ | exact am_nl_r _ | exact am_nl_0 | assumption | omega | (refine vi_nI ?_ ?_ <;> omega) | exact b2i_01 _ | exact Or.inl rfl | exact Or.inr rfl | (unfold vi; decide)) only [ex_11_0, ex_11_1, ex_11_2, ex_11_5, ex_11_6, ex_11_7, ex_11_10, ex_11_11, ex_11_12, ex_11_13, ex_11_16, ex_11_19, ex_11_20, ex_11_21, ex_11_24, ex_11_25, ex_11_26, ex_11_29, ex_11_30, ex_11_31, ex_11_32, ex_11_35, ex_11_36, ex_11_40, ex_11_42, ex_11_45, ex_11_46, ex_11_49, ex_11_51, ex_11_52, ex_11_55, ex_11_57, ex_11_58, ex_11_59, ex_11_60, ex_11_62, ex_11_65, ex_11_68, ex_11_71, ex_11_72, ex_11_73, ex_11_76, ex_11_77, ex_11_78, ex_11_79, ex_11_82, if_true, if_false, and_self, Option.toList_some, Option.toList_none, List.singleton_append, List.cons_append, List.nil_append, List.append_nil, nI_1, nt_e, Int32.le_refl]
      have o3' : Only hdP u2 u3 := Only.tr (Only.sAI (by unfold hdP; omega)) (o3.wk (fun a q => by unfold is at q; unfold hdP; omega))
      have a3 := o3 198 (by unfold is; omega)
      refine ih (k + 1) (by omega) u3 (o2.tr o3') (by rw [a3.2.2.1]; exact h1) (by rw [a3.1]; exact h2) (by rw [a3.1]; exact h3) (by rw [a3.1]; exact h4) (fun j hj => ?_) (fun j hj => ?_)
      · rw [(o3 199 (by unfold is; omega)).2.2.2.1, AI_sAI, if_pos rfl]
        by_cases e : j = k
        · rw [e, upd_s]
        · rw [upd_n e]; exact h5 j (by omega)
      · rw [g3 j]
        by_cases e : j = k
        · rw [if_pos e, e]
        · rw [if_neg e]; exact h6 j (by omega)
  refine loop 12 0 (by omega) _ (of_fi (of_fi (of_fi (of_fr (Only.rf _ _) w8) w8) w8) w8) rfl ?_ ?_ ?_ (fun j hj => absurd hj (Nat.not_lt_zero j)) (fun j hj => absurd hj (Nat.not_lt_zero j))
  · rw [FI_sFI, if_neg (by omega), FI_sFI, if_neg (by omega), FI_sFI, if_pos ⟨rfl, rfl⟩]
  · rw [FI_sFI, if_pos ⟨rfl, rfl⟩]
  · rw [FI_sFI, if_neg (by omega), FI_sFI, if_pos ⟨rfl, rfl⟩]
theorem C_hands {x y : Int32} (hI : InvC u S L L') (hS : WS S) (h : ∀ u', Only inC u u' → InvC u' S L L' → post (some (.int (handsS S x y))) (am_emb u')) : Cl (d + 9) 140 [.ref 0, .int x, .int y] (am_emb u) post := by
  have hIc := hI
  have hL := lib_sh hI.1.2.2.1
  have hW := hS.1
  have hw := hS.2.1.1
  obtain ⟨⟨r1, r2, r3, r4, r5, r6⟩, ⟨l1, l2, l3⟩, ⟨st1, st2, st3⟩, pst, mk, tp⟩ := hI
  rw [op_140]
  simp (disch := first | exact am_nl_i _ | exact am_nl_r _ | exact am_nl_0 | assumption | omega | (refine vi_nI ?_ ?_ <;> omega) | exact b2i_01 _ | exact Or.inl rfl | exact Or.inr rfl | (unfold vi; decide)) only [ex_140_0, ex_140_1, ex_140_4, ex_140_5, ex_140_6, ex_140_9, ex_140_10, ex_140_13, ex_140_14, ex_140_15, ex_140_18, ex_140_19, ex_140_21, ex_140_24, ex_140_25, ex_140_28, ex_140_29, ex_140_32, ex_140_35, ex_140_36, ex_140_39, ex_140_40, ex_140_43, ex_140_46, ex_140_47, ex_140_50, ex_140_51, ex_140_54, ex_140_55, ex_140_58, ex_140_61, ex_140_62, ex_140_63, ex_140_66, ex_140_69, ex_140_70, ex_140_71, ex_140_72, ex_140_73, if_true, if_false, and_self, Option.toList_some, Option.toList_none, List.singleton_append, List.cons_append, List.nil_append, List.append_nil, nI_1, nt_e, Int32.le_refl]
  unfold handsS at h
  refine okI_g4 (n := 4) (by decide) (fun q => ?_) (fun q1 => ?_)
  · rw [show okI x 5 = false from q] at h
    exact h u (Only.rf _ _) hIc
  rw [show okI x 5 = true from q1] at h
  obtain ⟨i1, i2⟩ := okI_ix q1
  generalize ix x = m at *
  subst i2
  refine okI_g2 (n := m) (by omega) (fun q => ?_) (fun q2 => ?_)
  · rw [q] at h
    exact h u (Only.rf _ _) hIc
  rw [q2] at h
  obtain ⟨i3, i4⟩ := okI_ix q2
  generalize ix y = k at *
  subst i4
  simp only [Bool.and_self, if_true] at h
  simp (disch := first | exact am_nl_i _ | exact am_nl_r _ | exact am_nl_0 | assumption | omega | (refine vi_nI ?_ ?_ <;> omega) | exact b2i_01 _ | exact Or.inl rfl | exact Or.inr rfl | (unfold vi; decide)) only [ex_140_0, ex_140_1, ex_140_4, ex_140_5, ex_140_6, ex_140_9, ex_140_10, ex_140_13, ex_140_14, ex_140_15, ex_140_18, ex_140_19, ex_140_20, ex_140_21, ex_140_24, ex_140_25, ex_140_28, ex_140_29, ex_140_32, ex_140_35, ex_140_39, ex_140_40, ex_140_43, ex_140_46, ex_140_47, ex_140_50, ex_140_51, ex_140_54, ex_140_55, ex_140_58, ex_140_61, ex_140_62, ex_140_63, ex_140_66, ex_140_69, ex_140_70, ex_140_71, ex_140_72, ex_140_73, if_true, if_false, and_self, Option.toList_some, Option.toList_none, List.singleton_append, List.cons_append, List.nil_append, List.append_nil, nI_1, nt_e, Int32.le_refl, r1, va_rfs]
  rw [ex_140_36, show d + 8 = (d + 4 - m) + 4 + m by omega]
  refine hlook_ok (by omega) hL st1 l1 hW hw (fun u1 o1 B1 HB1 => ?_)
  have hfin := h u1 (o1.wk (fun a q => by unfold hdP at q; unfold inC; omega)) (hIc.keepS o1 (fun a ha q => by unfold hdP at q; omega))
  generalize handsH S.1 S.2.1.1 m = st at *
  obtain ⟨o, row⟩ := st
  obtain ⟨b1, b2⟩ := B1
  unfold handsA at hfin
  cases o with
  | none =>
    simp (disch := first | exact am_nl_i _ | exact am_nl_r _ | exact am_nl_0 | assumption | omega | (refine vi_nI ?_ ?_ <;> omega) | exact b2i_01 _ | exact Or.inl rfl | exact Or.inr rfl | (unfold vi; decide)) only [ex_140_0, ex_140_1, ex_140_4, ex_140_5, ex_140_6, ex_140_9, ex_140_10, ex_140_13, ex_140_14, ex_140_15, ex_140_18, ex_140_19, ex_140_20, ex_140_21, ex_140_24, ex_140_25, ex_140_28, ex_140_29, ex_140_32, ex_140_35, ex_140_36, ex_140_39, ex_140_40, ex_140_43, ex_140_46, ex_140_47, ex_140_50, ex_140_51, ex_140_54, ex_140_55, ex_140_58, ex_140_61, ex_140_62, ex_140_63, ex_140_66, ex_140_69, ex_140_70, ex_140_71, ex_140_72, ex_140_73, if_true, if_false, and_self, Option.toList_some, Option.toList_none, List.singleton_append, List.cons_append, List.nil_append, List.append_nil, nI_1, nt_e, Int32.le_refl, b1, show ob none = -1 from rfl]
    exact hfin
  | some z =>
    have hz := HB1.1 z rfl
    simp only at hfin
    by_cases k0 : k = 0
    · rw [if_pos k0] at hfin
      simp (disch := first | exact am_nl_i _ | exact am_nl_r _ | exact am_nl_0 | (refine vi_nI ?_ ?_ <;> omega) | assumption | omega | exact b2i_01 _ | exact Or.inl rfl | exact Or.inr rfl | (unfold vi; decide)) only [ex_140_0, ex_140_1, ex_140_4, ex_140_5, ex_140_6, ex_140_9, ex_140_10, ex_140_13, ex_140_14, ex_140_15, ex_140_18, ex_140_19, ex_140_20, ex_140_21, ex_140_24, ex_140_25, ex_140_28, ex_140_29, ex_140_32, ex_140_35, ex_140_36, ex_140_39, ex_140_40, ex_140_43, ex_140_46, ex_140_47, ex_140_50, ex_140_51, ex_140_54, ex_140_55, ex_140_58, ex_140_61, ex_140_62, ex_140_63, ex_140_66, ex_140_69, ex_140_70, ex_140_71, ex_140_72, ex_140_73, if_true, if_false, and_self, Option.toList_some, Option.toList_none, List.singleton_append, List.cons_append, List.nil_append, List.append_nil, nI_1, nt_e, Int32.le_refl, b1, show ob (some z) = nI z from rfl, i_eqm, i_eq0, k0, Bool.true_eq_false, Bool.false_eq_true, ↓reduceIte]
      exact hfin
    · rw [if_neg k0] at hfin
      have e1 := b2 rfl (k - 1) (by omega)
      simp (disch := first | exact am_nl_i _ | exact am_nl_r _ | exact am_nl_0 | (refine vi_nI ?_ ?_ <;> omega) | assumption | omega | exact b2i_01 _ | exact Or.inl rfl | exact Or.inr rfl | (unfold vi; decide)) only [ex_140_0, ex_140_1, ex_140_4, ex_140_5, ex_140_6, ex_140_9, ex_140_10, ex_140_13, ex_140_14, ex_140_15, ex_140_18, ex_140_19, ex_140_20, ex_140_21, ex_140_24, ex_140_25, ex_140_28, ex_140_29, ex_140_32, ex_140_35, ex_140_36, ex_140_39, ex_140_40, ex_140_43, ex_140_46, ex_140_47, ex_140_50, ex_140_51, ex_140_54, ex_140_55, ex_140_58, ex_140_61, ex_140_62, ex_140_63, ex_140_66, ex_140_69, ex_140_70, ex_140_71, ex_140_72, ex_140_73, if_true, if_false, and_self, Option.toList_some, Option.toList_none, List.singleton_append, List.cons_append, List.nil_append, List.append_nil, nI_1, nt_e, Int32.le_refl, b1, show ob (some z) = nI z from rfl, i_eqm, i_eq0, k0, i_sb, nI_clamp, e1, Bool.true_eq_false, Bool.false_eq_true, ↓reduceIte]
      exact hfin
end HandsC
