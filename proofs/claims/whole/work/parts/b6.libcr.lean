/-! LIBRARY, of the reference: the call -/
def allR (a : Nat) : Prop := 203 ≤ a
section LibCR
variable {d m : Nat} {u : am_U} {S : ST} {f : Nat → Nat} {P : Nat → Nat → Rt} {post : Option Value → am_M → Prop}
theorem lib_errR {u' : am_U} (hI : InvR u S) (hN : NamesR u 0 S.1) (hW : WF S.1) (ho : LtO u u') (hf : FI u' 203 1 = 0) : InvR u' (withT S (0, fun _ => 0)) ∧ NamesR u' 0 S.1 := by
  obtain ⟨h1, h2, h3, h4, h5, h6⟩ := hI
  obtain ⟨o1, o2, o3, o4, o5⟩ := ho
  have n : ∀ a, 226 ≤ a → ¬ lhP a := fun a ha q => by unfold lhP at q; omega
  have e := fun a (ha : 226 ≤ a) => (o1 a (n a ha)).2.2.2.1
  have v12 := hW.1
  refine ⟨⟨?_, ?_, ⟨h3.1.keep o1 (n _ (by decide)), ?_, ?_⟩, ?_, fun k hk => ?_, ⟨hf, fun j hj => absurd hj (Nat.not_lt_zero j)⟩⟩, ?_⟩
  · obtain ⟨⟨a1, a2, a3, a4, a5⟩, b0, b1, b2, b3, b4, b5, b6, b7, b8, b9, b10⟩ := h1
    have r := fun a k (q : fhP a k) => o2 a k q
    refine ⟨⟨by rw [r 205 0 (by unfold fhP; omega)]; exact a1, by rw [r 205 1 (by unfold fhP; omega)]; exact a2, by rw [r 205 2 (by unfold fhP; omega)]; exact a3, by rw [r 205 3 (by unfold fhP; omega)]; exact a4, by rw [r 205 4 (by unfold fhP; omega)]; exact a5⟩, fun i hi => ?_, fun i hi => ?_, fun i hi => ?_, fun i hi => ?_, fun i hi => ?_, fun i hi => ?_, fun i hi => ?_, fun i hi => ?_, fun i hi => ?_, fun i hi => ?_, fun i hi => ?_⟩
    · have hi' : i < nF S.1 := hi; rw [r 210 i (by unfold fhP; omega)]; exact b0 i hi
    · have hi' : i < nF S.1 := hi; rw [r 211 i (by unfold fhP; omega)]; exact b1 i hi
    · have hi' : i < nP S.1 := hi; rw [r 212 i (by unfold fhP; omega)]; exact b2 i hi
    · have hi' : i < nP S.1 := hi; rw [r 213 i (by unfold fhP; omega)]; exact b3 i hi
    · have hi' : i < nP S.1 := hi; rw [r 214 i (by unfold fhP; omega)]; exact b4 i hi
    · have hi' : i < nP S.1 := hi; rw [r 215 i (by unfold fhP; omega)]; exact b5 i hi
    · have hi' : i < nE S.1 := hi; rw [r 216 i (by unfold fhP; omega)]; exact b6 i hi
    · have hi' : i < nE S.1 := hi; rw [r 217 i (by unfold fhP; omega)]; exact b7 i hi
    · have hi' : i < nE S.1 := hi; rw [r 218 i (by unfold fhP; omega)]; exact b8 i hi
    · have hi' : i < nT S.1 := hi; rw [r 219 i (by unfold fhP; omega)]; exact b9 i hi
    · have hi' : i < nT S.1 := hi; rw [r 220 i (by unfold fhP; omega)]; exact b10 i hi
  · obtain ⟨F, t, c1, c2, c3, c4⟩ := h2
    refine ⟨F, t, fun k hk => ⟨by rw [o2 221 k (by unfold fhP; omega)]; exact (c1 k hk).1, by rw [o2 222 k (by unfold fhP; omega)]; exact (c1 k hk).2.1, (c1 k hk).2.2⟩, fun k hk hlt hh oo q0 => ?_, c3, c4⟩
    refine Eq.trans ?_ (c2 k hk hlt hh oo q0)
    refine workP_cg rfl (fun x hx => ?_)
    have := c1 k hk
    exact o2 223 _ (by unfold fhP; omega)
  · unfold LinesR
    rw [e 236 (by decide), e 237 (by decide)]
    exact h3.2.1
  · unfold ToldR
    rw [e 238 (by decide), e 239 (by decide), e 240 (by decide)]
    exact h3.2.2
  · unfold PastR
    rw [o4 55 (by unfold ffP; omega) (by decide) (by decide), e 244 (by decide)]
    exact h4
  · unfold LinesR ToldR
    rw [e 236 (by decide), e 237 (by decide), e 238 (by decide), e 239 (by decide), e 240 (by decide), e 243 (by decide), e 245 (by decide)]
    exact h5 k hk
  · obtain ⟨n1, n2, n3, n4⟩ := hN
    refine ⟨fun i hi => ⟨?_, (n1 i hi).2⟩, fun i hi => ⟨?_, (n2 i hi).2⟩, fun i hi => ⟨?_, (n3 i hi).2⟩, fun i hi => ⟨?_, (n4 i hi).2⟩⟩
    · show AJ u' 206 (12 * 0 + i) = _
      rw [o3 206 _ (by unfold fnP; omega)]; exact (n1 i hi).1
    · show AJ u' 207 (12 * 0 + i) = _
      rw [o3 207 _ (by unfold fnP; omega)]; exact (n2 i hi).1
    · show AJ u' 208 (6 * 0 + i) = _
      rw [o3 208 _ (by unfold fnP; omega)]; exact (n3 i hi).1
    · show AJ u' 209 (5 * 0 + i) = _
      rw [o3 209 _ (by unfold fnP; omega)]; exact (n4 i hi).1
theorem R_library (hI : InvR u S) (hN : NamesR u 0 S.1) (hW0 : WF S.1) (hf : ∀ j, j < S.2.2.2.2.1 → S.2.2.2.2.2 j = nI (f j) ∧ f j ≤ 126) (hn : S.2.2.2.2.1 ≤ 1000) (hE : EndAt S.2.2.2.2.1 f m) (hP : PrsOk P S.2.2.2.2.1 f m)
    (h : ∀ u', Only allR u u' → InvR u' (libraryS P S f).1 → NamesR u' 0 (libraryS P S f).1.1 → post (some (.int (libraryS P S f).2)) (am_emb u')) : Cl (d + 9) 207 [.ref 203] (am_emb u) post := by
  have hI1 : InvR (th u 0) S := th_inv hI
  have hN1 : NamesR (th u 0) 0 S.1 := hN
  have o0 : Only allR u (th u 0) := Only.sFI (by unfold allR; omega)
  have lr : ∀ a, lhP a → allR a := fun a q => by unfold lhP at q; unfold allR; omega
  unfold libraryS at h
  rw [op_207]
  simp (disch := first | exact am_nl_i _ | exact am_nl_r _ | exact am_nl_0 | (refine vi_nI ?_ ?_ <;> omega) | assumption | omega | exact b2i_01 _ | exact Or.inl rfl | exact Or.inr rfl | (unfold vi; decide)) only [ex_207_0, ex_207_1, ex_207_2, ex_207_5, ex_207_9, ex_207_12, ex_207_13, ex_207_16, ex_207_17, ex_207_18, ex_207_21, ex_207_22, ex_207_25, ex_207_26, ex_207_29, ex_207_30, ex_207_31, ex_207_32, ex_207_33, ex_207_36, ex_207_37, ex_207_38, ex_207_39, ex_207_40, ex_207_41, ex_207_44, ex_207_45, ex_207_46, ex_207_47, ex_207_48, ex_207_51, ex_207_52, ex_207_55, ex_207_56, ex_207_57, ex_207_58, ex_207_61, ex_207_64, ex_207_65, if_true, if_false, and_self, Option.toList_some, Option.toList_none, List.singleton_append, List.cons_append, List.nil_append, List.append_nil, nI_1, nt_e, Int32.le_refl, th_e, Bool.true_eq_false, Bool.false_eq_true, ↓reduceIte]
  rw [ex_207_6]
  generalize th u 0 = u0 at *
  have tp := hI1.2.2.2.2.2
  refine readsAll_ok (D := d) tp.1 (fun j hj => by rw [tp.2 j hj]; exact (hf j hj).1) hn (fun j hj => (hf j hj).2) hE hP (fun e u1 he o1 f1 z => ?_) (fun v fg j u1 he o1 f1 hW B1 W1 hj => ?_)
  · rw [he] at h
    obtain ⟨i1, i2⟩ := lib_errR hI1 hN1 hW0 o1 f1
    have hfin := h u1 (o0.tr (o1.1.wk lr)) i1 i2
    simp (disch := first | exact am_nl_i _ | exact am_nl_r _ | exact am_nl_0 | (refine vi_nI ?_ ?_ <;> omega) | assumption | omega | exact b2i_01 _ | exact Or.inl rfl | exact Or.inr rfl | (unfold vi; decide)) only [ex_207_0, ex_207_1, ex_207_2, ex_207_5, ex_207_6, ex_207_9, ex_207_12, ex_207_13, ex_207_16, ex_207_17, ex_207_18, ex_207_21, ex_207_22, ex_207_25, ex_207_26, ex_207_29, ex_207_30, ex_207_31, ex_207_32, ex_207_33, ex_207_36, ex_207_37, ex_207_38, ex_207_39, ex_207_40, ex_207_41, ex_207_44, ex_207_45, ex_207_46, ex_207_47, ex_207_48, ex_207_51, ex_207_52, ex_207_55, ex_207_56, ex_207_57, ex_207_58, ex_207_61, ex_207_64, ex_207_65, if_true, if_false, and_self, Option.toList_some, Option.toList_none, List.singleton_append, List.cons_append, List.nil_append, List.append_nil, nI_1, nt_e, Int32.le_refl, z, Bool.true_eq_false, Bool.false_eq_true, ↓reduceIte]
    exact hfin
  · rw [he] at h
    simp (disch := first | exact am_nl_i _ | exact am_nl_r _ | exact am_nl_0 | (refine vi_nI ?_ ?_ <;> omega) | assumption | omega | exact b2i_01 _ | exact Or.inl rfl | exact Or.inr rfl | (unfold vi; decide)) only [ex_207_0, ex_207_1, ex_207_2, ex_207_5, ex_207_6, ex_207_9, ex_207_12, ex_207_13, ex_207_16, ex_207_17, ex_207_21, ex_207_22, ex_207_25, ex_207_26, ex_207_29, ex_207_30, ex_207_31, ex_207_32, ex_207_33, ex_207_36, ex_207_37, ex_207_38, ex_207_39, ex_207_40, ex_207_41, ex_207_44, ex_207_45, ex_207_46, ex_207_47, ex_207_48, ex_207_51, ex_207_52, ex_207_55, ex_207_56, ex_207_57, ex_207_58, ex_207_61, ex_207_64, ex_207_65, if_true, if_false, and_self, Option.toList_some, Option.toList_none, List.singleton_append, List.cons_append, List.nil_append, List.append_nil, nI_1, nt_e, Int32.le_refl, show ((1 : Int32) = (0 : Int32)) = False from eq_false (by decide), Bool.true_eq_false, Bool.false_eq_true, ↓reduceIte]
    rw [ex_207_18]
    refine lays_ok B1 W1 hj hW (fun u2 o2 R2 C2 N2 => ?_)
    simp (disch := first | exact am_nl_i _ | exact am_nl_r _ | exact am_nl_0 | (refine vi_nI ?_ ?_ <;> omega) | assumption | omega | exact b2i_01 _ | exact Or.inl rfl | exact Or.inr rfl | (unfold vi; decide)) only [ex_207_0, ex_207_1, ex_207_2, ex_207_5, ex_207_6, ex_207_9, ex_207_12, ex_207_13, ex_207_16, ex_207_17, ex_207_18, ex_207_21, ex_207_25, ex_207_26, ex_207_29, ex_207_30, ex_207_31, ex_207_32, ex_207_33, ex_207_36, ex_207_37, ex_207_38, ex_207_39, ex_207_40, ex_207_41, ex_207_44, ex_207_45, ex_207_46, ex_207_47, ex_207_48, ex_207_51, ex_207_52, ex_207_55, ex_207_56, ex_207_57, ex_207_58, ex_207_61, ex_207_64, ex_207_65, if_true, if_false, and_self, Option.toList_some, Option.toList_none, List.singleton_append, List.cons_append, List.nil_append, List.append_nil, nI_1, nt_e, Int32.le_refl, Bool.true_eq_false, Bool.false_eq_true, ↓reduceIte]
    rw [ex_207_22]
    refine fresh_ok R2 hW (fun u3 o3 l3 => ?_)
    have n3 : ∀ a, ¬ a = 241 → ¬ is 241 a := fun a q r => q r
    simp (disch := first | exact am_nl_i _ | exact am_nl_r _ | exact am_nl_0 | (refine vi_nI ?_ ?_ <;> omega) | assumption | omega | exact b2i_01 _ | exact Or.inl rfl | exact Or.inr rfl | (unfold vi; decide)) only [ex_207_0, ex_207_1, ex_207_2, ex_207_5, ex_207_6, ex_207_9, ex_207_12, ex_207_13, ex_207_16, ex_207_17, ex_207_18, ex_207_21, ex_207_22, ex_207_25, ex_207_26, ex_207_29, ex_207_30, ex_207_31, ex_207_32, ex_207_33, ex_207_36, ex_207_37, ex_207_38, ex_207_39, ex_207_40, ex_207_41, ex_207_44, ex_207_45, ex_207_47, ex_207_48, ex_207_51, ex_207_52, ex_207_55, ex_207_56, ex_207_57, ex_207_58, ex_207_61, ex_207_64, ex_207_65, if_true, if_false, and_self, Option.toList_some, Option.toList_none, List.singleton_append, List.cons_append, List.nil_append, List.append_nil, nI_1, nt_e, Int32.le_refl, show (0 : Int32).toNatClampNeg = 0 from rfl, Bool.true_eq_false, Bool.false_eq_true, ↓reduceIte]
    have aie : AI (sAI u3 236 (upd (AI u3 236) 0 0)) 238 = AI u3 238 := by rw [AI_sAI, if_neg (by decide)]
    try rw [aie]
    have o4 : Only (fun a => a = 203 ∨ a = 236 ∨ a = 238) u3 (sFI (sAI (sAI u3 236 (upd (AI u3 236) 0 0)) 238 (upd (AI u3 238) 0 0)) 203 55 0) := of_fi (of_ai (of_ai (Only.rf _ _) (by omega)) (by omega)) (by omega)
    have f236 : AI (sFI (sAI (sAI u3 236 (upd (AI u3 236) 0 0)) 238 (upd (AI u3 238) 0 0)) 203 55 0) 236 0 = 0 := by rw [AI_sFI, AI_sAI, if_neg (by decide), AI_sAI, if_pos rfl, upd_s]
    have f238 : AI (sFI (sAI (sAI u3 236 (upd (AI u3 236) 0 0)) 238 (upd (AI u3 238) 0 0)) 203 55 0) 238 0 = 0 := by rw [AI_sFI, AI_sAI, if_pos rfl, upd_s]
    have f55 : FI (sFI (sAI (sAI u3 236 (upd (AI u3 236) 0 0)) 238 (upd (AI u3 238) 0 0)) 203 55 0) 203 55 = 0 := by rw [FI_sFI, if_pos ⟨rfl, rfl⟩]
    have ff1 : FI (sFI (sAI (sAI u3 236 (upd (AI u3 236) 0 0)) 238 (upd (AI u3 238) 0 0)) 203 55 0) 203 1 = FI u3 203 1 := by rw [FI_sFI, if_neg (by decide)]; rfl
    generalize (sFI (sAI (sAI u3 236 (upd (AI u3 236) 0 0)) 238 (upd (AI u3 238) 0 0)) 203 55 0) = u4 at *
    have loop : ∀ (kz k : Nat), k + kz = 4 → ∀ u5, Only (is 245) u4 u5 → (∀ j, j < k → AI u5 245 j = 0) → Ex (d + 9) 207 46 [some (.ref 203), some (.int (nI k))] [] (am_emb u5) post := by
      intro kz
      induction kz with
      | zero =>
        intro k hk u5 o5 l5
        obtain rfl : k = 4 := by omega
        have o25 : Only (fun a => a = 241 ∨ a = 203 ∨ a = 236 ∨ a = 238 ∨ a = 245) u2 u5 := ((o3.wk (fun a q => by unfold is at q; omega)).tr (o4.wk (fun a q => by omega))).tr (o5.wk (fun a q => by unfold is at q; omega))
        have e5 := fun a (ha : ¬ a = 245) => o5 a (fun q => ha q)
        have g1 : FI u5 203 1 = 0 := by rw [(e5 203 (by decide)).1, ff1, (o3 203 (n3 203 (by decide))).1, (o2 203 (by unfold lyP; omega)).1]; exact f1
        have i5 : InvR u5 (newS v) := by
          refine ⟨R2.keep o25 (fun a q1 q2 => by omega), C2.keep o25 (fun a q1 q2 => by omega), ⟨(l3.keep o4 (by omega)).keep o5 (by unfold is; omega), ⟨?_, fun j hj => absurd hj (Nat.not_lt_zero j)⟩, ⟨?_, fun j hj => absurd hj (Nat.not_lt_zero j)⟩⟩, ⟨?_, fun j hj => absurd hj (Nat.not_lt_zero j)⟩, fun k hk => ⟨l5 k hk, fun s hs => by cases hs⟩, ⟨g1, fun j hj => absurd hj (Nat.not_lt_zero j)⟩⟩
          · rw [(e5 236 (by decide)).2.2.2.1]; exact f236
          · rw [(e5 238 (by decide)).2.2.2.1]; exact f238
          · rw [(e5 203 (by decide)).1]; exact f55
        have hfin := h u5 (o0.tr ((o1.1.wk lr).tr ((o2.wk (fun a q => by unfold lyP at q; unfold allR; omega)).tr (o25.wk (fun a q => by unfold allR; omega))))) i5 (N2.keep o25 ⟨by omega, by omega, by omega, by omega⟩)
        rw [ex_207_46]
        simp (disch := first | exact am_nl_i _ | exact am_nl_r _ | exact am_nl_0 | (refine vi_nI ?_ ?_ <;> omega) | assumption | omega | exact b2i_01 _ | exact Or.inl rfl | exact Or.inr rfl | (unfold vi; decide)) only [ex_207_0, ex_207_1, ex_207_2, ex_207_5, ex_207_6, ex_207_9, ex_207_12, ex_207_13, ex_207_16, ex_207_17, ex_207_18, ex_207_21, ex_207_22, ex_207_25, ex_207_26, ex_207_29, ex_207_30, ex_207_31, ex_207_32, ex_207_33, ex_207_36, ex_207_37, ex_207_38, ex_207_39, ex_207_40, ex_207_41, ex_207_44, ex_207_45, ex_207_47, ex_207_48, ex_207_51, ex_207_52, ex_207_55, ex_207_56, ex_207_57, ex_207_58, ex_207_61, ex_207_64, ex_207_65, if_true, if_false, and_self, Option.toList_some, Option.toList_none, List.singleton_append, List.cons_append, List.nil_append, List.append_nil, nI_1, nt_e, Int32.le_refl, lq4, nI_leI, Nat.le_refl, Bool.true_eq_false, Bool.false_eq_true, ↓reduceIte]
        exact hfin
      | succ kz ih =>
        intro k hk u5 o5 l5
        have q : ¬ 4 ≤ k := by omega
        have k4 : k < 4 := by omega
        rw [ex_207_46]
        simp (disch := first | exact am_nl_i _ | exact am_nl_r _ | exact am_nl_0 | (refine vi_nI ?_ ?_ <;> omega) | assumption | omega | exact b2i_01 _ | exact Or.inl rfl | exact Or.inr rfl | (unfold vi; decide)) only [ex_207_0, ex_207_1, ex_207_2, ex_207_5, ex_207_6, ex_207_9, ex_207_12, ex_207_13, ex_207_16, ex_207_17, ex_207_18, ex_207_21, ex_207_22, ex_207_25, ex_207_26, ex_207_29, ex_207_30, ex_207_31, ex_207_32, ex_207_33, ex_207_36, ex_207_37, ex_207_38, ex_207_39, ex_207_40, ex_207_41, ex_207_44, ex_207_45, ex_207_47, ex_207_48, ex_207_51, ex_207_52, ex_207_55, ex_207_56, ex_207_57, ex_207_58, ex_207_61, ex_207_64, ex_207_65, if_true, if_false, and_self, Option.toList_some, Option.toList_none, List.singleton_append, List.cons_append, List.nil_append, List.append_nil, nI_1, nt_e, Int32.le_refl, lq4, nI_leI, q, nI_clamp, nI_1, Bool.true_eq_false, Bool.false_eq_true, ↓reduceIte]
        refine ih (k + 1) (by omega) _ (of_ai o5 rfl) (fun j hj => ?_)
        rw [AI_sAI, if_pos rfl]
        by_cases e : j = k
        · rw [e, upd_s]
        · rw [upd_n e]; exact l5 j (by omega)
    exact loop 4 0 (by omega) u4 (Only.rf _ _) (fun j hj => absurd hj (Nat.not_lt_zero j))
end LibCR
