/-! A LINE OF A HISTORY, of the reference: a person, a page -/
/-- only the scratch lines (the sixth) and what reading touches -/
def LnO (u u' : am_U) : Prop := Only (fun a => a = 203 ∨ a = 236 ∨ a = 237) u u' ∧ (∀ k, ¬ k = 5 → AI u' 236 k = AI u 236 k) ∧ (∀ k, k < 480 → AI u' 237 k = AI u 237 k) ∧ (∀ k, ¬ k = 4 → ¬ k = 5 → ¬ k = 6 → ¬ k = 8 → ¬ k = 9 → ¬ k = 44 → FI u' 203 k = FI u 203 k) ∧ ∀ k, ¬ k = 7 → FJ u' 203 k = FJ u 203 k
theorem LnO.rf (u : am_U) : LnO u u := ⟨Only.rf _ _, fun _ _ => rfl, fun _ _ => rfl, fun _ _ _ _ _ _ _ => rfl, fun _ _ => rfl⟩
theorem LnO.tr {u1 u2 u3 : am_U} (h1 : LnO u1 u2) (h2 : LnO u2 u3) : LnO u1 u3 := ⟨h1.1.tr h2.1, fun k q => (h2.2.1 k q).trans (h1.2.1 k q), fun k q => (h2.2.2.1 k q).trans (h1.2.2.1 k q), fun k a b c d e f => (h2.2.2.2.1 k a b c d e f).trans (h1.2.2.2.1 k a b c d e f), fun k q => (h2.2.2.2.2 k q).trans (h1.2.2.2.2 k q)⟩
theorem RsO.ln {u u' : am_U} (h : RsO u u') : LnO u u' := ⟨h.1.wk (fun a q => Or.inl q), fun k _ => by rw [(h.1 236 (by unfold is; omega)).2.2.2.1], fun k _ => by rw [(h.1 237 (by unfold is; omega)).2.2.2.1], h.2.1, h.2.2⟩
theorem LnO.ln {u u1 : am_U} {k : Nat} {x : Int32} (h : LnO u u1) (hk : 480 ≤ k) : LnO u (sAI u1 237 (upd (AI u1 237) k x)) := ⟨of_ai h.1 (Or.inr (Or.inr rfl)), fun j q => by rw [AI_sAI, if_neg (by decide)]; exact h.2.1 j q, fun j q => by rw [AI_sAI, if_pos rfl, upd_n (by omega)]; exact h.2.2.1 j q, h.2.2.2.1, h.2.2.2.2⟩
/-- what of the library a history asks: the counts and names that lie first -/
def BkL (u : am_U) (v : LV) : Prop := AI u 205 1 = nI (nP v) ∧ AI u 205 2 = nI (nE v) ∧ NamesR u 0 v ∧ nP v ≤ 12 ∧ nE v ≤ 6
theorem BkL.ln {u u' : am_U} {v : LV} (h : BkL u v) (ho : LnO u u') : BkL u' v := by
  obtain ⟨a, b, c, d⟩ := h
  exact ⟨by rw [(ho.1 205 (by omega)).2.2.2.1]; exact a, by rw [(ho.1 205 (by omega)).2.2.2.1]; exact b, c.keep ho.1 (by omega), d⟩
section LineR
variable {d n m i k : Nat} {u : am_U} {f : Nat → Nat} {v : LV} {post : Option Value → am_M → Prop}
theorem needsPers_ok (hS : RSt u n f i) (hB : BkL u v) (hk : k < 576) (hk2 : 480 ≤ k) (hb : ∀ e u', lookR v 2 (tk n f (i + 1)) = .error e → LnO u u' → FI u' 203 9 = nI e → post (some (.int 0)) (am_emb u'))
    (hg : ∀ p u', lookR v 2 (tk n f (i + 1)) = .ok p → LnO u u' → RSt u' n f (i + 1) → AI u' 237 = upd (AI u 237) k (nI p) → AI u' 236 = AI u 236 → post (some (.int 1)) (am_emb u')) : Cl (d + 3) 200 [.ref 203, .int (nI k)] (am_emb u) post := by
  rw [op_200]
  simp (disch := first | exact am_nl_i _ | exact am_nl_r _ | exact am_nl_0 | assumption | omega | (refine vi_nI ?_ ?_ <;> omega) | exact b2i_01 _ | exact Or.inl rfl | exact Or.inr rfl | (unfold vi; decide)) only [ex_200_0, ex_200_4, ex_200_5, ex_200_8, ex_200_11, ex_200_12, ex_200_13, ex_200_16, ex_200_17, ex_200_18, ex_200_21, ex_200_22, ex_200_23, ex_200_24, ex_200_27, ex_200_28, ex_200_29, ex_200_32, ex_200_33, ex_200_34, ex_200_37, ex_200_38, ex_200_39, ex_200_42, ex_200_45, ex_200_46, ex_200_49, ex_200_50, if_true, if_false, and_self, Option.toList_some, Option.toList_none, List.singleton_append, List.cons_append, List.nil_append, List.append_nil, nI_1, nt_e, Int32.le_refl]
  rw [ex_200_1]
  refine nx_ok hS (fun u1 o1 S1 => ?_)
  have ht := tk_ok (n := n) (f := f) (i + 1)
  have L1 : LnO u u1 := ((RsO.rf u).nx o1).ln
  have B1 := hB.ln L1
  have k1 := fun a (ha : ¬ a = 203) => (o1.1 a (by unfold is; exact ha)).2.2.2.1
  cases qn : nmB (csort (tk n f (i + 1)))
  · have hfin := hb (fl 1 (tk n f (i + 1))) _ (by simp only [lookR, lookN, qn, Bool.false_eq_true, if_false]) (L1.tr ((RsO.rf u1).fi (k := 9) (x := nI (fl 1 (tk n f (i + 1)))) (Or.inl rfl)).ln) (by rw [FI_sFI, if_pos ⟨rfl, rfl⟩])
    simp (disch := first | exact am_nl_i _ | exact am_nl_r _ | exact am_nl_0 | (refine vi_nI ?_ ?_ <;> omega) | assumption | omega | exact b2i_01 _ | exact Or.inl rfl | exact Or.inr rfl | (unfold vi; decide)) only [ex_200_0, ex_200_1, ex_200_4, ex_200_5, ex_200_8, ex_200_11, ex_200_12, ex_200_13, ex_200_16, ex_200_17, ex_200_18, ex_200_21, ex_200_22, ex_200_23, ex_200_24, ex_200_27, ex_200_28, ex_200_29, ex_200_32, ex_200_33, ex_200_34, ex_200_37, ex_200_38, ex_200_39, ex_200_42, ex_200_45, ex_200_46, ex_200_49, ex_200_50, if_true, if_false, and_self, Option.toList_some, Option.toList_none, List.singleton_append, List.cons_append, List.nil_append, List.append_nil, nI_1, nt_e, Int32.le_refl, isKept_ok S1.2 ht, qn, Bool.not_false, b2i_t, show ((1 : Int32) = (0 : Int32)) = False from eq_false (by decide), show (1 : Int32) = nI 1 from rfl, fails_ok S1.2, Bool.true_eq_false, Bool.false_eq_true, ↓reduceIte]
    exact hfin
  have h1 := nmB_w ht qn
  have g2 := fun {d} {post} => personNamed_ok (d := d) (post := post) (o := 0) (Nat.zero_le 1) B1.2.1 B1.2.2.2.2 B1.2.2.1 S1.2 h1 (ht.1 h1)
  have hneg := i_neg (o := findV v 2 (tk n f (i + 1)).2.2) (c := nE v) (by have := B1.2.2.2.2; omega) (fun j hh => findV_lt hh)
  have e0 : (0 : Int32) = nI 0 := rfl
  simp (disch := first | exact am_nl_i _ | exact am_nl_r _ | exact am_nl_0 | (refine vi_nI ?_ ?_ <;> omega) | assumption | omega | exact b2i_01 _ | exact Or.inl rfl | exact Or.inr rfl | (unfold vi; decide)) only [ex_200_0, ex_200_1, ex_200_4, ex_200_5, ex_200_8, ex_200_11, ex_200_12, ex_200_13, ex_200_16, ex_200_17, ex_200_18, ex_200_21, ex_200_22, ex_200_23, ex_200_27, ex_200_28, ex_200_29, ex_200_32, ex_200_33, ex_200_34, ex_200_37, ex_200_38, ex_200_39, ex_200_42, ex_200_45, ex_200_46, ex_200_49, ex_200_50, if_true, if_false, and_self, Option.toList_some, Option.toList_none, List.singleton_append, List.cons_append, List.nil_append, List.append_nil, nI_1, nt_e, Int32.le_refl, isKept_ok S1.2 ht, qn, Bool.not_true, b2i_f, Bool.true_eq_false, Bool.false_eq_true, ↓reduceIte]
  rw [ex_200_24, e0, g2]
  have L2 : LnO u (sAI u1 237 (upd (AI u1 237) k (oI (findV v 2 (tk n f (i + 1)).2.2)))) := L1.ln hk2
  have S2 : RSt (sAI u1 237 (upd (AI u1 237) k (oI (findV v 2 (tk n f (i + 1)).2.2)))) n f (i + 1) := S1.ai (by decide)
  have hgk : AI (sAI u1 237 (upd (AI u1 237) k (oI (findV v 2 (tk n f (i + 1)).2.2)))) 237 k = oI (findV v 2 (tk n f (i + 1)).2.2) := by rw [AI_sAI, if_pos rfl, upd_s]
  have A2 : AI (sAI u1 237 (upd (AI u1 237) k (oI (findV v 2 (tk n f (i + 1)).2.2)))) 237 = upd (AI u 237) k (oI (findV v 2 (tk n f (i + 1)).2.2)) := by rw [AI_sAI, if_pos rfl, k1 237 (by decide)]
  have A3 : AI (sAI u1 237 (upd (AI u1 237) k (oI (findV v 2 (tk n f (i + 1)).2.2)))) 236 = AI u 236 := by rw [AI_sAI, if_neg (by decide), k1 236 (by decide)]
  cases z : findV v 2 (tk n f (i + 1)).2.2 with
  | none =>
    rw [z] at L2 S2 hgk
    have z' : findA (nameV v 2) (tk n f (i + 1)).2.2 (v.1 2) 0 = none := z
    have hfin := hb (fl 2 (tk n f (i + 1))) _ (by simp only [lookR, lookN, qn, if_true, z']) (L2.tr ((RsO.rf _).fi (k := 9) (x := nI (fl 2 (tk n f (i + 1)))) (Or.inl rfl)).ln) (by rw [FI_sFI, if_pos ⟨rfl, rfl⟩])
    have q0 : ¬ (0 : Int32) ≤ oI none := by decide
    simp (disch := first | exact am_nl_i _ | exact am_nl_r _ | exact am_nl_0 | (refine vi_nI ?_ ?_ <;> omega) | assumption | omega | exact b2i_01 _ | exact Or.inl rfl | exact Or.inr rfl | (unfold vi; decide)) only [ex_200_0, ex_200_1, ex_200_4, ex_200_5, ex_200_8, ex_200_11, ex_200_12, ex_200_13, ex_200_16, ex_200_17, ex_200_18, ex_200_21, ex_200_22, ex_200_23, ex_200_24, ex_200_27, ex_200_28, ex_200_29, ex_200_32, ex_200_33, ex_200_34, ex_200_37, ex_200_38, ex_200_42, ex_200_45, ex_200_46, ex_200_49, ex_200_50, if_true, if_false, and_self, Option.toList_some, Option.toList_none, List.singleton_append, List.cons_append, List.nil_append, List.append_nil, nI_1, nt_e, Int32.le_refl, nI_clamp, hgk, q0, Bool.true_eq_false, Bool.false_eq_true, ↓reduceIte]
    generalize (sAI u1 237 (upd (AI u1 237) k (oI none))) = w7 at *
    rw [ex_200_39]
    simp (disch := first | exact am_nl_i _ | exact am_nl_r _ | exact am_nl_0 | (refine vi_nI ?_ ?_ <;> omega) | assumption | omega | exact b2i_01 _ | exact Or.inl rfl | exact Or.inr rfl | (unfold vi; decide)) only [ex_200_0, ex_200_1, ex_200_4, ex_200_5, ex_200_8, ex_200_11, ex_200_12, ex_200_13, ex_200_16, ex_200_17, ex_200_18, ex_200_21, ex_200_22, ex_200_23, ex_200_24, ex_200_27, ex_200_28, ex_200_29, ex_200_32, ex_200_33, ex_200_34, ex_200_37, ex_200_38, ex_200_39, ex_200_42, ex_200_45, ex_200_46, ex_200_49, ex_200_50, if_true, if_false, and_self, Option.toList_some, Option.toList_none, List.singleton_append, List.cons_append, List.nil_append, List.append_nil, nI_1, nt_e, Int32.le_refl, show (2 : Int32) = nI 2 from rfl, fails_ok S2.2, Bool.true_eq_false, Bool.false_eq_true, ↓reduceIte]
    exact hfin
  | some a =>
    rw [z] at L2 S2 hgk A2 A3 hneg
    have z' : findA (nameV v 2) (tk n f (i + 1)).2.2 (v.1 2) 0 = some a := z
    have q0 : (0 : Int32) ≤ oI (some a) := hneg.2.mpr (by simp)
    have hfin := hg a _ (by simp only [lookR, lookN, qn, if_true, z']) L2 S2 A2 A3
    simp (disch := first | exact am_nl_i _ | exact am_nl_r _ | exact am_nl_0 | (refine vi_nI ?_ ?_ <;> omega) | assumption | omega | exact b2i_01 _ | exact Or.inl rfl | exact Or.inr rfl | (unfold vi; decide)) only [ex_200_0, ex_200_1, ex_200_4, ex_200_5, ex_200_8, ex_200_11, ex_200_12, ex_200_13, ex_200_16, ex_200_17, ex_200_18, ex_200_21, ex_200_22, ex_200_23, ex_200_24, ex_200_27, ex_200_28, ex_200_29, ex_200_32, ex_200_33, ex_200_34, ex_200_37, ex_200_38, ex_200_39, ex_200_42, ex_200_45, ex_200_46, ex_200_49, ex_200_50, if_true, if_false, and_self, Option.toList_some, Option.toList_none, List.singleton_append, List.cons_append, List.nil_append, List.append_nil, nI_1, nt_e, Int32.le_refl, nI_clamp, hgk, q0, Bool.true_eq_false, Bool.false_eq_true, ↓reduceIte]
    exact hfin
theorem needsPag_ok (hS : RSt u n f i) (hB : BkL u v) (hk : k < 576) (hk2 : 480 ≤ k) (hb : ∀ e u', lookR v 1 (tk n f (i + 1)) = .error e → LnO u u' → FI u' 203 9 = nI e → post (some (.int 0)) (am_emb u'))
    (hg : ∀ p u', lookR v 1 (tk n f (i + 1)) = .ok p → LnO u u' → RSt u' n f (i + 1) → AI u' 237 = upd (AI u 237) k (nI p) → AI u' 236 = AI u 236 → post (some (.int 1)) (am_emb u')) : Cl (d + 3) 201 [.ref 203, .int (nI k)] (am_emb u) post := by
  rw [op_201]
  simp (disch := first | exact am_nl_i _ | exact am_nl_r _ | exact am_nl_0 | assumption | omega | (refine vi_nI ?_ ?_ <;> omega) | exact b2i_01 _ | exact Or.inl rfl | exact Or.inr rfl | (unfold vi; decide)) only [ex_201_0, ex_201_4, ex_201_5, ex_201_8, ex_201_11, ex_201_12, ex_201_13, ex_201_16, ex_201_17, ex_201_18, ex_201_21, ex_201_22, ex_201_23, ex_201_24, ex_201_27, ex_201_28, ex_201_29, ex_201_32, ex_201_33, ex_201_34, ex_201_37, ex_201_38, ex_201_39, ex_201_42, ex_201_45, ex_201_46, ex_201_49, ex_201_50, if_true, if_false, and_self, Option.toList_some, Option.toList_none, List.singleton_append, List.cons_append, List.nil_append, List.append_nil, nI_1, nt_e, Int32.le_refl]
  rw [ex_201_1]
  refine nx_ok hS (fun u1 o1 S1 => ?_)
  have ht := tk_ok (n := n) (f := f) (i + 1)
  have L1 : LnO u u1 := ((RsO.rf u).nx o1).ln
  have B1 := hB.ln L1
  have k1 := fun a (ha : ¬ a = 203) => (o1.1 a (by unfold is; exact ha)).2.2.2.1
  cases qn : nmB (csort (tk n f (i + 1)))
  · have hfin := hb (fl 1 (tk n f (i + 1))) _ (by simp only [lookR, lookN, qn, Bool.false_eq_true, if_false]) (L1.tr ((RsO.rf u1).fi (k := 9) (x := nI (fl 1 (tk n f (i + 1)))) (Or.inl rfl)).ln) (by rw [FI_sFI, if_pos ⟨rfl, rfl⟩])
    simp (disch := first | exact am_nl_i _ | exact am_nl_r _ | exact am_nl_0 | (refine vi_nI ?_ ?_ <;> omega) | assumption | omega | exact b2i_01 _ | exact Or.inl rfl | exact Or.inr rfl | (unfold vi; decide)) only [ex_201_0, ex_201_1, ex_201_4, ex_201_5, ex_201_8, ex_201_11, ex_201_12, ex_201_13, ex_201_16, ex_201_17, ex_201_18, ex_201_21, ex_201_22, ex_201_23, ex_201_24, ex_201_27, ex_201_28, ex_201_29, ex_201_32, ex_201_33, ex_201_34, ex_201_37, ex_201_38, ex_201_39, ex_201_42, ex_201_45, ex_201_46, ex_201_49, ex_201_50, if_true, if_false, and_self, Option.toList_some, Option.toList_none, List.singleton_append, List.cons_append, List.nil_append, List.append_nil, nI_1, nt_e, Int32.le_refl, isKept_ok S1.2 ht, qn, Bool.not_false, b2i_t, show ((1 : Int32) = (0 : Int32)) = False from eq_false (by decide), show (1 : Int32) = nI 1 from rfl, fails_ok S1.2, Bool.true_eq_false, Bool.false_eq_true, ↓reduceIte]
    exact hfin
  have h1 := nmB_w ht qn
  have g2 := fun {d} {post} => pageNamed_ok (d := d) (post := post) (o := 0) (Nat.zero_le 1) B1.1 B1.2.2.2.1 B1.2.2.1 S1.2 h1 (ht.1 h1)
  have hneg := i_neg (o := findV v 1 (tk n f (i + 1)).2.2) (c := nP v) (by have := B1.2.2.2.1; omega) (fun j hh => findV_lt hh)
  have e0 : (0 : Int32) = nI 0 := rfl
  simp (disch := first | exact am_nl_i _ | exact am_nl_r _ | exact am_nl_0 | (refine vi_nI ?_ ?_ <;> omega) | assumption | omega | exact b2i_01 _ | exact Or.inl rfl | exact Or.inr rfl | (unfold vi; decide)) only [ex_201_0, ex_201_1, ex_201_4, ex_201_5, ex_201_8, ex_201_11, ex_201_12, ex_201_13, ex_201_16, ex_201_17, ex_201_18, ex_201_21, ex_201_22, ex_201_23, ex_201_27, ex_201_28, ex_201_29, ex_201_32, ex_201_33, ex_201_34, ex_201_37, ex_201_38, ex_201_39, ex_201_42, ex_201_45, ex_201_46, ex_201_49, ex_201_50, if_true, if_false, and_self, Option.toList_some, Option.toList_none, List.singleton_append, List.cons_append, List.nil_append, List.append_nil, nI_1, nt_e, Int32.le_refl, isKept_ok S1.2 ht, qn, Bool.not_true, b2i_f, Bool.true_eq_false, Bool.false_eq_true, ↓reduceIte]
  rw [ex_201_24, e0, g2]
  have L2 : LnO u (sAI u1 237 (upd (AI u1 237) k (oI (findV v 1 (tk n f (i + 1)).2.2)))) := L1.ln hk2
  have S2 : RSt (sAI u1 237 (upd (AI u1 237) k (oI (findV v 1 (tk n f (i + 1)).2.2)))) n f (i + 1) := S1.ai (by decide)
  have hgk : AI (sAI u1 237 (upd (AI u1 237) k (oI (findV v 1 (tk n f (i + 1)).2.2)))) 237 k = oI (findV v 1 (tk n f (i + 1)).2.2) := by rw [AI_sAI, if_pos rfl, upd_s]
  have A2 : AI (sAI u1 237 (upd (AI u1 237) k (oI (findV v 1 (tk n f (i + 1)).2.2)))) 237 = upd (AI u 237) k (oI (findV v 1 (tk n f (i + 1)).2.2)) := by rw [AI_sAI, if_pos rfl, k1 237 (by decide)]
  have A3 : AI (sAI u1 237 (upd (AI u1 237) k (oI (findV v 1 (tk n f (i + 1)).2.2)))) 236 = AI u 236 := by rw [AI_sAI, if_neg (by decide), k1 236 (by decide)]
  cases z : findV v 1 (tk n f (i + 1)).2.2 with
  | none =>
    rw [z] at L2 S2 hgk
    have z' : findA (nameV v 1) (tk n f (i + 1)).2.2 (v.1 1) 0 = none := z
    have hfin := hb (fl 2 (tk n f (i + 1))) _ (by simp only [lookR, lookN, qn, if_true, z']) (L2.tr ((RsO.rf _).fi (k := 9) (x := nI (fl 2 (tk n f (i + 1)))) (Or.inl rfl)).ln) (by rw [FI_sFI, if_pos ⟨rfl, rfl⟩])
    have q0 : ¬ (0 : Int32) ≤ oI none := by decide
    simp (disch := first | exact am_nl_i _ | exact am_nl_r _ | exact am_nl_0 | (refine vi_nI ?_ ?_ <;> omega) | assumption | omega | exact b2i_01 _ | exact Or.inl rfl | exact Or.inr rfl | (unfold vi; decide)) only [ex_201_0, ex_201_1, ex_201_4, ex_201_5, ex_201_8, ex_201_11, ex_201_12, ex_201_13, ex_201_16, ex_201_17, ex_201_18, ex_201_21, ex_201_22, ex_201_23, ex_201_24, ex_201_27, ex_201_28, ex_201_29, ex_201_32, ex_201_33, ex_201_34, ex_201_37, ex_201_38, ex_201_42, ex_201_45, ex_201_46, ex_201_49, ex_201_50, if_true, if_false, and_self, Option.toList_some, Option.toList_none, List.singleton_append, List.cons_append, List.nil_append, List.append_nil, nI_1, nt_e, Int32.le_refl, nI_clamp, hgk, q0, Bool.true_eq_false, Bool.false_eq_true, ↓reduceIte]
    generalize (sAI u1 237 (upd (AI u1 237) k (oI none))) = w7 at *
    rw [ex_201_39]
    simp (disch := first | exact am_nl_i _ | exact am_nl_r _ | exact am_nl_0 | (refine vi_nI ?_ ?_ <;> omega) | assumption | omega | exact b2i_01 _ | exact Or.inl rfl | exact Or.inr rfl | (unfold vi; decide)) only [ex_201_0, ex_201_1, ex_201_4, ex_201_5, ex_201_8, ex_201_11, ex_201_12, ex_201_13, ex_201_16, ex_201_17, ex_201_18, ex_201_21, ex_201_22, ex_201_23, ex_201_24, ex_201_27, ex_201_28, ex_201_29, ex_201_32, ex_201_33, ex_201_34, ex_201_37, ex_201_38, ex_201_39, ex_201_42, ex_201_45, ex_201_46, ex_201_49, ex_201_50, if_true, if_false, and_self, Option.toList_some, Option.toList_none, List.singleton_append, List.cons_append, List.nil_append, List.append_nil, nI_1, nt_e, Int32.le_refl, show (2 : Int32) = nI 2 from rfl, fails_ok S2.2, Bool.true_eq_false, Bool.false_eq_true, ↓reduceIte]
    exact hfin
  | some a =>
    rw [z] at L2 S2 hgk A2 A3 hneg
    have z' : findA (nameV v 1) (tk n f (i + 1)).2.2 (v.1 1) 0 = some a := z
    have q0 : (0 : Int32) ≤ oI (some a) := hneg.2.mpr (by simp)
    have hfin := hg a _ (by simp only [lookR, lookN, qn, if_true, z']) L2 S2 A2 A3
    simp (disch := first | exact am_nl_i _ | exact am_nl_r _ | exact am_nl_0 | (refine vi_nI ?_ ?_ <;> omega) | assumption | omega | exact b2i_01 _ | exact Or.inl rfl | exact Or.inr rfl | (unfold vi; decide)) only [ex_201_0, ex_201_1, ex_201_4, ex_201_5, ex_201_8, ex_201_11, ex_201_12, ex_201_13, ex_201_16, ex_201_17, ex_201_18, ex_201_21, ex_201_22, ex_201_23, ex_201_24, ex_201_27, ex_201_28, ex_201_29, ex_201_32, ex_201_33, ex_201_34, ex_201_37, ex_201_38, ex_201_39, ex_201_42, ex_201_45, ex_201_46, ex_201_49, ex_201_50, if_true, if_false, and_self, Option.toList_some, Option.toList_none, List.singleton_append, List.cons_append, List.nil_append, List.append_nil, nI_1, nt_e, Int32.le_refl, nI_clamp, hgk, q0, Bool.true_eq_false, Bool.false_eq_true, ↓reduceIte]
    exact hfin
end LineR
