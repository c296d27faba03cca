/-! MARK, of the reference -/
theorem lq96 : (96 : Int32) = nI 96 := rfl
theorem mul_nI (a b : Nat) : nI a * nI b = nI (a * b) := pk_mul a b
theorem nar_b (c : Bool) : vp_nar .boolean (b2i c) = b2i c := by cases c <;> rfl
theorem LinesR_map {u u' : am_U} {x y : Nat} {h : HL} (h24 : h.1 ≤ 24) (hl : LinesR u x h) (e1 : AI u' 236 y = AI u 236 x) (e2 : ∀ k, k < 96 → AI u' 237 (96 * y + k) = AI u 237 (96 * x + k)) : LinesR u' y h := by
  obtain ⟨a, b⟩ := hl
  refine ⟨e1.trans a, fun j hj => ?_⟩
  obtain ⟨b1, b2, b3, b4⟩ := b j hj
  refine ⟨by rw [e2 (4 * j) (by omega)]; exact b1, fun q => ?_, fun q => ?_, fun q => ?_⟩
  · rw [Nat.add_assoc, e2 (4 * j + 1) (by omega), ← Nat.add_assoc]; exact b2 q
  · rw [Nat.add_assoc, e2 (4 * j + 2) (by omega), ← Nat.add_assoc]; exact b3 q
  · rw [Nat.add_assoc, e2 (4 * j + 3) (by omega), ← Nat.add_assoc]; exact b4 q
theorem ToldR_map {u u' : am_U} {x y : Nat} {t : TL} (h12 : t.1 ≤ 12) (hl : ToldR u x t) (e1 : AI u' 238 y = AI u 238 x) (e2 : ∀ k, k < 12 → AI u' 239 (12 * y + k) = AI u 239 (12 * x + k)) (e3 : ∀ k, k < 12 → AI u' 240 (12 * y + k) = vp_nar .boolean (AI u 240 (12 * x + k)) ∨ AI u' 240 (12 * y + k) = AI u 240 (12 * x + k)) : ToldR u' y t := by
  obtain ⟨a, b⟩ := hl
  refine ⟨e1.trans a, fun j hj => ?_⟩
  obtain ⟨b1, b2⟩ := b j hj
  refine ⟨by rw [e2 j (by omega)]; exact b1, ?_⟩
  rcases e3 j (by omega) with q | q
  · rw [q, b2, nar_b]
  · rw [q, b2]
def lpR (a : Nat) : Prop := a = 236 ∨ a = 237
def ltR (a : Nat) : Prop := a = 238 ∨ a = 239 ∨ a = 240
section MarkR
variable {d : Nat} {u : am_U} {S : ST} {post : Option Value → am_M → Prop}
theorem ex_zast2 {d i pc a n : Nat} {x z : Int32} {u : am_U} {ls : am_L} {st : List Value} {post : Option Value → am_M → Prop} (hc : am_code i pc = some (.bastore, 1)) (h : sh a 103 n) (hi : vi x n) : Ex d i pc ls (.int z :: .int x :: .ref a :: st) (am_emb u) post ↔ Ex d i (pc + 1) ls st (am_emb (sAI u a (upd (AI u a) x.toNatClampNeg (vp_nar .boolean z)))) post := by
  have e1 := em_putrow (u := u) (g := upd (AI u a) x.toNatClampNeg (vp_nar .boolean z)) h
  rw [em_cell_row h (by decide)] at e1
  simp only [am_row, AI_sAI, if_true] at e1
  exact Ex_nx (c := (pc + 1, ls, st, am_emb (sAI u a (upd (AI u a) x.toNatClampNeg (vp_nar .boolean z))))) hc (by simp [am_nx, am_s1, am_s2, am_s3, am_s4, em_row h (by decide), am_row, vi_in hi, e1])
theorem laysPast_ok {x y : Nat} (hx : x ≤ 5) (hy : y ≤ 5) (hxy : x ≠ y) (hp : ∀ u', Only lpR u u' → (∀ j, AI u' 236 j = if j = y then AI u 236 x else AI u 236 j) → (∀ j, AI u' 237 j = if 96 * y ≤ j ∧ j < 96 * y + 96 then AI u 237 (96 * x + (j - 96 * y)) else AI u 237 j) → post none (am_emb u')) : Cl d 203 [.ref 203, .int (nI x), .int (nI y)] (am_emb u) post := by
  rw [op_203]
  simp (disch := first | exact am_nl_i _ | exact am_nl_r _ | exact am_nl_0 | assumption | omega | (refine vi_nI ?_ ?_ <;> omega) | exact b2i_01 _ | exact Or.inl rfl | exact Or.inr rfl | (unfold vi; decide)) only [ex_203_0, ex_203_1, ex_203_4, ex_203_5, ex_203_6, ex_203_9, ex_203_10, ex_203_11, ex_203_12, ex_203_13, ex_203_15, ex_203_17, ex_203_20, ex_203_21, ex_203_24, ex_203_26, ex_203_27, ex_203_28, ex_203_29, ex_203_30, ex_203_31, ex_203_34, ex_203_36, ex_203_37, ex_203_38, ex_203_39, ex_203_40, ex_203_41, ex_203_42, ex_203_45, ex_203_48, if_true, if_false, and_self, Option.toList_some, Option.toList_none, List.singleton_append, List.cons_append, List.nil_append, List.append_nil, nI_1, nt_e, Int32.le_refl, nI_clamp]
  have loop : ∀ (kz i : Nat), i + kz = 96 → ∀ u', Only lpR u u' → (∀ j, AI u' 236 j = if j = y then AI u 236 x else AI u 236 j) → (∀ j, AI u' 237 j = if 96 * y ≤ j ∧ j < 96 * y + i then AI u 237 (96 * x + (j - 96 * y)) else AI u 237 j) → Ex d 203 14 [some (.ref 203), some (.int (nI x)), some (.int (nI y)), some (.int (nI i))] [] (am_emb u') post := by
    intro kz
    induction kz with
    | zero =>
      intro i hi u' ho g1 g2
      obtain rfl : i = 96 := by omega
      rw [ex_203_14]
      simp (disch := first | exact am_nl_i _ | exact am_nl_r _ | exact am_nl_0 | assumption | omega | (refine vi_nI ?_ ?_ <;> omega) | exact b2i_01 _ | exact Or.inl rfl | exact Or.inr rfl | (unfold vi; decide)) only [ex_203_0, ex_203_1, ex_203_4, ex_203_5, ex_203_6, ex_203_9, ex_203_10, ex_203_11, ex_203_12, ex_203_13, ex_203_15, ex_203_17, ex_203_20, ex_203_21, ex_203_24, ex_203_26, ex_203_27, ex_203_28, ex_203_29, ex_203_30, ex_203_31, ex_203_34, ex_203_36, ex_203_37, ex_203_38, ex_203_39, ex_203_40, ex_203_41, ex_203_42, ex_203_45, ex_203_48, if_true, if_false, and_self, Option.toList_some, Option.toList_none, List.singleton_append, List.cons_append, List.nil_append, List.append_nil, nI_1, nt_e, Int32.le_refl, lq96, nI_leI, Nat.le_refl]
      exact hp u' ho g1 g2
    | succ kz ih =>
      intro i hi u' ho g1 g2
      have hnle : ¬ 96 ≤ i := by omega
      have e2 : AI u' 237 (96 * x + i) = AI u 237 (96 * x + i) := by rw [g2, if_neg (by omega)]
      rw [ex_203_14]
      simp (disch := first | exact am_nl_i _ | exact am_nl_r _ | exact am_nl_0 | assumption | omega | (refine vi_nI ?_ ?_ <;> omega) | exact b2i_01 _ | exact Or.inl rfl | exact Or.inr rfl | (unfold vi; decide)) only [ex_203_0, ex_203_1, ex_203_4, ex_203_5, ex_203_6, ex_203_9, ex_203_10, ex_203_11, ex_203_12, ex_203_13, ex_203_15, ex_203_17, ex_203_20, ex_203_21, ex_203_24, ex_203_26, ex_203_27, ex_203_28, ex_203_29, ex_203_30, ex_203_31, ex_203_34, ex_203_36, ex_203_37, ex_203_38, ex_203_39, ex_203_40, ex_203_41, ex_203_42, ex_203_45, ex_203_48, if_true, if_false, and_self, Option.toList_some, Option.toList_none, List.singleton_append, List.cons_append, List.nil_append, List.append_nil, nI_1, nt_e, Int32.le_refl, lq96, nI_leI, hnle, mul_nI, nI_add, nI_clamp, e2]
      refine ih (i + 1) (by omega) _ (of_ai ho (Or.inr rfl)) (fun j => ?_) (fun j => ?_)
      · rw [AI_sAI, if_neg (by decide)]; exact g1 j
      · rw [AI_sAI, if_pos rfl]
        by_cases e : j = 96 * y + i
        · rw [e, upd_s, if_pos (by omega), show 96 * y + i - 96 * y = i by omega]
        · rw [upd_n e, g2 j]
          by_cases q : 96 * y ≤ j ∧ j < 96 * y + i
          · rw [if_pos q, if_pos (by omega)]
          · rw [if_neg q, if_neg (by omega)]
  refine loop 96 0 (by omega) _ (of_ai (Only.rf _ _) (Or.inl rfl)) (fun j => ?_) (fun j => ?_)
  · rw [AI_sAI, if_pos rfl]
    by_cases e : j = y
    · rw [e, upd_s, if_pos rfl]
    · rw [upd_n e, if_neg e]
  · rw [AI_sAI, if_neg (by decide), if_neg (by omega)]
theorem laysTold_ok {x y : Nat} (hx : x ≤ 5) (hy : y ≤ 5) (hxy : x ≠ y) (hp : ∀ u', Only ltR u u' → (∀ j, AI u' 238 j = if j = y then AI u 238 x else AI u 238 j) → (∀ j, AI u' 239 j = if 12 * y ≤ j ∧ j < 12 * y + 12 then AI u 239 (12 * x + (j - 12 * y)) else AI u 239 j) → (∀ j, AI u' 240 j = if 12 * y ≤ j ∧ j < 12 * y + 12 then vp_nar .boolean (AI u 240 (12 * x + (j - 12 * y))) else AI u 240 j) → post none (am_emb u')) : Cl d 204 [.ref 203, .int (nI x), .int (nI y)] (am_emb u) post := by
  rw [op_204]
  simp (disch := first | exact am_nl_i _ | exact am_nl_r _ | exact am_nl_0 | assumption | omega | (refine vi_nI ?_ ?_ <;> omega) | exact b2i_01 _ | exact Or.inl rfl | exact Or.inr rfl | (unfold vi; decide)) only [ex_204_0, ex_204_1, ex_204_4, ex_204_5, ex_204_6, ex_204_9, ex_204_10, ex_204_11, ex_204_12, ex_204_13, ex_204_15, ex_204_17, ex_204_20, ex_204_21, ex_204_24, ex_204_26, ex_204_27, ex_204_28, ex_204_29, ex_204_30, ex_204_31, ex_204_34, ex_204_36, ex_204_37, ex_204_38, ex_204_39, ex_204_40, ex_204_41, ex_204_42, ex_204_43, ex_204_46, ex_204_48, ex_204_49, ex_204_50, ex_204_51, ex_204_52, ex_204_53, ex_204_56, ex_204_58, ex_204_59, ex_204_60, ex_204_61, ex_204_62, ex_204_63, ex_204_64, ex_204_67, ex_204_70, if_true, if_false, and_self, Option.toList_some, Option.toList_none, List.singleton_append, List.cons_append, List.nil_append, List.append_nil, nI_1, nt_e, Int32.le_refl, nI_clamp]
  have loop : ∀ (kz i : Nat), i + kz = 12 → ∀ u', Only ltR u u' → (∀ j, AI u' 238 j = if j = y then AI u 238 x else AI u 238 j) → (∀ j, AI u' 239 j = if 12 * y ≤ j ∧ j < 12 * y + i then AI u 239 (12 * x + (j - 12 * y)) else AI u 239 j) → (∀ j, AI u' 240 j = if 12 * y ≤ j ∧ j < 12 * y + i then vp_nar .boolean (AI u 240 (12 * x + (j - 12 * y))) else AI u 240 j) → Ex d 204 14 [some (.ref 203), some (.int (nI x)), some (.int (nI y)), some (.int (nI i))] [] (am_emb u') post := by
    intro kz
    induction kz with
    | zero =>
      intro i hi u' ho g1 g2 g3
      obtain rfl : i = 12 := by omega
      rw [ex_204_14]
      simp (disch := first | exact am_nl_i _ | exact am_nl_r _ | exact am_nl_0 | assumption | omega | (refine vi_nI ?_ ?_ <;> omega) | exact b2i_01 _ | exact Or.inl rfl | exact Or.inr rfl | (unfold vi; decide)) only [ex_204_0, ex_204_1, ex_204_4, ex_204_5, ex_204_6, ex_204_9, ex_204_10, ex_204_11, ex_204_12, ex_204_13, ex_204_15, ex_204_17, ex_204_20, ex_204_21, ex_204_24, ex_204_26, ex_204_27, ex_204_28, ex_204_29, ex_204_30, ex_204_31, ex_204_34, ex_204_36, ex_204_37, ex_204_38, ex_204_39, ex_204_40, ex_204_41, ex_204_42, ex_204_43, ex_204_46, ex_204_48, ex_204_49, ex_204_50, ex_204_51, ex_204_52, ex_204_53, ex_204_56, ex_204_58, ex_204_59, ex_204_60, ex_204_61, ex_204_62, ex_204_63, ex_204_64, ex_204_67, ex_204_70, if_true, if_false, and_self, Option.toList_some, Option.toList_none, List.singleton_append, List.cons_append, List.nil_append, List.append_nil, nI_1, nt_e, Int32.le_refl, lq12, nI_leI, Nat.le_refl]
      exact hp u' ho g1 g2 g3
    | succ kz ih =>
      intro i hi u' ho g1 g2 g3
      have hnle : ¬ 12 ≤ i := by omega
      have e2 : AI u' 239 (12 * x + i) = AI u 239 (12 * x + i) := by rw [g2, if_neg (by omega)]
      have e3 : AI u' 240 (12 * x + i) = AI u 240 (12 * x + i) := by rw [g3, if_neg (by omega)]
      rw [ex_204_14]
      simp (disch := first | exact am_nl_i _ | exact am_nl_r _ | exact am_nl_0 | assumption | omega | (refine vi_nI ?_ ?_ <;> omega) | exact b2i_01 _ | exact Or.inl rfl | exact Or.inr rfl | (unfold vi; decide)) only [ex_204_0, ex_204_1, ex_204_4, ex_204_5, ex_204_6, ex_204_9, ex_204_10, ex_204_11, ex_204_12, ex_204_13, ex_204_15, ex_204_17, ex_204_20, ex_204_21, ex_204_24, ex_204_26, ex_204_27, ex_204_28, ex_204_29, ex_204_30, ex_204_31, ex_204_34, ex_204_36, ex_204_37, ex_204_38, ex_204_39, ex_204_40, ex_204_41, ex_204_42, ex_204_43, ex_204_46, ex_204_48, ex_204_49, ex_204_50, ex_204_51, ex_204_52, ex_204_53, ex_204_56, ex_204_58, ex_204_59, ex_204_60, ex_204_61, ex_204_62, ex_204_64, ex_204_67, ex_204_70, if_true, if_false, and_self, Option.toList_some, Option.toList_none, List.singleton_append, List.cons_append, List.nil_append, List.append_nil, nI_1, nt_e, Int32.le_refl, lq12, nI_leI, hnle, mul_nI, nI_add, nI_clamp, e2, AI_sAI, Nat.reduceEqDiff, e3]
      rw [ex_zast2 (i := 204) (pc := 63) (by decide +kernel) shl_240 (vi_nI (by omega) (by omega)), nI_clamp (by omega)]
      simp (disch := first | exact am_nl_i _ | exact am_nl_r _ | exact am_nl_0 | assumption | omega | (refine vi_nI ?_ ?_ <;> omega) | exact b2i_01 _ | exact Or.inl rfl | exact Or.inr rfl | (unfold vi; decide)) only [ex_204_0, ex_204_1, ex_204_4, ex_204_5, ex_204_6, ex_204_9, ex_204_10, ex_204_11, ex_204_12, ex_204_13, ex_204_15, ex_204_17, ex_204_20, ex_204_21, ex_204_24, ex_204_26, ex_204_27, ex_204_28, ex_204_29, ex_204_30, ex_204_31, ex_204_34, ex_204_36, ex_204_37, ex_204_38, ex_204_39, ex_204_40, ex_204_41, ex_204_42, ex_204_43, ex_204_46, ex_204_48, ex_204_49, ex_204_50, ex_204_51, ex_204_52, ex_204_53, ex_204_56, ex_204_58, ex_204_59, ex_204_60, ex_204_61, ex_204_62, ex_204_64, ex_204_67, ex_204_70, if_true, if_false, and_self, Option.toList_some, Option.toList_none, List.singleton_append, List.cons_append, List.nil_append, List.append_nil, nI_1, nt_e, Int32.le_refl, Nat.reduceAdd]
      refine ih (i + 1) (by omega) _ (of_ai (of_ai ho (Or.inr (Or.inl rfl))) (Or.inr (Or.inr rfl))) (fun j => ?_) (fun j => ?_) (fun j => ?_)
      · exact g1 j
      · show upd (AI u' 239) _ _ j = _
        by_cases e : j = 12 * y + i
        · rw [e, upd_s, if_pos (by omega), show 12 * y + i - 12 * y = i by omega]
        · rw [upd_n e, g2 j]
          by_cases q : 12 * y ≤ j ∧ j < 12 * y + i
          · rw [if_pos q, if_pos (by omega)]
          · rw [if_neg q, if_neg (by omega)]
      · show upd (AI u' 240) _ _ j = _
        by_cases e : j = 12 * y + i
        · rw [e, upd_s, if_pos (by omega), show 12 * y + i - 12 * y = i by omega]
        · rw [upd_n e, g3 j]
          by_cases q : 12 * y ≤ j ∧ j < 12 * y + i
          · rw [if_pos q, if_pos (by omega)]
          · rw [if_neg q, if_neg (by omega)]
  refine loop 12 0 (by omega) _ (of_ai (Only.rf _ _) (Or.inl rfl)) (fun j => ?_) (fun j => ?_) (fun j => ?_)
  · rw [AI_sAI, if_pos rfl]
    by_cases e : j = y
    · rw [e, upd_s, if_pos rfl]
    · rw [upd_n e, if_neg e]
  · rw [AI_sAI, if_neg (by decide), if_neg (by omega)]
  · rw [AI_sAI, if_neg (by decide), if_neg (by omega)]
def mkR (a : Nat) : Prop := a = 203 ∨ (236 ≤ a ∧ a ≤ 241) ∨ a = 243 ∨ a = 245
theorem R_mark {x : Int32} {c : Bool} (hI : InvR u S) (hS : WS S) (h : ∀ u', Only inR u u' → InvR u' (markS S x c).1 → post (some (.int (b2i (markS S x c).2))) (am_emb u')) : Cl (d + 1) 270 [.ref 203, .int x, .int (b2i c)] (am_emb u) post := by
  have hI1 : InvR (th u 0) S := th_inv hI
  obtain ⟨hR, hcd, ⟨hl, hl2, hl3⟩, hp, hm, htp⟩ := hI1
  have hI1 : InvR (th u 0) S := th_inv hI
  have h6 := hS.1.1.2.2.1
  have hS2 := hS.2.1
  have hS4 := hS.2.2.2.1
  have hin : ∀ a, mkR a → inR a := fun a q => by unfold mkR at q; unfold inR; omega
  have o0 : Only mkR u (th u 0) := Only.sFI (Or.inl rfl)
  rw [op_270]
  simp (disch := first | exact am_nl_i _ | exact am_nl_r _ | exact am_nl_0 | assumption | omega | (refine vi_nI ?_ ?_ <;> omega) | exact b2i_01 _ | exact Or.inl rfl | exact Or.inr rfl | (unfold vi; decide)) only [ex_270_0, ex_270_1, ex_270_2, ex_270_5, ex_270_6, ex_270_7, ex_270_8, ex_270_11, ex_270_14, ex_270_15, ex_270_18, ex_270_19, ex_270_22, ex_270_24, ex_270_27, ex_270_28, ex_270_29, ex_270_30, ex_270_33, ex_270_34, ex_270_36, ex_270_37, ex_270_40, ex_270_41, ex_270_42, ex_270_43, ex_270_46, ex_270_47, ex_270_48, ex_270_49, ex_270_52, ex_270_53, ex_270_56, ex_270_57, ex_270_58, ex_270_59, ex_270_61, ex_270_62, ex_270_63, ex_270_68, ex_270_69, ex_270_70, ex_270_72, ex_270_75, ex_270_76, ex_270_79, ex_270_80, ex_270_83, ex_270_85, ex_270_86, ex_270_87, ex_270_88, ex_270_91, ex_270_92, ex_270_95, ex_270_96, ex_270_97, ex_270_100, ex_270_103, ex_270_104, ex_270_107, ex_270_108, ex_270_109, ex_270_112, ex_270_114, ex_270_115, ex_270_116, ex_270_119, ex_270_120, if_true, if_false, and_self, Option.toList_some, Option.toList_none, List.singleton_append, List.cons_append, List.nil_append, List.append_nil, nI_1, nt_e, Int32.le_refl, th_e, within_ok, b2i_0, show (3 : Int32) = nI 3 from rfl, within_okI (n := 3) (by decide) rfl]
  rw [show (3 + 1) = 4 from rfl]
  unfold markS at h
  cases hx : okI x 4
  · rw [hx] at h
    simp only [if_true]
    exact h _ (o0.wk hin) hI1
  rw [hx] at h
  rw [if_neg (by simp)]
  obtain ⟨i1, i2⟩ := okI_ix hx
  generalize ix x = k at *
  subst i2
  obtain ⟨m1, m2⟩ := hm k i1
  have w245 : mkR 245 := by unfold mkR; omega
  have o1 : ∀ z : Int32, Only mkR (th u 0) (sAI (th u 0) 245 (upd (AI (th u 0) 245) k z)) := fun z => Only.sAI w245
  cases c
  · simp only [if_true]
    rw [ex_270_35 (vi_nI i1 (by omega)) (Or.inr rfl), nI_clamp (by omega)]
    simp (disch := first | exact am_nl_i _ | exact am_nl_r _ | exact am_nl_0 | assumption | omega | (refine vi_nI ?_ ?_ <;> omega) | exact b2i_01 _ | exact Or.inl rfl | exact Or.inr rfl | (unfold vi; decide)) only [ex_270_0, ex_270_1, ex_270_2, ex_270_5, ex_270_6, ex_270_7, ex_270_8, ex_270_11, ex_270_14, ex_270_15, ex_270_18, ex_270_19, ex_270_22, ex_270_23, ex_270_24, ex_270_27, ex_270_28, ex_270_29, ex_270_30, ex_270_33, ex_270_34, ex_270_36, ex_270_37, ex_270_40, ex_270_41, ex_270_42, ex_270_43, ex_270_46, ex_270_47, ex_270_48, ex_270_49, ex_270_52, ex_270_53, ex_270_56, ex_270_57, ex_270_58, ex_270_59, ex_270_61, ex_270_62, ex_270_63, ex_270_68, ex_270_69, ex_270_70, ex_270_75, ex_270_76, ex_270_79, ex_270_80, ex_270_83, ex_270_85, ex_270_86, ex_270_87, ex_270_88, ex_270_91, ex_270_92, ex_270_95, ex_270_96, ex_270_97, ex_270_100, ex_270_103, ex_270_104, ex_270_107, ex_270_108, ex_270_109, ex_270_112, ex_270_114, ex_270_115, ex_270_116, ex_270_119, ex_270_120, if_true, if_false, and_self, Option.toList_some, Option.toList_none, List.singleton_append, List.cons_append, List.nil_append, List.append_nil, nI_1, nt_e, Int32.le_refl, show (1 : Int32) = nI 1 from rfl, nI_add]
    rw [ex_270_65]
    generalize hu1 : sAI (th u 0) 245 (upd (AI (th u 0) 245) k (nI 1)) = u1
    have o1 : Only mkR (th u 0) u1 := hu1 ▸ Only.sAI w245
    refine laysPast_ok (x := 0) (y := 1 + k) (by omega) (by omega) (by omega) (fun u2 o2 g1 g2 => ?_)
    simp (disch := first | exact am_nl_i _ | exact am_nl_r _ | exact am_nl_0 | assumption | omega | (refine vi_nI ?_ ?_ <;> omega) | exact b2i_01 _ | exact Or.inl rfl | exact Or.inr rfl | (unfold vi; decide)) only [ex_270_0, ex_270_1, ex_270_2, ex_270_5, ex_270_6, ex_270_7, ex_270_8, ex_270_11, ex_270_14, ex_270_15, ex_270_18, ex_270_19, ex_270_22, ex_270_23, ex_270_24, ex_270_27, ex_270_28, ex_270_29, ex_270_30, ex_270_33, ex_270_34, ex_270_36, ex_270_37, ex_270_40, ex_270_41, ex_270_42, ex_270_43, ex_270_46, ex_270_47, ex_270_48, ex_270_49, ex_270_52, ex_270_53, ex_270_56, ex_270_57, ex_270_58, ex_270_59, ex_270_61, ex_270_62, ex_270_63, ex_270_68, ex_270_69, ex_270_70, ex_270_75, ex_270_76, ex_270_79, ex_270_80, ex_270_83, ex_270_85, ex_270_86, ex_270_87, ex_270_88, ex_270_91, ex_270_92, ex_270_95, ex_270_96, ex_270_97, ex_270_100, ex_270_103, ex_270_104, ex_270_107, ex_270_108, ex_270_109, ex_270_112, ex_270_114, ex_270_115, ex_270_119, ex_270_120, if_true, if_false, and_self, Option.toList_some, Option.toList_none, List.singleton_append, List.cons_append, List.nil_append, List.append_nil, nI_1, nt_e, Int32.le_refl]
    rw [ex_270_72]
    refine laysTold_ok (x := 0) (y := 1 + k) (by omega) (by omega) (by omega) (fun u3 o3 g3 g4 g5 => ?_)
    simp (disch := first | exact am_nl_i _ | exact am_nl_r _ | exact am_nl_0 | assumption | omega | (refine vi_nI ?_ ?_ <;> omega) | exact b2i_01 _ | exact Or.inl rfl | exact Or.inr rfl | (unfold vi; decide)) only [ex_270_0, ex_270_1, ex_270_2, ex_270_5, ex_270_6, ex_270_7, ex_270_8, ex_270_11, ex_270_14, ex_270_15, ex_270_18, ex_270_19, ex_270_22, ex_270_23, ex_270_24, ex_270_27, ex_270_28, ex_270_29, ex_270_30, ex_270_33, ex_270_34, ex_270_36, ex_270_37, ex_270_40, ex_270_41, ex_270_42, ex_270_43, ex_270_46, ex_270_47, ex_270_48, ex_270_49, ex_270_52, ex_270_53, ex_270_56, ex_270_57, ex_270_58, ex_270_59, ex_270_61, ex_270_62, ex_270_63, ex_270_68, ex_270_69, ex_270_70, ex_270_75, ex_270_76, ex_270_79, ex_270_80, ex_270_83, ex_270_85, ex_270_86, ex_270_87, ex_270_88, ex_270_91, ex_270_92, ex_270_95, ex_270_96, ex_270_97, ex_270_100, ex_270_103, ex_270_104, ex_270_107, ex_270_108, ex_270_109, ex_270_112, ex_270_114, ex_270_115, ex_270_119, ex_270_120, if_true, if_false, and_self, Option.toList_some, Option.toList_none, List.singleton_append, List.cons_append, List.nil_append, List.append_nil, nI_1, nt_e, Int32.le_refl, lq27, mul_nI]
    rw [ex_270_116]
    refine copies_ok (x := 0) (y := 27 * k) shl_241 shl_243 (by omega) (by omega) (by omega) (by omega) (by omega) (fun u4 o4 g6 => ?_)
    simp (disch := first | exact am_nl_i _ | exact am_nl_r _ | exact am_nl_0 | assumption | omega | (refine vi_nI ?_ ?_ <;> omega) | exact b2i_01 _ | exact Or.inl rfl | exact Or.inr rfl | (unfold vi; decide)) only [ex_270_0, ex_270_1, ex_270_2, ex_270_5, ex_270_6, ex_270_7, ex_270_8, ex_270_11, ex_270_14, ex_270_15, ex_270_18, ex_270_19, ex_270_22, ex_270_23, ex_270_24, ex_270_27, ex_270_28, ex_270_29, ex_270_30, ex_270_33, ex_270_34, ex_270_35, ex_270_36, ex_270_37, ex_270_40, ex_270_41, ex_270_42, ex_270_43, ex_270_46, ex_270_47, ex_270_48, ex_270_49, ex_270_52, ex_270_53, ex_270_56, ex_270_57, ex_270_58, ex_270_59, ex_270_61, ex_270_62, ex_270_63, ex_270_65, ex_270_68, ex_270_69, ex_270_70, ex_270_72, ex_270_75, ex_270_76, ex_270_79, ex_270_80, ex_270_83, ex_270_85, ex_270_86, ex_270_87, ex_270_88, ex_270_91, ex_270_92, ex_270_95, ex_270_96, ex_270_97, ex_270_100, ex_270_103, ex_270_104, ex_270_107, ex_270_108, ex_270_109, ex_270_112, ex_270_114, ex_270_115, ex_270_116, ex_270_119, ex_270_120, if_true, if_false, and_self, Option.toList_some, Option.toList_none, List.singleton_append, List.cons_append, List.nil_append, List.append_nil, nI_1, nt_e, Int32.le_refl]
    have oa := (o2.wk (Q := mkR) (fun a q => by unfold lpR at q; unfold mkR; omega)).tr ((o3.wk (Q := mkR) (fun a q => by unfold ltR at q; unfold mkR; omega)).tr (o4.wk (Q := mkR) (fun a q => by unfold is at q; unfold mkR; omega)))
    have E : ∀ a, ¬ (236 ≤ a ∧ a ≤ 240 ∨ a = 243) → AI u4 a = AI u1 a ∧ FI u4 a = FI u1 a := fun a ha => by
      have e4 := o4 a (by unfold is; omega)
      have e3 := o3 a (by unfold ltR; omega)
      have e2 := o2 a (by unfold lpR; omega)
      exact ⟨by rw [e4.2.2.2.1, e3.2.2.2.1, e2.2.2.2.1], by rw [e4.1, e3.1, e2.1]⟩
    have F : ∀ a, ¬ a = 245 → AI u1 a = AI (th u 0) a := fun a ha => by rw [← hu1, AI_sAI, if_neg ha]
    have e236 : ∀ j, AI u4 236 j = if j = 1 + k then AI u 236 0 else AI u 236 j := fun j => by
      rw [(o4 236 (by unfold is; omega)).2.2.2.1, (o3 236 (by unfold ltR; omega)).2.2.2.1, g1, F 236 (by decide)]; rfl
    have e237 : ∀ j, AI u4 237 j = if 96 * (1 + k) ≤ j ∧ j < 96 * (1 + k) + 96 then AI u 237 (96 * 0 + (j - 96 * (1 + k))) else AI u 237 j := fun j => by
      rw [(o4 237 (by unfold is; omega)).2.2.2.1, (o3 237 (by unfold ltR; omega)).2.2.2.1, g2, F 237 (by decide)]; rfl
    have e238 : ∀ j, AI u4 238 j = if j = 1 + k then AI u 238 0 else AI u 238 j := fun j => by
      rw [(o4 238 (by unfold is; omega)).2.2.2.1, g3, (o2 238 (by unfold lpR; omega)).2.2.2.1, F 238 (by decide)]; rfl
    have e239 : ∀ j, AI u4 239 j = if 12 * (1 + k) ≤ j ∧ j < 12 * (1 + k) + 12 then AI u 239 (12 * 0 + (j - 12 * (1 + k))) else AI u 239 j := fun j => by
      rw [(o4 239 (by unfold is; omega)).2.2.2.1, g4, (o2 239 (by unfold lpR; omega)).2.2.2.1, F 239 (by decide)]; rfl
    have e240 : ∀ j, AI u4 240 j = if 12 * (1 + k) ≤ j ∧ j < 12 * (1 + k) + 12 then vp_nar .boolean (AI u 240 (12 * 0 + (j - 12 * (1 + k)))) else AI u 240 j := fun j => by
      rw [(o4 240 (by unfold is; omega)).2.2.2.1, g5, (o2 240 (by unfold lpR; omega)).2.2.2.1, F 240 (by decide)]; rfl
    have e243 : ∀ j, AI u4 243 j = if 27 * k ≤ j ∧ j < 27 * k + 27 then AI u 241 (0 + (j - 27 * k)) else AI u 243 j := fun j => by
      rw [g6, (o3 241 (by unfold ltR; omega)).2.2.2.1, (o3 243 (by unfold ltR; omega)).2.2.2.1, (o2 241 (by unfold lpR; omega)).2.2.2.1, (o2 243 (by unfold lpR; omega)).2.2.2.1, F 241 (by decide), F 243 (by decide)]; rfl
    have e245 : ∀ j, AI u4 245 j = if j = k then 1 else AI u 245 j := fun j => by
      rw [(E 245 (by omega)).1, ← hu1, AI_sAI, if_pos rfl]
      by_cases q : j = k
      · rw [q, upd_s, if_pos rfl]; rfl
      · rw [upd_n q, if_neg q]; rfl
    have LK : ∀ o h, h.1 ≤ 24 → o ≤ 5 → o ≠ 1 + k → LinesR u o h → LinesR u4 o h := fun o h h24 ho5 hne hl => LinesR_map h24 hl (by rw [e236, if_neg hne]) (fun j hj => by rw [e237, if_neg (by omega)])
    have TK : ∀ o t, t.1 ≤ 12 → o ≤ 5 → o ≠ 1 + k → ToldR u o t → ToldR u4 o t := fun o t h12 ho5 hne hl => ToldR_map h12 hl (by rw [e238, if_neg hne]) (fun j hj => by rw [e239, if_neg (by omega)]) (fun j hj => Or.inr (by rw [e240, if_neg (by omega)]))
    refine h u4 ((o0.tr (o1.tr oa)).wk hin) ⟨hR.keep (o1.tr oa) (fun a q1 q2 q => by unfold mkR at q; omega), hcd.keep (o1.tr oa) (fun a q1 q2 q => by unfold mkR at q; omega), ⟨?_, LK 0 _ hS2.2.1.1 (by omega) (by omega) hl2, TK 0 _ hS2.2.2.1 (by omega) (by omega) hl3⟩, ?_, fun j hj => ?_, ?_⟩
    · unfold LifeR
      rw [(E 241 (by omega)).1, F 241 (by decide)]
      exact hl
    · unfold PastR
      rw [(E 203 (by omega)).2, (E 244 (by omega)).1, F 244 (by decide), ← hu1]
      exact hp
    · show _ = b2i (if j = k then some S.2.1 else S.2.2.2.1 j).isSome ∧ ∀ s, (if j = k then some S.2.1 else S.2.2.2.1 j) = some s → _
      by_cases q : j = k
      · rw [if_pos q, e245, if_pos q, q]
        refine ⟨rfl, fun s hs => ?_⟩
        cases hs
        exact ⟨RowR_map h6 hl (fun i hi => by rw [e243, if_pos (by omega), show 0 + (27 * k + i - 27 * k) = 0 + i by omega]; rfl), LinesR_map hS2.2.1.1 hl2 (by rw [e236, if_pos rfl]; rfl) (fun i hi => by rw [e237, if_pos (by omega), show 96 * 0 + (96 * (1 + k) + i - 96 * (1 + k)) = 96 * 0 + i by omega]; rfl), ToldR_map hS2.2.2.1 hl3 (by rw [e238, if_pos rfl]; rfl) (fun i hi => by rw [e239, if_pos (by omega), show 12 * 0 + (12 * (1 + k) + i - 12 * (1 + k)) = 12 * 0 + i by omega]; rfl) (fun i hi => Or.inl (by rw [e240, if_pos (by omega), show 12 * 0 + (12 * (1 + k) + i - 12 * (1 + k)) = 12 * 0 + i by omega]; rfl))⟩
      · rw [if_neg q, e245, if_neg q]
        refine ⟨(hm j hj).1, fun s hs => ?_⟩
        obtain ⟨z1, z2, z3⟩ := (hm j hj).2 s hs
        exact ⟨RowR_map h6 z1 (fun i hi => by rw [e243, if_neg (by omega)]; rfl), LK _ _ (hS4 j s hs).2.1.1 (by omega) (by omega) z2, TK _ _ (hS4 j s hs).2.2.1 (by omega) (by omega) z3⟩
    · unfold TapeR
      rw [(E 203 (by omega)).2, (E 204 (by omega)).1, F 204 (by decide), ← hu1]
      exact htp
  · simp only [Bool.true_eq_false, if_false]
    rw [ex_270_23 (vi_nI i1 (by omega)), nI_clamp (by omega), m1]
    cases hs : S.2.2.2.1 k with
    | none =>
      simp only [if_true, hs] at h
      simp (disch := first | exact am_nl_i _ | exact am_nl_r _ | exact am_nl_0 | assumption | omega | (refine vi_nI ?_ ?_ <;> omega) | exact b2i_01 _ | exact Or.inl rfl | exact Or.inr rfl | (unfold vi; decide)) only [ex_270_0, ex_270_1, ex_270_2, ex_270_5, ex_270_6, ex_270_7, ex_270_8, ex_270_11, ex_270_14, ex_270_15, ex_270_18, ex_270_19, ex_270_22, ex_270_23, ex_270_24, ex_270_27, ex_270_28, ex_270_29, ex_270_30, ex_270_33, ex_270_34, ex_270_36, ex_270_37, ex_270_40, ex_270_41, ex_270_42, ex_270_43, ex_270_46, ex_270_47, ex_270_48, ex_270_49, ex_270_52, ex_270_53, ex_270_56, ex_270_57, ex_270_58, ex_270_59, ex_270_61, ex_270_62, ex_270_63, ex_270_68, ex_270_69, ex_270_70, ex_270_72, ex_270_75, ex_270_76, ex_270_79, ex_270_80, ex_270_83, ex_270_85, ex_270_86, ex_270_87, ex_270_88, ex_270_91, ex_270_92, ex_270_95, ex_270_96, ex_270_97, ex_270_100, ex_270_103, ex_270_104, ex_270_107, ex_270_108, ex_270_109, ex_270_112, ex_270_114, ex_270_115, ex_270_116, ex_270_119, ex_270_120, if_true, if_false, and_self, Option.toList_some, Option.toList_none, List.singleton_append, List.cons_append, List.nil_append, List.append_nil, nI_1, nt_e, Int32.le_refl, show b2i (none : Option SN).isSome = 0 from rfl]
      exact h _ (o0.wk hin) hI1
    | some s =>
      simp only [if_true, hs] at h
      simp (disch := first | exact am_nl_i _ | exact am_nl_r _ | exact am_nl_0 | assumption | omega | (refine vi_nI ?_ ?_ <;> omega) | exact b2i_01 _ | exact Or.inl rfl | exact Or.inr rfl | (unfold vi; decide)) only [ex_270_0, ex_270_1, ex_270_2, ex_270_5, ex_270_6, ex_270_7, ex_270_8, ex_270_11, ex_270_14, ex_270_15, ex_270_18, ex_270_19, ex_270_22, ex_270_23, ex_270_24, ex_270_27, ex_270_28, ex_270_29, ex_270_30, ex_270_33, ex_270_34, ex_270_36, ex_270_37, ex_270_40, ex_270_41, ex_270_42, ex_270_43, ex_270_46, ex_270_47, ex_270_48, ex_270_49, ex_270_52, ex_270_53, ex_270_56, ex_270_57, ex_270_58, ex_270_59, ex_270_61, ex_270_62, ex_270_63, ex_270_68, ex_270_69, ex_270_70, ex_270_72, ex_270_75, ex_270_76, ex_270_79, ex_270_80, ex_270_83, ex_270_85, ex_270_86, ex_270_87, ex_270_88, ex_270_91, ex_270_92, ex_270_95, ex_270_96, ex_270_97, ex_270_100, ex_270_103, ex_270_104, ex_270_107, ex_270_108, ex_270_109, ex_270_112, ex_270_114, ex_270_115, ex_270_116, ex_270_119, ex_270_120, if_true, if_false, and_self, Option.toList_some, Option.toList_none, List.singleton_append, List.cons_append, List.nil_append, List.append_nil, nI_1, nt_e, Int32.le_refl, show ((1 : Int32) = (0 : Int32)) = False from eq_false (by decide), show b2i (some s).isSome = 1 from rfl]
      rw [ex_270_35 (vi_nI i1 (by omega)) (Or.inr rfl), nI_clamp (by omega)]
      simp (disch := first | exact am_nl_i _ | exact am_nl_r _ | exact am_nl_0 | (refine vi_nI ?_ ?_ <;> omega) | assumption | omega | exact b2i_01 _ | exact Or.inl rfl | exact Or.inr rfl | (unfold vi; decide)) only [ex_270_0, ex_270_1, ex_270_2, ex_270_5, ex_270_6, ex_270_7, ex_270_8, ex_270_11, ex_270_14, ex_270_15, ex_270_18, ex_270_19, ex_270_22, ex_270_23, ex_270_24, ex_270_27, ex_270_28, ex_270_29, ex_270_30, ex_270_33, ex_270_34, ex_270_36, ex_270_37, ex_270_40, ex_270_41, ex_270_42, ex_270_43, ex_270_46, ex_270_47, ex_270_48, ex_270_49, ex_270_52, ex_270_53, ex_270_56, ex_270_57, ex_270_58, ex_270_59, ex_270_61, ex_270_62, ex_270_63, ex_270_68, ex_270_69, ex_270_70, ex_270_75, ex_270_76, ex_270_79, ex_270_80, ex_270_83, ex_270_85, ex_270_86, ex_270_87, ex_270_88, ex_270_91, ex_270_92, ex_270_95, ex_270_96, ex_270_97, ex_270_100, ex_270_103, ex_270_104, ex_270_107, ex_270_108, ex_270_109, ex_270_112, ex_270_114, ex_270_115, ex_270_116, ex_270_119, ex_270_120, if_true, if_false, and_self, Option.toList_some, Option.toList_none, List.singleton_append, List.cons_append, List.nil_append, List.append_nil, nI_1, nt_e, Int32.le_refl, b2i_0, show (1 : Int32) = nI 1 from rfl, nI_add, Bool.true_eq_false, Bool.false_eq_true, ↓reduceIte]
      rw [ex_270_65]
      generalize hu1 : sAI (th u 0) 245 (upd (AI (th u 0) 245) k (nI 1)) = u1
      have o1 : Only mkR (th u 0) u1 := hu1 ▸ Only.sAI w245
      refine laysPast_ok (x := 1 + k) (y := 0) (by omega) (by omega) (by omega) (fun u2 o2 g1 g2 => ?_)
      simp (disch := first | exact am_nl_i _ | exact am_nl_r _ | exact am_nl_0 | (refine vi_nI ?_ ?_ <;> omega) | assumption | omega | exact b2i_01 _ | exact Or.inl rfl | exact Or.inr rfl | (unfold vi; decide)) only [ex_270_0, ex_270_1, ex_270_2, ex_270_5, ex_270_6, ex_270_7, ex_270_8, ex_270_11, ex_270_14, ex_270_15, ex_270_18, ex_270_19, ex_270_22, ex_270_23, ex_270_24, ex_270_27, ex_270_28, ex_270_29, ex_270_30, ex_270_33, ex_270_34, ex_270_36, ex_270_37, ex_270_40, ex_270_41, ex_270_42, ex_270_43, ex_270_46, ex_270_47, ex_270_48, ex_270_49, ex_270_52, ex_270_53, ex_270_56, ex_270_57, ex_270_58, ex_270_59, ex_270_61, ex_270_62, ex_270_63, ex_270_68, ex_270_69, ex_270_70, ex_270_75, ex_270_76, ex_270_79, ex_270_80, ex_270_83, ex_270_85, ex_270_86, ex_270_87, ex_270_88, ex_270_91, ex_270_95, ex_270_96, ex_270_97, ex_270_100, ex_270_103, ex_270_104, ex_270_107, ex_270_108, ex_270_109, ex_270_112, ex_270_114, ex_270_115, ex_270_116, ex_270_119, ex_270_120, if_true, if_false, and_self, Option.toList_some, Option.toList_none, List.singleton_append, List.cons_append, List.nil_append, List.append_nil, nI_1, nt_e, Int32.le_refl, b2i_0, Bool.true_eq_false, Bool.false_eq_true, ↓reduceIte]
      rw [ex_270_72]
      refine laysTold_ok (x := 1 + k) (y := 0) (by omega) (by omega) (by omega) (fun u3 o3 g3 g4 g5 => ?_)
      simp (disch := first | exact am_nl_i _ | exact am_nl_r _ | exact am_nl_0 | (refine vi_nI ?_ ?_ <;> omega) | assumption | omega | exact b2i_01 _ | exact Or.inl rfl | exact Or.inr rfl | (unfold vi; decide)) only [ex_270_0, ex_270_1, ex_270_2, ex_270_5, ex_270_6, ex_270_7, ex_270_8, ex_270_11, ex_270_14, ex_270_15, ex_270_18, ex_270_19, ex_270_22, ex_270_23, ex_270_24, ex_270_27, ex_270_28, ex_270_29, ex_270_30, ex_270_33, ex_270_34, ex_270_36, ex_270_37, ex_270_40, ex_270_41, ex_270_42, ex_270_43, ex_270_46, ex_270_47, ex_270_48, ex_270_49, ex_270_52, ex_270_53, ex_270_56, ex_270_57, ex_270_58, ex_270_59, ex_270_61, ex_270_62, ex_270_63, ex_270_68, ex_270_69, ex_270_70, ex_270_75, ex_270_76, ex_270_79, ex_270_80, ex_270_83, ex_270_85, ex_270_86, ex_270_87, ex_270_88, ex_270_91, ex_270_95, ex_270_96, ex_270_97, ex_270_100, ex_270_103, ex_270_104, ex_270_107, ex_270_108, ex_270_109, ex_270_112, ex_270_114, ex_270_115, ex_270_116, ex_270_119, ex_270_120, if_true, if_false, and_self, Option.toList_some, Option.toList_none, List.singleton_append, List.cons_append, List.nil_append, List.append_nil, nI_1, nt_e, Int32.le_refl, b2i_0, lq27, mul_nI, Bool.true_eq_false, Bool.false_eq_true, ↓reduceIte]
      rw [ex_270_92]
      refine copies_ok (x := 27 * k) (y := 0) shl_243 shl_241 (by omega) (by omega) (by omega) (by omega) (by omega) (fun u4 o4 g6 => ?_)
      simp (disch := first | exact am_nl_i _ | exact am_nl_r _ | exact am_nl_0 | assumption | omega | (refine vi_nI ?_ ?_ <;> omega) | exact b2i_01 _ | exact Or.inl rfl | exact Or.inr rfl | (unfold vi; decide)) only [ex_270_0, ex_270_1, ex_270_2, ex_270_5, ex_270_6, ex_270_7, ex_270_8, ex_270_11, ex_270_14, ex_270_15, ex_270_18, ex_270_19, ex_270_22, ex_270_23, ex_270_24, ex_270_27, ex_270_28, ex_270_29, ex_270_30, ex_270_33, ex_270_34, ex_270_35, ex_270_36, ex_270_37, ex_270_40, ex_270_41, ex_270_42, ex_270_43, ex_270_46, ex_270_47, ex_270_48, ex_270_49, ex_270_52, ex_270_53, ex_270_56, ex_270_57, ex_270_58, ex_270_59, ex_270_61, ex_270_62, ex_270_63, ex_270_65, ex_270_68, ex_270_69, ex_270_70, ex_270_72, ex_270_75, ex_270_76, ex_270_79, ex_270_80, ex_270_83, ex_270_85, ex_270_86, ex_270_87, ex_270_88, ex_270_91, ex_270_92, ex_270_95, ex_270_96, ex_270_97, ex_270_100, ex_270_103, ex_270_104, ex_270_107, ex_270_108, ex_270_109, ex_270_112, ex_270_114, ex_270_115, ex_270_116, ex_270_119, ex_270_120, if_true, if_false, and_self, Option.toList_some, Option.toList_none, List.singleton_append, List.cons_append, List.nil_append, List.append_nil, nI_1, nt_e, Int32.le_refl]
      have w203 : mkR 203 := Or.inl rfl
      have oa := (o2.wk (Q := mkR) (fun a q => by unfold lpR at q; unfold mkR; omega)).tr ((o3.wk (Q := mkR) (fun a q => by unfold ltR at q; unfold mkR; omega)).tr (o4.wk (Q := mkR) (fun a q => by unfold is at q; unfold mkR; omega)))
      have ob := of_fi (k := 55) (x := 0) oa w203
      have E : ∀ a, ¬ (236 ≤ a ∧ a ≤ 241) → AI u4 a = AI u1 a ∧ FI u4 a = FI u1 a := fun a ha => by
        have e4 := o4 a (by unfold is; omega)
        have e3 := o3 a (by unfold ltR; omega)
        have e2 := o2 a (by unfold lpR; omega)
        exact ⟨by rw [e4.2.2.2.1, e3.2.2.2.1, e2.2.2.2.1], by rw [e4.1, e3.1, e2.1]⟩
      have F : ∀ a, ¬ a = 245 → AI u1 a = AI (th u 0) a := fun a ha => by rw [← hu1, AI_sAI, if_neg ha]
      have e236 : ∀ j, AI u4 236 j = if j = 0 then AI u 236 (1 + k) else AI u 236 j := fun j => by
        rw [(o4 236 (by unfold is; omega)).2.2.2.1, (o3 236 (by unfold ltR; omega)).2.2.2.1, g1, F 236 (by decide)]; rfl
      have e237 : ∀ j, AI u4 237 j = if 96 * 0 ≤ j ∧ j < 96 * 0 + 96 then AI u 237 (96 * (1 + k) + (j - 96 * 0)) else AI u 237 j := fun j => by
        rw [(o4 237 (by unfold is; omega)).2.2.2.1, (o3 237 (by unfold ltR; omega)).2.2.2.1, g2, F 237 (by decide)]; rfl
      have e238 : ∀ j, AI u4 238 j = if j = 0 then AI u 238 (1 + k) else AI u 238 j := fun j => by
        rw [(o4 238 (by unfold is; omega)).2.2.2.1, g3, (o2 238 (by unfold lpR; omega)).2.2.2.1, F 238 (by decide)]; rfl
      have e239 : ∀ j, AI u4 239 j = if 12 * 0 ≤ j ∧ j < 12 * 0 + 12 then AI u 239 (12 * (1 + k) + (j - 12 * 0)) else AI u 239 j := fun j => by
        rw [(o4 239 (by unfold is; omega)).2.2.2.1, g4, (o2 239 (by unfold lpR; omega)).2.2.2.1, F 239 (by decide)]; rfl
      have e240 : ∀ j, AI u4 240 j = if 12 * 0 ≤ j ∧ j < 12 * 0 + 12 then vp_nar .boolean (AI u 240 (12 * (1 + k) + (j - 12 * 0))) else AI u 240 j := fun j => by
        rw [(o4 240 (by unfold is; omega)).2.2.2.1, g5, (o2 240 (by unfold lpR; omega)).2.2.2.1, F 240 (by decide)]; rfl
      have e241 : ∀ j, AI u4 241 j = if 0 ≤ j ∧ j < 0 + 27 then AI u 243 (27 * k + (j - 0)) else AI u 241 j := fun j => by
        rw [g6, (o3 241 (by unfold ltR; omega)).2.2.2.1, (o3 243 (by unfold ltR; omega)).2.2.2.1, (o2 241 (by unfold lpR; omega)).2.2.2.1, (o2 243 (by unfold lpR; omega)).2.2.2.1, F 241 (by decide), F 243 (by decide)]; rfl
      obtain ⟨y1, y2, y3⟩ := m2 s hs
      have hSs := hS4 k s hs
      have LK : ∀ o h, h.1 ≤ 24 → 1 ≤ o → LinesR u o h → LinesR u4 o h := fun o h h24 ho5 hl => LinesR_map h24 hl (by rw [e236, if_neg (by omega)]) (fun j hj => by rw [e237, if_neg (by omega)])
      have TK : ∀ o t, t.1 ≤ 12 → 1 ≤ o → ToldR u o t → ToldR u4 o t := fun o t h12 ho5 hl => ToldR_map h12 hl (by rw [e238, if_neg (by omega)]) (fun j hj => by rw [e239, if_neg (by omega)]) (fun j hj => Or.inr (by rw [e240, if_neg (by omega)]))
      refine h _ ((o0.tr (o1.tr ob)).wk hin) ⟨hR.keep (o1.tr ob) (fun a q1 q2 q => by unfold mkR at q; omega), hcd.keep (o1.tr ob) (fun a q1 q2 q => by unfold mkR at q; omega), ⟨?_, ?_, ?_⟩, ⟨?_, fun j hj => absurd hj (Nat.not_lt_zero j)⟩, fun j hj => ?_, ?_⟩
      · exact RowR_map h6 y1 (fun i hi => by show AI u4 241 (0 + i) = _; rw [e241, if_pos (by omega), show 27 * k + (0 + i - 0) = 27 * k + i by omega]; rfl)
      · have := LinesR_map (u' := u4) (y := 0) hSs.2.1.1 y2 (by rw [e236, if_pos rfl]; rfl) (fun i hi => by rw [e237, if_pos (by omega), show 96 * (1 + k) + (96 * 0 + i - 96 * 0) = 96 * (1 + k) + i by omega]; rfl)
        exact this
      · have := ToldR_map (u' := u4) (y := 0) hSs.2.2.1 y3 (by rw [e238, if_pos rfl]; rfl) (fun i hi => by rw [e239, if_pos (by omega), show 12 * (1 + k) + (12 * 0 + i - 12 * 0) = 12 * (1 + k) + i by omega]; rfl) (fun i hi => Or.inl (by rw [e240, if_pos (by omega), show 12 * (1 + k) + (12 * 0 + i - 12 * 0) = 12 * (1 + k) + i by omega]; rfl))
        exact this
      · rw [FI_sFI, if_pos ⟨rfl, rfl⟩]; rfl
      · have e245 : AI u4 245 j = b2i (S.2.2.2.1 j).isSome := by
          rw [(E 245 (by omega)).1, ← hu1, AI_sAI, if_pos rfl]
          by_cases q : j = k
          · rw [q, upd_s, hs]; rfl
          · rw [upd_n q]; exact (hm j hj).1
        refine ⟨e245, fun s2 hs2 => ?_⟩
        obtain ⟨z1, z2, z3⟩ := (hm j hj).2 s2 hs2
        have hS3 := hS4 j s2 hs2
        refine ⟨RowR_map h6 z1 (fun i hi => ?_), LK _ _ hS3.2.1.1 (by omega) z2, TK _ _ hS3.2.2.1 (by omega) z3⟩
        show AI u4 243 _ = _
        rw [(E 243 (by omega)).1, F 243 (by decide)]
      · unfold TapeR
        show FI (sFI u4 203 55 0) 203 1 = _ ∧ _
        have f204 := F 204 (by decide)
        rw [FI_sFI, if_neg (by omega), (E 203 (by omega)).2]
        refine ⟨by rw [← hu1]; exact htp.1, fun j hj => ?_⟩
        show AI u4 204 j = _
        rw [(E 204 (by omega)).1, f204]
        exact htp.2 j hj
end MarkR
