/-! THE REFERENCE: a life kept to be undone -/
theorem RowR_map {v : LV} {f g : Nat → Int32} {o o' : Nat} {l : LF} (h6 : nE v ≤ 6) (h : RowR v f o l) (hg : ∀ k, k < 27 → g (o' + k) = f (o + k)) : RowR v g o' l := by
  obtain ⟨a1, a2, a3, a4, a5, a6⟩ := h
  exact ⟨fun p hp => by rw [hg p (by omega)]; exact a1 p hp, fun p hp => by rw [hg (6 + p) (by omega)]; exact a2 p hp, by rw [hg 12 (by omega)]; exact a3, fun k hk => by rw [hg (13 + k) (by omega)]; exact a4 k hk, by rw [hg 25 (by omega)]; exact a5, by rw [hg 26 (by omega)]; exact a6⟩
theorem lq405 : (405 : Int32) = nI 405 := rfl
theorem mul27 {n : Nat} (h : n < 17) : (27 : Int32) * nI n = nI (27 * n) := (by decide +kernel : ∀ n, n < 17 → (27 : Int32) * nI n = nI (27 * n)) n h
def keptP (a : Nat) : Prop := a = 203 ∨ a = 244
section Keeps
variable {d : Nat} {u : am_U} {m : am_M} {v : LV} {l : LF} {post : Option Value → am_M → Prop} {p : Nat × (Nat → LF)}
theorem keepsA {n : Nat} {x : Option Value} (h6 : nE v ≤ 6) (hn : n < 16) (hd : FI u 203 55 = nI n) (hP : ∀ j, j < n → RowR v (AI u 244) (27 * j) (p.2 j)) (hl : LifeR u v l)
    (h : ∀ u', Only keptP u u' → (∀ k, k ≠ 55 → FI u' 203 k = FI u 203 k) → PastR u' v (n + 1, fun j => if j = n then l else p.2 j) → post none (am_emb u')) : Ex (d + 1) 224 49 [some (.ref 203), x] [] (am_emb u) post := by
  rw [ex_224_49]
  simp (disch := first | exact am_nl_i _ | exact am_nl_r _ | exact am_nl_0 | assumption | omega | (refine vi_nI ?_ ?_ <;> omega) | exact b2i_01 _ | exact Or.inl rfl | exact Or.inr rfl | (unfold vi; decide)) only [ex_224_0, ex_224_1, ex_224_4, ex_224_6, ex_224_9, ex_224_10, ex_224_11, ex_224_12, ex_224_15, ex_224_18, ex_224_19, ex_224_22, ex_224_23, ex_224_24, ex_224_27, ex_224_28, ex_224_30, ex_224_31, ex_224_32, ex_224_33, ex_224_36, ex_224_39, ex_224_40, ex_224_41, ex_224_44, ex_224_45, ex_224_46, ex_224_50, ex_224_53, ex_224_54, ex_224_55, ex_224_58, ex_224_60, ex_224_61, ex_224_64, ex_224_68, ex_224_69, ex_224_70, ex_224_73, ex_224_74, ex_224_75, ex_224_78, if_true, if_false, and_self, Option.toList_some, Option.toList_none, List.singleton_append, List.cons_append, List.nil_append, List.append_nil, nI_1, nt_e, Int32.le_refl, hd, mul27]
  rw [ex_224_65]
  refine copies_ok (x := 0) (y := 27 * n) shl_241 shl_244 (by omega) (by omega) (by omega) (by omega) (by omega) (fun u1 o1 g1 => ?_)
  have e0 : FI u1 203 = FI u 203 := (o1 203 (by unfold is; omega)).1
  simp (disch := first | exact am_nl_i _ | exact am_nl_r _ | exact am_nl_0 | assumption | omega | (refine vi_nI ?_ ?_ <;> omega) | exact b2i_01 _ | exact Or.inl rfl | exact Or.inr rfl | (unfold vi; decide)) only [ex_224_0, ex_224_1, ex_224_4, ex_224_6, ex_224_9, ex_224_10, ex_224_11, ex_224_12, ex_224_15, ex_224_18, ex_224_19, ex_224_22, ex_224_23, ex_224_24, ex_224_27, ex_224_28, ex_224_30, ex_224_31, ex_224_32, ex_224_33, ex_224_36, ex_224_39, ex_224_40, ex_224_41, ex_224_44, ex_224_45, ex_224_46, ex_224_50, ex_224_53, ex_224_54, ex_224_55, ex_224_58, ex_224_60, ex_224_61, ex_224_64, ex_224_68, ex_224_69, ex_224_70, ex_224_73, ex_224_74, ex_224_75, ex_224_78, if_true, if_false, and_self, Option.toList_some, Option.toList_none, List.singleton_append, List.cons_append, List.nil_append, List.append_nil, nI_1, nt_e, Int32.le_refl, e0, hd]
  refine h _ (of_fi (o1.wk (fun a q => Or.inr q)) (Or.inl rfl)) (fun k hk => ?_) ⟨?_, fun j hj => ?_⟩
  · rw [FI_sFI, if_neg (by omega), e0]
  · rw [FI_sFI, if_pos ⟨rfl, rfl⟩]
  · have hj : j < n + 1 := hj
    show RowR v (AI u1 244) (27 * j) (if j = n then l else p.2 j)
    by_cases e : j = n
    · rw [if_pos e, e]
      exact RowR_map h6 hl (fun k hk => by rw [g1, if_pos (by omega), show 0 + (27 * n + k - 27 * n) = 0 + k by omega])
    · rw [if_neg e]
      exact RowR_map h6 (hP j (by omega)) (fun k hk => by rw [g1, if_neg (by omega)])
theorem keeps_ok (h6 : nE v ≤ 6) (hp : p.1 ≤ 16) (hP : PastR u v p) (hl : LifeR u v l)
    (h : ∀ u', Only keptP u u' → (∀ k, k ≠ 55 → FI u' 203 k = FI u 203 k) → PastR u' v (pushV p l) → post none (am_emb u')) : Cl (d + 1) 224 [.ref 203] (am_emb u) post := by
  obtain ⟨hd, hR⟩ := hP
  rw [op_224]
  by_cases hq : p.1 < 16
  · rw [pushV, if_pos hq] at h
    have hne : ¬ nI p.1 = 16 := (by decide +kernel : ∀ n, n < 16 → ¬ nI n = 16) p.1 hq
    simp (disch := first | exact am_nl_i _ | exact am_nl_r _ | exact am_nl_0 | assumption | omega | (refine vi_nI ?_ ?_ <;> omega) | exact b2i_01 _ | exact Or.inl rfl | exact Or.inr rfl | (unfold vi; decide)) only [ex_224_0, ex_224_1, ex_224_4, ex_224_6, ex_224_9, ex_224_10, ex_224_12, ex_224_15, ex_224_18, ex_224_19, ex_224_22, ex_224_23, ex_224_24, ex_224_27, ex_224_28, ex_224_30, ex_224_31, ex_224_32, ex_224_33, ex_224_36, ex_224_39, ex_224_40, ex_224_41, ex_224_44, ex_224_45, ex_224_46, ex_224_50, ex_224_53, ex_224_54, ex_224_55, ex_224_58, ex_224_60, ex_224_61, ex_224_64, ex_224_65, ex_224_68, ex_224_69, ex_224_70, ex_224_73, ex_224_74, ex_224_75, ex_224_78, if_true, if_false, and_self, Option.toList_some, Option.toList_none, List.singleton_append, List.cons_append, List.nil_append, List.append_nil, nI_1, nt_e, Int32.le_refl, hd, hne]
    exact keepsA h6 hq hd hR hl h
  · have h16 : p.1 = 16 := by omega
    rw [pushV, if_neg hq] at h
    rw [h16] at hd
    simp (disch := first | exact am_nl_i _ | exact am_nl_r _ | exact am_nl_0 | assumption | omega | (refine vi_nI ?_ ?_ <;> omega) | exact b2i_01 _ | exact Or.inl rfl | exact Or.inr rfl | (unfold vi; decide)) only [ex_224_0, ex_224_1, ex_224_4, ex_224_6, ex_224_9, ex_224_10, ex_224_12, ex_224_15, ex_224_18, ex_224_19, ex_224_22, ex_224_23, ex_224_24, ex_224_27, ex_224_28, ex_224_30, ex_224_31, ex_224_32, ex_224_33, ex_224_36, ex_224_39, ex_224_40, ex_224_41, ex_224_44, ex_224_45, ex_224_46, ex_224_50, ex_224_53, ex_224_54, ex_224_55, ex_224_58, ex_224_60, ex_224_61, ex_224_64, ex_224_65, ex_224_68, ex_224_69, ex_224_70, ex_224_73, ex_224_74, ex_224_75, ex_224_78, if_true, if_false, and_self, Option.toList_some, Option.toList_none, List.singleton_append, List.cons_append, List.nil_append, List.append_nil, nI_1, nt_e, Int32.le_refl, hd, show nI 16 = 16 from rfl]
    have loop : ∀ (k i : Nat), i + k = 405 → ∀ u', Only (is 244) u u' → (∀ j, AI u' 244 j = if j < i then AI u 244 (j + 27) else AI u 244 j) → Ex (d + 1) 224 11 [some (.ref 203), some (.int (nI i))] [] (am_emb u') post := by
      intro k
      induction k with
      | zero =>
        intro i hi u' ho hj
        obtain rfl : i = 405 := by omega
        have e0 : FI u' 203 = FI u 203 := (ho 203 (by unfold is; omega)).1
        have e1 : AI u' 241 = AI u 241 := (ho 241 (by unfold is; omega)).2.2.2.1
        rw [ex_224_11]
        simp (disch := first | exact am_nl_i _ | exact am_nl_r _ | exact am_nl_0 | assumption | omega | (refine vi_nI ?_ ?_ <;> omega) | exact b2i_01 _ | exact Or.inl rfl | exact Or.inr rfl | (unfold vi; decide)) only [ex_224_0, ex_224_1, ex_224_4, ex_224_6, ex_224_9, ex_224_10, ex_224_12, ex_224_15, ex_224_18, ex_224_19, ex_224_22, ex_224_23, ex_224_24, ex_224_27, ex_224_28, ex_224_30, ex_224_31, ex_224_32, ex_224_33, ex_224_36, ex_224_39, ex_224_40, ex_224_41, ex_224_44, ex_224_45, ex_224_46, ex_224_50, ex_224_53, ex_224_54, ex_224_55, ex_224_58, ex_224_60, ex_224_61, ex_224_64, ex_224_65, ex_224_68, ex_224_69, ex_224_70, ex_224_73, ex_224_74, ex_224_75, ex_224_78, if_true, if_false, and_self, Option.toList_some, Option.toList_none, List.singleton_append, List.cons_append, List.nil_append, List.append_nil, nI_1, nt_e, Int32.le_refl, lq405, nI_leI, e0, hd, show nI 16 - nI 1 = nI 15 from rfl, show nI 16 - 1 = nI 15 from rfl]
        refine keepsA (p := (15, fun j => p.2 (j + 1))) h6 (show 15 < 16 by omega) (by rw [FI_sFI, if_pos ⟨rfl, rfl⟩]) (fun j hj2 => ?_) (l := l) ?_ (fun u2 o2 f2 p2 => ?_)
        · show RowR v (AI u' 244) (27 * j) (p.2 (j + 1))
          exact RowR_map h6 (hR (j + 1) (by omega)) (fun k hk => by rw [hj, if_pos (by omega), show 27 * j + k + 27 = 27 * (j + 1) + k by omega])
        · show RowR v (AI u' 241) 0 l
          rw [e1]; exact hl
        · have oo : Only keptP u (sFI u' 203 55 (nI 15)) := of_fi (ho.wk (fun a q => Or.inr q)) (Or.inl rfl)
          refine h u2 (oo.tr o2) (fun k hk => by rw [f2 k hk, FI_sFI, if_neg (by omega), e0]) p2
      | succ k ih =>
        intro i hi u' ho hj
        have hnle : ¬ 405 ≤ i := by omega
        rw [ex_224_11]
        simp (disch := first | exact am_nl_i _ | exact am_nl_r _ | exact am_nl_0 | assumption | omega | (refine vi_nI ?_ ?_ <;> omega) | exact b2i_01 _ | exact Or.inl rfl | exact Or.inr rfl | (unfold vi; decide)) only [ex_224_0, ex_224_1, ex_224_4, ex_224_6, ex_224_9, ex_224_10, ex_224_12, ex_224_15, ex_224_18, ex_224_19, ex_224_22, ex_224_23, ex_224_24, ex_224_27, ex_224_28, ex_224_30, ex_224_33, ex_224_36, ex_224_39, ex_224_40, ex_224_41, ex_224_44, ex_224_45, ex_224_46, ex_224_50, ex_224_53, ex_224_54, ex_224_55, ex_224_58, ex_224_60, ex_224_61, ex_224_64, ex_224_65, ex_224_68, ex_224_69, ex_224_70, ex_224_73, ex_224_74, ex_224_75, ex_224_78, if_true, if_false, and_self, Option.toList_some, Option.toList_none, List.singleton_append, List.cons_append, List.nil_append, List.append_nil, nI_1, nt_e, Int32.le_refl, lq405, nI_leI, hnle, lq27, nI_add]
        rw [ex_224_31 (vi_nI (by omega) (by omega)), ex_224_32 (vi_nI (by omega) (by omega)), nI_clamp (by omega), nI_clamp (by omega), hj, if_neg (by omega)]
        simp (disch := first | exact am_nl_i _ | exact am_nl_r _ | exact am_nl_0 | assumption | omega | (refine vi_nI ?_ ?_ <;> omega) | exact b2i_01 _ | exact Or.inl rfl | exact Or.inr rfl | (unfold vi; decide)) only [ex_224_0, ex_224_1, ex_224_4, ex_224_6, ex_224_9, ex_224_10, ex_224_12, ex_224_15, ex_224_18, ex_224_19, ex_224_22, ex_224_23, ex_224_24, ex_224_27, ex_224_28, ex_224_30, ex_224_31, ex_224_32, ex_224_33, ex_224_36, ex_224_39, ex_224_40, ex_224_41, ex_224_44, ex_224_45, ex_224_46, ex_224_50, ex_224_53, ex_224_54, ex_224_55, ex_224_58, ex_224_60, ex_224_61, ex_224_64, ex_224_65, ex_224_68, ex_224_69, ex_224_70, ex_224_73, ex_224_74, ex_224_75, ex_224_78, if_true, if_false, and_self, Option.toList_some, Option.toList_none, List.singleton_append, List.cons_append, List.nil_append, List.append_nil, nI_1, nt_e, Int32.le_refl]
        refine ih (i + 1) (by omega) _ (of_ai ho rfl) (fun j => ?_)
        rw [AI_sAI, if_pos rfl]
        by_cases e : j = i
        · rw [e, upd_s, if_pos (by omega)]
        · rw [upd_n e, hj j]
          by_cases q : j < i
          · rw [if_pos q, if_pos (by omega)]
          · rw [if_neg q, if_neg (by omega)]
    exact loop 405 0 (by omega) u (Only.rf _ _) (fun j => by rw [if_neg (by omega)])
end Keeps
