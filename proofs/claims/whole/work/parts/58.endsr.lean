/-! A DEATH, of the reference; what holds of lives is kept -/
theorem and_bi0 {x : Int32} {i : Nat} (hi : i < 32) : x &&& bi i = 0 ↔ bt x i = false := by
  rw [bt_eq0]
  constructor
  · intro h
    have := h i hi
    rw [b_and, bt_bi hi hi, decide_eq_true rfl, Bool.and_true] at this
    exact this
  · intro h j hj
    by_cases e : j = i
    · rw [e, b_and, h]; rfl
    · rw [b_and, bt_bi_f hi e, Bool.and_false]
theorem WL_kill {v : LV} {l : LF} {p : Nat} (hw : WL v l) : WL v (killL l p) := by
  obtain ⟨a1, a2⟩ := hw
  refine ⟨fun q hq => ?_, a2⟩
  show bt (aliveL l &&& nt (bi p)) q = false
  rw [b_and, a1 q hq]
  rfl
theorem WL_endsW {v : LV} {l : LF} {p : Nat} {x : Int32} (hW : WF v) (hw : WL v l) : ∀ n, n ≤ nP v → WL v (endsW v l p x n).1
  | 0, _ => hw
  | n + 1, hn => by
    have ih := WL_endsW (p := p) (x := x) hW hw n (by omega)
    rw [endsW]
    split
    · next hq =>
      rw [Bool.and_eq_true] at hq
      have ht := hq.2
      unfold takesB at ht
      simp only [Bool.and_eq_true] at ht
      exact WL_swallow hW ih (alive_ix ih ht.1.1.1).1 (by omega)
    · exact ih
theorem WL_ends {v : LV} {l : LF} {p : Nat} (hW : WF v) (hw : WL v l) : WL v (endsV v l p).1 := WL_endsW hW (WL_kill hw) _ (Nat.le_refl _)
theorem WL_withE {v : LV} {l : LF} {q : Nat} {e : Int32} (hw : WL v l) (hq : q < nE v) (he : ∀ k, nP v ≤ k → bt e k = false) : WL v (withE l q e) := by
  obtain ⟨a1, a2, a3, a4, a5, a6⟩ := hw
  refine ⟨a1, fun _ => rfl, fun j k hk => ?_, a4, a5, fun j hj => ?_⟩
  · show bt (upd (eatL l) q e j) k = false
    by_cases z : j = q
    · rw [z, upd_s]; exact he k hk
    · rw [upd_n z]; exact a3 j k hk
  · show upd (eatL l) q e j = 0
    rw [upd_n (by omega)]; exact a6 j hj
theorem WL_bites {v : LV} {l : LF} {p q k : Nat} (hW : WF v) (hw : WL v l) (hp : p < nE v) (hq : q < nE v) (hk : k < nP v) : WL v (bitesL v l p q k) := by
  refine WL_withE (WL_swallow hW hw hp hk) hq (fun j hj => ?_)
  rw [b_and, b_and, hw.2.2.1 q j hj]
  rfl
theorem dec8 : ∀ n, n ≤ 9 → nI n < 9 → nI n + 1 = nI (n + 1) ∧ n + 1 ≤ 9 := by decide +kernel
theorem WL_copied {v : LV} {l : LF} {k : Nat} (hw : WL v l) (hk : k < nP v) (hc : copL l k < 9) : WL v (copiedL v l k) := by
  obtain ⟨a1, a2, a3, a4, a5, a6⟩ := hw
  refine ⟨a1, fun _ => rfl, a3, fun j => ?_, fun j hj => ?_, a6⟩
  · show ∃ n : Nat, n ≤ 9 ∧ upd (copL l) k (copL l k + 1) j = nI n
    by_cases e : j = k
    · obtain ⟨n, hn, hq⟩ := a4 k
      rw [hq] at hc
      obtain ⟨h1, h2⟩ := dec8 n hn hc
      rw [e, upd_s, hq]
      exact ⟨n + 1, h2, h1⟩
    · rw [upd_n e]; exact a4 j
  · show upd (copL l) k (copL l k + 1) j = 0
    rw [upd_n (by omega)]; exact a5 j hj
section EndsR
variable {d : Nat} {u : am_U} {v : LV} {l : LF} {post : Option Value → am_M → Prop}
theorem kill_R {p : Nat} (h6 : nE v ≤ 6) (hl : LifeR u v l) : LifeR (sAI u 241 (upd (AI u 241) 12 (aliveL l &&& nt (bi p)))) v (killL l p) := by
  obtain ⟨a1, a2, a3, a4, a5, a6⟩ := hl
  simp only [Nat.zero_add] at a1 a2 a3 a4 a5 a6
  unfold LifeR RowR
  simp only [AI_sAI, if_true, Nat.zero_add]
  refine ⟨fun j hj => ?_, fun j hj => ?_, ?_, fun k hk => ?_, ?_, ?_⟩
  · rw [upd_n (by omega)]; exact a1 j hj
  · rw [upd_n (by omega)]; exact a2 j hj
  · rw [upd_s]; rfl
  · rw [upd_n (by omega)]; exact a4 k hk
  · rw [upd_n (by omega)]; exact a5
  · rw [upd_n (by omega)]; exact a6
theorem passes_ok {p : Nat} (hR : LibR u v) (hl : LifeR u v l) (hW : WF v) (hw : WL v l) (hp : p < nE v)
    (h : ∀ u', Only (is 241) u u' → LifeR u' v (endsV v l p).1 → post (some (.int (endsV v l p).2)) (am_emb u')) : Cl (d + 2) 236 [.ref 203, .int (nI p)] (am_emb u) post := by
  have h6 := hW.1.2.2.1
  have h12 := hW.1.2.1
  have ha : AI u 241 12 = aliveL l := hl.2.2.1
  have hh := hR.2.2.2.2.2.2.2.2.2.1 p hp
  have hw0 := WL_kill (p := p) hw
  have l0 := kill_R (p := p) h6 hl
  have o0 : Only (is 241) u (sAI u 241 (upd (AI u 241) 12 (aliveL l &&& nt (bi p)))) := Only.sAI rfl
  have R0 := lib_is hR o0
  have hx : ∀ x, x = heirV v p → (x = -1 ∨ ∃ k : Nat, k < 6 ∧ x = nI k) := fun x e => by
    rcases (hW.2.2.2.2.1 p hp).2.2 with q | ⟨k, hk, q⟩
    · exact Or.inl (e.trans q)
    · exact Or.inr ⟨k, by omega, e.trans q⟩
  have hn := R0.1.2.1
  unfold endsV at h
  rw [op_236]
  simp (disch := first | exact am_nl_i _ | exact am_nl_r _ | exact am_nl_0 | assumption | omega | (refine vi_nI ?_ ?_ <;> omega) | exact b2i_01 _ | exact Or.inl rfl | exact Or.inr rfl | (unfold vi; decide)) only [ex_236_0, ex_236_1, ex_236_4, ex_236_6, ex_236_7, ex_236_8, ex_236_9, ex_236_10, ex_236_11, ex_236_12, ex_236_13, ex_236_14, ex_236_15, ex_236_16, ex_236_19, ex_236_20, ex_236_21, ex_236_22, ex_236_23, ex_236_26, ex_236_27, ex_236_28, ex_236_31, ex_236_34, ex_236_35, ex_236_36, ex_236_37, ex_236_38, ex_236_39, ex_236_43, ex_236_44, ex_236_47, ex_236_48, ex_236_49, ex_236_52, ex_236_53, ex_236_56, ex_236_57, ex_236_58, ex_236_59, ex_236_62, ex_236_63, ex_236_64, ex_236_65, ex_236_66, ex_236_67, ex_236_68, ex_236_70, ex_236_71, ex_236_72, ex_236_75, ex_236_76, ex_236_77, ex_236_79, ex_236_82, ex_236_85, ex_236_88, ex_236_89, ex_236_90, ex_236_92, ex_236_95, ex_236_96, ex_236_97, ex_236_99, ex_236_100, ex_236_101, ex_236_102, ex_236_105, ex_236_108, ex_236_109, if_true, if_false, and_self, Option.toList_some, Option.toList_none, List.singleton_append, List.cons_append, List.nil_append, List.append_nil, nI_1, nt_e, Int32.le_refl, c12, ha, bi_e, nI_clamp, AI_sAI, Nat.reduceEqDiff, hh]
  have dead : livesI (killL l p) (heirV v p) = false → Ex (d + 2) 236 34 [some (.ref 203), some (.int (nI p)), some (.int (heirV v p)), none, none] [] (am_emb (sAI u 241 (upd (AI u 241) 12 (aliveL l &&& nt (bi p))))) post := by
    intro hd
    rw [endsW_dead hd] at h
    simp (disch := first | exact am_nl_i _ | exact am_nl_r _ | exact am_nl_0 | assumption | omega | (refine vi_nI ?_ ?_ <;> omega) | exact b2i_01 _ | exact Or.inl rfl | exact Or.inr rfl | (unfold vi; decide)) only [ex_236_0, ex_236_1, ex_236_4, ex_236_6, ex_236_7, ex_236_8, ex_236_9, ex_236_10, ex_236_11, ex_236_12, ex_236_13, ex_236_14, ex_236_15, ex_236_16, ex_236_19, ex_236_20, ex_236_21, ex_236_22, ex_236_23, ex_236_26, ex_236_27, ex_236_28, ex_236_31, ex_236_34, ex_236_35, ex_236_36, ex_236_37, ex_236_38, ex_236_39, ex_236_41, ex_236_43, ex_236_44, ex_236_47, ex_236_48, ex_236_49, ex_236_52, ex_236_53, ex_236_56, ex_236_57, ex_236_58, ex_236_59, ex_236_62, ex_236_63, ex_236_64, ex_236_65, ex_236_66, ex_236_67, ex_236_68, ex_236_70, ex_236_71, ex_236_72, ex_236_75, ex_236_76, ex_236_77, ex_236_79, ex_236_82, ex_236_85, ex_236_88, ex_236_89, ex_236_90, ex_236_92, ex_236_95, ex_236_96, ex_236_97, ex_236_99, ex_236_100, ex_236_101, ex_236_102, ex_236_105, ex_236_108, ex_236_109, if_true, if_false, and_self, Option.toList_some, Option.toList_none, List.singleton_append, List.cons_append, List.nil_append, List.append_nil, nI_1, nt_e, Int32.le_refl]
    exact h _ o0 l0
  rcases hx _ rfl with q | ⟨hh2, hk6, q⟩
  · rw [q] at dead h ⊢
    rw [if_pos (by decide)]
    have := dead (by unfold livesI; rw [show okI (-1) 6 = false by decide]; rfl)
    try simp (disch := first | exact am_nl_i _ | exact am_nl_r _ | exact am_nl_0 | assumption | omega | (refine vi_nI ?_ ?_ <;> omega) | exact b2i_01 _ | exact Or.inl rfl | exact Or.inr rfl | (unfold vi; decide)) only [ex_236_0, ex_236_1, ex_236_4, ex_236_6, ex_236_7, ex_236_8, ex_236_9, ex_236_10, ex_236_11, ex_236_12, ex_236_13, ex_236_14, ex_236_15, ex_236_16, ex_236_19, ex_236_20, ex_236_21, ex_236_22, ex_236_23, ex_236_26, ex_236_27, ex_236_28, ex_236_31, ex_236_34, ex_236_35, ex_236_36, ex_236_37, ex_236_38, ex_236_39, ex_236_41, ex_236_43, ex_236_44, ex_236_47, ex_236_48, ex_236_49, ex_236_52, ex_236_53, ex_236_56, ex_236_57, ex_236_58, ex_236_59, ex_236_62, ex_236_63, ex_236_64, ex_236_65, ex_236_66, ex_236_67, ex_236_68, ex_236_70, ex_236_71, ex_236_72, ex_236_75, ex_236_76, ex_236_77, ex_236_79, ex_236_82, ex_236_85, ex_236_88, ex_236_89, ex_236_90, ex_236_92, ex_236_95, ex_236_96, ex_236_97, ex_236_99, ex_236_100, ex_236_101, ex_236_102, ex_236_105, ex_236_108, ex_236_109, if_true, if_false, and_self, Option.toList_some, Option.toList_none, List.singleton_append, List.cons_append, List.nil_append, List.append_nil, nI_1, nt_e, Int32.le_refl]
    try simp (disch := first | exact am_nl_i _ | exact am_nl_r _ | exact am_nl_0 | assumption | omega | (refine vi_nI ?_ ?_ <;> omega) | exact b2i_01 _ | exact Or.inl rfl | exact Or.inr rfl | (unfold vi; decide)) only [ex_236_0, ex_236_1, ex_236_4, ex_236_6, ex_236_7, ex_236_8, ex_236_9, ex_236_10, ex_236_11, ex_236_12, ex_236_13, ex_236_14, ex_236_15, ex_236_16, ex_236_19, ex_236_20, ex_236_21, ex_236_22, ex_236_23, ex_236_26, ex_236_27, ex_236_28, ex_236_31, ex_236_34, ex_236_35, ex_236_36, ex_236_37, ex_236_38, ex_236_39, ex_236_41, ex_236_43, ex_236_44, ex_236_47, ex_236_48, ex_236_49, ex_236_52, ex_236_53, ex_236_56, ex_236_57, ex_236_58, ex_236_59, ex_236_62, ex_236_63, ex_236_64, ex_236_65, ex_236_66, ex_236_67, ex_236_68, ex_236_70, ex_236_71, ex_236_72, ex_236_75, ex_236_76, ex_236_77, ex_236_79, ex_236_82, ex_236_85, ex_236_88, ex_236_89, ex_236_90, ex_236_92, ex_236_95, ex_236_96, ex_236_97, ex_236_99, ex_236_100, ex_236_101, ex_236_102, ex_236_105, ex_236_108, ex_236_109, if_true, if_false, and_self, Option.toList_some, Option.toList_none, List.singleton_append, List.cons_append, List.nil_append, List.append_nil, nI_1, nt_e, Int32.le_refl] at this
    exact this
  rw [q] at dead h ⊢
  have hneg : ¬ nI hh2 < 0 := by rw [i_lt0 (by omega)]; simp
  rw [if_neg hneg]
  simp (disch := first | exact am_nl_i _ | exact am_nl_r _ | exact am_nl_0 | assumption | omega | (refine vi_nI ?_ ?_ <;> omega) | exact b2i_01 _ | exact Or.inl rfl | exact Or.inr rfl | (unfold vi; decide)) only [ex_236_0, ex_236_1, ex_236_4, ex_236_6, ex_236_7, ex_236_8, ex_236_9, ex_236_10, ex_236_11, ex_236_12, ex_236_13, ex_236_14, ex_236_15, ex_236_16, ex_236_19, ex_236_20, ex_236_21, ex_236_22, ex_236_23, ex_236_26, ex_236_27, ex_236_28, ex_236_31, ex_236_34, ex_236_35, ex_236_36, ex_236_37, ex_236_38, ex_236_39, ex_236_43, ex_236_44, ex_236_47, ex_236_48, ex_236_49, ex_236_52, ex_236_53, ex_236_56, ex_236_57, ex_236_58, ex_236_59, ex_236_62, ex_236_63, ex_236_64, ex_236_65, ex_236_66, ex_236_67, ex_236_68, ex_236_70, ex_236_71, ex_236_72, ex_236_75, ex_236_76, ex_236_77, ex_236_79, ex_236_82, ex_236_85, ex_236_88, ex_236_89, ex_236_90, ex_236_92, ex_236_95, ex_236_96, ex_236_97, ex_236_99, ex_236_100, ex_236_101, ex_236_102, ex_236_105, ex_236_108, ex_236_109, if_true, if_false, and_self, Option.toList_some, Option.toList_none, List.singleton_append, List.cons_append, List.nil_append, List.append_nil, nI_1, nt_e, Int32.le_refl, isAlive_ok R0 l0 hW hw0, b2i_0]
  cases hlv : livesI (killL l p) (nI hh2)
  · simp only [if_true]
    have := dead hlv
    try simp (disch := first | exact am_nl_i _ | exact am_nl_r _ | exact am_nl_0 | assumption | omega | (refine vi_nI ?_ ?_ <;> omega) | exact b2i_01 _ | exact Or.inl rfl | exact Or.inr rfl | (unfold vi; decide)) only [ex_236_0, ex_236_1, ex_236_4, ex_236_6, ex_236_7, ex_236_8, ex_236_9, ex_236_10, ex_236_11, ex_236_12, ex_236_13, ex_236_14, ex_236_15, ex_236_16, ex_236_19, ex_236_20, ex_236_21, ex_236_22, ex_236_23, ex_236_26, ex_236_27, ex_236_28, ex_236_31, ex_236_34, ex_236_35, ex_236_36, ex_236_37, ex_236_38, ex_236_39, ex_236_41, ex_236_43, ex_236_44, ex_236_47, ex_236_48, ex_236_49, ex_236_52, ex_236_53, ex_236_56, ex_236_57, ex_236_58, ex_236_59, ex_236_62, ex_236_63, ex_236_64, ex_236_65, ex_236_66, ex_236_67, ex_236_68, ex_236_70, ex_236_71, ex_236_72, ex_236_75, ex_236_76, ex_236_77, ex_236_79, ex_236_82, ex_236_85, ex_236_88, ex_236_89, ex_236_90, ex_236_92, ex_236_95, ex_236_96, ex_236_97, ex_236_99, ex_236_100, ex_236_101, ex_236_102, ex_236_105, ex_236_108, ex_236_109, if_true, if_false, and_self, Option.toList_some, Option.toList_none, List.singleton_append, List.cons_append, List.nil_append, List.append_nil, nI_1, nt_e, Int32.le_refl] at this
    exact this
  rw [if_neg (by simp)]
  have hhE := (alive_ix hw0 hlv).1
  rw [ix_nI (by omega)] at hhE
  try simp (disch := first | exact am_nl_i _ | exact am_nl_r _ | exact am_nl_0 | assumption | omega | (refine vi_nI ?_ ?_ <;> omega) | exact b2i_01 _ | exact Or.inl rfl | exact Or.inr rfl | (unfold vi; decide)) only [ex_236_0, ex_236_1, ex_236_4, ex_236_6, ex_236_7, ex_236_8, ex_236_9, ex_236_10, ex_236_11, ex_236_12, ex_236_13, ex_236_14, ex_236_15, ex_236_16, ex_236_19, ex_236_20, ex_236_21, ex_236_22, ex_236_23, ex_236_26, ex_236_27, ex_236_28, ex_236_31, ex_236_34, ex_236_35, ex_236_36, ex_236_37, ex_236_38, ex_236_39, ex_236_43, ex_236_44, ex_236_47, ex_236_48, ex_236_49, ex_236_52, ex_236_53, ex_236_56, ex_236_57, ex_236_58, ex_236_59, ex_236_62, ex_236_63, ex_236_64, ex_236_65, ex_236_66, ex_236_67, ex_236_68, ex_236_70, ex_236_71, ex_236_72, ex_236_75, ex_236_76, ex_236_77, ex_236_79, ex_236_82, ex_236_85, ex_236_88, ex_236_89, ex_236_90, ex_236_92, ex_236_95, ex_236_96, ex_236_97, ex_236_99, ex_236_100, ex_236_101, ex_236_102, ex_236_105, ex_236_108, ex_236_109, if_true, if_false, and_self, Option.toList_some, Option.toList_none, List.singleton_append, List.cons_append, List.nil_append, List.append_nil, nI_1, nt_e, Int32.le_refl]
  have loop : ∀ (kz i : Nat), i + kz = nP v → ∀ u', Only (is 241) u u' → LifeR u' v (endsW v (killL l p) p (nI hh2) i).1 → Ex (d + 2) 236 41 [some (.ref 203), some (.int (nI p)), some (.int (nI hh2)), some (.int (endsW v (killL l p) p (nI hh2) i).2), some (.int (nI i))] [] (am_emb u') post := by
    intro kz
    induction kz with
    | zero =>
      intro i hi u' ho l'
      obtain rfl : i = nP v := by omega
      have R' := lib_is hR ho
      have hn := R'.1.2.1
      rw [ex_236_41]
      simp (disch := first | exact am_nl_i _ | exact am_nl_r _ | exact am_nl_0 | assumption | omega | (refine vi_nI ?_ ?_ <;> omega) | exact b2i_01 _ | exact Or.inl rfl | exact Or.inr rfl | (unfold vi; decide)) only [ex_236_0, ex_236_1, ex_236_4, ex_236_6, ex_236_7, ex_236_8, ex_236_9, ex_236_10, ex_236_11, ex_236_12, ex_236_13, ex_236_14, ex_236_15, ex_236_16, ex_236_19, ex_236_20, ex_236_21, ex_236_22, ex_236_23, ex_236_26, ex_236_27, ex_236_28, ex_236_31, ex_236_34, ex_236_35, ex_236_36, ex_236_37, ex_236_38, ex_236_39, ex_236_43, ex_236_44, ex_236_47, ex_236_48, ex_236_49, ex_236_52, ex_236_53, ex_236_56, ex_236_57, ex_236_58, ex_236_59, ex_236_62, ex_236_63, ex_236_64, ex_236_65, ex_236_66, ex_236_67, ex_236_68, ex_236_70, ex_236_71, ex_236_72, ex_236_75, ex_236_76, ex_236_77, ex_236_79, ex_236_82, ex_236_85, ex_236_88, ex_236_89, ex_236_90, ex_236_92, ex_236_95, ex_236_96, ex_236_97, ex_236_99, ex_236_100, ex_236_101, ex_236_102, ex_236_105, ex_236_108, ex_236_109, if_true, if_false, and_self, Option.toList_some, Option.toList_none, List.singleton_append, List.cons_append, List.nil_append, List.append_nil, nI_1, nt_e, Int32.le_refl, c1, hn, nI_leI, Nat.le_refl]
      exact h u' ho l'
    | succ kz ih =>
      intro i hi u' ho l'
      have hnle : ¬ nP v ≤ i := by omega
      have R' := lib_is hR ho
      have hn := R'.1.2.1
      have ih := ih (i + 1) (by omega)
      have hal := endsW_alive v (killL l p) p (nI hh2) i
      have e1 : AI u' 241 p = eatL (endsW v (killL l p) p (nI hh2) i).1 p := by have := l'.1 p (by omega); rwa [Nat.zero_add] at this
      have e2 : AI u' 241 hh2 = eatL (endsW v (killL l p) p (nI hh2) i).1 hh2 := by have := l'.1 hh2 (by omega); rwa [Nat.zero_add] at this
      have hlv2 : livesI (endsW v (killL l p) p (nI hh2) i).1 (nI hh2) = true := by
        unfold livesI livesL at hlv ⊢
        rw [hal]
        exact hlv
      rw [endsW] at ih
      have htk : takesB v (endsW v (killL l p) p (nI hh2) i).1 (nI hh2) (nI i) = (!bt (eatL (endsW v (killL l p) p (nI hh2) i).1 hh2) i && decide (weighV v i ≤ leftL (endsW v (killL l p) p (nI hh2) i).1 hh2)) := by
        unfold takesB
        rw [hlv2, okI_nI (by omega) (by omega), decide_eq_true (show i < nP v by omega), ix_nI (by omega), ix_nI (by omega)]
        rfl
      rw [htk, ix_nI (by omega)] at ih
      generalize endsW v (killL l p) p (nI hh2) i = W at *
      rw [ex_236_41]
      simp (disch := first | exact am_nl_i _ | exact am_nl_r _ | exact am_nl_0 | assumption | omega | (refine vi_nI ?_ ?_ <;> omega) | exact b2i_01 _ | exact Or.inl rfl | exact Or.inr rfl | (unfold vi; decide)) only [ex_236_0, ex_236_1, ex_236_4, ex_236_6, ex_236_7, ex_236_8, ex_236_9, ex_236_10, ex_236_11, ex_236_12, ex_236_13, ex_236_14, ex_236_15, ex_236_16, ex_236_19, ex_236_20, ex_236_21, ex_236_22, ex_236_23, ex_236_26, ex_236_27, ex_236_28, ex_236_31, ex_236_34, ex_236_35, ex_236_36, ex_236_37, ex_236_38, ex_236_39, ex_236_43, ex_236_44, ex_236_47, ex_236_48, ex_236_49, ex_236_52, ex_236_53, ex_236_56, ex_236_57, ex_236_58, ex_236_59, ex_236_62, ex_236_63, ex_236_64, ex_236_65, ex_236_66, ex_236_67, ex_236_68, ex_236_70, ex_236_71, ex_236_72, ex_236_75, ex_236_76, ex_236_77, ex_236_79, ex_236_82, ex_236_85, ex_236_88, ex_236_89, ex_236_90, ex_236_95, ex_236_96, ex_236_97, ex_236_99, ex_236_100, ex_236_101, ex_236_102, ex_236_105, ex_236_108, ex_236_109, if_true, if_false, and_self, Option.toList_some, Option.toList_none, List.singleton_append, List.cons_append, List.nil_append, List.append_nil, nI_1, nt_e, Int32.le_refl, c1, hn, nI_leI, hnle, nI_clamp, e1, e2, bi_e, and_bi0]
      rw [b_and, bt_nt _ (by omega)]
      by_cases hz : (bt (eatL W.1 p) i && !bt (eatL W.1 hh2) i) = false
      · rw [if_pos hz]
        have : (bt (eatL W.1 p) i && (!bt (eatL W.1 hh2) i && decide (weighV v i ≤ leftL W.1 hh2))) = false := by
          rw [← Bool.and_assoc, hz]; rfl
        rw [this] at ih
        try simp (disch := first | exact am_nl_i _ | exact am_nl_r _ | exact am_nl_0 | assumption | omega | (refine vi_nI ?_ ?_ <;> omega) | exact b2i_01 _ | exact Or.inl rfl | exact Or.inr rfl | (unfold vi; decide)) only [ex_236_0, ex_236_1, ex_236_4, ex_236_6, ex_236_7, ex_236_8, ex_236_9, ex_236_10, ex_236_11, ex_236_12, ex_236_13, ex_236_14, ex_236_15, ex_236_16, ex_236_19, ex_236_20, ex_236_21, ex_236_22, ex_236_23, ex_236_26, ex_236_27, ex_236_28, ex_236_31, ex_236_34, ex_236_35, ex_236_36, ex_236_37, ex_236_38, ex_236_39, ex_236_43, ex_236_44, ex_236_47, ex_236_48, ex_236_49, ex_236_52, ex_236_53, ex_236_56, ex_236_57, ex_236_58, ex_236_59, ex_236_62, ex_236_63, ex_236_64, ex_236_65, ex_236_66, ex_236_67, ex_236_68, ex_236_70, ex_236_71, ex_236_72, ex_236_75, ex_236_76, ex_236_77, ex_236_79, ex_236_82, ex_236_85, ex_236_88, ex_236_89, ex_236_90, ex_236_95, ex_236_96, ex_236_97, ex_236_99, ex_236_100, ex_236_101, ex_236_102, ex_236_105, ex_236_108, ex_236_109, if_true, if_false, and_self, Option.toList_some, Option.toList_none, List.singleton_append, List.cons_append, List.nil_append, List.append_nil, nI_1, nt_e, Int32.le_refl]
        exact ih u' ho l'
      rw [if_neg hz]
      have hz' : (bt (eatL W.1 p) i && !bt (eatL W.1 hh2) i) = true := by simpa using hz
      rw [← Bool.and_assoc, hz', Bool.true_and] at ih
      simp (disch := first | exact am_nl_i _ | exact am_nl_r _ | exact am_nl_0 | assumption | omega | (refine vi_nI ?_ ?_ <;> omega) | exact b2i_01 _ | exact Or.inl rfl | exact Or.inr rfl | (unfold vi; decide)) only [ex_236_0, ex_236_1, ex_236_4, ex_236_6, ex_236_7, ex_236_8, ex_236_9, ex_236_10, ex_236_11, ex_236_12, ex_236_13, ex_236_14, ex_236_15, ex_236_16, ex_236_19, ex_236_20, ex_236_21, ex_236_22, ex_236_23, ex_236_26, ex_236_27, ex_236_28, ex_236_31, ex_236_34, ex_236_35, ex_236_36, ex_236_37, ex_236_38, ex_236_39, ex_236_43, ex_236_44, ex_236_47, ex_236_48, ex_236_49, ex_236_52, ex_236_53, ex_236_56, ex_236_57, ex_236_58, ex_236_59, ex_236_62, ex_236_63, ex_236_64, ex_236_65, ex_236_66, ex_236_67, ex_236_68, ex_236_70, ex_236_71, ex_236_72, ex_236_75, ex_236_76, ex_236_77, ex_236_79, ex_236_82, ex_236_85, ex_236_88, ex_236_89, ex_236_90, ex_236_95, ex_236_96, ex_236_97, ex_236_99, ex_236_100, ex_236_101, ex_236_102, ex_236_105, ex_236_108, ex_236_109, if_true, if_false, and_self, Option.toList_some, Option.toList_none, List.singleton_append, List.cons_append, List.nil_append, List.append_nil, nI_1, nt_e, Int32.le_refl, hasRoom_ok R' l' hW, b2i_0]
      cases hr : decide (weighV v i ≤ leftL W.1 hh2)
      · rw [hr] at ih
        simp only [if_true]
        try simp (disch := first | exact am_nl_i _ | exact am_nl_r _ | exact am_nl_0 | assumption | omega | (refine vi_nI ?_ ?_ <;> omega) | exact b2i_01 _ | exact Or.inl rfl | exact Or.inr rfl | (unfold vi; decide)) only [ex_236_0, ex_236_1, ex_236_4, ex_236_6, ex_236_7, ex_236_8, ex_236_9, ex_236_10, ex_236_11, ex_236_12, ex_236_13, ex_236_14, ex_236_15, ex_236_16, ex_236_19, ex_236_20, ex_236_21, ex_236_22, ex_236_23, ex_236_26, ex_236_27, ex_236_28, ex_236_31, ex_236_34, ex_236_35, ex_236_36, ex_236_37, ex_236_38, ex_236_39, ex_236_43, ex_236_44, ex_236_47, ex_236_48, ex_236_49, ex_236_52, ex_236_53, ex_236_56, ex_236_57, ex_236_58, ex_236_59, ex_236_62, ex_236_63, ex_236_64, ex_236_65, ex_236_66, ex_236_67, ex_236_68, ex_236_70, ex_236_71, ex_236_72, ex_236_75, ex_236_76, ex_236_77, ex_236_79, ex_236_82, ex_236_85, ex_236_88, ex_236_89, ex_236_90, ex_236_95, ex_236_96, ex_236_97, ex_236_99, ex_236_100, ex_236_101, ex_236_102, ex_236_105, ex_236_108, ex_236_109, if_true, if_false, and_self, Option.toList_some, Option.toList_none, List.singleton_append, List.cons_append, List.nil_append, List.append_nil, nI_1, nt_e, Int32.le_refl]
        exact ih u' ho l'
      rw [hr] at ih
      rw [if_neg (by simp)]
      try simp (disch := first | exact am_nl_i _ | exact am_nl_r _ | exact am_nl_0 | assumption | omega | (refine vi_nI ?_ ?_ <;> omega) | exact b2i_01 _ | exact Or.inl rfl | exact Or.inr rfl | (unfold vi; decide)) only [ex_236_0, ex_236_1, ex_236_4, ex_236_6, ex_236_7, ex_236_8, ex_236_9, ex_236_10, ex_236_11, ex_236_12, ex_236_13, ex_236_14, ex_236_15, ex_236_16, ex_236_19, ex_236_20, ex_236_21, ex_236_22, ex_236_23, ex_236_26, ex_236_27, ex_236_28, ex_236_31, ex_236_34, ex_236_35, ex_236_36, ex_236_37, ex_236_38, ex_236_39, ex_236_43, ex_236_44, ex_236_47, ex_236_48, ex_236_49, ex_236_52, ex_236_53, ex_236_56, ex_236_57, ex_236_58, ex_236_59, ex_236_62, ex_236_63, ex_236_64, ex_236_65, ex_236_66, ex_236_67, ex_236_68, ex_236_70, ex_236_71, ex_236_72, ex_236_75, ex_236_76, ex_236_77, ex_236_79, ex_236_82, ex_236_85, ex_236_88, ex_236_89, ex_236_90, ex_236_95, ex_236_96, ex_236_97, ex_236_99, ex_236_100, ex_236_101, ex_236_102, ex_236_105, ex_236_108, ex_236_109, if_true, if_false, and_self, Option.toList_some, Option.toList_none, List.singleton_append, List.cons_append, List.nil_append, List.append_nil, nI_1, nt_e, Int32.le_refl]
      rw [ex_236_92]
      refine takesR_ok R' l' hW hhE (show i < nP v by omega) (fun u2 o2 l2 => ?_)
      simp (disch := first | exact am_nl_i _ | exact am_nl_r _ | exact am_nl_0 | assumption | omega | (refine vi_nI ?_ ?_ <;> omega) | exact b2i_01 _ | exact Or.inl rfl | exact Or.inr rfl | (unfold vi; decide)) only [ex_236_0, ex_236_1, ex_236_4, ex_236_6, ex_236_7, ex_236_8, ex_236_9, ex_236_10, ex_236_11, ex_236_12, ex_236_13, ex_236_14, ex_236_15, ex_236_16, ex_236_19, ex_236_20, ex_236_21, ex_236_22, ex_236_23, ex_236_26, ex_236_27, ex_236_28, ex_236_31, ex_236_34, ex_236_35, ex_236_36, ex_236_37, ex_236_38, ex_236_39, ex_236_43, ex_236_44, ex_236_47, ex_236_48, ex_236_49, ex_236_52, ex_236_53, ex_236_56, ex_236_57, ex_236_58, ex_236_59, ex_236_62, ex_236_63, ex_236_64, ex_236_65, ex_236_66, ex_236_67, ex_236_68, ex_236_70, ex_236_71, ex_236_72, ex_236_75, ex_236_76, ex_236_77, ex_236_79, ex_236_82, ex_236_85, ex_236_88, ex_236_89, ex_236_90, ex_236_95, ex_236_96, ex_236_97, ex_236_99, ex_236_100, ex_236_101, ex_236_102, ex_236_105, ex_236_108, ex_236_109, if_true, if_false, and_self, Option.toList_some, Option.toList_none, List.singleton_append, List.cons_append, List.nil_append, List.append_nil, nI_1, nt_e, Int32.le_refl, bi_e]
      exact ih u2 (ho.tr o2) l2
  exact loop (nP v) 0 (by omega) _ o0 l0
end EndsR
