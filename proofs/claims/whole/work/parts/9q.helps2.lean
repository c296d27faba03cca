/-! READING: a new name, of the class; the reference's small steps -/
section HelpC2
variable {d n m i e cnt mst a L : Nat} {u : am_U} {f : Nat → Nat} {v : LV} {post : Option Value → am_M → Prop}
theorem nfull_ok (ha : sh a 6 3) (hc : FI u a 2 = nI cnt) (hm : FI u a 1 = nI mst) (hc2 : cnt ≤ 12) (hm2 : mst ≤ 12) : Cl d 61 [.ref a] (am_emb u) post ↔ post (some (.int (b2i (decide (mst ≤ cnt))))) (am_emb u) := by
  rw [op_61]
  by_cases q : mst ≤ cnt
  · have q2 : ¬ cnt < mst := by omega
    rw [decide_eq_true q]
    simp (disch := first | exact am_nl_i _ | exact am_nl_r _ | exact am_nl_0 | (refine vi_nI ?_ ?_ <;> omega) | assumption | omega | exact b2i_01 _ | exact Or.inl rfl | exact Or.inr rfl | (unfold vi; decide)) only [ex_61_0, ex_61_1, ex_61_4, ex_61_5, ex_61_8, ex_61_11, ex_61_12, ex_61_15, ex_61_16, if_true, if_false, and_self, Option.toList_some, Option.toList_none, List.singleton_append, List.cons_append, List.nil_append, List.append_nil, nI_1, nt_e, Int32.le_refl, hc, hm, nI_leI, nI_ltI, q, q2, Bool.true_eq_false, Bool.false_eq_true, ↓reduceIte]
    exact Iff.rfl
  · have q2 : cnt < mst := by omega
    rw [decide_eq_false q]
    simp (disch := first | exact am_nl_i _ | exact am_nl_r _ | exact am_nl_0 | (refine vi_nI ?_ ?_ <;> omega) | assumption | omega | exact b2i_01 _ | exact Or.inl rfl | exact Or.inr rfl | (unfold vi; decide)) only [ex_61_0, ex_61_1, ex_61_4, ex_61_5, ex_61_8, ex_61_11, ex_61_12, ex_61_15, ex_61_16, if_true, if_false, and_self, Option.toList_some, Option.toList_none, List.singleton_append, List.cons_append, List.nil_append, List.append_nil, nI_1, nt_e, Int32.le_refl, hc, hm, nI_leI, nI_ltI, q, q2, Bool.true_eq_false, Bool.false_eq_true, ↓reduceIte]
    exact Iff.rfl
theorem newNameX {l2 l3 : Option Value} (h : FltC u e) (hB : BkC u L v) (hl : am_nl l2 = true) (hp : ∀ w, post (some (.long w)) (am_emb u)) : Ex (d + 3) 75 12 [some (.ref 6), some (.ref a), l2, l3] [] (am_emb u) post := by
  obtain ⟨i, hi, h1⟩ := h.2.2.2
  have hL := hB.sh
  have hfin := hp (AJ u 5 i)
  rw [ex_75_12]
  cases q : (decide (AI u 3 i = 1) || decide ((226 : Int32) ≤ AI u 3 i))
  · simp (disch := first | exact am_nl_i _ | exact am_nl_r _ | exact am_nl_0 | (refine vi_nI ?_ ?_ <;> omega) | assumption | omega | exact b2i_01 _ | exact Or.inl rfl | exact Or.inr rfl | (unfold vi; decide)) only [ex_75_0, ex_75_1, ex_75_4, ex_75_7, ex_75_8, ex_75_9, ex_75_12, ex_75_13, ex_75_16, ex_75_17, ex_75_20, ex_75_21, ex_75_22, ex_75_25, ex_75_28, ex_75_29, ex_75_30, ex_75_33, ex_75_36, ex_75_37, ex_75_40, ex_75_41, ex_75_44, ex_75_47, ex_75_48, ex_75_49, ex_75_52, ex_75_53, ex_75_56, ex_75_57, if_true, if_false, and_self, Option.toList_some, Option.toList_none, List.singleton_append, List.cons_append, List.nil_append, List.append_nil, nI_1, nt_e, Int32.le_refl, stepX h, rvalue_g h1 hi, rname_g h1 hi, q, b2i_f, failX h, Bool.true_eq_false, Bool.false_eq_true, ↓reduceIte]
    exact hfin
  · simp (disch := first | exact am_nl_i _ | exact am_nl_r _ | exact am_nl_0 | (refine vi_nI ?_ ?_ <;> omega) | assumption | omega | exact b2i_01 _ | exact Or.inl rfl | exact Or.inr rfl | (unfold vi; decide)) only [ex_75_0, ex_75_1, ex_75_4, ex_75_7, ex_75_8, ex_75_9, ex_75_12, ex_75_13, ex_75_16, ex_75_17, ex_75_20, ex_75_21, ex_75_22, ex_75_25, ex_75_28, ex_75_29, ex_75_30, ex_75_33, ex_75_36, ex_75_37, ex_75_40, ex_75_44, ex_75_47, ex_75_48, ex_75_49, ex_75_52, ex_75_53, ex_75_56, ex_75_57, if_true, if_false, and_self, Option.toList_some, Option.toList_none, List.singleton_append, List.cons_append, List.nil_append, List.append_nil, nI_1, nt_e, Int32.le_refl, stepX h, rvalue_g h1 hi, rname_g h1 hi, q, b2i_t, show ((1 : Int32) = (0 : Int32)) = False from eq_false (by decide), hB.2.2.1, va_rfs, Bool.true_eq_false, Bool.false_eq_true, ↓reduceIte]
    rw [ex_75_41]
    refine isToldX hL hB.1.1 hB.2.2.2.1 (fun c => ?_)
    cases c
    · simp (disch := first | exact am_nl_i _ | exact am_nl_r _ | exact am_nl_0 | (refine vi_nI ?_ ?_ <;> omega) | assumption | omega | exact b2i_01 _ | exact Or.inl rfl | exact Or.inr rfl | (unfold vi; decide)) only [ex_75_0, ex_75_1, ex_75_4, ex_75_7, ex_75_8, ex_75_9, ex_75_12, ex_75_13, ex_75_16, ex_75_17, ex_75_20, ex_75_21, ex_75_22, ex_75_25, ex_75_28, ex_75_29, ex_75_30, ex_75_33, ex_75_36, ex_75_37, ex_75_40, ex_75_41, ex_75_44, ex_75_47, ex_75_48, ex_75_49, ex_75_52, ex_75_53, ex_75_56, ex_75_57, if_true, if_false, and_self, Option.toList_some, Option.toList_none, List.singleton_append, List.cons_append, List.nil_append, List.append_nil, nI_1, nt_e, Int32.le_refl, b2i_f, stepX h, Bool.true_eq_false, Bool.false_eq_true, ↓reduceIte]
      exact hfin
    · simp (disch := first | exact am_nl_i _ | exact am_nl_r _ | exact am_nl_0 | (refine vi_nI ?_ ?_ <;> omega) | assumption | omega | exact b2i_01 _ | exact Or.inl rfl | exact Or.inr rfl | (unfold vi; decide)) only [ex_75_0, ex_75_1, ex_75_4, ex_75_7, ex_75_8, ex_75_9, ex_75_12, ex_75_13, ex_75_16, ex_75_17, ex_75_20, ex_75_21, ex_75_22, ex_75_25, ex_75_28, ex_75_29, ex_75_30, ex_75_33, ex_75_36, ex_75_37, ex_75_40, ex_75_41, ex_75_44, ex_75_47, ex_75_48, ex_75_49, ex_75_52, ex_75_53, ex_75_56, ex_75_57, if_true, if_false, and_self, Option.toList_some, Option.toList_none, List.singleton_append, List.cons_append, List.nil_append, List.append_nil, nI_1, nt_e, Int32.le_refl, b2i_t, show ((1 : Int32) = (0 : Int32)) = False from eq_false (by decide), stepX h, failX h, Bool.true_eq_false, Bool.false_eq_true, ↓reduceIte]
      exact hfin
    all_goals exact hL
theorem takeNew_ok (h : RdC u n f m i) (hne : ¬ csort (tk n f i) = 3) (hB : BkC u L v) (ha : sh a 6 3) (hc : FI u a 2 = nI cnt) (hm : FI u a 1 = nI mst) (hc2 : cnt ≤ 12) (hm2 : mst ≤ 12) (hb : ∀ e w u', newR v (decide (mst ≤ cnt)) (tk n f) i = .error e → RdO u u' → FltC u' e → post (some (.long w)) (am_emb u'))
    (hg : ∀ w j u', newR v (decide (mst ≤ cnt)) (tk n f) i = .ok (w, j) → RdO u u' → RdC u' n f m j → WordOk w → post (some (.long (Int64.ofNat (bas 32 w)))) (am_emb u')) : Cl (d + 3) 75 [.ref 6, .ref a] (am_emb u) post := by
  have hL := hB.sh
  rw [op_75]
  unfold newR at hb hg
  by_cases qf : mst ≤ cnt
  · rw [decide_eq_true qf] at hb
    simp only [if_true] at hb
    have F := fail_f (k := 5) h (by decide) (by decide)
    simp (disch := first | exact am_nl_i _ | exact am_nl_r _ | exact am_nl_0 | (refine vi_nI ?_ ?_ <;> omega) | assumption | omega | exact b2i_01 _ | exact Or.inl rfl | exact Or.inr rfl | (unfold vi; decide)) only [ex_75_0, ex_75_1, ex_75_4, ex_75_7, ex_75_8, ex_75_9, ex_75_13, ex_75_16, ex_75_17, ex_75_20, ex_75_21, ex_75_22, ex_75_25, ex_75_28, ex_75_29, ex_75_30, ex_75_33, ex_75_36, ex_75_37, ex_75_40, ex_75_41, ex_75_44, ex_75_47, ex_75_48, ex_75_49, ex_75_52, ex_75_53, ex_75_56, ex_75_57, if_true, if_false, and_self, Option.toList_some, Option.toList_none, List.singleton_append, List.cons_append, List.nil_append, List.append_nil, nI_1, nt_e, Int32.le_refl, nfull_ok ha hc hm hc2 hm2, decide_eq_true qf, b2i_t, show ((1 : Int32) = (0 : Int32)) = False from eq_false (by decide), show (5 : Int32) = nI 5 from rfl, fail_ok h, Bool.true_eq_false, Bool.false_eq_true, ↓reduceIte]
    exact newNameX F (hB.rd ((RdO.rf u).fi (Or.inr rfl))) rfl (fun w => hb _ w _ rfl ((RdO.rf u).fi (Or.inr rfl)) F)
    all_goals exact ha
  · rw [decide_eq_false qf] at hb hg
    simp only [Bool.false_eq_true, if_false] at hb hg
    have R1 := step_r h hne
    have o1 : RdO u (sFI u 6 1 (nI (i + 1))) := (RdO.rf u).fi (Or.inl rfl)
    have hB1 := hB.rd o1
    have ht := tk_ok (n := n) (f := f) (i + 1)
    simp (disch := first | exact am_nl_i _ | exact am_nl_r _ | exact am_nl_0 | (refine vi_nI ?_ ?_ <;> omega) | assumption | omega | exact b2i_01 _ | exact Or.inl rfl | exact Or.inr rfl | (unfold vi; decide)) only [ex_75_0, ex_75_1, ex_75_4, ex_75_7, ex_75_8, ex_75_9, ex_75_13, ex_75_16, ex_75_17, ex_75_20, ex_75_21, ex_75_22, ex_75_25, ex_75_28, ex_75_29, ex_75_30, ex_75_33, ex_75_36, ex_75_37, ex_75_40, ex_75_41, ex_75_44, ex_75_47, ex_75_48, ex_75_49, ex_75_52, ex_75_53, ex_75_56, ex_75_57, if_true, if_false, and_self, Option.toList_some, Option.toList_none, List.singleton_append, List.cons_append, List.nil_append, List.append_nil, nI_1, nt_e, Int32.le_refl, nfull_ok ha hc hm hc2 hm2, decide_eq_false qf, b2i_f, Bool.true_eq_false, Bool.false_eq_true, ↓reduceIte]
    rw [ex_75_12]
    unfold newE at hb hg
    cases q : nmB (csort (tk n f (i + 1)))
    · have F := fail_f (k := 1) R1 (by decide) (by decide)
      simp only [q, Bool.false_eq_true, if_false] at hb
      have hfin := hb _ (AJ (sFI u 6 1 (nI (i + 1))) 5 (i + 1)) _ rfl (o1.fi (Or.inr rfl)) F
      simp (disch := first | exact am_nl_i _ | exact am_nl_r _ | exact am_nl_0 | (refine vi_nI ?_ ?_ <;> omega) | assumption | omega | exact b2i_01 _ | exact Or.inl rfl | exact Or.inr rfl | (unfold vi; decide)) only [ex_75_0, ex_75_1, ex_75_4, ex_75_7, ex_75_8, ex_75_9, ex_75_12, ex_75_13, ex_75_16, ex_75_17, ex_75_20, ex_75_21, ex_75_22, ex_75_25, ex_75_28, ex_75_29, ex_75_30, ex_75_33, ex_75_36, ex_75_37, ex_75_40, ex_75_41, ex_75_44, ex_75_47, ex_75_48, ex_75_49, ex_75_52, ex_75_53, ex_75_56, ex_75_57, if_true, if_false, and_self, Option.toList_some, Option.toList_none, List.singleton_append, List.cons_append, List.nil_append, List.append_nil, nI_1, nt_e, Int32.le_refl, step_ok h hne, rvalue_g R1.1 R1.im, rname_ok R1, q, b2i_f, show (1 : Int32) = nI 1 from rfl, fail_ok R1, stepX F, Bool.true_eq_false, Bool.false_eq_true, ↓reduceIte]
      exact hfin
    · have h1 := nmB_w ht q
      have hv := (R1.2.2.2.2.2.2.1 (i + 1) R1.2.1).2.2.1 h1
      have hw := ht.1 h1
      have hn2 := nm_3 q
      cases qt : toldV v (tk n f (i + 1)).2.2
      · simp only [q, qt, Bool.false_eq_true, if_false, if_true] at hg
        have hfin := hg _ _ _ rfl (o1.fi (Or.inl rfl)) (step_r R1 hn2) hw
        simp (disch := first | exact am_nl_i _ | exact am_nl_r _ | exact am_nl_0 | (refine vi_nI ?_ ?_ <;> omega) | assumption | omega | exact b2i_01 _ | exact Or.inl rfl | exact Or.inr rfl | (unfold vi; decide)) only [ex_75_0, ex_75_1, ex_75_4, ex_75_7, ex_75_8, ex_75_9, ex_75_12, ex_75_13, ex_75_16, ex_75_17, ex_75_20, ex_75_21, ex_75_22, ex_75_25, ex_75_28, ex_75_29, ex_75_30, ex_75_33, ex_75_36, ex_75_37, ex_75_40, ex_75_44, ex_75_47, ex_75_48, ex_75_49, ex_75_52, ex_75_53, ex_75_56, ex_75_57, if_true, if_false, and_self, Option.toList_some, Option.toList_none, List.singleton_append, List.cons_append, List.nil_append, List.append_nil, nI_1, nt_e, Int32.le_refl, step_ok h hne, rvalue_g R1.1 R1.im, rname_ok R1, q, b2i_t, show ((1 : Int32) = (0 : Int32)) = False from eq_false (by decide), hB1.2.2.1, va_rfs, hv, Bool.true_eq_false, Bool.false_eq_true, ↓reduceIte]
        rw [ex_75_41, isTold_ok hL hB1.1.1 hB1.2.2.2.1 hB1.2.1 hw, qt]
        simp (disch := first | exact am_nl_i _ | exact am_nl_r _ | exact am_nl_0 | (refine vi_nI ?_ ?_ <;> omega) | assumption | omega | exact b2i_01 _ | exact Or.inl rfl | exact Or.inr rfl | (unfold vi; decide)) only [ex_75_0, ex_75_1, ex_75_4, ex_75_7, ex_75_8, ex_75_9, ex_75_12, ex_75_13, ex_75_16, ex_75_17, ex_75_20, ex_75_21, ex_75_22, ex_75_25, ex_75_28, ex_75_29, ex_75_30, ex_75_33, ex_75_36, ex_75_37, ex_75_40, ex_75_41, ex_75_44, ex_75_47, ex_75_48, ex_75_49, ex_75_52, ex_75_53, ex_75_56, ex_75_57, if_true, if_false, and_self, Option.toList_some, Option.toList_none, List.singleton_append, List.cons_append, List.nil_append, List.append_nil, nI_1, nt_e, Int32.le_refl, b2i_f, step_ok R1 hn2, Bool.true_eq_false, Bool.false_eq_true, ↓reduceIte]
        exact hfin
        all_goals exact hL
      · have F := fail_f (k := 3) R1 (by decide) (by decide)
        simp only [q, qt, if_true] at hb
        have hfin := hb _ (Int64.ofNat (bas 32 (tk n f (i + 1)).2.2)) _ rfl (o1.fi (Or.inr rfl)) F
        simp (disch := first | exact am_nl_i _ | exact am_nl_r _ | exact am_nl_0 | (refine vi_nI ?_ ?_ <;> omega) | assumption | omega | exact b2i_01 _ | exact Or.inl rfl | exact Or.inr rfl | (unfold vi; decide)) only [ex_75_0, ex_75_1, ex_75_4, ex_75_7, ex_75_8, ex_75_9, ex_75_12, ex_75_13, ex_75_16, ex_75_17, ex_75_20, ex_75_21, ex_75_22, ex_75_25, ex_75_28, ex_75_29, ex_75_30, ex_75_33, ex_75_36, ex_75_37, ex_75_40, ex_75_44, ex_75_47, ex_75_48, ex_75_49, ex_75_52, ex_75_53, ex_75_56, ex_75_57, if_true, if_false, and_self, Option.toList_some, Option.toList_none, List.singleton_append, List.cons_append, List.nil_append, List.append_nil, nI_1, nt_e, Int32.le_refl, step_ok h hne, rvalue_g R1.1 R1.im, rname_ok R1, q, b2i_t, show ((1 : Int32) = (0 : Int32)) = False from eq_false (by decide), hB1.2.2.1, va_rfs, hv, Bool.true_eq_false, Bool.false_eq_true, ↓reduceIte]
        rw [ex_75_41, isTold_ok hL hB1.1.1 hB1.2.2.2.1 hB1.2.1 hw, qt]
        simp (disch := first | exact am_nl_i _ | exact am_nl_r _ | exact am_nl_0 | (refine vi_nI ?_ ?_ <;> omega) | assumption | omega | exact b2i_01 _ | exact Or.inl rfl | exact Or.inr rfl | (unfold vi; decide)) only [ex_75_0, ex_75_1, ex_75_4, ex_75_7, ex_75_8, ex_75_9, ex_75_12, ex_75_13, ex_75_16, ex_75_17, ex_75_20, ex_75_21, ex_75_22, ex_75_25, ex_75_28, ex_75_29, ex_75_30, ex_75_33, ex_75_36, ex_75_37, ex_75_40, ex_75_41, ex_75_44, ex_75_47, ex_75_48, ex_75_49, ex_75_52, ex_75_53, ex_75_56, ex_75_57, if_true, if_false, and_self, Option.toList_some, Option.toList_none, List.singleton_append, List.cons_append, List.nil_append, List.append_nil, nI_1, nt_e, Int32.le_refl, b2i_t, show ((1 : Int32) = (0 : Int32)) = False from eq_false (by decide), show (3 : Int32) = nI 3 from rfl, fail_ok R1, stepX F, Bool.true_eq_false, Bool.false_eq_true, ↓reduceIte]
        exact hfin
        all_goals exact hL
    all_goals exact ha
end HelpC2
def RsO (u u' : am_U) : Prop := Only (is 203) u u' ∧ (∀ k, ¬ k = 4 → ¬ k = 5 → ¬ k = 6 → ¬ k = 8 → ¬ k = 9 → ¬ k = 44 → FI u' 203 k = FI u 203 k) ∧ ∀ k, ¬ k = 7 → FJ u' 203 k = FJ u 203 k
theorem RsO.rf (u : am_U) : RsO u u := ⟨Only.rf _ _, fun _ _ _ _ _ _ _ => rfl, fun _ _ => rfl⟩
theorem RsO.tr {u1 u2 u3 : am_U} (h1 : RsO u1 u2) (h2 : RsO u2 u3) : RsO u1 u3 := ⟨h1.1.tr h2.1, fun k a b c d e f => (h2.2.1 k a b c d e f).trans (h1.2.1 k a b c d e f), fun k a => (h2.2.2 k a).trans (h1.2.2 k a)⟩
theorem RsO.nx {u u1 u2 : am_U} (h : RsO u u1) (h2 : NxO u1 u2) : RsO u u2 := h.tr ⟨h2.1, fun k a b c d _ _ => h2.2.1 k a b c d, h2.2.2⟩
theorem RsO.fi {u u1 : am_U} {k : Nat} {x : Int32} (h : RsO u u1) (hk : k = 9 ∨ k = 44) : RsO u (sFI u1 203 k x) := ⟨of_fi h.1 rfl, fun j a b c d e f => by rw [FI_sFI, if_neg (by omega)]; exact h.2.1 j a b c d e f, fun j a => h.2.2 j a⟩
/-- the reference stands at token i -/
def RSt (u : am_U) (n : Nat) (f : Nat → Nat) (i : Nat) : Prop := RdR u n f ∧ RCur u (tk n f i) (posF n f (i + 1))
theorem RSt.fi {u : am_U} {n i k : Nat} {f : Nat → Nat} {x : Int32} (h : RSt u n f i) (hk : k = 9 ∨ k = 44) : RSt (sFI u 203 k x) n f i := by
  obtain ⟨⟨a, b, c⟩, d1, d2, d3, d4, d5⟩ := h
  refine ⟨⟨a, by rw [FI_sFI, if_neg (by omega)]; exact b, c⟩, by rw [FI_sFI, if_neg (by omega)]; exact d1, by rw [FI_sFI, if_neg (by omega)]; exact d2, by rw [FI_sFI, if_neg (by omega)]; exact d3, d4, fun q => by rw [FI_sFI, if_neg (by omega)]; exact d5 q⟩
/-- what the reference has of the library that it reads: its counts and names -/
def BkR (u : am_U) (v : LV) : Prop := (AI u 205 6 = nI (nF v) ∧ AI u 205 7 = nI (nP v) ∧ AI u 205 8 = nI (nE v) ∧ AI u 205 9 = nI (nT v)) ∧ NamesR u 1 v ∧ (nF v ≤ 12 ∧ nP v ≤ 12 ∧ nE v ≤ 6 ∧ nT v ≤ 5)
theorem BkR.keep {P : Nat → Prop} {u u' : am_U} {v : LV} (h : BkR u v) (ho : Only P u u') (hp : ¬ P 205 ∧ ¬ P 206 ∧ ¬ P 207 ∧ ¬ P 208 ∧ ¬ P 209) : BkR u' v := by
  obtain ⟨a, b, c⟩ := h
  exact ⟨by rw [(ho _ hp.1).2.2.2.1]; exact a, b.keep ho hp.2, c⟩
theorem BkR.rs {u u' : am_U} {v : LV} (h : BkR u v) (ho : RsO u u') : BkR u' v := h.keep ho.1 (by unfold is; omega)
section HelpR
variable {d n m i e : Nat} {u : am_U} {f : Nat → Nat} {v : LV} {post : Option Value → am_M → Prop}
theorem nx_ok (h : RSt u n f i) (hp : ∀ u', NxO u u' → RSt u' n f (i + 1) → post none (am_emb u')) : Cl (d + 1) 166 [.ref 203] (am_emb u) post :=
  next_ok h.1 h.2.1 (posF_le _) (fun u' o c => hp u' o ⟨h.1.nx o, c⟩)
theorem needsNum_ok {lo hi : Nat} (h : RSt u n f i) (hlo : lo < 10000) (hhi : hi < 10000) (hb : ∀ e u', numR lo hi (tk n f) i = .error e → RsO u u' → FI u' 203 9 = nI e → post (some (.int 0)) (am_emb u')) (hg : ∀ x j u', numR lo hi (tk n f) i = .ok (x, j) → RsO u u' → RSt u' n f j → j = i + 1 → FI u' 203 44 = nI x → x ≤ hi → lo ≤ x → post (some (.int 1)) (am_emb u')) : Cl (d + 2) 182 [.ref 203, .int (nI lo), .int (nI hi)] (am_emb u) post := by
  have ht := tk_ok (n := n) (f := f) i
  have h2 : FI u 203 6 = 2 ↔ (tk n f i).1 = 2 := rtok_e h.2 ht (k := 2) (by decide)
  unfold numR at hb hg
  rw [op_182]
  by_cases q : (tk n f i).1 = 2
  · have q2 := (cs_2 ht).mp q
    rw [if_pos q2] at hb hg
    have hv := h.2.2.2.2.2 q
    have hlt := ht.2.1 q
    generalize bas 10 (tk n f i).2.2 = b at *
    by_cases q3 : lo ≤ b ∧ b ≤ hi
    · rw [if_pos q3] at hg
      have hw : decide (nI lo ≤ nI b ∧ nI b ≤ nI hi) = true := decide_eq_true (by rw [nI_leI (by omega) (by omega), nI_leI (by omega) (by omega)]; exact q3)
      simp (disch := first | exact am_nl_i _ | exact am_nl_r _ | exact am_nl_0 | (refine vi_nI ?_ ?_ <;> omega) | assumption | omega | exact b2i_01 _ | exact Or.inl rfl | exact Or.inr rfl | (unfold vi; decide)) only [ex_182_0, ex_182_1, ex_182_4, ex_182_5, ex_182_8, ex_182_9, ex_182_10, ex_182_13, ex_182_14, ex_182_15, ex_182_18, ex_182_19, ex_182_20, ex_182_23, ex_182_26, ex_182_27, ex_182_28, ex_182_31, ex_182_32, ex_182_33, ex_182_34, ex_182_37, ex_182_40, ex_182_44, ex_182_45, if_true, if_false, and_self, Option.toList_some, Option.toList_none, List.singleton_append, List.cons_append, List.nil_append, List.append_nil, nI_1, nt_e, Int32.le_refl, h2, q, hv, within_ok, hw, b2i_t, show ((1 : Int32) = (0 : Int32)) = False from eq_false (by decide), Bool.true_eq_false, Bool.false_eq_true, ↓reduceIte]
      rw [ex_182_41]
      refine nx_ok (h.fi (Or.inr rfl)) (fun u1 o1 S1 => ?_)
      have hfin := hg b (i + 1) u1 rfl (((RsO.rf u).fi (Or.inr rfl)).nx o1) S1 rfl (by rw [o1.2.1 44 (by decide) (by decide) (by decide) (by decide), FI_sFI, if_pos ⟨rfl, rfl⟩]) q3.2 q3.1
      simp (disch := first | exact am_nl_i _ | exact am_nl_r _ | exact am_nl_0 | (refine vi_nI ?_ ?_ <;> omega) | assumption | omega | exact b2i_01 _ | exact Or.inl rfl | exact Or.inr rfl | (unfold vi; decide)) only [ex_182_0, ex_182_1, ex_182_4, ex_182_5, ex_182_8, ex_182_9, ex_182_10, ex_182_13, ex_182_14, ex_182_15, ex_182_18, ex_182_19, ex_182_20, ex_182_23, ex_182_26, ex_182_27, ex_182_28, ex_182_31, ex_182_32, ex_182_33, ex_182_34, ex_182_37, ex_182_40, ex_182_41, ex_182_44, ex_182_45, if_true, if_false, and_self, Option.toList_some, Option.toList_none, List.singleton_append, List.cons_append, List.nil_append, List.append_nil, nI_1, nt_e, Int32.le_refl, Bool.true_eq_false, Bool.false_eq_true, ↓reduceIte]
      exact hfin
    · rw [if_neg q3] at hb
      have hw : decide (nI lo ≤ nI b ∧ nI b ≤ nI hi) = false := decide_eq_false (by rw [nI_leI (by omega) (by omega), nI_leI (by omega) (by omega)]; exact q3)
      have hfin := hb _ _ rfl ((RsO.rf u).fi (k := 9) (x := nI (fl 4 (tk n f i))) (Or.inl rfl)) (by rw [FI_sFI, if_pos ⟨rfl, rfl⟩])
      simp (disch := first | exact am_nl_i _ | exact am_nl_r _ | exact am_nl_0 | (refine vi_nI ?_ ?_ <;> omega) | assumption | omega | exact b2i_01 _ | exact Or.inl rfl | exact Or.inr rfl | (unfold vi; decide)) only [ex_182_0, ex_182_1, ex_182_4, ex_182_5, ex_182_8, ex_182_9, ex_182_10, ex_182_13, ex_182_14, ex_182_15, ex_182_18, ex_182_19, ex_182_20, ex_182_23, ex_182_26, ex_182_27, ex_182_28, ex_182_31, ex_182_32, ex_182_33, ex_182_34, ex_182_37, ex_182_40, ex_182_41, ex_182_44, ex_182_45, if_true, if_false, and_self, Option.toList_some, Option.toList_none, List.singleton_append, List.cons_append, List.nil_append, List.append_nil, nI_1, nt_e, Int32.le_refl, h2, q, hv, within_ok, hw, b2i_f, show (4 : Int32) = nI 4 from rfl, fails_ok h.2, Bool.true_eq_false, Bool.false_eq_true, ↓reduceIte]
      exact hfin
  · have q2 : ¬ csort (tk n f i) = 2 := fun z => q ((cs_2 ht).mpr z)
    rw [if_neg q2] at hb
    have hfin := hb _ _ rfl ((RsO.rf u).fi (k := 9) (x := nI (fl 1 (tk n f i))) (Or.inl rfl)) (by rw [FI_sFI, if_pos ⟨rfl, rfl⟩])
    simp (disch := first | exact am_nl_i _ | exact am_nl_r _ | exact am_nl_0 | (refine vi_nI ?_ ?_ <;> omega) | assumption | omega | exact b2i_01 _ | exact Or.inl rfl | exact Or.inr rfl | (unfold vi; decide)) only [ex_182_0, ex_182_1, ex_182_4, ex_182_5, ex_182_8, ex_182_9, ex_182_10, ex_182_13, ex_182_14, ex_182_15, ex_182_18, ex_182_19, ex_182_20, ex_182_23, ex_182_26, ex_182_27, ex_182_28, ex_182_31, ex_182_32, ex_182_33, ex_182_34, ex_182_37, ex_182_40, ex_182_41, ex_182_44, ex_182_45, if_true, if_false, and_self, Option.toList_some, Option.toList_none, List.singleton_append, List.cons_append, List.nil_append, List.append_nil, nI_1, nt_e, Int32.le_refl, h2, q, show (1 : Int32) = nI 1 from rfl, fails_ok h.2, Bool.true_eq_false, Bool.false_eq_true, ↓reduceIte]
    exact hfin
theorem needsWord_ok {k : Nat} {w : Int64} (h : RSt u n f i) (hk : k < 29) (hw : w = Int64.ofNat (c27L.getD k 0)) (hb : ∀ e u', wordR (200 + k) (tk n f) i = .error e → RsO u u' → FI u' 203 9 = nI e → post (some (.int 0)) (am_emb u')) (hg : ∀ j u', wordR (200 + k) (tk n f) i = .ok j → RsO u u' → RSt u' n f j → j = i + 1 → post (some (.int 1)) (am_emb u')) : Cl (d + 2) 183 [.ref 203, .long w] (am_emb u) post := by
  have ht := tk_ok (n := n) (f := f) i
  unfold wordR at hb hg
  rw [op_183]
  by_cases q : csort (tk n f i) = 200 + k
  · rw [if_pos q] at hg
    simp (disch := first | exact am_nl_i _ | exact am_nl_r _ | exact am_nl_0 | (refine vi_nI ?_ ?_ <;> omega) | assumption | omega | exact b2i_01 _ | exact Or.inl rfl | exact Or.inr rfl | (unfold vi; decide)) only [ex_183_0, ex_183_1, ex_183_2, ex_183_5, ex_183_8, ex_183_9, ex_183_10, ex_183_13, ex_183_14, ex_183_18, ex_183_19, if_true, if_false, and_self, Option.toList_some, Option.toList_none, List.singleton_append, List.cons_append, List.nil_append, List.append_nil, nI_1, nt_e, Int32.le_refl, isWord_ok h.2 ht hk hw, decide_eq_true q, b2i_t, show ((1 : Int32) = (0 : Int32)) = False from eq_false (by decide), Bool.true_eq_false, Bool.false_eq_true, ↓reduceIte]
    rw [ex_183_15]
    refine nx_ok h (fun u1 o1 S1 => ?_)
    have hfin := hg (i + 1) u1 rfl ((RsO.rf u).nx o1) S1 rfl
    simp (disch := first | exact am_nl_i _ | exact am_nl_r _ | exact am_nl_0 | (refine vi_nI ?_ ?_ <;> omega) | assumption | omega | exact b2i_01 _ | exact Or.inl rfl | exact Or.inr rfl | (unfold vi; decide)) only [ex_183_0, ex_183_1, ex_183_2, ex_183_5, ex_183_8, ex_183_9, ex_183_10, ex_183_13, ex_183_14, ex_183_15, ex_183_18, ex_183_19, if_true, if_false, and_self, Option.toList_some, Option.toList_none, List.singleton_append, List.cons_append, List.nil_append, List.append_nil, nI_1, nt_e, Int32.le_refl, Bool.true_eq_false, Bool.false_eq_true, ↓reduceIte]
    exact hfin
  · rw [if_neg q] at hb
    have hfin := hb _ _ rfl ((RsO.rf u).fi (k := 9) (x := nI (fl 1 (tk n f i))) (Or.inl rfl)) (by rw [FI_sFI, if_pos ⟨rfl, rfl⟩])
    simp (disch := first | exact am_nl_i _ | exact am_nl_r _ | exact am_nl_0 | (refine vi_nI ?_ ?_ <;> omega) | assumption | omega | exact b2i_01 _ | exact Or.inl rfl | exact Or.inr rfl | (unfold vi; decide)) only [ex_183_0, ex_183_1, ex_183_2, ex_183_5, ex_183_8, ex_183_9, ex_183_10, ex_183_13, ex_183_14, ex_183_15, ex_183_18, ex_183_19, if_true, if_false, and_self, Option.toList_some, Option.toList_none, List.singleton_append, List.cons_append, List.nil_append, List.append_nil, nI_1, nt_e, Int32.le_refl, isWord_ok h.2 ht hk hw, decide_eq_false q, b2i_f, show (1 : Int32) = nI 1 from rfl, fails_ok h.2, Bool.true_eq_false, Bool.false_eq_true, ↓reduceIte]
    exact hfin
theorem closes_ok (h : RSt u n f i) (hb : ∀ e u', wordR 59 (tk n f) i = .error e → RsO u u' → FI u' 203 9 = nI e → post (some (.int 0)) (am_emb u')) (hg : ∀ j u', wordR 59 (tk n f) i = .ok j → RsO u u' → RSt u' n f j → j = i + 1 → post (some (.int 1)) (am_emb u')) : Cl (d + 2) 185 [.ref 203] (am_emb u) post := by
  have ht := tk_ok (n := n) (f := f) i
  have hs := fun {d} {post} => isSign_ok (d := d) (post := post) (s := 59) h.1 h.2 ht (by decide)
  unfold wordR at hb hg
  rw [op_185]
  by_cases q : csort (tk n f i) = 59
  · rw [if_pos q] at hg
    simp (disch := first | exact am_nl_i _ | exact am_nl_r _ | exact am_nl_0 | (refine vi_nI ?_ ?_ <;> omega) | assumption | omega | exact b2i_01 _ | exact Or.inl rfl | exact Or.inr rfl | (unfold vi; decide)) only [ex_185_0, ex_185_1, ex_185_3, ex_185_6, ex_185_9, ex_185_10, ex_185_11, ex_185_14, ex_185_15, ex_185_19, ex_185_20, if_true, if_false, and_self, Option.toList_some, Option.toList_none, List.singleton_append, List.cons_append, List.nil_append, List.append_nil, nI_1, nt_e, Int32.le_refl, show (59 : Int32) = nI 59 from rfl, hs, decide_eq_true q, b2i_t, show ((1 : Int32) = (0 : Int32)) = False from eq_false (by decide), Bool.true_eq_false, Bool.false_eq_true, ↓reduceIte]
    rw [ex_185_16]
    refine nx_ok h (fun u1 o1 S1 => ?_)
    have hfin := hg (i + 1) u1 rfl ((RsO.rf u).nx o1) S1 rfl
    simp (disch := first | exact am_nl_i _ | exact am_nl_r _ | exact am_nl_0 | (refine vi_nI ?_ ?_ <;> omega) | assumption | omega | exact b2i_01 _ | exact Or.inl rfl | exact Or.inr rfl | (unfold vi; decide)) only [ex_185_0, ex_185_1, ex_185_3, ex_185_6, ex_185_9, ex_185_10, ex_185_11, ex_185_14, ex_185_15, ex_185_16, ex_185_19, ex_185_20, if_true, if_false, and_self, Option.toList_some, Option.toList_none, List.singleton_append, List.cons_append, List.nil_append, List.append_nil, nI_1, nt_e, Int32.le_refl, Bool.true_eq_false, Bool.false_eq_true, ↓reduceIte]
    exact hfin
  · rw [if_neg q] at hb
    have hfin := hb _ _ rfl ((RsO.rf u).fi (k := 9) (x := nI (fl 1 (tk n f i))) (Or.inl rfl)) (by rw [FI_sFI, if_pos ⟨rfl, rfl⟩])
    simp (disch := first | exact am_nl_i _ | exact am_nl_r _ | exact am_nl_0 | (refine vi_nI ?_ ?_ <;> omega) | assumption | omega | exact b2i_01 _ | exact Or.inl rfl | exact Or.inr rfl | (unfold vi; decide)) only [ex_185_0, ex_185_1, ex_185_3, ex_185_6, ex_185_9, ex_185_10, ex_185_11, ex_185_14, ex_185_15, ex_185_16, ex_185_19, ex_185_20, if_true, if_false, and_self, Option.toList_some, Option.toList_none, List.singleton_append, List.cons_append, List.nil_append, List.append_nil, nI_1, nt_e, Int32.le_refl, show (59 : Int32) = nI 59 from rfl, hs, decide_eq_false q, b2i_f, show (1 : Int32) = nI 1 from rfl, fails_ok h.2, Bool.true_eq_false, Bool.false_eq_true, ↓reduceIte]
    exact hfin
/-- a word and a number behind it -/
def bothR (s lo hi : Nat) (T : Nat → Tok) (i : Nat) : Except Nat (Nat × Nat) := match wordR s T i with
  | .error e => .error e
  | .ok j => numR lo hi T j
theorem needsBoth_ok {k lo hi : Nat} {w : Int64} (h : RSt u n f i) (hk : k < 29) (hw : w = Int64.ofNat (c27L.getD k 0)) (hlo : lo < 10000) (hhi : hi < 10000) (hb : ∀ e u', bothR (200 + k) lo hi (tk n f) i = .error e → RsO u u' → FI u' 203 9 = nI e → post (some (.int 0)) (am_emb u')) (hg : ∀ x j u', bothR (200 + k) lo hi (tk n f) i = .ok (x, j) → RsO u u' → RSt u' n f j → j = i + 2 → FI u' 203 44 = nI x → x ≤ hi → lo ≤ x → post (some (.int 1)) (am_emb u')) : Cl (d + 3) 184 [.ref 203, .long w, .int (nI lo), .int (nI hi)] (am_emb u) post := by
  unfold bothR at hb hg
  rw [op_184]
  simp (disch := first | exact am_nl_i _ | exact am_nl_r _ | exact am_nl_0 | assumption | omega | (refine vi_nI ?_ ?_ <;> omega) | exact b2i_01 _ | exact Or.inl rfl | exact Or.inr rfl | (unfold vi; decide)) only [ex_184_0, ex_184_1, ex_184_5, ex_184_8, ex_184_9, ex_184_10, ex_184_12, ex_184_15, ex_184_18, ex_184_19, ex_184_22, ex_184_23, if_true, if_false, and_self, Option.toList_some, Option.toList_none, List.singleton_append, List.cons_append, List.nil_append, List.append_nil, nI_1, nt_e, Int32.le_refl]
  rw [ex_184_2]
  refine needsWord_ok h hk hw (fun e u1 q o1 z => ?_) (fun j u1 q o1 S1 hj => ?_)
  · rw [q] at hb
    have hfin := hb e u1 rfl o1 z
    simp (disch := first | exact am_nl_i _ | exact am_nl_r _ | exact am_nl_0 | (refine vi_nI ?_ ?_ <;> omega) | assumption | omega | exact b2i_01 _ | exact Or.inl rfl | exact Or.inr rfl | (unfold vi; decide)) only [ex_184_0, ex_184_1, ex_184_2, ex_184_5, ex_184_8, ex_184_9, ex_184_10, ex_184_12, ex_184_15, ex_184_18, ex_184_19, ex_184_22, ex_184_23, if_true, if_false, and_self, Option.toList_some, Option.toList_none, List.singleton_append, List.cons_append, List.nil_append, List.append_nil, nI_1, nt_e, Int32.le_refl, Bool.true_eq_false, Bool.false_eq_true, ↓reduceIte]
    exact hfin
  · rw [q] at hb hg
    simp (disch := first | exact am_nl_i _ | exact am_nl_r _ | exact am_nl_0 | (refine vi_nI ?_ ?_ <;> omega) | assumption | omega | exact b2i_01 _ | exact Or.inl rfl | exact Or.inr rfl | (unfold vi; decide)) only [ex_184_0, ex_184_1, ex_184_2, ex_184_5, ex_184_8, ex_184_9, ex_184_10, ex_184_15, ex_184_18, ex_184_19, ex_184_22, ex_184_23, if_true, if_false, and_self, Option.toList_some, Option.toList_none, List.singleton_append, List.cons_append, List.nil_append, List.append_nil, nI_1, nt_e, Int32.le_refl, show ((1 : Int32) = (0 : Int32)) = False from eq_false (by decide), Bool.true_eq_false, Bool.false_eq_true, ↓reduceIte]
    rw [ex_184_12]
    refine needsNum_ok S1 hlo hhi (fun e u2 q o2 z => ?_) (fun x j u2 q o2 S2 hj2 hx h3 h4 => ?_)
    · have hfin := hb e u2 q (o1.tr o2) z
      simp (disch := first | exact am_nl_i _ | exact am_nl_r _ | exact am_nl_0 | (refine vi_nI ?_ ?_ <;> omega) | assumption | omega | exact b2i_01 _ | exact Or.inl rfl | exact Or.inr rfl | (unfold vi; decide)) only [ex_184_0, ex_184_1, ex_184_2, ex_184_5, ex_184_8, ex_184_9, ex_184_10, ex_184_12, ex_184_15, ex_184_18, ex_184_19, ex_184_22, ex_184_23, if_true, if_false, and_self, Option.toList_some, Option.toList_none, List.singleton_append, List.cons_append, List.nil_append, List.append_nil, nI_1, nt_e, Int32.le_refl, Bool.true_eq_false, Bool.false_eq_true, ↓reduceIte]
      exact hfin
    · have hfin := hg x j u2 q (o1.tr o2) S2 (by omega) hx h3 h4
      simp (disch := first | exact am_nl_i _ | exact am_nl_r _ | exact am_nl_0 | (refine vi_nI ?_ ?_ <;> omega) | assumption | omega | exact b2i_01 _ | exact Or.inl rfl | exact Or.inr rfl | (unfold vi; decide)) only [ex_184_0, ex_184_1, ex_184_2, ex_184_5, ex_184_8, ex_184_9, ex_184_10, ex_184_12, ex_184_15, ex_184_18, ex_184_19, ex_184_22, ex_184_23, if_true, if_false, and_self, Option.toList_some, Option.toList_none, List.singleton_append, List.cons_append, List.nil_append, List.append_nil, nI_1, nt_e, Int32.le_refl, show ((1 : Int32) = (0 : Int32)) = False from eq_false (by decide), Bool.true_eq_false, Bool.false_eq_true, ↓reduceIte]
      exact hfin
theorem i_neg {o : Option Nat} {c : Nat} (hc : c ≤ 12) (h : ∀ j, o = some j → j < c) : (oI o < 0 ↔ o = none) ∧ (0 ≤ oI o ↔ o ≠ none) := by
  cases o with
  | none => exact ⟨⟨fun _ => rfl, fun _ => by decide⟩, ⟨fun q => absurd q (by decide), fun q => absurd rfl q⟩⟩
  | some j =>
    have := h j rfl
    have e := i_lt0 (n := j) (by omega)
    have e2 := i_0le (n := j) (by omega)
    exact ⟨⟨fun q => absurd (e.mp q) (fun h => h), fun q => by cases q⟩, ⟨fun _ q => (by cases q), fun _ => e2.mpr trivial⟩⟩
theorem c9 : (9 : Int32).toNatClampNeg = 9 := rfl
theorem isNew_ok (h : RSt u n f i) (hB : BkR u v) (hb : ∀ e u', newE v (tk n f i) = some e → RsO u u' → FI u' 203 9 = nI e → post (some (.int 0)) (am_emb u')) (hg : newE v (tk n f i) = none → post (some (.int 1)) (am_emb u)) : Cl (d + 2) 186 [.ref 203] (am_emb u) post := by
  have ht := tk_ok (n := n) (f := f) i
  obtain ⟨⟨n0, n1, n2, n3⟩, hN, h12a, h12b, h6, h5⟩ := hB
  unfold newE at hb hg
  rw [op_186]
  cases q : nmB (csort (tk n f i))
  · simp only [q, Bool.false_eq_true, if_false] at hb
    have hfin := hb _ _ rfl ((RsO.rf u).fi (k := 9) (x := nI (fl 1 (tk n f i))) (Or.inl rfl)) (by rw [FI_sFI, if_pos ⟨rfl, rfl⟩])
    simp (disch := first | exact am_nl_i _ | exact am_nl_r _ | exact am_nl_0 | (refine vi_nI ?_ ?_ <;> omega) | assumption | omega | exact b2i_01 _ | exact Or.inl rfl | exact Or.inr rfl | (unfold vi; decide)) only [ex_186_0, ex_186_1, ex_186_4, ex_186_7, ex_186_8, ex_186_9, ex_186_12, ex_186_13, ex_186_14, ex_186_17, ex_186_20, ex_186_21, ex_186_22, ex_186_25, ex_186_28, ex_186_29, ex_186_30, ex_186_33, ex_186_36, ex_186_37, ex_186_40, ex_186_41, ex_186_42, ex_186_45, ex_186_47, ex_186_48, ex_186_49, ex_186_52, ex_186_55, ex_186_58, ex_186_59, ex_186_60, ex_186_63, ex_186_66, ex_186_67, ex_186_70, ex_186_71, if_true, if_false, and_self, Option.toList_some, Option.toList_none, List.singleton_append, List.cons_append, List.nil_append, List.append_nil, nI_1, nt_e, Int32.le_refl, isKept_ok h.2 ht, q, Bool.not_false, b2i_t, show ((1 : Int32) = (0 : Int32)) = False from eq_false (by decide), show (1 : Int32) = nI 1 from rfl, fails_ok h.2, Bool.true_eq_false, Bool.false_eq_true, ↓reduceIte]
    exact hfin
  · have h1 := nmB_w ht q
    have hw := ht.1 h1
    have hj := h.2.2.2.2.1 h1
    simp only [q, if_true] at hb hg
    have z0 := i_neg (o := findV v 0 (tk n f i).2.2) h12a (fun j hh => findV_lt hh)
    have z1 := i_neg (o := findV v 1 (tk n f i).2.2) h12b (fun j hh => findV_lt hh)
    have z2 := i_neg (o := findV v 2 (tk n f i).2.2) (c := nE v) (by omega) (fun j hh => findV_lt hh)
    have z3 := i_neg (o := findV v 3 (tk n f i).2.2) (c := nT v) (by omega) (fun j hh => findV_lt hh)
    have g0 := fun {d} {post} => factNamed_ok (d := d) (post := post) n0 h12a hN h.2 h1 hw
    have g1 := fun {d} {post} => pageNamed_ok (d := d) (post := post) (o := 1) (Nat.le_refl 1) n1 h12b hN h.2 h1 hw
    have g2 := fun {d} {post} => personNamed_ok (d := d) (post := post) (o := 1) (Nat.le_refl 1) n2 h6 hN h.2 h1 hw
    have g3 := fun {d} {post} => named_ok (d := d) (u := u) (post := post) (from_ := 5) shl_209 (show 5 + nT v ≤ 10 by omega) (by decide) hN.2.2.2 hw
    have e1 : (1 : Int32) = nI 1 := rfl
    unfold toldV at hb hg
    have fin : ∀ P : Prop, (∃ k, k < 4 ∧ (findV v k (tk n f i).2.2).isSome = true) → ((findV v 0 (tk n f i).2.2).isSome || (findV v 1 (tk n f i).2.2).isSome || (findV v 2 (tk n f i).2.2).isSome || (findV v 3 (tk n f i).2.2).isSome) = true → post (some (.int 0)) (am_emb (sFI u 203 9 (nI (fl 3 (tk n f i))))) := by
      intro P _ hs
      simp only [hs, if_true] at hb
      exact hb _ _ rfl ((RsO.rf u).fi (k := 9) (x := nI (fl 3 (tk n f i))) (Or.inl rfl)) (by rw [FI_sFI, if_pos ⟨rfl, rfl⟩])
    by_cases c0 : findV v 0 (tk n f i).2.2 = none
    · by_cases c1 : findV v 1 (tk n f i).2.2 = none
      · by_cases c2 : findV v 2 (tk n f i).2.2 = none
        · by_cases c3 : findV v 3 (tk n f i).2.2 = none
          · rw [c0, c1, c2, c3] at hg
            have hfin := hg rfl
            have m3 : oI (findA (nameV v 3) (tk n f i).2.2 (nT v) 0) < 0 := z3.1.mpr c3
            simp (disch := first | exact am_nl_i _ | exact am_nl_r _ | exact am_nl_0 | (refine vi_nI ?_ ?_ <;> omega) | assumption | omega | exact b2i_01 _ | exact Or.inl rfl | exact Or.inr rfl | (unfold vi; decide)) only [ex_186_0, ex_186_1, ex_186_4, ex_186_7, ex_186_8, ex_186_9, ex_186_12, ex_186_13, ex_186_14, ex_186_17, ex_186_20, ex_186_21, ex_186_25, ex_186_28, ex_186_29, ex_186_33, ex_186_36, ex_186_37, ex_186_40, ex_186_41, ex_186_42, ex_186_45, ex_186_47, ex_186_48, ex_186_49, ex_186_52, ex_186_55, ex_186_58, ex_186_59, ex_186_60, ex_186_63, ex_186_66, ex_186_67, ex_186_70, ex_186_71, if_true, if_false, and_self, Option.toList_some, Option.toList_none, List.singleton_append, List.cons_append, List.nil_append, List.append_nil, nI_1, nt_e, Int32.le_refl, isKept_ok h.2 ht, q, Bool.not_true, b2i_f, g0, z0.1, z0.2, c0, Ne, not_true_eq_false, Bool.true_eq_false, Bool.false_eq_true, ↓reduceIte]
            rw [ex_186_22, e1, g1]
            simp (disch := first | exact am_nl_i _ | exact am_nl_r _ | exact am_nl_0 | (refine vi_nI ?_ ?_ <;> omega) | assumption | omega | exact b2i_01 _ | exact Or.inl rfl | exact Or.inr rfl | (unfold vi; decide)) only [ex_186_0, ex_186_1, ex_186_4, ex_186_7, ex_186_8, ex_186_9, ex_186_12, ex_186_13, ex_186_14, ex_186_17, ex_186_20, ex_186_21, ex_186_22, ex_186_25, ex_186_28, ex_186_29, ex_186_33, ex_186_36, ex_186_37, ex_186_40, ex_186_41, ex_186_42, ex_186_45, ex_186_47, ex_186_48, ex_186_49, ex_186_52, ex_186_55, ex_186_58, ex_186_59, ex_186_60, ex_186_63, ex_186_66, ex_186_67, ex_186_70, ex_186_71, if_true, if_false, and_self, Option.toList_some, Option.toList_none, List.singleton_append, List.cons_append, List.nil_append, List.append_nil, nI_1, nt_e, Int32.le_refl, z1.1, z1.2, c1, Ne, not_true_eq_false, Bool.true_eq_false, Bool.false_eq_true, ↓reduceIte]
            rw [ex_186_30, e1, g2]
            simp (disch := first | exact am_nl_i _ | exact am_nl_r _ | exact am_nl_0 | (refine vi_nI ?_ ?_ <;> omega) | assumption | omega | exact b2i_01 _ | exact Or.inl rfl | exact Or.inr rfl | (unfold vi; decide)) only [ex_186_0, ex_186_1, ex_186_4, ex_186_7, ex_186_8, ex_186_9, ex_186_12, ex_186_13, ex_186_14, ex_186_17, ex_186_20, ex_186_21, ex_186_22, ex_186_25, ex_186_28, ex_186_29, ex_186_30, ex_186_33, ex_186_36, ex_186_37, ex_186_40, ex_186_41, ex_186_42, ex_186_45, ex_186_47, ex_186_48, ex_186_49, ex_186_52, ex_186_55, ex_186_58, ex_186_59, ex_186_60, ex_186_63, ex_186_66, ex_186_67, ex_186_70, ex_186_71, if_true, if_false, and_self, Option.toList_some, Option.toList_none, List.singleton_append, List.cons_append, List.nil_append, List.append_nil, nI_1, nt_e, Int32.le_refl, z2.1, z2.2, c2, Ne, not_true_eq_false, c9, n3, hj, lq5, g3, m3, Bool.true_eq_false, Bool.false_eq_true, ↓reduceIte]
            exact hfin
          · have fi := fin True ⟨3, by decide, by cases hh : findV v 3 (tk n f i).2.2 with | none => exact absurd hh c3 | some _ => rfl⟩ (by cases hh : findV v 3 (tk n f i).2.2 with | none => exact absurd hh c3 | some _ => simp)
            have m3 : ¬ oI (findA (nameV v 3) (tk n f i).2.2 (nT v) 0) < 0 := fun z => c3 (z3.1.mp z)
            simp (disch := first | exact am_nl_i _ | exact am_nl_r _ | exact am_nl_0 | (refine vi_nI ?_ ?_ <;> omega) | assumption | omega | exact b2i_01 _ | exact Or.inl rfl | exact Or.inr rfl | (unfold vi; decide)) only [ex_186_0, ex_186_1, ex_186_4, ex_186_7, ex_186_8, ex_186_9, ex_186_12, ex_186_13, ex_186_14, ex_186_17, ex_186_20, ex_186_21, ex_186_25, ex_186_28, ex_186_29, ex_186_33, ex_186_36, ex_186_37, ex_186_40, ex_186_41, ex_186_42, ex_186_45, ex_186_47, ex_186_48, ex_186_49, ex_186_52, ex_186_55, ex_186_58, ex_186_59, ex_186_60, ex_186_63, ex_186_66, ex_186_67, ex_186_70, ex_186_71, if_true, if_false, and_self, Option.toList_some, Option.toList_none, List.singleton_append, List.cons_append, List.nil_append, List.append_nil, nI_1, nt_e, Int32.le_refl, isKept_ok h.2 ht, q, Bool.not_true, b2i_f, g0, z0.1, z0.2, c0, Ne, not_true_eq_false, Bool.true_eq_false, Bool.false_eq_true, ↓reduceIte]
            rw [ex_186_22, e1, g1]
            simp (disch := first | exact am_nl_i _ | exact am_nl_r _ | exact am_nl_0 | (refine vi_nI ?_ ?_ <;> omega) | assumption | omega | exact b2i_01 _ | exact Or.inl rfl | exact Or.inr rfl | (unfold vi; decide)) only [ex_186_0, ex_186_1, ex_186_4, ex_186_7, ex_186_8, ex_186_9, ex_186_12, ex_186_13, ex_186_14, ex_186_17, ex_186_20, ex_186_21, ex_186_22, ex_186_25, ex_186_28, ex_186_29, ex_186_33, ex_186_36, ex_186_37, ex_186_40, ex_186_41, ex_186_42, ex_186_45, ex_186_47, ex_186_48, ex_186_49, ex_186_52, ex_186_55, ex_186_58, ex_186_59, ex_186_60, ex_186_63, ex_186_66, ex_186_67, ex_186_70, ex_186_71, if_true, if_false, and_self, Option.toList_some, Option.toList_none, List.singleton_append, List.cons_append, List.nil_append, List.append_nil, nI_1, nt_e, Int32.le_refl, z1.1, z1.2, c1, Ne, not_true_eq_false, Bool.true_eq_false, Bool.false_eq_true, ↓reduceIte]
            rw [ex_186_30, e1, g2]
            simp (disch := first | exact am_nl_i _ | exact am_nl_r _ | exact am_nl_0 | (refine vi_nI ?_ ?_ <;> omega) | assumption | omega | exact b2i_01 _ | exact Or.inl rfl | exact Or.inr rfl | (unfold vi; decide)) only [ex_186_0, ex_186_1, ex_186_4, ex_186_7, ex_186_8, ex_186_9, ex_186_12, ex_186_13, ex_186_14, ex_186_17, ex_186_20, ex_186_21, ex_186_22, ex_186_25, ex_186_28, ex_186_29, ex_186_30, ex_186_33, ex_186_36, ex_186_37, ex_186_40, ex_186_41, ex_186_42, ex_186_45, ex_186_47, ex_186_48, ex_186_49, ex_186_52, ex_186_55, ex_186_58, ex_186_59, ex_186_60, ex_186_63, ex_186_66, ex_186_67, ex_186_70, ex_186_71, if_true, if_false, and_self, Option.toList_some, Option.toList_none, List.singleton_append, List.cons_append, List.nil_append, List.append_nil, nI_1, nt_e, Int32.le_refl, z2.1, z2.2, c2, Ne, not_true_eq_false, c9, n3, hj, lq5, g3, m3, show (3 : Int32) = nI 3 from rfl, fails_ok h.2, Bool.true_eq_false, Bool.false_eq_true, ↓reduceIte]
            exact fi
        · have fi := fin True ⟨2, by decide, by cases hh : findV v 2 (tk n f i).2.2 with | none => exact absurd hh c2 | some _ => rfl⟩ (by cases hh : findV v 2 (tk n f i).2.2 with | none => exact absurd hh c2 | some _ => simp)
          simp (disch := first | exact am_nl_i _ | exact am_nl_r _ | exact am_nl_0 | (refine vi_nI ?_ ?_ <;> omega) | assumption | omega | exact b2i_01 _ | exact Or.inl rfl | exact Or.inr rfl | (unfold vi; decide)) only [ex_186_0, ex_186_1, ex_186_4, ex_186_7, ex_186_8, ex_186_9, ex_186_12, ex_186_13, ex_186_14, ex_186_17, ex_186_20, ex_186_21, ex_186_25, ex_186_28, ex_186_29, ex_186_33, ex_186_36, ex_186_37, ex_186_40, ex_186_41, ex_186_42, ex_186_45, ex_186_47, ex_186_48, ex_186_49, ex_186_52, ex_186_55, ex_186_58, ex_186_59, ex_186_60, ex_186_63, ex_186_66, ex_186_67, ex_186_70, ex_186_71, if_true, if_false, and_self, Option.toList_some, Option.toList_none, List.singleton_append, List.cons_append, List.nil_append, List.append_nil, nI_1, nt_e, Int32.le_refl, isKept_ok h.2 ht, q, Bool.not_true, b2i_f, g0, z0.1, z0.2, c0, Ne, not_true_eq_false, Bool.true_eq_false, Bool.false_eq_true, ↓reduceIte]
          rw [ex_186_22, e1, g1]
          simp (disch := first | exact am_nl_i _ | exact am_nl_r _ | exact am_nl_0 | (refine vi_nI ?_ ?_ <;> omega) | assumption | omega | exact b2i_01 _ | exact Or.inl rfl | exact Or.inr rfl | (unfold vi; decide)) only [ex_186_0, ex_186_1, ex_186_4, ex_186_7, ex_186_8, ex_186_9, ex_186_12, ex_186_13, ex_186_14, ex_186_17, ex_186_20, ex_186_21, ex_186_22, ex_186_25, ex_186_28, ex_186_29, ex_186_33, ex_186_36, ex_186_37, ex_186_40, ex_186_41, ex_186_42, ex_186_45, ex_186_47, ex_186_48, ex_186_49, ex_186_52, ex_186_55, ex_186_58, ex_186_59, ex_186_60, ex_186_63, ex_186_66, ex_186_67, ex_186_70, ex_186_71, if_true, if_false, and_self, Option.toList_some, Option.toList_none, List.singleton_append, List.cons_append, List.nil_append, List.append_nil, nI_1, nt_e, Int32.le_refl, z1.1, z1.2, c1, Ne, not_true_eq_false, Bool.true_eq_false, Bool.false_eq_true, ↓reduceIte]
          rw [ex_186_30, e1, g2]
          simp (disch := first | exact am_nl_i _ | exact am_nl_r _ | exact am_nl_0 | (refine vi_nI ?_ ?_ <;> omega) | assumption | omega | exact b2i_01 _ | exact Or.inl rfl | exact Or.inr rfl | (unfold vi; decide)) only [ex_186_0, ex_186_1, ex_186_4, ex_186_7, ex_186_8, ex_186_9, ex_186_12, ex_186_13, ex_186_14, ex_186_17, ex_186_20, ex_186_21, ex_186_22, ex_186_25, ex_186_28, ex_186_29, ex_186_30, ex_186_33, ex_186_36, ex_186_37, ex_186_40, ex_186_41, ex_186_42, ex_186_45, ex_186_47, ex_186_48, ex_186_49, ex_186_52, ex_186_55, ex_186_58, ex_186_59, ex_186_60, ex_186_63, ex_186_66, ex_186_67, ex_186_70, ex_186_71, if_true, if_false, and_self, Option.toList_some, Option.toList_none, List.singleton_append, List.cons_append, List.nil_append, List.append_nil, nI_1, nt_e, Int32.le_refl, z2.1, z2.2, c2, Ne, not_false_eq_true, show (3 : Int32) = nI 3 from rfl, fails_ok h.2, Bool.true_eq_false, Bool.false_eq_true, ↓reduceIte]
          exact fi
      · have fi := fin True ⟨1, by decide, by cases hh : findV v 1 (tk n f i).2.2 with | none => exact absurd hh c1 | some _ => rfl⟩ (by cases hh : findV v 1 (tk n f i).2.2 with | none => exact absurd hh c1 | some _ => simp)
        simp (disch := first | exact am_nl_i _ | exact am_nl_r _ | exact am_nl_0 | (refine vi_nI ?_ ?_ <;> omega) | assumption | omega | exact b2i_01 _ | exact Or.inl rfl | exact Or.inr rfl | (unfold vi; decide)) only [ex_186_0, ex_186_1, ex_186_4, ex_186_7, ex_186_8, ex_186_9, ex_186_12, ex_186_13, ex_186_14, ex_186_17, ex_186_20, ex_186_21, ex_186_25, ex_186_28, ex_186_29, ex_186_33, ex_186_36, ex_186_37, ex_186_40, ex_186_41, ex_186_42, ex_186_45, ex_186_47, ex_186_48, ex_186_49, ex_186_52, ex_186_55, ex_186_58, ex_186_59, ex_186_60, ex_186_63, ex_186_66, ex_186_67, ex_186_70, ex_186_71, if_true, if_false, and_self, Option.toList_some, Option.toList_none, List.singleton_append, List.cons_append, List.nil_append, List.append_nil, nI_1, nt_e, Int32.le_refl, isKept_ok h.2 ht, q, Bool.not_true, b2i_f, g0, z0.1, z0.2, c0, Ne, not_true_eq_false, Bool.true_eq_false, Bool.false_eq_true, ↓reduceIte]
        rw [ex_186_22, e1, g1]
        simp (disch := first | exact am_nl_i _ | exact am_nl_r _ | exact am_nl_0 | (refine vi_nI ?_ ?_ <;> omega) | assumption | omega | exact b2i_01 _ | exact Or.inl rfl | exact Or.inr rfl | (unfold vi; decide)) only [ex_186_0, ex_186_1, ex_186_4, ex_186_7, ex_186_8, ex_186_9, ex_186_12, ex_186_13, ex_186_14, ex_186_17, ex_186_20, ex_186_21, ex_186_22, ex_186_25, ex_186_28, ex_186_29, ex_186_30, ex_186_33, ex_186_36, ex_186_37, ex_186_40, ex_186_41, ex_186_42, ex_186_45, ex_186_47, ex_186_48, ex_186_49, ex_186_52, ex_186_55, ex_186_58, ex_186_59, ex_186_60, ex_186_63, ex_186_66, ex_186_67, ex_186_70, ex_186_71, if_true, if_false, and_self, Option.toList_some, Option.toList_none, List.singleton_append, List.cons_append, List.nil_append, List.append_nil, nI_1, nt_e, Int32.le_refl, z1.1, z1.2, c1, Ne, not_false_eq_true, show (3 : Int32) = nI 3 from rfl, fails_ok h.2, Bool.true_eq_false, Bool.false_eq_true, ↓reduceIte]
        exact fi
    · have fi := fin True ⟨0, by decide, by cases hh : findV v 0 (tk n f i).2.2 with | none => exact absurd hh c0 | some _ => rfl⟩ (by cases hh : findV v 0 (tk n f i).2.2 with | none => exact absurd hh c0 | some _ => simp)
      simp (disch := first | exact am_nl_i _ | exact am_nl_r _ | exact am_nl_0 | (refine vi_nI ?_ ?_ <;> omega) | assumption | omega | exact b2i_01 _ | exact Or.inl rfl | exact Or.inr rfl | (unfold vi; decide)) only [ex_186_0, ex_186_1, ex_186_4, ex_186_7, ex_186_8, ex_186_9, ex_186_12, ex_186_13, ex_186_14, ex_186_17, ex_186_20, ex_186_21, ex_186_22, ex_186_25, ex_186_28, ex_186_29, ex_186_30, ex_186_33, ex_186_36, ex_186_37, ex_186_40, ex_186_41, ex_186_42, ex_186_45, ex_186_47, ex_186_48, ex_186_49, ex_186_52, ex_186_55, ex_186_58, ex_186_59, ex_186_60, ex_186_63, ex_186_66, ex_186_67, ex_186_70, ex_186_71, if_true, if_false, and_self, Option.toList_some, Option.toList_none, List.singleton_append, List.cons_append, List.nil_append, List.append_nil, nI_1, nt_e, Int32.le_refl, isKept_ok h.2 ht, q, Bool.not_true, b2i_f, g0, z0.1, z0.2, c0, Ne, not_false_eq_true, show (3 : Int32) = nI 3 from rfl, fails_ok h.2, Bool.true_eq_false, Bool.false_eq_true, ↓reduceIte]
      exact fi
theorem needsFacts_ok (h : RSt u n f i) (hE : EndAt n f m) (him : i ≤ m) (hi1 : 1 ≤ i) (hB : BkR u v) (hb : ∀ e u', factsR (tk n f) v i = .error e → RsO u u' → FI u' 203 9 = nI e → post (some (.int 0)) (am_emb u')) (hg : ∀ s j u', factsR (tk n f) v i = .ok (s, j) → RsO u u' → RSt u' n f j → j ≤ m → FI u' 203 44 = s → post (some (.int 1)) (am_emb u')) : Cl (d + 2) 187 [.ref 203] (am_emb u) post := by
  have hm : m ≤ 1000 := Nat.le_trans hE.1 h.1.2.2.1
  unfold factsR at hb hg
  rw [op_187]
  have loop : ∀ (g k i : Nat) (s : Int32) (u1 : am_U) (j2 : Option Value), k + g = 1000 → RsO u u1 → RSt u1 n f i → i ≤ m → k + 1 ≤ i →
      (∀ e u', factsF (tk n f) v g s i = .error e → RsO u u' → FI u' 203 9 = nI e → post (some (.int 0)) (am_emb u')) → (∀ s' j u', factsF (tk n f) v g s i = .ok (s', j) → RsO u u' → RSt u' n f j → j ≤ m → FI u' 203 44 = s' → post (some (.int 1)) (am_emb u')) → Ex (d + 2) 187 2 [some (.ref 203), some (.int s), j2] [] (am_emb u1) post := by
    intro g
    induction g with
    | zero =>
      intro k i s u1 j2 hk o1 S1 him hki
      omega
    | succ g ih =>
      intro k i s u1 j2 hk o1 S1 him hki hb hg
      have ht := tk_ok (n := n) (f := f) i
      have hB1 := hB.rs o1
      have hF := hB.2.2.1
      have hs := fun {d} {post} => isSign_ok (d := d) (post := post) (s := 59) S1.1 S1.2 ht (by decide)
      rw [factsF] at hb hg
      have body : ¬ (¬ s = 0 ∧ csort (tk n f i) = 59) → Ex (d + 2) 187 15 [some (.ref 203), some (.int s), j2] [] (am_emb u1) post := by
        intro hgo
        rw [if_neg hgo] at hb hg
        rw [ex_187_15]
        unfold lookR lookN at hb hg
        cases q : nmB (csort (tk n f i))
        · simp only [q, Bool.false_eq_true, if_false] at hb
          have hfin := hb _ _ rfl (o1.fi (k := 9) (x := nI (fl 1 (tk n f i))) (Or.inl rfl)) (by rw [FI_sFI, if_pos ⟨rfl, rfl⟩])
          simp (disch := first | exact am_nl_i _ | exact am_nl_r _ | exact am_nl_0 | (refine vi_nI ?_ ?_ <;> omega) | assumption | omega | exact b2i_01 _ | exact Or.inl rfl | exact Or.inr rfl | (unfold vi; decide)) only [ex_187_0, ex_187_1, ex_187_3, ex_187_6, ex_187_7, ex_187_9, ex_187_12, ex_187_15, ex_187_16, ex_187_19, ex_187_22, ex_187_23, ex_187_24, ex_187_27, ex_187_28, ex_187_29, ex_187_32, ex_187_33, ex_187_34, ex_187_37, ex_187_38, ex_187_39, ex_187_42, ex_187_43, ex_187_44, ex_187_45, ex_187_46, ex_187_47, ex_187_48, ex_187_49, ex_187_52, ex_187_53, ex_187_54, ex_187_57, ex_187_58, ex_187_59, ex_187_60, ex_187_61, ex_187_62, ex_187_63, ex_187_64, ex_187_65, ex_187_68, ex_187_71, ex_187_72, ex_187_73, ex_187_76, ex_187_77, if_true, if_false, and_self, Option.toList_some, Option.toList_none, List.singleton_append, List.cons_append, List.nil_append, List.append_nil, nI_1, nt_e, Int32.le_refl, isKept_ok S1.2 ht, q, Bool.not_false, b2i_t, show ((1 : Int32) = (0 : Int32)) = False from eq_false (by decide), show (1 : Int32) = nI 1 from rfl, fails_ok S1.2, Bool.true_eq_false, Bool.false_eq_true, ↓reduceIte]
          exact hfin
        · have h1 := nmB_w ht q
          have hw := ht.1 h1
          have g0 := fun {d} {post} => factNamed_ok (d := d) (post := post) hB1.1.1 hF hB1.2.1 S1.2 h1 hw
          simp only [q, if_true] at hb hg
          have hfe : findV v 0 (tk n f i).2.2 = findA (nameV v 0) (tk n f i).2.2 (v.1 0) 0 := rfl
          cases z : findA (nameV v 0) (tk n f i).2.2 (v.1 0) 0 with
          | none =>
            simp only [z] at hb
            have hfin := hb _ _ rfl (o1.fi (k := 9) (x := nI (fl 2 (tk n f i))) (Or.inl rfl)) (by rw [FI_sFI, if_pos ⟨rfl, rfl⟩])
            simp (disch := first | exact am_nl_i _ | exact am_nl_r _ | exact am_nl_0 | (refine vi_nI ?_ ?_ <;> omega) | assumption | omega | exact b2i_01 _ | exact Or.inl rfl | exact Or.inr rfl | (unfold vi; decide)) only [ex_187_0, ex_187_1, ex_187_3, ex_187_6, ex_187_7, ex_187_9, ex_187_12, ex_187_15, ex_187_16, ex_187_19, ex_187_22, ex_187_23, ex_187_24, ex_187_27, ex_187_28, ex_187_29, ex_187_32, ex_187_33, ex_187_34, ex_187_37, ex_187_38, ex_187_39, ex_187_42, ex_187_43, ex_187_44, ex_187_45, ex_187_46, ex_187_47, ex_187_48, ex_187_49, ex_187_52, ex_187_53, ex_187_54, ex_187_57, ex_187_58, ex_187_59, ex_187_60, ex_187_61, ex_187_62, ex_187_63, ex_187_64, ex_187_65, ex_187_68, ex_187_71, ex_187_72, ex_187_73, ex_187_76, ex_187_77, if_true, if_false, and_self, Option.toList_some, Option.toList_none, List.singleton_append, List.cons_append, List.nil_append, List.append_nil, nI_1, nt_e, Int32.le_refl, isKept_ok S1.2 ht, q, Bool.not_true, b2i_f, g0, hfe, z, show oI none = -1 from rfl, show ¬ (0 : Int32) ≤ -1 from by decide, show (2 : Int32) = nI 2 from rfl, fails_ok S1.2, Bool.true_eq_false, Bool.false_eq_true, ↓reduceIte]
            exact hfin
          | some j =>
            have hj := findA_lt z
            have hj2 : j < nF v := by have := hj.2; rwa [Nat.zero_add] at this
            have hj32 : j < 32 := by omega
            have hj0 : (0 : Int32) ≤ nI j := (i_0le (n := j) (by omega)).mpr trivial
            have hne := nm_3 q
            have hlt : i < m := end_lt hE (fun q => hne ((cs_0 ht).mp q))
            simp only [z] at hb hg
            cases b : bt s j
            · simp only [b, Bool.false_eq_true, if_false] at hb hg
              simp (disch := first | exact am_nl_i _ | exact am_nl_r _ | exact am_nl_0 | (refine vi_nI ?_ ?_ <;> omega) | assumption | omega | exact b2i_01 _ | exact Or.inl rfl | exact Or.inr rfl | (unfold vi; decide)) only [ex_187_0, ex_187_1, ex_187_3, ex_187_6, ex_187_7, ex_187_9, ex_187_12, ex_187_15, ex_187_16, ex_187_19, ex_187_22, ex_187_23, ex_187_24, ex_187_27, ex_187_28, ex_187_29, ex_187_32, ex_187_33, ex_187_34, ex_187_37, ex_187_38, ex_187_39, ex_187_42, ex_187_43, ex_187_44, ex_187_45, ex_187_46, ex_187_47, ex_187_48, ex_187_49, ex_187_52, ex_187_53, ex_187_54, ex_187_57, ex_187_58, ex_187_59, ex_187_60, ex_187_61, ex_187_62, ex_187_63, ex_187_64, ex_187_68, ex_187_71, ex_187_72, ex_187_73, ex_187_76, ex_187_77, if_true, if_false, and_self, Option.toList_some, Option.toList_none, List.singleton_append, List.cons_append, List.nil_append, List.append_nil, nI_1, nt_e, Int32.le_refl, isKept_ok S1.2 ht, q, Bool.not_true, b2i_f, g0, hfe, z, show oI (some j) = nI j from rfl, hj0, bit_e s hj32, b, show ((0 : Int32) = (1 : Int32)) = False from eq_false (by decide), bi_e, Bool.true_eq_false, Bool.false_eq_true, ↓reduceIte]
              rw [ex_187_65]
              refine nx_ok S1 (fun u2 o2 S2 => ?_)
              simp (disch := first | exact am_nl_i _ | exact am_nl_r _ | exact am_nl_0 | (refine vi_nI ?_ ?_ <;> omega) | assumption | omega | exact b2i_01 _ | exact Or.inl rfl | exact Or.inr rfl | (unfold vi; decide)) only [ex_187_0, ex_187_1, ex_187_3, ex_187_6, ex_187_7, ex_187_9, ex_187_12, ex_187_15, ex_187_16, ex_187_19, ex_187_22, ex_187_23, ex_187_24, ex_187_27, ex_187_28, ex_187_29, ex_187_32, ex_187_33, ex_187_34, ex_187_37, ex_187_38, ex_187_39, ex_187_42, ex_187_43, ex_187_44, ex_187_45, ex_187_46, ex_187_47, ex_187_48, ex_187_49, ex_187_52, ex_187_53, ex_187_54, ex_187_57, ex_187_58, ex_187_59, ex_187_60, ex_187_61, ex_187_62, ex_187_63, ex_187_64, ex_187_65, ex_187_68, ex_187_71, ex_187_72, ex_187_73, ex_187_76, ex_187_77, if_true, if_false, and_self, Option.toList_some, Option.toList_none, List.singleton_append, List.cons_append, List.nil_append, List.append_nil, nI_1, nt_e, Int32.le_refl, Bool.true_eq_false, Bool.false_eq_true, ↓reduceIte]
              exact ih (k + 1) (i + 1) (s ||| bi j) u2 _ (by omega) (o1.nx o2) S2 (by omega) (by omega) hb hg
            · simp only [b, if_true] at hb
              have hfin := hb _ _ rfl (o1.fi (k := 9) (x := nI (fl 3 (tk n f i))) (Or.inl rfl)) (by rw [FI_sFI, if_pos ⟨rfl, rfl⟩])
              simp (disch := first | exact am_nl_i _ | exact am_nl_r _ | exact am_nl_0 | (refine vi_nI ?_ ?_ <;> omega) | assumption | omega | exact b2i_01 _ | exact Or.inl rfl | exact Or.inr rfl | (unfold vi; decide)) only [ex_187_0, ex_187_1, ex_187_3, ex_187_6, ex_187_7, ex_187_9, ex_187_12, ex_187_15, ex_187_16, ex_187_19, ex_187_22, ex_187_23, ex_187_24, ex_187_27, ex_187_28, ex_187_29, ex_187_32, ex_187_33, ex_187_34, ex_187_37, ex_187_38, ex_187_39, ex_187_42, ex_187_43, ex_187_44, ex_187_45, ex_187_46, ex_187_47, ex_187_48, ex_187_49, ex_187_52, ex_187_53, ex_187_54, ex_187_57, ex_187_58, ex_187_59, ex_187_60, ex_187_61, ex_187_62, ex_187_63, ex_187_64, ex_187_65, ex_187_68, ex_187_71, ex_187_72, ex_187_73, ex_187_76, ex_187_77, if_true, if_false, and_self, Option.toList_some, Option.toList_none, List.singleton_append, List.cons_append, List.nil_append, List.append_nil, nI_1, nt_e, Int32.le_refl, isKept_ok S1.2 ht, q, Bool.not_true, b2i_f, g0, hfe, z, show oI (some j) = nI j from rfl, hj0, bit_e s hj32, b, b2i_t, show (3 : Int32) = nI 3 from rfl, fails_ok S1.2, Bool.true_eq_false, Bool.false_eq_true, ↓reduceIte]
              exact hfin
      rw [ex_187_2]
      by_cases s0 : s = 0
      · rw [s0] at body ⊢
        simp (disch := first | exact am_nl_i _ | exact am_nl_r _ | exact am_nl_0 | (refine vi_nI ?_ ?_ <;> omega) | assumption | omega | exact b2i_01 _ | exact Or.inl rfl | exact Or.inr rfl | (unfold vi; decide)) only [ex_187_0, ex_187_1, ex_187_3, ex_187_6, ex_187_7, ex_187_9, ex_187_12, ex_187_16, ex_187_19, ex_187_22, ex_187_23, ex_187_24, ex_187_27, ex_187_28, ex_187_29, ex_187_32, ex_187_33, ex_187_34, ex_187_37, ex_187_38, ex_187_39, ex_187_42, ex_187_43, ex_187_44, ex_187_45, ex_187_46, ex_187_47, ex_187_48, ex_187_49, ex_187_52, ex_187_53, ex_187_54, ex_187_57, ex_187_58, ex_187_59, ex_187_60, ex_187_61, ex_187_62, ex_187_63, ex_187_64, ex_187_65, ex_187_68, ex_187_71, ex_187_72, ex_187_73, ex_187_76, ex_187_77, if_true, if_false, and_self, Option.toList_some, Option.toList_none, List.singleton_append, List.cons_append, List.nil_append, List.append_nil, nI_1, nt_e, Int32.le_refl, Bool.true_eq_false, Bool.false_eq_true, ↓reduceIte]
        exact body (fun z => z.1 rfl)
      · by_cases q : csort (tk n f i) = 59
        · have hfin := hg s i _ (if_pos ⟨s0, q⟩) (o1.fi (k := 44) (x := s) (Or.inr rfl)) (S1.fi (Or.inr rfl)) him (by rw [FI_sFI, if_pos ⟨rfl, rfl⟩])
          simp (disch := first | exact am_nl_i _ | exact am_nl_r _ | exact am_nl_0 | (refine vi_nI ?_ ?_ <;> omega) | assumption | omega | exact b2i_01 _ | exact Or.inl rfl | exact Or.inr rfl | (unfold vi; decide)) only [ex_187_0, ex_187_1, ex_187_3, ex_187_6, ex_187_7, ex_187_9, ex_187_12, ex_187_16, ex_187_19, ex_187_22, ex_187_23, ex_187_24, ex_187_27, ex_187_28, ex_187_29, ex_187_32, ex_187_33, ex_187_34, ex_187_37, ex_187_38, ex_187_39, ex_187_42, ex_187_43, ex_187_44, ex_187_45, ex_187_46, ex_187_47, ex_187_48, ex_187_49, ex_187_52, ex_187_53, ex_187_54, ex_187_57, ex_187_58, ex_187_59, ex_187_60, ex_187_61, ex_187_62, ex_187_63, ex_187_64, ex_187_65, ex_187_68, ex_187_71, ex_187_72, ex_187_73, ex_187_76, ex_187_77, if_true, if_false, and_self, Option.toList_some, Option.toList_none, List.singleton_append, List.cons_append, List.nil_append, List.append_nil, nI_1, nt_e, Int32.le_refl, s0, show (59 : Int32) = nI 59 from rfl, hs, decide_eq_true q, b2i_t, show ((1 : Int32) = (0 : Int32)) = False from eq_false (by decide), Bool.true_eq_false, Bool.false_eq_true, ↓reduceIte]
          exact hfin
        · simp (disch := first | exact am_nl_i _ | exact am_nl_r _ | exact am_nl_0 | (refine vi_nI ?_ ?_ <;> omega) | assumption | omega | exact b2i_01 _ | exact Or.inl rfl | exact Or.inr rfl | (unfold vi; decide)) only [ex_187_0, ex_187_1, ex_187_3, ex_187_6, ex_187_7, ex_187_9, ex_187_12, ex_187_16, ex_187_19, ex_187_22, ex_187_23, ex_187_24, ex_187_27, ex_187_28, ex_187_29, ex_187_32, ex_187_33, ex_187_34, ex_187_37, ex_187_38, ex_187_39, ex_187_42, ex_187_43, ex_187_44, ex_187_45, ex_187_46, ex_187_47, ex_187_48, ex_187_49, ex_187_52, ex_187_53, ex_187_54, ex_187_57, ex_187_58, ex_187_59, ex_187_60, ex_187_61, ex_187_62, ex_187_63, ex_187_64, ex_187_65, ex_187_68, ex_187_71, ex_187_72, ex_187_73, ex_187_76, ex_187_77, if_true, if_false, and_self, Option.toList_some, Option.toList_none, List.singleton_append, List.cons_append, List.nil_append, List.append_nil, nI_1, nt_e, Int32.le_refl, s0, show (59 : Int32) = nI 59 from rfl, hs, decide_eq_false q, b2i_f, Bool.true_eq_false, Bool.false_eq_true, ↓reduceIte]
          exact body (fun z => q z.2)
  simp (disch := first | exact am_nl_i _ | exact am_nl_r _ | exact am_nl_0 | assumption | omega | (refine vi_nI ?_ ?_ <;> omega) | exact b2i_01 _ | exact Or.inl rfl | exact Or.inr rfl | (unfold vi; decide)) only [ex_187_0, ex_187_1, ex_187_3, ex_187_6, ex_187_7, ex_187_9, ex_187_12, ex_187_15, ex_187_16, ex_187_19, ex_187_22, ex_187_23, ex_187_24, ex_187_27, ex_187_28, ex_187_29, ex_187_32, ex_187_33, ex_187_34, ex_187_37, ex_187_38, ex_187_39, ex_187_42, ex_187_43, ex_187_44, ex_187_45, ex_187_46, ex_187_47, ex_187_48, ex_187_49, ex_187_52, ex_187_53, ex_187_54, ex_187_57, ex_187_58, ex_187_59, ex_187_60, ex_187_61, ex_187_62, ex_187_63, ex_187_64, ex_187_65, ex_187_68, ex_187_71, ex_187_72, ex_187_73, ex_187_76, ex_187_77, if_true, if_false, and_self, Option.toList_some, Option.toList_none, List.singleton_append, List.cons_append, List.nil_append, List.append_nil, nI_1, nt_e, Int32.le_refl]
  exact loop 1000 0 i 0 u none rfl (RsO.rf u) h him (by omega) hb hg
end HelpR
