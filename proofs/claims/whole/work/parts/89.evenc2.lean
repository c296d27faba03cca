/-! EVENINGS, of the class: all of it -/
theorem bit_dec : ∀ t, t < 32 → ¬ t = 0 → 1 ≤ 2 ^ lowN t ∧ 2 ^ lowN t ≤ t ∧ subB (2 ^ lowN t) t = true ∧ D6 t (2 ^ lowN t) = othN t ∧ lowN (2 ^ lowN t) = lowN t ∧ othN (2 ^ lowN t) = 0 ∧ t.testBit (lowN t) = true ∧ subB (othN t) t = true := by decide +kernel
theorem subB_tr {a b c : Nat} (h1 : subB a b = true) (h2 : subB b c = true) : subB a c = true := by
  unfold subB at h1 h2 ⊢
  rw [decide_eq_true_eq, sub_iff] at h1 h2 ⊢
  exact fun i hi hx => h2 i hi (h1 i hi hx)
theorem subB_rf (a : Nat) : subB a a = true := by
  unfold subB
  rw [and_nt]
  rfl
theorem D6_sub {p g k : Nat} (hk : k ≤ 31) (hp : p < 2 ^ k) : subB (D6 p g) p = true := by
  obtain ⟨h1, h2⟩ := D6_e hk hp g
  unfold subB
  rw [decide_eq_true_eq, ← h1, sub_iff]
  intro i hi hx
  rw [b_and, Bool.and_eq_true] at hx
  exact hx.1
theorem able_E {v : LV} {l : LF} (hW : WF v) (hw : WL v l) {g : Nat} (h : subB g (aliveN l) = true) : ableG v l g = tasksV v (togL v l g) := by
  unfold ableG
  rw [(alive_N hW hw).1]
  exact if_pos (of_decide_eq_true h)
theorem eV_feas {v : LV} {l : LF} (hW : WF v) (hw : WL v l) : ∀ n t, pcN t ≤ n → t < 32 → subB t (wantN v l) = true → eV 100 (apE v l) t ≤ pcN t
  | 0, t, hn, ht, _ => by
    have h0 : t = 0 := by
      refine Classical.byContradiction (fun q => ?_)
      have := low_dec t ht q
      omega
    rw [h0, eV_e (by omega)]
    exact Nat.zero_le _
  | n + 1, t, hn, ht, hs => by
    by_cases h0 : t = 0
    · rw [h0, eV_e (by omega)]
      exact Nat.zero_le _
    obtain ⟨-, b2, -, h4, -, -, h7, -⟩ := low_dec t ht h0
    obtain ⟨k1, k2, k3, k4, k5, k6, k7, k8⟩ := bit_dec t ht h0
    have hal := alive_N hW hw
    have hwt := want_N (l := l) hW
    have ih := eV_feas hW hw n (othN t) (by omega) (by omega) (subB_tr k8 hs)
    have hap : apE v l (2 ^ lowN t) = true := by
      unfold apE
      rw [sitP_e _ (by omega) (by omega)]
      refine anyF_t (k := aliveN l) (by omega) ?_
      rw [subB_rf, k5, k6, sitP_0, Bool.and_true, Bool.true_and, able_E hW hw (subB_rf _), hwt.1]
      unfold subB at hs
      rw [decide_eq_true_eq, sub_iff] at hs
      exact hs (lowN t) (by omega) (by rw [bt_nI (by omega)]; exact k7)
    rw [eV_e ht]
    have := (minP_le (init := if t = 0 then 0 else 100) (c := fun k => subB k t && apE v l k) (val := fun k => eV 100 (apE v l) (D6 t k) + 1) (n := t)).2 (2 ^ lowN t) k1 k2 (by simp only [k3, hap, Bool.and_self])
    simp only [k4] at this
    omega
section EvenC2
variable {d L L' : Nat} {u : am_U} {S : ST} {v : LV} {l : LF} {post : Option Value → am_M → Prop}
theorem fewestE_ok (hL : sh L 3 19) (hl : LifeC u 65 l) (hC : LibC u L v) (hW : WF v) (hw : WL v l) (h : ∀ u', Only grP u u' → post (some (.int (evenS v l))) (am_emb u')) : Cl (d + 3) 7 [.ref 189, .ref L, .ref 65] (am_emb u) post := by
  have h65 := shl_65
  have h6 := hW.1.2.2.1
  have hp := pow_64 h6
  obtain ⟨hE, hE2⟩ := alive_N hW hw
  obtain ⟨hWt, hW2⟩ := want_N (l := l) hW
  rw [op_7]
  simp (disch := first | exact am_nl_i _ | exact am_nl_r _ | exact am_nl_0 | assumption | omega | (refine vi_nI ?_ ?_ <;> omega) | exact b2i_01 _ | exact Or.inl rfl | exact Or.inr rfl | (unfold vi; decide)) only [ex_7_0, ex_7_1, ex_7_2, ex_7_6, ex_7_7, ex_7_10, ex_7_12, ex_7_13, ex_7_14, ex_7_15, ex_7_18, ex_7_19, ex_7_20, ex_7_22, ex_7_23, ex_7_25, ex_7_26, ex_7_30, ex_7_32, ex_7_35, ex_7_36, ex_7_38, ex_7_40, ex_7_41, ex_7_44, ex_7_45, ex_7_48, ex_7_50, ex_7_52, ex_7_53, ex_7_55, ex_7_56, ex_7_57, ex_7_59, ex_7_61, ex_7_64, ex_7_65, ex_7_68, ex_7_71, ex_7_72, ex_7_75, ex_7_77, ex_7_78, ex_7_80, ex_7_81, ex_7_84, ex_7_85, ex_7_88, ex_7_91, ex_7_92, ex_7_95, ex_7_97, ex_7_98, if_true, if_false, and_self, Option.toList_some, Option.toList_none, List.singleton_append, List.cons_append, List.nil_append, List.append_nil, nI_1, nt_e, Int32.le_refl]
  rw [ex_7_3]
  refine look_ok hL hl hC hW (fun u1 o1 m1 a1 => ?_)
  have l1 : LifeC u1 65 l := hl.keep o1 (fun k hk q => by unfold grP at q; omega)
  have eA : AI u1 190 (aliveN l) = nI (wantN v l) := by rw [a1 _ hE2, able_E hW hw (subB_rf _), hWt]
  have e63 := and63 (aliveN l) (by omega)
  have e31 := and31 (wantN v l) hW2
  have hsub : ∀ p, subB p (aliveN l) = true → p < 2 ^ 31 → p ≤ aliveN l := fun p hp hp31 => sub_le hp31 (by omega) (of_decide_eq_true hp)
  simp (disch := first | exact am_nl_i _ | exact am_nl_r _ | exact am_nl_0 | assumption | omega | (refine vi_nI ?_ ?_ <;> omega) | exact b2i_01 _ | exact Or.inl rfl | exact Or.inr rfl | (unfold vi; decide)) only [ex_7_0, ex_7_1, ex_7_2, ex_7_3, ex_7_6, ex_7_7, ex_7_10, ex_7_12, ex_7_13, ex_7_14, ex_7_15, ex_7_18, ex_7_19, ex_7_20, ex_7_22, ex_7_23, ex_7_25, ex_7_26, ex_7_30, ex_7_32, ex_7_35, ex_7_36, ex_7_38, ex_7_40, ex_7_41, ex_7_44, ex_7_45, ex_7_48, ex_7_50, ex_7_52, ex_7_53, ex_7_55, ex_7_56, ex_7_57, ex_7_59, ex_7_61, ex_7_64, ex_7_65, ex_7_68, ex_7_71, ex_7_72, ex_7_75, ex_7_77, ex_7_78, ex_7_80, ex_7_81, ex_7_84, ex_7_85, ex_7_88, ex_7_91, ex_7_92, ex_7_95, ex_7_97, ex_7_98, if_true, if_false, and_self, Option.toList_some, Option.toList_none, List.singleton_append, List.cons_append, List.nil_append, List.append_nil, nI_1, nt_e, Int32.le_refl, l1.2.2.2.1, hE, e63, nI_clamp, eA, e31]
  have outer : ∀ (kz t : Nat) (j6 : Option Value), t + kz = wantN v l + 1 → ∀ u2, Only evP u1 u2 → (∀ t' p, t' < t → p ≤ aliveN l → subB p (aliveN l) = true → AI u2 191 (64 * t' + p) = b2i (sitP (ableG v l) t' p)) → (∀ t', t' < t → AI u2 192 t' = nI (eV 99 (apE v l) t')) → Ex (d + 3) 7 28 [some (.ref 189), some (.ref L), some (.ref 65), some (.int (nI (aliveN l))), some (.int (nI (wantN v l))), some (.int (nI t)), j6] [] (am_emb u2) post := by
    intro kz
    induction kz with
    | zero =>
      intro t j6 ht u2 o2 H1 H2
      obtain rfl : t = wantN v l + 1 := by omega
      have e1 := H2 (wantN v l) (by omega)
      have hfe := eV_feas hW hw (pcN (wantN v l)) (wantN v l) (Nat.le_refl _) hW2 (subB_rf _)
      have hpc : pcN (wantN v l) ≤ 5 := cntF_le _ 5
      have e2 : eV 99 (apE v l) (wantN v l) = eV 100 (apE v l) (wantN v l) := by
        rw [eV_min (wantN v l + 1) (wantN v l) (by omega) hW2]
        omega
      rw [ex_7_28]
      simp (disch := first | exact am_nl_i _ | exact am_nl_r _ | exact am_nl_0 | (refine vi_nI ?_ ?_ <;> omega) | assumption | omega | exact b2i_01 _ | exact Or.inl rfl | exact Or.inr rfl | (unfold vi; decide)) only [ex_7_0, ex_7_1, ex_7_2, ex_7_3, ex_7_6, ex_7_7, ex_7_10, ex_7_12, ex_7_13, ex_7_14, ex_7_15, ex_7_18, ex_7_19, ex_7_20, ex_7_22, ex_7_23, ex_7_25, ex_7_26, ex_7_30, ex_7_32, ex_7_36, ex_7_38, ex_7_40, ex_7_41, ex_7_44, ex_7_45, ex_7_48, ex_7_50, ex_7_52, ex_7_53, ex_7_55, ex_7_56, ex_7_57, ex_7_59, ex_7_61, ex_7_64, ex_7_65, ex_7_68, ex_7_71, ex_7_72, ex_7_75, ex_7_77, ex_7_78, ex_7_80, ex_7_81, ex_7_84, ex_7_85, ex_7_88, ex_7_91, ex_7_92, ex_7_95, ex_7_97, ex_7_98, if_true, if_false, and_self, Option.toList_some, Option.toList_none, List.singleton_append, List.cons_append, List.nil_append, List.append_nil, nI_1, nt_e, Int32.le_refl, nI_ltI, Nat.lt_succ_self, nI_clamp, e1, e2, Bool.true_eq_false, Bool.false_eq_true, ↓reduceIte]
      exact h u2 (o1.tr (o2.wk (fun a q => by unfold evP at q; unfold grP; omega)))
    | succ kz ih =>
      intro t j6 ht u2 o2 H1 H2
      have ht32 : t < 32 := by omega
      have hnlt : ¬ wantN v l < t := by omega
      have ih := fun j6 => ih (t + 1) j6 (by omega)
      have inner : ∀ (iz p : Nat), p + iz = aliveN l + 1 → ∀ u3, Only evP u1 u3 → (∀ t' p, t' < t → p ≤ aliveN l → subB p (aliveN l) = true → AI u3 191 (64 * t' + p) = b2i (sitP (ableG v l) t' p)) → (∀ p', p' < p → subB p' (aliveN l) = true → AI u3 191 (64 * t + p') = b2i (sitP (ableG v l) t p')) → (∀ t', t' < t → AI u3 192 t' = nI (eV 99 (apE v l) t')) → Ex (d + 3) 7 38 [some (.ref 189), some (.ref L), some (.ref 65), some (.int (nI (aliveN l))), some (.int (nI (wantN v l))), some (.int (nI t)), some (.int (nI p))] [] (am_emb u3) post := by
        intro iz
        induction iz with
        | zero =>
          intro p hp u3 o3 H1 H3 H2
          obtain rfl : p = aliveN l + 1 := by omega
          have hap : ∀ k, 1 ≤ k → k ≤ t → AI u3 191 (64 * k + aliveN l) = b2i (apE v l k) := fun k h1 h2 => by
            by_cases e : k = t
            · rw [e]; exact H3 (aliveN l) (by omega) (subB_rf _)
            · exact H1 k (aliveN l) (by omega) (Nat.le_refl _) (subB_rf _)
          have hev := fun post => evenFor_ok (d := d + 1) (u := u3) (post := post) (t := t) (E := aliveN l) (ap := apE v l) (tab := eV 99 (apE v l)) ht32 (by omega) hap (fun k h1 h2 h3 => ⟨H2 _ (D6_lt h1 h2 ht32 h3), Nat.le_trans (eV_le _ 99 _ (by have := D6_lt h1 h2 ht32 h3; omega)) (by omega)⟩)
          have e9 := (eV_e (init := 99) (ap := apE v l) ht32).symm
          rw [ex_7_38]
          simp (disch := first | exact am_nl_i _ | exact am_nl_r _ | exact am_nl_0 | (refine vi_nI ?_ ?_ <;> omega) | assumption | omega | exact b2i_01 _ | exact Or.inl rfl | exact Or.inr rfl | (unfold vi; decide)) only [ex_7_0, ex_7_1, ex_7_2, ex_7_3, ex_7_6, ex_7_7, ex_7_10, ex_7_12, ex_7_13, ex_7_14, ex_7_15, ex_7_18, ex_7_19, ex_7_20, ex_7_22, ex_7_23, ex_7_25, ex_7_26, ex_7_30, ex_7_32, ex_7_35, ex_7_36, ex_7_40, ex_7_41, ex_7_45, ex_7_48, ex_7_50, ex_7_52, ex_7_53, ex_7_55, ex_7_56, ex_7_57, ex_7_59, ex_7_61, ex_7_64, ex_7_65, ex_7_68, ex_7_71, ex_7_72, ex_7_75, ex_7_77, ex_7_78, ex_7_80, ex_7_81, ex_7_84, ex_7_85, ex_7_88, ex_7_91, ex_7_92, ex_7_95, ex_7_97, ex_7_98, if_true, if_false, and_self, Option.toList_some, Option.toList_none, List.singleton_append, List.cons_append, List.nil_append, List.append_nil, nI_1, nt_e, Int32.le_refl, nI_ltI, Nat.lt_succ_self, hev, e9, nI_clamp, Bool.true_eq_false, Bool.false_eq_true, ↓reduceIte]
          refine ih _ _ (of_ai o3 (Or.inr rfl)) (fun t' p h1 h2 h3 => ?_) (fun t' h1 => ?_)
          · rw [AI_sAI, if_neg (by decide)]
            by_cases e : t' = t
            · rw [e]; exact H3 p (by omega) h3
            · exact H1 t' p (by omega) h2 h3
          · rw [AI_sAI, if_pos rfl]
            by_cases e : t' = t
            · rw [e, upd_s]
            · rw [upd_n e]; exact H2 t' (by omega)
        | succ iz ih2 =>
          intro p hp u3 o3 H1 H3 H2
          have hnlt2 : ¬ aliveN l < p := by omega
          have hcs := fun post => canSit_ok (d := d + 1) (u := u3) (post := post) (t := t) (p := p) ht32 (by omega)
          have e190 : AI u3 190 = AI u1 190 := (o3 190 (by unfold evP; omega)).2.2.2.1
          have hsit : subB p (aliveN l) = true → sitM u3 t p = sitP (ableG v l) t p := fun hs => by
            by_cases h0 : t = 0
            · rw [h0, sitP_0]
              rfl
            · obtain ⟨-, -, -, h4, -, -, -, -⟩ := low_dec t ht32 h0
              rw [sitP_e _ ht32 h0]
              unfold sitM
              rw [decide_eq_false h0, Bool.false_or]
              refine anyF_congr (fun g hg => ?_)
              obtain ⟨d1, d2⟩ := D6_e (k := 6) (by omega) (show p < 2 ^ 6 by omega) g
              have ds := D6_sub (k := 6) (g := g) (by omega) (show p < 2 ^ 6 by omega)
              have dE := subB_tr ds hs
              rw [e190, a1 g (by omega), H1 (othN t) (D6 p g) h4 (hsub _ dE (by omega)) dE]
              cases sitP (ableG v l) (othN t) (D6 p g) <;> rfl
          rw [ex_7_38]
          simp (disch := first | exact am_nl_i _ | exact am_nl_r _ | exact am_nl_0 | (refine vi_nI ?_ ?_ <;> omega) | assumption | omega | exact b2i_01 _ | exact Or.inl rfl | exact Or.inr rfl | (unfold vi; decide)) only [ex_7_0, ex_7_1, ex_7_2, ex_7_3, ex_7_6, ex_7_7, ex_7_10, ex_7_12, ex_7_13, ex_7_14, ex_7_15, ex_7_18, ex_7_19, ex_7_20, ex_7_22, ex_7_23, ex_7_25, ex_7_26, ex_7_28, ex_7_30, ex_7_32, ex_7_35, ex_7_36, ex_7_40, ex_7_41, ex_7_44, ex_7_45, ex_7_48, ex_7_50, ex_7_52, ex_7_53, ex_7_55, ex_7_56, ex_7_57, ex_7_59, ex_7_61, ex_7_64, ex_7_65, ex_7_68, ex_7_72, ex_7_75, ex_7_77, ex_7_78, ex_7_80, ex_7_81, ex_7_84, ex_7_85, ex_7_88, ex_7_91, ex_7_92, ex_7_95, ex_7_97, ex_7_98, if_true, if_false, and_self, Option.toList_some, Option.toList_none, List.singleton_append, List.cons_append, List.nil_append, List.append_nil, nI_1, nt_e, Int32.le_refl, nI_ltI, hnlt2, hcs, lq64, mul_nI, Nat.mul_comm t, nI_add, nI_clamp, Bool.true_eq_false, Bool.false_eq_true, ↓reduceIte]
          refine ih2 (p + 1) (by omega) _ (of_ai o3 (Or.inl rfl)) (fun t' p' h1 h2 h3 => ?_) (fun p' h1 h3 => ?_) (fun t' h1 => H2 t' h1)
          · rw [AI_sAI, if_pos rfl, upd_n (by omega)]
            exact H1 t' p' h1 h2 h3
          · rw [AI_sAI, if_pos rfl]
            by_cases e : p' = p
            · rw [e, upd_s, hsit (e ▸ h3)]
            · rw [upd_n (by omega)]; exact H3 p' (by omega) h3
      rw [ex_7_28]
      simp (disch := first | exact am_nl_i _ | exact am_nl_r _ | exact am_nl_0 | (refine vi_nI ?_ ?_ <;> omega) | assumption | omega | exact b2i_01 _ | exact Or.inl rfl | exact Or.inr rfl | (unfold vi; decide)) only [ex_7_0, ex_7_1, ex_7_2, ex_7_3, ex_7_6, ex_7_7, ex_7_10, ex_7_12, ex_7_13, ex_7_14, ex_7_15, ex_7_18, ex_7_19, ex_7_20, ex_7_22, ex_7_23, ex_7_25, ex_7_26, ex_7_30, ex_7_32, ex_7_35, ex_7_36, ex_7_40, ex_7_41, ex_7_44, ex_7_45, ex_7_48, ex_7_50, ex_7_52, ex_7_53, ex_7_55, ex_7_56, ex_7_57, ex_7_59, ex_7_61, ex_7_64, ex_7_65, ex_7_68, ex_7_71, ex_7_72, ex_7_75, ex_7_77, ex_7_78, ex_7_80, ex_7_81, ex_7_84, ex_7_85, ex_7_88, ex_7_92, ex_7_95, ex_7_97, ex_7_98, if_true, if_false, and_self, Option.toList_some, Option.toList_none, List.singleton_append, List.cons_append, List.nil_append, List.append_nil, nI_1, nt_e, Int32.le_refl, nI_ltI, hnlt, Bool.true_eq_false, Bool.false_eq_true, ↓reduceIte]
      exact inner (aliveN l + 1) 0 (by omega) u2 o2 H1 (fun p' h1 => absurd h1 (Nat.not_lt_zero _)) H2
  exact outer (wantN v l + 1) 0 none (by omega) u1 (Only.rf _ _) (fun t' p h1 => absurd h1 (Nat.not_lt_zero _)) (fun t' h1 => absurd h1 (Nat.not_lt_zero _))
theorem C_evenings (hI : InvC u S L L') (hS : WS S) (h : ∀ u', Only inC u u' → InvC u' S L L' → post (some (.int (evenS S.1 S.2.1.1))) (am_emb u')) : Cl (d + 4) 134 [.ref 0] (am_emb u) post := by
  have hIc := hI
  have hL := lib_sh hI.1.2.2.1
  obtain ⟨⟨r1, r2, r3, r4, r5, r6⟩, ⟨l1, l2, l3⟩, ⟨st1, st2, st3⟩, pst, mk, tp⟩ := hI
  rw [op_134]
  simp (disch := first | exact am_nl_i _ | exact am_nl_r _ | exact am_nl_0 | assumption | omega | (refine vi_nI ?_ ?_ <;> omega) | exact b2i_01 _ | exact Or.inl rfl | exact Or.inr rfl | (unfold vi; decide)) only [ex_134_0, ex_134_1, ex_134_4, ex_134_5, ex_134_8, ex_134_9, ex_134_12, ex_134_18, if_true, if_false, and_self, Option.toList_some, Option.toList_none, List.singleton_append, List.cons_append, List.nil_append, List.append_nil, nI_1, nt_e, Int32.le_refl, r1, va_rfs]
  rw [ex_134_15]
  refine fewestE_ok hL st1 l1 hS.1 hS.2.1.1 (fun u1 o1 => ?_)
  simp (disch := first | exact am_nl_i _ | exact am_nl_r _ | exact am_nl_0 | assumption | omega | (refine vi_nI ?_ ?_ <;> omega) | exact b2i_01 _ | exact Or.inl rfl | exact Or.inr rfl | (unfold vi; decide)) only [ex_134_0, ex_134_1, ex_134_4, ex_134_5, ex_134_8, ex_134_9, ex_134_12, ex_134_15, ex_134_18, if_true, if_false, and_self, Option.toList_some, Option.toList_none, List.singleton_append, List.cons_append, List.nil_append, List.append_nil, nI_1, nt_e, Int32.le_refl]
  exact h u1 (o1.wk (fun a q => by unfold grP at q; unfold inC; omega)) (hIc.keepS o1 (fun a ha q => by unfold grP at q; omega))
end EvenC2
