/-! RESTS, of the class: the choosing -/
theorem useS_n {v : LV} {l : LF} {p c j : Nat} {σ : Nat → Nat} (h : ¬ j = c - 1) : useS v l p σ c j = σ j := by
  unfold useS
  split
  · exact upN_n h
  · rfl
theorem useB_p {v : LV} {l : LF} {p c : Nat} {σ : Nat → Nat} (h : useB v l p σ c = true) : 0 < c ∧ 0 < σ (c - 1) := by
  unfold useB canS tkS at h
  simp only [Bool.and_eq_true, decide_eq_true_eq] at h
  exact ⟨h.1.1.1, h.1.2⟩
theorem useS_z {v : LV} {l : LF} {p : Nat} {σ : Nat → Nat} : useS v l p σ 0 = σ := rfl
theorem use_sub {v : LV} {l : LF} {p c : Nat} {σ : Nat → Nat} : nI (σ (c - 1)) + -(b2i (useB v l p σ c)) = nI (useS v l p σ c (c - 1)) := by
  unfold useS
  cases h : useB v l p σ c
  · rw [if_neg (by decide)]
    show nI (σ (c - 1)) + -0 = _
    rw [show -(0 : Int32) = 0 from rfl, Int32.add_zero]
  · rw [if_pos rfl, upN_s]
    exact i_pm (useB_p h).2
theorem use_add {v : LV} {l : LF} {p c : Nat} {σ : Nat → Nat} : nI (useS v l p σ c (c - 1)) + b2i (useB v l p σ c) = nI (σ (c - 1)) := by
  unfold useS
  cases h : useB v l p σ c
  · rw [if_neg (by decide)]
    show nI (σ (c - 1)) + 0 = _
    rw [Int32.add_zero]
  · rw [if_pos rfl, upN_s]
    have := (useB_p h).2
    show nI (σ (c - 1) - 1) + 1 = _
    rw [nI_1, show σ (c - 1) - 1 + 1 = σ (c - 1) by omega]
theorem useS_9 {v : LV} {l : LF} {p c : Nat} {σ : Nat → Nat} (h : ∀ k, σ k ≤ 9) (k : Nat) : useS v l p σ c k ≤ 9 := by
  unfold useS
  split
  · by_cases e : k = c - 1
    · rw [e, upN_s]
      have := h (c - 1)
      omega
    · rw [upN_n e]; exact h k
  · exact h k
section Choose
variable {d L n : Nat} {u : am_U} {v : LV} {l : LF} {pp σ : Nat → Nat} {w : Int32} {post : Option Value → am_M → Prop}
theorem SeC.mv {u u' : am_U} {σ σ' : Nat → Nat} (h : SeC u L v l n pp w σ) (e3 : FR u' 193 4 = FR u 193 4) (e5 : FI u' 193 5 = FI u 193 5) (e6 : FI u' 193 6 = FI u 193 6) (e1 : AI u' 195 = AI u 195) (e2 : AI u' 196 = AI u 196) (e7 : ∀ k, k < 12 → AI u' 197 k = nI (σ' k)) : SeC u' L v l n pp w σ' := by
  obtain ⟨h1, h2, h3, h4, h5, h6⟩ := h
  refine ⟨e3.trans h1, e5.trans h2, e6.trans h3, ?_, ?_, e7⟩
  · rw [e1]; exact h4
  · rw [e2]; exact h5
theorem sChoose_ok (hn : n ≤ 3) (hL : sh L 3 19) (hLp : L = 7 ∨ L = 33) (hW : WF v) : ∀ (m h : Nat) (σ : Nat → Nat) (P : Nat) (st : FS) (u : am_U) (post : Option Value → am_M → Prop), h + m = n → (∀ k, σ k ≤ 9) → LibC u L v → SeC u L v l n pp w σ → StC u st →
    (∀ u', Only chP u u' → LibC u' L v → SeC u' L v l n pp w σ → StC u' (chS v l w n pp m σ P st) → post none (am_emb u')) → Cl (d + 3 + m) 99 [.ref 193, .int (nI h), .int (nI P)] (am_emb u) post := by
  intro m
  induction m with
  | zero =>
    intro h σ P st u post hh hσ hC hS hT hp
    have hS' := hS
    obtain ⟨h1, h2, h3, h4, h5, h6⟩ := hS
    have hle : n ≤ h := by omega
    obtain ⟨t1, t2⟩ := hT
    rw [chS] at hp
    rw [op_99]
    by_cases q : nI st.1 = w
    · simp (disch := first | exact am_nl_i _ | exact am_nl_r _ | exact am_nl_0 | (refine vi_nI ?_ ?_ <;> omega) | assumption | omega | exact b2i_01 _ | exact Or.inl rfl | exact Or.inr rfl | (unfold vi; decide)) only [ex_99_0, ex_99_1, ex_99_2, ex_99_5, ex_99_8, ex_99_9, ex_99_12, ex_99_13, ex_99_16, ex_99_19, ex_99_20, ex_99_21, ex_99_24, ex_99_25, ex_99_26, ex_99_29, ex_99_30, ex_99_31, ex_99_34, ex_99_36, ex_99_37, ex_99_40, ex_99_41, ex_99_42, ex_99_46, ex_99_47, ex_99_50, ex_99_53, ex_99_56, ex_99_59, ex_99_60, ex_99_61, ex_99_63, ex_99_66, ex_99_67, ex_99_70, ex_99_71, ex_99_72, ex_99_74, ex_99_77, ex_99_80, ex_99_81, ex_99_84, ex_99_87, ex_99_89, ex_99_90, ex_99_91, ex_99_92, ex_99_93, ex_99_96, ex_99_97, ex_99_100, ex_99_101, ex_99_103, ex_99_104, ex_99_106, ex_99_108, ex_99_109, ex_99_112, ex_99_113, ex_99_114, ex_99_115, ex_99_116, ex_99_117, ex_99_119, ex_99_120, ex_99_122, ex_99_123, ex_99_126, ex_99_127, ex_99_129, ex_99_131, ex_99_134, ex_99_137, ex_99_140, if_true, if_false, and_self, Option.toList_some, Option.toList_none, List.singleton_append, List.cons_append, List.nil_append, List.append_nil, nI_1, nt_e, Int32.le_refl, h2, nI_leI, nI_ltI, Nat.not_lt.mpr hle, t1, h3, q, nI_1, Bool.true_eq_false, Bool.false_eq_true, ↓reduceIte]
      rw [show FI (sFI u 193 8 (nI P)) 193 7 + 1 = nI (st.1 + 1) by rw [FI_sFI, if_neg (by omega), t1, nI_1]]
      have o1 : Only chP u (sFI (sFI u 193 8 (nI P)) 193 7 (nI (st.1 + 1))) := of_fi (of_fi (Only.rf _ _) (Or.inl rfl)) (Or.inl rfl)
      refine hp _ o1 (hC.keep2 o1 (fun k hk q => by unfold chP at q; omega)) (hS'.mv rfl ?_ ?_ rfl rfl h6) ⟨?_, ?_⟩
      · rw [FI_sFI, if_neg (by omega), FI_sFI, if_neg (by omega)]
      · rw [FI_sFI, if_neg (by omega), FI_sFI, if_neg (by omega)]
      · rw [FI_sFI, if_pos ⟨rfl, rfl⟩]; rfl
      · rw [FI_sFI, if_neg (by omega), FI_sFI, if_pos ⟨rfl, rfl⟩]
        show nI P = if nI st.1 = w then nI P else st.2
        rw [if_pos q]
    · simp (disch := first | exact am_nl_i _ | exact am_nl_r _ | exact am_nl_0 | (refine vi_nI ?_ ?_ <;> omega) | assumption | omega | exact b2i_01 _ | exact Or.inl rfl | exact Or.inr rfl | (unfold vi; decide)) only [ex_99_0, ex_99_1, ex_99_2, ex_99_5, ex_99_8, ex_99_9, ex_99_12, ex_99_13, ex_99_16, ex_99_19, ex_99_20, ex_99_21, ex_99_24, ex_99_25, ex_99_26, ex_99_29, ex_99_30, ex_99_31, ex_99_34, ex_99_36, ex_99_37, ex_99_40, ex_99_41, ex_99_42, ex_99_46, ex_99_47, ex_99_50, ex_99_53, ex_99_56, ex_99_59, ex_99_60, ex_99_61, ex_99_63, ex_99_66, ex_99_67, ex_99_70, ex_99_71, ex_99_72, ex_99_74, ex_99_77, ex_99_80, ex_99_81, ex_99_84, ex_99_87, ex_99_89, ex_99_90, ex_99_91, ex_99_92, ex_99_93, ex_99_96, ex_99_97, ex_99_100, ex_99_101, ex_99_103, ex_99_104, ex_99_106, ex_99_108, ex_99_109, ex_99_112, ex_99_113, ex_99_114, ex_99_115, ex_99_116, ex_99_117, ex_99_119, ex_99_120, ex_99_122, ex_99_123, ex_99_126, ex_99_127, ex_99_129, ex_99_131, ex_99_134, ex_99_137, ex_99_140, if_true, if_false, and_self, Option.toList_some, Option.toList_none, List.singleton_append, List.cons_append, List.nil_append, List.append_nil, nI_1, nt_e, Int32.le_refl, h2, nI_leI, nI_ltI, Nat.not_lt.mpr hle, t1, h3, q, nI_1, Bool.true_eq_false, Bool.false_eq_true, ↓reduceIte]
      have o1 : Only chP u (sFI u 193 7 (nI (st.1 + 1))) := of_fi (Only.rf _ _) (Or.inl rfl)
      refine hp _ o1 (hC.keep2 o1 (fun k hk q => by unfold chP at q; omega)) (hS'.mv rfl ?_ ?_ rfl rfl h6) ⟨?_, ?_⟩
      · rw [FI_sFI, if_neg (by omega)]
      · rw [FI_sFI, if_neg (by omega)]
      · rw [FI_sFI, if_pos ⟨rfl, rfl⟩]; rfl
      · rw [FI_sFI, if_neg (by omega)]
        show FI u 193 8 = if nI st.1 = w then nI P else st.2
        rw [if_neg q]; exact t2
  | succ m ih =>
    intro h σ P st u post hh hσ hC hS hT hp
    have h12 := hW.1.2.1
    have hhn : h < n := by omega
    have hnh : n - (m + 1) = h := by omega
    rw [chS, hnh] at hp
    have gn : ∀ {u2 : am_U} {c : Nat} {post : Option Value → am_M → Prop}, c ≤ nP v → SeC u2 L v l n pp w σ → (Cl (d + 3 + m) 97 [.ref 193, .int (nI h), .int (nI c)] (am_emb u2) post ↔ post (some (.int (gainS v l (pp h) σ c))) (am_emb u2)) := fun hc hS => by
      rw [show d + 3 + m = d + m + 2 + 1 by omega]
      exact sGain_ok hn hhn hc hW hσ hS
    have mo : ∀ {u2 : am_U} {post : Option Value → am_M → Prop}, LibC u2 L v → SeC u2 L v l n pp w σ → (Cl (d + 3 + m) 98 [.ref 193, .int (nI h)] (am_emb u2) post ↔ post (some (.int (mostS v l (pp h) σ))) (am_emb u2)) := fun hC hS => by
      rw [show d + 3 + m = d + m + 1 + 2 by omega]
      exact sMost_ok hn hhn hL hC hW hσ hS
    have loop : ∀ (kz c : Nat) (st : FS) (u2 : am_U) (j5 : Option Value), c + kz = nP v + 1 → (∀ u', Only chP u u' → LibC u' L v → SeC u' L v l n pp w σ → StC u' (scanF (fun c st => if gainS v l (pp h) σ c = mostS v l (pp h) σ then chS v l w n pp m (useS v l (pp h) σ c) (13 * P + c) st else st) kz c st) → post none (am_emb u')) → Only chP u u2 → LibC u2 L v → SeC u2 L v l n pp w σ → StC u2 st → Ex (d + 3 + m + 1) 99 44 [some (.ref 193), some (.int (nI h)), some (.int (nI P)), some (.int (mostS v l (pp h) σ)), some (.int (nI c)), j5] [] (am_emb u2) post := by
      intro kz
      induction kz with
      | zero =>
        intro c st u2 j5 hk hp2 o2 hC hS hT
        obtain rfl : c = nP v + 1 := by omega
        have hlt : nP v < nP v + 1 := by omega
        have hle : ¬ nP v + 1 ≤ nP v := by omega
        rw [ex_99_44]
        simp (disch := first | exact am_nl_i _ | exact am_nl_r _ | exact am_nl_0 | (refine vi_nI ?_ ?_ <;> omega) | assumption | omega | exact b2i_01 _ | exact Or.inl rfl | exact Or.inr rfl | (unfold vi; decide)) only [ex_99_0, ex_99_1, ex_99_2, ex_99_5, ex_99_8, ex_99_9, ex_99_12, ex_99_13, ex_99_16, ex_99_19, ex_99_20, ex_99_21, ex_99_24, ex_99_25, ex_99_26, ex_99_29, ex_99_30, ex_99_31, ex_99_34, ex_99_35, ex_99_36, ex_99_37, ex_99_40, ex_99_41, ex_99_42, ex_99_46, ex_99_47, ex_99_50, ex_99_53, ex_99_56, ex_99_60, ex_99_61, ex_99_63, ex_99_66, ex_99_67, ex_99_70, ex_99_71, ex_99_72, ex_99_74, ex_99_77, ex_99_80, ex_99_81, ex_99_84, ex_99_87, ex_99_89, ex_99_90, ex_99_91, ex_99_92, ex_99_93, ex_99_96, ex_99_97, ex_99_100, ex_99_101, ex_99_103, ex_99_104, ex_99_106, ex_99_108, ex_99_109, ex_99_112, ex_99_113, ex_99_114, ex_99_115, ex_99_116, ex_99_117, ex_99_119, ex_99_120, ex_99_122, ex_99_123, ex_99_126, ex_99_127, ex_99_129, ex_99_131, ex_99_134, ex_99_137, ex_99_140, if_true, if_false, and_self, Option.toList_some, Option.toList_none, List.singleton_append, List.cons_append, List.nil_append, List.append_nil, nI_1, nt_e, Int32.le_refl, hS.1, va_rfs, hC.1.2.1, nI_leI, nI_ltI, hlt, hle, Bool.true_eq_false, Bool.false_eq_true, ↓reduceIte]
        exact hp2 u2 o2 hC hS hT
      | succ kz ih2 =>
        intro c st u2 j5 hk hp2 o2 hC hS hT
        have hc : c ≤ nP v := by omega
        have hnlt : ¬ nP v < c := by omega
        have hSr := hS.1
        have hN := hC.1.2.1
        have hcan := fun {post : Option Value → am_M → Prop} => sCan_ok (d := d + 3 + m) (post := post) hn hhn hc hW hσ hS
        have hkind := hC.2.2.2.2.1
        rw [scanF] at hp2
        rw [ex_99_44]
        by_cases q : gainS v l (pp h) σ c = mostS v l (pp h) σ
        · rw [if_pos q] at hp2
          have go : Ex (d + 3 + m + 1) 99 103 [some (.ref 193), some (.int (nI h)), some (.int (nI P)), some (.int (mostS v l (pp h) σ)), some (.int (nI c)), some (.int (b2i (useB v l (pp h) σ c)))] [] (am_emb u2) post := by
            simp (disch := first | exact am_nl_i _ | exact am_nl_r _ | exact am_nl_0 | assumption | omega | (refine vi_nI ?_ ?_ <;> omega) | exact b2i_01 _ | exact Or.inl rfl | exact Or.inr rfl | (unfold vi; decide)) only [ex_99_0, ex_99_1, ex_99_2, ex_99_5, ex_99_8, ex_99_9, ex_99_12, ex_99_13, ex_99_16, ex_99_19, ex_99_20, ex_99_21, ex_99_24, ex_99_25, ex_99_26, ex_99_29, ex_99_30, ex_99_31, ex_99_34, ex_99_35, ex_99_36, ex_99_37, ex_99_40, ex_99_41, ex_99_42, ex_99_46, ex_99_47, ex_99_50, ex_99_53, ex_99_56, ex_99_59, ex_99_60, ex_99_61, ex_99_63, ex_99_66, ex_99_67, ex_99_70, ex_99_71, ex_99_72, ex_99_74, ex_99_77, ex_99_80, ex_99_81, ex_99_84, ex_99_87, ex_99_89, ex_99_90, ex_99_91, ex_99_92, ex_99_93, ex_99_96, ex_99_97, ex_99_100, ex_99_101, ex_99_103, ex_99_104, ex_99_106, ex_99_108, ex_99_112, ex_99_113, ex_99_114, ex_99_115, ex_99_116, ex_99_117, ex_99_119, ex_99_120, ex_99_122, ex_99_123, ex_99_126, ex_99_127, ex_99_129, ex_99_131, ex_99_134, ex_99_137, ex_99_140, if_true, if_false, and_self, Option.toList_some, Option.toList_none, List.singleton_append, List.cons_append, List.nil_append, List.append_nil, nI_1, nt_e, Int32.le_refl]
            rw [ex_99_109]
            refine sMove_ok (by omega) (fun u3 o3 g0 g1 => ?_)
            have o3' : Only chP u2 u3 := o3.wk (fun a q => Or.inr q)
            have C3 : LibC u3 L v := hC.keep2 o3' (fun k hk q => by unfold chP at q; omega)
            have a3 := o3 193 (by unfold is; omega)
            have S3 : SeC u3 L v l n pp w (useS v l (pp h) σ c) := by
              refine hS.mv (by rw [a3.2.2.1]) (by rw [a3.1]) (by rw [a3.1]) (o3 195 (by unfold is; omega)).2.2.2.1 (o3 196 (by unfold is; omega)).2.2.2.1 (fun k hk => ?_)
              by_cases c0 : c = 0
              · rw [g0 c0, c0, useS_z]; exact hS.2.2.2.2.2 k hk
              · rw [g1 (by omega)]
                by_cases e : k = c - 1
                · rw [e, upd_s, hS.2.2.2.2.2 _ (by omega), use_sub]
                · rw [upd_n e, useS_n e]; exact hS.2.2.2.2.2 k hk
            have T3 : StC u3 st := ⟨by rw [a3.1]; exact hT.1, by rw [a3.1]; exact hT.2⟩
            simp (disch := first | exact am_nl_i _ | exact am_nl_r _ | exact am_nl_0 | assumption | omega | (refine vi_nI ?_ ?_ <;> omega) | exact b2i_01 _ | exact Or.inl rfl | exact Or.inr rfl | (unfold vi; decide)) only [ex_99_0, ex_99_1, ex_99_2, ex_99_5, ex_99_8, ex_99_9, ex_99_12, ex_99_13, ex_99_16, ex_99_19, ex_99_20, ex_99_21, ex_99_24, ex_99_25, ex_99_26, ex_99_29, ex_99_30, ex_99_31, ex_99_34, ex_99_35, ex_99_36, ex_99_37, ex_99_40, ex_99_41, ex_99_42, ex_99_46, ex_99_47, ex_99_50, ex_99_53, ex_99_56, ex_99_59, ex_99_60, ex_99_61, ex_99_63, ex_99_66, ex_99_67, ex_99_70, ex_99_71, ex_99_72, ex_99_74, ex_99_77, ex_99_80, ex_99_81, ex_99_84, ex_99_87, ex_99_89, ex_99_90, ex_99_91, ex_99_92, ex_99_93, ex_99_96, ex_99_97, ex_99_100, ex_99_101, ex_99_103, ex_99_104, ex_99_106, ex_99_108, ex_99_109, ex_99_112, ex_99_113, ex_99_114, ex_99_115, ex_99_116, ex_99_117, ex_99_119, ex_99_120, ex_99_122, ex_99_126, ex_99_127, ex_99_129, ex_99_131, ex_99_134, ex_99_137, ex_99_140, if_true, if_false, and_self, Option.toList_some, Option.toList_none, List.singleton_append, List.cons_append, List.nil_append, List.append_nil, nI_1, nt_e, Int32.le_refl, nI_1, lq13, mul_nI, Nat.mul_comm P 13, nI_add]
            rw [ex_99_123]
            refine ih (h + 1) (useS v l (pp h) σ c) (13 * P + c) st u3 _ (by omega) (useS_9 hσ) C3 S3 T3 (fun u4 o4 C4 S4 T4 => ?_)
            simp (disch := first | exact am_nl_i _ | exact am_nl_r _ | exact am_nl_0 | assumption | omega | (refine vi_nI ?_ ?_ <;> omega) | exact b2i_01 _ | exact Or.inl rfl | exact Or.inr rfl | (unfold vi; decide)) only [ex_99_0, ex_99_1, ex_99_2, ex_99_5, ex_99_8, ex_99_9, ex_99_12, ex_99_13, ex_99_16, ex_99_19, ex_99_20, ex_99_21, ex_99_24, ex_99_25, ex_99_26, ex_99_29, ex_99_30, ex_99_31, ex_99_34, ex_99_35, ex_99_36, ex_99_37, ex_99_40, ex_99_41, ex_99_42, ex_99_46, ex_99_47, ex_99_50, ex_99_53, ex_99_56, ex_99_59, ex_99_60, ex_99_61, ex_99_63, ex_99_66, ex_99_67, ex_99_70, ex_99_71, ex_99_72, ex_99_74, ex_99_77, ex_99_80, ex_99_81, ex_99_84, ex_99_87, ex_99_89, ex_99_90, ex_99_91, ex_99_92, ex_99_93, ex_99_96, ex_99_97, ex_99_100, ex_99_101, ex_99_103, ex_99_104, ex_99_106, ex_99_108, ex_99_109, ex_99_112, ex_99_113, ex_99_114, ex_99_115, ex_99_116, ex_99_117, ex_99_119, ex_99_120, ex_99_122, ex_99_123, ex_99_126, ex_99_127, ex_99_129, ex_99_134, ex_99_137, ex_99_140, if_true, if_false, and_self, Option.toList_some, Option.toList_none, List.singleton_append, List.cons_append, List.nil_append, List.append_nil, nI_1, nt_e, Int32.le_refl]
            rw [ex_99_131]
            refine sMove_ok (by omega) (fun u5 o5 g0 g1 => ?_)
            have o5' : Only chP u4 u5 := o5.wk (fun a q => Or.inr q)
            have C5 : LibC u5 L v := C4.keep2 o5' (fun k hk q => by unfold chP at q; omega)
            have a5 := o5 193 (by unfold is; omega)
            have S5 : SeC u5 L v l n pp w σ := by
              refine S4.mv (by rw [a5.2.2.1]) (by rw [a5.1]) (by rw [a5.1]) (o5 195 (by unfold is; omega)).2.2.2.1 (o5 196 (by unfold is; omega)).2.2.2.1 (fun k hk => ?_)
              by_cases c0 : c = 0
              · have := S4.2.2.2.2.2 k hk
                rw [c0, useS_z] at this
                rw [g0 c0]; exact this
              · rw [g1 (by omega)]
                by_cases e : k = c - 1
                · rw [e, upd_s, S4.2.2.2.2.2 _ (by omega), use_add]
                · have := S4.2.2.2.2.2 k hk
                  rw [useS_n e] at this
                  rw [upd_n e]; exact this
            have T5 : StC u5 _ := ⟨by rw [a5.1]; exact T4.1, by rw [a5.1]; exact T4.2⟩
            simp (disch := first | exact am_nl_i _ | exact am_nl_r _ | exact am_nl_0 | assumption | omega | (refine vi_nI ?_ ?_ <;> omega) | exact b2i_01 _ | exact Or.inl rfl | exact Or.inr rfl | (unfold vi; decide)) only [ex_99_0, ex_99_1, ex_99_2, ex_99_5, ex_99_8, ex_99_9, ex_99_12, ex_99_13, ex_99_16, ex_99_19, ex_99_20, ex_99_21, ex_99_24, ex_99_25, ex_99_26, ex_99_29, ex_99_30, ex_99_31, ex_99_34, ex_99_35, ex_99_36, ex_99_37, ex_99_40, ex_99_41, ex_99_42, ex_99_46, ex_99_47, ex_99_50, ex_99_53, ex_99_56, ex_99_59, ex_99_60, ex_99_61, ex_99_63, ex_99_66, ex_99_67, ex_99_70, ex_99_71, ex_99_72, ex_99_74, ex_99_77, ex_99_80, ex_99_81, ex_99_84, ex_99_87, ex_99_89, ex_99_90, ex_99_91, ex_99_92, ex_99_93, ex_99_96, ex_99_97, ex_99_100, ex_99_101, ex_99_103, ex_99_104, ex_99_106, ex_99_108, ex_99_109, ex_99_112, ex_99_113, ex_99_114, ex_99_115, ex_99_116, ex_99_117, ex_99_119, ex_99_120, ex_99_122, ex_99_123, ex_99_126, ex_99_127, ex_99_129, ex_99_131, ex_99_134, ex_99_137, ex_99_140, if_true, if_false, and_self, Option.toList_some, Option.toList_none, List.singleton_append, List.cons_append, List.nil_append, List.append_nil, nI_1, nt_e, Int32.le_refl]
            exact ih2 (c + 1) _ u5 _ (by omega) hp2 (o2.tr (o3'.tr (o4.tr o5'))) C5 S5 T5
          cases q2 : canS v l (pp h) σ c
          · have hb : useB v l (pp h) σ c = false := by unfold useB; rw [q2]; rfl
            rw [hb] at go
            simp (disch := first | exact am_nl_i _ | exact am_nl_r _ | exact am_nl_0 | (refine vi_nI ?_ ?_ <;> omega) | assumption | omega | exact b2i_01 _ | exact Or.inl rfl | exact Or.inr rfl | (unfold vi; decide)) only [ex_99_0, ex_99_1, ex_99_2, ex_99_5, ex_99_8, ex_99_9, ex_99_12, ex_99_13, ex_99_16, ex_99_19, ex_99_20, ex_99_21, ex_99_24, ex_99_25, ex_99_26, ex_99_29, ex_99_30, ex_99_31, ex_99_34, ex_99_35, ex_99_36, ex_99_37, ex_99_40, ex_99_41, ex_99_42, ex_99_46, ex_99_47, ex_99_50, ex_99_53, ex_99_56, ex_99_59, ex_99_60, ex_99_61, ex_99_63, ex_99_66, ex_99_67, ex_99_70, ex_99_71, ex_99_72, ex_99_74, ex_99_77, ex_99_80, ex_99_81, ex_99_84, ex_99_87, ex_99_89, ex_99_90, ex_99_91, ex_99_92, ex_99_93, ex_99_96, ex_99_97, ex_99_100, ex_99_101, ex_99_104, ex_99_106, ex_99_108, ex_99_109, ex_99_112, ex_99_113, ex_99_114, ex_99_115, ex_99_116, ex_99_117, ex_99_119, ex_99_120, ex_99_122, ex_99_123, ex_99_126, ex_99_127, ex_99_129, ex_99_131, ex_99_134, ex_99_137, ex_99_140, if_true, if_false, and_self, Option.toList_some, Option.toList_none, List.singleton_append, List.cons_append, List.nil_append, List.append_nil, nI_1, nt_e, Int32.le_refl, hSr, va_rfs, hN, nI_ltI, nI_leI, hnlt, hc, gn hc hS, q, hcan, q2, b2i_0, Bool.true_eq_false, Bool.false_eq_true, ↓reduceIte]
            exact go
          · have c1 : 1 ≤ c := by
              have : tkS v l (pp h) c = true := by
                unfold canS at q2
                rw [Bool.and_eq_true] at q2
                exact q2.1
              unfold tkS at this
              rw [Bool.and_eq_true, decide_eq_true_eq] at this
              exact this.1
            have hki := hkind (c - 1) (by omega)
            by_cases q3 : kindV v (c - 1) = 2
            · have hb : useB v l (pp h) σ c = false := by unfold useB; rw [q2, decide_eq_true q3]; rfl
              rw [hb] at go
              simp (disch := first | exact am_nl_i _ | exact am_nl_r _ | exact am_nl_0 | (refine vi_nI ?_ ?_ <;> omega) | assumption | omega | exact b2i_01 _ | exact Or.inl rfl | exact Or.inr rfl | (unfold vi; decide)) only [ex_99_0, ex_99_1, ex_99_2, ex_99_5, ex_99_8, ex_99_9, ex_99_12, ex_99_13, ex_99_16, ex_99_19, ex_99_20, ex_99_21, ex_99_24, ex_99_25, ex_99_26, ex_99_29, ex_99_30, ex_99_31, ex_99_34, ex_99_35, ex_99_36, ex_99_37, ex_99_40, ex_99_41, ex_99_42, ex_99_46, ex_99_47, ex_99_50, ex_99_53, ex_99_56, ex_99_59, ex_99_60, ex_99_61, ex_99_63, ex_99_66, ex_99_67, ex_99_70, ex_99_71, ex_99_72, ex_99_74, ex_99_77, ex_99_80, ex_99_81, ex_99_84, ex_99_87, ex_99_89, ex_99_90, ex_99_91, ex_99_92, ex_99_93, ex_99_96, ex_99_97, ex_99_100, ex_99_101, ex_99_104, ex_99_106, ex_99_108, ex_99_109, ex_99_112, ex_99_113, ex_99_114, ex_99_115, ex_99_116, ex_99_117, ex_99_119, ex_99_120, ex_99_122, ex_99_123, ex_99_126, ex_99_127, ex_99_129, ex_99_131, ex_99_134, ex_99_137, ex_99_140, if_true, if_false, and_self, Option.toList_some, Option.toList_none, List.singleton_append, List.cons_append, List.nil_append, List.append_nil, nI_1, nt_e, Int32.le_refl, hSr, va_rfs, hN, nI_ltI, nI_leI, hnlt, hc, gn hc hS, q, hcan, q2, b2i_0, b2i_t, i_sb, nI_clamp, hki, q3, show ((1 : Int32) = (0 : Int32)) = False from eq_false (by decide), Bool.true_eq_false, Bool.false_eq_true, ↓reduceIte]
              exact go
            · have hb : useB v l (pp h) σ c = true := by unfold useB; rw [q2, decide_eq_false q3]; rfl
              rw [hb] at go
              simp (disch := first | exact am_nl_i _ | exact am_nl_r _ | exact am_nl_0 | (refine vi_nI ?_ ?_ <;> omega) | assumption | omega | exact b2i_01 _ | exact Or.inl rfl | exact Or.inr rfl | (unfold vi; decide)) only [ex_99_0, ex_99_1, ex_99_2, ex_99_5, ex_99_8, ex_99_9, ex_99_12, ex_99_13, ex_99_16, ex_99_19, ex_99_20, ex_99_21, ex_99_24, ex_99_25, ex_99_26, ex_99_29, ex_99_30, ex_99_31, ex_99_34, ex_99_35, ex_99_36, ex_99_37, ex_99_40, ex_99_41, ex_99_42, ex_99_46, ex_99_47, ex_99_50, ex_99_53, ex_99_56, ex_99_59, ex_99_60, ex_99_61, ex_99_63, ex_99_66, ex_99_67, ex_99_70, ex_99_71, ex_99_72, ex_99_74, ex_99_77, ex_99_80, ex_99_81, ex_99_84, ex_99_87, ex_99_89, ex_99_90, ex_99_91, ex_99_92, ex_99_93, ex_99_96, ex_99_97, ex_99_100, ex_99_101, ex_99_104, ex_99_106, ex_99_108, ex_99_109, ex_99_112, ex_99_113, ex_99_114, ex_99_115, ex_99_116, ex_99_117, ex_99_119, ex_99_120, ex_99_122, ex_99_123, ex_99_126, ex_99_127, ex_99_129, ex_99_131, ex_99_134, ex_99_137, ex_99_140, if_true, if_false, and_self, Option.toList_some, Option.toList_none, List.singleton_append, List.cons_append, List.nil_append, List.append_nil, nI_1, nt_e, Int32.le_refl, hSr, va_rfs, hN, nI_ltI, nI_leI, hnlt, hc, gn hc hS, q, hcan, q2, b2i_0, b2i_t, i_sb, nI_clamp, hki, q3, show ((1 : Int32) = (0 : Int32)) = False from eq_false (by decide), Bool.true_eq_false, Bool.false_eq_true, ↓reduceIte]
              exact go
        · rw [if_neg q] at hp2
          simp (disch := first | exact am_nl_i _ | exact am_nl_r _ | exact am_nl_0 | (refine vi_nI ?_ ?_ <;> omega) | assumption | omega | exact b2i_01 _ | exact Or.inl rfl | exact Or.inr rfl | (unfold vi; decide)) only [ex_99_0, ex_99_1, ex_99_2, ex_99_5, ex_99_8, ex_99_9, ex_99_12, ex_99_13, ex_99_16, ex_99_19, ex_99_20, ex_99_21, ex_99_24, ex_99_25, ex_99_26, ex_99_29, ex_99_30, ex_99_31, ex_99_34, ex_99_35, ex_99_36, ex_99_37, ex_99_40, ex_99_41, ex_99_42, ex_99_46, ex_99_47, ex_99_50, ex_99_53, ex_99_56, ex_99_59, ex_99_60, ex_99_61, ex_99_63, ex_99_66, ex_99_67, ex_99_70, ex_99_71, ex_99_72, ex_99_74, ex_99_77, ex_99_80, ex_99_81, ex_99_84, ex_99_87, ex_99_89, ex_99_90, ex_99_91, ex_99_92, ex_99_93, ex_99_96, ex_99_97, ex_99_100, ex_99_101, ex_99_104, ex_99_106, ex_99_108, ex_99_109, ex_99_112, ex_99_113, ex_99_114, ex_99_115, ex_99_116, ex_99_117, ex_99_119, ex_99_120, ex_99_122, ex_99_123, ex_99_126, ex_99_127, ex_99_129, ex_99_131, ex_99_134, ex_99_137, ex_99_140, if_true, if_false, and_self, Option.toList_some, Option.toList_none, List.singleton_append, List.cons_append, List.nil_append, List.append_nil, nI_1, nt_e, Int32.le_refl, hSr, va_rfs, hN, nI_ltI, nI_leI, hnlt, hc, gn hc hS, q, Bool.true_eq_false, Bool.false_eq_true, ↓reduceIte]
          exact ih2 (c + 1) st u2 _ (by omega) hp2 o2 hC hS hT
    have h2 := hS.2.1
    rw [show d + 3 + (m + 1) = d + 3 + m + 1 from rfl, op_99]
    simp (disch := first | exact am_nl_i _ | exact am_nl_r _ | exact am_nl_0 | (refine vi_nI ?_ ?_ <;> omega) | assumption | omega | exact b2i_01 _ | exact Or.inl rfl | exact Or.inr rfl | (unfold vi; decide)) only [ex_99_0, ex_99_1, ex_99_2, ex_99_5, ex_99_8, ex_99_9, ex_99_12, ex_99_13, ex_99_16, ex_99_19, ex_99_20, ex_99_21, ex_99_24, ex_99_25, ex_99_26, ex_99_29, ex_99_30, ex_99_31, ex_99_34, ex_99_35, ex_99_36, ex_99_37, ex_99_40, ex_99_41, ex_99_42, ex_99_46, ex_99_47, ex_99_50, ex_99_53, ex_99_56, ex_99_59, ex_99_60, ex_99_61, ex_99_63, ex_99_66, ex_99_67, ex_99_70, ex_99_71, ex_99_72, ex_99_74, ex_99_77, ex_99_80, ex_99_81, ex_99_84, ex_99_87, ex_99_89, ex_99_90, ex_99_91, ex_99_92, ex_99_93, ex_99_96, ex_99_97, ex_99_100, ex_99_101, ex_99_103, ex_99_104, ex_99_106, ex_99_108, ex_99_109, ex_99_112, ex_99_113, ex_99_114, ex_99_115, ex_99_116, ex_99_117, ex_99_119, ex_99_120, ex_99_122, ex_99_123, ex_99_126, ex_99_127, ex_99_129, ex_99_131, ex_99_134, ex_99_137, ex_99_140, if_true, if_false, and_self, Option.toList_some, Option.toList_none, List.singleton_append, List.cons_append, List.nil_append, List.append_nil, nI_1, nt_e, Int32.le_refl, h2, nI_ltI, hhn, mo hC hS, Bool.true_eq_false, Bool.false_eq_true, ↓reduceIte]
    exact loop (nP v + 1) 0 st u none (by omega) hp (Only.rf _ _) hC hS hT
end Choose
