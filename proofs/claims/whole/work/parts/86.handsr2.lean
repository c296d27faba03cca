/-! HANDS, of the reference: rows tried -/
def lob : Option Nat → Int64
  | none => -1
  | some z => lN z
theorem lob_lt {o : Option Nat} {z : Nat} (ho : ∀ y, o = some y → y ≤ 12000000) (hz : z ≤ 12000000) : (0 < lg_cmp (lN z) (lob o)) = (o.all (fun y => decide (y < z)) = true) := by
  rw [lg_cmp_gt]
  cases o with
  | none =>
    refine propext ⟨fun _ => rfl, fun _ => ?_⟩
    show (-1 : Int64) < lN z
    rw [Int64.lt_iff_toInt_lt, lN_toInt (by omega), show (-1 : Int64).toInt = -1 from rfl]
    omega
  | some y =>
    have := ho y rfl
    show (lN y < lN z) = _
    rw [lN_lt (by omega) (by omega), Option.all_some, decide_eq_true_eq]
def htR (a : Nat) : Prop := a = 203 ∨ a = 241 ∨ (252 ≤ a ∧ a ≤ 254)
/-- copies as told so far, under a life -/
def CP (v : LV) (l : LF) (c : Nat → Nat) : Prop := (∀ k, c k ≤ 9) ∧ (∀ k, nP v ≤ k → c k = 0) ∧ ∀ k, k < 12 → (0 < c k ↔ 0 < ix (copL l k))
theorem WL_lc {v : LV} {l : LF} {c : Nat → Nat} (hw : WL v l) (hc : CP v l c) : WL v (lcW l c) := by
  obtain ⟨a1, a2, a3, a4, a5, a6⟩ := hw
  exact ⟨a1, fun _ => rfl, a3, fun k => ⟨c k, hc.1 k, rfl⟩, fun k hk => by show nI (c k) = 0; rw [hc.2.1 k hk]; rfl, a6⟩
theorem gone_lc {v : LV} {l : LF} {c : Nat → Nat} (hw : WL v l) (hc : CP v l c) : goneV v (lcW l c) = goneV v l := by
  have : inStockL (lcW l c) = inStockL l := orF_congr (fun k hk => by
    have e1 : (0 < copL (lcW l c) k) ↔ (0 < copL l k) := by
      show (0 < nI (c k)) ↔ _
      obtain ⟨h1, h2⟩ := ix_cop hw k
      have := hc.1 k
      rw [h1, i_0lt (by omega), i_0lt (by omega)]
      exact hc.2.2 k hk
    by_cases q : 0 < copL l k
    · rw [if_pos q, if_pos (e1.mpr q)]
    · rw [if_neg q, if_neg (fun z => q (e1.mp z))])
  unfold goneV
  rw [this]
  rfl
theorem kept_lc {v : LV} {l : LF} {b : Nat} {c : Nat → Nat} (h : goneV v (lcW l c) = goneV v l) : ∀ f, keptN v (lcW l c) b c f = keptN v l b c f
  | 0 => rfl
  | f + 1 => by
    rw [keptN, keptN, h, kept_lc h f]
    rfl
theorem val_lc {v : LV} {l : LF} {b : Nat} {c : Nat → Nat} (hw : WL v l) (hc : CP v l c) : valN v (lcW l c) b c = valN v l b c := by
  unfold valN
  rw [kept_lc (gone_lc hw hc)]
def HbR (u : am_U) (m : Nat) (st : HS) : Prop := FJ u 203 66 = lob st.1 ∧ (st.1.isSome = true → ∀ i, i < m → AI u 253 i = nI (st.2 i))
section TriesR
variable {d b m : Nat} {u : am_U} {v : LV} {l : LF} {c : Nat → Nat} {post : Option Value → am_M → Prop}
theorem lc_R {k w : Nat} (h6 : nE v ≤ 6) (hk : k < 12) (hl : LifeR u v (lcW l c)) : LifeR (sAI u 241 (upd (AI u 241) (13 + k) (nI w))) v (lcW l (upN c k w)) := by
  obtain ⟨a1, a2, a3, a4, a5, a6⟩ := hl
  simp only [Nat.zero_add] at a1 a2 a3 a4 a5 a6
  unfold LifeR RowR
  simp only [AI_sAI, if_true, Nat.zero_add]
  refine ⟨fun p hp => ?_, fun p hp => ?_, ?_, fun j hj => ?_, ?_, ?_⟩
  · rw [upd_n (by omega)]; exact a1 p hp
  · rw [upd_n (by omega)]; exact a2 p hp
  · rw [upd_n (by omega)]; exact a3
  · show _ = nI (upN c k w j)
    by_cases e : j = k
    · rw [e, upd_s, upN_s]
    · rw [upd_n (by omega), upN_n e]; exact a4 j hj
  · rw [upd_n (by omega)]; exact a5
  · rw [upd_n (by omega)]; exact a6
theorem tries_ok (hb : b ≤ 10) (hm4 : m ≤ 4) (hW : WF v) (hw : WL v l) (hbv : burnV v = nI b) : ∀ (r h from_ : Nat) (c : Nat → Nat) (row : Nat → Nat) (st : HS) (u : am_U) (post : Option Value → am_M → Prop), h + r = m → from_ < 1000 → CP v l c → LibR u v → LifeR u v (lcW l c) → HbR u m st → HB m st → (∀ i, i < h → AI u 252 i = nI (row i) ∧ row i < 12) →
    (∀ u', Only htR u u' → FI u' 203 = FI u 203 → LibR u' v → LifeR u' v (lcW l c) → HbR u' m (tryN v l b r h from_ c row st) → HB m (tryN v l b r h from_ c row st) → (∀ i, i < h → AI u' 252 i = nI (row i)) → post none (am_emb u')) → Cl (d + 5 + r) 265 [.ref 203, .int (nI h), .int (nI m), .int (nI from_)] (am_emb u) post := by
  intro r
  have h6 := hW.1.2.2.1
  induction r with
  | zero =>
    intro h from_ c row st u post hh hf hc hR hl hB hHB hrow hp
    have hv := valN_le (v := v) (l := l) (b := b) (c := c) hW.1.1
    have hwc := WL_lc hw hc
    obtain rfl : h = m := by omega
    have hlt := lob_lt hHB.1 hv
    rw [tryN] at hp
    rw [op_265]
    simp (disch := first | exact am_nl_i _ | exact am_nl_r _ | exact am_nl_0 | (refine vi_nI ?_ ?_ <;> omega) | assumption | omega | exact b2i_01 _ | exact Or.inl rfl | exact Or.inr rfl | (unfold vi; decide)) only [ex_265_0, ex_265_1, ex_265_2, ex_265_5, ex_265_9, ex_265_11, ex_265_13, ex_265_14, ex_265_17, ex_265_18, ex_265_21, ex_265_22, ex_265_23, ex_265_25, ex_265_28, ex_265_29, ex_265_31, ex_265_33, ex_265_34, ex_265_37, ex_265_38, ex_265_41, ex_265_43, ex_265_44, ex_265_47, ex_265_49, ex_265_50, ex_265_51, ex_265_54, ex_265_57, ex_265_59, ex_265_63, ex_265_64, ex_265_67, ex_265_68, ex_265_69, ex_265_72, ex_265_73, ex_265_75, ex_265_78, ex_265_81, ex_265_84, ex_265_85, ex_265_88, ex_265_89, ex_265_91, ex_265_92, ex_265_93, ex_265_96, ex_265_98, ex_265_100, ex_265_101, ex_265_102, ex_265_103, ex_265_104, ex_265_105, ex_265_106, ex_265_107, ex_265_108, ex_265_109, ex_265_110, ex_265_111, ex_265_113, ex_265_116, ex_265_117, ex_265_120, ex_265_122, ex_265_124, ex_265_125, ex_265_126, ex_265_127, ex_265_128, ex_265_129, ex_265_130, ex_265_133, ex_265_136, if_true, if_false, and_self, Option.toList_some, Option.toList_none, List.singleton_append, List.cons_append, List.nil_append, List.append_nil, nI_1, nt_e, Int32.le_refl, Bool.true_eq_false, Bool.false_eq_true, ↓reduceIte]
    rw [ex_265_6]
    refine keptNow_ok hR hl hW hwc hc.1 hb hbv (fun u1 o1 => ?_)
    rw [val_lc hw hc]
    have a1 : ∀ a, ¬ a = 254 → FI u1 a = FI u a ∧ FJ u1 a = FJ u a ∧ AI u1 a = AI u a := fun a ha => by
      have := o1 a (by unfold is; omega)
      exact ⟨this.1, this.2.1, this.2.2.2.1⟩
    have o1' : Only htR u u1 := o1.wk (fun a q => by unfold is at q; unfold htR; omega)
    have R1 : LibR u1 v := hR.keep o1 (fun a h1 h2 q => by unfold is at q; omega)
    have l1 : LifeR u1 v (lcW l c) := hl.keep o1 (by unfold is; omega)
    have e66 : FJ u1 203 66 = lob st.1 := by rw [(a1 203 (by decide)).2.1]; exact hB.1
    by_cases q : st.1.all (fun z => decide (z < valN v l b c)) = true
    · rw [if_pos q] at hp
      have e0 : (0 < lg_cmp (lN (valN v l b c)) (lob st.1)) = True := by rw [hlt]; exact eq_true q
      simp (disch := first | exact am_nl_i _ | exact am_nl_r _ | exact am_nl_0 | (refine vi_nI ?_ ?_ <;> omega) | assumption | omega | exact b2i_01 _ | exact Or.inl rfl | exact Or.inr rfl | (unfold vi; decide)) only [ex_265_0, ex_265_1, ex_265_2, ex_265_5, ex_265_6, ex_265_9, ex_265_11, ex_265_13, ex_265_14, ex_265_17, ex_265_18, ex_265_21, ex_265_22, ex_265_23, ex_265_25, ex_265_28, ex_265_29, ex_265_33, ex_265_34, ex_265_37, ex_265_38, ex_265_41, ex_265_43, ex_265_44, ex_265_47, ex_265_49, ex_265_50, ex_265_51, ex_265_54, ex_265_57, ex_265_59, ex_265_63, ex_265_64, ex_265_67, ex_265_68, ex_265_69, ex_265_72, ex_265_73, ex_265_75, ex_265_78, ex_265_81, ex_265_84, ex_265_85, ex_265_88, ex_265_89, ex_265_91, ex_265_92, ex_265_93, ex_265_96, ex_265_98, ex_265_100, ex_265_101, ex_265_102, ex_265_103, ex_265_104, ex_265_105, ex_265_106, ex_265_107, ex_265_108, ex_265_109, ex_265_110, ex_265_111, ex_265_113, ex_265_116, ex_265_117, ex_265_120, ex_265_122, ex_265_124, ex_265_125, ex_265_126, ex_265_127, ex_265_128, ex_265_129, ex_265_130, ex_265_133, ex_265_136, if_true, if_false, and_self, Option.toList_some, Option.toList_none, List.singleton_append, List.cons_append, List.nil_append, List.append_nil, nI_1, nt_e, Int32.le_refl, e66, e0, Bool.true_eq_false, Bool.false_eq_true, ↓reduceIte]
      have loop : ∀ (kz i : Nat), i + kz = h → ∀ u2, Only htR u u2 → FI u2 203 = FI u 203 → LibR u2 v → LifeR u2 v (lcW l c) → FJ u2 203 66 = lN (valN v l b c) → AI u2 252 = AI u 252 → (∀ j, j < i → AI u2 253 j = nI (row j)) → Ex (d + 5 + 0) 265 31 [some (.ref 203), some (.int (nI h)), some (.int (nI h)), some (.int (nI from_)), some (.long (lN (valN v l b c))), none, some (.int (nI i))] [] (am_emb u2) post := by
        intro kz
        induction kz with
        | zero =>
          intro i hi u2 o2 f2 R2 l2 j2 e2 g2
          obtain rfl : i = h := by omega
          rw [ex_265_31]
          simp (disch := first | exact am_nl_i _ | exact am_nl_r _ | exact am_nl_0 | (refine vi_nI ?_ ?_ <;> omega) | assumption | omega | exact b2i_01 _ | exact Or.inl rfl | exact Or.inr rfl | (unfold vi; decide)) only [ex_265_0, ex_265_1, ex_265_2, ex_265_5, ex_265_6, ex_265_9, ex_265_11, ex_265_13, ex_265_14, ex_265_17, ex_265_18, ex_265_21, ex_265_22, ex_265_23, ex_265_25, ex_265_28, ex_265_29, ex_265_33, ex_265_34, ex_265_38, ex_265_41, ex_265_43, ex_265_44, ex_265_47, ex_265_49, ex_265_50, ex_265_51, ex_265_54, ex_265_57, ex_265_58, ex_265_59, ex_265_61, ex_265_63, ex_265_64, ex_265_67, ex_265_68, ex_265_69, ex_265_72, ex_265_73, ex_265_75, ex_265_78, ex_265_81, ex_265_84, ex_265_85, ex_265_88, ex_265_89, ex_265_91, ex_265_92, ex_265_93, ex_265_96, ex_265_98, ex_265_100, ex_265_101, ex_265_102, ex_265_103, ex_265_104, ex_265_105, ex_265_106, ex_265_107, ex_265_108, ex_265_109, ex_265_110, ex_265_111, ex_265_113, ex_265_116, ex_265_117, ex_265_120, ex_265_122, ex_265_124, ex_265_125, ex_265_126, ex_265_127, ex_265_128, ex_265_129, ex_265_130, ex_265_133, ex_265_136, if_true, if_false, and_self, Option.toList_some, Option.toList_none, List.singleton_append, List.cons_append, List.nil_append, List.append_nil, nI_1, nt_e, Int32.le_refl, nI_leI, Nat.le_refl, Bool.true_eq_false, Bool.false_eq_true, ↓reduceIte]
          exact hp u2 o2 f2 R2 l2 ⟨j2, fun _ j hj => g2 j hj⟩ ⟨fun z hz => by cases hz; exact hv, fun j hj _ => (hrow j hj).2⟩ (fun j hj => by rw [e2]; exact (hrow j hj).1)
        | succ kz ih =>
          intro i hi u2 o2 f2 R2 l2 j2 e2 g2
          have hnle : ¬ h ≤ i := by omega
          have e3 := (hrow i (by omega)).1
          rw [ex_265_31]
          simp (disch := first | exact am_nl_i _ | exact am_nl_r _ | exact am_nl_0 | (refine vi_nI ?_ ?_ <;> omega) | assumption | omega | exact b2i_01 _ | exact Or.inl rfl | exact Or.inr rfl | (unfold vi; decide)) only [ex_265_0, ex_265_1, ex_265_2, ex_265_5, ex_265_6, ex_265_9, ex_265_11, ex_265_13, ex_265_14, ex_265_17, ex_265_18, ex_265_21, ex_265_22, ex_265_23, ex_265_25, ex_265_28, ex_265_29, ex_265_33, ex_265_34, ex_265_37, ex_265_38, ex_265_41, ex_265_43, ex_265_44, ex_265_47, ex_265_49, ex_265_50, ex_265_51, ex_265_54, ex_265_58, ex_265_59, ex_265_61, ex_265_63, ex_265_64, ex_265_67, ex_265_68, ex_265_69, ex_265_72, ex_265_73, ex_265_75, ex_265_78, ex_265_81, ex_265_84, ex_265_85, ex_265_88, ex_265_89, ex_265_91, ex_265_92, ex_265_93, ex_265_96, ex_265_98, ex_265_100, ex_265_101, ex_265_102, ex_265_103, ex_265_104, ex_265_105, ex_265_106, ex_265_107, ex_265_108, ex_265_109, ex_265_110, ex_265_111, ex_265_113, ex_265_116, ex_265_117, ex_265_120, ex_265_122, ex_265_124, ex_265_125, ex_265_126, ex_265_127, ex_265_128, ex_265_129, ex_265_130, ex_265_133, ex_265_136, if_true, if_false, and_self, Option.toList_some, Option.toList_none, List.singleton_append, List.cons_append, List.nil_append, List.append_nil, nI_1, nt_e, Int32.le_refl, nI_leI, hnle, nI_clamp, e2, e3, Bool.true_eq_false, Bool.false_eq_true, ↓reduceIte]
          have o3 : Only htR u2 (sAI u2 253 (upd (AI u2 253) i (nI (row i)))) := Only.sAI (by unfold htR; omega)
          refine ih (i + 1) (by omega) _ (o2.tr o3) f2 (R2.keep o3 (fun a h1 h2 q => by unfold htR at q; omega)) l2 j2 e2 (fun j hj => ?_)
          rw [AI_sAI, if_pos rfl]
          by_cases e : j = i
          · rw [e, upd_s]
          · rw [upd_n e]; exact g2 j (by omega)
      have o3 : Only htR u1 (sFJ u1 203 66 (lN (valN v l b c))) := Only.sFJ (Or.inl rfl)
      exact loop h 0 (by omega) _ (o1'.tr o3) (a1 203 (by decide)).1 R1 l1 (by rw [FJ_sFJ, if_pos ⟨rfl, rfl⟩]) (a1 252 (by decide)).2.2 (fun j hj => absurd hj (Nat.not_lt_zero j))
    · rw [if_neg q] at hp
      have e0 : (0 < lg_cmp (lN (valN v l b c)) (lob st.1)) = False := by rw [hlt]; exact eq_false q
      simp (disch := first | exact am_nl_i _ | exact am_nl_r _ | exact am_nl_0 | (refine vi_nI ?_ ?_ <;> omega) | assumption | omega | exact b2i_01 _ | exact Or.inl rfl | exact Or.inr rfl | (unfold vi; decide)) only [ex_265_0, ex_265_1, ex_265_2, ex_265_5, ex_265_6, ex_265_9, ex_265_11, ex_265_13, ex_265_14, ex_265_17, ex_265_18, ex_265_21, ex_265_22, ex_265_23, ex_265_25, ex_265_28, ex_265_29, ex_265_33, ex_265_34, ex_265_37, ex_265_38, ex_265_41, ex_265_43, ex_265_44, ex_265_47, ex_265_49, ex_265_50, ex_265_51, ex_265_54, ex_265_57, ex_265_59, ex_265_63, ex_265_64, ex_265_67, ex_265_68, ex_265_69, ex_265_72, ex_265_73, ex_265_75, ex_265_78, ex_265_81, ex_265_84, ex_265_85, ex_265_88, ex_265_89, ex_265_91, ex_265_92, ex_265_93, ex_265_96, ex_265_98, ex_265_100, ex_265_101, ex_265_102, ex_265_103, ex_265_104, ex_265_105, ex_265_106, ex_265_107, ex_265_108, ex_265_109, ex_265_110, ex_265_111, ex_265_113, ex_265_116, ex_265_117, ex_265_120, ex_265_122, ex_265_124, ex_265_125, ex_265_126, ex_265_127, ex_265_128, ex_265_129, ex_265_130, ex_265_133, ex_265_136, if_true, if_false, and_self, Option.toList_some, Option.toList_none, List.singleton_append, List.cons_append, List.nil_append, List.append_nil, nI_1, nt_e, Int32.le_refl, e66, e0, Bool.true_eq_false, Bool.false_eq_true, ↓reduceIte]
      exact hp u1 o1' (a1 203 (by decide)).1 R1 l1 ⟨e66, fun hs i hi => by rw [(a1 253 (by decide)).2.2]; exact hB.2 hs i hi⟩ hHB (fun i hi => by rw [(a1 252 (by decide)).2.2]; exact (hrow i hi).1)
  | succ r ih =>
    intro h from_ c row st u post hh hf hc hR hl hB hHB hrow hp
    have h12 := hW.1.2.1
    have hne : ¬ h = m := by omega
    rw [tryN] at hp
    have loop : ∀ (n k : Nat) (st : HS) (u2 : am_U) (j5 j6 : Option Value), n = nP v - k → (∀ u', Only htR u u' → FI u' 203 = FI u 203 → LibR u' v → LifeR u' v (lcW l c) → HbR u' m (loopK (fun k st => if decide (1 ≤ c k) && decide (c k < 9) then tryN v l b r (h + 1) k (upN c k (c k + 1)) (upN row h k) st else st) n k st) → HB m (loopK (fun k st => if decide (1 ≤ c k) && decide (c k < 9) then tryN v l b r (h + 1) k (upN c k (c k + 1)) (upN row h k) st else st) n k st) → (∀ i, i < h → AI u' 252 i = nI (row i)) → post none (am_emb u')) → Only htR u u2 → FI u2 203 = FI u 203 → LibR u2 v → LifeR u2 v (lcW l c) → HbR u2 m st → HB m st → (∀ i, i < h → AI u2 252 i = nI (row i) ∧ row i < 12) → k < 1000 → Ex (d + 5 + r + 1) 265 61 [some (.ref 203), some (.int (nI h)), some (.int (nI m)), some (.int (nI from_)), some (.int (nI k)), j5, j6] [] (am_emb u2) post := by
      intro n
      induction n with
      | zero =>
        intro k st u2 j5 j6 hk hp2 o2 f2 R2 l2 hB hHB hrow hk1000
        have hle : nP v ≤ k := by omega
        rw [ex_265_61]
        simp (disch := first | exact am_nl_i _ | exact am_nl_r _ | exact am_nl_0 | (refine vi_nI ?_ ?_ <;> omega) | assumption | omega | exact b2i_01 _ | exact Or.inl rfl | exact Or.inr rfl | (unfold vi; decide)) only [ex_265_0, ex_265_1, ex_265_2, ex_265_5, ex_265_6, ex_265_9, ex_265_11, ex_265_13, ex_265_14, ex_265_17, ex_265_18, ex_265_21, ex_265_22, ex_265_23, ex_265_25, ex_265_28, ex_265_29, ex_265_31, ex_265_33, ex_265_34, ex_265_37, ex_265_38, ex_265_41, ex_265_43, ex_265_44, ex_265_47, ex_265_49, ex_265_50, ex_265_51, ex_265_54, ex_265_57, ex_265_58, ex_265_59, ex_265_63, ex_265_64, ex_265_67, ex_265_68, ex_265_69, ex_265_73, ex_265_75, ex_265_78, ex_265_81, ex_265_84, ex_265_85, ex_265_88, ex_265_89, ex_265_91, ex_265_92, ex_265_93, ex_265_96, ex_265_98, ex_265_100, ex_265_101, ex_265_102, ex_265_103, ex_265_104, ex_265_105, ex_265_106, ex_265_107, ex_265_108, ex_265_109, ex_265_110, ex_265_111, ex_265_113, ex_265_116, ex_265_117, ex_265_120, ex_265_122, ex_265_124, ex_265_125, ex_265_126, ex_265_127, ex_265_128, ex_265_129, ex_265_130, ex_265_133, ex_265_136, if_true, if_false, and_self, Option.toList_some, Option.toList_none, List.singleton_append, List.cons_append, List.nil_append, List.append_nil, nI_1, nt_e, Int32.le_refl, c1, R2.1.2.1, nI_leI, hle, Bool.true_eq_false, Bool.false_eq_true, ↓reduceIte]
        exact hp2 u2 o2 f2 R2 l2 hB hHB (fun i hi => (hrow i hi).1)
      | succ n ih2 =>
        intro k st u2 j5 j6 hk hp2 o2 f2 R2 l2 hB hHB hrow hk1000
        have hnle : ¬ nP v ≤ k := by omega
        have hk12 : k < 12 := by omega
        have hck := hc.1 k
        have hcb : copiedB v (lcW l c) (nI k) = (decide (1 ≤ c k) && decide (c k < 9)) := by
          unfold copiedB
          rw [okI_nI (by omega) (by omega), decide_eq_true (show k < nP v by omega), ix_nI (by omega), Bool.true_and]
          show (!decide (nI (c k) < 1) && decide (nI (c k) < 9)) = _
          have e1 : (nI (c k) < 1) ↔ ¬ 1 ≤ c k := by rw [i_lt1 (by omega)]; omega
          have e2 : (nI (c k) < 9) ↔ c k < 9 := by rw [show (9 : Int32) = nI 9 from rfl, nI_ltI (by omega) (by omega)]
          by_cases q1 : 1 ≤ c k <;> by_cases q2 : c k < 9 <;> simp [e1, e2, q1, q2]
        have hcop : AI u2 241 (13 + k) = nI (c k) := by
          have := l2.2.2.2.1 k hk12
          rwa [Nat.zero_add] at this
        have hcc : ∀ post : Option Value → am_M → Prop, Cl (d + 5 + r) 233 [.ref 203, .int (nI k)] (am_emb u2) post ↔ post (some (.int (b2i (copiedB v (lcW l c) (nI k))))) (am_emb u2) := fun post => by
          rw [show d + 5 + r = (d + 4 + r) + 1 by omega]
          exact canCopy_ok R2 l2 hW
        rw [loopK] at hp2
        rw [ex_265_61]
        cases q : decide (1 ≤ c k) && decide (c k < 9)
        · rw [q] at hcb
          simp only [q, Bool.false_eq_true, if_false] at hp2
          simp (disch := first | exact am_nl_i _ | exact am_nl_r _ | exact am_nl_0 | (refine vi_nI ?_ ?_ <;> omega) | assumption | omega | exact b2i_01 _ | exact Or.inl rfl | exact Or.inr rfl | (unfold vi; decide)) only [ex_265_0, ex_265_1, ex_265_2, ex_265_5, ex_265_6, ex_265_9, ex_265_11, ex_265_13, ex_265_14, ex_265_17, ex_265_18, ex_265_21, ex_265_22, ex_265_23, ex_265_25, ex_265_28, ex_265_29, ex_265_31, ex_265_33, ex_265_34, ex_265_37, ex_265_38, ex_265_41, ex_265_43, ex_265_44, ex_265_47, ex_265_49, ex_265_50, ex_265_51, ex_265_54, ex_265_57, ex_265_58, ex_265_59, ex_265_63, ex_265_64, ex_265_67, ex_265_68, ex_265_69, ex_265_72, ex_265_73, ex_265_75, ex_265_78, ex_265_81, ex_265_84, ex_265_85, ex_265_88, ex_265_89, ex_265_91, ex_265_92, ex_265_93, ex_265_96, ex_265_98, ex_265_100, ex_265_101, ex_265_102, ex_265_103, ex_265_104, ex_265_105, ex_265_106, ex_265_107, ex_265_108, ex_265_109, ex_265_110, ex_265_111, ex_265_113, ex_265_116, ex_265_117, ex_265_120, ex_265_122, ex_265_124, ex_265_125, ex_265_126, ex_265_127, ex_265_128, ex_265_129, ex_265_130, ex_265_133, if_true, if_false, and_self, Option.toList_some, Option.toList_none, List.singleton_append, List.cons_append, List.nil_append, List.append_nil, nI_1, nt_e, Int32.le_refl, c1, R2.1.2.1, nI_leI, hnle, hcc, hcb, b2i_0, Bool.true_eq_false, Bool.false_eq_true, ↓reduceIte]
          exact ih2 (k + 1) st u2 _ _ (by omega) hp2 o2 f2 R2 l2 hB hHB hrow (by omega)
        · rw [q] at hcb
          have q' := q
          rw [Bool.and_eq_true, decide_eq_true_eq, decide_eq_true_eq] at q'
          simp only [q, if_true] at hp2
          simp (disch := first | exact am_nl_i _ | exact am_nl_r _ | exact am_nl_0 | (refine vi_nI ?_ ?_ <;> omega) | assumption | omega | exact b2i_01 _ | exact Or.inl rfl | exact Or.inr rfl | (unfold vi; decide)) only [ex_265_0, ex_265_1, ex_265_2, ex_265_5, ex_265_6, ex_265_9, ex_265_11, ex_265_13, ex_265_14, ex_265_17, ex_265_18, ex_265_21, ex_265_22, ex_265_23, ex_265_25, ex_265_28, ex_265_29, ex_265_31, ex_265_33, ex_265_34, ex_265_37, ex_265_38, ex_265_41, ex_265_43, ex_265_44, ex_265_47, ex_265_49, ex_265_50, ex_265_51, ex_265_54, ex_265_57, ex_265_58, ex_265_59, ex_265_63, ex_265_64, ex_265_67, ex_265_68, ex_265_69, ex_265_72, ex_265_73, ex_265_75, ex_265_78, ex_265_81, ex_265_84, ex_265_85, ex_265_88, ex_265_89, ex_265_91, ex_265_92, ex_265_93, ex_265_96, ex_265_98, ex_265_100, ex_265_101, ex_265_102, ex_265_103, ex_265_104, ex_265_105, ex_265_106, ex_265_107, ex_265_108, ex_265_109, ex_265_110, ex_265_111, ex_265_116, ex_265_117, ex_265_120, ex_265_122, ex_265_124, ex_265_125, ex_265_126, ex_265_127, ex_265_128, ex_265_129, ex_265_130, ex_265_133, if_true, if_false, and_self, Option.toList_some, Option.toList_none, List.singleton_append, List.cons_append, List.nil_append, List.append_nil, nI_1, nt_e, Int32.le_refl, c1, R2.1.2.1, nI_leI, hnle, hcc, hcb, b2i_0, nI_clamp, AI_sAI, Nat.reduceEqDiff, nI13, hcop, Bool.true_eq_false, Bool.false_eq_true, ↓reduceIte]
          rw [ex_265_113]
          have w1 : htR 252 := by unfold htR; omega
          have w2 : htR 241 := by unfold htR; omega
          have o3 : Only htR u2 (sAI (sAI u2 252 (upd (AI u2 252) h (nI k))) 241 (upd (AI u2 241) (13 + k) (nI (c k + 1)))) := of_ai (of_ai (Only.rf _ _) w1) w2
          have R3 := R2.keep o3 (fun a h1 h2 q => by unfold htR at q; omega)
          have l3 : LifeR (sAI (sAI u2 252 (upd (AI u2 252) h (nI k))) 241 (upd (AI u2 241) (13 + k) (nI (c k + 1)))) v (lcW l (upN c k (c k + 1))) := lc_R (u := sAI u2 252 (upd (AI u2 252) h (nI k))) h6 hk12 l2
          have hc3 : CP v l (upN c k (c k + 1)) := by
            refine ⟨fun j => ?_, fun j hj => ?_, fun j hj => ?_⟩
            · by_cases e : j = k
              · rw [e, upN_s]; omega
              · rw [upN_n e]; exact hc.1 j
            · rw [upN_n (by omega)]; exact hc.2.1 j hj
            · by_cases e : j = k
              · rw [e, upN_s]
                have := hc.2.2 k hk12
                exact ⟨fun _ => this.mp (by omega), fun _ => by omega⟩
              · rw [upN_n e]; exact hc.2.2 j hj
          refine ih (h + 1) k (upN c k (c k + 1)) (upN row h k) st _ _ (by omega) (by omega) hc3 R3 l3 ⟨hB.1, fun hs i hi => hB.2 hs i hi⟩ hHB (fun i hi => ?_) (fun u4 o4 f4 R4 l4 B4 HB4 row4 => ?_)
          · show upd (AI u2 252) h (nI k) i = _ ∧ _
            by_cases e : i = h
            · rw [e, upd_s, upN_s]; exact ⟨rfl, hk12⟩
            · rw [upd_n e, upN_n e]; exact hrow i (by omega)
          have hcop4 : AI u4 241 (13 + k) = nI (c k + 1) := by
            have := l4.2.2.2.1 k hk12
            rw [Nat.zero_add] at this
            rw [this]
            show nI (upN c k (c k + 1) k) = _
            rw [upN_s]
          simp (disch := first | exact am_nl_i _ | exact am_nl_r _ | exact am_nl_0 | assumption | omega | (refine vi_nI ?_ ?_ <;> omega) | exact b2i_01 _ | exact Or.inl rfl | exact Or.inr rfl | (unfold vi; decide)) only [ex_265_0, ex_265_1, ex_265_2, ex_265_5, ex_265_6, ex_265_9, ex_265_11, ex_265_13, ex_265_14, ex_265_17, ex_265_18, ex_265_21, ex_265_22, ex_265_23, ex_265_25, ex_265_28, ex_265_29, ex_265_31, ex_265_33, ex_265_34, ex_265_37, ex_265_38, ex_265_41, ex_265_43, ex_265_44, ex_265_47, ex_265_49, ex_265_50, ex_265_51, ex_265_54, ex_265_57, ex_265_58, ex_265_59, ex_265_63, ex_265_64, ex_265_67, ex_265_68, ex_265_69, ex_265_72, ex_265_73, ex_265_75, ex_265_78, ex_265_81, ex_265_84, ex_265_85, ex_265_88, ex_265_89, ex_265_91, ex_265_92, ex_265_93, ex_265_96, ex_265_98, ex_265_100, ex_265_101, ex_265_102, ex_265_103, ex_265_104, ex_265_105, ex_265_106, ex_265_107, ex_265_108, ex_265_109, ex_265_110, ex_265_111, ex_265_113, ex_265_116, ex_265_117, ex_265_120, ex_265_122, ex_265_124, ex_265_125, ex_265_126, ex_265_127, ex_265_128, ex_265_129, ex_265_130, ex_265_133, ex_265_136, if_true, if_false, and_self, Option.toList_some, Option.toList_none, List.singleton_append, List.cons_append, List.nil_append, List.append_nil, nI_1, nt_e, Int32.le_refl, nI13, nI_clamp, hcop4, nI_pred]
          have o5 : Only htR u4 (sAI u4 241 (upd (AI u4 241) (13 + k) (nI (c k)))) := Only.sAI w2
          have l5 : LifeR (sAI u4 241 (upd (AI u4 241) (13 + k) (nI (c k)))) v (lcW l c) := by
            have := lc_R (w := c k) h6 hk12 l4
            have e : upN (upN c k (c k + 1)) k (c k) = c := funext fun j => by
              by_cases e : j = k
              · rw [e, upN_s]
              · rw [upN_n e, upN_n e]
            rw [e] at this
            exact this
          refine ih2 (k + 1) _ _ _ _ (by omega) hp2 (o2.tr (o3.tr (o4.tr o5))) (f4.trans f2) (R4.keep o5 (fun a h1 h2 q => by unfold htR at q; omega)) l5 ⟨B4.1, B4.2⟩ HB4 (fun i hi => ⟨?_, (hrow i hi).2⟩) (by omega)
          have := row4 i (by omega)
          rw [upN_n (by omega)] at this
          exact this
    rw [show d + 5 + (r + 1) = d + 5 + r + 1 from rfl, op_265]
    simp (disch := first | exact am_nl_i _ | exact am_nl_r _ | exact am_nl_0 | (refine vi_nI ?_ ?_ <;> omega) | assumption | omega | exact b2i_01 _ | exact Or.inl rfl | exact Or.inr rfl | (unfold vi; decide)) only [ex_265_0, ex_265_1, ex_265_2, ex_265_6, ex_265_9, ex_265_11, ex_265_13, ex_265_14, ex_265_17, ex_265_18, ex_265_21, ex_265_22, ex_265_23, ex_265_25, ex_265_28, ex_265_29, ex_265_31, ex_265_33, ex_265_34, ex_265_37, ex_265_38, ex_265_41, ex_265_43, ex_265_44, ex_265_47, ex_265_49, ex_265_50, ex_265_51, ex_265_54, ex_265_57, ex_265_58, ex_265_59, ex_265_63, ex_265_64, ex_265_67, ex_265_68, ex_265_69, ex_265_72, ex_265_73, ex_265_75, ex_265_78, ex_265_81, ex_265_84, ex_265_85, ex_265_88, ex_265_89, ex_265_91, ex_265_92, ex_265_93, ex_265_96, ex_265_98, ex_265_100, ex_265_101, ex_265_102, ex_265_103, ex_265_104, ex_265_105, ex_265_106, ex_265_107, ex_265_108, ex_265_109, ex_265_110, ex_265_111, ex_265_113, ex_265_116, ex_265_117, ex_265_120, ex_265_122, ex_265_124, ex_265_125, ex_265_126, ex_265_127, ex_265_128, ex_265_129, ex_265_130, ex_265_133, ex_265_136, if_true, if_false, and_self, Option.toList_some, Option.toList_none, List.singleton_append, List.cons_append, List.nil_append, List.append_nil, nI_1, nt_e, Int32.le_refl, nI_eq, hne, Bool.true_eq_false, Bool.false_eq_true, ↓reduceIte]
    exact loop (nP v - from_) from_ st u _ _ rfl hp (Only.rf _ _) rfl hR hl hB hHB hrow hf
end TriesR
section HandsR
variable {d : Nat} {u : am_U} {S : ST} {post : Option Value → am_M → Prop}
theorem CP_0 {v : LV} {l : LF} (hw : WL v l) : CP v l (fun k => ix (copL l k)) := ⟨fun k => (ix_cop hw k).2, fun k hk => by show ix (copL l k) = 0; rw [hw.2.2.2.2.1 k hk]; rfl, fun _ _ => Iff.rfl⟩
theorem lc_0 {v : LV} {l : LF} (hw : WL v l) : lcW l (fun k => ix (copL l k)) = l := by
  have : (fun k => nI (ix (copL l k))) = copL l := funext fun k => (ix_cop hw k).1.symm
  unfold lcW
  rw [this]
  rfl
theorem R_hands {x y : Int32} (hI : InvR u S) (hS : WS S) (h : ∀ u', Only inR u u' → InvR u' S → post (some (.int (handsS S x y))) (am_emb u')) : Cl (d + 10) 266 [.ref 203, .int x, .int y] (am_emb u) post := by
  have hI1 : InvR (th u 0) S := th_inv hI
  obtain ⟨hR, hcd, ⟨hl, hl2, hl3⟩, hp, hm, htp⟩ := hI1
  have hI1 : InvR (th u 0) S := th_inv hI
  have hW := hS.1
  have hw := hS.2.1.1
  have o0 : Only inR u (th u 0) := Only.sFI (by unfold inR; omega)
  rw [op_266]
  simp (disch := first | exact am_nl_i _ | exact am_nl_r _ | exact am_nl_0 | assumption | omega | (refine vi_nI ?_ ?_ <;> omega) | exact b2i_01 _ | exact Or.inl rfl | exact Or.inr rfl | (unfold vi; decide)) only [ex_266_0, ex_266_1, ex_266_2, ex_266_5, ex_266_6, ex_266_7, ex_266_8, ex_266_11, ex_266_14, ex_266_15, ex_266_16, ex_266_17, ex_266_20, ex_266_23, ex_266_24, ex_266_25, ex_266_26, ex_266_29, ex_266_32, ex_266_33, ex_266_34, ex_266_35, ex_266_39, ex_266_40, ex_266_43, ex_266_44, ex_266_45, ex_266_48, ex_266_49, ex_266_50, ex_266_51, ex_266_54, ex_266_55, ex_266_58, ex_266_59, ex_266_62, ex_266_63, ex_266_66, ex_266_67, ex_266_68, ex_266_69, ex_266_70, if_true, if_false, and_self, Option.toList_some, Option.toList_none, List.singleton_append, List.cons_append, List.nil_append, List.append_nil, nI_1, nt_e, Int32.le_refl, th_e, within_ok, b2i_0, show (4 : Int32) = nI 4 from rfl, within_okI (n := 4) (by decide) rfl]
  rw [show (4 + 1) = 5 from rfl]
  unfold handsS at h
  cases q1 : okI x 5
  · rw [q1] at h
    simp only [if_true]
    exact h _ o0 hI1
  rw [q1] at h
  rw [if_neg (by simp)]
  obtain ⟨i1, i2⟩ := okI_ix q1
  generalize ix x = m at *
  subst i2
  rw [within_okI (n := m) (by omega) (nI_toInt (by omega))]
  cases q2 : okI y (m + 1)
  · rw [q2] at h
    simp only [if_true]
    exact h _ o0 hI1
  rw [q2] at h
  rw [if_neg (by simp)]
  obtain ⟨i3, i4⟩ := okI_ix q2
  generalize ix y = k at *
  subst i4
  simp only [Bool.and_self, if_true] at h
  obtain ⟨b, hb, hbv⟩ := hW.2.2.2.2.2.2.2
  have hib : ix (burnV S.1) = b := by rw [hbv, ix_nI (by omega)]
  unfold handsH at h
  rw [hib] at h
  have w3 : htR 203 := Or.inl rfl
  have o1 : Only htR (th u 0) (sFJ (th u 0) 203 66 (-1)) := Only.sFJ w3
  rw [ex_266_36, show d + 9 = (d + 4 - m) + 5 + m by omega]
  refine tries_ok (l := S.2.1.1) hb (by omega) hW hw hbv m 0 0 (fun k => ix (copL S.2.1.1 k)) (fun _ => 0) (none, fun _ => 0) _ _ (by omega) (by omega) (CP_0 hw) hR (by rw [lc_0 hw]; exact hl) ⟨by rw [FJ_sFJ, if_pos ⟨rfl, rfl⟩]; rfl, fun q => absurd q (by simp)⟩ ⟨fun z hz => absurd hz (by simp), fun i hi q => absurd q (by simp)⟩ (fun i hi => absurd hi (Nat.not_lt_zero i)) (fun u2 o2 f2 R2 l2 B2 HB2 r2 => ?_)
  rw [lc_0 hw] at l2
  have o12 := o1.tr o2
  have fF : FI u2 203 = FI (th u 0) 203 := f2
  have e := fun a (ha : ¬ htR a) => (o12 a ha).2.2.2.1
  have n : ∀ a, 204 ≤ a → ¬ a = 241 → a ≤ 251 → ¬ htR a := fun a h1 h2 h3 q => by unfold htR at q; omega
  have hin2 : InvR u2 S := by
    obtain ⟨h1, h2, h3, h4, h5, h6⟩ := hI1
    refine ⟨R2, h2.keep o12 (fun a q1 q2 => n a (by omega) (by omega) (by omega)), ⟨l2, ?_, ?_⟩, ?_, fun k hk => ?_, ?_⟩
    · unfold LinesR
      rw [e 236 (n _ (by decide) (by decide) (by decide)), e 237 (n _ (by decide) (by decide) (by decide))]
      exact h3.2.1
    · unfold ToldR
      rw [e 238 (n _ (by decide) (by decide) (by decide)), e 239 (n _ (by decide) (by decide) (by decide)), e 240 (n _ (by decide) (by decide) (by decide))]
      exact h3.2.2
    · unfold PastR
      rw [fF, e 244 (n _ (by decide) (by decide) (by decide))]
      exact h4
    · unfold LinesR ToldR
      rw [e 236 (n _ (by decide) (by decide) (by decide)), e 237 (n _ (by decide) (by decide) (by decide)), e 238 (n _ (by decide) (by decide) (by decide)), e 239 (n _ (by decide) (by decide) (by decide)), e 240 (n _ (by decide) (by decide) (by decide)), e 243 (n _ (by decide) (by decide) (by decide)), e 245 (n _ (by decide) (by decide) (by decide))]
      exact h5 k hk
    · unfold TapeR
      rw [fF, e 204 (n _ (by decide) (by decide) (by decide))]
      exact h6
  have hfin := h u2 (o0.tr (o12.wk (fun a q => by unfold htR at q; unfold inR; omega))) hin2
  generalize tryN S.1 S.2.1.1 b m 0 0 (fun k => ix (copL S.2.1.1 k)) (fun _ => 0) (none, fun _ => 0) = st at *
  obtain ⟨o, row⟩ := st
  obtain ⟨b1, b2⟩ := B2
  unfold handsA at hfin
  cases o with
  | none =>
    have e0 : (0 ≤ lg_cmp (-1) 0) = False := by rw [lg_cmp_ge]; exact eq_false (by decide)
    simp (disch := first | exact am_nl_i _ | exact am_nl_r _ | exact am_nl_0 | (refine vi_nI ?_ ?_ <;> omega) | assumption | omega | exact b2i_01 _ | exact Or.inl rfl | exact Or.inr rfl | (unfold vi; decide)) only [ex_266_0, ex_266_1, ex_266_2, ex_266_5, ex_266_6, ex_266_7, ex_266_8, ex_266_11, ex_266_14, ex_266_15, ex_266_16, ex_266_17, ex_266_20, ex_266_23, ex_266_24, ex_266_25, ex_266_26, ex_266_29, ex_266_32, ex_266_33, ex_266_34, ex_266_35, ex_266_36, ex_266_39, ex_266_40, ex_266_43, ex_266_44, ex_266_45, ex_266_48, ex_266_49, ex_266_50, ex_266_51, ex_266_54, ex_266_55, ex_266_58, ex_266_59, ex_266_62, ex_266_63, ex_266_66, ex_266_67, ex_266_68, ex_266_69, ex_266_70, if_true, if_false, and_self, Option.toList_some, Option.toList_none, List.singleton_append, List.cons_append, List.nil_append, List.append_nil, nI_1, nt_e, Int32.le_refl, b1, show lob none = -1 from rfl, e0, Bool.true_eq_false, Bool.false_eq_true, ↓reduceIte]
    exact hfin
  | some z =>
    have hz := HB2.1 z rfl
    have e0 : (0 ≤ lg_cmp (lN z) 0) = True := by
      rw [lg_cmp_ge, show (0 : Int64) = lN 0 from rfl, lN_le (by decide) (by omega)]
      exact eq_true (by omega)
    simp only at hfin
    by_cases k0 : k = 0
    · rw [if_pos k0] at hfin
      simp (disch := first | exact am_nl_i _ | exact am_nl_r _ | exact am_nl_0 | (refine vi_nI ?_ ?_ <;> omega) | assumption | omega | exact b2i_01 _ | exact Or.inl rfl | exact Or.inr rfl | (unfold vi; decide)) only [ex_266_0, ex_266_1, ex_266_2, ex_266_5, ex_266_6, ex_266_7, ex_266_8, ex_266_11, ex_266_14, ex_266_15, ex_266_16, ex_266_17, ex_266_20, ex_266_23, ex_266_24, ex_266_25, ex_266_26, ex_266_29, ex_266_32, ex_266_33, ex_266_34, ex_266_35, ex_266_36, ex_266_39, ex_266_40, ex_266_43, ex_266_44, ex_266_45, ex_266_48, ex_266_49, ex_266_50, ex_266_51, ex_266_54, ex_266_55, ex_266_58, ex_266_59, ex_266_62, ex_266_63, ex_266_66, ex_266_67, ex_266_68, ex_266_69, ex_266_70, if_true, if_false, and_self, Option.toList_some, Option.toList_none, List.singleton_append, List.cons_append, List.nil_append, List.append_nil, nI_1, nt_e, Int32.le_refl, b1, show lob (some z) = lN z from rfl, e0, i_eq0, k0, lN_i, Bool.true_eq_false, Bool.false_eq_true, ↓reduceIte]
      exact hfin
    · rw [if_neg k0] at hfin
      have e1 := b2 rfl (k - 1) (by omega)
      simp (disch := first | exact am_nl_i _ | exact am_nl_r _ | exact am_nl_0 | (refine vi_nI ?_ ?_ <;> omega) | assumption | omega | exact b2i_01 _ | exact Or.inl rfl | exact Or.inr rfl | (unfold vi; decide)) only [ex_266_0, ex_266_1, ex_266_2, ex_266_5, ex_266_6, ex_266_7, ex_266_8, ex_266_11, ex_266_14, ex_266_15, ex_266_16, ex_266_17, ex_266_20, ex_266_23, ex_266_24, ex_266_25, ex_266_26, ex_266_29, ex_266_32, ex_266_33, ex_266_34, ex_266_35, ex_266_36, ex_266_39, ex_266_40, ex_266_43, ex_266_44, ex_266_45, ex_266_48, ex_266_49, ex_266_50, ex_266_51, ex_266_54, ex_266_55, ex_266_58, ex_266_59, ex_266_62, ex_266_63, ex_266_66, ex_266_67, ex_266_68, ex_266_69, ex_266_70, if_true, if_false, and_self, Option.toList_some, Option.toList_none, List.singleton_append, List.cons_append, List.nil_append, List.append_nil, nI_1, nt_e, Int32.le_refl, b1, show lob (some z) = lN z from rfl, e0, i_eq0, k0, i_sb, nI_clamp, e1, Bool.true_eq_false, Bool.false_eq_true, ↓reduceIte]
      exact hfin
end HandsR
