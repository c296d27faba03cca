/-! THE STATEMENTS, the reference's: fact, page, person, task (by program, gen9x.py) -/
theorem c7 : (7 : Int32).toNatClampNeg = 7 := rfl
theorem c8 : (8 : Int32).toNatClampNeg = 8 := rfl
section Fin
variable {u u1 : am_U} {n m i : Nat} {f : Nat → Nat} {v : LV} {D : Nat → Nat → Prop} {R : Nat → Nat → Int32} {w : List Nat}
theorem StR.fin_fact (h : StR u u1 n f m i v D R) (hw : WordOk w) (hlt : nF v < 12) (hD : ∀ r i, r < 11 → i < bndR (addV v 0 w R) r → D r i) :
    LhO u (sAI (sAJ u1 206 (vp_updL (AJ u1 206) (12 + nF v) (Int64.ofNat (bas 27 w)))) 205 (upd (AI u1 205) 6 (nI (nF v + 1)))) ∧ RSt (sAI (sAJ u1 206 (vp_updL (AJ u1 206) (12 + nF v) (Int64.ofNat (bas 27 w)))) 205 (upd (AI u1 205) 6 (nI (nF v + 1)))) n f i ∧ BkR2 (sAI (sAJ u1 206 (vp_updL (AJ u1 206) (12 + nF v) (Int64.ofNat (bas 27 w)))) 205 (upd (AI u1 205) 6 (nI (nF v + 1)))) (addV v 0 w R) ∧ LwK u (sAI (sAJ u1 206 (vp_updL (AJ u1 206) (12 + nF v) (Int64.ofNat (bas 27 w)))) 205 (upd (AI u1 205) 6 (nI (nF v + 1)))) := by
  obtain ⟨a, b, c, d, e, g, wk⟩ := h
  obtain ⟨⟨d1, d2, d3, d4⟩, dn, db⟩ := d
  refine ⟨LhO.ai (u1 := sAJ u1 206 (vp_updL (AJ u1 206) (12 + nF v) (Int64.ofNat (bas 27 w)))) (a.aj (by unfold lhP; omega) (by unfold fnP; omega)) (by unfold lhP; omega) (by unfold fhP; omega), ?_, ⟨⟨⟨?_, ?_, ?_, ?_⟩, ⟨?_, ?_, ?_, ?_⟩, ⟨?_, ?_, ?_, ?_⟩⟩, fun r i hr q => ?_, ?_⟩, ?_⟩
  · have b2 : RSt (sAJ u1 206 (vp_updL (AJ u1 206) (12 + nF v) (Int64.ofNat (bas 27 w)))) n f i := b
    exact b2.ai (by decide)
  · rw [AI_sAI, if_pos rfl, upd_s]; rfl
  · rw [AI_sAI, if_pos rfl, upd_n (by decide)]; exact d2
  · rw [AI_sAI, if_pos rfl, upd_n (by decide)]; exact d3
  · rw [AI_sAI, if_pos rfl, upd_n (by decide)]; exact d4
  · have e := NmRow.addR (g := AJ u1 206) (o := 12) (N := v.2.2.2.2) (k := 0) dn.1 hw
    exact e
  · show NmRow _ 27 _ (putN v.2.2.2.2 0 (v.1 0) w 1)
    rw [putN_n (by decide)]
    exact dn.2.1
  · show NmRow _ 27 _ (putN v.2.2.2.2 0 (v.1 0) w 2)
    rw [putN_n (by decide)]
    exact dn.2.2.1
  · show NmRow _ 27 _ (putN v.2.2.2.2 0 (v.1 0) w 3)
    rw [putN_n (by decide)]
    exact dn.2.2.2
  · show nF v + 1 ≤ _; omega
  · exact db.2.1
  · exact db.2.2.1
  · exact db.2.2.2
  · rw [AI_sAI, if_neg (by omega)]
    exact e r i hr (hD r i hr q)
  · rw [AI_sAI, if_pos rfl, upd_n (by decide)]; exact g
  · exact ⟨by rw [AI_sAI, if_neg (by decide)]; exact wk.1, by rw [AI_sAI, if_neg (by decide)]; exact wk.2.1, by rw [AI_sAI, if_neg (by decide)]; exact wk.2.2.1, wk.2.2.2.1, wk.2.2.2.2⟩
theorem StR.fin_page (h : StR u u1 n f m i v D R) (hw : WordOk w) (hlt : nP v < 12) (hD : ∀ r i, r < 11 → i < bndR (addV v 1 w R) r → D r i) :
    LhO u (sAI (sAJ u1 207 (vp_updL (AJ u1 207) (12 + nP v) (Int64.ofNat (bas 27 w)))) 205 (upd (AI u1 205) 7 (nI (nP v + 1)))) ∧ RSt (sAI (sAJ u1 207 (vp_updL (AJ u1 207) (12 + nP v) (Int64.ofNat (bas 27 w)))) 205 (upd (AI u1 205) 7 (nI (nP v + 1)))) n f i ∧ BkR2 (sAI (sAJ u1 207 (vp_updL (AJ u1 207) (12 + nP v) (Int64.ofNat (bas 27 w)))) 205 (upd (AI u1 205) 7 (nI (nP v + 1)))) (addV v 1 w R) ∧ LwK u (sAI (sAJ u1 207 (vp_updL (AJ u1 207) (12 + nP v) (Int64.ofNat (bas 27 w)))) 205 (upd (AI u1 205) 7 (nI (nP v + 1)))) := by
  obtain ⟨a, b, c, d, e, g, wk⟩ := h
  obtain ⟨⟨d1, d2, d3, d4⟩, dn, db⟩ := d
  refine ⟨LhO.ai (u1 := sAJ u1 207 (vp_updL (AJ u1 207) (12 + nP v) (Int64.ofNat (bas 27 w)))) (a.aj (by unfold lhP; omega) (by unfold fnP; omega)) (by unfold lhP; omega) (by unfold fhP; omega), ?_, ⟨⟨⟨?_, ?_, ?_, ?_⟩, ⟨?_, ?_, ?_, ?_⟩, ⟨?_, ?_, ?_, ?_⟩⟩, fun r i hr q => ?_, ?_⟩, ?_⟩
  · have b2 : RSt (sAJ u1 207 (vp_updL (AJ u1 207) (12 + nP v) (Int64.ofNat (bas 27 w)))) n f i := b
    exact b2.ai (by decide)
  · rw [AI_sAI, if_pos rfl, upd_n (by decide)]; exact d1
  · rw [AI_sAI, if_pos rfl, upd_s]; rfl
  · rw [AI_sAI, if_pos rfl, upd_n (by decide)]; exact d3
  · rw [AI_sAI, if_pos rfl, upd_n (by decide)]; exact d4
  · show NmRow _ 27 _ (putN v.2.2.2.2 1 (v.1 1) w 0)
    rw [putN_n (by decide)]
    exact dn.1
  · have e := NmRow.addR (g := AJ u1 207) (o := 12) (N := v.2.2.2.2) (k := 1) dn.2.1 hw
    exact e
  · show NmRow _ 27 _ (putN v.2.2.2.2 1 (v.1 1) w 2)
    rw [putN_n (by decide)]
    exact dn.2.2.1
  · show NmRow _ 27 _ (putN v.2.2.2.2 1 (v.1 1) w 3)
    rw [putN_n (by decide)]
    exact dn.2.2.2
  · exact db.1
  · show nP v + 1 ≤ _; omega
  · exact db.2.2.1
  · exact db.2.2.2
  · rw [AI_sAI, if_neg (by omega)]
    exact e r i hr (hD r i hr q)
  · rw [AI_sAI, if_pos rfl, upd_n (by decide)]; exact g
  · exact ⟨by rw [AI_sAI, if_neg (by decide)]; exact wk.1, by rw [AI_sAI, if_neg (by decide)]; exact wk.2.1, by rw [AI_sAI, if_neg (by decide)]; exact wk.2.2.1, wk.2.2.2.1, wk.2.2.2.2⟩
theorem StR.fin_person (h : StR u u1 n f m i v D R) (hw : WordOk w) (hlt : nE v < 6) (hD : ∀ r i, r < 11 → i < bndR (addV v 2 w R) r → D r i) :
    LhO u (sAI (sAJ u1 208 (vp_updL (AJ u1 208) (6 + nE v) (Int64.ofNat (bas 27 w)))) 205 (upd (AI u1 205) 8 (nI (nE v + 1)))) ∧ RSt (sAI (sAJ u1 208 (vp_updL (AJ u1 208) (6 + nE v) (Int64.ofNat (bas 27 w)))) 205 (upd (AI u1 205) 8 (nI (nE v + 1)))) n f i ∧ BkR2 (sAI (sAJ u1 208 (vp_updL (AJ u1 208) (6 + nE v) (Int64.ofNat (bas 27 w)))) 205 (upd (AI u1 205) 8 (nI (nE v + 1)))) (addV v 2 w R) ∧ LwK u (sAI (sAJ u1 208 (vp_updL (AJ u1 208) (6 + nE v) (Int64.ofNat (bas 27 w)))) 205 (upd (AI u1 205) 8 (nI (nE v + 1)))) := by
  obtain ⟨a, b, c, d, e, g, wk⟩ := h
  obtain ⟨⟨d1, d2, d3, d4⟩, dn, db⟩ := d
  refine ⟨LhO.ai (u1 := sAJ u1 208 (vp_updL (AJ u1 208) (6 + nE v) (Int64.ofNat (bas 27 w)))) (a.aj (by unfold lhP; omega) (by unfold fnP; omega)) (by unfold lhP; omega) (by unfold fhP; omega), ?_, ⟨⟨⟨?_, ?_, ?_, ?_⟩, ⟨?_, ?_, ?_, ?_⟩, ⟨?_, ?_, ?_, ?_⟩⟩, fun r i hr q => ?_, ?_⟩, ?_⟩
  · have b2 : RSt (sAJ u1 208 (vp_updL (AJ u1 208) (6 + nE v) (Int64.ofNat (bas 27 w)))) n f i := b
    exact b2.ai (by decide)
  · rw [AI_sAI, if_pos rfl, upd_n (by decide)]; exact d1
  · rw [AI_sAI, if_pos rfl, upd_n (by decide)]; exact d2
  · rw [AI_sAI, if_pos rfl, upd_s]; rfl
  · rw [AI_sAI, if_pos rfl, upd_n (by decide)]; exact d4
  · show NmRow _ 27 _ (putN v.2.2.2.2 2 (v.1 2) w 0)
    rw [putN_n (by decide)]
    exact dn.1
  · show NmRow _ 27 _ (putN v.2.2.2.2 2 (v.1 2) w 1)
    rw [putN_n (by decide)]
    exact dn.2.1
  · have e := NmRow.addR (g := AJ u1 208) (o := 6) (N := v.2.2.2.2) (k := 2) dn.2.2.1 hw
    exact e
  · show NmRow _ 27 _ (putN v.2.2.2.2 2 (v.1 2) w 3)
    rw [putN_n (by decide)]
    exact dn.2.2.2
  · exact db.1
  · exact db.2.1
  · show nE v + 1 ≤ _; omega
  · exact db.2.2.2
  · rw [AI_sAI, if_neg (by omega)]
    exact e r i hr (hD r i hr q)
  · rw [AI_sAI, if_pos rfl, upd_n (by decide)]; exact g
  · exact ⟨by rw [AI_sAI, if_neg (by decide)]; exact wk.1, by rw [AI_sAI, if_neg (by decide)]; exact wk.2.1, by rw [AI_sAI, if_neg (by decide)]; exact wk.2.2.1, wk.2.2.2.1, wk.2.2.2.2⟩
theorem StR.fin_task (h : StR u u1 n f m i v D R) (hw : WordOk w) (hlt : nT v < 5) (hD : ∀ r i, r < 11 → i < bndR (addV v 3 w R) r → D r i) :
    LhO u (sAI (sAJ u1 209 (vp_updL (AJ u1 209) (5 + nT v) (Int64.ofNat (bas 27 w)))) 205 (upd (AI u1 205) 9 (nI (nT v + 1)))) ∧ RSt (sAI (sAJ u1 209 (vp_updL (AJ u1 209) (5 + nT v) (Int64.ofNat (bas 27 w)))) 205 (upd (AI u1 205) 9 (nI (nT v + 1)))) n f i ∧ BkR2 (sAI (sAJ u1 209 (vp_updL (AJ u1 209) (5 + nT v) (Int64.ofNat (bas 27 w)))) 205 (upd (AI u1 205) 9 (nI (nT v + 1)))) (addV v 3 w R) ∧ LwK u (sAI (sAJ u1 209 (vp_updL (AJ u1 209) (5 + nT v) (Int64.ofNat (bas 27 w)))) 205 (upd (AI u1 205) 9 (nI (nT v + 1)))) := by
  obtain ⟨a, b, c, d, e, g, wk⟩ := h
  obtain ⟨⟨d1, d2, d3, d4⟩, dn, db⟩ := d
  refine ⟨LhO.ai (u1 := sAJ u1 209 (vp_updL (AJ u1 209) (5 + nT v) (Int64.ofNat (bas 27 w)))) (a.aj (by unfold lhP; omega) (by unfold fnP; omega)) (by unfold lhP; omega) (by unfold fhP; omega), ?_, ⟨⟨⟨?_, ?_, ?_, ?_⟩, ⟨?_, ?_, ?_, ?_⟩, ⟨?_, ?_, ?_, ?_⟩⟩, fun r i hr q => ?_, ?_⟩, ?_⟩
  · have b2 : RSt (sAJ u1 209 (vp_updL (AJ u1 209) (5 + nT v) (Int64.ofNat (bas 27 w)))) n f i := b
    exact b2.ai (by decide)
  · rw [AI_sAI, if_pos rfl, upd_n (by decide)]; exact d1
  · rw [AI_sAI, if_pos rfl, upd_n (by decide)]; exact d2
  · rw [AI_sAI, if_pos rfl, upd_n (by decide)]; exact d3
  · rw [AI_sAI, if_pos rfl, upd_s]; rfl
  · show NmRow _ 27 _ (putN v.2.2.2.2 3 (v.1 3) w 0)
    rw [putN_n (by decide)]
    exact dn.1
  · show NmRow _ 27 _ (putN v.2.2.2.2 3 (v.1 3) w 1)
    rw [putN_n (by decide)]
    exact dn.2.1
  · show NmRow _ 27 _ (putN v.2.2.2.2 3 (v.1 3) w 2)
    rw [putN_n (by decide)]
    exact dn.2.2.1
  · have e := NmRow.addR (g := AJ u1 209) (o := 5) (N := v.2.2.2.2) (k := 3) dn.2.2.2 hw
    exact e
  · exact db.1
  · exact db.2.1
  · exact db.2.2.1
  · show nT v + 1 ≤ _; omega
  · rw [AI_sAI, if_neg (by omega)]
    exact e r i hr (hD r i hr q)
  · rw [AI_sAI, if_pos rfl, upd_n (by decide)]; exact g
  · exact ⟨by rw [AI_sAI, if_neg (by decide)]; exact wk.1, by rw [AI_sAI, if_neg (by decide)]; exact wk.2.1, by rw [AI_sAI, if_neg (by decide)]; exact wk.2.2.1, wk.2.2.2.1, wk.2.2.2.2⟩
end Fin
theorem newE_none {v : LV} {n : Nat} {f : Nat → Nat} {t : Tok} (ht : TokOk n f t) (h : newE v t = none) : t.1 = 1 ∧ ¬ csort t = 3 := by
  unfold newE at h
  cases q : nmB (csort t)
  · simp only [q, Bool.false_eq_true, if_false] at h
    cases h
  · exact ⟨nmB_w ht q, nm_3 q⟩
theorem StR.start {u : am_U} {n m i : Nat} {f : Nat → Nat} {v : LV} (hB : BkR2 u v) (hS : RSt u n f i) (hm : i ≤ m) : StR u u n f m i v (fun r i => i < bndR v r) v.2.1 := ⟨LhO.rf u, hS, hm, hB.1, hB.2.1, hB.2.2, LwK.rf u⟩
section StmRs
variable {d n m i e : Nat} {u : am_U} {f : Nat → Nat} {v : LV} {post : Option Value → am_M → Prop}
theorem lt_cs {s : Nat} (hE : EndAt n f m) (hc : csort (tk n f i) = s) (hs : ¬ s = 3) : i < m := end_lt hE (fun q => hs (hc ▸ (cs_0 (tk_ok i)).mp q))
theorem bothR_i {s lo hi : Nat} {T : Nat → Tok} {i j x : Nat} (h : bothR s lo hi T i = .ok (x, j)) : csort (T i) = s ∧ csort (T (i + 1)) = 2 ∧ j = i + 2 := by
  unfold bothR at h
  cases z : wordR s T i with
  | error e => rw [z] at h; cases h
  | ok k =>
    rw [z] at h
    obtain ⟨a, b⟩ := wordR_i z
    have c := (numR_i h).1
    have h : numR lo hi T k = _ := h
    rw [a] at h c
    refine ⟨b, ?_, by omega⟩
    unfold numR at h
    by_cases q : csort (T (i + 1)) = 2
    · exact q
    · rw [if_neg q] at h; cases h
theorem readsTask_ok (hS : RSt u n f i) (hB : BkR2 u v) (hE : EndAt n f m) (him : i ≤ m) (hk : ¬ csort (tk n f i) = 3) (hp : StmR u n f m (taskR v (tk n f) i) post) : Cl (d + 4) 192 [.ref 203] (am_emb u) post := by
  obtain ⟨hb, hg⟩ := hp
  have hcnt := hB.1.1.2.2.2
  have hle := hB.1.2.2.2.2.2
  have hF := hB.1.2.2.1
  have ht0 := tk_ok (n := n) (f := f) i
  have hlt0 : i < m := end_lt hE (fun q => hk ((cs_0 ht0).mp q))
  have S0 := StR.start hB hS him
  rw [op_192]
  by_cases qf : 5 ≤ nT v
  · have enT : nT v = 5 := by omega
    have hfin := hb _ _ (by simp only [taskR, newR, decide_eq_true qf, if_true]; rfl) ((RsO.rf u).fi (k := 9) (x := nI (fl 5 (tk n f i))) (Or.inl rfl)).lh (by rw [FI_sFI, if_pos ⟨rfl, rfl⟩])
    simp (disch := first | exact am_nl_i _ | exact am_nl_r _ | exact am_nl_0 | (refine vi_nI ?_ ?_ <;> omega) | assumption | omega | exact b2i_01 _ | exact Or.inl rfl | exact Or.inr rfl | (unfold vi; decide)) only [ex_192_0, ex_192_1, ex_192_2, ex_192_5, ex_192_7, ex_192_8, ex_192_9, ex_192_10, ex_192_11, ex_192_13, ex_192_16, ex_192_17, ex_192_18, ex_192_21, ex_192_22, ex_192_23, ex_192_26, ex_192_27, ex_192_30, ex_192_33, ex_192_34, ex_192_35, ex_192_36, ex_192_39, ex_192_40, ex_192_41, ex_192_44, ex_192_45, ex_192_48, ex_192_49, ex_192_51, ex_192_54, ex_192_57, ex_192_58, ex_192_59, ex_192_60, ex_192_63, ex_192_64, ex_192_65, ex_192_68, ex_192_69, ex_192_70, ex_192_73, ex_192_76, ex_192_79, ex_192_80, ex_192_83, ex_192_86, ex_192_87, ex_192_88, ex_192_89, ex_192_92, ex_192_93, ex_192_94, ex_192_97, ex_192_98, ex_192_99, ex_192_102, ex_192_103, ex_192_104, ex_192_105, ex_192_106, ex_192_109, ex_192_111, ex_192_112, ex_192_113, ex_192_114, ex_192_115, ex_192_116, ex_192_117, ex_192_120, if_true, if_false, and_self, Option.toList_some, Option.toList_none, List.singleton_append, List.cons_append, List.nil_append, List.append_nil, nI_1, nt_e, Int32.le_refl, c9, hcnt, enT, show (5 : Int32) + nI 5 = 10 from by decide, lq5, fails_ok hS.2, Bool.true_eq_false, Bool.false_eq_true, ↓reduceIte]
    exact hfin
  have hlt : nT v < 5 := by omega
  have hfull : decide (5 ≤ nT v) = false := decide_eq_false qf
  have nlim : ¬ nI (5 + nT v) = (10 : Int32) := fun y => by have := (nI_eqI (b := 10) (by omega) (by decide)).mp y; omega
  simp (disch := first | exact am_nl_i _ | exact am_nl_r _ | exact am_nl_0 | (refine vi_nI ?_ ?_ <;> omega) | assumption | omega | exact b2i_01 _ | exact Or.inl rfl | exact Or.inr rfl | (unfold vi; decide)) only [ex_192_0, ex_192_1, ex_192_2, ex_192_5, ex_192_7, ex_192_8, ex_192_9, ex_192_10, ex_192_11, ex_192_13, ex_192_16, ex_192_17, ex_192_18, ex_192_21, ex_192_22, ex_192_26, ex_192_27, ex_192_30, ex_192_33, ex_192_34, ex_192_35, ex_192_36, ex_192_39, ex_192_40, ex_192_41, ex_192_44, ex_192_45, ex_192_48, ex_192_49, ex_192_51, ex_192_54, ex_192_57, ex_192_58, ex_192_59, ex_192_60, ex_192_63, ex_192_64, ex_192_65, ex_192_68, ex_192_69, ex_192_70, ex_192_73, ex_192_76, ex_192_79, ex_192_80, ex_192_83, ex_192_86, ex_192_87, ex_192_88, ex_192_89, ex_192_92, ex_192_93, ex_192_94, ex_192_97, ex_192_98, ex_192_99, ex_192_102, ex_192_103, ex_192_104, ex_192_105, ex_192_106, ex_192_109, ex_192_111, ex_192_112, ex_192_113, ex_192_114, ex_192_115, ex_192_116, ex_192_117, ex_192_120, if_true, if_false, and_self, Option.toList_some, Option.toList_none, List.singleton_append, List.cons_append, List.nil_append, List.append_nil, nI_1, nt_e, Int32.le_refl, c9, hcnt, show (5 : Int32) = nI 5 from rfl, nI_add, nlim, Bool.true_eq_false, Bool.false_eq_true, ↓reduceIte]
  rw [ex_192_23]
  refine nx_ok hS (fun u1 o1 S1' => ?_)
  have S1 := S0.nx o1 S1' (by omega)
  have ht1 := tk_ok (n := n) (f := f) (i + 1)
  try simp (disch := first | exact am_nl_i _ | exact am_nl_r _ | exact am_nl_0 | (refine vi_nI ?_ ?_ <;> omega) | assumption | omega | exact b2i_01 _ | exact Or.inl rfl | exact Or.inr rfl | (unfold vi; decide)) only [ex_192_0, ex_192_1, ex_192_2, ex_192_5, ex_192_7, ex_192_8, ex_192_9, ex_192_10, ex_192_11, ex_192_13, ex_192_16, ex_192_17, ex_192_18, ex_192_21, ex_192_22, ex_192_23, ex_192_26, ex_192_30, ex_192_33, ex_192_34, ex_192_35, ex_192_36, ex_192_39, ex_192_40, ex_192_41, ex_192_44, ex_192_45, ex_192_48, ex_192_49, ex_192_51, ex_192_54, ex_192_57, ex_192_58, ex_192_59, ex_192_60, ex_192_63, ex_192_64, ex_192_65, ex_192_68, ex_192_69, ex_192_70, ex_192_73, ex_192_76, ex_192_79, ex_192_80, ex_192_83, ex_192_86, ex_192_87, ex_192_88, ex_192_89, ex_192_92, ex_192_93, ex_192_94, ex_192_97, ex_192_98, ex_192_99, ex_192_102, ex_192_103, ex_192_104, ex_192_105, ex_192_106, ex_192_109, ex_192_111, ex_192_112, ex_192_113, ex_192_114, ex_192_115, ex_192_116, ex_192_117, ex_192_120, if_true, if_false, and_self, Option.toList_some, Option.toList_none, List.singleton_append, List.cons_append, List.nil_append, List.append_nil, nI_1, nt_e, Int32.le_refl, Bool.true_eq_false, Bool.false_eq_true, ↓reduceIte]
  rw [ex_192_27]
  refine isNew_ok S1' (hB.1.rs ((RsO.rf u).nx o1)) (fun e u2 z o2 z9 => ?_) (fun z => ?_)
  · have hfin := hb e u2 (by simp only [taskR, newR, hfull, Bool.false_eq_true, if_false, z]) (((RsO.rf u).nx o1).tr o2).lh z9
    simp (disch := first | exact am_nl_i _ | exact am_nl_r _ | exact am_nl_0 | (refine vi_nI ?_ ?_ <;> omega) | assumption | omega | exact b2i_01 _ | exact Or.inl rfl | exact Or.inr rfl | (unfold vi; decide)) only [ex_192_0, ex_192_1, ex_192_2, ex_192_5, ex_192_7, ex_192_8, ex_192_9, ex_192_10, ex_192_11, ex_192_13, ex_192_16, ex_192_17, ex_192_18, ex_192_21, ex_192_22, ex_192_23, ex_192_26, ex_192_27, ex_192_30, ex_192_33, ex_192_34, ex_192_35, ex_192_36, ex_192_39, ex_192_40, ex_192_41, ex_192_44, ex_192_45, ex_192_48, ex_192_49, ex_192_51, ex_192_54, ex_192_57, ex_192_58, ex_192_59, ex_192_60, ex_192_63, ex_192_64, ex_192_65, ex_192_68, ex_192_69, ex_192_70, ex_192_73, ex_192_76, ex_192_79, ex_192_80, ex_192_83, ex_192_86, ex_192_87, ex_192_88, ex_192_89, ex_192_92, ex_192_93, ex_192_94, ex_192_97, ex_192_98, ex_192_99, ex_192_102, ex_192_103, ex_192_104, ex_192_105, ex_192_106, ex_192_109, ex_192_111, ex_192_112, ex_192_113, ex_192_114, ex_192_115, ex_192_116, ex_192_117, ex_192_120, if_true, if_false, and_self, Option.toList_some, Option.toList_none, List.singleton_append, List.cons_append, List.nil_append, List.append_nil, nI_1, nt_e, Int32.le_refl, Bool.true_eq_false, Bool.false_eq_true, ↓reduceIte]
    exact hfin
  obtain ⟨hw1, hw3⟩ := newE_none ht1 z
  have hw := ht1.1 hw1
  have hword := S1'.2.2.2.2.1 hw1
  have hlt1 : i + 1 < m := end_lt hE (fun q => hw3 ((cs_0 ht1).mp q))
  have zN : newR v (decide (5 ≤ nT v)) (tk n f) i = .ok ((tk n f (i + 1)).2.2, i + 2) := by simp only [newR, hfull, Bool.false_eq_true, if_false, z]
  try simp (disch := first | exact am_nl_i _ | exact am_nl_r _ | exact am_nl_0 | (refine vi_nI ?_ ?_ <;> omega) | assumption | omega | exact b2i_01 _ | exact Or.inl rfl | exact Or.inr rfl | (unfold vi; decide)) only [ex_192_0, ex_192_1, ex_192_2, ex_192_5, ex_192_7, ex_192_8, ex_192_9, ex_192_10, ex_192_11, ex_192_13, ex_192_16, ex_192_17, ex_192_18, ex_192_21, ex_192_22, ex_192_23, ex_192_26, ex_192_27, ex_192_30, ex_192_33, ex_192_34, ex_192_35, ex_192_36, ex_192_39, ex_192_40, ex_192_44, ex_192_45, ex_192_48, ex_192_49, ex_192_51, ex_192_54, ex_192_57, ex_192_58, ex_192_59, ex_192_60, ex_192_63, ex_192_64, ex_192_65, ex_192_68, ex_192_69, ex_192_70, ex_192_73, ex_192_76, ex_192_79, ex_192_80, ex_192_83, ex_192_86, ex_192_87, ex_192_88, ex_192_89, ex_192_92, ex_192_93, ex_192_94, ex_192_97, ex_192_98, ex_192_99, ex_192_102, ex_192_103, ex_192_104, ex_192_105, ex_192_106, ex_192_109, ex_192_111, ex_192_112, ex_192_113, ex_192_114, ex_192_115, ex_192_116, ex_192_117, ex_192_120, if_true, if_false, and_self, Option.toList_some, Option.toList_none, List.singleton_append, List.cons_append, List.nil_append, List.append_nil, nI_1, nt_e, Int32.le_refl, show ((1 : Int32) = (0 : Int32)) = False from eq_false (by decide), nI_clamp, hword, Bool.true_eq_false, Bool.false_eq_true, ↓reduceIte]
  rw [ex_192_41]
  refine nx_ok S1.2.1 (fun u2 o2 S2' => ?_)
  have S2 := S1.nx o2 S2' (by omega)
  try simp (disch := first | exact am_nl_i _ | exact am_nl_r _ | exact am_nl_0 | (refine vi_nI ?_ ?_ <;> omega) | assumption | omega | exact b2i_01 _ | exact Or.inl rfl | exact Or.inr rfl | (unfold vi; decide)) only [ex_192_0, ex_192_1, ex_192_2, ex_192_5, ex_192_7, ex_192_8, ex_192_9, ex_192_10, ex_192_11, ex_192_13, ex_192_16, ex_192_17, ex_192_18, ex_192_21, ex_192_22, ex_192_23, ex_192_26, ex_192_27, ex_192_30, ex_192_33, ex_192_34, ex_192_35, ex_192_36, ex_192_39, ex_192_40, ex_192_41, ex_192_44, ex_192_45, ex_192_48, ex_192_49, ex_192_54, ex_192_57, ex_192_58, ex_192_59, ex_192_60, ex_192_63, ex_192_64, ex_192_65, ex_192_68, ex_192_69, ex_192_70, ex_192_73, ex_192_76, ex_192_79, ex_192_80, ex_192_83, ex_192_86, ex_192_87, ex_192_88, ex_192_89, ex_192_92, ex_192_93, ex_192_94, ex_192_97, ex_192_98, ex_192_99, ex_192_102, ex_192_103, ex_192_104, ex_192_105, ex_192_106, ex_192_109, ex_192_111, ex_192_112, ex_192_113, ex_192_114, ex_192_115, ex_192_116, ex_192_117, ex_192_120, if_true, if_false, and_self, Option.toList_some, Option.toList_none, List.singleton_append, List.cons_append, List.nil_append, List.append_nil, nI_1, nt_e, Int32.le_refl, show ((1 : Int32) = (0 : Int32)) = False from eq_false (by decide), nI_clamp, Bool.true_eq_false, Bool.false_eq_true, ↓reduceIte]
  rw [ex_192_51]
  refine needsBoth_ok (k := 12) (lo := 0) (hi := 99) S2.2.1 (by decide) rfl (by decide) (by decide) (fun e u3 z3 o3 z9 => ?_) (fun x3 j3 u3 z3 o3 S3' hj3 hx3 hl3 hm3 => ?_)
  · have hfin := hb e u3 (by simp only [taskR, zN, z3]) (S2.1.tr o3.lh) z9
    simp (disch := first | exact am_nl_i _ | exact am_nl_r _ | exact am_nl_0 | (refine vi_nI ?_ ?_ <;> omega) | assumption | omega | exact b2i_01 _ | exact Or.inl rfl | exact Or.inr rfl | (unfold vi; decide)) only [ex_192_0, ex_192_1, ex_192_2, ex_192_5, ex_192_7, ex_192_8, ex_192_9, ex_192_10, ex_192_11, ex_192_13, ex_192_16, ex_192_17, ex_192_18, ex_192_21, ex_192_22, ex_192_23, ex_192_26, ex_192_27, ex_192_30, ex_192_33, ex_192_34, ex_192_35, ex_192_36, ex_192_39, ex_192_40, ex_192_41, ex_192_44, ex_192_45, ex_192_48, ex_192_49, ex_192_51, ex_192_54, ex_192_57, ex_192_58, ex_192_59, ex_192_60, ex_192_63, ex_192_64, ex_192_65, ex_192_68, ex_192_69, ex_192_70, ex_192_73, ex_192_76, ex_192_79, ex_192_80, ex_192_83, ex_192_86, ex_192_87, ex_192_88, ex_192_89, ex_192_92, ex_192_93, ex_192_94, ex_192_97, ex_192_98, ex_192_99, ex_192_102, ex_192_103, ex_192_104, ex_192_105, ex_192_106, ex_192_109, ex_192_111, ex_192_112, ex_192_113, ex_192_114, ex_192_115, ex_192_116, ex_192_117, ex_192_120, if_true, if_false, and_self, Option.toList_some, Option.toList_none, List.singleton_append, List.cons_append, List.nil_append, List.append_nil, nI_1, nt_e, Int32.le_refl, Bool.true_eq_false, Bool.false_eq_true, ↓reduceIte]
    exact hfin
  have b3 := bothR_i z3
  have lt3 : (i + 2) + 1 < m := lt_cs hE b3.2.1 (by decide)
  have S3 := S2.rs o3 S3' (by omega)
  have T3p9 := S3.put (r0 := 9) (by decide) (nT v) (nI x3)
  have T3p9 : StR u (sAI u3 219 (upd (AI u3 219) (5 + nT v) (nI x3))) n f m j3 v (fun r i => (fun r i => i < bndR v r) r i ∨ (r = 9 ∧ i = nT v)) (putR v.2.1 9 (nT v) (nI x3)) := T3p9
  simp (disch := first | exact am_nl_i _ | exact am_nl_r _ | exact am_nl_0 | (refine vi_nI ?_ ?_ <;> omega) | assumption | omega | exact b2i_01 _ | exact Or.inl rfl | exact Or.inr rfl | (unfold vi; decide)) only [ex_192_0, ex_192_1, ex_192_2, ex_192_5, ex_192_7, ex_192_8, ex_192_9, ex_192_10, ex_192_11, ex_192_13, ex_192_16, ex_192_17, ex_192_18, ex_192_21, ex_192_22, ex_192_23, ex_192_26, ex_192_27, ex_192_30, ex_192_33, ex_192_34, ex_192_35, ex_192_36, ex_192_39, ex_192_40, ex_192_41, ex_192_44, ex_192_45, ex_192_48, ex_192_49, ex_192_51, ex_192_54, ex_192_57, ex_192_58, ex_192_59, ex_192_60, ex_192_63, ex_192_64, ex_192_65, ex_192_68, ex_192_69, ex_192_70, ex_192_76, ex_192_79, ex_192_80, ex_192_83, ex_192_86, ex_192_87, ex_192_88, ex_192_89, ex_192_92, ex_192_93, ex_192_94, ex_192_97, ex_192_98, ex_192_99, ex_192_102, ex_192_103, ex_192_104, ex_192_105, ex_192_106, ex_192_109, ex_192_111, ex_192_112, ex_192_113, ex_192_114, ex_192_115, ex_192_116, ex_192_117, ex_192_120, if_true, if_false, and_self, Option.toList_some, Option.toList_none, List.singleton_append, List.cons_append, List.nil_append, List.append_nil, nI_1, nt_e, Int32.le_refl, show ((1 : Int32) = (0 : Int32)) = False from eq_false (by decide), nI_clamp, hx3, Bool.true_eq_false, Bool.false_eq_true, ↓reduceIte]
  generalize (sAI u3 219 (upd (AI u3 219) (5 + nT v) (nI x3))) = w3 at T3p9 ⊢
  try simp (disch := first | exact am_nl_i _ | exact am_nl_r _ | exact am_nl_0 | (refine vi_nI ?_ ?_ <;> omega) | assumption | omega | exact b2i_01 _ | exact Or.inl rfl | exact Or.inr rfl | (unfold vi; decide)) only [ex_192_0, ex_192_1, ex_192_2, ex_192_5, ex_192_7, ex_192_8, ex_192_9, ex_192_10, ex_192_11, ex_192_13, ex_192_16, ex_192_17, ex_192_18, ex_192_21, ex_192_22, ex_192_23, ex_192_26, ex_192_27, ex_192_30, ex_192_33, ex_192_34, ex_192_35, ex_192_36, ex_192_39, ex_192_40, ex_192_41, ex_192_44, ex_192_45, ex_192_48, ex_192_49, ex_192_51, ex_192_54, ex_192_57, ex_192_58, ex_192_59, ex_192_60, ex_192_63, ex_192_64, ex_192_65, ex_192_68, ex_192_69, ex_192_70, ex_192_76, ex_192_79, ex_192_80, ex_192_83, ex_192_86, ex_192_87, ex_192_88, ex_192_89, ex_192_92, ex_192_93, ex_192_94, ex_192_97, ex_192_98, ex_192_99, ex_192_102, ex_192_103, ex_192_104, ex_192_105, ex_192_106, ex_192_109, ex_192_111, ex_192_112, ex_192_113, ex_192_114, ex_192_115, ex_192_116, ex_192_117, ex_192_120, if_true, if_false, and_self, Option.toList_some, Option.toList_none, List.singleton_append, List.cons_append, List.nil_append, List.append_nil, nI_1, nt_e, Int32.le_refl, show ((1 : Int32) = (0 : Int32)) = False from eq_false (by decide), nI_clamp, Bool.true_eq_false, Bool.false_eq_true, ↓reduceIte]
  rw [ex_192_73]
  refine needsWord_ok (k := 13) T3p9.2.1 (by decide) rfl (fun e u4 z4 o4 z9 => ?_) (fun j4 u4 z4 o4 S4' hj4 => ?_)
  · have hfin := hb e u4 (by simp only [taskR, zN, z3, z4]) (T3p9.1.tr o4.lh) z9
    simp (disch := first | exact am_nl_i _ | exact am_nl_r _ | exact am_nl_0 | (refine vi_nI ?_ ?_ <;> omega) | assumption | omega | exact b2i_01 _ | exact Or.inl rfl | exact Or.inr rfl | (unfold vi; decide)) only [ex_192_0, ex_192_1, ex_192_2, ex_192_5, ex_192_7, ex_192_8, ex_192_9, ex_192_10, ex_192_11, ex_192_13, ex_192_16, ex_192_17, ex_192_18, ex_192_21, ex_192_22, ex_192_23, ex_192_26, ex_192_27, ex_192_30, ex_192_33, ex_192_34, ex_192_35, ex_192_36, ex_192_39, ex_192_40, ex_192_41, ex_192_44, ex_192_45, ex_192_48, ex_192_49, ex_192_51, ex_192_54, ex_192_57, ex_192_58, ex_192_59, ex_192_60, ex_192_63, ex_192_64, ex_192_65, ex_192_68, ex_192_69, ex_192_70, ex_192_73, ex_192_76, ex_192_79, ex_192_80, ex_192_83, ex_192_86, ex_192_87, ex_192_88, ex_192_89, ex_192_92, ex_192_93, ex_192_94, ex_192_97, ex_192_98, ex_192_99, ex_192_102, ex_192_103, ex_192_104, ex_192_105, ex_192_106, ex_192_109, ex_192_111, ex_192_112, ex_192_113, ex_192_114, ex_192_115, ex_192_116, ex_192_117, ex_192_120, if_true, if_false, and_self, Option.toList_some, Option.toList_none, List.singleton_append, List.cons_append, List.nil_append, List.append_nil, nI_1, nt_e, Int32.le_refl, Bool.true_eq_false, Bool.false_eq_true, ↓reduceIte]
    exact hfin
  have b4 := wordR_i z4
  have lt4 : j3 < m := lt_cs hE b4.2 (by decide)
  have S4 := T3p9.rs o4 S4' (by omega)
  try simp (disch := first | exact am_nl_i _ | exact am_nl_r _ | exact am_nl_0 | (refine vi_nI ?_ ?_ <;> omega) | assumption | omega | exact b2i_01 _ | exact Or.inl rfl | exact Or.inr rfl | (unfold vi; decide)) only [ex_192_0, ex_192_1, ex_192_2, ex_192_5, ex_192_7, ex_192_8, ex_192_9, ex_192_10, ex_192_11, ex_192_13, ex_192_16, ex_192_17, ex_192_18, ex_192_21, ex_192_22, ex_192_23, ex_192_26, ex_192_27, ex_192_30, ex_192_33, ex_192_34, ex_192_35, ex_192_36, ex_192_39, ex_192_40, ex_192_41, ex_192_44, ex_192_45, ex_192_48, ex_192_49, ex_192_51, ex_192_54, ex_192_57, ex_192_58, ex_192_59, ex_192_60, ex_192_63, ex_192_64, ex_192_65, ex_192_68, ex_192_69, ex_192_70, ex_192_73, ex_192_76, ex_192_79, ex_192_83, ex_192_86, ex_192_87, ex_192_88, ex_192_89, ex_192_92, ex_192_93, ex_192_94, ex_192_97, ex_192_98, ex_192_99, ex_192_102, ex_192_103, ex_192_104, ex_192_105, ex_192_106, ex_192_109, ex_192_111, ex_192_112, ex_192_113, ex_192_114, ex_192_115, ex_192_116, ex_192_117, ex_192_120, if_true, if_false, and_self, Option.toList_some, Option.toList_none, List.singleton_append, List.cons_append, List.nil_append, List.append_nil, nI_1, nt_e, Int32.le_refl, show ((1 : Int32) = (0 : Int32)) = False from eq_false (by decide), nI_clamp, Bool.true_eq_false, Bool.false_eq_true, ↓reduceIte]
  rw [ex_192_80]
  refine needsFacts_ok S4.2.1 hE S4.2.2.1 (by omega) S4.2.2.2.1 (fun e u5 z5 o5 z9 => ?_) (fun x5 j5 u5 z5 o5 S5' hj5 hx5 => ?_)
  · have hfin := hb e u5 (by simp only [taskR, zN, z3, z4, z5]) (S4.1.tr o5.lh) z9
    simp (disch := first | exact am_nl_i _ | exact am_nl_r _ | exact am_nl_0 | (refine vi_nI ?_ ?_ <;> omega) | assumption | omega | exact b2i_01 _ | exact Or.inl rfl | exact Or.inr rfl | (unfold vi; decide)) only [ex_192_0, ex_192_1, ex_192_2, ex_192_5, ex_192_7, ex_192_8, ex_192_9, ex_192_10, ex_192_11, ex_192_13, ex_192_16, ex_192_17, ex_192_18, ex_192_21, ex_192_22, ex_192_23, ex_192_26, ex_192_27, ex_192_30, ex_192_33, ex_192_34, ex_192_35, ex_192_36, ex_192_39, ex_192_40, ex_192_41, ex_192_44, ex_192_45, ex_192_48, ex_192_49, ex_192_51, ex_192_54, ex_192_57, ex_192_58, ex_192_59, ex_192_60, ex_192_63, ex_192_64, ex_192_65, ex_192_68, ex_192_69, ex_192_70, ex_192_73, ex_192_76, ex_192_79, ex_192_80, ex_192_83, ex_192_86, ex_192_87, ex_192_88, ex_192_89, ex_192_92, ex_192_93, ex_192_94, ex_192_97, ex_192_98, ex_192_99, ex_192_102, ex_192_103, ex_192_104, ex_192_105, ex_192_106, ex_192_109, ex_192_111, ex_192_112, ex_192_113, ex_192_114, ex_192_115, ex_192_116, ex_192_117, ex_192_120, if_true, if_false, and_self, Option.toList_some, Option.toList_none, List.singleton_append, List.cons_append, List.nil_append, List.append_nil, nI_1, nt_e, Int32.le_refl, Bool.true_eq_false, Bool.false_eq_true, ↓reduceIte]
    exact hfin
  have S5 := S4.rs o5 S5' hj5
  have T5p10 := S5.put (r0 := 10) (by decide) (nT v) (x5)
  have T5p10 : StR u (sAI u5 220 (upd (AI u5 220) (5 + nT v) (x5))) n f m j5 v (fun r i => (fun r i => (fun r i => i < bndR v r) r i ∨ (r = 9 ∧ i = nT v)) r i ∨ (r = 10 ∧ i = nT v)) (putR (putR v.2.1 9 (nT v) (nI x3)) 10 (nT v) (x5)) := T5p10
  simp (disch := first | exact am_nl_i _ | exact am_nl_r _ | exact am_nl_0 | (refine vi_nI ?_ ?_ <;> omega) | assumption | omega | exact b2i_01 _ | exact Or.inl rfl | exact Or.inr rfl | (unfold vi; decide)) only [ex_192_0, ex_192_1, ex_192_2, ex_192_5, ex_192_7, ex_192_8, ex_192_9, ex_192_10, ex_192_11, ex_192_13, ex_192_16, ex_192_17, ex_192_18, ex_192_21, ex_192_22, ex_192_23, ex_192_26, ex_192_27, ex_192_30, ex_192_33, ex_192_34, ex_192_35, ex_192_36, ex_192_39, ex_192_40, ex_192_41, ex_192_44, ex_192_45, ex_192_48, ex_192_49, ex_192_51, ex_192_54, ex_192_57, ex_192_58, ex_192_59, ex_192_60, ex_192_63, ex_192_64, ex_192_65, ex_192_68, ex_192_69, ex_192_70, ex_192_73, ex_192_76, ex_192_79, ex_192_80, ex_192_83, ex_192_86, ex_192_87, ex_192_88, ex_192_89, ex_192_92, ex_192_93, ex_192_94, ex_192_97, ex_192_99, ex_192_102, ex_192_103, ex_192_104, ex_192_105, ex_192_106, ex_192_109, ex_192_111, ex_192_112, ex_192_113, ex_192_114, ex_192_115, ex_192_116, ex_192_117, ex_192_120, if_true, if_false, and_self, Option.toList_some, Option.toList_none, List.singleton_append, List.cons_append, List.nil_append, List.append_nil, nI_1, nt_e, Int32.le_refl, show ((1 : Int32) = (0 : Int32)) = False from eq_false (by decide), nI_clamp, hx5, Bool.true_eq_false, Bool.false_eq_true, ↓reduceIte]
  generalize (sAI u5 220 (upd (AI u5 220) (5 + nT v) (x5))) = w5 at T5p10 ⊢
  rw [ex_192_98]
  have hDD := r11 (P := fun r => ∀ i, i < bndR (addV v 3 (tk n f (i + 1)).2.2 (putR (putR v.2.1 9 (nT v) (nI x3)) 10 (nT v) (x5))) r → ((i < bndR v r ∨ (r = 9 ∧ i = nT v)) ∨ (r = 10 ∧ i = nT v))) ?_ ?_ ?_ ?_ ?_ ?_ ?_ ?_ ?_ ?_ ?_
  rotate_left
  · exact fun i hi => by have hi : i < nF v := hi; show ((i < nF v ∨ (0 = 9 ∧ i = nT v)) ∨ (0 = 10 ∧ i = nT v)); omega
  · exact fun i hi => by have hi : i < nF v := hi; show ((i < nF v ∨ (1 = 9 ∧ i = nT v)) ∨ (1 = 10 ∧ i = nT v)); omega
  · exact fun i hi => by have hi : i < nP v := hi; show ((i < nP v ∨ (2 = 9 ∧ i = nT v)) ∨ (2 = 10 ∧ i = nT v)); omega
  · exact fun i hi => by have hi : i < nP v := hi; show ((i < nP v ∨ (3 = 9 ∧ i = nT v)) ∨ (3 = 10 ∧ i = nT v)); omega
  · exact fun i hi => by have hi : i < nP v := hi; show ((i < nP v ∨ (4 = 9 ∧ i = nT v)) ∨ (4 = 10 ∧ i = nT v)); omega
  · exact fun i hi => by have hi : i < nP v := hi; show ((i < nP v ∨ (5 = 9 ∧ i = nT v)) ∨ (5 = 10 ∧ i = nT v)); omega
  · exact fun i hi => by have hi : i < nE v := hi; show ((i < nE v ∨ (6 = 9 ∧ i = nT v)) ∨ (6 = 10 ∧ i = nT v)); omega
  · exact fun i hi => by have hi : i < nE v := hi; show ((i < nE v ∨ (7 = 9 ∧ i = nT v)) ∨ (7 = 10 ∧ i = nT v)); omega
  · exact fun i hi => by have hi : i < nE v := hi; show ((i < nE v ∨ (8 = 9 ∧ i = nT v)) ∨ (8 = 10 ∧ i = nT v)); omega
  · exact fun i hi => by have hi : i < nT v + 1 := hi; show ((i < nT v ∨ (9 = 9 ∧ i = nT v)) ∨ (9 = 10 ∧ i = nT v)); omega
  · exact fun i hi => by have hi : i < nT v + 1 := hi; show ((i < nT v ∨ (10 = 9 ∧ i = nT v)) ∨ (10 = 10 ∧ i = nT v)); omega
  obtain ⟨g1, g2, g3, g4⟩ := T5p10.fin_task hw hlt (fun r i hr hi => hDD r hr i hi)
  have hcl := T5p10.2.2.2.1.1.2.2.2
  have hcl2 : AI (sAJ w5 209 (vp_updL (AJ w5 209) (5 + nT v) (Int64.ofNat (bas 27 (tk n f (i + 1)).2.2)))) 205 9 = nI (nT v) := hcl
  have himz := T5p10.2.2.1
  have hl0 := T5p10.1
  have hw0 := T5p10.2.2.2.2.2.2
  try simp (disch := first | exact am_nl_i _ | exact am_nl_r _ | exact am_nl_0 | (refine vi_nI ?_ ?_ <;> omega) | assumption | omega | exact b2i_01 _ | exact Or.inl rfl | exact Or.inr rfl | (unfold vi; decide)) only [ex_192_0, ex_192_1, ex_192_2, ex_192_5, ex_192_7, ex_192_8, ex_192_9, ex_192_10, ex_192_11, ex_192_13, ex_192_16, ex_192_17, ex_192_18, ex_192_21, ex_192_22, ex_192_23, ex_192_26, ex_192_27, ex_192_30, ex_192_33, ex_192_34, ex_192_35, ex_192_36, ex_192_39, ex_192_40, ex_192_41, ex_192_44, ex_192_45, ex_192_48, ex_192_49, ex_192_51, ex_192_54, ex_192_57, ex_192_58, ex_192_59, ex_192_60, ex_192_63, ex_192_64, ex_192_65, ex_192_68, ex_192_69, ex_192_70, ex_192_73, ex_192_76, ex_192_79, ex_192_80, ex_192_83, ex_192_86, ex_192_87, ex_192_88, ex_192_89, ex_192_92, ex_192_93, ex_192_94, ex_192_97, ex_192_98, ex_192_99, ex_192_102, ex_192_103, ex_192_104, ex_192_105, ex_192_106, ex_192_109, ex_192_111, ex_192_112, ex_192_113, ex_192_114, ex_192_115, ex_192_116, ex_192_120, if_true, if_false, and_self, Option.toList_some, Option.toList_none, List.singleton_append, List.cons_append, List.nil_append, List.append_nil, nI_1, nt_e, Int32.le_refl, show ((1 : Int32) = (0 : Int32)) = False from eq_false (by decide), nI_clamp, c9, hcl, hcl2, AI_sAJ, nI_1, Bool.true_eq_false, Bool.false_eq_true, ↓reduceIte]
  generalize (sAI (sAJ w5 209 (vp_updL (AJ w5 209) (5 + nT v) (Int64.ofNat (bas 27 (tk n f (i + 1)).2.2)))) 205 (upd (AI w5 205) 9 (nI (nT v + 1)))) = wf at *
  rw [ex_192_117]
  refine closes_ok g2 (fun e uz zz oz z9 => ?_) (fun jz uz zz oz Sz hjz => ?_)
  · have hfin := hb e uz (by simp only [taskR, zN, z3, z4, z5, zz]) (g1.tr oz.lh) z9
    simp (disch := first | exact am_nl_i _ | exact am_nl_r _ | exact am_nl_0 | (refine vi_nI ?_ ?_ <;> omega) | assumption | omega | exact b2i_01 _ | exact Or.inl rfl | exact Or.inr rfl | (unfold vi; decide)) only [ex_192_0, ex_192_1, ex_192_2, ex_192_5, ex_192_7, ex_192_8, ex_192_9, ex_192_10, ex_192_11, ex_192_13, ex_192_16, ex_192_17, ex_192_18, ex_192_21, ex_192_22, ex_192_23, ex_192_26, ex_192_27, ex_192_30, ex_192_33, ex_192_34, ex_192_35, ex_192_36, ex_192_39, ex_192_40, ex_192_41, ex_192_44, ex_192_45, ex_192_48, ex_192_49, ex_192_51, ex_192_54, ex_192_57, ex_192_58, ex_192_59, ex_192_60, ex_192_63, ex_192_64, ex_192_65, ex_192_68, ex_192_69, ex_192_70, ex_192_73, ex_192_76, ex_192_79, ex_192_80, ex_192_83, ex_192_86, ex_192_87, ex_192_88, ex_192_89, ex_192_92, ex_192_93, ex_192_94, ex_192_97, ex_192_98, ex_192_99, ex_192_102, ex_192_103, ex_192_104, ex_192_105, ex_192_106, ex_192_109, ex_192_111, ex_192_112, ex_192_113, ex_192_114, ex_192_115, ex_192_116, ex_192_117, ex_192_120, if_true, if_false, and_self, Option.toList_some, Option.toList_none, List.singleton_append, List.cons_append, List.nil_append, List.append_nil, nI_1, nt_e, Int32.le_refl, Bool.true_eq_false, Bool.false_eq_true, ↓reduceIte]
    exact hfin
  · have bz := wordR_i zz
    have ltz : j5 < m := lt_cs hE bz.2 (by decide)
    have g3' : BkR2 uz _ := ⟨g3.1.rs oz, g3.2.1.rs oz, by rw [(oz.1 205 (by unfold is; omega)).2.2.2.1]; exact g3.2.2⟩
    have hfin := hg _ jz uz (by simp only [taskR, zN, z3, z4, z5, zz]; rfl) (g1.tr oz.lh) g3' Sz (by omega) (g4.tr oz.lw)
    simp (disch := first | exact am_nl_i _ | exact am_nl_r _ | exact am_nl_0 | (refine vi_nI ?_ ?_ <;> omega) | assumption | omega | exact b2i_01 _ | exact Or.inl rfl | exact Or.inr rfl | (unfold vi; decide)) only [ex_192_0, ex_192_1, ex_192_2, ex_192_5, ex_192_7, ex_192_8, ex_192_9, ex_192_10, ex_192_11, ex_192_13, ex_192_16, ex_192_17, ex_192_18, ex_192_21, ex_192_22, ex_192_23, ex_192_26, ex_192_27, ex_192_30, ex_192_33, ex_192_34, ex_192_35, ex_192_36, ex_192_39, ex_192_40, ex_192_41, ex_192_44, ex_192_45, ex_192_48, ex_192_49, ex_192_51, ex_192_54, ex_192_57, ex_192_58, ex_192_59, ex_192_60, ex_192_63, ex_192_64, ex_192_65, ex_192_68, ex_192_69, ex_192_70, ex_192_73, ex_192_76, ex_192_79, ex_192_80, ex_192_83, ex_192_86, ex_192_87, ex_192_88, ex_192_89, ex_192_92, ex_192_93, ex_192_94, ex_192_97, ex_192_98, ex_192_99, ex_192_102, ex_192_103, ex_192_104, ex_192_105, ex_192_106, ex_192_109, ex_192_111, ex_192_112, ex_192_113, ex_192_114, ex_192_115, ex_192_116, ex_192_117, ex_192_120, if_true, if_false, and_self, Option.toList_some, Option.toList_none, List.singleton_append, List.cons_append, List.nil_append, List.append_nil, nI_1, nt_e, Int32.le_refl, Bool.true_eq_false, Bool.false_eq_true, ↓reduceIte]
    exact hfin

end StmRs
