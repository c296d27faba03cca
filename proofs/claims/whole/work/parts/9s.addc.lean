/-! THE CLASS'S LIBRARY GROWS -/
def bndC (v : LV) : Nat → Nat
  | 0 => nF v
  | 1 => nF v
  | 2 => nP v
  | 3 => nP v
  | 4 => 12
  | 5 => nP v
  | 6 => 6
  | 7 => nE v
  | 8 => nE v
  | 9 => nT v
  | _ => nT v
def RowsG (u : am_U) (b : Nat) (g : Nat → Nat) (D : Nat → Nat → Prop) (R : Nat → Nat → Int32) : Prop := ∀ r i, r < 11 → D r i → AI u (b + r) (g r + i) = R r i
theorem RowsG.put {u : am_U} {b : Nat} {g : Nat → Nat} {D : Nat → Nat → Prop} {R : Nat → Nat → Int32} (h : RowsG u b g D R) (r0 i0 : Nat) (x : Int32) : RowsG (sAI u (b + r0) (upd (AI u (b + r0)) (g r0 + i0) x)) b g (fun r i => D r i ∨ (r = r0 ∧ i = i0)) (putR R r0 i0 x) := by
  intro r i hr hD
  rw [AI_sAI, putR_at]
  by_cases e : r = r0
  · rw [if_pos (by omega), e]
    by_cases e2 : i = i0
    · rw [e2, upd_s, if_pos ⟨rfl, rfl⟩]
    · rw [upd_n (by omega), if_neg (fun q => e2 q.2)]
      rcases hD with q | q
      · rw [← e]; exact h r i hr q
      · exact absurd q.2 e2
  · rw [if_neg (by omega), if_neg (fun q => e q.1)]
    rcases hD with q | q
    · exact h r i hr q
    · exact absurd q.1 e
theorem RowsG.put0 {u : am_U} {b : Nat} {D : Nat → Nat → Prop} {R : Nat → Nat → Int32} (h : RowsG u b (fun _ => 0) D R) (r0 i0 : Nat) (x : Int32) : RowsG (sAI u (b + r0) (upd (AI u (b + r0)) i0 x)) b (fun _ => 0) (fun r i => D r i ∨ (r = r0 ∧ i = i0)) (putR R r0 i0 x) := by
  have := h.put r0 i0 x
  simp only [Nat.zero_add] at this
  exact this
theorem RowsG.mono {u : am_U} {b : Nat} {g : Nat → Nat} {D D' : Nat → Nat → Prop} {R : Nat → Nat → Int32} (h : RowsG u b g D R) (hD : ∀ r i, r < 11 → D' r i → D r i) : RowsG u b g D' R := fun r i hr q => h r i hr (hD r i hr q)
theorem r11 {P : Nat → Prop} (h0 : P 0) (h1 : P 1) (h2 : P 2) (h3 : P 3) (h4 : P 4) (h5 : P 5) (h6 : P 6) (h7 : P 7) (h8 : P 8) (h9 : P 9) (h10 : P 10) : ∀ r, r < 11 → P r := fun r hr => by
  have : r = 0 ∨ r = 1 ∨ r = 2 ∨ r = 3 ∨ r = 4 ∨ r = 5 ∨ r = 6 ∨ r = 7 ∨ r = 8 ∨ r = 9 ∨ r = 10 := by omega
  rcases this with rfl | rfl | rfl | rfl | rfl | rfl | rfl | rfl | rfl | rfl | rfl <;> assumption
def cntC (u : am_U) (L : Nat) (v : LV) : Prop := FI u (L + 1) 2 = nI (nF v) ∧ FI u (L + 3) 2 = nI (nP v) ∧ FI u (L + 5) 2 = nI (nE v) ∧ FI u (L + 7) 2 = nI (nT v)
theorem LibC_rows {u : am_U} {L : Nat} {v : LV} (h : LibC u L v) : RowsG u (L + 9) (fun _ => 0) (fun r i => i < bndC v r) v.2.1 := by
  obtain ⟨h1, h2, c0, c1, c2, c3, c4, c5, c6, c7, c8, c9, c10, d1, d2⟩ := h
  intro r i hr hi
  rw [Nat.zero_add]
  revert hi
  refine r11 (P := fun r => i < bndC v r → AI u (L + 9 + r) i = v.2.1 r i) (c0 i) (c1 i) (c2 i) (c3 i) (c4 i) (c5 i) (c6 i) (c7 i) (c8 i) (c9 i) (c10 i) r hr
theorem LibC_mk {u : am_U} {L : Nat} {v : LV} (h1 : cntC u L v) (h2 : most4 u L) (h3 : RowsG u (L + 9) (fun _ => 0) (fun r i => i < bndC v r) v.2.1) (h4 : FI u L 17 = honestV v) (h5 : FI u L 18 = burnV v) : LibC u L v := by
  have g : ∀ r, r < 11 → ∀ i, i < bndC v r → AI u (L + 9 + r) i = v.2.1 r i := fun r hr i hi => by have := h3 r i hr hi; rwa [Nat.zero_add] at this
  exact ⟨h1, h2, g 0 (by decide), g 1 (by decide), g 2 (by decide), g 3 (by decide), g 4 (by decide), g 5 (by decide), g 6 (by decide), g 7 (by decide), g 8 (by decide), g 9 (by decide), g 10 (by decide), h4, h5⟩
theorem NmRow.add {g : Nat → Int64} {b cnt : Nat} {N : Nat → Nat → List Nat} {k : Nat} {w : List Nat} (h : NmRow g b cnt (N k)) (hw : WordOk w) : NmRow (vp_updL g cnt (Int64.ofNat (bas b w))) b (cnt + 1) (putN N k cnt w k) := by
  intro i hi
  unfold putN
  by_cases e : i = cnt
  · rw [e, updL_s, if_pos ⟨rfl, rfl⟩]; exact ⟨rfl, hw⟩
  · rw [updL_n e, if_neg (fun q => e q.2)]; exact h i (by omega)
theorem putN_n {N : Nat → Nat → List Nat} {k i k' : Nat} {w : List Nat} (h : ¬ k' = k) : putN N k i w k' = N k' := funext fun b => if_neg (fun q => h q.1)
/-- the places of a library of the class -/
def libP (L : Nat) (a : Nat) : Prop := L ≤ a ∧ a ≤ L + 19
/-- .. and the reader's -/
def bkP (L : Nat) (a : Nat) : Prop := a = 6 ∨ (L ≤ a ∧ a ≤ L + 25)
section AddC
variable {d n m i e L : Nat} {u : am_U} {f : Nat → Nat} {v : LV} {post : Option Value → am_M → Prop}
theorem nadd_ok {a cnt mst : Nat} {w : Int64} (ha : sh a 6 3) (hc : FI u a 2 = nI cnt) (hm : FI u a 1 = nI mst) (h1 : cnt < mst) (h2 : mst ≤ 12) : Cl d 63 [.ref a, .long w] (am_emb u) post ↔ post (some (.int (nI cnt))) (am_emb (sFI (sAJ u (a + 1) (vp_updL (AJ u (a + 1)) cnt w)) a 2 (nI (cnt + 1)))) := by
  have hl : ¬ mst ≤ cnt := by omega
  have h12 : cnt < 12 := by omega
  have e1 : nI (cnt + 1) - 1 = nI cnt := i_sb (by omega)
  have e2 : FI (sFI (sAJ u (a + 1) (vp_updL (AJ u (a + 1)) cnt w)) a 2 (nI (cnt + 1))) a 2 = nI (cnt + 1) := by rw [FI_sFI, if_pos ⟨rfl, rfl⟩]
  have e3 : FI (sAJ u (a + 1) (vp_updL (AJ u (a + 1)) cnt w)) a 2 = nI cnt := hc
  rw [op_63]
  simp (disch := first | exact am_nl_i _ | exact am_nl_r _ | exact am_nl_0 | (refine vi_nI ?_ ?_ <;> omega) | assumption | omega | exact b2i_01 _ | exact Or.inl rfl | exact Or.inr rfl | (unfold vi; decide)) only [ex_63_0, ex_63_1, ex_63_4, ex_63_7, ex_63_8, ex_63_11, ex_63_12, ex_63_15, ex_63_18, ex_63_19, ex_63_20, ex_63_21, ex_63_24, ex_63_25, ex_63_28, ex_63_29, ex_63_30, ex_63_31, ex_63_32, ex_63_35, ex_63_36, ex_63_37, ex_63_40, ex_63_41, ex_63_44, ex_63_45, ex_63_46, if_true, if_false, and_self, Option.toList_some, Option.toList_none, List.singleton_append, List.cons_append, List.nil_append, List.append_nil, nI_1, nt_e, Int32.le_refl, hc, hm, i_lt0, nI_ltI, nI_leI, h1, hl, nI_clamp, e3, nI_1, e2, e1, Bool.true_eq_false, Bool.false_eq_true, ↓reduceIte]
theorem BkC_mk {P : Nat → Prop} {u' : am_U} {v' : LV} (hB : BkC u L v) (ho : Only P u u') (h6 : ¬ P 6) (h1 : cntC u' L v') (h2 : most4 u' L) (h3 : RowsG u' (L + 9) (fun _ => 0) (fun r i => i < bndC v' r) v'.2.1) (h4 : FI u' L 17 = honestV v') (h5 : FI u' L 18 = burnV v') (hN : NamesC u' L v') (hb : nF v' ≤ 12 ∧ nP v' ≤ 12 ∧ nE v' ≤ 6 ∧ nT v' ≤ 5) : BkC u' L v' :=
  ⟨LibC_mk h1 h2 h3 h4 h5, hN, by rw [(ho 6 h6).2.2.1]; exact hB.2.2.1, hb, hB.2.2.2.2⟩
theorem honest_s {v v' : LV} {p : Nat} (hp : nP v = p) (hp' : nP v' = p + 1) (hk : ∀ i, i < p → kindV v' i = kindV v i) : honestV v' = honestV v ||| (if kindV v' p = 1 then 0 else bi p) := by
  unfold honestV
  rw [hp, hp']
  show orF p _ ||| _ = _
  have e : orF p (fun i => if lie v' i then 0 else bi i) = orF p (fun i => if lie v i then 0 else bi i) := orF_congr (fun i hi => by unfold lie; rw [hk i hi])
  rw [e]
  show _ ||| (if lie v' p then 0 else bi p) = _
  unfold lie
  by_cases q : kindV v' p = 1
  · rw [decide_eq_true q, if_pos q, if_pos rfl]
  · rw [decide_eq_false q, if_neg q, if_neg (by decide)]
theorem addFact_ok {w : List Nat} {s : Int32} (hB : BkC u L v) (hw : WordOk w) (hlt : nF v < 12) (h : ∀ u', Only (libP L) u u' → BkC u' L (addFactV v w s) → post none (am_emb u')) : Cl (d + 1) 18 [.ref L, .long (Int64.ofNat (bas 32 w)), .int s] (am_emb u) post := by
  have hL := hB.sh
  have hB0 := hB
  obtain ⟨hC, hN, hb, hbd, hLL⟩ := hB
  have hrows := LibC_rows hC
  have hc := hC.1
  have hm := hC.2.1
  have hh := hC.2.2.2.2.2.2.2.2.2.2.2.2.2.1
  have hbu := hC.2.2.2.2.2.2.2.2.2.2.2.2.2.2
  have hl : ¬ 12 ≤ nF v := by omega
  have h12 : nF v < 12 := by omega
  rw [op_18]
  simp (disch := first | exact am_nl_i _ | exact am_nl_r _ | exact am_nl_0 | assumption | omega | (refine vi_nI ?_ ?_ <;> omega) | exact b2i_01 _ | exact Or.inl rfl | exact Or.inr rfl | (unfold vi; decide)) only [ex_18_0, ex_18_1, ex_18_4, ex_18_8, ex_18_10, ex_18_12, ex_18_15, ex_18_17, ex_18_19, ex_18_22, ex_18_23, ex_18_26, ex_18_28, ex_18_29, ex_18_30, ex_18_31, ex_18_34, ex_18_36, ex_18_37, ex_18_38, if_true, if_false, and_self, Option.toList_some, Option.toList_none, List.singleton_append, List.cons_append, List.nil_append, List.append_nil, nI_1, nt_e, Int32.le_refl]
  rw [ex_18_5, nadd_ok (sh_3_1 hL) hc.1 hm.1 hlt (by decide)]
  simp (disch := first | exact am_nl_i _ | exact am_nl_r _ | exact am_nl_0 | (refine vi_nI ?_ ?_ <;> omega) | assumption | omega | exact b2i_01 _ | exact Or.inl rfl | exact Or.inr rfl | (unfold vi; decide)) only [ex_18_0, ex_18_1, ex_18_4, ex_18_5, ex_18_8, ex_18_10, ex_18_12, ex_18_15, ex_18_17, ex_18_19, ex_18_22, ex_18_23, ex_18_26, ex_18_28, ex_18_29, ex_18_30, ex_18_31, ex_18_34, ex_18_36, ex_18_37, ex_18_38, if_true, if_false, and_self, Option.toList_some, Option.toList_none, List.singleton_append, List.cons_append, List.nil_append, List.append_nil, nI_1, nt_e, Int32.le_refl, i_lt0, lq12, nI_leI, hl, nI_clamp, Bool.true_eq_false, Bool.false_eq_true, ↓reduceIte]
  refine h _ (of_ai (of_ai (of_fi (of_aj (Only.rf _ _) (by unfold libP; omega)) (by unfold libP; omega)) (by unfold libP; omega)) (by unfold libP; omega)) (BkC_mk (P := libP L) hB0 (of_ai (of_ai (of_fi (of_aj (Only.rf _ _) (by unfold libP; omega)) (by unfold libP; omega)) (by unfold libP; omega)) (by unfold libP; omega)) (by unfold libP; omega) ⟨?_, ?_, ?_, ?_⟩ ⟨?_, ?_, ?_, ?_⟩ (fun r i hr hD => ?_) ?_ ?_ ⟨?_, ?_, ?_, ?_⟩ ⟨?_, ?_, ?_, ?_⟩)
  · simp only [FI_sFI, FI_sAI, FI_sAJ]; simp (disch := omega) only [and_true, true_and, if_true, if_false, Nat.add_right_cancel_iff, Nat.add_left_cancel_iff, Nat.reduceEqDiff, and_self, false_and, and_false]; rfl
  · refine Eq.trans ?_ hc.2.1; simp only [FI_sFI, FI_sAI, FI_sAJ]; repeat rw [if_neg (by omega)]
  · refine Eq.trans ?_ hc.2.2.1; simp only [FI_sFI, FI_sAI, FI_sAJ]; repeat rw [if_neg (by omega)]
  · refine Eq.trans ?_ hc.2.2.2; simp only [FI_sFI, FI_sAI, FI_sAJ]; repeat rw [if_neg (by omega)]
  · refine Eq.trans ?_ hm.1; simp only [FI_sFI, FI_sAI, FI_sAJ]; repeat rw [if_neg (by omega)]
  · refine Eq.trans ?_ hm.2.1; simp only [FI_sFI, FI_sAI, FI_sAJ]; repeat rw [if_neg (by omega)]
  · refine Eq.trans ?_ hm.2.2.1; simp only [FI_sFI, FI_sAI, FI_sAJ]; repeat rw [if_neg (by omega)]
  · refine Eq.trans ?_ hm.2.2.2; simp only [FI_sFI, FI_sAI, FI_sAJ]; repeat rw [if_neg (by omega)]
  · have := ((hrows.put0 0 (nF v) s).put0 1 (nF v) 0).mono (D' := fun r i => i < bndC (addFactV v w s) r) (fun r i hr => ?_) r i hr hD
    · exact this
    · refine r11 (P := fun r => i < bndC (addFactV v w s) r → ((i < bndC v r ∨ (r = 0 ∧ i = nF v)) ∨ (r = 1 ∧ i = nF v))) ?_ ?_ ?_ ?_ ?_ ?_ ?_ ?_ ?_ ?_ ?_ r hr
      · exact fun hi => by have hi : i < nF v + 1 := hi; show ((i < nF v ∨ (0 = 0 ∧ i = nF v)) ∨ (0 = 1 ∧ i = nF v)); omega
      · exact fun hi => by have hi : i < nF v + 1 := hi; show ((i < nF v ∨ (1 = 0 ∧ i = nF v)) ∨ (1 = 1 ∧ i = nF v)); omega
      · exact fun hi => by have hi : i < nP v := hi; show ((i < nP v ∨ (2 = 0 ∧ i = nF v)) ∨ (2 = 1 ∧ i = nF v)); omega
      · exact fun hi => by have hi : i < nP v := hi; show ((i < nP v ∨ (3 = 0 ∧ i = nF v)) ∨ (3 = 1 ∧ i = nF v)); omega
      · exact fun hi => by have hi : i < 12 := hi; show ((i < 12 ∨ (4 = 0 ∧ i = nF v)) ∨ (4 = 1 ∧ i = nF v)); omega
      · exact fun hi => by have hi : i < nP v := hi; show ((i < nP v ∨ (5 = 0 ∧ i = nF v)) ∨ (5 = 1 ∧ i = nF v)); omega
      · exact fun hi => by have hi : i < 6 := hi; show ((i < 6 ∨ (6 = 0 ∧ i = nF v)) ∨ (6 = 1 ∧ i = nF v)); omega
      · exact fun hi => by have hi : i < nE v := hi; show ((i < nE v ∨ (7 = 0 ∧ i = nF v)) ∨ (7 = 1 ∧ i = nF v)); omega
      · exact fun hi => by have hi : i < nE v := hi; show ((i < nE v ∨ (8 = 0 ∧ i = nF v)) ∨ (8 = 1 ∧ i = nF v)); omega
      · exact fun hi => by have hi : i < nT v := hi; show ((i < nT v ∨ (9 = 0 ∧ i = nF v)) ∨ (9 = 1 ∧ i = nF v)); omega
      · exact fun hi => by have hi : i < nT v := hi; show ((i < nT v ∨ (10 = 0 ∧ i = nF v)) ∨ (10 = 1 ∧ i = nF v)); omega
  · refine Eq.trans ?_ (hh.trans (rfl)); simp only [FI_sFI, FI_sAI, FI_sAJ]; repeat rw [if_neg (by omega)]
  · refine Eq.trans ?_ (hbu.trans rfl); simp only [FI_sFI, FI_sAI, FI_sAJ]; repeat rw [if_neg (by omega)]
  · have e := NmRow.add (N := v.2.2.2.2) (k := 0) hN.1 hw; simp only [AJ_sAI, AJ_sFI, AJ_sAJ]; rw [if_pos trivial]; exact e
  · have e := putN_n (N := v.2.2.2.2) (k := 0) (i := nF v) (k' := 1) (w := w) (by decide)
    show NmRow (AJ _ _) 32 _ (putN v.2.2.2.2 0 (nF v) w 1)
    rw [e]
    simp only [AJ_sAI, AJ_sFI, AJ_sAJ]
    rw [if_neg (by omega)]
    exact hN.2.1
  · have e := putN_n (N := v.2.2.2.2) (k := 0) (i := nF v) (k' := 2) (w := w) (by decide)
    show NmRow (AJ _ _) 32 _ (putN v.2.2.2.2 0 (nF v) w 2)
    rw [e]
    simp only [AJ_sAI, AJ_sFI, AJ_sAJ]
    rw [if_neg (by omega)]
    exact hN.2.2.1
  · have e := putN_n (N := v.2.2.2.2) (k := 0) (i := nF v) (k' := 3) (w := w) (by decide)
    show NmRow (AJ _ _) 32 _ (putN v.2.2.2.2 0 (nF v) w 3)
    rw [e]
    simp only [AJ_sAI, AJ_sFI, AJ_sAJ]
    rw [if_neg (by omega)]
    exact hN.2.2.2
  · show nF v + 1 ≤ _; omega
  · exact hbd.2.1
  · exact hbd.2.2.1
  · exact hbd.2.2.2
  all_goals exact hL
theorem addPerson_ok {w : List Nat} {rm die : Nat} {hh0 : Option Nat} (hB : BkC u L v) (hw : WordOk w) (hlt : nE v < 6) (h : ∀ u', Only (libP L) u u' → BkC u' L (addPersonV v w rm die hh0) → post none (am_emb u')) : Cl (d + 1) 20 [.ref L, .long (Int64.ofNat (bas 32 w)), .int (nI rm), .int (nI die), .int (oI hh0)] (am_emb u) post := by
  have hL := hB.sh
  have hB0 := hB
  obtain ⟨hC, hN, hb, hbd, hLL⟩ := hB
  have hrows := LibC_rows hC
  have hc := hC.1
  have hm := hC.2.1
  have hh := hC.2.2.2.2.2.2.2.2.2.2.2.2.2.1
  have hbu := hC.2.2.2.2.2.2.2.2.2.2.2.2.2.2
  have hl : ¬ 6 ≤ nE v := by omega
  have h12 : nE v < 12 := by omega
  rw [op_20]
  simp (disch := first | exact am_nl_i _ | exact am_nl_r _ | exact am_nl_0 | assumption | omega | (refine vi_nI ?_ ?_ <;> omega) | exact b2i_01 _ | exact Or.inl rfl | exact Or.inr rfl | (unfold vi; decide)) only [ex_20_0, ex_20_1, ex_20_4, ex_20_8, ex_20_10, ex_20_12, ex_20_15, ex_20_17, ex_20_19, ex_20_22, ex_20_23, ex_20_26, ex_20_28, ex_20_29, ex_20_30, ex_20_31, ex_20_34, ex_20_36, ex_20_38, ex_20_39, ex_20_40, ex_20_43, ex_20_45, ex_20_47, ex_20_48, if_true, if_false, and_self, Option.toList_some, Option.toList_none, List.singleton_append, List.cons_append, List.nil_append, List.append_nil, nI_1, nt_e, Int32.le_refl]
  rw [ex_20_5, nadd_ok (sh_3_5 hL) hc.2.2.1 hm.2.2.1 hlt (by decide)]
  simp (disch := first | exact am_nl_i _ | exact am_nl_r _ | exact am_nl_0 | (refine vi_nI ?_ ?_ <;> omega) | assumption | omega | exact b2i_01 _ | exact Or.inl rfl | exact Or.inr rfl | (unfold vi; decide)) only [ex_20_0, ex_20_1, ex_20_4, ex_20_5, ex_20_8, ex_20_10, ex_20_12, ex_20_15, ex_20_17, ex_20_19, ex_20_22, ex_20_23, ex_20_26, ex_20_28, ex_20_29, ex_20_30, ex_20_31, ex_20_34, ex_20_36, ex_20_38, ex_20_39, ex_20_40, ex_20_43, ex_20_45, ex_20_47, ex_20_48, if_true, if_false, and_self, Option.toList_some, Option.toList_none, List.singleton_append, List.cons_append, List.nil_append, List.append_nil, nI_1, nt_e, Int32.le_refl, i_lt0, lq6, nI_leI, hl, nI_clamp, Bool.true_eq_false, Bool.false_eq_true, ↓reduceIte]
  refine h _ (of_ai (of_ai (of_ai (of_fi (of_aj (Only.rf _ _) (by unfold libP; omega)) (by unfold libP; omega)) (by unfold libP; omega)) (by unfold libP; omega)) (by unfold libP; omega)) (BkC_mk (P := libP L) hB0 (of_ai (of_ai (of_ai (of_fi (of_aj (Only.rf _ _) (by unfold libP; omega)) (by unfold libP; omega)) (by unfold libP; omega)) (by unfold libP; omega)) (by unfold libP; omega)) (by unfold libP; omega) ⟨?_, ?_, ?_, ?_⟩ ⟨?_, ?_, ?_, ?_⟩ (fun r i hr hD => ?_) ?_ ?_ ⟨?_, ?_, ?_, ?_⟩ ⟨?_, ?_, ?_, ?_⟩)
  · refine Eq.trans ?_ hc.1; simp only [FI_sFI, FI_sAI, FI_sAJ]; repeat rw [if_neg (by omega)]
  · refine Eq.trans ?_ hc.2.1; simp only [FI_sFI, FI_sAI, FI_sAJ]; repeat rw [if_neg (by omega)]
  · simp only [FI_sFI, FI_sAI, FI_sAJ]; simp (disch := omega) only [and_true, true_and, if_true, if_false, Nat.add_right_cancel_iff, Nat.add_left_cancel_iff, Nat.reduceEqDiff, and_self, false_and, and_false]; rfl
  · refine Eq.trans ?_ hc.2.2.2; simp only [FI_sFI, FI_sAI, FI_sAJ]; repeat rw [if_neg (by omega)]
  · refine Eq.trans ?_ hm.1; simp only [FI_sFI, FI_sAI, FI_sAJ]; repeat rw [if_neg (by omega)]
  · refine Eq.trans ?_ hm.2.1; simp only [FI_sFI, FI_sAI, FI_sAJ]; repeat rw [if_neg (by omega)]
  · refine Eq.trans ?_ hm.2.2.1; simp only [FI_sFI, FI_sAI, FI_sAJ]; repeat rw [if_neg (by omega)]
  · refine Eq.trans ?_ hm.2.2.2; simp only [FI_sFI, FI_sAI, FI_sAJ]; repeat rw [if_neg (by omega)]
  · have := (((hrows.put0 6 (nE v) (nI rm)).put0 7 (nE v) (nI die)).put0 8 (nE v) (oI hh0)).mono (D' := fun r i => i < bndC (addPersonV v w rm die hh0) r) (fun r i hr => ?_) r i hr hD
    · exact this
    · refine r11 (P := fun r => i < bndC (addPersonV v w rm die hh0) r → (((i < bndC v r ∨ (r = 6 ∧ i = nE v)) ∨ (r = 7 ∧ i = nE v)) ∨ (r = 8 ∧ i = nE v))) ?_ ?_ ?_ ?_ ?_ ?_ ?_ ?_ ?_ ?_ ?_ r hr
      · exact fun hi => by have hi : i < nF v := hi; show (((i < nF v ∨ (0 = 6 ∧ i = nE v)) ∨ (0 = 7 ∧ i = nE v)) ∨ (0 = 8 ∧ i = nE v)); omega
      · exact fun hi => by have hi : i < nF v := hi; show (((i < nF v ∨ (1 = 6 ∧ i = nE v)) ∨ (1 = 7 ∧ i = nE v)) ∨ (1 = 8 ∧ i = nE v)); omega
      · exact fun hi => by have hi : i < nP v := hi; show (((i < nP v ∨ (2 = 6 ∧ i = nE v)) ∨ (2 = 7 ∧ i = nE v)) ∨ (2 = 8 ∧ i = nE v)); omega
      · exact fun hi => by have hi : i < nP v := hi; show (((i < nP v ∨ (3 = 6 ∧ i = nE v)) ∨ (3 = 7 ∧ i = nE v)) ∨ (3 = 8 ∧ i = nE v)); omega
      · exact fun hi => by have hi : i < 12 := hi; show (((i < 12 ∨ (4 = 6 ∧ i = nE v)) ∨ (4 = 7 ∧ i = nE v)) ∨ (4 = 8 ∧ i = nE v)); omega
      · exact fun hi => by have hi : i < nP v := hi; show (((i < nP v ∨ (5 = 6 ∧ i = nE v)) ∨ (5 = 7 ∧ i = nE v)) ∨ (5 = 8 ∧ i = nE v)); omega
      · exact fun hi => by have hi : i < 6 := hi; show (((i < 6 ∨ (6 = 6 ∧ i = nE v)) ∨ (6 = 7 ∧ i = nE v)) ∨ (6 = 8 ∧ i = nE v)); omega
      · exact fun hi => by have hi : i < nE v + 1 := hi; show (((i < nE v ∨ (7 = 6 ∧ i = nE v)) ∨ (7 = 7 ∧ i = nE v)) ∨ (7 = 8 ∧ i = nE v)); omega
      · exact fun hi => by have hi : i < nE v + 1 := hi; show (((i < nE v ∨ (8 = 6 ∧ i = nE v)) ∨ (8 = 7 ∧ i = nE v)) ∨ (8 = 8 ∧ i = nE v)); omega
      · exact fun hi => by have hi : i < nT v := hi; show (((i < nT v ∨ (9 = 6 ∧ i = nE v)) ∨ (9 = 7 ∧ i = nE v)) ∨ (9 = 8 ∧ i = nE v)); omega
      · exact fun hi => by have hi : i < nT v := hi; show (((i < nT v ∨ (10 = 6 ∧ i = nE v)) ∨ (10 = 7 ∧ i = nE v)) ∨ (10 = 8 ∧ i = nE v)); omega
  · refine Eq.trans ?_ (hh.trans (rfl)); simp only [FI_sFI, FI_sAI, FI_sAJ]; repeat rw [if_neg (by omega)]
  · refine Eq.trans ?_ (hbu.trans rfl); simp only [FI_sFI, FI_sAI, FI_sAJ]; repeat rw [if_neg (by omega)]
  · have e := putN_n (N := v.2.2.2.2) (k := 2) (i := nE v) (k' := 0) (w := w) (by decide)
    show NmRow (AJ _ _) 32 _ (putN v.2.2.2.2 2 (nE v) w 0)
    rw [e]
    simp only [AJ_sAI, AJ_sFI, AJ_sAJ]
    rw [if_neg (by omega)]
    exact hN.1
  · have e := putN_n (N := v.2.2.2.2) (k := 2) (i := nE v) (k' := 1) (w := w) (by decide)
    show NmRow (AJ _ _) 32 _ (putN v.2.2.2.2 2 (nE v) w 1)
    rw [e]
    simp only [AJ_sAI, AJ_sFI, AJ_sAJ]
    rw [if_neg (by omega)]
    exact hN.2.1
  · have e := NmRow.add (N := v.2.2.2.2) (k := 2) hN.2.2.1 hw; simp only [AJ_sAI, AJ_sFI, AJ_sAJ]; rw [if_pos trivial]; exact e
  · have e := putN_n (N := v.2.2.2.2) (k := 2) (i := nE v) (k' := 3) (w := w) (by decide)
    show NmRow (AJ _ _) 32 _ (putN v.2.2.2.2 2 (nE v) w 3)
    rw [e]
    simp only [AJ_sAI, AJ_sFI, AJ_sAJ]
    rw [if_neg (by omega)]
    exact hN.2.2.2
  · exact hbd.1
  · exact hbd.2.1
  · show nE v + 1 ≤ _; omega
  · exact hbd.2.2.2
  all_goals exact hL
theorem addTask_ok {w : List Nat} {wo : Nat} {s : Int32} (hB : BkC u L v) (hw : WordOk w) (hlt : nT v < 5) (h : ∀ u', Only (libP L) u u' → BkC u' L (addTaskV v w wo s) → post none (am_emb u')) : Cl (d + 1) 21 [.ref L, .long (Int64.ofNat (bas 32 w)), .int (nI wo), .int s] (am_emb u) post := by
  have hL := hB.sh
  have hB0 := hB
  obtain ⟨hC, hN, hb, hbd, hLL⟩ := hB
  have hrows := LibC_rows hC
  have hc := hC.1
  have hm := hC.2.1
  have hh := hC.2.2.2.2.2.2.2.2.2.2.2.2.2.1
  have hbu := hC.2.2.2.2.2.2.2.2.2.2.2.2.2.2
  have hl : ¬ 5 ≤ nT v := by omega
  have h12 : nT v < 12 := by omega
  rw [op_21]
  simp (disch := first | exact am_nl_i _ | exact am_nl_r _ | exact am_nl_0 | assumption | omega | (refine vi_nI ?_ ?_ <;> omega) | exact b2i_01 _ | exact Or.inl rfl | exact Or.inr rfl | (unfold vi; decide)) only [ex_21_0, ex_21_1, ex_21_4, ex_21_8, ex_21_10, ex_21_12, ex_21_15, ex_21_17, ex_21_18, ex_21_21, ex_21_22, ex_21_25, ex_21_27, ex_21_28, ex_21_29, ex_21_30, ex_21_33, ex_21_35, ex_21_37, ex_21_38, if_true, if_false, and_self, Option.toList_some, Option.toList_none, List.singleton_append, List.cons_append, List.nil_append, List.append_nil, nI_1, nt_e, Int32.le_refl]
  rw [ex_21_5, nadd_ok (sh_3_7 hL) hc.2.2.2 hm.2.2.2 hlt (by decide)]
  simp (disch := first | exact am_nl_i _ | exact am_nl_r _ | exact am_nl_0 | (refine vi_nI ?_ ?_ <;> omega) | assumption | omega | exact b2i_01 _ | exact Or.inl rfl | exact Or.inr rfl | (unfold vi; decide)) only [ex_21_0, ex_21_1, ex_21_4, ex_21_5, ex_21_8, ex_21_10, ex_21_12, ex_21_15, ex_21_17, ex_21_18, ex_21_21, ex_21_22, ex_21_25, ex_21_27, ex_21_28, ex_21_29, ex_21_30, ex_21_33, ex_21_35, ex_21_37, ex_21_38, if_true, if_false, and_self, Option.toList_some, Option.toList_none, List.singleton_append, List.cons_append, List.nil_append, List.append_nil, nI_1, nt_e, Int32.le_refl, i_lt0, lq5, nI_leI, hl, nI_clamp, Bool.true_eq_false, Bool.false_eq_true, ↓reduceIte]
  refine h _ (of_ai (of_ai (of_fi (of_aj (Only.rf _ _) (by unfold libP; omega)) (by unfold libP; omega)) (by unfold libP; omega)) (by unfold libP; omega)) (BkC_mk (P := libP L) hB0 (of_ai (of_ai (of_fi (of_aj (Only.rf _ _) (by unfold libP; omega)) (by unfold libP; omega)) (by unfold libP; omega)) (by unfold libP; omega)) (by unfold libP; omega) ⟨?_, ?_, ?_, ?_⟩ ⟨?_, ?_, ?_, ?_⟩ (fun r i hr hD => ?_) ?_ ?_ ⟨?_, ?_, ?_, ?_⟩ ⟨?_, ?_, ?_, ?_⟩)
  · refine Eq.trans ?_ hc.1; simp only [FI_sFI, FI_sAI, FI_sAJ]; repeat rw [if_neg (by omega)]
  · refine Eq.trans ?_ hc.2.1; simp only [FI_sFI, FI_sAI, FI_sAJ]; repeat rw [if_neg (by omega)]
  · refine Eq.trans ?_ hc.2.2.1; simp only [FI_sFI, FI_sAI, FI_sAJ]; repeat rw [if_neg (by omega)]
  · simp only [FI_sFI, FI_sAI, FI_sAJ]; simp (disch := omega) only [and_true, true_and, if_true, if_false, Nat.add_right_cancel_iff, Nat.add_left_cancel_iff, Nat.reduceEqDiff, and_self, false_and, and_false]; rfl
  · refine Eq.trans ?_ hm.1; simp only [FI_sFI, FI_sAI, FI_sAJ]; repeat rw [if_neg (by omega)]
  · refine Eq.trans ?_ hm.2.1; simp only [FI_sFI, FI_sAI, FI_sAJ]; repeat rw [if_neg (by omega)]
  · refine Eq.trans ?_ hm.2.2.1; simp only [FI_sFI, FI_sAI, FI_sAJ]; repeat rw [if_neg (by omega)]
  · refine Eq.trans ?_ hm.2.2.2; simp only [FI_sFI, FI_sAI, FI_sAJ]; repeat rw [if_neg (by omega)]
  · have := ((hrows.put0 9 (nT v) (nI wo)).put0 10 (nT v) s).mono (D' := fun r i => i < bndC (addTaskV v w wo s) r) (fun r i hr => ?_) r i hr hD
    · exact this
    · refine r11 (P := fun r => i < bndC (addTaskV v w wo s) r → ((i < bndC v r ∨ (r = 9 ∧ i = nT v)) ∨ (r = 10 ∧ i = nT v))) ?_ ?_ ?_ ?_ ?_ ?_ ?_ ?_ ?_ ?_ ?_ r hr
      · exact fun hi => by have hi : i < nF v := hi; show ((i < nF v ∨ (0 = 9 ∧ i = nT v)) ∨ (0 = 10 ∧ i = nT v)); omega
      · exact fun hi => by have hi : i < nF v := hi; show ((i < nF v ∨ (1 = 9 ∧ i = nT v)) ∨ (1 = 10 ∧ i = nT v)); omega
      · exact fun hi => by have hi : i < nP v := hi; show ((i < nP v ∨ (2 = 9 ∧ i = nT v)) ∨ (2 = 10 ∧ i = nT v)); omega
      · exact fun hi => by have hi : i < nP v := hi; show ((i < nP v ∨ (3 = 9 ∧ i = nT v)) ∨ (3 = 10 ∧ i = nT v)); omega
      · exact fun hi => by have hi : i < 12 := hi; show ((i < 12 ∨ (4 = 9 ∧ i = nT v)) ∨ (4 = 10 ∧ i = nT v)); omega
      · exact fun hi => by have hi : i < nP v := hi; show ((i < nP v ∨ (5 = 9 ∧ i = nT v)) ∨ (5 = 10 ∧ i = nT v)); omega
      · exact fun hi => by have hi : i < 6 := hi; show ((i < 6 ∨ (6 = 9 ∧ i = nT v)) ∨ (6 = 10 ∧ i = nT v)); omega
      · exact fun hi => by have hi : i < nE v := hi; show ((i < nE v ∨ (7 = 9 ∧ i = nT v)) ∨ (7 = 10 ∧ i = nT v)); omega
      · exact fun hi => by have hi : i < nE v := hi; show ((i < nE v ∨ (8 = 9 ∧ i = nT v)) ∨ (8 = 10 ∧ i = nT v)); omega
      · exact fun hi => by have hi : i < nT v + 1 := hi; show ((i < nT v ∨ (9 = 9 ∧ i = nT v)) ∨ (9 = 10 ∧ i = nT v)); omega
      · exact fun hi => by have hi : i < nT v + 1 := hi; show ((i < nT v ∨ (10 = 9 ∧ i = nT v)) ∨ (10 = 10 ∧ i = nT v)); omega
  · refine Eq.trans ?_ (hh.trans (rfl)); simp only [FI_sFI, FI_sAI, FI_sAJ]; repeat rw [if_neg (by omega)]
  · refine Eq.trans ?_ (hbu.trans rfl); simp only [FI_sFI, FI_sAI, FI_sAJ]; repeat rw [if_neg (by omega)]
  · have e := putN_n (N := v.2.2.2.2) (k := 3) (i := nT v) (k' := 0) (w := w) (by decide)
    show NmRow (AJ _ _) 32 _ (putN v.2.2.2.2 3 (nT v) w 0)
    rw [e]
    simp only [AJ_sAI, AJ_sFI, AJ_sAJ]
    rw [if_neg (by omega)]
    exact hN.1
  · have e := putN_n (N := v.2.2.2.2) (k := 3) (i := nT v) (k' := 1) (w := w) (by decide)
    show NmRow (AJ _ _) 32 _ (putN v.2.2.2.2 3 (nT v) w 1)
    rw [e]
    simp only [AJ_sAI, AJ_sFI, AJ_sAJ]
    rw [if_neg (by omega)]
    exact hN.2.1
  · have e := putN_n (N := v.2.2.2.2) (k := 3) (i := nT v) (k' := 2) (w := w) (by decide)
    show NmRow (AJ _ _) 32 _ (putN v.2.2.2.2 3 (nT v) w 2)
    rw [e]
    simp only [AJ_sAI, AJ_sFI, AJ_sAJ]
    rw [if_neg (by omega)]
    exact hN.2.2.1
  · have e := NmRow.add (N := v.2.2.2.2) (k := 3) hN.2.2.2 hw; simp only [AJ_sAI, AJ_sFI, AJ_sAJ]; rw [if_pos trivial]; exact e
  · exact hbd.1
  · exact hbd.2.1
  · exact hbd.2.2.1
  · show nT v + 1 ≤ _; omega
  all_goals exact hL
theorem addPage_ok {w : List Nat} {k wt cp : Nat} {s : Int32} (hB : BkC u L v) (hw : WordOk w) (hlt : nP v < 12) (hk2 : k ≤ 2) (h : ∀ u', Only (libP L) u u' → BkC u' L (addPageV v w k wt cp s) → post none (am_emb u')) : Cl (d + 1) 19 [.ref L, .long (Int64.ofNat (bas 32 w)), .int (nI k), .int (nI wt), .int (nI cp), .int s] (am_emb u) post := by
  have hL := hB.sh
  have hB0 := hB
  obtain ⟨hC, hN, hb, hbd, hLL⟩ := hB
  have hrows := LibC_rows hC
  have hc := hC.1
  have hm := hC.2.1
  have hh := hC.2.2.2.2.2.2.2.2.2.2.2.2.2.1
  have hbu := hC.2.2.2.2.2.2.2.2.2.2.2.2.2.2
  have hl : ¬ 12 ≤ nP v := by omega
  have h12 : nP v < 12 := by omega
  rw [op_19]
  simp (disch := first | exact am_nl_i _ | exact am_nl_r _ | exact am_nl_0 | assumption | omega | (refine vi_nI ?_ ?_ <;> omega) | exact b2i_01 _ | exact Or.inl rfl | exact Or.inr rfl | (unfold vi; decide)) only [ex_19_0, ex_19_1, ex_19_4, ex_19_8, ex_19_10, ex_19_12, ex_19_15, ex_19_17, ex_19_19, ex_19_22, ex_19_23, ex_19_26, ex_19_28, ex_19_29, ex_19_30, ex_19_31, ex_19_34, ex_19_36, ex_19_38, ex_19_39, ex_19_40, ex_19_43, ex_19_45, ex_19_47, ex_19_48, ex_19_49, ex_19_52, ex_19_54, ex_19_56, ex_19_57, ex_19_58, ex_19_59, ex_19_62, ex_19_63, ex_19_64, ex_19_67, ex_19_68, ex_19_71, ex_19_72, ex_19_74, ex_19_75, ex_19_76, ex_19_79, if_true, if_false, and_self, Option.toList_some, Option.toList_none, List.singleton_append, List.cons_append, List.nil_append, List.append_nil, nI_1, nt_e, Int32.le_refl]
  rw [ex_19_5, nadd_ok (sh_3_3 hL) hc.2.1 hm.2.1 hlt (by decide)]
  simp (disch := first | exact am_nl_i _ | exact am_nl_r _ | exact am_nl_0 | (refine vi_nI ?_ ?_ <;> omega) | assumption | omega | exact b2i_01 _ | exact Or.inl rfl | exact Or.inr rfl | (unfold vi; decide)) only [ex_19_0, ex_19_1, ex_19_4, ex_19_5, ex_19_8, ex_19_10, ex_19_12, ex_19_15, ex_19_17, ex_19_19, ex_19_22, ex_19_23, ex_19_26, ex_19_28, ex_19_29, ex_19_30, ex_19_31, ex_19_34, ex_19_36, ex_19_38, ex_19_39, ex_19_40, ex_19_43, ex_19_45, ex_19_47, ex_19_48, ex_19_49, ex_19_52, ex_19_54, ex_19_56, ex_19_57, ex_19_58, ex_19_59, ex_19_63, ex_19_64, ex_19_67, ex_19_68, ex_19_71, ex_19_72, ex_19_74, ex_19_75, ex_19_76, ex_19_79, if_true, if_false, and_self, Option.toList_some, Option.toList_none, List.singleton_append, List.cons_append, List.nil_append, List.append_nil, nI_1, nt_e, Int32.le_refl, i_lt0, lq12, nI_leI, hl, nI_clamp, Bool.true_eq_false, Bool.false_eq_true, ↓reduceIte]
  have hkk : kindV (addPageV v w k wt cp s) (nP v) = nI k := by
    show putR (putR (putR (putR v.2.1 2 (nP v) (nI k)) 3 (nP v) (nI wt)) 4 (nP v) (nI cp)) 5 (nP v) s 2 (nP v) = _
    rw [putR_at, putR_at, putR_at, putR_at]
    simp
  have hkn : ∀ i, i < nP v → kindV (addPageV v w k wt cp s) i = kindV v i := fun i hi => by
    show putR (putR (putR (putR v.2.1 2 (nP v) (nI k)) 3 (nP v) (nI wt)) 4 (nP v) (nI cp)) 5 (nP v) s 2 i = _
    rw [putR_at, putR_at, putR_at, putR_at, if_neg (by omega), if_neg (by omega), if_neg (by omega), if_neg (by omega)]
    rfl
  have hs := honest_s (v := v) (v' := addPageV v w k wt cp s) (p := nP v) rfl rfl hkn
  rw [hkk] at hs
  rw [ex_19_62]
  by_cases hk1 : nI k = 1
  · obtain rfl : k = 1 := (nI_eqI (b := 1) (by omega) (by omega)).mp hk1
    rw [if_pos hk1] at hs
    simp (disch := first | exact am_nl_i _ | exact am_nl_r _ | exact am_nl_0 | (refine vi_nI ?_ ?_ <;> omega) | assumption | omega | exact b2i_01 _ | exact Or.inl rfl | exact Or.inr rfl | (unfold vi; decide)) only [ex_19_0, ex_19_1, ex_19_4, ex_19_5, ex_19_8, ex_19_10, ex_19_12, ex_19_15, ex_19_17, ex_19_19, ex_19_22, ex_19_23, ex_19_26, ex_19_28, ex_19_29, ex_19_30, ex_19_31, ex_19_34, ex_19_36, ex_19_38, ex_19_39, ex_19_40, ex_19_43, ex_19_45, ex_19_47, ex_19_48, ex_19_49, ex_19_52, ex_19_54, ex_19_56, ex_19_57, ex_19_58, ex_19_59, ex_19_62, ex_19_63, ex_19_64, ex_19_67, ex_19_68, ex_19_71, ex_19_72, ex_19_74, ex_19_75, ex_19_76, ex_19_79, if_true, if_false, and_self, Option.toList_some, Option.toList_none, List.singleton_append, List.cons_append, List.nil_append, List.append_nil, nI_1, nt_e, Int32.le_refl, hk1, FI_sFI, FI_sAI, FI_sAJ, Bool.true_eq_false, Bool.false_eq_true, ↓reduceIte]
    refine h _ (of_fi (of_ai (of_ai (of_ai (of_ai (of_fi (of_aj (Only.rf _ _) (by unfold libP; omega)) (by unfold libP; omega)) (by unfold libP; omega)) (by unfold libP; omega)) (by unfold libP; omega)) (by unfold libP; omega)) (by unfold libP; omega)) (BkC_mk (P := libP L) hB0 (of_fi (of_ai (of_ai (of_ai (of_ai (of_fi (of_aj (Only.rf _ _) (by unfold libP; omega)) (by unfold libP; omega)) (by unfold libP; omega)) (by unfold libP; omega)) (by unfold libP; omega)) (by unfold libP; omega)) (by unfold libP; omega)) (by unfold libP; omega) ⟨?_, ?_, ?_, ?_⟩ ⟨?_, ?_, ?_, ?_⟩ (fun r i hr hD => ?_) ?_ ?_ ⟨?_, ?_, ?_, ?_⟩ ⟨?_, ?_, ?_, ?_⟩)
    · refine Eq.trans ?_ hc.1; simp only [FI_sFI, FI_sAI, FI_sAJ]; repeat rw [if_neg (by omega)]
    · simp only [FI_sFI, FI_sAI, FI_sAJ]; simp (disch := omega) only [and_true, true_and, if_true, if_false, Nat.add_right_cancel_iff, Nat.add_left_cancel_iff, Nat.reduceEqDiff, and_self, false_and, and_false]; rfl
    · refine Eq.trans ?_ hc.2.2.1; simp only [FI_sFI, FI_sAI, FI_sAJ]; repeat rw [if_neg (by omega)]
    · refine Eq.trans ?_ hc.2.2.2; simp only [FI_sFI, FI_sAI, FI_sAJ]; repeat rw [if_neg (by omega)]
    · refine Eq.trans ?_ hm.1; simp only [FI_sFI, FI_sAI, FI_sAJ]; repeat rw [if_neg (by omega)]
    · refine Eq.trans ?_ hm.2.1; simp only [FI_sFI, FI_sAI, FI_sAJ]; repeat rw [if_neg (by omega)]
    · refine Eq.trans ?_ hm.2.2.1; simp only [FI_sFI, FI_sAI, FI_sAJ]; repeat rw [if_neg (by omega)]
    · refine Eq.trans ?_ hm.2.2.2; simp only [FI_sFI, FI_sAI, FI_sAJ]; repeat rw [if_neg (by omega)]
    · have := ((((hrows.put0 2 (nP v) (nI 1)).put0 3 (nP v) (nI wt)).put0 4 (nP v) (nI cp)).put0 5 (nP v) s).mono (D' := fun r i => i < bndC (addPageV v w 1 wt cp s) r) (fun r i hr => ?_) r i hr hD
      · exact this
      · refine r11 (P := fun r => i < bndC (addPageV v w 1 wt cp s) r → ((((i < bndC v r ∨ (r = 2 ∧ i = nP v)) ∨ (r = 3 ∧ i = nP v)) ∨ (r = 4 ∧ i = nP v)) ∨ (r = 5 ∧ i = nP v))) ?_ ?_ ?_ ?_ ?_ ?_ ?_ ?_ ?_ ?_ ?_ r hr
        · exact fun hi => by have hi : i < nF v := hi; show ((((i < nF v ∨ (0 = 2 ∧ i = nP v)) ∨ (0 = 3 ∧ i = nP v)) ∨ (0 = 4 ∧ i = nP v)) ∨ (0 = 5 ∧ i = nP v)); omega
        · exact fun hi => by have hi : i < nF v := hi; show ((((i < nF v ∨ (1 = 2 ∧ i = nP v)) ∨ (1 = 3 ∧ i = nP v)) ∨ (1 = 4 ∧ i = nP v)) ∨ (1 = 5 ∧ i = nP v)); omega
        · exact fun hi => by have hi : i < nP v + 1 := hi; show ((((i < nP v ∨ (2 = 2 ∧ i = nP v)) ∨ (2 = 3 ∧ i = nP v)) ∨ (2 = 4 ∧ i = nP v)) ∨ (2 = 5 ∧ i = nP v)); omega
        · exact fun hi => by have hi : i < nP v + 1 := hi; show ((((i < nP v ∨ (3 = 2 ∧ i = nP v)) ∨ (3 = 3 ∧ i = nP v)) ∨ (3 = 4 ∧ i = nP v)) ∨ (3 = 5 ∧ i = nP v)); omega
        · exact fun hi => by have hi : i < 12 := hi; show ((((i < 12 ∨ (4 = 2 ∧ i = nP v)) ∨ (4 = 3 ∧ i = nP v)) ∨ (4 = 4 ∧ i = nP v)) ∨ (4 = 5 ∧ i = nP v)); omega
        · exact fun hi => by have hi : i < nP v + 1 := hi; show ((((i < nP v ∨ (5 = 2 ∧ i = nP v)) ∨ (5 = 3 ∧ i = nP v)) ∨ (5 = 4 ∧ i = nP v)) ∨ (5 = 5 ∧ i = nP v)); omega
        · exact fun hi => by have hi : i < 6 := hi; show ((((i < 6 ∨ (6 = 2 ∧ i = nP v)) ∨ (6 = 3 ∧ i = nP v)) ∨ (6 = 4 ∧ i = nP v)) ∨ (6 = 5 ∧ i = nP v)); omega
        · exact fun hi => by have hi : i < nE v := hi; show ((((i < nE v ∨ (7 = 2 ∧ i = nP v)) ∨ (7 = 3 ∧ i = nP v)) ∨ (7 = 4 ∧ i = nP v)) ∨ (7 = 5 ∧ i = nP v)); omega
        · exact fun hi => by have hi : i < nE v := hi; show ((((i < nE v ∨ (8 = 2 ∧ i = nP v)) ∨ (8 = 3 ∧ i = nP v)) ∨ (8 = 4 ∧ i = nP v)) ∨ (8 = 5 ∧ i = nP v)); omega
        · exact fun hi => by have hi : i < nT v := hi; show ((((i < nT v ∨ (9 = 2 ∧ i = nP v)) ∨ (9 = 3 ∧ i = nP v)) ∨ (9 = 4 ∧ i = nP v)) ∨ (9 = 5 ∧ i = nP v)); omega
        · exact fun hi => by have hi : i < nT v := hi; show ((((i < nT v ∨ (10 = 2 ∧ i = nP v)) ∨ (10 = 3 ∧ i = nP v)) ∨ (10 = 4 ∧ i = nP v)) ∨ (10 = 5 ∧ i = nP v)); omega
    · rw [hs, ← hh]; simp only [FI_sFI, FI_sAI, FI_sAJ]; simp (disch := omega) only [and_true, true_and, if_true, if_false, and_self, false_and, and_false]; try (repeat rw [if_neg (by omega)])
    · refine Eq.trans ?_ (hbu.trans rfl); simp only [FI_sFI, FI_sAI, FI_sAJ]; repeat rw [if_neg (by omega)]
    · have e := putN_n (N := v.2.2.2.2) (k := 1) (i := nP v) (k' := 0) (w := w) (by decide)
      show NmRow (AJ _ _) 32 _ (putN v.2.2.2.2 1 (nP v) w 0)
      rw [e]
      simp only [AJ_sAI, AJ_sFI, AJ_sAJ]
      rw [if_neg (by omega)]
      exact hN.1
    · have e := NmRow.add (N := v.2.2.2.2) (k := 1) hN.2.1 hw; simp only [AJ_sAI, AJ_sFI, AJ_sAJ]; rw [if_pos trivial]; exact e
    · have e := putN_n (N := v.2.2.2.2) (k := 1) (i := nP v) (k' := 2) (w := w) (by decide)
      show NmRow (AJ _ _) 32 _ (putN v.2.2.2.2 1 (nP v) w 2)
      rw [e]
      simp only [AJ_sAI, AJ_sFI, AJ_sAJ]
      rw [if_neg (by omega)]
      exact hN.2.2.1
    · have e := putN_n (N := v.2.2.2.2) (k := 1) (i := nP v) (k' := 3) (w := w) (by decide)
      show NmRow (AJ _ _) 32 _ (putN v.2.2.2.2 1 (nP v) w 3)
      rw [e]
      simp only [AJ_sAI, AJ_sFI, AJ_sAJ]
      rw [if_neg (by omega)]
      exact hN.2.2.2
    · exact hbd.1
    · show nP v + 1 ≤ _; omega
    · exact hbd.2.2.1
    · exact hbd.2.2.2
  · rw [if_neg hk1] at hs
    simp (disch := first | exact am_nl_i _ | exact am_nl_r _ | exact am_nl_0 | (refine vi_nI ?_ ?_ <;> omega) | assumption | omega | exact b2i_01 _ | exact Or.inl rfl | exact Or.inr rfl | (unfold vi; decide)) only [ex_19_0, ex_19_1, ex_19_4, ex_19_5, ex_19_8, ex_19_10, ex_19_12, ex_19_15, ex_19_17, ex_19_19, ex_19_22, ex_19_23, ex_19_26, ex_19_28, ex_19_29, ex_19_30, ex_19_31, ex_19_34, ex_19_36, ex_19_38, ex_19_39, ex_19_40, ex_19_43, ex_19_45, ex_19_47, ex_19_48, ex_19_49, ex_19_52, ex_19_54, ex_19_56, ex_19_57, ex_19_58, ex_19_59, ex_19_62, ex_19_63, ex_19_64, ex_19_67, ex_19_68, ex_19_71, ex_19_72, ex_19_74, ex_19_75, ex_19_76, ex_19_79, if_true, if_false, and_self, Option.toList_some, Option.toList_none, List.singleton_append, List.cons_append, List.nil_append, List.append_nil, nI_1, nt_e, Int32.le_refl, hk1, FI_sFI, FI_sAI, FI_sAJ, bi_e, Bool.true_eq_false, Bool.false_eq_true, ↓reduceIte]
    refine h _ (of_fi (of_ai (of_ai (of_ai (of_ai (of_fi (of_aj (Only.rf _ _) (by unfold libP; omega)) (by unfold libP; omega)) (by unfold libP; omega)) (by unfold libP; omega)) (by unfold libP; omega)) (by unfold libP; omega)) (by unfold libP; omega)) (BkC_mk (P := libP L) hB0 (of_fi (of_ai (of_ai (of_ai (of_ai (of_fi (of_aj (Only.rf _ _) (by unfold libP; omega)) (by unfold libP; omega)) (by unfold libP; omega)) (by unfold libP; omega)) (by unfold libP; omega)) (by unfold libP; omega)) (by unfold libP; omega)) (by unfold libP; omega) ⟨?_, ?_, ?_, ?_⟩ ⟨?_, ?_, ?_, ?_⟩ (fun r i hr hD => ?_) ?_ ?_ ⟨?_, ?_, ?_, ?_⟩ ⟨?_, ?_, ?_, ?_⟩)
    · refine Eq.trans ?_ hc.1; simp only [FI_sFI, FI_sAI, FI_sAJ]; repeat rw [if_neg (by omega)]
    · simp only [FI_sFI, FI_sAI, FI_sAJ]; simp (disch := omega) only [and_true, true_and, if_true, if_false, Nat.add_right_cancel_iff, Nat.add_left_cancel_iff, Nat.reduceEqDiff, and_self, false_and, and_false]; rfl
    · refine Eq.trans ?_ hc.2.2.1; simp only [FI_sFI, FI_sAI, FI_sAJ]; repeat rw [if_neg (by omega)]
    · refine Eq.trans ?_ hc.2.2.2; simp only [FI_sFI, FI_sAI, FI_sAJ]; repeat rw [if_neg (by omega)]
    · refine Eq.trans ?_ hm.1; simp only [FI_sFI, FI_sAI, FI_sAJ]; repeat rw [if_neg (by omega)]
    · refine Eq.trans ?_ hm.2.1; simp only [FI_sFI, FI_sAI, FI_sAJ]; repeat rw [if_neg (by omega)]
    · refine Eq.trans ?_ hm.2.2.1; simp only [FI_sFI, FI_sAI, FI_sAJ]; repeat rw [if_neg (by omega)]
    · refine Eq.trans ?_ hm.2.2.2; simp only [FI_sFI, FI_sAI, FI_sAJ]; repeat rw [if_neg (by omega)]
    · have := ((((hrows.put0 2 (nP v) (nI k)).put0 3 (nP v) (nI wt)).put0 4 (nP v) (nI cp)).put0 5 (nP v) s).mono (D' := fun r i => i < bndC (addPageV v w k wt cp s) r) (fun r i hr => ?_) r i hr hD
      · exact this
      · refine r11 (P := fun r => i < bndC (addPageV v w k wt cp s) r → ((((i < bndC v r ∨ (r = 2 ∧ i = nP v)) ∨ (r = 3 ∧ i = nP v)) ∨ (r = 4 ∧ i = nP v)) ∨ (r = 5 ∧ i = nP v))) ?_ ?_ ?_ ?_ ?_ ?_ ?_ ?_ ?_ ?_ ?_ r hr
        · exact fun hi => by have hi : i < nF v := hi; show ((((i < nF v ∨ (0 = 2 ∧ i = nP v)) ∨ (0 = 3 ∧ i = nP v)) ∨ (0 = 4 ∧ i = nP v)) ∨ (0 = 5 ∧ i = nP v)); omega
        · exact fun hi => by have hi : i < nF v := hi; show ((((i < nF v ∨ (1 = 2 ∧ i = nP v)) ∨ (1 = 3 ∧ i = nP v)) ∨ (1 = 4 ∧ i = nP v)) ∨ (1 = 5 ∧ i = nP v)); omega
        · exact fun hi => by have hi : i < nP v + 1 := hi; show ((((i < nP v ∨ (2 = 2 ∧ i = nP v)) ∨ (2 = 3 ∧ i = nP v)) ∨ (2 = 4 ∧ i = nP v)) ∨ (2 = 5 ∧ i = nP v)); omega
        · exact fun hi => by have hi : i < nP v + 1 := hi; show ((((i < nP v ∨ (3 = 2 ∧ i = nP v)) ∨ (3 = 3 ∧ i = nP v)) ∨ (3 = 4 ∧ i = nP v)) ∨ (3 = 5 ∧ i = nP v)); omega
        · exact fun hi => by have hi : i < 12 := hi; show ((((i < 12 ∨ (4 = 2 ∧ i = nP v)) ∨ (4 = 3 ∧ i = nP v)) ∨ (4 = 4 ∧ i = nP v)) ∨ (4 = 5 ∧ i = nP v)); omega
        · exact fun hi => by have hi : i < nP v + 1 := hi; show ((((i < nP v ∨ (5 = 2 ∧ i = nP v)) ∨ (5 = 3 ∧ i = nP v)) ∨ (5 = 4 ∧ i = nP v)) ∨ (5 = 5 ∧ i = nP v)); omega
        · exact fun hi => by have hi : i < 6 := hi; show ((((i < 6 ∨ (6 = 2 ∧ i = nP v)) ∨ (6 = 3 ∧ i = nP v)) ∨ (6 = 4 ∧ i = nP v)) ∨ (6 = 5 ∧ i = nP v)); omega
        · exact fun hi => by have hi : i < nE v := hi; show ((((i < nE v ∨ (7 = 2 ∧ i = nP v)) ∨ (7 = 3 ∧ i = nP v)) ∨ (7 = 4 ∧ i = nP v)) ∨ (7 = 5 ∧ i = nP v)); omega
        · exact fun hi => by have hi : i < nE v := hi; show ((((i < nE v ∨ (8 = 2 ∧ i = nP v)) ∨ (8 = 3 ∧ i = nP v)) ∨ (8 = 4 ∧ i = nP v)) ∨ (8 = 5 ∧ i = nP v)); omega
        · exact fun hi => by have hi : i < nT v := hi; show ((((i < nT v ∨ (9 = 2 ∧ i = nP v)) ∨ (9 = 3 ∧ i = nP v)) ∨ (9 = 4 ∧ i = nP v)) ∨ (9 = 5 ∧ i = nP v)); omega
        · exact fun hi => by have hi : i < nT v := hi; show ((((i < nT v ∨ (10 = 2 ∧ i = nP v)) ∨ (10 = 3 ∧ i = nP v)) ∨ (10 = 4 ∧ i = nP v)) ∨ (10 = 5 ∧ i = nP v)); omega
    · rw [hs, ← hh]; simp only [FI_sFI, FI_sAI, FI_sAJ]; simp (disch := omega) only [and_true, true_and, if_true, if_false, and_self, false_and, and_false]; try (repeat rw [if_neg (by omega)])
    · refine Eq.trans ?_ (hbu.trans rfl); simp only [FI_sFI, FI_sAI, FI_sAJ]; repeat rw [if_neg (by omega)]
    · have e := putN_n (N := v.2.2.2.2) (k := 1) (i := nP v) (k' := 0) (w := w) (by decide)
      show NmRow (AJ _ _) 32 _ (putN v.2.2.2.2 1 (nP v) w 0)
      rw [e]
      simp only [AJ_sAI, AJ_sFI, AJ_sAJ]
      rw [if_neg (by omega)]
      exact hN.1
    · have e := NmRow.add (N := v.2.2.2.2) (k := 1) hN.2.1 hw; simp only [AJ_sAI, AJ_sFI, AJ_sAJ]; rw [if_pos trivial]; exact e
    · have e := putN_n (N := v.2.2.2.2) (k := 1) (i := nP v) (k' := 2) (w := w) (by decide)
      show NmRow (AJ _ _) 32 _ (putN v.2.2.2.2 1 (nP v) w 2)
      rw [e]
      simp only [AJ_sAI, AJ_sFI, AJ_sAJ]
      rw [if_neg (by omega)]
      exact hN.2.2.1
    · have e := putN_n (N := v.2.2.2.2) (k := 1) (i := nP v) (k' := 3) (w := w) (by decide)
      show NmRow (AJ _ _) 32 _ (putN v.2.2.2.2 1 (nP v) w 3)
      rw [e]
      simp only [AJ_sAI, AJ_sFI, AJ_sAJ]
      rw [if_neg (by omega)]
      exact hN.2.2.2
    · exact hbd.1
    · show nP v + 1 ≤ _; omega
    · exact hbd.2.2.1
    · exact hbd.2.2.2
  all_goals exact hL
end AddC
