/-! READING: what the small steps answer; the class's -/
def numR (lo hi : Nat) (T : Nat → Tok) (i : Nat) : Except Nat (Nat × Nat) := if csort (T i) = 2 then (if lo ≤ bas 10 (T i).2.2 ∧ bas 10 (T i).2.2 ≤ hi then .ok (bas 10 (T i).2.2, i + 1) else .error (fl 4 (T i))) else .error (fl 1 (T i))
def wordR (s : Nat) (T : Nat → Tok) (i : Nat) : Except Nat Nat := if csort (T i) = s then .ok (i + 1) else .error (fl 1 (T i))
def lookN (nm : Nat → List Nat) (cnt : Nat) (t : Tok) : Except Nat Nat := if nmB (csort t) then (match findA nm t.2.2 cnt 0 with | none => .error (fl 2 t) | some j => .ok j) else .error (fl 1 t)
def lookR (v : LV) (k : Nat) (t : Tok) : Except Nat Nat := lookN (nameV v k) (v.1 k) t
def factsF (T : Nat → Tok) (v : LV) : Nat → Int32 → Nat → Except Nat (Int32 × Nat)
  | 0, _, _ => .error 0
  | g + 1, s, i => if ¬ s = 0 ∧ csort (T i) = 59 then .ok (s, i) else (match lookR v 0 (T i) with | .error e => .error e | .ok j => if bt s j then .error (fl 3 (T i)) else factsF T v g (s ||| bi j) (i + 1))
def factsR (T : Nat → Tok) (v : LV) (i : Nat) : Except Nat (Int32 × Nat) := factsF T v 1000 0 i
def newE (v : LV) (t : Tok) : Option Nat := if nmB (csort t) then (if toldV v t.2.2 then some (fl 3 t) else none) else some (fl 1 t)
def newR (v : LV) (full : Bool) (T : Nat → Tok) (i : Nat) : Except Nat (List Nat × Nat) := if full then .error (fl 5 (T i)) else (match newE v (T (i + 1)) with | some e => .error e | none => .ok ((T (i + 1)).2.2, i + 2))
theorem bi_ne0 {j : Nat} (hj : j < 32) : ¬ bi j = 0 := fun h => by
  have := bt_eq0.mp h j hj
  rw [bt_bi hj hj] at this
  simp at this
theorem or_bi_ne0 {s : Int32} {j : Nat} (hj : j < 32) : ¬ s ||| bi j = 0 := fun h => by
  have := bt_eq0.mp h j hj
  rw [b_or, bt_bi hj hj] at this
  simp at this
/-- the class's library while it is read: at L -/
def BkC (u : am_U) (L : Nat) (v : LV) : Prop := LibC u L v ∧ NamesC u L v ∧ FR u 6 2 = some L ∧ (nF v ≤ 12 ∧ nP v ≤ 12 ∧ nE v ≤ 6 ∧ nT v ≤ 5) ∧ (L = 7 ∨ L = 33)
theorem BkC.rd {u u' : am_U} {L : Nat} {v : LV} (h : BkC u L v) (ho : RdO u u') : BkC u' L v := by
  obtain ⟨a, b, c, d, e⟩ := h
  have n : ∀ k, ¬ is 6 (L + k) := fun k q => by unfold is at q; omega
  exact ⟨a.keep2 ho.1 (fun k _ => n k), b.keep ho.1 ⟨n 2, n 4, n 6, n 8⟩, by rw [ho.2.2]; exact c, d, e⟩
theorem BkC.sh {u : am_U} {L : Nat} {v : LV} (h : BkC u L v) : sh L 3 19 := by
  rcases h.2.2.2.2 with e | e
  · rw [e]; exact shl_7
  · rw [e]; exact shl_33
section HelpC
variable {d n m i e cnt a : Nat} {u : am_U} {f : Nat → Nat} {post : Option Value → am_M → Prop}
theorem takeW_ok {s : Nat} (h : RdC u n f m i) (hs : ¬ s = 3) (hs2 : s < 1000) (hb : ∀ e u', wordR s (tk n f) i = .error e → RdO u u' → FltC u' e → post none (am_emb u')) (hg : ∀ j u', wordR s (tk n f) i = .ok j → RdO u u' → RdC u' n f m j → post none (am_emb u')) : Cl (d + 1) 73 [.ref 6, .int (nI s)] (am_emb u) post :=
  take_ok h hs hs2 (fun q u' o F => hb _ u' (if_neg q) o F) (fun q u' o R => hg _ u' (if_pos q) o R)
theorem endsW_ok (h : RdC u n f m i) (hb : ∀ e u', wordR 59 (tk n f) i = .error e → RdO u u' → FltC u' e → post (some (.int 0)) (am_emb u')) (hg : ∀ j u', wordR 59 (tk n f) i = .ok j → RdO u u' → RdC u' n f m j → post (some (.int 1)) (am_emb u')) : Cl (d + 2) 79 [.ref 6] (am_emb u) post :=
  endsC_ok h (fun q u' o F => hb _ u' (if_neg q) o F) (fun q u' o R => hg _ u' (if_pos q) o R)
theorem takeN_ok {lo hi : Nat} (h : RdC u n f m i) (hlo : lo < 10000) (hhi : hi < 10000) (hb : ∀ e x u', numR lo hi (tk n f) i = .error e → RdO u u' → FltC u' e → post (some (.int x)) (am_emb u')) (hg : ∀ x j u', numR lo hi (tk n f) i = .ok (x, j) → RdO u u' → RdC u' n f m j → post (some (.int (nI x))) (am_emb u')) : Cl (d + 1) 74 [.ref 6, .int (nI lo), .int (nI hi)] (am_emb u) post := by
  refine takeNum_ok h hlo hhi (fun q x u' o F => hb _ x u' ?_ o F) (fun q q2 x u' o F => hb _ x u' ?_ o F) (fun q q2 q3 u' o R => hg _ _ u' ?_ o R)
  · unfold numR; rw [if_neg q]
  · unfold numR; rw [if_pos q, if_neg q2]
  · unfold numR; rw [if_pos q, if_pos ⟨q2, q3⟩]
theorem lookUp_ok {nm : Nat → List Nat} (h : RdC u n f m i) (ha : sh a 6 3) (hc : FI u a 2 = nI cnt) (hc2 : cnt ≤ 12) (hN : NmRow (AJ u (a + 1)) 32 cnt nm) (hb : ∀ e u', lookN nm cnt (tk n f i) = .error e → RdO u u' → FltC u' e → post (some (.int (-1))) (am_emb u')) (hg : ∀ j, lookN nm cnt (tk n f i) = .ok j → j < cnt → post (some (.int (nI j))) (am_emb u)) : Cl (d + 2) 76 [.ref 6, .ref a] (am_emb u) post := by
  have ht := tk_ok (n := n) (f := f) i
  rw [op_76]
  by_cases q : nmB (csort (tk n f i)) = true
  · have h1 := nmB_w ht q
    have hv := (h.2.2.2.2.2.2.1 i h.2.1).2.2.1 h1
    unfold lookN at hb hg
    rw [if_pos q] at hb hg
    cases z : findA nm (tk n f i).2.2 cnt 0 with
    | none =>
      rw [z] at hb
      have F := fail_f (k := 2) h (by decide) (by decide)
      have zf := flt_ne F
      have hfin := hb _ _ rfl ((RdO.rf u).fi (Or.inr rfl)) F
      simp (disch := first | exact am_nl_i _ | exact am_nl_r _ | exact am_nl_0 | (refine vi_nI ?_ ?_ <;> omega) | assumption | omega | exact b2i_01 _ | exact Or.inl rfl | exact Or.inr rfl | (unfold vi; decide)) only [ex_76_0, ex_76_1, ex_76_2, ex_76_5, ex_76_8, ex_76_9, ex_76_10, ex_76_13, ex_76_16, ex_76_17, ex_76_18, ex_76_21, ex_76_24, ex_76_25, ex_76_26, ex_76_29, ex_76_30, ex_76_31, ex_76_34, ex_76_35, ex_76_38, ex_76_41, ex_76_42, ex_76_45, ex_76_46, if_true, if_false, and_self, Option.toList_some, Option.toList_none, List.singleton_append, List.cons_append, List.nil_append, List.append_nil, nI_1, nt_e, Int32.le_refl, rvalue_g h.1 h.im, hv, nfind_ok ha hc hc2 hN (ht.1 h1), z, show oI none = -1 from rfl, rname_ok h, q, b2i_t, show ((1 : Int32) = (0 : Int32)) = False from eq_false (by decide), show (2 : Int32) = nI 2 from rfl, fail_ok h, zf, Bool.true_eq_false, Bool.false_eq_true, ↓reduceIte]
      exact hfin
    | some j =>
      rw [z] at hg
      have hj := findA_lt z
      have hfin := hg j rfl (by omega)
      have zj : ¬ nI j = -1 := fun e => by have := (i_eqm (n := j) (by omega)).mp e; exact this
      simp (disch := first | exact am_nl_i _ | exact am_nl_r _ | exact am_nl_0 | (refine vi_nI ?_ ?_ <;> omega) | assumption | omega | exact b2i_01 _ | exact Or.inl rfl | exact Or.inr rfl | (unfold vi; decide)) only [ex_76_0, ex_76_1, ex_76_2, ex_76_5, ex_76_8, ex_76_9, ex_76_10, ex_76_13, ex_76_16, ex_76_17, ex_76_18, ex_76_21, ex_76_24, ex_76_25, ex_76_26, ex_76_29, ex_76_30, ex_76_31, ex_76_34, ex_76_35, ex_76_38, ex_76_41, ex_76_42, ex_76_45, ex_76_46, if_true, if_false, and_self, Option.toList_some, Option.toList_none, List.singleton_append, List.cons_append, List.nil_append, List.append_nil, nI_1, nt_e, Int32.le_refl, rvalue_g h.1 h.im, hv, nfind_ok ha hc hc2 hN (ht.1 h1), z, show oI (some j) = nI j from rfl, rname_ok h, q, b2i_t, show ((1 : Int32) = (0 : Int32)) = False from eq_false (by decide), zj, h.2.2.1, Bool.true_eq_false, Bool.false_eq_true, ↓reduceIte]
      exact hfin
  · have q : nmB (csort (tk n f i)) = false := by simpa using q
    unfold lookN at hb
    rw [if_neg (by rw [q]; decide)] at hb
    have F := fail_f (k := 1) h (by decide) (by decide)
    have zf := flt_ne F
    have hfin := hb _ _ rfl ((RdO.rf u).fi (Or.inr rfl)) F
    simp (disch := first | exact am_nl_i _ | exact am_nl_r _ | exact am_nl_0 | (refine vi_nI ?_ ?_ <;> omega) | assumption | omega | exact b2i_01 _ | exact Or.inl rfl | exact Or.inr rfl | (unfold vi; decide)) only [ex_76_0, ex_76_1, ex_76_2, ex_76_8, ex_76_9, ex_76_10, ex_76_13, ex_76_16, ex_76_17, ex_76_18, ex_76_21, ex_76_24, ex_76_25, ex_76_26, ex_76_29, ex_76_30, ex_76_31, ex_76_34, ex_76_35, ex_76_38, ex_76_41, ex_76_42, ex_76_45, ex_76_46, if_true, if_false, and_self, Option.toList_some, Option.toList_none, List.singleton_append, List.cons_append, List.nil_append, List.append_nil, nI_1, nt_e, Int32.le_refl, rvalue_g h.1 h.im, Bool.true_eq_false, Bool.false_eq_true, ↓reduceIte]
    rw [ex_76_5]
    refine nfindX ha hc hc2 (fun zz hz => ?_)
    simp (disch := first | exact am_nl_i _ | exact am_nl_r _ | exact am_nl_0 | (refine vi_nI ?_ ?_ <;> omega) | assumption | omega | exact b2i_01 _ | exact Or.inl rfl | exact Or.inr rfl | (unfold vi; decide)) only [ex_76_0, ex_76_1, ex_76_2, ex_76_5, ex_76_8, ex_76_9, ex_76_10, ex_76_13, ex_76_16, ex_76_17, ex_76_18, ex_76_21, ex_76_24, ex_76_25, ex_76_26, ex_76_29, ex_76_30, ex_76_31, ex_76_34, ex_76_35, ex_76_38, ex_76_41, ex_76_42, ex_76_45, ex_76_46, if_true, if_false, and_self, Option.toList_some, Option.toList_none, List.singleton_append, List.cons_append, List.nil_append, List.append_nil, nI_1, nt_e, Int32.le_refl, rname_ok h, q, b2i_f, show (1 : Int32) = nI 1 from rfl, fail_ok h, zf, Bool.true_eq_false, Bool.false_eq_true, ↓reduceIte]
    exact hfin
    all_goals exact ha
theorem lookUpX (h : FltC u e) (ha : sh a 6 3) (hc : FI u a 2 = nI cnt) (hc2 : cnt ≤ 12) (hp : post (some (.int (-1))) (am_emb u)) : Cl (d + 2) 76 [.ref 6, .ref a] (am_emb u) post := by
  obtain ⟨i, hi, h1⟩ := h.2.2.2
  have zf := flt_ne h
  rw [op_76]
  simp (disch := first | exact am_nl_i _ | exact am_nl_r _ | exact am_nl_0 | (refine vi_nI ?_ ?_ <;> omega) | assumption | omega | exact b2i_01 _ | exact Or.inl rfl | exact Or.inr rfl | (unfold vi; decide)) only [ex_76_0, ex_76_1, ex_76_2, ex_76_8, ex_76_9, ex_76_10, ex_76_13, ex_76_16, ex_76_17, ex_76_18, ex_76_21, ex_76_24, ex_76_25, ex_76_26, ex_76_29, ex_76_30, ex_76_31, ex_76_34, ex_76_35, ex_76_38, ex_76_41, ex_76_42, ex_76_45, ex_76_46, if_true, if_false, and_self, Option.toList_some, Option.toList_none, List.singleton_append, List.cons_append, List.nil_append, List.append_nil, nI_1, nt_e, Int32.le_refl, rvalue_g h1 hi, Bool.true_eq_false, Bool.false_eq_true, ↓reduceIte]
  rw [ex_76_5]
  refine nfindX ha hc hc2 (fun zz hz => ?_)
  cases q : (decide (AI u 3 i = 1) || decide ((226 : Int32) ≤ AI u 3 i))
  · simp (disch := first | exact am_nl_i _ | exact am_nl_r _ | exact am_nl_0 | (refine vi_nI ?_ ?_ <;> omega) | assumption | omega | exact b2i_01 _ | exact Or.inl rfl | exact Or.inr rfl | (unfold vi; decide)) only [ex_76_0, ex_76_1, ex_76_2, ex_76_5, ex_76_8, ex_76_9, ex_76_10, ex_76_13, ex_76_16, ex_76_17, ex_76_18, ex_76_21, ex_76_24, ex_76_25, ex_76_26, ex_76_29, ex_76_30, ex_76_31, ex_76_34, ex_76_35, ex_76_38, ex_76_41, ex_76_42, ex_76_45, ex_76_46, if_true, if_false, and_self, Option.toList_some, Option.toList_none, List.singleton_append, List.cons_append, List.nil_append, List.append_nil, nI_1, nt_e, Int32.le_refl, rname_g h1 hi, q, b2i_f, failX h, zf, Bool.true_eq_false, Bool.false_eq_true, ↓reduceIte]
    exact hp
  · by_cases q2 : oI zz = -1
    · simp (disch := first | exact am_nl_i _ | exact am_nl_r _ | exact am_nl_0 | (refine vi_nI ?_ ?_ <;> omega) | assumption | omega | exact b2i_01 _ | exact Or.inl rfl | exact Or.inr rfl | (unfold vi; decide)) only [ex_76_0, ex_76_1, ex_76_2, ex_76_5, ex_76_8, ex_76_9, ex_76_10, ex_76_13, ex_76_16, ex_76_17, ex_76_18, ex_76_21, ex_76_24, ex_76_25, ex_76_26, ex_76_29, ex_76_30, ex_76_31, ex_76_34, ex_76_35, ex_76_38, ex_76_41, ex_76_42, ex_76_45, ex_76_46, if_true, if_false, and_self, Option.toList_some, Option.toList_none, List.singleton_append, List.cons_append, List.nil_append, List.append_nil, nI_1, nt_e, Int32.le_refl, rname_g h1 hi, q, b2i_t, show ((1 : Int32) = (0 : Int32)) = False from eq_false (by decide), failX h, zf, q2, Bool.true_eq_false, Bool.false_eq_true, ↓reduceIte]
      exact hp
    · simp (disch := first | exact am_nl_i _ | exact am_nl_r _ | exact am_nl_0 | (refine vi_nI ?_ ?_ <;> omega) | assumption | omega | exact b2i_01 _ | exact Or.inl rfl | exact Or.inr rfl | (unfold vi; decide)) only [ex_76_0, ex_76_1, ex_76_2, ex_76_5, ex_76_8, ex_76_9, ex_76_10, ex_76_13, ex_76_16, ex_76_17, ex_76_18, ex_76_21, ex_76_24, ex_76_25, ex_76_26, ex_76_29, ex_76_30, ex_76_31, ex_76_34, ex_76_35, ex_76_38, ex_76_41, ex_76_42, ex_76_45, ex_76_46, if_true, if_false, and_self, Option.toList_some, Option.toList_none, List.singleton_append, List.cons_append, List.nil_append, List.append_nil, nI_1, nt_e, Int32.le_refl, rname_g h1 hi, q, b2i_t, show ((1 : Int32) = (0 : Int32)) = False from eq_false (by decide), failX h, zf, q2, Bool.true_eq_false, Bool.false_eq_true, ↓reduceIte]
      exact hp
  all_goals exact ha
theorem nm_3 {s : Nat} (h : nmB s = true) : ¬ s = 3 := fun e => by rw [e] at h; exact absurd h (by decide)
theorem lookN_nm {nm : Nat → List Nat} {t : Tok} {j : Nat} (h : lookN nm cnt t = .ok j) : nmB (csort t) = true := by
  unfold lookN at h
  cases q : nmB (csort t)
  · rw [q] at h; cases h
  · rfl
theorem takeTold_ok {nm : Nat → List Nat} (h : RdC u n f m i) (ha : sh a 6 3) (hc : FI u a 2 = nI cnt) (hc2 : cnt ≤ 12) (hN : NmRow (AJ u (a + 1)) 32 cnt nm) (hb : ∀ e u', lookN nm cnt (tk n f i) = .error e → RdO u u' → FltC u' e → post (some (.int (-1))) (am_emb u')) (hg : ∀ j u', lookN nm cnt (tk n f i) = .ok j → j < cnt → RdO u u' → RdC u' n f m (i + 1) → post (some (.int (nI j))) (am_emb u')) : Cl (d + 3) 77 [.ref 6, .ref a] (am_emb u) post := by
  rw [op_77]
  simp (disch := first | exact am_nl_i _ | exact am_nl_r _ | exact am_nl_0 | assumption | omega | (refine vi_nI ?_ ?_ <;> omega) | exact b2i_01 _ | exact Or.inl rfl | exact Or.inr rfl | (unfold vi; decide)) only [ex_77_0, ex_77_1, ex_77_5, ex_77_6, ex_77_7, ex_77_10, ex_77_11, if_true, if_false, and_self, Option.toList_some, Option.toList_none, List.singleton_append, List.cons_append, List.nil_append, List.append_nil, nI_1, nt_e, Int32.le_refl]
  rw [ex_77_2]
  refine lookUp_ok h ha hc hc2 hN (fun e u' q o F => ?_) (fun j q hj => ?_)
  · simp (disch := first | exact am_nl_i _ | exact am_nl_r _ | exact am_nl_0 | (refine vi_nI ?_ ?_ <;> omega) | assumption | omega | exact b2i_01 _ | exact Or.inl rfl | exact Or.inr rfl | (unfold vi; decide)) only [ex_77_0, ex_77_1, ex_77_2, ex_77_5, ex_77_6, ex_77_7, ex_77_10, ex_77_11, if_true, if_false, and_self, Option.toList_some, Option.toList_none, List.singleton_append, List.cons_append, List.nil_append, List.append_nil, nI_1, nt_e, Int32.le_refl, stepX F, Bool.true_eq_false, Bool.false_eq_true, ↓reduceIte]
    exact hb e u' q o F
  · have hne := nm_3 (lookN_nm q)
    simp (disch := first | exact am_nl_i _ | exact am_nl_r _ | exact am_nl_0 | (refine vi_nI ?_ ?_ <;> omega) | assumption | omega | exact b2i_01 _ | exact Or.inl rfl | exact Or.inr rfl | (unfold vi; decide)) only [ex_77_0, ex_77_1, ex_77_2, ex_77_5, ex_77_6, ex_77_7, ex_77_10, ex_77_11, if_true, if_false, and_self, Option.toList_some, Option.toList_none, List.singleton_append, List.cons_append, List.nil_append, List.append_nil, nI_1, nt_e, Int32.le_refl, step_ok h hne, Bool.true_eq_false, Bool.false_eq_true, ↓reduceIte]
    exact hg j _ q hj ((RdO.rf u).fi (Or.inl rfl)) (step_r h hne)
theorem takeToldX (h : FltC u e) (ha : sh a 6 3) (hc : FI u a 2 = nI cnt) (hc2 : cnt ≤ 12) (hp : post (some (.int (-1))) (am_emb u)) : Cl (d + 3) 77 [.ref 6, .ref a] (am_emb u) post := by
  rw [op_77]
  simp (disch := first | exact am_nl_i _ | exact am_nl_r _ | exact am_nl_0 | assumption | omega | (refine vi_nI ?_ ?_ <;> omega) | exact b2i_01 _ | exact Or.inl rfl | exact Or.inr rfl | (unfold vi; decide)) only [ex_77_0, ex_77_1, ex_77_5, ex_77_6, ex_77_7, ex_77_10, ex_77_11, if_true, if_false, and_self, Option.toList_some, Option.toList_none, List.singleton_append, List.cons_append, List.nil_append, List.append_nil, nI_1, nt_e, Int32.le_refl]
  rw [ex_77_2]
  refine lookUpX h ha hc hc2 ?_
  simp (disch := first | exact am_nl_i _ | exact am_nl_r _ | exact am_nl_0 | (refine vi_nI ?_ ?_ <;> omega) | assumption | omega | exact b2i_01 _ | exact Or.inl rfl | exact Or.inr rfl | (unfold vi; decide)) only [ex_77_0, ex_77_1, ex_77_2, ex_77_5, ex_77_6, ex_77_7, ex_77_10, ex_77_11, if_true, if_false, and_self, Option.toList_some, Option.toList_none, List.singleton_append, List.cons_append, List.nil_append, List.append_nil, nI_1, nt_e, Int32.le_refl, stepX h, Bool.true_eq_false, Bool.false_eq_true, ↓reduceIte]
  exact hp
theorem lq1000' : ∀ k, k ≤ 1000 → ((1000 : Int32) ≤ nI k ↔ k = 1000) := by decide +kernel
theorem takeFacts_ok {L : Nat} {v : LV} (h : RdC u n f m i) (hB : BkC u L v) (hi1 : 1 ≤ i) (hb : ∀ e x u', factsR (tk n f) v i = .error e → RdO u u' → FltC u' e → post (some (.int x)) (am_emb u')) (hg : ∀ s j u', factsR (tk n f) v i = .ok (s, j) → RdO u u' → RdC u' n f m j → post (some (.int s)) (am_emb u')) : Cl (d + 3) 78 [.ref 6] (am_emb u) post := by
  have hL := hB.sh
  have hm := h.2.2.2.2.2.1
  unfold factsR at hb hg
  rw [op_78]
  have loop : ∀ (g k i : Nat) (s : Int32) (u1 : am_U) (j3 : Option Value), k + g = 1000 → RdO u u1 → RdC u1 n f m i → k + 1 ≤ i → (k = 0 ↔ s = 0) →
      (∀ e x u', factsF (tk n f) v g s i = .error e → RdO u u' → FltC u' e → post (some (.int x)) (am_emb u')) → (∀ s' j u', factsF (tk n f) v g s i = .ok (s', j) → RdO u u' → RdC u' n f m j → post (some (.int s')) (am_emb u')) → Ex (d + 3) 78 4 [some (.ref 6), some (.int s), some (.int (nI k)), j3] [] (am_emb u1) post := by
    intro g
    induction g with
    | zero =>
      intro k i s u1 j3 hk o1 R1 hki
      have := R1.2.1
      omega
    | succ g ih =>
      intro k i s u1 j3 hk o1 R1 hki hs0 hb hg
      have hB1 := hB.rd o1
      have hk1 : ¬ (1000 : Int32) ≤ nI k := by rw [lq1000' k (by omega)]; omega
      have hk2 : ¬ k = 1000 := by omega
      rw [factsF] at hb hg
      have body : ¬ (¬ s = 0 ∧ csort (tk n f i) = 59) → Ex (d + 3) 78 31 [some (.ref 6), some (.int s), some (.int (nI k)), j3] [] (am_emb u1) post := by
        intro hgo
        rw [if_neg hgo] at hb hg
        rw [ex_78_31]
        simp (disch := first | exact am_nl_i _ | exact am_nl_r _ | exact am_nl_0 | (refine vi_nI ?_ ?_ <;> omega) | assumption | omega | exact b2i_01 _ | exact Or.inl rfl | exact Or.inr rfl | (unfold vi; decide)) only [ex_78_0, ex_78_1, ex_78_2, ex_78_3, ex_78_5, ex_78_8, ex_78_11, ex_78_12, ex_78_15, ex_78_18, ex_78_19, ex_78_22, ex_78_23, ex_78_26, ex_78_28, ex_78_32, ex_78_33, ex_78_36, ex_78_42, ex_78_43, ex_78_44, ex_78_45, ex_78_48, ex_78_49, ex_78_50, ex_78_51, ex_78_52, ex_78_53, ex_78_56, ex_78_57, ex_78_58, ex_78_61, ex_78_62, ex_78_65, ex_78_68, ex_78_69, ex_78_70, ex_78_71, ex_78_72, ex_78_73, ex_78_74, ex_78_75, ex_78_78, ex_78_81, ex_78_84, ex_78_85, if_true, if_false, and_self, Option.toList_some, Option.toList_none, List.singleton_append, List.cons_append, List.nil_append, List.append_nil, nI_1, nt_e, Int32.le_refl, hB1.2.2.1, va_rfs, Bool.true_eq_false, Bool.false_eq_true, ↓reduceIte]
        rw [ex_78_39]
        refine lookUp_ok (nm := nameV v 0) (cnt := nF v) R1 (sh_3_1 hL) hB1.1.1.1 hB1.2.2.2.1.1 hB1.2.1.1 (fun e u' q o F => ?_) (fun j q hj => ?_)
        · have zf := flt_ne F
          rw [show lookR v 0 (tk n f i) = .error e from q] at hb
          have hfin := hb e s u' rfl (o1.tr o) F
          have := hB.2.2.2.1.1
          simp (disch := first | exact am_nl_i _ | exact am_nl_r _ | exact am_nl_0 | (refine vi_nI ?_ ?_ <;> omega) | assumption | omega | exact b2i_01 _ | exact Or.inl rfl | exact Or.inr rfl | (unfold vi; decide)) only [ex_78_0, ex_78_1, ex_78_2, ex_78_3, ex_78_5, ex_78_8, ex_78_11, ex_78_12, ex_78_15, ex_78_18, ex_78_19, ex_78_22, ex_78_23, ex_78_26, ex_78_28, ex_78_31, ex_78_32, ex_78_33, ex_78_36, ex_78_39, ex_78_42, ex_78_43, ex_78_44, ex_78_45, ex_78_48, ex_78_49, ex_78_50, ex_78_51, ex_78_52, ex_78_53, ex_78_56, ex_78_57, ex_78_58, ex_78_61, ex_78_62, ex_78_65, ex_78_68, ex_78_69, ex_78_70, ex_78_71, ex_78_72, ex_78_73, ex_78_74, ex_78_75, ex_78_78, ex_78_81, ex_78_84, ex_78_85, if_true, if_false, and_self, Option.toList_some, Option.toList_none, List.singleton_append, List.cons_append, List.nil_append, List.append_nil, nI_1, nt_e, Int32.le_refl, zf, stepX F, Bool.true_eq_false, Bool.false_eq_true, ↓reduceIte]
          rw [ex_78_4]
          by_cases z1000 : (1000 : Int32) ≤ nI (k + 1)
          · simp (disch := first | exact am_nl_i _ | exact am_nl_r _ | exact am_nl_0 | (refine vi_nI ?_ ?_ <;> omega) | assumption | omega | exact b2i_01 _ | exact Or.inl rfl | exact Or.inr rfl | (unfold vi; decide)) only [ex_78_0, ex_78_1, ex_78_2, ex_78_3, ex_78_5, ex_78_8, ex_78_11, ex_78_12, ex_78_15, ex_78_18, ex_78_19, ex_78_22, ex_78_23, ex_78_26, ex_78_28, ex_78_31, ex_78_32, ex_78_33, ex_78_36, ex_78_39, ex_78_42, ex_78_43, ex_78_44, ex_78_45, ex_78_48, ex_78_49, ex_78_50, ex_78_51, ex_78_52, ex_78_53, ex_78_56, ex_78_57, ex_78_58, ex_78_61, ex_78_62, ex_78_65, ex_78_68, ex_78_69, ex_78_70, ex_78_71, ex_78_72, ex_78_73, ex_78_74, ex_78_75, ex_78_78, ex_78_81, ex_78_84, ex_78_85, if_true, if_false, and_self, Option.toList_some, Option.toList_none, List.singleton_append, List.cons_append, List.nil_append, List.append_nil, nI_1, nt_e, Int32.le_refl, z1000, Bool.true_eq_false, Bool.false_eq_true, ↓reduceIte]
            exact hfin
          · simp (disch := first | exact am_nl_i _ | exact am_nl_r _ | exact am_nl_0 | (refine vi_nI ?_ ?_ <;> omega) | assumption | omega | exact b2i_01 _ | exact Or.inl rfl | exact Or.inr rfl | (unfold vi; decide)) only [ex_78_0, ex_78_1, ex_78_2, ex_78_3, ex_78_5, ex_78_8, ex_78_11, ex_78_12, ex_78_15, ex_78_18, ex_78_19, ex_78_22, ex_78_23, ex_78_26, ex_78_28, ex_78_31, ex_78_32, ex_78_33, ex_78_36, ex_78_39, ex_78_42, ex_78_43, ex_78_44, ex_78_45, ex_78_48, ex_78_49, ex_78_50, ex_78_51, ex_78_52, ex_78_53, ex_78_56, ex_78_57, ex_78_58, ex_78_61, ex_78_62, ex_78_65, ex_78_68, ex_78_69, ex_78_70, ex_78_71, ex_78_72, ex_78_73, ex_78_74, ex_78_75, ex_78_78, ex_78_81, ex_78_84, ex_78_85, if_true, if_false, and_self, Option.toList_some, Option.toList_none, List.singleton_append, List.cons_append, List.nil_append, List.append_nil, nI_1, nt_e, Int32.le_refl, z1000, zf, Bool.true_eq_false, Bool.false_eq_true, ↓reduceIte]
            exact hfin
        · have hF := hB.2.2.2.1.1
          have hj32 : j < 32 := by omega
          have zj : ¬ nI j = -1 := fun e => by have := (i_eqm (n := j) (by omega)).mp e; exact this
          rw [show lookR v 0 (tk n f i) = .ok j from q] at hb hg
          have hne := nm_3 (lookN_nm q)
          cases b : bt s j
          · simp only [b, Bool.false_eq_true, if_false] at hb hg
            simp (disch := first | exact am_nl_i _ | exact am_nl_r _ | exact am_nl_0 | (refine vi_nI ?_ ?_ <;> omega) | assumption | omega | exact b2i_01 _ | exact Or.inl rfl | exact Or.inr rfl | (unfold vi; decide)) only [ex_78_0, ex_78_1, ex_78_2, ex_78_3, ex_78_5, ex_78_8, ex_78_11, ex_78_12, ex_78_15, ex_78_18, ex_78_19, ex_78_22, ex_78_23, ex_78_26, ex_78_28, ex_78_31, ex_78_32, ex_78_33, ex_78_36, ex_78_39, ex_78_42, ex_78_43, ex_78_44, ex_78_45, ex_78_48, ex_78_49, ex_78_50, ex_78_51, ex_78_52, ex_78_53, ex_78_56, ex_78_57, ex_78_58, ex_78_61, ex_78_62, ex_78_65, ex_78_68, ex_78_69, ex_78_70, ex_78_71, ex_78_72, ex_78_73, ex_78_74, ex_78_75, ex_78_78, ex_78_81, ex_78_84, ex_78_85, if_true, if_false, and_self, Option.toList_some, Option.toList_none, List.singleton_append, List.cons_append, List.nil_append, List.append_nil, nI_1, nt_e, Int32.le_refl, zj, bit_e s hj32, b, b2i_f, R1.2.2.1, step_ok R1 hne, bi_e, Bool.true_eq_false, Bool.false_eq_true, ↓reduceIte]
            refine ih (k + 1) (i + 1) (s ||| bi j) _ _ (by omega) (o1.fi (Or.inl rfl)) (step_r R1 hne) (by omega) ⟨fun e => by omega, fun e => absurd e (or_bi_ne0 hj32)⟩ ?_ ?_
            · exact fun e x u' q o F => hb e x u' q o F
            · exact fun s' j u' q o R => hg s' j u' q o R
          · simp only [b, if_true] at hb
            have F := fail_f (k := 3) R1 (by decide) (by decide)
            have zf := flt_ne F
            have hfin := hb _ s _ rfl (o1.fi (Or.inr rfl)) F
            simp (disch := first | exact am_nl_i _ | exact am_nl_r _ | exact am_nl_0 | (refine vi_nI ?_ ?_ <;> omega) | assumption | omega | exact b2i_01 _ | exact Or.inl rfl | exact Or.inr rfl | (unfold vi; decide)) only [ex_78_0, ex_78_1, ex_78_2, ex_78_3, ex_78_5, ex_78_8, ex_78_11, ex_78_12, ex_78_15, ex_78_18, ex_78_19, ex_78_22, ex_78_23, ex_78_26, ex_78_28, ex_78_31, ex_78_32, ex_78_33, ex_78_36, ex_78_39, ex_78_42, ex_78_43, ex_78_44, ex_78_45, ex_78_48, ex_78_49, ex_78_50, ex_78_51, ex_78_52, ex_78_53, ex_78_56, ex_78_57, ex_78_58, ex_78_61, ex_78_62, ex_78_65, ex_78_68, ex_78_69, ex_78_70, ex_78_71, ex_78_72, ex_78_73, ex_78_74, ex_78_75, ex_78_78, ex_78_81, ex_78_84, ex_78_85, if_true, if_false, and_self, Option.toList_some, Option.toList_none, List.singleton_append, List.cons_append, List.nil_append, List.append_nil, nI_1, nt_e, Int32.le_refl, zj, bit_e s hj32, b, b2i_t, show ((1 : Int32) = (0 : Int32)) = False from eq_false (by decide), show (3 : Int32) = nI 3 from rfl, fail_ok R1, zf, stepX F, Bool.true_eq_false, Bool.false_eq_true, ↓reduceIte]
            rw [ex_78_4]
            by_cases z1000 : (1000 : Int32) ≤ nI (k + 1)
            · simp (disch := first | exact am_nl_i _ | exact am_nl_r _ | exact am_nl_0 | (refine vi_nI ?_ ?_ <;> omega) | assumption | omega | exact b2i_01 _ | exact Or.inl rfl | exact Or.inr rfl | (unfold vi; decide)) only [ex_78_0, ex_78_1, ex_78_2, ex_78_3, ex_78_5, ex_78_8, ex_78_11, ex_78_12, ex_78_15, ex_78_18, ex_78_19, ex_78_22, ex_78_23, ex_78_26, ex_78_28, ex_78_31, ex_78_32, ex_78_33, ex_78_36, ex_78_39, ex_78_42, ex_78_43, ex_78_44, ex_78_45, ex_78_48, ex_78_49, ex_78_50, ex_78_51, ex_78_52, ex_78_53, ex_78_56, ex_78_57, ex_78_58, ex_78_61, ex_78_62, ex_78_65, ex_78_68, ex_78_69, ex_78_70, ex_78_71, ex_78_72, ex_78_73, ex_78_74, ex_78_75, ex_78_78, ex_78_81, ex_78_84, ex_78_85, if_true, if_false, and_self, Option.toList_some, Option.toList_none, List.singleton_append, List.cons_append, List.nil_append, List.append_nil, nI_1, nt_e, Int32.le_refl, z1000, Bool.true_eq_false, Bool.false_eq_true, ↓reduceIte]
              exact hfin
            · simp (disch := first | exact am_nl_i _ | exact am_nl_r _ | exact am_nl_0 | (refine vi_nI ?_ ?_ <;> omega) | assumption | omega | exact b2i_01 _ | exact Or.inl rfl | exact Or.inr rfl | (unfold vi; decide)) only [ex_78_0, ex_78_1, ex_78_2, ex_78_3, ex_78_5, ex_78_8, ex_78_11, ex_78_12, ex_78_15, ex_78_18, ex_78_19, ex_78_22, ex_78_23, ex_78_26, ex_78_28, ex_78_31, ex_78_32, ex_78_33, ex_78_36, ex_78_39, ex_78_42, ex_78_43, ex_78_44, ex_78_45, ex_78_48, ex_78_49, ex_78_50, ex_78_51, ex_78_52, ex_78_53, ex_78_56, ex_78_57, ex_78_58, ex_78_61, ex_78_62, ex_78_65, ex_78_68, ex_78_69, ex_78_70, ex_78_71, ex_78_72, ex_78_73, ex_78_74, ex_78_75, ex_78_78, ex_78_81, ex_78_84, ex_78_85, if_true, if_false, and_self, Option.toList_some, Option.toList_none, List.singleton_append, List.cons_append, List.nil_append, List.append_nil, nI_1, nt_e, Int32.le_refl, z1000, zf, Bool.true_eq_false, Bool.false_eq_true, ↓reduceIte]
              exact hfin
      rw [ex_78_4]
      by_cases k0 : k = 0
      · have s0 := hs0.mp k0
        have nk0 : nI k = 0 := by rw [k0]; rfl
        simp (disch := first | exact am_nl_i _ | exact am_nl_r _ | exact am_nl_0 | (refine vi_nI ?_ ?_ <;> omega) | assumption | omega | exact b2i_01 _ | exact Or.inl rfl | exact Or.inr rfl | (unfold vi; decide)) only [ex_78_0, ex_78_1, ex_78_2, ex_78_3, ex_78_5, ex_78_8, ex_78_11, ex_78_12, ex_78_15, ex_78_18, ex_78_19, ex_78_22, ex_78_23, ex_78_26, ex_78_28, ex_78_32, ex_78_33, ex_78_36, ex_78_39, ex_78_42, ex_78_43, ex_78_44, ex_78_45, ex_78_48, ex_78_49, ex_78_50, ex_78_51, ex_78_52, ex_78_53, ex_78_56, ex_78_57, ex_78_58, ex_78_61, ex_78_62, ex_78_65, ex_78_68, ex_78_69, ex_78_70, ex_78_71, ex_78_72, ex_78_73, ex_78_74, ex_78_75, ex_78_78, ex_78_81, ex_78_84, ex_78_85, if_true, if_false, and_self, Option.toList_some, Option.toList_none, List.singleton_append, List.cons_append, List.nil_append, List.append_nil, nI_1, nt_e, Int32.le_refl, hk1, R1.2.2.1, nk0, Bool.true_eq_false, Bool.false_eq_true, ↓reduceIte]
        rw [k0] at body
        exact body (fun z => z.1 s0)
      · have s0 : ¬ s = 0 := fun z => k0 (hs0.mpr z)
        have nk0 : ¬ nI k = 0 := by rw [i_eq0 (by omega)]; exact k0
        have hl := cs_lt (tk_ok (n := n) (f := f) i)
        by_cases q : csort (tk n f i) = 59
        · have q2 : nI (csort (tk n f i)) = 59 := by rw [q]; rfl
          have hfin := hg s i u1 (if_pos ⟨s0, q⟩) o1 R1
          simp (disch := first | exact am_nl_i _ | exact am_nl_r _ | exact am_nl_0 | (refine vi_nI ?_ ?_ <;> omega) | assumption | omega | exact b2i_01 _ | exact Or.inl rfl | exact Or.inr rfl | (unfold vi; decide)) only [ex_78_0, ex_78_1, ex_78_2, ex_78_3, ex_78_5, ex_78_8, ex_78_11, ex_78_12, ex_78_15, ex_78_18, ex_78_19, ex_78_22, ex_78_23, ex_78_26, ex_78_28, ex_78_32, ex_78_33, ex_78_36, ex_78_39, ex_78_42, ex_78_43, ex_78_44, ex_78_45, ex_78_48, ex_78_49, ex_78_50, ex_78_51, ex_78_52, ex_78_53, ex_78_56, ex_78_57, ex_78_58, ex_78_61, ex_78_62, ex_78_65, ex_78_68, ex_78_69, ex_78_70, ex_78_71, ex_78_72, ex_78_73, ex_78_74, ex_78_75, ex_78_78, ex_78_81, ex_78_84, ex_78_85, if_true, if_false, and_self, Option.toList_some, Option.toList_none, List.singleton_append, List.cons_append, List.nil_append, List.append_nil, nI_1, nt_e, Int32.le_refl, hk1, R1.2.2.1, nk0, rsort_ok R1, q2, Bool.true_eq_false, Bool.false_eq_true, ↓reduceIte]
          exact hfin
        · have q2 : ¬ nI (csort (tk n f i)) = 59 := fun z => q ((nI_eqI (b := 59) (by omega) (by omega)).mp z)
          simp (disch := first | exact am_nl_i _ | exact am_nl_r _ | exact am_nl_0 | (refine vi_nI ?_ ?_ <;> omega) | assumption | omega | exact b2i_01 _ | exact Or.inl rfl | exact Or.inr rfl | (unfold vi; decide)) only [ex_78_0, ex_78_1, ex_78_2, ex_78_3, ex_78_5, ex_78_8, ex_78_11, ex_78_12, ex_78_15, ex_78_18, ex_78_19, ex_78_22, ex_78_23, ex_78_26, ex_78_28, ex_78_32, ex_78_33, ex_78_36, ex_78_39, ex_78_42, ex_78_43, ex_78_44, ex_78_45, ex_78_48, ex_78_49, ex_78_50, ex_78_51, ex_78_52, ex_78_53, ex_78_56, ex_78_57, ex_78_58, ex_78_61, ex_78_62, ex_78_65, ex_78_68, ex_78_69, ex_78_70, ex_78_71, ex_78_72, ex_78_73, ex_78_74, ex_78_75, ex_78_78, ex_78_81, ex_78_84, ex_78_85, if_true, if_false, and_self, Option.toList_some, Option.toList_none, List.singleton_append, List.cons_append, List.nil_append, List.append_nil, nI_1, nt_e, Int32.le_refl, hk1, R1.2.2.1, nk0, rsort_ok R1, q2, Bool.true_eq_false, Bool.false_eq_true, ↓reduceIte]
          exact body (fun z => q z.2)
  simp (disch := first | exact am_nl_i _ | exact am_nl_r _ | exact am_nl_0 | assumption | omega | (refine vi_nI ?_ ?_ <;> omega) | exact b2i_01 _ | exact Or.inl rfl | exact Or.inr rfl | (unfold vi; decide)) only [ex_78_0, ex_78_1, ex_78_2, ex_78_3, ex_78_5, ex_78_8, ex_78_11, ex_78_12, ex_78_15, ex_78_18, ex_78_19, ex_78_22, ex_78_23, ex_78_26, ex_78_28, ex_78_31, ex_78_32, ex_78_33, ex_78_36, ex_78_39, ex_78_42, ex_78_43, ex_78_44, ex_78_45, ex_78_48, ex_78_49, ex_78_50, ex_78_51, ex_78_52, ex_78_53, ex_78_56, ex_78_57, ex_78_58, ex_78_61, ex_78_62, ex_78_65, ex_78_68, ex_78_69, ex_78_70, ex_78_71, ex_78_72, ex_78_73, ex_78_74, ex_78_75, ex_78_78, ex_78_81, ex_78_84, ex_78_85, if_true, if_false, and_self, Option.toList_some, Option.toList_none, List.singleton_append, List.cons_append, List.nil_append, List.append_nil, nI_1, nt_e, Int32.le_refl]
  exact loop 1000 0 i 0 u none rfl (RdO.rf u) h (by omega) ⟨fun _ => rfl, fun _ => rfl⟩ (fun e x u' q o F => hb e x u' q o F) (fun s j u' q o R => hg s j u' q o R)
end HelpC
