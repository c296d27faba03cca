/-! BITE, COPY, DIES (three of one kind, by program) -/
def biteS (S : ST) (x y z : Int32) : ST × Int32 := if bitesB S.1 S.2.1.1 x y z then (withLP S (bitesL S.1 S.2.1.1 (ix x) (ix y) (ix z)) (pushV S.2.2.1 S.2.1.1), bitesN S.1 S.2.1.1 (ix y) (ix z)) else (S, -1)
def copyS (S : ST) (x : Int32) : ST × Int32 := if copiedB S.1 S.2.1.1 x then (withLP S (copiedL S.1 S.2.1.1 (ix x)) (pushV S.2.2.1 S.2.1.1), costV S.1 S.2.1.1 (ix x)) else (S, -1)
def diesS (S : ST) (x : Int32) : ST × Int32 := if livesI S.2.1.1 x then (withLP S (endsV S.1 S.2.1.1 (ix x)).1 (pushV S.2.2.1 S.2.1.1), (endsV S.1 S.2.1.1 (ix x)).2) else (S, -1)
theorem bitesN_m {v : LV} {l : LF} {q k : Nat} : ¬ bitesN v l q k = -1 := by
  unfold bitesN
  have := biteW_n (eatL l q &&& nt (bi k)) (lawV v 1 (weighV v k) (bitsV (eatL l q))) 12
  unfold lossV
  rw [i_eqm (by omega)]
  simp
theorem bitesN_e {v : LV} {l : LF} {q k : Nat} (hk : k < 12) : bitsV (bi k ||| (lossV v l q k).1) = bitesN v l q k := bitsV_loss (by omega) (by rw [b_and, bt_nt _ (by omega), bt_bi (by omega) (by omega)]; simp) 12 (by omega)
theorem WS_bite {S : ST} (h : WS S) (x y z : Int32) : WS (biteS S x y z).1 := by
  unfold biteS
  cases hq : bitesB S.1 S.2.1.1 x y z
  · exact h
  · refine WS_act h ?_
    unfold bitesB takesB at hq
    simp only [Bool.and_eq_true] at hq
    exact WL_bites h.1 h.2.1.1 (alive_ix h.2.1.1 hq.1.1.1.1).1 (alive_ix h.2.1.1 hq.2.1).1 (okI_ix hq.1.1.1.2).1
theorem WS_copy {S : ST} (h : WS S) (x : Int32) : WS (copyS S x).1 := by
  unfold copyS
  cases hq : copiedB S.1 S.2.1.1 x
  · exact h
  · refine WS_act h ?_
    unfold copiedB at hq
    simp only [Bool.and_eq_true, decide_eq_true_eq] at hq
    exact WL_copied h.2.1.1 (okI_ix hq.1).1 hq.2.2
theorem WS_dies {S : ST} (h : WS S) (x : Int32) : WS (diesS S x).1 := by
  unfold diesS
  cases hq : livesI S.2.1.1 x
  · exact h
  · exact WS_act h (WL_ends h.1 h.2.1.1)
section Acts2
variable {d L L' : Nat} {u : am_U} {m : am_M} {S : ST} {post : Option Value → am_M → Prop}
theorem C_bite {x y z : Int32} (hI : InvC u S L L') (hS : WS S) (h : ∀ u', Only inC u u' → InvC u' (biteS S x y z).1 L L' → post (some (.int (biteS S x y z).2)) (am_emb u')) : Cl (d + 4) 124 [.ref 0, .int x, .int y, .int z] (am_emb u) post := by
  have hL := lib_sh hI.1.2.2.1
  have hLL := hI.1.2.2.1
  have hp16 := hS.2.2.1.1
  have hIc := hI
  obtain ⟨⟨r1, r2, r3, r4, r5, r6⟩, ⟨l1, l2, l3⟩, st, pst, mk, tp⟩ := hI
  rw [op_124]
  simp (disch := first | exact am_nl_i _ | exact am_nl_r _ | exact am_nl_0 | assumption | omega | (refine vi_nI ?_ ?_ <;> omega) | exact b2i_01 _ | exact Or.inl rfl | exact Or.inr rfl | (unfold vi; decide)) only [ex_124_0, ex_124_1, ex_124_4, ex_124_5, ex_124_8, ex_124_14, ex_124_15, ex_124_18, ex_124_21, ex_124_22, ex_124_25, ex_124_26, ex_124_27, ex_124_28, ex_124_31, ex_124_33, ex_124_35, ex_124_36, ex_124_39, ex_124_40, ex_124_43, ex_124_45, if_true, if_false, and_self, Option.toList_some, Option.toList_none, List.singleton_append, List.cons_append, List.nil_append, List.append_nil, nI_1, nt_e, Int32.le_refl]
  rw [ex_124_11]
  refine set_ok shl_78 shl_65 (by omega) st.1 (fun u1 o1 b1 => ?_)
  have f1 := o1 0 (by unfold inL; omega)
  have c1 : LibC u1 L S.1 := l1.keep o1 (fun k hk q => by unfold inL at q; omega)
  have m1 : FmC u1 (L + 20) (lawV S.1 0) := l2.keep o1 (fun q => by unfold inL at q; omega) (fun q => by unfold inL at q; omega)
  have m2 : FmC u1 (L + 23) (lawV S.1 1) := l3.keep o1 (fun q => by unfold inL at q; omega) (fun q => by unfold inL at q; omega)
  have s1 : LifeC u1 65 S.2.1.1 := st.1.keep o1 (fun k hk q => by unfold inL at q; omega)
  have hr : FR u1 0 2 = some L := by rw [f1.2.2.1]; exact r1
  simp (disch := first | exact am_nl_i _ | exact am_nl_r _ | exact am_nl_0 | assumption | omega | (refine vi_nI ?_ ?_ <;> omega) | exact b2i_01 _ | exact Or.inl rfl | exact Or.inr rfl | (unfold vi; decide)) only [ex_124_0, ex_124_1, ex_124_4, ex_124_5, ex_124_8, ex_124_14, ex_124_15, ex_124_18, ex_124_21, ex_124_22, ex_124_25, ex_124_26, ex_124_27, ex_124_31, ex_124_33, ex_124_35, ex_124_36, ex_124_39, ex_124_43, ex_124_45, if_true, if_false, and_self, Option.toList_some, Option.toList_none, List.singleton_append, List.cons_append, List.nil_append, List.append_nil, nI_1, nt_e, Int32.le_refl, hr, va_rfs]
  rw [ex_124_28]
  have p1 : PastC u1 S.2.2.1 := past_keep pst o1 f1.1 (fun a h1 h2 q => by unfold inL at q; omega)
  have a1 : Only actQ u u1 := o1.wk (fun a q => Or.inr (Or.inr (Or.inr (Or.inl q))))
  refine bites_ok shl_65 hL s1 c1 m2 hS.1 hS.2.1.1 (fun hf => ?_) (fun ht u2 o2 s2 => ?_)
  · simp (disch := first | exact am_nl_i _ | exact am_nl_r _ | exact am_nl_0 | (refine vi_nI ?_ ?_ <;> omega) | assumption | omega | exact b2i_01 _ | exact Or.inl rfl | exact Or.inr rfl | (unfold vi; decide)) only [ex_124_0, ex_124_1, ex_124_4, ex_124_5, ex_124_8, ex_124_14, ex_124_15, ex_124_18, ex_124_21, ex_124_22, ex_124_25, ex_124_26, ex_124_27, ex_124_31, ex_124_33, ex_124_35, ex_124_36, ex_124_39, ex_124_43, ex_124_45, if_true, if_false, and_self, Option.toList_some, Option.toList_none, List.singleton_append, List.cons_append, List.nil_append, List.append_nil, nI_1, nt_e, Int32.le_refl, Bool.true_eq_false, Bool.false_eq_true, ↓reduceIte]
    have := h u1 (a1.wk (fun _ => actQ_C))
    unfold biteS at this
    rw [hf] at this
    exact this (act_inv2 hIc a1 f1.2.2.1 s1 p1)
  · simp (disch := first | exact am_nl_i _ | exact am_nl_r _ | exact am_nl_0 | assumption | omega | (refine vi_nI ?_ ?_ <;> omega) | exact b2i_01 _ | exact Or.inl rfl | exact Or.inr rfl | (unfold vi; decide)) only [ex_124_0, ex_124_1, ex_124_4, ex_124_5, ex_124_8, ex_124_14, ex_124_15, ex_124_18, ex_124_21, ex_124_22, ex_124_25, ex_124_26, ex_124_27, ex_124_31, ex_124_33, ex_124_35, ex_124_36, ex_124_39, ex_124_43, ex_124_45, if_true, if_false, and_self, Option.toList_some, Option.toList_none, List.singleton_append, List.cons_append, List.nil_append, List.append_nil, nI_1, nt_e, Int32.le_refl, bitesN_m]
    rw [ex_124_40]
    have f2 := o2 0 (by unfold inLS inL; omega)
    have p2 : PastC u2 S.2.2.1 := past_keep p1 o2 f2.1 (fun a h1 h2 q => by unfold inLS inL at q; omega)
    have b2 : LifeC u2 78 S.2.1.1 := b1.keep o2 (fun k hk q => by unfold inLS inL at q; omega)
    refine remember_ok hp16 (by rw [(o2 82 (by unfold inLS inL; omega)).2.2.2.2.2, (o1 82 (by unfold inL; omega)).2.2.2.2.2]; exact r4) p2 b2 (fun u3 o3 f3 p3 => ?_)
    have a3 : Only actQ u u3 := (a1.tr (o2.wk (fun a q => inLS_Q (Or.inl rfl) hLL q))).tr (o3.wk (fun a q => by unfold inPast at q; unfold actQ; omega))
    simp (disch := first | exact am_nl_i _ | exact am_nl_r _ | exact am_nl_0 | assumption | omega | (refine vi_nI ?_ ?_ <;> omega) | exact b2i_01 _ | exact Or.inl rfl | exact Or.inr rfl | (unfold vi; decide)) only [ex_124_0, ex_124_1, ex_124_4, ex_124_5, ex_124_8, ex_124_14, ex_124_15, ex_124_18, ex_124_21, ex_124_22, ex_124_25, ex_124_26, ex_124_27, ex_124_31, ex_124_33, ex_124_35, ex_124_36, ex_124_39, ex_124_43, ex_124_45, if_true, if_false, and_self, Option.toList_some, Option.toList_none, List.singleton_append, List.cons_append, List.nil_append, List.append_nil, nI_1, nt_e, Int32.le_refl]
    have := h u3 (a3.wk (fun _ => actQ_C))
    unfold biteS at this
    rw [ht] at this
    exact this (act_inv2 hIc a3 (by rw [f3, f2.2.2.1, f1.2.2.1]) (s2.keep o3 (fun k hk q => by unfold inPast at q; omega)) p3)
theorem C_copy {x : Int32} (hI : InvC u S L L') (hS : WS S) (h : ∀ u', Only inC u u' → InvC u' (copyS S x).1 L L' → post (some (.int (copyS S x).2)) (am_emb u')) : Cl (d + 4) 125 [.ref 0, .int x] (am_emb u) post := by
  have hL := lib_sh hI.1.2.2.1
  have hLL := hI.1.2.2.1
  have hp16 := hS.2.2.1.1
  have hIc := hI
  obtain ⟨⟨r1, r2, r3, r4, r5, r6⟩, ⟨l1, l2, l3⟩, st, pst, mk, tp⟩ := hI
  rw [op_125]
  simp (disch := first | exact am_nl_i _ | exact am_nl_r _ | exact am_nl_0 | assumption | omega | (refine vi_nI ?_ ?_ <;> omega) | exact b2i_01 _ | exact Or.inl rfl | exact Or.inr rfl | (unfold vi; decide)) only [ex_125_0, ex_125_1, ex_125_4, ex_125_5, ex_125_8, ex_125_14, ex_125_15, ex_125_18, ex_125_21, ex_125_22, ex_125_25, ex_125_26, ex_125_29, ex_125_30, ex_125_31, ex_125_32, ex_125_35, ex_125_36, ex_125_39, ex_125_40, if_true, if_false, and_self, Option.toList_some, Option.toList_none, List.singleton_append, List.cons_append, List.nil_append, List.append_nil, nI_1, nt_e, Int32.le_refl]
  rw [ex_125_11]
  refine set_ok shl_78 shl_65 (by omega) st.1 (fun u1 o1 b1 => ?_)
  have f1 := o1 0 (by unfold inL; omega)
  have c1 : LibC u1 L S.1 := l1.keep o1 (fun k hk q => by unfold inL at q; omega)
  have m1 : FmC u1 (L + 20) (lawV S.1 0) := l2.keep o1 (fun q => by unfold inL at q; omega) (fun q => by unfold inL at q; omega)
  have m2 : FmC u1 (L + 23) (lawV S.1 1) := l3.keep o1 (fun q => by unfold inL at q; omega) (fun q => by unfold inL at q; omega)
  have s1 : LifeC u1 65 S.2.1.1 := st.1.keep o1 (fun k hk q => by unfold inL at q; omega)
  have hr : FR u1 0 2 = some L := by rw [f1.2.2.1]; exact r1
  simp (disch := first | exact am_nl_i _ | exact am_nl_r _ | exact am_nl_0 | assumption | omega | (refine vi_nI ?_ ?_ <;> omega) | exact b2i_01 _ | exact Or.inl rfl | exact Or.inr rfl | (unfold vi; decide)) only [ex_125_0, ex_125_1, ex_125_4, ex_125_5, ex_125_8, ex_125_14, ex_125_15, ex_125_18, ex_125_21, ex_125_22, ex_125_25, ex_125_29, ex_125_30, ex_125_31, ex_125_32, ex_125_35, ex_125_39, ex_125_40, if_true, if_false, and_self, Option.toList_some, Option.toList_none, List.singleton_append, List.cons_append, List.nil_append, List.append_nil, nI_1, nt_e, Int32.le_refl, hr, va_rfs]
  rw [ex_125_26]
  have p1 : PastC u1 S.2.2.1 := past_keep pst o1 f1.1 (fun a h1 h2 q => by unfold inL at q; omega)
  have a1 : Only actQ u u1 := o1.wk (fun a q => Or.inr (Or.inr (Or.inr (Or.inl q))))
  refine copied_ok shl_65 hL s1 c1 m1 hS.1 (fun hf => ?_) (fun ht u2 o2 s2 => ?_)
  · simp (disch := first | exact am_nl_i _ | exact am_nl_r _ | exact am_nl_0 | (refine vi_nI ?_ ?_ <;> omega) | assumption | omega | exact b2i_01 _ | exact Or.inl rfl | exact Or.inr rfl | (unfold vi; decide)) only [ex_125_0, ex_125_1, ex_125_4, ex_125_5, ex_125_8, ex_125_14, ex_125_15, ex_125_18, ex_125_21, ex_125_22, ex_125_25, ex_125_29, ex_125_30, ex_125_31, ex_125_32, ex_125_35, ex_125_39, ex_125_40, if_true, if_false, and_self, Option.toList_some, Option.toList_none, List.singleton_append, List.cons_append, List.nil_append, List.append_nil, nI_1, nt_e, Int32.le_refl, Bool.true_eq_false, Bool.false_eq_true, ↓reduceIte]
    have := h u1 (a1.wk (fun _ => actQ_C))
    unfold copyS at this
    rw [hf] at this
    exact this (act_inv2 hIc a1 f1.2.2.1 s1 p1)
  · simp (disch := first | exact am_nl_i _ | exact am_nl_r _ | exact am_nl_0 | assumption | omega | (refine vi_nI ?_ ?_ <;> omega) | exact b2i_01 _ | exact Or.inl rfl | exact Or.inr rfl | (unfold vi; decide)) only [ex_125_0, ex_125_1, ex_125_4, ex_125_5, ex_125_8, ex_125_14, ex_125_15, ex_125_18, ex_125_21, ex_125_22, ex_125_25, ex_125_29, ex_125_30, ex_125_31, ex_125_32, ex_125_35, ex_125_39, ex_125_40, if_true, if_false, and_self, Option.toList_some, Option.toList_none, List.singleton_append, List.cons_append, List.nil_append, List.append_nil, nI_1, nt_e, Int32.le_refl, show ¬ costV S.1 S.2.1.1 (ix x) = -1 from clamp_m _]
    rw [ex_125_36]
    have f2 := o2 0 (by unfold inLS inL; omega)
    have p2 : PastC u2 S.2.2.1 := past_keep p1 o2 f2.1 (fun a h1 h2 q => by unfold inLS inL at q; omega)
    have b2 : LifeC u2 78 S.2.1.1 := b1.keep o2 (fun k hk q => by unfold inLS inL at q; omega)
    refine remember_ok hp16 (by rw [(o2 82 (by unfold inLS inL; omega)).2.2.2.2.2, (o1 82 (by unfold inL; omega)).2.2.2.2.2]; exact r4) p2 b2 (fun u3 o3 f3 p3 => ?_)
    have a3 : Only actQ u u3 := (a1.tr (o2.wk (fun a q => inLS_Q (Or.inl rfl) hLL q))).tr (o3.wk (fun a q => by unfold inPast at q; unfold actQ; omega))
    simp (disch := first | exact am_nl_i _ | exact am_nl_r _ | exact am_nl_0 | assumption | omega | (refine vi_nI ?_ ?_ <;> omega) | exact b2i_01 _ | exact Or.inl rfl | exact Or.inr rfl | (unfold vi; decide)) only [ex_125_0, ex_125_1, ex_125_4, ex_125_5, ex_125_8, ex_125_14, ex_125_15, ex_125_18, ex_125_21, ex_125_22, ex_125_25, ex_125_29, ex_125_30, ex_125_31, ex_125_32, ex_125_35, ex_125_39, ex_125_40, if_true, if_false, and_self, Option.toList_some, Option.toList_none, List.singleton_append, List.cons_append, List.nil_append, List.append_nil, nI_1, nt_e, Int32.le_refl]
    have := h u3 (a3.wk (fun _ => actQ_C))
    unfold copyS at this
    rw [ht] at this
    exact this (act_inv2 hIc a3 (by rw [f3, f2.2.2.1, f1.2.2.1]) (s2.keep o3 (fun k hk q => by unfold inPast at q; omega)) p3)
theorem C_dies {x : Int32} (hI : InvC u S L L') (hS : WS S) (h : ∀ u', Only inC u u' → InvC u' (diesS S x).1 L L' → post (some (.int (diesS S x).2)) (am_emb u')) : Cl (d + 4) 126 [.ref 0, .int x] (am_emb u) post := by
  have hL := lib_sh hI.1.2.2.1
  have hLL := hI.1.2.2.1
  have hp16 := hS.2.2.1.1
  have hIc := hI
  obtain ⟨⟨r1, r2, r3, r4, r5, r6⟩, ⟨l1, l2, l3⟩, st, pst, mk, tp⟩ := hI
  rw [op_126]
  simp (disch := first | exact am_nl_i _ | exact am_nl_r _ | exact am_nl_0 | assumption | omega | (refine vi_nI ?_ ?_ <;> omega) | exact b2i_01 _ | exact Or.inl rfl | exact Or.inr rfl | (unfold vi; decide)) only [ex_126_0, ex_126_1, ex_126_4, ex_126_5, ex_126_8, ex_126_14, ex_126_15, ex_126_18, ex_126_21, ex_126_22, ex_126_25, ex_126_26, ex_126_29, ex_126_30, ex_126_31, ex_126_32, ex_126_35, ex_126_36, ex_126_39, ex_126_40, if_true, if_false, and_self, Option.toList_some, Option.toList_none, List.singleton_append, List.cons_append, List.nil_append, List.append_nil, nI_1, nt_e, Int32.le_refl]
  rw [ex_126_11]
  refine set_ok shl_78 shl_65 (by omega) st.1 (fun u1 o1 b1 => ?_)
  have f1 := o1 0 (by unfold inL; omega)
  have c1 : LibC u1 L S.1 := l1.keep o1 (fun k hk q => by unfold inL at q; omega)
  have m1 : FmC u1 (L + 20) (lawV S.1 0) := l2.keep o1 (fun q => by unfold inL at q; omega) (fun q => by unfold inL at q; omega)
  have m2 : FmC u1 (L + 23) (lawV S.1 1) := l3.keep o1 (fun q => by unfold inL at q; omega) (fun q => by unfold inL at q; omega)
  have s1 : LifeC u1 65 S.2.1.1 := st.1.keep o1 (fun k hk q => by unfold inL at q; omega)
  have hr : FR u1 0 2 = some L := by rw [f1.2.2.1]; exact r1
  simp (disch := first | exact am_nl_i _ | exact am_nl_r _ | exact am_nl_0 | assumption | omega | (refine vi_nI ?_ ?_ <;> omega) | exact b2i_01 _ | exact Or.inl rfl | exact Or.inr rfl | (unfold vi; decide)) only [ex_126_0, ex_126_1, ex_126_4, ex_126_5, ex_126_8, ex_126_14, ex_126_15, ex_126_18, ex_126_21, ex_126_22, ex_126_25, ex_126_29, ex_126_30, ex_126_31, ex_126_32, ex_126_35, ex_126_39, ex_126_40, if_true, if_false, and_self, Option.toList_some, Option.toList_none, List.singleton_append, List.cons_append, List.nil_append, List.append_nil, nI_1, nt_e, Int32.le_refl, hr, va_rfs]
  rw [ex_126_26]
  have p1 : PastC u1 S.2.2.1 := past_keep pst o1 f1.1 (fun a h1 h2 q => by unfold inL at q; omega)
  have a1 : Only actQ u u1 := o1.wk (fun a q => Or.inr (Or.inr (Or.inr (Or.inl q))))
  refine ends_ok shl_65 hL s1 c1 hS.1 hS.2.1.1 (fun hf => ?_) (fun ht u2 o2 s2 => ?_)
  · simp (disch := first | exact am_nl_i _ | exact am_nl_r _ | exact am_nl_0 | (refine vi_nI ?_ ?_ <;> omega) | assumption | omega | exact b2i_01 _ | exact Or.inl rfl | exact Or.inr rfl | (unfold vi; decide)) only [ex_126_0, ex_126_1, ex_126_4, ex_126_5, ex_126_8, ex_126_14, ex_126_15, ex_126_18, ex_126_21, ex_126_22, ex_126_25, ex_126_29, ex_126_30, ex_126_31, ex_126_32, ex_126_35, ex_126_39, ex_126_40, if_true, if_false, and_self, Option.toList_some, Option.toList_none, List.singleton_append, List.cons_append, List.nil_append, List.append_nil, nI_1, nt_e, Int32.le_refl, Bool.true_eq_false, Bool.false_eq_true, ↓reduceIte]
    have := h u1 (a1.wk (fun _ => actQ_C))
    unfold diesS at this
    rw [hf] at this
    exact this (act_inv2 hIc a1 f1.2.2.1 s1 p1)
  · simp (disch := first | exact am_nl_i _ | exact am_nl_r _ | exact am_nl_0 | assumption | omega | (refine vi_nI ?_ ?_ <;> omega) | exact b2i_01 _ | exact Or.inl rfl | exact Or.inr rfl | (unfold vi; decide)) only [ex_126_0, ex_126_1, ex_126_4, ex_126_5, ex_126_8, ex_126_14, ex_126_15, ex_126_18, ex_126_21, ex_126_22, ex_126_25, ex_126_29, ex_126_30, ex_126_31, ex_126_32, ex_126_35, ex_126_39, ex_126_40, if_true, if_false, and_self, Option.toList_some, Option.toList_none, List.singleton_append, List.cons_append, List.nil_append, List.append_nil, nI_1, nt_e, Int32.le_refl, ends_m hS.1]
    rw [ex_126_36]
    have f2 := o2 0 (by unfold inL; omega)
    have p2 : PastC u2 S.2.2.1 := past_keep p1 o2 f2.1 (fun a h1 h2 q => by unfold inL at q; omega)
    have b2 : LifeC u2 78 S.2.1.1 := b1.keep o2 (fun k hk q => by unfold inL at q; omega)
    refine remember_ok hp16 (by rw [(o2 82 (by unfold inL; omega)).2.2.2.2.2, (o1 82 (by unfold inL; omega)).2.2.2.2.2]; exact r4) p2 b2 (fun u3 o3 f3 p3 => ?_)
    have a3 : Only actQ u u3 := (a1.tr (o2.wk (fun a q => Or.inr (Or.inl q)))).tr (o3.wk (fun a q => by unfold inPast at q; unfold actQ; omega))
    simp (disch := first | exact am_nl_i _ | exact am_nl_r _ | exact am_nl_0 | assumption | omega | (refine vi_nI ?_ ?_ <;> omega) | exact b2i_01 _ | exact Or.inl rfl | exact Or.inr rfl | (unfold vi; decide)) only [ex_126_0, ex_126_1, ex_126_4, ex_126_5, ex_126_8, ex_126_14, ex_126_15, ex_126_18, ex_126_21, ex_126_22, ex_126_25, ex_126_29, ex_126_30, ex_126_31, ex_126_32, ex_126_35, ex_126_39, ex_126_40, if_true, if_false, and_self, Option.toList_some, Option.toList_none, List.singleton_append, List.cons_append, List.nil_append, List.append_nil, nI_1, nt_e, Int32.le_refl]
    have := h u3 (a3.wk (fun _ => actQ_C))
    unfold diesS at this
    rw [ht] at this
    exact this (act_inv2 hIc a3 (by rw [f3, f2.2.2.1, f1.2.2.1]) (s2.keep o3 (fun k hk q => by unfold inPast at q; omega)) p3)
end Acts2
