/-! MARK -/
def withM (S : ST) (mk : Nat → Option SN) : ST := (S.1, S.2.1, S.2.2.1, mk, S.2.2.2.2)
def markS (S : ST) (x : Int32) (c : Bool) : ST × Bool :=
  if okI x 4 then (if c then (match S.2.2.2.1 (ix x) with
    | none => (S, false)
    | some s => ((S.1, s, (0, S.2.2.1.2), S.2.2.2), true)) else (withM S (fun j => if j = ix x then some S.2.1 else S.2.2.2.1 j), true)) else (S, false)
theorem sh_mk : ∀ k, k < 4 → sh (148 + 10 * k) 9 6 := by unfold sh; decide +kernel
theorem lq4 : (4 : Int32) = nI 4 := rfl
theorem WS_mark {S : ST} (h : WS S) (x : Int32) (c : Bool) : WS (markS S x c).1 := by
  obtain ⟨h1, h2, h3, h4, h5⟩ := h
  unfold markS
  split
  · split
    · split
      · exact ⟨h1, h2, h3, h4, h5⟩
      · next s hs => exact ⟨h1, h4 _ _ hs, ⟨Nat.zero_le _, fun j hj => absurd hj (Nat.not_lt_zero j)⟩, h4, h5⟩
    · refine ⟨h1, h2, h3, fun k s hs => ?_, h5⟩
      have hs : (if k = ix x then some S.2.1 else S.2.2.2.1 k) = some s := hs
      by_cases e : k = ix x
      · rw [if_pos e] at hs
        cases hs
        exact h2
      · rw [if_neg e] at hs
        exact h4 k s hs
  · exact ⟨h1, h2, h3, h4, h5⟩
theorem okI_g {x : Int32} {n : Nat} {A B : Prop} (hn : n < 2 ^ 31) (hA : okI x n = false → A) (hB : okI x n = true → B) : if x < 0 then A else if nI n ≤ x then A else B :=
  (okI_if (C := True) hn (fun q => iff_true_intro (hA q)) (fun q => iff_true_intro (hB q))).mpr trivial
theorem okI_g3 {x : Int32} {n : Nat} {A B : Prop} (hn : n < 2 ^ 31) (hA : okI x n = false → A) (hB : okI x n = true → B) : if x < 0 then A else if x < nI n then B else A := by
  have h := okI_g hn hA hB
  by_cases h0 : x < 0
  · rw [if_pos h0] at h ⊢
    exact h
  · rw [if_neg h0] at h ⊢
    by_cases h1 : x < nI n
    · rw [if_neg (Int32.not_le.mpr h1)] at h
      rw [if_pos h1]
      exact h
    · rw [if_pos (Int32.not_lt.mp h1)] at h
      rw [if_neg h1]
      exact h
section Mark
variable {d L L' : Nat} {u : am_U} {S : ST} {post : Option Value → am_M → Prop}
theorem mark_inv {u u' : am_U} {S : ST} {L L' k : Nat} (hk : k < 4) (h : InvC u S L L') (ho : Only (in10 (148 + 10 * k)) u u') (h5 : FI u' (148 + 10 * k) 5 = 1) (hs : StandC u' (148 + 10 * k) S.2.1) : InvC u' (withM S (fun j => if j = k then some S.2.1 else S.2.2.2.1 j)) L L' := by
  obtain ⟨⟨r1, r2, r3, r4, r5, r6⟩, ⟨l1, l2, l3⟩, st, pst, mk, tp⟩ := h
  have n : ∀ a, a ≤ 147 → ¬ in10 (148 + 10 * k) a := fun a ha q => by unfold in10 at q; omega
  have e := fun a ha => ho a (n a ha)
  refine ⟨⟨by rw [(e 0 (by omega)).2.2.1]; exact r1, by rw [(e 0 (by omega)).2.2.1]; exact r2, r3, by rw [(e 82 (by omega)).2.2.2.2.2]; exact r4, by rw [(e 147 (by omega)).2.2.2.2.2]; exact r5, ?_⟩, ⟨l1.keep ho (fun k hk => n _ (by omega)), l2.keep ho (n _ (by omega)) (n _ (by omega)), l3.keep ho (n _ (by omega)) (n _ (by omega))⟩, st.keep ho (fun k hk => n _ (by omega)), past_keep pst ho (e 0 (by omega)).1 (fun a h1 h2 => n _ (by omega)), fun j hj => ?_, ?_⟩
  · unfold most4
    rw [(e (L' + 1) (by omega)).1, (e (L' + 3) (by omega)).1, (e (L' + 5) (by omega)).1, (e (L' + 7) (by omega)).1]
    exact r6
  · show _ = b2i (if j = k then some S.2.1 else S.2.2.2.1 j).isSome ∧ ∀ s, (if j = k then some S.2.1 else S.2.2.2.1 j) = some s → _
    by_cases q : j = k
    · rw [if_pos q, q]
      refine ⟨h5, fun s hs2 => ?_⟩
      cases hs2
      exact hs
    · rw [if_neg q, (ho (148 + 10 * j) (by unfold in10; omega)).1]
      exact ⟨(mk j hj).1, fun s hs => ((mk j hj).2 s hs).keep ho (fun i hi => by unfold in10; omega)⟩
  · unfold TapeC
    rw [(e 1 (by omega)).1, (e 2 (by omega)).2.2.2.1]
    exact tp
theorem forget_inv {u : am_U} {S : ST} {L L' : Nat} {s : SN} (h : InvC u (withN S s) L L') : InvC (sFI (sFI u 0 9 0) 0 10 0) (S.1, s, (0, S.2.2.1.2), S.2.2.2) L L' := by
  obtain ⟨r, ⟨l1, l2, l3⟩, st, -, mk, tp⟩ := h
  have ho : Only (fun a => a = 0) u (sFI (sFI u 0 9 0) 0 10 0) := of_fi (of_fi (Only.rf _ _) rfl) rfl
  have n : ∀ a, 1 ≤ a → ¬ (fun a => a = 0) a := fun a ha (q : a = 0) => by omega
  have e := fun a ha => ho a (n a ha)
  obtain ⟨r1, r2, r3, r4, r5, r6⟩ := r
  refine ⟨⟨r1, r2, r3, r4, r5, ?_⟩, ⟨l1.keep ho (fun k hk => n _ (by omega)), l2.keep ho (n _ (by omega)) (n _ (by omega)), l3.keep ho (n _ (by omega)) (n _ (by omega))⟩, st.keep ho (fun k hk => n _ (by omega)), ⟨0, by decide, ?_, ?_, fun j hj => absurd hj (Nat.not_lt_zero j)⟩, fun k hk => ⟨by rw [(e (148 + 10 * k) (by omega)).1]; exact (mk k hk).1, fun s hs => ((mk k hk).2 s hs).keep ho (fun i hi => n _ (by omega))⟩, ?_⟩
  · unfold most4
    rw [(e (L' + 1) (by omega)).1, (e (L' + 3) (by omega)).1, (e (L' + 5) (by omega)).1, (e (L' + 7) (by omega)).1]
    exact r6
  · rw [FI_sFI, if_neg (by omega), FI_sFI, if_pos ⟨rfl, rfl⟩]; rfl
  · rw [FI_sFI, if_pos ⟨rfl, rfl⟩]; rfl
  · unfold TapeC
    rw [(e 1 (by omega)).1, (e 2 (by omega)).2.2.2.1]
    exact tp
theorem forget_ok : Cl d 146 [.ref 0] (am_emb u) post ↔ post none (am_emb (sFI (sFI u 0 9 0) 0 10 0)) := by
  rw [op_146]
  simp (disch := first | exact am_nl_i _ | exact am_nl_r _ | exact am_nl_0 | assumption | omega | (refine vi_nI ?_ ?_ <;> omega) | exact b2i_01 _ | exact Or.inl rfl | exact Or.inr rfl | (unfold vi; decide)) only [ex_146_0, ex_146_1, ex_146_2, ex_146_5, ex_146_6, ex_146_7, ex_146_10, if_true, if_false, and_self, Option.toList_some, Option.toList_none, List.singleton_append, List.cons_append, List.nil_append, List.append_nil, nI_1, nt_e, Int32.le_refl]
theorem C_mark {x : Int32} {c : Bool} (hI : InvC u S L L') (hS : WS S) (h : ∀ u', Only inC u u' → InvC u' (markS S x c).1 L L' → post (some (.int (b2i (markS S x c).2))) (am_emb u')) : Cl (d + 3) 143 [.ref 0, .int x, .int (b2i c)] (am_emb u) post := by
  have hIc := hI
  have hS2 := hS.2.1
  have hS4 := hS.2.2.2.1
  obtain ⟨⟨r1, r2, r3, r4, r5, r6⟩, ⟨l1, l2, l3⟩, st, pst, mk, tp⟩ := hI
  rw [op_143]
  simp (disch := first | exact am_nl_i _ | exact am_nl_r _ | exact am_nl_0 | assumption | omega | (refine vi_nI ?_ ?_ <;> omega) | exact b2i_01 _ | exact Or.inl rfl | exact Or.inr rfl | (unfold vi; decide)) only [ex_143_0, ex_143_1, ex_143_4, ex_143_5, ex_143_6, ex_143_9, ex_143_10, ex_143_13, ex_143_14, ex_143_15, ex_143_16, ex_143_19, ex_143_20, ex_143_23, ex_143_25, ex_143_26, ex_143_32, ex_143_33, ex_143_36, ex_143_38, ex_143_42, ex_143_43, ex_143_44, ex_143_45, ex_143_48, ex_143_53, ex_143_56, ex_143_57, ex_143_58, ex_143_59, ex_143_62, ex_143_63, ex_143_66, ex_143_71, ex_143_72, ex_143_75, ex_143_76, if_true, if_false, and_self, Option.toList_some, Option.toList_none, List.singleton_append, List.cons_append, List.nil_append, List.append_nil, nI_1, nt_e, Int32.le_refl, b2i_0]
  unfold markS at h
  refine okI_g3 (n := 4) (by decide) (fun q => ?_) (fun q => ?_)
  · rw [q] at h
    exact h u (Only.rf _ _) hIc
  rw [q] at h
  obtain ⟨i1, i2⟩ := okI_ix q
  generalize ix x = k at *
  subst i2
  have har : AR u 147 (nI k).toNatClampNeg = some (148 + 10 * k) := by rw [nI_clamp (by omega)]; exact r5 k i1
  have hS : 148 + 10 * k < am_S := by unfold am_S; omega
  have hM : ∀ a, in10 (148 + 10 * k) a → inC a := fun a q => by unfold in10 at q; unfold inC; omega
  cases c
  · simp only [if_true]
    rw [ex_143_24 (vi_nI i1 (by omega)) har hS]
    simp (disch := first | exact am_nl_i _ | exact am_nl_r _ | exact am_nl_0 | assumption | omega | (refine vi_nI ?_ ?_ <;> omega) | exact b2i_01 _ | exact Or.inl rfl | exact Or.inr rfl | (unfold vi; decide)) only [ex_143_0, ex_143_1, ex_143_4, ex_143_5, ex_143_6, ex_143_9, ex_143_10, ex_143_13, ex_143_14, ex_143_15, ex_143_16, ex_143_19, ex_143_20, ex_143_23, ex_143_24, ex_143_25, ex_143_26, ex_143_32, ex_143_33, ex_143_36, ex_143_38, ex_143_42, ex_143_43, ex_143_44, ex_143_45, ex_143_48, ex_143_49, ex_143_50, ex_143_53, ex_143_56, ex_143_57, ex_143_58, ex_143_59, ex_143_62, ex_143_63, ex_143_66, ex_143_67, ex_143_68, ex_143_71, ex_143_72, ex_143_75, ex_143_76, if_true, if_false, and_self, Option.toList_some, Option.toList_none, List.singleton_append, List.cons_append, List.nil_append, List.append_nil, nI_1, nt_e, Int32.le_refl]
    rw [ex_143_29 (sh_mk k i1)]
    refine standSet_ok (sh_mk k i1) shl_64 (by omega) hS2.2.1.1 st (fun u1 o1 s1 f5 => ?_)
    have har1 : AR u1 147 (nI k).toNatClampNeg = some (148 + 10 * k) := by rw [(o1 147 (by unfold in10; omega)).2.2.2.2.2]; exact har
    simp (disch := first | exact am_nl_i _ | exact am_nl_r _ | exact am_nl_0 | assumption | omega | (refine vi_nI ?_ ?_ <;> omega) | exact b2i_01 _ | exact Or.inl rfl | exact Or.inr rfl | (unfold vi; decide)) only [ex_143_0, ex_143_1, ex_143_4, ex_143_5, ex_143_6, ex_143_9, ex_143_10, ex_143_13, ex_143_14, ex_143_15, ex_143_16, ex_143_19, ex_143_20, ex_143_23, ex_143_24, ex_143_25, ex_143_26, ex_143_29, ex_143_32, ex_143_33, ex_143_36, ex_143_38, ex_143_42, ex_143_43, ex_143_44, ex_143_45, ex_143_48, ex_143_49, ex_143_50, ex_143_53, ex_143_56, ex_143_57, ex_143_58, ex_143_59, ex_143_62, ex_143_63, ex_143_66, ex_143_67, ex_143_68, ex_143_71, ex_143_72, ex_143_75, ex_143_76, if_true, if_false, and_self, Option.toList_some, Option.toList_none, List.singleton_append, List.cons_append, List.nil_append, List.append_nil, nI_1, nt_e, Int32.le_refl]
    rw [ex_143_37 (vi_nI i1 (by omega)) har1 hS]
    simp (disch := first | exact am_nl_i _ | exact am_nl_r _ | exact am_nl_0 | assumption | omega | (refine vi_nI ?_ ?_ <;> omega) | exact b2i_01 _ | exact Or.inl rfl | exact Or.inr rfl | (unfold vi; decide)) only [ex_143_0, ex_143_1, ex_143_4, ex_143_5, ex_143_6, ex_143_9, ex_143_10, ex_143_13, ex_143_14, ex_143_15, ex_143_16, ex_143_19, ex_143_20, ex_143_23, ex_143_24, ex_143_25, ex_143_26, ex_143_29, ex_143_32, ex_143_33, ex_143_36, ex_143_37, ex_143_38, ex_143_42, ex_143_43, ex_143_44, ex_143_45, ex_143_48, ex_143_49, ex_143_50, ex_143_53, ex_143_56, ex_143_57, ex_143_58, ex_143_59, ex_143_62, ex_143_63, ex_143_66, ex_143_67, ex_143_68, ex_143_71, ex_143_72, ex_143_75, ex_143_76, if_true, if_false, and_self, Option.toList_some, Option.toList_none, List.singleton_append, List.cons_append, List.nil_append, List.append_nil, nI_1, nt_e, Int32.le_refl]
    rw [ex_143_39 (sh_mk k i1) (Or.inr rfl)]
    simp (disch := first | exact am_nl_i _ | exact am_nl_r _ | exact am_nl_0 | assumption | omega | (refine vi_nI ?_ ?_ <;> omega) | exact b2i_01 _ | exact Or.inl rfl | exact Or.inr rfl | (unfold vi; decide)) only [ex_143_0, ex_143_1, ex_143_4, ex_143_5, ex_143_6, ex_143_9, ex_143_10, ex_143_13, ex_143_14, ex_143_15, ex_143_16, ex_143_19, ex_143_20, ex_143_23, ex_143_24, ex_143_25, ex_143_26, ex_143_29, ex_143_32, ex_143_33, ex_143_36, ex_143_37, ex_143_38, ex_143_39, ex_143_42, ex_143_43, ex_143_44, ex_143_45, ex_143_48, ex_143_49, ex_143_50, ex_143_53, ex_143_56, ex_143_57, ex_143_58, ex_143_59, ex_143_62, ex_143_63, ex_143_66, ex_143_67, ex_143_68, ex_143_71, ex_143_72, ex_143_75, ex_143_76, if_true, if_false, and_self, Option.toList_some, Option.toList_none, List.singleton_append, List.cons_append, List.nil_append, List.append_nil, nI_1, nt_e, Int32.le_refl]
    have w : in10 (148 + 10 * k) (148 + 10 * k) := by unfold in10; omega
    have o2 : Only (in10 (148 + 10 * k)) u (sFI u1 (148 + 10 * k) 5 1) := of_fi o1 w
    refine h _ (o2.wk hM) (mark_inv i1 hIc o2 (by rw [FI_sFI, if_pos ⟨rfl, rfl⟩]) ?_)
    have oo : Only (fun z => z = 148 + 10 * k) u1 (sFI u1 (148 + 10 * k) 5 1) := Only.sFI rfl
    refine ⟨s1.1.keep oo (fun j hj (q : 148 + 10 * k + 1 + j = 148 + 10 * k) => by omega), s1.2.1.keep oo (fun j hj (q : 148 + 10 * k + 5 + j = 148 + 10 * k) => by omega), ?_⟩
    unfold ToldC
    rw [FI_sFI, if_neg (by omega), FI_sFI, if_neg (by omega), FI_sFI, if_neg (by omega)]
    exact s1.2.2
  · simp only [Bool.true_eq_false, if_false]
    obtain ⟨m1, m2⟩ := mk k i1
    rw [ex_143_49 (vi_nI i1 (by omega)) har hS, ex_143_50 (sh_mk k i1), m1]
    cases hs : S.2.2.2.1 k with
    | none =>
      simp only [if_true, hs] at h
      simp (disch := first | exact am_nl_i _ | exact am_nl_r _ | exact am_nl_0 | assumption | omega | (refine vi_nI ?_ ?_ <;> omega) | exact b2i_01 _ | exact Or.inl rfl | exact Or.inr rfl | (unfold vi; decide)) only [ex_143_0, ex_143_1, ex_143_4, ex_143_5, ex_143_6, ex_143_9, ex_143_10, ex_143_13, ex_143_14, ex_143_15, ex_143_16, ex_143_19, ex_143_20, ex_143_23, ex_143_24, ex_143_25, ex_143_26, ex_143_29, ex_143_32, ex_143_33, ex_143_36, ex_143_37, ex_143_38, ex_143_39, ex_143_42, ex_143_43, ex_143_44, ex_143_45, ex_143_48, ex_143_49, ex_143_50, ex_143_53, ex_143_56, ex_143_57, ex_143_58, ex_143_59, ex_143_62, ex_143_63, ex_143_66, ex_143_71, ex_143_72, ex_143_75, ex_143_76, if_true, if_false, and_self, Option.toList_some, Option.toList_none, List.singleton_append, List.cons_append, List.nil_append, List.append_nil, nI_1, nt_e, Int32.le_refl, show b2i (none : Option SN).isSome = 0 from rfl]
      exact h u (Only.rf _ _) hIc
    | some s =>
      simp only [if_true, hs] at h
      simp (disch := first | exact am_nl_i _ | exact am_nl_r _ | exact am_nl_0 | assumption | omega | (refine vi_nI ?_ ?_ <;> omega) | exact b2i_01 _ | exact Or.inl rfl | exact Or.inr rfl | (unfold vi; decide)) only [ex_143_0, ex_143_1, ex_143_4, ex_143_5, ex_143_6, ex_143_9, ex_143_10, ex_143_13, ex_143_14, ex_143_15, ex_143_16, ex_143_19, ex_143_20, ex_143_23, ex_143_24, ex_143_25, ex_143_26, ex_143_29, ex_143_32, ex_143_33, ex_143_36, ex_143_37, ex_143_38, ex_143_39, ex_143_42, ex_143_43, ex_143_44, ex_143_45, ex_143_48, ex_143_49, ex_143_50, ex_143_53, ex_143_56, ex_143_57, ex_143_58, ex_143_59, ex_143_62, ex_143_63, ex_143_66, ex_143_71, ex_143_72, ex_143_75, ex_143_76, if_true, if_false, and_self, Option.toList_some, Option.toList_none, List.singleton_append, List.cons_append, List.nil_append, List.append_nil, nI_1, nt_e, Int32.le_refl, show ((1 : Int32) = (0 : Int32)) = False from eq_false (by decide), show b2i (some s).isSome = 1 from rfl]
      rw [ex_143_67 (vi_nI i1 (by omega)) har hS, ex_143_68]
      refine standSet_ok shl_64 (sh_mk k i1) (by omega) (hS4 k s hs).2.1.1 (m2 s hs) (fun u1 o1 s1 f5 => ?_)
      simp (disch := first | exact am_nl_i _ | exact am_nl_r _ | exact am_nl_0 | assumption | omega | (refine vi_nI ?_ ?_ <;> omega) | exact b2i_01 _ | exact Or.inl rfl | exact Or.inr rfl | (unfold vi; decide)) only [ex_143_0, ex_143_1, ex_143_4, ex_143_5, ex_143_6, ex_143_9, ex_143_10, ex_143_13, ex_143_14, ex_143_15, ex_143_16, ex_143_19, ex_143_20, ex_143_23, ex_143_24, ex_143_25, ex_143_26, ex_143_29, ex_143_32, ex_143_33, ex_143_36, ex_143_37, ex_143_38, ex_143_39, ex_143_42, ex_143_43, ex_143_44, ex_143_45, ex_143_48, ex_143_49, ex_143_50, ex_143_53, ex_143_56, ex_143_57, ex_143_58, ex_143_59, ex_143_62, ex_143_63, ex_143_66, ex_143_67, ex_143_68, ex_143_71, ex_143_72, ex_143_75, ex_143_76, if_true, if_false, and_self, Option.toList_some, Option.toList_none, List.singleton_append, List.cons_append, List.nil_append, List.append_nil, nI_1, nt_e, Int32.le_refl, forget_ok]
      have hn := now_inv hIc (o1.wk (fun a q => by unfold in10 at q; unfold nowP; omega)) s1
      refine h _ ?_ (forget_inv hn)
      have w : inC 0 := by unfold inC; omega
      exact of_fi (of_fi (o1.wk (fun a q => by unfold in10 at q; unfold inC; omega)) w) w
end Mark
