/-! THE STATEMENTS, and the class's reading of them -/
def factR (v : LV) (T : Nat → Tok) (i : Nat) : Except Nat (LV × Nat) := match newR v (decide (12 ≤ nF v)) T i with
  | .error e => .error e
  | .ok p => match (if csort (T p.2) = 201 then factsR T v (p.2 + 1) else .ok (0, p.2)) with
    | .error e => .error e
    | .ok q => match wordR 59 T q.2 with
      | .error e => .error e
      | .ok j => .ok (addFactV v p.1 q.1, j)
def kindR (T : Nat → Tok) (i : Nat) : Except Nat (Nat × Nat) := if 217 ≤ csort (T i) ∧ csort (T i) ≤ 219 then .ok (csort (T i) - 217, i + 1) else .error (fl 1 (T i))
def pageR (v : LV) (T : Nat → Tok) (i : Nat) : Except Nat (LV × Nat) := match newR v (decide (12 ≤ nP v)) T i with
  | .error e => .error e
  | .ok p => match kindR T p.2 with
    | .error e => .error e
    | .ok k => match bothR 203 1 9 T k.2 with
      | .error e => .error e
      | .ok w => match bothR 204 0 9 T w.2 with
        | .error e => .error e
        | .ok c => match wordR 205 T c.2 with
          | .error e => .error e
          | .ok y => match factsR T v y with
            | .error e => .error e
            | .ok s => match wordR 59 T s.2 with
              | .error e => .error e
              | .ok j => .ok (addPageV v p.1 k.1 w.1 c.1 s.1, j)
def clashR (v : LV) (T : Nat → Tok) (i : Nat) : Except Nat (LV × Nat) := match lookR v 0 (T (i + 1)) with
  | .error e => .error e
  | .ok a => match lookR v 0 (T (i + 2)) with
    | .error e => .error e
    | .ok b => if a = b ∨ bt (clashV v a) b = true then .error (fl 3 (T (i + 2))) else match wordR 59 T (i + 3) with
      | .error e => .error e
      | .ok j => .ok (addClashV v a b, j)
def heirR (v : LV) (T : Nat → Tok) (i : Nat) : Except Nat (Option Nat × Nat) := if csort (T i) = 210 then (match lookR v 2 (T (i + 1)) with | .error e => .error e | .ok a => .ok (some a, i + 2)) else .ok (none, i)
def personR (v : LV) (T : Nat → Tok) (i : Nat) : Except Nat (LV × Nat) := match newR v (decide (6 ≤ nE v)) T i with
  | .error e => .error e
  | .ok p => match bothR 208 0 40 T p.2 with
    | .error e => .error e
    | .ok r => match bothR 209 0 10 T r.2 with
      | .error e => .error e
      | .ok x => match heirR v T x.2 with
        | .error e => .error e
        | .ok h => match wordR 59 T h.2 with
          | .error e => .error e
          | .ok j => .ok (addPersonV v p.1 r.1 x.1 h.1, j)
def taskR (v : LV) (T : Nat → Tok) (i : Nat) : Except Nat (LV × Nat) := match newR v (decide (5 ≤ nT v)) T i with
  | .error e => .error e
  | .ok p => match bothR 212 0 99 T p.2 with
    | .error e => .error e
    | .ok r => match wordR 213 T r.2 with
      | .error e => .error e
      | .ok y => match factsR T v y with
        | .error e => .error e
        | .ok s => match wordR 59 T s.2 with
          | .error e => .error e
          | .ok j => .ok (addTaskV v p.1 r.1 s.1, j)
def burnR (v : LV) (told : Bool) (T : Nat → Tok) (i : Nat) : Except Nat (LV × Nat) := if told then .error (fl 3 (T i)) else match numR 0 10 T (i + 1) with
  | .error e => .error e
  | .ok x => match wordR 59 T x.2 with
    | .error e => .error e
    | .ok j => .ok (setBurnV v x.1, j)
def adP (L : Nat) (a : Nat) : Prop := a = 6 ∨ (L ≤ a ∧ a ≤ L + 19)
theorem newR_i {v : LV} {b : Bool} {T : Nat → Tok} {i j : Nat} {w : List Nat} (h : newR v b T i = .ok (w, j)) : j = i + 2 ∧ b = false := by
  unfold newR at h
  cases b
  · simp only [Bool.false_eq_true, if_false] at h
    cases z : newE v (T (i + 1)) with
    | some e => rw [z] at h; cases h
    | none => rw [z] at h; cases h; exact ⟨rfl, rfl⟩
  · simp only [if_true] at h
    cases h
theorem numR_i {lo hi : Nat} {T : Nat → Tok} {i j x : Nat} (h : numR lo hi T i = .ok (x, j)) : j = i + 1 ∧ lo ≤ x ∧ x ≤ hi := by
  unfold numR at h
  by_cases q : csort (T i) = 2
  · rw [if_pos q] at h
    split at h
    · next q2 => cases h; exact ⟨rfl, q2⟩
    · cases h
  · rw [if_neg q] at h; cases h
theorem wordR_i {s : Nat} {T : Nat → Tok} {i j : Nat} (h : wordR s T i = .ok j) : j = i + 1 ∧ csort (T i) = s := by
  unfold wordR at h
  by_cases q : csort (T i) = s
  · rw [if_pos q] at h; cases h; exact ⟨rfl, q⟩
  · rw [if_neg q] at h; cases h
section StmC
variable {d n m i e L : Nat} {u : am_U} {f : Nat → Nat} {v : LV} {post : Option Value → am_M → Prop}
theorem takeNumXi {x y : Int32} (h : FltC u e) (h1 : FI u 6 1 = nI i) (hi : i ≤ 1000) : Cl (d + 1) 74 [.ref 6, .int x, .int y] (am_emb u) post ↔ post (some (.int ((AJ u 5 i).toInt32))) (am_emb u) := by
  refine Cl_iff ?_ post
  rw [op_74]
  by_cases q : AI u 3 i = 2
  · by_cases q1 : (AJ u 5 i).toInt32 < x
    · simp (disch := first | exact am_nl_i _ | exact am_nl_r _ | exact am_nl_0 | (refine vi_nI ?_ ?_ <;> omega) | assumption | omega | exact b2i_01 _ | exact Or.inl rfl | exact Or.inr rfl | (unfold vi; decide)) only [ex_74_0, ex_74_1, ex_74_4, ex_74_5, ex_74_6, ex_74_7, ex_74_10, ex_74_11, ex_74_14, ex_74_15, ex_74_16, ex_74_19, ex_74_22, ex_74_23, ex_74_24, ex_74_27, ex_74_28, ex_74_29, ex_74_32, ex_74_33, ex_74_34, ex_74_37, ex_74_38, ex_74_41, ex_74_42, if_true, if_false, and_self, Option.toList_some, Option.toList_none, List.singleton_append, List.cons_append, List.nil_append, List.append_nil, nI_1, nt_e, Int32.le_refl, rvalue_g h1 hi, rsort_g h1 hi, q, q1, stepX h, failX h, Bool.true_eq_false, Bool.false_eq_true, ↓reduceIte]
      try exact ⟨rfl, trivial⟩
    · by_cases q2 : (AJ u 5 i).toInt32 ≤ y
      · simp (disch := first | exact am_nl_i _ | exact am_nl_r _ | exact am_nl_0 | (refine vi_nI ?_ ?_ <;> omega) | assumption | omega | exact b2i_01 _ | exact Or.inl rfl | exact Or.inr rfl | (unfold vi; decide)) only [ex_74_0, ex_74_1, ex_74_4, ex_74_5, ex_74_6, ex_74_7, ex_74_10, ex_74_11, ex_74_14, ex_74_15, ex_74_16, ex_74_19, ex_74_22, ex_74_23, ex_74_24, ex_74_27, ex_74_28, ex_74_29, ex_74_32, ex_74_33, ex_74_34, ex_74_37, ex_74_38, ex_74_41, ex_74_42, if_true, if_false, and_self, Option.toList_some, Option.toList_none, List.singleton_append, List.cons_append, List.nil_append, List.append_nil, nI_1, nt_e, Int32.le_refl, rvalue_g h1 hi, rsort_g h1 hi, q, q1, q2, stepX h, failX h, Bool.true_eq_false, Bool.false_eq_true, ↓reduceIte]
        try exact ⟨rfl, trivial⟩
      · simp (disch := first | exact am_nl_i _ | exact am_nl_r _ | exact am_nl_0 | (refine vi_nI ?_ ?_ <;> omega) | assumption | omega | exact b2i_01 _ | exact Or.inl rfl | exact Or.inr rfl | (unfold vi; decide)) only [ex_74_0, ex_74_1, ex_74_4, ex_74_5, ex_74_6, ex_74_7, ex_74_10, ex_74_11, ex_74_14, ex_74_15, ex_74_16, ex_74_19, ex_74_22, ex_74_23, ex_74_24, ex_74_27, ex_74_28, ex_74_29, ex_74_32, ex_74_33, ex_74_34, ex_74_37, ex_74_38, ex_74_41, ex_74_42, if_true, if_false, and_self, Option.toList_some, Option.toList_none, List.singleton_append, List.cons_append, List.nil_append, List.append_nil, nI_1, nt_e, Int32.le_refl, rvalue_g h1 hi, rsort_g h1 hi, q, q1, q2, stepX h, failX h, Bool.true_eq_false, Bool.false_eq_true, ↓reduceIte]
        try exact ⟨rfl, trivial⟩
  · simp (disch := first | exact am_nl_i _ | exact am_nl_r _ | exact am_nl_0 | (refine vi_nI ?_ ?_ <;> omega) | assumption | omega | exact b2i_01 _ | exact Or.inl rfl | exact Or.inr rfl | (unfold vi; decide)) only [ex_74_0, ex_74_1, ex_74_4, ex_74_5, ex_74_6, ex_74_7, ex_74_10, ex_74_11, ex_74_14, ex_74_15, ex_74_16, ex_74_19, ex_74_22, ex_74_23, ex_74_24, ex_74_27, ex_74_28, ex_74_29, ex_74_32, ex_74_33, ex_74_34, ex_74_37, ex_74_38, ex_74_41, ex_74_42, if_true, if_false, and_self, Option.toList_some, Option.toList_none, List.singleton_append, List.cons_append, List.nil_append, List.append_nil, nI_1, nt_e, Int32.le_refl, rvalue_g h1 hi, rsort_g h1 hi, q, stepX h, failX h, Bool.true_eq_false, Bool.false_eq_true, ↓reduceIte]
    try exact ⟨rfl, trivial⟩
theorem takeToldXi {a cnt : Nat} (h : FltC u e) (ha : sh a 6 3) (hc : FI u a 2 = nI cnt) (hc2 : cnt ≤ 12) : Cl (d + 3) 77 [.ref 6, .ref a] (am_emb u) post ↔ post (some (.int (-1))) (am_emb u) := Cl_iff (takeToldX h ha hc hc2 ⟨rfl, rfl⟩) post
theorem lookUpXi {a cnt : Nat} (h : FltC u e) (ha : sh a 6 3) (hc : FI u a 2 = nI cnt) (hc2 : cnt ≤ 12) : Cl (d + 2) 76 [.ref 6, .ref a] (am_emb u) post ↔ post (some (.int (-1))) (am_emb u) := Cl_iff (lookUpX h ha hc hc2 ⟨rfl, rfl⟩) post
theorem takeFactsX (h : FltC u e) : Cl (d + 3) 78 [.ref 6] (am_emb u) post ↔ post (some (.int 0)) (am_emb u) := by
  have z := flt_ne h
  rw [op_78]
  simp (disch := first | exact am_nl_i _ | exact am_nl_r _ | exact am_nl_0 | (refine vi_nI ?_ ?_ <;> omega) | assumption | omega | exact b2i_01 _ | exact Or.inl rfl | exact Or.inr rfl | (unfold vi; decide)) only [ex_78_0, ex_78_1, ex_78_2, ex_78_3, ex_78_5, ex_78_8, ex_78_11, ex_78_12, ex_78_15, ex_78_18, ex_78_19, ex_78_22, ex_78_23, ex_78_26, ex_78_28, ex_78_31, ex_78_32, ex_78_33, ex_78_36, ex_78_39, ex_78_42, ex_78_43, ex_78_44, ex_78_45, ex_78_48, ex_78_49, ex_78_50, ex_78_51, ex_78_52, ex_78_53, ex_78_56, ex_78_57, ex_78_58, ex_78_61, ex_78_62, ex_78_65, ex_78_68, ex_78_69, ex_78_70, ex_78_71, ex_78_72, ex_78_73, ex_78_74, ex_78_75, ex_78_78, ex_78_81, ex_78_84, ex_78_85, if_true, if_false, and_self, Option.toList_some, Option.toList_none, List.singleton_append, List.cons_append, List.nil_append, List.append_nil, nI_1, nt_e, Int32.le_refl, Bool.true_eq_false, Bool.false_eq_true, ↓reduceIte]
  rw [ex_78_4]
  simp (disch := first | exact am_nl_i _ | exact am_nl_r _ | exact am_nl_0 | (refine vi_nI ?_ ?_ <;> omega) | assumption | omega | exact b2i_01 _ | exact Or.inl rfl | exact Or.inr rfl | (unfold vi; decide)) only [ex_78_0, ex_78_1, ex_78_2, ex_78_3, ex_78_5, ex_78_8, ex_78_11, ex_78_12, ex_78_15, ex_78_18, ex_78_19, ex_78_22, ex_78_23, ex_78_26, ex_78_28, ex_78_31, ex_78_32, ex_78_33, ex_78_36, ex_78_39, ex_78_42, ex_78_43, ex_78_44, ex_78_45, ex_78_48, ex_78_49, ex_78_50, ex_78_51, ex_78_52, ex_78_53, ex_78_56, ex_78_57, ex_78_58, ex_78_61, ex_78_62, ex_78_65, ex_78_68, ex_78_69, ex_78_70, ex_78_71, ex_78_72, ex_78_73, ex_78_74, ex_78_75, ex_78_78, ex_78_81, ex_78_84, ex_78_85, if_true, if_false, and_self, Option.toList_some, Option.toList_none, List.singleton_append, List.cons_append, List.nil_append, List.append_nil, nI_1, nt_e, Int32.le_refl, z, show ¬ (1000 : Int32) ≤ 0 from by decide, Bool.true_eq_false, Bool.false_eq_true, ↓reduceIte]
theorem Only.rd {u' : am_U} (h : RdO u u') : Only (adP L) u u' := h.1.wk (fun a q => Or.inl q)
theorem Only.lb {u' : am_U} (h : Only (libP L) u u') : Only (adP L) u u' := h.wk (fun a q => Or.inr q)
theorem BkC.most {u : am_U} (h : BkC u L v) : most4 u L := h.1.2.1
/-- a statement's reading by the class -/
def StmC (u : am_U) (n : Nat) (f : Nat → Nat) (m L : Nat) (r : Except Nat (LV × Nat)) (post : Option Value → am_M → Prop) : Prop :=
  (∀ e u', r = .error e → Only (adP L) u u' → most4 u' L → FltC u' e → post none (am_emb u')) ∧
  (∀ v' j u', r = .ok (v', j) → Only (adP L) u u' → (∀ k, ¬ k = 1 → ¬ k = 9 → FI u' 6 k = FI u 6 k) → FR u' 6 = FR u 6 → BkC u' L v' → RdC u' n f m j → post none (am_emb u'))
theorem lib_6 {u' : am_U} (hLL : L = 7 ∨ L = 33) (h : Only (libP L) u u') : FI u' 6 = FI u 6 ∧ FR u' 6 = FR u 6 := by
  have := h 6 (by unfold libP; omega)
  exact ⟨this.1, this.2.2.1⟩
theorem RdC.lib {u' : am_U} (hLL : L = 7 ∨ L = 33) (h : RdC u n f m i) (ho : Only (libP L) u u') : RdC u' n f m i := h.keep ho (by unfold libP; omega) (by unfold libP; omega) (by unfold libP; omega) (by unfold libP; omega) (by unfold libP; omega)
theorem readFact_ok (h : RdC u n f m i) (hk : ¬ csort (tk n f i) = 3) (hB : BkC u L v) (hp : StmC u n f m L (factR v (tk n f) i) post) : Cl (d + 4) 82 [.ref 6] (am_emb u) post := by
  obtain ⟨hb, hg⟩ := hp
  have hL := hB.sh
  have hLL := hB.2.2.2.2
  rw [op_82]
  simp (disch := first | exact am_nl_i _ | exact am_nl_r _ | exact am_nl_0 | assumption | omega | (refine vi_nI ?_ ?_ <;> omega) | exact b2i_01 _ | exact Or.inl rfl | exact Or.inr rfl | (unfold vi; decide)) only [ex_82_0, ex_82_1, ex_82_2, ex_82_5, ex_82_11, ex_82_12, ex_82_13, ex_82_14, ex_82_15, ex_82_18, ex_82_21, ex_82_24, ex_82_25, ex_82_28, ex_82_29, ex_82_32, ex_82_33, ex_82_34, ex_82_37, ex_82_40, ex_82_41, ex_82_44, ex_82_45, ex_82_46, ex_82_49, if_true, if_false, and_self, Option.toList_some, Option.toList_none, List.singleton_append, List.cons_append, List.nil_append, List.append_nil, nI_1, nt_e, Int32.le_refl, hB.2.2.1, va_rfs]
  rw [ex_82_8]
  refine takeNew_ok (mst := 12) h hk hB (sh_3_1 hL) hB.1.1.1 hB.1.2.1.1 hB.2.2.2.1.1 (by decide) (fun e w u1 z o1 F => ?_) (fun w j u1 z o1 R1 hw => ?_)
  · have hfin := hb e u1 (by simp only [factR, z]) (Only.rd o1) (hB.rd o1).most F
    obtain ⟨i1, hi1, h1⟩ := F.2.2.2
    by_cases q : AI u1 3 i1 = 201
    · simp (disch := first | exact am_nl_i _ | exact am_nl_r _ | exact am_nl_0 | (refine vi_nI ?_ ?_ <;> omega) | assumption | omega | exact b2i_01 _ | exact Or.inl rfl | exact Or.inr rfl | (unfold vi; decide)) only [ex_82_0, ex_82_1, ex_82_2, ex_82_5, ex_82_8, ex_82_11, ex_82_12, ex_82_13, ex_82_14, ex_82_15, ex_82_18, ex_82_21, ex_82_24, ex_82_25, ex_82_28, ex_82_29, ex_82_32, ex_82_33, ex_82_34, ex_82_37, ex_82_40, ex_82_41, ex_82_44, ex_82_45, ex_82_46, ex_82_49, if_true, if_false, and_self, Option.toList_some, Option.toList_none, List.singleton_append, List.cons_append, List.nil_append, List.append_nil, nI_1, nt_e, Int32.le_refl, rsort_g h1 hi1, q, stepX F, takeFactsX F, endsX F, Bool.true_eq_false, Bool.false_eq_true, ↓reduceIte]
      exact hfin
    · simp (disch := first | exact am_nl_i _ | exact am_nl_r _ | exact am_nl_0 | (refine vi_nI ?_ ?_ <;> omega) | assumption | omega | exact b2i_01 _ | exact Or.inl rfl | exact Or.inr rfl | (unfold vi; decide)) only [ex_82_0, ex_82_1, ex_82_2, ex_82_5, ex_82_8, ex_82_11, ex_82_12, ex_82_13, ex_82_14, ex_82_15, ex_82_18, ex_82_21, ex_82_24, ex_82_25, ex_82_28, ex_82_29, ex_82_32, ex_82_33, ex_82_34, ex_82_37, ex_82_40, ex_82_41, ex_82_44, ex_82_45, ex_82_46, ex_82_49, if_true, if_false, and_self, Option.toList_some, Option.toList_none, List.singleton_append, List.cons_append, List.nil_append, List.append_nil, nI_1, nt_e, Int32.le_refl, rsort_g h1 hi1, q, endsX F, Bool.true_eq_false, Bool.false_eq_true, ↓reduceIte]
      exact hfin
  · have hj := (newR_i z).1
    have hlt : nF v < 12 := by have := of_decide_eq_false (newR_i z).2; omega
    have B1 := hB.rd o1
    have hl := cs_lt (tk_ok (n := n) (f := f) j)
    have fin : ∀ (s : Int32) (j2 : Nat) (u2 : am_U), (if csort (tk n f j) = 201 then factsR (tk n f) v (j + 1) else .ok (0, j)) = .ok (s, j2) → RdO u u2 → RdC u2 n f m j2 → Ex (d + 4) 82 33 [some (.ref 6), some (.long (Int64.ofNat (bas 32 w))), none, some (.int s)] [] (am_emb u2) post := by
      intro s j2 u2 z2 o2 R2
      have B2 := hB.rd o2
      rw [ex_82_33]
      rw [ex_82_34]
      refine endsW_ok R2 (fun e u3 z3 o3 F => ?_) (fun j3 u3 z3 o3 R3 => ?_)
      · have hfin := hb e u3 (by simp only [factR, z, z2, z3]) (Only.rd (o2.tr o3)) (hB.rd (o2.tr o3)).most F
        simp (disch := first | exact am_nl_i _ | exact am_nl_r _ | exact am_nl_0 | (refine vi_nI ?_ ?_ <;> omega) | assumption | omega | exact b2i_01 _ | exact Or.inl rfl | exact Or.inr rfl | (unfold vi; decide)) only [ex_82_0, ex_82_1, ex_82_2, ex_82_5, ex_82_8, ex_82_11, ex_82_12, ex_82_13, ex_82_14, ex_82_15, ex_82_18, ex_82_21, ex_82_24, ex_82_25, ex_82_28, ex_82_29, ex_82_32, ex_82_33, ex_82_34, ex_82_37, ex_82_40, ex_82_41, ex_82_44, ex_82_45, ex_82_46, ex_82_49, if_true, if_false, and_self, Option.toList_some, Option.toList_none, List.singleton_append, List.cons_append, List.nil_append, List.append_nil, nI_1, nt_e, Int32.le_refl, Bool.true_eq_false, Bool.false_eq_true, ↓reduceIte]
        exact hfin
      · have B3 := hB.rd (o2.tr o3)
        simp (disch := first | exact am_nl_i _ | exact am_nl_r _ | exact am_nl_0 | (refine vi_nI ?_ ?_ <;> omega) | assumption | omega | exact b2i_01 _ | exact Or.inl rfl | exact Or.inr rfl | (unfold vi; decide)) only [ex_82_0, ex_82_1, ex_82_2, ex_82_5, ex_82_8, ex_82_11, ex_82_12, ex_82_13, ex_82_14, ex_82_15, ex_82_18, ex_82_21, ex_82_24, ex_82_25, ex_82_28, ex_82_29, ex_82_32, ex_82_33, ex_82_34, ex_82_37, ex_82_40, ex_82_41, ex_82_44, ex_82_45, ex_82_49, if_true, if_false, and_self, Option.toList_some, Option.toList_none, List.singleton_append, List.cons_append, List.nil_append, List.append_nil, nI_1, nt_e, Int32.le_refl, B3.2.2.1, va_rfs, show ((1 : Int32) = (0 : Int32)) = False from eq_false (by decide), Bool.true_eq_false, Bool.false_eq_true, ↓reduceIte]
        rw [ex_82_46]
        refine addFact_ok B3 hw hlt (fun u4 o4 B4 => ?_)
        have k4 := lib_6 hLL o4
        have hfin := hg _ j3 u4 (by simp only [factR, z, z2, z3]) ((Only.rd (o2.tr o3)).tr (Only.lb o4)) (fun k a b => by rw [k4.1]; exact (o2.tr o3).2.1 k a b) (by rw [k4.2]; exact (o2.tr o3).2.2) B4 (R3.lib hLL o4)
        simp (disch := first | exact am_nl_i _ | exact am_nl_r _ | exact am_nl_0 | (refine vi_nI ?_ ?_ <;> omega) | assumption | omega | exact b2i_01 _ | exact Or.inl rfl | exact Or.inr rfl | (unfold vi; decide)) only [ex_82_0, ex_82_1, ex_82_2, ex_82_5, ex_82_8, ex_82_11, ex_82_12, ex_82_13, ex_82_14, ex_82_15, ex_82_18, ex_82_21, ex_82_24, ex_82_25, ex_82_28, ex_82_29, ex_82_32, ex_82_33, ex_82_34, ex_82_37, ex_82_40, ex_82_41, ex_82_44, ex_82_45, ex_82_46, ex_82_49, if_true, if_false, and_self, Option.toList_some, Option.toList_none, List.singleton_append, List.cons_append, List.nil_append, List.append_nil, nI_1, nt_e, Int32.le_refl, Bool.true_eq_false, Bool.false_eq_true, ↓reduceIte]
        exact hfin
        all_goals exact hL
    by_cases q : csort (tk n f j) = 201
    · have q2 : nI (csort (tk n f j)) = 201 := by rw [q]; rfl
      have R2 := step_r R1 (show ¬ csort (tk n f j) = 3 by omega)
      have o2 : RdO u (sFI u1 6 1 (nI (j + 1))) := o1.fi (Or.inl rfl)
      simp (disch := first | exact am_nl_i _ | exact am_nl_r _ | exact am_nl_0 | (refine vi_nI ?_ ?_ <;> omega) | assumption | omega | exact b2i_01 _ | exact Or.inl rfl | exact Or.inr rfl | (unfold vi; decide)) only [ex_82_0, ex_82_1, ex_82_2, ex_82_5, ex_82_8, ex_82_11, ex_82_12, ex_82_13, ex_82_14, ex_82_15, ex_82_18, ex_82_21, ex_82_24, ex_82_25, ex_82_28, ex_82_32, ex_82_34, ex_82_37, ex_82_40, ex_82_41, ex_82_44, ex_82_45, ex_82_46, ex_82_49, if_true, if_false, and_self, Option.toList_some, Option.toList_none, List.singleton_append, List.cons_append, List.nil_append, List.append_nil, nI_1, nt_e, Int32.le_refl, rsort_ok R1, q2, step_ok R1 (show ¬ csort (tk n f j) = 3 by omega), Bool.true_eq_false, Bool.false_eq_true, ↓reduceIte]
      rw [ex_82_29]
      refine takeFacts_ok R2 (hB.rd o2) (by omega) (fun e x u3 z3 o3 F => ?_) (fun s j2 u3 z3 o3 R3 => ?_)
      · have hfin := hb e u3 (by simp only [factR, z, q, if_true, z3]) (Only.rd (o2.tr o3)) (hB.rd (o2.tr o3)).most F
        simp (disch := first | exact am_nl_i _ | exact am_nl_r _ | exact am_nl_0 | (refine vi_nI ?_ ?_ <;> omega) | assumption | omega | exact b2i_01 _ | exact Or.inl rfl | exact Or.inr rfl | (unfold vi; decide)) only [ex_82_0, ex_82_1, ex_82_2, ex_82_5, ex_82_8, ex_82_11, ex_82_12, ex_82_13, ex_82_14, ex_82_15, ex_82_18, ex_82_21, ex_82_24, ex_82_25, ex_82_28, ex_82_29, ex_82_32, ex_82_33, ex_82_34, ex_82_37, ex_82_40, ex_82_41, ex_82_44, ex_82_45, ex_82_46, ex_82_49, if_true, if_false, and_self, Option.toList_some, Option.toList_none, List.singleton_append, List.cons_append, List.nil_append, List.append_nil, nI_1, nt_e, Int32.le_refl, endsX F, Bool.true_eq_false, Bool.false_eq_true, ↓reduceIte]
        exact hfin
      · simp (disch := first | exact am_nl_i _ | exact am_nl_r _ | exact am_nl_0 | (refine vi_nI ?_ ?_ <;> omega) | assumption | omega | exact b2i_01 _ | exact Or.inl rfl | exact Or.inr rfl | (unfold vi; decide)) only [ex_82_0, ex_82_1, ex_82_2, ex_82_5, ex_82_8, ex_82_11, ex_82_12, ex_82_13, ex_82_14, ex_82_15, ex_82_18, ex_82_21, ex_82_24, ex_82_25, ex_82_28, ex_82_29, ex_82_32, ex_82_34, ex_82_37, ex_82_40, ex_82_41, ex_82_44, ex_82_45, ex_82_46, ex_82_49, if_true, if_false, and_self, Option.toList_some, Option.toList_none, List.singleton_append, List.cons_append, List.nil_append, List.append_nil, nI_1, nt_e, Int32.le_refl, Bool.true_eq_false, Bool.false_eq_true, ↓reduceIte]
        exact fin s j2 u3 (by rw [if_pos q]; exact z3) (o2.tr o3) R3
    · have q2 : ¬ nI (csort (tk n f j)) = 201 := fun y => q ((nI_eqI (b := 201) (by omega) (by omega)).mp y)
      simp (disch := first | exact am_nl_i _ | exact am_nl_r _ | exact am_nl_0 | (refine vi_nI ?_ ?_ <;> omega) | assumption | omega | exact b2i_01 _ | exact Or.inl rfl | exact Or.inr rfl | (unfold vi; decide)) only [ex_82_0, ex_82_1, ex_82_2, ex_82_5, ex_82_8, ex_82_11, ex_82_12, ex_82_13, ex_82_14, ex_82_15, ex_82_18, ex_82_21, ex_82_24, ex_82_25, ex_82_28, ex_82_29, ex_82_32, ex_82_34, ex_82_37, ex_82_40, ex_82_41, ex_82_44, ex_82_45, ex_82_46, ex_82_49, if_true, if_false, and_self, Option.toList_some, Option.toList_none, List.singleton_append, List.cons_append, List.nil_append, List.append_nil, nI_1, nt_e, Int32.le_refl, rsort_ok R1, q2, Bool.true_eq_false, Bool.false_eq_true, ↓reduceIte]
      exact fin 0 j u1 (by rw [if_neg q]) o1 R1
  all_goals exact hL
end StmC
