/-! A LAW'S STATEMENT, of the class -/
def lawR (P : Nat → Nat → Rt) (v : LV) (b told : Bool) (T : Nat → Tok) (i : Nat) : Except Nat (LV × Nat) := if told then .error (fl 3 (T i)) else (match P (othB b) (i + 1) with
  | .error e => .error e
  | .ok p => match wordR 59 T p.2 with
    | .error e => .error e
    | .ok j => .ok (setLawV v (if b then 1 else 0) p.1.2.1, j))
/-- P parses, wherever it is asked -/
def PrsOk (P : Nat → Nat → Rt) (n : Nat) (f : Nat → Nat) (m : Nat) : Prop := ∀ (b : Bool) (i : Nat), i ≤ m → PrL (tk n f) (othB b) 0 0 i (P (othB b) i)
theorem prs_ex {n m : Nat} {f : Nat → Nat} (hE : EndAt n f m) : ∃ P, PrsOk P n f m := by
  have key : ∀ (b : Bool) (i : Nat), i ≤ m → ∃ r, PrL (tk n f) (othB b) 0 0 i r := fun b i hi => (pr_ex hE (by cases b <;> decide) ((m + 1 - i) * 10 + 6)).2.1 0 0 i (by omega) (by omega) hi
  obtain ⟨g, hg⟩ := Classical.axiomOfChoice (r := fun (x : Bool × Nat) (r : Rt) => x.2 ≤ m → PrL (tk n f) (othB x.1) 0 0 x.2 r) (fun x => by
    by_cases h : x.2 ≤ m
    · obtain ⟨r, hr⟩ := key x.1 x.2 h
      exact ⟨r, fun _ => hr⟩
    · exact ⟨.error 0, fun q => absurd q h⟩)
  refine ⟨fun oth i => g (decide (oth = 228), i), fun b i hi => ?_⟩
  have e : decide (othB b = 228) = b := by cases b <;> rfl
  show PrL (tk n f) (othB b) 0 0 i (g (decide (othB b = 228), i))
  rw [e]
  exact hg (b, i) hi
/-- both laws of the class's library at L -/
def LwC (u : am_U) (L : Nat) (v : LV) : Prop := FmC u (L + 20) (lawV v 0) ∧ FmC u (L + 23) (lawV v 1)
theorem LwC.keep {P : Nat → Prop} {u u' : am_U} {L : Nat} {v : LV} (h : LwC u L v) (ho : Only P u u') (hp : ¬ P (L + 20) ∧ ¬ P (L + 21) ∧ ¬ P (L + 23) ∧ ¬ P (L + 24)) : LwC u' L v := ⟨h.1.keep ho hp.1 hp.2.1, h.2.keep ho hp.2.2.1 hp.2.2.2⟩
def StmL (u : am_U) (n : Nat) (f : Nat → Nat) (m L : Nat) (r : Except Nat (LV × Nat)) (post : Option Value → am_M → Prop) : Prop :=
  (∀ e u', r = .error e → Only (bkP L) u u' → most4 u' L → FltC u' e → post none (am_emb u')) ∧
  (∀ v' j u', r = .ok (v', j) → Only (bkP L) u u' → (∀ k, ¬ k = 1 → ¬ k = 5 → ¬ k = 9 → FI u' 6 k = FI u 6 k) → BkC u' L v' → LwC u' L v' → RdC u' n f m j → post none (am_emb u'))
section LawC
variable {d n m i e L : Nat} {u : am_U} {f : Nat → Nat} {v : LV} {b : Bool} {P : Nat → Nat → Rt} {post : Option Value → am_M → Prop}
def faB (L : Nat) (b : Bool) : Nat := if b then L + 23 else L + 20
theorem faB_at (hLL : L = 7 ∨ L = 33) : fAt (faB L b) := by
  unfold faB fAt
  cases b
  · show L + 20 = 27 ∨ L + 20 = 30 ∨ L + 20 = 53 ∨ L + 20 = 56; omega
  · show L + 23 = 27 ∨ L + 23 = 30 ∨ L + 23 = 53 ∨ L + 23 = 56; omega
theorem faB_c : faB L b = L + 20 ∨ faB L b = L + 23 := by
  unfold faB
  cases b
  · exact Or.inl rfl
  · exact Or.inr rfl
/-- the formula is laid ready -/
def fmU (u : am_U) (a : Nat) (o : Int32) : am_U := sFI (sFI (sFR u 6 4 (some a)) a 2 0) 6 5 o
theorem fmU_o {a : Nat} {o : Int32} : Only (fmP a) u (fmU u a o) := of_fi (of_fi (of_fr (Only.rf _ _) (Or.inl rfl)) (Or.inr (Or.inl rfl))) (Or.inl rfl)
theorem FltC.fmU {a : Nat} {o : Int32} (h : FltC u e) (ha : ¬ a = 6) : FltC (fmU u a o) e := by
  obtain ⟨h1, h2, h3, i, h4, h5⟩ := h
  refine ⟨?_, h2, h3, i, h4, ?_⟩
  · show FI (sFI (sFI (sFR u 6 4 (some a)) a 2 0) 6 5 o) 6 9 = _
    rw [FI_sFI, if_neg (by omega), FI_sFI, if_neg (by omega)]; exact h1
  · show FI (sFI (sFI (sFR u 6 4 (some a)) a 2 0) 6 5 o) 6 1 = _
    rw [FI_sFI, if_neg (by omega), FI_sFI, if_neg (by omega)]; exact h5
theorem fmP_bk {a : Nat} (ha : a = L + 20 ∨ a = L + 23) : ∀ x, fmP a x → bkP L x := fun x q => by unfold fmP at q; unfold bkP; omega
theorem most_fm {a : Nat} {u' : am_U} (hLL : L = 7 ∨ L = 33) (ha : a = L + 20 ∨ a = L + 23) (h : most4 u L) (ho : Only (fmP a) u u') : most4 u' L := by
  have e := fun k (hk : k = 1 ∨ k = 3 ∨ k = 5 ∨ k = 7) => (ho (L + k) (by unfold fmP; omega)).1
  unfold most4
  rw [e 1 (by omega), e 3 (by omega), e 5 (by omega), e 7 (by omega)]
  exact h
theorem readFormX {a : Nat} {x : Int32} (ha : fAt a) (h : FltC u e) : Cl (d + 9) 87 [.ref 6, .ref a, .int x] (am_emb u) post ↔ post none (am_emb (fmU u a x)) := by
  have hs := fAt_sh ha
  have n6 : ¬ a = 6 := by unfold fAt at ha; omega
  have F := h.fmU (o := x) n6
  have g4 : FR (sFR u 6 4 (some a)) 6 4 = some a := by rw [FR_sFR, if_pos ⟨rfl, rfl⟩]
  have rl := fun {post} => readLevelX F 4 0 rfl (d := d + 1) (x := nI 0) (post := post)
  rw [op_87]
  simp (disch := first | exact am_nl_i _ | exact am_nl_r _ | exact am_nl_0 | (refine vi_nI ?_ ?_ <;> omega) | assumption | omega | exact b2i_01 _ | exact Or.inl rfl | exact Or.inr rfl | (unfold vi; decide)) only [ex_87_0, ex_87_1, ex_87_4, ex_87_5, ex_87_6, ex_87_9, ex_87_10, ex_87_13, ex_87_14, ex_87_17, ex_87_18, ex_87_19, ex_87_22, ex_87_23, ex_87_24, ex_87_28, ex_87_29, ex_87_32, ex_87_33, if_true, if_false, and_self, Option.toList_some, Option.toList_none, List.singleton_append, List.cons_append, List.nil_append, List.append_nil, nI_1, nt_e, Int32.le_refl, stepX h, g4, va_rfs, Bool.true_eq_false, Bool.false_eq_true, ↓reduceIte]
  rw [show sFI (sFI (sFR u 6 4 (some a)) a 2 0) 6 5 x = fmU u a x from rfl, ex_87_25, show d + 8 = d + 1 + 3 + 4 by omega, show (0 : Int32) = nI 0 from rfl]
  rw [rl]
  simp (disch := first | exact am_nl_i _ | exact am_nl_r _ | exact am_nl_0 | (refine vi_nI ?_ ?_ <;> omega) | assumption | omega | exact b2i_01 _ | exact Or.inl rfl | exact Or.inr rfl | (unfold vi; decide)) only [ex_87_0, ex_87_1, ex_87_4, ex_87_5, ex_87_6, ex_87_9, ex_87_10, ex_87_13, ex_87_14, ex_87_17, ex_87_18, ex_87_19, ex_87_22, ex_87_23, ex_87_24, ex_87_25, ex_87_28, ex_87_29, ex_87_32, ex_87_33, if_true, if_false, and_self, Option.toList_some, Option.toList_none, List.singleton_append, List.cons_append, List.nil_append, List.append_nil, nI_1, nt_e, Int32.le_refl, endsX F, Bool.true_eq_false, Bool.false_eq_true, ↓reduceIte]
  all_goals exact hs
theorem readForm_ok (hR : RdC u n f m i) (hk : ¬ csort (tk n f i) = 3) (hB : BkC u L v) (hw : LwC u L v) (hP : PrsOk P n f m) (hp : StmL u n f m L (lawR P v b false (tk n f) i) post) : Cl (d + 60) 87 [.ref 6, .ref (faB L b), .int (nI (othB b))] (am_emb u) post := by
  obtain ⟨hb, hg⟩ := hp
  have hLL := hB.2.2.2.2
  have ha := faB_at (b := b) hLL
  have hac := faB_c (L := L) (b := b)
  have hE := hR.2.2.2.2.1
  have hn := hR.2.2.2.2.2.2.2
  generalize haa : faB L b = a at *
  have hs := fAt_sh ha
  have n6 : ¬ a = 6 := by unfold fAt at ha; omega
  have R1 := step_r hR hk
  have o1 : RdO u (sFI u 6 1 (nI (i + 1))) := (RdO.rf u).fi (Or.inl rfl)
  have B1 := hB.rd o1
  have w1 : LwC (sFI u 6 1 (nI (i + 1))) L v := hw.keep o1.1 (by unfold is; omega)
  rw [op_87]
  simp (disch := first | exact am_nl_i _ | exact am_nl_r _ | exact am_nl_0 | assumption | omega | (refine vi_nI ?_ ?_ <;> omega) | exact b2i_01 _ | exact Or.inl rfl | exact Or.inr rfl | (unfold vi; decide)) only [ex_87_0, ex_87_4, ex_87_5, ex_87_6, ex_87_9, ex_87_10, ex_87_13, ex_87_14, ex_87_17, ex_87_18, ex_87_19, ex_87_22, ex_87_23, ex_87_24, ex_87_25, ex_87_28, ex_87_29, ex_87_32, ex_87_33, if_true, if_false, and_self, Option.toList_some, Option.toList_none, List.singleton_append, List.cons_append, List.nil_append, List.append_nil, nI_1, nt_e, Int32.le_refl]
  rw [ex_87_1, step_ok hR hk]
  generalize sFI u 6 1 (nI (i + 1)) = u1 at *
  have g4 : FR (sFR u1 6 4 (some a)) 6 4 = some a := by rw [FR_sFR, if_pos ⟨rfl, rfl⟩]
  simp (disch := first | exact am_nl_i _ | exact am_nl_r _ | exact am_nl_0 | (refine vi_nI ?_ ?_ <;> omega) | assumption | omega | exact b2i_01 _ | exact Or.inl rfl | exact Or.inr rfl | (unfold vi; decide)) only [ex_87_0, ex_87_4, ex_87_5, ex_87_6, ex_87_9, ex_87_10, ex_87_13, ex_87_14, ex_87_17, ex_87_18, ex_87_19, ex_87_22, ex_87_23, ex_87_24, ex_87_28, ex_87_29, ex_87_32, ex_87_33, if_true, if_false, and_self, Option.toList_some, Option.toList_none, List.singleton_append, List.cons_append, List.nil_append, List.append_nil, nI_1, nt_e, Int32.le_refl, g4, va_rfs, Bool.true_eq_false, Bool.false_eq_true, ↓reduceIte]
  rw [show sFI (sFI (sFR u1 6 4 (some a)) a 2 0) 6 5 (nI (othB b)) = fmU u1 a (nI (othB b)) from rfl]
  have of : Only (fmP a) u1 (fmU u1 a (nI (othB b))) := fmU_o
  have R2 : RdC (fmU u1 a (nI (othB b))) n f m (i + 1) := by
    obtain ⟨x1, x2, x3, x4, x5, x6, x7, x8⟩ := R1
    refine ⟨?_, x2, ?_, ?_, x5, x6, fun j hj => (x7 j hj).keep of (by unfold fmP; unfold fAt at ha; omega) (by unfold fmP; unfold fAt at ha; omega) (by unfold fmP; unfold fAt at ha; omega), x8⟩
    · show FI (sFI (sFI (sFR u1 6 4 (some a)) a 2 0) 6 5 _) 6 1 = _
      rw [FI_sFI, if_neg (by omega), FI_sFI, if_neg (by omega)]; exact x1
    · show FI (sFI (sFI (sFR u1 6 4 (some a)) a 2 0) 6 5 _) 6 9 = _
      rw [FI_sFI, if_neg (by omega), FI_sFI, if_neg (by omega)]; exact x3
    · show FI (sFI (sFI (sFR u1 6 4 (some a)) a 2 0) 6 5 _) 1 5 = _
      rw [FI_sFI, if_neg (by omega), FI_sFI, if_neg (by unfold fAt at ha; omega)]; exact x4
  have F2 : FoC (fmU u1 a (nI (othB b))) a (othB b) 0 := by
    refine ⟨?_, ?_, ?_, by omega⟩
    · show FR (sFR u1 6 4 (some a)) 6 4 = _
      exact g4
    · show FI (sFI (sFI (sFR u1 6 4 (some a)) a 2 0) 6 5 _) 6 5 = _
      rw [FI_sFI, if_pos ⟨rfl, rfl⟩]
    · show FI (sFI (sFI (sFR u1 6 4 (some a)) a 2 0) 6 5 _) a 2 = _
      rw [FI_sFI, if_neg (by omega), FI_sFI, if_pos ⟨rfl, rfl⟩]; rfl
  have fk : ∀ k, ¬ k = 5 → FI (fmU u1 a (nI (othB b))) 6 k = FI u1 6 k := fun k hk5 => by
    show FI (sFI (sFI (sFR u1 6 4 (some a)) a 2 0) 6 5 _) 6 k = _
    rw [FI_sFI, if_neg (by omega), FI_sFI, if_neg (by omega)]; rfl
  have fr : FR (fmU u1 a (nI (othB b))) 6 2 = FR u1 6 2 := by
    show FR (sFR u1 6 4 (some a)) 6 2 = _
    rw [FR_sFR, if_neg (by omega)]
  have hpr := hP b (i + 1) R1.2.1
  have hgo := fun e j (he : P (othB b) (i + 1) = .ok (e, j)) => hpr _ _ _ (pr_go (n := n) (f := f) hE (by cases b <;> decide)) e j he R1.2.1
  have bk3 : ∀ u3, Only (fmP a) u1 u3 → FR u3 6 2 = FR u1 6 2 → BkC u3 L v := fun u3 o3 h3 => by
    obtain ⟨y1, y2, y3, y4, y5⟩ := B1
    have nl : ∀ k, k ≤ 19 → ¬ fmP a (L + k) := fun k hk q => by unfold fmP at q; omega
    exact ⟨y1.keep2 o3 (fun k hk => nl k (by omega)), y2.keep o3 ⟨nl 2 (by omega), nl 4 (by omega), nl 6 (by omega), nl 8 (by omega)⟩, by rw [h3]; exact y3, y4, y5⟩
  rw [ex_87_25]
  refine hpr _ _ _ (formC (m := m) (a := a) ha (by cases b; exact Or.inl rfl; exact Or.inr rfl) hn) (d + 59) 0 (fmU u1 a (nI (othB b))) _ (by unfold dpC; omega) (by omega) (by omega) (by omega) R2 F2 (by omega) (fun e u3 he o3 F hc => ?_) (fun e j u3 he o3 R3 F3 hl S3 P3 => ?_)
  · have hfin := hb e u3 (by simp only [lawR, Bool.false_eq_true, if_false, he]) ((o1.1.wk (fun x q => Or.inl q)).tr ((of.tr o3.1).wk (fmP_bk hac))) (most_fm hLL hac B1.most (of.tr o3.1)) F
    simp (disch := first | exact am_nl_i _ | exact am_nl_r _ | exact am_nl_0 | (refine vi_nI ?_ ?_ <;> omega) | assumption | omega | exact b2i_01 _ | exact Or.inl rfl | exact Or.inr rfl | (unfold vi; decide)) only [ex_87_0, ex_87_4, ex_87_5, ex_87_6, ex_87_9, ex_87_10, ex_87_13, ex_87_14, ex_87_17, ex_87_18, ex_87_19, ex_87_22, ex_87_23, ex_87_24, ex_87_25, ex_87_28, ex_87_29, ex_87_32, ex_87_33, if_true, if_false, and_self, Option.toList_some, Option.toList_none, List.singleton_append, List.cons_append, List.nil_append, List.append_nil, nI_1, nt_e, Int32.le_refl, endsX F, Bool.true_eq_false, Bool.false_eq_true, ↓reduceIte]
    exact hfin
  · obtain ⟨k1, k2, k3, k4, k5, k6⟩ := hgo e j he
    simp (disch := first | exact am_nl_i _ | exact am_nl_r _ | exact am_nl_0 | (refine vi_nI ?_ ?_ <;> omega) | assumption | omega | exact b2i_01 _ | exact Or.inl rfl | exact Or.inr rfl | (unfold vi; decide)) only [ex_87_0, ex_87_4, ex_87_5, ex_87_6, ex_87_9, ex_87_10, ex_87_13, ex_87_14, ex_87_17, ex_87_18, ex_87_19, ex_87_22, ex_87_23, ex_87_24, ex_87_25, ex_87_28, ex_87_32, ex_87_33, if_true, if_false, and_self, Option.toList_some, Option.toList_none, List.singleton_append, List.cons_append, List.nil_append, List.append_nil, nI_1, nt_e, Int32.le_refl, Bool.true_eq_false, Bool.false_eq_true, ↓reduceIte]
    rw [ex_87_29]
    refine endsW_ok R3 (fun e4 u4 z4 o4 F => ?_) (fun j4 u4 z4 o4 R4 => ?_)
    · have hfin := hb e4 u4 (by simp only [lawR, Bool.false_eq_true, if_false, he, z4]) ((o1.1.wk (fun x q => Or.inl q)).tr (((of.tr o3.1).tr (o4.1.wk (fun x q => Or.inl q))).wk (fmP_bk hac))) (most_fm hLL hac B1.most ((of.tr o3.1).tr (o4.1.wk (fun x q => Or.inl q)))) F
      simp (disch := first | exact am_nl_i _ | exact am_nl_r _ | exact am_nl_0 | (refine vi_nI ?_ ?_ <;> omega) | assumption | omega | exact b2i_01 _ | exact Or.inl rfl | exact Or.inr rfl | (unfold vi; decide)) only [ex_87_0, ex_87_4, ex_87_5, ex_87_6, ex_87_9, ex_87_10, ex_87_13, ex_87_14, ex_87_17, ex_87_18, ex_87_19, ex_87_22, ex_87_23, ex_87_24, ex_87_25, ex_87_28, ex_87_29, ex_87_32, ex_87_33, if_true, if_false, and_self, Option.toList_some, Option.toList_none, List.singleton_append, List.cons_append, List.nil_append, List.append_nil, nI_1, nt_e, Int32.le_refl, Bool.true_eq_false, Bool.false_eq_true, ↓reduceIte]
      exact hfin
    · obtain ⟨F4, A4⟩ := F3.rd ha o4
      have oo : Only (fmP a) u1 u4 := (of.tr o3.1).tr (o4.1.wk (fun x q => Or.inl q))
      have B4 := bk3 u4 oo (by rw [o4.2.2, o3.2.2]; exact fr)
      have fm4 : FmC u4 a e.2.1 := by
        refine ⟨e.1.length, ?_, ?_, fun h o k0 => ?_⟩
        · have := F4.2.2.2; omega
        · rw [F4.2.2.1, Nat.zero_add]
        · rw [A4]; exact evalP_seg S3 k6 (by omega)
      have w4 : LwC u4 L (setLawV v (if b then 1 else 0) e.2.1) := by
        cases b
        · have e1 : a = L + 20 := haa.symm
          rw [e1] at fm4 oo
          refine ⟨fm4, ?_⟩
          exact w1.2.keep oo (by unfold fmP; omega) (by unfold fmP; omega)
        · have e1 : a = L + 23 := haa.symm
          rw [e1] at fm4 oo
          refine ⟨?_, fm4⟩
          exact w1.1.keep oo (by unfold fmP; omega) (by unfold fmP; omega)
      have hfin := hg (setLawV v (if b then 1 else 0) e.2.1) j4 u4 (by simp only [lawR, Bool.false_eq_true, if_false, he, z4]) ((o1.1.wk (fun x q => Or.inl q)).tr (oo.wk (fmP_bk hac))) (fun k p q r => by rw [o4.2.1 k p r, o3.2.1 k p r, fk k q]; exact o1.2.1 k p r) B4 w4 R4
      simp (disch := first | exact am_nl_i _ | exact am_nl_r _ | exact am_nl_0 | (refine vi_nI ?_ ?_ <;> omega) | assumption | omega | exact b2i_01 _ | exact Or.inl rfl | exact Or.inr rfl | (unfold vi; decide)) only [ex_87_0, ex_87_4, ex_87_5, ex_87_6, ex_87_9, ex_87_10, ex_87_13, ex_87_14, ex_87_17, ex_87_18, ex_87_19, ex_87_22, ex_87_23, ex_87_24, ex_87_25, ex_87_28, ex_87_29, ex_87_32, ex_87_33, if_true, if_false, and_self, Option.toList_some, Option.toList_none, List.singleton_append, List.cons_append, List.nil_append, List.append_nil, nI_1, nt_e, Int32.le_refl, Bool.true_eq_false, Bool.false_eq_true, ↓reduceIte]
      exact hfin
  all_goals exact hs
end LawC
