/-! LIBRARY, of the class: the call -/
def newS (v : LV) : ST := (v, (beginL v, (0, fun _ _ => 0), (0, fun _ => 0, fun _ => false)), (0, fun _ => beginL v), fun _ => none, (0, fun _ => 0))
def libraryS (P : Nat → Nat → Rt) (S : ST) (f : Nat → Nat) : ST × Int32 := match libS P (tk S.2.2.2.2.1 f) 1000 vE (false, false, false) 0 with
  | .error e => (withT S (0, fun _ => 0), nI e)
  | .ok v => (newS v, 0)
def allC (a : Nat) : Prop := a < 203
section LibCC
variable {d m L L' : Nat} {u : am_U} {S : ST} {f : Nat → Nat} {P : Nat → Nat → Rt} {post : Option Value → am_M → Prop}
theorem lib_err {u' : am_U} (hI : InvC u S L L') (ho : Only (rlP L') u u') (hm : most4 u' L') (hf : FI u' 1 4 = 0) : InvC u' (withT S (0, fun _ => 0)) L L' := by
  obtain ⟨⟨r1, r2, r3, r4, r5, r6⟩, ⟨l1, l2, l3⟩, st, pst, mk, tp⟩ := hI
  have hp : ∀ a, a = 0 ∨ 64 ≤ a ∨ (L ≤ a ∧ a ≤ L + 25) → ¬ rlP L' a := fun a ha q => by unfold rlP at q; omega
  have e := fun a ha => ho a (hp a ha)
  refine ⟨⟨by rw [(e 0 (by omega)).2.2.1]; exact r1, by rw [(e 0 (by omega)).2.2.1]; exact r2, r3, by rw [(e 82 (by omega)).2.2.2.2.2]; exact r4, by rw [(e 147 (by omega)).2.2.2.2.2]; exact r5, hm⟩, ⟨l1.keep ho (fun k hk => hp _ (by omega)), l2.keep ho (hp _ (by omega)) (hp _ (by omega)), l3.keep ho (hp _ (by omega)) (hp _ (by omega))⟩, st.keep ho (fun k hk => hp _ (by omega)), past_keep pst ho (e 0 (by omega)).1 (fun a h1 h2 => hp _ (by omega)), fun k hk => ⟨by rw [(e (148 + 10 * k) (by omega)).1]; exact (mk k hk).1, fun s hs => ((mk k hk).2 s hs).keep ho (fun j hj => hp _ (by omega))⟩, ⟨hf, fun j hj => absurd hj (Nat.not_lt_zero j)⟩⟩
theorem C_library (hI : InvC u S L L') (hN : NamesC u L S.1) (hf : ∀ j, j < S.2.2.2.2.1 → S.2.2.2.2.2 j = nI (f j) ∧ f j ≤ 126) (hn : S.2.2.2.2.1 ≤ 1000) (hE : EndAt S.2.2.2.2.1 f m) (hP : PrsOk P S.2.2.2.2.1 f m)
    (h : ∀ u' L1 L1', Only allC u u' → InvC u' (libraryS P S f).1 L1 L1' → NamesC u' L1 (libraryS P S f).1.1 → WF (libraryS P S f).1.1 ∨ (libraryS P S f).1.1 = S.1 → post (some (.int (libraryS P S f).2)) (am_emb u')) : Cl (d + 63) 117 [.ref 0] (am_emb u) post := by
  have hI0 := hI
  obtain ⟨⟨r1, r2, r3, r4, r5, r6⟩, ⟨l1, l2, l3⟩, st, pst, mk, tp⟩ := hI
  have h64 := shl_64
  have h69 := shl_69
  have hT : TpC u S.2.2.2.2.1 f := ⟨tp.1, fun j hj => by rw [tp.2 j hj]; exact (hf j hj).1, hn, fun j hj => (hf j hj).2⟩
  have hLL : L' = 7 ∨ L' = 33 := by omega
  have hL' : sh L' 3 19 := by
    rcases hLL with e | e
    · rw [e]; exact shl_7
    · rw [e]; exact shl_33
  have ac : ∀ a, rlP L' a → allC a := fun a q => by unfold rlP at q; unfold allC; omega
  unfold libraryS at h
  rw [op_117]
  simp (disch := first | exact am_nl_i _ | exact am_nl_r _ | exact am_nl_0 | (refine vi_nI ?_ ?_ <;> omega) | assumption | omega | exact b2i_01 _ | exact Or.inl rfl | exact Or.inr rfl | (unfold vi; decide)) only [ex_117_0, ex_117_1, ex_117_4, ex_117_5, ex_117_11, ex_117_12, ex_117_13, ex_117_16, ex_117_17, ex_117_18, ex_117_19, ex_117_22, ex_117_23, ex_117_24, ex_117_25, ex_117_28, ex_117_31, ex_117_32, ex_117_33, ex_117_36, ex_117_37, ex_117_40, ex_117_41, ex_117_44, ex_117_47, ex_117_48, ex_117_51, ex_117_52, ex_117_53, ex_117_54, ex_117_55, ex_117_58, ex_117_59, ex_117_62, ex_117_63, ex_117_66, ex_117_67, ex_117_68, ex_117_69, ex_117_72, ex_117_75, ex_117_78, ex_117_79, if_true, if_false, and_self, Option.toList_some, Option.toList_none, List.singleton_append, List.cons_append, List.nil_append, List.append_nil, nI_1, nt_e, Int32.le_refl, r2, va_rfs, Bool.true_eq_false, Bool.false_eq_true, ↓reduceIte]
  rw [ex_117_8]
  refine readLib_ok (d := d) hT hE hP hLL r6 (fun e u1 he o1 m1 f1 e0 e1 => ?_) (fun v u1 he o1 hW C1 N1 W1 f1 => ?_)
  · rw [he] at h
    have hI1 := lib_err hI0 o1 m1 f1
    have hfin := h u1 L L' (o1.wk ac) hI1 (hN.keep o1 ⟨by unfold rlP; omega, by unfold rlP; omega, by unfold rlP; omega, by unfold rlP; omega⟩) (Or.inr rfl)
    have ne0 : ¬ nI e = 0 := by rw [i_eq0 e1]; omega
    simp (disch := first | exact am_nl_i _ | exact am_nl_r _ | exact am_nl_0 | (refine vi_nI ?_ ?_ <;> omega) | assumption | omega | exact b2i_01 _ | exact Or.inl rfl | exact Or.inr rfl | (unfold vi; decide)) only [ex_117_0, ex_117_1, ex_117_4, ex_117_5, ex_117_8, ex_117_11, ex_117_12, ex_117_13, ex_117_16, ex_117_17, ex_117_18, ex_117_19, ex_117_22, ex_117_23, ex_117_24, ex_117_25, ex_117_28, ex_117_31, ex_117_32, ex_117_33, ex_117_36, ex_117_37, ex_117_40, ex_117_41, ex_117_44, ex_117_47, ex_117_48, ex_117_51, ex_117_52, ex_117_53, ex_117_54, ex_117_55, ex_117_58, ex_117_59, ex_117_62, ex_117_63, ex_117_66, ex_117_67, ex_117_68, ex_117_69, ex_117_72, ex_117_75, ex_117_78, ex_117_79, if_true, if_false, and_self, Option.toList_some, Option.toList_none, List.singleton_append, List.cons_append, List.nil_append, List.append_nil, nI_1, nt_e, Int32.le_refl, ne0, Bool.true_eq_false, Bool.false_eq_true, ↓reduceIte]
    exact hfin
  · rw [he] at h
    have e01 := o1 0 (by unfold rlP; omega)
    have g2 : FR u1 0 2 = some L := by rw [e01.2.2.1]; exact r1
    have g3 : FR u1 0 3 = some L' := by rw [e01.2.2.1]; exact r2
    have mL : most4 u1 L := by
      unfold most4
      rw [(o1 (L + 1) (by unfold rlP; omega)).1, (o1 (L + 3) (by unfold rlP; omega)).1, (o1 (L + 5) (by unfold rlP; omega)).1, (o1 (L + 7) (by unfold rlP; omega)).1]
      exact l1.2.1
    have g2' : FR (sFR (sFR u1 0 3 (some L)) 0 2 (some L')) 0 2 = some L' := by rw [FR_sFR, if_pos ⟨rfl, rfl⟩]
    have g3' : FR (sFR (sFR u1 0 3 (some L)) 0 2 (some L')) 0 3 = some L := by rw [FR_sFR, if_neg (by decide), FR_sFR, if_pos ⟨rfl, rfl⟩]
    simp (disch := first | exact am_nl_i _ | exact am_nl_r _ | exact am_nl_0 | (refine vi_nI ?_ ?_ <;> omega) | assumption | omega | exact b2i_01 _ | exact Or.inl rfl | exact Or.inr rfl | (unfold vi; decide)) only [ex_117_0, ex_117_1, ex_117_4, ex_117_5, ex_117_8, ex_117_11, ex_117_12, ex_117_13, ex_117_16, ex_117_17, ex_117_18, ex_117_19, ex_117_22, ex_117_23, ex_117_24, ex_117_25, ex_117_28, ex_117_31, ex_117_32, ex_117_33, ex_117_36, ex_117_37, ex_117_40, ex_117_41, ex_117_47, ex_117_48, ex_117_51, ex_117_52, ex_117_53, ex_117_54, ex_117_55, ex_117_58, ex_117_59, ex_117_62, ex_117_63, ex_117_66, ex_117_67, ex_117_68, ex_117_69, ex_117_72, ex_117_75, ex_117_78, ex_117_79, if_true, if_false, and_self, Option.toList_some, Option.toList_none, List.singleton_append, List.cons_append, List.nil_append, List.append_nil, nI_1, nt_e, Int32.le_refl, g3, g2, g2', va_rfs, Bool.true_eq_false, Bool.false_eq_true, ↓reduceIte]
    have o2 : Only (fun a => a = 0) u1 (sFR (sFR u1 0 3 (some L)) 0 2 (some L')) := of_fr (Only.sFR rfl) rfl
    have k2 : FI (sFR (sFR u1 0 3 (some L)) 0 2 (some L')) = FI u1 := rfl
    generalize (sFR (sFR u1 0 3 (some L)) 0 2 (some L')) = u2 at *
    have C2 : LibC u2 L' v := C1.keep2 o2 (fun k hk => by omega)
    rw [ex_117_44, op_102]
    simp (disch := first | exact am_nl_i _ | exact am_nl_r _ | exact am_nl_0 | assumption | omega | (refine vi_nI ?_ ?_ <;> omega) | exact b2i_01 _ | exact Or.inl rfl | exact Or.inr rfl | (unfold vi; decide)) only [ex_102_0, ex_102_1, ex_102_4, ex_102_8, ex_102_9, ex_102_12, ex_102_13, ex_102_16, ex_102_17, ex_102_18, ex_102_21, ex_102_22, ex_102_23, ex_102_26, ex_102_27, ex_102_28, ex_102_31, if_true, if_false, and_self, Option.toList_some, Option.toList_none, List.singleton_append, List.cons_append, List.nil_append, List.append_nil, nI_1, nt_e, Int32.le_refl]
    rw [ex_102_5]
    refine beginC_ok shl_65 hL' C2 (fun u3 o3 l3' => ?_)
    have n3 : ∀ a, ¬ (65 ≤ a ∧ a ≤ 68) → ¬ inL 65 a := fun a q1 q2 => by unfold inL at q2; omega
    simp (disch := first | exact am_nl_i _ | exact am_nl_r _ | exact am_nl_0 | (refine vi_nI ?_ ?_ <;> omega) | assumption | omega | exact b2i_01 _ | exact Or.inl rfl | exact Or.inr rfl | (unfold vi; decide)) only [ex_102_0, ex_102_1, ex_102_4, ex_102_5, ex_102_8, ex_102_9, ex_102_12, ex_102_13, ex_102_16, ex_102_17, ex_102_18, ex_102_21, ex_102_22, ex_102_23, ex_102_26, ex_102_27, ex_102_28, ex_102_31, if_true, if_false, and_self, Option.toList_some, Option.toList_none, List.singleton_append, List.cons_append, List.nil_append, List.append_nil, nI_1, nt_e, Int32.le_refl, Bool.true_eq_false, Bool.false_eq_true, ↓reduceIte]
    have o4 : Only (fun a => a = 64 ∨ a = 69) u3 (sFI (sFI (sFI (sFI u3 69 4 0) 64 2 0) 64 3 0) 64 4 0) := of_fi (of_fi (of_fi (Only.sFI (Or.inr rfl)) (Or.inl rfl)) (Or.inl rfl)) (Or.inl rfl)
    have f69 : FI (sFI (sFI (sFI (sFI u3 69 4 0) 64 2 0) 64 3 0) 64 4 0) 69 4 = 0 := by rw [FI_sFI, if_neg (by decide), FI_sFI, if_neg (by decide), FI_sFI, if_neg (by decide), FI_sFI, if_pos ⟨rfl, rfl⟩]
    have f642 : FI (sFI (sFI (sFI (sFI u3 69 4 0) 64 2 0) 64 3 0) 64 4 0) 64 2 = 0 := by rw [FI_sFI, if_neg (by decide), FI_sFI, if_neg (by decide), FI_sFI, if_pos ⟨rfl, rfl⟩]
    have f643 : FI (sFI (sFI (sFI (sFI u3 69 4 0) 64 2 0) 64 3 0) 64 4 0) 64 3 = 0 := by rw [FI_sFI, if_neg (by decide), FI_sFI, if_pos ⟨rfl, rfl⟩]
    have f644 : FI (sFI (sFI (sFI (sFI u3 69 4 0) 64 2 0) 64 3 0) 64 4 0) 64 4 = 0 := by rw [FI_sFI, if_pos ⟨rfl, rfl⟩]
    generalize (sFI (sFI (sFI (sFI u3 69 4 0) 64 2 0) 64 3 0) 64 4 0) = u4 at *
    simp (disch := first | exact am_nl_i _ | exact am_nl_r _ | exact am_nl_0 | (refine vi_nI ?_ ?_ <;> omega) | assumption | omega | exact b2i_01 _ | exact Or.inl rfl | exact Or.inr rfl | (unfold vi; decide)) only [ex_117_0, ex_117_1, ex_117_4, ex_117_5, ex_117_8, ex_117_11, ex_117_12, ex_117_13, ex_117_16, ex_117_17, ex_117_18, ex_117_19, ex_117_22, ex_117_23, ex_117_24, ex_117_25, ex_117_28, ex_117_31, ex_117_32, ex_117_33, ex_117_36, ex_117_37, ex_117_40, ex_117_41, ex_117_44, ex_117_47, ex_117_48, ex_117_51, ex_117_52, ex_117_54, ex_117_55, ex_117_58, ex_117_59, ex_117_62, ex_117_63, ex_117_66, ex_117_67, ex_117_68, ex_117_69, ex_117_72, ex_117_75, ex_117_78, ex_117_79, if_true, if_false, and_self, Option.toList_some, Option.toList_none, List.singleton_append, List.cons_append, List.nil_append, List.append_nil, nI_1, nt_e, Int32.le_refl, forget_ok, Bool.true_eq_false, Bool.false_eq_true, ↓reduceIte]
    have o5 : Only (fun a => a = 0) u4 (sFI (sFI u4 0 9 0) 0 10 0) := of_fi (Only.sFI rfl) rfl
    have f9 : FI (sFI (sFI u4 0 9 0) 0 10 0) 0 9 = 0 := by rw [FI_sFI, if_neg (by decide), FI_sFI, if_pos ⟨rfl, rfl⟩]
    have f10 : FI (sFI (sFI u4 0 9 0) 0 10 0) 0 10 = 0 := by rw [FI_sFI, if_pos ⟨rfl, rfl⟩]
    have r5' : FR (sFI (sFI u4 0 9 0) 0 10 0) = FR u4 := rfl
    generalize (sFI (sFI u4 0 9 0) 0 10 0) = u5 at *
    have o15 : Only (fun a => a = 0 ∨ a = 64 ∨ (65 ≤ a ∧ a ≤ 68) ∨ a = 69) u1 u5 := ((o2.wk (fun a q => by omega)).tr (o3.wk (fun a q => by unfold inL at q; omega))).tr ((o4.wk (fun a q => by omega)).tr (o5.wk (fun a q => by omega)))
    have ar : AR u5 147 = AR u 147 := by rw [(o15 147 (by omega)).2.2.2.2.2, (o1 147 (by unfold rlP; omega)).2.2.2.2.2]
    have ar2 : AR u5 82 = AR u 82 := by rw [(o15 82 (by omega)).2.2.2.2.2, (o1 82 (by unfold rlP; omega)).2.2.2.2.2]
    have loop : ∀ (kz k : Nat), k + kz = 4 → ∀ u6, Only (fun a => a = 148 ∨ a = 158 ∨ a = 168 ∨ a = 178) u5 u6 → (∀ j, j < k → FI u6 (148 + 10 * j) 5 = 0) → Ex (d + 63) 117 53 [some (.ref 0), some (.int 0), some (.ref L'), some (.int (nI k))] [] (am_emb u6) post := by
      intro kz
      induction kz with
      | zero =>
        intro k hk u6 o6 l6
        obtain rfl : k = 4 := by omega
        have o16 : Only (fun a => a = 0 ∨ a = 64 ∨ (65 ≤ a ∧ a ≤ 68) ∨ a = 69 ∨ a = 148 ∨ a = 158 ∨ a = 168 ∨ a = 178) u1 u6 := (o15.wk (fun a q => by omega)).tr (o6.wk (fun a q => by omega))
        have o56 := fun a (ha : ¬ (a = 148 ∨ a = 158 ∨ a = 168 ∨ a = 178)) => o6 a ha
        have R6 : FR u6 0 = FR u2 0 := by rw [(o56 0 (by omega)).2.2.1, r5', (o4 0 (by omega)).2.2.1, (o3 0 (n3 0 (by omega))).2.2.1]
        have Lf : LifeC u6 65 (beginL v) := ((l3'.keep o4 (fun k hk => by omega)).keep o5 (fun k hk => by omega)).keep o6 (fun k hk => by omega)
        have i6 : InvC u6 (newS v) L' L := by
          refine ⟨⟨by rw [R6]; exact g2', by rw [R6]; exact g3', by omega, by rw [(o56 82 (by omega)).2.2.2.2.2, ar2]; exact r4, by rw [(o56 147 (by omega)).2.2.2.2.2, ar]; exact r5, ?_⟩, ⟨C1.keep2 o16 (fun k hk => by omega), W1.1.keep o16 (by omega) (by omega), W1.2.keep o16 (by omega) (by omega)⟩, ⟨Lf, ⟨?_, fun j hj => absurd hj (Nat.not_lt_zero j)⟩, ⟨?_, ?_, ?_⟩⟩, ⟨0, by decide, ?_, ?_, fun j hj => absurd hj (Nat.not_lt_zero j)⟩, fun k hk => ⟨l6 k hk, fun s hs => by cases hs⟩, ⟨?_, fun j hj => absurd hj (Nat.not_lt_zero j)⟩⟩
          · unfold most4
            rw [(o16 (L + 1) (by omega)).1, (o16 (L + 3) (by omega)).1, (o16 (L + 5) (by omega)).1, (o16 (L + 7) (by omega)).1]
            exact mL
          · show FI u6 69 4 = 0
            rw [(o56 69 (by omega)).1, (o5 69 (by omega)).1]; exact f69
          · show FI u6 64 2 = 0
            rw [(o56 64 (by omega)).1, (o5 64 (by omega)).1]; exact f642
          · show FI u6 64 3 = 0
            rw [(o56 64 (by omega)).1, (o5 64 (by omega)).1]; exact f643
          · show FI u6 64 4 = 0
            rw [(o56 64 (by omega)).1, (o5 64 (by omega)).1]; exact f644
          · rw [(o56 0 (by omega)).1]; exact f9
          · rw [(o56 0 (by omega)).1]; exact f10
          · show FI u6 1 4 = 0
            rw [(o16 1 (by omega)).1]; exact f1
        have hfin := h u6 L' L ((o1.wk ac).tr (o16.wk (fun a q => by unfold allC; omega))) i6 (N1.keep o16 ⟨by omega, by omega, by omega, by omega⟩) (Or.inl hW)
        rw [ex_117_53]
        simp (disch := first | exact am_nl_i _ | exact am_nl_r _ | exact am_nl_0 | (refine vi_nI ?_ ?_ <;> omega) | assumption | omega | exact b2i_01 _ | exact Or.inl rfl | exact Or.inr rfl | (unfold vi; decide)) only [ex_117_0, ex_117_1, ex_117_4, ex_117_5, ex_117_8, ex_117_11, ex_117_12, ex_117_13, ex_117_16, ex_117_17, ex_117_18, ex_117_19, ex_117_22, ex_117_23, ex_117_24, ex_117_25, ex_117_28, ex_117_31, ex_117_32, ex_117_33, ex_117_36, ex_117_37, ex_117_40, ex_117_41, ex_117_44, ex_117_47, ex_117_48, ex_117_51, ex_117_52, ex_117_54, ex_117_55, ex_117_58, ex_117_59, ex_117_62, ex_117_63, ex_117_66, ex_117_67, ex_117_68, ex_117_69, ex_117_72, ex_117_75, ex_117_78, ex_117_79, if_true, if_false, and_self, Option.toList_some, Option.toList_none, List.singleton_append, List.cons_append, List.nil_append, List.append_nil, nI_1, nt_e, Int32.le_refl, lq4, nI_leI, Nat.le_refl, Bool.true_eq_false, Bool.false_eq_true, ↓reduceIte]
        exact hfin
      | succ kz ih =>
        intro k hk u6 o6 l6
        have q : ¬ 4 ≤ k := by omega
        have k4 : k < 4 := by omega
        have ark : AR u6 147 (nI k).toNatClampNeg = some (148 + 10 * k) := by rw [nI_clamp (by omega), (o6 147 (by omega)).2.2.2.2.2, ar]; exact r5 k k4
        have hSm : 148 + 10 * k < am_S := by unfold am_S; omega
        rw [ex_117_53]
        simp (disch := first | exact am_nl_i _ | exact am_nl_r _ | exact am_nl_0 | (refine vi_nI ?_ ?_ <;> omega) | assumption | omega | exact b2i_01 _ | exact Or.inl rfl | exact Or.inr rfl | (unfold vi; decide)) only [ex_117_0, ex_117_1, ex_117_4, ex_117_5, ex_117_8, ex_117_11, ex_117_12, ex_117_13, ex_117_16, ex_117_17, ex_117_18, ex_117_19, ex_117_22, ex_117_23, ex_117_24, ex_117_25, ex_117_28, ex_117_31, ex_117_32, ex_117_33, ex_117_36, ex_117_37, ex_117_40, ex_117_41, ex_117_44, ex_117_47, ex_117_48, ex_117_51, ex_117_52, ex_117_54, ex_117_55, ex_117_58, ex_117_59, ex_117_62, ex_117_63, ex_117_66, ex_117_68, ex_117_69, ex_117_72, ex_117_75, ex_117_78, ex_117_79, if_true, if_false, and_self, Option.toList_some, Option.toList_none, List.singleton_append, List.cons_append, List.nil_append, List.append_nil, nI_1, nt_e, Int32.le_refl, lq4, nI_leI, q, Bool.true_eq_false, Bool.false_eq_true, ↓reduceIte]
        rw [ex_117_67 (vi_nI k4 (by omega)) ark hSm]
        simp (disch := first | exact am_nl_i _ | exact am_nl_r _ | exact am_nl_0 | assumption | omega | (refine vi_nI ?_ ?_ <;> omega) | exact b2i_01 _ | exact Or.inl rfl | exact Or.inr rfl | (unfold vi; decide)) only [ex_117_0, ex_117_1, ex_117_4, ex_117_5, ex_117_8, ex_117_11, ex_117_12, ex_117_13, ex_117_16, ex_117_17, ex_117_18, ex_117_19, ex_117_22, ex_117_23, ex_117_24, ex_117_25, ex_117_28, ex_117_31, ex_117_32, ex_117_33, ex_117_36, ex_117_37, ex_117_40, ex_117_41, ex_117_44, ex_117_47, ex_117_48, ex_117_51, ex_117_52, ex_117_53, ex_117_54, ex_117_55, ex_117_58, ex_117_59, ex_117_62, ex_117_63, ex_117_66, ex_117_67, ex_117_68, ex_117_72, ex_117_75, ex_117_78, ex_117_79, if_true, if_false, and_self, Option.toList_some, Option.toList_none, List.singleton_append, List.cons_append, List.nil_append, List.append_nil, nI_1, nt_e, Int32.le_refl]
        rw [ex_117_69 (sh_mk k k4) (Or.inl rfl)]
        simp (disch := first | exact am_nl_i _ | exact am_nl_r _ | exact am_nl_0 | (refine vi_nI ?_ ?_ <;> omega) | assumption | omega | exact b2i_01 _ | exact Or.inl rfl | exact Or.inr rfl | (unfold vi; decide)) only [ex_117_0, ex_117_1, ex_117_4, ex_117_5, ex_117_8, ex_117_11, ex_117_12, ex_117_13, ex_117_16, ex_117_17, ex_117_18, ex_117_19, ex_117_22, ex_117_23, ex_117_24, ex_117_25, ex_117_28, ex_117_31, ex_117_32, ex_117_33, ex_117_36, ex_117_37, ex_117_40, ex_117_41, ex_117_44, ex_117_47, ex_117_48, ex_117_51, ex_117_52, ex_117_54, ex_117_55, ex_117_58, ex_117_59, ex_117_62, ex_117_63, ex_117_66, ex_117_67, ex_117_68, ex_117_69, ex_117_72, ex_117_75, ex_117_78, ex_117_79, if_true, if_false, and_self, Option.toList_some, Option.toList_none, List.singleton_append, List.cons_append, List.nil_append, List.append_nil, nI_1, nt_e, Int32.le_refl, nI_1, Bool.true_eq_false, Bool.false_eq_true, ↓reduceIte]
        refine ih (k + 1) (by omega) _ (of_fi o6 (by omega)) (fun j hj => ?_)
        rw [FI_sFI]
        by_cases e : j = k
        · rw [e, if_pos ⟨rfl, rfl⟩]
        · rw [if_neg (by omega)]; exact l6 j (by omega)
    exact loop 4 0 (by omega) u5 (Only.rf _ _) (fun j hj => absurd hj (Nat.not_lt_zero j))
    all_goals exact h64
end LibCC
