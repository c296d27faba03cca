/-! A LIBRARY READ, of the class: all of it -/
def rlP (L a : Nat) : Prop := a = 1 ∨ a = 3 ∨ a = 4 ∨ a = 5 ∨ a = 6 ∨ (L ≤ a ∧ a ≤ L + 25)
section LibC2
variable {d n m L : Nat} {u : am_U} {f : Nat → Nat} {P : Nat → Nat → Rt} {post : Option Value → am_M → Prop}
theorem begin_ok (hT : TpC u n f) (hE : EndAt n f m) (h : ∀ u', Only (fun a => a = 1 ∨ a = 3 ∨ a = 4 ∨ a = 5 ∨ a = 6) u u' → (∀ k, ¬ k = 1 → ¬ k = 9 → FI u' 6 k = FI u 6 k) → FR u' 6 = FR u 6 → FI u' 1 4 = 0 → RdC u' n f m 0 → post none (am_emb u')) : Cl (d + 8) 67 [.ref 6] (am_emb u) post := by
  have hn := hT.2.2.1
  rw [op_67]
  simp (disch := first | exact am_nl_i _ | exact am_nl_r _ | exact am_nl_0 | assumption | omega | (refine vi_nI ?_ ?_ <;> omega) | exact b2i_01 _ | exact Or.inl rfl | exact Or.inr rfl | (unfold vi; decide)) only [ex_67_0, ex_67_1, ex_67_7, ex_67_8, ex_67_9, ex_67_12, ex_67_13, ex_67_14, ex_67_17, if_true, if_false, and_self, Option.toList_some, Option.toList_none, List.singleton_append, List.cons_append, List.nil_append, List.append_nil, nI_1, nt_e, Int32.le_refl]
  rw [ex_67_4]
  refine split_ok (d := d) hT (fun u1 m1 hE1 o1 f4 f5 ht => ?_)
  obtain rfl := end_uniq hE hE1
  have o : Only (fun a => a = 1 ∨ a = 3 ∨ a = 4 ∨ a = 5 ∨ a = 6) u (sFI (sFI u1 6 1 0) 6 9 0) := of_fi (of_fi (o1.wk (fun a q => by unfold tkP at q; omega)) (by omega)) (by omega)
  have e6 := o1 6 (by unfold tkP; omega)
  have hm := hE.1
  have hfin := h (sFI (sFI u1 6 1 0) 6 9 0) o (fun k p q => by rw [FI_sFI, if_neg (by omega), FI_sFI, if_neg (by omega), e6.1]) (by show FR u1 6 = _; rw [e6.2.2.1]) (by rw [FI_sFI, if_neg (by decide), FI_sFI, if_neg (by decide)]; exact f4) ⟨by rw [FI_sFI, if_neg (by decide), FI_sFI, if_pos ⟨rfl, rfl⟩]; rfl, Nat.zero_le _, by rw [FI_sFI, if_pos ⟨rfl, rfl⟩], by rw [FI_sFI, if_neg (by decide), FI_sFI, if_neg (by decide)]; exact f5, hE, by omega, ht, hn⟩
  simp (disch := first | exact am_nl_i _ | exact am_nl_r _ | exact am_nl_0 | (refine vi_nI ?_ ?_ <;> omega) | assumption | omega | exact b2i_01 _ | exact Or.inl rfl | exact Or.inr rfl | (unfold vi; decide)) only [ex_67_0, ex_67_1, ex_67_4, ex_67_7, ex_67_8, ex_67_9, ex_67_12, ex_67_13, ex_67_14, ex_67_17, if_true, if_false, and_self, Option.toList_some, Option.toList_none, List.singleton_append, List.cons_append, List.nil_append, List.append_nil, nI_1, nt_e, Int32.le_refl, Bool.true_eq_false, Bool.false_eq_true, ↓reduceIte]
  exact hfin
theorem readLib_ok (hT : TpC u n f) (hE : EndAt n f m) (hP : PrsOk P n f m) (hLL : L = 7 ∨ L = 33) (hm : most4 u L)
    (hb : ∀ e u', libS P (tk n f) 1000 vE (false, false, false) 0 = .error e → Only (rlP L) u u' → most4 u' L → FI u' 1 4 = 0 → 0 < e → e < 2 ^ 31 → post (some (.int (nI e))) (am_emb u'))
    (hg : ∀ v' u', libS P (tk n f) 1000 vE (false, false, false) 0 = .ok v' → Only (rlP L) u u' → WF v' → LibC u' L v' → NamesC u' L v' → LwC u' L v' → FI u' 1 4 = 0 → post (some (.int 0)) (am_emb u')) : Cl (d + 62) 65 [.ref 6, .ref L] (am_emb u) post := by
  have hL : sh L 3 19 := by
    rcases hLL with e | e
    · rw [e]; exact shl_7
    · rw [e]; exact shl_33
  have g2 : FR (sFR u 6 2 (some L)) 6 2 = some L := by rw [FR_sFR, if_pos ⟨rfl, rfl⟩]
  rw [op_65]
  simp (disch := first | exact am_nl_i _ | exact am_nl_r _ | exact am_nl_0 | (refine vi_nI ?_ ?_ <;> omega) | assumption | omega | exact b2i_01 _ | exact Or.inl rfl | exact Or.inr rfl | (unfold vi; decide)) only [ex_65_0, ex_65_1, ex_65_2, ex_65_5, ex_65_6, ex_65_12, ex_65_13, ex_65_14, ex_65_17, ex_65_18, ex_65_19, ex_65_22, ex_65_23, ex_65_24, ex_65_27, ex_65_28, ex_65_31, ex_65_32, ex_65_33, ex_65_34, ex_65_37, ex_65_40, ex_65_41, ex_65_44, ex_65_47, ex_65_48, ex_65_51, ex_65_52, ex_65_55, ex_65_56, ex_65_59, ex_65_62, ex_65_65, ex_65_66, ex_65_69, if_true, if_false, and_self, Option.toList_some, Option.toList_none, List.singleton_append, List.cons_append, List.nil_append, List.append_nil, nI_1, nt_e, Int32.le_refl, g2, va_rfs, Bool.true_eq_false, Bool.false_eq_true, ↓reduceIte]
  rw [ex_65_9]
  refine empty_ok hLL hm g2 (fun u1 o1 B1 W1 => ?_)
  have o01 : Only (rlP L) u u1 := (Only.sFR (P := rlP L) (by unfold rlP; omega)).tr (o1.wk (fun a q => by unfold liP at q; unfold rlP; omega))
  have T1 : TpC u1 n f := hT.keep (P := rlP L) o01 (by rw [(o1 1 (by unfold liP; omega)).1]; rfl) (by unfold rlP; omega)
  simp (disch := first | exact am_nl_i _ | exact am_nl_r _ | exact am_nl_0 | (refine vi_nI ?_ ?_ <;> omega) | assumption | omega | exact b2i_01 _ | exact Or.inl rfl | exact Or.inr rfl | (unfold vi; decide)) only [ex_65_0, ex_65_1, ex_65_2, ex_65_5, ex_65_6, ex_65_9, ex_65_12, ex_65_13, ex_65_14, ex_65_17, ex_65_18, ex_65_19, ex_65_22, ex_65_23, ex_65_24, ex_65_27, ex_65_31, ex_65_32, ex_65_33, ex_65_34, ex_65_37, ex_65_40, ex_65_41, ex_65_44, ex_65_47, ex_65_48, ex_65_51, ex_65_52, ex_65_55, ex_65_56, ex_65_59, ex_65_62, ex_65_65, ex_65_66, ex_65_69, if_true, if_false, and_self, Option.toList_some, Option.toList_none, List.singleton_append, List.cons_append, List.nil_append, List.append_nil, nI_1, nt_e, Int32.le_refl, Bool.true_eq_false, Bool.false_eq_true, ↓reduceIte]
  have B2 : BkC (sFI (sFI (sFI u1 6 6 0) 6 7 0) 6 8 0) L vE := B1.f6.f6.f6
  have W2 : LwC (sFI (sFI (sFI u1 6 6 0) 6 7 0) 6 8 0) L vE := W1.keep (P := is 6) (of_fi (of_fi (Only.sFI rfl) rfl) rfl) (by unfold is; omega)
  have F2 : FlgC (sFI (sFI (sFI u1 6 6 0) 6 7 0) 6 8 0) (false, false, false) := ⟨by rw [FI_sFI, if_neg (by decide), FI_sFI, if_neg (by decide), FI_sFI, if_pos ⟨rfl, rfl⟩]; rfl, by rw [FI_sFI, if_neg (by decide), FI_sFI, if_pos ⟨rfl, rfl⟩]; rfl, by rw [FI_sFI, if_pos ⟨rfl, rfl⟩]; rfl⟩
  have o2 : Only (rlP L) u (sFI (sFI (sFI u1 6 6 0) 6 7 0) 6 8 0) := of_fi (of_fi (of_fi o01 (by unfold rlP; omega)) (by unfold rlP; omega)) (by unfold rlP; omega)
  have T2 : TpC (sFI (sFI (sFI u1 6 6 0) 6 7 0) 6 8 0) n f := T1
  generalize sFI (sFI (sFI u1 6 6 0) 6 7 0) 6 8 0 = u2 at *
  rw [ex_65_28]
  refine begin_ok (d := d + 53) T2 hE (fun u3 o3 k3 r3 f3 R3 => ?_)
  have nl : ∀ k, k ≤ 25 → ¬ (L + k = 1 ∨ L + k = 3 ∨ L + k = 4 ∨ L + k = 5 ∨ L + k = 6) := fun k _ => by omega
  have B3 : BkC u3 L vE := by
    obtain ⟨a, b, c, dd, ee⟩ := B2
    exact ⟨a.keep2 o3 (fun k hk => nl k (by omega)), b.keep o3 ⟨nl 2 (by omega), nl 4 (by omega), nl 6 (by omega), nl 8 (by omega)⟩, by rw [r3]; exact c, dd, ee⟩
  have W3 : LwC u3 L vE := W2.keep o3 ⟨nl 20 (by omega), nl 21 (by omega), nl 23 (by omega), nl 24 (by omega)⟩
  have F3 : FlgC u3 (false, false, false) := F2.kp (fun k hk => k3 k (by omega) (by omega))
  have o3' : Only (rlP L) u u3 := o2.tr (o3.wk (fun a q => by unfold rlP; omega))
  generalize hLR : libS P (tk n f) 1000 vE (false, false, false) 0 = LR at hb hg
  have loop : ∀ (g k i : Nat) (v : LV) (fg : FG) (u4 : am_U), k + g = 1000 → k ≤ i → Only (rlP L) u u4 → FI u4 1 4 = 0 → RdC u4 n f m i → BkC u4 L v → LwC u4 L v → WF v → FlgC u4 fg →
      LR = libS P (tk n f) g v fg i → Ex (d + 62) 65 33 [some (.ref 6), some (.ref L), some (.int (nI k))] [] (am_emb u4) post := by
    intro g
    induction g with
    | zero =>
      intro k i v fg u4 hk hki o4 f4 R B W hW F he
      obtain rfl : k = 1000 := by omega
      have hfin := hg v u4 (by rw [he]; rfl) o4 hW B.1 B.2.1 W f4
      rw [ex_65_33]
      simp (disch := first | exact am_nl_i _ | exact am_nl_r _ | exact am_nl_0 | (refine vi_nI ?_ ?_ <;> omega) | assumption | omega | exact b2i_01 _ | exact Or.inl rfl | exact Or.inr rfl | (unfold vi; decide)) only [ex_65_0, ex_65_1, ex_65_2, ex_65_5, ex_65_6, ex_65_9, ex_65_12, ex_65_13, ex_65_14, ex_65_17, ex_65_18, ex_65_19, ex_65_22, ex_65_23, ex_65_24, ex_65_27, ex_65_28, ex_65_31, ex_65_32, ex_65_34, ex_65_37, ex_65_40, ex_65_41, ex_65_44, ex_65_47, ex_65_48, ex_65_51, ex_65_52, ex_65_55, ex_65_56, ex_65_59, ex_65_62, ex_65_65, ex_65_66, ex_65_69, if_true, if_false, and_self, Option.toList_some, Option.toList_none, List.singleton_append, List.cons_append, List.nil_append, List.append_nil, nI_1, nt_e, Int32.le_refl, lq1000, nI_leI, Nat.le_refl, R.2.2.1, Bool.true_eq_false, Bool.false_eq_true, ↓reduceIte]
      exact hfin
    | succ g ih =>
      intro k i v fg u4 hk hki o4 f4 R B W hW F he
      have q1 : ¬ 1000 ≤ k := by omega
      have hcl := cs_lt (tk_ok (n := n) (f := f) i)
      rw [ex_65_33]
      by_cases c : csort (tk n f i) = 3
      · have hfin := hg v u4 (by rw [he, libS, if_pos c]) o4 hW B.1 B.2.1 W f4
        have c2 : nI (csort (tk n f i)) = 3 := by rw [c]; rfl
        simp (disch := first | exact am_nl_i _ | exact am_nl_r _ | exact am_nl_0 | (refine vi_nI ?_ ?_ <;> omega) | assumption | omega | exact b2i_01 _ | exact Or.inl rfl | exact Or.inr rfl | (unfold vi; decide)) only [ex_65_0, ex_65_1, ex_65_2, ex_65_5, ex_65_6, ex_65_9, ex_65_12, ex_65_13, ex_65_14, ex_65_17, ex_65_18, ex_65_19, ex_65_22, ex_65_23, ex_65_24, ex_65_27, ex_65_28, ex_65_31, ex_65_32, ex_65_34, ex_65_37, ex_65_40, ex_65_41, ex_65_44, ex_65_47, ex_65_48, ex_65_51, ex_65_52, ex_65_55, ex_65_56, ex_65_59, ex_65_62, ex_65_65, ex_65_66, ex_65_69, if_true, if_false, and_self, Option.toList_some, Option.toList_none, List.singleton_append, List.cons_append, List.nil_append, List.append_nil, nI_1, nt_e, Int32.le_refl, lq1000, nI_leI, q1, R.2.2.1, rsort_ok R, c2, Bool.true_eq_false, Bool.false_eq_true, ↓reduceIte]
        exact hfin
      · have c2 : ¬ nI (csort (tk n f i)) = 3 := fun y => c ((nI_eqI (b := 3) (by omega) (by omega)).mp y)
        rw [libS, if_neg c] at he
        simp (disch := first | exact am_nl_i _ | exact am_nl_r _ | exact am_nl_0 | (refine vi_nI ?_ ?_ <;> omega) | assumption | omega | exact b2i_01 _ | exact Or.inl rfl | exact Or.inr rfl | (unfold vi; decide)) only [ex_65_0, ex_65_1, ex_65_2, ex_65_5, ex_65_6, ex_65_9, ex_65_12, ex_65_13, ex_65_14, ex_65_17, ex_65_18, ex_65_19, ex_65_22, ex_65_23, ex_65_24, ex_65_27, ex_65_28, ex_65_31, ex_65_32, ex_65_34, ex_65_37, ex_65_40, ex_65_41, ex_65_44, ex_65_47, ex_65_48, ex_65_51, ex_65_52, ex_65_55, ex_65_59, ex_65_62, ex_65_65, ex_65_66, ex_65_69, if_true, if_false, and_self, Option.toList_some, Option.toList_none, List.singleton_append, List.cons_append, List.nil_append, List.append_nil, nI_1, nt_e, Int32.le_refl, lq1000, nI_leI, q1, R.2.2.1, rsort_ok R, c2, Bool.true_eq_false, Bool.false_eq_true, ↓reduceIte]
        rw [ex_65_56]
        have bk : ∀ x, bkP L x → rlP L x := fun x q => by unfold bkP at q; unfold rlP; omega
        have n1 : ¬ bkP L 1 := by unfold bkP; omega
        refine readStat_ok (d := d) R c B W hW F hP ⟨fun e u5 hr o5 m5 Fl => ?_, fun v' fg' j u5 hr o5 Fg Bk Lw Rd => ?_⟩
        · have z := flt_ne Fl
          have hfin := hb e u5 (by rw [he, hr]) (o4.tr (o5.wk bk)) m5 (by rw [(o5 1 n1).1]; exact f4) Fl.2.1 Fl.2.2.1
          have z9 := Fl.1
          simp (disch := first | exact am_nl_i _ | exact am_nl_r _ | exact am_nl_0 | (refine vi_nI ?_ ?_ <;> omega) | assumption | omega | exact b2i_01 _ | exact Or.inl rfl | exact Or.inr rfl | (unfold vi; decide)) only [ex_65_0, ex_65_1, ex_65_2, ex_65_5, ex_65_6, ex_65_9, ex_65_12, ex_65_13, ex_65_14, ex_65_17, ex_65_18, ex_65_19, ex_65_22, ex_65_23, ex_65_24, ex_65_27, ex_65_28, ex_65_31, ex_65_32, ex_65_34, ex_65_37, ex_65_40, ex_65_41, ex_65_44, ex_65_47, ex_65_48, ex_65_51, ex_65_52, ex_65_55, ex_65_56, ex_65_59, ex_65_62, ex_65_65, ex_65_66, ex_65_69, if_true, if_false, and_self, Option.toList_some, Option.toList_none, List.singleton_append, List.cons_append, List.nil_append, List.append_nil, nI_1, nt_e, Int32.le_refl, nI_1, Bool.true_eq_false, Bool.false_eq_true, ↓reduceIte]
          rw [ex_65_33]
          rw [z9] at z
          by_cases q : (1000 : Int32) ≤ nI (k + 1)
          · simp (disch := first | exact am_nl_i _ | exact am_nl_r _ | exact am_nl_0 | (refine vi_nI ?_ ?_ <;> omega) | assumption | omega | exact b2i_01 _ | exact Or.inl rfl | exact Or.inr rfl | (unfold vi; decide)) only [ex_65_0, ex_65_1, ex_65_2, ex_65_5, ex_65_6, ex_65_9, ex_65_12, ex_65_13, ex_65_14, ex_65_17, ex_65_18, ex_65_19, ex_65_22, ex_65_23, ex_65_24, ex_65_27, ex_65_28, ex_65_31, ex_65_32, ex_65_34, ex_65_37, ex_65_40, ex_65_41, ex_65_44, ex_65_47, ex_65_48, ex_65_51, ex_65_52, ex_65_55, ex_65_56, ex_65_59, ex_65_62, ex_65_65, ex_65_66, ex_65_69, if_true, if_false, and_self, Option.toList_some, Option.toList_none, List.singleton_append, List.cons_append, List.nil_append, List.append_nil, nI_1, nt_e, Int32.le_refl, q, z9, Bool.true_eq_false, Bool.false_eq_true, ↓reduceIte]
            exact hfin
          · simp (disch := first | exact am_nl_i _ | exact am_nl_r _ | exact am_nl_0 | (refine vi_nI ?_ ?_ <;> omega) | assumption | omega | exact b2i_01 _ | exact Or.inl rfl | exact Or.inr rfl | (unfold vi; decide)) only [ex_65_0, ex_65_1, ex_65_2, ex_65_5, ex_65_6, ex_65_9, ex_65_12, ex_65_13, ex_65_14, ex_65_17, ex_65_18, ex_65_19, ex_65_22, ex_65_23, ex_65_24, ex_65_27, ex_65_28, ex_65_31, ex_65_32, ex_65_34, ex_65_37, ex_65_40, ex_65_41, ex_65_44, ex_65_47, ex_65_48, ex_65_51, ex_65_52, ex_65_55, ex_65_56, ex_65_59, ex_65_62, ex_65_65, ex_65_66, ex_65_69, if_true, if_false, and_self, Option.toList_some, Option.toList_none, List.singleton_append, List.cons_append, List.nil_append, List.append_nil, nI_1, nt_e, Int32.le_refl, q, z9, z, Bool.true_eq_false, Bool.false_eq_true, ↓reduceIte]
            exact hfin
        · obtain ⟨w1, w2⟩ := stm_wf hE hP R.2.1 hW hr
          simp (disch := first | exact am_nl_i _ | exact am_nl_r _ | exact am_nl_0 | (refine vi_nI ?_ ?_ <;> omega) | assumption | omega | exact b2i_01 _ | exact Or.inl rfl | exact Or.inr rfl | (unfold vi; decide)) only [ex_65_0, ex_65_1, ex_65_2, ex_65_5, ex_65_6, ex_65_9, ex_65_12, ex_65_13, ex_65_14, ex_65_17, ex_65_18, ex_65_19, ex_65_22, ex_65_23, ex_65_24, ex_65_27, ex_65_28, ex_65_31, ex_65_32, ex_65_34, ex_65_37, ex_65_40, ex_65_41, ex_65_44, ex_65_47, ex_65_48, ex_65_51, ex_65_52, ex_65_55, ex_65_56, ex_65_59, ex_65_62, ex_65_65, ex_65_66, ex_65_69, if_true, if_false, and_self, Option.toList_some, Option.toList_none, List.singleton_append, List.cons_append, List.nil_append, List.append_nil, nI_1, nt_e, Int32.le_refl, nI_1, Bool.true_eq_false, Bool.false_eq_true, ↓reduceIte]
          exact ih (k + 1) j v' fg' u5 (by omega) (by omega) (o4.tr (o5.wk bk)) (by rw [(o5 1 n1).1]; exact f4) Rd Bk Lw w1 Fg (by rw [he, hr])
  simp (disch := first | exact am_nl_i _ | exact am_nl_r _ | exact am_nl_0 | (refine vi_nI ?_ ?_ <;> omega) | assumption | omega | exact b2i_01 _ | exact Or.inl rfl | exact Or.inr rfl | (unfold vi; decide)) only [ex_65_0, ex_65_1, ex_65_2, ex_65_5, ex_65_6, ex_65_9, ex_65_12, ex_65_13, ex_65_14, ex_65_17, ex_65_18, ex_65_19, ex_65_22, ex_65_23, ex_65_24, ex_65_27, ex_65_28, ex_65_31, ex_65_32, ex_65_34, ex_65_37, ex_65_40, ex_65_41, ex_65_44, ex_65_47, ex_65_48, ex_65_51, ex_65_52, ex_65_55, ex_65_56, ex_65_59, ex_65_62, ex_65_65, ex_65_66, ex_65_69, if_true, if_false, and_self, Option.toList_some, Option.toList_none, List.singleton_append, List.cons_append, List.nil_append, List.append_nil, nI_1, nt_e, Int32.le_refl, Bool.true_eq_false, Bool.false_eq_true, ↓reduceIte]
  exact loop 1000 0 0 vE (false, false, false) u3 rfl (Nat.le_refl _) o3' f3 R3 B3 W3 WF_E F3 hLR.symm
  all_goals exact hL
end LibC2
