/-! HISTORY, of the class: all of it -/
def hcP (a : Nat) : Prop := a = 1 ∨ a = 3 ∨ a = 4 ∨ a = 5 ∨ a = 6 ∨ (59 ≤ a ∧ a ≤ 63)
def hsC (a : Nat) : Prop := hcP a ∨ (69 ≤ a ∧ a ≤ 73)
section HistC2
variable {d n m L L' : Nat} {u : am_U} {S : ST} {f : Nat → Nat} {v : LV} {post : Option Value → am_M → Prop}
theorem readHist_ok (hT : TpC u n f) (hE : EndAt n f m) (hLL : L = 7 ∨ L = 33) (hC : LibC u L v) (hN : NamesC u L v) (hP : nP v ≤ 12) (hEv : nE v ≤ 12)
    (hb : ∀ e u', histS v (tk n f) 1000 (0, fun _ _ => 0) 0 = .error e → Only hcP u u' → FI u' 1 4 = 0 → 0 < e → e < 2 ^ 31 → post (some (.int (nI e))) (am_emb u'))
    (hg : ∀ g u', histS v (tk n f) 1000 (0, fun _ _ => 0) 0 = .ok g → Only hcP u u' → FI u' 1 4 = 0 → LinesC u' 59 g → WH v g → post (some (.int 0)) (am_emb u')) : Cl (d + 9) 66 [.ref 6, .ref L, .ref 59] (am_emb u) post := by
  have h59 := shl_59
  have hL : sh L 3 19 := by
    rcases hLL with e | e
    · rw [e]; exact shl_7
    · rw [e]; exact shl_33
  have g2 : FR (sFR (sFR u 6 2 (some L)) 6 3 (some 59)) 6 2 = some L := by rw [FR_sFR, if_neg (by decide), FR_sFR, if_pos ⟨rfl, rfl⟩]
  have g3 : FR (sFR (sFR u 6 2 (some L)) 6 3 (some 59)) 6 3 = some 59 := by rw [FR_sFR, if_pos ⟨rfl, rfl⟩]
  have o1 : Only hcP u (sFI (sFR (sFR u 6 2 (some L)) 6 3 (some 59)) 59 4 0) := of_fi (of_fr (Only.sFR (by unfold hcP; omega)) (by unfold hcP; omega)) (by unfold hcP; omega)
  have T1 : TpC (sFI (sFR (sFR u 6 2 (some L)) 6 3 (some 59)) 59 4 0) n f := hT.keep (P := hcP) o1 (by rw [FI_sFI, if_neg (by decide)]; rfl) (by unfold hcP; omega)
  have f59 : FI (sFI (sFR (sFR u 6 2 (some L)) 6 3 (some 59)) 59 4 0) 59 4 = 0 := by rw [FI_sFI, if_pos ⟨rfl, rfl⟩]
  have fr6 : FR (sFI (sFR (sFR u 6 2 (some L)) 6 3 (some 59)) 59 4 0) = FR (sFR (sFR u 6 2 (some L)) 6 3 (some 59)) := rfl
  rw [op_66]
  simp (disch := first | exact am_nl_i _ | exact am_nl_r _ | exact am_nl_0 | (refine vi_nI ?_ ?_ <;> omega) | assumption | omega | exact b2i_01 _ | exact Or.inl rfl | exact Or.inr rfl | (unfold vi; decide)) only [ex_66_0, ex_66_1, ex_66_2, ex_66_5, ex_66_6, ex_66_7, ex_66_10, ex_66_11, ex_66_14, ex_66_15, ex_66_18, ex_66_22, ex_66_23, ex_66_24, ex_66_25, ex_66_28, ex_66_31, ex_66_32, ex_66_35, ex_66_38, ex_66_39, ex_66_42, ex_66_43, ex_66_46, ex_66_47, ex_66_50, ex_66_53, ex_66_56, ex_66_57, ex_66_60, if_true, if_false, and_self, Option.toList_some, Option.toList_none, List.singleton_append, List.cons_append, List.nil_append, List.append_nil, nI_1, nt_e, Int32.le_refl, g2, g3, va_rfs, Bool.true_eq_false, Bool.false_eq_true, ↓reduceIte]
  have g2' := g2
  have g3' := g3
  rw [← fr6] at g2' g3'
  generalize (sFI (sFR (sFR u 6 2 (some L)) 6 3 (some 59)) 59 4 0) = u1 at *
  rw [ex_66_19]
  refine begin_ok (d := d) T1 hE (fun u2 o2 k2 r2 f2 R2 => ?_)
  have o12 : Only hcP u u2 := o1.tr (o2.wk (fun a q => by unfold hcP; omega))
  have nl : ∀ k, k ≤ 25 → ¬ hcP (L + k) := fun k _ => by unfold hcP; omega
  have B2 : BkH u2 L v := by
    obtain ⟨⟨_, c2, c3, _⟩, _⟩ := hC
    obtain ⟨_, n2, n3, _⟩ := hN
    exact ⟨hL, by rw [r2]; exact g2', by rw [r2]; exact g3', by rw [(o12 _ (nl 3 (by decide))).1]; exact c2, by rw [(o12 _ (nl 5 (by decide))).1]; exact c3, by rw [(o12 _ (nl 4 (by decide))).2.2.2.2.1]; exact n2, by rw [(o12 _ (nl 6 (by decide))).2.2.2.2.1]; exact n3, hP, hEv⟩
  have L2 : LinesC u2 59 (0, fun _ _ => 0) := ⟨by rw [(o2 59 (by decide)).1, f59]; rfl, fun j hj => absurd hj (Nat.not_lt_zero j)⟩
  generalize hLR : histS v (tk n f) 1000 (0, fun _ _ => 0) 0 = LR at hb hg
  have hh : ∀ a, hrP a → hcP a := fun a q => by unfold hrP at q; unfold hcP; omega
  have loop : ∀ (g k i : Nat) (h0 : HL) (u3 : am_U), k + g = 1000 → k ≤ i → Only hcP u u3 → FI u3 1 4 = 0 → RdC u3 n f m i → BkH u3 L v → LinesC u3 59 h0 → WH v h0 → LR = histS v (tk n f) g h0 i →
      Ex (d + 9) 66 24 [some (.ref 6), some (.ref L), some (.ref 59), some (.int (nI k))] [] (am_emb u3) post := by
    intro g
    induction g with
    | zero =>
      intro k i h0 u3 hk hki o3 f3 R B3 L3 W3 he
      obtain rfl : k = 1000 := by omega
      have hfin := hg h0 u3 (by rw [he]; rfl) o3 f3 L3 W3
      rw [ex_66_24]
      simp (disch := first | exact am_nl_i _ | exact am_nl_r _ | exact am_nl_0 | (refine vi_nI ?_ ?_ <;> omega) | assumption | omega | exact b2i_01 _ | exact Or.inl rfl | exact Or.inr rfl | (unfold vi; decide)) only [ex_66_0, ex_66_1, ex_66_2, ex_66_5, ex_66_6, ex_66_7, ex_66_10, ex_66_11, ex_66_14, ex_66_15, ex_66_18, ex_66_19, ex_66_22, ex_66_23, ex_66_25, ex_66_28, ex_66_31, ex_66_32, ex_66_35, ex_66_38, ex_66_39, ex_66_42, ex_66_43, ex_66_46, ex_66_47, ex_66_50, ex_66_53, ex_66_56, ex_66_57, ex_66_60, if_true, if_false, and_self, Option.toList_some, Option.toList_none, List.singleton_append, List.cons_append, List.nil_append, List.append_nil, nI_1, nt_e, Int32.le_refl, lq1000, nI_leI, Nat.le_refl, R.2.2.1, Bool.true_eq_false, Bool.false_eq_true, ↓reduceIte]
      exact hfin
    | succ g ih =>
      intro k i h0 u3 hk hki o3 f3 R B3 L3 W3 he
      have q : ¬ 1000 ≤ k := by omega
      have hl := cs_lt (tk_ok (n := n) (f := f) i)
      rw [histS] at he
      rw [ex_66_24]
      by_cases c : csort (tk n f i) = 3
      · rw [if_pos c] at he
        have hfin := hg h0 u3 he o3 f3 L3 W3
        simp (disch := first | exact am_nl_i _ | exact am_nl_r _ | exact am_nl_0 | (refine vi_nI ?_ ?_ <;> omega) | assumption | omega | exact b2i_01 _ | exact Or.inl rfl | exact Or.inr rfl | (unfold vi; decide)) only [ex_66_0, ex_66_1, ex_66_2, ex_66_5, ex_66_6, ex_66_7, ex_66_10, ex_66_11, ex_66_14, ex_66_15, ex_66_18, ex_66_19, ex_66_22, ex_66_23, ex_66_25, ex_66_28, ex_66_31, ex_66_32, ex_66_35, ex_66_38, ex_66_39, ex_66_42, ex_66_43, ex_66_46, ex_66_47, ex_66_50, ex_66_53, ex_66_56, ex_66_57, ex_66_60, if_true, if_false, and_self, Option.toList_some, Option.toList_none, List.singleton_append, List.cons_append, List.nil_append, List.append_nil, nI_1, nt_e, Int32.le_refl, lq1000, nI_leI, q, R.2.2.1, rsort_ok R, c, show (nI 3 = (3 : Int32)) = True from eq_true (by decide), Bool.true_eq_false, Bool.false_eq_true, ↓reduceIte]
        exact hfin
      · rw [if_neg c] at he
        have n3 : ¬ nI (csort (tk n f i)) = 3 := fun e => c ((nI_eqI (b := 3) (by omega) (by decide)).mp e)
        simp (disch := first | exact am_nl_i _ | exact am_nl_r _ | exact am_nl_0 | (refine vi_nI ?_ ?_ <;> omega) | assumption | omega | exact b2i_01 _ | exact Or.inl rfl | exact Or.inr rfl | (unfold vi; decide)) only [ex_66_0, ex_66_1, ex_66_2, ex_66_5, ex_66_6, ex_66_7, ex_66_10, ex_66_11, ex_66_14, ex_66_15, ex_66_18, ex_66_19, ex_66_22, ex_66_23, ex_66_25, ex_66_28, ex_66_31, ex_66_32, ex_66_35, ex_66_38, ex_66_39, ex_66_42, ex_66_43, ex_66_46, ex_66_50, ex_66_53, ex_66_56, ex_66_57, ex_66_60, if_true, if_false, and_self, Option.toList_some, Option.toList_none, List.singleton_append, List.cons_append, List.nil_append, List.append_nil, nI_1, nt_e, Int32.le_refl, lq1000, nI_leI, q, R.2.2.1, rsort_ok R, n3, Bool.true_eq_false, Bool.false_eq_true, ↓reduceIte]
        rw [ex_66_47]
        refine readLine_ok (d := d + 4) R B3 L3 W3.1 c (fun e u4 z o4 r4 F => ?_) (fun x j u4 z o4 r4 R4 L4 => ?_)
        · rw [z] at he
          have hfin := hb e u4 he (o3.tr (o4.wk hh)) (by rw [(o4 1 (by unfold hrP; omega)).1]; exact f3) F.2.1 F.2.2.1
          have zf := flt_ne F
          have f9 := F.1
          by_cases q2 : 1000 ≤ k + 1
          · simp (disch := first | exact am_nl_i _ | exact am_nl_r _ | exact am_nl_0 | (refine vi_nI ?_ ?_ <;> omega) | assumption | omega | exact b2i_01 _ | exact Or.inl rfl | exact Or.inr rfl | (unfold vi; decide)) only [ex_66_0, ex_66_1, ex_66_2, ex_66_5, ex_66_6, ex_66_7, ex_66_10, ex_66_11, ex_66_14, ex_66_15, ex_66_18, ex_66_19, ex_66_22, ex_66_23, ex_66_25, ex_66_28, ex_66_31, ex_66_32, ex_66_35, ex_66_38, ex_66_39, ex_66_42, ex_66_43, ex_66_46, ex_66_47, ex_66_50, ex_66_53, ex_66_56, ex_66_57, ex_66_60, if_true, if_false, and_self, Option.toList_some, Option.toList_none, List.singleton_append, List.cons_append, List.nil_append, List.append_nil, nI_1, nt_e, Int32.le_refl, nI_1, Bool.true_eq_false, Bool.false_eq_true, ↓reduceIte]
            rw [ex_66_24]
            simp (disch := first | exact am_nl_i _ | exact am_nl_r _ | exact am_nl_0 | (refine vi_nI ?_ ?_ <;> omega) | assumption | omega | exact b2i_01 _ | exact Or.inl rfl | exact Or.inr rfl | (unfold vi; decide)) only [ex_66_0, ex_66_1, ex_66_2, ex_66_5, ex_66_6, ex_66_7, ex_66_10, ex_66_11, ex_66_14, ex_66_15, ex_66_18, ex_66_19, ex_66_22, ex_66_23, ex_66_25, ex_66_28, ex_66_31, ex_66_32, ex_66_35, ex_66_38, ex_66_39, ex_66_42, ex_66_43, ex_66_46, ex_66_47, ex_66_50, ex_66_53, ex_66_56, ex_66_57, ex_66_60, if_true, if_false, and_self, Option.toList_some, Option.toList_none, List.singleton_append, List.cons_append, List.nil_append, List.append_nil, nI_1, nt_e, Int32.le_refl, lq1000, nI_leI, q2, f9, Bool.true_eq_false, Bool.false_eq_true, ↓reduceIte]
            exact hfin
          · have ne : ¬ nI e = 0 := by rw [← f9]; exact zf
            simp (disch := first | exact am_nl_i _ | exact am_nl_r _ | exact am_nl_0 | (refine vi_nI ?_ ?_ <;> omega) | assumption | omega | exact b2i_01 _ | exact Or.inl rfl | exact Or.inr rfl | (unfold vi; decide)) only [ex_66_0, ex_66_1, ex_66_2, ex_66_5, ex_66_6, ex_66_7, ex_66_10, ex_66_11, ex_66_14, ex_66_15, ex_66_18, ex_66_19, ex_66_22, ex_66_23, ex_66_25, ex_66_28, ex_66_31, ex_66_32, ex_66_35, ex_66_38, ex_66_39, ex_66_42, ex_66_43, ex_66_46, ex_66_47, ex_66_50, ex_66_53, ex_66_56, ex_66_57, ex_66_60, if_true, if_false, and_self, Option.toList_some, Option.toList_none, List.singleton_append, List.cons_append, List.nil_append, List.append_nil, nI_1, nt_e, Int32.le_refl, nI_1, Bool.true_eq_false, Bool.false_eq_true, ↓reduceIte]
            rw [ex_66_24]
            simp (disch := first | exact am_nl_i _ | exact am_nl_r _ | exact am_nl_0 | (refine vi_nI ?_ ?_ <;> omega) | assumption | omega | exact b2i_01 _ | exact Or.inl rfl | exact Or.inr rfl | (unfold vi; decide)) only [ex_66_0, ex_66_1, ex_66_2, ex_66_5, ex_66_6, ex_66_7, ex_66_10, ex_66_11, ex_66_14, ex_66_15, ex_66_18, ex_66_19, ex_66_22, ex_66_23, ex_66_25, ex_66_28, ex_66_31, ex_66_32, ex_66_35, ex_66_38, ex_66_39, ex_66_42, ex_66_43, ex_66_46, ex_66_47, ex_66_50, ex_66_53, ex_66_56, ex_66_57, ex_66_60, if_true, if_false, and_self, Option.toList_some, Option.toList_none, List.singleton_append, List.cons_append, List.nil_append, List.append_nil, nI_1, nt_e, Int32.le_refl, lq1000, nI_leI, q2, f9, ne, Bool.true_eq_false, Bool.false_eq_true, ↓reduceIte]
            exact hfin
        · rw [z] at he
          simp (disch := first | exact am_nl_i _ | exact am_nl_r _ | exact am_nl_0 | (refine vi_nI ?_ ?_ <;> omega) | assumption | omega | exact b2i_01 _ | exact Or.inl rfl | exact Or.inr rfl | (unfold vi; decide)) only [ex_66_0, ex_66_1, ex_66_2, ex_66_5, ex_66_6, ex_66_7, ex_66_10, ex_66_11, ex_66_14, ex_66_15, ex_66_18, ex_66_19, ex_66_22, ex_66_23, ex_66_25, ex_66_28, ex_66_31, ex_66_32, ex_66_35, ex_66_38, ex_66_39, ex_66_42, ex_66_43, ex_66_46, ex_66_47, ex_66_50, ex_66_53, ex_66_56, ex_66_57, ex_66_60, if_true, if_false, and_self, Option.toList_some, Option.toList_none, List.singleton_append, List.cons_append, List.nil_append, List.append_nil, nI_1, nt_e, Int32.le_refl, nI_1, Bool.true_eq_false, Bool.false_eq_true, ↓reduceIte]
          exact ih (k + 1) j (addLn h0 x) u4 (by omega) (by have := (lineR_go hE R.2.1 z).2.1; omega) (o3.tr (o4.wk hh)) (by rw [(o4 1 (by unfold hrP; omega)).1]; exact f3) R4 (B3.keep o4 (fun k hk q => nl k hk (hh _ q)) r4) L4 (WH_add hE R.2.1 rfl z W3) he
  simp (disch := first | exact am_nl_i _ | exact am_nl_r _ | exact am_nl_0 | (refine vi_nI ?_ ?_ <;> omega) | assumption | omega | exact b2i_01 _ | exact Or.inl rfl | exact Or.inr rfl | (unfold vi; decide)) only [ex_66_0, ex_66_1, ex_66_2, ex_66_5, ex_66_6, ex_66_7, ex_66_10, ex_66_11, ex_66_14, ex_66_15, ex_66_18, ex_66_19, ex_66_22, ex_66_23, ex_66_25, ex_66_28, ex_66_31, ex_66_32, ex_66_35, ex_66_38, ex_66_39, ex_66_42, ex_66_43, ex_66_46, ex_66_47, ex_66_50, ex_66_53, ex_66_56, ex_66_57, ex_66_60, if_true, if_false, and_self, Option.toList_some, Option.toList_none, List.singleton_append, List.cons_append, List.nil_append, List.append_nil, nI_1, nt_e, Int32.le_refl, Bool.true_eq_false, Bool.false_eq_true, ↓reduceIte]
  exact loop 1000 0 0 _ u2 rfl (Nat.le_refl _) o12 f2 R2 B2 L2 ⟨Nat.zero_le _, fun j hj => absurd hj (Nat.not_lt_zero j)⟩ hLR.symm
theorem hist_keep {u' : am_U} (hI : InvC u S L L') (ho : Only hcP u u') (hf : FI u' 1 4 = 0) : InvC u' (withT S (0, fun _ => 0)) L L' := by
  obtain ⟨⟨r1, r2, r3, r4, r5, r6⟩, ⟨l1, l2, l3⟩, st, pst, mk, tp⟩ := hI
  have hp : ∀ a, a = 0 ∨ 64 ≤ a ∨ (7 ≤ a ∧ a ≤ 58) → ¬ hcP a := fun a ha q => by unfold hcP at q; omega
  have e := fun a ha => ho a (hp a ha)
  refine ⟨⟨by rw [(e 0 (by omega)).2.2.1]; exact r1, by rw [(e 0 (by omega)).2.2.1]; exact r2, r3, by rw [(e 82 (by omega)).2.2.2.2.2]; exact r4, by rw [(e 147 (by omega)).2.2.2.2.2]; exact r5, ?_⟩, ⟨l1.keep ho (fun k hk => hp _ (by omega)), l2.keep ho (hp _ (by omega)) (hp _ (by omega)), l3.keep ho (hp _ (by omega)) (hp _ (by omega))⟩, st.keep ho (fun k hk => hp _ (by omega)), past_keep pst ho (e 0 (by omega)).1 (fun a h1 h2 => hp _ (by omega)), fun k hk => ⟨by rw [(e (148 + 10 * k) (by omega)).1]; exact (mk k hk).1, fun s hs => ((mk k hk).2 s hs).keep ho (fun j hj => hp _ (by omega))⟩, ⟨hf, fun j hj => absurd hj (Nat.not_lt_zero j)⟩⟩
  unfold most4
  rw [(e (L' + 1) (by omega)).1, (e (L' + 3) (by omega)).1, (e (L' + 5) (by omega)).1, (e (L' + 7) (by omega)).1]
  exact r6
theorem C_history (hI : InvC u S L L') (hN : NamesC u L S.1) (hW : WS S) (hf : ∀ j, j < S.2.2.2.2.1 → S.2.2.2.2.2 j = nI (f j) ∧ f j ≤ 126) (hE : EndAt S.2.2.2.2.1 f m)
    (h : ∀ u', Only hsC u u' → InvC u' (historyS S f).1 L L' → post (some (.int (historyS S f).2)) (am_emb u')) : Cl (d + 10) 118 [.ref 0] (am_emb u) post := by
  have hI0 := hI
  obtain ⟨⟨r1, r2, r3, r4, r5, r6⟩, ⟨l1, l2, l3⟩, st, pst, mk, tp⟩ := hI
  have h64 := shl_64
  have h69 := shl_69
  have hn := hW.2.2.2.2.1
  have hT : TpC u S.2.2.2.2.1 f := ⟨tp.1, fun j hj => by rw [tp.2 j hj]; exact (hf j hj).1, hn, fun j hj => (hf j hj).2⟩
  have hLL : L = 7 ∨ L = 33 := by omega
  have hL : sh L 3 19 := by
    rcases hLL with e | e
    · rw [e]; exact shl_7
    · rw [e]; exact shl_33
  have ac : ∀ a, hcP a → hsC a := fun a q => Or.inl q
  unfold historyS at h
  rw [op_118]
  simp (disch := first | exact am_nl_i _ | exact am_nl_r _ | exact am_nl_0 | (refine vi_nI ?_ ?_ <;> omega) | assumption | omega | exact b2i_01 _ | exact Or.inl rfl | exact Or.inr rfl | (unfold vi; decide)) only [ex_118_0, ex_118_1, ex_118_4, ex_118_5, ex_118_8, ex_118_9, ex_118_15, ex_118_16, ex_118_17, ex_118_20, ex_118_21, ex_118_24, ex_118_27, ex_118_28, ex_118_31, ex_118_34, ex_118_35, if_true, if_false, and_self, Option.toList_some, Option.toList_none, List.singleton_append, List.cons_append, List.nil_append, List.append_nil, nI_1, nt_e, Int32.le_refl, r1, va_rfs, Bool.true_eq_false, Bool.false_eq_true, ↓reduceIte]
  rw [ex_118_12]
  refine readHist_ok (d := d) hT hE hLL l1 hN hW.1.1.2.1 (Nat.le_trans hW.1.1.2.2.1 (by decide)) (fun e u1 he o1 f1 e0 e1 => ?_) (fun g u1 he o1 f1 l59 wg => ?_)
  · rw [he] at h
    have hfin := h u1 (o1.wk ac) (hist_keep hI0 o1 f1)
    have ne0 : ¬ nI e = 0 := by rw [i_eq0 e1]; omega
    simp (disch := first | exact am_nl_i _ | exact am_nl_r _ | exact am_nl_0 | (refine vi_nI ?_ ?_ <;> omega) | assumption | omega | exact b2i_01 _ | exact Or.inl rfl | exact Or.inr rfl | (unfold vi; decide)) only [ex_118_0, ex_118_1, ex_118_4, ex_118_5, ex_118_8, ex_118_9, ex_118_12, ex_118_15, ex_118_16, ex_118_17, ex_118_20, ex_118_21, ex_118_24, ex_118_27, ex_118_28, ex_118_31, ex_118_34, ex_118_35, if_true, if_false, and_self, Option.toList_some, Option.toList_none, List.singleton_append, List.cons_append, List.nil_append, List.append_nil, nI_1, nt_e, Int32.le_refl, ne0, Bool.true_eq_false, Bool.false_eq_true, ↓reduceIte]
    exact hfin
  · rw [he] at h
    have i1 := hist_keep hI0 o1 f1
    simp (disch := first | exact am_nl_i _ | exact am_nl_r _ | exact am_nl_0 | (refine vi_nI ?_ ?_ <;> omega) | assumption | omega | exact b2i_01 _ | exact Or.inl rfl | exact Or.inr rfl | (unfold vi; decide)) only [ex_118_0, ex_118_1, ex_118_4, ex_118_5, ex_118_8, ex_118_9, ex_118_12, ex_118_15, ex_118_16, ex_118_17, ex_118_20, ex_118_21, ex_118_24, ex_118_27, ex_118_28, ex_118_34, ex_118_35, if_true, if_false, and_self, Option.toList_some, Option.toList_none, List.singleton_append, List.cons_append, List.nil_append, List.append_nil, nI_1, nt_e, Int32.le_refl, Bool.true_eq_false, Bool.false_eq_true, ↓reduceIte]
    rw [ex_118_31]
    refine linesSet_ok h69 shl_59 (by decide) wg.1 l59 (fun u2 o2 a2 => ?_)
    have kk := i1.2.2.1
    have s2 : StandC u2 64 (S.2.1.1, g, S.2.1.2.2) := ⟨kk.1.keep o2 (fun k hk => by unfold in5; omega), a2, by
      obtain ⟨t1, t2, t3⟩ := kk.2.2
      have e64 := (o2 64 (by unfold in5; omega)).1
      exact ⟨by rw [e64]; exact t1, by rw [e64]; exact t2, by rw [e64]; exact t3⟩⟩
    have i2 := now_inv i1 (o2.wk (fun a q => by unfold in5 at q; unfold nowP; omega)) s2
    have hfin := h u2 ((o1.wk ac).tr (o2.wk (fun a q => Or.inr (by unfold in5 at q; omega)))) i2
    simp (disch := first | exact am_nl_i _ | exact am_nl_r _ | exact am_nl_0 | (refine vi_nI ?_ ?_ <;> omega) | assumption | omega | exact b2i_01 _ | exact Or.inl rfl | exact Or.inr rfl | (unfold vi; decide)) only [ex_118_0, ex_118_1, ex_118_4, ex_118_5, ex_118_8, ex_118_9, ex_118_12, ex_118_15, ex_118_16, ex_118_17, ex_118_20, ex_118_21, ex_118_24, ex_118_27, ex_118_28, ex_118_31, ex_118_34, ex_118_35, if_true, if_false, and_self, Option.toList_some, Option.toList_none, List.singleton_append, List.cons_append, List.nil_append, List.append_nil, nI_1, nt_e, Int32.le_refl, Bool.true_eq_false, Bool.false_eq_true, ↓reduceIte]
    exact hfin
    all_goals exact h64
end HistC2
