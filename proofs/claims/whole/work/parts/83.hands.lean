/-! HANDS: what is kept, the rows tried -/
def burnN (b : Nat) : Nat → Nat
  | 0 => 1000000000
  | n + 1 => burnN b n * b / 10
theorem burnN_le {b : Nat} (hb : b ≤ 10) : ∀ n, burnN b n ≤ 1000000000
  | 0 => Nat.le_refl _
  | n + 1 => by
    have ih := burnN_le hb n
    have : burnN b n * b ≤ 1000000000 * 10 := Nat.mul_le_mul ih hb
    rw [burnN]
    omega
def lossN (v : LV) (b : Nat) (c : Nat → Nat) (f : Nat) : Nat → Nat
  | 0 => 1000000000
  | k + 1 => if !lie v k && (decide (0 < c k) && bt (saysV v k) f) then lossN v b c f k * burnN b (c k) / 1000000000 else lossN v b c f k
theorem lossN_le {v : LV} {b : Nat} (hb : b ≤ 10) {c : Nat → Nat} {f : Nat} : ∀ k, lossN v b c f k ≤ 1000000000
  | 0 => Nat.le_refl _
  | k + 1 => by
    have ih := lossN_le (v := v) hb (c := c) (f := f) k
    have : lossN v b c f k * burnN b (c k) ≤ 1000000000 * 1000000000 := Nat.mul_le_mul ih (burnN_le hb _)
    rw [lossN]
    split <;> omega
def keptN (v : LV) (l : LF) (b : Nat) (c : Nat → Nat) : Nat → Nat
  | 0 => 0
  | f + 1 => if bt (goneV v l) f then keptN v l b c f else keptN v l b c f + (1000000000 - (if bt (knownToSomeV v l) f then 0 else lossN v b c f (nP v)))
theorem keptN_le {v : LV} {l : LF} {b : Nat} {c : Nat → Nat} : ∀ f, keptN v l b c f ≤ 1000000000 * f
  | 0 => Nat.le_refl _
  | f + 1 => by
    have ih := keptN_le (v := v) (l := l) (b := b) (c := c) f
    rw [keptN]
    split
    · omega
    · omega
def valN (v : LV) (l : LF) (b : Nat) (c : Nat → Nat) : Nat := keptN v l b c (nF v) / 1000
theorem valN_le {v : LV} {l : LF} {b : Nat} {c : Nat → Nat} (h : nF v ≤ 12) : valN v l b c ≤ 12000000 := by
  have := keptN_le (v := v) (l := l) (b := b) (c := c) (nF v)
  unfold valN
  omega
abbrev HS : Type := Option Nat × (Nat → Nat)
def upN (f : Nat → Nat) (k x : Nat) : Nat → Nat := fun j => if j = k then x else f j
def loopK (F : Nat → HS → HS) : Nat → Nat → HS → HS
  | 0, _, st => st
  | n + 1, k, st => loopK F n (k + 1) (F k st)
def tryN (v : LV) (l : LF) (b : Nat) : Nat → Nat → Nat → (Nat → Nat) → (Nat → Nat) → HS → HS
  | 0, _, _, c, row, st => if st.1.all (fun z => decide (z < valN v l b c)) then (some (valN v l b c), row) else st
  | m + 1, h, from_, c, row, st => loopK (fun k st => if decide (1 ≤ c k) && decide (c k < 9) then tryN v l b m (h + 1) k (upN c k (c k + 1)) (upN row h k) st else st) (nP v - from_) from_ st
def HB (m : Nat) (st : HS) : Prop := (∀ z, st.1 = some z → z ≤ 12000000) ∧ (∀ i, i < m → st.1.isSome = true → st.2 i < 12)
theorem lN_ml (a b : Nat) : lN a * lN b = lN (a * b) := lN_mul a b
theorem lit_b : (1000000000 : Int64) = lN 1000000000 := rfl
theorem lit_10 : (10 : Int64) = lN 10 := rfl
theorem lit_1000 : (1000 : Int64) = lN 1000 := rfl
theorem nz_b : ¬ (lN 1000000000 = 0) := by decide
theorem nz_10 : ¬ (lN 10 = 0) := by decide
theorem nz_1000 : ¬ (lN 1000 = 0) := by decide
/-- what the class's copyists hold -/
def hdP (a : Nat) : Prop := 198 ≤ a ∧ a ≤ 202
def HdC (u : am_U) (L : Nat) (v : LV) (l : LF) (b m : Nat) (c : Nat → Nat) : Prop := FR u 198 3 = some L ∧ FI u 198 4 = nI m ∧ FI u 198 5 = (allFV v &&& nt (goneV v l)) ∧ FI u 198 6 = knownToSomeV v l ∧ (∀ k, k < 12 → AI u 199 k = nI (c k)) ∧ (∀ k, k < 12 → AJ u 200 k = lN (burnN b (c k)))
def HbC (u : am_U) (m : Nat) (st : HS) : Prop := FI u 198 8 = ob st.1 ∧ (st.1.isSome = true → ∀ i, i < m → AI u 202 i = nI (st.2 i))
section Hands
variable {d L b m : Nat} {u : am_U} {v : LV} {l : LF} {c : Nat → Nat} {post : Option Value → am_M → Prop}
theorem burn_ok {k x : Nat} (hk : k < 12) (hx : x ≤ 9) (hb : b ≤ 10) (hL : sh L 3 19) (hr : FR u 198 3 = some L) (hbu : FI u L 18 = nI b) (hL2 : L < 198) (hc : AI u 199 k = nI x) (h : ∀ u', Only (is 200) u u' → (∀ j, AJ u' 200 j = if j = k then lN (burnN b x) else AJ u 200 j) → post none (am_emb u')) : Cl d 12 [.ref 198, .int (nI k)] (am_emb u) post := by
  have n1 := nz_10
  rw [op_12]
  have loop : ∀ (kz i : Nat), i + kz = x → ∀ u', Only (is 200) u u' → (∀ j, AJ u' 200 j = if j = k then lN (burnN b i) else AJ u 200 j) → Ex d 12 11 [some (.ref 198), some (.int (nI k)), some (.int (nI i))] [] (am_emb u') post := by
    intro kz
    induction kz with
    | zero =>
      intro i hi u' ho g
      obtain rfl : i = x := by omega
      have e1 : AI u' 199 = AI u 199 := (ho 199 (by unfold is; omega)).2.2.2.1
      rw [ex_12_11]
      simp (disch := first | exact am_nl_i _ | exact am_nl_r _ | exact am_nl_0 | (refine vi_nI ?_ ?_ <;> omega) | assumption | omega | exact b2i_01 _ | exact Or.inl rfl | exact Or.inr rfl | (unfold vi; decide)) only [ex_12_0, ex_12_1, ex_12_4, ex_12_5, ex_12_8, ex_12_9, ex_12_10, ex_12_12, ex_12_13, ex_12_16, ex_12_17, ex_12_18, ex_12_22, ex_12_25, ex_12_26, ex_12_27, ex_12_30, ex_12_31, ex_12_32, ex_12_33, ex_12_36, ex_12_39, ex_12_40, ex_12_41, ex_12_44, ex_12_45, ex_12_46, ex_12_49, ex_12_52, if_true, if_false, and_self, Option.toList_some, Option.toList_none, List.singleton_append, List.cons_append, List.nil_append, List.append_nil, nI_1, nt_e, Int32.le_refl, nI_clamp, e1, hc, nI_leI, Nat.le_refl, Bool.true_eq_false, Bool.false_eq_true, ↓reduceIte]
      exact h u' ho g
    | succ kz ih =>
      intro i hi u' ho g
      have hnle : ¬ x ≤ i := by omega
      have e1 : AI u' 199 = AI u 199 := (ho 199 (by unfold is; omega)).2.2.2.1
      have e2 : FR u' 198 = FR u 198 := (ho 198 (by unfold is; omega)).2.2.1
      have e3 : FI u' L = FI u L := (ho L (by unfold is; omega)).1
      have g2 := g k
      rw [if_pos rfl] at g2
      have hbl := burnN_le hb i
      have hmul : burnN b i * b < 2 ^ 63 := Nat.lt_of_le_of_lt (Nat.mul_le_mul hbl hb) (by decide)
      rw [ex_12_11]
      simp (disch := first | exact am_nl_i _ | exact am_nl_r _ | exact am_nl_0 | (refine vi_nI ?_ ?_ <;> omega) | assumption | omega | exact b2i_01 _ | exact Or.inl rfl | exact Or.inr rfl | (unfold vi; decide)) only [ex_12_0, ex_12_1, ex_12_4, ex_12_5, ex_12_8, ex_12_9, ex_12_10, ex_12_12, ex_12_13, ex_12_16, ex_12_17, ex_12_18, ex_12_21, ex_12_22, ex_12_25, ex_12_26, ex_12_27, ex_12_30, ex_12_31, ex_12_32, ex_12_33, ex_12_36, ex_12_39, ex_12_40, ex_12_41, ex_12_44, ex_12_45, ex_12_46, ex_12_49, if_true, if_false, and_self, Option.toList_some, Option.toList_none, List.singleton_append, List.cons_append, List.nil_append, List.append_nil, nI_1, nt_e, Int32.le_refl, nI_clamp, e1, hc, nI_leI, hnle, e2, hr, va_rfs, e3, hbu, g2, nI_l, lN_ml, lit_10, Bool.true_eq_false, Bool.false_eq_true, ↓reduceIte]
      rw [pk_lDiv hmul (by decide) (by decide)]
      refine ih (i + 1) (by omega) _ (of_aj ho rfl) (fun j => ?_)
      rw [AJ_sAJ, if_pos rfl]
      by_cases e : j = k
      · rw [e, pk_uLs, if_pos rfl]; rfl
      · rw [pk_uLn e, if_neg e, g j, if_neg e]
  simp (disch := first | exact am_nl_i _ | exact am_nl_r _ | exact am_nl_0 | assumption | omega | (refine vi_nI ?_ ?_ <;> omega) | exact b2i_01 _ | exact Or.inl rfl | exact Or.inr rfl | (unfold vi; decide)) only [ex_12_0, ex_12_1, ex_12_4, ex_12_5, ex_12_8, ex_12_9, ex_12_10, ex_12_12, ex_12_13, ex_12_16, ex_12_17, ex_12_18, ex_12_21, ex_12_22, ex_12_25, ex_12_26, ex_12_27, ex_12_30, ex_12_31, ex_12_32, ex_12_33, ex_12_36, ex_12_39, ex_12_40, ex_12_41, ex_12_44, ex_12_45, ex_12_46, ex_12_49, ex_12_52, if_true, if_false, and_self, Option.toList_some, Option.toList_none, List.singleton_append, List.cons_append, List.nil_append, List.append_nil, nI_1, nt_e, Int32.le_refl, nI_clamp, lit_b]
  refine loop x 0 (by omega) _ (Only.sAJ rfl) (fun j => ?_)
  rw [AJ_sAJ, if_pos rfl]
  by_cases e : j = k
  · rw [e, pk_uLs, if_pos rfl]; rfl
  · rw [pk_uLn e, if_neg e]
theorem loss_ok {f : Nat} (hf : f < 32) (hc9 : ∀ k, c k ≤ 9) (hb : b ≤ 10) (hL : sh L 3 19) (hC : LibC u L v) (hW : WF v) (hH : HdC u L v l b m c) : Cl d 15 [.ref 198, .int (nI f)] (am_emb u) post ↔ post (some (.long (lN (lossN v b c f (nP v))))) (am_emb u) := by
  refine Cl_iff ?_ post
  obtain ⟨h1, h2, h3, h4, h5, h6⟩ := hH
  have h12 := hW.1.2.1
  have hn := hC.1.2.1
  have hho := hC.2.2.2.2.2.2.2.2.2.2.2.2.2.1
  have hs := hC.2.2.2.2.2.2.2.1
  have n1 := nz_b
  rw [op_15]
  have loop : ∀ (kz k : Nat) (j5 : Option Value), k + kz = nP v → Ex d 15 7 [some (.ref 198), some (.int (nI f)), some (.long (lN (lossN v b c f k))), none, some (.int (nI k)), j5] [] (am_emb u) (fun w n => w = some (.long (lN (lossN v b c f (nP v)))) ∧ n = am_emb u) := by
    intro kz
    induction kz with
    | zero =>
      intro k j5 hk
      obtain rfl : k = nP v := by omega
      rw [ex_15_7]
      simp (disch := first | exact am_nl_i _ | exact am_nl_r _ | exact am_nl_0 | (refine vi_nI ?_ ?_ <;> omega) | assumption | omega | exact b2i_01 _ | exact Or.inl rfl | exact Or.inr rfl | (unfold vi; decide)) only [ex_15_0, ex_15_3, ex_15_4, ex_15_5, ex_15_9, ex_15_10, ex_15_13, ex_15_16, ex_15_19, ex_15_23, ex_15_26, ex_15_29, ex_15_31, ex_15_32, ex_15_33, ex_15_34, ex_15_37, ex_15_38, ex_15_41, ex_15_42, ex_15_44, ex_15_46, ex_15_49, ex_15_50, ex_15_53, ex_15_55, ex_15_56, ex_15_59, ex_15_60, ex_15_63, ex_15_66, ex_15_68, ex_15_69, ex_15_70, ex_15_71, ex_15_72, ex_15_73, ex_15_76, ex_15_77, ex_15_78, ex_15_81, ex_15_83, ex_15_84, ex_15_85, ex_15_88, ex_15_89, ex_15_90, ex_15_93, ex_15_96, ex_15_97, if_true, if_false, and_self, Option.toList_some, Option.toList_none, List.singleton_append, List.cons_append, List.nil_append, List.append_nil, nI_1, nt_e, Int32.le_refl, h1, va_rfs, hn, nI_leI, Nat.le_refl, Bool.true_eq_false, Bool.false_eq_true, ↓reduceIte]
      (try (first | exact ⟨rfl, rfl⟩ | exact ⟨rfl, trivial⟩))
    | succ kz ih =>
      intro k j5 hk
      have ih := fun j5 => ih (k + 1) j5 (by omega)
      have hkp : k < nP v := by omega
      have hnle : ¬ nP v ≤ k := by omega
      have hho2 := honest_bt hW hkp
      have hcop := h5 k (by omega)
      have hgo := h6 k (by omega)
      have hck := hc9 k
      have hll := lossN_le (v := v) hb (c := c) (f := f) k
      have hmul : lossN v b c f k * burnN b (c k) < 2 ^ 63 := Nat.lt_of_le_of_lt (Nat.mul_le_mul hll (burnN_le hb _)) (by decide)
      rw [lossN] at ih
      rw [ex_15_7]
      cases q1 : lie v k
      · rw [q1] at hho2
        by_cases q2 : c k = 0
        · have q2' : ¬ 0 < c k := by omega
          simp only [q1, q2', decide_false, Bool.false_and, Bool.and_false, Bool.false_eq_true, if_false] at ih
          simp (disch := first | exact am_nl_i _ | exact am_nl_r _ | exact am_nl_0 | (refine vi_nI ?_ ?_ <;> omega) | assumption | omega | exact b2i_01 _ | exact Or.inl rfl | exact Or.inr rfl | (unfold vi; decide)) only [ex_15_0, ex_15_3, ex_15_4, ex_15_5, ex_15_9, ex_15_10, ex_15_13, ex_15_16, ex_15_19, ex_15_22, ex_15_23, ex_15_26, ex_15_29, ex_15_31, ex_15_32, ex_15_33, ex_15_34, ex_15_37, ex_15_38, ex_15_41, ex_15_42, ex_15_44, ex_15_46, ex_15_49, ex_15_50, ex_15_53, ex_15_55, ex_15_56, ex_15_59, ex_15_60, ex_15_63, ex_15_66, ex_15_68, ex_15_69, ex_15_70, ex_15_71, ex_15_72, ex_15_73, ex_15_76, ex_15_77, ex_15_78, ex_15_81, ex_15_83, ex_15_84, ex_15_85, ex_15_88, ex_15_89, ex_15_90, ex_15_93, ex_15_97, if_true, if_false, and_self, Option.toList_some, Option.toList_none, List.singleton_append, List.cons_append, List.nil_append, List.append_nil, nI_1, nt_e, Int32.le_refl, h1, va_rfs, hn, nI_leI, hnle, hho, bit_e, hho2, b2i_0, Bool.not_false, show ((1 : Int32) = (0 : Int32)) = False from eq_false (by decide), nI_clamp, hcop, i_le0, q2, Bool.true_eq_false, Bool.false_eq_true, ↓reduceIte]
          exact ih _
        · have q2' : 0 < c k := by omega
          cases q3 : bt (saysV v k) f
          · simp only [q1, q3, Bool.and_false, Bool.false_eq_true, if_false] at ih
            simp (disch := first | exact am_nl_i _ | exact am_nl_r _ | exact am_nl_0 | (refine vi_nI ?_ ?_ <;> omega) | assumption | omega | exact b2i_01 _ | exact Or.inl rfl | exact Or.inr rfl | (unfold vi; decide)) only [ex_15_0, ex_15_3, ex_15_4, ex_15_5, ex_15_9, ex_15_10, ex_15_13, ex_15_16, ex_15_19, ex_15_22, ex_15_23, ex_15_26, ex_15_29, ex_15_31, ex_15_32, ex_15_33, ex_15_34, ex_15_37, ex_15_38, ex_15_41, ex_15_42, ex_15_44, ex_15_46, ex_15_49, ex_15_50, ex_15_53, ex_15_55, ex_15_56, ex_15_59, ex_15_60, ex_15_63, ex_15_66, ex_15_68, ex_15_69, ex_15_70, ex_15_71, ex_15_72, ex_15_73, ex_15_76, ex_15_77, ex_15_78, ex_15_81, ex_15_83, ex_15_84, ex_15_85, ex_15_88, ex_15_89, ex_15_90, ex_15_93, ex_15_97, if_true, if_false, and_self, Option.toList_some, Option.toList_none, List.singleton_append, List.cons_append, List.nil_append, List.append_nil, nI_1, nt_e, Int32.le_refl, h1, va_rfs, hn, nI_leI, hnle, hho, bit_e, hho2, b2i_0, Bool.not_false, show ((1 : Int32) = (0 : Int32)) = False from eq_false (by decide), nI_clamp, hcop, i_le0, q2, hs, q3, Bool.true_eq_false, Bool.false_eq_true, ↓reduceIte]
            exact ih _
          · simp only [q1, q2', q3, decide_true, Bool.not_false, Bool.and_self, if_true] at ih
            simp (disch := first | exact am_nl_i _ | exact am_nl_r _ | exact am_nl_0 | (refine vi_nI ?_ ?_ <;> omega) | assumption | omega | exact b2i_01 _ | exact Or.inl rfl | exact Or.inr rfl | (unfold vi; decide)) only [ex_15_0, ex_15_3, ex_15_4, ex_15_5, ex_15_9, ex_15_10, ex_15_13, ex_15_16, ex_15_19, ex_15_22, ex_15_23, ex_15_26, ex_15_29, ex_15_31, ex_15_32, ex_15_33, ex_15_34, ex_15_37, ex_15_38, ex_15_41, ex_15_42, ex_15_44, ex_15_46, ex_15_49, ex_15_50, ex_15_53, ex_15_55, ex_15_56, ex_15_59, ex_15_60, ex_15_63, ex_15_66, ex_15_68, ex_15_69, ex_15_70, ex_15_71, ex_15_72, ex_15_73, ex_15_76, ex_15_77, ex_15_78, ex_15_81, ex_15_83, ex_15_84, ex_15_85, ex_15_88, ex_15_89, ex_15_90, ex_15_93, ex_15_97, if_true, if_false, and_self, Option.toList_some, Option.toList_none, List.singleton_append, List.cons_append, List.nil_append, List.append_nil, nI_1, nt_e, Int32.le_refl, h1, va_rfs, hn, nI_leI, hnle, hho, bit_e, hho2, b2i_0, Bool.not_false, show ((1 : Int32) = (0 : Int32)) = False from eq_false (by decide), nI_clamp, hcop, i_le0, q2, hs, q3, hgo, lN_ml, lit_b, Bool.true_eq_false, Bool.false_eq_true, ↓reduceIte]
            rw [pk_lDiv hmul (by decide) (by decide)]
            exact ih _
      · rw [q1] at hho2
        simp only [q1, Bool.not_true, Bool.false_and, Bool.false_eq_true, if_false] at ih
        simp (disch := first | exact am_nl_i _ | exact am_nl_r _ | exact am_nl_0 | (refine vi_nI ?_ ?_ <;> omega) | assumption | omega | exact b2i_01 _ | exact Or.inl rfl | exact Or.inr rfl | (unfold vi; decide)) only [ex_15_0, ex_15_3, ex_15_4, ex_15_5, ex_15_9, ex_15_10, ex_15_13, ex_15_16, ex_15_19, ex_15_22, ex_15_23, ex_15_26, ex_15_29, ex_15_31, ex_15_32, ex_15_33, ex_15_34, ex_15_37, ex_15_38, ex_15_41, ex_15_42, ex_15_44, ex_15_46, ex_15_49, ex_15_50, ex_15_53, ex_15_55, ex_15_56, ex_15_59, ex_15_60, ex_15_63, ex_15_66, ex_15_68, ex_15_69, ex_15_70, ex_15_71, ex_15_72, ex_15_73, ex_15_76, ex_15_77, ex_15_78, ex_15_81, ex_15_83, ex_15_84, ex_15_85, ex_15_88, ex_15_89, ex_15_90, ex_15_93, ex_15_97, if_true, if_false, and_self, Option.toList_some, Option.toList_none, List.singleton_append, List.cons_append, List.nil_append, List.append_nil, nI_1, nt_e, Int32.le_refl, h1, va_rfs, hn, nI_leI, hnle, hho, bit_e, hho2, b2i_0, Bool.not_true, Bool.true_eq_false, Bool.false_eq_true, ↓reduceIte]
        exact ih _
  simp (disch := first | exact am_nl_i _ | exact am_nl_r _ | exact am_nl_0 | assumption | omega | (refine vi_nI ?_ ?_ <;> omega) | exact b2i_01 _ | exact Or.inl rfl | exact Or.inr rfl | (unfold vi; decide)) only [ex_15_0, ex_15_3, ex_15_4, ex_15_5, ex_15_9, ex_15_10, ex_15_13, ex_15_16, ex_15_19, ex_15_22, ex_15_23, ex_15_26, ex_15_29, ex_15_31, ex_15_32, ex_15_33, ex_15_34, ex_15_37, ex_15_38, ex_15_41, ex_15_42, ex_15_44, ex_15_46, ex_15_49, ex_15_50, ex_15_53, ex_15_55, ex_15_56, ex_15_59, ex_15_60, ex_15_63, ex_15_66, ex_15_68, ex_15_69, ex_15_70, ex_15_71, ex_15_72, ex_15_73, ex_15_76, ex_15_77, ex_15_78, ex_15_81, ex_15_83, ex_15_84, ex_15_85, ex_15_88, ex_15_89, ex_15_90, ex_15_93, ex_15_96, ex_15_97, if_true, if_false, and_self, Option.toList_some, Option.toList_none, List.singleton_append, List.cons_append, List.nil_append, List.append_nil, nI_1, nt_e, Int32.le_refl, lit_b]
  exact loop (nP v) 0 none (by omega)
theorem hvalue_ok (hc9 : ∀ k, c k ≤ 9) (hb : b ≤ 10) (hL : sh L 3 19) (hC : LibC u L v) (hW : WF v) (hH : HdC u L v l b m c) : Cl (d + 1) 14 [.ref 198] (am_emb u) post ↔ post (some (.int (nI (valN v l b c)))) (am_emb u) := by
  refine Cl_iff ?_ post
  have hH' := hH
  obtain ⟨h1, h2, h3, h4, h5, h6⟩ := hH
  have h12 := hW.1.1
  have hn := hC.1.1
  have n1 := nz_1000
  rw [op_14]
  have loop : ∀ (kz f : Nat), f + kz = nF v → Ex (d + 1) 14 4 [some (.ref 198), some (.long (lN (keptN v l b c f))), none, some (.int (nI f))] [] (am_emb u) (fun w n => w = some (.int (nI (valN v l b c))) ∧ n = am_emb u) := by
    intro kz
    induction kz with
    | zero =>
      intro f hf
      obtain rfl : f = nF v := by omega
      have hk := keptN_le (v := v) (l := l) (b := b) (c := c) (nF v)
      rw [ex_14_4]
      simp (disch := first | exact am_nl_i _ | exact am_nl_r _ | exact am_nl_0 | (refine vi_nI ?_ ?_ <;> omega) | assumption | omega | exact b2i_01 _ | exact Or.inl rfl | exact Or.inr rfl | (unfold vi; decide)) only [ex_14_0, ex_14_1, ex_14_2, ex_14_3, ex_14_5, ex_14_6, ex_14_9, ex_14_12, ex_14_15, ex_14_19, ex_14_22, ex_14_23, ex_14_24, ex_14_25, ex_14_26, ex_14_29, ex_14_30, ex_14_33, ex_14_34, ex_14_37, ex_14_38, ex_14_39, ex_14_40, ex_14_41, ex_14_44, ex_14_45, ex_14_48, ex_14_49, ex_14_50, ex_14_53, ex_14_54, ex_14_55, ex_14_56, ex_14_59, ex_14_62, ex_14_63, ex_14_66, ex_14_67, ex_14_68, if_true, if_false, and_self, Option.toList_some, Option.toList_none, List.singleton_append, List.cons_append, List.nil_append, List.append_nil, nI_1, nt_e, Int32.le_refl, h1, va_rfs, hn, nI_leI, Nat.le_refl, lit_1000, Bool.true_eq_false, Bool.false_eq_true, ↓reduceIte]
      rw [pk_lDiv (by omega) (by decide) (by decide), lN_i]
      (try (first | exact ⟨rfl, rfl⟩ | exact ⟨rfl, trivial⟩))
    | succ kz ih =>
      intro f hf
      have ih := ih (f + 1) (by omega)
      have hnle : ¬ nF v ≤ f := by omega
      have hll := lossN_le (v := v) hb (c := c) (f := f) (nP v)
      have hkb : bt (allFV v &&& nt (goneV v l)) f = !bt (goneV v l) f := by
        unfold allFV
        rw [b_and, bt_nt _ (by omega), bim_bt _ (by omega) f (by omega), decide_eq_true (by omega), Bool.true_and]
      rw [keptN] at ih
      rw [ex_14_4]
      cases q1 : bt (goneV v l) f
      · rw [q1] at hkb
        simp only [q1, Bool.false_eq_true, if_false] at ih
        cases q2 : bt (knownToSomeV v l) f
        · simp only [q2, Bool.false_eq_true, if_false] at ih
          simp (disch := first | exact am_nl_i _ | exact am_nl_r _ | exact am_nl_0 | (refine vi_nI ?_ ?_ <;> omega) | assumption | omega | exact b2i_01 _ | exact Or.inl rfl | exact Or.inr rfl | (unfold vi; decide)) only [ex_14_0, ex_14_1, ex_14_2, ex_14_3, ex_14_5, ex_14_6, ex_14_9, ex_14_12, ex_14_15, ex_14_18, ex_14_19, ex_14_22, ex_14_23, ex_14_24, ex_14_25, ex_14_26, ex_14_29, ex_14_30, ex_14_33, ex_14_34, ex_14_37, ex_14_38, ex_14_39, ex_14_40, ex_14_41, ex_14_44, ex_14_45, ex_14_48, ex_14_49, ex_14_50, ex_14_53, ex_14_54, ex_14_55, ex_14_56, ex_14_59, ex_14_63, ex_14_66, ex_14_67, ex_14_68, if_true, if_false, and_self, Option.toList_some, Option.toList_none, List.singleton_append, List.cons_append, List.nil_append, List.append_nil, nI_1, nt_e, Int32.le_refl, h1, va_rfs, hn, nI_leI, hnle, h3, bit_e, hkb, Bool.not_false, b2i_0, h4, q2, loss_ok (show f < 32 by omega) hc9 hb hL hC hW hH', lit_b, Bool.true_eq_false, Bool.false_eq_true, ↓reduceIte]
          rw [lN_sub hll, lN_add]
          exact ih
        · simp only [q2, if_true] at ih
          simp (disch := first | exact am_nl_i _ | exact am_nl_r _ | exact am_nl_0 | (refine vi_nI ?_ ?_ <;> omega) | assumption | omega | exact b2i_01 _ | exact Or.inl rfl | exact Or.inr rfl | (unfold vi; decide)) only [ex_14_0, ex_14_1, ex_14_2, ex_14_3, ex_14_5, ex_14_6, ex_14_9, ex_14_12, ex_14_15, ex_14_18, ex_14_19, ex_14_22, ex_14_23, ex_14_24, ex_14_25, ex_14_26, ex_14_29, ex_14_30, ex_14_33, ex_14_34, ex_14_37, ex_14_38, ex_14_39, ex_14_40, ex_14_41, ex_14_44, ex_14_45, ex_14_48, ex_14_49, ex_14_50, ex_14_53, ex_14_54, ex_14_55, ex_14_56, ex_14_59, ex_14_63, ex_14_66, ex_14_67, ex_14_68, if_true, if_false, and_self, Option.toList_some, Option.toList_none, List.singleton_append, List.cons_append, List.nil_append, List.append_nil, nI_1, nt_e, Int32.le_refl, h1, va_rfs, hn, nI_leI, hnle, h3, bit_e, hkb, Bool.not_false, b2i_0, h4, q2, lit_b, show (0 : Int64) = lN 0 from rfl, Bool.true_eq_false, Bool.false_eq_true, ↓reduceIte]
          rw [lN_sub (Nat.zero_le _), lN_add]
          exact ih
      · rw [q1] at hkb
        simp only [q1, if_true] at ih
        simp (disch := first | exact am_nl_i _ | exact am_nl_r _ | exact am_nl_0 | (refine vi_nI ?_ ?_ <;> omega) | assumption | omega | exact b2i_01 _ | exact Or.inl rfl | exact Or.inr rfl | (unfold vi; decide)) only [ex_14_0, ex_14_1, ex_14_2, ex_14_3, ex_14_5, ex_14_6, ex_14_9, ex_14_12, ex_14_15, ex_14_18, ex_14_19, ex_14_22, ex_14_23, ex_14_24, ex_14_25, ex_14_26, ex_14_29, ex_14_30, ex_14_33, ex_14_34, ex_14_37, ex_14_38, ex_14_39, ex_14_40, ex_14_41, ex_14_44, ex_14_45, ex_14_48, ex_14_49, ex_14_50, ex_14_53, ex_14_54, ex_14_55, ex_14_56, ex_14_59, ex_14_63, ex_14_66, ex_14_67, ex_14_68, if_true, if_false, and_self, Option.toList_some, Option.toList_none, List.singleton_append, List.cons_append, List.nil_append, List.append_nil, nI_1, nt_e, Int32.le_refl, h1, va_rfs, hn, nI_leI, hnle, h3, bit_e, hkb, Bool.not_true, b2i_0, Bool.true_eq_false, Bool.false_eq_true, ↓reduceIte]
        exact ih
  simp (disch := first | exact am_nl_i _ | exact am_nl_r _ | exact am_nl_0 | assumption | omega | (refine vi_nI ?_ ?_ <;> omega) | exact b2i_01 _ | exact Or.inl rfl | exact Or.inr rfl | (unfold vi; decide)) only [ex_14_0, ex_14_1, ex_14_2, ex_14_3, ex_14_5, ex_14_6, ex_14_9, ex_14_12, ex_14_15, ex_14_18, ex_14_19, ex_14_22, ex_14_23, ex_14_24, ex_14_25, ex_14_26, ex_14_29, ex_14_30, ex_14_33, ex_14_34, ex_14_37, ex_14_38, ex_14_39, ex_14_40, ex_14_41, ex_14_44, ex_14_45, ex_14_48, ex_14_49, ex_14_50, ex_14_53, ex_14_54, ex_14_55, ex_14_56, ex_14_59, ex_14_62, ex_14_63, ex_14_66, ex_14_67, ex_14_68, if_true, if_false, and_self, Option.toList_some, Option.toList_none, List.singleton_append, List.cons_append, List.nil_append, List.append_nil, nI_1, nt_e, Int32.le_refl]
  exact loop (nF v) 0 (by omega)
theorem upN_s {f : Nat → Nat} {k x : Nat} : upN f k x k = x := if_pos rfl
theorem upN_n {f : Nat → Nat} {k x j : Nat} (h : ¬ j = k) : upN f k x j = f j := if_neg h
theorem ob_lt {o : Option Nat} {z : Nat} (ho : ∀ y, o = some y → y ≤ 12000000) (hz : z ≤ 12000000) : (ob o < nI z) = (o.all (fun y => decide (y < z)) = true) := by
  cases o with
  | none =>
    refine propext ⟨fun _ => rfl, fun _ => ?_⟩
    show (-1 : Int32) < nI z
    rw [Int32.lt_iff_toInt_lt, nI_toInt (by omega), show (-1 : Int32).toInt = -1 from rfl]
    omega
  | some y =>
    have := ho y rfl
    show (nI y < nI z) = _
    rw [nI_ltI (by omega) (by omega), Option.all_some, decide_eq_true_eq]
theorem choose_ok (hb : b ≤ 10) (hL : sh L 3 19) (hLp : L = 7 ∨ L = 33) (hm4 : m ≤ 4) (hW : WF v) (hbu : burnV v = nI b) : ∀ (r h from_ : Nat) (c : Nat → Nat) (row : Nat → Nat) (st : HS) (u : am_U) (post : Option Value → am_M → Prop), h + r = m → from_ < 1000 → (∀ k, c k ≤ 9) → LibC u L v → HdC u L v l b m c → HbC u m st → HB m st → (∀ i, i < h → AI u 201 i = nI (row i) ∧ row i < 12) →
    (∀ u', Only hdP u u' → LibC u' L v → HdC u' L v l b m c → HbC u' m (tryN v l b r h from_ c row st) → HB m (tryN v l b r h from_ c row st) → (∀ i, i < h → AI u' 201 i = nI (row i)) → post none (am_emb u')) → Cl (d + 2 + r) 13 [.ref 198, .int (nI h), .int (nI from_)] (am_emb u) post := by
  intro r
  induction r with
  | zero =>
    intro h from_ c row st u post hh hf hc9 hC hH hB hHB hrow hp
    have hH' := hH
    obtain ⟨h1, h2, h3, h4, h5, h6⟩ := hH
    have hv := valN_le (v := v) (l := l) (b := b) (c := c) hW.1.1
    have hle : m ≤ h := by omega
    have e8 : FI u 198 8 = ob st.1 := hB.1
    have hlt := ob_lt hHB.1 hv
    rw [tryN] at hp
    rw [op_13]
    by_cases q : st.1.all (fun z => decide (z < valN v l b c)) = true
    · rw [if_pos q] at hp
      simp (disch := first | exact am_nl_i _ | exact am_nl_r _ | exact am_nl_0 | (refine vi_nI ?_ ?_ <;> omega) | assumption | omega | exact b2i_01 _ | exact Or.inl rfl | exact Or.inr rfl | (unfold vi; decide)) only [ex_13_0, ex_13_1, ex_13_2, ex_13_5, ex_13_8, ex_13_9, ex_13_10, ex_13_13, ex_13_14, ex_13_17, ex_13_18, ex_13_19, ex_13_20, ex_13_23, ex_13_26, ex_13_27, ex_13_28, ex_13_31, ex_13_32, ex_13_35, ex_13_36, ex_13_37, ex_13_40, ex_13_41, ex_13_42, ex_13_45, ex_13_47, ex_13_49, ex_13_50, ex_13_53, ex_13_56, ex_13_59, ex_13_62, ex_13_63, ex_13_66, ex_13_67, ex_13_68, ex_13_69, ex_13_72, ex_13_73, ex_13_76, ex_13_77, ex_13_78, ex_13_80, ex_13_83, ex_13_84, ex_13_87, ex_13_88, ex_13_89, ex_13_90, ex_13_91, ex_13_94, ex_13_95, ex_13_96, ex_13_97, ex_13_98, ex_13_99, ex_13_100, ex_13_101, ex_13_102, ex_13_105, ex_13_106, ex_13_107, ex_13_108, ex_13_109, ex_13_110, ex_13_113, ex_13_114, ex_13_117, ex_13_118, ex_13_119, ex_13_120, ex_13_121, ex_13_122, ex_13_123, ex_13_124, ex_13_125, ex_13_128, ex_13_131, ex_13_134, if_true, if_false, and_self, Option.toList_some, Option.toList_none, List.singleton_append, List.cons_append, List.nil_append, List.append_nil, nI_1, nt_e, Int32.le_refl, h2, nI_leI, hle, hvalue_ok hc9 hb hL hC hW hH', e8, Bool.true_eq_false, Bool.false_eq_true, ↓reduceIte]
      have hx : ¬ nI (valN v l b c) ≤ ob st.1 := Int32.not_le.mpr (hlt ▸ q)
      rw [if_neg hx]
      try simp (disch := first | exact am_nl_i _ | exact am_nl_r _ | exact am_nl_0 | assumption | omega | (refine vi_nI ?_ ?_ <;> omega) | exact b2i_01 _ | exact Or.inl rfl | exact Or.inr rfl | (unfold vi; decide)) only [ex_13_0, ex_13_1, ex_13_2, ex_13_5, ex_13_8, ex_13_9, ex_13_10, ex_13_13, ex_13_14, ex_13_17, ex_13_18, ex_13_19, ex_13_20, ex_13_23, ex_13_26, ex_13_27, ex_13_28, ex_13_31, ex_13_32, ex_13_35, ex_13_36, ex_13_37, ex_13_40, ex_13_41, ex_13_42, ex_13_45, ex_13_47, ex_13_49, ex_13_50, ex_13_53, ex_13_56, ex_13_59, ex_13_62, ex_13_63, ex_13_66, ex_13_67, ex_13_68, ex_13_69, ex_13_72, ex_13_73, ex_13_76, ex_13_77, ex_13_78, ex_13_80, ex_13_83, ex_13_84, ex_13_87, ex_13_88, ex_13_89, ex_13_90, ex_13_91, ex_13_94, ex_13_95, ex_13_96, ex_13_97, ex_13_98, ex_13_99, ex_13_100, ex_13_101, ex_13_102, ex_13_105, ex_13_106, ex_13_107, ex_13_108, ex_13_109, ex_13_110, ex_13_113, ex_13_114, ex_13_117, ex_13_118, ex_13_119, ex_13_120, ex_13_121, ex_13_122, ex_13_123, ex_13_124, ex_13_125, ex_13_128, ex_13_131, ex_13_134, if_true, if_false, and_self, Option.toList_some, Option.toList_none, List.singleton_append, List.cons_append, List.nil_append, List.append_nil, nI_1, nt_e, Int32.le_refl]
      have o1 : Only hdP u (sAI (sFI u 198 8 (nI (valN v l b c))) 202 (va_cpy (AI (sFI u 198 8 (nI (valN v l b c))) 201) (AI (sFI u 198 8 (nI (valN v l b c))) 202) 0 0 4)) := of_ai (of_fi (Only.rf _ _) (by unfold hdP; omega)) (by unfold hdP; omega)
      refine hp _ o1 (hC.keep2 o1 (fun k hk q => by unfold hdP at q; omega)) ⟨h1, ?_, ?_, ?_, h5, h6⟩ ⟨?_, fun _ i hi => ?_⟩ ⟨fun z hz => ?_, fun i hi _ => (hrow i (by omega)).2⟩ (fun i hi => (hrow i hi).1)
      · show FI (sFI u 198 8 (nI (valN v l b c))) 198 4 = _
        rw [FI_sFI, if_neg (by omega)]; exact h2
      · show FI (sFI u 198 8 (nI (valN v l b c))) 198 5 = _
        rw [FI_sFI, if_neg (by omega)]; exact h3
      · show FI (sFI u 198 8 (nI (valN v l b c))) 198 6 = _
        rw [FI_sFI, if_neg (by omega)]; exact h4
      · show FI (sFI u 198 8 (nI (valN v l b c))) 198 8 = _
        rw [FI_sFI, if_pos ⟨rfl, rfl⟩]; rfl
      · rw [AI_sAI, if_pos rfl, cpy_0, if_pos (by omega)]
        exact (hrow i (by omega)).1
      · cases hz
        exact hv
    · rw [if_neg q] at hp
      simp (disch := first | exact am_nl_i _ | exact am_nl_r _ | exact am_nl_0 | (refine vi_nI ?_ ?_ <;> omega) | assumption | omega | exact b2i_01 _ | exact Or.inl rfl | exact Or.inr rfl | (unfold vi; decide)) only [ex_13_0, ex_13_1, ex_13_2, ex_13_5, ex_13_8, ex_13_9, ex_13_10, ex_13_13, ex_13_14, ex_13_17, ex_13_18, ex_13_19, ex_13_20, ex_13_23, ex_13_26, ex_13_27, ex_13_28, ex_13_31, ex_13_32, ex_13_35, ex_13_36, ex_13_37, ex_13_40, ex_13_41, ex_13_42, ex_13_45, ex_13_47, ex_13_49, ex_13_50, ex_13_53, ex_13_56, ex_13_59, ex_13_62, ex_13_63, ex_13_66, ex_13_67, ex_13_68, ex_13_69, ex_13_72, ex_13_73, ex_13_76, ex_13_77, ex_13_78, ex_13_80, ex_13_83, ex_13_84, ex_13_87, ex_13_88, ex_13_89, ex_13_90, ex_13_91, ex_13_94, ex_13_95, ex_13_96, ex_13_97, ex_13_98, ex_13_99, ex_13_100, ex_13_101, ex_13_102, ex_13_105, ex_13_106, ex_13_107, ex_13_108, ex_13_109, ex_13_110, ex_13_113, ex_13_114, ex_13_117, ex_13_118, ex_13_119, ex_13_120, ex_13_121, ex_13_122, ex_13_123, ex_13_124, ex_13_125, ex_13_128, ex_13_131, ex_13_134, if_true, if_false, and_self, Option.toList_some, Option.toList_none, List.singleton_append, List.cons_append, List.nil_append, List.append_nil, nI_1, nt_e, Int32.le_refl, h2, nI_leI, hle, hvalue_ok hc9 hb hL hC hW hH', e8, Bool.true_eq_false, Bool.false_eq_true, ↓reduceIte]
      have hx : nI (valN v l b c) ≤ ob st.1 := Int32.not_lt.mp (fun z => q (hlt ▸ z))
      rw [if_pos hx]
      try simp (disch := first | exact am_nl_i _ | exact am_nl_r _ | exact am_nl_0 | assumption | omega | (refine vi_nI ?_ ?_ <;> omega) | exact b2i_01 _ | exact Or.inl rfl | exact Or.inr rfl | (unfold vi; decide)) only [ex_13_0, ex_13_1, ex_13_2, ex_13_5, ex_13_8, ex_13_9, ex_13_10, ex_13_13, ex_13_14, ex_13_17, ex_13_18, ex_13_19, ex_13_20, ex_13_23, ex_13_26, ex_13_27, ex_13_28, ex_13_31, ex_13_32, ex_13_35, ex_13_36, ex_13_37, ex_13_40, ex_13_41, ex_13_42, ex_13_45, ex_13_47, ex_13_49, ex_13_50, ex_13_53, ex_13_56, ex_13_59, ex_13_62, ex_13_63, ex_13_66, ex_13_67, ex_13_68, ex_13_69, ex_13_72, ex_13_73, ex_13_76, ex_13_77, ex_13_78, ex_13_80, ex_13_83, ex_13_84, ex_13_87, ex_13_88, ex_13_89, ex_13_90, ex_13_91, ex_13_94, ex_13_95, ex_13_96, ex_13_97, ex_13_98, ex_13_99, ex_13_100, ex_13_101, ex_13_102, ex_13_105, ex_13_106, ex_13_107, ex_13_108, ex_13_109, ex_13_110, ex_13_113, ex_13_114, ex_13_117, ex_13_118, ex_13_119, ex_13_120, ex_13_121, ex_13_122, ex_13_123, ex_13_124, ex_13_125, ex_13_128, ex_13_131, ex_13_134, if_true, if_false, and_self, Option.toList_some, Option.toList_none, List.singleton_append, List.cons_append, List.nil_append, List.append_nil, nI_1, nt_e, Int32.le_refl]
      exact hp u (Only.rf _ _) hC hH' hB hHB (fun i hi => (hrow i hi).1)
  | succ r ih =>
    intro h from_ c row st u post hh hf hc9 hC hH hB hHB hrow hp
    have h12 := hW.1.2.1
    have hhm : ¬ m ≤ h := by omega
    have hh4 : ¬ 4 ≤ h := by omega
    have hh4' : h < 4 := by omega
    rw [tryN] at hp
    have loop : ∀ (n k : Nat) (st : HS) (u2 : am_U), n = nP v - k → (∀ u', Only hdP u u' → LibC u' L v → HdC u' L v l b m c → HbC u' m (loopK (fun k st => if decide (1 ≤ c k) && decide (c k < 9) then tryN v l b r (h + 1) k (upN c k (c k + 1)) (upN row h k) st else st) n k st) → HB m (loopK (fun k st => if decide (1 ≤ c k) && decide (c k < 9) then tryN v l b r (h + 1) k (upN c k (c k + 1)) (upN row h k) st else st) n k st) → (∀ i, i < h → AI u' 201 i = nI (row i)) → post none (am_emb u')) → Only hdP u u2 → LibC u2 L v → HdC u2 L v l b m c → HbC u2 m st → HB m st → (∀ i, i < h → AI u2 201 i = nI (row i) ∧ row i < 12) → k < 1000 → Ex (d + 2 + r + 1) 13 48 [some (.ref 198), some (.int (nI h)), some (.int (nI from_)), some (.int (nI k))] [] (am_emb u2) post := by
      intro n
      induction n with
      | zero =>
        intro k st u2 hk hp2 o2 hC hH hB hHB hrow hk1000
        have hle : nP v ≤ k := by omega
        rw [ex_13_48]
        simp (disch := first | exact am_nl_i _ | exact am_nl_r _ | exact am_nl_0 | (refine vi_nI ?_ ?_ <;> omega) | assumption | omega | exact b2i_01 _ | exact Or.inl rfl | exact Or.inr rfl | (unfold vi; decide)) only [ex_13_0, ex_13_1, ex_13_2, ex_13_5, ex_13_8, ex_13_9, ex_13_10, ex_13_13, ex_13_14, ex_13_17, ex_13_18, ex_13_19, ex_13_20, ex_13_23, ex_13_26, ex_13_27, ex_13_28, ex_13_31, ex_13_32, ex_13_35, ex_13_36, ex_13_37, ex_13_40, ex_13_41, ex_13_42, ex_13_45, ex_13_46, ex_13_47, ex_13_49, ex_13_50, ex_13_53, ex_13_56, ex_13_59, ex_13_63, ex_13_66, ex_13_67, ex_13_68, ex_13_69, ex_13_72, ex_13_73, ex_13_76, ex_13_77, ex_13_78, ex_13_80, ex_13_83, ex_13_84, ex_13_87, ex_13_88, ex_13_89, ex_13_90, ex_13_91, ex_13_94, ex_13_95, ex_13_96, ex_13_97, ex_13_98, ex_13_99, ex_13_100, ex_13_101, ex_13_102, ex_13_105, ex_13_106, ex_13_107, ex_13_108, ex_13_109, ex_13_110, ex_13_113, ex_13_114, ex_13_117, ex_13_118, ex_13_119, ex_13_120, ex_13_121, ex_13_122, ex_13_123, ex_13_124, ex_13_125, ex_13_128, ex_13_131, ex_13_134, if_true, if_false, and_self, Option.toList_some, Option.toList_none, List.singleton_append, List.cons_append, List.nil_append, List.append_nil, nI_1, nt_e, Int32.le_refl, hH.1, va_rfs, hC.1.2.1, nI_leI, hle, Bool.true_eq_false, Bool.false_eq_true, ↓reduceIte]
        exact hp2 u2 o2 hC hH hB hHB (fun i hi => (hrow i hi).1)
      | succ n ih2 =>
        intro k st u2 hk hp2 o2 hC hH hB hHB hrow hk1000
        have hnle : ¬ nP v ≤ k := by omega
        have hk12 : k < 12 := by omega
        have hck := hc9 k
        have hcop := hH.2.2.2.2.1 k hk12
        rw [loopK] at hp2
        rw [ex_13_48]
        by_cases q1 : 1 ≤ c k
        · by_cases q2 : c k < 9
          · have hbur : FI u2 L 18 = nI b := by rw [hC.2.2.2.2.2.2.2.2.2.2.2.2.2.2]; exact hbu
            have n9 : ¬ 9 ≤ c k := by omega
            have n0 : ¬ c k < 1 := by omega
            simp only [decide_eq_true q1, decide_eq_true q2, Bool.and_self, if_true] at hp2
            simp (disch := first | exact am_nl_i _ | exact am_nl_r _ | exact am_nl_0 | (refine vi_nI ?_ ?_ <;> omega) | assumption | omega | exact b2i_01 _ | exact Or.inl rfl | exact Or.inr rfl | (unfold vi; decide)) only [ex_13_0, ex_13_1, ex_13_2, ex_13_5, ex_13_8, ex_13_9, ex_13_10, ex_13_13, ex_13_14, ex_13_17, ex_13_18, ex_13_19, ex_13_20, ex_13_23, ex_13_26, ex_13_27, ex_13_28, ex_13_31, ex_13_32, ex_13_35, ex_13_36, ex_13_37, ex_13_40, ex_13_41, ex_13_42, ex_13_45, ex_13_46, ex_13_47, ex_13_49, ex_13_50, ex_13_53, ex_13_56, ex_13_59, ex_13_62, ex_13_63, ex_13_66, ex_13_67, ex_13_68, ex_13_69, ex_13_72, ex_13_73, ex_13_76, ex_13_77, ex_13_78, ex_13_80, ex_13_83, ex_13_84, ex_13_87, ex_13_88, ex_13_89, ex_13_90, ex_13_91, ex_13_94, ex_13_95, ex_13_96, ex_13_97, ex_13_98, ex_13_99, ex_13_100, ex_13_101, ex_13_105, ex_13_106, ex_13_107, ex_13_108, ex_13_109, ex_13_110, ex_13_113, ex_13_114, ex_13_117, ex_13_118, ex_13_119, ex_13_120, ex_13_121, ex_13_122, ex_13_123, ex_13_124, ex_13_125, ex_13_128, ex_13_131, if_true, if_false, and_self, Option.toList_some, Option.toList_none, List.singleton_append, List.cons_append, List.nil_append, List.append_nil, nI_1, nt_e, Int32.le_refl, hH.1, va_rfs, hC.1.2.1, nI_leI, hnle, nI_clamp, hcop, i_lt1, show (9 : Int32) = nI 9 from rfl, nI_ltI, n9, show ¬ c k = 0 by omega, AI_sAI, Nat.reduceEqDiff, Bool.true_eq_false, Bool.false_eq_true, ↓reduceIte]
            rw [ex_13_102]
            refine burn_ok (x := c k + 1) (b := b) hk12 (by omega) hb hL (by exact hH.1) (by exact hbur) (by omega) ?_ (fun u3 o3 g3 => ?_)
            · show upd _ k _ k = _
              exact upd_s
            have a3 : ∀ a, ¬ a = 200 → AI u3 a = AI (sAI (sAI u2 201 (upd (AI u2 201) h (nI k))) 199 (upd (AI u2 199) k (nI (c k + 1)))) a ∧ FI u3 a = FI u2 a ∧ FR u3 a = FR u2 a := fun a ha => by
              have := o3 a (by unfold is; omega)
              exact ⟨this.2.2.2.1, this.1, this.2.2.1⟩
            have o3' : Only hdP u2 u3 := Only.tr (of_ai (of_ai (Only.rf _ _) (by unfold hdP; omega)) (by unfold hdP; omega)) (o3.wk (fun a q => by unfold is at q; unfold hdP; omega))
            have C3 : LibC u3 L v := hC.keep2 o3' (fun k hk q => by unfold hdP at q; omega)
            have H3 : HdC u3 L v l b m (upN c k (c k + 1)) := by
              refine ⟨by rw [(a3 198 (by decide)).2.2]; exact hH.1, by rw [(a3 198 (by decide)).2.1]; exact hH.2.1, by rw [(a3 198 (by decide)).2.1]; exact hH.2.2.1, by rw [(a3 198 (by decide)).2.1]; exact hH.2.2.2.1, fun j hj => ?_, fun j hj => ?_⟩
              · rw [(a3 199 (by decide)).1, AI_sAI, if_pos rfl]
                by_cases e : j = k
                · rw [e, upd_s, upN_s]
                · rw [upd_n e, upN_n e]; exact hH.2.2.2.2.1 j hj
              · rw [g3 j]
                by_cases e : j = k
                · rw [if_pos e, e, upN_s]
                · rw [if_neg e, upN_n e]; exact hH.2.2.2.2.2 j hj
            have B3 : HbC u3 m st := by
              refine ⟨by rw [(a3 198 (by decide)).2.1]; exact hB.1, fun hs i hi => ?_⟩
              rw [(a3 202 (by decide)).1]
              exact hB.2 hs i hi
            have row3 : ∀ i, i < h + 1 → AI u3 201 i = nI (upN row h k i) ∧ upN row h k i < 12 := fun i hi => by
              rw [(a3 201 (by decide)).1]
              show upd (AI u2 201) h (nI k) i = _ ∧ _
              by_cases e : i = h
              · rw [e, upd_s, upN_s]; exact ⟨rfl, hk12⟩
              · rw [upd_n e, upN_n e]; exact hrow i (by omega)
            simp (disch := first | exact am_nl_i _ | exact am_nl_r _ | exact am_nl_0 | assumption | omega | (refine vi_nI ?_ ?_ <;> omega) | exact b2i_01 _ | exact Or.inl rfl | exact Or.inr rfl | (unfold vi; decide)) only [ex_13_0, ex_13_1, ex_13_2, ex_13_5, ex_13_8, ex_13_9, ex_13_10, ex_13_13, ex_13_14, ex_13_17, ex_13_18, ex_13_19, ex_13_20, ex_13_23, ex_13_26, ex_13_27, ex_13_28, ex_13_31, ex_13_32, ex_13_35, ex_13_36, ex_13_37, ex_13_40, ex_13_41, ex_13_42, ex_13_45, ex_13_46, ex_13_47, ex_13_49, ex_13_50, ex_13_53, ex_13_56, ex_13_59, ex_13_62, ex_13_63, ex_13_66, ex_13_67, ex_13_68, ex_13_69, ex_13_72, ex_13_73, ex_13_76, ex_13_77, ex_13_78, ex_13_80, ex_13_83, ex_13_84, ex_13_87, ex_13_88, ex_13_89, ex_13_90, ex_13_91, ex_13_94, ex_13_95, ex_13_96, ex_13_97, ex_13_98, ex_13_99, ex_13_100, ex_13_101, ex_13_102, ex_13_105, ex_13_106, ex_13_107, ex_13_108, ex_13_109, ex_13_113, ex_13_114, ex_13_117, ex_13_118, ex_13_119, ex_13_120, ex_13_121, ex_13_122, ex_13_123, ex_13_124, ex_13_125, ex_13_128, ex_13_131, ex_13_134, if_true, if_false, and_self, Option.toList_some, Option.toList_none, List.singleton_append, List.cons_append, List.nil_append, List.append_nil, nI_1, nt_e, Int32.le_refl, nI_1]
            rw [ex_13_110]
            refine ih (h + 1) k (upN c k (c k + 1)) (upN row h k) st u3 _ (by omega) (by omega) (fun j => ?_) C3 H3 B3 hHB row3 (fun u4 o4 C4 H4 B4 HB4 row4 => ?_)
            · by_cases e : j = k
              · rw [e, upN_s]; omega
              · rw [upN_n e]; exact hc9 j
            have hcop4 := H4.2.2.2.2.1 k hk12
            rw [upN_s] at hcop4
            have hbur4 : FI u4 L 18 = nI b := by rw [C4.2.2.2.2.2.2.2.2.2.2.2.2.2.2]; exact hbu
            simp (disch := first | exact am_nl_i _ | exact am_nl_r _ | exact am_nl_0 | assumption | omega | (refine vi_nI ?_ ?_ <;> omega) | exact b2i_01 _ | exact Or.inl rfl | exact Or.inr rfl | (unfold vi; decide)) only [ex_13_0, ex_13_1, ex_13_2, ex_13_5, ex_13_8, ex_13_9, ex_13_10, ex_13_13, ex_13_14, ex_13_17, ex_13_18, ex_13_19, ex_13_20, ex_13_23, ex_13_26, ex_13_27, ex_13_28, ex_13_31, ex_13_32, ex_13_35, ex_13_36, ex_13_37, ex_13_40, ex_13_41, ex_13_42, ex_13_45, ex_13_46, ex_13_47, ex_13_49, ex_13_50, ex_13_53, ex_13_56, ex_13_59, ex_13_62, ex_13_63, ex_13_66, ex_13_67, ex_13_68, ex_13_69, ex_13_72, ex_13_73, ex_13_76, ex_13_77, ex_13_78, ex_13_80, ex_13_83, ex_13_84, ex_13_87, ex_13_88, ex_13_89, ex_13_90, ex_13_91, ex_13_94, ex_13_95, ex_13_96, ex_13_97, ex_13_98, ex_13_99, ex_13_100, ex_13_101, ex_13_102, ex_13_105, ex_13_106, ex_13_107, ex_13_108, ex_13_109, ex_13_110, ex_13_113, ex_13_114, ex_13_117, ex_13_118, ex_13_119, ex_13_120, ex_13_121, ex_13_122, ex_13_123, ex_13_124, ex_13_128, ex_13_131, ex_13_134, if_true, if_false, and_self, Option.toList_some, Option.toList_none, List.singleton_append, List.cons_append, List.nil_append, List.append_nil, nI_1, nt_e, Int32.le_refl, nI_clamp, hcop4, nI_pred]
            rw [ex_13_125]
            refine burn_ok (x := c k) (b := b) hk12 (by omega) hb hL (by exact H4.1) (by exact hbur4) (by omega) ?_ (fun u5 o5 g5 => ?_)
            · rw [AI_sAI, if_pos rfl]
              exact upd_s
            have a5 : ∀ a, ¬ a = 200 → AI u5 a = AI (sAI u4 199 (upd (AI u4 199) k (nI (c k)))) a ∧ FI u5 a = FI u4 a ∧ FR u5 a = FR u4 a := fun a ha => by
              have := o5 a (by unfold is; omega)
              exact ⟨this.2.2.2.1, this.1, this.2.2.1⟩
            have o5' : Only hdP u4 u5 := Only.tr (Only.sAI (by unfold hdP; omega)) (o5.wk (fun a q => by unfold is at q; unfold hdP; omega))
            have C5 : LibC u5 L v := C4.keep2 o5' (fun k hk q => by unfold hdP at q; omega)
            have H5 : HdC u5 L v l b m c := by
              refine ⟨by rw [(a5 198 (by decide)).2.2]; exact H4.1, by rw [(a5 198 (by decide)).2.1]; exact H4.2.1, by rw [(a5 198 (by decide)).2.1]; exact H4.2.2.1, by rw [(a5 198 (by decide)).2.1]; exact H4.2.2.2.1, fun j hj => ?_, fun j hj => ?_⟩
              · rw [(a5 199 (by decide)).1, AI_sAI, if_pos rfl]
                by_cases e : j = k
                · rw [e, upd_s]
                · have := H4.2.2.2.2.1 j hj
                  rw [upN_n e] at this
                  rw [upd_n e]; exact this
              · rw [g5 j]
                by_cases e : j = k
                · rw [if_pos e, e]
                · have := H4.2.2.2.2.2 j hj
                  rw [upN_n e] at this
                  rw [if_neg e]; exact this
            have B5 : HbC u5 m (tryN v l b r (h + 1) k (upN c k (c k + 1)) (upN row h k) st) := by
              refine ⟨by rw [(a5 198 (by decide)).2.1]; exact B4.1, fun hs i hi => ?_⟩
              rw [(a5 202 (by decide)).1]
              exact B4.2 hs i hi
            simp (disch := first | exact am_nl_i _ | exact am_nl_r _ | exact am_nl_0 | assumption | omega | (refine vi_nI ?_ ?_ <;> omega) | exact b2i_01 _ | exact Or.inl rfl | exact Or.inr rfl | (unfold vi; decide)) only [ex_13_0, ex_13_1, ex_13_2, ex_13_5, ex_13_8, ex_13_9, ex_13_10, ex_13_13, ex_13_14, ex_13_17, ex_13_18, ex_13_19, ex_13_20, ex_13_23, ex_13_26, ex_13_27, ex_13_28, ex_13_31, ex_13_32, ex_13_35, ex_13_36, ex_13_37, ex_13_40, ex_13_41, ex_13_42, ex_13_45, ex_13_46, ex_13_47, ex_13_49, ex_13_50, ex_13_53, ex_13_56, ex_13_59, ex_13_62, ex_13_63, ex_13_66, ex_13_67, ex_13_68, ex_13_69, ex_13_72, ex_13_73, ex_13_76, ex_13_77, ex_13_78, ex_13_80, ex_13_83, ex_13_84, ex_13_87, ex_13_88, ex_13_89, ex_13_90, ex_13_91, ex_13_94, ex_13_95, ex_13_96, ex_13_97, ex_13_98, ex_13_99, ex_13_100, ex_13_101, ex_13_102, ex_13_105, ex_13_106, ex_13_107, ex_13_108, ex_13_109, ex_13_110, ex_13_113, ex_13_114, ex_13_117, ex_13_118, ex_13_119, ex_13_120, ex_13_121, ex_13_122, ex_13_123, ex_13_124, ex_13_125, ex_13_128, ex_13_131, ex_13_134, if_true, if_false, and_self, Option.toList_some, Option.toList_none, List.singleton_append, List.cons_append, List.nil_append, List.append_nil, nI_1, nt_e, Int32.le_refl]
            refine ih2 (k + 1) _ u5 (by omega) hp2 (o2.tr (o3'.tr (o4.tr o5'))) C5 H5 B5 HB4 (fun i hi => ⟨?_, (hrow i hi).2⟩) (by omega)
            rw [(a5 201 (by decide)).1]
            show AI u4 201 i = _
            rw [row4 i (by omega), upN_n (by omega)]
          · have n9 : 9 ≤ c k := by omega
            simp only [decide_eq_false q2, Bool.and_false, Bool.false_eq_true, if_false] at hp2
            simp (disch := first | exact am_nl_i _ | exact am_nl_r _ | exact am_nl_0 | (refine vi_nI ?_ ?_ <;> omega) | assumption | omega | exact b2i_01 _ | exact Or.inl rfl | exact Or.inr rfl | (unfold vi; decide)) only [ex_13_0, ex_13_1, ex_13_2, ex_13_5, ex_13_8, ex_13_9, ex_13_10, ex_13_13, ex_13_14, ex_13_17, ex_13_18, ex_13_19, ex_13_20, ex_13_23, ex_13_26, ex_13_27, ex_13_28, ex_13_31, ex_13_32, ex_13_35, ex_13_36, ex_13_37, ex_13_40, ex_13_41, ex_13_42, ex_13_45, ex_13_46, ex_13_47, ex_13_49, ex_13_50, ex_13_53, ex_13_56, ex_13_59, ex_13_62, ex_13_63, ex_13_66, ex_13_67, ex_13_68, ex_13_69, ex_13_72, ex_13_73, ex_13_76, ex_13_77, ex_13_78, ex_13_80, ex_13_83, ex_13_84, ex_13_87, ex_13_88, ex_13_89, ex_13_90, ex_13_91, ex_13_94, ex_13_95, ex_13_96, ex_13_97, ex_13_98, ex_13_99, ex_13_100, ex_13_101, ex_13_102, ex_13_105, ex_13_106, ex_13_107, ex_13_108, ex_13_109, ex_13_110, ex_13_113, ex_13_114, ex_13_117, ex_13_118, ex_13_119, ex_13_120, ex_13_121, ex_13_122, ex_13_123, ex_13_124, ex_13_125, ex_13_128, ex_13_131, if_true, if_false, and_self, Option.toList_some, Option.toList_none, List.singleton_append, List.cons_append, List.nil_append, List.append_nil, nI_1, nt_e, Int32.le_refl, hH.1, va_rfs, hC.1.2.1, nI_leI, hnle, nI_clamp, hcop, i_lt1, show (9 : Int32) = nI 9 from rfl, n9, show ¬ c k = 0 by omega, Bool.true_eq_false, Bool.false_eq_true, ↓reduceIte]
            exact ih2 (k + 1) st u2 (by omega) hp2 o2 hC hH hB hHB hrow (by omega)
        · have n0 : c k = 0 := by omega
          simp only [decide_eq_false q1, Bool.false_and, Bool.false_eq_true, if_false] at hp2
          simp (disch := first | exact am_nl_i _ | exact am_nl_r _ | exact am_nl_0 | (refine vi_nI ?_ ?_ <;> omega) | assumption | omega | exact b2i_01 _ | exact Or.inl rfl | exact Or.inr rfl | (unfold vi; decide)) only [ex_13_0, ex_13_1, ex_13_2, ex_13_5, ex_13_8, ex_13_9, ex_13_10, ex_13_13, ex_13_14, ex_13_17, ex_13_18, ex_13_19, ex_13_20, ex_13_23, ex_13_26, ex_13_27, ex_13_28, ex_13_31, ex_13_32, ex_13_35, ex_13_36, ex_13_37, ex_13_40, ex_13_41, ex_13_42, ex_13_45, ex_13_46, ex_13_47, ex_13_49, ex_13_50, ex_13_53, ex_13_56, ex_13_59, ex_13_62, ex_13_63, ex_13_66, ex_13_67, ex_13_68, ex_13_69, ex_13_72, ex_13_73, ex_13_76, ex_13_77, ex_13_78, ex_13_80, ex_13_83, ex_13_84, ex_13_87, ex_13_88, ex_13_89, ex_13_90, ex_13_91, ex_13_94, ex_13_95, ex_13_96, ex_13_97, ex_13_98, ex_13_99, ex_13_100, ex_13_101, ex_13_102, ex_13_105, ex_13_106, ex_13_107, ex_13_108, ex_13_109, ex_13_110, ex_13_113, ex_13_114, ex_13_117, ex_13_118, ex_13_119, ex_13_120, ex_13_121, ex_13_122, ex_13_123, ex_13_124, ex_13_125, ex_13_128, ex_13_131, if_true, if_false, and_self, Option.toList_some, Option.toList_none, List.singleton_append, List.cons_append, List.nil_append, List.append_nil, nI_1, nt_e, Int32.le_refl, hH.1, va_rfs, hC.1.2.1, nI_leI, hnle, nI_clamp, hcop, i_lt1, n0, Bool.true_eq_false, Bool.false_eq_true, ↓reduceIte]
          exact ih2 (k + 1) st u2 (by omega) hp2 o2 hC hH hB hHB hrow (by omega)
    have h2 := hH.2.1
    rw [show d + 2 + (r + 1) = d + 2 + r + 1 from rfl, op_13]
    simp (disch := first | exact am_nl_i _ | exact am_nl_r _ | exact am_nl_0 | (refine vi_nI ?_ ?_ <;> omega) | assumption | omega | exact b2i_01 _ | exact Or.inl rfl | exact Or.inr rfl | (unfold vi; decide)) only [ex_13_0, ex_13_1, ex_13_2, ex_13_5, ex_13_8, ex_13_9, ex_13_10, ex_13_14, ex_13_17, ex_13_18, ex_13_19, ex_13_20, ex_13_23, ex_13_26, ex_13_27, ex_13_28, ex_13_31, ex_13_32, ex_13_35, ex_13_36, ex_13_37, ex_13_40, ex_13_41, ex_13_42, ex_13_45, ex_13_46, ex_13_47, ex_13_49, ex_13_50, ex_13_53, ex_13_56, ex_13_59, ex_13_62, ex_13_63, ex_13_66, ex_13_67, ex_13_68, ex_13_69, ex_13_72, ex_13_73, ex_13_76, ex_13_77, ex_13_78, ex_13_80, ex_13_83, ex_13_84, ex_13_87, ex_13_88, ex_13_89, ex_13_90, ex_13_91, ex_13_94, ex_13_95, ex_13_96, ex_13_97, ex_13_98, ex_13_99, ex_13_100, ex_13_101, ex_13_102, ex_13_105, ex_13_106, ex_13_107, ex_13_108, ex_13_109, ex_13_110, ex_13_113, ex_13_114, ex_13_117, ex_13_118, ex_13_119, ex_13_120, ex_13_121, ex_13_122, ex_13_123, ex_13_124, ex_13_125, ex_13_128, ex_13_131, ex_13_134, if_true, if_false, and_self, Option.toList_some, Option.toList_none, List.singleton_append, List.cons_append, List.nil_append, List.append_nil, nI_1, nt_e, Int32.le_refl, h2, nI_leI, hhm, lq4, nI_ltI, hh4', Bool.true_eq_false, Bool.false_eq_true, ↓reduceIte]
    exact loop (nP v - from_) from_ st u rfl hp (Only.rf _ _) hC hH hB hHB hrow hf
end Hands
