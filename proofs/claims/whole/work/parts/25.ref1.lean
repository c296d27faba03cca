/-! THE REFERENCE'S LEAVES -/
/-- what the reference's library holds -/
def LibR (u : am_U) (v : LV) : Prop :=
  (AI u 205 0 = nI (nF v) ∧ AI u 205 1 = nI (nP v) ∧ AI u 205 2 = nI (nE v) ∧ AI u 205 3 = nI (nT v) ∧ AI u 205 4 = burnV v) ∧
  (∀ i, i < nF v → AI u 210 i = leanV v i) ∧ (∀ i, i < nF v → AI u 211 i = clashV v i) ∧ (∀ i, i < nP v → AI u 212 i = kindV v i) ∧ (∀ i, i < nP v → AI u 213 i = weighV v i) ∧ (∀ i, i < nP v → AI u 214 i = copyV v i) ∧ (∀ i, i < nP v → AI u 215 i = saysV v i) ∧
  (∀ i, i < nE v → AI u 216 i = roomV v i) ∧ (∀ i, i < nE v → AI u 217 i = dieV v i) ∧ (∀ i, i < nE v → AI u 218 i = heirV v i) ∧ (∀ i, i < nT v → AI u 219 i = worthV v i) ∧ (∀ i, i < nT v → AI u 220 i = needV v i)
/-- what the reference's row at a, from place o on, holds of a life -/
def RowR (v : LV) (f : Nat → Int32) (o : Nat) (l : LF) : Prop :=
  (∀ p, p < 6 → f (o + p) = eatL l p) ∧ (∀ p, p < nE v → f (o + (6 + p)) = roomV v p - leftL l p) ∧ f (o + 12) = aliveL l ∧ (∀ k, k < 12 → f (o + (13 + k)) = copL l k) ∧ f (o + 25) = dayL l ∧ f (o + 26) = spentL l
def LifeR (u : am_U) (v : LV) (l : LF) : Prop := RowR v (AI u 241) 0 l
/-- what holds of every life under a library -/
def WL (v : LV) (l : LF) : Prop := (∀ p, nE v ≤ p → bt (aliveL l) p = false) ∧ (∀ p, eatL l p = eatL l p) ∧ (∀ p k, nP v ≤ k → bt (eatL l p) k = false) ∧ (∀ k, ∃ n : Nat, n ≤ 9 ∧ copL l k = nI n) ∧ (∀ k, nP v ≤ k → copL l k = 0) ∧ (∀ p, nE v ≤ p → eatL l p = 0)
theorem liveR {v : LV} {l : LF} (hW : WF v) (hw : WL v l) (x : Int32) : (okI x (nE v) && livesL l (ix x)) = livesI l x := by
  have h6 := hW.1.2.2.1
  unfold livesI
  cases h : okI x 6
  · have : okI x (nE v) = false := by
      unfold okI at h ⊢
      have := of_decide_eq_false h
      exact decide_eq_false (by omega)
    rw [this, Bool.false_and]
  · cases h2 : okI x (nE v)
    · obtain ⟨g1, g2⟩ := okI_ix h
      have g3 : nE v ≤ ix x := by
        unfold okI at h2
        have := of_decide_eq_false h2
        have g4 := of_decide_eq_true h
        show nE v ≤ x.toInt.toNat
        omega
      rw [livesL, hw.1 _ g3]
      rfl
    · rfl
theorem within_e {x a b : Int32} : decide (a ≤ x ∧ x ≤ b) = decide (a.toInt ≤ x.toInt ∧ x.toInt ≤ b.toInt) := by
  simp only [Int32.le_iff_toInt_le]
section RefLeaves
variable {d : Nat} {u : am_U} {m : am_M} {v : LV} {l : LF} {post : Option Value → am_M → Prop}
theorem within_ok {x a b : Int32} : Cl d 161 [.int x, .int a, .int b] m post ↔ post (some (.int (b2i (decide (a ≤ x ∧ x ≤ b))))) m := by
  rw [op_161]
  simp (disch := first | exact am_nl_i _ | exact am_nl_r _ | exact am_nl_0 | assumption | omega | (refine vi_nI ?_ ?_ <;> omega) | exact b2i_01 _ | exact Or.inl rfl | exact Or.inr rfl | (unfold vi; decide)) only [ex_161_0, ex_161_1, ex_161_2, ex_161_5, ex_161_6, ex_161_7, ex_161_10, ex_161_11, ex_161_14, ex_161_15, if_true, if_false, and_self, Option.toList_some, Option.toList_none, List.singleton_append, List.cons_append, List.nil_append, List.append_nil, nI_1, nt_e, Int32.le_refl]
  by_cases h1 : x < a
  · rw [if_pos h1, decide_eq_false (fun q => Int32.not_lt.mpr q.1 h1)]; rfl
  · rw [if_neg h1]
    by_cases h2 : b < x
    · rw [if_pos h2, decide_eq_false (fun q => Int32.not_lt.mpr q.2 h2)]; rfl
    · rw [if_neg h2, decide_eq_true ⟨Int32.not_lt.mp h1, Int32.not_lt.mp h2⟩]; rfl
def bitsV (x : Int32) : Int32 := sumF 13 (fun k => b2i (bt x k))
theorem bits_ok {x : Int32} : Cl d 163 [.int x] m post ↔ post (some (.int (bitsV x))) m := by
  refine Cl_iff ?_ post
  rw [op_163]
  have loop : ∀ (kz i : Nat), i + kz = 13 → Ex d 163 4 [some (.int x), some (.int (sumF i (fun k => b2i (bt x k)))), some (.int (nI i))] [] m (fun w n => w = some (.int (bitsV x)) ∧ n = m) := by
    intro kz
    induction kz with
    | zero =>
      intro i h1
      obtain rfl : i = 13 := by omega
      rw [ex_163_4]
      simp (disch := first | exact am_nl_i _ | exact am_nl_r _ | exact am_nl_0 | assumption | omega | (refine vi_nI ?_ ?_ <;> omega) | exact b2i_01 _ | exact Or.inl rfl | exact Or.inr rfl | (unfold vi; decide)) only [ex_163_0, ex_163_1, ex_163_2, ex_163_3, ex_163_5, ex_163_7, ex_163_10, ex_163_11, ex_163_12, ex_163_13, ex_163_14, ex_163_15, ex_163_16, ex_163_17, ex_163_18, ex_163_21, ex_163_24, ex_163_25, if_true, if_false, and_self, Option.toList_some, Option.toList_none, List.singleton_append, List.cons_append, List.nil_append, List.append_nil, nI_1, nt_e, Int32.le_refl, lq13]
      exact ⟨rfl, trivial⟩
    | succ kz ih =>
      intro i h1
      have hlt : i < 13 := by omega
      have hnle : ¬ 13 ≤ i := by omega
      have h2 := ih (i + 1) (by omega)
      rw [ex_163_4]
      simp (disch := first | exact am_nl_i _ | exact am_nl_r _ | exact am_nl_0 | assumption | omega | (refine vi_nI ?_ ?_ <;> omega) | exact b2i_01 _ | exact Or.inl rfl | exact Or.inr rfl | (unfold vi; decide)) only [ex_163_0, ex_163_1, ex_163_2, ex_163_3, ex_163_5, ex_163_7, ex_163_10, ex_163_11, ex_163_12, ex_163_13, ex_163_14, ex_163_15, ex_163_16, ex_163_17, ex_163_18, ex_163_21, ex_163_24, ex_163_25, if_true, if_false, and_self, Option.toList_some, Option.toList_none, List.singleton_append, List.cons_append, List.nil_append, List.append_nil, nI_1, nt_e, Int32.le_refl, nI_leI, nI_ltI, hlt, hnle, bit_e, bi_e, nI_clamp, b2i_0, b2i_1, lq13]
      exact h2
  simp (disch := first | exact am_nl_i _ | exact am_nl_r _ | exact am_nl_0 | assumption | omega | (refine vi_nI ?_ ?_ <;> omega) | exact b2i_01 _ | exact Or.inl rfl | exact Or.inr rfl | (unfold vi; decide)) only [ex_163_0, ex_163_1, ex_163_2, ex_163_3, ex_163_5, ex_163_7, ex_163_10, ex_163_11, ex_163_12, ex_163_13, ex_163_14, ex_163_15, ex_163_16, ex_163_17, ex_163_18, ex_163_21, ex_163_24, ex_163_25, if_true, if_false, and_self, Option.toList_some, Option.toList_none, List.singleton_append, List.cons_append, List.nil_append, List.append_nil, nI_1, nt_e, Int32.le_refl]
  exact loop 13 0 (by omega)
theorem okI_if {x : Int32} {n : Nat} {A B C : Prop} (hn : n < 2 ^ 31) (hA : okI x n = false → (A ↔ C)) (hB : okI x n = true → (B ↔ C)) : (if x < 0 then A else if nI n ≤ x then A else B) ↔ C := by
  have e1 : x < 0 ↔ x.toInt < 0 := by rw [Int32.lt_iff_toInt_lt, Int32.toInt_zero]
  have e2 : nI n ≤ x ↔ (n : Int) ≤ x.toInt := by rw [Int32.le_iff_toInt_le, nI_toInt (by omega)]
  by_cases h0 : x < 0
  · have g0 := e1.mp h0
    rw [if_pos h0]
    exact hA (decide_eq_false (by omega))
  · have g0 := mt e1.mpr h0
    rw [if_neg h0]
    by_cases h1 : nI n ≤ x
    · have g1 := e2.mp h1
      rw [if_pos h1]
      exact hA (decide_eq_false (by omega))
    · have g1 := mt e2.mpr h1
      rw [if_neg h1]
      exact hB (decide_eq_true (by omega))
theorem isFact_ok {x : Int32} (hR : LibR u v) (hW : WF v) : Cl d 209 [.ref 203, .int x] (am_emb u) post ↔ post (some (.int (b2i (okI x (nF v))))) (am_emb u) := by
  rw [op_209]
  simp (disch := first | exact am_nl_i _ | exact am_nl_r _ | exact am_nl_0 | assumption | omega | (refine vi_nI ?_ ?_ <;> omega) | exact b2i_01 _ | exact Or.inl rfl | exact Or.inr rfl | (unfold vi; decide)) only [ex_209_0, ex_209_1, ex_209_4, ex_209_5, ex_209_6, ex_209_9, ex_209_10, ex_209_11, ex_209_14, ex_209_15, ex_209_18, ex_209_19, if_true, if_false, and_self, Option.toList_some, Option.toList_none, List.singleton_append, List.cons_append, List.nil_append, List.append_nil, nI_1, nt_e, Int32.le_refl, show (0 : Int32).toNatClampNeg = 0 from rfl, hR.1.1]
  exact okI_if (by have := hW.1.1; omega) (fun h => by rw [h]; rfl) (fun h => by rw [h]; rfl)
theorem isPage_ok {x : Int32} (hR : LibR u v) (hW : WF v) : Cl d 210 [.ref 203, .int x] (am_emb u) post ↔ post (some (.int (b2i (okI x (nP v))))) (am_emb u) := by
  rw [op_210]
  simp (disch := first | exact am_nl_i _ | exact am_nl_r _ | exact am_nl_0 | assumption | omega | (refine vi_nI ?_ ?_ <;> omega) | exact b2i_01 _ | exact Or.inl rfl | exact Or.inr rfl | (unfold vi; decide)) only [ex_210_0, ex_210_1, ex_210_4, ex_210_5, ex_210_6, ex_210_9, ex_210_10, ex_210_11, ex_210_14, ex_210_15, ex_210_18, ex_210_19, if_true, if_false, and_self, Option.toList_some, Option.toList_none, List.singleton_append, List.cons_append, List.nil_append, List.append_nil, nI_1, nt_e, Int32.le_refl, show (1 : Int32).toNatClampNeg = 1 from rfl, hR.1.2.1]
  exact okI_if (by have := hW.1.2.1; omega) (fun h => by rw [h]; rfl) (fun h => by rw [h]; rfl)
theorem isPerson_ok {x : Int32} (hR : LibR u v) (hW : WF v) : Cl d 211 [.ref 203, .int x] (am_emb u) post ↔ post (some (.int (b2i (okI x (nE v))))) (am_emb u) := by
  rw [op_211]
  simp (disch := first | exact am_nl_i _ | exact am_nl_r _ | exact am_nl_0 | assumption | omega | (refine vi_nI ?_ ?_ <;> omega) | exact b2i_01 _ | exact Or.inl rfl | exact Or.inr rfl | (unfold vi; decide)) only [ex_211_0, ex_211_1, ex_211_4, ex_211_5, ex_211_6, ex_211_9, ex_211_10, ex_211_11, ex_211_14, ex_211_15, ex_211_18, ex_211_19, if_true, if_false, and_self, Option.toList_some, Option.toList_none, List.singleton_append, List.cons_append, List.nil_append, List.append_nil, nI_1, nt_e, Int32.le_refl, show (2 : Int32).toNatClampNeg = 2 from rfl, hR.1.2.2.1]
  exact okI_if (by have := hW.1.2.2.1; omega) (fun h => by rw [h]; rfl) (fun h => by rw [h]; rfl)
theorem isTask_ok {x : Int32} (hR : LibR u v) (hW : WF v) : Cl d 212 [.ref 203, .int x] (am_emb u) post ↔ post (some (.int (b2i (okI x (nT v))))) (am_emb u) := by
  rw [op_212]
  simp (disch := first | exact am_nl_i _ | exact am_nl_r _ | exact am_nl_0 | assumption | omega | (refine vi_nI ?_ ?_ <;> omega) | exact b2i_01 _ | exact Or.inl rfl | exact Or.inr rfl | (unfold vi; decide)) only [ex_212_0, ex_212_1, ex_212_4, ex_212_5, ex_212_6, ex_212_9, ex_212_10, ex_212_11, ex_212_14, ex_212_15, ex_212_18, ex_212_19, if_true, if_false, and_self, Option.toList_some, Option.toList_none, List.singleton_append, List.cons_append, List.nil_append, List.append_nil, nI_1, nt_e, Int32.le_refl, show (3 : Int32).toNatClampNeg = 3 from rfl, hR.1.2.2.2.1]
  exact okI_if (by have := hW.1.2.2.2; omega) (fun h => by rw [h]; rfl) (fun h => by rw [h]; rfl)
end RefLeaves
