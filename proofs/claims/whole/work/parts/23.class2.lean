/-! THE CLASS'S LEAVES: Life, what it is asked -/
theorem lq6 : (6 : Int32) = nI 6 := rfl
theorem lq12 : (12 : Int32) = nI 12 := rfl
theorem lq13 : (13 : Int32) = nI 13 := rfl
theorem lq5 : (5 : Int32) = nI 5 := rfl
def ix (x : Int32) : Nat := x.toNatClampNeg
def okI (x : Int32) (n : Nat) : Bool := decide (0 ≤ x.toInt ∧ x.toInt < (n : Int))
theorem okI_ix {x : Int32} {n : Nat} (h : okI x n = true) : ix x < n ∧ x = nI (ix x) := by
  have h1 := of_decide_eq_true h
  have e : ((ix x : Nat) : Int) = x.toInt := by
    show ((x.toInt.toNat : Nat) : Int) = _
    omega
  refine ⟨by omega, ?_⟩
  apply Int32.toInt_inj.mp
  have h2 := Int32.toInt_lt x
  rw [nI_toInt (by omega), e]
theorem okI_nI {j n : Nat} (hn : n < 2 ^ 31) (hj : j < 2 ^ 31) : okI (nI j) n = decide (j < n) := by
  unfold okI
  rw [nI_toInt hj]
  by_cases h : j < n
  · rw [decide_eq_true h, decide_eq_true (by omega)]
  · rw [decide_eq_false h, decide_eq_false (by omega)]
theorem ix_nI {j : Nat} (h : j < 2 ^ 31) : ix (nI j) = j := nI_clamp h
def livesI (l : LF) (x : Int32) : Bool := okI x 6 && livesL l (ix x)
theorem livesI_nI {l : LF} {j : Nat} (h : j < 6) : livesI l (nI j) = livesL l j := by
  unfold livesI
  rw [okI_nI (by omega) (by omega), decide_eq_true h, ix_nI (by omega)]
  rfl
def takesB (v : LV) (l : LF) (x y : Int32) : Bool := livesI l x && okI y (nP v) && !bt (eatL l (ix x)) (ix y) && decide (weighV v (ix y) ≤ leftL l (ix x))
def eatersL (l : LF) (k : Nat) : Int32 := orF 6 (fun p => if livesL l p && bt (eatL l p) k then bi p else 0)
def ableL (v : LV) (l : LF) (t : Nat) : Int32 := orF 6 (fun p => if livesL l p && bt (tasksV v (knowsV v (eatL l p))) t then bi p else 0)
def knowersL (v : LV) (l : LF) (f : Nat) : Int32 := sumF 6 (fun p => if livesL l p then b2i (bt (knowsV v (eatL l p)) f) else 0)
def atMostL (v : LV) (l : LF) (most : Int32) : Int32 := orF (nF v) (fun f => if knowersL v l f ≤ most then bi f else 0)
def allCopL (l : LF) : Int32 := sumF 12 (copL l)
section ClassLife
variable {d L b : Nat} {u : am_U} {v : LV} {l : LF} {post : Option Value → am_M → Prop}
theorem lives_ok {x : Int32} (hb : sh b 4 6) (hl : LifeC u b l) : Cl d 37 [.ref b, .int x] (am_emb u) post ↔ post (some (.int (b2i (livesI l x)))) (am_emb u) := by
  rw [op_37]
  simp (disch := first | exact am_nl_i _ | exact am_nl_r _ | exact am_nl_0 | assumption | omega | (refine vi_nI ?_ ?_ <;> omega) | exact b2i_01 _ | exact Or.inl rfl | exact Or.inr rfl | (unfold vi; decide)) only [ex_37_0, ex_37_1, ex_37_4, ex_37_5, ex_37_7, ex_37_10, ex_37_11, ex_37_14, ex_37_15, ex_37_16, ex_37_17, ex_37_18, ex_37_21, ex_37_22, ex_37_25, ex_37_26, if_true, if_false, and_self, Option.toList_some, Option.toList_none, List.singleton_append, List.cons_append, List.nil_append, List.append_nil, nI_1, nt_e, Int32.le_refl, hl.2.2.2.1]
  have e1 : x < 0 ↔ x.toInt < 0 := by rw [Int32.lt_iff_toInt_lt, Int32.toInt_zero]
  have e2 : (6 : Int32) ≤ x ↔ (6 : Int) ≤ x.toInt := by rw [Int32.le_iff_toInt_le]; rfl
  by_cases h0 : x < 0
  · have g0 := e1.mp h0
    rw [if_pos h0, livesI, okI, decide_eq_false (by omega)]; rfl
  · have g0 := mt e1.mpr h0
    rw [if_neg h0]
    by_cases h1 : (6 : Int32) ≤ x
    · have g1 := e2.mp h1
      rw [if_pos h1, livesI, okI, decide_eq_false (by omega)]; rfl
    · have g1 := mt e2.mpr h1
      rw [if_neg h1]
      have hk : okI x 6 = true := decide_eq_true (by omega)
      obtain ⟨h2, h3⟩ := okI_ix hk
      rw [livesI, hk, Bool.true_and, livesL]
      generalize ix x = j at h2 h3
      subst h3
      rw [bit_e _ (by omega)]
      cases bt (aliveL l) j <;> simp [b2i]
theorem hasEaten_ok {p k : Nat} (hb : sh b 4 6) (hl : LifeC u b l) (hp : p < 6) (hk : k < 32) : Cl d 38 [.ref b, .int (nI p), .int (nI k)] (am_emb u) post ↔ post (some (.int (b2i (bt (eatL l p) k)))) (am_emb u) := by
  rw [op_38]
  simp (disch := first | exact am_nl_i _ | exact am_nl_r _ | exact am_nl_0 | assumption | omega | (refine vi_nI ?_ ?_ <;> omega) | exact b2i_01 _ | exact Or.inl rfl | exact Or.inr rfl | (unfold vi; decide)) only [ex_38_0, ex_38_1, ex_38_4, ex_38_5, ex_38_6, ex_38_7, ex_38_8, ex_38_9, ex_38_10, ex_38_13, ex_38_14, ex_38_17, ex_38_18, if_true, if_false, and_self, Option.toList_some, Option.toList_none, List.singleton_append, List.cons_append, List.nil_append, List.append_nil, nI_1, nt_e, Int32.le_refl, hl.1, nI_clamp, bit_e, b2i_0]
  cases bt (eatL l p) k <;> rfl
theorem takes_ok {x y : Int32} (hb : sh b 4 6) (hL : sh L 3 19) (hl : LifeC u b l) (hC : LibC u L v) (hW : WF v) : Cl (d + 1) 39 [.ref b, .ref L, .int x, .int y] (am_emb u) post ↔ post (some (.int (b2i (takesB v l x y)))) (am_emb u) := by
  have h12 := hW.1.2.1
  rw [op_39]
  simp (disch := first | exact am_nl_i _ | exact am_nl_r _ | exact am_nl_0 | assumption | omega | (refine vi_nI ?_ ?_ <;> omega) | exact b2i_01 _ | exact Or.inl rfl | exact Or.inr rfl | (unfold vi; decide)) only [ex_39_0, ex_39_1, ex_39_2, ex_39_5, ex_39_8, ex_39_9, ex_39_12, ex_39_13, ex_39_16, ex_39_19, ex_39_20, ex_39_21, ex_39_22, ex_39_25, ex_39_28, ex_39_29, ex_39_32, ex_39_33, ex_39_34, ex_39_35, ex_39_38, ex_39_39, ex_39_40, ex_39_43, ex_39_44, ex_39_47, ex_39_48, if_true, if_false, and_self, Option.toList_some, Option.toList_none, List.singleton_append, List.cons_append, List.nil_append, List.append_nil, nI_1, nt_e, Int32.le_refl, lives_ok hb hl, b2i_0]
  rw [takesB]
  cases h1 : livesI l x
  · rfl
  · rw [if_neg (by simp)]
    simp (disch := first | exact am_nl_i _ | exact am_nl_r _ | exact am_nl_0 | assumption | omega | (refine vi_nI ?_ ?_ <;> omega) | exact b2i_01 _ | exact Or.inl rfl | exact Or.inr rfl | (unfold vi; decide)) only [ex_39_0, ex_39_1, ex_39_2, ex_39_5, ex_39_8, ex_39_9, ex_39_12, ex_39_13, ex_39_16, ex_39_19, ex_39_20, ex_39_21, ex_39_22, ex_39_25, ex_39_28, ex_39_29, ex_39_32, ex_39_33, ex_39_34, ex_39_35, ex_39_38, ex_39_39, ex_39_40, ex_39_43, ex_39_44, ex_39_47, ex_39_48, if_true, if_false, and_self, Option.toList_some, Option.toList_none, List.singleton_append, List.cons_append, List.nil_append, List.append_nil, nI_1, nt_e, Int32.le_refl, has_ok (sh_3_3 hL) hC.1.2.1 hC.2.1.2.1 h12 h12 (Nat.le_refl 12), b2i_0]
    rw [show decide (0 ≤ y.toInt ∧ y.toInt < (nP v : Int)) = okI y (nP v) from rfl]
    cases h2 : okI y (nP v)
    · rfl
    · rw [if_neg (by simp)]
      obtain ⟨g1, g2⟩ := okI_ix h2
      have h3 : okI x 6 = true := by
        unfold livesI at h1
        cases hq : okI x 6
        · rw [hq] at h1; cases h1
        · rfl
      obtain ⟨g3, g4⟩ := okI_ix h3
      generalize ix x = p at g3 g4
      generalize ix y = k at g1 g2
      subst g2
      subst g4
      simp (disch := first | exact am_nl_i _ | exact am_nl_r _ | exact am_nl_0 | assumption | omega | (refine vi_nI ?_ ?_ <;> omega) | exact b2i_01 _ | exact Or.inl rfl | exact Or.inr rfl | (unfold vi; decide)) only [ex_39_0, ex_39_1, ex_39_2, ex_39_5, ex_39_8, ex_39_9, ex_39_12, ex_39_13, ex_39_16, ex_39_19, ex_39_20, ex_39_21, ex_39_22, ex_39_25, ex_39_28, ex_39_29, ex_39_32, ex_39_33, ex_39_34, ex_39_35, ex_39_38, ex_39_39, ex_39_40, ex_39_43, ex_39_44, ex_39_47, ex_39_48, if_true, if_false, and_self, Option.toList_some, Option.toList_none, List.singleton_append, List.cons_append, List.nil_append, List.append_nil, nI_1, nt_e, Int32.le_refl, hasEaten_ok hb hl, hC.2.2.2.2.2.1, hl.2.1, nI_clamp, b2i_0]
      cases h4 : bt (eatL l p) k
      · simp only [if_true]
        by_cases h5 : leftL l p < weighV v k
        · rw [if_pos h5, decide_eq_false (by rw [Int32.not_le]; exact h5)]; rfl
        · rw [if_neg h5, decide_eq_true (by rw [Int32.not_lt] at h5; exact h5)]; rfl
      · rfl
theorem known_ok {p : Nat} (hb : sh b 4 6) (hL : sh L 3 19) (hl : LifeC u b l) (hC : LibC u L v) (hW : WF v) (hp : p < 6) : Cl (d + 1) 46 [.ref b, .ref L, .int (nI p)] (am_emb u) post ↔ post (some (.int (knowsV v (eatL l p)))) (am_emb u) := by
  rw [op_46]
  simp (disch := first | exact am_nl_i _ | exact am_nl_r _ | exact am_nl_0 | assumption | omega | (refine vi_nI ?_ ?_ <;> omega) | exact b2i_01 _ | exact Or.inl rfl | exact Or.inr rfl | (unfold vi; decide)) only [ex_46_0, ex_46_1, ex_46_2, ex_46_5, ex_46_6, ex_46_7, ex_46_8, ex_46_11, ex_46_12, ex_46_15, if_true, if_false, and_self, Option.toList_some, Option.toList_none, List.singleton_append, List.cons_append, List.nil_append, List.append_nil, nI_1, nt_e, Int32.le_refl, hl.1, nI_clamp, hC.2.2.2.2.2.2.2.2.2.2.2.2.2.1, said_ok hL hC hW, know_e hW]
theorem eatersOf_ok {k : Nat} (hb : sh b 4 6) (hl : LifeC u b l) (hk : k < 32) : Cl (d + 1) 47 [.ref b, .int (nI k)] (am_emb u) post ↔ post (some (.int (eatersL l k))) (am_emb u) := by
  refine Cl_iff ?_ post
  have h12 : 6 ≤ 6 := Nat.le_refl 6
  rw [op_47]
  have loop : ∀ (kz i : Nat), i + kz = 6 → Ex (d + 1) 47 4 [some (.ref b), some (.int (nI k)), some (.int (orF i (fun p => if livesL l p && bt (eatL l p) k then bi p else 0))), some (.int (nI i))] [] (am_emb u) (fun w m => w = some (.int (eatersL l k)) ∧ m = am_emb u) := by
    intro kz
    induction kz with
    | zero =>
      intro i h1
      obtain rfl : i = 6 := by omega
      rw [ex_47_4]
      simp (disch := first | exact am_nl_i _ | exact am_nl_r _ | exact am_nl_0 | assumption | omega | (refine vi_nI ?_ ?_ <;> omega) | exact b2i_01 _ | exact Or.inl rfl | exact Or.inr rfl | (unfold vi; decide)) only [ex_47_0, ex_47_1, ex_47_2, ex_47_3, ex_47_5, ex_47_7, ex_47_10, ex_47_11, ex_47_12, ex_47_15, ex_47_18, ex_47_19, ex_47_20, ex_47_21, ex_47_24, ex_47_27, ex_47_28, ex_47_29, ex_47_30, ex_47_31, ex_47_32, ex_47_33, ex_47_36, ex_47_39, ex_47_40, if_true, if_false, and_self, Option.toList_some, Option.toList_none, List.singleton_append, List.cons_append, List.nil_append, List.append_nil, nI_1, nt_e, Int32.le_refl, lq6, lives_ok hb hl, livesI_nI, hasEaten_ok hb hl]
      exact ⟨rfl, trivial⟩
    | succ kz ih =>
      intro i h1
      have hlt : i < 6 := by omega
      have hnle : ¬ 6 ≤ i := by omega
      have h2 := ih (i + 1) (by omega)
      rw [ex_47_4]
      simp (disch := first | exact am_nl_i _ | exact am_nl_r _ | exact am_nl_0 | assumption | omega | (refine vi_nI ?_ ?_ <;> omega) | exact b2i_01 _ | exact Or.inl rfl | exact Or.inr rfl | (unfold vi; decide)) only [ex_47_0, ex_47_1, ex_47_2, ex_47_3, ex_47_5, ex_47_7, ex_47_10, ex_47_11, ex_47_12, ex_47_15, ex_47_18, ex_47_19, ex_47_20, ex_47_21, ex_47_24, ex_47_27, ex_47_28, ex_47_29, ex_47_30, ex_47_31, ex_47_32, ex_47_33, ex_47_36, ex_47_39, ex_47_40, if_true, if_false, and_self, Option.toList_some, Option.toList_none, List.singleton_append, List.cons_append, List.nil_append, List.append_nil, nI_1, nt_e, Int32.le_refl, nI_leI, nI_ltI, hlt, hnle, bit_e, bi_e, nI_clamp, b2i_0, b2i_1, lq6, lives_ok hb hl, livesI_nI, hasEaten_ok hb hl]
      rw [orF] at h2; cases ha : livesL l i <;> cases hq : bt (eatL l i) k <;> simpa [ha, hq, or_0] using h2
  simp (disch := first | exact am_nl_i _ | exact am_nl_r _ | exact am_nl_0 | assumption | omega | (refine vi_nI ?_ ?_ <;> omega) | exact b2i_01 _ | exact Or.inl rfl | exact Or.inr rfl | (unfold vi; decide)) only [ex_47_0, ex_47_1, ex_47_2, ex_47_3, ex_47_5, ex_47_7, ex_47_10, ex_47_11, ex_47_12, ex_47_15, ex_47_18, ex_47_19, ex_47_20, ex_47_21, ex_47_24, ex_47_27, ex_47_28, ex_47_29, ex_47_30, ex_47_31, ex_47_32, ex_47_33, ex_47_36, ex_47_39, ex_47_40, if_true, if_false, and_self, Option.toList_some, Option.toList_none, List.singleton_append, List.cons_append, List.nil_append, List.append_nil, nI_1, nt_e, Int32.le_refl]
  exact loop 6 0 (by omega)
theorem ableTo_ok {t : Nat} (hb : sh b 4 6) (hL : sh L 3 19) (hl : LifeC u b l) (hC : LibC u L v) (hW : WF v) (ht : t < nT v) : Cl (d + 3) 48 [.ref b, .ref L, .int (nI t)] (am_emb u) post ↔ post (some (.int (ableL v l t))) (am_emb u) := by
  refine Cl_iff ?_ post
  rw [op_48]
  have loop : ∀ (kz i : Nat), i + kz = 6 → Ex (d + 3) 48 5 [some (.ref b), some (.ref L), some (.int (nI t)), some (.int (orF i (fun p => if livesL l p && bt (tasksV v (knowsV v (eatL l p))) t then bi p else 0))), some (.int (nI i))] [] (am_emb u) (fun w m => w = some (.int (ableL v l t)) ∧ m = am_emb u) := by
    intro kz
    induction kz with
    | zero =>
      intro i h1
      obtain rfl : i = 6 := by omega
      rw [ex_48_5]
      simp (disch := first | exact am_nl_i _ | exact am_nl_r _ | exact am_nl_0 | assumption | omega | (refine vi_nI ?_ ?_ <;> omega) | exact b2i_01 _ | exact Or.inl rfl | exact Or.inr rfl | (unfold vi; decide)) only [ex_48_0, ex_48_1, ex_48_2, ex_48_3, ex_48_7, ex_48_9, ex_48_12, ex_48_13, ex_48_15, ex_48_18, ex_48_21, ex_48_22, ex_48_23, ex_48_26, ex_48_28, ex_48_29, ex_48_30, ex_48_33, ex_48_36, ex_48_37, ex_48_38, ex_48_40, ex_48_41, ex_48_42, ex_48_43, ex_48_46, ex_48_49, ex_48_50, if_true, if_false, and_self, Option.toList_some, Option.toList_none, List.singleton_append, List.cons_append, List.nil_append, List.append_nil, nI_1, nt_e, Int32.le_refl, lq6, lives_ok hb hl, livesI_nI, hl.1, can_ok hL hC hW ht]
      exact ⟨rfl, trivial⟩
    | succ kz ih =>
      intro i h1
      have hlt : i < 6 := by omega
      have hnle : ¬ 6 ≤ i := by omega
      have h2 := ih (i + 1) (by omega)
      rw [ex_48_5]
      simp (disch := first | exact am_nl_i _ | exact am_nl_r _ | exact am_nl_0 | assumption | omega | (refine vi_nI ?_ ?_ <;> omega) | exact b2i_01 _ | exact Or.inl rfl | exact Or.inr rfl | (unfold vi; decide)) only [ex_48_0, ex_48_1, ex_48_2, ex_48_3, ex_48_7, ex_48_9, ex_48_12, ex_48_13, ex_48_15, ex_48_18, ex_48_21, ex_48_22, ex_48_23, ex_48_26, ex_48_28, ex_48_29, ex_48_30, ex_48_33, ex_48_36, ex_48_37, ex_48_38, ex_48_40, ex_48_41, ex_48_42, ex_48_43, ex_48_46, ex_48_49, ex_48_50, if_true, if_false, and_self, Option.toList_some, Option.toList_none, List.singleton_append, List.cons_append, List.nil_append, List.append_nil, nI_1, nt_e, Int32.le_refl, nI_leI, nI_ltI, hlt, hnle, bit_e, bi_e, nI_clamp, b2i_0, b2i_1, lq6, lives_ok hb hl, livesI_nI, hl.1, can_ok hL hC hW ht]
      rw [orF] at h2; cases ha : livesL l i <;> cases hq : bt (tasksV v (knowsV v (eatL l i))) t <;> simpa [ha, hq, or_0] using h2
  simp (disch := first | exact am_nl_i _ | exact am_nl_r _ | exact am_nl_0 | assumption | omega | (refine vi_nI ?_ ?_ <;> omega) | exact b2i_01 _ | exact Or.inl rfl | exact Or.inr rfl | (unfold vi; decide)) only [ex_48_0, ex_48_1, ex_48_2, ex_48_3, ex_48_7, ex_48_9, ex_48_12, ex_48_13, ex_48_15, ex_48_18, ex_48_21, ex_48_22, ex_48_23, ex_48_26, ex_48_28, ex_48_29, ex_48_30, ex_48_33, ex_48_36, ex_48_37, ex_48_38, ex_48_40, ex_48_41, ex_48_42, ex_48_43, ex_48_46, ex_48_49, ex_48_50, if_true, if_false, and_self, Option.toList_some, Option.toList_none, List.singleton_append, List.cons_append, List.nil_append, List.append_nil, nI_1, nt_e, Int32.le_refl]
  exact loop 6 0 (by omega)
theorem inStock_ok (hb : sh b 4 6) (hl : LifeC u b l) : Cl d 50 [.ref b] (am_emb u) post ↔ post (some (.int (inStockL l))) (am_emb u) := by
  refine Cl_iff ?_ post
  rw [op_50]
  have loop : ∀ (kz i : Nat), i + kz = 12 → Ex d 50 4 [some (.ref b), some (.int (orF i (fun i => if 0 < copL l i then bi i else 0))), some (.int (nI i))] [] (am_emb u) (fun w m => w = some (.int (inStockL l)) ∧ m = am_emb u) := by
    intro kz
    induction kz with
    | zero =>
      intro i h1
      obtain rfl : i = 12 := by omega
      rw [ex_50_4]
      simp (disch := first | exact am_nl_i _ | exact am_nl_r _ | exact am_nl_0 | assumption | omega | (refine vi_nI ?_ ?_ <;> omega) | exact b2i_01 _ | exact Or.inl rfl | exact Or.inr rfl | (unfold vi; decide)) only [ex_50_0, ex_50_1, ex_50_2, ex_50_3, ex_50_5, ex_50_7, ex_50_10, ex_50_11, ex_50_14, ex_50_15, ex_50_16, ex_50_19, ex_50_20, ex_50_21, ex_50_22, ex_50_23, ex_50_24, ex_50_25, ex_50_28, ex_50_31, ex_50_32, if_true, if_false, and_self, Option.toList_some, Option.toList_none, List.singleton_append, List.cons_append, List.nil_append, List.append_nil, nI_1, nt_e, Int32.le_refl, lq12, hl.2.2.1]
      exact ⟨rfl, trivial⟩
    | succ kz ih =>
      intro i h1
      have hlt : i < 12 := by omega
      have hnle : ¬ 12 ≤ i := by omega
      have h2 := ih (i + 1) (by omega)
      rw [ex_50_4]
      simp (disch := first | exact am_nl_i _ | exact am_nl_r _ | exact am_nl_0 | assumption | omega | (refine vi_nI ?_ ?_ <;> omega) | exact b2i_01 _ | exact Or.inl rfl | exact Or.inr rfl | (unfold vi; decide)) only [ex_50_0, ex_50_1, ex_50_2, ex_50_3, ex_50_5, ex_50_7, ex_50_10, ex_50_11, ex_50_14, ex_50_15, ex_50_16, ex_50_19, ex_50_20, ex_50_21, ex_50_22, ex_50_23, ex_50_24, ex_50_25, ex_50_28, ex_50_31, ex_50_32, if_true, if_false, and_self, Option.toList_some, Option.toList_none, List.singleton_append, List.cons_append, List.nil_append, List.append_nil, nI_1, nt_e, Int32.le_refl, nI_leI, nI_ltI, hlt, hnle, bit_e, bi_e, nI_clamp, b2i_0, b2i_1, lq12, hl.2.2.1]
      rw [orF] at h2; by_cases hq : 0 < copL l i; (· rw [if_neg (Int32.not_le.mpr hq)]; simpa [hq] using h2); (· rw [if_pos (Int32.not_lt.mp hq)]; simpa [hq, or_0] using h2)
  simp (disch := first | exact am_nl_i _ | exact am_nl_r _ | exact am_nl_0 | assumption | omega | (refine vi_nI ?_ ?_ <;> omega) | exact b2i_01 _ | exact Or.inl rfl | exact Or.inr rfl | (unfold vi; decide)) only [ex_50_0, ex_50_1, ex_50_2, ex_50_3, ex_50_5, ex_50_7, ex_50_10, ex_50_11, ex_50_14, ex_50_15, ex_50_16, ex_50_19, ex_50_20, ex_50_21, ex_50_22, ex_50_23, ex_50_24, ex_50_25, ex_50_28, ex_50_31, ex_50_32, if_true, if_false, and_self, Option.toList_some, Option.toList_none, List.singleton_append, List.cons_append, List.nil_append, List.append_nil, nI_1, nt_e, Int32.le_refl]
  exact loop 12 0 (by omega)
theorem allCopies_ok (hb : sh b 4 6) (hl : LifeC u b l) : Cl d 51 [.ref b] (am_emb u) post ↔ post (some (.int (allCopL l))) (am_emb u) := by
  refine Cl_iff ?_ post
  rw [op_51]
  have loop : ∀ (kz i : Nat), i + kz = 12 → Ex d 51 4 [some (.ref b), some (.int (sumF i (copL l))), some (.int (nI i))] [] (am_emb u) (fun w m => w = some (.int (allCopL l)) ∧ m = am_emb u) := by
    intro kz
    induction kz with
    | zero =>
      intro i h1
      obtain rfl : i = 12 := by omega
      rw [ex_51_4]
      simp (disch := first | exact am_nl_i _ | exact am_nl_r _ | exact am_nl_0 | assumption | omega | (refine vi_nI ?_ ?_ <;> omega) | exact b2i_01 _ | exact Or.inl rfl | exact Or.inr rfl | (unfold vi; decide)) only [ex_51_0, ex_51_1, ex_51_2, ex_51_3, ex_51_5, ex_51_7, ex_51_10, ex_51_11, ex_51_12, ex_51_15, ex_51_16, ex_51_17, ex_51_18, ex_51_19, ex_51_22, ex_51_25, ex_51_26, if_true, if_false, and_self, Option.toList_some, Option.toList_none, List.singleton_append, List.cons_append, List.nil_append, List.append_nil, nI_1, nt_e, Int32.le_refl, lq12, hl.2.2.1]
      exact ⟨rfl, trivial⟩
    | succ kz ih =>
      intro i h1
      have hlt : i < 12 := by omega
      have hnle : ¬ 12 ≤ i := by omega
      have h2 := ih (i + 1) (by omega)
      rw [ex_51_4]
      simp (disch := first | exact am_nl_i _ | exact am_nl_r _ | exact am_nl_0 | assumption | omega | (refine vi_nI ?_ ?_ <;> omega) | exact b2i_01 _ | exact Or.inl rfl | exact Or.inr rfl | (unfold vi; decide)) only [ex_51_0, ex_51_1, ex_51_2, ex_51_3, ex_51_5, ex_51_7, ex_51_10, ex_51_11, ex_51_12, ex_51_15, ex_51_16, ex_51_17, ex_51_18, ex_51_19, ex_51_22, ex_51_25, ex_51_26, if_true, if_false, and_self, Option.toList_some, Option.toList_none, List.singleton_append, List.cons_append, List.nil_append, List.append_nil, nI_1, nt_e, Int32.le_refl, nI_leI, nI_ltI, hlt, hnle, bit_e, bi_e, nI_clamp, b2i_0, b2i_1, lq12, hl.2.2.1]
      exact h2
  simp (disch := first | exact am_nl_i _ | exact am_nl_r _ | exact am_nl_0 | assumption | omega | (refine vi_nI ?_ ?_ <;> omega) | exact b2i_01 _ | exact Or.inl rfl | exact Or.inr rfl | (unfold vi; decide)) only [ex_51_0, ex_51_1, ex_51_2, ex_51_3, ex_51_5, ex_51_7, ex_51_10, ex_51_11, ex_51_12, ex_51_15, ex_51_16, ex_51_17, ex_51_18, ex_51_19, ex_51_22, ex_51_25, ex_51_26, if_true, if_false, and_self, Option.toList_some, Option.toList_none, List.singleton_append, List.cons_append, List.nil_append, List.append_nil, nI_1, nt_e, Int32.le_refl]
  exact loop 12 0 (by omega)
theorem knownToSome_ok (hb : sh b 4 6) (hL : sh L 3 19) (hl : LifeC u b l) (hC : LibC u L v) (hW : WF v) : Cl (d + 2) 52 [.ref b, .ref L] (am_emb u) post ↔ post (some (.int (knownToSomeV v l))) (am_emb u) := by
  refine Cl_iff ?_ post
  rw [op_52]
  have loop : ∀ (kz i : Nat), i + kz = 6 → Ex (d + 2) 52 4 [some (.ref b), some (.ref L), some (.int (orF i (fun p => if livesL l p then knowsV v (eatL l p) else 0))), some (.int (nI i))] [] (am_emb u) (fun w m => w = some (.int (knownToSomeV v l)) ∧ m = am_emb u) := by
    intro kz
    induction kz with
    | zero =>
      intro i h1
      obtain rfl : i = 6 := by omega
      rw [ex_52_4]
      simp (disch := first | exact am_nl_i _ | exact am_nl_r _ | exact am_nl_0 | assumption | omega | (refine vi_nI ?_ ?_ <;> omega) | exact b2i_01 _ | exact Or.inl rfl | exact Or.inr rfl | (unfold vi; decide)) only [ex_52_0, ex_52_1, ex_52_2, ex_52_3, ex_52_5, ex_52_7, ex_52_10, ex_52_11, ex_52_12, ex_52_15, ex_52_18, ex_52_19, ex_52_20, ex_52_21, ex_52_22, ex_52_25, ex_52_26, ex_52_27, ex_52_30, ex_52_33, ex_52_34, if_true, if_false, and_self, Option.toList_some, Option.toList_none, List.singleton_append, List.cons_append, List.nil_append, List.append_nil, nI_1, nt_e, Int32.le_refl, lq6, lives_ok hb hl, livesI_nI, known_ok hb hL hl hC hW]
      exact ⟨rfl, trivial⟩
    | succ kz ih =>
      intro i h1
      have hlt : i < 6 := by omega
      have hnle : ¬ 6 ≤ i := by omega
      have h2 := ih (i + 1) (by omega)
      rw [ex_52_4]
      simp (disch := first | exact am_nl_i _ | exact am_nl_r _ | exact am_nl_0 | assumption | omega | (refine vi_nI ?_ ?_ <;> omega) | exact b2i_01 _ | exact Or.inl rfl | exact Or.inr rfl | (unfold vi; decide)) only [ex_52_0, ex_52_1, ex_52_2, ex_52_3, ex_52_5, ex_52_7, ex_52_10, ex_52_11, ex_52_12, ex_52_15, ex_52_18, ex_52_19, ex_52_20, ex_52_21, ex_52_22, ex_52_25, ex_52_26, ex_52_27, ex_52_30, ex_52_33, ex_52_34, if_true, if_false, and_self, Option.toList_some, Option.toList_none, List.singleton_append, List.cons_append, List.nil_append, List.append_nil, nI_1, nt_e, Int32.le_refl, nI_leI, nI_ltI, hlt, hnle, bit_e, bi_e, nI_clamp, b2i_0, b2i_1, lq6, lives_ok hb hl, livesI_nI, known_ok hb hL hl hC hW]
      rw [orF] at h2; cases ha : livesL l i <;> simpa [ha, or_0] using h2
  simp (disch := first | exact am_nl_i _ | exact am_nl_r _ | exact am_nl_0 | assumption | omega | (refine vi_nI ?_ ?_ <;> omega) | exact b2i_01 _ | exact Or.inl rfl | exact Or.inr rfl | (unfold vi; decide)) only [ex_52_0, ex_52_1, ex_52_2, ex_52_3, ex_52_5, ex_52_7, ex_52_10, ex_52_11, ex_52_12, ex_52_15, ex_52_18, ex_52_19, ex_52_20, ex_52_21, ex_52_22, ex_52_25, ex_52_26, ex_52_27, ex_52_30, ex_52_33, ex_52_34, if_true, if_false, and_self, Option.toList_some, Option.toList_none, List.singleton_append, List.cons_append, List.nil_append, List.append_nil, nI_1, nt_e, Int32.le_refl]
  exact loop 6 0 (by omega)
theorem gone_ok (hb : sh b 4 6) (hL : sh L 3 19) (hl : LifeC u b l) (hC : LibC u L v) (hW : WF v) : Cl (d + 3) 53 [.ref b, .ref L] (am_emb u) post ↔ post (some (.int (goneV v l))) (am_emb u) := by
  rw [op_53]
  simp (disch := first | exact am_nl_i _ | exact am_nl_r _ | exact am_nl_0 | assumption | omega | (refine vi_nI ?_ ?_ <;> omega) | exact b2i_01 _ | exact Or.inl rfl | exact Or.inr rfl | (unfold vi; decide)) only [ex_53_0, ex_53_1, ex_53_4, ex_53_5, ex_53_6, ex_53_9, ex_53_10, ex_53_11, ex_53_12, ex_53_13, ex_53_14, ex_53_17, ex_53_18, ex_53_21, ex_53_22, ex_53_25, ex_53_26, ex_53_27, ex_53_28, if_true, if_false, and_self, Option.toList_some, Option.toList_none, List.singleton_append, List.cons_append, List.nil_append, List.append_nil, nI_1, nt_e, Int32.le_refl, allFacts_ok hL hC, knownToSome_ok hb hL hl hC hW, inStock_ok hb hl, hC.2.2.2.2.2.2.2.2.2.2.2.2.2.1, said_ok hL hC hW, know_e hW]
  exact Iff.rfl
end ClassLife
