/-! EVENINGS, of the class -/
def evP (a : Nat) : Prop := a = 191 ∨ a = 192
def sitM (u : am_U) (t p : Nat) : Bool := decide (t = 0) || anyF (p + 1) (fun g => subB g p && (bt (AI u 190 g) (lowN t) && !decide (AI u 191 (64 * othN t + D6 p g) = 0)))
def aliveN (l : LF) : Nat := ix (aliveL l)
def wantN (v : LV) (l : LF) : Nat := ix (tasksV v (togL v l (aliveN l)))
def apE (v : LV) (l : LF) (t : Nat) : Bool := sitP (ableG v l) t (aliveN l)
def evenS (v : LV) (l : LF) : Int32 := nI (eV 100 (apE v l) (wantN v l))
theorem alive_N {v : LV} {l : LF} (hW : WF v) (hw : WL v l) : aliveL l = nI (aliveN l) ∧ aliveN l < 2 ^ nE v := by
  obtain ⟨m, hm, he⟩ := alive_sub hw hW
  have := pow_64 hW.1.2.2.1
  unfold aliveN
  rw [he, ix_nI (by omega)]
  exact ⟨rfl, hm⟩
theorem tasks_b {v : LV} {s : Int32} (h5 : nT v ≤ 5) {i : Nat} (hi : nT v ≤ i) : bt (tasksV v s) i = false := by
  cases h : bt (tasksV v s) i
  · rfl
  · unfold tasksV at h
    obtain ⟨t, ht, h2⟩ := orF_bt.mp h
    split at h2
    · rw [bt_bi_f (by omega) (by omega)] at h2; cases h2
    · rw [b_0] at h2; cases h2
theorem want_N {v : LV} {l : LF} (hW : WF v) : tasksV v (togL v l (aliveN l)) = nI (wantN v l) ∧ wantN v l < 32 := by
  obtain ⟨n, hn, he⟩ := small_nI (x := tasksV v (togL v l (aliveN l))) (k := 5) (by omega) (fun j hj => tasks_b hW.1.2.2.2 (by have := hW.1.2.2.2; omega))
  unfold wantN
  rw [he, ix_nI (by omega)]
  exact ⟨rfl, hn⟩
theorem and63 : ∀ n, n < 64 → nI n &&& 63 = nI n := by decide +kernel
theorem and31 : ∀ n, n < 32 → nI n &&& 31 = nI n := by decide +kernel
theorem able_0g {v : LV} {l : LF} (hW : WF v) (i : Nat) (hi : i < 32) : bt (tasksV v (togL v l 0)) i = false := by
  have h5 := hW.1.2.2.2
  have e0 : togL v l 0 = 0 := by
    unfold togL
    have : ∀ n, orF n (fun i => if bt (nI 0) i then knowsV v (eatL l i) else 0) = 0 := fun n => by
      induction n with
      | zero => rfl
      | succ n ih =>
        rw [orF, ih, show bt (nI 0) n = false from b_0 n]
        simp only [Bool.false_eq_true, if_false, or_0]
    exact this 6
  have u0 : ∀ n, underF (leanV v) 0 n = 0 := fun n => by
    induction n with
    | zero => rfl
    | succ n ih => rw [underF, ih, b_0]; rfl
  rw [e0]
  rcases Nat.lt_or_ge i (nT v) with q | q
  · rw [tasks_bt hW i q]
    unfold canV underV
    rw [u0]
    refine decide_eq_false (fun h => ?_)
    have hn := (hW.2.2.2.2.2.1 i q).2.1
    apply hn
    rw [bt_eq0]
    intro j hj
    have := bt_eq0.mp h j hj
    rw [b_and, bt_nt _ hj, b_0] at this
    simpa using this
  · exact tasks_b h5 q
section EvenC
variable {d L L' : Nat} {u : am_U} {S : ST} {v : LV} {l : LF} {post : Option Value → am_M → Prop}
theorem canSit_ok {t p : Nat} (ht : t < 32) (hp : p < 64) : Cl (d + 1) 8 [.ref 189, .int (nI t), .int (nI p)] (am_emb u) post ↔ post (some (.int (b2i (sitM u t p)))) (am_emb u) := by
  refine Cl_iff ?_ post
  rw [op_8]
  by_cases h0 : t = 0
  · unfold sitM
    rw [decide_eq_true h0]
    simp (disch := first | exact am_nl_i _ | exact am_nl_r _ | exact am_nl_0 | (refine vi_nI ?_ ?_ <;> omega) | assumption | omega | exact b2i_01 _ | exact Or.inl rfl | exact Or.inr rfl | (unfold vi; decide)) only [ex_8_0, ex_8_1, ex_8_4, ex_8_5, ex_8_7, ex_8_8, ex_8_9, ex_8_10, ex_8_11, ex_8_12, ex_8_15, ex_8_16, ex_8_17, ex_8_18, ex_8_19, ex_8_20, ex_8_21, ex_8_23, ex_8_24, ex_8_28, ex_8_29, ex_8_32, ex_8_34, ex_8_35, ex_8_36, ex_8_37, ex_8_38, ex_8_41, ex_8_42, ex_8_45, ex_8_47, ex_8_48, ex_8_49, ex_8_50, ex_8_51, ex_8_52, ex_8_55, ex_8_56, ex_8_59, ex_8_61, ex_8_63, ex_8_64, ex_8_65, ex_8_67, ex_8_68, ex_8_69, ex_8_70, ex_8_71, ex_8_72, ex_8_75, ex_8_76, ex_8_77, ex_8_80, ex_8_83, ex_8_84, if_true, if_false, and_self, Option.toList_some, Option.toList_none, List.singleton_append, List.cons_append, List.nil_append, List.append_nil, nI_1, nt_e, Int32.le_refl, i_eq0, h0, Bool.true_eq_false, Bool.false_eq_true, ↓reduceIte]
    exact ⟨rfl, trivial⟩
  obtain ⟨e1, e2, e3, e4, -, -, -, -⟩ := low_dec t ht h0
  have loop : ∀ (kz g : Nat), g + kz = p + 1 → anyF g (fun g => subB g p && (bt (AI u 190 g) (lowN t) && !decide (AI u 191 (64 * othN t + D6 p g) = 0))) = false → Ex (d + 1) 8 26 [some (.ref 189), some (.int (nI t)), some (.int (nI p)), some (.int (nI (lowN t))), some (.int (nI (othN t))), some (.int (nI g))] [] (am_emb u) (fun w m => w = some (.int (b2i (sitM u t p))) ∧ m = am_emb u) := by
    intro kz
    induction kz with
    | zero =>
      intro g hg hf
      obtain rfl : g = p + 1 := by omega
      have hs : sitM u t p = false := by
        unfold sitM
        rw [decide_eq_false h0, hf]
        rfl
      rw [ex_8_26, hs]
      simp (disch := first | exact am_nl_i _ | exact am_nl_r _ | exact am_nl_0 | (refine vi_nI ?_ ?_ <;> omega) | assumption | omega | exact b2i_01 _ | exact Or.inl rfl | exact Or.inr rfl | (unfold vi; decide)) only [ex_8_0, ex_8_1, ex_8_4, ex_8_5, ex_8_6, ex_8_7, ex_8_8, ex_8_9, ex_8_10, ex_8_11, ex_8_12, ex_8_15, ex_8_16, ex_8_17, ex_8_18, ex_8_19, ex_8_20, ex_8_21, ex_8_23, ex_8_24, ex_8_28, ex_8_29, ex_8_34, ex_8_35, ex_8_36, ex_8_37, ex_8_38, ex_8_41, ex_8_42, ex_8_45, ex_8_47, ex_8_48, ex_8_49, ex_8_50, ex_8_51, ex_8_52, ex_8_55, ex_8_56, ex_8_59, ex_8_61, ex_8_63, ex_8_64, ex_8_65, ex_8_67, ex_8_68, ex_8_69, ex_8_70, ex_8_71, ex_8_72, ex_8_75, ex_8_76, ex_8_77, ex_8_80, ex_8_83, ex_8_84, if_true, if_false, and_self, Option.toList_some, Option.toList_none, List.singleton_append, List.cons_append, List.nil_append, List.append_nil, nI_1, nt_e, Int32.le_refl, nI_ltI, Nat.lt_succ_self, Bool.true_eq_false, Bool.false_eq_true, ↓reduceIte]
      (try (first | exact ⟨rfl, rfl⟩ | exact ⟨rfl, trivial⟩))
    | succ kz ih =>
      intro g hg hf
      have hnlt : ¬ p < g := by omega
      obtain ⟨d1, d2⟩ := D6_e (k := 6) (by omega) hp g
      have ih := ih (g + 1) (by omega)
      rw [anyF, hf, Bool.false_or] at ih
      have hit : ∀ z, z = (subB g p && (bt (AI u 190 g) (lowN t) && !decide (AI u 191 (64 * othN t + D6 p g) = 0))) → z = true → sitM u t p = true := fun z hz z1 => by
        unfold sitM
        rw [decide_eq_false h0, Bool.false_or]
        exact anyF_t (show g < p + 1 by omega) (by rw [← hz, z1])
      rw [ex_8_26]
      by_cases q1 : nI g &&& nt (nI p) = 0
      · have s1 : subB g p = true := decide_eq_true q1
        cases q2 : bt (AI u 190 g) (lowN t)
        · simp (disch := first | exact am_nl_i _ | exact am_nl_r _ | exact am_nl_0 | (refine vi_nI ?_ ?_ <;> omega) | assumption | omega | exact b2i_01 _ | exact Or.inl rfl | exact Or.inr rfl | (unfold vi; decide)) only [ex_8_0, ex_8_1, ex_8_4, ex_8_5, ex_8_6, ex_8_7, ex_8_8, ex_8_9, ex_8_10, ex_8_11, ex_8_12, ex_8_15, ex_8_16, ex_8_17, ex_8_18, ex_8_19, ex_8_20, ex_8_21, ex_8_23, ex_8_24, ex_8_28, ex_8_29, ex_8_32, ex_8_34, ex_8_35, ex_8_36, ex_8_37, ex_8_38, ex_8_41, ex_8_42, ex_8_45, ex_8_47, ex_8_48, ex_8_49, ex_8_50, ex_8_51, ex_8_52, ex_8_55, ex_8_56, ex_8_59, ex_8_61, ex_8_63, ex_8_64, ex_8_65, ex_8_67, ex_8_68, ex_8_69, ex_8_70, ex_8_71, ex_8_72, ex_8_75, ex_8_76, ex_8_77, ex_8_80, ex_8_84, if_true, if_false, and_self, Option.toList_some, Option.toList_none, List.singleton_append, List.cons_append, List.nil_append, List.append_nil, nI_1, nt_e, Int32.le_refl, nI_ltI, hnlt, q1, nI_clamp, bit_e, q2, b2i_0, Bool.true_eq_false, Bool.false_eq_true, ↓reduceIte]
          exact ih (by rw [q2]; simp)
        · by_cases q3 : AI u 191 (64 * othN t + D6 p g) = 0
          · simp (disch := first | exact am_nl_i _ | exact am_nl_r _ | exact am_nl_0 | (refine vi_nI ?_ ?_ <;> omega) | assumption | omega | exact b2i_01 _ | exact Or.inl rfl | exact Or.inr rfl | (unfold vi; decide)) only [ex_8_0, ex_8_1, ex_8_4, ex_8_5, ex_8_6, ex_8_7, ex_8_8, ex_8_9, ex_8_10, ex_8_11, ex_8_12, ex_8_15, ex_8_16, ex_8_17, ex_8_18, ex_8_19, ex_8_20, ex_8_21, ex_8_23, ex_8_24, ex_8_28, ex_8_29, ex_8_32, ex_8_34, ex_8_35, ex_8_36, ex_8_37, ex_8_38, ex_8_41, ex_8_42, ex_8_45, ex_8_47, ex_8_48, ex_8_49, ex_8_50, ex_8_51, ex_8_52, ex_8_55, ex_8_56, ex_8_59, ex_8_61, ex_8_63, ex_8_64, ex_8_65, ex_8_67, ex_8_68, ex_8_69, ex_8_70, ex_8_71, ex_8_72, ex_8_75, ex_8_76, ex_8_77, ex_8_80, ex_8_84, if_true, if_false, and_self, Option.toList_some, Option.toList_none, List.singleton_append, List.cons_append, List.nil_append, List.append_nil, nI_1, nt_e, Int32.le_refl, nI_ltI, hnlt, q1, nI_clamp, bit_e, q2, b2i_0, lq64, mul_nI, Nat.mul_comm (othN t), d1, nI_add, q3, Bool.true_eq_false, Bool.false_eq_true, ↓reduceIte]
            exact ih (by rw [q3]; simp)
          · simp (disch := first | exact am_nl_i _ | exact am_nl_r _ | exact am_nl_0 | (refine vi_nI ?_ ?_ <;> omega) | assumption | omega | exact b2i_01 _ | exact Or.inl rfl | exact Or.inr rfl | (unfold vi; decide)) only [ex_8_0, ex_8_1, ex_8_4, ex_8_5, ex_8_6, ex_8_7, ex_8_8, ex_8_9, ex_8_10, ex_8_11, ex_8_12, ex_8_15, ex_8_16, ex_8_17, ex_8_18, ex_8_19, ex_8_20, ex_8_21, ex_8_23, ex_8_24, ex_8_28, ex_8_29, ex_8_32, ex_8_34, ex_8_35, ex_8_36, ex_8_37, ex_8_38, ex_8_41, ex_8_42, ex_8_45, ex_8_47, ex_8_48, ex_8_49, ex_8_50, ex_8_51, ex_8_52, ex_8_55, ex_8_56, ex_8_59, ex_8_61, ex_8_63, ex_8_64, ex_8_65, ex_8_67, ex_8_68, ex_8_69, ex_8_70, ex_8_71, ex_8_72, ex_8_75, ex_8_76, ex_8_77, ex_8_80, ex_8_84, if_true, if_false, and_self, Option.toList_some, Option.toList_none, List.singleton_append, List.cons_append, List.nil_append, List.append_nil, nI_1, nt_e, Int32.le_refl, nI_ltI, hnlt, q1, nI_clamp, bit_e, q2, b2i_0, lq64, mul_nI, Nat.mul_comm (othN t), d1, nI_add, q3, Bool.true_eq_false, Bool.false_eq_true, ↓reduceIte]
            rw [hit _ rfl (by rw [s1, q2, decide_eq_false q3]; rfl)]
            (try (first | exact ⟨rfl, rfl⟩ | exact ⟨rfl, trivial⟩))
      · have s1 : subB g p = false := decide_eq_false q1
        simp (disch := first | exact am_nl_i _ | exact am_nl_r _ | exact am_nl_0 | (refine vi_nI ?_ ?_ <;> omega) | assumption | omega | exact b2i_01 _ | exact Or.inl rfl | exact Or.inr rfl | (unfold vi; decide)) only [ex_8_0, ex_8_1, ex_8_4, ex_8_5, ex_8_6, ex_8_7, ex_8_8, ex_8_9, ex_8_10, ex_8_11, ex_8_12, ex_8_15, ex_8_16, ex_8_17, ex_8_18, ex_8_19, ex_8_20, ex_8_21, ex_8_23, ex_8_24, ex_8_28, ex_8_29, ex_8_32, ex_8_34, ex_8_35, ex_8_36, ex_8_37, ex_8_38, ex_8_41, ex_8_42, ex_8_45, ex_8_47, ex_8_48, ex_8_49, ex_8_50, ex_8_51, ex_8_52, ex_8_55, ex_8_56, ex_8_59, ex_8_61, ex_8_63, ex_8_64, ex_8_65, ex_8_67, ex_8_68, ex_8_69, ex_8_70, ex_8_71, ex_8_72, ex_8_75, ex_8_76, ex_8_77, ex_8_80, ex_8_84, if_true, if_false, and_self, Option.toList_some, Option.toList_none, List.singleton_append, List.cons_append, List.nil_append, List.append_nil, nI_1, nt_e, Int32.le_refl, nI_ltI, hnlt, q1, Bool.true_eq_false, Bool.false_eq_true, ↓reduceIte]
        exact ih (by rw [s1]; rfl)
  simp (disch := first | exact am_nl_i _ | exact am_nl_r _ | exact am_nl_0 | (refine vi_nI ?_ ?_ <;> omega) | assumption | omega | exact b2i_01 _ | exact Or.inl rfl | exact Or.inr rfl | (unfold vi; decide)) only [ex_8_0, ex_8_1, ex_8_4, ex_8_5, ex_8_6, ex_8_7, ex_8_8, ex_8_9, ex_8_10, ex_8_11, ex_8_12, ex_8_15, ex_8_16, ex_8_17, ex_8_18, ex_8_19, ex_8_20, ex_8_21, ex_8_23, ex_8_24, ex_8_28, ex_8_29, ex_8_32, ex_8_34, ex_8_35, ex_8_36, ex_8_37, ex_8_38, ex_8_41, ex_8_42, ex_8_45, ex_8_47, ex_8_48, ex_8_49, ex_8_50, ex_8_51, ex_8_52, ex_8_55, ex_8_56, ex_8_59, ex_8_61, ex_8_63, ex_8_64, ex_8_65, ex_8_67, ex_8_68, ex_8_69, ex_8_70, ex_8_71, ex_8_72, ex_8_75, ex_8_76, ex_8_77, ex_8_80, ex_8_83, ex_8_84, if_true, if_false, and_self, Option.toList_some, Option.toList_none, List.singleton_append, List.cons_append, List.nil_append, List.append_nil, nI_1, nt_e, Int32.le_refl, i_eq0, h0, bc_ok, e1, e3, Bool.true_eq_false, Bool.false_eq_true, ↓reduceIte]
  exact loop (p + 1) 0 (by omega) rfl
theorem evenFor_ok {t E : Nat} {ap : Nat → Bool} {tab : Nat → Nat} (ht : t < 32) (hE : E < 64) (hap : ∀ k, 1 ≤ k → k ≤ t → AI u 191 (64 * k + E) = b2i (ap k)) (htab : ∀ k, 1 ≤ k → k ≤ t → subB k t = true → AI u 192 (D6 t k) = nI (tab (D6 t k)) ∧ tab (D6 t k) ≤ 100) : Cl (d + 1) 9 [.ref 189, .int (nI t), .int (nI E)] (am_emb u) post ↔ post (some (.int (nI (minP (if t = 0 then 0 else 99) (fun k => subB k t && ap k) (fun k => tab (D6 t k) + 1) t)))) (am_emb u) := by
  refine Cl_iff ?_ post
  rw [op_9]
  have ml : ∀ n, minP (if t = 0 then 0 else 99) (fun k => subB k t && ap k) (fun k => tab (D6 t k) + 1) n ≤ 99 := fun n => by
    refine Nat.le_trans (minP_le).1 ?_
    split <;> omega
  have loop : ∀ (kz k : Nat), k + kz = t → Ex (d + 1) 9 14 [some (.ref 189), some (.int (nI t)), some (.int (nI E)), some (.int (nI (minP (if t = 0 then 0 else 99) (fun k => subB k t && ap k) (fun k => tab (D6 t k) + 1) k))), some (.int (nI (k + 1)))] [] (am_emb u) (fun w m => w = some (.int (nI (minP (if t = 0 then 0 else 99) (fun k => subB k t && ap k) (fun k => tab (D6 t k) + 1) t))) ∧ m = am_emb u) := by
    intro kz
    induction kz with
    | zero =>
      intro k hk
      obtain rfl : k = t := by omega
      rw [ex_9_14]
      simp (disch := first | exact am_nl_i _ | exact am_nl_r _ | exact am_nl_0 | (refine vi_nI ?_ ?_ <;> omega) | assumption | omega | exact b2i_01 _ | exact Or.inl rfl | exact Or.inr rfl | (unfold vi; decide)) only [ex_9_0, ex_9_1, ex_9_4, ex_9_5, ex_9_8, ex_9_10, ex_9_11, ex_9_12, ex_9_16, ex_9_17, ex_9_22, ex_9_23, ex_9_24, ex_9_25, ex_9_26, ex_9_29, ex_9_30, ex_9_33, ex_9_35, ex_9_37, ex_9_38, ex_9_39, ex_9_40, ex_9_41, ex_9_44, ex_9_45, ex_9_46, ex_9_49, ex_9_50, ex_9_52, ex_9_53, ex_9_54, ex_9_55, ex_9_56, ex_9_57, ex_9_58, ex_9_61, ex_9_62, ex_9_65, ex_9_68, ex_9_69, if_true, if_false, and_self, Option.toList_some, Option.toList_none, List.singleton_append, List.cons_append, List.nil_append, List.append_nil, nI_1, nt_e, Int32.le_refl, nI_ltI, Nat.lt_succ_self, Bool.true_eq_false, Bool.false_eq_true, ↓reduceIte]
      (try (first | exact ⟨rfl, rfl⟩ | exact ⟨rfl, trivial⟩))
    | succ kz ih =>
      intro k hk
      have ih := ih (k + 1) (by omega)
      have hnlt : ¬ t < k + 1 := by omega
      obtain ⟨d1, d2⟩ := D6_e (k := 5) (by omega) ht (k + 1)
      have ha := hap (k + 1) (by omega) (by omega)
      have hm := ml k
      rw [minP] at ih
      generalize minP (if t = 0 then 0 else 99) (fun k => subB k t && ap k) (fun k => tab (D6 t k) + 1) k = x at *
      rw [ex_9_14]
      by_cases q1 : nI (k + 1) &&& nt (nI t) = 0
      · have s1 : subB (k + 1) t = true := decide_eq_true q1
        cases q2 : ap (k + 1)
        · rw [q2] at ha
          simp only [q2, Bool.and_false, Bool.false_eq_true, if_false] at ih
          simp (disch := first | exact am_nl_i _ | exact am_nl_r _ | exact am_nl_0 | (refine vi_nI ?_ ?_ <;> omega) | assumption | omega | exact b2i_01 _ | exact Or.inl rfl | exact Or.inr rfl | (unfold vi; decide)) only [ex_9_0, ex_9_1, ex_9_4, ex_9_5, ex_9_8, ex_9_10, ex_9_11, ex_9_12, ex_9_16, ex_9_17, ex_9_20, ex_9_22, ex_9_23, ex_9_24, ex_9_25, ex_9_26, ex_9_29, ex_9_30, ex_9_33, ex_9_35, ex_9_37, ex_9_38, ex_9_39, ex_9_40, ex_9_41, ex_9_44, ex_9_45, ex_9_46, ex_9_49, ex_9_50, ex_9_52, ex_9_53, ex_9_54, ex_9_55, ex_9_56, ex_9_57, ex_9_58, ex_9_61, ex_9_62, ex_9_65, ex_9_69, if_true, if_false, and_self, Option.toList_some, Option.toList_none, List.singleton_append, List.cons_append, List.nil_append, List.append_nil, nI_1, nt_e, Int32.le_refl, nI_ltI, hnlt, q1, lq64, mul_nI, Nat.mul_comm (k + 1), nI_add, nI_clamp, ha, b2i_0, Bool.true_eq_false, Bool.false_eq_true, ↓reduceIte]
          exact ih
        · rw [q2] at ha
          obtain ⟨t1, t2⟩ := htab (k + 1) (by omega) (by omega) s1
          simp only [q2, s1, Bool.and_self, if_true] at ih
          have hmin : (if nI (tab (D6 t (k + 1)) + 1) < nI x then nI (tab (D6 t (k + 1)) + 1) else nI x) = nI (min x (tab (D6 t (k + 1)) + 1)) := by
            by_cases z : tab (D6 t (k + 1)) + 1 < x
            · rw [if_pos ((nI_ltI (by omega) (by omega)).mpr z), Nat.min_eq_right (by omega)]
            · rw [if_neg (fun w => z ((nI_ltI (by omega) (by omega)).mp w)), Nat.min_eq_left (by omega)]
          simp (disch := first | exact am_nl_i _ | exact am_nl_r _ | exact am_nl_0 | (refine vi_nI ?_ ?_ <;> omega) | assumption | omega | exact b2i_01 _ | exact Or.inl rfl | exact Or.inr rfl | (unfold vi; decide)) only [ex_9_0, ex_9_1, ex_9_4, ex_9_5, ex_9_8, ex_9_10, ex_9_11, ex_9_12, ex_9_16, ex_9_17, ex_9_20, ex_9_22, ex_9_23, ex_9_24, ex_9_25, ex_9_26, ex_9_29, ex_9_30, ex_9_33, ex_9_35, ex_9_37, ex_9_38, ex_9_39, ex_9_40, ex_9_41, ex_9_44, ex_9_45, ex_9_46, ex_9_49, ex_9_50, ex_9_52, ex_9_53, ex_9_54, ex_9_55, ex_9_56, ex_9_57, ex_9_58, ex_9_61, ex_9_62, ex_9_65, ex_9_69, if_true, if_false, and_self, Option.toList_some, Option.toList_none, List.singleton_append, List.cons_append, List.nil_append, List.append_nil, nI_1, nt_e, Int32.le_refl, nI_ltI, hnlt, q1, lq64, mul_nI, Nat.mul_comm (k + 1), nI_add, nI_clamp, ha, b2i_0, d1, t1, min_ok, Bool.true_eq_false, Bool.false_eq_true, ↓reduceIte]
          have hz : (if tab (D6 t (k + 1)) + 1 < x then nI (tab (D6 t (k + 1)) + 1) else nI x) = nI (min x (tab (D6 t (k + 1)) + 1)) := by
            rw [← hmin]
            by_cases z : tab (D6 t (k + 1)) + 1 < x
            · rw [if_pos z, if_pos ((nI_ltI (by omega) (by omega)).mpr z)]
            · rw [if_neg z, if_neg (fun w => z ((nI_ltI (by omega) (by omega)).mp w))]
          first | rw [hz] | rw [hmin]
          exact ih
      · have s1 : subB (k + 1) t = false := decide_eq_false q1
        simp only [s1, Bool.false_and, Bool.false_eq_true, if_false] at ih
        simp (disch := first | exact am_nl_i _ | exact am_nl_r _ | exact am_nl_0 | (refine vi_nI ?_ ?_ <;> omega) | assumption | omega | exact b2i_01 _ | exact Or.inl rfl | exact Or.inr rfl | (unfold vi; decide)) only [ex_9_0, ex_9_1, ex_9_4, ex_9_5, ex_9_8, ex_9_10, ex_9_11, ex_9_12, ex_9_16, ex_9_17, ex_9_20, ex_9_22, ex_9_23, ex_9_24, ex_9_25, ex_9_26, ex_9_29, ex_9_30, ex_9_33, ex_9_35, ex_9_37, ex_9_38, ex_9_39, ex_9_40, ex_9_41, ex_9_44, ex_9_45, ex_9_46, ex_9_49, ex_9_50, ex_9_52, ex_9_53, ex_9_54, ex_9_55, ex_9_56, ex_9_57, ex_9_58, ex_9_61, ex_9_62, ex_9_65, ex_9_69, if_true, if_false, and_self, Option.toList_some, Option.toList_none, List.singleton_append, List.cons_append, List.nil_append, List.append_nil, nI_1, nt_e, Int32.le_refl, nI_ltI, hnlt, q1, Bool.true_eq_false, Bool.false_eq_true, ↓reduceIte]
        exact ih
  by_cases h0 : t = 0
  · have := loop t 0 (by omega)
    rw [minP, if_pos h0] at this
    rw [if_pos h0]
    simp (disch := first | exact am_nl_i _ | exact am_nl_r _ | exact am_nl_0 | (refine vi_nI ?_ ?_ <;> omega) | assumption | omega | exact b2i_01 _ | exact Or.inl rfl | exact Or.inr rfl | (unfold vi; decide)) only [ex_9_0, ex_9_1, ex_9_4, ex_9_5, ex_9_8, ex_9_10, ex_9_11, ex_9_12, ex_9_16, ex_9_17, ex_9_20, ex_9_22, ex_9_23, ex_9_24, ex_9_25, ex_9_26, ex_9_29, ex_9_30, ex_9_33, ex_9_35, ex_9_37, ex_9_38, ex_9_39, ex_9_40, ex_9_41, ex_9_44, ex_9_45, ex_9_46, ex_9_49, ex_9_50, ex_9_52, ex_9_53, ex_9_54, ex_9_55, ex_9_56, ex_9_57, ex_9_58, ex_9_61, ex_9_62, ex_9_65, ex_9_68, ex_9_69, if_true, if_false, and_self, Option.toList_some, Option.toList_none, List.singleton_append, List.cons_append, List.nil_append, List.append_nil, nI_1, nt_e, Int32.le_refl, i_eq0, h0, Bool.true_eq_false, Bool.false_eq_true, ↓reduceIte]
    rw [h0] at this
    exact this
  · have := loop t 0 (by omega)
    rw [minP, if_neg h0] at this
    rw [if_neg h0]
    simp (disch := first | exact am_nl_i _ | exact am_nl_r _ | exact am_nl_0 | (refine vi_nI ?_ ?_ <;> omega) | assumption | omega | exact b2i_01 _ | exact Or.inl rfl | exact Or.inr rfl | (unfold vi; decide)) only [ex_9_0, ex_9_1, ex_9_4, ex_9_5, ex_9_8, ex_9_10, ex_9_11, ex_9_12, ex_9_16, ex_9_17, ex_9_20, ex_9_22, ex_9_23, ex_9_24, ex_9_25, ex_9_26, ex_9_29, ex_9_30, ex_9_33, ex_9_35, ex_9_37, ex_9_38, ex_9_39, ex_9_40, ex_9_41, ex_9_44, ex_9_45, ex_9_46, ex_9_49, ex_9_50, ex_9_52, ex_9_53, ex_9_54, ex_9_55, ex_9_56, ex_9_57, ex_9_58, ex_9_61, ex_9_62, ex_9_65, ex_9_68, ex_9_69, if_true, if_false, and_self, Option.toList_some, Option.toList_none, List.singleton_append, List.cons_append, List.nil_append, List.append_nil, nI_1, nt_e, Int32.le_refl, i_eq0, h0, Bool.true_eq_false, Bool.false_eq_true, ↓reduceIte]
    exact this
end EvenC
