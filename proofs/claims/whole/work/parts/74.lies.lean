/-! LIES -/
def inF : Int32 → Nat → (Nat → Bool) → Int32
  | a, 0, _ => a
  | a, n + 1, f => if f n then inF a n f &&& nI n else inF a n f
def ofFew (v : LV) (m : Nat) (w : Int32) (k : Nat) : Bool := decide (bitsV (nI k) = w) && okUn v (nI m) k
def liesM (v : LV) : Nat := 2 ^ nP v - 1
def liesB (v : LV) : Nat := bestG (okUn v (nI (liesM v))) few (liesM v) (liesM v + 1)
def liesK4 (v : LV) : Nat → Int32
  | 0 => bitsV (nI (liesB v))
  | 1 => nI (liesB v)
  | 2 => nI (cntF (liesM v + 1) (ofFew v (liesM v) (bitsV (nI (liesB v)))))
  | _ => inF (nI (liesM v)) (liesM v + 1) (ofFew v (liesM v) (bitsV (nI (liesB v))))
def liesS (v : LV) (x : Int32) : Int32 := if okI x 4 then liesK4 v (ix x) else -1
theorem bestG_lt {ok : Nat → Bool} {lt : Nat → Nat → Bool} {m : Nat} : ∀ k, k ≤ m + 1 → bestG ok lt m k ≤ m
  | 0, _ => Nat.le_refl m
  | k + 1, h => by
    have := bestG_lt (ok := ok) (lt := lt) (m := m) k (by omega)
    rw [bestG]
    split <;> omega
theorem bestF_min {ok : Nat → Bool} : ∀ {n : Nat}, (bestF ok few n = none → ∀ j, j < n → ok j = false) ∧ (∀ b, bestF ok few n = some b → ∀ j, j < n → ok j = true → few j b = false)
  | 0 => ⟨fun _ j hj => absurd hj (Nat.not_lt_zero j), fun b hb => by cases hb⟩
  | n + 1 => by
    obtain ⟨h1, h2⟩ := bestF_min (ok := ok) (n := n)
    rw [bestF]
    cases hb : bestF ok few n with
    | none =>
      have h1 := h1 hb
      rw [Option.all_none, Bool.and_true]
      cases ho : ok n
      · refine ⟨fun _ j hj => ?_, fun b hb2 => ?_⟩
        · by_cases e : j = n
          · rw [e]; exact ho
          · exact h1 j (by omega)
        · simp at hb2
      · refine ⟨fun q => ?_, fun b hb2 j hj hok => ?_⟩
        · simp at q
        · simp only [if_true, Option.some.injEq] at hb2
          by_cases e : j = n
          · rw [← hb2, e]; exact few_0 n
          · rw [h1 j (by omega)] at hok
            cases hok
    | some b0 =>
      have h2 := h2 b0 hb
      rw [Option.all_some]
      cases hq : ok n && few n b0
      · refine ⟨fun q => ?_, fun b hb2 j hj hok => ?_⟩
        · simp at q
        · simp only [Bool.false_eq_true, if_false, Option.some.injEq] at hb2
          rw [← hb2]
          by_cases e : j = n
          · rw [e] at hok ⊢
            rw [hok, Bool.true_and] at hq
            exact hq
          · exact h2 j (by omega) hok
      · refine ⟨fun q => ?_, fun b hb2 j hj hok => ?_⟩
        · simp at q
        · simp only [if_true, Option.some.injEq] at hb2
          rw [← hb2]
          by_cases e : j = n
          · rw [e]; exact few_0 n
          · have h3 := h2 j (by omega) hok
            rw [Bool.and_eq_true] at hq
            have h4 := hq.2
            rw [few_e, decide_eq_false_iff_not] at h3
            rw [few_e, decide_eq_true_eq] at h4
            rw [few_e]
            exact decide_eq_false (by omega)
theorem cntF_0 {f : Nat → Bool} : ∀ {n : Nat}, (∀ j, j < n → f j = false) → cntF n f = 0
  | 0, _ => rfl
  | n + 1, h => by
    rw [cntF, cntF_0 (fun j hj => h j (by omega)), h n (by omega)]
    rfl
theorem inF_0 {a : Int32} {f : Nat → Bool} : ∀ {n : Nat}, (∀ j, j < n → f j = false) → inF a n f = a
  | 0, _ => rfl
  | n + 1, h => by
    rw [inF, inF_0 (fun j hj => h j (by omega)), h n (by omega)]
    rfl
theorem sub_all {v : LV} {k : Nat} (h12 : nP v ≤ 12) (hk : k < 2 ^ nP v) : nI k &&& nt (nI (liesM v)) = 0 := by
  rw [sub_iff]
  intro i hi hb
  unfold liesM
  rw [← allF_nI h12, bim_bt _ (by omega) i hi]
  rcases Nat.lt_or_ge i (nP v) with g | g
  · exact decide_eq_true g
  · rw [bt_big hk g] at hb
    cases hb
section Lies
variable {d L L' m : Nat} {u : am_U} {S : ST} {v : LV} {post : Option Value → am_M → Prop}
theorem ways_ok {w : Int32} (hm : m < 4096) (hr : FR u 0 2 = some L) (hL : sh L 3 19) (hC : LibC u L v) (hW : WF v) : Cl (d + 2) 155 [.ref 0, .int (nI m), .int w] (am_emb u) post ↔ post (some (.int (nI (cntF (m + 1) (ofFew v m w))))) (am_emb u) := by
  refine Cl_iff ?_ post
  rw [op_155]
  have loop : ∀ (kz k : Nat), k + kz = m + 1 → Ex (d + 2) 155 5 [some (.ref 0), some (.int (nI m)), some (.int w), some (.int (nI (cntF k (ofFew v m w)))), some (.int (nI k))] [] (am_emb u) (fun z n => z = some (.int (nI (cntF (m + 1) (ofFew v m w)))) ∧ n = am_emb u) := by
    intro kz
    induction kz with
    | zero =>
      intro k hk
      obtain rfl : k = m + 1 := by omega
      rw [ex_155_5]
      simp (disch := first | exact am_nl_i _ | exact am_nl_r _ | exact am_nl_0 | (refine vi_nI ?_ ?_ <;> omega) | assumption | omega | exact b2i_01 _ | exact Or.inl rfl | exact Or.inr rfl | (unfold vi; decide)) only [ex_155_0, ex_155_1, ex_155_2, ex_155_3, ex_155_7, ex_155_8, ex_155_13, ex_155_16, ex_155_17, ex_155_20, ex_155_21, ex_155_22, ex_155_24, ex_155_27, ex_155_30, ex_155_33, ex_155_36, ex_155_39, ex_155_40, if_true, if_false, and_self, Option.toList_some, Option.toList_none, List.singleton_append, List.cons_append, List.nil_append, List.append_nil, nI_1, nt_e, Int32.le_refl, nI_ltI, Nat.lt_succ_self, Bool.true_eq_false, Bool.false_eq_true, ↓reduceIte]
      (try (first | exact ⟨rfl, rfl⟩ | exact ⟨rfl, trivial⟩))
    | succ kz ih =>
      intro k hk
      have ih := ih (k + 1) (by omega)
      have hnlt : ¬ m < k := by omega
      have hk8 : k < 8192 := by omega
      rw [cntF, ofFew] at ih
      rw [ex_155_5]
      by_cases q1 : bitsV (nI k) = w
      · rw [decide_eq_true q1, Bool.true_and] at ih
        cases q2 : okUn v (nI m) k
        · rw [q2] at ih
          simp (disch := first | exact am_nl_i _ | exact am_nl_r _ | exact am_nl_0 | (refine vi_nI ?_ ?_ <;> omega) | assumption | omega | exact b2i_01 _ | exact Or.inl rfl | exact Or.inr rfl | (unfold vi; decide)) only [ex_155_0, ex_155_1, ex_155_2, ex_155_3, ex_155_7, ex_155_8, ex_155_11, ex_155_13, ex_155_16, ex_155_17, ex_155_20, ex_155_21, ex_155_22, ex_155_24, ex_155_27, ex_155_30, ex_155_33, ex_155_36, ex_155_40, if_true, if_false, and_self, Option.toList_some, Option.toList_none, List.singleton_append, List.cons_append, List.nil_append, List.append_nil, nI_1, nt_e, Int32.le_refl, nI_ltI, hnlt, bc_ok, bcN hk8, q1, endsClash_ok hr hL hC hW, q2, b2i_0, Bool.true_eq_false, Bool.false_eq_true, ↓reduceIte]
          exact ih
        · rw [q2] at ih
          simp (disch := first | exact am_nl_i _ | exact am_nl_r _ | exact am_nl_0 | (refine vi_nI ?_ ?_ <;> omega) | assumption | omega | exact b2i_01 _ | exact Or.inl rfl | exact Or.inr rfl | (unfold vi; decide)) only [ex_155_0, ex_155_1, ex_155_2, ex_155_3, ex_155_7, ex_155_8, ex_155_11, ex_155_13, ex_155_16, ex_155_17, ex_155_20, ex_155_21, ex_155_22, ex_155_24, ex_155_27, ex_155_30, ex_155_33, ex_155_36, ex_155_40, if_true, if_false, and_self, Option.toList_some, Option.toList_none, List.singleton_append, List.cons_append, List.nil_append, List.append_nil, nI_1, nt_e, Int32.le_refl, nI_ltI, hnlt, bc_ok, bcN hk8, q1, endsClash_ok hr hL hC hW, q2, b2i_0, Bool.true_eq_false, Bool.false_eq_true, ↓reduceIte]
          exact ih
      · rw [decide_eq_false q1, Bool.false_and] at ih
        simp (disch := first | exact am_nl_i _ | exact am_nl_r _ | exact am_nl_0 | (refine vi_nI ?_ ?_ <;> omega) | assumption | omega | exact b2i_01 _ | exact Or.inl rfl | exact Or.inr rfl | (unfold vi; decide)) only [ex_155_0, ex_155_1, ex_155_2, ex_155_3, ex_155_7, ex_155_8, ex_155_11, ex_155_13, ex_155_16, ex_155_17, ex_155_20, ex_155_21, ex_155_22, ex_155_24, ex_155_27, ex_155_30, ex_155_33, ex_155_36, ex_155_40, if_true, if_false, and_self, Option.toList_some, Option.toList_none, List.singleton_append, List.cons_append, List.nil_append, List.append_nil, nI_1, nt_e, Int32.le_refl, nI_ltI, hnlt, bc_ok, bcN hk8, q1, Bool.true_eq_false, Bool.false_eq_true, ↓reduceIte]
        exact ih
  simp (disch := first | exact am_nl_i _ | exact am_nl_r _ | exact am_nl_0 | assumption | omega | (refine vi_nI ?_ ?_ <;> omega) | exact b2i_01 _ | exact Or.inl rfl | exact Or.inr rfl | (unfold vi; decide)) only [ex_155_0, ex_155_1, ex_155_2, ex_155_3, ex_155_7, ex_155_8, ex_155_11, ex_155_13, ex_155_16, ex_155_17, ex_155_20, ex_155_21, ex_155_22, ex_155_24, ex_155_27, ex_155_30, ex_155_33, ex_155_36, ex_155_39, ex_155_40, if_true, if_false, and_self, Option.toList_some, Option.toList_none, List.singleton_append, List.cons_append, List.nil_append, List.append_nil, nI_1, nt_e, Int32.le_refl]
  exact loop (m + 1) 0 (by omega)
theorem inAll_ok {w : Int32} (hm : m < 4096) (hr : FR u 0 2 = some L) (hL : sh L 3 19) (hC : LibC u L v) (hW : WF v) : Cl (d + 2) 156 [.ref 0, .int (nI m), .int w] (am_emb u) post ↔ post (some (.int (inF (nI m) (m + 1) (ofFew v m w)))) (am_emb u) := by
  refine Cl_iff ?_ post
  rw [op_156]
  have loop : ∀ (kz k : Nat), k + kz = m + 1 → Ex (d + 2) 156 5 [some (.ref 0), some (.int (nI m)), some (.int w), some (.int (inF (nI m) k (ofFew v m w))), some (.int (nI k))] [] (am_emb u) (fun z n => z = some (.int (inF (nI m) (m + 1) (ofFew v m w))) ∧ n = am_emb u) := by
    intro kz
    induction kz with
    | zero =>
      intro k hk
      obtain rfl : k = m + 1 := by omega
      rw [ex_156_5]
      simp (disch := first | exact am_nl_i _ | exact am_nl_r _ | exact am_nl_0 | (refine vi_nI ?_ ?_ <;> omega) | assumption | omega | exact b2i_01 _ | exact Or.inl rfl | exact Or.inr rfl | (unfold vi; decide)) only [ex_156_0, ex_156_1, ex_156_2, ex_156_3, ex_156_7, ex_156_8, ex_156_13, ex_156_16, ex_156_17, ex_156_20, ex_156_21, ex_156_22, ex_156_24, ex_156_27, ex_156_30, ex_156_31, ex_156_33, ex_156_34, ex_156_35, ex_156_38, ex_156_41, ex_156_42, if_true, if_false, and_self, Option.toList_some, Option.toList_none, List.singleton_append, List.cons_append, List.nil_append, List.append_nil, nI_1, nt_e, Int32.le_refl, nI_ltI, Nat.lt_succ_self, Bool.true_eq_false, Bool.false_eq_true, ↓reduceIte]
      (try (first | exact ⟨rfl, rfl⟩ | exact ⟨rfl, trivial⟩))
    | succ kz ih =>
      intro k hk
      have ih := ih (k + 1) (by omega)
      have hnlt : ¬ m < k := by omega
      have hk8 : k < 8192 := by omega
      rw [inF, ofFew] at ih
      rw [ex_156_5]
      by_cases q1 : bitsV (nI k) = w
      · rw [decide_eq_true q1, Bool.true_and] at ih
        cases q2 : okUn v (nI m) k
        · rw [q2] at ih
          simp (disch := first | exact am_nl_i _ | exact am_nl_r _ | exact am_nl_0 | (refine vi_nI ?_ ?_ <;> omega) | assumption | omega | exact b2i_01 _ | exact Or.inl rfl | exact Or.inr rfl | (unfold vi; decide)) only [ex_156_0, ex_156_1, ex_156_2, ex_156_3, ex_156_7, ex_156_8, ex_156_11, ex_156_13, ex_156_16, ex_156_17, ex_156_20, ex_156_21, ex_156_22, ex_156_24, ex_156_27, ex_156_30, ex_156_31, ex_156_33, ex_156_34, ex_156_35, ex_156_38, ex_156_42, if_true, if_false, and_self, Option.toList_some, Option.toList_none, List.singleton_append, List.cons_append, List.nil_append, List.append_nil, nI_1, nt_e, Int32.le_refl, nI_ltI, hnlt, bc_ok, bcN hk8, q1, endsClash_ok hr hL hC hW, q2, b2i_0, Bool.true_eq_false, Bool.false_eq_true, ↓reduceIte]
          exact ih
        · rw [q2] at ih
          simp (disch := first | exact am_nl_i _ | exact am_nl_r _ | exact am_nl_0 | (refine vi_nI ?_ ?_ <;> omega) | assumption | omega | exact b2i_01 _ | exact Or.inl rfl | exact Or.inr rfl | (unfold vi; decide)) only [ex_156_0, ex_156_1, ex_156_2, ex_156_3, ex_156_7, ex_156_8, ex_156_11, ex_156_13, ex_156_16, ex_156_17, ex_156_20, ex_156_21, ex_156_22, ex_156_24, ex_156_27, ex_156_30, ex_156_31, ex_156_33, ex_156_34, ex_156_35, ex_156_38, ex_156_42, if_true, if_false, and_self, Option.toList_some, Option.toList_none, List.singleton_append, List.cons_append, List.nil_append, List.append_nil, nI_1, nt_e, Int32.le_refl, nI_ltI, hnlt, bc_ok, bcN hk8, q1, endsClash_ok hr hL hC hW, q2, b2i_0, Bool.true_eq_false, Bool.false_eq_true, ↓reduceIte]
          exact ih
      · rw [decide_eq_false q1, Bool.false_and] at ih
        simp (disch := first | exact am_nl_i _ | exact am_nl_r _ | exact am_nl_0 | (refine vi_nI ?_ ?_ <;> omega) | assumption | omega | exact b2i_01 _ | exact Or.inl rfl | exact Or.inr rfl | (unfold vi; decide)) only [ex_156_0, ex_156_1, ex_156_2, ex_156_3, ex_156_7, ex_156_8, ex_156_11, ex_156_13, ex_156_16, ex_156_17, ex_156_20, ex_156_21, ex_156_22, ex_156_24, ex_156_27, ex_156_30, ex_156_31, ex_156_33, ex_156_34, ex_156_35, ex_156_38, ex_156_42, if_true, if_false, and_self, Option.toList_some, Option.toList_none, List.singleton_append, List.cons_append, List.nil_append, List.append_nil, nI_1, nt_e, Int32.le_refl, nI_ltI, hnlt, bc_ok, bcN hk8, q1, Bool.true_eq_false, Bool.false_eq_true, ↓reduceIte]
        exact ih
  simp (disch := first | exact am_nl_i _ | exact am_nl_r _ | exact am_nl_0 | assumption | omega | (refine vi_nI ?_ ?_ <;> omega) | exact b2i_01 _ | exact Or.inl rfl | exact Or.inr rfl | (unfold vi; decide)) only [ex_156_0, ex_156_1, ex_156_2, ex_156_3, ex_156_7, ex_156_8, ex_156_11, ex_156_13, ex_156_16, ex_156_17, ex_156_20, ex_156_21, ex_156_22, ex_156_24, ex_156_27, ex_156_30, ex_156_31, ex_156_33, ex_156_34, ex_156_35, ex_156_38, ex_156_41, ex_156_42, if_true, if_false, and_self, Option.toList_some, Option.toList_none, List.singleton_append, List.cons_append, List.nil_append, List.append_nil, nI_1, nt_e, Int32.le_refl]
  exact loop (m + 1) 0 (by omega)
theorem C_lies {x : Int32} (hI : InvC u S L L') (hS : WS S) : Cl (d + 3) 138 [.ref 0, .int x] (am_emb u) post ↔ post (some (.int (liesS S.1 x))) (am_emb u) := by
  have hL := lib_sh hI.1.2.2.1
  have hW := hS.1
  have h12 := hW.1.2.1
  have hp := pow_8192 h12
  obtain ⟨⟨r1, r2, r3, r4, r5, r6⟩, ⟨l1, l2, l3⟩, ⟨st1, st2, st3⟩, pst, mk, tp⟩ := hI
  have hM : liesM S.1 < 4096 := by unfold liesM; omega
  have hB : liesB S.1 < 8192 := by
    have := bestG_lt (ok := okUn S.1 (nI (liesM S.1))) (lt := few) (m := liesM S.1) (liesM S.1 + 1) (Nat.le_refl _)
    unfold liesB
    omega
  have hall : bi (nP S.1) - 1 = nI (liesM S.1) := allF_nI h12
  rw [op_138]
  simp (disch := first | exact am_nl_i _ | exact am_nl_r _ | exact am_nl_0 | assumption | omega | (refine vi_nI ?_ ?_ <;> omega) | exact b2i_01 _ | exact Or.inl rfl | exact Or.inr rfl | (unfold vi; decide)) only [ex_138_0, ex_138_1, ex_138_4, ex_138_7, ex_138_8, ex_138_9, ex_138_10, ex_138_13, ex_138_14, ex_138_15, ex_138_44, ex_138_45, ex_138_48, ex_138_49, ex_138_50, ex_138_51, ex_138_52, ex_138_53, ex_138_54, ex_138_57, ex_138_60, ex_138_61, ex_138_62, ex_138_63, ex_138_64, ex_138_67, ex_138_70, ex_138_71, ex_138_72, if_true, if_false, and_self, Option.toList_some, Option.toList_none, List.singleton_append, List.cons_append, List.nil_append, List.append_nil, nI_1, nt_e, Int32.le_refl, r1, va_rfs, allPages_ok hL l1, hall, fewest_ok hM r1 hL l1 hW]
  rw [show bestG (okUn S.1 (nI (liesM S.1))) few (liesM S.1) (liesM S.1 + 1) = liesB S.1 from rfl]
  unfold liesS
  cases q : okI x 4
  · rw [tgt_out 4 rfl q, show am_jmp 15 56 = 71 by decide]
    simp (disch := first | exact am_nl_i _ | exact am_nl_r _ | exact am_nl_0 | assumption | omega | (refine vi_nI ?_ ?_ <;> omega) | exact b2i_01 _ | exact Or.inl rfl | exact Or.inr rfl | (unfold vi; decide)) only [ex_138_0, ex_138_1, ex_138_4, ex_138_7, ex_138_8, ex_138_9, ex_138_10, ex_138_13, ex_138_14, ex_138_15, ex_138_44, ex_138_45, ex_138_48, ex_138_49, ex_138_50, ex_138_51, ex_138_52, ex_138_53, ex_138_54, ex_138_57, ex_138_60, ex_138_61, ex_138_62, ex_138_63, ex_138_64, ex_138_67, ex_138_70, ex_138_71, ex_138_72, if_true, if_false, and_self, Option.toList_some, Option.toList_none, List.singleton_append, List.cons_append, List.nil_append, List.append_nil, nI_1, nt_e, Int32.le_refl]
    exact Iff.rfl
  · obtain ⟨k, hk, rfl⟩ := what_in q
    rw [ix_nI (by omega), if_pos rfl]
    match k, hk with
    | 0, _ =>
      rw [show am_tgt 15 56 0 3 #[29, 34, 36, 46] (nI 0).toInt = 44 by decide, liesK4]
      simp (disch := first | exact am_nl_i _ | exact am_nl_r _ | exact am_nl_0 | assumption | omega | (refine vi_nI ?_ ?_ <;> omega) | exact b2i_01 _ | exact Or.inl rfl | exact Or.inr rfl | (unfold vi; decide)) only [ex_138_0, ex_138_1, ex_138_4, ex_138_7, ex_138_8, ex_138_9, ex_138_10, ex_138_13, ex_138_14, ex_138_15, ex_138_44, ex_138_45, ex_138_48, ex_138_49, ex_138_50, ex_138_51, ex_138_52, ex_138_53, ex_138_54, ex_138_57, ex_138_60, ex_138_61, ex_138_62, ex_138_63, ex_138_64, ex_138_67, ex_138_70, ex_138_71, ex_138_72, if_true, if_false, and_self, Option.toList_some, Option.toList_none, List.singleton_append, List.cons_append, List.nil_append, List.append_nil, nI_1, nt_e, Int32.le_refl, bc_ok, bcN hB]
    | 1, _ =>
      rw [show am_tgt 15 56 0 3 #[29, 34, 36, 46] (nI 1).toInt = 49 by decide, liesK4]
      simp (disch := first | exact am_nl_i _ | exact am_nl_r _ | exact am_nl_0 | assumption | omega | (refine vi_nI ?_ ?_ <;> omega) | exact b2i_01 _ | exact Or.inl rfl | exact Or.inr rfl | (unfold vi; decide)) only [ex_138_0, ex_138_1, ex_138_4, ex_138_7, ex_138_8, ex_138_9, ex_138_10, ex_138_13, ex_138_14, ex_138_15, ex_138_44, ex_138_45, ex_138_48, ex_138_49, ex_138_50, ex_138_51, ex_138_52, ex_138_53, ex_138_54, ex_138_57, ex_138_60, ex_138_61, ex_138_62, ex_138_63, ex_138_64, ex_138_67, ex_138_70, ex_138_71, ex_138_72, if_true, if_false, and_self, Option.toList_some, Option.toList_none, List.singleton_append, List.cons_append, List.nil_append, List.append_nil, nI_1, nt_e, Int32.le_refl]
    | 2, _ =>
      rw [show am_tgt 15 56 0 3 #[29, 34, 36, 46] (nI 2).toInt = 51 by decide, liesK4]
      simp (disch := first | exact am_nl_i _ | exact am_nl_r _ | exact am_nl_0 | assumption | omega | (refine vi_nI ?_ ?_ <;> omega) | exact b2i_01 _ | exact Or.inl rfl | exact Or.inr rfl | (unfold vi; decide)) only [ex_138_0, ex_138_1, ex_138_4, ex_138_7, ex_138_8, ex_138_9, ex_138_10, ex_138_13, ex_138_14, ex_138_15, ex_138_44, ex_138_45, ex_138_48, ex_138_49, ex_138_50, ex_138_51, ex_138_52, ex_138_53, ex_138_54, ex_138_57, ex_138_60, ex_138_61, ex_138_62, ex_138_63, ex_138_64, ex_138_67, ex_138_70, ex_138_71, ex_138_72, if_true, if_false, and_self, Option.toList_some, Option.toList_none, List.singleton_append, List.cons_append, List.nil_append, List.append_nil, nI_1, nt_e, Int32.le_refl, bc_ok, bcN hB, ways_ok hM r1 hL l1 hW]
    | 3, _ =>
      rw [show am_tgt 15 56 0 3 #[29, 34, 36, 46] (nI 3).toInt = 61 by decide]
      simp (disch := first | exact am_nl_i _ | exact am_nl_r _ | exact am_nl_0 | assumption | omega | (refine vi_nI ?_ ?_ <;> omega) | exact b2i_01 _ | exact Or.inl rfl | exact Or.inr rfl | (unfold vi; decide)) only [ex_138_0, ex_138_1, ex_138_4, ex_138_7, ex_138_8, ex_138_9, ex_138_10, ex_138_13, ex_138_14, ex_138_15, ex_138_44, ex_138_45, ex_138_48, ex_138_49, ex_138_50, ex_138_51, ex_138_52, ex_138_53, ex_138_54, ex_138_57, ex_138_60, ex_138_61, ex_138_62, ex_138_63, ex_138_64, ex_138_67, ex_138_70, ex_138_71, ex_138_72, if_true, if_false, and_self, Option.toList_some, Option.toList_none, List.singleton_append, List.cons_append, List.nil_append, List.append_nil, nI_1, nt_e, Int32.le_refl, bc_ok, bcN hB, inAll_ok hM r1 hL l1 hW]
      exact Iff.rfl
def cntO (v : LV) (o : Option Nat) (k : Nat) : Int32 := match o with
  | none => 0
  | some b => nI (cntF k (ofFew v (liesM v) (bitsV (nI b))))
def inO (v : LV) (o : Option Nat) (k : Nat) : Int32 := match o with
  | none => 0
  | some b => inF (nI (liesM v)) k (ofFew v (liesM v) (bitsV (nI b)))
theorem R_lies {x : Int32} (hI : InvR u S) (hS : WS S) : Cl (d + 2) 260 [.ref 203, .int x] (am_emb u) post ↔ post (some (.int (liesS S.1 x))) (am_emb (th u 0)) := by
  refine Cl_iff ?_ post
  have hI1 : InvR (th u 0) S := th_inv hI
  obtain ⟨hR, hcd, ⟨hl, hl2, hl3⟩, hp, hm, htp⟩ := hI1
  have hW := hS.1
  have h12 := hW.1.2.1
  have hp := pow_8192 h12
  have hn := hR.1.2.1
  have hall : bi (nP S.1) - 1 = nI (liesM S.1) := allF_nI h12
  have hM1 : liesM S.1 + 1 = 2 ^ nP S.1 := by
    have : 1 ≤ 2 ^ nP S.1 := Nat.one_le_two_pow
    unfold liesM
    omega
  rw [op_260]
  simp (disch := first | exact am_nl_i _ | exact am_nl_r _ | exact am_nl_0 | assumption | omega | (refine vi_nI ?_ ?_ <;> omega) | exact b2i_01 _ | exact Or.inl rfl | exact Or.inr rfl | (unfold vi; decide)) only [ex_260_0, ex_260_1, ex_260_2, ex_260_5, ex_260_6, ex_260_7, ex_260_8, ex_260_11, ex_260_14, ex_260_15, ex_260_16, ex_260_17, ex_260_18, ex_260_21, ex_260_22, ex_260_23, ex_260_24, ex_260_25, ex_260_26, ex_260_27, ex_260_28, ex_260_29, ex_260_30, ex_260_32, ex_260_33, ex_260_35, ex_260_36, ex_260_40, ex_260_41, ex_260_44, ex_260_45, ex_260_48, ex_260_50, ex_260_53, ex_260_54, ex_260_57, ex_260_60, ex_260_61, ex_260_62, ex_260_63, ex_260_65, ex_260_66, ex_260_67, ex_260_68, ex_260_71, ex_260_74, ex_260_77, ex_260_80, ex_260_81, ex_260_84, ex_260_86, ex_260_89, ex_260_90, ex_260_93, ex_260_96, ex_260_98, ex_260_99, ex_260_100, ex_260_102, ex_260_103, ex_260_105, ex_260_108, ex_260_110, ex_260_112, ex_260_113, ex_260_115, ex_260_118, ex_260_121, ex_260_122, ex_260_125, ex_260_126, ex_260_129, ex_260_132, ex_260_133, ex_260_134, ex_260_137, ex_260_138, ex_260_141, ex_260_142, ex_260_143, ex_260_146, ex_260_148, ex_260_151, ex_260_153, if_true, if_false, and_self, Option.toList_some, Option.toList_none, List.singleton_append, List.cons_append, List.nil_append, List.append_nil, nI_1, nt_e, Int32.le_refl, th_e, within_ok, b2i_0, show (3 : Int32) = nI 3 from rfl, within_okI (n := 3) (by decide) rfl]
  rw [show (3 + 1) = 4 from rfl]
  unfold liesS
  cases q : okI x 4
  · rw [if_pos rfl]
    (try (first | exact ⟨rfl, rfl⟩ | exact ⟨rfl, trivial⟩))
  rw [if_neg (by simp), if_pos rfl]
  have hu := bestUn (v := S.1) (m := liesM S.1) (by omega)
  have loop : ∀ (kz k : Nat), k + kz = liesM S.1 + 1 → Ex (d + 2) 260 38 [some (.ref 203), some (.int x), some (.int (nI (liesM S.1))), some (.int (ob (bestF (okUn S.1 (nI (liesM S.1))) few k))), some (.int (cntO S.1 (bestF (okUn S.1 (nI (liesM S.1))) few k) k)), some (.int (inO S.1 (bestF (okUn S.1 (nI (liesM S.1))) few k) k)), some (.int (nI k))] [] (am_emb (th u 0)) (fun z n => z = some (.int (liesK4 S.1 (ix x))) ∧ n = am_emb (th u 0)) := by
    intro kz
    induction kz with
    | zero =>
      intro k hk
      obtain rfl : k = liesM S.1 + 1 := by omega
      rw [ex_260_38, hu]
      rw [show bestG (okUn S.1 (nI (liesM S.1))) few (liesM S.1) (liesM S.1 + 1) = liesB S.1 from rfl]
      simp (disch := first | exact am_nl_i _ | exact am_nl_r _ | exact am_nl_0 | (refine vi_nI ?_ ?_ <;> omega) | assumption | omega | exact b2i_01 _ | exact Or.inl rfl | exact Or.inr rfl | (unfold vi; decide)) only [ex_260_0, ex_260_1, ex_260_2, ex_260_5, ex_260_6, ex_260_7, ex_260_8, ex_260_11, ex_260_14, ex_260_15, ex_260_16, ex_260_17, ex_260_18, ex_260_21, ex_260_22, ex_260_23, ex_260_24, ex_260_25, ex_260_26, ex_260_27, ex_260_28, ex_260_29, ex_260_30, ex_260_32, ex_260_33, ex_260_35, ex_260_36, ex_260_40, ex_260_41, ex_260_45, ex_260_48, ex_260_50, ex_260_53, ex_260_54, ex_260_57, ex_260_60, ex_260_61, ex_260_62, ex_260_63, ex_260_65, ex_260_66, ex_260_67, ex_260_68, ex_260_71, ex_260_74, ex_260_77, ex_260_80, ex_260_81, ex_260_84, ex_260_86, ex_260_89, ex_260_90, ex_260_93, ex_260_96, ex_260_98, ex_260_99, ex_260_100, ex_260_102, ex_260_103, ex_260_105, ex_260_108, ex_260_110, ex_260_112, ex_260_113, ex_260_115, ex_260_118, ex_260_122, ex_260_125, ex_260_126, ex_260_129, ex_260_132, ex_260_133, ex_260_134, ex_260_137, ex_260_138, ex_260_141, ex_260_142, ex_260_143, ex_260_146, ex_260_148, ex_260_151, ex_260_153, if_true, if_false, and_self, Option.toList_some, Option.toList_none, List.singleton_append, List.cons_append, List.nil_append, List.append_nil, nI_1, nt_e, Int32.le_refl, nI_ltI, Nat.lt_succ_self, Bool.true_eq_false, Bool.false_eq_true, ↓reduceIte]
      obtain ⟨k, hk, rfl⟩ := what_in q
      rw [ix_nI (by omega)]
      match k, hk with
      | 0, _ =>
        simp (disch := first | exact am_nl_i _ | exact am_nl_r _ | exact am_nl_0 | (refine vi_nI ?_ ?_ <;> omega) | assumption | omega | exact b2i_01 _ | exact Or.inl rfl | exact Or.inr rfl | (unfold vi; decide)) only [ex_260_0, ex_260_1, ex_260_2, ex_260_5, ex_260_6, ex_260_7, ex_260_8, ex_260_11, ex_260_14, ex_260_15, ex_260_16, ex_260_17, ex_260_18, ex_260_21, ex_260_22, ex_260_23, ex_260_24, ex_260_25, ex_260_26, ex_260_27, ex_260_28, ex_260_29, ex_260_30, ex_260_32, ex_260_33, ex_260_35, ex_260_36, ex_260_38, ex_260_40, ex_260_41, ex_260_44, ex_260_45, ex_260_48, ex_260_50, ex_260_53, ex_260_54, ex_260_57, ex_260_60, ex_260_61, ex_260_62, ex_260_63, ex_260_65, ex_260_66, ex_260_67, ex_260_68, ex_260_71, ex_260_74, ex_260_77, ex_260_80, ex_260_81, ex_260_84, ex_260_86, ex_260_89, ex_260_90, ex_260_93, ex_260_96, ex_260_98, ex_260_99, ex_260_100, ex_260_102, ex_260_103, ex_260_105, ex_260_108, ex_260_110, ex_260_112, ex_260_113, ex_260_115, ex_260_118, ex_260_121, ex_260_122, ex_260_125, ex_260_126, ex_260_129, ex_260_132, ex_260_133, ex_260_134, ex_260_137, ex_260_138, ex_260_141, ex_260_142, ex_260_143, ex_260_146, ex_260_148, ex_260_151, ex_260_153, if_true, if_false, and_self, Option.toList_some, Option.toList_none, List.singleton_append, List.cons_append, List.nil_append, List.append_nil, nI_1, nt_e, Int32.le_refl, show (nI 0 = (0 : Int32)) = True from eq_true (by decide), bits_ok, show ob (some (liesB S.1)) = nI (liesB S.1) from rfl, Bool.true_eq_false, Bool.false_eq_true, ↓reduceIte]
        rw [liesK4]
        (try (first | exact ⟨rfl, rfl⟩ | exact ⟨rfl, trivial⟩))
      | 1, _ =>
        simp (disch := first | exact am_nl_i _ | exact am_nl_r _ | exact am_nl_0 | (refine vi_nI ?_ ?_ <;> omega) | assumption | omega | exact b2i_01 _ | exact Or.inl rfl | exact Or.inr rfl | (unfold vi; decide)) only [ex_260_0, ex_260_1, ex_260_2, ex_260_5, ex_260_6, ex_260_7, ex_260_8, ex_260_11, ex_260_14, ex_260_15, ex_260_16, ex_260_17, ex_260_18, ex_260_21, ex_260_22, ex_260_23, ex_260_24, ex_260_25, ex_260_26, ex_260_27, ex_260_28, ex_260_29, ex_260_30, ex_260_32, ex_260_33, ex_260_35, ex_260_36, ex_260_38, ex_260_40, ex_260_41, ex_260_44, ex_260_45, ex_260_48, ex_260_50, ex_260_53, ex_260_54, ex_260_57, ex_260_60, ex_260_61, ex_260_62, ex_260_63, ex_260_65, ex_260_66, ex_260_67, ex_260_68, ex_260_71, ex_260_74, ex_260_77, ex_260_80, ex_260_81, ex_260_84, ex_260_86, ex_260_89, ex_260_90, ex_260_93, ex_260_96, ex_260_98, ex_260_99, ex_260_100, ex_260_102, ex_260_103, ex_260_105, ex_260_108, ex_260_110, ex_260_112, ex_260_113, ex_260_115, ex_260_118, ex_260_121, ex_260_122, ex_260_125, ex_260_126, ex_260_129, ex_260_132, ex_260_133, ex_260_134, ex_260_137, ex_260_138, ex_260_141, ex_260_142, ex_260_143, ex_260_146, ex_260_148, ex_260_151, ex_260_153, if_true, if_false, and_self, Option.toList_some, Option.toList_none, List.singleton_append, List.cons_append, List.nil_append, List.append_nil, nI_1, nt_e, Int32.le_refl, show (nI 1 = (0 : Int32)) = False from eq_false (by decide), show (nI 1 = (1 : Int32)) = True from eq_true (by decide), show ob (some (liesB S.1)) = nI (liesB S.1) from rfl, Bool.true_eq_false, Bool.false_eq_true, ↓reduceIte]
        rw [liesK4]
        (try (first | exact ⟨rfl, rfl⟩ | exact ⟨rfl, trivial⟩))
      | 2, _ =>
        simp (disch := first | exact am_nl_i _ | exact am_nl_r _ | exact am_nl_0 | (refine vi_nI ?_ ?_ <;> omega) | assumption | omega | exact b2i_01 _ | exact Or.inl rfl | exact Or.inr rfl | (unfold vi; decide)) only [ex_260_0, ex_260_1, ex_260_2, ex_260_5, ex_260_6, ex_260_7, ex_260_8, ex_260_11, ex_260_14, ex_260_15, ex_260_16, ex_260_17, ex_260_18, ex_260_21, ex_260_22, ex_260_23, ex_260_24, ex_260_25, ex_260_26, ex_260_27, ex_260_28, ex_260_29, ex_260_30, ex_260_32, ex_260_33, ex_260_35, ex_260_36, ex_260_38, ex_260_40, ex_260_41, ex_260_44, ex_260_45, ex_260_48, ex_260_50, ex_260_53, ex_260_54, ex_260_57, ex_260_60, ex_260_61, ex_260_62, ex_260_63, ex_260_65, ex_260_66, ex_260_67, ex_260_68, ex_260_71, ex_260_74, ex_260_77, ex_260_80, ex_260_81, ex_260_84, ex_260_86, ex_260_89, ex_260_90, ex_260_93, ex_260_96, ex_260_98, ex_260_99, ex_260_100, ex_260_102, ex_260_103, ex_260_105, ex_260_108, ex_260_110, ex_260_112, ex_260_113, ex_260_115, ex_260_118, ex_260_121, ex_260_122, ex_260_125, ex_260_126, ex_260_129, ex_260_132, ex_260_133, ex_260_134, ex_260_137, ex_260_138, ex_260_141, ex_260_142, ex_260_143, ex_260_146, ex_260_148, ex_260_151, ex_260_153, if_true, if_false, and_self, Option.toList_some, Option.toList_none, List.singleton_append, List.cons_append, List.nil_append, List.append_nil, nI_1, nt_e, Int32.le_refl, show (nI 2 = (0 : Int32)) = False from eq_false (by decide), show (nI 2 = (1 : Int32)) = False from eq_false (by decide), show (nI 2 = (2 : Int32)) = True from eq_true (by decide), Bool.true_eq_false, Bool.false_eq_true, ↓reduceIte]
        rw [liesK4]
        (try (first | exact ⟨rfl, rfl⟩ | exact ⟨rfl, trivial⟩))
      | 3, _ =>
        simp (disch := first | exact am_nl_i _ | exact am_nl_r _ | exact am_nl_0 | (refine vi_nI ?_ ?_ <;> omega) | assumption | omega | exact b2i_01 _ | exact Or.inl rfl | exact Or.inr rfl | (unfold vi; decide)) only [ex_260_0, ex_260_1, ex_260_2, ex_260_5, ex_260_6, ex_260_7, ex_260_8, ex_260_11, ex_260_14, ex_260_15, ex_260_16, ex_260_17, ex_260_18, ex_260_21, ex_260_22, ex_260_23, ex_260_24, ex_260_25, ex_260_26, ex_260_27, ex_260_28, ex_260_29, ex_260_30, ex_260_32, ex_260_33, ex_260_35, ex_260_36, ex_260_38, ex_260_40, ex_260_41, ex_260_44, ex_260_45, ex_260_48, ex_260_50, ex_260_53, ex_260_54, ex_260_57, ex_260_60, ex_260_61, ex_260_62, ex_260_63, ex_260_65, ex_260_66, ex_260_67, ex_260_68, ex_260_71, ex_260_74, ex_260_77, ex_260_80, ex_260_81, ex_260_84, ex_260_86, ex_260_89, ex_260_90, ex_260_93, ex_260_96, ex_260_98, ex_260_99, ex_260_100, ex_260_102, ex_260_103, ex_260_105, ex_260_108, ex_260_110, ex_260_112, ex_260_113, ex_260_115, ex_260_118, ex_260_121, ex_260_122, ex_260_125, ex_260_126, ex_260_129, ex_260_132, ex_260_133, ex_260_134, ex_260_137, ex_260_138, ex_260_141, ex_260_142, ex_260_143, ex_260_146, ex_260_148, ex_260_151, ex_260_153, if_true, if_false, and_self, Option.toList_some, Option.toList_none, List.singleton_append, List.cons_append, List.nil_append, List.append_nil, nI_1, nt_e, Int32.le_refl, show (nI 3 = (0 : Int32)) = False from eq_false (by decide), show (nI 3 = (1 : Int32)) = False from eq_false (by decide), show (nI 3 = (2 : Int32)) = False from eq_false (by decide), Bool.true_eq_false, Bool.false_eq_true, ↓reduceIte]
        (try (first | exact ⟨rfl, rfl⟩ | exact ⟨rfl, trivial⟩))
    | succ kz ih =>
      intro k hk
      have ih := ih (k + 1) (by omega)
      have hb := best_b (ok := okUn S.1 (nI (liesM S.1))) (lt := few) (n := k) (N := 8192) (by omega)
      have hnlt : ¬ liesM S.1 < k := by omega
      obtain ⟨m1, m2⟩ := bestF_min (ok := okUn S.1 (nI (liesM S.1))) (n := k)
      have hsub := sub_all (v := S.1) (k := k) h12 (by omega)
      have hs : ∀ o' a b, o' = bestF (okUn S.1 (nI (liesM S.1))) few (k + 1) → a = cntO S.1 o' (k + 1) → b = inO S.1 o' (k + 1) → Ex (d + 2) 260 115 [some (.ref 203), some (.int x), some (.int (nI (liesM S.1))), some (.int (ob o')), some (.int a), some (.int b), some (.int (nI k))] [] (am_emb (th u 0)) (fun z n => z = some (.int (liesK4 S.1 (ix x))) ∧ n = am_emb (th u 0)) := by
        intro o' a b e e2 e3
        simp (disch := first | exact am_nl_i _ | exact am_nl_r _ | exact am_nl_0 | assumption | omega | (refine vi_nI ?_ ?_ <;> omega) | exact b2i_01 _ | exact Or.inl rfl | exact Or.inr rfl | (unfold vi; decide)) only [ex_260_0, ex_260_1, ex_260_2, ex_260_5, ex_260_6, ex_260_7, ex_260_8, ex_260_11, ex_260_14, ex_260_15, ex_260_16, ex_260_17, ex_260_18, ex_260_21, ex_260_22, ex_260_23, ex_260_24, ex_260_25, ex_260_26, ex_260_27, ex_260_28, ex_260_29, ex_260_30, ex_260_32, ex_260_33, ex_260_35, ex_260_36, ex_260_40, ex_260_41, ex_260_44, ex_260_45, ex_260_48, ex_260_50, ex_260_53, ex_260_54, ex_260_57, ex_260_60, ex_260_61, ex_260_62, ex_260_63, ex_260_65, ex_260_66, ex_260_67, ex_260_68, ex_260_71, ex_260_74, ex_260_77, ex_260_80, ex_260_81, ex_260_84, ex_260_86, ex_260_89, ex_260_90, ex_260_93, ex_260_96, ex_260_98, ex_260_99, ex_260_100, ex_260_102, ex_260_103, ex_260_105, ex_260_108, ex_260_110, ex_260_112, ex_260_113, ex_260_115, ex_260_118, ex_260_121, ex_260_122, ex_260_125, ex_260_126, ex_260_129, ex_260_132, ex_260_133, ex_260_134, ex_260_137, ex_260_138, ex_260_141, ex_260_142, ex_260_143, ex_260_146, ex_260_148, ex_260_151, ex_260_153, if_true, if_false, and_self, Option.toList_some, Option.toList_none, List.singleton_append, List.cons_append, List.nil_append, List.append_nil, nI_1, nt_e, Int32.le_refl]
        rw [e2, e3, e]
        exact ih
      have hok : okUn S.1 (nI (liesM S.1)) k = !tornV S.1 (believesV S.1 (nI (liesM S.1) &&& nt (nI k))) := by
        unfold okUn
        rw [decide_eq_true hsub, Bool.true_and]
      rw [bestF] at hs
      generalize bestF (okUn S.1 (nI (liesM S.1))) few k = o at *
      have s96 : okUn S.1 (nI (liesM S.1)) k = true → o.all (fun b => few k b) = true → Ex (d + 2) 260 96 [some (.ref 203), some (.int x), some (.int (nI (liesM S.1))), some (.int (ob o)), some (.int (cntO S.1 o k)), some (.int (inO S.1 o k)), some (.int (nI k))] [] (am_emb (th u 0)) (fun z n => z = some (.int (liesK4 S.1 (ix x))) ∧ n = am_emb (th u 0)) := by
        intro h1 h2
        have hno : ∀ j, j < k → ofFew S.1 (liesM S.1) (bitsV (nI k)) j = false := fun j hj => by
          unfold ofFew
          cases hoj : okUn S.1 (nI (liesM S.1)) j
          · rw [Bool.and_false]
          · rw [Bool.and_true]
            refine decide_eq_false (fun e => ?_)
            cases o with
            | none =>
              rw [m1 rfl j hj] at hoj
              cases hoj
            | some b =>
              have h3 := m2 b rfl j hj hoj
              rw [Option.all_some] at h2
              unfold few at h2 h3
              rw [e] at h3
              rw [h3] at h2
              cases h2
        have hk1 : ofFew S.1 (liesM S.1) (bitsV (nI k)) k = true := by
          unfold ofFew
          rw [h1, decide_eq_true rfl]
          rfl
        simp (disch := first | exact am_nl_i _ | exact am_nl_r _ | exact am_nl_0 | assumption | omega | (refine vi_nI ?_ ?_ <;> omega) | exact b2i_01 _ | exact Or.inl rfl | exact Or.inr rfl | (unfold vi; decide)) only [ex_260_0, ex_260_1, ex_260_2, ex_260_5, ex_260_6, ex_260_7, ex_260_8, ex_260_11, ex_260_14, ex_260_15, ex_260_16, ex_260_17, ex_260_18, ex_260_21, ex_260_22, ex_260_23, ex_260_24, ex_260_25, ex_260_26, ex_260_27, ex_260_28, ex_260_29, ex_260_30, ex_260_32, ex_260_33, ex_260_35, ex_260_36, ex_260_40, ex_260_41, ex_260_44, ex_260_45, ex_260_48, ex_260_50, ex_260_53, ex_260_54, ex_260_57, ex_260_60, ex_260_61, ex_260_62, ex_260_63, ex_260_65, ex_260_66, ex_260_67, ex_260_68, ex_260_71, ex_260_74, ex_260_77, ex_260_80, ex_260_81, ex_260_84, ex_260_86, ex_260_89, ex_260_90, ex_260_93, ex_260_96, ex_260_98, ex_260_99, ex_260_100, ex_260_102, ex_260_103, ex_260_105, ex_260_108, ex_260_110, ex_260_112, ex_260_113, ex_260_118, ex_260_121, ex_260_122, ex_260_125, ex_260_126, ex_260_129, ex_260_132, ex_260_133, ex_260_134, ex_260_137, ex_260_138, ex_260_141, ex_260_142, ex_260_143, ex_260_146, ex_260_148, ex_260_151, ex_260_153, if_true, if_false, and_self, Option.toList_some, Option.toList_none, List.singleton_append, List.cons_append, List.nil_append, List.append_nil, nI_1, nt_e, Int32.le_refl]
        refine hs (some k) _ _ (by rw [h1, h2]; rfl) ?_ ?_
        · show _ = nI (cntF (k + 1) (ofFew S.1 (liesM S.1) (bitsV (nI k))))
          rw [cntF, cntF_0 hno, hk1]
          rfl
        · show _ = inF (nI (liesM S.1)) (k + 1) (ofFew S.1 (liesM S.1) (bitsV (nI k)))
          rw [inF, inF_0 hno, hk1]
          rfl
      rw [ex_260_38]
      cases o with
      | none =>
        cases q3 : tornV S.1 (believesV S.1 (nI (liesM S.1) &&& nt (nI k)))
        · rw [q3] at hok
          simp (disch := first | exact am_nl_i _ | exact am_nl_r _ | exact am_nl_0 | (refine vi_nI ?_ ?_ <;> omega) | assumption | omega | exact b2i_01 _ | exact Or.inl rfl | exact Or.inr rfl | (unfold vi; decide)) only [ex_260_0, ex_260_1, ex_260_2, ex_260_5, ex_260_6, ex_260_7, ex_260_8, ex_260_11, ex_260_14, ex_260_15, ex_260_16, ex_260_17, ex_260_18, ex_260_21, ex_260_22, ex_260_23, ex_260_24, ex_260_25, ex_260_26, ex_260_27, ex_260_28, ex_260_29, ex_260_30, ex_260_32, ex_260_33, ex_260_35, ex_260_36, ex_260_40, ex_260_41, ex_260_44, ex_260_45, ex_260_48, ex_260_50, ex_260_53, ex_260_54, ex_260_57, ex_260_60, ex_260_61, ex_260_62, ex_260_63, ex_260_65, ex_260_66, ex_260_67, ex_260_68, ex_260_71, ex_260_74, ex_260_77, ex_260_80, ex_260_81, ex_260_84, ex_260_86, ex_260_89, ex_260_90, ex_260_93, ex_260_98, ex_260_99, ex_260_100, ex_260_102, ex_260_103, ex_260_105, ex_260_108, ex_260_110, ex_260_112, ex_260_113, ex_260_118, ex_260_122, ex_260_125, ex_260_126, ex_260_129, ex_260_132, ex_260_133, ex_260_134, ex_260_137, ex_260_138, ex_260_141, ex_260_142, ex_260_143, ex_260_146, ex_260_148, ex_260_151, ex_260_153, if_true, if_false, and_self, Option.toList_some, Option.toList_none, List.singleton_append, List.cons_append, List.nil_append, List.append_nil, nI_1, nt_e, Int32.le_refl, nI_ltI, hnlt, show ob none = -1 from rfl, show ((-1 : Int32) < (0 : Int32)) = True from eq_true (by decide), believes_ok hR hW, clash_ok hR hW, q3, b2i_0, Bool.true_eq_false, Bool.false_eq_true, ↓reduceIte]
          exact s96 hok rfl
        · rw [q3] at hok
          simp (disch := first | exact am_nl_i _ | exact am_nl_r _ | exact am_nl_0 | (refine vi_nI ?_ ?_ <;> omega) | assumption | omega | exact b2i_01 _ | exact Or.inl rfl | exact Or.inr rfl | (unfold vi; decide)) only [ex_260_0, ex_260_1, ex_260_2, ex_260_5, ex_260_6, ex_260_7, ex_260_8, ex_260_11, ex_260_14, ex_260_15, ex_260_16, ex_260_17, ex_260_18, ex_260_21, ex_260_22, ex_260_23, ex_260_24, ex_260_25, ex_260_26, ex_260_27, ex_260_28, ex_260_29, ex_260_30, ex_260_32, ex_260_33, ex_260_35, ex_260_36, ex_260_40, ex_260_41, ex_260_44, ex_260_45, ex_260_48, ex_260_50, ex_260_53, ex_260_54, ex_260_57, ex_260_60, ex_260_61, ex_260_62, ex_260_63, ex_260_65, ex_260_66, ex_260_67, ex_260_68, ex_260_71, ex_260_74, ex_260_77, ex_260_80, ex_260_81, ex_260_84, ex_260_86, ex_260_89, ex_260_90, ex_260_93, ex_260_98, ex_260_99, ex_260_100, ex_260_102, ex_260_103, ex_260_105, ex_260_108, ex_260_110, ex_260_112, ex_260_113, ex_260_118, ex_260_122, ex_260_125, ex_260_126, ex_260_129, ex_260_132, ex_260_133, ex_260_134, ex_260_137, ex_260_138, ex_260_141, ex_260_142, ex_260_143, ex_260_146, ex_260_148, ex_260_151, ex_260_153, if_true, if_false, and_self, Option.toList_some, Option.toList_none, List.singleton_append, List.cons_append, List.nil_append, List.append_nil, nI_1, nt_e, Int32.le_refl, nI_ltI, hnlt, show ob none = -1 from rfl, show ((-1 : Int32) < (0 : Int32)) = True from eq_true (by decide), believes_ok hR hW, clash_ok hR hW, q3, b2i_0, Bool.true_eq_false, Bool.false_eq_true, ↓reduceIte]
          exact hs none _ _ (by rw [hok]; rfl) rfl rfl
      | some b =>
        have hb8 := hb b rfl
        have hof : ∀ {f : Bool}, ofFew S.1 (liesM S.1) (bitsV (nI b)) k = f → cntO S.1 (some b) (k + 1) = (if f then cntO S.1 (some b) k + 1 else cntO S.1 (some b) k) ∧ inO S.1 (some b) (k + 1) = (if f then inO S.1 (some b) k &&& nI k else inO S.1 (some b) k) := fun {f} hf => by
          unfold cntO inO
          simp only
          rw [cntF, inF, hf]
          cases f
          · exact ⟨rfl, rfl⟩
          · exact ⟨(nI_1 _).symm, rfl⟩
        by_cases q1 : bitsV (nI b) < bitsV (nI k)
        · have n1 : ¬ bitsV (nI k) < bitsV (nI b) := fun q => by rw [Int32.lt_iff_toInt_lt] at q q1; omega
          have n2 : ¬ bitsV (nI k) = bitsV (nI b) := fun q => by rw [q] at q1; exact absurd q1 (Int32.lt_irrefl)
          obtain ⟨z1, z2⟩ := hof (f := false) (by unfold ofFew; rw [decide_eq_false n2]; rfl)
          simp (disch := first | exact am_nl_i _ | exact am_nl_r _ | exact am_nl_0 | (refine vi_nI ?_ ?_ <;> omega) | assumption | omega | exact b2i_01 _ | exact Or.inl rfl | exact Or.inr rfl | (unfold vi; decide)) only [ex_260_0, ex_260_1, ex_260_2, ex_260_5, ex_260_6, ex_260_7, ex_260_8, ex_260_11, ex_260_14, ex_260_15, ex_260_16, ex_260_17, ex_260_18, ex_260_21, ex_260_22, ex_260_23, ex_260_24, ex_260_25, ex_260_26, ex_260_27, ex_260_28, ex_260_29, ex_260_30, ex_260_32, ex_260_33, ex_260_35, ex_260_36, ex_260_40, ex_260_41, ex_260_44, ex_260_45, ex_260_48, ex_260_50, ex_260_53, ex_260_54, ex_260_57, ex_260_60, ex_260_61, ex_260_62, ex_260_63, ex_260_65, ex_260_66, ex_260_67, ex_260_68, ex_260_71, ex_260_74, ex_260_77, ex_260_80, ex_260_81, ex_260_84, ex_260_86, ex_260_89, ex_260_90, ex_260_93, ex_260_98, ex_260_99, ex_260_100, ex_260_102, ex_260_103, ex_260_105, ex_260_108, ex_260_110, ex_260_112, ex_260_113, ex_260_118, ex_260_122, ex_260_125, ex_260_126, ex_260_129, ex_260_132, ex_260_133, ex_260_134, ex_260_137, ex_260_138, ex_260_141, ex_260_142, ex_260_143, ex_260_146, ex_260_148, ex_260_151, ex_260_153, if_true, if_false, and_self, Option.toList_some, Option.toList_none, List.singleton_append, List.cons_append, List.nil_append, List.append_nil, nI_1, nt_e, Int32.le_refl, nI_ltI, hnlt, show ob (some b) = nI b from rfl, i_lt0, bits_ok, q1, Bool.true_eq_false, Bool.false_eq_true, ↓reduceIte]
          exact hs (some b) _ _ (by rw [Option.all_some, few, decide_eq_false n1]; simp) z1.symm z2.symm
        · cases q3 : tornV S.1 (believesV S.1 (nI (liesM S.1) &&& nt (nI k)))
          · rw [q3] at hok
            by_cases q2 : bitsV (nI b) ≤ bitsV (nI k)
            · have q4 : bitsV (nI k) = bitsV (nI b) := by
                apply Int32.toInt_inj.mp
                rw [Int32.lt_iff_toInt_lt] at q1
                rw [Int32.le_iff_toInt_le] at q2
                omega
              obtain ⟨z1, z2⟩ := hof (f := true) (by unfold ofFew; rw [decide_eq_true q4, hok]; rfl)
              simp (disch := first | exact am_nl_i _ | exact am_nl_r _ | exact am_nl_0 | (refine vi_nI ?_ ?_ <;> omega) | assumption | omega | exact b2i_01 _ | exact Or.inl rfl | exact Or.inr rfl | (unfold vi; decide)) only [ex_260_0, ex_260_1, ex_260_2, ex_260_5, ex_260_6, ex_260_7, ex_260_8, ex_260_11, ex_260_14, ex_260_15, ex_260_16, ex_260_17, ex_260_18, ex_260_21, ex_260_22, ex_260_23, ex_260_24, ex_260_25, ex_260_26, ex_260_27, ex_260_28, ex_260_29, ex_260_30, ex_260_32, ex_260_33, ex_260_35, ex_260_36, ex_260_40, ex_260_41, ex_260_44, ex_260_45, ex_260_48, ex_260_50, ex_260_53, ex_260_54, ex_260_57, ex_260_60, ex_260_61, ex_260_62, ex_260_63, ex_260_65, ex_260_66, ex_260_67, ex_260_68, ex_260_71, ex_260_74, ex_260_77, ex_260_80, ex_260_81, ex_260_84, ex_260_86, ex_260_89, ex_260_90, ex_260_93, ex_260_98, ex_260_99, ex_260_100, ex_260_102, ex_260_103, ex_260_105, ex_260_108, ex_260_110, ex_260_112, ex_260_113, ex_260_118, ex_260_122, ex_260_125, ex_260_126, ex_260_129, ex_260_132, ex_260_133, ex_260_134, ex_260_137, ex_260_138, ex_260_141, ex_260_142, ex_260_143, ex_260_146, ex_260_148, ex_260_151, ex_260_153, if_true, if_false, and_self, Option.toList_some, Option.toList_none, List.singleton_append, List.cons_append, List.nil_append, List.append_nil, nI_1, nt_e, Int32.le_refl, nI_ltI, hnlt, show ob (some b) = nI b from rfl, i_lt0, bits_ok, q1, believes_ok hR hW, clash_ok hR hW, q3, b2i_0, q2, Bool.true_eq_false, Bool.false_eq_true, ↓reduceIte]
              refine hs (some b) _ _ (by rw [Option.all_some, few, decide_eq_false (Int32.not_lt.mpr q2)]; simp) ?_ ?_
              · rw [z1]; rfl
              · rw [z2]; rfl
            · simp (disch := first | exact am_nl_i _ | exact am_nl_r _ | exact am_nl_0 | (refine vi_nI ?_ ?_ <;> omega) | assumption | omega | exact b2i_01 _ | exact Or.inl rfl | exact Or.inr rfl | (unfold vi; decide)) only [ex_260_0, ex_260_1, ex_260_2, ex_260_5, ex_260_6, ex_260_7, ex_260_8, ex_260_11, ex_260_14, ex_260_15, ex_260_16, ex_260_17, ex_260_18, ex_260_21, ex_260_22, ex_260_23, ex_260_24, ex_260_25, ex_260_26, ex_260_27, ex_260_28, ex_260_29, ex_260_30, ex_260_32, ex_260_33, ex_260_35, ex_260_36, ex_260_40, ex_260_41, ex_260_44, ex_260_45, ex_260_48, ex_260_50, ex_260_53, ex_260_54, ex_260_57, ex_260_60, ex_260_61, ex_260_62, ex_260_63, ex_260_65, ex_260_66, ex_260_67, ex_260_68, ex_260_71, ex_260_74, ex_260_77, ex_260_80, ex_260_81, ex_260_84, ex_260_86, ex_260_89, ex_260_90, ex_260_93, ex_260_98, ex_260_99, ex_260_100, ex_260_102, ex_260_103, ex_260_105, ex_260_108, ex_260_110, ex_260_112, ex_260_113, ex_260_118, ex_260_122, ex_260_125, ex_260_126, ex_260_129, ex_260_132, ex_260_133, ex_260_134, ex_260_137, ex_260_138, ex_260_141, ex_260_142, ex_260_143, ex_260_146, ex_260_148, ex_260_151, ex_260_153, if_true, if_false, and_self, Option.toList_some, Option.toList_none, List.singleton_append, List.cons_append, List.nil_append, List.append_nil, nI_1, nt_e, Int32.le_refl, nI_ltI, hnlt, show ob (some b) = nI b from rfl, i_lt0, bits_ok, q1, believes_ok hR hW, clash_ok hR hW, q3, b2i_0, q2, Bool.true_eq_false, Bool.false_eq_true, ↓reduceIte]
              exact s96 hok (by rw [Option.all_some, few, decide_eq_true (Int32.not_le.mp q2)])
          · rw [q3] at hok
            obtain ⟨z1, z2⟩ := hof (f := false) (by unfold ofFew; rw [hok]; simp)
            simp (disch := first | exact am_nl_i _ | exact am_nl_r _ | exact am_nl_0 | (refine vi_nI ?_ ?_ <;> omega) | assumption | omega | exact b2i_01 _ | exact Or.inl rfl | exact Or.inr rfl | (unfold vi; decide)) only [ex_260_0, ex_260_1, ex_260_2, ex_260_5, ex_260_6, ex_260_7, ex_260_8, ex_260_11, ex_260_14, ex_260_15, ex_260_16, ex_260_17, ex_260_18, ex_260_21, ex_260_22, ex_260_23, ex_260_24, ex_260_25, ex_260_26, ex_260_27, ex_260_28, ex_260_29, ex_260_30, ex_260_32, ex_260_33, ex_260_35, ex_260_36, ex_260_40, ex_260_41, ex_260_44, ex_260_45, ex_260_48, ex_260_50, ex_260_53, ex_260_54, ex_260_57, ex_260_60, ex_260_61, ex_260_62, ex_260_63, ex_260_65, ex_260_66, ex_260_67, ex_260_68, ex_260_71, ex_260_74, ex_260_77, ex_260_80, ex_260_81, ex_260_84, ex_260_86, ex_260_89, ex_260_90, ex_260_93, ex_260_98, ex_260_99, ex_260_100, ex_260_102, ex_260_103, ex_260_105, ex_260_108, ex_260_110, ex_260_112, ex_260_113, ex_260_118, ex_260_122, ex_260_125, ex_260_126, ex_260_129, ex_260_132, ex_260_133, ex_260_134, ex_260_137, ex_260_138, ex_260_141, ex_260_142, ex_260_143, ex_260_146, ex_260_148, ex_260_151, ex_260_153, if_true, if_false, and_self, Option.toList_some, Option.toList_none, List.singleton_append, List.cons_append, List.nil_append, List.append_nil, nI_1, nt_e, Int32.le_refl, nI_ltI, hnlt, show ob (some b) = nI b from rfl, i_lt0, bits_ok, q1, believes_ok hR hW, clash_ok hR hW, q3, b2i_0, Bool.true_eq_false, Bool.false_eq_true, ↓reduceIte]
            exact hs (some b) _ _ (by rw [hok]; rfl) z1.symm z2.symm
  simp (disch := first | exact am_nl_i _ | exact am_nl_r _ | exact am_nl_0 | assumption | omega | (refine vi_nI ?_ ?_ <;> omega) | exact b2i_01 _ | exact Or.inl rfl | exact Or.inr rfl | (unfold vi; decide)) only [ex_260_0, ex_260_1, ex_260_2, ex_260_5, ex_260_6, ex_260_7, ex_260_8, ex_260_11, ex_260_14, ex_260_15, ex_260_16, ex_260_17, ex_260_18, ex_260_21, ex_260_22, ex_260_23, ex_260_24, ex_260_25, ex_260_26, ex_260_27, ex_260_28, ex_260_29, ex_260_30, ex_260_32, ex_260_33, ex_260_35, ex_260_36, ex_260_40, ex_260_41, ex_260_44, ex_260_45, ex_260_48, ex_260_50, ex_260_53, ex_260_54, ex_260_57, ex_260_60, ex_260_61, ex_260_62, ex_260_63, ex_260_65, ex_260_66, ex_260_67, ex_260_68, ex_260_71, ex_260_74, ex_260_77, ex_260_80, ex_260_81, ex_260_84, ex_260_86, ex_260_89, ex_260_90, ex_260_93, ex_260_96, ex_260_98, ex_260_99, ex_260_100, ex_260_102, ex_260_103, ex_260_105, ex_260_108, ex_260_110, ex_260_112, ex_260_113, ex_260_115, ex_260_118, ex_260_121, ex_260_122, ex_260_125, ex_260_126, ex_260_129, ex_260_132, ex_260_133, ex_260_134, ex_260_137, ex_260_138, ex_260_141, ex_260_142, ex_260_143, ex_260_146, ex_260_148, ex_260_151, ex_260_153, if_true, if_false, and_self, Option.toList_some, Option.toList_none, List.singleton_append, List.cons_append, List.nil_append, List.append_nil, nI_1, nt_e, Int32.le_refl, c1, hn, bi_e, hall]
  exact loop (liesM S.1 + 1) 0 (by omega)
end Lies
