/-! THE REFERENCE'S LEAVES: who knows, what is lost, what is done -/
section RefLeaves3
variable {d : Nat} {u : am_U} {m : am_M} {v : LV} {l : LF} {post : Option Value → am_M → Prop}
/-- how many alive know a fact, as the reference counts -/
theorem knowers_e (hW : WF v) (hw : WL v l) (f : Nat) : sumF (nE v) (fun p => if livesL l p then b2i (bt (knowsV v (eatL l p)) f) else 0) = knowersL v l f := by
  unfold knowersL
  rw [sumF_ext hW.1.2.2.1 (fun i h1 h2 => by rw [livesL, hw.1 i h1]; rfl)]
def knownToV (v : LV) (l : LF) (many : Int32) : Int32 := orF (nF v) (fun f => if many < knowersL v l f then bi f else 0)
theorem knownTo_ok {many : Int32} (hR : LibR u v) (hl : LifeR u v l) (hW : WF v) (hw : WL v l) : Cl (d + 2) 241 [.ref 203, .int many] (am_emb u) post ↔ post (some (.int (knownToV v l many))) (am_emb u) := by
  refine Cl_iff ?_ post
  have hn := hR.1.1
  have hn2 := hR.1.2.2.1
  have h12 := hW.1.1
  have h6 := hW.1.2.2.1
  have hs : ∀ p, p < 6 → AI u 241 p = eatL l p := fun p hp => by have := hl.1 p hp; rwa [Nat.zero_add] at this
  rw [op_241]
  have inner : ∀ (f : Nat), f < nF v → ∀ (acc : Int32), Ex (d + 2) 241 70 [some (.ref 203), some (.int many), some (.int acc), some (.int (nI f)), some (.int (knowersL v l f)), some (.int (nI (nE v)))] [] (am_emb u) (fun w m => w = some (.int (knownToV v l many)) ∧ m = am_emb u) → ∀ (kz j : Nat), j + kz = nE v → Ex (d + 2) 241 20 [some (.ref 203), some (.int many), some (.int acc), some (.int (nI f)), some (.int (sumF j (fun p => if livesL l p then b2i (bt (knowsV v (eatL l p)) f) else 0))), some (.int (nI j))] [] (am_emb u) (fun w m => w = some (.int (knownToV v l many)) ∧ m = am_emb u) := by
    intro f hf acc hx kz
    induction kz with
    | zero =>
      intro j h1
      obtain rfl : j = nE v := by omega
      rw [ex_241_20]
      simp (disch := first | exact am_nl_i _ | exact am_nl_r _ | exact am_nl_0 | assumption | omega | (refine vi_nI ?_ ?_ <;> omega) | exact b2i_01 _ | exact Or.inl rfl | exact Or.inr rfl | (unfold vi; decide)) only [ex_241_0, ex_241_1, ex_241_2, ex_241_3, ex_241_4, ex_241_5, ex_241_6, ex_241_9, ex_241_10, ex_241_11, ex_241_14, ex_241_15, ex_241_17, ex_241_18, ex_241_22, ex_241_23, ex_241_26, ex_241_27, ex_241_28, ex_241_31, ex_241_33, ex_241_34, ex_241_36, ex_241_39, ex_241_42, ex_241_43, ex_241_44, ex_241_47, ex_241_49, ex_241_50, ex_241_53, ex_241_54, ex_241_55, ex_241_56, ex_241_57, ex_241_60, ex_241_61, ex_241_62, ex_241_64, ex_241_67, ex_241_71, ex_241_73, ex_241_74, ex_241_77, ex_241_78, ex_241_79, ex_241_80, ex_241_83, ex_241_84, ex_241_85, ex_241_86, ex_241_89, ex_241_92, ex_241_93, if_true, if_false, and_self, Option.toList_some, Option.toList_none, List.singleton_append, List.cons_append, List.nil_append, List.append_nil, nI_1, nt_e, Int32.le_refl, c2, hn2]
      rw [knowers_e hW hw]
      exact hx
    | succ kz ih =>
      intro j h1
      have hlt : j < nE v := by omega
      have hnle : ¬ nE v ≤ j := by omega
      have h2 := ih (j + 1) (by omega)
      rw [ex_241_20]
      simp (disch := first | exact am_nl_i _ | exact am_nl_r _ | exact am_nl_0 | assumption | omega | (refine vi_nI ?_ ?_ <;> omega) | exact b2i_01 _ | exact Or.inl rfl | exact Or.inr rfl | (unfold vi; decide)) only [ex_241_0, ex_241_1, ex_241_2, ex_241_3, ex_241_4, ex_241_5, ex_241_6, ex_241_9, ex_241_10, ex_241_11, ex_241_14, ex_241_15, ex_241_17, ex_241_18, ex_241_22, ex_241_23, ex_241_26, ex_241_27, ex_241_28, ex_241_31, ex_241_33, ex_241_34, ex_241_36, ex_241_39, ex_241_42, ex_241_43, ex_241_44, ex_241_47, ex_241_49, ex_241_50, ex_241_53, ex_241_54, ex_241_55, ex_241_56, ex_241_57, ex_241_60, ex_241_61, ex_241_62, ex_241_64, ex_241_67, ex_241_71, ex_241_73, ex_241_74, ex_241_77, ex_241_78, ex_241_79, ex_241_80, ex_241_83, ex_241_84, ex_241_85, ex_241_86, ex_241_89, ex_241_92, ex_241_93, if_true, if_false, and_self, Option.toList_some, Option.toList_none, List.singleton_append, List.cons_append, List.nil_append, List.append_nil, nI_1, nt_e, Int32.le_refl, c2, hn2, nI_leI, hlt, hnle, isAlive_ok hR hl hW hw, livesI_nI, knows_ok hR hW, hs, nI_clamp, bit_e, b2i_0]
      rw [sumF] at h2
      cases ha : livesL l j <;> simpa [ha, Int32.add_zero] using h2
  have outer : ∀ (kz f : Nat) (j4 j5 : Option Value), am_nl j4 = true → f + kz = nF v → Ex (d + 2) 241 4 [some (.ref 203), some (.int many), some (.int (orF f (fun f => if many < knowersL v l f then bi f else 0))), some (.int (nI f)), j4, j5] [] (am_emb u) (fun w m => w = some (.int (knownToV v l many)) ∧ m = am_emb u) := by
    intro kz
    induction kz with
    | zero =>
      intro f j6 j7 hj h1
      obtain rfl : f = nF v := by omega
      rw [ex_241_4]
      simp (disch := first | exact am_nl_i _ | exact am_nl_r _ | exact am_nl_0 | assumption | omega | (refine vi_nI ?_ ?_ <;> omega) | exact b2i_01 _ | exact Or.inl rfl | exact Or.inr rfl | (unfold vi; decide)) only [ex_241_0, ex_241_1, ex_241_2, ex_241_3, ex_241_5, ex_241_6, ex_241_9, ex_241_10, ex_241_11, ex_241_14, ex_241_15, ex_241_17, ex_241_18, ex_241_22, ex_241_23, ex_241_26, ex_241_27, ex_241_28, ex_241_31, ex_241_33, ex_241_34, ex_241_36, ex_241_39, ex_241_42, ex_241_43, ex_241_44, ex_241_47, ex_241_49, ex_241_50, ex_241_53, ex_241_54, ex_241_55, ex_241_56, ex_241_57, ex_241_60, ex_241_61, ex_241_62, ex_241_64, ex_241_67, ex_241_70, ex_241_71, ex_241_73, ex_241_74, ex_241_77, ex_241_78, ex_241_79, ex_241_80, ex_241_83, ex_241_84, ex_241_85, ex_241_86, ex_241_89, ex_241_92, ex_241_93, if_true, if_false, and_self, Option.toList_some, Option.toList_none, List.singleton_append, List.cons_append, List.nil_append, List.append_nil, nI_1, nt_e, Int32.le_refl, c0, hn]
      exact ⟨rfl, trivial⟩
    | succ kz ih =>
      intro f j6 j7 hj h1
      have hlt : f < nF v := by omega
      have hnle : ¬ nF v ≤ f := by omega
      rw [ex_241_4]
      simp (disch := first | exact am_nl_i _ | exact am_nl_r _ | exact am_nl_0 | assumption | omega | (refine vi_nI ?_ ?_ <;> omega) | exact b2i_01 _ | exact Or.inl rfl | exact Or.inr rfl | (unfold vi; decide)) only [ex_241_0, ex_241_1, ex_241_2, ex_241_3, ex_241_5, ex_241_6, ex_241_9, ex_241_10, ex_241_11, ex_241_14, ex_241_15, ex_241_17, ex_241_18, ex_241_22, ex_241_23, ex_241_26, ex_241_27, ex_241_28, ex_241_31, ex_241_33, ex_241_34, ex_241_36, ex_241_39, ex_241_42, ex_241_43, ex_241_44, ex_241_47, ex_241_49, ex_241_50, ex_241_53, ex_241_54, ex_241_55, ex_241_56, ex_241_57, ex_241_60, ex_241_61, ex_241_62, ex_241_64, ex_241_67, ex_241_70, ex_241_71, ex_241_73, ex_241_74, ex_241_77, ex_241_78, ex_241_79, ex_241_80, ex_241_83, ex_241_84, ex_241_85, ex_241_86, ex_241_89, ex_241_92, ex_241_93, if_true, if_false, and_self, Option.toList_some, Option.toList_none, List.singleton_append, List.cons_append, List.nil_append, List.append_nil, nI_1, nt_e, Int32.le_refl, c0, hn, nI_leI, hlt, hnle]
      refine inner f hlt _ ?_ (nE v) 0 (by omega)
      simp (disch := first | exact am_nl_i _ | exact am_nl_r _ | exact am_nl_0 | assumption | omega | (refine vi_nI ?_ ?_ <;> omega) | exact b2i_01 _ | exact Or.inl rfl | exact Or.inr rfl | (unfold vi; decide)) only [ex_241_0, ex_241_1, ex_241_2, ex_241_3, ex_241_5, ex_241_6, ex_241_9, ex_241_10, ex_241_11, ex_241_14, ex_241_15, ex_241_17, ex_241_18, ex_241_22, ex_241_23, ex_241_26, ex_241_27, ex_241_28, ex_241_31, ex_241_33, ex_241_34, ex_241_36, ex_241_39, ex_241_42, ex_241_43, ex_241_44, ex_241_47, ex_241_49, ex_241_50, ex_241_53, ex_241_54, ex_241_55, ex_241_56, ex_241_57, ex_241_60, ex_241_61, ex_241_62, ex_241_64, ex_241_67, ex_241_70, ex_241_71, ex_241_73, ex_241_74, ex_241_77, ex_241_78, ex_241_79, ex_241_80, ex_241_83, ex_241_84, ex_241_85, ex_241_86, ex_241_89, ex_241_92, ex_241_93, if_true, if_false, and_self, Option.toList_some, Option.toList_none, List.singleton_append, List.cons_append, List.nil_append, List.append_nil, nI_1, nt_e, Int32.le_refl, bi_e]
      have h2 := ih (f + 1) (some (.int (knowersL v l f))) (some (.int (nI (nE v)))) rfl (by omega)
      rw [orF] at h2
      by_cases hq : many < knowersL v l f
      · rw [if_neg (Int32.not_le.mpr hq)]
        rw [if_pos hq] at h2
        exact h2
      · rw [if_pos (Int32.not_lt.mp hq)]
        rw [if_neg hq] at h2
        exact h2
  simp (disch := first | exact am_nl_i _ | exact am_nl_r _ | exact am_nl_0 | assumption | omega | (refine vi_nI ?_ ?_ <;> omega) | exact b2i_01 _ | exact Or.inl rfl | exact Or.inr rfl | (unfold vi; decide)) only [ex_241_0, ex_241_1, ex_241_2, ex_241_3, ex_241_5, ex_241_6, ex_241_9, ex_241_10, ex_241_11, ex_241_14, ex_241_15, ex_241_17, ex_241_18, ex_241_22, ex_241_23, ex_241_26, ex_241_27, ex_241_28, ex_241_31, ex_241_33, ex_241_34, ex_241_36, ex_241_39, ex_241_42, ex_241_43, ex_241_44, ex_241_47, ex_241_49, ex_241_50, ex_241_53, ex_241_54, ex_241_55, ex_241_56, ex_241_57, ex_241_60, ex_241_61, ex_241_62, ex_241_64, ex_241_67, ex_241_70, ex_241_71, ex_241_73, ex_241_74, ex_241_77, ex_241_78, ex_241_79, ex_241_80, ex_241_83, ex_241_84, ex_241_85, ex_241_86, ex_241_89, ex_241_92, ex_241_93, if_true, if_false, and_self, Option.toList_some, Option.toList_none, List.singleton_append, List.cons_append, List.nil_append, List.append_nil, nI_1, nt_e, Int32.le_refl]
  exact outer (nF v) 0 none none rfl (by omega)
theorem b2i_toInt (c : Bool) : (b2i c).toInt = if c then 1 else 0 := by cases c <;> rfl
theorem knowers_toInt (n : Nat) (hn : n ≤ 6) (g : Nat → Bool) : (sumF n (fun p => b2i (g p))).toInt = ((List.range n).countP g : Nat) := by
  induction n with
  | zero => rfl
  | succ n ih =>
    have h1 := ih (by omega)
    have h2 : (List.range n).countP g ≤ n := by have := List.countP_le_length (p := g) (l := List.range n); simpa using this
    rw [sumF, Int32.toInt_add, h1, b2i_toInt, List.range_succ, List.countP_append]
    cases hg : g n
    · simp only [Bool.false_eq_true, if_false, List.countP_singleton, hg]
      rw [Int.bmod_eq_of_le (by omega) (by omega)]
      simp
    · simp only [if_true, List.countP_singleton, hg]
      rw [Int.bmod_eq_of_le (by omega) (by omega)]
      simp
theorem knowers_pos (f : Nat) : (0 < knowersL v l f) ↔ ∃ p, p < 6 ∧ livesL l p = true ∧ bt (knowsV v (eatL l p)) f = true := by
  have e : knowersL v l f = sumF 6 (fun p => b2i (livesL l p && bt (knowsV v (eatL l p)) f)) := by
    unfold knowersL
    congr 1
    funext p
    cases livesL l p <;> simp [b2i]
  rw [e, Int32.lt_iff_toInt_lt, Int32.toInt_zero, knowers_toInt 6 (by omega)]
  constructor
  · intro h
    have h2 : 0 < (List.range 6).countP (fun p => livesL l p && bt (knowsV v (eatL l p)) f) := by omega
    obtain ⟨p, hp, hq⟩ := List.countP_pos_iff.mp h2
    simp only [Bool.and_eq_true] at hq
    exact ⟨p, List.mem_range.mp hp, hq.1, hq.2⟩
  · rintro ⟨p, hp, h1, h2⟩
    have : 0 < (List.range 6).countP (fun p => livesL l p && bt (knowsV v (eatL l p)) f) := List.countP_pos_iff.mpr ⟨p, List.mem_range.mpr hp, by rw [h1, h2]; rfl⟩
    omega
theorem says_bt (hW : WF v) {i j : Nat} (hi : i < nP v) (hj : nF v ≤ j) : bt (saysV v i) j = false := (hW.2.2.2.1 i hi).2.2.2 j hj
theorem knows_bt (hW : WF v) (s : Int32) {j : Nat} (hj : nF v ≤ j) : bt (knowsV v s) j = false := by
  cases h : bt (knowsV v s) j
  · rfl
  · unfold knowsV at h
    obtain ⟨k, hk, h2⟩ := orF_bt.mp h
    split at h2
    · rw [says_bt hW hk hj] at h2; cases h2
    · rw [b_0] at h2; cases h2
theorem knownTo0_e (hW : WF v) : knownToV v l 0 = knownToSomeV v l := by
  apply b_ext
  intro j hj
  have h12 := hW.1.1
  have h1 : bt (knownToV v l 0) j = true ↔ (j < nF v ∧ 0 < knowersL v l j) := by
    unfold knownToV
    rw [orF_bt]
    constructor
    · rintro ⟨k, hk, h⟩
      split at h
      · next hq =>
        rw [bt_bi (by omega) hj] at h
        have := of_decide_eq_true h
        subst this
        exact ⟨hk, hq⟩
      · rw [b_0] at h; cases h
    · rintro ⟨hk, hq⟩
      exact ⟨j, hk, by rw [if_pos hq, bt_bi hj hj]; simp⟩
  have h2 : bt (knownToSomeV v l) j = true ↔ (j < nF v ∧ 0 < knowersL v l j) := by
    unfold knownToSomeV
    rw [orF_bt, knowers_pos]
    constructor
    · rintro ⟨p, hp, h⟩
      split at h
      · next hq =>
        refine ⟨?_, p, hp, hq, h⟩
        rcases Nat.lt_or_ge j (nF v) with q | q
        · exact q
        · rw [knows_bt hW _ q] at h; cases h
      · rw [b_0] at h; cases h
    · rintro ⟨hk, p, hp, hq, h⟩
      exact ⟨p, hp, by rw [if_pos hq]; exact h⟩
  cases ha : bt (knownToV v l 0) j <;> cases hb : bt (knownToSomeV v l) j
  · rfl
  · rw [ha] at h1; exact absurd (h1.mpr (h2.mp hb)) (by simp)
  · rw [hb] at h2; exact absurd (h2.mpr (h1.mp ha)) (by simp)
  · rfl
theorem lostNow_ok (hR : LibR u v) (hl : LifeR u v l) (hW : WF v) (hw : WL v l) : Cl (d + 3) 243 [.ref 203] (am_emb u) post ↔ post (some (.int (goneV v l))) (am_emb u) := by
  rw [op_243]
  simp (disch := first | exact am_nl_i _ | exact am_nl_r _ | exact am_nl_0 | assumption | omega | (refine vi_nI ?_ ?_ <;> omega) | exact b2i_01 _ | exact Or.inl rfl | exact Or.inr rfl | (unfold vi; decide)) only [ex_243_0, ex_243_1, ex_243_2, ex_243_5, ex_243_6, ex_243_7, ex_243_8, ex_243_9, ex_243_10, ex_243_11, ex_243_12, ex_243_15, ex_243_16, ex_243_17, ex_243_18, ex_243_19, ex_243_20, ex_243_23, ex_243_26, ex_243_27, ex_243_28, ex_243_29, if_true, if_false, and_self, Option.toList_some, Option.toList_none, List.singleton_append, List.cons_append, List.nil_append, List.append_nil, nI_1, nt_e, Int32.le_refl, c0, hR.1.1, knownTo_ok hR hl hW hw, knownTo0_e hW, withCopies_ok hR hl hW hw, knows_ok hR hW, bi_e]
  exact Iff.rfl
end RefLeaves3
