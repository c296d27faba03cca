/-! UNLEARN, LIES: the sets without which nothing clashes -/
def cntF : Nat → (Nat → Bool) → Nat
  | 0, _ => 0
  | n + 1, f => cntF n f + (if f n then 1 else 0)
theorem cntF_le (f : Nat → Bool) : ∀ n, cntF n f ≤ n
  | 0 => Nat.le_refl 0
  | n + 1 => by
    have := cntF_le f n
    rw [cntF]
    split <;> omega
theorem cnt_toInt (f : Nat → Bool) : ∀ n, n ≤ 10000 → sumF n (fun p => b2i (f p)) = nI (cntF n f)
  | 0, _ => rfl
  | n + 1, h => by
    rw [sumF, cnt_toInt f n (by omega), cntF]
    cases f n
    · exact Int32.add_zero _
    · exact nI_1 _
theorem cntF_mono {f g : Nat → Bool} : ∀ {n : Nat}, (∀ i, i < n → f i = true → g i = true) → cntF n f ≤ cntF n g
  | 0, _ => Nat.le_refl 0
  | n + 1, h => by
    have ih := cntF_mono (f := f) (g := g) (n := n) (fun i hi => h i (by omega))
    rw [cntF, cntF]
    cases hf : f n
    · cases g n <;> simp only [Bool.false_eq_true, if_false, if_true] <;> omega
    · rw [h n (by omega) hf]
      omega
theorem cntF_lt {f g : Nat → Bool} {j : Nat} (hf : f j = false) (hg : g j = true) : ∀ {n : Nat}, j < n → (∀ i, i < n → f i = true → g i = true) → cntF n f < cntF n g
  | 0, hj, _ => by omega
  | n + 1, hj, h => by
    rw [cntF, cntF]
    by_cases e : j = n
    · rw [← e, hf, hg]
      have := cntF_mono (f := f) (g := g) (n := j) (fun i hi => h i (by omega))
      simp
      omega
    · have ih := cntF_lt hf hg (n := n) (by omega) (fun i hi => h i (by omega))
      cases hf2 : f n
      · cases g n <;> simp only [Bool.false_eq_true, if_false, if_true] <;> omega
      · rw [h n (by omega) hf2]
        omega
theorem bitsV_cnt (x : Int32) : bitsV x = nI (cntF 13 (bt x)) := cnt_toInt (bt x) 13 (by omega)
theorem few_e (k b : Nat) : few k b = decide (cntF 13 (bt (nI k)) < cntF 13 (bt (nI b))) := by
  have h1 := cntF_le (bt (nI k)) 13
  have h2 := cntF_le (bt (nI b)) 13
  rw [few, bitsV_cnt, bitsV_cnt]
  congr 1
  exact propext (nI_ltI (by omega) (by omega))
theorem sub_few {k m : Nat} (hm : m < 8192) (h : nI k &&& nt (nI m) = 0) (hkm : k < m) : few k m = true := by
  rw [few_e, decide_eq_true_eq]
  rw [sub_iff] at h
  have ⟨j, hj⟩ : ∃ j, k.testBit j ≠ m.testBit j := by
    refine Classical.byContradiction (fun q => ?_)
    have : k = m := Nat.eq_of_testBit_eq fun i => Classical.byContradiction fun z => q ⟨i, z⟩
    omega
  have hj13 : j < 13 := by
    rcases Nat.lt_or_ge j 13 with g | g
    · exact g
    · have e1 : k.testBit j = false := Nat.testBit_lt_two_pow (Nat.lt_of_lt_of_le (show k < 2 ^ 13 by omega) (Nat.pow_le_pow_right (by omega) g))
      have e2 : m.testBit j = false := Nat.testBit_lt_two_pow (Nat.lt_of_lt_of_le (show m < 2 ^ 13 by omega) (Nat.pow_le_pow_right (by omega) g))
      rw [e1, e2] at hj
      exact absurd rfl hj
  rw [← bt_nI (show j < 32 by omega), ← bt_nI (show j < 32 by omega)] at hj
  have hmono : ∀ i, i < 13 → bt (nI k) i = true → bt (nI m) i = true := fun i hi => h i (by omega)
  have hk0 : bt (nI k) j = false := by
    cases q : bt (nI k) j
    · rfl
    · rw [q, h j (by omega) q] at hj
      exact absurd rfl hj
  have hm1 : bt (nI m) j = true := by
    cases q : bt (nI m) j
    · rw [hk0, q] at hj
      exact absurd rfl hj
    · rfl
  exact cntF_lt hk0 hm1 hj13 hmono
def bestG (ok : Nat → Bool) (lt : Nat → Nat → Bool) (m : Nat) : Nat → Nat
  | 0 => m
  | n + 1 => if ok n && lt n (bestG ok lt m n) then n else bestG ok lt m n
theorem bestG_e {ok : Nat → Bool} {m : Nat} (h : ∀ k, k < m → ok k = true → few k m = true) (hm : ok m = true) (h0 : ∀ k, few k k = false) (h2 : ∀ b, b < m → ok b = true → few m b = false) : (∀ k, k ≤ m → bestG ok few m k = (bestF ok few k).getD m) ∧ bestF ok few (m + 1) = some (bestG ok few m (m + 1)) := by
  have h1 : ∀ k, k ≤ m → bestG ok few m k = (bestF ok few k).getD m := by
    intro k
    induction k with
    | zero => intro _; rfl
    | succ k ih =>
      intro hk
      rw [bestG, bestF, ih (by omega)]
      cases hb : bestF ok few k with
      | none =>
        rw [Option.getD_none, Option.all_none, Bool.and_true]
        cases ho : ok k
        · rfl
        · rw [h k (by omega) ho]; rfl
      | some b =>
        rw [Option.getD_some, Option.all_some]
        split <;> rfl
  refine ⟨h1, ?_⟩
  rw [bestF, bestG, h1 m (Nat.le_refl m), hm]
  cases hb : bestF ok few m with
  | none =>
    rw [Option.getD_none, Option.all_none, h0]
    rfl
  | some b =>
    have := bestF_lt hb
    rw [Option.getD_some, Option.all_some, h2 b this.1 this.2]
    rfl
def okUn (v : LV) (p : Int32) (k : Nat) : Bool := decide (nI k &&& nt p = 0) && !tornV v (believesV v (p &&& nt (nI k)))
theorem torn_0 (v : LV) : tornV v 0 = false := by
  have : ∀ n, tornF (clashV v) 0 n = false := fun n => by
    induction n with
    | zero => rfl
    | succ n ih => rw [tornF, ih, b_0]; rfl
  exact this _
theorem believes_0 (v : LV) : believesV v 0 = 0 := by
  apply b_ext
  intro i hi
  rw [b_0]
  cases h : bt (believesV v 0) i
  · rfl
  · unfold believesV at h
    obtain ⟨k, hk, h⟩ := orF_bt.mp h
    rw [b_0] at h
    simp [b_0] at h
theorem and_nt (x : Int32) : x &&& nt x = 0 := by
  rw [sub_iff]
  exact fun i hi h => h
theorem okUn_m (v : LV) (m : Nat) : okUn v (nI m) m = true := by
  rw [okUn, and_nt, believes_0, torn_0]
  rfl
theorem few_0 (k : Nat) : few k k = false := by
  rw [few_e, decide_eq_false (Nat.lt_irrefl _)]
theorem few_as {k b : Nat} (h : few k b = true) : few b k = false := by
  rw [few_e, decide_eq_true_eq] at h
  rw [few_e, decide_eq_false (by omega)]
theorem bestUn {v : LV} {m : Nat} (hm : m < 8192) : bestF (okUn v (nI m)) few (m + 1) = some (bestG (okUn v (nI m)) few m (m + 1)) := by
  refine (bestG_e (fun k hk ho => ?_) (okUn_m v m) few_0 (fun b hb ho => few_as ?_)).2
  · unfold okUn at ho
    rw [Bool.and_eq_true, decide_eq_true_eq] at ho
    exact sub_few hm ho.1 hk
  · unfold okUn at ho
    rw [Bool.and_eq_true, decide_eq_true_eq] at ho
    exact sub_few hm ho.1 hb
theorem okUn_ext {v : LV} {m N : Nat} (h1 : m + 1 ≤ N) (h2 : N ≤ 8192) : bestF (okUn v (nI m)) few N = bestF (okUn v (nI m)) few (m + 1) := bestF_ext h1 (fun k g1 g2 => by
  unfold okUn
  rw [decide_eq_false, Bool.false_and]
  intro h
  have := sub_le (by omega) (by omega) h
  omega)
section Unlearn
variable {d L L' : Nat} {u : am_U} {S : ST} {v : LV} {post : Option Value → am_M → Prop}
theorem endsClash_ok {p : Int32} {k : Nat} (hr : FR u 0 2 = some L) (hL : sh L 3 19) (hC : LibC u L v) (hW : WF v) : Cl (d + 1) 153 [.ref 0, .int p, .int (nI k)] (am_emb u) post ↔ post (some (.int (b2i (okUn v p k)))) (am_emb u) := by
  rw [op_153]
  unfold okUn
  by_cases q1 : nI k &&& nt p = 0
  · rw [decide_eq_true q1]
    cases q2 : tornV v (believesV v (p &&& nt (nI k)))
    · simp (disch := first | exact am_nl_i _ | exact am_nl_r _ | exact am_nl_0 | (refine vi_nI ?_ ?_ <;> omega) | assumption | omega | exact b2i_01 _ | exact Or.inl rfl | exact Or.inr rfl | (unfold vi; decide)) only [ex_153_0, ex_153_1, ex_153_2, ex_153_3, ex_153_4, ex_153_5, ex_153_8, ex_153_9, ex_153_12, ex_153_13, ex_153_16, ex_153_17, ex_153_18, ex_153_19, ex_153_20, ex_153_21, ex_153_24, ex_153_27, ex_153_30, ex_153_31, ex_153_34, ex_153_35, if_true, if_false, and_self, Option.toList_some, Option.toList_none, List.singleton_append, List.cons_append, List.nil_append, List.append_nil, nI_1, nt_e, Int32.le_refl, q1, hr, va_rfs, said_ok hL hC hW, isTorn_ok hL hC hW, q2, b2i_0, Bool.true_eq_false, Bool.false_eq_true, ↓reduceIte]
      exact Iff.rfl
    · simp (disch := first | exact am_nl_i _ | exact am_nl_r _ | exact am_nl_0 | (refine vi_nI ?_ ?_ <;> omega) | assumption | omega | exact b2i_01 _ | exact Or.inl rfl | exact Or.inr rfl | (unfold vi; decide)) only [ex_153_0, ex_153_1, ex_153_2, ex_153_3, ex_153_4, ex_153_5, ex_153_8, ex_153_9, ex_153_12, ex_153_13, ex_153_16, ex_153_17, ex_153_18, ex_153_19, ex_153_20, ex_153_21, ex_153_24, ex_153_27, ex_153_30, ex_153_31, ex_153_34, ex_153_35, if_true, if_false, and_self, Option.toList_some, Option.toList_none, List.singleton_append, List.cons_append, List.nil_append, List.append_nil, nI_1, nt_e, Int32.le_refl, q1, hr, va_rfs, said_ok hL hC hW, isTorn_ok hL hC hW, q2, b2i_0, Bool.true_eq_false, Bool.false_eq_true, ↓reduceIte]
      exact Iff.rfl
  · rw [decide_eq_false q1]
    simp (disch := first | exact am_nl_i _ | exact am_nl_r _ | exact am_nl_0 | (refine vi_nI ?_ ?_ <;> omega) | assumption | omega | exact b2i_01 _ | exact Or.inl rfl | exact Or.inr rfl | (unfold vi; decide)) only [ex_153_0, ex_153_1, ex_153_2, ex_153_3, ex_153_4, ex_153_5, ex_153_8, ex_153_9, ex_153_12, ex_153_13, ex_153_16, ex_153_17, ex_153_18, ex_153_19, ex_153_20, ex_153_21, ex_153_24, ex_153_27, ex_153_30, ex_153_31, ex_153_34, ex_153_35, if_true, if_false, and_self, Option.toList_some, Option.toList_none, List.singleton_append, List.cons_append, List.nil_append, List.append_nil, nI_1, nt_e, Int32.le_refl, q1, Bool.true_eq_false, Bool.false_eq_true, ↓reduceIte]
    exact Iff.rfl
theorem fewest_ok {m : Nat} (hm : m < 4096) (hr : FR u 0 2 = some L) (hL : sh L 3 19) (hC : LibC u L v) (hW : WF v) : Cl (d + 2) 154 [.ref 0, .int (nI m)] (am_emb u) post ↔ post (some (.int (nI (bestG (okUn v (nI m)) few m (m + 1))))) (am_emb u) := by
  refine Cl_iff ?_ post
  rw [op_154]
  have hGb : ∀ k, k ≤ m + 1 → bestG (okUn v (nI m)) few m k < 8192 := by
    intro k
    induction k with
    | zero => intro _; show m < 8192; omega
    | succ k ih =>
      intro hk
      have := ih (by omega)
      rw [bestG]
      split <;> omega
  have loop : ∀ (kz k : Nat), k + kz = m + 1 → Ex (d + 2) 154 4 [some (.ref 0), some (.int (nI m)), some (.int (nI (bestG (okUn v (nI m)) few m k))), some (.int (nI k))] [] (am_emb u) (fun w n => w = some (.int (nI (bestG (okUn v (nI m)) few m (m + 1)))) ∧ n = am_emb u) := by
    intro kz
    induction kz with
    | zero =>
      intro k hk
      obtain rfl : k = m + 1 := by omega
      rw [ex_154_4]
      simp (disch := first | exact am_nl_i _ | exact am_nl_r _ | exact am_nl_0 | (refine vi_nI ?_ ?_ <;> omega) | assumption | omega | exact b2i_01 _ | exact Or.inl rfl | exact Or.inr rfl | (unfold vi; decide)) only [ex_154_0, ex_154_1, ex_154_2, ex_154_3, ex_154_5, ex_154_6, ex_154_10, ex_154_11, ex_154_14, ex_154_17, ex_154_18, ex_154_19, ex_154_20, ex_154_23, ex_154_26, ex_154_27, ex_154_28, ex_154_31, ex_154_34, ex_154_35, if_true, if_false, and_self, Option.toList_some, Option.toList_none, List.singleton_append, List.cons_append, List.nil_append, List.append_nil, nI_1, nt_e, Int32.le_refl, nI_ltI, Nat.lt_succ_self, Bool.true_eq_false, Bool.false_eq_true, ↓reduceIte]
      (try (first | exact ⟨rfl, rfl⟩ | exact ⟨rfl, trivial⟩))
    | succ kz ih =>
      intro k hk
      have ih := ih (k + 1) (by omega)
      have hg := hGb k (by omega)
      have hnlt : ¬ m < k := by omega
      have hF : ∀ (post : Option Value → am_M → Prop), Cl (d + 1) 147 [.int (nI k), .int (nI (bestG (okUn v (nI m)) few m k))] (am_emb u) post ↔ post (some (.int (b2i (few k (bestG (okUn v (nI m)) few m k))))) (am_emb u) := fun post => isFewer_ok (o := some _) (show k < 8192 by omega) (fun b h => by cases h; exact hg)
      rw [bestG] at ih
      generalize bestG (okUn v (nI m)) few m k = b at *
      rw [ex_154_4]
      cases q1 : few k b
      · rw [q1, Bool.and_false] at ih
        simp (disch := first | exact am_nl_i _ | exact am_nl_r _ | exact am_nl_0 | (refine vi_nI ?_ ?_ <;> omega) | assumption | omega | exact b2i_01 _ | exact Or.inl rfl | exact Or.inr rfl | (unfold vi; decide)) only [ex_154_0, ex_154_1, ex_154_2, ex_154_3, ex_154_5, ex_154_6, ex_154_9, ex_154_10, ex_154_11, ex_154_14, ex_154_17, ex_154_18, ex_154_19, ex_154_20, ex_154_23, ex_154_26, ex_154_27, ex_154_28, ex_154_31, ex_154_35, if_true, if_false, and_self, Option.toList_some, Option.toList_none, List.singleton_append, List.cons_append, List.nil_append, List.append_nil, nI_1, nt_e, Int32.le_refl, nI_ltI, hnlt, hF, q1, b2i_0, Bool.true_eq_false, Bool.false_eq_true, ↓reduceIte]
        exact ih
      · rw [q1, Bool.and_true] at ih
        cases q2 : okUn v (nI m) k
        · rw [q2] at ih
          simp (disch := first | exact am_nl_i _ | exact am_nl_r _ | exact am_nl_0 | (refine vi_nI ?_ ?_ <;> omega) | assumption | omega | exact b2i_01 _ | exact Or.inl rfl | exact Or.inr rfl | (unfold vi; decide)) only [ex_154_0, ex_154_1, ex_154_2, ex_154_3, ex_154_5, ex_154_6, ex_154_9, ex_154_10, ex_154_11, ex_154_14, ex_154_17, ex_154_18, ex_154_19, ex_154_20, ex_154_23, ex_154_26, ex_154_27, ex_154_28, ex_154_31, ex_154_35, if_true, if_false, and_self, Option.toList_some, Option.toList_none, List.singleton_append, List.cons_append, List.nil_append, List.append_nil, nI_1, nt_e, Int32.le_refl, nI_ltI, hnlt, hF, q1, b2i_0, endsClash_ok hr hL hC hW, q2, Bool.true_eq_false, Bool.false_eq_true, ↓reduceIte]
          exact ih
        · rw [q2] at ih
          simp (disch := first | exact am_nl_i _ | exact am_nl_r _ | exact am_nl_0 | (refine vi_nI ?_ ?_ <;> omega) | assumption | omega | exact b2i_01 _ | exact Or.inl rfl | exact Or.inr rfl | (unfold vi; decide)) only [ex_154_0, ex_154_1, ex_154_2, ex_154_3, ex_154_5, ex_154_6, ex_154_9, ex_154_10, ex_154_11, ex_154_14, ex_154_17, ex_154_18, ex_154_19, ex_154_20, ex_154_23, ex_154_26, ex_154_27, ex_154_28, ex_154_31, ex_154_35, if_true, if_false, and_self, Option.toList_some, Option.toList_none, List.singleton_append, List.cons_append, List.nil_append, List.append_nil, nI_1, nt_e, Int32.le_refl, nI_ltI, hnlt, hF, q1, b2i_0, endsClash_ok hr hL hC hW, q2, Bool.true_eq_false, Bool.false_eq_true, ↓reduceIte]
          exact ih
  simp (disch := first | exact am_nl_i _ | exact am_nl_r _ | exact am_nl_0 | assumption | omega | (refine vi_nI ?_ ?_ <;> omega) | exact b2i_01 _ | exact Or.inl rfl | exact Or.inr rfl | (unfold vi; decide)) only [ex_154_0, ex_154_1, ex_154_2, ex_154_3, ex_154_5, ex_154_6, ex_154_9, ex_154_10, ex_154_11, ex_154_14, ex_154_17, ex_154_18, ex_154_19, ex_154_20, ex_154_23, ex_154_26, ex_154_27, ex_154_28, ex_154_31, ex_154_34, ex_154_35, if_true, if_false, and_self, Option.toList_some, Option.toList_none, List.singleton_append, List.cons_append, List.nil_append, List.append_nil, nI_1, nt_e, Int32.le_refl]
  exact loop (m + 1) 0 (by omega)
def unlearnS (S : ST) (x : Int32) : Int32 := if okI x (nE S.1) then ob (bestF (okUn S.1 (eatL S.2.1.1 (ix x))) few (2 ^ nP S.1)) else -1
theorem C_unlearn {x : Int32} (hI : InvC u S L L') (hS : WS S) : Cl (d + 3) 137 [.ref 0, .int x] (am_emb u) post ↔ post (some (.int (unlearnS S x))) (am_emb u) := by
  have hL := lib_sh hI.1.2.2.1
  have hW := hS.1
  have hw := hS.2.1.1
  have h6 := hW.1.2.2.1
  have h12 := hW.1.2.1
  have hp := pow_8192 h12
  obtain ⟨⟨r1, r2, r3, r4, r5, r6⟩, ⟨l1, l2, l3⟩, ⟨st1, st2, st3⟩, pst, mk, tp⟩ := hI
  rw [op_137]
  simp (disch := first | exact am_nl_i _ | exact am_nl_r _ | exact am_nl_0 | assumption | omega | (refine vi_nI ?_ ?_ <;> omega) | exact b2i_01 _ | exact Or.inl rfl | exact Or.inr rfl | (unfold vi; decide)) only [ex_137_0, ex_137_1, ex_137_4, ex_137_7, ex_137_8, ex_137_11, ex_137_14, ex_137_15, ex_137_16, ex_137_17, ex_137_18, ex_137_21, ex_137_24, ex_137_27, ex_137_28, ex_137_29, ex_137_32, if_true, if_false, and_self, Option.toList_some, Option.toList_none, List.singleton_append, List.cons_append, List.nil_append, List.append_nil, nI_1, nt_e, Int32.le_refl, r1, va_rfs, has_ok (sh_3_5 hL) l1.1.2.2.1 l1.2.1.2.2.1 (Nat.le_trans h6 (by decide)) h6 (by decide), b2i_0]
  unfold unlearnS
  rw [show decide (0 ≤ x.toInt ∧ x.toInt < (nE S.1 : Int)) = okI x (nE S.1) from rfl]
  cases q : okI x (nE S.1)
  · rw [if_pos rfl]
    exact Iff.rfl
  rw [if_neg (by simp), if_pos rfl]
  obtain ⟨i1, i2⟩ := okI_ix q
  generalize ix x = p at *
  subst i2
  obtain ⟨m, hm, hmu⟩ := set_nat (x := eatL S.2.1.1 p) (n := nP S.1) (by omega) (fun j hj => hw.2.2.1 p j hj)
  rw [hmu, okUn_ext (show m + 1 ≤ 2 ^ nP S.1 by omega) (by omega), bestUn (by omega)]
  simp (disch := first | exact am_nl_i _ | exact am_nl_r _ | exact am_nl_0 | assumption | omega | (refine vi_nI ?_ ?_ <;> omega) | exact b2i_01 _ | exact Or.inl rfl | exact Or.inr rfl | (unfold vi; decide)) only [ex_137_0, ex_137_1, ex_137_4, ex_137_7, ex_137_8, ex_137_11, ex_137_14, ex_137_15, ex_137_16, ex_137_17, ex_137_18, ex_137_21, ex_137_24, ex_137_27, ex_137_28, ex_137_29, ex_137_32, if_true, if_false, and_self, Option.toList_some, Option.toList_none, List.singleton_append, List.cons_append, List.nil_append, List.append_nil, nI_1, nt_e, Int32.le_refl, st1.1, nI_clamp, hmu, fewest_ok (show m < 4096 by omega) r1 hL l1 hW]
  exact Iff.rfl
theorem clash_ok {s : Int32} (hR : LibR u v) (hW : WF v) : Cl d 258 [.ref 203, .int s] (am_emb u) post ↔ post (some (.int (b2i (tornV v s)))) (am_emb u) := by
  refine Cl_iff ?_ post
  have hn := hR.1.1
  have h12 := hW.1.1
  have hs := hR.2.2.1
  rw [op_258]
  have loop : ∀ (k i : Nat), i + k = nF v → tornF (clashV v) s i = false → Ex d 258 2 [some (.ref 203), some (.int s), some (.int (nI i))] [] (am_emb u) (fun w m => w = some (.int (b2i (tornV v s))) ∧ m = am_emb u) := by
    intro k
    induction k with
    | zero =>
      intro i h1 hf
      obtain rfl : i = nF v := by omega
      rw [ex_258_2]
      simp (disch := first | exact am_nl_i _ | exact am_nl_r _ | exact am_nl_0 | (refine vi_nI ?_ ?_ <;> omega) | assumption | omega | exact b2i_01 _ | exact Or.inl rfl | exact Or.inr rfl | (unfold vi; decide)) only [ex_258_0, ex_258_1, ex_258_3, ex_258_4, ex_258_7, ex_258_8, ex_258_9, ex_258_12, ex_258_13, ex_258_14, ex_258_15, ex_258_16, ex_258_17, ex_258_18, ex_258_21, ex_258_22, ex_258_25, ex_258_26, ex_258_27, ex_258_28, ex_258_29, ex_258_32, ex_258_33, ex_258_34, ex_258_37, ex_258_40, ex_258_41, if_true, if_false, and_self, Option.toList_some, Option.toList_none, List.singleton_append, List.cons_append, List.nil_append, List.append_nil, nI_1, nt_e, Int32.le_refl, c0, hn, nI_leI, Nat.le_refl, Bool.true_eq_false, Bool.false_eq_true, ↓reduceIte]
      rw [tornV, hf]
      (try (first | exact ⟨rfl, rfl⟩ | exact ⟨rfl, trivial⟩))
    | succ k ih =>
      intro i h1 hf
      have hlt : i < nF v := by omega
      have hnle : ¬ nF v ≤ i := by omega
      have e1 : tornF (clashV v) s (i + 1) = (bt s i && !decide (clashV v i &&& s = 0)) := by rw [tornF, hf, Bool.false_or]
      rw [ex_258_2]
      cases hb : bt s i
      · simp (disch := first | exact am_nl_i _ | exact am_nl_r _ | exact am_nl_0 | (refine vi_nI ?_ ?_ <;> omega) | assumption | omega | exact b2i_01 _ | exact Or.inl rfl | exact Or.inr rfl | (unfold vi; decide)) only [ex_258_0, ex_258_1, ex_258_3, ex_258_4, ex_258_7, ex_258_8, ex_258_9, ex_258_12, ex_258_13, ex_258_14, ex_258_15, ex_258_16, ex_258_17, ex_258_18, ex_258_21, ex_258_22, ex_258_25, ex_258_26, ex_258_27, ex_258_28, ex_258_29, ex_258_32, ex_258_33, ex_258_34, ex_258_37, ex_258_40, ex_258_41, if_true, if_false, and_self, Option.toList_some, Option.toList_none, List.singleton_append, List.cons_append, List.nil_append, List.append_nil, nI_1, nt_e, Int32.le_refl, c0, hn, nI_leI, hnle, hs, bit_e, nI_clamp, b2i_1, hb, Bool.true_eq_false, Bool.false_eq_true, ↓reduceIte]
        exact ih (i + 1) (by omega) (by rw [e1, hb]; rfl)
      · by_cases hq : clashV v i &&& s = 0
        · simp (disch := first | exact am_nl_i _ | exact am_nl_r _ | exact am_nl_0 | (refine vi_nI ?_ ?_ <;> omega) | assumption | omega | exact b2i_01 _ | exact Or.inl rfl | exact Or.inr rfl | (unfold vi; decide)) only [ex_258_0, ex_258_1, ex_258_3, ex_258_4, ex_258_7, ex_258_8, ex_258_9, ex_258_12, ex_258_13, ex_258_14, ex_258_15, ex_258_16, ex_258_17, ex_258_18, ex_258_21, ex_258_22, ex_258_25, ex_258_26, ex_258_27, ex_258_28, ex_258_29, ex_258_32, ex_258_33, ex_258_34, ex_258_37, ex_258_40, ex_258_41, if_true, if_false, and_self, Option.toList_some, Option.toList_none, List.singleton_append, List.cons_append, List.nil_append, List.append_nil, nI_1, nt_e, Int32.le_refl, c0, hn, nI_leI, hnle, hs, bit_e, nI_clamp, b2i_1, hb, hq, Bool.true_eq_false, Bool.false_eq_true, ↓reduceIte]
          exact ih (i + 1) (by omega) (by rw [e1, decide_eq_true hq]; simp)
        · simp (disch := first | exact am_nl_i _ | exact am_nl_r _ | exact am_nl_0 | (refine vi_nI ?_ ?_ <;> omega) | assumption | omega | exact b2i_01 _ | exact Or.inl rfl | exact Or.inr rfl | (unfold vi; decide)) only [ex_258_0, ex_258_1, ex_258_3, ex_258_4, ex_258_7, ex_258_8, ex_258_9, ex_258_12, ex_258_13, ex_258_14, ex_258_15, ex_258_16, ex_258_17, ex_258_18, ex_258_21, ex_258_22, ex_258_25, ex_258_26, ex_258_27, ex_258_28, ex_258_29, ex_258_32, ex_258_33, ex_258_34, ex_258_37, ex_258_40, ex_258_41, if_true, if_false, and_self, Option.toList_some, Option.toList_none, List.singleton_append, List.cons_append, List.nil_append, List.append_nil, nI_1, nt_e, Int32.le_refl, c0, hn, nI_leI, hnle, hs, bit_e, nI_clamp, b2i_1, hb, hq, Bool.true_eq_false, Bool.false_eq_true, ↓reduceIte]
          rw [tornV, torn_mono (n := nF v) (m := i + 1) (by omega) (by rw [e1, decide_eq_false hq, hb]; rfl)]
          (try (first | exact ⟨rfl, rfl⟩ | exact ⟨rfl, trivial⟩))
  simp (disch := first | exact am_nl_i _ | exact am_nl_r _ | exact am_nl_0 | assumption | omega | (refine vi_nI ?_ ?_ <;> omega) | exact b2i_01 _ | exact Or.inl rfl | exact Or.inr rfl | (unfold vi; decide)) only [ex_258_0, ex_258_1, ex_258_3, ex_258_4, ex_258_7, ex_258_8, ex_258_9, ex_258_12, ex_258_13, ex_258_14, ex_258_15, ex_258_16, ex_258_17, ex_258_18, ex_258_21, ex_258_22, ex_258_25, ex_258_26, ex_258_27, ex_258_28, ex_258_29, ex_258_32, ex_258_33, ex_258_34, ex_258_37, ex_258_40, ex_258_41, if_true, if_false, and_self, Option.toList_some, Option.toList_none, List.singleton_append, List.cons_append, List.nil_append, List.append_nil, nI_1, nt_e, Int32.le_refl]
  exact loop (nF v) 0 (by omega) rfl
theorem R_unlearn {x : Int32} (hI : InvR u S) (hS : WS S) : Cl (d + 2) 259 [.ref 203, .int x] (am_emb u) post ↔ post (some (.int (unlearnS S x))) (am_emb (th u 0)) := by
  refine Cl_iff ?_ post
  have hI1 : InvR (th u 0) S := th_inv hI
  obtain ⟨hR, hcd, ⟨hl, hl2, hl3⟩, hp, hm, htp⟩ := hI1
  have hW := hS.1
  have hw := hS.2.1.1
  have h6 := hW.1.2.2.1
  have h12 := hW.1.2.1
  have hp := pow_8192 h12
  have hn := hR.1.2.1
  have he : ∀ p, p < 6 → AI (th u 0) 241 p = eatL S.2.1.1 p := fun p hp => by have := hl.1 p hp; rwa [Nat.zero_add] at this
  rw [op_259]
  simp (disch := first | exact am_nl_i _ | exact am_nl_r _ | exact am_nl_0 | assumption | omega | (refine vi_nI ?_ ?_ <;> omega) | exact b2i_01 _ | exact Or.inl rfl | exact Or.inr rfl | (unfold vi; decide)) only [ex_259_0, ex_259_1, ex_259_2, ex_259_5, ex_259_6, ex_259_7, ex_259_10, ex_259_13, ex_259_14, ex_259_15, ex_259_16, ex_259_19, ex_259_20, ex_259_21, ex_259_22, ex_259_23, ex_259_24, ex_259_25, ex_259_29, ex_259_30, ex_259_31, ex_259_34, ex_259_35, ex_259_36, ex_259_37, ex_259_40, ex_259_42, ex_259_43, ex_259_44, ex_259_45, ex_259_46, ex_259_49, ex_259_50, ex_259_53, ex_259_55, ex_259_58, ex_259_59, ex_259_62, ex_259_65, ex_259_68, ex_259_69, ex_259_70, ex_259_71, ex_259_73, ex_259_74, ex_259_75, ex_259_76, ex_259_79, ex_259_82, ex_259_85, ex_259_87, ex_259_88, ex_259_91, ex_259_94, ex_259_95, if_true, if_false, and_self, Option.toList_some, Option.toList_none, List.singleton_append, List.cons_append, List.nil_append, List.append_nil, nI_1, nt_e, Int32.le_refl, th_e, isPerson_ok hR hW, b2i_0]
  unfold unlearnS
  cases q : okI x (nE S.1)
  · rw [if_pos rfl]
    (try (first | exact ⟨rfl, rfl⟩ | exact ⟨rfl, trivial⟩))
  rw [if_neg (by simp), if_pos rfl]
  obtain ⟨i1, i2⟩ := okI_ix q
  generalize ix x = p at *
  subst i2
  have e1 := he p (by omega)
  have loop : ∀ (kz k : Nat), k + kz = 2 ^ nP S.1 → Ex (d + 2) 259 27 [some (.ref 203), some (.int (nI p)), some (.int (eatL S.2.1.1 p)), some (.int (ob (bestF (okUn S.1 (eatL S.2.1.1 p)) few k))), some (.int (nI k))] [] (am_emb (th u 0)) (fun w n => w = some (.int (ob (bestF (okUn S.1 (eatL S.2.1.1 p)) few (2 ^ nP S.1)))) ∧ n = am_emb (th u 0)) := by
    intro kz
    induction kz with
    | zero =>
      intro k hk
      obtain rfl : k = 2 ^ nP S.1 := by omega
      rw [ex_259_27]
      simp (disch := first | exact am_nl_i _ | exact am_nl_r _ | exact am_nl_0 | (refine vi_nI ?_ ?_ <;> omega) | assumption | omega | exact b2i_01 _ | exact Or.inl rfl | exact Or.inr rfl | (unfold vi; decide)) only [ex_259_0, ex_259_1, ex_259_2, ex_259_5, ex_259_6, ex_259_7, ex_259_10, ex_259_13, ex_259_14, ex_259_15, ex_259_16, ex_259_19, ex_259_20, ex_259_21, ex_259_22, ex_259_23, ex_259_24, ex_259_25, ex_259_29, ex_259_30, ex_259_31, ex_259_34, ex_259_35, ex_259_36, ex_259_37, ex_259_42, ex_259_43, ex_259_44, ex_259_45, ex_259_46, ex_259_49, ex_259_50, ex_259_53, ex_259_55, ex_259_58, ex_259_59, ex_259_62, ex_259_65, ex_259_68, ex_259_69, ex_259_70, ex_259_71, ex_259_73, ex_259_74, ex_259_75, ex_259_76, ex_259_79, ex_259_82, ex_259_85, ex_259_87, ex_259_88, ex_259_91, ex_259_94, ex_259_95, if_true, if_false, and_self, Option.toList_some, Option.toList_none, List.singleton_append, List.cons_append, List.nil_append, List.append_nil, nI_1, nt_e, Int32.le_refl, c1, hn, bi_e, pow_nI h12, nI_leI, Nat.le_refl, Bool.true_eq_false, Bool.false_eq_true, ↓reduceIte]
      (try (first | exact ⟨rfl, rfl⟩ | exact ⟨rfl, trivial⟩))
    | succ kz ih =>
      intro k hk
      have ih := ih (k + 1) (by omega)
      have hb := best_b (ok := okUn S.1 (eatL S.2.1.1 p)) (lt := few) (n := k) (N := 8192) (by omega)
      have hnle : ¬ 2 ^ nP S.1 ≤ k := by omega
      have hs : ∀ o', o' = bestF (okUn S.1 (eatL S.2.1.1 p)) few (k + 1) → Ex (d + 2) 259 88 [some (.ref 203), some (.int (nI p)), some (.int (eatL S.2.1.1 p)), some (.int (ob o')), some (.int (nI k))] [] (am_emb (th u 0)) (fun w n => w = some (.int (ob (bestF (okUn S.1 (eatL S.2.1.1 p)) few (2 ^ nP S.1)))) ∧ n = am_emb (th u 0)) := by
        intro o' e
        simp (disch := first | exact am_nl_i _ | exact am_nl_r _ | exact am_nl_0 | assumption | omega | (refine vi_nI ?_ ?_ <;> omega) | exact b2i_01 _ | exact Or.inl rfl | exact Or.inr rfl | (unfold vi; decide)) only [ex_259_0, ex_259_1, ex_259_2, ex_259_5, ex_259_6, ex_259_7, ex_259_10, ex_259_13, ex_259_14, ex_259_15, ex_259_16, ex_259_19, ex_259_20, ex_259_21, ex_259_22, ex_259_23, ex_259_24, ex_259_25, ex_259_29, ex_259_30, ex_259_31, ex_259_34, ex_259_35, ex_259_36, ex_259_37, ex_259_40, ex_259_42, ex_259_43, ex_259_44, ex_259_45, ex_259_46, ex_259_49, ex_259_50, ex_259_53, ex_259_55, ex_259_58, ex_259_59, ex_259_62, ex_259_65, ex_259_68, ex_259_69, ex_259_70, ex_259_71, ex_259_73, ex_259_74, ex_259_75, ex_259_76, ex_259_79, ex_259_82, ex_259_85, ex_259_87, ex_259_88, ex_259_91, ex_259_94, ex_259_95, if_true, if_false, and_self, Option.toList_some, Option.toList_none, List.singleton_append, List.cons_append, List.nil_append, List.append_nil, nI_1, nt_e, Int32.le_refl]
        rw [e]
        exact ih
      rw [bestF] at hs
      generalize bestF (okUn S.1 (eatL S.2.1.1 p)) few k = o at *
      have tail : o.all (fun b => few k b) = true → nI k &&& nt (eatL S.2.1.1 p) = 0 → Ex (d + 2) 259 68 [some (.ref 203), some (.int (nI p)), some (.int (eatL S.2.1.1 p)), some (.int (ob o)), some (.int (nI k))] [] (am_emb (th u 0)) (fun w n => w = some (.int (ob (bestF (okUn S.1 (eatL S.2.1.1 p)) few (2 ^ nP S.1)))) ∧ n = am_emb (th u 0)) := by
        intro q2 q1
        cases q3 : tornV S.1 (believesV S.1 (eatL S.2.1.1 p &&& nt (nI k)))
        · simp (disch := first | exact am_nl_i _ | exact am_nl_r _ | exact am_nl_0 | (refine vi_nI ?_ ?_ <;> omega) | assumption | omega | exact b2i_01 _ | exact Or.inl rfl | exact Or.inr rfl | (unfold vi; decide)) only [ex_259_0, ex_259_1, ex_259_2, ex_259_5, ex_259_6, ex_259_7, ex_259_10, ex_259_13, ex_259_14, ex_259_15, ex_259_16, ex_259_19, ex_259_20, ex_259_21, ex_259_22, ex_259_23, ex_259_24, ex_259_25, ex_259_27, ex_259_29, ex_259_30, ex_259_31, ex_259_34, ex_259_35, ex_259_36, ex_259_37, ex_259_40, ex_259_42, ex_259_43, ex_259_44, ex_259_45, ex_259_46, ex_259_49, ex_259_50, ex_259_53, ex_259_55, ex_259_58, ex_259_59, ex_259_62, ex_259_65, ex_259_68, ex_259_69, ex_259_70, ex_259_71, ex_259_73, ex_259_74, ex_259_75, ex_259_76, ex_259_79, ex_259_82, ex_259_85, ex_259_87, ex_259_91, ex_259_94, ex_259_95, if_true, if_false, and_self, Option.toList_some, Option.toList_none, List.singleton_append, List.cons_append, List.nil_append, List.append_nil, nI_1, nt_e, Int32.le_refl, believes_ok hR hW, clash_ok hR hW, q3, b2i_0, Bool.true_eq_false, Bool.false_eq_true, ↓reduceIte]
          exact hs (some k) (by rw [q2, okUn, decide_eq_true q1, q3]; rfl)
        · simp (disch := first | exact am_nl_i _ | exact am_nl_r _ | exact am_nl_0 | (refine vi_nI ?_ ?_ <;> omega) | assumption | omega | exact b2i_01 _ | exact Or.inl rfl | exact Or.inr rfl | (unfold vi; decide)) only [ex_259_0, ex_259_1, ex_259_2, ex_259_5, ex_259_6, ex_259_7, ex_259_10, ex_259_13, ex_259_14, ex_259_15, ex_259_16, ex_259_19, ex_259_20, ex_259_21, ex_259_22, ex_259_23, ex_259_24, ex_259_25, ex_259_27, ex_259_29, ex_259_30, ex_259_31, ex_259_34, ex_259_35, ex_259_36, ex_259_37, ex_259_40, ex_259_42, ex_259_43, ex_259_44, ex_259_45, ex_259_46, ex_259_49, ex_259_50, ex_259_53, ex_259_55, ex_259_58, ex_259_59, ex_259_62, ex_259_65, ex_259_68, ex_259_69, ex_259_70, ex_259_71, ex_259_73, ex_259_74, ex_259_75, ex_259_76, ex_259_79, ex_259_82, ex_259_85, ex_259_87, ex_259_91, ex_259_94, ex_259_95, if_true, if_false, and_self, Option.toList_some, Option.toList_none, List.singleton_append, List.cons_append, List.nil_append, List.append_nil, nI_1, nt_e, Int32.le_refl, believes_ok hR hW, clash_ok hR hW, q3, b2i_0, Bool.true_eq_false, Bool.false_eq_true, ↓reduceIte]
          exact hs _ (by rw [okUn, q3]; simp)
      rw [ex_259_27]
      by_cases q1 : nI k &&& nt (eatL S.2.1.1 p) = 0
      · cases o with
        | none =>
          simp (disch := first | exact am_nl_i _ | exact am_nl_r _ | exact am_nl_0 | (refine vi_nI ?_ ?_ <;> omega) | assumption | omega | exact b2i_01 _ | exact Or.inl rfl | exact Or.inr rfl | (unfold vi; decide)) only [ex_259_0, ex_259_1, ex_259_2, ex_259_5, ex_259_6, ex_259_7, ex_259_10, ex_259_13, ex_259_14, ex_259_15, ex_259_16, ex_259_19, ex_259_20, ex_259_21, ex_259_22, ex_259_23, ex_259_24, ex_259_25, ex_259_29, ex_259_30, ex_259_31, ex_259_34, ex_259_35, ex_259_36, ex_259_37, ex_259_40, ex_259_42, ex_259_43, ex_259_44, ex_259_45, ex_259_46, ex_259_49, ex_259_50, ex_259_53, ex_259_55, ex_259_58, ex_259_59, ex_259_62, ex_259_65, ex_259_69, ex_259_70, ex_259_71, ex_259_73, ex_259_74, ex_259_75, ex_259_76, ex_259_79, ex_259_82, ex_259_85, ex_259_87, ex_259_91, ex_259_95, if_true, if_false, and_self, Option.toList_some, Option.toList_none, List.singleton_append, List.cons_append, List.nil_append, List.append_nil, nI_1, nt_e, Int32.le_refl, c1, hn, bi_e, pow_nI h12, nI_leI, hnle, q1, show ob none = -1 from rfl, show ((-1 : Int32) < (0 : Int32)) = True from eq_true (by decide), Bool.true_eq_false, Bool.false_eq_true, ↓reduceIte]
          exact tail rfl q1
        | some b =>
          have hb8 := hb b rfl
          by_cases q2 : bitsV (nI k) < bitsV (nI b)
          · simp (disch := first | exact am_nl_i _ | exact am_nl_r _ | exact am_nl_0 | (refine vi_nI ?_ ?_ <;> omega) | assumption | omega | exact b2i_01 _ | exact Or.inl rfl | exact Or.inr rfl | (unfold vi; decide)) only [ex_259_0, ex_259_1, ex_259_2, ex_259_5, ex_259_6, ex_259_7, ex_259_10, ex_259_13, ex_259_14, ex_259_15, ex_259_16, ex_259_19, ex_259_20, ex_259_21, ex_259_22, ex_259_23, ex_259_24, ex_259_25, ex_259_29, ex_259_30, ex_259_31, ex_259_34, ex_259_35, ex_259_36, ex_259_37, ex_259_40, ex_259_42, ex_259_43, ex_259_44, ex_259_45, ex_259_46, ex_259_49, ex_259_50, ex_259_53, ex_259_55, ex_259_58, ex_259_59, ex_259_62, ex_259_65, ex_259_69, ex_259_70, ex_259_71, ex_259_73, ex_259_74, ex_259_75, ex_259_76, ex_259_79, ex_259_82, ex_259_85, ex_259_87, ex_259_91, ex_259_95, if_true, if_false, and_self, Option.toList_some, Option.toList_none, List.singleton_append, List.cons_append, List.nil_append, List.append_nil, nI_1, nt_e, Int32.le_refl, c1, hn, bi_e, pow_nI h12, nI_leI, hnle, q1, show ob (some b) = nI b from rfl, i_lt0, bits_ok, q2, Bool.true_eq_false, Bool.false_eq_true, ↓reduceIte]
            exact tail (by rw [Option.all_some, few, decide_eq_true q2]) q1
          · simp (disch := first | exact am_nl_i _ | exact am_nl_r _ | exact am_nl_0 | (refine vi_nI ?_ ?_ <;> omega) | assumption | omega | exact b2i_01 _ | exact Or.inl rfl | exact Or.inr rfl | (unfold vi; decide)) only [ex_259_0, ex_259_1, ex_259_2, ex_259_5, ex_259_6, ex_259_7, ex_259_10, ex_259_13, ex_259_14, ex_259_15, ex_259_16, ex_259_19, ex_259_20, ex_259_21, ex_259_22, ex_259_23, ex_259_24, ex_259_25, ex_259_29, ex_259_30, ex_259_31, ex_259_34, ex_259_35, ex_259_36, ex_259_37, ex_259_40, ex_259_42, ex_259_43, ex_259_44, ex_259_45, ex_259_46, ex_259_49, ex_259_50, ex_259_53, ex_259_55, ex_259_58, ex_259_59, ex_259_62, ex_259_65, ex_259_69, ex_259_70, ex_259_71, ex_259_73, ex_259_74, ex_259_75, ex_259_76, ex_259_79, ex_259_82, ex_259_85, ex_259_87, ex_259_91, ex_259_95, if_true, if_false, and_self, Option.toList_some, Option.toList_none, List.singleton_append, List.cons_append, List.nil_append, List.append_nil, nI_1, nt_e, Int32.le_refl, c1, hn, bi_e, pow_nI h12, nI_leI, hnle, q1, show ob (some b) = nI b from rfl, i_lt0, bits_ok, q2, Bool.true_eq_false, Bool.false_eq_true, ↓reduceIte]
            exact hs (some b) (by rw [Option.all_some, few, decide_eq_false q2]; simp)
      · simp (disch := first | exact am_nl_i _ | exact am_nl_r _ | exact am_nl_0 | (refine vi_nI ?_ ?_ <;> omega) | assumption | omega | exact b2i_01 _ | exact Or.inl rfl | exact Or.inr rfl | (unfold vi; decide)) only [ex_259_0, ex_259_1, ex_259_2, ex_259_5, ex_259_6, ex_259_7, ex_259_10, ex_259_13, ex_259_14, ex_259_15, ex_259_16, ex_259_19, ex_259_20, ex_259_21, ex_259_22, ex_259_23, ex_259_24, ex_259_25, ex_259_29, ex_259_30, ex_259_31, ex_259_34, ex_259_35, ex_259_36, ex_259_37, ex_259_40, ex_259_42, ex_259_43, ex_259_44, ex_259_45, ex_259_46, ex_259_49, ex_259_50, ex_259_53, ex_259_55, ex_259_58, ex_259_59, ex_259_62, ex_259_65, ex_259_69, ex_259_70, ex_259_71, ex_259_73, ex_259_74, ex_259_75, ex_259_76, ex_259_79, ex_259_82, ex_259_85, ex_259_87, ex_259_91, ex_259_95, if_true, if_false, and_self, Option.toList_some, Option.toList_none, List.singleton_append, List.cons_append, List.nil_append, List.append_nil, nI_1, nt_e, Int32.le_refl, c1, hn, bi_e, pow_nI h12, nI_leI, hnle, q1, Bool.true_eq_false, Bool.false_eq_true, ↓reduceIte]
        exact hs _ (by rw [okUn, decide_eq_false q1]; simp)
  simp (disch := first | exact am_nl_i _ | exact am_nl_r _ | exact am_nl_0 | assumption | omega | (refine vi_nI ?_ ?_ <;> omega) | exact b2i_01 _ | exact Or.inl rfl | exact Or.inr rfl | (unfold vi; decide)) only [ex_259_0, ex_259_1, ex_259_2, ex_259_5, ex_259_6, ex_259_7, ex_259_10, ex_259_13, ex_259_14, ex_259_15, ex_259_16, ex_259_19, ex_259_20, ex_259_21, ex_259_22, ex_259_23, ex_259_24, ex_259_25, ex_259_29, ex_259_30, ex_259_31, ex_259_34, ex_259_35, ex_259_36, ex_259_37, ex_259_40, ex_259_42, ex_259_43, ex_259_44, ex_259_45, ex_259_46, ex_259_49, ex_259_50, ex_259_53, ex_259_55, ex_259_58, ex_259_59, ex_259_62, ex_259_65, ex_259_68, ex_259_69, ex_259_70, ex_259_71, ex_259_73, ex_259_74, ex_259_75, ex_259_76, ex_259_79, ex_259_82, ex_259_85, ex_259_87, ex_259_88, ex_259_91, ex_259_94, ex_259_95, if_true, if_false, and_self, Option.toList_some, Option.toList_none, List.singleton_append, List.cons_append, List.nil_append, List.append_nil, nI_1, nt_e, Int32.le_refl, nI_clamp, e1]
  exact loop (2 ^ nP S.1) 0 (by omega)
end Unlearn
