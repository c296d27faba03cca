/-! SAFE -/
theorem orF_sel {n : Nat} {c : Nat → Prop} [DecidablePred c] (hn : n ≤ 32) {i : Nat} (hi : i < 32) : bt (orF n (fun k => if c k then bi k else 0)) i = (decide (i < n) && decide (c i)) := by
  have h : bt (orF n (fun k => if c k then bi k else 0)) i = true ↔ (i < n ∧ c i) := by
    rw [orF_bt]
    constructor
    · rintro ⟨k, hk, h⟩
      by_cases hc : c k
      · rw [if_pos hc, bt_bi (by omega) hi] at h
        have := of_decide_eq_true h
        subst this
        exact ⟨hk, hc⟩
      · rw [if_neg hc, b_0] at h
        cases h
    · rintro ⟨h1, h2⟩
      exact ⟨i, h1, by rw [if_pos h2, bt_bi hi hi, decide_eq_true rfl]⟩
  by_cases q : i < n ∧ c i
  · rw [h.mpr q, decide_eq_true q.1, decide_eq_true q.2]; rfl
  · cases hb : bt (orF n (fun k => if c k then bi k else 0)) i
    · rcases Nat.lt_or_ge i n with g | g
      · rw [decide_eq_false (fun z => q ⟨g, z⟩), Bool.and_false]
      · rw [decide_eq_false (by omega)]; rfl
    · exact absurd (h.mp hb) q
theorem sub_iff {x y : Int32} : x &&& nt y = 0 ↔ ∀ i, i < 32 → bt x i = true → bt y i = true := by
  rw [bt_eq0]
  constructor
  · intro h i hi hx
    have := h i hi
    rw [b_and, bt_nt _ hi, hx] at this
    simpa using this
  · intro h i hi
    rw [b_and, bt_nt _ hi]
    cases hx : bt x i
    · rfl
    · rw [h i hi hx]; rfl
def anyF : Nat → (Nat → Bool) → Bool
  | 0, _ => false
  | n + 1, f => anyF n f || f n
theorem anyF_iff {n : Nat} {f : Nat → Bool} : anyF n f = false ↔ ∀ i, i < n → f i = false := by
  induction n with
  | zero => exact iff_of_true rfl (fun i hi => absurd hi (Nat.not_lt_zero i))
  | succ n ih =>
    rw [anyF, Bool.or_eq_false_iff, ih]
    constructor
    · rintro ⟨h1, h2⟩ i hi
      by_cases e : i = n
      · rw [e]; exact h2
      · exact h1 i (by omega)
    · exact fun h => ⟨fun i hi => h i (by omega), h n (by omega)⟩
def liesK (v : LV) (k : Nat) : Bool := anyF (nP v) (fun i => bt (nI k) i && lie v i)
theorem stock_bt {v : LV} {l : LF} (hw : WL v l) {i : Nat} (hi : nP v ≤ i) : bt (inStockL l) i = false := by
  rcases Nat.lt_or_ge i 32 with h | h
  · unfold inStockL
    rw [orF_sel (by omega) h, decide_eq_false (p := 0 < copL l i) (by rw [hw.2.2.2.2.1 i hi]; decide), Bool.and_false]
  · exact b_big h
theorem honest_sub {v : LV} (hW : WF v) {k : Nat} (hk : k < 2 ^ nP v) : (∀ i, i < 32 → bt (nI k) i = true → bt (honestV v) i = true) ↔ liesK v k = false := by
  have h12 := hW.1.2.1
  unfold liesK
  rw [anyF_iff]
  constructor
  · intro h i hi
    cases hb : bt (nI k) i
    · rfl
    · have := h i (by omega) hb
      rw [honest_bt hW hi] at this
      simpa using this
  · intro h i hi hb
    rcases Nat.lt_or_ge i (nP v) with g | g
    · have := h i g
      rw [hb, Bool.true_and] at this
      rw [honest_bt hW g, this]
      rfl
    · rw [bt_big hk g] at hb
      cases hb
theorem know_sub {v : LV} {k : Nat} (h : liesK v k = false) : believesV v (nI k) = knowsV v (nI k) := by
  unfold liesK at h
  rw [anyF_iff] at h
  refine orF_congr fun i hi => ?_
  have := h i hi
  cases hb : bt (nI k) i
  · rfl
  · rw [hb, Bool.true_and] at this
    rw [this]
    rfl
theorem rare_e {v : LV} {l : LF} (hW : WF v) (x : Int32) : (allFV v &&& nt (goneV v l)) &&& nt (knownToV v l x) = atMostL v l x &&& nt (goneV v l) := by
  have h12 := hW.1.1
  apply b_ext
  intro i hi
  unfold allFV knownToV atMostL
  rw [b_and, b_and, b_and, bt_nt _ hi, bt_nt _ hi, orF_sel (by omega) hi, orF_sel (by omega) hi, bim_bt _ (by omega) i hi]
  by_cases q : knowersL v l i ≤ x
  · rw [decide_eq_true q, decide_eq_false (Int32.not_lt.mpr q)]
    cases decide (i < nF v) <;> cases bt (goneV v l) i <;> rfl
  · rw [decide_eq_false q, decide_eq_true (Int32.not_le.mp q)]
    cases decide (i < nF v) <;> cases bt (goneV v l) i <;> rfl
def okSafe (v : LV) (l : LF) (x : Int32) (k : Nat) : Bool := decide (nI k &&& nt (inStockL l &&& honestV v) = 0) && decide ((atMostL v l x &&& nt (goneV v l)) &&& nt (believesV v (nI k)) = 0)
def okSafeR (v : LV) (l : LF) (x : Int32) (k : Nat) : Bool := decide (nI k &&& nt (inStockL l) = 0) && (!liesK v k && decide ((atMostL v l x &&& nt (goneV v l)) &&& nt (knowsV v (nI k)) = 0))
theorem okSafe_e {v : LV} {l : LF} {x : Int32} {k : Nat} (hW : WF v) (hk : k < 2 ^ nP v) : okSafe v l x k = okSafeR v l x k := by
  unfold okSafe okSafeR
  cases hl : liesK v k
  · rw [know_sub hl]
    have hh := (honest_sub hW hk).mpr hl
    have : decide (nI k &&& nt (inStockL l &&& honestV v) = 0) = decide (nI k &&& nt (inStockL l) = 0) := by
      congr 1
      rw [sub_iff, sub_iff]
      exact propext ⟨fun h i hi hx => by have := h i hi hx; rw [b_and, Bool.and_eq_true] at this; exact this.1, fun h i hi hx => by rw [b_and, h i hi hx, hh i hi hx]; rfl⟩
    rw [this]
    rfl
  · have : decide (nI k &&& nt (inStockL l &&& honestV v) = 0) = false := by
      refine decide_eq_false (fun h => ?_)
      rw [sub_iff] at h
      have := (honest_sub hW hk).mp (fun i hi hx => by have := h i hi hx; rw [b_and, Bool.and_eq_true] at this; exact this.2)
      rw [hl] at this
      cases this
    rw [this, Bool.false_and, Bool.not_true, Bool.false_and, Bool.and_false]
def safeS (S : ST) (x : Int32) : Int32 := if okI x 7 then ob (bestF (okSafe S.1 S.2.1.1 x) few (2 ^ nP S.1)) else -1
section Safe
variable {d L L' : Nat} {u : am_U} {S : ST} {post : Option Value → am_M → Prop}
theorem best_b {ok : Nat → Bool} {lt : Nat → Nat → Bool} {n N : Nat} (h : n ≤ N) : ∀ b, bestF ok lt n = some b → b < N := fun b hb => Nat.lt_of_lt_of_le (bestF_lt hb).1 h
theorem C_safe {x : Int32} (hI : InvC u S L L') (hS : WS S) : Cl (d + 4) 132 [.ref 0, .int x] (am_emb u) post ↔ post (some (.int (safeS S x))) (am_emb u) := by
  refine Cl_iff ?_ post
  have hL := lib_sh hI.1.2.2.1
  have hW := hS.1
  have hw := hS.2.1.1
  have h12 := hW.1.2.1
  have hp := pow_8192 h12
  obtain ⟨⟨r1, r2, r3, r4, r5, r6⟩, ⟨l1, l2, l3⟩, ⟨st1, st2, st3⟩, pst, mk, tp⟩ := hI
  obtain ⟨m, hm, hmu⟩ := set_nat (x := inStockL S.2.1.1 &&& honestV S.1) (n := nP S.1) (by omega) (fun j hj => by rw [b_and, stock_bt hw hj]; rfl)
  rw [op_132]
  simp (disch := first | exact am_nl_i _ | exact am_nl_r _ | exact am_nl_0 | assumption | omega | (refine vi_nI ?_ ?_ <;> omega) | exact b2i_01 _ | exact Or.inl rfl | exact Or.inr rfl | (unfold vi; decide)) only [ex_132_0, ex_132_1, ex_132_4, ex_132_5, ex_132_7, ex_132_10, ex_132_11, ex_132_13, ex_132_16, ex_132_19, ex_132_20, ex_132_23, ex_132_24, ex_132_27, ex_132_28, ex_132_31, ex_132_34, ex_132_35, ex_132_38, ex_132_41, ex_132_42, ex_132_43, ex_132_44, ex_132_45, ex_132_46, ex_132_49, ex_132_52, ex_132_55, ex_132_56, ex_132_59, ex_132_62, ex_132_63, ex_132_64, ex_132_65, ex_132_67, ex_132_68, ex_132_70, ex_132_72, ex_132_73, ex_132_76, ex_132_78, ex_132_79, ex_132_80, ex_132_81, ex_132_82, ex_132_85, ex_132_87, ex_132_89, ex_132_92, ex_132_95, ex_132_96, ex_132_97, ex_132_100, ex_132_102, ex_132_105, ex_132_106, ex_132_107, ex_132_108, ex_132_111, ex_132_113, ex_132_115, ex_132_118, ex_132_121, ex_132_123, if_true, if_false, and_self, Option.toList_some, Option.toList_none, List.singleton_append, List.cons_append, List.nil_append, List.append_nil, nI_1, nt_e, Int32.le_refl]
  unfold safeS
  refine okI_g2 (n := 6) (by decide) (fun q => ?_) (fun q => ?_)
  · rw [q]
    (try (first | exact ⟨rfl, rfl⟩ | exact ⟨rfl, trivial⟩))
  rw [q, if_pos rfl]
  have hend : bestF (okSafe S.1 S.2.1.1 x) few (2 ^ nP S.1) = bestF (okSafe S.1 S.2.1.1 x) few (m + 1) := bestF_ext (by omega) (fun k h1 h2 => by
    unfold okSafe
    rw [decide_eq_false, Bool.false_and]
    intro h
    rw [hmu] at h
    have := sub_le (by omega) (by omega) h
    omega)
  rw [hend]
  have hFR := r1
  have loop : ∀ (kz k : Nat), k + kz = m + 1 → Ex (d + 4) 132 70 [some (.ref 0), some (.int x), some (.int (atMostL S.1 S.2.1.1 x &&& nt (goneV S.1 S.2.1.1))), some (.int (inStockL S.2.1.1 &&& honestV S.1)), some (.int (ob (bestF (okSafe S.1 S.2.1.1 x) few k))), some (.int (nI k))] [] (am_emb u) (fun w n => w = some (.int (ob (bestF (okSafe S.1 S.2.1.1 x) few (m + 1)))) ∧ n = am_emb u) := by
    intro kz
    induction kz with
    | zero =>
      intro k hk
      obtain rfl : k = m + 1 := by omega
      have g1 : (inStockL S.2.1.1 &&& honestV S.1 < nI (m + 1)) = True := by rw [hmu, nI_ltI (by omega) (by omega)]; exact eq_true (by omega)
      rw [ex_132_70]
      simp (disch := first | exact am_nl_i _ | exact am_nl_r _ | exact am_nl_0 | (refine vi_nI ?_ ?_ <;> omega) | assumption | omega | exact b2i_01 _ | exact Or.inl rfl | exact Or.inr rfl | (unfold vi; decide)) only [ex_132_0, ex_132_1, ex_132_4, ex_132_5, ex_132_7, ex_132_10, ex_132_11, ex_132_12, ex_132_13, ex_132_16, ex_132_19, ex_132_20, ex_132_23, ex_132_24, ex_132_27, ex_132_28, ex_132_31, ex_132_34, ex_132_35, ex_132_38, ex_132_41, ex_132_42, ex_132_43, ex_132_44, ex_132_45, ex_132_46, ex_132_49, ex_132_52, ex_132_55, ex_132_56, ex_132_59, ex_132_62, ex_132_63, ex_132_64, ex_132_65, ex_132_67, ex_132_68, ex_132_72, ex_132_73, ex_132_78, ex_132_79, ex_132_80, ex_132_81, ex_132_82, ex_132_85, ex_132_87, ex_132_89, ex_132_92, ex_132_95, ex_132_96, ex_132_97, ex_132_100, ex_132_102, ex_132_105, ex_132_106, ex_132_107, ex_132_108, ex_132_111, ex_132_113, ex_132_115, ex_132_118, ex_132_121, ex_132_123, if_true, if_false, and_self, Option.toList_some, Option.toList_none, List.singleton_append, List.cons_append, List.nil_append, List.append_nil, nI_1, nt_e, Int32.le_refl, g1, Bool.true_eq_false, Bool.false_eq_true, ↓reduceIte]
      (try (first | exact ⟨rfl, rfl⟩ | exact ⟨rfl, trivial⟩))
    | succ kz ih =>
      intro k hk
      have ih := ih (k + 1) (by omega)
      have hb := best_b (ok := okSafe S.1 S.2.1.1 x) (lt := few) (n := k) (N := 8192) (by omega)
      have hk8 : k < 8192 := by omega
      have g1 : (inStockL S.2.1.1 &&& honestV S.1 < nI k) = False := by rw [hmu, nI_ltI (by omega) (by omega)]; exact eq_false (by omega)
      have hs : ∀ o', o' = bestF (okSafe S.1 S.2.1.1 x) few (k + 1) → Ex (d + 4) 132 115 [some (.ref 0), some (.int x), some (.int (atMostL S.1 S.2.1.1 x &&& nt (goneV S.1 S.2.1.1))), some (.int (inStockL S.2.1.1 &&& honestV S.1)), some (.int (ob o')), some (.int (nI k))] [] (am_emb u) (fun w n => w = some (.int (ob (bestF (okSafe S.1 S.2.1.1 x) few (m + 1)))) ∧ n = am_emb u) := by
        intro o' e
        simp (disch := first | exact am_nl_i _ | exact am_nl_r _ | exact am_nl_0 | assumption | omega | (refine vi_nI ?_ ?_ <;> omega) | exact b2i_01 _ | exact Or.inl rfl | exact Or.inr rfl | (unfold vi; decide)) only [ex_132_0, ex_132_1, ex_132_4, ex_132_5, ex_132_7, ex_132_10, ex_132_11, ex_132_12, ex_132_13, ex_132_16, ex_132_19, ex_132_20, ex_132_23, ex_132_24, ex_132_27, ex_132_28, ex_132_31, ex_132_34, ex_132_35, ex_132_38, ex_132_41, ex_132_42, ex_132_43, ex_132_44, ex_132_45, ex_132_46, ex_132_49, ex_132_52, ex_132_55, ex_132_56, ex_132_59, ex_132_62, ex_132_63, ex_132_64, ex_132_65, ex_132_67, ex_132_68, ex_132_72, ex_132_73, ex_132_76, ex_132_78, ex_132_79, ex_132_80, ex_132_81, ex_132_82, ex_132_85, ex_132_87, ex_132_89, ex_132_92, ex_132_95, ex_132_96, ex_132_97, ex_132_100, ex_132_102, ex_132_105, ex_132_106, ex_132_107, ex_132_108, ex_132_111, ex_132_113, ex_132_115, ex_132_118, ex_132_121, ex_132_123, if_true, if_false, and_self, Option.toList_some, Option.toList_none, List.singleton_append, List.cons_append, List.nil_append, List.append_nil, nI_1, nt_e, Int32.le_refl]
        rw [e]
        exact ih
      rw [bestF] at hs
      generalize bestF (okSafe S.1 S.2.1.1 x) few k = o at *
      rw [ex_132_70]
      by_cases q1 : nI k &&& nt (inStockL S.2.1.1 &&& honestV S.1) = 0
      · cases q2 : o.all (fun b => few k b)
        · simp (disch := first | exact am_nl_i _ | exact am_nl_r _ | exact am_nl_0 | (refine vi_nI ?_ ?_ <;> omega) | assumption | omega | exact b2i_01 _ | exact Or.inl rfl | exact Or.inr rfl | (unfold vi; decide)) only [ex_132_0, ex_132_1, ex_132_4, ex_132_5, ex_132_7, ex_132_10, ex_132_11, ex_132_12, ex_132_13, ex_132_16, ex_132_19, ex_132_20, ex_132_23, ex_132_24, ex_132_27, ex_132_28, ex_132_31, ex_132_34, ex_132_35, ex_132_38, ex_132_41, ex_132_42, ex_132_43, ex_132_44, ex_132_45, ex_132_46, ex_132_49, ex_132_52, ex_132_55, ex_132_56, ex_132_59, ex_132_62, ex_132_63, ex_132_64, ex_132_65, ex_132_67, ex_132_68, ex_132_72, ex_132_73, ex_132_76, ex_132_78, ex_132_79, ex_132_80, ex_132_81, ex_132_82, ex_132_85, ex_132_87, ex_132_89, ex_132_92, ex_132_95, ex_132_96, ex_132_97, ex_132_100, ex_132_102, ex_132_105, ex_132_106, ex_132_107, ex_132_108, ex_132_111, ex_132_113, ex_132_118, ex_132_123, if_true, if_false, and_self, Option.toList_some, Option.toList_none, List.singleton_append, List.cons_append, List.nil_append, List.append_nil, nI_1, nt_e, Int32.le_refl, g1, q1, isFewer_ok hk8 hb, q2, b2i_0, Bool.true_eq_false, Bool.false_eq_true, ↓reduceIte]
          exact hs _ (by rw [q2]; simp)
        · by_cases q3 : (atMostL S.1 S.2.1.1 x &&& nt (goneV S.1 S.2.1.1)) &&& nt (believesV S.1 (nI k)) = 0
          · simp (disch := first | exact am_nl_i _ | exact am_nl_r _ | exact am_nl_0 | (refine vi_nI ?_ ?_ <;> omega) | assumption | omega | exact b2i_01 _ | exact Or.inl rfl | exact Or.inr rfl | (unfold vi; decide)) only [ex_132_0, ex_132_1, ex_132_4, ex_132_5, ex_132_7, ex_132_10, ex_132_11, ex_132_12, ex_132_13, ex_132_16, ex_132_19, ex_132_20, ex_132_23, ex_132_24, ex_132_27, ex_132_28, ex_132_31, ex_132_34, ex_132_35, ex_132_38, ex_132_41, ex_132_42, ex_132_43, ex_132_44, ex_132_45, ex_132_46, ex_132_49, ex_132_52, ex_132_55, ex_132_56, ex_132_59, ex_132_62, ex_132_63, ex_132_64, ex_132_65, ex_132_67, ex_132_68, ex_132_72, ex_132_73, ex_132_76, ex_132_78, ex_132_79, ex_132_80, ex_132_81, ex_132_82, ex_132_85, ex_132_87, ex_132_89, ex_132_92, ex_132_95, ex_132_96, ex_132_97, ex_132_100, ex_132_102, ex_132_105, ex_132_106, ex_132_107, ex_132_108, ex_132_111, ex_132_113, ex_132_118, ex_132_123, if_true, if_false, and_self, Option.toList_some, Option.toList_none, List.singleton_append, List.cons_append, List.nil_append, List.append_nil, nI_1, nt_e, Int32.le_refl, g1, q1, isFewer_ok hk8 hb, q2, b2i_0, hFR, va_rfs, said_ok hL l1 hW, q3, Bool.true_eq_false, Bool.false_eq_true, ↓reduceIte]
            exact hs (some k) (by rw [q2, okSafe, decide_eq_true q1, decide_eq_true q3]; rfl)
          · simp (disch := first | exact am_nl_i _ | exact am_nl_r _ | exact am_nl_0 | (refine vi_nI ?_ ?_ <;> omega) | assumption | omega | exact b2i_01 _ | exact Or.inl rfl | exact Or.inr rfl | (unfold vi; decide)) only [ex_132_0, ex_132_1, ex_132_4, ex_132_5, ex_132_7, ex_132_10, ex_132_11, ex_132_12, ex_132_13, ex_132_16, ex_132_19, ex_132_20, ex_132_23, ex_132_24, ex_132_27, ex_132_28, ex_132_31, ex_132_34, ex_132_35, ex_132_38, ex_132_41, ex_132_42, ex_132_43, ex_132_44, ex_132_45, ex_132_46, ex_132_49, ex_132_52, ex_132_55, ex_132_56, ex_132_59, ex_132_62, ex_132_63, ex_132_64, ex_132_65, ex_132_67, ex_132_68, ex_132_72, ex_132_73, ex_132_76, ex_132_78, ex_132_79, ex_132_80, ex_132_81, ex_132_82, ex_132_85, ex_132_87, ex_132_89, ex_132_92, ex_132_95, ex_132_96, ex_132_97, ex_132_100, ex_132_102, ex_132_105, ex_132_106, ex_132_107, ex_132_108, ex_132_111, ex_132_113, ex_132_118, ex_132_123, if_true, if_false, and_self, Option.toList_some, Option.toList_none, List.singleton_append, List.cons_append, List.nil_append, List.append_nil, nI_1, nt_e, Int32.le_refl, g1, q1, isFewer_ok hk8 hb, q2, b2i_0, hFR, va_rfs, said_ok hL l1 hW, q3, Bool.true_eq_false, Bool.false_eq_true, ↓reduceIte]
            exact hs _ (by rw [okSafe, decide_eq_false q3]; simp)
      · simp (disch := first | exact am_nl_i _ | exact am_nl_r _ | exact am_nl_0 | (refine vi_nI ?_ ?_ <;> omega) | assumption | omega | exact b2i_01 _ | exact Or.inl rfl | exact Or.inr rfl | (unfold vi; decide)) only [ex_132_0, ex_132_1, ex_132_4, ex_132_5, ex_132_7, ex_132_10, ex_132_11, ex_132_12, ex_132_13, ex_132_16, ex_132_19, ex_132_20, ex_132_23, ex_132_24, ex_132_27, ex_132_28, ex_132_31, ex_132_34, ex_132_35, ex_132_38, ex_132_41, ex_132_42, ex_132_43, ex_132_44, ex_132_45, ex_132_46, ex_132_49, ex_132_52, ex_132_55, ex_132_56, ex_132_59, ex_132_62, ex_132_63, ex_132_64, ex_132_65, ex_132_67, ex_132_68, ex_132_72, ex_132_73, ex_132_76, ex_132_78, ex_132_79, ex_132_80, ex_132_81, ex_132_82, ex_132_85, ex_132_87, ex_132_89, ex_132_92, ex_132_95, ex_132_96, ex_132_97, ex_132_100, ex_132_102, ex_132_105, ex_132_106, ex_132_107, ex_132_108, ex_132_111, ex_132_113, ex_132_118, ex_132_123, if_true, if_false, and_self, Option.toList_some, Option.toList_none, List.singleton_append, List.cons_append, List.nil_append, List.append_nil, nI_1, nt_e, Int32.le_refl, g1, q1, Bool.true_eq_false, Bool.false_eq_true, ↓reduceIte]
        exact hs _ (by rw [okSafe, decide_eq_false q1]; simp)
  simp (disch := first | exact am_nl_i _ | exact am_nl_r _ | exact am_nl_0 | assumption | omega | (refine vi_nI ?_ ?_ <;> omega) | exact b2i_01 _ | exact Or.inl rfl | exact Or.inr rfl | (unfold vi; decide)) only [ex_132_0, ex_132_1, ex_132_4, ex_132_5, ex_132_7, ex_132_10, ex_132_11, ex_132_12, ex_132_13, ex_132_16, ex_132_19, ex_132_20, ex_132_23, ex_132_24, ex_132_27, ex_132_28, ex_132_31, ex_132_34, ex_132_35, ex_132_38, ex_132_41, ex_132_42, ex_132_43, ex_132_44, ex_132_45, ex_132_46, ex_132_49, ex_132_52, ex_132_55, ex_132_56, ex_132_59, ex_132_62, ex_132_63, ex_132_64, ex_132_65, ex_132_67, ex_132_68, ex_132_72, ex_132_73, ex_132_76, ex_132_78, ex_132_79, ex_132_80, ex_132_81, ex_132_82, ex_132_85, ex_132_87, ex_132_89, ex_132_92, ex_132_95, ex_132_96, ex_132_97, ex_132_100, ex_132_102, ex_132_105, ex_132_106, ex_132_107, ex_132_108, ex_132_111, ex_132_113, ex_132_115, ex_132_118, ex_132_121, ex_132_123, if_true, if_false, and_self, Option.toList_some, Option.toList_none, List.singleton_append, List.cons_append, List.nil_append, List.append_nil, nI_1, nt_e, Int32.le_refl, r1, va_rfs, atMost_ok shl_65 hL st1 l1 hW, gone_ok shl_65 hL st1 l1 hW, inStock_ok shl_65 st1, l1.2.2.2.2.2.2.2.2.2.2.2.2.2.1]
  exact loop (m + 1) 0 (by omega)
theorem R_safe {x : Int32} (hI : InvR u S) (hS : WS S) : Cl (d + 4) 249 [.ref 203, .int x] (am_emb u) post ↔ post (some (.int (safeS S x))) (am_emb (th u 0)) := by
  refine Cl_iff ?_ post
  have hI1 : InvR (th u 0) S := th_inv hI
  obtain ⟨hR, hcd, ⟨hl, hl2, hl3⟩, hp, hm, htp⟩ := hI1
  have hW := hS.1
  have hw := hS.2.1.1
  have h12 := hW.1.2.1
  have hp := pow_8192 h12
  have hn := hR.1.2.1
  have hkd := hR.2.2.2.1
  rw [op_249]
  simp (disch := first | exact am_nl_i _ | exact am_nl_r _ | exact am_nl_0 | assumption | omega | (refine vi_nI ?_ ?_ <;> omega) | exact b2i_01 _ | exact Or.inl rfl | exact Or.inr rfl | (unfold vi; decide)) only [ex_249_0, ex_249_1, ex_249_2, ex_249_5, ex_249_6, ex_249_7, ex_249_9, ex_249_12, ex_249_15, ex_249_16, ex_249_17, ex_249_18, ex_249_19, ex_249_22, ex_249_23, ex_249_24, ex_249_25, ex_249_26, ex_249_27, ex_249_31, ex_249_32, ex_249_33, ex_249_34, ex_249_35, ex_249_36, ex_249_39, ex_249_40, ex_249_41, ex_249_42, ex_249_43, ex_249_44, ex_249_47, ex_249_48, ex_249_49, ex_249_51, ex_249_52, ex_249_56, ex_249_57, ex_249_58, ex_249_61, ex_249_62, ex_249_63, ex_249_64, ex_249_67, ex_249_69, ex_249_70, ex_249_71, ex_249_72, ex_249_73, ex_249_76, ex_249_78, ex_249_81, ex_249_83, ex_249_86, ex_249_88, ex_249_91, ex_249_94, ex_249_97, ex_249_98, ex_249_100, ex_249_101, ex_249_103, ex_249_105, ex_249_106, ex_249_109, ex_249_110, ex_249_111, ex_249_114, ex_249_116, ex_249_119, ex_249_121, ex_249_123, ex_249_124, ex_249_125, ex_249_126, ex_249_127, ex_249_130, ex_249_131, ex_249_134, ex_249_136, ex_249_137, ex_249_138, ex_249_141, ex_249_142, ex_249_145, ex_249_146, ex_249_148, ex_249_151, ex_249_154, ex_249_156, ex_249_159, ex_249_160, ex_249_161, ex_249_163, ex_249_166, ex_249_167, ex_249_168, ex_249_169, ex_249_172, ex_249_174, ex_249_176, ex_249_179, ex_249_182, ex_249_184, if_true, if_false, and_self, Option.toList_some, Option.toList_none, List.singleton_append, List.cons_append, List.nil_append, List.append_nil, nI_1, nt_e, Int32.le_refl, th_e, within_ok, b2i_0, show (6 : Int32) = nI 6 from rfl, within_okI (n := 6) (by decide) rfl]
  rw [show (6 + 1) = 7 from rfl]
  unfold safeS
  cases q : okI x 7
  · rw [if_pos rfl]
    (try (first | exact ⟨rfl, rfl⟩ | exact ⟨rfl, trivial⟩))
  rw [if_neg (by simp), if_pos rfl]
  rw [bestF_congr (ok' := okSafeR S.1 S.2.1.1 x) (lt' := few) (fun k hk => okSafe_e hW hk) (fun _ _ _ _ => rfl)]
  have hrare := rare_e (l := S.2.1.1) hW x
  have loop : ∀ (kz k : Nat) (j6 j7 : Option Value), am_nl j6 = true → k + kz = 2 ^ nP S.1 → Ex (d + 4) 249 54 [some (.ref 203), some (.int x), some (.int (atMostL S.1 S.2.1.1 x &&& nt (goneV S.1 S.2.1.1))), some (.int (inStockL S.2.1.1)), some (.int (ob (bestF (okSafeR S.1 S.2.1.1 x) few k))), some (.int (nI k)), j6, j7] [] (am_emb (th u 0)) (fun w n => w = some (.int (ob (bestF (okSafeR S.1 S.2.1.1 x) few (2 ^ nP S.1)))) ∧ n = am_emb (th u 0)) := by
    intro kz
    induction kz with
    | zero =>
      intro k j6 j7 hj hk
      obtain rfl : k = 2 ^ nP S.1 := by omega
      rw [ex_249_54]
      simp (disch := first | exact am_nl_i _ | exact am_nl_r _ | exact am_nl_0 | (refine vi_nI ?_ ?_ <;> omega) | assumption | omega | exact b2i_01 _ | exact Or.inl rfl | exact Or.inr rfl | (unfold vi; decide)) only [ex_249_0, ex_249_1, ex_249_2, ex_249_5, ex_249_6, ex_249_7, ex_249_9, ex_249_12, ex_249_15, ex_249_16, ex_249_17, ex_249_18, ex_249_19, ex_249_22, ex_249_23, ex_249_24, ex_249_25, ex_249_26, ex_249_27, ex_249_28, ex_249_31, ex_249_32, ex_249_33, ex_249_34, ex_249_35, ex_249_36, ex_249_39, ex_249_40, ex_249_41, ex_249_42, ex_249_43, ex_249_44, ex_249_47, ex_249_48, ex_249_49, ex_249_51, ex_249_52, ex_249_56, ex_249_57, ex_249_58, ex_249_61, ex_249_62, ex_249_63, ex_249_64, ex_249_69, ex_249_70, ex_249_71, ex_249_72, ex_249_73, ex_249_76, ex_249_78, ex_249_81, ex_249_83, ex_249_86, ex_249_88, ex_249_91, ex_249_94, ex_249_97, ex_249_98, ex_249_100, ex_249_101, ex_249_103, ex_249_105, ex_249_106, ex_249_109, ex_249_110, ex_249_111, ex_249_114, ex_249_116, ex_249_119, ex_249_121, ex_249_123, ex_249_124, ex_249_125, ex_249_126, ex_249_127, ex_249_130, ex_249_131, ex_249_134, ex_249_136, ex_249_137, ex_249_138, ex_249_141, ex_249_142, ex_249_145, ex_249_146, ex_249_148, ex_249_151, ex_249_154, ex_249_156, ex_249_159, ex_249_160, ex_249_161, ex_249_163, ex_249_166, ex_249_167, ex_249_168, ex_249_169, ex_249_172, ex_249_174, ex_249_176, ex_249_179, ex_249_182, ex_249_184, if_true, if_false, and_self, Option.toList_some, Option.toList_none, List.singleton_append, List.cons_append, List.nil_append, List.append_nil, nI_1, nt_e, Int32.le_refl, c1, hn, bi_e, pow_nI h12, nI_leI, Nat.le_refl, Bool.true_eq_false, Bool.false_eq_true, ↓reduceIte]
      (try (first | exact ⟨rfl, rfl⟩ | exact ⟨rfl, trivial⟩))
    | succ kz ih =>
      intro k j6 j7 hj hk
      have ih := fun j6 j7 hj => ih (k + 1) j6 j7 hj (by omega)
      have hb := best_b (ok := okSafeR S.1 S.2.1.1 x) (lt := few) (n := k) (N := 8192) (by omega)
      have hb31 : ∀ b, bestF (okSafeR S.1 S.2.1.1 x) few k = some b → b < 2 ^ 31 := fun b hh => by have := hb b hh; omega
      have hnle : ¬ 2 ^ nP S.1 ≤ k := by omega
      have hs : ∀ o' j6 j7, am_nl j6 = true → o' = bestF (okSafeR S.1 S.2.1.1 x) few (k + 1) → Ex (d + 4) 249 176 [some (.ref 203), some (.int x), some (.int (atMostL S.1 S.2.1.1 x &&& nt (goneV S.1 S.2.1.1))), some (.int (inStockL S.2.1.1)), some (.int (ob o')), some (.int (nI k)), j6, j7] [] (am_emb (th u 0)) (fun w n => w = some (.int (ob (bestF (okSafeR S.1 S.2.1.1 x) few (2 ^ nP S.1)))) ∧ n = am_emb (th u 0)) := by
        intro o' j6 j7 hj e
        simp (disch := first | exact am_nl_i _ | exact am_nl_r _ | exact am_nl_0 | assumption | omega | (refine vi_nI ?_ ?_ <;> omega) | exact b2i_01 _ | exact Or.inl rfl | exact Or.inr rfl | (unfold vi; decide)) only [ex_249_0, ex_249_1, ex_249_2, ex_249_5, ex_249_6, ex_249_7, ex_249_9, ex_249_12, ex_249_15, ex_249_16, ex_249_17, ex_249_18, ex_249_19, ex_249_22, ex_249_23, ex_249_24, ex_249_25, ex_249_26, ex_249_27, ex_249_28, ex_249_31, ex_249_32, ex_249_33, ex_249_34, ex_249_35, ex_249_36, ex_249_39, ex_249_40, ex_249_41, ex_249_42, ex_249_43, ex_249_44, ex_249_47, ex_249_48, ex_249_49, ex_249_51, ex_249_52, ex_249_56, ex_249_57, ex_249_58, ex_249_61, ex_249_62, ex_249_63, ex_249_64, ex_249_67, ex_249_69, ex_249_70, ex_249_71, ex_249_72, ex_249_73, ex_249_76, ex_249_78, ex_249_81, ex_249_83, ex_249_86, ex_249_88, ex_249_91, ex_249_94, ex_249_97, ex_249_98, ex_249_100, ex_249_101, ex_249_103, ex_249_105, ex_249_106, ex_249_109, ex_249_110, ex_249_111, ex_249_114, ex_249_116, ex_249_119, ex_249_121, ex_249_123, ex_249_124, ex_249_125, ex_249_126, ex_249_127, ex_249_130, ex_249_131, ex_249_134, ex_249_136, ex_249_137, ex_249_138, ex_249_141, ex_249_142, ex_249_145, ex_249_146, ex_249_148, ex_249_151, ex_249_154, ex_249_156, ex_249_159, ex_249_160, ex_249_161, ex_249_163, ex_249_166, ex_249_167, ex_249_168, ex_249_169, ex_249_172, ex_249_174, ex_249_176, ex_249_179, ex_249_182, ex_249_184, if_true, if_false, and_self, Option.toList_some, Option.toList_none, List.singleton_append, List.cons_append, List.nil_append, List.append_nil, nI_1, nt_e, Int32.le_refl]
        rw [e]
        exact ih j6 j7 hj
      rw [bestF] at hs
      generalize bestF (okSafeR S.1 S.2.1.1 x) few k = o at *
      have inner : o.all (fun b => few k b) = true → nI k &&& nt (inStockL S.2.1.1) = 0 → Ex (d + 4) 249 97 [some (.ref 203), some (.int x), some (.int (atMostL S.1 S.2.1.1 x &&& nt (goneV S.1 S.2.1.1))), some (.int (inStockL S.2.1.1)), some (.int (ob o)), some (.int (nI k)), j6, j7] [] (am_emb (th u 0)) (fun w n => w = some (.int (ob (bestF (okSafeR S.1 S.2.1.1 x) few (2 ^ nP S.1)))) ∧ n = am_emb (th u 0)) := by
        intro q2 q1
        have lp : ∀ (iz i : Nat), i + iz = nP S.1 → Ex (d + 4) 249 103 [some (.ref 203), some (.int x), some (.int (atMostL S.1 S.2.1.1 x &&& nt (goneV S.1 S.2.1.1))), some (.int (inStockL S.2.1.1)), some (.int (ob o)), some (.int (nI k)), some (.int (b2i (anyF i (fun i => bt (nI k) i && lie S.1 i)))), some (.int (nI i))] [] (am_emb (th u 0)) (fun w n => w = some (.int (ob (bestF (okSafeR S.1 S.2.1.1 x) few (2 ^ nP S.1)))) ∧ n = am_emb (th u 0)) := by
          intro iz
          induction iz with
          | zero =>
            intro i hi
            obtain rfl : i = nP S.1 := by omega
            rw [ex_249_103]
            have hlk : anyF (nP S.1) (fun i => bt (nI k) i && lie S.1 i) = liesK S.1 k := rfl
            cases q4 : liesK S.1 k
            · by_cases q3 : (atMostL S.1 S.2.1.1 x &&& nt (goneV S.1 S.2.1.1)) &&& nt (knowsV S.1 (nI k)) = 0
              · simp (disch := first | exact am_nl_i _ | exact am_nl_r _ | exact am_nl_0 | (refine vi_nI ?_ ?_ <;> omega) | assumption | omega | exact b2i_01 _ | exact Or.inl rfl | exact Or.inr rfl | (unfold vi; decide)) only [ex_249_0, ex_249_1, ex_249_2, ex_249_5, ex_249_6, ex_249_7, ex_249_9, ex_249_12, ex_249_15, ex_249_16, ex_249_17, ex_249_18, ex_249_19, ex_249_22, ex_249_23, ex_249_24, ex_249_25, ex_249_26, ex_249_27, ex_249_28, ex_249_31, ex_249_32, ex_249_33, ex_249_34, ex_249_35, ex_249_36, ex_249_39, ex_249_40, ex_249_41, ex_249_42, ex_249_43, ex_249_44, ex_249_47, ex_249_48, ex_249_49, ex_249_51, ex_249_52, ex_249_54, ex_249_56, ex_249_57, ex_249_58, ex_249_61, ex_249_62, ex_249_63, ex_249_64, ex_249_67, ex_249_69, ex_249_70, ex_249_71, ex_249_72, ex_249_73, ex_249_76, ex_249_78, ex_249_81, ex_249_83, ex_249_86, ex_249_88, ex_249_91, ex_249_94, ex_249_97, ex_249_98, ex_249_100, ex_249_101, ex_249_105, ex_249_106, ex_249_109, ex_249_110, ex_249_111, ex_249_114, ex_249_116, ex_249_119, ex_249_121, ex_249_123, ex_249_124, ex_249_125, ex_249_126, ex_249_127, ex_249_130, ex_249_131, ex_249_134, ex_249_136, ex_249_137, ex_249_138, ex_249_141, ex_249_142, ex_249_145, ex_249_146, ex_249_148, ex_249_151, ex_249_154, ex_249_156, ex_249_159, ex_249_160, ex_249_161, ex_249_163, ex_249_166, ex_249_167, ex_249_168, ex_249_169, ex_249_172, ex_249_174, ex_249_179, ex_249_182, ex_249_184, if_true, if_false, and_self, Option.toList_some, Option.toList_none, List.singleton_append, List.cons_append, List.nil_append, List.append_nil, nI_1, nt_e, Int32.le_refl, c1, hn, nI_leI, Nat.le_refl, hlk, q4, b2i_0, knows_ok hR hW, q3, Bool.true_eq_false, Bool.false_eq_true, ↓reduceIte]
                exact hs (some k) _ _ rfl (by rw [q2, okSafeR, decide_eq_true q1, decide_eq_true q3, q4]; rfl)
              · simp (disch := first | exact am_nl_i _ | exact am_nl_r _ | exact am_nl_0 | (refine vi_nI ?_ ?_ <;> omega) | assumption | omega | exact b2i_01 _ | exact Or.inl rfl | exact Or.inr rfl | (unfold vi; decide)) only [ex_249_0, ex_249_1, ex_249_2, ex_249_5, ex_249_6, ex_249_7, ex_249_9, ex_249_12, ex_249_15, ex_249_16, ex_249_17, ex_249_18, ex_249_19, ex_249_22, ex_249_23, ex_249_24, ex_249_25, ex_249_26, ex_249_27, ex_249_28, ex_249_31, ex_249_32, ex_249_33, ex_249_34, ex_249_35, ex_249_36, ex_249_39, ex_249_40, ex_249_41, ex_249_42, ex_249_43, ex_249_44, ex_249_47, ex_249_48, ex_249_49, ex_249_51, ex_249_52, ex_249_54, ex_249_56, ex_249_57, ex_249_58, ex_249_61, ex_249_62, ex_249_63, ex_249_64, ex_249_67, ex_249_69, ex_249_70, ex_249_71, ex_249_72, ex_249_73, ex_249_76, ex_249_78, ex_249_81, ex_249_83, ex_249_86, ex_249_88, ex_249_91, ex_249_94, ex_249_97, ex_249_98, ex_249_100, ex_249_101, ex_249_105, ex_249_106, ex_249_109, ex_249_110, ex_249_111, ex_249_114, ex_249_116, ex_249_119, ex_249_121, ex_249_123, ex_249_124, ex_249_125, ex_249_126, ex_249_127, ex_249_130, ex_249_131, ex_249_134, ex_249_136, ex_249_137, ex_249_138, ex_249_141, ex_249_142, ex_249_145, ex_249_146, ex_249_148, ex_249_151, ex_249_154, ex_249_156, ex_249_159, ex_249_160, ex_249_161, ex_249_163, ex_249_166, ex_249_167, ex_249_168, ex_249_169, ex_249_172, ex_249_174, ex_249_179, ex_249_182, ex_249_184, if_true, if_false, and_self, Option.toList_some, Option.toList_none, List.singleton_append, List.cons_append, List.nil_append, List.append_nil, nI_1, nt_e, Int32.le_refl, c1, hn, nI_leI, Nat.le_refl, hlk, q4, b2i_0, knows_ok hR hW, q3, Bool.true_eq_false, Bool.false_eq_true, ↓reduceIte]
                exact hs _ _ _ rfl (by rw [okSafeR, decide_eq_false q3]; simp)
            · simp (disch := first | exact am_nl_i _ | exact am_nl_r _ | exact am_nl_0 | (refine vi_nI ?_ ?_ <;> omega) | assumption | omega | exact b2i_01 _ | exact Or.inl rfl | exact Or.inr rfl | (unfold vi; decide)) only [ex_249_0, ex_249_1, ex_249_2, ex_249_5, ex_249_6, ex_249_7, ex_249_9, ex_249_12, ex_249_15, ex_249_16, ex_249_17, ex_249_18, ex_249_19, ex_249_22, ex_249_23, ex_249_24, ex_249_25, ex_249_26, ex_249_27, ex_249_28, ex_249_31, ex_249_32, ex_249_33, ex_249_34, ex_249_35, ex_249_36, ex_249_39, ex_249_40, ex_249_41, ex_249_42, ex_249_43, ex_249_44, ex_249_47, ex_249_48, ex_249_49, ex_249_51, ex_249_52, ex_249_54, ex_249_56, ex_249_57, ex_249_58, ex_249_61, ex_249_62, ex_249_63, ex_249_64, ex_249_67, ex_249_69, ex_249_70, ex_249_71, ex_249_72, ex_249_73, ex_249_76, ex_249_78, ex_249_81, ex_249_83, ex_249_86, ex_249_88, ex_249_91, ex_249_94, ex_249_97, ex_249_98, ex_249_100, ex_249_101, ex_249_105, ex_249_106, ex_249_109, ex_249_110, ex_249_111, ex_249_114, ex_249_116, ex_249_119, ex_249_121, ex_249_123, ex_249_124, ex_249_125, ex_249_126, ex_249_127, ex_249_130, ex_249_131, ex_249_134, ex_249_136, ex_249_137, ex_249_138, ex_249_141, ex_249_142, ex_249_145, ex_249_146, ex_249_148, ex_249_151, ex_249_154, ex_249_156, ex_249_159, ex_249_160, ex_249_161, ex_249_163, ex_249_166, ex_249_167, ex_249_168, ex_249_169, ex_249_172, ex_249_174, ex_249_179, ex_249_182, ex_249_184, if_true, if_false, and_self, Option.toList_some, Option.toList_none, List.singleton_append, List.cons_append, List.nil_append, List.append_nil, nI_1, nt_e, Int32.le_refl, c1, hn, nI_leI, Nat.le_refl, hlk, q4, b2i_0, Bool.true_eq_false, Bool.false_eq_true, ↓reduceIte]
              exact hs _ _ _ rfl (by rw [okSafeR, q4]; simp)
          | succ iz ih2 =>
            intro i hi
            have ih2 := ih2 (i + 1) (by omega)
            have hin : i < nP S.1 := by omega
            have hnle2 : ¬ nP S.1 ≤ i := by omega
            rw [anyF] at ih2
            rw [ex_249_103]
            cases q5 : anyF i (fun i => bt (nI k) i && lie S.1 i)
            · rw [q5, Bool.false_or] at ih2
              cases q6 : bt (nI k) i
              · rw [q6] at ih2
                simp (disch := first | exact am_nl_i _ | exact am_nl_r _ | exact am_nl_0 | (refine vi_nI ?_ ?_ <;> omega) | assumption | omega | exact b2i_01 _ | exact Or.inl rfl | exact Or.inr rfl | (unfold vi; decide)) only [ex_249_0, ex_249_1, ex_249_2, ex_249_5, ex_249_6, ex_249_7, ex_249_9, ex_249_12, ex_249_15, ex_249_16, ex_249_17, ex_249_18, ex_249_19, ex_249_22, ex_249_23, ex_249_24, ex_249_25, ex_249_26, ex_249_27, ex_249_28, ex_249_31, ex_249_32, ex_249_33, ex_249_34, ex_249_35, ex_249_36, ex_249_39, ex_249_40, ex_249_41, ex_249_42, ex_249_43, ex_249_44, ex_249_47, ex_249_48, ex_249_49, ex_249_51, ex_249_52, ex_249_54, ex_249_56, ex_249_57, ex_249_58, ex_249_61, ex_249_62, ex_249_63, ex_249_64, ex_249_67, ex_249_69, ex_249_70, ex_249_71, ex_249_72, ex_249_73, ex_249_76, ex_249_78, ex_249_81, ex_249_83, ex_249_86, ex_249_88, ex_249_91, ex_249_94, ex_249_97, ex_249_98, ex_249_100, ex_249_101, ex_249_105, ex_249_106, ex_249_109, ex_249_110, ex_249_111, ex_249_114, ex_249_116, ex_249_119, ex_249_121, ex_249_123, ex_249_124, ex_249_125, ex_249_126, ex_249_127, ex_249_130, ex_249_131, ex_249_134, ex_249_136, ex_249_137, ex_249_138, ex_249_141, ex_249_142, ex_249_145, ex_249_146, ex_249_148, ex_249_151, ex_249_156, ex_249_159, ex_249_160, ex_249_161, ex_249_163, ex_249_166, ex_249_167, ex_249_168, ex_249_169, ex_249_172, ex_249_174, ex_249_176, ex_249_179, ex_249_182, ex_249_184, if_true, if_false, and_self, Option.toList_some, Option.toList_none, List.singleton_append, List.cons_append, List.nil_append, List.append_nil, nI_1, nt_e, Int32.le_refl, c1, hn, nI_leI, hnle2, b2i_0, bit_e, q6, b2i_1, Bool.true_eq_false, Bool.false_eq_true, ↓reduceIte]
                exact ih2
              · rw [q6, Bool.true_and, lie] at ih2
                by_cases q7 : kindV S.1 i = 1
                · rw [decide_eq_true q7] at ih2
                  simp (disch := first | exact am_nl_i _ | exact am_nl_r _ | exact am_nl_0 | (refine vi_nI ?_ ?_ <;> omega) | assumption | omega | exact b2i_01 _ | exact Or.inl rfl | exact Or.inr rfl | (unfold vi; decide)) only [ex_249_0, ex_249_1, ex_249_2, ex_249_5, ex_249_6, ex_249_7, ex_249_9, ex_249_12, ex_249_15, ex_249_16, ex_249_17, ex_249_18, ex_249_19, ex_249_22, ex_249_23, ex_249_24, ex_249_25, ex_249_26, ex_249_27, ex_249_28, ex_249_31, ex_249_32, ex_249_33, ex_249_34, ex_249_35, ex_249_36, ex_249_39, ex_249_40, ex_249_41, ex_249_42, ex_249_43, ex_249_44, ex_249_47, ex_249_48, ex_249_49, ex_249_51, ex_249_52, ex_249_54, ex_249_56, ex_249_57, ex_249_58, ex_249_61, ex_249_62, ex_249_63, ex_249_64, ex_249_67, ex_249_69, ex_249_70, ex_249_71, ex_249_72, ex_249_73, ex_249_76, ex_249_78, ex_249_81, ex_249_83, ex_249_86, ex_249_88, ex_249_91, ex_249_94, ex_249_97, ex_249_98, ex_249_100, ex_249_101, ex_249_105, ex_249_106, ex_249_109, ex_249_110, ex_249_111, ex_249_114, ex_249_116, ex_249_119, ex_249_121, ex_249_123, ex_249_124, ex_249_125, ex_249_126, ex_249_127, ex_249_130, ex_249_131, ex_249_134, ex_249_136, ex_249_137, ex_249_138, ex_249_141, ex_249_142, ex_249_145, ex_249_146, ex_249_148, ex_249_151, ex_249_156, ex_249_159, ex_249_160, ex_249_161, ex_249_163, ex_249_166, ex_249_167, ex_249_168, ex_249_169, ex_249_172, ex_249_174, ex_249_176, ex_249_179, ex_249_182, ex_249_184, if_true, if_false, and_self, Option.toList_some, Option.toList_none, List.singleton_append, List.cons_append, List.nil_append, List.append_nil, nI_1, nt_e, Int32.le_refl, c1, hn, nI_leI, hnle2, b2i_0, bit_e, q6, b2i_1, nI_clamp, hkd, q7, Bool.true_eq_false, Bool.false_eq_true, ↓reduceIte]
                  exact ih2
                · rw [decide_eq_false q7] at ih2
                  simp (disch := first | exact am_nl_i _ | exact am_nl_r _ | exact am_nl_0 | (refine vi_nI ?_ ?_ <;> omega) | assumption | omega | exact b2i_01 _ | exact Or.inl rfl | exact Or.inr rfl | (unfold vi; decide)) only [ex_249_0, ex_249_1, ex_249_2, ex_249_5, ex_249_6, ex_249_7, ex_249_9, ex_249_12, ex_249_15, ex_249_16, ex_249_17, ex_249_18, ex_249_19, ex_249_22, ex_249_23, ex_249_24, ex_249_25, ex_249_26, ex_249_27, ex_249_28, ex_249_31, ex_249_32, ex_249_33, ex_249_34, ex_249_35, ex_249_36, ex_249_39, ex_249_40, ex_249_41, ex_249_42, ex_249_43, ex_249_44, ex_249_47, ex_249_48, ex_249_49, ex_249_51, ex_249_52, ex_249_54, ex_249_56, ex_249_57, ex_249_58, ex_249_61, ex_249_62, ex_249_63, ex_249_64, ex_249_67, ex_249_69, ex_249_70, ex_249_71, ex_249_72, ex_249_73, ex_249_76, ex_249_78, ex_249_81, ex_249_83, ex_249_86, ex_249_88, ex_249_91, ex_249_94, ex_249_97, ex_249_98, ex_249_100, ex_249_101, ex_249_105, ex_249_106, ex_249_109, ex_249_110, ex_249_111, ex_249_114, ex_249_116, ex_249_119, ex_249_121, ex_249_123, ex_249_124, ex_249_125, ex_249_126, ex_249_127, ex_249_130, ex_249_131, ex_249_134, ex_249_136, ex_249_137, ex_249_138, ex_249_141, ex_249_142, ex_249_145, ex_249_146, ex_249_148, ex_249_151, ex_249_156, ex_249_159, ex_249_160, ex_249_161, ex_249_163, ex_249_166, ex_249_167, ex_249_168, ex_249_169, ex_249_172, ex_249_174, ex_249_176, ex_249_179, ex_249_182, ex_249_184, if_true, if_false, and_self, Option.toList_some, Option.toList_none, List.singleton_append, List.cons_append, List.nil_append, List.append_nil, nI_1, nt_e, Int32.le_refl, c1, hn, nI_leI, hnle2, b2i_0, bit_e, q6, b2i_1, nI_clamp, hkd, q7, Bool.true_eq_false, Bool.false_eq_true, ↓reduceIte]
                  exact ih2
            · rw [q5, Bool.true_or] at ih2
              simp (disch := first | exact am_nl_i _ | exact am_nl_r _ | exact am_nl_0 | (refine vi_nI ?_ ?_ <;> omega) | assumption | omega | exact b2i_01 _ | exact Or.inl rfl | exact Or.inr rfl | (unfold vi; decide)) only [ex_249_0, ex_249_1, ex_249_2, ex_249_5, ex_249_6, ex_249_7, ex_249_9, ex_249_12, ex_249_15, ex_249_16, ex_249_17, ex_249_18, ex_249_19, ex_249_22, ex_249_23, ex_249_24, ex_249_25, ex_249_26, ex_249_27, ex_249_28, ex_249_31, ex_249_32, ex_249_33, ex_249_34, ex_249_35, ex_249_36, ex_249_39, ex_249_40, ex_249_41, ex_249_42, ex_249_43, ex_249_44, ex_249_47, ex_249_48, ex_249_49, ex_249_51, ex_249_52, ex_249_54, ex_249_56, ex_249_57, ex_249_58, ex_249_61, ex_249_62, ex_249_63, ex_249_64, ex_249_67, ex_249_69, ex_249_70, ex_249_71, ex_249_72, ex_249_73, ex_249_76, ex_249_78, ex_249_81, ex_249_83, ex_249_86, ex_249_88, ex_249_91, ex_249_94, ex_249_97, ex_249_98, ex_249_100, ex_249_101, ex_249_105, ex_249_106, ex_249_109, ex_249_110, ex_249_111, ex_249_114, ex_249_116, ex_249_119, ex_249_121, ex_249_123, ex_249_124, ex_249_125, ex_249_126, ex_249_127, ex_249_130, ex_249_131, ex_249_134, ex_249_136, ex_249_137, ex_249_138, ex_249_141, ex_249_142, ex_249_145, ex_249_146, ex_249_148, ex_249_151, ex_249_156, ex_249_159, ex_249_160, ex_249_161, ex_249_163, ex_249_166, ex_249_167, ex_249_168, ex_249_169, ex_249_172, ex_249_174, ex_249_176, ex_249_179, ex_249_182, ex_249_184, if_true, if_false, and_self, Option.toList_some, Option.toList_none, List.singleton_append, List.cons_append, List.nil_append, List.append_nil, nI_1, nt_e, Int32.le_refl, c1, hn, nI_leI, hnle2, b2i_0, Bool.true_eq_false, Bool.false_eq_true, ↓reduceIte]
              exact ih2
        simp (disch := first | exact am_nl_i _ | exact am_nl_r _ | exact am_nl_0 | assumption | omega | (refine vi_nI ?_ ?_ <;> omega) | exact b2i_01 _ | exact Or.inl rfl | exact Or.inr rfl | (unfold vi; decide)) only [ex_249_0, ex_249_1, ex_249_2, ex_249_5, ex_249_6, ex_249_7, ex_249_9, ex_249_12, ex_249_15, ex_249_16, ex_249_17, ex_249_18, ex_249_19, ex_249_22, ex_249_23, ex_249_24, ex_249_25, ex_249_26, ex_249_27, ex_249_28, ex_249_31, ex_249_32, ex_249_33, ex_249_34, ex_249_35, ex_249_36, ex_249_39, ex_249_40, ex_249_41, ex_249_42, ex_249_43, ex_249_44, ex_249_47, ex_249_48, ex_249_49, ex_249_51, ex_249_52, ex_249_54, ex_249_56, ex_249_57, ex_249_58, ex_249_61, ex_249_62, ex_249_63, ex_249_64, ex_249_67, ex_249_69, ex_249_70, ex_249_71, ex_249_72, ex_249_73, ex_249_76, ex_249_78, ex_249_81, ex_249_83, ex_249_86, ex_249_88, ex_249_91, ex_249_94, ex_249_97, ex_249_98, ex_249_100, ex_249_101, ex_249_105, ex_249_106, ex_249_109, ex_249_110, ex_249_111, ex_249_114, ex_249_116, ex_249_119, ex_249_121, ex_249_123, ex_249_124, ex_249_125, ex_249_126, ex_249_127, ex_249_130, ex_249_131, ex_249_134, ex_249_136, ex_249_137, ex_249_138, ex_249_141, ex_249_142, ex_249_145, ex_249_146, ex_249_148, ex_249_151, ex_249_154, ex_249_156, ex_249_159, ex_249_160, ex_249_161, ex_249_163, ex_249_166, ex_249_167, ex_249_168, ex_249_169, ex_249_172, ex_249_174, ex_249_176, ex_249_179, ex_249_182, ex_249_184, if_true, if_false, and_self, Option.toList_some, Option.toList_none, List.singleton_append, List.cons_append, List.nil_append, List.append_nil, nI_1, nt_e, Int32.le_refl]
        exact lp (nP S.1) 0 (by omega)
      rw [ex_249_54]
      by_cases q1 : nI k &&& nt (inStockL S.2.1.1) = 0
      · cases o with
        | none =>
          simp (disch := first | exact am_nl_i _ | exact am_nl_r _ | exact am_nl_0 | (refine vi_nI ?_ ?_ <;> omega) | assumption | omega | exact b2i_01 _ | exact Or.inl rfl | exact Or.inr rfl | (unfold vi; decide)) only [ex_249_0, ex_249_1, ex_249_2, ex_249_5, ex_249_6, ex_249_7, ex_249_9, ex_249_12, ex_249_15, ex_249_16, ex_249_17, ex_249_18, ex_249_19, ex_249_22, ex_249_23, ex_249_24, ex_249_25, ex_249_26, ex_249_27, ex_249_28, ex_249_31, ex_249_32, ex_249_33, ex_249_34, ex_249_35, ex_249_36, ex_249_39, ex_249_40, ex_249_41, ex_249_42, ex_249_43, ex_249_44, ex_249_47, ex_249_48, ex_249_49, ex_249_51, ex_249_52, ex_249_56, ex_249_57, ex_249_58, ex_249_61, ex_249_62, ex_249_63, ex_249_64, ex_249_67, ex_249_69, ex_249_70, ex_249_71, ex_249_72, ex_249_73, ex_249_76, ex_249_78, ex_249_81, ex_249_83, ex_249_86, ex_249_88, ex_249_91, ex_249_94, ex_249_98, ex_249_100, ex_249_101, ex_249_103, ex_249_105, ex_249_106, ex_249_109, ex_249_110, ex_249_111, ex_249_114, ex_249_116, ex_249_119, ex_249_121, ex_249_123, ex_249_124, ex_249_125, ex_249_126, ex_249_127, ex_249_130, ex_249_131, ex_249_134, ex_249_136, ex_249_137, ex_249_138, ex_249_141, ex_249_142, ex_249_145, ex_249_146, ex_249_148, ex_249_151, ex_249_154, ex_249_156, ex_249_159, ex_249_160, ex_249_161, ex_249_163, ex_249_166, ex_249_167, ex_249_168, ex_249_169, ex_249_172, ex_249_174, ex_249_179, ex_249_184, if_true, if_false, and_self, Option.toList_some, Option.toList_none, List.singleton_append, List.cons_append, List.nil_append, List.append_nil, nI_1, nt_e, Int32.le_refl, c1, hn, bi_e, pow_nI h12, nI_leI, hnle, q1, show ob none = -1 from rfl, show ((-1 : Int32) < (0 : Int32)) = True from eq_true (by decide), Bool.true_eq_false, Bool.false_eq_true, ↓reduceIte]
          exact inner rfl q1
        | some b =>
          have hb8 := hb b rfl
          by_cases q2 : bitsV (nI k) < bitsV (nI b)
          · simp (disch := first | exact am_nl_i _ | exact am_nl_r _ | exact am_nl_0 | (refine vi_nI ?_ ?_ <;> omega) | assumption | omega | exact b2i_01 _ | exact Or.inl rfl | exact Or.inr rfl | (unfold vi; decide)) only [ex_249_0, ex_249_1, ex_249_2, ex_249_5, ex_249_6, ex_249_7, ex_249_9, ex_249_12, ex_249_15, ex_249_16, ex_249_17, ex_249_18, ex_249_19, ex_249_22, ex_249_23, ex_249_24, ex_249_25, ex_249_26, ex_249_27, ex_249_28, ex_249_31, ex_249_32, ex_249_33, ex_249_34, ex_249_35, ex_249_36, ex_249_39, ex_249_40, ex_249_41, ex_249_42, ex_249_43, ex_249_44, ex_249_47, ex_249_48, ex_249_49, ex_249_51, ex_249_52, ex_249_56, ex_249_57, ex_249_58, ex_249_61, ex_249_62, ex_249_63, ex_249_64, ex_249_67, ex_249_69, ex_249_70, ex_249_71, ex_249_72, ex_249_73, ex_249_76, ex_249_78, ex_249_81, ex_249_83, ex_249_86, ex_249_88, ex_249_91, ex_249_94, ex_249_98, ex_249_100, ex_249_101, ex_249_103, ex_249_105, ex_249_106, ex_249_109, ex_249_110, ex_249_111, ex_249_114, ex_249_116, ex_249_119, ex_249_121, ex_249_123, ex_249_124, ex_249_125, ex_249_126, ex_249_127, ex_249_130, ex_249_131, ex_249_134, ex_249_136, ex_249_137, ex_249_138, ex_249_141, ex_249_142, ex_249_145, ex_249_146, ex_249_148, ex_249_151, ex_249_154, ex_249_156, ex_249_159, ex_249_160, ex_249_161, ex_249_163, ex_249_166, ex_249_167, ex_249_168, ex_249_169, ex_249_172, ex_249_174, ex_249_179, ex_249_184, if_true, if_false, and_self, Option.toList_some, Option.toList_none, List.singleton_append, List.cons_append, List.nil_append, List.append_nil, nI_1, nt_e, Int32.le_refl, c1, hn, bi_e, pow_nI h12, nI_leI, hnle, q1, show ob (some b) = nI b from rfl, i_lt0, bits_ok, q2, Bool.true_eq_false, Bool.false_eq_true, ↓reduceIte]
            exact inner (by rw [Option.all_some, few, decide_eq_true q2]) q1
          · simp (disch := first | exact am_nl_i _ | exact am_nl_r _ | exact am_nl_0 | (refine vi_nI ?_ ?_ <;> omega) | assumption | omega | exact b2i_01 _ | exact Or.inl rfl | exact Or.inr rfl | (unfold vi; decide)) only [ex_249_0, ex_249_1, ex_249_2, ex_249_5, ex_249_6, ex_249_7, ex_249_9, ex_249_12, ex_249_15, ex_249_16, ex_249_17, ex_249_18, ex_249_19, ex_249_22, ex_249_23, ex_249_24, ex_249_25, ex_249_26, ex_249_27, ex_249_28, ex_249_31, ex_249_32, ex_249_33, ex_249_34, ex_249_35, ex_249_36, ex_249_39, ex_249_40, ex_249_41, ex_249_42, ex_249_43, ex_249_44, ex_249_47, ex_249_48, ex_249_49, ex_249_51, ex_249_52, ex_249_56, ex_249_57, ex_249_58, ex_249_61, ex_249_62, ex_249_63, ex_249_64, ex_249_67, ex_249_69, ex_249_70, ex_249_71, ex_249_72, ex_249_73, ex_249_76, ex_249_78, ex_249_81, ex_249_83, ex_249_86, ex_249_88, ex_249_91, ex_249_94, ex_249_98, ex_249_100, ex_249_101, ex_249_103, ex_249_105, ex_249_106, ex_249_109, ex_249_110, ex_249_111, ex_249_114, ex_249_116, ex_249_119, ex_249_121, ex_249_123, ex_249_124, ex_249_125, ex_249_126, ex_249_127, ex_249_130, ex_249_131, ex_249_134, ex_249_136, ex_249_137, ex_249_138, ex_249_141, ex_249_142, ex_249_145, ex_249_146, ex_249_148, ex_249_151, ex_249_154, ex_249_156, ex_249_159, ex_249_160, ex_249_161, ex_249_163, ex_249_166, ex_249_167, ex_249_168, ex_249_169, ex_249_172, ex_249_174, ex_249_179, ex_249_184, if_true, if_false, and_self, Option.toList_some, Option.toList_none, List.singleton_append, List.cons_append, List.nil_append, List.append_nil, nI_1, nt_e, Int32.le_refl, c1, hn, bi_e, pow_nI h12, nI_leI, hnle, q1, show ob (some b) = nI b from rfl, i_lt0, bits_ok, q2, Bool.true_eq_false, Bool.false_eq_true, ↓reduceIte]
            exact hs (some b) _ _ hj (by rw [Option.all_some, few, decide_eq_false q2]; simp)
      · simp (disch := first | exact am_nl_i _ | exact am_nl_r _ | exact am_nl_0 | (refine vi_nI ?_ ?_ <;> omega) | assumption | omega | exact b2i_01 _ | exact Or.inl rfl | exact Or.inr rfl | (unfold vi; decide)) only [ex_249_0, ex_249_1, ex_249_2, ex_249_5, ex_249_6, ex_249_7, ex_249_9, ex_249_12, ex_249_15, ex_249_16, ex_249_17, ex_249_18, ex_249_19, ex_249_22, ex_249_23, ex_249_24, ex_249_25, ex_249_26, ex_249_27, ex_249_28, ex_249_31, ex_249_32, ex_249_33, ex_249_34, ex_249_35, ex_249_36, ex_249_39, ex_249_40, ex_249_41, ex_249_42, ex_249_43, ex_249_44, ex_249_47, ex_249_48, ex_249_49, ex_249_51, ex_249_52, ex_249_56, ex_249_57, ex_249_58, ex_249_61, ex_249_62, ex_249_63, ex_249_64, ex_249_67, ex_249_69, ex_249_70, ex_249_71, ex_249_72, ex_249_73, ex_249_76, ex_249_78, ex_249_81, ex_249_83, ex_249_86, ex_249_88, ex_249_91, ex_249_94, ex_249_98, ex_249_100, ex_249_101, ex_249_103, ex_249_105, ex_249_106, ex_249_109, ex_249_110, ex_249_111, ex_249_114, ex_249_116, ex_249_119, ex_249_121, ex_249_123, ex_249_124, ex_249_125, ex_249_126, ex_249_127, ex_249_130, ex_249_131, ex_249_134, ex_249_136, ex_249_137, ex_249_138, ex_249_141, ex_249_142, ex_249_145, ex_249_146, ex_249_148, ex_249_151, ex_249_154, ex_249_156, ex_249_159, ex_249_160, ex_249_161, ex_249_163, ex_249_166, ex_249_167, ex_249_168, ex_249_169, ex_249_172, ex_249_174, ex_249_179, ex_249_184, if_true, if_false, and_self, Option.toList_some, Option.toList_none, List.singleton_append, List.cons_append, List.nil_append, List.append_nil, nI_1, nt_e, Int32.le_refl, c1, hn, bi_e, pow_nI h12, nI_leI, hnle, q1, Bool.true_eq_false, Bool.false_eq_true, ↓reduceIte]
        exact hs _ _ _ hj (by rw [okSafeR, decide_eq_false q1]; simp)
  simp (disch := first | exact am_nl_i _ | exact am_nl_r _ | exact am_nl_0 | assumption | omega | (refine vi_nI ?_ ?_ <;> omega) | exact b2i_01 _ | exact Or.inl rfl | exact Or.inr rfl | (unfold vi; decide)) only [ex_249_0, ex_249_1, ex_249_2, ex_249_5, ex_249_6, ex_249_7, ex_249_9, ex_249_12, ex_249_15, ex_249_16, ex_249_17, ex_249_18, ex_249_19, ex_249_22, ex_249_23, ex_249_24, ex_249_25, ex_249_26, ex_249_27, ex_249_28, ex_249_31, ex_249_32, ex_249_33, ex_249_34, ex_249_35, ex_249_36, ex_249_39, ex_249_40, ex_249_41, ex_249_42, ex_249_43, ex_249_44, ex_249_47, ex_249_48, ex_249_49, ex_249_51, ex_249_52, ex_249_56, ex_249_57, ex_249_58, ex_249_61, ex_249_62, ex_249_63, ex_249_64, ex_249_67, ex_249_69, ex_249_70, ex_249_71, ex_249_72, ex_249_73, ex_249_76, ex_249_78, ex_249_81, ex_249_83, ex_249_86, ex_249_88, ex_249_91, ex_249_94, ex_249_97, ex_249_98, ex_249_100, ex_249_101, ex_249_103, ex_249_105, ex_249_106, ex_249_109, ex_249_110, ex_249_111, ex_249_114, ex_249_116, ex_249_119, ex_249_121, ex_249_123, ex_249_124, ex_249_125, ex_249_126, ex_249_127, ex_249_130, ex_249_131, ex_249_134, ex_249_136, ex_249_137, ex_249_138, ex_249_141, ex_249_142, ex_249_145, ex_249_146, ex_249_148, ex_249_151, ex_249_154, ex_249_156, ex_249_159, ex_249_160, ex_249_161, ex_249_163, ex_249_166, ex_249_167, ex_249_168, ex_249_169, ex_249_172, ex_249_174, ex_249_176, ex_249_179, ex_249_182, ex_249_184, if_true, if_false, and_self, Option.toList_some, Option.toList_none, List.singleton_append, List.cons_append, List.nil_append, List.append_nil, nI_1, nt_e, Int32.le_refl, c0, hR.1.1, bi_e, lostNow_ok hR hl hW hw, knownTo_ok hR hl hW hw, withCopies_ok hR hl hW hw]
  rw [show bi (nF S.1) - 1 = allFV S.1 from rfl, hrare]
  exact loop (2 ^ nP S.1) 0 none none rfl (by omega)
end Safe
