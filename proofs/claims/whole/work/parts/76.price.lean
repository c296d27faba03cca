/-! PRICE -/
theorem knows_mono {v : LV} {s s' : Int32} (h : ∀ i, bt s i = true → bt s' i = true) : ∀ j, bt (knowsV v s) j = true → bt (knowsV v s') j = true := by
  intro j hj
  unfold knowsV at hj ⊢
  rw [orF_bt] at hj ⊢
  obtain ⟨k, hk, hb⟩ := hj
  refine ⟨k, hk, ?_⟩
  cases hs : bt s k
  · rw [hs] at hb
    simp [b_0] at hb
  · rw [h k hs]
    rw [hs] at hb
    exact hb
theorem under_mono {lean : Nat → Int32} {a b : Int32} (h : ∀ i, bt a i = true → bt b i = true) : ∀ n j, bt (underF lean a n) j = true → bt (underF lean b n) j = true
  | 0, j, hj => by
    rw [underF, b_0] at hj
    cases hj
  | n + 1, j, hj => by
    have ih := under_mono (lean := lean) h n
    rw [underF] at hj ⊢
    cases q : bt a n && decide (lean n &&& nt (underF lean a n) = 0)
    · rw [q] at hj
      simp only [Bool.false_eq_true, if_false] at hj
      have := ih j hj
      split
      · rw [b_or, this]; rfl
      · exact this
    · rw [q] at hj
      simp only [if_true] at hj
      rw [Bool.and_eq_true, decide_eq_true_eq, sub_iff] at q
      have q2 : (bt b n && decide (lean n &&& nt (underF lean b n) = 0)) = true := by
        rw [Bool.and_eq_true, decide_eq_true_eq, sub_iff]
        exact ⟨h n q.1, fun i hi hx => ih i (q.2 i hi hx)⟩
      rw [q2]
      simp only [if_true]
      rw [b_or, Bool.or_eq_true] at hj ⊢
      rcases hj with hj | hj
      · exact Or.inl (ih j hj)
      · exact Or.inr hj
theorem can_mono {v : LV} {a b : Int32} (h : ∀ i, bt a i = true → bt b i = true) (t : Nat) (hc : canV v a t = true) : canV v b t = true := by
  unfold canV underV at hc ⊢
  rw [decide_eq_true_eq, sub_iff] at hc ⊢
  exact fun i hi hx => under_mono h _ i (hc i hi hx)
theorem worth2 {v : LV} (hW : WF v) {c c' : Nat → Bool} (h : ∀ t, c t = true → c' t = true) : ∀ n, n ≤ nT v → ∃ a b : Nat, a ≤ b ∧ b ≤ 99 * n ∧ sumF n (fun t => if c t then worthV v t else 0) = nI a ∧ sumF n (fun t => if c' t then worthV v t else 0) = nI b
  | 0, _ => ⟨0, 0, by omega, by omega, rfl, rfl⟩
  | n + 1, hn => by
    obtain ⟨a, b, h1, h2, h3, h4⟩ := worth2 hW h n (by omega)
    obtain ⟨w, hw, he⟩ := (hW.2.2.2.2.2.1 n (by omega)).1
    rw [sumF, sumF, h3, h4]
    cases hc : c n
    · cases hc' : c' n
      · exact ⟨a, b, h1, by omega, Int32.add_zero _, Int32.add_zero _⟩
      · exact ⟨a, b + w, by omega, by omega, Int32.add_zero _, by simp only [if_true]; rw [he, nI_add]⟩
    · rw [h n hc]
      exact ⟨a + w, b + w, by omega, by omega, by simp only [if_true]; rw [he, nI_add], by simp only [if_true]; rw [he, nI_add]⟩
def gainV (v : LV) (l : LF) (k p : Nat) : Int32 := worthOfV v (knowsV v (eatL l p ||| bi k)) - worthOfV v (knowsV v (eatL l p))
theorem gain_nI {v : LV} (hW : WF v) (l : LF) (k p : Nat) : ∃ g : Nat, g < 1000 ∧ gainV v l k p = nI g := by
  have h5 := hW.1.2.2.2
  obtain ⟨a, b, h1, h2, h3, h4⟩ := worth2 hW (c := canV v (knowsV v (eatL l p))) (c' := canV v (knowsV v (eatL l p ||| bi k))) (can_mono (knows_mono (fun i hi => by rw [b_or, hi]; rfl))) (nT v) (Nat.le_refl _)
  refine ⟨b - a, by omega, ?_⟩
  unfold gainV worthOfV
  rw [h3, h4, pk_sub h1]
def priceW (v : LV) (l : LF) (k : Nat) : Nat → Int32 × Int32
  | 0 => (-1, -1)
  | n + 1 => if livesL l n && decide ((priceW v l k n).1 < gainV v l k n) then (gainV v l k n, nI n) else priceW v l k n
theorem price_in {v : LV} (hW : WF v) (l : LF) (k : Nat) : ∀ n, (priceW v l k n = (-1, -1)) ∨ ((∃ g, g < 1000 ∧ (priceW v l k n).1 = nI g) ∧ ∃ j, j < n ∧ (priceW v l k n).2 = nI j)
  | 0 => Or.inl rfl
  | n + 1 => by
    have ih := price_in hW l k n
    rw [priceW]
    split
    · exact Or.inr ⟨gain_nI hW l k n, n, by omega, rfl⟩
    · rcases ih with ih | ⟨h1, j, hj, h2⟩
      · exact Or.inl ih
      · exact Or.inr ⟨h1, j, by omega, h2⟩
def priceS (S : ST) (x y : Int32) : Int32 := if okI x (nP S.1) && okI y 2 then (if y = 0 then (priceW S.1 S.2.1.1 (ix x) (nE S.1)).1 else (priceW S.1 S.2.1.1 (ix x) (nE S.1)).2) else -1
section Price
variable {d L L' : Nat} {u : am_U} {S : ST} {post : Option Value → am_M → Prop}
theorem C_price {x y : Int32} (hI : InvC u S L L') (hS : WS S) : Cl (d + 3) 141 [.ref 0, .int x, .int y] (am_emb u) post ↔ post (some (.int (priceS S x y))) (am_emb u) := by
  refine Cl_iff ?_ post
  have hL := lib_sh hI.1.2.2.1
  have hW := hS.1
  have h12 := hW.1.2.1
  have h6 := hW.1.2.2.1
  obtain ⟨⟨r1, r2, r3, r4, r5, r6⟩, ⟨l1, l2, l3⟩, ⟨st1, st2, st3⟩, pst, mk, tp⟩ := hI
  rw [op_141]
  simp (disch := first | exact am_nl_i _ | exact am_nl_r _ | exact am_nl_0 | assumption | omega | (refine vi_nI ?_ ?_ <;> omega) | exact b2i_01 _ | exact Or.inl rfl | exact Or.inr rfl | (unfold vi; decide)) only [ex_141_0, ex_141_1, ex_141_4, ex_141_7, ex_141_8, ex_141_11, ex_141_14, ex_141_15, ex_141_18, ex_141_19, ex_141_20, ex_141_23, ex_141_24, ex_141_26, ex_141_27, ex_141_28, ex_141_30, ex_141_31, ex_141_33, ex_141_35, ex_141_36, ex_141_39, ex_141_42, ex_141_45, ex_141_48, ex_141_49, ex_141_52, ex_141_55, ex_141_57, ex_141_60, ex_141_63, ex_141_64, ex_141_67, ex_141_68, ex_141_71, ex_141_74, ex_141_77, ex_141_79, ex_141_80, ex_141_81, ex_141_82, ex_141_83, ex_141_84, ex_141_87, ex_141_88, ex_141_91, ex_141_92, ex_141_95, ex_141_98, ex_141_101, ex_141_103, ex_141_104, ex_141_107, ex_141_108, ex_141_110, ex_141_112, ex_141_113, ex_141_116, ex_141_118, ex_141_119, ex_141_121, ex_141_123, ex_141_126, ex_141_129, ex_141_130, ex_141_133, ex_141_134, ex_141_137, ex_141_139, if_true, if_false, and_self, Option.toList_some, Option.toList_none, List.singleton_append, List.cons_append, List.nil_append, List.append_nil, nI_1, nt_e, Int32.le_refl, r1, va_rfs, has_ok (sh_3_3 hL) l1.1.2.1 l1.2.1.2.1 h12 h12 (Nat.le_refl 12), b2i_0]
  unfold priceS
  rw [show decide (0 ≤ x.toInt ∧ x.toInt < (nP S.1 : Int)) = okI x (nP S.1) from rfl]
  cases q : okI x (nP S.1)
  · rw [if_pos rfl]
    (try (first | exact ⟨rfl, rfl⟩ | exact ⟨rfl, trivial⟩))
  rw [if_neg (by simp)]
  refine okI_g2 (n := 1) (by decide) (fun q2 => ?_) (fun q2 => ?_)
  · rw [q2]
    (try (first | exact ⟨rfl, rfl⟩ | exact ⟨rfl, trivial⟩))
  rw [q2]
  obtain ⟨i1, i2⟩ := okI_ix q
  generalize ix x = k at *
  subst i2
  simp only [Bool.and_self, if_true]
  have hn := l1.1.2.2.1
  have loop : ∀ (kz i : Nat) (j6 : Option Value), i + kz = nE S.1 → Ex (d + 3) 141 33 [some (.ref 0), some (.int (nI k)), some (.int y), some (.int (priceW S.1 S.2.1.1 k i).1), some (.int (priceW S.1 S.2.1.1 k i).2), some (.int (nI i)), j6] [] (am_emb u) (fun w n => w = some (.int (if y = 0 then (priceW S.1 S.2.1.1 k (nE S.1)).1 else (priceW S.1 S.2.1.1 k (nE S.1)).2)) ∧ n = am_emb u) := by
    intro kz
    induction kz with
    | zero =>
      intro i j6 hi
      obtain rfl : i = nE S.1 := by omega
      rw [ex_141_33]
      by_cases y0 : y = 0
      · simp (disch := first | exact am_nl_i _ | exact am_nl_r _ | exact am_nl_0 | (refine vi_nI ?_ ?_ <;> omega) | assumption | omega | exact b2i_01 _ | exact Or.inl rfl | exact Or.inr rfl | (unfold vi; decide)) only [ex_141_0, ex_141_1, ex_141_4, ex_141_7, ex_141_8, ex_141_11, ex_141_14, ex_141_15, ex_141_18, ex_141_19, ex_141_20, ex_141_23, ex_141_24, ex_141_25, ex_141_26, ex_141_27, ex_141_28, ex_141_30, ex_141_31, ex_141_35, ex_141_36, ex_141_39, ex_141_42, ex_141_45, ex_141_49, ex_141_52, ex_141_55, ex_141_57, ex_141_60, ex_141_63, ex_141_64, ex_141_67, ex_141_68, ex_141_71, ex_141_74, ex_141_77, ex_141_79, ex_141_80, ex_141_81, ex_141_82, ex_141_83, ex_141_84, ex_141_87, ex_141_88, ex_141_91, ex_141_92, ex_141_95, ex_141_98, ex_141_101, ex_141_103, ex_141_104, ex_141_107, ex_141_108, ex_141_110, ex_141_112, ex_141_113, ex_141_116, ex_141_118, ex_141_119, ex_141_121, ex_141_123, ex_141_126, ex_141_129, ex_141_130, ex_141_133, ex_141_134, ex_141_137, ex_141_139, if_true, if_false, and_self, Option.toList_some, Option.toList_none, List.singleton_append, List.cons_append, List.nil_append, List.append_nil, nI_1, nt_e, Int32.le_refl, r1, va_rfs, hn, nI_leI, Nat.le_refl, y0, Bool.true_eq_false, Bool.false_eq_true, ↓reduceIte]
        (try (first | exact ⟨rfl, rfl⟩ | exact ⟨rfl, trivial⟩))
      · simp (disch := first | exact am_nl_i _ | exact am_nl_r _ | exact am_nl_0 | (refine vi_nI ?_ ?_ <;> omega) | assumption | omega | exact b2i_01 _ | exact Or.inl rfl | exact Or.inr rfl | (unfold vi; decide)) only [ex_141_0, ex_141_1, ex_141_4, ex_141_7, ex_141_8, ex_141_11, ex_141_14, ex_141_15, ex_141_18, ex_141_19, ex_141_20, ex_141_23, ex_141_24, ex_141_25, ex_141_26, ex_141_27, ex_141_28, ex_141_30, ex_141_31, ex_141_35, ex_141_36, ex_141_39, ex_141_42, ex_141_45, ex_141_49, ex_141_52, ex_141_55, ex_141_57, ex_141_60, ex_141_63, ex_141_64, ex_141_67, ex_141_68, ex_141_71, ex_141_74, ex_141_77, ex_141_79, ex_141_80, ex_141_81, ex_141_82, ex_141_83, ex_141_84, ex_141_87, ex_141_88, ex_141_91, ex_141_92, ex_141_95, ex_141_98, ex_141_101, ex_141_103, ex_141_104, ex_141_107, ex_141_108, ex_141_110, ex_141_112, ex_141_113, ex_141_116, ex_141_118, ex_141_119, ex_141_121, ex_141_123, ex_141_126, ex_141_129, ex_141_130, ex_141_133, ex_141_134, ex_141_137, ex_141_139, if_true, if_false, and_self, Option.toList_some, Option.toList_none, List.singleton_append, List.cons_append, List.nil_append, List.append_nil, nI_1, nt_e, Int32.le_refl, r1, va_rfs, hn, nI_leI, Nat.le_refl, y0, Bool.true_eq_false, Bool.false_eq_true, ↓reduceIte]
        (try (first | exact ⟨rfl, rfl⟩ | exact ⟨rfl, trivial⟩))
    | succ kz ih =>
      intro i j6 hi
      have ih := fun j6 => ih (i + 1) j6 (by omega)
      have hnle : ¬ nE S.1 ≤ i := by omega
      have hg : gainV S.1 S.2.1.1 k i = worthOfV S.1 (knowsV S.1 (eatL S.2.1.1 i ||| bi k)) - worthOfV S.1 (knowsV S.1 (eatL S.2.1.1 i)) := rfl
      rw [priceW, hg] at ih
      generalize priceW S.1 S.2.1.1 k i = W at *
      rw [ex_141_33]
      cases ha : livesL S.2.1.1 i
      · simp only [ha, Bool.false_and, Bool.false_eq_true, if_false] at ih
        simp (disch := first | exact am_nl_i _ | exact am_nl_r _ | exact am_nl_0 | (refine vi_nI ?_ ?_ <;> omega) | assumption | omega | exact b2i_01 _ | exact Or.inl rfl | exact Or.inr rfl | (unfold vi; decide)) only [ex_141_0, ex_141_1, ex_141_4, ex_141_7, ex_141_8, ex_141_11, ex_141_14, ex_141_15, ex_141_18, ex_141_19, ex_141_20, ex_141_23, ex_141_24, ex_141_25, ex_141_26, ex_141_27, ex_141_28, ex_141_30, ex_141_31, ex_141_35, ex_141_36, ex_141_39, ex_141_42, ex_141_45, ex_141_48, ex_141_49, ex_141_52, ex_141_55, ex_141_57, ex_141_60, ex_141_63, ex_141_64, ex_141_67, ex_141_68, ex_141_71, ex_141_74, ex_141_77, ex_141_79, ex_141_80, ex_141_81, ex_141_82, ex_141_83, ex_141_84, ex_141_87, ex_141_88, ex_141_91, ex_141_92, ex_141_95, ex_141_98, ex_141_101, ex_141_103, ex_141_104, ex_141_107, ex_141_108, ex_141_110, ex_141_112, ex_141_113, ex_141_116, ex_141_118, ex_141_119, ex_141_121, ex_141_123, ex_141_126, ex_141_130, ex_141_133, ex_141_134, ex_141_137, ex_141_139, if_true, if_false, and_self, Option.toList_some, Option.toList_none, List.singleton_append, List.cons_append, List.nil_append, List.append_nil, nI_1, nt_e, Int32.le_refl, r1, va_rfs, hn, nI_leI, hnle, lives_ok shl_65 st1, livesI_nI, ha, b2i_0, Bool.true_eq_false, Bool.false_eq_true, ↓reduceIte]
        exact ih _
      · by_cases hq : W.1 < worthOfV S.1 (knowsV S.1 (eatL S.2.1.1 i ||| bi k)) - worthOfV S.1 (knowsV S.1 (eatL S.2.1.1 i))
        · simp only [ha, decide_eq_true hq, Bool.and_self, if_true] at ih
          simp (disch := first | exact am_nl_i _ | exact am_nl_r _ | exact am_nl_0 | (refine vi_nI ?_ ?_ <;> omega) | assumption | omega | exact b2i_01 _ | exact Or.inl rfl | exact Or.inr rfl | (unfold vi; decide)) only [ex_141_0, ex_141_1, ex_141_4, ex_141_7, ex_141_8, ex_141_11, ex_141_14, ex_141_15, ex_141_18, ex_141_19, ex_141_20, ex_141_23, ex_141_24, ex_141_25, ex_141_26, ex_141_27, ex_141_28, ex_141_30, ex_141_31, ex_141_35, ex_141_36, ex_141_39, ex_141_42, ex_141_45, ex_141_48, ex_141_49, ex_141_52, ex_141_55, ex_141_57, ex_141_60, ex_141_63, ex_141_64, ex_141_67, ex_141_68, ex_141_71, ex_141_74, ex_141_77, ex_141_79, ex_141_80, ex_141_81, ex_141_82, ex_141_83, ex_141_84, ex_141_87, ex_141_88, ex_141_91, ex_141_92, ex_141_95, ex_141_98, ex_141_101, ex_141_103, ex_141_104, ex_141_107, ex_141_108, ex_141_110, ex_141_112, ex_141_113, ex_141_116, ex_141_118, ex_141_119, ex_141_121, ex_141_123, ex_141_126, ex_141_130, ex_141_133, ex_141_134, ex_141_137, ex_141_139, if_true, if_false, and_self, Option.toList_some, Option.toList_none, List.singleton_append, List.cons_append, List.nil_append, List.append_nil, nI_1, nt_e, Int32.le_refl, r1, va_rfs, hn, nI_leI, hnle, lives_ok shl_65 st1, livesI_nI, ha, b2i_0, st1.1, nI_clamp, bi_e, worthWith_ok hL l1 hW, Int32.not_le.mpr hq, Bool.true_eq_false, Bool.false_eq_true, ↓reduceIte]
          exact ih _
        · simp only [ha, decide_eq_false hq, Bool.and_false, Bool.false_eq_true, if_false] at ih
          simp (disch := first | exact am_nl_i _ | exact am_nl_r _ | exact am_nl_0 | (refine vi_nI ?_ ?_ <;> omega) | assumption | omega | exact b2i_01 _ | exact Or.inl rfl | exact Or.inr rfl | (unfold vi; decide)) only [ex_141_0, ex_141_1, ex_141_4, ex_141_7, ex_141_8, ex_141_11, ex_141_14, ex_141_15, ex_141_18, ex_141_19, ex_141_20, ex_141_23, ex_141_24, ex_141_25, ex_141_26, ex_141_27, ex_141_28, ex_141_30, ex_141_31, ex_141_35, ex_141_36, ex_141_39, ex_141_42, ex_141_45, ex_141_48, ex_141_49, ex_141_52, ex_141_55, ex_141_57, ex_141_60, ex_141_63, ex_141_64, ex_141_67, ex_141_68, ex_141_71, ex_141_74, ex_141_77, ex_141_79, ex_141_80, ex_141_81, ex_141_82, ex_141_83, ex_141_84, ex_141_87, ex_141_88, ex_141_91, ex_141_92, ex_141_95, ex_141_98, ex_141_101, ex_141_103, ex_141_104, ex_141_107, ex_141_108, ex_141_110, ex_141_112, ex_141_113, ex_141_116, ex_141_118, ex_141_119, ex_141_121, ex_141_123, ex_141_126, ex_141_130, ex_141_133, ex_141_134, ex_141_137, ex_141_139, if_true, if_false, and_self, Option.toList_some, Option.toList_none, List.singleton_append, List.cons_append, List.nil_append, List.append_nil, nI_1, nt_e, Int32.le_refl, r1, va_rfs, hn, nI_leI, hnle, lives_ok shl_65 st1, livesI_nI, ha, b2i_0, st1.1, nI_clamp, bi_e, worthWith_ok hL l1 hW, Int32.not_lt.mp hq, Bool.true_eq_false, Bool.false_eq_true, ↓reduceIte]
          exact ih _
  simp (disch := first | exact am_nl_i _ | exact am_nl_r _ | exact am_nl_0 | assumption | omega | (refine vi_nI ?_ ?_ <;> omega) | exact b2i_01 _ | exact Or.inl rfl | exact Or.inr rfl | (unfold vi; decide)) only [ex_141_0, ex_141_1, ex_141_4, ex_141_7, ex_141_8, ex_141_11, ex_141_14, ex_141_15, ex_141_18, ex_141_19, ex_141_20, ex_141_23, ex_141_24, ex_141_25, ex_141_26, ex_141_27, ex_141_28, ex_141_30, ex_141_31, ex_141_35, ex_141_36, ex_141_39, ex_141_42, ex_141_45, ex_141_48, ex_141_49, ex_141_52, ex_141_55, ex_141_57, ex_141_60, ex_141_63, ex_141_64, ex_141_67, ex_141_68, ex_141_71, ex_141_74, ex_141_77, ex_141_79, ex_141_80, ex_141_81, ex_141_82, ex_141_83, ex_141_84, ex_141_87, ex_141_88, ex_141_91, ex_141_92, ex_141_95, ex_141_98, ex_141_101, ex_141_103, ex_141_104, ex_141_107, ex_141_108, ex_141_110, ex_141_112, ex_141_113, ex_141_116, ex_141_118, ex_141_119, ex_141_121, ex_141_123, ex_141_126, ex_141_129, ex_141_130, ex_141_133, ex_141_134, ex_141_137, ex_141_139, if_true, if_false, and_self, Option.toList_some, Option.toList_none, List.singleton_append, List.cons_append, List.nil_append, List.append_nil, nI_1, nt_e, Int32.le_refl]
  exact loop (nE S.1) 0 none (by omega)
def priceM (W : Int32 × Int32) : Int32 := if W.2 = -1 then 0 else W.1
theorem R_price {x y : Int32} (hI : InvR u S) (hS : WS S) : Cl (d + 3) 267 [.ref 203, .int x, .int y] (am_emb u) post ↔ post (some (.int (priceS S x y))) (am_emb (th u 0)) := by
  refine Cl_iff ?_ post
  have hI1 : InvR (th u 0) S := th_inv hI
  obtain ⟨hR, hcd, ⟨hl, hl2, hl3⟩, hp, hm, htp⟩ := hI1
  have hW := hS.1
  have hw := hS.2.1.1
  have h6 := hW.1.2.2.1
  have h12 := hW.1.2.1
  have hn := hR.1.2.2.1
  have he : ∀ p, p < 6 → AI (th u 0) 241 p = eatL S.2.1.1 p := fun p hp => by have := hl.1 p hp; rwa [Nat.zero_add] at this
  rw [op_267]
  simp (disch := first | exact am_nl_i _ | exact am_nl_r _ | exact am_nl_0 | assumption | omega | (refine vi_nI ?_ ?_ <;> omega) | exact b2i_01 _ | exact Or.inl rfl | exact Or.inr rfl | (unfold vi; decide)) only [ex_267_0, ex_267_1, ex_267_2, ex_267_5, ex_267_6, ex_267_7, ex_267_10, ex_267_13, ex_267_14, ex_267_15, ex_267_16, ex_267_19, ex_267_22, ex_267_23, ex_267_24, ex_267_25, ex_267_26, ex_267_27, ex_267_29, ex_267_30, ex_267_34, ex_267_35, ex_267_38, ex_267_39, ex_267_40, ex_267_43, ex_267_44, ex_267_46, ex_267_49, ex_267_52, ex_267_55, ex_267_56, ex_267_57, ex_267_58, ex_267_61, ex_267_63, ex_267_64, ex_267_65, ex_267_66, ex_267_67, ex_267_68, ex_267_71, ex_267_74, ex_267_75, ex_267_76, ex_267_77, ex_267_80, ex_267_82, ex_267_83, ex_267_86, ex_267_89, ex_267_90, ex_267_92, ex_267_93, ex_267_96, ex_267_98, ex_267_100, ex_267_103, ex_267_106, ex_267_108, ex_267_109, ex_267_111, ex_267_113, ex_267_116, ex_267_119, ex_267_120, ex_267_123, ex_267_124, ex_267_125, ex_267_128, ex_267_129, ex_267_132, ex_267_134, if_true, if_false, and_self, Option.toList_some, Option.toList_none, List.singleton_append, List.cons_append, List.nil_append, List.append_nil, nI_1, nt_e, Int32.le_refl, th_e, isPage_ok hR hW, b2i_0]
  unfold priceS
  cases q : okI x (nP S.1)
  · rw [if_pos rfl]
    (try (first | exact ⟨rfl, rfl⟩ | exact ⟨rfl, trivial⟩))
  rw [if_neg (by simp)]
  simp (disch := first | exact am_nl_i _ | exact am_nl_r _ | exact am_nl_0 | assumption | omega | (refine vi_nI ?_ ?_ <;> omega) | exact b2i_01 _ | exact Or.inl rfl | exact Or.inr rfl | (unfold vi; decide)) only [ex_267_0, ex_267_1, ex_267_2, ex_267_5, ex_267_6, ex_267_7, ex_267_10, ex_267_13, ex_267_14, ex_267_15, ex_267_16, ex_267_19, ex_267_22, ex_267_23, ex_267_24, ex_267_25, ex_267_26, ex_267_27, ex_267_29, ex_267_30, ex_267_34, ex_267_35, ex_267_38, ex_267_39, ex_267_40, ex_267_43, ex_267_44, ex_267_46, ex_267_49, ex_267_52, ex_267_55, ex_267_56, ex_267_57, ex_267_58, ex_267_61, ex_267_63, ex_267_64, ex_267_65, ex_267_66, ex_267_67, ex_267_68, ex_267_71, ex_267_74, ex_267_75, ex_267_76, ex_267_77, ex_267_80, ex_267_82, ex_267_83, ex_267_86, ex_267_89, ex_267_90, ex_267_92, ex_267_93, ex_267_96, ex_267_98, ex_267_100, ex_267_103, ex_267_106, ex_267_108, ex_267_109, ex_267_111, ex_267_113, ex_267_116, ex_267_119, ex_267_120, ex_267_123, ex_267_124, ex_267_125, ex_267_128, ex_267_129, ex_267_132, ex_267_134, if_true, if_false, and_self, Option.toList_some, Option.toList_none, List.singleton_append, List.cons_append, List.nil_append, List.append_nil, nI_1, nt_e, Int32.le_refl, within_ok, b2i_0, show (1 : Int32) = nI 1 from rfl, within_okI (n := 1) (by decide) rfl]
  rw [show (1 + 1) = 2 from rfl]
  cases q2 : okI y 2
  · rw [if_pos rfl]
    (try (first | exact ⟨rfl, rfl⟩ | exact ⟨rfl, trivial⟩))
  rw [if_neg (by simp)]
  have hyy : y = 0 ∨ y = 1 := by
    obtain ⟨k, hk, rfl⟩ := what_in q2
    match k, hk with
    | 0, _ => exact Or.inl rfl
    | 1, _ => exact Or.inr rfl
  obtain ⟨i1, i2⟩ := okI_ix q
  generalize ix x = k at *
  subst i2
  simp only [Bool.and_self, if_true]
  have loop : ∀ (kz i : Nat) (j6 : Option Value), i + kz = nE S.1 → Ex (d + 3) 267 32 [some (.ref 203), some (.int (nI k)), some (.int y), some (.int (priceW S.1 S.2.1.1 k i).2), some (.int (priceM (priceW S.1 S.2.1.1 k i))), some (.int (nI i)), j6] [] (am_emb (th u 0)) (fun w n => w = some (.int (if y = 0 then (priceW S.1 S.2.1.1 k (nE S.1)).1 else (priceW S.1 S.2.1.1 k (nE S.1)).2)) ∧ n = am_emb (th u 0)) := by
    intro kz
    induction kz with
    | zero =>
      intro i j6 hi
      obtain rfl : i = nE S.1 := by omega
      have hin := price_in hW S.2.1.1 k (nE S.1)
      generalize priceW S.1 S.2.1.1 k (nE S.1) = W at *
      rw [ex_267_32]
      rcases hin with rfl | ⟨-, j, hj, h2⟩
      · simp (disch := first | exact am_nl_i _ | exact am_nl_r _ | exact am_nl_0 | (refine vi_nI ?_ ?_ <;> omega) | assumption | omega | exact b2i_01 _ | exact Or.inl rfl | exact Or.inr rfl | (unfold vi; decide)) only [ex_267_0, ex_267_1, ex_267_2, ex_267_5, ex_267_6, ex_267_7, ex_267_10, ex_267_13, ex_267_14, ex_267_15, ex_267_16, ex_267_19, ex_267_22, ex_267_23, ex_267_24, ex_267_25, ex_267_26, ex_267_27, ex_267_29, ex_267_30, ex_267_34, ex_267_35, ex_267_38, ex_267_39, ex_267_40, ex_267_44, ex_267_46, ex_267_49, ex_267_52, ex_267_55, ex_267_56, ex_267_57, ex_267_58, ex_267_61, ex_267_63, ex_267_64, ex_267_65, ex_267_66, ex_267_67, ex_267_68, ex_267_71, ex_267_74, ex_267_75, ex_267_76, ex_267_77, ex_267_80, ex_267_82, ex_267_83, ex_267_86, ex_267_89, ex_267_90, ex_267_92, ex_267_93, ex_267_96, ex_267_98, ex_267_100, ex_267_103, ex_267_106, ex_267_108, ex_267_109, ex_267_111, ex_267_113, ex_267_116, ex_267_119, ex_267_120, ex_267_123, ex_267_124, ex_267_125, ex_267_128, ex_267_129, ex_267_132, ex_267_134, if_true, if_false, and_self, Option.toList_some, Option.toList_none, List.singleton_append, List.cons_append, List.nil_append, List.append_nil, nI_1, nt_e, Int32.le_refl, c2, hn, nI_leI, Nat.le_refl, show ((-1 : Int32) < (0 : Int32)) = True from eq_true (by decide), Bool.true_eq_false, Bool.false_eq_true, ↓reduceIte]
        simp only [ite_self]
        exact ⟨trivial, trivial⟩
      · have e2 : ¬ W.2 = -1 := by rw [h2, i_eqm (by omega)]; simp
        have e3 : (W.2 < 0) = False := by rw [h2, i_lt0 (by omega)]
        unfold priceM
        rw [if_neg e2]
        rcases hyy with rfl | rfl
        · simp (disch := first | exact am_nl_i _ | exact am_nl_r _ | exact am_nl_0 | (refine vi_nI ?_ ?_ <;> omega) | assumption | omega | exact b2i_01 _ | exact Or.inl rfl | exact Or.inr rfl | (unfold vi; decide)) only [ex_267_0, ex_267_1, ex_267_2, ex_267_5, ex_267_6, ex_267_7, ex_267_10, ex_267_13, ex_267_14, ex_267_15, ex_267_16, ex_267_19, ex_267_22, ex_267_23, ex_267_24, ex_267_25, ex_267_26, ex_267_27, ex_267_29, ex_267_30, ex_267_34, ex_267_35, ex_267_38, ex_267_39, ex_267_40, ex_267_44, ex_267_46, ex_267_49, ex_267_52, ex_267_55, ex_267_56, ex_267_57, ex_267_58, ex_267_61, ex_267_63, ex_267_64, ex_267_65, ex_267_66, ex_267_67, ex_267_68, ex_267_71, ex_267_74, ex_267_75, ex_267_76, ex_267_77, ex_267_80, ex_267_82, ex_267_83, ex_267_86, ex_267_89, ex_267_90, ex_267_92, ex_267_93, ex_267_96, ex_267_98, ex_267_100, ex_267_103, ex_267_106, ex_267_108, ex_267_109, ex_267_111, ex_267_113, ex_267_116, ex_267_119, ex_267_120, ex_267_123, ex_267_124, ex_267_125, ex_267_128, ex_267_129, ex_267_132, ex_267_134, if_true, if_false, and_self, Option.toList_some, Option.toList_none, List.singleton_append, List.cons_append, List.nil_append, List.append_nil, nI_1, nt_e, Int32.le_refl, c2, hn, nI_leI, Nat.le_refl, e3, show ((0 : Int32) = (1 : Int32)) = False from eq_false (by decide), Bool.true_eq_false, Bool.false_eq_true, ↓reduceIte]
          (try (first | exact ⟨rfl, rfl⟩ | exact ⟨rfl, trivial⟩))
        · simp (disch := first | exact am_nl_i _ | exact am_nl_r _ | exact am_nl_0 | (refine vi_nI ?_ ?_ <;> omega) | assumption | omega | exact b2i_01 _ | exact Or.inl rfl | exact Or.inr rfl | (unfold vi; decide)) only [ex_267_0, ex_267_1, ex_267_2, ex_267_5, ex_267_6, ex_267_7, ex_267_10, ex_267_13, ex_267_14, ex_267_15, ex_267_16, ex_267_19, ex_267_22, ex_267_23, ex_267_24, ex_267_25, ex_267_26, ex_267_27, ex_267_29, ex_267_30, ex_267_34, ex_267_35, ex_267_38, ex_267_39, ex_267_40, ex_267_44, ex_267_46, ex_267_49, ex_267_52, ex_267_55, ex_267_56, ex_267_57, ex_267_58, ex_267_61, ex_267_63, ex_267_64, ex_267_65, ex_267_66, ex_267_67, ex_267_68, ex_267_71, ex_267_74, ex_267_75, ex_267_76, ex_267_77, ex_267_80, ex_267_82, ex_267_83, ex_267_86, ex_267_89, ex_267_90, ex_267_92, ex_267_93, ex_267_96, ex_267_98, ex_267_100, ex_267_103, ex_267_106, ex_267_108, ex_267_109, ex_267_111, ex_267_113, ex_267_116, ex_267_119, ex_267_120, ex_267_123, ex_267_124, ex_267_125, ex_267_128, ex_267_129, ex_267_132, ex_267_134, if_true, if_false, and_self, Option.toList_some, Option.toList_none, List.singleton_append, List.cons_append, List.nil_append, List.append_nil, nI_1, nt_e, Int32.le_refl, c2, hn, nI_leI, Nat.le_refl, e3, show ((1 : Int32) = (0 : Int32)) = False from eq_false (by decide), Bool.true_eq_false, Bool.false_eq_true, ↓reduceIte]
          (try (first | exact ⟨rfl, rfl⟩ | exact ⟨rfl, trivial⟩))
    | succ kz ih =>
      intro i j6 hi
      have ih := fun j6 => ih (i + 1) j6 (by omega)
      have hnle : ¬ nE S.1 ≤ i := by omega
      have hg : gainV S.1 S.2.1.1 k i = worthOfV S.1 (knowsV S.1 (eatL S.2.1.1 i ||| bi k)) - worthOfV S.1 (knowsV S.1 (eatL S.2.1.1 i)) := rfl
      obtain ⟨g, hg1, hg2⟩ := gain_nI hW S.2.1.1 k i
      have hin := price_in hW S.2.1.1 k i
      have e1 := he i (by omega)
      have hmi : ¬ nI i = -1 := by rw [i_eqm (by omega)]; simp
      rw [priceW, hg2] at ih
      rw [hg] at hg2
      generalize priceW S.1 S.2.1.1 k i = W at *
      rw [ex_267_32]
      cases ha : livesL S.2.1.1 i
      · simp only [ha, Bool.false_and, Bool.false_eq_true, if_false] at ih
        simp (disch := first | exact am_nl_i _ | exact am_nl_r _ | exact am_nl_0 | (refine vi_nI ?_ ?_ <;> omega) | assumption | omega | exact b2i_01 _ | exact Or.inl rfl | exact Or.inr rfl | (unfold vi; decide)) only [ex_267_0, ex_267_1, ex_267_2, ex_267_5, ex_267_6, ex_267_7, ex_267_10, ex_267_13, ex_267_14, ex_267_15, ex_267_16, ex_267_19, ex_267_22, ex_267_23, ex_267_24, ex_267_25, ex_267_26, ex_267_27, ex_267_29, ex_267_30, ex_267_34, ex_267_35, ex_267_38, ex_267_39, ex_267_40, ex_267_43, ex_267_44, ex_267_46, ex_267_49, ex_267_52, ex_267_55, ex_267_56, ex_267_57, ex_267_58, ex_267_61, ex_267_63, ex_267_64, ex_267_65, ex_267_66, ex_267_67, ex_267_68, ex_267_71, ex_267_74, ex_267_75, ex_267_76, ex_267_77, ex_267_80, ex_267_82, ex_267_83, ex_267_86, ex_267_89, ex_267_90, ex_267_92, ex_267_93, ex_267_96, ex_267_98, ex_267_100, ex_267_103, ex_267_106, ex_267_108, ex_267_109, ex_267_111, ex_267_113, ex_267_116, ex_267_120, ex_267_123, ex_267_124, ex_267_125, ex_267_128, ex_267_129, ex_267_132, ex_267_134, if_true, if_false, and_self, Option.toList_some, Option.toList_none, List.singleton_append, List.cons_append, List.nil_append, List.append_nil, nI_1, nt_e, Int32.le_refl, c2, hn, nI_leI, hnle, isAlive_ok hR hl hW hw, livesI_nI, ha, b2i_0, Bool.true_eq_false, Bool.false_eq_true, ↓reduceIte]
        exact ih _
      · rcases hin with rfl | ⟨⟨z, hz, h1⟩, j, hj, h2⟩
        · have e4 : decide ((-1 : Int32) < nI g) = true := by
            rw [decide_eq_true_eq, Int32.lt_iff_toInt_lt, nI_toInt (by omega), show (-1 : Int32).toInt = -1 from rfl]
            omega
          simp only [ha, e4, Bool.and_self, if_true, priceM, hmi, if_false] at ih
          simp (disch := first | exact am_nl_i _ | exact am_nl_r _ | exact am_nl_0 | (refine vi_nI ?_ ?_ <;> omega) | assumption | omega | exact b2i_01 _ | exact Or.inl rfl | exact Or.inr rfl | (unfold vi; decide)) only [ex_267_0, ex_267_1, ex_267_2, ex_267_5, ex_267_6, ex_267_7, ex_267_10, ex_267_13, ex_267_14, ex_267_15, ex_267_16, ex_267_19, ex_267_22, ex_267_23, ex_267_24, ex_267_25, ex_267_26, ex_267_27, ex_267_29, ex_267_30, ex_267_34, ex_267_35, ex_267_38, ex_267_39, ex_267_40, ex_267_43, ex_267_44, ex_267_46, ex_267_49, ex_267_52, ex_267_55, ex_267_56, ex_267_57, ex_267_58, ex_267_61, ex_267_63, ex_267_64, ex_267_65, ex_267_66, ex_267_67, ex_267_68, ex_267_71, ex_267_74, ex_267_75, ex_267_76, ex_267_77, ex_267_80, ex_267_82, ex_267_83, ex_267_86, ex_267_89, ex_267_90, ex_267_92, ex_267_93, ex_267_96, ex_267_98, ex_267_100, ex_267_103, ex_267_106, ex_267_108, ex_267_109, ex_267_111, ex_267_113, ex_267_116, ex_267_120, ex_267_123, ex_267_124, ex_267_125, ex_267_128, ex_267_129, ex_267_132, ex_267_134, if_true, if_false, and_self, Option.toList_some, Option.toList_none, List.singleton_append, List.cons_append, List.nil_append, List.append_nil, nI_1, nt_e, Int32.le_refl, c2, hn, nI_leI, hnle, isAlive_ok hR hl hW hw, livesI_nI, ha, b2i_0, nI_clamp, e1, bi_e, knows_ok hR hW, worthBy_ok hR hW, hg2, show ((-1 : Int32) < (0 : Int32)) = True from eq_true (by decide), Bool.true_eq_false, Bool.false_eq_true, ↓reduceIte]
          exact ih _
        · have e2 : ¬ W.2 = -1 := by rw [h2, i_eqm (by omega)]; simp
          have e3 : (W.2 < 0) = False := by rw [h2, i_lt0 (by omega)]
          by_cases hq : W.1 < nI g
          · simp only [ha, decide_eq_true hq, Bool.and_self, if_true, priceM, hmi, if_false] at ih
            unfold priceM
            rw [if_neg e2]
            simp (disch := first | exact am_nl_i _ | exact am_nl_r _ | exact am_nl_0 | (refine vi_nI ?_ ?_ <;> omega) | assumption | omega | exact b2i_01 _ | exact Or.inl rfl | exact Or.inr rfl | (unfold vi; decide)) only [ex_267_0, ex_267_1, ex_267_2, ex_267_5, ex_267_6, ex_267_7, ex_267_10, ex_267_13, ex_267_14, ex_267_15, ex_267_16, ex_267_19, ex_267_22, ex_267_23, ex_267_24, ex_267_25, ex_267_26, ex_267_27, ex_267_29, ex_267_30, ex_267_34, ex_267_35, ex_267_38, ex_267_39, ex_267_40, ex_267_43, ex_267_44, ex_267_46, ex_267_49, ex_267_52, ex_267_55, ex_267_56, ex_267_57, ex_267_58, ex_267_61, ex_267_63, ex_267_64, ex_267_65, ex_267_66, ex_267_67, ex_267_68, ex_267_71, ex_267_74, ex_267_75, ex_267_76, ex_267_77, ex_267_80, ex_267_82, ex_267_83, ex_267_86, ex_267_89, ex_267_90, ex_267_92, ex_267_93, ex_267_96, ex_267_98, ex_267_100, ex_267_103, ex_267_106, ex_267_108, ex_267_109, ex_267_111, ex_267_113, ex_267_116, ex_267_120, ex_267_123, ex_267_124, ex_267_125, ex_267_128, ex_267_129, ex_267_132, ex_267_134, if_true, if_false, and_self, Option.toList_some, Option.toList_none, List.singleton_append, List.cons_append, List.nil_append, List.append_nil, nI_1, nt_e, Int32.le_refl, c2, hn, nI_leI, hnle, isAlive_ok hR hl hW hw, livesI_nI, ha, b2i_0, nI_clamp, e1, bi_e, knows_ok hR hW, worthBy_ok hR hW, hg2, e3, hq, Bool.true_eq_false, Bool.false_eq_true, ↓reduceIte]
            exact ih _
          · simp only [ha, decide_eq_false hq, Bool.and_false, Bool.false_eq_true, if_false, priceM, e2] at ih
            unfold priceM
            rw [if_neg e2]
            simp (disch := first | exact am_nl_i _ | exact am_nl_r _ | exact am_nl_0 | (refine vi_nI ?_ ?_ <;> omega) | assumption | omega | exact b2i_01 _ | exact Or.inl rfl | exact Or.inr rfl | (unfold vi; decide)) only [ex_267_0, ex_267_1, ex_267_2, ex_267_5, ex_267_6, ex_267_7, ex_267_10, ex_267_13, ex_267_14, ex_267_15, ex_267_16, ex_267_19, ex_267_22, ex_267_23, ex_267_24, ex_267_25, ex_267_26, ex_267_27, ex_267_29, ex_267_30, ex_267_34, ex_267_35, ex_267_38, ex_267_39, ex_267_40, ex_267_43, ex_267_44, ex_267_46, ex_267_49, ex_267_52, ex_267_55, ex_267_56, ex_267_57, ex_267_58, ex_267_61, ex_267_63, ex_267_64, ex_267_65, ex_267_66, ex_267_67, ex_267_68, ex_267_71, ex_267_74, ex_267_75, ex_267_76, ex_267_77, ex_267_80, ex_267_82, ex_267_83, ex_267_86, ex_267_89, ex_267_90, ex_267_92, ex_267_93, ex_267_96, ex_267_98, ex_267_100, ex_267_103, ex_267_106, ex_267_108, ex_267_109, ex_267_111, ex_267_113, ex_267_116, ex_267_120, ex_267_123, ex_267_124, ex_267_125, ex_267_128, ex_267_129, ex_267_132, ex_267_134, if_true, if_false, and_self, Option.toList_some, Option.toList_none, List.singleton_append, List.cons_append, List.nil_append, List.append_nil, nI_1, nt_e, Int32.le_refl, c2, hn, nI_leI, hnle, isAlive_ok hR hl hW hw, livesI_nI, ha, b2i_0, nI_clamp, e1, bi_e, knows_ok hR hW, worthBy_ok hR hW, hg2, e3, hq, Bool.true_eq_false, Bool.false_eq_true, ↓reduceIte]
            exact ih _
  try simp (disch := first | exact am_nl_i _ | exact am_nl_r _ | exact am_nl_0 | assumption | omega | (refine vi_nI ?_ ?_ <;> omega) | exact b2i_01 _ | exact Or.inl rfl | exact Or.inr rfl | (unfold vi; decide)) only [ex_267_0, ex_267_1, ex_267_2, ex_267_5, ex_267_6, ex_267_7, ex_267_10, ex_267_13, ex_267_14, ex_267_15, ex_267_16, ex_267_19, ex_267_22, ex_267_23, ex_267_24, ex_267_25, ex_267_26, ex_267_27, ex_267_29, ex_267_30, ex_267_34, ex_267_35, ex_267_38, ex_267_39, ex_267_40, ex_267_43, ex_267_44, ex_267_46, ex_267_49, ex_267_52, ex_267_55, ex_267_56, ex_267_57, ex_267_58, ex_267_61, ex_267_63, ex_267_64, ex_267_65, ex_267_66, ex_267_67, ex_267_68, ex_267_71, ex_267_74, ex_267_75, ex_267_76, ex_267_77, ex_267_80, ex_267_82, ex_267_83, ex_267_86, ex_267_89, ex_267_90, ex_267_92, ex_267_93, ex_267_96, ex_267_98, ex_267_100, ex_267_103, ex_267_106, ex_267_108, ex_267_109, ex_267_111, ex_267_113, ex_267_116, ex_267_119, ex_267_120, ex_267_123, ex_267_124, ex_267_125, ex_267_128, ex_267_129, ex_267_132, ex_267_134, if_true, if_false, and_self, Option.toList_some, Option.toList_none, List.singleton_append, List.cons_append, List.nil_append, List.append_nil, nI_1, nt_e, Int32.le_refl]
  exact loop (nE S.1) 0 none (by omega)
end Price
