/-! JUDGED -/
def judgeW (v : LV) (h : HL) : Nat → LF × Int32 × Int32
  | 0 => (beginL v, -1, -1)
  | n + 1 => ((lineV v (judgeW v h n).1 (h.2 n)).1, (if !(lineV v (judgeW v h n).1 (h.2 n)).2 && decide ((judgeW v h n).2.1 = -1) then nI n else (judgeW v h n).2.1), if decide ((judgeW v h n).2.2 = -1) && !decide (goneV v (lineV v (judgeW v h n).1 (h.2 n)).1 &&& nt (goneV v (beginL v)) = 0) then nI n else (judgeW v h n).2.2)
def judgedS (S : ST) (x : Int32) : Int32 := if okI x 3 then (if x = 0 then (judgeW S.1 S.2.1.2.1 S.2.1.2.1.1).2.1 else if x = 1 then (judgeW S.1 S.2.1.2.1 S.2.1.2.1.1).2.2 else goneV S.1 (judgeW S.1 S.2.1.2.1 S.2.1.2.1.1).1) else -2
theorem WL_judge {v : LV} {h : HL} (hW : WF v) : ∀ n, WL v (judgeW v h n).1
  | 0 => WL_begin hW
  | n + 1 => WL_line hW (WL_judge hW n)
theorem judge_in (v : LV) (h : HL) : ∀ n, ((judgeW v h n).2.1 = -1 ∨ ∃ k, k < n ∧ (judgeW v h n).2.1 = nI k) ∧ ((judgeW v h n).2.2 = -1 ∨ ∃ k, k < n ∧ (judgeW v h n).2.2 = nI k)
  | 0 => ⟨Or.inl rfl, Or.inl rfl⟩
  | n + 1 => by
    obtain ⟨h1, h2⟩ := judge_in v h n
    rw [judgeW]
    refine ⟨?_, ?_⟩
    · show (if _ then nI n else _) = -1 ∨ _
      split
      · exact Or.inr ⟨n, by omega, rfl⟩
      · next q =>
        rcases h1 with h1 | ⟨k, hk, h1⟩
        · exact Or.inl h1
        · exact Or.inr ⟨k, by omega, h1⟩
    · show (if _ then nI n else _) = -1 ∨ _
      split
      · exact Or.inr ⟨n, by omega, rfl⟩
      · next q =>
        rcases h2 with h2 | ⟨k, hk, h2⟩
        · exact Or.inl h2
        · exact Or.inr ⟨k, by omega, h2⟩
theorem ge_m {a : Int32} {n : Nat} (hn : n < 1000) (h : a = -1 ∨ ∃ k, k < n ∧ a = nI k) : (0 ≤ a) = ¬ a = -1 := by
  rcases h with h | ⟨k, hk, h⟩
  · rw [h]
    exact propext ⟨fun q => absurd q (by decide), fun q => absurd rfl q⟩
  · rw [h]
    exact propext ⟨fun _ q => by rw [i_eqm (by omega)] at q; exact q, fun _ => by rw [i_0le (by omega)]; trivial⟩
theorem okI_g2 {x : Int32} {n : Nat} {A B : Prop} (hn : n < 2 ^ 31 - 1) (hA : okI x (n + 1) = false → A) (hB : okI x (n + 1) = true → B) : if x < 0 then A else if x ≤ nI n then B else A := by
  have e1 : x < 0 ↔ x.toInt < 0 := by rw [Int32.lt_iff_toInt_lt, Int32.toInt_zero]
  have e2 : x ≤ nI n ↔ x.toInt ≤ (n : Int) := by rw [Int32.le_iff_toInt_le, nI_toInt (by omega)]
  rw [okI_le hn] at hA hB
  by_cases h0 : x < 0
  · rw [if_pos h0]
    exact hA (decide_eq_false (by have := e1.mp h0; omega))
  · have g0 := mt e1.mpr h0
    rw [if_neg h0]
    by_cases h1 : x ≤ nI n
    · rw [if_pos h1]
      exact hB (decide_eq_true (by have := e2.mp h1; omega))
    · rw [if_neg h1]
      exact hA (decide_eq_false (by have := mt e2.mpr h1; omega))
section Judged
variable {d L L' : Nat} {u : am_U} {S : ST} {post : Option Value → am_M → Prop}
theorem C_judged {x : Int32} (hI : InvC u S L L') (hS : WS S) (h : ∀ u', Only inC u u' → InvC u' S L L' → post (some (.int (judgedS S x))) (am_emb u')) : Cl (d + 4) 130 [.ref 0, .int x] (am_emb u) post := by
  have hL := lib_sh hI.1.2.2.1
  have hLL := hI.1.2.2.1
  have hLp := lib_places hL
  have hIc := hI
  have hW := hS.1
  have hH := hS.2.1.2.1
  have h24 := hH.1
  obtain ⟨⟨r1, r2, r3, r4, r5, r6⟩, ⟨l1, l2, l3⟩, ⟨st1, st2, st3⟩, pst, mk, tp⟩ := hI
  have keep : ∀ u1, Only (inLS 74 L) u u1 → FR u1 0 2 = some L ∧ LibC u1 L S.1 ∧ FmC u1 (L + 20) (lawV S.1 0) ∧ FmC u1 (L + 23) (lawV S.1 1) ∧ LinesC u1 69 S.2.1.2.1 := fun u1 o1 => ⟨by rw [(o1 0 (by unfold inLS inL; omega)).2.2.1]; exact r1, l1.keep2 o1 (fun k hk q => by unfold inLS inL at q; omega), l2.keep o1 (fun q => by unfold inLS inL at q; omega) (fun q => by unfold inLS inL at q; omega), l3.keep o1 (fun q => by unfold inLS inL at q; omega) (fun q => by unfold inLS inL at q; omega), st2.keep o1 (fun k hk q => by unfold inLS inL at q; omega)⟩
  have fin : ∀ u1, Only (inLS 74 L) u u1 → okI x 3 = true → ∀ r, r = (if x = 0 then (judgeW S.1 S.2.1.2.1 S.2.1.2.1.1).2.1 else if x = 1 then (judgeW S.1 S.2.1.2.1 S.2.1.2.1.1).2.2 else goneV S.1 (judgeW S.1 S.2.1.2.1 S.2.1.2.1.1).1) → post (some (.int r)) (am_emb u1) := by
    intro u1 o1 hx r hr
    have oQ : Only actQ u u1 := o1.wk (fun a q => inLS_Q (Or.inr rfl) hLL q)
    have := h u1 (oQ.wk (fun _ => actQ_C)) (act_inv2 (l := S.2.1.1) (p := S.2.2.1) hIc oQ (o1 0 (by unfold inLS inL; omega)).2.2.1 (st1.keep o1 (fun k hk q => by unfold inLS inL at q; omega)) (past_keep pst o1 (o1 0 (by unfold inLS inL; omega)).1 (fun a h1 h2 q => by unfold inLS inL at q; omega)))
    unfold judgedS at this
    rw [hx, if_pos rfl, ← hr] at this
    exact this
  rw [op_130]
  simp (disch := first | exact am_nl_i _ | exact am_nl_r _ | exact am_nl_0 | assumption | omega | (refine vi_nI ?_ ?_ <;> omega) | exact b2i_01 _ | exact Or.inl rfl | exact Or.inr rfl | (unfold vi; decide)) only [ex_130_0, ex_130_1, ex_130_4, ex_130_5, ex_130_6, ex_130_9, ex_130_11, ex_130_13, ex_130_16, ex_130_17, ex_130_20, ex_130_23, ex_130_24, ex_130_27, ex_130_28, ex_130_31, ex_130_34, ex_130_35, ex_130_36, ex_130_37, ex_130_38, ex_130_40, ex_130_41, ex_130_43, ex_130_45, ex_130_46, ex_130_49, ex_130_52, ex_130_55, ex_130_58, ex_130_59, ex_130_62, ex_130_65, ex_130_67, ex_130_68, ex_130_71, ex_130_72, ex_130_75, ex_130_78, ex_130_80, ex_130_82, ex_130_85, ex_130_86, ex_130_87, ex_130_90, ex_130_92, ex_130_93, ex_130_95, ex_130_96, ex_130_99, ex_130_100, ex_130_103, ex_130_104, ex_130_107, ex_130_110, ex_130_111, ex_130_112, ex_130_113, ex_130_114, ex_130_117, ex_130_119, ex_130_121, ex_130_124, ex_130_127, ex_130_128, ex_130_131, ex_130_132, ex_130_133, ex_130_134, ex_130_135, ex_130_138, ex_130_140, ex_130_143, ex_130_144, ex_130_147, ex_130_148, ex_130_151, ex_130_154, if_true, if_false, and_self, Option.toList_some, Option.toList_none, List.singleton_append, List.cons_append, List.nil_append, List.append_nil, nI_1, nt_e, Int32.le_refl]
  refine okI_g2 (n := 2) (by decide) (fun q => ?_) (fun q => ?_)
  · have := h u (Only.rf _ _) hIc
    unfold judgedS at this
    rw [q] at this
    exact this
  have q : okI x 3 = true := q
  simp (disch := first | exact am_nl_i _ | exact am_nl_r _ | exact am_nl_0 | assumption | omega | (refine vi_nI ?_ ?_ <;> omega) | exact b2i_01 _ | exact Or.inl rfl | exact Or.inr rfl | (unfold vi; decide)) only [ex_130_0, ex_130_1, ex_130_4, ex_130_5, ex_130_6, ex_130_9, ex_130_11, ex_130_12, ex_130_13, ex_130_16, ex_130_17, ex_130_23, ex_130_24, ex_130_27, ex_130_28, ex_130_31, ex_130_34, ex_130_35, ex_130_36, ex_130_37, ex_130_38, ex_130_40, ex_130_41, ex_130_43, ex_130_45, ex_130_46, ex_130_49, ex_130_52, ex_130_55, ex_130_58, ex_130_59, ex_130_62, ex_130_65, ex_130_67, ex_130_68, ex_130_71, ex_130_72, ex_130_75, ex_130_78, ex_130_80, ex_130_82, ex_130_85, ex_130_86, ex_130_87, ex_130_90, ex_130_92, ex_130_93, ex_130_95, ex_130_96, ex_130_99, ex_130_100, ex_130_103, ex_130_104, ex_130_107, ex_130_110, ex_130_111, ex_130_112, ex_130_113, ex_130_114, ex_130_117, ex_130_119, ex_130_121, ex_130_124, ex_130_127, ex_130_128, ex_130_131, ex_130_132, ex_130_133, ex_130_134, ex_130_135, ex_130_138, ex_130_140, ex_130_143, ex_130_144, ex_130_147, ex_130_148, ex_130_151, ex_130_154, if_true, if_false, and_self, Option.toList_some, Option.toList_none, List.singleton_append, List.cons_append, List.nil_append, List.append_nil, nI_1, nt_e, Int32.le_refl, r1, va_rfs]
  rw [ex_130_20]
  refine beginC_ok shl_74 hL l1 (fun u1 o1 b1 => ?_)
  have o1 : Only (inLS 74 L) u u1 := o1.wk (fun a q => Or.inl q)
  obtain ⟨k1, k2, k3, k4, k5⟩ := keep u1 o1
  simp (disch := first | exact am_nl_i _ | exact am_nl_r _ | exact am_nl_0 | assumption | omega | (refine vi_nI ?_ ?_ <;> omega) | exact b2i_01 _ | exact Or.inl rfl | exact Or.inr rfl | (unfold vi; decide)) only [ex_130_0, ex_130_1, ex_130_4, ex_130_5, ex_130_6, ex_130_9, ex_130_11, ex_130_12, ex_130_13, ex_130_16, ex_130_17, ex_130_20, ex_130_23, ex_130_24, ex_130_27, ex_130_28, ex_130_31, ex_130_34, ex_130_35, ex_130_36, ex_130_37, ex_130_38, ex_130_40, ex_130_41, ex_130_45, ex_130_46, ex_130_49, ex_130_52, ex_130_55, ex_130_58, ex_130_59, ex_130_62, ex_130_65, ex_130_67, ex_130_68, ex_130_71, ex_130_72, ex_130_75, ex_130_78, ex_130_80, ex_130_82, ex_130_85, ex_130_86, ex_130_87, ex_130_90, ex_130_92, ex_130_93, ex_130_95, ex_130_96, ex_130_99, ex_130_100, ex_130_103, ex_130_104, ex_130_107, ex_130_110, ex_130_111, ex_130_112, ex_130_113, ex_130_114, ex_130_117, ex_130_119, ex_130_121, ex_130_124, ex_130_127, ex_130_128, ex_130_131, ex_130_132, ex_130_133, ex_130_134, ex_130_135, ex_130_138, ex_130_140, ex_130_143, ex_130_144, ex_130_147, ex_130_148, ex_130_151, ex_130_154, if_true, if_false, and_self, Option.toList_some, Option.toList_none, List.singleton_append, List.cons_append, List.nil_append, List.append_nil, nI_1, nt_e, Int32.le_refl, k1, va_rfs, gone_ok shl_74 hL b1 k2 hW]
  have loop : ∀ (kz i : Nat) (j6 : Option Value), i + kz = S.2.1.2.1.1 → ∀ u2, Only (inLS 74 L) u u2 → LifeC u2 74 (judgeW S.1 S.2.1.2.1 i).1 → Ex (d + 4) 130 43 [some (.ref 0), some (.int x), some (.int (goneV S.1 (beginL S.1))), some (.int (judgeW S.1 S.2.1.2.1 i).2.1), some (.int (judgeW S.1 S.2.1.2.1 i).2.2), some (.int (nI i)), j6] [] (am_emb u2) post := by
    intro kz
    induction kz with
    | zero =>
      intro i j6 hi u2 o2 b2
      obtain rfl : i = S.2.1.2.1.1 := by omega
      obtain ⟨k1, k2, k3, k4, k5⟩ := keep u2 o2
      have fin := fin u2 o2 q
      rw [ex_130_43]
      simp (disch := first | exact am_nl_i _ | exact am_nl_r _ | exact am_nl_0 | (refine vi_nI ?_ ?_ <;> omega) | assumption | omega | exact b2i_01 _ | exact Or.inl rfl | exact Or.inr rfl | (unfold vi; decide)) only [ex_130_0, ex_130_1, ex_130_4, ex_130_5, ex_130_6, ex_130_9, ex_130_11, ex_130_12, ex_130_13, ex_130_16, ex_130_17, ex_130_20, ex_130_23, ex_130_24, ex_130_27, ex_130_28, ex_130_31, ex_130_34, ex_130_35, ex_130_36, ex_130_37, ex_130_38, ex_130_40, ex_130_41, ex_130_45, ex_130_46, ex_130_49, ex_130_52, ex_130_55, ex_130_59, ex_130_62, ex_130_65, ex_130_67, ex_130_68, ex_130_71, ex_130_72, ex_130_75, ex_130_78, ex_130_80, ex_130_82, ex_130_85, ex_130_86, ex_130_87, ex_130_90, ex_130_92, ex_130_93, ex_130_95, ex_130_96, ex_130_99, ex_130_100, ex_130_103, ex_130_104, ex_130_107, ex_130_110, ex_130_111, ex_130_112, ex_130_113, ex_130_114, ex_130_117, ex_130_119, ex_130_121, ex_130_124, ex_130_127, ex_130_128, ex_130_131, ex_130_132, ex_130_133, ex_130_134, ex_130_135, ex_130_138, ex_130_140, ex_130_143, ex_130_144, ex_130_147, ex_130_148, ex_130_151, ex_130_154, if_true, if_false, and_self, Option.toList_some, Option.toList_none, List.singleton_append, List.cons_append, List.nil_append, List.append_nil, nI_1, nt_e, Int32.le_refl, k5.1, nI_leI, Nat.le_refl, Bool.true_eq_false, Bool.false_eq_true, ↓reduceIte]
      by_cases x0 : x = 0
      · rw [if_pos x0]
        exact fin _ (by rw [if_pos x0])
      · rw [if_neg x0]
        by_cases x1 : x = 1
        · rw [if_pos x1]
          exact fin _ (by rw [if_neg x0, if_pos x1])
        · rw [if_neg x1]
          simp (disch := first | exact am_nl_i _ | exact am_nl_r _ | exact am_nl_0 | assumption | omega | (refine vi_nI ?_ ?_ <;> omega) | exact b2i_01 _ | exact Or.inl rfl | exact Or.inr rfl | (unfold vi; decide)) only [ex_130_0, ex_130_1, ex_130_4, ex_130_5, ex_130_6, ex_130_9, ex_130_11, ex_130_12, ex_130_13, ex_130_16, ex_130_17, ex_130_20, ex_130_23, ex_130_24, ex_130_27, ex_130_28, ex_130_31, ex_130_34, ex_130_35, ex_130_36, ex_130_37, ex_130_38, ex_130_40, ex_130_41, ex_130_45, ex_130_46, ex_130_49, ex_130_52, ex_130_55, ex_130_58, ex_130_59, ex_130_62, ex_130_65, ex_130_67, ex_130_68, ex_130_71, ex_130_72, ex_130_75, ex_130_78, ex_130_80, ex_130_82, ex_130_85, ex_130_86, ex_130_87, ex_130_90, ex_130_92, ex_130_93, ex_130_95, ex_130_96, ex_130_99, ex_130_100, ex_130_103, ex_130_104, ex_130_107, ex_130_110, ex_130_111, ex_130_112, ex_130_113, ex_130_114, ex_130_117, ex_130_119, ex_130_121, ex_130_124, ex_130_127, ex_130_128, ex_130_131, ex_130_132, ex_130_133, ex_130_134, ex_130_135, ex_130_138, ex_130_140, ex_130_143, ex_130_144, ex_130_147, ex_130_148, ex_130_151, ex_130_154, if_true, if_false, and_self, Option.toList_some, Option.toList_none, List.singleton_append, List.cons_append, List.nil_append, List.append_nil, nI_1, nt_e, Int32.le_refl, k1, va_rfs, gone_ok shl_74 hL b2 k2 hW]
          exact fin _ (by rw [if_neg x0, if_neg x1])
    | succ kz ih =>
      intro i j6 hi u2 o2 b2
      have hnle : ¬ S.2.1.2.1.1 ≤ i := by omega
      obtain ⟨k1, k2, k3, k4, k5⟩ := keep u2 o2
      have ih := ih (i + 1)
      rw [judgeW] at ih
      simp only at ih
      rw [ex_130_43]
      simp (disch := first | exact am_nl_i _ | exact am_nl_r _ | exact am_nl_0 | (refine vi_nI ?_ ?_ <;> omega) | assumption | omega | exact b2i_01 _ | exact Or.inl rfl | exact Or.inr rfl | (unfold vi; decide)) only [ex_130_0, ex_130_1, ex_130_4, ex_130_5, ex_130_6, ex_130_9, ex_130_11, ex_130_12, ex_130_13, ex_130_16, ex_130_17, ex_130_20, ex_130_23, ex_130_24, ex_130_27, ex_130_28, ex_130_31, ex_130_34, ex_130_35, ex_130_36, ex_130_37, ex_130_38, ex_130_40, ex_130_41, ex_130_45, ex_130_46, ex_130_49, ex_130_52, ex_130_55, ex_130_58, ex_130_59, ex_130_62, ex_130_65, ex_130_67, ex_130_68, ex_130_71, ex_130_72, ex_130_78, ex_130_80, ex_130_82, ex_130_85, ex_130_86, ex_130_87, ex_130_90, ex_130_92, ex_130_93, ex_130_95, ex_130_96, ex_130_99, ex_130_100, ex_130_103, ex_130_104, ex_130_107, ex_130_110, ex_130_111, ex_130_112, ex_130_113, ex_130_114, ex_130_117, ex_130_119, ex_130_121, ex_130_124, ex_130_128, ex_130_131, ex_130_132, ex_130_133, ex_130_134, ex_130_135, ex_130_138, ex_130_140, ex_130_143, ex_130_144, ex_130_147, ex_130_148, ex_130_151, ex_130_154, if_true, if_false, and_self, Option.toList_some, Option.toList_none, List.singleton_append, List.cons_append, List.nil_append, List.append_nil, nI_1, nt_e, Int32.le_refl, k5.1, nI_leI, hnle, k1, va_rfs, Bool.true_eq_false, Bool.false_eq_true, ↓reduceIte]
      rw [ex_130_75]
      refine happens_ok shl_69 shl_74 hL b2 k2 k3 k4 hW (WL_judge hW i) hH k5 (show i < S.2.1.2.1.1 by omega) (fun u3 o3 b3 => ?_)
      have o3 := o2.tr o3
      obtain ⟨k1, k2, k3, k4, k5⟩ := keep u3 o3
      generalize lineV S.1 (judgeW S.1 S.2.1.2.1 i).1 (S.2.1.2.1.2 i) = R at *
      generalize judgeW S.1 S.2.1.2.1 i = W at *
      have s121 : ∀ a b, a = (if !R.2 && decide (W.2.1 = -1) then nI i else W.2.1) → b = (if decide (W.2.2 = -1) && !decide (goneV S.1 R.1 &&& nt (goneV S.1 (beginL S.1)) = 0) then nI i else W.2.2) → Ex (d + 4) 130 121 [some (.ref 0), some (.int x), some (.int (goneV S.1 (beginL S.1))), some (.int a), some (.int b), some (.int (nI i)), some (.int (b2i R.2))] [] (am_emb u3) post := by
        intro a b ha hb
        simp (disch := first | exact am_nl_i _ | exact am_nl_r _ | exact am_nl_0 | assumption | omega | (refine vi_nI ?_ ?_ <;> omega) | exact b2i_01 _ | exact Or.inl rfl | exact Or.inr rfl | (unfold vi; decide)) only [ex_130_0, ex_130_1, ex_130_4, ex_130_5, ex_130_6, ex_130_9, ex_130_11, ex_130_12, ex_130_13, ex_130_16, ex_130_17, ex_130_20, ex_130_23, ex_130_24, ex_130_27, ex_130_28, ex_130_31, ex_130_34, ex_130_35, ex_130_36, ex_130_37, ex_130_38, ex_130_40, ex_130_41, ex_130_45, ex_130_46, ex_130_49, ex_130_52, ex_130_55, ex_130_58, ex_130_59, ex_130_62, ex_130_65, ex_130_67, ex_130_68, ex_130_71, ex_130_72, ex_130_75, ex_130_78, ex_130_80, ex_130_82, ex_130_85, ex_130_86, ex_130_87, ex_130_90, ex_130_92, ex_130_93, ex_130_95, ex_130_96, ex_130_99, ex_130_100, ex_130_103, ex_130_104, ex_130_107, ex_130_110, ex_130_111, ex_130_112, ex_130_113, ex_130_114, ex_130_117, ex_130_119, ex_130_121, ex_130_124, ex_130_127, ex_130_128, ex_130_131, ex_130_132, ex_130_133, ex_130_134, ex_130_135, ex_130_138, ex_130_140, ex_130_143, ex_130_144, ex_130_147, ex_130_148, ex_130_151, ex_130_154, if_true, if_false, and_self, Option.toList_some, Option.toList_none, List.singleton_append, List.cons_append, List.nil_append, List.append_nil, nI_1, nt_e, Int32.le_refl]
        rw [ha, hb]
        exact ih _ (by omega) u3 o3 b3
      have s93 : ∀ a, a = (if !R.2 && decide (W.2.1 = -1) then nI i else W.2.1) → Ex (d + 4) 130 93 [some (.ref 0), some (.int x), some (.int (goneV S.1 (beginL S.1))), some (.int a), some (.int W.2.2), some (.int (nI i)), some (.int (b2i R.2))] [] (am_emb u3) post := by
        intro a ha
        by_cases z : W.2.2 = -1
        · by_cases g : goneV S.1 R.1 &&& nt (goneV S.1 (beginL S.1)) = 0
          · simp (disch := first | exact am_nl_i _ | exact am_nl_r _ | exact am_nl_0 | (refine vi_nI ?_ ?_ <;> omega) | assumption | omega | exact b2i_01 _ | exact Or.inl rfl | exact Or.inr rfl | (unfold vi; decide)) only [ex_130_0, ex_130_1, ex_130_4, ex_130_5, ex_130_6, ex_130_9, ex_130_11, ex_130_12, ex_130_13, ex_130_16, ex_130_17, ex_130_20, ex_130_23, ex_130_24, ex_130_27, ex_130_28, ex_130_31, ex_130_34, ex_130_35, ex_130_36, ex_130_37, ex_130_38, ex_130_40, ex_130_41, ex_130_43, ex_130_45, ex_130_46, ex_130_49, ex_130_52, ex_130_55, ex_130_58, ex_130_59, ex_130_62, ex_130_65, ex_130_67, ex_130_68, ex_130_71, ex_130_72, ex_130_75, ex_130_78, ex_130_80, ex_130_82, ex_130_85, ex_130_86, ex_130_87, ex_130_90, ex_130_92, ex_130_93, ex_130_95, ex_130_96, ex_130_99, ex_130_100, ex_130_103, ex_130_104, ex_130_107, ex_130_110, ex_130_111, ex_130_112, ex_130_113, ex_130_114, ex_130_117, ex_130_119, ex_130_124, ex_130_127, ex_130_128, ex_130_131, ex_130_132, ex_130_133, ex_130_134, ex_130_135, ex_130_138, ex_130_140, ex_130_143, ex_130_144, ex_130_147, ex_130_148, ex_130_151, ex_130_154, if_true, if_false, and_self, Option.toList_some, Option.toList_none, List.singleton_append, List.cons_append, List.nil_append, List.append_nil, nI_1, nt_e, Int32.le_refl, z, k1, va_rfs, gone_ok shl_74 hL b3 k2 hW, g, Bool.true_eq_false, Bool.false_eq_true, ↓reduceIte]
            exact s121 _ _ ha (by rw [decide_eq_true g, z]; simp)
          · simp (disch := first | exact am_nl_i _ | exact am_nl_r _ | exact am_nl_0 | (refine vi_nI ?_ ?_ <;> omega) | assumption | omega | exact b2i_01 _ | exact Or.inl rfl | exact Or.inr rfl | (unfold vi; decide)) only [ex_130_0, ex_130_1, ex_130_4, ex_130_5, ex_130_6, ex_130_9, ex_130_11, ex_130_12, ex_130_13, ex_130_16, ex_130_17, ex_130_20, ex_130_23, ex_130_24, ex_130_27, ex_130_28, ex_130_31, ex_130_34, ex_130_35, ex_130_36, ex_130_37, ex_130_38, ex_130_40, ex_130_41, ex_130_43, ex_130_45, ex_130_46, ex_130_49, ex_130_52, ex_130_55, ex_130_58, ex_130_59, ex_130_62, ex_130_65, ex_130_67, ex_130_68, ex_130_71, ex_130_72, ex_130_75, ex_130_78, ex_130_80, ex_130_82, ex_130_85, ex_130_86, ex_130_87, ex_130_90, ex_130_92, ex_130_93, ex_130_95, ex_130_96, ex_130_99, ex_130_100, ex_130_103, ex_130_104, ex_130_107, ex_130_110, ex_130_111, ex_130_112, ex_130_113, ex_130_114, ex_130_117, ex_130_119, ex_130_124, ex_130_127, ex_130_128, ex_130_131, ex_130_132, ex_130_133, ex_130_134, ex_130_135, ex_130_138, ex_130_140, ex_130_143, ex_130_144, ex_130_147, ex_130_148, ex_130_151, ex_130_154, if_true, if_false, and_self, Option.toList_some, Option.toList_none, List.singleton_append, List.cons_append, List.nil_append, List.append_nil, nI_1, nt_e, Int32.le_refl, z, k1, va_rfs, gone_ok shl_74 hL b3 k2 hW, g, Bool.true_eq_false, Bool.false_eq_true, ↓reduceIte]
            exact s121 _ _ ha (by rw [decide_eq_false g, z]; simp)
        · simp (disch := first | exact am_nl_i _ | exact am_nl_r _ | exact am_nl_0 | (refine vi_nI ?_ ?_ <;> omega) | assumption | omega | exact b2i_01 _ | exact Or.inl rfl | exact Or.inr rfl | (unfold vi; decide)) only [ex_130_0, ex_130_1, ex_130_4, ex_130_5, ex_130_6, ex_130_9, ex_130_11, ex_130_12, ex_130_13, ex_130_16, ex_130_17, ex_130_20, ex_130_23, ex_130_24, ex_130_27, ex_130_28, ex_130_31, ex_130_34, ex_130_35, ex_130_36, ex_130_37, ex_130_38, ex_130_40, ex_130_41, ex_130_43, ex_130_45, ex_130_46, ex_130_49, ex_130_52, ex_130_55, ex_130_58, ex_130_59, ex_130_62, ex_130_65, ex_130_67, ex_130_68, ex_130_71, ex_130_72, ex_130_75, ex_130_78, ex_130_80, ex_130_82, ex_130_85, ex_130_86, ex_130_87, ex_130_90, ex_130_92, ex_130_93, ex_130_95, ex_130_96, ex_130_99, ex_130_100, ex_130_103, ex_130_104, ex_130_107, ex_130_110, ex_130_111, ex_130_112, ex_130_113, ex_130_114, ex_130_117, ex_130_119, ex_130_124, ex_130_127, ex_130_128, ex_130_131, ex_130_132, ex_130_133, ex_130_134, ex_130_135, ex_130_138, ex_130_140, ex_130_143, ex_130_144, ex_130_147, ex_130_148, ex_130_151, ex_130_154, if_true, if_false, and_self, Option.toList_some, Option.toList_none, List.singleton_append, List.cons_append, List.nil_append, List.append_nil, nI_1, nt_e, Int32.le_refl, z, Bool.true_eq_false, Bool.false_eq_true, ↓reduceIte]
          exact s121 _ _ ha (by rw [decide_eq_false z]; simp)
      simp (disch := first | exact am_nl_i _ | exact am_nl_r _ | exact am_nl_0 | assumption | omega | (refine vi_nI ?_ ?_ <;> omega) | exact b2i_01 _ | exact Or.inl rfl | exact Or.inr rfl | (unfold vi; decide)) only [ex_130_0, ex_130_1, ex_130_4, ex_130_5, ex_130_6, ex_130_9, ex_130_11, ex_130_12, ex_130_13, ex_130_16, ex_130_17, ex_130_20, ex_130_23, ex_130_24, ex_130_27, ex_130_28, ex_130_31, ex_130_34, ex_130_35, ex_130_36, ex_130_37, ex_130_38, ex_130_40, ex_130_41, ex_130_43, ex_130_45, ex_130_46, ex_130_49, ex_130_52, ex_130_55, ex_130_58, ex_130_59, ex_130_62, ex_130_65, ex_130_67, ex_130_68, ex_130_71, ex_130_72, ex_130_75, ex_130_78, ex_130_80, ex_130_82, ex_130_85, ex_130_86, ex_130_87, ex_130_90, ex_130_92, ex_130_95, ex_130_96, ex_130_99, ex_130_100, ex_130_103, ex_130_104, ex_130_107, ex_130_110, ex_130_111, ex_130_112, ex_130_113, ex_130_114, ex_130_117, ex_130_119, ex_130_121, ex_130_124, ex_130_127, ex_130_128, ex_130_131, ex_130_132, ex_130_133, ex_130_134, ex_130_135, ex_130_138, ex_130_140, ex_130_143, ex_130_144, ex_130_147, ex_130_148, ex_130_151, ex_130_154, if_true, if_false, and_self, Option.toList_some, Option.toList_none, List.singleton_append, List.cons_append, List.nil_append, List.append_nil, nI_1, nt_e, Int32.le_refl, b2i_0]
      cases hr : R.2
      · rw [hr] at s93
        simp only [if_true]
        by_cases z : W.2.1 = -1
        · rw [if_pos z]
          exact s93 _ (by rw [decide_eq_true z]; simp)
        · rw [if_neg z]
          exact s93 _ (by rw [decide_eq_false z]; simp)
      · rw [hr] at s93
        simp only [Bool.true_eq_false, if_false]
        exact s93 _ (by simp)
  exact loop S.2.1.2.1.1 0 none (by omega) u1 o1 b1
def jR (a : Nat) : Prop := bR a ∨ a = 242
theorem R_judged {x : Int32} (hI : InvR u S) (hS : WS S) (h : ∀ u', Only inR u u' → InvR u' S → post (some (.int (judgedS S x))) (am_emb u')) : Cl (d + 5) 246 [.ref 203, .int x] (am_emb u) post := by
  have hI1 : InvR (th u 0) S := th_inv hI
  obtain ⟨hR, hcd, ⟨hl, hl2, hl3⟩, hp, hm, htp⟩ := hI1
  have hI1 : InvR (th u 0) S := th_inv hI
  have hW := hS.1
  have hw := hS.2.1.1
  have hH := hS.2.1.2.1
  have h24 := hH.1
  have h6 := hW.1.2.2.1
  have o0 : Only actS u (th u 0) := Only.sFI (Or.inl rfl)
  have keep : ∀ u1, Only jR (th u 0) u1 → LibR u1 S.1 ∧ CodeR u1 S.1 ∧ LinesR u1 0 S.2.1.2.1 := fun u1 o1 => ⟨hR.keep o1 (fun a h1 h2 q => by unfold jR bR wkQ at q; omega), hcd.keep o1 (fun a h1 h2 q => by unfold jR bR wkQ at q; omega), by
    unfold LinesR
    rw [(o1 236 (by unfold jR bR wkQ; omega)).2.2.2.1, (o1 237 (by unfold jR bR wkQ; omega)).2.2.2.1]
    exact hl2⟩
  rw [op_246]
  simp (disch := first | exact am_nl_i _ | exact am_nl_r _ | exact am_nl_0 | assumption | omega | (refine vi_nI ?_ ?_ <;> omega) | exact b2i_01 _ | exact Or.inl rfl | exact Or.inr rfl | (unfold vi; decide)) only [ex_246_0, ex_246_1, ex_246_2, ex_246_5, ex_246_6, ex_246_7, ex_246_8, ex_246_11, ex_246_14, ex_246_16, ex_246_17, ex_246_18, ex_246_21, ex_246_22, ex_246_23, ex_246_26, ex_246_30, ex_246_31, ex_246_34, ex_246_35, ex_246_38, ex_246_39, ex_246_40, ex_246_41, ex_246_42, ex_246_44, ex_246_45, ex_246_49, ex_246_50, ex_246_53, ex_246_54, ex_246_55, ex_246_58, ex_246_59, ex_246_60, ex_246_62, ex_246_63, ex_246_66, ex_246_69, ex_246_70, ex_246_73, ex_246_75, ex_246_76, ex_246_77, ex_246_80, ex_246_81, ex_246_82, ex_246_83, ex_246_84, ex_246_87, ex_246_89, ex_246_92, ex_246_94, ex_246_96, ex_246_99, ex_246_102, ex_246_103, ex_246_106, ex_246_108, ex_246_109, ex_246_112, ex_246_113, ex_246_114, ex_246_117, ex_246_118, ex_246_121, ex_246_122, ex_246_125, ex_246_126, ex_246_129, ex_246_130, ex_246_131, ex_246_134, ex_246_136, ex_246_139, ex_246_141, if_true, if_false, and_self, Option.toList_some, Option.toList_none, List.singleton_append, List.cons_append, List.nil_append, List.append_nil, nI_1, nt_e, Int32.le_refl, th_e, within_ok, b2i_0, show (2 : Int32) = nI 2 from rfl, within_okI (n := 2) (by decide) rfl]
  rw [show (2 + 1) = 3 from rfl]
  unfold judgedS at h
  cases q : okI x 3
  · rw [q] at h
    simp only [if_true]
    exact h _ (o0.wk (fun _ => actS_R)) hI1
  rw [q] at h
  rw [if_neg (by simp), ex_246_27]
  refine copies_ok (x := 0) (y := 0) shl_241 shl_242 (by omega) (by omega) (by omega) (by omega) (by omega) (fun u1 o1 g1 => ?_)
  have a1 : RowR S.1 (AI u1 242) 0 S.2.1.1 := RowR_map h6 hl (fun k hk => by rw [g1, if_pos (by omega), show 0 + (0 + k - 0) = 0 + k by omega])
  have o1 : Only jR (th u 0) u1 := o1.wk (fun a q => Or.inr q)
  simp (disch := first | exact am_nl_i _ | exact am_nl_r _ | exact am_nl_0 | assumption | omega | (refine vi_nI ?_ ?_ <;> omega) | exact b2i_01 _ | exact Or.inl rfl | exact Or.inr rfl | (unfold vi; decide)) only [ex_246_0, ex_246_1, ex_246_2, ex_246_5, ex_246_6, ex_246_7, ex_246_8, ex_246_11, ex_246_14, ex_246_16, ex_246_17, ex_246_18, ex_246_21, ex_246_22, ex_246_23, ex_246_26, ex_246_27, ex_246_30, ex_246_34, ex_246_35, ex_246_38, ex_246_39, ex_246_40, ex_246_41, ex_246_42, ex_246_44, ex_246_45, ex_246_49, ex_246_50, ex_246_53, ex_246_54, ex_246_55, ex_246_58, ex_246_59, ex_246_60, ex_246_62, ex_246_63, ex_246_66, ex_246_69, ex_246_70, ex_246_73, ex_246_75, ex_246_76, ex_246_77, ex_246_80, ex_246_81, ex_246_82, ex_246_83, ex_246_84, ex_246_87, ex_246_89, ex_246_92, ex_246_94, ex_246_96, ex_246_99, ex_246_102, ex_246_103, ex_246_106, ex_246_108, ex_246_109, ex_246_112, ex_246_113, ex_246_114, ex_246_117, ex_246_118, ex_246_121, ex_246_122, ex_246_125, ex_246_126, ex_246_129, ex_246_130, ex_246_131, ex_246_134, ex_246_136, ex_246_139, ex_246_141, if_true, if_false, and_self, Option.toList_some, Option.toList_none, List.singleton_append, List.cons_append, List.nil_append, List.append_nil, nI_1, nt_e, Int32.le_refl]
  rw [ex_246_31]
  refine fresh_ok (keep u1 o1).1 hW (fun u2 o2 l2 => ?_)
  have e2 : AI u2 242 = AI u1 242 := (o2 242 (by unfold is; omega)).2.2.2.1
  have o2 : Only jR (th u 0) u2 := o1.tr (o2.wk (fun a q => Or.inl (Or.inr q)))
  simp (disch := first | exact am_nl_i _ | exact am_nl_r _ | exact am_nl_0 | assumption | omega | (refine vi_nI ?_ ?_ <;> omega) | exact b2i_01 _ | exact Or.inl rfl | exact Or.inr rfl | (unfold vi; decide)) only [ex_246_0, ex_246_1, ex_246_2, ex_246_5, ex_246_6, ex_246_7, ex_246_8, ex_246_11, ex_246_14, ex_246_16, ex_246_17, ex_246_18, ex_246_21, ex_246_22, ex_246_23, ex_246_26, ex_246_27, ex_246_30, ex_246_31, ex_246_34, ex_246_35, ex_246_38, ex_246_39, ex_246_40, ex_246_41, ex_246_42, ex_246_44, ex_246_45, ex_246_49, ex_246_50, ex_246_53, ex_246_54, ex_246_55, ex_246_58, ex_246_59, ex_246_60, ex_246_62, ex_246_63, ex_246_66, ex_246_69, ex_246_70, ex_246_73, ex_246_75, ex_246_76, ex_246_77, ex_246_80, ex_246_81, ex_246_82, ex_246_83, ex_246_84, ex_246_87, ex_246_89, ex_246_92, ex_246_94, ex_246_96, ex_246_99, ex_246_102, ex_246_103, ex_246_106, ex_246_108, ex_246_109, ex_246_112, ex_246_113, ex_246_114, ex_246_117, ex_246_118, ex_246_121, ex_246_122, ex_246_125, ex_246_126, ex_246_129, ex_246_130, ex_246_131, ex_246_134, ex_246_136, ex_246_139, ex_246_141, if_true, if_false, and_self, Option.toList_some, Option.toList_none, List.singleton_append, List.cons_append, List.nil_append, List.append_nil, nI_1, nt_e, Int32.le_refl, lostNow_ok (keep u2 o2).1 l2 hW (WL_begin hW)]
  have fin : ∀ u3, Only jR (th u 0) u3 → AI u3 242 = AI u1 242 → ∀ r j5, r = (if x = 0 then (judgeW S.1 S.2.1.2.1 S.2.1.2.1.1).2.1 else if x = 1 then (judgeW S.1 S.2.1.2.1 S.2.1.2.1.1).2.2 else goneV S.1 (judgeW S.1 S.2.1.2.1 S.2.1.2.1.1).1) → j5 = goneV S.1 (judgeW S.1 S.2.1.2.1 S.2.1.2.1.1).1 → Ex (d + 5) 246 108 [some (.ref 203), some (.int x), some (.int (goneV S.1 (beginL S.1))), some (.int (judgeW S.1 S.2.1.2.1 S.2.1.2.1.1).2.1), some (.int (judgeW S.1 S.2.1.2.1 S.2.1.2.1.1).2.2), some (.int j5)] [] (am_emb u3) post := by
    intro u3 o3 e3 r j5 hr hj5
    simp (disch := first | exact am_nl_i _ | exact am_nl_r _ | exact am_nl_0 | assumption | omega | (refine vi_nI ?_ ?_ <;> omega) | exact b2i_01 _ | exact Or.inl rfl | exact Or.inr rfl | (unfold vi; decide)) only [ex_246_0, ex_246_1, ex_246_2, ex_246_5, ex_246_6, ex_246_7, ex_246_8, ex_246_11, ex_246_14, ex_246_16, ex_246_17, ex_246_18, ex_246_21, ex_246_22, ex_246_23, ex_246_26, ex_246_27, ex_246_30, ex_246_31, ex_246_34, ex_246_35, ex_246_38, ex_246_39, ex_246_40, ex_246_41, ex_246_42, ex_246_44, ex_246_45, ex_246_47, ex_246_49, ex_246_50, ex_246_53, ex_246_54, ex_246_55, ex_246_58, ex_246_59, ex_246_60, ex_246_62, ex_246_63, ex_246_66, ex_246_69, ex_246_70, ex_246_73, ex_246_75, ex_246_76, ex_246_77, ex_246_80, ex_246_81, ex_246_82, ex_246_83, ex_246_84, ex_246_87, ex_246_89, ex_246_92, ex_246_94, ex_246_96, ex_246_99, ex_246_102, ex_246_103, ex_246_106, ex_246_108, ex_246_109, ex_246_112, ex_246_113, ex_246_114, ex_246_117, ex_246_121, ex_246_122, ex_246_125, ex_246_126, ex_246_129, ex_246_130, ex_246_131, ex_246_134, ex_246_136, ex_246_139, ex_246_141, if_true, if_false, and_self, Option.toList_some, Option.toList_none, List.singleton_append, List.cons_append, List.nil_append, List.append_nil, nI_1, nt_e, Int32.le_refl]
    rw [ex_246_118]
    refine copies_ok (x := 0) (y := 0) shl_242 shl_241 (by omega) (by omega) (by omega) (by omega) (by omega) (fun u4 o4 g4 => ?_)
    have l4 : LifeR u4 S.1 S.2.1.1 := RowR_map h6 a1 (fun k hk => by rw [g4, if_pos (by omega), show 0 + (0 + k - 0) = 0 + k by omega, e3])
    have oS : Only actS (th u 0) u4 := (o3.wk (Q := actS) (fun a q => by unfold jR bR wkQ at q; unfold actS; omega)).tr (o4.wk (fun a q => by unfold is at q; unfold actS; omega))
    have E : AI u4 244 = AI (th u 0) 244 ∧ FI u4 203 = FI (th u 0) 203 := ⟨by rw [(o4 244 (by unfold is; omega)).2.2.2.1, (o3 244 (by unfold jR bR wkQ; omega)).2.2.2.1], by rw [(o4 203 (by unfold is; omega)).1, (o3 203 (by unfold jR bR wkQ; omega)).1]⟩
    have hfin := h u4 ((o0.tr oS).wk (fun _ => actS_R)) (actS_inv (l := S.2.1.1) (p := S.2.2.1) hI1 oS (by rw [E.2]) l4 (by unfold PastR; rw [E.1, E.2]; exact hp))
    rw [if_pos rfl, ← hr] at hfin
    simp (disch := first | exact am_nl_i _ | exact am_nl_r _ | exact am_nl_0 | assumption | omega | (refine vi_nI ?_ ?_ <;> omega) | exact b2i_01 _ | exact Or.inl rfl | exact Or.inr rfl | (unfold vi; decide)) only [ex_246_0, ex_246_1, ex_246_2, ex_246_5, ex_246_6, ex_246_7, ex_246_8, ex_246_11, ex_246_14, ex_246_16, ex_246_17, ex_246_18, ex_246_21, ex_246_22, ex_246_23, ex_246_26, ex_246_27, ex_246_30, ex_246_31, ex_246_34, ex_246_35, ex_246_38, ex_246_39, ex_246_40, ex_246_41, ex_246_42, ex_246_44, ex_246_45, ex_246_47, ex_246_49, ex_246_50, ex_246_53, ex_246_54, ex_246_55, ex_246_58, ex_246_59, ex_246_60, ex_246_62, ex_246_63, ex_246_66, ex_246_69, ex_246_70, ex_246_73, ex_246_75, ex_246_76, ex_246_77, ex_246_80, ex_246_81, ex_246_82, ex_246_83, ex_246_84, ex_246_87, ex_246_89, ex_246_92, ex_246_94, ex_246_96, ex_246_99, ex_246_102, ex_246_103, ex_246_106, ex_246_108, ex_246_109, ex_246_112, ex_246_113, ex_246_114, ex_246_117, ex_246_118, ex_246_121, ex_246_122, ex_246_125, ex_246_126, ex_246_129, ex_246_130, ex_246_131, ex_246_134, ex_246_136, ex_246_139, ex_246_141, if_true, if_false, and_self, Option.toList_some, Option.toList_none, List.singleton_append, List.cons_append, List.nil_append, List.append_nil, nI_1, nt_e, Int32.le_refl]
    by_cases x0 : x = 0
    · rw [if_pos x0] at hr ⊢
      rw [hr] at hfin
      exact hfin
    · rw [if_neg x0] at hr ⊢
      by_cases x1 : x = 1
      · rw [if_pos x1] at hr ⊢
        rw [hr] at hfin
        exact hfin
      · rw [if_neg x1] at hr ⊢
        rw [hr] at hfin
        rw [hj5]
        exact hfin
  have loop : ∀ (kz i : Nat), i + kz = S.2.1.2.1.1 → ∀ u3, Only jR (th u 0) u3 → AI u3 242 = AI u1 242 → LifeR u3 S.1 (judgeW S.1 S.2.1.2.1 i).1 → Ex (d + 5) 246 47 [some (.ref 203), some (.int x), some (.int (goneV S.1 (beginL S.1))), some (.int (judgeW S.1 S.2.1.2.1 i).2.1), some (.int (judgeW S.1 S.2.1.2.1 i).2.2), some (.int (nI i))] [] (am_emb u3) post := by
    intro kz
    induction kz with
    | zero =>
      intro i hi u3 o3 e3 l3
      obtain rfl : i = S.2.1.2.1.1 := by omega
      obtain ⟨k1, k2, k3⟩ := keep u3 o3
      rw [ex_246_47]
      simp (disch := first | exact am_nl_i _ | exact am_nl_r _ | exact am_nl_0 | (refine vi_nI ?_ ?_ <;> omega) | assumption | omega | exact b2i_01 _ | exact Or.inl rfl | exact Or.inr rfl | (unfold vi; decide)) only [ex_246_0, ex_246_1, ex_246_2, ex_246_5, ex_246_6, ex_246_7, ex_246_8, ex_246_11, ex_246_14, ex_246_16, ex_246_17, ex_246_18, ex_246_21, ex_246_22, ex_246_23, ex_246_26, ex_246_27, ex_246_30, ex_246_31, ex_246_34, ex_246_35, ex_246_38, ex_246_39, ex_246_40, ex_246_41, ex_246_42, ex_246_44, ex_246_45, ex_246_49, ex_246_50, ex_246_53, ex_246_54, ex_246_55, ex_246_59, ex_246_60, ex_246_62, ex_246_63, ex_246_66, ex_246_69, ex_246_70, ex_246_73, ex_246_75, ex_246_76, ex_246_77, ex_246_80, ex_246_81, ex_246_82, ex_246_83, ex_246_84, ex_246_87, ex_246_89, ex_246_92, ex_246_94, ex_246_96, ex_246_99, ex_246_102, ex_246_103, ex_246_106, ex_246_109, ex_246_112, ex_246_113, ex_246_114, ex_246_117, ex_246_118, ex_246_121, ex_246_122, ex_246_125, ex_246_126, ex_246_129, ex_246_130, ex_246_131, ex_246_134, ex_246_136, ex_246_139, ex_246_141, if_true, if_false, and_self, Option.toList_some, Option.toList_none, List.singleton_append, List.cons_append, List.nil_append, List.append_nil, nI_1, nt_e, Int32.le_refl, c0, k3.1, nI_leI, Nat.le_refl, lostNow_ok k1 l3 hW (WL_judge hW _), Bool.true_eq_false, Bool.false_eq_true, ↓reduceIte]
      exact fin u3 o3 e3 _ _ rfl rfl
    | succ kz ih =>
      intro i hi u3 o3 e3 l3
      have hnle : ¬ S.2.1.2.1.1 ≤ i := by omega
      obtain ⟨k1, k2, k3⟩ := keep u3 o3
      have hwi := WL_judge (h := S.2.1.2.1) hW i
      have hwi1 := WL_judge (h := S.2.1.2.1) hW (i + 1)
      obtain ⟨n1, n2⟩ := judge_in S.1 S.2.1.2.1 i
      have ih := ih (i + 1) (by omega)
      rw [judgeW] at ih hwi1
      simp only at ih hwi1
      rw [ex_246_47]
      simp (disch := first | exact am_nl_i _ | exact am_nl_r _ | exact am_nl_0 | (refine vi_nI ?_ ?_ <;> omega) | assumption | omega | exact b2i_01 _ | exact Or.inl rfl | exact Or.inr rfl | (unfold vi; decide)) only [ex_246_0, ex_246_1, ex_246_2, ex_246_5, ex_246_6, ex_246_7, ex_246_8, ex_246_11, ex_246_14, ex_246_16, ex_246_17, ex_246_18, ex_246_21, ex_246_22, ex_246_23, ex_246_26, ex_246_27, ex_246_30, ex_246_31, ex_246_34, ex_246_35, ex_246_38, ex_246_39, ex_246_40, ex_246_41, ex_246_42, ex_246_44, ex_246_45, ex_246_49, ex_246_50, ex_246_53, ex_246_54, ex_246_55, ex_246_58, ex_246_59, ex_246_60, ex_246_62, ex_246_66, ex_246_69, ex_246_70, ex_246_73, ex_246_75, ex_246_76, ex_246_77, ex_246_80, ex_246_81, ex_246_82, ex_246_83, ex_246_84, ex_246_87, ex_246_89, ex_246_92, ex_246_94, ex_246_96, ex_246_99, ex_246_103, ex_246_106, ex_246_108, ex_246_109, ex_246_112, ex_246_113, ex_246_114, ex_246_117, ex_246_118, ex_246_121, ex_246_122, ex_246_125, ex_246_126, ex_246_129, ex_246_130, ex_246_131, ex_246_134, ex_246_136, ex_246_139, ex_246_141, if_true, if_false, and_self, Option.toList_some, Option.toList_none, List.singleton_append, List.cons_append, List.nil_append, List.append_nil, nI_1, nt_e, Int32.le_refl, c0, k3.1, nI_leI, hnle, lq4, mul_nI, Bool.true_eq_false, Bool.false_eq_true, ↓reduceIte]
      rw [ex_246_63]
      refine goes_ok k1 k2 l3 hW hwi hH k3 (show i < S.2.1.2.1.1 by omega) (fun u4 o4 l4 => ?_)
      have e4 : AI u4 242 = AI u1 242 := by rw [(o4 242 (by unfold bR wkQ; omega)).2.2.2.1, e3]
      have o4 := o3.tr (o4.wk (Q := jR) (fun a q => Or.inl q))
      obtain ⟨k1, k2, k3⟩ := keep u4 o4
      have ge1 := ge_m (by omega) n1
      have ge2 := ge_m (by omega) n2
      generalize lineV S.1 (judgeW S.1 S.2.1.2.1 i).1 (S.2.1.2.1.2 i) = R at *
      generalize judgeW S.1 S.2.1.2.1 i = W at *
      have s96 : ∀ a b, a = (if !R.2 && decide (W.2.1 = -1) then nI i else W.2.1) → b = (if decide (W.2.2 = -1) && !decide (goneV S.1 R.1 &&& nt (goneV S.1 (beginL S.1)) = 0) then nI i else W.2.2) → Ex (d + 5) 246 96 [some (.ref 203), some (.int x), some (.int (goneV S.1 (beginL S.1))), some (.int a), some (.int b), some (.int (nI i))] [] (am_emb u4) post := by
        intro a b ha hb
        simp (disch := first | exact am_nl_i _ | exact am_nl_r _ | exact am_nl_0 | assumption | omega | (refine vi_nI ?_ ?_ <;> omega) | exact b2i_01 _ | exact Or.inl rfl | exact Or.inr rfl | (unfold vi; decide)) only [ex_246_0, ex_246_1, ex_246_2, ex_246_5, ex_246_6, ex_246_7, ex_246_8, ex_246_11, ex_246_14, ex_246_16, ex_246_17, ex_246_18, ex_246_21, ex_246_22, ex_246_23, ex_246_26, ex_246_27, ex_246_30, ex_246_31, ex_246_34, ex_246_35, ex_246_38, ex_246_39, ex_246_40, ex_246_41, ex_246_42, ex_246_44, ex_246_45, ex_246_49, ex_246_50, ex_246_53, ex_246_54, ex_246_55, ex_246_58, ex_246_59, ex_246_60, ex_246_62, ex_246_63, ex_246_66, ex_246_69, ex_246_70, ex_246_73, ex_246_75, ex_246_76, ex_246_77, ex_246_80, ex_246_81, ex_246_82, ex_246_83, ex_246_84, ex_246_87, ex_246_89, ex_246_92, ex_246_94, ex_246_96, ex_246_99, ex_246_102, ex_246_103, ex_246_106, ex_246_108, ex_246_109, ex_246_112, ex_246_113, ex_246_114, ex_246_117, ex_246_118, ex_246_121, ex_246_122, ex_246_125, ex_246_126, ex_246_129, ex_246_130, ex_246_131, ex_246_134, ex_246_136, ex_246_139, ex_246_141, if_true, if_false, and_self, Option.toList_some, Option.toList_none, List.singleton_append, List.cons_append, List.nil_append, List.append_nil, nI_1, nt_e, Int32.le_refl]
        rw [ha, hb]
        exact ih u4 o4 e4 l4
      have s76 : ∀ a, a = (if !R.2 && decide (W.2.1 = -1) then nI i else W.2.1) → Ex (d + 5) 246 76 [some (.ref 203), some (.int x), some (.int (goneV S.1 (beginL S.1))), some (.int a), some (.int W.2.2), some (.int (nI i))] [] (am_emb u4) post := by
        intro a ha
        by_cases g : goneV S.1 R.1 &&& nt (goneV S.1 (beginL S.1)) = 0
        · simp (disch := first | exact am_nl_i _ | exact am_nl_r _ | exact am_nl_0 | (refine vi_nI ?_ ?_ <;> omega) | assumption | omega | exact b2i_01 _ | exact Or.inl rfl | exact Or.inr rfl | (unfold vi; decide)) only [ex_246_0, ex_246_1, ex_246_2, ex_246_5, ex_246_6, ex_246_7, ex_246_8, ex_246_11, ex_246_14, ex_246_16, ex_246_17, ex_246_18, ex_246_21, ex_246_22, ex_246_23, ex_246_26, ex_246_27, ex_246_30, ex_246_31, ex_246_34, ex_246_35, ex_246_38, ex_246_39, ex_246_40, ex_246_41, ex_246_42, ex_246_44, ex_246_45, ex_246_47, ex_246_49, ex_246_50, ex_246_53, ex_246_54, ex_246_55, ex_246_58, ex_246_59, ex_246_60, ex_246_62, ex_246_63, ex_246_66, ex_246_69, ex_246_70, ex_246_73, ex_246_75, ex_246_76, ex_246_77, ex_246_80, ex_246_81, ex_246_82, ex_246_83, ex_246_84, ex_246_87, ex_246_89, ex_246_92, ex_246_94, ex_246_99, ex_246_102, ex_246_103, ex_246_106, ex_246_108, ex_246_109, ex_246_112, ex_246_113, ex_246_114, ex_246_117, ex_246_118, ex_246_121, ex_246_122, ex_246_125, ex_246_126, ex_246_129, ex_246_130, ex_246_131, ex_246_134, ex_246_136, ex_246_139, ex_246_141, if_true, if_false, and_self, Option.toList_some, Option.toList_none, List.singleton_append, List.cons_append, List.nil_append, List.append_nil, nI_1, nt_e, Int32.le_refl, lostNow_ok k1 l4 hW hwi1, g, Bool.true_eq_false, Bool.false_eq_true, ↓reduceIte]
          exact s96 _ _ ha (by rw [decide_eq_true g]; simp)
        · by_cases z : W.2.2 = -1
          · simp (disch := first | exact am_nl_i _ | exact am_nl_r _ | exact am_nl_0 | (refine vi_nI ?_ ?_ <;> omega) | assumption | omega | exact b2i_01 _ | exact Or.inl rfl | exact Or.inr rfl | (unfold vi; decide)) only [ex_246_0, ex_246_1, ex_246_2, ex_246_5, ex_246_6, ex_246_7, ex_246_8, ex_246_11, ex_246_14, ex_246_16, ex_246_17, ex_246_18, ex_246_21, ex_246_22, ex_246_23, ex_246_26, ex_246_27, ex_246_30, ex_246_31, ex_246_34, ex_246_35, ex_246_38, ex_246_39, ex_246_40, ex_246_41, ex_246_42, ex_246_44, ex_246_45, ex_246_47, ex_246_49, ex_246_50, ex_246_53, ex_246_54, ex_246_55, ex_246_58, ex_246_59, ex_246_60, ex_246_62, ex_246_63, ex_246_66, ex_246_69, ex_246_70, ex_246_73, ex_246_75, ex_246_76, ex_246_77, ex_246_80, ex_246_81, ex_246_82, ex_246_83, ex_246_84, ex_246_87, ex_246_89, ex_246_92, ex_246_94, ex_246_99, ex_246_102, ex_246_103, ex_246_106, ex_246_108, ex_246_109, ex_246_112, ex_246_113, ex_246_114, ex_246_117, ex_246_118, ex_246_121, ex_246_122, ex_246_125, ex_246_126, ex_246_129, ex_246_130, ex_246_131, ex_246_134, ex_246_136, ex_246_139, ex_246_141, if_true, if_false, and_self, Option.toList_some, Option.toList_none, List.singleton_append, List.cons_append, List.nil_append, List.append_nil, nI_1, nt_e, Int32.le_refl, lostNow_ok k1 l4 hW hwi1, g, ge2, z, not_true_eq_false, Bool.true_eq_false, Bool.false_eq_true, ↓reduceIte]
            exact s96 _ _ ha (by rw [decide_eq_false g, z]; simp)
          · simp (disch := first | exact am_nl_i _ | exact am_nl_r _ | exact am_nl_0 | (refine vi_nI ?_ ?_ <;> omega) | assumption | omega | exact b2i_01 _ | exact Or.inl rfl | exact Or.inr rfl | (unfold vi; decide)) only [ex_246_0, ex_246_1, ex_246_2, ex_246_5, ex_246_6, ex_246_7, ex_246_8, ex_246_11, ex_246_14, ex_246_16, ex_246_17, ex_246_18, ex_246_21, ex_246_22, ex_246_23, ex_246_26, ex_246_27, ex_246_30, ex_246_31, ex_246_34, ex_246_35, ex_246_38, ex_246_39, ex_246_40, ex_246_41, ex_246_42, ex_246_44, ex_246_45, ex_246_47, ex_246_49, ex_246_50, ex_246_53, ex_246_54, ex_246_55, ex_246_58, ex_246_59, ex_246_60, ex_246_62, ex_246_63, ex_246_66, ex_246_69, ex_246_70, ex_246_73, ex_246_75, ex_246_76, ex_246_77, ex_246_80, ex_246_81, ex_246_82, ex_246_83, ex_246_84, ex_246_87, ex_246_89, ex_246_92, ex_246_94, ex_246_99, ex_246_102, ex_246_103, ex_246_106, ex_246_108, ex_246_109, ex_246_112, ex_246_113, ex_246_114, ex_246_117, ex_246_118, ex_246_121, ex_246_122, ex_246_125, ex_246_126, ex_246_129, ex_246_130, ex_246_131, ex_246_134, ex_246_136, ex_246_139, ex_246_141, if_true, if_false, and_self, Option.toList_some, Option.toList_none, List.singleton_append, List.cons_append, List.nil_append, List.append_nil, nI_1, nt_e, Int32.le_refl, lostNow_ok k1 l4 hW hwi1, g, ge2, z, not_false_eq_true, Bool.true_eq_false, Bool.false_eq_true, ↓reduceIte]
            exact s96 _ _ ha (by rw [decide_eq_false z]; simp)
      simp (disch := first | exact am_nl_i _ | exact am_nl_r _ | exact am_nl_0 | assumption | omega | (refine vi_nI ?_ ?_ <;> omega) | exact b2i_01 _ | exact Or.inl rfl | exact Or.inr rfl | (unfold vi; decide)) only [ex_246_0, ex_246_1, ex_246_2, ex_246_5, ex_246_6, ex_246_7, ex_246_8, ex_246_11, ex_246_14, ex_246_16, ex_246_17, ex_246_18, ex_246_21, ex_246_22, ex_246_23, ex_246_26, ex_246_27, ex_246_30, ex_246_31, ex_246_34, ex_246_35, ex_246_38, ex_246_39, ex_246_40, ex_246_41, ex_246_42, ex_246_44, ex_246_45, ex_246_47, ex_246_49, ex_246_50, ex_246_53, ex_246_54, ex_246_55, ex_246_58, ex_246_59, ex_246_60, ex_246_62, ex_246_63, ex_246_66, ex_246_69, ex_246_70, ex_246_73, ex_246_75, ex_246_77, ex_246_80, ex_246_81, ex_246_82, ex_246_83, ex_246_84, ex_246_87, ex_246_89, ex_246_92, ex_246_94, ex_246_96, ex_246_99, ex_246_102, ex_246_103, ex_246_106, ex_246_108, ex_246_109, ex_246_112, ex_246_113, ex_246_114, ex_246_117, ex_246_118, ex_246_121, ex_246_122, ex_246_125, ex_246_126, ex_246_129, ex_246_130, ex_246_131, ex_246_134, ex_246_136, ex_246_139, ex_246_141, if_true, if_false, and_self, Option.toList_some, Option.toList_none, List.singleton_append, List.cons_append, List.nil_append, List.append_nil, nI_1, nt_e, Int32.le_refl, b2i_0, ge1]
      cases hr : R.2
      · rw [hr] at s76
        simp only [if_true]
        by_cases z : W.2.1 = -1
        · rw [if_neg (by simpa using z)]
          exact s76 _ (by rw [decide_eq_true z]; simp)
        · rw [if_pos z]
          exact s76 _ (by rw [decide_eq_false z]; simp)
      · rw [hr] at s76
        simp only [Bool.true_eq_false, if_false]
        exact s76 _ (by simp)
  exact loop S.2.1.2.1.1 0 (by omega) u2 o2 e2 l2
end Judged
