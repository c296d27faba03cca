/-! A BITE: what it takes; the class's -/
def biteW (e more : Int32) : Nat → Int32 × Nat
  | 0 => (0, 0)
  | n + 1 => if bt e n && decide (nI (biteW e more n).2 < more) then ((biteW e more n).1 ||| bi n, (biteW e more n).2 + 1) else biteW e more n
theorem biteW_bt (e more : Int32) : ∀ n j, n ≤ 32 → bt (biteW e more n).1 j = true → j < n ∧ bt e j = true
  | 0, j, _, h => by
    rw [biteW] at h
    rw [b_0] at h
    cases h
  | n + 1, j, hn, h => by
    rw [biteW] at h
    split at h
    · next hq =>
      rw [Bool.and_eq_true] at hq
      rw [b_or, Bool.or_eq_true] at h
      rcases h with h | h
      · obtain ⟨h1, h2⟩ := biteW_bt e more n j (by omega) h
        exact ⟨by omega, h2⟩
      · by_cases e2 : j = n
        · rw [e2]
          exact ⟨by omega, hq.1⟩
        · rw [bt_bi_f (by omega) e2] at h
          cases h
    · obtain ⟨h1, h2⟩ := biteW_bt e more n j (by omega) h
      exact ⟨by omega, h2⟩
theorem biteW_n (e more : Int32) : ∀ n, (biteW e more n).2 ≤ n
  | 0 => Nat.le_refl 0
  | n + 1 => by
    have := biteW_n e more n
    rw [biteW]
    split
    · show _ + 1 ≤ n + 1
      omega
    · omega
theorem biteW_stop {e more : Int32} {i : Nat} (h : ¬ nI (biteW e more i).2 < more) : ∀ n, i ≤ n → biteW e more n = biteW e more i
  | 0, hi => by rw [show i = 0 by omega]
  | n + 1, hi => by
    by_cases q : i = n + 1
    · rw [q]
    · have := biteW_stop h n (by omega)
      rw [biteW, this, decide_eq_false h, Bool.and_false]
      rfl
theorem biteW_ext {e more : Int32} {i : Nat} (h : ∀ j, i ≤ j → bt e j = false) : ∀ n, i ≤ n → biteW e more n = biteW e more i
  | 0, hi => by rw [show i = 0 by omega]
  | n + 1, hi => by
    by_cases q : i = n + 1
    · rw [q]
    · have := biteW_ext (more := more) h n (by omega)
      rw [biteW, this, h n (by omega), Bool.false_and]
      rfl
def bitesB (v : LV) (l : LF) (x y z : Int32) : Bool := takesB v l x z && (livesI l y && (!decide (y = x) && bt (eatL l (ix y)) (ix z)))
def withE (l : LF) (q : Nat) (e : Int32) : LF := (upd (eatL l) q e, l.2)
def lossV (v : LV) (l : LF) (q k : Nat) : Int32 × Nat := biteW (eatL l q &&& nt (bi k)) (lawV v 1 (weighV v k) (bitsV (eatL l q))) 12
def bitesL (v : LV) (l : LF) (p q k : Nat) : LF := withE (swallowL v l p k) q ((eatL l q &&& nt (bi k)) &&& nt (lossV v l q k).1)
def bitesN (v : LV) (l : LF) (q k : Nat) : Int32 := nI ((lossV v l q k).2 + 1)
/-- the places of a life, and of the stacks of a library's formulas -/
def inLS (b L a : Nat) : Prop := inL b a ∨ a = L + 22 ∨ a = L + 25
theorem LibC.keep2 {P : Nat → Prop} {u u' : am_U} {L : Nat} {v : LV} (h : LibC u L v) (ho : Only P u u') (hp : ∀ k, k < 20 → ¬ P (L + k)) : LibC u' L v := by
  obtain ⟨⟨a1, a2, a3, a4⟩, ⟨b1, b2, b3, b4⟩, c1, c2, c3, c4, c5, c6, c7, c8, c9, c10, c11, d1, d2⟩ := h
  have e := fun k hk => ho (L + k) (hp k hk)
  have e0 := ho L (hp 0 (by omega))
  exact ⟨⟨by rw [(e 1 (by omega)).1]; exact a1, by rw [(e 3 (by omega)).1]; exact a2, by rw [(e 5 (by omega)).1]; exact a3, by rw [(e 7 (by omega)).1]; exact a4⟩,
    ⟨by rw [(e 1 (by omega)).1]; exact b1, by rw [(e 3 (by omega)).1]; exact b2, by rw [(e 5 (by omega)).1]; exact b3, by rw [(e 7 (by omega)).1]; exact b4⟩,
    by rw [(e 9 (by omega)).2.2.2.1]; exact c1, by rw [(e 10 (by omega)).2.2.2.1]; exact c2, by rw [(e 11 (by omega)).2.2.2.1]; exact c3, by rw [(e 12 (by omega)).2.2.2.1]; exact c4, by rw [(e 13 (by omega)).2.2.2.1]; exact c5, by rw [(e 14 (by omega)).2.2.2.1]; exact c6, by rw [(e 15 (by omega)).2.2.2.1]; exact c7, by rw [(e 16 (by omega)).2.2.2.1]; exact c8, by rw [(e 17 (by omega)).2.2.2.1]; exact c9, by rw [(e 18 (by omega)).2.2.2.1]; exact c10, by rw [(e 19 (by omega)).2.2.2.1]; exact c11, by rw [e0.1]; exact d1, by rw [e0.1]; exact d2⟩
theorem nt_or (x y : Int32) : nt (x ||| y) = nt x &&& nt y := b_ext fun i hi => by
  rw [bt_nt _ hi, b_or, b_and, bt_nt _ hi, bt_nt _ hi]
  cases bt x i <;> cases bt y i <;> rfl
theorem and_as (x y z : Int32) : (x &&& y) &&& z = x &&& (y &&& z) := b_ext fun i hi => by
  rw [b_and, b_and, b_and, b_and, Bool.and_assoc]
theorem upd_upd {f : Nat → Int32} {k : Nat} {x y : Int32} : upd (upd f k x) k y = upd f k y := funext fun j => by
  by_cases e : j = k
  · rw [e, upd_s, upd_s]
  · rw [upd_n e, upd_n e, upd_n e]
theorem lt_i {n : Nat} {x : Int32} (h : n < 1000) : x < nI (n + 1) ↔ ¬ nI n < x := by
  rw [Int32.lt_iff_toInt_lt, Int32.lt_iff_toInt_lt, nI_toInt (by omega), nI_toInt (by omega)]
  omega
theorem upd_same (f : Nat → Int32) (k : Nat) : upd f k (f k) = f := funext fun j => by
  by_cases e : j = k
  · rw [e, upd_s]
  · rw [upd_n e]
theorem withE_same (l : LF) (q : Nat) : withE l q (eatL l q) = l := by
  obtain ⟨e, l2⟩ := l
  show (upd e q (e q), l2) = (e, l2)
  rw [upd_same]
theorem swallow_n {v : LV} {l : LF} {p q k : Nat} (h : ¬ q = p) : eatL (swallowL v l p k) q = eatL l q := by
  show upd (eatL l) p (eatL l p ||| bi k) q = eatL l q
  exact upd_n h
section BitesC
variable {d L b : Nat} {u : am_U} {v : LV} {l : LF} {post : Option Value → am_M → Prop}
theorem withE_C {q : Nat} {e : Int32} {i : Int32} (hq : q < 6) (hl : LifeC u b (withE l q e)) (he : i = e) {w : Int32} {g : Nat → Int32} (hg : g = upd (AI u (b + 1)) q w) : LifeC (sAI u (b + 1) g) b (withE l q w) := by
  obtain ⟨l1, l2, l3, l4, l5, l6⟩ := hl
  refine ⟨fun p hp => ?_, ?_, ?_, l4, l5, l6⟩
  · rw [AI_sAI, if_pos rfl, hg]
    show upd _ q w p = upd (eatL l) q w p
    by_cases e : p = q
    · rw [e, upd_s, upd_s]
    · have := l1 p hp
      rw [upd_n e, upd_n e, this]
      exact upd_n e
  · rw [AI_sAI, if_neg (by omega)]; exact l2
  · rw [AI_sAI, if_neg (by omega)]; exact l3
theorem bites_ok {x y z : Int32} (hb : sh b 4 6) (hL : sh L 3 19) (hl : LifeC u b l) (hC : LibC u L v) (hF : FmC u (L + 23) (lawV v 1)) (hW : WF v) (hw : WL v l)
    (h0 : bitesB v l x y z = false → post (some (.int (-1))) (am_emb u)) (h1 : bitesB v l x y z = true → ∀ u', Only (inLS b L) u u' → LifeC u' b (bitesL v l (ix x) (ix y) (ix z)) → post (some (.int (bitesN v l (ix y) (ix z)))) (am_emb u')) : Cl (d + 2) 42 [.ref b, .ref L, .int x, .int y, .int z] (am_emb u) post := by
  have h12 := hW.1.2.1
  have hbp := life_places hb
  have hLp := lib_places hL
  rw [op_42]
  simp (disch := first | exact am_nl_i _ | exact am_nl_r _ | exact am_nl_0 | assumption | omega | (refine vi_nI ?_ ?_ <;> omega) | exact b2i_01 _ | exact Or.inl rfl | exact Or.inr rfl | (unfold vi; decide)) only [ex_42_0, ex_42_1, ex_42_2, ex_42_3, ex_42_5, ex_42_8, ex_42_11, ex_42_12, ex_42_13, ex_42_16, ex_42_19, ex_42_20, ex_42_21, ex_42_24, ex_42_25, ex_42_26, ex_42_28, ex_42_31, ex_42_34, ex_42_35, ex_42_36, ex_42_37, ex_42_40, ex_42_41, ex_42_42, ex_42_45, ex_42_47, ex_42_48, ex_42_51, ex_42_52, ex_42_55, ex_42_57, ex_42_58, ex_42_63, ex_42_65, ex_42_66, ex_42_67, ex_42_68, ex_42_70, ex_42_73, ex_42_74, ex_42_77, ex_42_78, ex_42_79, ex_42_80, ex_42_81, ex_42_83, ex_42_84, ex_42_85, ex_42_86, ex_42_87, ex_42_88, ex_42_89, ex_42_91, ex_42_92, ex_42_94, ex_42_96, ex_42_97, ex_42_100, ex_42_103, ex_42_106, ex_42_108, ex_42_110, ex_42_113, ex_42_114, ex_42_115, ex_42_117, ex_42_120, ex_42_123, ex_42_124, ex_42_127, ex_42_128, ex_42_129, ex_42_130, ex_42_131, ex_42_133, ex_42_134, ex_42_135, ex_42_136, ex_42_137, ex_42_138, ex_42_141, ex_42_144, ex_42_147, ex_42_149, if_true, if_false, and_self, Option.toList_some, Option.toList_none, List.singleton_append, List.cons_append, List.nil_append, List.append_nil, nI_1, nt_e, Int32.le_refl, takes_ok hb hL hl hC hW, b2i_0]
  unfold bitesB at h0 h1
  cases ht : takesB v l x z
  · simp only [if_true]
    exact h0 (by rw [ht]; rfl)
  rw [ht] at h0 h1
  obtain ⟨g1, g2, g3, g4⟩ := takesB_ix ht
  rw [if_neg (by simp)]
  simp (disch := first | exact am_nl_i _ | exact am_nl_r _ | exact am_nl_0 | assumption | omega | (refine vi_nI ?_ ?_ <;> omega) | exact b2i_01 _ | exact Or.inl rfl | exact Or.inr rfl | (unfold vi; decide)) only [ex_42_0, ex_42_1, ex_42_2, ex_42_3, ex_42_5, ex_42_8, ex_42_11, ex_42_12, ex_42_13, ex_42_16, ex_42_19, ex_42_20, ex_42_21, ex_42_24, ex_42_25, ex_42_26, ex_42_28, ex_42_31, ex_42_34, ex_42_35, ex_42_36, ex_42_37, ex_42_40, ex_42_41, ex_42_42, ex_42_45, ex_42_47, ex_42_48, ex_42_51, ex_42_52, ex_42_55, ex_42_57, ex_42_58, ex_42_63, ex_42_65, ex_42_66, ex_42_67, ex_42_68, ex_42_70, ex_42_73, ex_42_74, ex_42_77, ex_42_78, ex_42_79, ex_42_80, ex_42_81, ex_42_83, ex_42_84, ex_42_85, ex_42_86, ex_42_87, ex_42_88, ex_42_89, ex_42_91, ex_42_92, ex_42_94, ex_42_96, ex_42_97, ex_42_100, ex_42_103, ex_42_106, ex_42_108, ex_42_110, ex_42_113, ex_42_114, ex_42_115, ex_42_117, ex_42_120, ex_42_123, ex_42_124, ex_42_127, ex_42_128, ex_42_129, ex_42_130, ex_42_131, ex_42_133, ex_42_134, ex_42_135, ex_42_136, ex_42_137, ex_42_138, ex_42_141, ex_42_144, ex_42_147, ex_42_149, if_true, if_false, and_self, Option.toList_some, Option.toList_none, List.singleton_append, List.cons_append, List.nil_append, List.append_nil, nI_1, nt_e, Int32.le_refl, lives_ok hb hl, b2i_0]
  cases hy : livesI l y
  · simp only [if_true]
    exact h0 (by rw [hy]; rfl)
  rw [hy] at h0 h1
  rw [if_neg (by simp)]
  by_cases hyx : y = x
  · rw [if_pos hyx]
    exact h0 (by rw [decide_eq_true hyx]; rfl)
  rw [decide_eq_false hyx] at h0 h1
  rw [if_neg hyx]
  obtain ⟨i1, i2⟩ := okI_ix (Bool.and_eq_true _ _ ▸ hy : okI y 6 = true ∧ livesL l (ix y) = true).1
  have hne : ¬ ix y = ix x := fun q => hyx (by rw [i2, g2, q])
  generalize ix x = p at *
  generalize ix y = q at *
  generalize ix z = k at *
  subst g2
  subst i2
  subst g4
  simp (disch := first | exact am_nl_i _ | exact am_nl_r _ | exact am_nl_0 | assumption | omega | (refine vi_nI ?_ ?_ <;> omega) | exact b2i_01 _ | exact Or.inl rfl | exact Or.inr rfl | (unfold vi; decide)) only [ex_42_0, ex_42_1, ex_42_2, ex_42_3, ex_42_5, ex_42_8, ex_42_11, ex_42_12, ex_42_13, ex_42_16, ex_42_19, ex_42_20, ex_42_21, ex_42_24, ex_42_25, ex_42_26, ex_42_28, ex_42_31, ex_42_34, ex_42_35, ex_42_36, ex_42_37, ex_42_40, ex_42_41, ex_42_42, ex_42_45, ex_42_47, ex_42_48, ex_42_51, ex_42_52, ex_42_55, ex_42_57, ex_42_58, ex_42_63, ex_42_65, ex_42_66, ex_42_67, ex_42_68, ex_42_70, ex_42_73, ex_42_74, ex_42_77, ex_42_78, ex_42_79, ex_42_80, ex_42_81, ex_42_83, ex_42_84, ex_42_85, ex_42_86, ex_42_87, ex_42_88, ex_42_89, ex_42_91, ex_42_92, ex_42_94, ex_42_96, ex_42_97, ex_42_100, ex_42_103, ex_42_106, ex_42_108, ex_42_110, ex_42_113, ex_42_114, ex_42_115, ex_42_117, ex_42_120, ex_42_123, ex_42_124, ex_42_127, ex_42_128, ex_42_129, ex_42_130, ex_42_131, ex_42_133, ex_42_134, ex_42_135, ex_42_136, ex_42_137, ex_42_138, ex_42_141, ex_42_144, ex_42_147, ex_42_149, if_true, if_false, and_self, Option.toList_some, Option.toList_none, List.singleton_append, List.cons_append, List.nil_append, List.append_nil, nI_1, nt_e, Int32.le_refl, hasEaten_ok hb hl, b2i_0]
  cases hk : bt (eatL l q) k
  · simp only [if_true]
    exact h0 (by rw [hk]; rfl)
  rw [hk] at h0 h1
  rw [if_neg (by simp)]
  have h1 := h1 rfl
  have hbc : bcV (eatL l q) = bitsV (eatL l q) := bc_small (fun j hj => hw.2.2.1 q j (by omega))
  simp (disch := first | exact am_nl_i _ | exact am_nl_r _ | exact am_nl_0 | assumption | omega | (refine vi_nI ?_ ?_ <;> omega) | exact b2i_01 _ | exact Or.inl rfl | exact Or.inr rfl | (unfold vi; decide)) only [ex_42_0, ex_42_1, ex_42_2, ex_42_3, ex_42_5, ex_42_8, ex_42_11, ex_42_12, ex_42_13, ex_42_16, ex_42_19, ex_42_20, ex_42_21, ex_42_24, ex_42_25, ex_42_26, ex_42_28, ex_42_31, ex_42_34, ex_42_35, ex_42_36, ex_42_37, ex_42_40, ex_42_41, ex_42_42, ex_42_45, ex_42_47, ex_42_48, ex_42_51, ex_42_52, ex_42_55, ex_42_57, ex_42_58, ex_42_63, ex_42_65, ex_42_66, ex_42_67, ex_42_68, ex_42_70, ex_42_73, ex_42_74, ex_42_77, ex_42_78, ex_42_79, ex_42_80, ex_42_81, ex_42_83, ex_42_84, ex_42_85, ex_42_86, ex_42_87, ex_42_88, ex_42_89, ex_42_91, ex_42_92, ex_42_94, ex_42_96, ex_42_97, ex_42_100, ex_42_103, ex_42_106, ex_42_108, ex_42_110, ex_42_113, ex_42_114, ex_42_115, ex_42_117, ex_42_120, ex_42_123, ex_42_124, ex_42_127, ex_42_128, ex_42_129, ex_42_130, ex_42_131, ex_42_133, ex_42_134, ex_42_135, ex_42_136, ex_42_137, ex_42_138, ex_42_141, ex_42_144, ex_42_147, ex_42_149, if_true, if_false, and_self, Option.toList_some, Option.toList_none, List.singleton_append, List.cons_append, List.nil_append, List.append_nil, nI_1, nt_e, Int32.le_refl, hl.1, nI_clamp, bc_ok, hbc, hC.2.2.2.2.2.1]
  rw [ex_42_60 hL]
  refine value_ok (sh_3_23 hL) hF (fun u1 o1 => ?_)
  have a1 : LifeC u1 b l := hl.keep o1 (fun k hk q => by unfold is at q; omega)
  have c1 : LibC u1 L v := hC.keep2 o1 (fun k hk q => by unfold is at q; omega)
  simp (disch := first | exact am_nl_i _ | exact am_nl_r _ | exact am_nl_0 | assumption | omega | (refine vi_nI ?_ ?_ <;> omega) | exact b2i_01 _ | exact Or.inl rfl | exact Or.inr rfl | (unfold vi; decide)) only [ex_42_0, ex_42_1, ex_42_2, ex_42_3, ex_42_5, ex_42_8, ex_42_11, ex_42_12, ex_42_13, ex_42_16, ex_42_19, ex_42_20, ex_42_21, ex_42_24, ex_42_25, ex_42_26, ex_42_28, ex_42_31, ex_42_34, ex_42_35, ex_42_36, ex_42_37, ex_42_40, ex_42_41, ex_42_42, ex_42_45, ex_42_47, ex_42_48, ex_42_51, ex_42_52, ex_42_55, ex_42_57, ex_42_58, ex_42_60, ex_42_63, ex_42_65, ex_42_66, ex_42_67, ex_42_68, ex_42_73, ex_42_74, ex_42_77, ex_42_78, ex_42_79, ex_42_80, ex_42_81, ex_42_83, ex_42_84, ex_42_85, ex_42_86, ex_42_87, ex_42_88, ex_42_89, ex_42_91, ex_42_92, ex_42_94, ex_42_96, ex_42_97, ex_42_100, ex_42_103, ex_42_106, ex_42_108, ex_42_110, ex_42_113, ex_42_114, ex_42_115, ex_42_117, ex_42_120, ex_42_123, ex_42_124, ex_42_127, ex_42_128, ex_42_129, ex_42_130, ex_42_131, ex_42_133, ex_42_134, ex_42_135, ex_42_136, ex_42_137, ex_42_138, ex_42_141, ex_42_144, ex_42_147, ex_42_149, if_true, if_false, and_self, Option.toList_some, Option.toList_none, List.singleton_append, List.cons_append, List.nil_append, List.append_nil, nI_1, nt_e, Int32.le_refl]
  rw [ex_42_70 hb]
  refine swallow_ok hb hL a1 c1 hW g1 g3 (fun u2 o2 a2 => ?_)
  have c2 : LibC u2 L v := lib_keep hb hL c1 o2
  have hn := c2.1.2.1
  have o12 : Only (inLS b L) u u2 := (o1.wk (fun a q => Or.inr (Or.inr q))).tr (o2.wk (fun a q => Or.inl q))
  unfold bitesL bitesN lossV at h1
  generalize lawV v 1 (weighV v k) (bitsV (eatL l q)) = more at *
  have e2 : AI u2 (b + 1) q = eatL l q := by
    rw [a2.1 q i1]
    exact upd_n hne
  have hE : ∀ j, nP v ≤ j → bt (eatL l q &&& nt (bi k)) j = false := fun j hj => by rw [b_and, hw.2.2.1 q j hj]; rfl
  have h12e := biteW_ext (more := more) hE 12 h12
  simp (disch := first | exact am_nl_i _ | exact am_nl_r _ | exact am_nl_0 | assumption | omega | (refine vi_nI ?_ ?_ <;> omega) | exact b2i_01 _ | exact Or.inl rfl | exact Or.inr rfl | (unfold vi; decide)) only [ex_42_0, ex_42_1, ex_42_2, ex_42_3, ex_42_5, ex_42_8, ex_42_11, ex_42_12, ex_42_13, ex_42_16, ex_42_19, ex_42_20, ex_42_21, ex_42_24, ex_42_25, ex_42_26, ex_42_28, ex_42_31, ex_42_34, ex_42_35, ex_42_36, ex_42_37, ex_42_40, ex_42_41, ex_42_42, ex_42_45, ex_42_47, ex_42_48, ex_42_51, ex_42_52, ex_42_55, ex_42_57, ex_42_58, ex_42_60, ex_42_63, ex_42_65, ex_42_66, ex_42_67, ex_42_68, ex_42_70, ex_42_73, ex_42_74, ex_42_77, ex_42_78, ex_42_79, ex_42_80, ex_42_81, ex_42_83, ex_42_84, ex_42_85, ex_42_86, ex_42_87, ex_42_88, ex_42_89, ex_42_91, ex_42_92, ex_42_96, ex_42_97, ex_42_100, ex_42_103, ex_42_106, ex_42_108, ex_42_110, ex_42_113, ex_42_114, ex_42_115, ex_42_117, ex_42_120, ex_42_123, ex_42_124, ex_42_127, ex_42_128, ex_42_129, ex_42_130, ex_42_131, ex_42_133, ex_42_134, ex_42_135, ex_42_136, ex_42_137, ex_42_138, ex_42_141, ex_42_144, ex_42_147, ex_42_149, if_true, if_false, and_self, Option.toList_some, Option.toList_none, List.singleton_append, List.cons_append, List.nil_append, List.append_nil, nI_1, nt_e, Int32.le_refl, nI_clamp, e2, bi_e]
  have hC3 : ∀ u3, Only (inL b) u2 u3 → LibC u3 L v := fun u3 o3 => lib_keep hb hL c2 o3
  have loop : ∀ (kz i : Nat), i + kz = nP v → ∀ u3, Only (inL b) u2 u3 → LifeC u3 b (withE (swallowL v l p k) q ((eatL l q &&& nt (bi k)) &&& nt (biteW (eatL l q &&& nt (bi k)) more i).1)) → Ex (d + 2) 42 94 [some (.ref b), some (.ref L), some (.int (nI p)), some (.int (nI q)), some (.int (nI k)), some (.int (bitsV (eatL l q))), some (.int more), some (.int (nI ((biteW (eatL l q &&& nt (bi k)) more i).2 + 1))), some (.int (nI i))] [] (am_emb u3) post := by
    intro kz
    induction kz with
    | zero =>
      intro i hi u3 o3 l3
      obtain rfl : i = nP v := by omega
      have hn3 := (hC3 u3 o3).1.2.1
      rw [ex_42_94]
      simp (disch := first | exact am_nl_i _ | exact am_nl_r _ | exact am_nl_0 | assumption | omega | (refine vi_nI ?_ ?_ <;> omega) | exact b2i_01 _ | exact Or.inl rfl | exact Or.inr rfl | (unfold vi; decide)) only [ex_42_0, ex_42_1, ex_42_2, ex_42_3, ex_42_5, ex_42_8, ex_42_11, ex_42_12, ex_42_13, ex_42_16, ex_42_19, ex_42_20, ex_42_21, ex_42_24, ex_42_25, ex_42_26, ex_42_28, ex_42_31, ex_42_34, ex_42_35, ex_42_36, ex_42_37, ex_42_40, ex_42_41, ex_42_42, ex_42_45, ex_42_47, ex_42_48, ex_42_51, ex_42_52, ex_42_55, ex_42_57, ex_42_58, ex_42_60, ex_42_63, ex_42_65, ex_42_66, ex_42_67, ex_42_68, ex_42_70, ex_42_73, ex_42_74, ex_42_77, ex_42_78, ex_42_79, ex_42_80, ex_42_81, ex_42_83, ex_42_84, ex_42_85, ex_42_86, ex_42_87, ex_42_88, ex_42_89, ex_42_91, ex_42_92, ex_42_96, ex_42_97, ex_42_100, ex_42_103, ex_42_106, ex_42_108, ex_42_110, ex_42_113, ex_42_114, ex_42_115, ex_42_117, ex_42_120, ex_42_123, ex_42_124, ex_42_127, ex_42_128, ex_42_129, ex_42_130, ex_42_131, ex_42_133, ex_42_134, ex_42_135, ex_42_136, ex_42_137, ex_42_138, ex_42_141, ex_42_144, ex_42_147, ex_42_149, if_true, if_false, and_self, Option.toList_some, Option.toList_none, List.singleton_append, List.cons_append, List.nil_append, List.append_nil, nI_1, nt_e, Int32.le_refl, hn3, nI_leI, Nat.le_refl]
      rw [h12e] at h1
      exact h1 u3 (o12.tr (o3.wk (fun a q => Or.inl q))) l3
    | succ kz ih =>
      intro i hi u3 o3 l3
      have hn3 := (hC3 u3 o3).1.2.1
      have hnle : ¬ nP v ≤ i := by omega
      have hbn := biteW_n (eatL l q &&& nt (bi k)) more i
      have ih := ih (i + 1) (by omega)
      rw [biteW] at ih
      rw [ex_42_94]
      by_cases hm : nI (biteW (eatL l q &&& nt (bi k)) more i).2 < more
      · rw [decide_eq_true hm, Bool.and_true] at ih
        have hbt : bt (eatL (withE (swallowL v l p k) q ((eatL l q &&& nt (bi k)) &&& nt (biteW (eatL l q &&& nt (bi k)) more i).1)) q) i = bt (eatL l q &&& nt (bi k)) i := by
          show bt (upd _ q _ q) i = _
          rw [upd_s, b_and, bt_nt _ (by omega)]
          cases hz : bt (biteW (eatL l q &&& nt (bi k)) more i).1 i
          · rw [Bool.not_false, Bool.and_true]
          · have := (biteW_bt _ _ i i (by omega) hz).1
            omega
        simp (disch := first | exact am_nl_i _ | exact am_nl_r _ | exact am_nl_0 | assumption | omega | (refine vi_nI ?_ ?_ <;> omega) | exact b2i_01 _ | exact Or.inl rfl | exact Or.inr rfl | (unfold vi; decide)) only [ex_42_0, ex_42_1, ex_42_2, ex_42_3, ex_42_5, ex_42_8, ex_42_11, ex_42_12, ex_42_13, ex_42_16, ex_42_19, ex_42_20, ex_42_21, ex_42_24, ex_42_25, ex_42_26, ex_42_28, ex_42_31, ex_42_34, ex_42_35, ex_42_36, ex_42_37, ex_42_40, ex_42_41, ex_42_42, ex_42_45, ex_42_47, ex_42_48, ex_42_51, ex_42_52, ex_42_55, ex_42_57, ex_42_58, ex_42_60, ex_42_63, ex_42_65, ex_42_66, ex_42_67, ex_42_68, ex_42_70, ex_42_73, ex_42_74, ex_42_77, ex_42_78, ex_42_79, ex_42_80, ex_42_81, ex_42_83, ex_42_84, ex_42_85, ex_42_86, ex_42_87, ex_42_88, ex_42_89, ex_42_91, ex_42_92, ex_42_96, ex_42_97, ex_42_100, ex_42_103, ex_42_106, ex_42_108, ex_42_110, ex_42_113, ex_42_114, ex_42_115, ex_42_117, ex_42_120, ex_42_123, ex_42_124, ex_42_127, ex_42_128, ex_42_129, ex_42_130, ex_42_131, ex_42_133, ex_42_134, ex_42_135, ex_42_136, ex_42_137, ex_42_138, ex_42_141, ex_42_144, ex_42_147, ex_42_149, if_true, if_false, and_self, Option.toList_some, Option.toList_none, List.singleton_append, List.cons_append, List.nil_append, List.append_nil, nI_1, nt_e, Int32.le_refl, hn3, nI_leI, hnle, lt_i, hm, not_true_eq_false, hasEaten_ok hb l3, hbt, b2i_0]
        cases hz : bt (eatL l q &&& nt (bi k)) i
        · rw [hz] at ih
          simp only [if_true]
          exact ih u3 o3 l3
        · rw [hz] at ih
          rw [if_neg (by simp)]
          simp (disch := first | exact am_nl_i _ | exact am_nl_r _ | exact am_nl_0 | assumption | omega | (refine vi_nI ?_ ?_ <;> omega) | exact b2i_01 _ | exact Or.inl rfl | exact Or.inr rfl | (unfold vi; decide)) only [ex_42_0, ex_42_1, ex_42_2, ex_42_3, ex_42_5, ex_42_8, ex_42_11, ex_42_12, ex_42_13, ex_42_16, ex_42_19, ex_42_20, ex_42_21, ex_42_24, ex_42_25, ex_42_26, ex_42_28, ex_42_31, ex_42_34, ex_42_35, ex_42_36, ex_42_37, ex_42_40, ex_42_41, ex_42_42, ex_42_45, ex_42_47, ex_42_48, ex_42_51, ex_42_52, ex_42_55, ex_42_57, ex_42_58, ex_42_60, ex_42_63, ex_42_65, ex_42_66, ex_42_67, ex_42_68, ex_42_70, ex_42_73, ex_42_74, ex_42_77, ex_42_78, ex_42_79, ex_42_80, ex_42_81, ex_42_83, ex_42_84, ex_42_85, ex_42_86, ex_42_87, ex_42_88, ex_42_89, ex_42_91, ex_42_92, ex_42_96, ex_42_97, ex_42_100, ex_42_103, ex_42_106, ex_42_108, ex_42_110, ex_42_113, ex_42_114, ex_42_115, ex_42_117, ex_42_120, ex_42_123, ex_42_124, ex_42_127, ex_42_128, ex_42_129, ex_42_130, ex_42_131, ex_42_133, ex_42_134, ex_42_135, ex_42_136, ex_42_137, ex_42_138, ex_42_141, ex_42_144, ex_42_147, ex_42_149, if_true, if_false, and_self, Option.toList_some, Option.toList_none, List.singleton_append, List.cons_append, List.nil_append, List.append_nil, nI_1, nt_e, Int32.le_refl, nI_clamp, l3.1, bi_e]
          refine ih _ (of_ai o3 (by unfold inL; omega)) ?_
          refine withE_C i1 l3 rfl ?_
          rw [if_pos rfl]
          show upd _ q (upd _ q _ q &&& nt (bi i)) = _
          rw [upd_s, nt_or, and_as (eatL l q &&& nt (bi k))]
      · have hst := biteW_stop hm 12 (by omega)
        simp (disch := first | exact am_nl_i _ | exact am_nl_r _ | exact am_nl_0 | assumption | omega | (refine vi_nI ?_ ?_ <;> omega) | exact b2i_01 _ | exact Or.inl rfl | exact Or.inr rfl | (unfold vi; decide)) only [ex_42_0, ex_42_1, ex_42_2, ex_42_3, ex_42_5, ex_42_8, ex_42_11, ex_42_12, ex_42_13, ex_42_16, ex_42_19, ex_42_20, ex_42_21, ex_42_24, ex_42_25, ex_42_26, ex_42_28, ex_42_31, ex_42_34, ex_42_35, ex_42_36, ex_42_37, ex_42_40, ex_42_41, ex_42_42, ex_42_45, ex_42_47, ex_42_48, ex_42_51, ex_42_52, ex_42_55, ex_42_57, ex_42_58, ex_42_60, ex_42_63, ex_42_65, ex_42_66, ex_42_67, ex_42_68, ex_42_70, ex_42_73, ex_42_74, ex_42_77, ex_42_78, ex_42_79, ex_42_80, ex_42_81, ex_42_83, ex_42_84, ex_42_85, ex_42_86, ex_42_87, ex_42_88, ex_42_89, ex_42_91, ex_42_92, ex_42_96, ex_42_97, ex_42_100, ex_42_103, ex_42_106, ex_42_108, ex_42_110, ex_42_113, ex_42_114, ex_42_115, ex_42_117, ex_42_120, ex_42_123, ex_42_124, ex_42_127, ex_42_128, ex_42_129, ex_42_130, ex_42_131, ex_42_133, ex_42_134, ex_42_135, ex_42_136, ex_42_137, ex_42_138, ex_42_141, ex_42_144, ex_42_147, ex_42_149, if_true, if_false, and_self, Option.toList_some, Option.toList_none, List.singleton_append, List.cons_append, List.nil_append, List.append_nil, nI_1, nt_e, Int32.le_refl, hn3, nI_leI, hnle, lt_i, hm, not_false_eq_true]
        rw [hst] at h1
        exact h1 u3 (o12.tr (o3.wk (fun a q => Or.inl q))) l3
  have L0 := fun u3 => loop (nP v) 0 (by omega) u3
  have z0 : biteW (eatL l q &&& nt (bi k)) more 0 = (0, 0) := rfl
  have z1 : (eatL l q &&& nt (bi k)) &&& nt 0 = eatL l q &&& nt (bi k) := b_ext fun i hi => by
    rw [b_and (eatL l q &&& nt (bi k)) (nt 0), bt_nt _ hi, b_0, Bool.not_false, Bool.and_true]
  have e9 : eatL (swallowL v l p k) q = eatL l q := swallow_n hne
  have a2' : LifeC u2 b (withE (swallowL v l p k) q (eatL l q)) := by
    rw [← e9, withE_same]
    exact a2
  have a3 : LifeC (sAI u2 (b + 1) (upd (AI u2 (b + 1)) q (eatL l q &&& nt (bi k)))) b (withE (swallowL v l p k) q (eatL l q &&& nt (bi k))) := withE_C i1 a2' rfl rfl
  rw [z0] at L0
  simp only [z1] at L0
  exact L0 _ (Only.sAI (by unfold inL; omega)) a3
end BitesC
