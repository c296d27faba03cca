/-! A DEATH -/
def killL (l : LF) (p : Nat) : LF := (eatL l, leftL l, copL l, aliveL l &&& nt (bi p), dayL l, spentL l)
def endsW (v : LV) (l : LF) (p : Nat) (x : Int32) : Nat → LF × Int32
  | 0 => (l, 0)
  | n + 1 => if bt (eatL (endsW v l p x n).1 p) n && takesB v (endsW v l p x n).1 x (nI n) then (swallowL v (endsW v l p x n).1 (ix x) n, (endsW v l p x n).2 ||| bi n) else endsW v l p x n
def endsV (v : LV) (l : LF) (p : Nat) : LF × Int32 := endsW v (killL l p) p (heirV v p) (nP v)
theorem endsW_bt (v : LV) (l : LF) (p : Nat) (x : Int32) : ∀ n j, n ≤ 32 → n ≤ j → bt (endsW v l p x n).2 j = false
  | 0, j, _, _ => b_0 j
  | n + 1, j, hn, hj => by
    have ih := endsW_bt v l p x n j (by omega) (by omega)
    rw [endsW]
    split
    · show bt (_ ||| bi n) j = false
      rw [b_or, ih, bt_bi_f (by omega) (by omega)]
      rfl
    · exact ih
theorem ends_m {v : LV} {l : LF} {p : Nat} (hW : WF v) : ¬ (endsV v l p).2 = -1 := fun q => by
  have h := hW.1.2.1
  have := endsW_bt v (killL l p) p (heirV v p) (nP v) 31 (by omega) (by omega)
  rw [show (endsW v (killL l p) p (heirV v p) (nP v)).2 = -1 from q, b_m1 31 (by decide)] at this
  cases this
theorem endsW_alive (v : LV) (l : LF) (p : Nat) (x : Int32) : ∀ n, aliveL (endsW v l p x n).1 = aliveL l
  | 0 => rfl
  | n + 1 => by
    have ih := endsW_alive v l p x n
    rw [endsW]
    split
    · exact ih
    · exact ih
theorem endsW_dead {v : LV} {l : LF} {p : Nat} {x : Int32} (h : livesI l x = false) : ∀ n, endsW v l p x n = (l, 0)
  | 0 => rfl
  | n + 1 => by
    have ih := endsW_dead (v := v) (p := p) h n
    rw [endsW, ih]
    have : takesB v l x (nI n) = false := by
      unfold takesB
      rw [h]
      rfl
    rw [show takesB v (l, (0 : Int32)).1 x (nI n) = false from this, Bool.and_false]
    rfl
section Ends
variable {d L b : Nat} {u : am_U} {m : am_M} {v : LV} {l : LF} {post : Option Value → am_M → Prop}
theorem ends_ok {x : Int32} (hb : sh b 4 6) (hL : sh L 3 19) (hl : LifeC u b l) (hC : LibC u L v) (hW : WF v) (hw : WL v l)
    (h0 : livesI l x = false → post (some (.int (-1))) (am_emb u)) (h1 : livesI l x = true → ∀ u', Only (inL b) u u' → LifeC u' b (endsV v l (ix x)).1 → post (some (.int (endsV v l (ix x)).2)) (am_emb u')) : Cl (d + 2) 44 [.ref b, .ref L, .int x] (am_emb u) post := by
  have h12 := hW.1.2.1
  have h6 := hW.1.2.2.1
  have hbp := life_places hb
  have hLp := lib_places hL
  rw [op_44]
  simp (disch := first | exact am_nl_i _ | exact am_nl_r _ | exact am_nl_0 | assumption | omega | (refine vi_nI ?_ ?_ <;> omega) | exact b2i_01 _ | exact Or.inl rfl | exact Or.inr rfl | (unfold vi; decide)) only [ex_44_0, ex_44_1, ex_44_2, ex_44_5, ex_44_8, ex_44_9, ex_44_10, ex_44_11, ex_44_12, ex_44_15, ex_44_16, ex_44_17, ex_44_18, ex_44_19, ex_44_20, ex_44_21, ex_44_24, ex_44_25, ex_44_28, ex_44_29, ex_44_30, ex_44_31, ex_44_32, ex_44_34, ex_44_35, ex_44_39, ex_44_40, ex_44_43, ex_44_46, ex_44_49, ex_44_50, ex_44_51, ex_44_53, ex_44_56, ex_44_59, ex_44_60, ex_44_61, ex_44_62, ex_44_64, ex_44_67, ex_44_70, ex_44_71, ex_44_72, ex_44_73, ex_44_75, ex_44_78, ex_44_80, ex_44_81, ex_44_83, ex_44_84, ex_44_85, ex_44_87, ex_44_90, ex_44_93, ex_44_95, if_true, if_false, and_self, Option.toList_some, Option.toList_none, List.singleton_append, List.cons_append, List.nil_append, List.append_nil, nI_1, nt_e, Int32.le_refl, lives_ok hb hl, b2i_0]
  cases hx : livesI l x
  · simp only [if_true]
    exact h0 hx
  have h9 := h1 hx
  rw [if_neg (by simp)]
  obtain ⟨i1, i2⟩ := alive_ix hw hx
  clear hx h0 h1
  generalize ix x = p at *
  subst i2
  have hl0 : LifeC (sFI u b 3 (aliveL l &&& nt (bi p))) b (killL l p) := by
    obtain ⟨l1, l2, l3, l4, l5, l6⟩ := hl
    refine ⟨l1, l2, l3, ?_, ?_, ?_⟩
    · rw [FI_sFI, if_pos ⟨rfl, rfl⟩]; rfl
    · rw [FI_sFI, if_neg (by omega)]; exact l5
    · rw [FI_sFI, if_neg (by omega)]; exact l6
  have o0 : Only (inL b) u (sFI u b 3 (aliveL l &&& nt (bi p))) := Only.sFI (by unfold inL; omega)
  have c0' := lib_keep hb hL hC o0
  simp (disch := first | exact am_nl_i _ | exact am_nl_r _ | exact am_nl_0 | assumption | omega | (refine vi_nI ?_ ?_ <;> omega) | exact b2i_01 _ | exact Or.inl rfl | exact Or.inr rfl | (unfold vi; decide)) only [ex_44_0, ex_44_1, ex_44_2, ex_44_5, ex_44_8, ex_44_9, ex_44_10, ex_44_11, ex_44_12, ex_44_15, ex_44_16, ex_44_17, ex_44_18, ex_44_19, ex_44_20, ex_44_21, ex_44_24, ex_44_25, ex_44_28, ex_44_29, ex_44_30, ex_44_31, ex_44_32, ex_44_34, ex_44_35, ex_44_39, ex_44_40, ex_44_43, ex_44_46, ex_44_49, ex_44_50, ex_44_51, ex_44_53, ex_44_56, ex_44_59, ex_44_60, ex_44_61, ex_44_62, ex_44_64, ex_44_67, ex_44_70, ex_44_71, ex_44_72, ex_44_73, ex_44_75, ex_44_78, ex_44_80, ex_44_81, ex_44_83, ex_44_84, ex_44_85, ex_44_87, ex_44_90, ex_44_93, ex_44_95, if_true, if_false, and_self, Option.toList_some, Option.toList_none, List.singleton_append, List.cons_append, List.nil_append, List.append_nil, nI_1, nt_e, Int32.le_refl, hl.2.2.2.1, bi_e]
  rw [c0'.2.2.2.2.2.2.2.2.2.2.1 _ (by rw [nI_clamp (by omega)]; exact i1), nI_clamp (by omega)]
  unfold endsV at h9
  have loop : ∀ (kz i : Nat), i + kz = nP v → ∀ u', Only (inL b) u u' → LifeC u' b (endsW v (killL l p) p (heirV v p) i).1 → Ex (d + 2) 44 37 [some (.ref b), some (.ref L), some (.int (nI p)), some (.int (heirV v p)), some (.int (endsW v (killL l p) p (heirV v p) i).2), some (.int (nI i))] [] (am_emb u') post := by
    intro kz
    induction kz with
    | zero =>
      intro i hi u' ho l'
      obtain rfl : i = nP v := by omega
      have c' := lib_keep hb hL hC ho
      have hn := c'.1.2.1
      rw [ex_44_37]
      simp (disch := first | exact am_nl_i _ | exact am_nl_r _ | exact am_nl_0 | assumption | omega | (refine vi_nI ?_ ?_ <;> omega) | exact b2i_01 _ | exact Or.inl rfl | exact Or.inr rfl | (unfold vi; decide)) only [ex_44_0, ex_44_1, ex_44_2, ex_44_5, ex_44_8, ex_44_9, ex_44_10, ex_44_11, ex_44_12, ex_44_15, ex_44_16, ex_44_17, ex_44_18, ex_44_19, ex_44_20, ex_44_21, ex_44_24, ex_44_25, ex_44_28, ex_44_29, ex_44_30, ex_44_31, ex_44_32, ex_44_34, ex_44_35, ex_44_39, ex_44_40, ex_44_43, ex_44_46, ex_44_49, ex_44_50, ex_44_51, ex_44_53, ex_44_56, ex_44_59, ex_44_60, ex_44_61, ex_44_62, ex_44_64, ex_44_67, ex_44_70, ex_44_71, ex_44_72, ex_44_73, ex_44_75, ex_44_78, ex_44_80, ex_44_81, ex_44_83, ex_44_84, ex_44_85, ex_44_87, ex_44_90, ex_44_93, ex_44_95, if_true, if_false, and_self, Option.toList_some, Option.toList_none, List.singleton_append, List.cons_append, List.nil_append, List.append_nil, nI_1, nt_e, Int32.le_refl, hn, nI_leI, Nat.le_refl]
      exact h9 u' ho l'
    | succ kz ih =>
      intro i hi u' ho l'
      have hnle : ¬ nP v ≤ i := by omega
      have c' := lib_keep hb hL hC ho
      have hn := c'.1.2.1
      have ih := ih (i + 1) (by omega)
      rw [endsW] at ih
      generalize endsW v (killL l p) p (heirV v p) i = W at *
      rw [ex_44_37]
      simp (disch := first | exact am_nl_i _ | exact am_nl_r _ | exact am_nl_0 | assumption | omega | (refine vi_nI ?_ ?_ <;> omega) | exact b2i_01 _ | exact Or.inl rfl | exact Or.inr rfl | (unfold vi; decide)) only [ex_44_0, ex_44_1, ex_44_2, ex_44_5, ex_44_8, ex_44_9, ex_44_10, ex_44_11, ex_44_12, ex_44_15, ex_44_16, ex_44_17, ex_44_18, ex_44_19, ex_44_20, ex_44_21, ex_44_24, ex_44_25, ex_44_28, ex_44_29, ex_44_30, ex_44_31, ex_44_32, ex_44_34, ex_44_35, ex_44_39, ex_44_40, ex_44_43, ex_44_46, ex_44_49, ex_44_50, ex_44_51, ex_44_53, ex_44_56, ex_44_59, ex_44_60, ex_44_61, ex_44_62, ex_44_64, ex_44_67, ex_44_70, ex_44_71, ex_44_72, ex_44_73, ex_44_78, ex_44_80, ex_44_81, ex_44_83, ex_44_84, ex_44_85, ex_44_87, ex_44_90, ex_44_93, ex_44_95, if_true, if_false, and_self, Option.toList_some, Option.toList_none, List.singleton_append, List.cons_append, List.nil_append, List.append_nil, nI_1, nt_e, Int32.le_refl, hn, nI_leI, hnle, hasEaten_ok hb l', b2i_0]
      cases hz : bt (eatL W.1 p) i
      · rw [hz] at ih
        simp only [if_true]
        exact ih u' ho l'
      rw [hz] at ih
      rw [if_neg (by simp)]
      simp (disch := first | exact am_nl_i _ | exact am_nl_r _ | exact am_nl_0 | assumption | omega | (refine vi_nI ?_ ?_ <;> omega) | exact b2i_01 _ | exact Or.inl rfl | exact Or.inr rfl | (unfold vi; decide)) only [ex_44_0, ex_44_1, ex_44_2, ex_44_5, ex_44_8, ex_44_9, ex_44_10, ex_44_11, ex_44_12, ex_44_15, ex_44_16, ex_44_17, ex_44_18, ex_44_19, ex_44_20, ex_44_21, ex_44_24, ex_44_25, ex_44_28, ex_44_29, ex_44_30, ex_44_31, ex_44_32, ex_44_34, ex_44_35, ex_44_39, ex_44_40, ex_44_43, ex_44_46, ex_44_49, ex_44_50, ex_44_51, ex_44_53, ex_44_56, ex_44_59, ex_44_60, ex_44_61, ex_44_62, ex_44_64, ex_44_67, ex_44_70, ex_44_71, ex_44_72, ex_44_73, ex_44_78, ex_44_80, ex_44_81, ex_44_83, ex_44_84, ex_44_85, ex_44_87, ex_44_90, ex_44_93, ex_44_95, if_true, if_false, and_self, Option.toList_some, Option.toList_none, List.singleton_append, List.cons_append, List.nil_append, List.append_nil, nI_1, nt_e, Int32.le_refl, takes_ok hb hL l' c' hW, b2i_0]
      cases ht : takesB v W.1 (heirV v p) (nI i)
      · rw [ht] at ih
        simp only [if_true]
        exact ih u' ho l'
      rw [ht] at ih
      rw [if_neg (by simp)]
      obtain ⟨g1, g2, g3, g4⟩ := takesB_ix ht
      rw [g2, ex_44_75 hb]
      refine swallow_ok hb hL l' c' hW g1 (show i < nP v by omega) (fun u2 o2 l2 => ?_)
      simp (disch := first | exact am_nl_i _ | exact am_nl_r _ | exact am_nl_0 | assumption | omega | (refine vi_nI ?_ ?_ <;> omega) | exact b2i_01 _ | exact Or.inl rfl | exact Or.inr rfl | (unfold vi; decide)) only [ex_44_0, ex_44_1, ex_44_2, ex_44_5, ex_44_8, ex_44_9, ex_44_10, ex_44_11, ex_44_12, ex_44_15, ex_44_16, ex_44_17, ex_44_18, ex_44_19, ex_44_20, ex_44_21, ex_44_24, ex_44_25, ex_44_28, ex_44_29, ex_44_30, ex_44_31, ex_44_32, ex_44_34, ex_44_35, ex_44_39, ex_44_40, ex_44_43, ex_44_46, ex_44_49, ex_44_50, ex_44_51, ex_44_53, ex_44_56, ex_44_59, ex_44_60, ex_44_61, ex_44_62, ex_44_64, ex_44_67, ex_44_70, ex_44_71, ex_44_72, ex_44_73, ex_44_78, ex_44_80, ex_44_81, ex_44_83, ex_44_84, ex_44_85, ex_44_87, ex_44_90, ex_44_93, ex_44_95, if_true, if_false, and_self, Option.toList_some, Option.toList_none, List.singleton_append, List.cons_append, List.nil_append, List.append_nil, nI_1, nt_e, Int32.le_refl, bi_e]
      rw [← g2]
      exact ih u2 (ho.tr o2) l2
  exact loop (nP v) 0 (by omega) _ o0 hl0
end Ends
