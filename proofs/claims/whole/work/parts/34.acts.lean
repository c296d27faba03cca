/-! THE CLASS'S ACTS: undo, eat, and what they keep -/
/-- the class's places but the rows of names -/
def inC (a : Nat) : Prop := a < 203 ∧ ¬ a = 9 ∧ ¬ a = 11 ∧ ¬ a = 13 ∧ ¬ a = 15 ∧ ¬ a = 35 ∧ ¬ a = 37 ∧ ¬ a = 39 ∧ ¬ a = 41
def actP (a : Nat) : Prop := a = 0 ∨ inL 65 a ∨ inL 78 a ∨ (83 ≤ a ∧ a < 147)
def withLP (S : ST) (l : LF) (p : Nat × (Nat → LF)) : ST := (S.1, (l, S.2.1.2), p, S.2.2.2)
theorem act_inv {u u' : am_U} {S : ST} {L L' : Nat} {l : LF} {p : Nat × (Nat → LF)} (h : InvC u S L L') (ho : Only actP u u') (hf : FR u' 0 = FR u 0) (hl : LifeC u' 65 l) (hp : PastC u' p) : InvC u' (withLP S l p) L L' := by
  obtain ⟨⟨r1, r2, r3, r4, r5, r6⟩, ⟨l1, l2, l3⟩, st, -, mk, tp⟩ := h
  have n : ∀ a, (1 ≤ a ∧ a ≤ 64 ∨ 69 ≤ a ∧ a ≤ 77 ∨ a = 82 ∨ 147 ≤ a) → ¬ actP a := fun a ha q => by unfold actP inL at q; omega
  have e := fun a ha => ho a (n a ha)
  refine ⟨⟨by rw [hf]; exact r1, by rw [hf]; exact r2, r3, by rw [(e 82 (by omega)).2.2.2.2.2]; exact r4, by rw [(e 147 (by omega)).2.2.2.2.2]; exact r5, ?_⟩, ⟨l1.keep ho (fun k hk => n _ (by omega)), l2.keep ho (n _ (by omega)) (n _ (by omega)), l3.keep ho (n _ (by omega)) (n _ (by omega))⟩, ⟨hl, st.2.1.keep ho (fun k hk => n _ (by omega)), ?_⟩, hp, fun k hk => ⟨by rw [(e (148 + 10 * k) (by omega)).1]; exact (mk k hk).1, fun s hs => ((mk k hk).2 s hs).keep ho (fun i hi => n _ (by omega))⟩, ?_⟩
  · unfold most4
    rw [(e (L' + 1) (by omega)).1, (e (L' + 3) (by omega)).1, (e (L' + 5) (by omega)).1, (e (L' + 7) (by omega)).1]
    exact r6
  · unfold ToldC
    rw [(e 64 (by omega)).1]
    exact st.2.2
  · unfold TapeC
    rw [(e 1 (by omega)).1, (e 2 (by omega)).2.2.2.1]
    exact tp
theorem lib_sh {L L' : Nat} (h : (L = 7 ∧ L' = 33) ∨ (L = 33 ∧ L' = 7)) : sh L 3 19 := by
  rcases h with ⟨rfl, -⟩ | ⟨rfl, -⟩
  · exact shl_7
  · exact shl_33
section Acts
variable {d L L' : Nat} {u : am_U} {m : am_M} {S : ST} {post : Option Value → am_M → Prop}
def eatS (S : ST) (x y : Int32) : ST × Bool := if eatsB S.1 S.2.1.1 x y then (withLP S (eatsL S.1 S.2.1.1 (ix x) (ix y)) (pushV S.2.2.1 S.2.1.1), true) else (S, false)
theorem withLP_same (S : ST) : withLP S S.2.1.1 S.2.2.1 = S := rfl
theorem past_keep {P : Nat → Prop} {u u' : am_U} {p : Nat × (Nat → LF)} (h : PastC u p) (ho : Only P u u') (h0 : FI u' 0 = FI u 0) (hP : ∀ a, 83 ≤ a → a < 147 → ¬ P a) : PastC u' p := by
  obtain ⟨pf, h1, h2, h3, h4⟩ := h
  exact ⟨pf, h1, by rw [h0]; exact h2, by rw [h0]; exact h3, fun j hj => (h4 j hj).keep ho (fun k hk => hP _ (by omega) (by have := Nat.mod_lt (pf + j) (show 0 < 16 by omega); omega))⟩
theorem C_eat {x y : Int32} (hI : InvC u S L L') (hS : WS S) (h : ∀ u', Only inC u u' → InvC u' (eatS S x y).1 L L' → post (some (.int (b2i (eatS S x y).2))) (am_emb u')) : Cl (d + 4) 123 [.ref 0, .int x, .int y] (am_emb u) post := by
  have hL := lib_sh hI.1.2.2.1
  have hp16 := hS.2.2.1.1
  have hIc := hI
  obtain ⟨⟨r1, r2, r3, r4, r5, r6⟩, ⟨l1, l2, l3⟩, st, pst, mk, tp⟩ := hI
  rw [op_123]
  simp (disch := first | exact am_nl_i _ | exact am_nl_r _ | exact am_nl_0 | assumption | omega | (refine vi_nI ?_ ?_ <;> omega) | exact b2i_01 _ | exact Or.inl rfl | exact Or.inr rfl | (unfold vi; decide)) only [ex_123_0, ex_123_1, ex_123_4, ex_123_5, ex_123_8, ex_123_14, ex_123_15, ex_123_18, ex_123_21, ex_123_22, ex_123_25, ex_123_26, ex_123_27, ex_123_30, ex_123_31, ex_123_32, ex_123_35, ex_123_36, ex_123_39, ex_123_40, if_true, if_false, and_self, Option.toList_some, Option.toList_none, List.singleton_append, List.cons_append, List.nil_append, List.append_nil, nI_1, nt_e, Int32.le_refl]
  rw [ex_123_11]
  refine set_ok shl_78 shl_65 (by omega) st.1 (fun u1 o1 b1 => ?_)
  have f1 := o1 0 (by unfold inL; omega)
  have c1 : LibC u1 L S.1 := l1.keep o1 (fun k hk q => by unfold inL at q; omega)
  have s1 : LifeC u1 65 S.2.1.1 := st.1.keep o1 (fun k hk q => by unfold inL at q; omega)
  have hr : FR u1 0 2 = some L := by rw [f1.2.2.1]; exact r1
  simp (disch := first | exact am_nl_i _ | exact am_nl_r _ | exact am_nl_0 | assumption | omega | (refine vi_nI ?_ ?_ <;> omega) | exact b2i_01 _ | exact Or.inl rfl | exact Or.inr rfl | (unfold vi; decide)) only [ex_123_0, ex_123_1, ex_123_4, ex_123_5, ex_123_8, ex_123_14, ex_123_15, ex_123_18, ex_123_21, ex_123_22, ex_123_25, ex_123_26, ex_123_30, ex_123_31, ex_123_32, ex_123_35, ex_123_39, ex_123_40, if_true, if_false, and_self, Option.toList_some, Option.toList_none, List.singleton_append, List.cons_append, List.nil_append, List.append_nil, nI_1, nt_e, Int32.le_refl, hr, va_rfs]
  rw [ex_123_27]
  have p1 : PastC u1 S.2.2.1 := past_keep pst o1 f1.1 (fun a h1 h2 q => by unfold inL at q; omega)
  have a1 : Only actP u u1 := o1.wk (fun a q => Or.inr (Or.inr (Or.inl q)))
  have ac : ∀ a, actP a → inC a := fun a q => by unfold actP inL at q; unfold inC; omega
  refine eats_ok shl_65 hL s1 c1 hS.1 (fun hf => ?_) (fun ht u2 o2 s2 => ?_)
  · simp (disch := first | exact am_nl_i _ | exact am_nl_r _ | exact am_nl_0 | assumption | omega | (refine vi_nI ?_ ?_ <;> omega) | exact b2i_01 _ | exact Or.inl rfl | exact Or.inr rfl | (unfold vi; decide)) only [ex_123_0, ex_123_1, ex_123_4, ex_123_5, ex_123_8, ex_123_14, ex_123_15, ex_123_18, ex_123_21, ex_123_22, ex_123_25, ex_123_26, ex_123_30, ex_123_31, ex_123_32, ex_123_35, ex_123_39, ex_123_40, if_true, if_false, and_self, Option.toList_some, Option.toList_none, List.singleton_append, List.cons_append, List.nil_append, List.append_nil, nI_1, nt_e, Int32.le_refl]
    have := h u1 (a1.wk ac)
    unfold eatS at this
    rw [hf] at this
    exact this (act_inv hIc a1 f1.2.2.1 s1 p1)
  · simp (disch := first | exact am_nl_i _ | exact am_nl_r _ | exact am_nl_0 | assumption | omega | (refine vi_nI ?_ ?_ <;> omega) | exact b2i_01 _ | exact Or.inl rfl | exact Or.inr rfl | (unfold vi; decide)) only [ex_123_0, ex_123_1, ex_123_4, ex_123_5, ex_123_8, ex_123_14, ex_123_15, ex_123_18, ex_123_21, ex_123_22, ex_123_25, ex_123_26, ex_123_30, ex_123_31, ex_123_32, ex_123_35, ex_123_39, ex_123_40, if_true, if_false, and_self, Option.toList_some, Option.toList_none, List.singleton_append, List.cons_append, List.nil_append, List.append_nil, nI_1, nt_e, Int32.le_refl]
    rw [ex_123_36]
    have f2 := o2 0 (by unfold inL; omega)
    have p2 : PastC u2 S.2.2.1 := past_keep p1 o2 f2.1 (fun a h1 h2 q => by unfold inL at q; omega)
    have b2 : LifeC u2 78 S.2.1.1 := b1.keep o2 (fun k hk q => by unfold inL at q; omega)
    refine remember_ok hp16 (by rw [(o2 82 (by unfold inL; omega)).2.2.2.2.2, (o1 82 (by unfold inL; omega)).2.2.2.2.2]; exact r4) p2 b2 (fun u3 o3 f3 p3 => ?_)
    have a3 : Only actP u u3 := (a1.tr (o2.wk (fun a q => Or.inr (Or.inl q)))).tr (o3.wk (fun a q => by unfold inPast at q; unfold actP; omega))
    simp (disch := first | exact am_nl_i _ | exact am_nl_r _ | exact am_nl_0 | assumption | omega | (refine vi_nI ?_ ?_ <;> omega) | exact b2i_01 _ | exact Or.inl rfl | exact Or.inr rfl | (unfold vi; decide)) only [ex_123_0, ex_123_1, ex_123_4, ex_123_5, ex_123_8, ex_123_14, ex_123_15, ex_123_18, ex_123_21, ex_123_22, ex_123_25, ex_123_26, ex_123_30, ex_123_31, ex_123_32, ex_123_35, ex_123_39, ex_123_40, if_true, if_false, and_self, Option.toList_some, Option.toList_none, List.singleton_append, List.cons_append, List.nil_append, List.append_nil, nI_1, nt_e, Int32.le_refl]
    have := h u3 (a3.wk ac)
    unfold eatS at this
    rw [ht] at this
    exact this (act_inv hIc a3 (by rw [f3, f2.2.2.1, f1.2.2.1]) (s2.keep o3 (fun k hk q => by unfold inPast at q; omega)) p3)
end Acts
