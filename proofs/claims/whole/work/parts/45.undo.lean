/-! UNDO -/
def undoS (S : ST) : ST × Bool := if S.2.2.1.1 = 0 then (S, false) else (withLP S (S.2.2.1.2 (S.2.2.1.1 - 1)) (S.2.2.1.1 - 1, S.2.2.1.2), true)
theorem nI_lt1 {n : Nat} (h : n ≤ 16) : nI n < 1 ↔ n = 0 := (by decide +kernel : ∀ n, n ≤ 16 → (nI n < 1 ↔ n = 0)) n h
theorem nI_le0 {n : Nat} (h : n ≤ 16) : (1 : Int32) ≤ nI n ↔ ¬ n = 0 := (by decide +kernel : ∀ n, n ≤ 16 → ((1 : Int32) ≤ nI n ↔ ¬ n = 0)) n h
theorem nI_m1 {n : Nat} (h : n ≤ 16) (h0 : ¬ n = 0) : nI n - 1 = nI (n - 1) := (by decide +kernel : ∀ n, n ≤ 16 → ¬ n = 0 → nI n - 1 = nI (n - 1)) n h h0
section UndoOp
variable {d L L' : Nat} {u : am_U} {m : am_M} {S : ST} {post : Option Value → am_M → Prop}
theorem WS_undo (h : WS S) : WS (undoS S).1 := by
  unfold undoS
  by_cases q : S.2.2.1.1 = 0
  · rw [if_pos q]; exact h
  · rw [if_neg q]
    obtain ⟨h1, h2, ⟨h3, h4⟩, h5⟩ := h
    refine ⟨h1, ⟨h4 _ (by omega), h2.2⟩, ⟨?_, fun j hj => h4 j ?_⟩, h5⟩
    · show S.2.2.1.1 - 1 ≤ 16
      omega
    · have hj : j < S.2.2.1.1 - 1 := hj
      omega
theorem C_undo (hI : InvC u S L L') (hS : WS S) (h : ∀ u', Only inC u u' → InvC u' (undoS S).1 L L' → post (some (.int (b2i (undoS S).2))) (am_emb u')) : Cl (d + 2) 128 [.ref 0] (am_emb u) post := by
  have hIc := hI
  obtain ⟨⟨r1, r2, r3, r4, r5, r6⟩, ⟨l1, l2, l3⟩, st, ⟨pf, p1, p2, p3, p4⟩, mk, tp⟩ := hI
  have h16 := hS.2.2.1.1
  have hm : (pf + (S.2.2.1.1 - 1)) % 16 < 16 := Nat.mod_lt _ (by omega)
  have e1 : ¬ (0 : Nat) = 0 ∨ ¬ (9 : Nat) = 10 := by omega
  rw [op_128]
  simp (disch := first | exact am_nl_i _ | exact am_nl_r _ | exact am_nl_0 | assumption | omega | (refine vi_nI ?_ ?_ <;> omega) | exact b2i_01 _ | exact Or.inl rfl | exact Or.inr rfl | (unfold vi; decide)) only [ex_128_0, ex_128_1, ex_128_4, ex_128_5, ex_128_8, ex_128_9, ex_128_10, ex_128_11, ex_128_12, ex_128_15, ex_128_16, ex_128_17, ex_128_20, ex_128_21, ex_128_24, ex_128_27, ex_128_28, ex_128_31, ex_128_32, ex_128_35, ex_128_36, ex_128_39, ex_128_40, ex_128_42, ex_128_49, ex_128_50, if_true, if_false, and_self, Option.toList_some, Option.toList_none, List.singleton_append, List.cons_append, List.nil_append, List.append_nil, nI_1, nt_e, Int32.le_refl, p3, nI_le0]
  unfold undoS at h
  by_cases q : S.2.2.1.1 = 0
  · rw [if_pos q] at h
    simp only [q, not_true_eq_false, if_false]
    exact h u (Only.rf _ _) hIc
  · rw [if_neg q] at h
    simp only [q, not_false_eq_true, if_true]
    try simp (disch := first | exact am_nl_i _ | exact am_nl_r _ | exact am_nl_0 | assumption | omega | (refine vi_nI ?_ ?_ <;> omega) | exact b2i_01 _ | exact Or.inl rfl | exact Or.inr rfl | (unfold vi; decide)) only [ex_128_0, ex_128_1, ex_128_4, ex_128_5, ex_128_8, ex_128_9, ex_128_10, ex_128_11, ex_128_12, ex_128_15, ex_128_16, ex_128_17, ex_128_20, ex_128_21, ex_128_24, ex_128_27, ex_128_28, ex_128_31, ex_128_32, ex_128_35, ex_128_36, ex_128_39, ex_128_40, ex_128_42, ex_128_49, ex_128_50, if_true, if_false, and_self, Option.toList_some, Option.toList_none, List.singleton_append, List.cons_append, List.nil_append, List.append_nil, nI_1, nt_e, Int32.le_refl, FI_sFI, p2, nI_m1, nI_add, floorMod_ok, show ¬ (9 : Nat) = 10 by decide, and_false]
    rw [ex_128_45 (q := 83 + 4 * ((pf + (S.2.2.1.1 - 1)) % 16)) (vi_nI (by omega) (by omega)) (by rw [nI_clamp (by omega)]; exact r4 _ hm) (by unfold am_S; omega), ex_128_46]
    have hl := life_s0 (k := 10) (x := nI (S.2.2.1.1 - 1)) (by omega) (p4 (S.2.2.1.1 - 1) (by omega))
    refine set_ok shl_65 (sh_past _ hm) (by omega) hl (fun u1 o1 l1 => ?_)
    have f1 := o1 0 (by unfold inL; omega)
    simp (disch := first | exact am_nl_i _ | exact am_nl_r _ | exact am_nl_0 | assumption | omega | (refine vi_nI ?_ ?_ <;> omega) | exact b2i_01 _ | exact Or.inl rfl | exact Or.inr rfl | (unfold vi; decide)) only [ex_128_0, ex_128_1, ex_128_4, ex_128_5, ex_128_8, ex_128_9, ex_128_10, ex_128_11, ex_128_12, ex_128_15, ex_128_16, ex_128_17, ex_128_20, ex_128_21, ex_128_24, ex_128_27, ex_128_28, ex_128_31, ex_128_32, ex_128_35, ex_128_36, ex_128_39, ex_128_40, ex_128_42, ex_128_49, ex_128_50, if_true, if_false, and_self, Option.toList_some, Option.toList_none, List.singleton_append, List.cons_append, List.nil_append, List.append_nil, nI_1, nt_e, Int32.le_refl]
    have oo : Only actP u u1 := Only.tr (u2 := sFI u 0 10 (nI (S.2.2.1.1 - 1))) (Only.sFI (Or.inl rfl)) (o1.wk (fun a q => Or.inr (Or.inl q)))
    refine h u1 (oo.wk (fun a q => by unfold actP inL at q; unfold inC; omega)) (act_inv hIc oo f1.2.2.1 l1 ⟨pf, p1, ?_, ?_, fun j hj => ?_⟩)
    · rw [f1.1, FI_sFI, if_neg (by omega), p2]
    · rw [f1.1, FI_sFI, if_pos ⟨rfl, rfl⟩]
    · have hj : j < S.2.2.1.1 - 1 := hj
      exact (life_s0 (by omega) (p4 j (by omega))).keep o1 (fun k hk q => by unfold inL at q; omega)
end UndoOp
