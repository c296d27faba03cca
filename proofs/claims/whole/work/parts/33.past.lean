/-! what is remembered of lives; undo -/
def pushV (p : Nat × (Nat → LF)) (l : LF) : Nat × (Nat → LF) := if p.1 < 16 then (p.1 + 1, fun j => if j = p.1 then l else p.2 j) else (16, fun j => if j = 15 then l else p.2 (j + 1))
def inPast (a : Nat) : Prop := a = 0 ∨ (83 ≤ a ∧ a < 147)
theorem sh_past : ∀ j, j < 16 → sh (83 + 4 * j) 4 6 := by unfold sh; decide +kernel
theorem lq16 : (16 : Int32) = nI 16 := rfl
section Past
variable {d : Nat} {u : am_U} {m : am_M} {v : LV} {l : LF} {post : Option Value → am_M → Prop} {p : Nat × (Nat → LF)}
theorem floorMod_okN {a : Nat} (h : a < 33) : Cl d 273 [.int (nI a), .int (nI 16)] m post ↔ post (some (.int (nI (a % 16)))) m := floorMod_ok h
theorem life_s0 {b k : Nat} {x : Int32} (hb : 1 ≤ b) (h : LifeC u b l) : LifeC (sFI u 0 k x) b l := h.keep (Only.sFI (P := fun a => a = 0) rfl) (fun k hk (q : b + k = 0) => by omega)
theorem remember_ok (hp : p.1 ≤ 16) (hA : ∀ j, j < 16 → AR u 82 j = some (83 + 4 * j)) (hP : PastC u p) (hl : LifeC u 78 l) (h : ∀ u', Only inPast u u' → FR u' 0 = FR u 0 → PastC u' (pushV p l) → post none (am_emb u')) : Cl (d + 2) 145 [.ref 0] (am_emb u) post := by
  obtain ⟨pf, h1, h2, h3, h4⟩ := hP
  have hm : (pf + p.1) % 16 < 16 := Nat.mod_lt _ (by omega)
  rw [op_145]
  simp (disch := first | exact am_nl_i _ | exact am_nl_r _ | exact am_nl_0 | assumption | omega | (refine vi_nI ?_ ?_ <;> omega) | exact b2i_01 _ | exact Or.inl rfl | exact Or.inr rfl | (unfold vi; decide)) only [ex_145_0, ex_145_1, ex_145_4, ex_145_5, ex_145_8, ex_145_9, ex_145_12, ex_145_13, ex_145_15, ex_145_19, ex_145_20, ex_145_26, ex_145_27, ex_145_30, ex_145_32, ex_145_35, ex_145_36, ex_145_37, ex_145_40, ex_145_41, ex_145_42, ex_145_45, ex_145_48, ex_145_49, ex_145_50, ex_145_53, ex_145_54, ex_145_55, ex_145_57, ex_145_60, ex_145_63, if_true, if_false, and_self, Option.toList_some, Option.toList_none, List.singleton_append, List.cons_append, List.nil_append, List.append_nil, nI_1, nt_e, Int32.le_refl, h2, h3, nI_add, floorMod_ok]
  rw [ex_145_18 (q := 83 + 4 * ((pf + p.1) % 16)) (vi_nI (by omega) (by omega)) (by rw [nI_clamp (by omega)]; exact hA _ hm) (by unfold am_S; omega)]
  simp (disch := first | exact am_nl_i _ | exact am_nl_r _ | exact am_nl_0 | assumption | omega | (refine vi_nI ?_ ?_ <;> omega) | exact b2i_01 _ | exact Or.inl rfl | exact Or.inr rfl | (unfold vi; decide)) only [ex_145_0, ex_145_1, ex_145_4, ex_145_5, ex_145_8, ex_145_9, ex_145_12, ex_145_13, ex_145_15, ex_145_18, ex_145_19, ex_145_20, ex_145_26, ex_145_27, ex_145_30, ex_145_32, ex_145_35, ex_145_36, ex_145_37, ex_145_40, ex_145_41, ex_145_42, ex_145_45, ex_145_48, ex_145_49, ex_145_50, ex_145_53, ex_145_54, ex_145_55, ex_145_57, ex_145_60, ex_145_63, if_true, if_false, and_self, Option.toList_some, Option.toList_none, List.singleton_append, List.cons_append, List.nil_append, List.append_nil, nI_1, nt_e, Int32.le_refl]
  rw [ex_145_23 (sh_past _ hm)]
  refine set_ok (sh_past _ hm) shl_78 (by omega) hl (fun u' ho hl' => ?_)
  have e0 := ho 0 (by unfold inL; omega)
  have eF : FI u' 0 = FI u 0 := e0.1
  have ho2 : Only inPast u u' := ho.wk (fun a ha => by unfold inL at ha; unfold inPast; omega)
  have keep : ∀ j, j < p.1 → ¬ (pf + j) % 16 = (pf + p.1) % 16 → LifeC u' (83 + 4 * ((pf + j) % 16)) (p.2 j) := fun j hj hne => (h4 j hj).keep ho (fun k hk q => by unfold inL at q; omega)
  by_cases hq : p.1 < 16
  · have hnle : ¬ 16 ≤ p.1 := by omega
    simp (disch := first | exact am_nl_i _ | exact am_nl_r _ | exact am_nl_0 | assumption | omega | (refine vi_nI ?_ ?_ <;> omega) | exact b2i_01 _ | exact Or.inl rfl | exact Or.inr rfl | (unfold vi; decide)) only [ex_145_0, ex_145_1, ex_145_4, ex_145_5, ex_145_8, ex_145_9, ex_145_12, ex_145_13, ex_145_15, ex_145_18, ex_145_19, ex_145_20, ex_145_23, ex_145_26, ex_145_27, ex_145_30, ex_145_32, ex_145_35, ex_145_36, ex_145_37, ex_145_40, ex_145_41, ex_145_42, ex_145_45, ex_145_48, ex_145_49, ex_145_50, ex_145_53, ex_145_54, ex_145_55, ex_145_57, ex_145_60, ex_145_63, if_true, if_false, and_self, Option.toList_some, Option.toList_none, List.singleton_append, List.cons_append, List.nil_append, List.append_nil, nI_1, nt_e, Int32.le_refl, eF, h3, lq16, nI_leI, hnle]
    refine h _ (of_fi ho2 (Or.inl rfl)) e0.2.2.1 ⟨pf, h1, ?_, ?_, ?_⟩
    · rw [FI_sFI, if_neg (by omega), eF, h2]
    · rw [FI_sFI, if_pos ⟨rfl, rfl⟩, pushV, if_pos hq]
    · rw [pushV, if_pos hq]
      intro j hj
      have hj : j < p.1 + 1 := hj
      refine life_s0 (by omega) ?_
      show LifeC u' _ (if j = p.1 then l else p.2 j)
      by_cases e : j = p.1
      · rw [if_pos e, e]; exact hl'
      · rw [if_neg e]; exact keep j (by omega) (by omega)
  · have h16 : p.1 = 16 := by omega
    simp (disch := first | exact am_nl_i _ | exact am_nl_r _ | exact am_nl_0 | assumption | omega | (refine vi_nI ?_ ?_ <;> omega) | exact b2i_01 _ | exact Or.inl rfl | exact Or.inr rfl | (unfold vi; decide)) only [ex_145_0, ex_145_1, ex_145_4, ex_145_5, ex_145_8, ex_145_9, ex_145_12, ex_145_13, ex_145_15, ex_145_18, ex_145_19, ex_145_20, ex_145_23, ex_145_26, ex_145_27, ex_145_30, ex_145_32, ex_145_35, ex_145_36, ex_145_37, ex_145_40, ex_145_41, ex_145_42, ex_145_45, ex_145_48, ex_145_49, ex_145_50, ex_145_53, ex_145_54, ex_145_55, ex_145_57, ex_145_60, ex_145_63, if_true, if_false, and_self, Option.toList_some, Option.toList_none, List.singleton_append, List.cons_append, List.nil_append, List.append_nil, nI_1, nt_e, Int32.le_refl, eF, h3, h2, h16, lq16, nI_leI, Nat.le_refl, nI_add, floorMod_okN]
    refine h _ (of_fi ho2 (Or.inl rfl)) e0.2.2.1 ⟨(pf + 1) % 16, Nat.mod_lt _ (by omega), ?_, ?_, ?_⟩
    · rw [FI_sFI, if_pos ⟨rfl, rfl⟩]
    · rw [FI_sFI, if_neg (by omega), eF, h3, pushV, if_neg hq, h16]
    · rw [pushV, if_neg hq]
      intro j hj
      have hj : j < 16 := hj
      refine life_s0 (by omega) ?_
      show LifeC u' _ (if j = 15 then l else p.2 (j + 1))
      by_cases e : j = 15
      · rw [if_pos e, show ((pf + 1) % 16 + j) % 16 = (pf + p.1) % 16 by omega]; exact hl'
      · rw [if_neg e, show ((pf + 1) % 16 + j) % 16 = (pf + (j + 1)) % 16 by omega]; exact keep (j + 1) (by omega) (by omega)
end Past
