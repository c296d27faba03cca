/-! NAMES, on both sides -/
def NmRow (g : Nat → Int64) (b cnt : Nat) (nm : Nat → List Nat) : Prop := ∀ i, i < cnt → g i = Int64.ofNat (bas b (nm i)) ∧ WordOk (nm i)
def findA (nm : Nat → List Nat) (w : List Nat) : Nat → Nat → Option Nat
  | 0, _ => none
  | c + 1, k => if nm k = w then some k else findA nm w c (k + 1)
def oI : Option Nat → Int32
  | none => -1
  | some k => nI k
theorem findA_lt {nm : Nat → List Nat} {w : List Nat} : ∀ {c k j : Nat}, findA nm w c k = some j → k ≤ j ∧ j < k + c
  | 0, _, _, h => by cases h
  | c + 1, k, j, h => by
    rw [findA] at h
    split at h
    · cases h; omega
    · have := findA_lt h
      omega
def NamesC (u : am_U) (L : Nat) (v : LV) : Prop := NmRow (AJ u (L + 2)) 32 (nF v) (nameV v 0) ∧ NmRow (AJ u (L + 4)) 32 (nP v) (nameV v 1) ∧ NmRow (AJ u (L + 6)) 32 (nE v) (nameV v 2) ∧ NmRow (AJ u (L + 8)) 32 (nT v) (nameV v 3)
def NamesR (u : am_U) (o : Nat) (v : LV) : Prop := NmRow (fun i => AJ u 206 (12 * o + i)) 27 (nF v) (nameV v 0) ∧ NmRow (fun i => AJ u 207 (12 * o + i)) 27 (nP v) (nameV v 1) ∧ NmRow (fun i => AJ u 208 (6 * o + i)) 27 (nE v) (nameV v 2) ∧ NmRow (fun i => AJ u 209 (5 * o + i)) 27 (nT v) (nameV v 3)
theorem NamesC.keep {P : Nat → Prop} {u u' : am_U} {L : Nat} {v : LV} (h : NamesC u L v) (ho : Only P u u') (hp : ¬ P (L + 2) ∧ ¬ P (L + 4) ∧ ¬ P (L + 6) ∧ ¬ P (L + 8)) : NamesC u' L v := by
  unfold NamesC
  rw [(ho _ hp.1).2.2.2.2.1, (ho _ hp.2.1).2.2.2.2.1, (ho _ hp.2.2.1).2.2.2.2.1, (ho _ hp.2.2.2).2.2.2.2.1]
  exact h
theorem NamesR.keep {P : Nat → Prop} {u u' : am_U} {o : Nat} {v : LV} (h : NamesR u o v) (ho : Only P u u') (hp : ¬ P 206 ∧ ¬ P 207 ∧ ¬ P 208 ∧ ¬ P 209) : NamesR u' o v := by
  unfold NamesR
  rw [(ho _ hp.1).2.2.2.2.1, (ho _ hp.2.1).2.2.2.2.1, (ho _ hp.2.2.1).2.2.2.2.1, (ho _ hp.2.2.2).2.2.2.2.1]
  exact h
/-- the name's number among the told ones of a kind -/
def findV (v : LV) (k : Nat) (w : List Nat) : Option Nat := findA (nameV v k) w (v.1 k) 0
def toldV (v : LV) (w : List Nat) : Bool := (findV v 0 w).isSome || (findV v 1 w).isSome || (findV v 2 w).isSome || (findV v 3 w).isSome
theorem findV_lt {v : LV} {k j : Nat} {w : List Nat} (h : findV v k w = some j) : j < v.1 k := by
  have := findA_lt h
  omega
theorem c6 : (6 : Int32).toNatClampNeg = 6 := rfl
section Names
variable {d n m i e cnt : Nat} {u : am_U} {f : Nat → Nat} {post : Option Value → am_M → Prop}
theorem nfind_ok {a : Nat} {nm : Nat → List Nat} {w : List Nat} (ha : sh a 6 3) (hc : FI u a 2 = nI cnt) (hc2 : cnt ≤ 12) (hN : NmRow (AJ u (a + 1)) 32 cnt nm) (hw : WordOk w) : Cl d 62 [.ref a, .long (Int64.ofNat (bas 32 w))] (am_emb u) post ↔ post (some (.int (oI (findA nm w cnt 0)))) (am_emb u) := by
  refine Cl_iff ?_ post
  rw [op_62]
  have loop : ∀ (c k : Nat), k + c = cnt → Ex d 62 2 [some (.ref a), some (.long (Int64.ofNat (bas 32 w))), none, some (.int (nI k))] [] (am_emb u) (fun v9 m9 => v9 = some (.int (oI (findA nm w c k))) ∧ m9 = am_emb u) := by
    intro c
    induction c with
    | zero =>
      intro k hk
      obtain rfl : k = cnt := by omega
      rw [ex_62_2]
      simp (disch := first | exact am_nl_i _ | exact am_nl_r _ | exact am_nl_0 | (refine vi_nI ?_ ?_ <;> omega) | assumption | omega | exact b2i_01 _ | exact Or.inl rfl | exact Or.inr rfl | (unfold vi; decide)) only [ex_62_0, ex_62_1, ex_62_3, ex_62_4, ex_62_7, ex_62_10, ex_62_11, ex_62_12, ex_62_15, ex_62_16, ex_62_19, ex_62_20, ex_62_23, ex_62_24, ex_62_25, ex_62_26, ex_62_27, ex_62_30, ex_62_31, ex_62_32, ex_62_35, ex_62_38, ex_62_39, if_true, if_false, and_self, Option.toList_some, Option.toList_none, List.singleton_append, List.cons_append, List.nil_append, List.append_nil, nI_1, nt_e, Int32.le_refl, hc, nI_leI, Nat.le_refl, Bool.true_eq_false, Bool.false_eq_true, ↓reduceIte]
      try exact ⟨rfl, trivial⟩
    | succ c ih =>
      intro k hk
      have q1 : ¬ cnt ≤ k := by omega
      have q2 : ¬ 12 ≤ k := by omega
      have ih := ih (k + 1) (by omega)
      obtain ⟨g1, g2⟩ := hN k (by omega)
      rw [findA]
      rw [ex_62_2]
      by_cases q : nm k = w
      · rw [if_pos q]
        rw [q] at g1
        simp (disch := first | exact am_nl_i _ | exact am_nl_r _ | exact am_nl_0 | (refine vi_nI ?_ ?_ <;> omega) | assumption | omega | exact b2i_01 _ | exact Or.inl rfl | exact Or.inr rfl | (unfold vi; decide)) only [ex_62_0, ex_62_1, ex_62_3, ex_62_4, ex_62_7, ex_62_10, ex_62_11, ex_62_12, ex_62_15, ex_62_16, ex_62_19, ex_62_20, ex_62_23, ex_62_24, ex_62_25, ex_62_26, ex_62_27, ex_62_30, ex_62_31, ex_62_32, ex_62_35, ex_62_38, ex_62_39, if_true, if_false, and_self, Option.toList_some, Option.toList_none, List.singleton_append, List.cons_append, List.nil_append, List.append_nil, nI_1, nt_e, Int32.le_refl, hc, nI_leI, q1, lq12, q2, nI_clamp, g1, lg_cmp_eq, Bool.true_eq_false, Bool.false_eq_true, ↓reduceIte]
        try exact ⟨rfl, trivial⟩
      · have q3 : ¬ Int64.ofNat (bas 32 (nm k)) = Int64.ofNat (bas 32 w) := fun z => q ((word_eq (by decide) (by decide) g2 hw).mp z)
        rw [if_neg q]
        simp (disch := first | exact am_nl_i _ | exact am_nl_r _ | exact am_nl_0 | (refine vi_nI ?_ ?_ <;> omega) | assumption | omega | exact b2i_01 _ | exact Or.inl rfl | exact Or.inr rfl | (unfold vi; decide)) only [ex_62_0, ex_62_1, ex_62_3, ex_62_4, ex_62_7, ex_62_10, ex_62_11, ex_62_12, ex_62_15, ex_62_16, ex_62_19, ex_62_20, ex_62_23, ex_62_24, ex_62_25, ex_62_26, ex_62_27, ex_62_30, ex_62_31, ex_62_32, ex_62_35, ex_62_38, ex_62_39, if_true, if_false, and_self, Option.toList_some, Option.toList_none, List.singleton_append, List.cons_append, List.nil_append, List.append_nil, nI_1, nt_e, Int32.le_refl, hc, nI_leI, q1, lq12, q2, nI_clamp, g1, lg_cmp_eq, q3, Bool.true_eq_false, Bool.false_eq_true, ↓reduceIte]
        exact ih
  simp (disch := first | exact am_nl_i _ | exact am_nl_r _ | exact am_nl_0 | assumption | omega | (refine vi_nI ?_ ?_ <;> omega) | exact b2i_01 _ | exact Or.inl rfl | exact Or.inr rfl | (unfold vi; decide)) only [ex_62_0, ex_62_1, ex_62_3, ex_62_4, ex_62_7, ex_62_10, ex_62_11, ex_62_12, ex_62_15, ex_62_16, ex_62_19, ex_62_20, ex_62_23, ex_62_24, ex_62_25, ex_62_26, ex_62_27, ex_62_30, ex_62_31, ex_62_32, ex_62_35, ex_62_38, ex_62_39, if_true, if_false, and_self, Option.toList_some, Option.toList_none, List.singleton_append, List.cons_append, List.nil_append, List.append_nil, nI_1, nt_e, Int32.le_refl]
  exact loop cnt 0 (by omega)
/-- of any number: some answer, nothing changed -/
theorem nfindX {a : Nat} {w : Int64} (ha : sh a 6 3) (hc : FI u a 2 = nI cnt) (hc2 : cnt ≤ 12) (hp : ∀ z : Option Nat, (∀ j, z = some j → j < cnt) → post (some (.int (oI z))) (am_emb u)) : Cl d 62 [.ref a, .long w] (am_emb u) post := by
  rw [op_62]
  have loop : ∀ (c k : Nat), k + c = cnt → Ex d 62 2 [some (.ref a), some (.long w), none, some (.int (nI k))] [] (am_emb u) post := by
    intro c
    induction c with
    | zero =>
      intro k hk
      obtain rfl : k = cnt := by omega
      have hfin := hp none (fun j h => by cases h)
      rw [ex_62_2]
      simp (disch := first | exact am_nl_i _ | exact am_nl_r _ | exact am_nl_0 | (refine vi_nI ?_ ?_ <;> omega) | assumption | omega | exact b2i_01 _ | exact Or.inl rfl | exact Or.inr rfl | (unfold vi; decide)) only [ex_62_0, ex_62_1, ex_62_3, ex_62_4, ex_62_7, ex_62_10, ex_62_11, ex_62_12, ex_62_15, ex_62_16, ex_62_19, ex_62_20, ex_62_23, ex_62_24, ex_62_25, ex_62_26, ex_62_27, ex_62_30, ex_62_31, ex_62_32, ex_62_35, ex_62_38, ex_62_39, if_true, if_false, and_self, Option.toList_some, Option.toList_none, List.singleton_append, List.cons_append, List.nil_append, List.append_nil, nI_1, nt_e, Int32.le_refl, hc, nI_leI, Nat.le_refl, Bool.true_eq_false, Bool.false_eq_true, ↓reduceIte]
      exact hfin
    | succ c ih =>
      intro k hk
      have q1 : ¬ cnt ≤ k := by omega
      have q2 : ¬ 12 ≤ k := by omega
      have ih := ih (k + 1) (by omega)
      rw [ex_62_2]
      by_cases q : AJ u (a + 1) k = w
      · have hfin := hp (some k) (fun j h => by cases h; omega)
        simp (disch := first | exact am_nl_i _ | exact am_nl_r _ | exact am_nl_0 | (refine vi_nI ?_ ?_ <;> omega) | assumption | omega | exact b2i_01 _ | exact Or.inl rfl | exact Or.inr rfl | (unfold vi; decide)) only [ex_62_0, ex_62_1, ex_62_3, ex_62_4, ex_62_7, ex_62_10, ex_62_11, ex_62_12, ex_62_15, ex_62_16, ex_62_19, ex_62_20, ex_62_23, ex_62_24, ex_62_25, ex_62_26, ex_62_27, ex_62_30, ex_62_31, ex_62_32, ex_62_35, ex_62_38, ex_62_39, if_true, if_false, and_self, Option.toList_some, Option.toList_none, List.singleton_append, List.cons_append, List.nil_append, List.append_nil, nI_1, nt_e, Int32.le_refl, hc, nI_leI, q1, lq12, q2, nI_clamp, q, lg_cmp_eq, Bool.true_eq_false, Bool.false_eq_true, ↓reduceIte]
        exact hfin
      · simp (disch := first | exact am_nl_i _ | exact am_nl_r _ | exact am_nl_0 | (refine vi_nI ?_ ?_ <;> omega) | assumption | omega | exact b2i_01 _ | exact Or.inl rfl | exact Or.inr rfl | (unfold vi; decide)) only [ex_62_0, ex_62_1, ex_62_3, ex_62_4, ex_62_7, ex_62_10, ex_62_11, ex_62_12, ex_62_15, ex_62_16, ex_62_19, ex_62_20, ex_62_23, ex_62_24, ex_62_25, ex_62_26, ex_62_27, ex_62_30, ex_62_31, ex_62_32, ex_62_35, ex_62_38, ex_62_39, if_true, if_false, and_self, Option.toList_some, Option.toList_none, List.singleton_append, List.cons_append, List.nil_append, List.append_nil, nI_1, nt_e, Int32.le_refl, hc, nI_leI, q1, lq12, q2, nI_clamp, q, lg_cmp_eq, Bool.true_eq_false, Bool.false_eq_true, ↓reduceIte]
        exact ih
  simp (disch := first | exact am_nl_i _ | exact am_nl_r _ | exact am_nl_0 | assumption | omega | (refine vi_nI ?_ ?_ <;> omega) | exact b2i_01 _ | exact Or.inl rfl | exact Or.inr rfl | (unfold vi; decide)) only [ex_62_0, ex_62_1, ex_62_3, ex_62_4, ex_62_7, ex_62_10, ex_62_11, ex_62_12, ex_62_15, ex_62_16, ex_62_19, ex_62_20, ex_62_23, ex_62_24, ex_62_25, ex_62_26, ex_62_27, ex_62_30, ex_62_31, ex_62_32, ex_62_35, ex_62_38, ex_62_39, if_true, if_false, and_self, Option.toList_some, Option.toList_none, List.singleton_append, List.cons_append, List.nil_append, List.append_nil, nI_1, nt_e, Int32.le_refl]
  exact loop cnt 0 (by omega)
theorem oI_m1 {o : Option Nat} {c : Nat} (hc : c ≤ 12) (h : ∀ j, o = some j → j < c) : oI o = -1 ↔ o = none := by
  cases o with
  | none => exact ⟨fun _ => rfl, fun _ => rfl⟩
  | some j =>
    have := h j rfl
    exact ⟨fun q => absurd ((i_eqm (n := j) (by omega)).mp q) (fun h => h), fun q => by cases q⟩
theorem isSome_f {o : Option Nat} : o.isSome = false ↔ o = none := by cases o <;> simp
theorem isTold_ok {L : Nat} {v : LV} {w : List Nat} (hL : sh L 3 19) (hC : FI u (L + 1) 2 = nI (nF v) ∧ FI u (L + 3) 2 = nI (nP v) ∧ FI u (L + 5) 2 = nI (nE v) ∧ FI u (L + 7) 2 = nI (nT v)) (hv : nF v ≤ 12 ∧ nP v ≤ 12 ∧ nE v ≤ 6 ∧ nT v ≤ 5) (hN : NamesC u L v) (hw : WordOk w) : Cl (d + 1) 23 [.ref L, .long (Int64.ofNat (bas 32 w))] (am_emb u) post ↔ post (some (.int (b2i (toldV v w)))) (am_emb u) := by
  have f0 := fun {d} {post} => nfind_ok (d := d) (post := post) (sh_3_1 hL) hC.1 hv.1 hN.1 hw
  have f1 := fun {d} {post} => nfind_ok (d := d) (post := post) (sh_3_3 hL) hC.2.1 hv.2.1 hN.2.1 hw
  have f2 := fun {d} {post} => nfind_ok (d := d) (post := post) (sh_3_5 hL) hC.2.2.1 (Nat.le_trans hv.2.2.1 (by decide)) hN.2.2.1 hw
  have f3 := fun {d} {post} => nfind_ok (d := d) (post := post) (sh_3_7 hL) hC.2.2.2 (Nat.le_trans hv.2.2.2 (by decide)) hN.2.2.2 hw
  have m0 : oI (findA (nameV v 0) w (nF v) 0) = -1 ↔ findA (nameV v 0) w (nF v) 0 = none := oI_m1 hv.1 (fun j h => by have := findA_lt h; omega)
  have m1 : oI (findA (nameV v 1) w (nP v) 0) = -1 ↔ findA (nameV v 1) w (nP v) 0 = none := oI_m1 hv.2.1 (fun j h => by have := findA_lt h; omega)
  have m2 : oI (findA (nameV v 2) w (nE v) 0) = -1 ↔ findA (nameV v 2) w (nE v) 0 = none := oI_m1 (Nat.le_trans hv.2.2.1 (by decide)) (fun j h => by have := findA_lt h; omega)
  have m3 : oI (findA (nameV v 3) w (nT v) 0) = -1 ↔ findA (nameV v 3) w (nT v) 0 = none := oI_m1 (Nat.le_trans hv.2.2.2 (by decide)) (fun j h => by have := findA_lt h; omega)
  rw [op_23]
  unfold toldV
  rw [show findV v 0 w = findA (nameV v 0) w (nF v) 0 from rfl, show findV v 1 w = findA (nameV v 1) w (nP v) 0 from rfl, show findV v 2 w = findA (nameV v 2) w (nE v) 0 from rfl, show findV v 3 w = findA (nameV v 3) w (nT v) 0 from rfl]
  cases c0 : findA (nameV v 0) w (nF v) 0 with
  | some j =>
    have z : ¬ oI (findA (nameV v 0) w (nF v) 0) = -1 := fun q => by rw [m0.mp q] at c0; cases c0
    rw [c0] at z
    simp (disch := first | exact am_nl_i _ | exact am_nl_r _ | exact am_nl_0 | (refine vi_nI ?_ ?_ <;> omega) | assumption | omega | exact b2i_01 _ | exact Or.inl rfl | exact Or.inr rfl | (unfold vi; decide)) only [ex_23_0, ex_23_1, ex_23_4, ex_23_5, ex_23_8, ex_23_9, ex_23_12, ex_23_13, ex_23_16, ex_23_17, ex_23_20, ex_23_21, ex_23_24, ex_23_25, ex_23_28, ex_23_29, ex_23_32, ex_23_33, ex_23_36, ex_23_37, ex_23_40, ex_23_41, ex_23_44, ex_23_45, ex_23_48, ex_23_49, ex_23_52, ex_23_53, if_true, if_false, and_self, Option.toList_some, Option.toList_none, List.singleton_append, List.cons_append, List.nil_append, List.append_nil, nI_1, nt_e, Int32.le_refl, f0, c0, z, m0, Bool.true_eq_false, Bool.false_eq_true, ↓reduceIte]
    exact Iff.rfl
  | none =>
  cases c1 : findA (nameV v 1) w (nP v) 0 with
  | some j =>
    have z : ¬ oI (findA (nameV v 1) w (nP v) 0) = -1 := fun q => by rw [m1.mp q] at c1; cases c1
    rw [c1] at z
    simp (disch := first | exact am_nl_i _ | exact am_nl_r _ | exact am_nl_0 | (refine vi_nI ?_ ?_ <;> omega) | assumption | omega | exact b2i_01 _ | exact Or.inl rfl | exact Or.inr rfl | (unfold vi; decide)) only [ex_23_0, ex_23_1, ex_23_4, ex_23_5, ex_23_8, ex_23_9, ex_23_12, ex_23_13, ex_23_16, ex_23_17, ex_23_20, ex_23_21, ex_23_24, ex_23_25, ex_23_28, ex_23_29, ex_23_32, ex_23_33, ex_23_36, ex_23_37, ex_23_40, ex_23_41, ex_23_44, ex_23_45, ex_23_48, ex_23_49, ex_23_52, ex_23_53, if_true, if_false, and_self, Option.toList_some, Option.toList_none, List.singleton_append, List.cons_append, List.nil_append, List.append_nil, nI_1, nt_e, Int32.le_refl, f0, c0, f1, c1, z, show oI none = -1 from rfl, Bool.true_eq_false, Bool.false_eq_true, ↓reduceIte]
    exact Iff.rfl
  | none =>
  cases c2 : findA (nameV v 2) w (nE v) 0 with
  | some j =>
    have z : ¬ oI (findA (nameV v 2) w (nE v) 0) = -1 := fun q => by rw [m2.mp q] at c2; cases c2
    rw [c2] at z
    simp (disch := first | exact am_nl_i _ | exact am_nl_r _ | exact am_nl_0 | (refine vi_nI ?_ ?_ <;> omega) | assumption | omega | exact b2i_01 _ | exact Or.inl rfl | exact Or.inr rfl | (unfold vi; decide)) only [ex_23_0, ex_23_1, ex_23_4, ex_23_5, ex_23_8, ex_23_9, ex_23_12, ex_23_13, ex_23_16, ex_23_17, ex_23_20, ex_23_21, ex_23_24, ex_23_25, ex_23_28, ex_23_29, ex_23_32, ex_23_33, ex_23_36, ex_23_37, ex_23_40, ex_23_41, ex_23_44, ex_23_45, ex_23_48, ex_23_49, ex_23_52, ex_23_53, if_true, if_false, and_self, Option.toList_some, Option.toList_none, List.singleton_append, List.cons_append, List.nil_append, List.append_nil, nI_1, nt_e, Int32.le_refl, f0, c0, f1, c1, f2, c2, z, show oI none = -1 from rfl, Bool.true_eq_false, Bool.false_eq_true, ↓reduceIte]
    exact Iff.rfl
  | none =>
  cases c3 : findA (nameV v 3) w (nT v) 0 with
  | some j =>
    have z : ¬ oI (findA (nameV v 3) w (nT v) 0) = -1 := fun q => by rw [m3.mp q] at c3; cases c3
    rw [c3] at z
    simp (disch := first | exact am_nl_i _ | exact am_nl_r _ | exact am_nl_0 | (refine vi_nI ?_ ?_ <;> omega) | assumption | omega | exact b2i_01 _ | exact Or.inl rfl | exact Or.inr rfl | (unfold vi; decide)) only [ex_23_0, ex_23_1, ex_23_4, ex_23_5, ex_23_8, ex_23_9, ex_23_12, ex_23_13, ex_23_16, ex_23_17, ex_23_20, ex_23_21, ex_23_24, ex_23_25, ex_23_28, ex_23_29, ex_23_32, ex_23_33, ex_23_36, ex_23_37, ex_23_40, ex_23_41, ex_23_44, ex_23_45, ex_23_48, ex_23_49, ex_23_52, ex_23_53, if_true, if_false, and_self, Option.toList_some, Option.toList_none, List.singleton_append, List.cons_append, List.nil_append, List.append_nil, nI_1, nt_e, Int32.le_refl, f0, c0, f1, c1, f2, c2, f3, c3, z, show oI none = -1 from rfl, Bool.true_eq_false, Bool.false_eq_true, ↓reduceIte]
    exact Iff.rfl
  | none =>
    simp (disch := first | exact am_nl_i _ | exact am_nl_r _ | exact am_nl_0 | (refine vi_nI ?_ ?_ <;> omega) | assumption | omega | exact b2i_01 _ | exact Or.inl rfl | exact Or.inr rfl | (unfold vi; decide)) only [ex_23_0, ex_23_1, ex_23_4, ex_23_5, ex_23_8, ex_23_9, ex_23_12, ex_23_13, ex_23_16, ex_23_17, ex_23_20, ex_23_21, ex_23_24, ex_23_25, ex_23_28, ex_23_29, ex_23_32, ex_23_33, ex_23_36, ex_23_37, ex_23_40, ex_23_41, ex_23_44, ex_23_45, ex_23_48, ex_23_49, ex_23_52, ex_23_53, if_true, if_false, and_self, Option.toList_some, Option.toList_none, List.singleton_append, List.cons_append, List.nil_append, List.append_nil, nI_1, nt_e, Int32.le_refl, f0, c0, f1, c1, f2, c2, f3, c3, show oI none = -1 from rfl, Bool.true_eq_false, Bool.false_eq_true, ↓reduceIte]
    exact Iff.rfl
theorem isToldX {L : Nat} {v : LV} {w : Int64} (hL : sh L 3 19) (hC : FI u (L + 1) 2 = nI (nF v) ∧ FI u (L + 3) 2 = nI (nP v) ∧ FI u (L + 5) 2 = nI (nE v) ∧ FI u (L + 7) 2 = nI (nT v)) (hv : nF v ≤ 12 ∧ nP v ≤ 12 ∧ nE v ≤ 6 ∧ nT v ≤ 5) (hp : ∀ c : Bool, post (some (.int (b2i c))) (am_emb u)) : Cl (d + 1) 23 [.ref L, .long w] (am_emb u) post := by
  have p1 : post (some (.int 1)) (am_emb u) := hp true
  have p0 : post (some (.int 0)) (am_emb u) := hp false
  rw [op_23]
  simp (disch := first | exact am_nl_i _ | exact am_nl_r _ | exact am_nl_0 | assumption | omega | (refine vi_nI ?_ ?_ <;> omega) | exact b2i_01 _ | exact Or.inl rfl | exact Or.inr rfl | (unfold vi; decide)) only [ex_23_0, ex_23_1, ex_23_4, ex_23_8, ex_23_9, ex_23_12, ex_23_13, ex_23_16, ex_23_17, ex_23_20, ex_23_21, ex_23_24, ex_23_25, ex_23_28, ex_23_29, ex_23_32, ex_23_33, ex_23_36, ex_23_37, ex_23_40, ex_23_41, ex_23_44, ex_23_45, ex_23_48, ex_23_49, ex_23_52, ex_23_53, if_true, if_false, and_self, Option.toList_some, Option.toList_none, List.singleton_append, List.cons_append, List.nil_append, List.append_nil, nI_1, nt_e, Int32.le_refl]
  rw [ex_23_5]
  refine nfindX (sh_3_1 hL) hC.1 hv.1 (fun z hz => ?_)
  by_cases q : oI z = -1
  · simp (disch := first | exact am_nl_i _ | exact am_nl_r _ | exact am_nl_0 | (refine vi_nI ?_ ?_ <;> omega) | assumption | omega | exact b2i_01 _ | exact Or.inl rfl | exact Or.inr rfl | (unfold vi; decide)) only [ex_23_0, ex_23_1, ex_23_4, ex_23_5, ex_23_8, ex_23_9, ex_23_12, ex_23_13, ex_23_16, ex_23_20, ex_23_21, ex_23_24, ex_23_25, ex_23_28, ex_23_29, ex_23_32, ex_23_33, ex_23_36, ex_23_37, ex_23_40, ex_23_41, ex_23_44, ex_23_45, ex_23_48, ex_23_49, ex_23_52, ex_23_53, if_true, if_false, and_self, Option.toList_some, Option.toList_none, List.singleton_append, List.cons_append, List.nil_append, List.append_nil, nI_1, nt_e, Int32.le_refl, q, Bool.true_eq_false, Bool.false_eq_true, ↓reduceIte]
    rw [ex_23_17]
    refine nfindX (sh_3_3 hL) hC.2.1 hv.2.1 (fun z hz => ?_)
    by_cases q : oI z = -1
    · simp (disch := first | exact am_nl_i _ | exact am_nl_r _ | exact am_nl_0 | (refine vi_nI ?_ ?_ <;> omega) | assumption | omega | exact b2i_01 _ | exact Or.inl rfl | exact Or.inr rfl | (unfold vi; decide)) only [ex_23_0, ex_23_1, ex_23_4, ex_23_5, ex_23_8, ex_23_9, ex_23_12, ex_23_13, ex_23_16, ex_23_17, ex_23_20, ex_23_21, ex_23_24, ex_23_25, ex_23_28, ex_23_32, ex_23_33, ex_23_36, ex_23_37, ex_23_40, ex_23_41, ex_23_44, ex_23_45, ex_23_48, ex_23_49, ex_23_52, ex_23_53, if_true, if_false, and_self, Option.toList_some, Option.toList_none, List.singleton_append, List.cons_append, List.nil_append, List.append_nil, nI_1, nt_e, Int32.le_refl, q, Bool.true_eq_false, Bool.false_eq_true, ↓reduceIte]
      rw [ex_23_29]
      refine nfindX (sh_3_5 hL) hC.2.2.1 (Nat.le_trans hv.2.2.1 (by decide)) (fun z hz => ?_)
      by_cases q : oI z = -1
      · simp (disch := first | exact am_nl_i _ | exact am_nl_r _ | exact am_nl_0 | (refine vi_nI ?_ ?_ <;> omega) | assumption | omega | exact b2i_01 _ | exact Or.inl rfl | exact Or.inr rfl | (unfold vi; decide)) only [ex_23_0, ex_23_1, ex_23_4, ex_23_5, ex_23_8, ex_23_9, ex_23_12, ex_23_13, ex_23_16, ex_23_17, ex_23_20, ex_23_21, ex_23_24, ex_23_25, ex_23_28, ex_23_29, ex_23_32, ex_23_33, ex_23_36, ex_23_37, ex_23_40, ex_23_44, ex_23_45, ex_23_48, ex_23_49, ex_23_52, ex_23_53, if_true, if_false, and_self, Option.toList_some, Option.toList_none, List.singleton_append, List.cons_append, List.nil_append, List.append_nil, nI_1, nt_e, Int32.le_refl, q, Bool.true_eq_false, Bool.false_eq_true, ↓reduceIte]
        rw [ex_23_41]
        refine nfindX (sh_3_7 hL) hC.2.2.2 (Nat.le_trans hv.2.2.2 (by decide)) (fun z hz => ?_)
        by_cases q : oI z = -1
        · simp (disch := first | exact am_nl_i _ | exact am_nl_r _ | exact am_nl_0 | (refine vi_nI ?_ ?_ <;> omega) | assumption | omega | exact b2i_01 _ | exact Or.inl rfl | exact Or.inr rfl | (unfold vi; decide)) only [ex_23_0, ex_23_1, ex_23_4, ex_23_5, ex_23_8, ex_23_9, ex_23_12, ex_23_13, ex_23_16, ex_23_17, ex_23_20, ex_23_21, ex_23_24, ex_23_25, ex_23_28, ex_23_29, ex_23_32, ex_23_33, ex_23_36, ex_23_37, ex_23_40, ex_23_41, ex_23_44, ex_23_45, ex_23_48, ex_23_49, ex_23_52, ex_23_53, if_true, if_false, and_self, Option.toList_some, Option.toList_none, List.singleton_append, List.cons_append, List.nil_append, List.append_nil, nI_1, nt_e, Int32.le_refl, q, Bool.true_eq_false, Bool.false_eq_true, ↓reduceIte]
          exact p0
        · simp (disch := first | exact am_nl_i _ | exact am_nl_r _ | exact am_nl_0 | (refine vi_nI ?_ ?_ <;> omega) | assumption | omega | exact b2i_01 _ | exact Or.inl rfl | exact Or.inr rfl | (unfold vi; decide)) only [ex_23_0, ex_23_1, ex_23_4, ex_23_5, ex_23_8, ex_23_9, ex_23_12, ex_23_13, ex_23_16, ex_23_17, ex_23_20, ex_23_21, ex_23_24, ex_23_25, ex_23_28, ex_23_29, ex_23_32, ex_23_33, ex_23_36, ex_23_37, ex_23_40, ex_23_41, ex_23_44, ex_23_45, ex_23_48, ex_23_49, ex_23_52, ex_23_53, if_true, if_false, and_self, Option.toList_some, Option.toList_none, List.singleton_append, List.cons_append, List.nil_append, List.append_nil, nI_1, nt_e, Int32.le_refl, q, Bool.true_eq_false, Bool.false_eq_true, ↓reduceIte]
          exact p1
        all_goals exact hL
      · simp (disch := first | exact am_nl_i _ | exact am_nl_r _ | exact am_nl_0 | (refine vi_nI ?_ ?_ <;> omega) | assumption | omega | exact b2i_01 _ | exact Or.inl rfl | exact Or.inr rfl | (unfold vi; decide)) only [ex_23_0, ex_23_1, ex_23_4, ex_23_5, ex_23_8, ex_23_9, ex_23_12, ex_23_13, ex_23_16, ex_23_17, ex_23_20, ex_23_21, ex_23_24, ex_23_25, ex_23_28, ex_23_29, ex_23_32, ex_23_33, ex_23_36, ex_23_37, ex_23_40, ex_23_41, ex_23_44, ex_23_45, ex_23_48, ex_23_49, ex_23_52, ex_23_53, if_true, if_false, and_self, Option.toList_some, Option.toList_none, List.singleton_append, List.cons_append, List.nil_append, List.append_nil, nI_1, nt_e, Int32.le_refl, q, Bool.true_eq_false, Bool.false_eq_true, ↓reduceIte]
        exact p1
      all_goals exact hL
    · simp (disch := first | exact am_nl_i _ | exact am_nl_r _ | exact am_nl_0 | (refine vi_nI ?_ ?_ <;> omega) | assumption | omega | exact b2i_01 _ | exact Or.inl rfl | exact Or.inr rfl | (unfold vi; decide)) only [ex_23_0, ex_23_1, ex_23_4, ex_23_5, ex_23_8, ex_23_9, ex_23_12, ex_23_13, ex_23_16, ex_23_17, ex_23_20, ex_23_21, ex_23_24, ex_23_25, ex_23_28, ex_23_29, ex_23_32, ex_23_33, ex_23_36, ex_23_37, ex_23_40, ex_23_41, ex_23_44, ex_23_45, ex_23_48, ex_23_49, ex_23_52, ex_23_53, if_true, if_false, and_self, Option.toList_some, Option.toList_none, List.singleton_append, List.cons_append, List.nil_append, List.append_nil, nI_1, nt_e, Int32.le_refl, q, Bool.true_eq_false, Bool.false_eq_true, ↓reduceIte]
      exact p1
    all_goals exact hL
  · simp (disch := first | exact am_nl_i _ | exact am_nl_r _ | exact am_nl_0 | (refine vi_nI ?_ ?_ <;> omega) | assumption | omega | exact b2i_01 _ | exact Or.inl rfl | exact Or.inr rfl | (unfold vi; decide)) only [ex_23_0, ex_23_1, ex_23_4, ex_23_5, ex_23_8, ex_23_9, ex_23_12, ex_23_13, ex_23_16, ex_23_17, ex_23_20, ex_23_21, ex_23_24, ex_23_25, ex_23_28, ex_23_29, ex_23_32, ex_23_33, ex_23_36, ex_23_37, ex_23_40, ex_23_41, ex_23_44, ex_23_45, ex_23_48, ex_23_49, ex_23_52, ex_23_53, if_true, if_false, and_self, Option.toList_some, Option.toList_none, List.singleton_append, List.cons_append, List.nil_append, List.append_nil, nI_1, nt_e, Int32.le_refl, q, Bool.true_eq_false, Bool.false_eq_true, ↓reduceIte]
    exact p1
  all_goals exact hL
theorem named_ok {a N from_ : Nat} {nm : Nat → List Nat} {w : List Nat} (ha : sh a 101 N) (hb : from_ + cnt ≤ N) (hN2 : N ≤ 24) (hN : NmRow (fun i => AJ u a (from_ + i)) 27 cnt nm) (hw : WordOk w) : Cl d 178 [.ref a, .int (nI from_), .int (nI cnt), .long (Int64.ofNat (bas 27 w))] (am_emb u) post ↔ post (some (.int (oI (findA nm w cnt 0)))) (am_emb u) := by
  refine Cl_iff ?_ post
  rw [op_178]
  have loop : ∀ (c k : Nat), k + c = cnt → Ex d 178 3 [some (.ref a), some (.int (nI from_)), some (.int (nI cnt)), some (.long (Int64.ofNat (bas 27 w))), none, some (.int (nI (from_ + k)))] [] (am_emb u) (fun v9 m9 => v9 = some (.int (oI (findA nm w c k))) ∧ m9 = am_emb u) := by
    intro c
    induction c with
    | zero =>
      intro k hk
      obtain rfl : k = cnt := by omega
      rw [ex_178_3]
      simp (disch := first | exact am_nl_i _ | exact am_nl_r _ | exact am_nl_0 | (refine vi_nI ?_ ?_ <;> omega) | assumption | omega | exact b2i_01 _ | exact Or.inl rfl | exact Or.inr rfl | (unfold vi; decide)) only [ex_178_0, ex_178_1, ex_178_5, ex_178_6, ex_178_7, ex_178_8, ex_178_11, ex_178_12, ex_178_14, ex_178_15, ex_178_16, ex_178_17, ex_178_20, ex_178_22, ex_178_23, ex_178_24, ex_178_25, ex_178_28, ex_178_31, ex_178_32, if_true, if_false, and_self, Option.toList_some, Option.toList_none, List.singleton_append, List.cons_append, List.nil_append, List.append_nil, nI_1, nt_e, Int32.le_refl, nI_add, nI_leI, Nat.le_refl, Bool.true_eq_false, Bool.false_eq_true, ↓reduceIte]
      try exact ⟨rfl, trivial⟩
    | succ c ih =>
      intro k hk
      have q1 : ¬ from_ + cnt ≤ from_ + k := by omega
      have q2 : from_ + k < N := by omega
      have ih := ih (k + 1) (by omega)
      obtain ⟨g1, g2⟩ := hN k (by omega)
      have g1 : AJ u a (from_ + k) = _ := g1
      rw [findA]
      rw [ex_178_3]
      by_cases q : nm k = w
      · rw [if_pos q]
        rw [q] at g1
        simp (disch := first | exact am_nl_i _ | exact am_nl_r _ | exact am_nl_0 | (refine vi_nI ?_ ?_ <;> omega) | assumption | omega | exact b2i_01 _ | exact Or.inl rfl | exact Or.inr rfl | (unfold vi; decide)) only [ex_178_0, ex_178_1, ex_178_5, ex_178_6, ex_178_7, ex_178_8, ex_178_11, ex_178_12, ex_178_14, ex_178_15, ex_178_16, ex_178_17, ex_178_20, ex_178_22, ex_178_23, ex_178_24, ex_178_25, ex_178_28, ex_178_31, ex_178_32, if_true, if_false, and_self, Option.toList_some, Option.toList_none, List.singleton_append, List.cons_append, List.nil_append, List.append_nil, nI_1, nt_e, Int32.le_refl, nI_add, nI_leI, q1, nI_clamp, g1, lg_cmp_eq, nI_subl, Bool.true_eq_false, Bool.false_eq_true, ↓reduceIte]
        try exact ⟨rfl, trivial⟩
      · have q3 : ¬ Int64.ofNat (bas 27 (nm k)) = Int64.ofNat (bas 27 w) := fun z => q ((word_eq (by decide) (by decide) g2 hw).mp z)
        rw [if_neg q]
        simp (disch := first | exact am_nl_i _ | exact am_nl_r _ | exact am_nl_0 | (refine vi_nI ?_ ?_ <;> omega) | assumption | omega | exact b2i_01 _ | exact Or.inl rfl | exact Or.inr rfl | (unfold vi; decide)) only [ex_178_0, ex_178_1, ex_178_5, ex_178_6, ex_178_7, ex_178_8, ex_178_11, ex_178_12, ex_178_14, ex_178_15, ex_178_16, ex_178_17, ex_178_20, ex_178_22, ex_178_23, ex_178_24, ex_178_25, ex_178_28, ex_178_31, ex_178_32, if_true, if_false, and_self, Option.toList_some, Option.toList_none, List.singleton_append, List.cons_append, List.nil_append, List.append_nil, nI_1, nt_e, Int32.le_refl, nI_add, nI_leI, q1, nI_clamp, g1, lg_cmp_eq, q3, Nat.add_assoc, Bool.true_eq_false, Bool.false_eq_true, ↓reduceIte]
        exact ih
  simp (disch := first | exact am_nl_i _ | exact am_nl_r _ | exact am_nl_0 | assumption | omega | (refine vi_nI ?_ ?_ <;> omega) | exact b2i_01 _ | exact Or.inl rfl | exact Or.inr rfl | (unfold vi; decide)) only [ex_178_0, ex_178_1, ex_178_5, ex_178_6, ex_178_7, ex_178_8, ex_178_11, ex_178_12, ex_178_14, ex_178_15, ex_178_16, ex_178_17, ex_178_20, ex_178_22, ex_178_23, ex_178_24, ex_178_25, ex_178_28, ex_178_31, ex_178_32, if_true, if_false, and_self, Option.toList_some, Option.toList_none, List.singleton_append, List.cons_append, List.nil_append, List.append_nil, nI_1, nt_e, Int32.le_refl]
  exact loop cnt 0 (by omega)
theorem factNamed_ok {v : LV} {t : Tok} (hn : AI u 205 6 = nI (nF v)) (hF : nF v ≤ 12) (hN : NamesR u 1 v) (hc : RCur u t e) (h1 : t.1 = 1) (hw : WordOk t.2.2) : Cl (d + 1) 179 [.ref 203] (am_emb u) post ↔ post (some (.int (oI (findV v 0 t.2.2)))) (am_emb u) := by
  have hj := hc.2.2.2.1 h1
  rw [op_179]
  simp (disch := first | exact am_nl_i _ | exact am_nl_r _ | exact am_nl_0 | (refine vi_nI ?_ ?_ <;> omega) | assumption | omega | exact b2i_01 _ | exact Or.inl rfl | exact Or.inr rfl | (unfold vi; decide)) only [ex_179_0, ex_179_1, ex_179_4, ex_179_6, ex_179_7, ex_179_10, ex_179_12, ex_179_13, ex_179_14, ex_179_17, ex_179_20, if_true, if_false, and_self, Option.toList_some, Option.toList_none, List.singleton_append, List.cons_append, List.nil_append, List.append_nil, nI_1, nt_e, Int32.le_refl, c6, hn, hj, show (12 : Int32) = nI 12 from rfl, named_ok (from_ := 12) shl_206 (show 12 + nF v ≤ 24 by omega) (by decide) hN.1 hw, Bool.true_eq_false, Bool.false_eq_true, ↓reduceIte]
  exact Iff.rfl
theorem pageNamed_ok {v : LV} {t : Tok} {o : Nat} (ho : o ≤ 1) (hn : AI u 205 (6 * o + 1) = nI (nP v)) (hF : nP v ≤ 12) (hN : NamesR u o v) (hc : RCur u t e) (h1 : t.1 = 1) (hw : WordOk t.2.2) : Cl (d + 1) 180 [.ref 203, .int (nI o)] (am_emb u) post ↔ post (some (.int (oI (findV v 1 t.2.2)))) (am_emb u) := by
  have hj := hc.2.2.2.1 h1
  have n12 : (12 : Int32) * nI o = nI (12 * o) := by rw [show (12 : Int32) = nI 12 from rfl, mul_nI]
  have n6 : (6 : Int32) * nI o = nI (6 * o) := by rw [show (6 : Int32) = nI 6 from rfl, mul_nI]
  rw [op_180]
  simp (disch := first | exact am_nl_i _ | exact am_nl_r _ | exact am_nl_0 | (refine vi_nI ?_ ?_ <;> omega) | assumption | omega | exact b2i_01 _ | exact Or.inl rfl | exact Or.inr rfl | (unfold vi; decide)) only [ex_180_0, ex_180_1, ex_180_4, ex_180_6, ex_180_7, ex_180_8, ex_180_9, ex_180_12, ex_180_14, ex_180_15, ex_180_16, ex_180_17, ex_180_18, ex_180_19, ex_180_20, ex_180_23, ex_180_26, if_true, if_false, and_self, Option.toList_some, Option.toList_none, List.singleton_append, List.cons_append, List.nil_append, List.append_nil, nI_1, nt_e, Int32.le_refl, n12, n6, nI_1, nI_add, nI_clamp, hn, hj, named_ok (from_ := 12 * o) shl_207 (show 12 * o + nP v ≤ 24 by omega) (by decide) hN.2.1 hw, Bool.true_eq_false, Bool.false_eq_true, ↓reduceIte]
  exact Iff.rfl
theorem personNamed_ok {v : LV} {t : Tok} {o : Nat} (ho : o ≤ 1) (hn : AI u 205 (6 * o + 2) = nI (nE v)) (hF : nE v ≤ 6) (hN : NamesR u o v) (hc : RCur u t e) (h1 : t.1 = 1) (hw : WordOk t.2.2) : Cl (d + 1) 181 [.ref 203, .int (nI o)] (am_emb u) post ↔ post (some (.int (oI (findV v 2 t.2.2)))) (am_emb u) := by
  have hj := hc.2.2.2.1 h1
  have n6 : (6 : Int32) * nI o = nI (6 * o) := by rw [show (6 : Int32) = nI 6 from rfl, mul_nI]
  rw [op_181]
  simp (disch := first | exact am_nl_i _ | exact am_nl_r _ | exact am_nl_0 | (refine vi_nI ?_ ?_ <;> omega) | assumption | omega | exact b2i_01 _ | exact Or.inl rfl | exact Or.inr rfl | (unfold vi; decide)) only [ex_181_0, ex_181_1, ex_181_4, ex_181_6, ex_181_7, ex_181_8, ex_181_9, ex_181_12, ex_181_14, ex_181_15, ex_181_16, ex_181_17, ex_181_18, ex_181_19, ex_181_20, ex_181_23, ex_181_26, if_true, if_false, and_self, Option.toList_some, Option.toList_none, List.singleton_append, List.cons_append, List.nil_append, List.append_nil, nI_1, nt_e, Int32.le_refl, n6, show (2 : Int32) = nI 2 from rfl, nI_add, nI_clamp, hn, hj, named_ok (from_ := 6 * o) shl_208 (show 6 * o + nE v ≤ 12 by omega) (by decide) hN.2.2.1 hw, Bool.true_eq_false, Bool.false_eq_true, ↓reduceIte]
  exact Iff.rfl
end Names
