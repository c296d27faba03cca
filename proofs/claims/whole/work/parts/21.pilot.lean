/-- Library.said -/
theorem said_ok {d L n : Nat} {u : am_U} {set : Int32} {post : Option Value → am_M → Prop} (hL : sh L 3 19) (hn : FI u (L + 3) 2 = nI n) (h12 : n ≤ 12) : Cl d 27 [.ref L, .int set] (am_emb u) post ↔ post (some (.int (orF n (fun i => if bt set i then AI u (L + 14) i else 0)))) (am_emb u) := by
  refine Cl_iff ?_ post
  rw [op_27]
  have loop : ∀ (k i : Nat), i + k = n → Ex d 27 4 [some (.ref L), some (.int set), some (.int (orF i (fun i => if bt set i then AI u (L + 14) i else 0))), some (.int (nI i))] [] (am_emb u) (fun w m => w = some (.int (orF n (fun i => if bt set i then AI u (L + 14) i else 0))) ∧ m = am_emb u) := by
    intro k
    induction k with
    | zero =>
      intro i h1
      have e : i = n := by omega
      subst e
      rw [ex_27_4]
      simp (disch := first | exact am_nl_i _ | exact am_nl_r _ | exact am_nl_0 | assumption | omega) only [ex_27_0, ex_27_1, ex_27_2, ex_27_3, ex_27_5, ex_27_6, ex_27_9, ex_27_12, ex_27_15, ex_27_16, ex_27_17, ex_27_18, ex_27_19, ex_27_20, ex_27_23, ex_27_24, ex_27_25, ex_27_28, ex_27_29, ex_27_30, ex_27_31, ex_27_32, ex_27_35, ex_27_38, ex_27_39, hn, Int32.le_refl, if_true, and_self]
    | succ k ih =>
      intro i h1
      rw [ex_27_4]
      simp (disch := first | exact am_nl_i _ | exact am_nl_r _ | exact am_nl_0 | assumption | omega | (refine vi_nI ?_ ?_ <;> omega)) only [ex_27_0, ex_27_1, ex_27_2, ex_27_3, ex_27_5, ex_27_6, ex_27_9, ex_27_12, ex_27_15, ex_27_16, ex_27_17, ex_27_18, ex_27_19, ex_27_20, ex_27_23, ex_27_24, ex_27_25, ex_27_28, ex_27_29, ex_27_30, ex_27_31, ex_27_32, ex_27_35, ex_27_38, ex_27_39, hn, nI_leI, show ¬ n ≤ i by omega, if_false, bit_e, nI_1, nI_clamp, b2i_0]
      have h2 := ih (i + 1) (by omega)
      rw [orF] at h2
      cases hb : bt set i
      · simpa [hb, or_0] using h2
      · simpa [hb] using h2
  simp (disch := first | exact am_nl_i _ | exact am_nl_r _ | exact am_nl_0 | assumption | omega) only [ex_27_0, ex_27_1, ex_27_2, ex_27_3, ex_27_5, ex_27_6, ex_27_9, ex_27_12, ex_27_15, ex_27_16, ex_27_17, ex_27_18, ex_27_19, ex_27_20, ex_27_23, ex_27_24, ex_27_25, ex_27_28, ex_27_29, ex_27_30, ex_27_31, ex_27_32, ex_27_35, ex_27_38, ex_27_39]
  exact loop n 0 (by omega)
