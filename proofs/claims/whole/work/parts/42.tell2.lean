/-! TELL, of the class -/
section Tell
variable {d L L' : Nat} {u : am_U} {m : am_M} {S : ST} {post : Option Value → am_M → Prop}
theorem C_tell {x : Int32} {c : Bool} (hI : InvC u S L L') (hS : WS S) (h : ∀ u', Only inC u u' → InvC u' (tellS S x c).1 L L' → post (some (.int (b2i (tellS S x c).2))) (am_emb u')) : Cl (d + 1) 135 [.ref 0, .int x, .int (b2i c)] (am_emb u) post := by
  have hL := lib_sh hI.1.2.2.1
  have hIc := hI
  obtain ⟨⟨r1, r2, r3, r4, r5, r6⟩, ⟨l1, l2, l3⟩, ⟨st1, st2, st3⟩, pst, mk, tp⟩ := hI
  have hW := hS.1
  have h5 := hW.1.2.2.2
  obtain ⟨t1, t2, t3⟩ := st3
  have ht := hS.2.1.2.2.1
  rw [op_135]
  simp (disch := first | exact am_nl_i _ | exact am_nl_r _ | exact am_nl_0 | assumption | omega | (refine vi_nI ?_ ?_ <;> omega) | exact b2i_01 _ | exact Or.inl rfl | exact Or.inr rfl | (unfold vi; decide)) only [ex_135_0, ex_135_1, ex_135_4, ex_135_7, ex_135_8, ex_135_11, ex_135_14, ex_135_15, ex_135_18, ex_135_21, ex_135_23, ex_135_26, ex_135_27, ex_135_28, ex_135_29, ex_135_32, ex_135_33, ex_135_36, ex_135_37, ex_135_38, ex_135_41, ex_135_42, ex_135_45, ex_135_46, ex_135_49, ex_135_50, ex_135_53, ex_135_54, ex_135_55, ex_135_56, ex_135_57, ex_135_60, ex_135_63, ex_135_64, ex_135_67, ex_135_68, ex_135_71, ex_135_72, ex_135_73, ex_135_74, ex_135_75, ex_135_78, ex_135_79, if_true, if_false, and_self, Option.toList_some, Option.toList_none, List.singleton_append, List.cons_append, List.nil_append, List.append_nil, nI_1, nt_e, Int32.le_refl, r1, va_rfs, has_ok (sh_3_7 hL) l1.1.2.2.2 l1.2.1.2.2.2 (Nat.le_trans h5 (by decide)) h5 (by decide), b2i_0, t1, lq12, nI_ltI, nI_leI]
  unfold tellS at h
  rw [show decide (0 ≤ x.toInt ∧ x.toInt < (nT S.1 : Int)) = okI x (nT S.1) from rfl]
  cases hf : okI x (nT S.1)
  · rw [hf] at h
    exact h u (Only.rf _ _) hIc
  · rw [hf] at h
    rw [if_neg (by simp)]
    by_cases hq : S.2.1.2.2.1 < 12
    · rw [decide_eq_true hq] at h
      rw [if_pos hq]
      obtain ⟨i1, i2⟩ := okI_ix hf
      generalize ix x = j at *
      subst i2
      have L1 : ∀ (k : Nat) (z : Int32), 2 ≤ k → ∀ w, LifeC w 65 S.2.1.1 → LifeC (sFI w 64 k z) 65 S.2.1.1 := fun k z hk w hw => hw.keep (Only.sFI (P := fun a => a = 64) rfl) (fun i hi (q : 65 + i = 64) => by omega)
      have L2 : ∀ (k : Nat) (z : Int32) w, LinesC w 69 S.2.1.2.1 → LinesC (sFI w 64 k z) 69 S.2.1.2.1 := fun k z w hw => hw.keep (Only.sFI (P := fun a => a = 64) rfl) (fun i hi (q : 69 + i = 64) => by omega)
      have e3 := tell_or S.2.1.2.2 j c true
      have e4 := tell_or S.2.1.2.2 j c false
      have f4 : ∀ t : TL, orF t.1 (fun k => if t.2.2 k then 0 else bi (t.2.1 k)) = orF t.1 (fun k => if t.2.2 k = false then bi (t.2.1 k) else 0) := fun t => orF_congr fun i hi => by cases t.2.2 i <;> rfl
      have nc : ∀ a, nowP a → inC a := fun a q => by unfold nowP at q; unfold inC; omega
      have n64 : nowP 64 := ⟨Nat.le_refl _, by omega⟩
      cases c
      · rw [if_pos rfl]
        have oo : Only nowP u (sFI (sFI u 64 2 (nI (S.2.1.2.2.1 + 1))) 64 4 (FI (sFI u 64 2 (nI (S.2.1.2.2.1 + 1))) 64 4 ||| 1 <<< (nI j &&& 31))) := of_fi (of_fi (Only.rf _ _) n64) n64
        refine h _ (oo.wk nc) (now_inv hIc oo ⟨L1 _ _ (by omega) _ (L1 _ _ (by omega) _ st1), L2 _ _ _ (L2 _ _ _ st2), ?_, ?_, ?_⟩)
        · rfl
        · show FI u 64 3 = _
          refine Eq.trans ?_ e3.symm
          rw [t2, if_neg (by simp), or_0]
        · show FI u 64 4 ||| bi j = _
          refine Eq.trans ?_ (e4.symm.trans (f4 _).symm)
          rw [t3, f4, if_pos rfl]
      · rw [if_neg (by simp)]
        have oo : Only nowP u (sFI (sFI u 64 2 (nI (S.2.1.2.2.1 + 1))) 64 3 (FI (sFI u 64 2 (nI (S.2.1.2.2.1 + 1))) 64 3 ||| 1 <<< (nI j &&& 31))) := of_fi (of_fi (Only.rf _ _) n64) n64
        refine h _ (oo.wk nc) (now_inv hIc oo ⟨L1 _ _ (by omega) _ (L1 _ _ (by omega) _ st1), L2 _ _ _ (L2 _ _ _ st2), ?_, ?_, ?_⟩)
        · rfl
        · show FI u 64 3 ||| bi j = _
          refine Eq.trans ?_ e3.symm
          rw [t2, if_pos rfl]
        · show FI u 64 4 = _
          refine Eq.trans ?_ (e4.symm.trans (f4 _).symm)
          rw [t3, f4, if_neg (by simp), or_0]
    · rw [decide_eq_false hq] at h
      rw [if_neg hq]
      exact h u (Only.rf _ _) hIc
end Tell
