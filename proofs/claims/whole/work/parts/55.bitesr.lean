/-! A BITE, of the reference -/
theorem LibR.keep {P : Nat → Prop} {u u' : am_U} {v : LV} (hR : LibR u v) (ho : Only P u u') (hp : ∀ a, 205 ≤ a → a ≤ 220 → ¬ P a) : LibR u' v := by
  have e := fun a (h1 : 205 ≤ a) (h2 : a ≤ 220) => (ho a (hp a h1 h2)).2.2.2.1
  unfold LibR
  rw [e 205 (by decide) (by decide), e 210 (by decide) (by decide), e 211 (by decide) (by decide), e 212 (by decide) (by decide), e 213 (by decide) (by decide), e 214 (by decide) (by decide), e 215 (by decide) (by decide), e 216 (by decide) (by decide), e 217 (by decide) (by decide), e 218 (by decide) (by decide), e 219 (by decide) (by decide), e 220 (by decide) (by decide)]
  exact hR
theorem CodeR.keep {P : Nat → Prop} {u u' : am_U} {v : LV} (hR : CodeR u v) (ho : Only P u u') (hp : ∀ a, 221 ≤ a → a ≤ 223 → ¬ P a) : CodeR u' v := by
  have e := fun a (h1 : 221 ≤ a) (h2 : a ≤ 223) => (ho a (hp a h1 h2)).2.2.2.1
  unfold CodeR
  rw [e 221 (by decide) (by decide), e 222 (by decide) (by decide), e 223 (by decide) (by decide)]
  exact hR
theorem LifeR.keep {P : Nat → Prop} {u u' : am_U} {v : LV} {l : LF} (hR : LifeR u v l) (ho : Only P u u') (hp : ¬ P 241) : LifeR u' v l := by
  unfold LifeR
  rw [(ho 241 hp).2.2.2.1]
  exact hR
theorem sumF_one {f g : Nat → Int32} {n : Nat} : ∀ {N : Nat}, n < N → (∀ j, j ≠ n → g j = f j) → g n = f n + 1 → sumF N g = sumF N f + 1
  | 0, h, _, _ => by omega
  | N + 1, h, h1, h2 => by
    rw [sumF, sumF]
    by_cases e : n = N
    · rw [← e, h2, ← Int32.add_assoc]
      congr 2
      have : ∀ M, M ≤ n → sumF M g = sumF M f := by
        intro M
        induction M with
        | zero => intro _; rfl
        | succ M ih => intro hM; rw [sumF, sumF, ih (by omega), h1 M (by omega)]
      exact this n (Nat.le_refl n)
    · rw [sumF_one (by omega) h1 h2, h1 N (by omega), Int32.add_assoc, Int32.add_assoc, Int32.add_comm 1]
theorem bitsV_or {x : Int32} {n : Nat} (hn : n < 13) (h : bt x n = false) : bitsV (x ||| bi n) = bitsV x + 1 := by
  unfold bitsV
  refine sumF_one hn (fun j hj => ?_) ?_
  · rw [b_or, bt_bi_f (by omega) hj, Bool.or_false]
  · rw [b_or, bt_bi (by omega) (by omega), h, decide_eq_true rfl]
    rfl
theorem bitsV_0 : bitsV 0 = 0 := by decide +kernel
theorem or_as (x y z : Int32) : (x ||| y) ||| z = x ||| (y ||| z) := b_ext fun i hi => by
  rw [b_or, b_or, b_or, b_or, Bool.or_assoc]
theorem zero_or (x : Int32) : 0 ||| x = x := b_ext fun i _ => by rw [b_or, b_0, Bool.false_or]
theorem bitsV_loss {e more : Int32} {k : Nat} (hk : k < 13) (he : bt e k = false) : ∀ n, n ≤ 13 → bitsV (bi k ||| (biteW e more n).1) = nI ((biteW e more n).2 + 1)
  | 0, _ => by
    rw [biteW]
    show bitsV (bi k ||| 0) = nI 1
    rw [or_0, ← zero_or (bi k), bitsV_or hk (b_0 k), bitsV_0]
    rfl
  | n + 1, hn => by
    have ih := bitsV_loss (more := more) hk he n (by omega)
    rw [biteW]
    split
    · next hq =>
      rw [Bool.and_eq_true] at hq
      show bitsV (bi k ||| ((biteW e more n).1 ||| bi n)) = nI ((biteW e more n).2 + 1 + 1)
      rw [← or_as, bitsV_or (by omega), ih, nI_1]
      have hnk : n ≠ k := fun q => by rw [q, he] at hq; exact absurd hq.1 (by simp)
      rw [b_or, bt_bi_f (by omega) hnk, Bool.false_or]
      cases hz : bt (biteW e more n).1 n
      · rfl
      · have := (biteW_bt _ _ n n (by omega) hz).1
        omega
    · exact ih
theorem le_M {more : Int32} {n : Nat} (h : n < 1000) : (if 0 < more then more else 0) - nI n ≤ 0 ↔ ¬ nI n < more := by
  have h1 := Int32.toInt_lt more
  have h2 := Int32.le_toInt more
  rw [Int32.le_iff_toInt_le, Int32.lt_iff_toInt_lt (x := nI n), Int32.toInt_sub, nI_toInt (by omega), Int32.toInt_zero]
  by_cases q : 0 < more
  · have q' := Int32.lt_iff_toInt_lt.mp q
    rw [Int32.toInt_zero] at q'
    rw [if_pos q, Int.bmod_eq_of_le (by omega) (by omega)]
    omega
  · have q' := mt Int32.lt_iff_toInt_lt.mpr q
    rw [Int32.toInt_zero] at q'
    rw [if_neg q, Int32.toInt_zero, Int.bmod_eq_of_le (by omega) (by omega)]
    omega
theorem M_s (M : Int32) (n : Nat) : M - nI n + (-1) = M - nI (n + 1) := by
  rw [← nI_1]
  apply Int32.toBitVec_inj.mp
  rw [Int32.toBitVec_add, Int32.toBitVec_sub, Int32.toBitVec_sub, Int32.toBitVec_add]
  show (M.toBitVec - (nI n).toBitVec) + 4294967295#32 = M.toBitVec - ((nI n).toBitVec + 1#32)
  bv_omega
def wkQ (a : Nat) : Prop := 226 ≤ a ∧ a ≤ 235
def bR (a : Nat) : Prop := wkQ a ∨ a = 241
section BitesR
variable {d : Nat} {u : am_U} {v : LV} {l : LF} {post : Option Value → am_M → Prop}
theorem withE_R {q : Nat} {w : Int32} (hq : q < 6) (hl : LifeR u v l) : LifeR (sAI u 241 (upd (AI u 241) q w)) v (withE l q w) := by
  obtain ⟨a1, a2, a3, a4, a5, a6⟩ := hl
  simp only [Nat.zero_add] at a1 a2 a3 a4 a5 a6
  unfold LifeR RowR
  simp only [AI_sAI, if_true, Nat.zero_add]
  refine ⟨fun p hp => ?_, fun p hp => ?_, ?_, fun k hk => ?_, ?_, ?_⟩
  · show _ = upd (eatL l) q w p
    by_cases e : p = q
    · rw [e, upd_s, upd_s]
    · rw [upd_n e, upd_n e]; exact a1 p hp
  · rw [upd_n (by omega)]; exact a2 p hp
  · rw [upd_n (by omega)]; exact a3
  · rw [upd_n (by omega)]; exact a4 k hk
  · rw [upd_n (by omega)]; exact a5
  · rw [upd_n (by omega)]; exact a6
theorem canBite_ok {x y z : Int32} (hR : LibR u v) (hl : LifeR u v l) (hW : WF v) (hw : WL v l) : Cl (d + 2) 230 [.ref 203, .int x, .int y, .int z] (am_emb u) post ↔ post (some (.int (b2i (bitesB v l x y z)))) (am_emb u) := by
  have h6 := hW.1.2.2.1
  have h12 := hW.1.2.1
  have hs : ∀ p, p < 6 → AI u 241 p = eatL l p := fun p hp => by have := hl.1 p hp; rwa [Nat.zero_add] at this
  rw [op_230]
  simp (disch := first | exact am_nl_i _ | exact am_nl_r _ | exact am_nl_0 | assumption | omega | (refine vi_nI ?_ ?_ <;> omega) | exact b2i_01 _ | exact Or.inl rfl | exact Or.inr rfl | (unfold vi; decide)) only [ex_230_0, ex_230_1, ex_230_2, ex_230_5, ex_230_8, ex_230_9, ex_230_10, ex_230_13, ex_230_16, ex_230_17, ex_230_18, ex_230_21, ex_230_22, ex_230_23, ex_230_26, ex_230_29, ex_230_30, ex_230_31, ex_230_32, ex_230_35, ex_230_36, ex_230_37, ex_230_38, ex_230_39, ex_230_40, ex_230_41, ex_230_42, ex_230_45, ex_230_46, ex_230_49, ex_230_50, ex_230_51, ex_230_52, ex_230_53, ex_230_54, ex_230_55, ex_230_58, ex_230_59, ex_230_60, ex_230_61, ex_230_64, ex_230_67, ex_230_68, ex_230_71, ex_230_72, if_true, if_false, and_self, Option.toList_some, Option.toList_none, List.singleton_append, List.cons_append, List.nil_append, List.append_nil, nI_1, nt_e, Int32.le_refl, isAlive_ok hR hl hW hw, b2i_0]
  unfold bitesB takesB
  cases g1 : livesI l x
  · simp only [if_true]; rfl
  rw [if_neg (by simp)]
  cases g2 : livesI l y
  · simp only [if_true, Bool.true_and, Bool.false_and, Bool.and_false]; rfl
  rw [if_neg (by simp)]
  by_cases e : x = y
  · rw [if_pos e, decide_eq_true (p := y = x) e.symm]
    simp [b2i]
  rw [if_neg e, decide_eq_false (p := y = x) (fun q => e q.symm)]
  simp (disch := first | exact am_nl_i _ | exact am_nl_r _ | exact am_nl_0 | assumption | omega | (refine vi_nI ?_ ?_ <;> omega) | exact b2i_01 _ | exact Or.inl rfl | exact Or.inr rfl | (unfold vi; decide)) only [ex_230_0, ex_230_1, ex_230_2, ex_230_5, ex_230_8, ex_230_9, ex_230_10, ex_230_13, ex_230_16, ex_230_17, ex_230_18, ex_230_21, ex_230_22, ex_230_23, ex_230_26, ex_230_29, ex_230_30, ex_230_31, ex_230_32, ex_230_35, ex_230_36, ex_230_37, ex_230_38, ex_230_39, ex_230_40, ex_230_41, ex_230_42, ex_230_45, ex_230_46, ex_230_49, ex_230_50, ex_230_51, ex_230_52, ex_230_53, ex_230_54, ex_230_55, ex_230_58, ex_230_59, ex_230_60, ex_230_61, ex_230_64, ex_230_67, ex_230_68, ex_230_71, ex_230_72, if_true, if_false, and_self, Option.toList_some, Option.toList_none, List.singleton_append, List.cons_append, List.nil_append, List.append_nil, nI_1, nt_e, Int32.le_refl, isPage_ok hR hW, b2i_0]
  cases g3 : okI z (nP v)
  · simp only [if_true, Bool.true_and, Bool.false_and, Bool.and_false]; rfl
  rw [if_neg (by simp)]
  obtain ⟨i1, i2⟩ := alive_ix hw g1
  obtain ⟨i3, i4⟩ := alive_ix hw g2
  obtain ⟨i5, i6⟩ := okI_ix g3
  generalize ix x = p at *
  generalize ix y = q at *
  generalize ix z = k at *
  subst i2
  subst i4
  subst i6
  simp (disch := first | exact am_nl_i _ | exact am_nl_r _ | exact am_nl_0 | assumption | omega | (refine vi_nI ?_ ?_ <;> omega) | exact b2i_01 _ | exact Or.inl rfl | exact Or.inr rfl | (unfold vi; decide)) only [ex_230_0, ex_230_1, ex_230_2, ex_230_5, ex_230_8, ex_230_9, ex_230_10, ex_230_13, ex_230_16, ex_230_17, ex_230_18, ex_230_21, ex_230_22, ex_230_23, ex_230_26, ex_230_29, ex_230_30, ex_230_31, ex_230_32, ex_230_35, ex_230_36, ex_230_37, ex_230_38, ex_230_39, ex_230_40, ex_230_41, ex_230_42, ex_230_45, ex_230_46, ex_230_49, ex_230_50, ex_230_51, ex_230_52, ex_230_53, ex_230_54, ex_230_55, ex_230_58, ex_230_59, ex_230_60, ex_230_61, ex_230_64, ex_230_67, ex_230_68, ex_230_71, ex_230_72, if_true, if_false, and_self, Option.toList_some, Option.toList_none, List.singleton_append, List.cons_append, List.nil_append, List.append_nil, nI_1, nt_e, Int32.le_refl, nI_clamp, hs, bit_e, b2i_0, b2i_1, hasRoom_ok hR hl hW]
  cases bt (eatL l q) k
  · simp [b2i]
  · cases bt (eatL l p) k
    · simp only [if_true, Bool.true_and, Bool.not_false, Bool.and_true, Bool.true_eq_false, if_false]
      cases decide (weighV v k ≤ leftL l p) <;> simp [b2i]
    · simp [b2i]
theorem bitesR_ok {p q k : Nat} (hR : LibR u v) (hcd : CodeR u v) (hl : LifeR u v l) (hW : WF v) (hw : WL v l) (hp : p < nE v) (hq : q < nE v) (hk : k < nP v) (hne : ¬ q = p)
    (h : ∀ u', Only bR u u' → LifeR u' v (bitesL v l p q k) → post (some (.int (bi k ||| (lossV v l q k).1))) (am_emb u')) : Cl (d + 3) 231 [.ref 203, .int (nI p), .int (nI q), .int (nI k)] (am_emb u) post := by
  have h6 := hW.1.2.2.1
  have h12 := hW.1.2.1
  have hs : ∀ p, p < 6 → AI u 241 p = eatL l p := fun p hp => by have := hl.1 p hp; rwa [Nat.zero_add] at this
  have hwg := hR.2.2.2.2.1 k hk
  unfold bitesL lossV at h
  have hB : ∀ u1, Only wkQ u u1 → Ex (d + 3) 231 56 [some (.ref 203), some (.int (nI p)), some (.int (nI q)), some (.int (nI k)), some (.int (if 0 < lawV v 1 (weighV v k) (bitsV (eatL l q)) then lawV v 1 (weighV v k) (bitsV (eatL l q)) else 0)), none, none] [] (am_emb u1) post := by
    intro u1 o1
    generalize lawV v 1 (weighV v k) (bitsV (eatL l q)) = more at *
    have R1 : LibR u1 v := hR.keep o1 (fun a h1 h2 q => by unfold wkQ at q; omega)
    have l1 : LifeR u1 v l := hl.keep o1 (by unfold wkQ; omega)
    simp (disch := first | exact am_nl_i _ | exact am_nl_r _ | exact am_nl_0 | assumption | omega | (refine vi_nI ?_ ?_ <;> omega) | exact b2i_01 _ | exact Or.inl rfl | exact Or.inr rfl | (unfold vi; decide)) only [ex_231_0, ex_231_1, ex_231_3, ex_231_4, ex_231_7, ex_231_8, ex_231_9, ex_231_10, ex_231_13, ex_231_14, ex_231_15, ex_231_18, ex_231_19, ex_231_22, ex_231_23, ex_231_24, ex_231_27, ex_231_28, ex_231_29, ex_231_30, ex_231_31, ex_231_34, ex_231_35, ex_231_36, ex_231_39, ex_231_40, ex_231_41, ex_231_44, ex_231_45, ex_231_46, ex_231_47, ex_231_48, ex_231_51, ex_231_54, ex_231_56, ex_231_57, ex_231_58, ex_231_62, ex_231_63, ex_231_64, ex_231_65, ex_231_67, ex_231_68, ex_231_72, ex_231_74, ex_231_77, ex_231_79, ex_231_82, ex_231_84, ex_231_85, ex_231_88, ex_231_89, ex_231_92, ex_231_93, ex_231_94, ex_231_96, ex_231_97, ex_231_98, ex_231_99, ex_231_102, ex_231_105, ex_231_107, ex_231_108, ex_231_110, ex_231_111, ex_231_112, ex_231_114, ex_231_117, ex_231_120, ex_231_123, ex_231_124, ex_231_127, ex_231_128, ex_231_129, ex_231_130, ex_231_132, ex_231_133, ex_231_134, ex_231_135, ex_231_136, ex_231_138, if_true, if_false, and_self, Option.toList_some, Option.toList_none, List.singleton_append, List.cons_append, List.nil_append, List.append_nil, nI_1, nt_e, Int32.le_refl]
    rw [ex_231_59]
    refine takesR_ok R1 l1 hW hp hk (fun u2 o2 l2 => ?_)
    have o12 : Only bR u u2 := (o1.wk (fun a q => Or.inl q)).tr (o2.wk (fun a q => Or.inr q))
    have e2 : AI u2 241 q = eatL l q := by
      have := l2.1 q (by omega)
      rw [Nat.zero_add] at this
      rw [this]
      exact upd_n hne
    have fin : Ex (d + 3) 231 123 [some (.ref 203), some (.int (nI p)), some (.int (nI q)), some (.int (nI k)), some (.int ((if 0 < more then more else 0) - nI (biteW (eatL l q &&& nt (bi k)) more 12).2)), some (.int (bi k ||| (biteW (eatL l q &&& nt (bi k)) more 12).1)), some (.int (nI 12))] [] (am_emb u2) post ∧ ∀ x, Ex (d + 3) 231 123 [some (.ref 203), some (.int (nI p)), some (.int (nI q)), some (.int (nI k)), some (.int ((if 0 < more then more else 0) - nI (biteW (eatL l q &&& nt (bi k)) more 12).2)), some (.int (bi k ||| (biteW (eatL l q &&& nt (bi k)) more 12).1)), x] [] (am_emb u2) post := by
      have : ∀ x, Ex (d + 3) 231 123 [some (.ref 203), some (.int (nI p)), some (.int (nI q)), some (.int (nI k)), some (.int ((if 0 < more then more else 0) - nI (biteW (eatL l q &&& nt (bi k)) more 12).2)), some (.int (bi k ||| (biteW (eatL l q &&& nt (bi k)) more 12).1)), x] [] (am_emb u2) post := by
        intro x
        simp (disch := first | exact am_nl_i _ | exact am_nl_r _ | exact am_nl_0 | assumption | omega | (refine vi_nI ?_ ?_ <;> omega) | exact b2i_01 _ | exact Or.inl rfl | exact Or.inr rfl | (unfold vi; decide)) only [ex_231_0, ex_231_1, ex_231_3, ex_231_4, ex_231_7, ex_231_8, ex_231_9, ex_231_10, ex_231_13, ex_231_14, ex_231_15, ex_231_18, ex_231_19, ex_231_22, ex_231_23, ex_231_24, ex_231_27, ex_231_28, ex_231_29, ex_231_30, ex_231_31, ex_231_34, ex_231_35, ex_231_36, ex_231_39, ex_231_40, ex_231_41, ex_231_44, ex_231_45, ex_231_46, ex_231_47, ex_231_48, ex_231_51, ex_231_54, ex_231_56, ex_231_57, ex_231_58, ex_231_59, ex_231_62, ex_231_63, ex_231_64, ex_231_65, ex_231_67, ex_231_68, ex_231_70, ex_231_72, ex_231_74, ex_231_77, ex_231_79, ex_231_82, ex_231_84, ex_231_85, ex_231_88, ex_231_89, ex_231_92, ex_231_93, ex_231_94, ex_231_96, ex_231_97, ex_231_98, ex_231_99, ex_231_102, ex_231_105, ex_231_107, ex_231_108, ex_231_110, ex_231_111, ex_231_112, ex_231_114, ex_231_117, ex_231_120, ex_231_123, ex_231_124, ex_231_127, ex_231_128, ex_231_129, ex_231_130, ex_231_132, ex_231_133, ex_231_134, ex_231_135, ex_231_136, ex_231_138, if_true, if_false, and_self, Option.toList_some, Option.toList_none, List.singleton_append, List.cons_append, List.nil_append, List.append_nil, nI_1, nt_e, Int32.le_refl, nI_clamp, e2]
        refine h _ (of_ai o12 (Or.inr rfl)) ?_
        rw [and_as, ← nt_or]
        exact withE_R (by omega) l2
      exact ⟨this _, this⟩
    have fin := fin.2
    have loop : ∀ (kz i : Nat), i + kz = 12 → Ex (d + 3) 231 70 [some (.ref 203), some (.int (nI p)), some (.int (nI q)), some (.int (nI k)), some (.int ((if 0 < more then more else 0) - nI (biteW (eatL l q &&& nt (bi k)) more i).2)), some (.int (bi k ||| (biteW (eatL l q &&& nt (bi k)) more i).1)), some (.int (nI i))] [] (am_emb u2) post := by
      intro kz
      induction kz with
      | zero =>
        intro i hi
        obtain rfl : i = 12 := by omega
        rw [ex_231_70]
        simp (disch := first | exact am_nl_i _ | exact am_nl_r _ | exact am_nl_0 | assumption | omega | (refine vi_nI ?_ ?_ <;> omega) | exact b2i_01 _ | exact Or.inl rfl | exact Or.inr rfl | (unfold vi; decide)) only [ex_231_0, ex_231_1, ex_231_3, ex_231_4, ex_231_7, ex_231_8, ex_231_9, ex_231_10, ex_231_13, ex_231_14, ex_231_15, ex_231_18, ex_231_19, ex_231_22, ex_231_23, ex_231_24, ex_231_27, ex_231_28, ex_231_29, ex_231_30, ex_231_31, ex_231_34, ex_231_35, ex_231_36, ex_231_39, ex_231_40, ex_231_41, ex_231_44, ex_231_45, ex_231_46, ex_231_47, ex_231_48, ex_231_51, ex_231_54, ex_231_56, ex_231_57, ex_231_58, ex_231_59, ex_231_62, ex_231_63, ex_231_64, ex_231_65, ex_231_67, ex_231_68, ex_231_72, ex_231_74, ex_231_77, ex_231_79, ex_231_82, ex_231_84, ex_231_85, ex_231_88, ex_231_89, ex_231_92, ex_231_93, ex_231_94, ex_231_96, ex_231_97, ex_231_98, ex_231_99, ex_231_102, ex_231_105, ex_231_107, ex_231_108, ex_231_110, ex_231_111, ex_231_112, ex_231_114, ex_231_117, ex_231_120, ex_231_124, ex_231_127, ex_231_128, ex_231_129, ex_231_130, ex_231_132, ex_231_133, ex_231_134, ex_231_135, ex_231_136, ex_231_138, if_true, if_false, and_self, Option.toList_some, Option.toList_none, List.singleton_append, List.cons_append, List.nil_append, List.append_nil, nI_1, nt_e, Int32.le_refl, lq12, nI_leI, Nat.le_refl]
        exact fin _
      | succ kz ih =>
        intro i hi
        have ih := ih (i + 1) (by omega)
        have hnle : ¬ 12 ≤ i := by omega
        have hbn := biteW_n (eatL l q &&& nt (bi k)) more i
        rw [biteW] at ih
        rw [ex_231_70]
        by_cases hm : nI (biteW (eatL l q &&& nt (bi k)) more i).2 < more
        · rw [decide_eq_true hm, Bool.and_true] at ih
          by_cases hik : i = k
          · have hz : bt (eatL l q &&& nt (bi k)) i = false := by
              rw [hik, b_and, bt_nt _ (by omega), bt_bi (by omega) (by omega)]
              simp
            rw [hz] at ih
            simp (disch := first | exact am_nl_i _ | exact am_nl_r _ | exact am_nl_0 | assumption | omega | (refine vi_nI ?_ ?_ <;> omega) | exact b2i_01 _ | exact Or.inl rfl | exact Or.inr rfl | (unfold vi; decide)) only [ex_231_0, ex_231_1, ex_231_3, ex_231_4, ex_231_7, ex_231_8, ex_231_9, ex_231_10, ex_231_13, ex_231_14, ex_231_15, ex_231_18, ex_231_19, ex_231_22, ex_231_23, ex_231_24, ex_231_27, ex_231_28, ex_231_29, ex_231_30, ex_231_31, ex_231_34, ex_231_35, ex_231_36, ex_231_39, ex_231_40, ex_231_41, ex_231_44, ex_231_45, ex_231_46, ex_231_47, ex_231_48, ex_231_51, ex_231_54, ex_231_56, ex_231_57, ex_231_58, ex_231_59, ex_231_62, ex_231_63, ex_231_64, ex_231_65, ex_231_67, ex_231_68, ex_231_72, ex_231_74, ex_231_77, ex_231_79, ex_231_82, ex_231_84, ex_231_85, ex_231_88, ex_231_89, ex_231_92, ex_231_93, ex_231_94, ex_231_96, ex_231_97, ex_231_98, ex_231_99, ex_231_102, ex_231_105, ex_231_107, ex_231_108, ex_231_110, ex_231_111, ex_231_112, ex_231_114, ex_231_117, ex_231_120, ex_231_124, ex_231_127, ex_231_128, ex_231_129, ex_231_130, ex_231_132, ex_231_133, ex_231_134, ex_231_135, ex_231_136, ex_231_138, if_true, if_false, and_self, Option.toList_some, Option.toList_none, List.singleton_append, List.cons_append, List.nil_append, List.append_nil, nI_1, nt_e, Int32.le_refl, lq12, nI_leI, hnle, le_M, hm, not_true_eq_false, nI_eq, eq_true hik]
            exact ih
          · have hz : bt (eatL l q &&& nt (bi k)) i = bt (eatL l q) i := by
              rw [b_and, bt_nt _ (by omega), bt_bi_f (by omega) hik]
              simp
            rw [hz] at ih
            simp (disch := first | exact am_nl_i _ | exact am_nl_r _ | exact am_nl_0 | assumption | omega | (refine vi_nI ?_ ?_ <;> omega) | exact b2i_01 _ | exact Or.inl rfl | exact Or.inr rfl | (unfold vi; decide)) only [ex_231_0, ex_231_1, ex_231_3, ex_231_4, ex_231_7, ex_231_8, ex_231_9, ex_231_10, ex_231_13, ex_231_14, ex_231_15, ex_231_18, ex_231_19, ex_231_22, ex_231_23, ex_231_24, ex_231_27, ex_231_28, ex_231_29, ex_231_30, ex_231_31, ex_231_34, ex_231_35, ex_231_36, ex_231_39, ex_231_40, ex_231_41, ex_231_44, ex_231_45, ex_231_46, ex_231_47, ex_231_48, ex_231_51, ex_231_54, ex_231_56, ex_231_57, ex_231_58, ex_231_59, ex_231_62, ex_231_63, ex_231_64, ex_231_65, ex_231_67, ex_231_68, ex_231_72, ex_231_74, ex_231_77, ex_231_79, ex_231_82, ex_231_84, ex_231_85, ex_231_88, ex_231_89, ex_231_92, ex_231_93, ex_231_94, ex_231_96, ex_231_97, ex_231_98, ex_231_99, ex_231_102, ex_231_105, ex_231_107, ex_231_108, ex_231_110, ex_231_111, ex_231_112, ex_231_114, ex_231_117, ex_231_120, ex_231_124, ex_231_127, ex_231_128, ex_231_129, ex_231_130, ex_231_132, ex_231_133, ex_231_134, ex_231_135, ex_231_136, ex_231_138, if_true, if_false, and_self, Option.toList_some, Option.toList_none, List.singleton_append, List.cons_append, List.nil_append, List.append_nil, nI_1, nt_e, Int32.le_refl, lq12, nI_leI, hnle, le_M, hm, not_true_eq_false, nI_eq, hik, nI_clamp, e2, bit_e, b2i_0]
            cases hz2 : bt (eatL l q) i
            · rw [hz2] at ih
              simp only [if_true]
              exact ih
            · rw [hz2] at ih
              simp only [Bool.true_eq_false, if_false, M_s, or_as, bi_e]
              exact ih
        · have hst := biteW_stop hm 12 (by omega)
          rw [hst] at fin
          simp (disch := first | exact am_nl_i _ | exact am_nl_r _ | exact am_nl_0 | assumption | omega | (refine vi_nI ?_ ?_ <;> omega) | exact b2i_01 _ | exact Or.inl rfl | exact Or.inr rfl | (unfold vi; decide)) only [ex_231_0, ex_231_1, ex_231_3, ex_231_4, ex_231_7, ex_231_8, ex_231_9, ex_231_10, ex_231_13, ex_231_14, ex_231_15, ex_231_18, ex_231_19, ex_231_22, ex_231_23, ex_231_24, ex_231_27, ex_231_28, ex_231_29, ex_231_30, ex_231_31, ex_231_34, ex_231_35, ex_231_36, ex_231_39, ex_231_40, ex_231_41, ex_231_44, ex_231_45, ex_231_46, ex_231_47, ex_231_48, ex_231_51, ex_231_54, ex_231_56, ex_231_57, ex_231_58, ex_231_59, ex_231_62, ex_231_63, ex_231_64, ex_231_65, ex_231_67, ex_231_68, ex_231_72, ex_231_74, ex_231_77, ex_231_79, ex_231_82, ex_231_84, ex_231_85, ex_231_88, ex_231_89, ex_231_92, ex_231_93, ex_231_94, ex_231_96, ex_231_97, ex_231_98, ex_231_99, ex_231_102, ex_231_105, ex_231_107, ex_231_108, ex_231_110, ex_231_111, ex_231_112, ex_231_114, ex_231_117, ex_231_120, ex_231_124, ex_231_127, ex_231_128, ex_231_129, ex_231_130, ex_231_132, ex_231_133, ex_231_134, ex_231_135, ex_231_136, ex_231_138, if_true, if_false, and_self, Option.toList_some, Option.toList_none, List.singleton_append, List.cons_append, List.nil_append, List.append_nil, nI_1, nt_e, Int32.le_refl, lq12, nI_leI, hnle, le_M, hm, not_false_eq_true]
          exact fin _
    simp (disch := first | exact am_nl_i _ | exact am_nl_r _ | exact am_nl_0 | assumption | omega | (refine vi_nI ?_ ?_ <;> omega) | exact b2i_01 _ | exact Or.inl rfl | exact Or.inr rfl | (unfold vi; decide)) only [ex_231_0, ex_231_1, ex_231_3, ex_231_4, ex_231_7, ex_231_8, ex_231_9, ex_231_10, ex_231_13, ex_231_14, ex_231_15, ex_231_18, ex_231_19, ex_231_22, ex_231_23, ex_231_24, ex_231_27, ex_231_28, ex_231_29, ex_231_30, ex_231_31, ex_231_34, ex_231_35, ex_231_36, ex_231_39, ex_231_40, ex_231_41, ex_231_44, ex_231_45, ex_231_46, ex_231_47, ex_231_48, ex_231_51, ex_231_54, ex_231_56, ex_231_57, ex_231_58, ex_231_62, ex_231_63, ex_231_64, ex_231_65, ex_231_67, ex_231_68, ex_231_72, ex_231_74, ex_231_77, ex_231_79, ex_231_82, ex_231_84, ex_231_85, ex_231_88, ex_231_89, ex_231_92, ex_231_93, ex_231_94, ex_231_96, ex_231_97, ex_231_98, ex_231_99, ex_231_102, ex_231_105, ex_231_107, ex_231_108, ex_231_110, ex_231_111, ex_231_112, ex_231_114, ex_231_117, ex_231_120, ex_231_123, ex_231_124, ex_231_127, ex_231_128, ex_231_129, ex_231_130, ex_231_132, ex_231_133, ex_231_134, ex_231_135, ex_231_136, ex_231_138, if_true, if_false, and_self, Option.toList_some, Option.toList_none, List.singleton_append, List.cons_append, List.nil_append, List.append_nil, nI_1, nt_e, Int32.le_refl, bi_e]
    have := loop 12 0 (by omega)
    rw [biteW] at this
    simp only [or_0] at this
    rw [show nI 0 = 0 from rfl, Int32.sub_zero] at this
    exact this
  obtain ⟨f, t, hc1, hc2, hc3, hc4⟩ := hcd
  obtain ⟨c1a, c1b, c1c, c1d⟩ := hc1 1 (by decide)
  rw [op_231]
  simp (disch := first | exact am_nl_i _ | exact am_nl_r _ | exact am_nl_0 | assumption | omega | (refine vi_nI ?_ ?_ <;> omega) | exact b2i_01 _ | exact Or.inl rfl | exact Or.inr rfl | (unfold vi; decide)) only [ex_231_0, ex_231_1, ex_231_3, ex_231_4, ex_231_7, ex_231_8, ex_231_9, ex_231_10, ex_231_13, ex_231_14, ex_231_15, ex_231_18, ex_231_19, ex_231_22, ex_231_23, ex_231_24, ex_231_27, ex_231_28, ex_231_29, ex_231_30, ex_231_31, ex_231_34, ex_231_35, ex_231_36, ex_231_39, ex_231_40, ex_231_41, ex_231_44, ex_231_45, ex_231_46, ex_231_47, ex_231_51, ex_231_54, ex_231_57, ex_231_58, ex_231_59, ex_231_62, ex_231_63, ex_231_64, ex_231_65, ex_231_67, ex_231_68, ex_231_70, ex_231_72, ex_231_74, ex_231_77, ex_231_79, ex_231_82, ex_231_84, ex_231_85, ex_231_88, ex_231_89, ex_231_92, ex_231_93, ex_231_94, ex_231_96, ex_231_97, ex_231_98, ex_231_99, ex_231_102, ex_231_105, ex_231_107, ex_231_108, ex_231_110, ex_231_111, ex_231_112, ex_231_114, ex_231_117, ex_231_120, ex_231_123, ex_231_124, ex_231_127, ex_231_128, ex_231_129, ex_231_130, ex_231_132, ex_231_133, ex_231_134, ex_231_135, ex_231_136, ex_231_138, if_true, if_false, and_self, Option.toList_some, Option.toList_none, List.singleton_append, List.cons_append, List.nil_append, List.append_nil, nI_1, nt_e, Int32.le_refl, c1, c1a, c1b, nI_leI]
  by_cases hft : f 1 < t 1
  · rw [if_neg (by omega)]
    try simp (disch := first | exact am_nl_i _ | exact am_nl_r _ | exact am_nl_0 | assumption | omega | (refine vi_nI ?_ ?_ <;> omega) | exact b2i_01 _ | exact Or.inl rfl | exact Or.inr rfl | (unfold vi; decide)) only [ex_231_0, ex_231_1, ex_231_3, ex_231_4, ex_231_7, ex_231_8, ex_231_9, ex_231_10, ex_231_13, ex_231_14, ex_231_15, ex_231_18, ex_231_19, ex_231_22, ex_231_23, ex_231_24, ex_231_27, ex_231_28, ex_231_29, ex_231_30, ex_231_31, ex_231_34, ex_231_35, ex_231_36, ex_231_39, ex_231_40, ex_231_41, ex_231_44, ex_231_45, ex_231_46, ex_231_47, ex_231_51, ex_231_54, ex_231_57, ex_231_58, ex_231_59, ex_231_62, ex_231_63, ex_231_64, ex_231_65, ex_231_67, ex_231_68, ex_231_70, ex_231_72, ex_231_74, ex_231_77, ex_231_79, ex_231_82, ex_231_84, ex_231_85, ex_231_88, ex_231_89, ex_231_92, ex_231_93, ex_231_94, ex_231_96, ex_231_97, ex_231_98, ex_231_99, ex_231_102, ex_231_105, ex_231_107, ex_231_108, ex_231_110, ex_231_111, ex_231_112, ex_231_114, ex_231_117, ex_231_120, ex_231_123, ex_231_124, ex_231_127, ex_231_128, ex_231_129, ex_231_130, ex_231_132, ex_231_133, ex_231_134, ex_231_135, ex_231_136, ex_231_138, if_true, if_false, and_self, Option.toList_some, Option.toList_none, List.singleton_append, List.cons_append, List.nil_append, List.append_nil, nI_1, nt_e, Int32.le_refl, c1, c3, nI_clamp, hwg, AI_sAI, Nat.reduceEqDiff, hs, bits_ok]
    rw [ex_231_48]
    refine worked_ok (k := 1) (h := weighV v k) (o := bitsV (eatL l q)) (by decide) c1a c1b hft c1d ?_ ?_ (fun q0 => hc2 1 (by decide) hft _ _ q0) (fun u1 o1 => ?_)
    · simp only [AI_sAI, if_true]
      rw [upd_n (by decide), upd_s]
    · simp only [AI_sAI, if_true]
      exact upd_s
    · simp (disch := first | exact am_nl_i _ | exact am_nl_r _ | exact am_nl_0 | assumption | omega | (refine vi_nI ?_ ?_ <;> omega) | exact b2i_01 _ | exact Or.inl rfl | exact Or.inr rfl | (unfold vi; decide)) only [ex_231_0, ex_231_1, ex_231_3, ex_231_4, ex_231_7, ex_231_8, ex_231_9, ex_231_10, ex_231_13, ex_231_14, ex_231_15, ex_231_18, ex_231_19, ex_231_22, ex_231_23, ex_231_24, ex_231_27, ex_231_28, ex_231_29, ex_231_30, ex_231_31, ex_231_34, ex_231_35, ex_231_36, ex_231_39, ex_231_40, ex_231_41, ex_231_44, ex_231_45, ex_231_46, ex_231_47, ex_231_48, ex_231_51, ex_231_54, ex_231_57, ex_231_58, ex_231_59, ex_231_62, ex_231_63, ex_231_64, ex_231_65, ex_231_67, ex_231_68, ex_231_70, ex_231_72, ex_231_74, ex_231_77, ex_231_79, ex_231_82, ex_231_84, ex_231_85, ex_231_88, ex_231_89, ex_231_92, ex_231_93, ex_231_94, ex_231_96, ex_231_97, ex_231_98, ex_231_99, ex_231_102, ex_231_105, ex_231_107, ex_231_108, ex_231_110, ex_231_111, ex_231_112, ex_231_114, ex_231_117, ex_231_120, ex_231_123, ex_231_124, ex_231_127, ex_231_128, ex_231_129, ex_231_130, ex_231_132, ex_231_133, ex_231_134, ex_231_135, ex_231_136, ex_231_138, if_true, if_false, and_self, Option.toList_some, Option.toList_none, List.singleton_append, List.cons_append, List.nil_append, List.append_nil, nI_1, nt_e, Int32.le_refl, max_ok]
      refine hB u1 ?_
      have w : wkQ 235 := by unfold wkQ; omega
      exact Only.tr (of_ai (of_ai (Only.rf _ _) w) w) (o1.wk (fun a q => by unfold wkP at q; unfold wkQ; omega))
  · rw [if_pos (by omega)]
    have hl0 := hc4 hft (weighV v k) (bitsV (eatL l q))
    have := hB u (Only.rf _ _)
    rw [hl0] at this
    exact this
end BitesR
