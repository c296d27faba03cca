/-! A LIBRARY READ, of the class -/
def vE : LV := (fun _ => 0, fun _ _ => 0, 0, fun k h _ => if k = 0 then h else 0, fun _ _ => [])
def libS (P : Nat → Nat → Rt) (T : Nat → Tok) : Nat → LV → FG → Nat → Except Nat LV
  | 0, v, _, _ => .ok v
  | g + 1, v, fg, i => if csort (T i) = 3 then .ok v else (match stmS P v fg T i with
    | .error e => .error e
    | .ok p => libS P T g p.1.1 p.1.2 p.2)
theorem WF_E : WF vE := by
  refine ⟨⟨by decide, by decide, by decide, by decide⟩, fun _ _ => rfl, fun _ _ => rfl, fun i hi => absurd hi (Nat.not_lt_zero i), fun i hi => absurd hi (Nat.not_lt_zero i), fun i hi => absurd hi (Nat.not_lt_zero i), fun i hi => absurd hi (Nat.not_lt_zero i), 0, by decide, rfl⟩
theorem end_uniq {n m m' : Nat} {f : Nat → Nat} (h : EndAt n f m) (h' : EndAt n f m') : m = m' := by
  by_cases a : m < m'
  · exact absurd h.2.1 (h'.2.2 m a)
  · by_cases b : m' < m
    · exact absurd h'.2.1 (h.2.2 m' b)
    · omega
theorem factsF_i {T : Nat → Tok} {v : LV} : ∀ {g : Nat} {s : Int32} {i : Nat} {r : Int32} {j : Nat}, factsF T v g s i = .ok (r, j) → i ≤ j
  | 0, _, _, _, _, h => by cases h
  | g + 1, s, i, r, j, h => by
    rw [factsF] at h
    split at h
    · cases h; exact Nat.le_refl _
    · cases z : lookR v 0 (T i) with
      | error e => rw [z] at h; cases h
      | ok l =>
        simp only [z] at h
        split at h
        · cases h
        · have := factsF_i h
          omega
theorem lookR_lt {v : LV} {k : Nat} {t : Tok} {j : Nat} (h : lookR v k t = .ok j) : j < v.1 k := by
  unfold lookR lookN at h
  split at h
  · cases y : findA (nameV v k) t.2.2 (v.1 k) 0 with
    | none => rw [y] at h; cases h
    | some l => rw [y] at h; cases h; exact findV_lt (k := k) y
  · cases h
section StmW
variable {n m i : Nat} {f : Nat → Nat} {v : LV} {P : Nat → Nat → Rt}
theorem wf_fact {T : Nat → Tok} {v' : LV} {j : Nat} (hW : WF v) (h : factR v T i = .ok (v', j)) : WF v' ∧ i < j := by
  unfold factR at h
  split at h
  · cases h
  next p hp =>
  split at h
  · cases h
  next q hq =>
  split at h
  · cases h
  next k hk =>
  cases h
  obtain ⟨a1, a2⟩ := newR_i hp
  have a3 := (wordR_i hk).1
  by_cases c : csort (T p.2) = 201
  · rw [if_pos c] at hq
    have b1 := factsF_i hq
    have b2 := factsR_bits hW.1.1 hq
    exact ⟨WF_fact hW (by have := of_decide_eq_false a2; omega) b2.2, by omega⟩
  · rw [if_neg c] at hq
    cases hq
    exact ⟨WF_fact hW (by have := of_decide_eq_false a2; omega) (fun j _ => b_0 j), by have : _ = p.2 + 1 := a3; omega⟩
theorem wf_page {T : Nat → Tok} {v' : LV} {j : Nat} (hW : WF v) (h : pageR v T i = .ok (v', j)) : WF v' ∧ i < j := by
  unfold pageR at h
  split at h
  · cases h
  next p hp =>
  split at h
  · cases h
  next k hk =>
  split at h
  · cases h
  next w hw =>
  split at h
  · cases h
  next c hc =>
  split at h
  · cases h
  next y hy =>
  split at h
  · cases h
  next s hs =>
  split at h
  · cases h
  next z hz =>
  cases h
  obtain ⟨a1, a2⟩ := newR_i hp
  have a3 := (wordR_i hz).1
  have a4 := (wordR_i hy).1
  have a5 := (bothR_i hw).2.2
  have a6 := (bothR_i hc).2.2
  have b1 := factsF_i hs
  have b2 := factsR_bits hW.1.1 hs
  have k1 : k.1 ≤ 2 ∧ k.2 = p.2 + 1 := by
    unfold kindR at hk
    by_cases c : 217 ≤ csort (T p.2) ∧ csort (T p.2) ≤ 219
    · rw [if_pos c] at hk
      have e := Except.ok.inj hk
      have e1 : k.1 = csort (T p.2) - 217 := by rw [← e]
      have e2 : k.2 = p.2 + 1 := by rw [← e]
      exact ⟨by omega, e2⟩
    · rw [if_neg c] at hk; cases hk
  have w1 : 1 ≤ w.1 ∧ w.1 ≤ 9 := by
    unfold bothR at hw
    split at hw
    · cases hw
    · exact (numR_i hw).2
  have c1 : c.1 ≤ 9 := by
    unfold bothR at hc
    split at hc
    · cases hc
    · exact (numR_i hc).2.2
  exact ⟨WF_page hW (by have := of_decide_eq_false a2; omega) k1.1 w1.1 w1.2 c1 b2.2, by omega⟩
theorem wf_clash {T : Nat → Tok} {v' : LV} {j : Nat} (hW : WF v) (h : clashR v T i = .ok (v', j)) : WF v' ∧ i < j := by
  unfold clashR at h
  split at h
  · cases h
  next a ha =>
  split at h
  · cases h
  next b hb =>
  split at h
  · cases h
  next q =>
  split at h
  · cases h
  next z hz =>
  cases h
  have a3 := (wordR_i hz).1
  exact ⟨WF_clash hW (lookR_lt ha) (lookR_lt hb) (fun e => q (Or.inl e)), by omega⟩
theorem wf_person {T : Nat → Tok} {v' : LV} {j : Nat} (hW : WF v) (h : personR v T i = .ok (v', j)) : WF v' ∧ i < j := by
  unfold personR at h
  split at h
  · cases h
  next p hp =>
  split at h
  · cases h
  next r hr =>
  split at h
  · cases h
  next x hx =>
  split at h
  · cases h
  next q hq =>
  split at h
  · cases h
  next z hz =>
  cases h
  obtain ⟨a1, a2⟩ := newR_i hp
  have a3 := (wordR_i hz).1
  have a5 := (bothR_i hr).2.2
  have a6 := (bothR_i hx).2.2
  have r1 : r.1 ≤ 40 := by
    unfold bothR at hr
    split at hr
    · cases hr
    · exact (numR_i hr).2.2
  have x1 : x.1 ≤ 10 := by
    unfold bothR at hx
    split at hx
    · cases hx
    · exact (numR_i hx).2.2
  have q1 : (∀ j, q.1 = some j → j < nE v) ∧ x.2 ≤ q.2 := by
    unfold heirR at hq
    split at hq
    · split at hq
      · cases hq
      next a ha => cases hq; exact ⟨fun j hj => by cases hj; exact lookR_lt ha, by show x.2 ≤ x.2 + 2; omega⟩
    · cases hq; exact ⟨fun j hj => (by cases hj), Nat.le_refl _⟩
  exact ⟨WF_person hW (by have := of_decide_eq_false a2; omega) r1 x1 q1.1, by omega⟩
theorem wf_task {T : Nat → Tok} {v' : LV} {j : Nat} (hW : WF v) (h : taskR v T i = .ok (v', j)) : WF v' ∧ i < j := by
  unfold taskR at h
  split at h
  · cases h
  next p hp =>
  split at h
  · cases h
  next r hr =>
  split at h
  · cases h
  next y hy =>
  split at h
  · cases h
  next s hs =>
  split at h
  · cases h
  next z hz =>
  cases h
  obtain ⟨a1, a2⟩ := newR_i hp
  have a3 := (wordR_i hz).1
  have a4 := (wordR_i hy).1
  have a5 := (bothR_i hr).2.2
  have b1 := factsF_i hs
  have b2 := factsR_bits hW.1.1 hs
  have r1 : r.1 ≤ 99 := by
    unfold bothR at hr
    split at hr
    · cases hr
    · exact (numR_i hr).2.2
  exact ⟨WF_task hW (by have := of_decide_eq_false a2; omega) r1 b2.1 b2.2, by omega⟩
theorem wf_burn {T : Nat → Tok} {told : Bool} {v' : LV} {j : Nat} (hW : WF v) (h : burnR v told T i = .ok (v', j)) : WF v' ∧ i < j := by
  unfold burnR at h
  split at h
  · cases h
  split at h
  · cases h
  next x hx =>
  split at h
  · cases h
  next z hz =>
  cases h
  have a3 := (wordR_i hz).1
  have a4 := numR_i hx
  exact ⟨WF_burn hW a4.2.2, by omega⟩
theorem wf_law {told b : Bool} {v' : LV} {j : Nat} (hE : EndAt n f m) (hP : PrsOk P n f m) (hi : i + 1 ≤ m) (hW : WF v) (h : lawR P v b told (tk n f) i = .ok (v', j)) : WF v' ∧ i < j := by
  unfold lawR at h
  split at h
  · cases h
  split at h
  · cases h
  next p hp =>
  split at h
  · cases h
  next z hz =>
  cases h
  have a3 := (wordR_i hz).1
  have g := hP b (i + 1) hi _ _ _ (pr_go (n := n) (f := f) hE (by cases b <;> decide)) p.1 p.2 hp hi
  have := g.1
  exact ⟨WF_law hW, by omega⟩
theorem stm_wf {fg fg' : FG} {v' : LV} {j : Nat} (hE : EndAt n f m) (hP : PrsOk P n f m) (hi : i ≤ m) (hW : WF v) (h : stmS P v fg (tk n f) i = .ok ((v', fg'), j)) : WF v' ∧ i < j := by
  have lt : ¬ csort (tk n f i) = 3 → i + 1 ≤ m := fun hc => end_lt hE (fun q => hc ((cs_0 (tk_ok i)).mp q))
  have lf : ∀ {r : Except Nat (LV × Nat)} {g : FG}, liftS r g = .ok ((v', fg'), j) → r = .ok (v', j) := fun {r g} h => by
    cases r with
    | error e => cases h
    | ok p => cases h; rfl
  unfold stmS at h
  split at h
  · exact wf_fact hW (lf h)
  split at h
  · exact wf_page hW (lf h)
  split at h
  · exact wf_clash hW (lf h)
  split at h
  · exact wf_person hW (lf h)
  split at h
  · exact wf_task hW (lf h)
  split at h
  · exact wf_law hE hP (lt (by omega)) hW (lf h)
  split at h
  · exact wf_law hE hP (lt (by omega)) hW (lf h)
  split at h
  · exact wf_burn hW (lf h)
  · cases h
end StmW
section LibC1
variable {d n m e L : Nat} {u : am_U} {f : Nat → Nat} {P : Nat → Nat → Rt} {post : Option Value → am_M → Prop}
def liP (L a : Nat) : Prop := L ≤ a ∧ a ≤ L + 25
theorem empty_ok (hLL : L = 7 ∨ L = 33) (hm : most4 u L) (hb : FR u 6 2 = some L) (h : ∀ u', Only (liP L) u u' → BkC u' L vE → LwC u' L vE → post none (am_emb u')) : Cl (d + 1) 17 [.ref L] (am_emb u) post := by
  have hL : sh L 3 19 := by
    rcases hLL with e | e
    · rw [e]; exact shl_7
    · rw [e]; exact shl_33
  have fa : fAt (L + 20) := faB_at (b := false) hLL
  have fb : fAt (L + 23) := faB_at (b := true) hLL
  rw [op_17]
  simp (disch := first | exact am_nl_i _ | exact am_nl_r _ | exact am_nl_0 | assumption | omega | (refine vi_nI ?_ ?_ <;> omega) | exact b2i_01 _ | exact Or.inl rfl | exact Or.inr rfl | (unfold vi; decide)) only [ex_17_0, ex_17_1, ex_17_4, ex_17_5, ex_17_8, ex_17_9, ex_17_12, ex_17_13, ex_17_16, ex_17_17, ex_17_20, ex_17_21, ex_17_24, ex_17_25, ex_17_28, ex_17_29, ex_17_32, ex_17_33, ex_17_36, ex_17_37, ex_17_40, ex_17_41, ex_17_44, ex_17_45, ex_17_49, ex_17_50, ex_17_53, ex_17_54, ex_17_57, ex_17_58, ex_17_61, ex_17_62, ex_17_63, ex_17_66, ex_17_67, ex_17_68, ex_17_71, ex_17_72, ex_17_73, ex_17_76, ex_17_77, ex_17_78, ex_17_79, ex_17_81, ex_17_84, ex_17_85, ex_17_88, ex_17_89, ex_17_90, ex_17_91, ex_17_94, ex_17_97, ex_17_98, ex_17_99, ex_17_100, ex_17_102, ex_17_105, ex_17_106, ex_17_109, ex_17_110, ex_17_111, ex_17_112, ex_17_115, ex_17_118, if_true, if_false, and_self, Option.toList_some, Option.toList_none, List.singleton_append, List.cons_append, List.nil_append, List.append_nil, nI_1, nt_e, Int32.le_refl]
  generalize hu1 : (sFI (sFI (sFI (sFI (sFI u (L + 1) 2 0) (L + 3) 2 0) (L + 5) 2 0) (L + 7) 2 0) (L + 20) 2 0) = u1
  have o1 : Only (liP L) u u1 := by
    rw [← hu1]
    exact of_fi (of_fi (of_fi (of_fi (Only.sFI (by unfold liP; omega)) (by unfold liP; omega)) (by unfold liP; omega)) (by unfold liP; omega)) (by unfold liP; omega)
  have c1 : FI u1 (L + 1) 2 = 0 ∧ FI u1 (L + 3) 2 = 0 ∧ FI u1 (L + 5) 2 = 0 ∧ FI u1 (L + 7) 2 = 0 ∧ FI u1 (L + 20) 2 = nI 0 := by
    rw [← hu1]
    refine ⟨?_, ?_, ?_, ?_, ?_⟩
    · rw [FI_sFI, if_neg (by omega), FI_sFI, if_neg (by omega), FI_sFI, if_neg (by omega), FI_sFI, if_neg (by omega), FI_sFI, if_pos ⟨rfl, rfl⟩]
    · rw [FI_sFI, if_neg (by omega), FI_sFI, if_neg (by omega), FI_sFI, if_neg (by omega), FI_sFI, if_pos ⟨rfl, rfl⟩]
    · rw [FI_sFI, if_neg (by omega), FI_sFI, if_neg (by omega), FI_sFI, if_pos ⟨rfl, rfl⟩]
    · rw [FI_sFI, if_neg (by omega), FI_sFI, if_pos ⟨rfl, rfl⟩]
    · rw [FI_sFI, if_pos ⟨rfl, rfl⟩]; rfl
  have m1 : most4 u1 L := by
    unfold most4 at *
    rw [← hu1]
    refine ⟨?_, ?_, ?_, ?_⟩
    · rw [FI_sFI, if_neg (by omega), FI_sFI, if_neg (by omega), FI_sFI, if_neg (by omega), FI_sFI, if_neg (by omega), FI_sFI, if_neg (by omega)]; exact hm.1
    · rw [FI_sFI, if_neg (by omega), FI_sFI, if_neg (by omega), FI_sFI, if_neg (by omega), FI_sFI, if_neg (by omega), FI_sFI, if_neg (by omega)]; exact hm.2.1
    · rw [FI_sFI, if_neg (by omega), FI_sFI, if_neg (by omega), FI_sFI, if_neg (by omega), FI_sFI, if_neg (by omega), FI_sFI, if_neg (by omega)]; exact hm.2.2.1
    · rw [FI_sFI, if_neg (by omega), FI_sFI, if_neg (by omega), FI_sFI, if_neg (by omega), FI_sFI, if_neg (by omega), FI_sFI, if_neg (by omega)]; exact hm.2.2.2
  have hb1 : FR u1 6 2 = some L := by rw [(o1 6 (by unfold liP; omega)).2.2.1]; exact hb
  clear hu1
  rw [ex_17_46]
  refine fadd_any fa c1.2.2.2.2 (by decide) (fun u2 k2 o2 _ f2 h2 => ?_)
  obtain ⟨rfl, a2⟩ := h2 (by decide)
  have fm2 : FmC u2 (L + 20) (fun h _ => h) := ⟨1, by decide, f2, fun h o k0 => by
    refine evalP_seg (e := fmHv) (Seg.one ?_) FmG_hv (by decide)
    show AI u2 (L + 20 + 1) 0 = 1
    rw [a2, upd_s]
    exact ad_s rfl⟩
  simp (disch := first | exact am_nl_i _ | exact am_nl_r _ | exact am_nl_0 | (refine vi_nI ?_ ?_ <;> omega) | assumption | omega | exact b2i_01 _ | exact Or.inl rfl | exact Or.inr rfl | (unfold vi; decide)) only [ex_17_0, ex_17_1, ex_17_4, ex_17_5, ex_17_8, ex_17_9, ex_17_12, ex_17_13, ex_17_16, ex_17_17, ex_17_20, ex_17_21, ex_17_24, ex_17_25, ex_17_28, ex_17_29, ex_17_32, ex_17_33, ex_17_36, ex_17_37, ex_17_40, ex_17_41, ex_17_44, ex_17_45, ex_17_46, ex_17_49, ex_17_50, ex_17_53, ex_17_54, ex_17_57, ex_17_58, ex_17_61, ex_17_62, ex_17_66, ex_17_67, ex_17_68, ex_17_71, ex_17_72, ex_17_73, ex_17_76, ex_17_77, ex_17_78, ex_17_79, ex_17_81, ex_17_84, ex_17_85, ex_17_88, ex_17_89, ex_17_90, ex_17_91, ex_17_94, ex_17_97, ex_17_98, ex_17_99, ex_17_100, ex_17_102, ex_17_105, ex_17_106, ex_17_109, ex_17_110, ex_17_111, ex_17_112, ex_17_115, ex_17_118, if_true, if_false, and_self, Option.toList_some, Option.toList_none, List.singleton_append, List.cons_append, List.nil_append, List.append_nil, nI_1, nt_e, Int32.le_refl, Bool.true_eq_false, Bool.false_eq_true, ↓reduceIte]
  generalize hu3 : sFI u2 (L + 23) 2 0 = u3
  have o3 : Only (fun x => x = L + 23) u2 u3 := by rw [← hu3]; exact Only.sFI rfl
  have f3 : FI u3 (L + 23) 2 = nI 0 := by rw [← hu3, FI_sFI, if_pos ⟨rfl, rfl⟩]; rfl
  clear hu3
  rw [ex_17_63]
  refine fadd_any fb f3 (by decide) (fun u4 k4 o4 _ f4 h4 => ?_)
  obtain ⟨rfl, a4⟩ := h4 (by decide)
  have fm4 : FmC u4 (L + 23) (fun _ _ => 0) := ⟨1, by decide, f4, fun h o k0 => by
    refine evalP_seg (e := fmNum 0) (Seg.one ?_) (FmG_num (by decide)) (by decide)
    show AI u4 (L + 23 + 1) 0 = nI (0 * 16)
    rw [a4, upd_s]
    exact ad_s rfl⟩
  have fm4b : FmC u4 (L + 20) (fun h _ => h) := (fm2.keep o3 (by omega) (by omega)).keep o4 (by omega) (by omega)
  have o14 : Only (fun x => x = L + 20 ∨ x = L + 21 ∨ x = L + 23 ∨ x = L + 24) u1 u4 := ((o2.wk (fun x q => by omega)).tr (o3.wk (fun x q => by omega))).tr (o4.wk (fun x q => by omega))
  simp (disch := first | exact am_nl_i _ | exact am_nl_r _ | exact am_nl_0 | (refine vi_nI ?_ ?_ <;> omega) | assumption | omega | exact b2i_01 _ | exact Or.inl rfl | exact Or.inr rfl | (unfold vi; decide)) only [ex_17_0, ex_17_1, ex_17_4, ex_17_5, ex_17_8, ex_17_9, ex_17_12, ex_17_13, ex_17_16, ex_17_17, ex_17_20, ex_17_21, ex_17_24, ex_17_25, ex_17_28, ex_17_29, ex_17_32, ex_17_33, ex_17_36, ex_17_37, ex_17_40, ex_17_41, ex_17_44, ex_17_45, ex_17_46, ex_17_49, ex_17_50, ex_17_53, ex_17_54, ex_17_57, ex_17_58, ex_17_61, ex_17_62, ex_17_63, ex_17_66, ex_17_67, ex_17_68, ex_17_71, ex_17_72, ex_17_73, ex_17_76, ex_17_77, ex_17_79, ex_17_81, ex_17_84, ex_17_85, ex_17_88, ex_17_89, ex_17_90, ex_17_91, ex_17_94, ex_17_97, ex_17_98, ex_17_99, ex_17_100, ex_17_102, ex_17_105, ex_17_106, ex_17_109, ex_17_110, ex_17_111, ex_17_112, ex_17_115, ex_17_118, if_true, if_false, and_self, Option.toList_some, Option.toList_none, List.singleton_append, List.cons_append, List.nil_append, List.append_nil, nI_1, nt_e, Int32.le_refl, Bool.true_eq_false, Bool.false_eq_true, ↓reduceIte]
  generalize hu5 : sFI (sFI u4 L 17 0) L 18 0 = u5
  have o5 : Only (fun x => x = L) u4 u5 := by rw [← hu5]; exact of_fi (Only.sFI rfl) rfl
  have f5 : FI u5 L 17 = 0 ∧ FI u5 L 18 = 0 := by
    rw [← hu5]
    exact ⟨by rw [FI_sFI, if_neg (by omega), FI_sFI, if_pos ⟨rfl, rfl⟩], by rw [FI_sFI, if_pos ⟨rfl, rfl⟩]⟩
  clear hu5
  have loop2 : ∀ (kz k : Nat), k + kz = 6 → ∀ u6, Only (fun x => x = L + 13 ∨ x = L + 15) u5 u6 → (∀ i, i < 12 → AI u6 (L + 13) i = 0) → (∀ i, i < k → AI u6 (L + 15) i = 0) → Ex (d + 1) 17 99 [some (.ref L), some (.int (nI k))] [] (am_emb u6) post := by
    intro kz
    induction kz with
    | zero =>
      intro k hk u6 o6 r1 r2
      obtain rfl : k = 6 := by omega
      have e16 := fun x (hx : ¬ (x = L + 13 ∨ x = L + 15 ∨ x = L ∨ x = L + 20 ∨ x = L + 21 ∨ x = L + 23 ∨ x = L + 24)) => ((o14.wk (Q := fun x => x = L + 13 ∨ x = L + 15 ∨ x = L ∨ x = L + 20 ∨ x = L + 21 ∨ x = L + 23 ∨ x = L + 24) (fun x q => by omega)).tr ((o5.wk (fun x q => by omega)).tr (o6.wk (fun x q => by omega)))) x hx
      have oL := o6 L (by omega)
      have hfin := h u6 (o1.tr ((o14.wk (fun x q => by unfold liP; omega)).tr ((o5.wk (fun x q => by unfold liP; omega)).tr (o6.wk (fun x q => by unfold liP; omega))))) ⟨LibC_mk ⟨by rw [(e16 (L + 1) (by omega)).1]; exact c1.1, by rw [(e16 (L + 3) (by omega)).1]; exact c1.2.1, by rw [(e16 (L + 5) (by omega)).1]; exact c1.2.2.1, by rw [(e16 (L + 7) (by omega)).1]; exact c1.2.2.2.1⟩ (by
        unfold most4
        rw [(e16 (L + 1) (by omega)).1, (e16 (L + 3) (by omega)).1, (e16 (L + 5) (by omega)).1, (e16 (L + 7) (by omega)).1]
        exact m1) (fun r i hr hD => by
          rw [Nat.zero_add]
          refine r11 (P := fun r => i < bndC vE r → AI u6 (L + 9 + r) i = 0) (fun q => absurd q (Nat.not_lt_zero i)) (fun q => absurd q (Nat.not_lt_zero i)) (fun q => absurd q (Nat.not_lt_zero i)) (fun q => absurd q (Nat.not_lt_zero i)) (fun q => r1 i q) (fun q => absurd q (Nat.not_lt_zero i)) (fun q => r2 i q) (fun q => absurd q (Nat.not_lt_zero i)) (fun q => absurd q (Nat.not_lt_zero i)) (fun q => absurd q (Nat.not_lt_zero i)) (fun q => absurd q (Nat.not_lt_zero i)) r hr hD) (by rw [oL.1]; exact f5.1) (by rw [oL.1]; exact f5.2), ⟨fun i hi => absurd hi (Nat.not_lt_zero i), fun i hi => absurd hi (Nat.not_lt_zero i), fun i hi => absurd hi (Nat.not_lt_zero i), fun i hi => absurd hi (Nat.not_lt_zero i)⟩, by rw [(e16 6 (by omega)).2.2.1]; exact hb1, ⟨by decide, by decide, by decide, by decide⟩, hLL⟩ ⟨(fm4b.keep o5 (by omega) (by omega)).keep o6 (by omega) (by omega), (fm4.keep o5 (by omega) (by omega)).keep o6 (by omega) (by omega)⟩
      rw [ex_17_99]
      simp (disch := first | exact am_nl_i _ | exact am_nl_r _ | exact am_nl_0 | (refine vi_nI ?_ ?_ <;> omega) | assumption | omega | exact b2i_01 _ | exact Or.inl rfl | exact Or.inr rfl | (unfold vi; decide)) only [ex_17_0, ex_17_1, ex_17_4, ex_17_5, ex_17_8, ex_17_9, ex_17_12, ex_17_13, ex_17_16, ex_17_17, ex_17_20, ex_17_21, ex_17_24, ex_17_25, ex_17_28, ex_17_29, ex_17_32, ex_17_33, ex_17_36, ex_17_37, ex_17_40, ex_17_41, ex_17_44, ex_17_45, ex_17_46, ex_17_49, ex_17_50, ex_17_53, ex_17_54, ex_17_57, ex_17_58, ex_17_61, ex_17_62, ex_17_63, ex_17_66, ex_17_67, ex_17_68, ex_17_71, ex_17_72, ex_17_73, ex_17_76, ex_17_77, ex_17_78, ex_17_79, ex_17_81, ex_17_84, ex_17_85, ex_17_88, ex_17_89, ex_17_90, ex_17_91, ex_17_94, ex_17_97, ex_17_98, ex_17_100, ex_17_102, ex_17_105, ex_17_106, ex_17_109, ex_17_110, ex_17_111, ex_17_112, ex_17_115, ex_17_118, if_true, if_false, and_self, Option.toList_some, Option.toList_none, List.singleton_append, List.cons_append, List.nil_append, List.append_nil, nI_1, nt_e, Int32.le_refl, lq6, nI_leI, Nat.le_refl, Bool.true_eq_false, Bool.false_eq_true, ↓reduceIte]
      exact hfin
    | succ kz ih =>
      intro k hk u6 o6 r1 r2
      have q : ¬ 6 ≤ k := by omega
      rw [ex_17_99]
      simp (disch := first | exact am_nl_i _ | exact am_nl_r _ | exact am_nl_0 | (refine vi_nI ?_ ?_ <;> omega) | assumption | omega | exact b2i_01 _ | exact Or.inl rfl | exact Or.inr rfl | (unfold vi; decide)) only [ex_17_0, ex_17_1, ex_17_4, ex_17_5, ex_17_8, ex_17_9, ex_17_12, ex_17_13, ex_17_16, ex_17_17, ex_17_20, ex_17_21, ex_17_24, ex_17_25, ex_17_28, ex_17_29, ex_17_32, ex_17_33, ex_17_36, ex_17_37, ex_17_40, ex_17_41, ex_17_44, ex_17_45, ex_17_46, ex_17_49, ex_17_50, ex_17_53, ex_17_54, ex_17_57, ex_17_58, ex_17_61, ex_17_62, ex_17_63, ex_17_66, ex_17_67, ex_17_68, ex_17_71, ex_17_72, ex_17_73, ex_17_76, ex_17_77, ex_17_78, ex_17_79, ex_17_81, ex_17_84, ex_17_85, ex_17_88, ex_17_89, ex_17_90, ex_17_91, ex_17_94, ex_17_97, ex_17_98, ex_17_100, ex_17_102, ex_17_105, ex_17_106, ex_17_109, ex_17_110, ex_17_111, ex_17_112, ex_17_115, ex_17_118, if_true, if_false, and_self, Option.toList_some, Option.toList_none, List.singleton_append, List.cons_append, List.nil_append, List.append_nil, nI_1, nt_e, Int32.le_refl, lq6, nI_leI, q, nI_clamp, nI_1, Bool.true_eq_false, Bool.false_eq_true, ↓reduceIte]
      refine ih (k + 1) (by omega) _ (of_ai o6 (Or.inr rfl)) (fun i hi => by rw [AI_sAI, if_neg (by omega)]; exact r1 i hi) (fun i hi => ?_)
      rw [AI_sAI, if_pos rfl]
      by_cases e : i = k
      · rw [e, upd_s]
      · rw [upd_n e]; exact r2 i (by omega)
      all_goals exact hL
  have loop1 : ∀ (kz k : Nat), k + kz = 12 → ∀ u6, Only (fun x => x = L + 13 ∨ x = L + 15) u5 u6 → (∀ i, i < k → AI u6 (L + 13) i = 0) → Ex (d + 1) 17 78 [some (.ref L), some (.int (nI k))] [] (am_emb u6) post := by
    intro kz
    induction kz with
    | zero =>
      intro k hk u6 o6 r1
      obtain rfl : k = 12 := by omega
      rw [ex_17_78]
      simp (disch := first | exact am_nl_i _ | exact am_nl_r _ | exact am_nl_0 | (refine vi_nI ?_ ?_ <;> omega) | assumption | omega | exact b2i_01 _ | exact Or.inl rfl | exact Or.inr rfl | (unfold vi; decide)) only [ex_17_0, ex_17_1, ex_17_4, ex_17_5, ex_17_8, ex_17_9, ex_17_12, ex_17_13, ex_17_16, ex_17_17, ex_17_20, ex_17_21, ex_17_24, ex_17_25, ex_17_28, ex_17_29, ex_17_32, ex_17_33, ex_17_36, ex_17_37, ex_17_40, ex_17_41, ex_17_44, ex_17_45, ex_17_46, ex_17_49, ex_17_50, ex_17_53, ex_17_54, ex_17_57, ex_17_58, ex_17_61, ex_17_62, ex_17_63, ex_17_66, ex_17_67, ex_17_68, ex_17_71, ex_17_72, ex_17_73, ex_17_76, ex_17_77, ex_17_79, ex_17_81, ex_17_84, ex_17_85, ex_17_88, ex_17_89, ex_17_90, ex_17_91, ex_17_94, ex_17_97, ex_17_98, ex_17_100, ex_17_102, ex_17_105, ex_17_106, ex_17_109, ex_17_110, ex_17_111, ex_17_112, ex_17_115, ex_17_118, if_true, if_false, and_self, Option.toList_some, Option.toList_none, List.singleton_append, List.cons_append, List.nil_append, List.append_nil, nI_1, nt_e, Int32.le_refl, lq12, nI_leI, Nat.le_refl, Bool.true_eq_false, Bool.false_eq_true, ↓reduceIte]
      exact loop2 6 0 (by omega) u6 o6 r1 (fun i hi => absurd hi (Nat.not_lt_zero i))
    | succ kz ih =>
      intro k hk u6 o6 r1
      have q : ¬ 12 ≤ k := by omega
      rw [ex_17_78]
      simp (disch := first | exact am_nl_i _ | exact am_nl_r _ | exact am_nl_0 | (refine vi_nI ?_ ?_ <;> omega) | assumption | omega | exact b2i_01 _ | exact Or.inl rfl | exact Or.inr rfl | (unfold vi; decide)) only [ex_17_0, ex_17_1, ex_17_4, ex_17_5, ex_17_8, ex_17_9, ex_17_12, ex_17_13, ex_17_16, ex_17_17, ex_17_20, ex_17_21, ex_17_24, ex_17_25, ex_17_28, ex_17_29, ex_17_32, ex_17_33, ex_17_36, ex_17_37, ex_17_40, ex_17_41, ex_17_44, ex_17_45, ex_17_46, ex_17_49, ex_17_50, ex_17_53, ex_17_54, ex_17_57, ex_17_58, ex_17_61, ex_17_62, ex_17_63, ex_17_66, ex_17_67, ex_17_68, ex_17_71, ex_17_72, ex_17_73, ex_17_76, ex_17_77, ex_17_79, ex_17_81, ex_17_84, ex_17_85, ex_17_88, ex_17_89, ex_17_90, ex_17_91, ex_17_94, ex_17_97, ex_17_98, ex_17_99, ex_17_100, ex_17_102, ex_17_105, ex_17_106, ex_17_109, ex_17_110, ex_17_111, ex_17_112, ex_17_115, ex_17_118, if_true, if_false, and_self, Option.toList_some, Option.toList_none, List.singleton_append, List.cons_append, List.nil_append, List.append_nil, nI_1, nt_e, Int32.le_refl, lq12, nI_leI, q, nI_clamp, nI_1, Bool.true_eq_false, Bool.false_eq_true, ↓reduceIte]
      refine ih (k + 1) (by omega) _ (of_ai o6 (Or.inl rfl)) (fun i hi => ?_)
      rw [AI_sAI, if_pos rfl]
      by_cases e : i = k
      · rw [e, upd_s]
      · rw [upd_n e]; exact r1 i (by omega)
      all_goals exact hL
  exact loop1 12 0 (by omega) u5 (Only.rf _ _) (fun i hi => absurd hi (Nat.not_lt_zero i))
  all_goals exact hL
end LibC1
