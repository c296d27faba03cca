/-! THE CLASS'S TAPE: words -/
def kw : List (List Nat) := [[6, 1, 3, 20], [12, 5, 1, 14, 19], [16, 1, 7, 5], [23, 5, 9, 7, 8], [3, 15, 16, 9, 5, 19], [19, 1, 25, 19], [3, 12, 1, 19, 8], [16, 5, 18, 19, 15, 14], [18, 15, 15, 13], [4, 9, 5], [8, 5, 9, 18], [20, 1, 19, 11], [23, 15, 18, 20, 8], [14, 5, 5, 4, 19], [3, 15, 16, 25], [2, 9, 20, 5], [2, 21, 18, 14], [20, 18, 21, 5], [12, 9, 5], [18, 5, 3, 9, 16, 5], [5, 1, 20], [4, 9, 5, 19], [14, 9, 7, 8, 20], [14, 15, 20], [1, 14, 4], [15, 18], [8, 5, 1, 22, 25], [20, 8, 5, 18, 5], [8, 1, 19]]
def chE (w : List Nat) : List Int32 := w.map (fun x => nI (x + 96))
def flatW : List (List Nat) → List Int32
  | [] => []
  | x :: xs => chE x ++ 32 :: flatW xs
theorem kw_chars : am_chars = flatW kw := by decide +kernel
theorem kw_len : am_chars.length < 1000 := by decide +kernel
def kwI : List (List Nat) → List Nat → Nat → Nat
  | [], _, _ => 1
  | x :: xs, w, s => if x = w then s else kwI xs w (s + 1)
def sortW (w : List Nat) : Nat := kwI kw w 200
theorem kw_ok : ∀ y, y ∈ kw → ∀ x, x ∈ y → 1 ≤ x ∧ x ≤ 26 := by decide +kernel
theorem nI_subl (a b : Nat) : nI (a + b) - nI a = nI b := by
  rw [← nI_add, Int32.sub_eq_add_neg, Int32.add_comm (nI a), Int32.add_assoc, ← Int32.sub_eq_add_neg, Int32.sub_self, Int32.add_zero]
theorem drop_c {l r : List Int32} {c : Int32} {i : Nat} (h : l.drop i = c :: r) : i < l.length ∧ l.getD i 0 = c ∧ l.drop (i + 1) = r := by
  have h1 : i < l.length := by
    by_cases q : i < l.length
    · exact q
    · rw [List.drop_eq_nil_of_le (by omega)] at h
      cases h
  refine ⟨h1, ?_, ?_⟩
  · rw [List.drop_eq_getElem_cons h1] at h
    rw [List.getD_eq_getElem?_getD, List.getElem?_eq_getElem h1]
    exact (List.cons.inj h).1
  · rw [List.drop_eq_getElem_cons h1] at h
    exact (List.cons.inj h).2
/-- how many of the letters so far are alike -/
def alW (w pre : List Nat) : Int32 := if pre <+: w then nI pre.length else -1
theorem pre_s {w pre : List Nat} {x : Nat} : pre ++ [x] <+: w ↔ pre <+: w ∧ ∃ h : pre.length < w.length, w[pre.length] = x := by
  constructor
  · rintro ⟨r, rfl⟩
    refine ⟨⟨[x] ++ r, by simp⟩, by simp, by simp⟩
  · rintro ⟨⟨r, rfl⟩, h1, h2⟩
    cases r with
    | nil => simp at h1
    | cons y r =>
      simp at h2
      exact ⟨r, by simp [h2]⟩
theorem pre_all {w pre : List Nat} (h : pre <+: w) : pre.length = w.length ↔ pre = w := by
  obtain ⟨r, rfl⟩ := h
  constructor
  · intro e
    have : r = [] := by
      rw [List.length_append] at e
      exact List.length_eq_zero_iff.mp (by omega)
    rw [this, List.append_nil]
  · intro e
    rw [← e]
section Words
variable {d n q : Nat} {u : am_U} {f : Nat → Nat} {w : List Nat}
theorem sort_ok {post : Option Value → am_M → Prop} (hT : TpC u n f) (hw : w.length ≤ 8) (hq : q + w.length ≤ n) (hl : ∀ j (h : j < w.length), f (q + j) = w[j] + 96) (hx : ∀ x, x ∈ w → 1 ≤ x ∧ x ≤ 26) : Cl (d + 5) 114 [.ref 1, .int (nI q), .int (nI w.length)] (am_emb u) post ↔ post (some (.int (nI (sortW w)))) (am_emb u) := by
  refine Cl_iff ?_ post
  have hg := am_gS u
  have hn := hT.2.2.1
  have kl := kw_len
  rw [op_114]
  have outer : ∀ (ws : List (List Nat)) (s i : Nat) (j6 : Option Value), (∀ y, y ∈ ws → ∀ x, x ∈ y → 1 ≤ x ∧ x ≤ 26) → am_chars.drop i = flatW ws → i ≤ am_chars.length → s + ws.length < 1000 → Ex (d + 5) 114 10 [some (.ref 1), some (.int (nI q)), some (.int (nI w.length)), some (.int (nI s)), some (.int 0), some (.int (nI i)), j6] [] (am_emb u) (fun v m => v = some (.int (nI (kwI ws w s))) ∧ m = am_emb u) := by
    intro ws
    induction ws with
    | nil =>
      intro s i j6 _ hd hi _
      have hi2 : am_chars.length ≤ i := by
        by_cases q : am_chars.length ≤ i
        · exact q
        · rw [List.drop_eq_getElem_cons (by omega)] at hd
          cases hd
      have hle : Int32.ofNat am_chars.length ≤ nI i := (nI_leI (a := am_chars.length) (b := i) (by omega) (by omega)).mpr hi2
      rw [ex_114_10]
      simp (disch := first | exact am_nl_i _ | exact am_nl_r _ | exact am_nl_0 | (refine vi_nI ?_ ?_ <;> omega) | assumption | omega | exact b2i_01 _ | exact Or.inl rfl | exact Or.inr rfl | (unfold vi; decide)) only [ex_114_0, ex_114_3, ex_114_4, ex_114_5, ex_114_7, ex_114_8, ex_114_12, ex_114_17, ex_114_20, ex_114_22, ex_114_27, ex_114_29, ex_114_31, ex_114_33, ex_114_36, ex_114_38, ex_114_39, ex_114_42, ex_114_43, ex_114_44, ex_114_47, ex_114_48, ex_114_50, ex_114_53, ex_114_55, ex_114_58, ex_114_60, ex_114_61, ex_114_64, ex_114_65, ex_114_66, ex_114_68, ex_114_69, ex_114_72, ex_114_74, ex_114_77, ex_114_79, ex_114_80, ex_114_81, ex_114_84, ex_114_85, ex_114_87, ex_114_90, ex_114_93, ex_114_94, if_true, if_false, and_self, Option.toList_some, Option.toList_none, List.singleton_append, List.cons_append, List.nil_append, List.append_nil, nI_1, nt_e, Int32.le_refl, ex_114_14, hle, Bool.true_eq_false, Bool.false_eq_true, ↓reduceIte]
      try exact ⟨rfl, trivial⟩
    | cons x0 ws ih =>
      intro s i j6 hy hd hi hs
      have hs : s + (ws.length + 1) < 1000 := hs
      have inner : ∀ (suf pre : List Nat) (i : Nat) (j6 : Option Value), (∀ x, x ∈ suf → 1 ≤ x ∧ x ≤ 26) → am_chars.drop i = chE suf ++ 32 :: flatW ws → Ex (d + 5) 114 10 [some (.ref 1), some (.int (nI q)), some (.int (nI w.length)), some (.int (nI s)), some (.int (alW w pre)), some (.int (nI i)), j6] [] (am_emb u) (fun v m => v = some (.int (nI (if pre ++ suf = w then s else kwI ws w (s + 1)))) ∧ m = am_emb u) := by
        intro suf
        induction suf with
        | nil =>
          intro pre i j6 _ hd
          obtain ⟨c1, c2, c3⟩ := drop_c (c := 32) (r := flatW ws) hd
          have hle : ¬ Int32.ofNat am_chars.length ≤ nI i := fun e => by
            have := (nI_leI (a := am_chars.length) (b := i) (by omega) (by omega)).mp e
            omega
          have hin : am_in (nI i) am_chars.length = true := vi_in (vi_nI c1 (by omega))
          have ihs := ih (s + 1) (i + 1) (some (.int 32)) (fun y h => hy y (List.mem_cons_of_mem _ h)) c3 (by omega) (by omega)
          rw [List.append_nil]
          rw [ex_114_10]
          by_cases e : pre = w
          · have ea : alW w pre = nI w.length := by unfold alW; rw [e, if_pos (List.prefix_refl w)]
            rw [if_pos e]
            simp (disch := first | exact am_nl_i _ | exact am_nl_r _ | exact am_nl_0 | (refine vi_nI ?_ ?_ <;> omega) | assumption | omega | exact b2i_01 _ | exact Or.inl rfl | exact Or.inr rfl | (unfold vi; decide)) only [ex_114_0, ex_114_3, ex_114_4, ex_114_5, ex_114_7, ex_114_8, ex_114_12, ex_114_17, ex_114_20, ex_114_22, ex_114_27, ex_114_29, ex_114_31, ex_114_33, ex_114_36, ex_114_38, ex_114_39, ex_114_42, ex_114_43, ex_114_44, ex_114_47, ex_114_48, ex_114_50, ex_114_53, ex_114_55, ex_114_58, ex_114_60, ex_114_61, ex_114_64, ex_114_65, ex_114_66, ex_114_68, ex_114_69, ex_114_72, ex_114_74, ex_114_77, ex_114_79, ex_114_80, ex_114_81, ex_114_84, ex_114_85, ex_114_87, ex_114_90, ex_114_93, ex_114_94, if_true, if_false, and_self, Option.toList_some, Option.toList_none, List.singleton_append, List.cons_append, List.nil_append, List.append_nil, nI_1, nt_e, Int32.le_refl, ex_114_14, ex_114_24, hle, nI_clamp, c2, ea, Bool.true_eq_false, Bool.false_eq_true, ↓reduceIte]
            try exact ⟨rfl, trivial⟩
          · have ea : ¬ alW w pre = nI w.length := fun h => by
              unfold alW at h
              split at h
              · next hp =>
                have hp2 := hp.length_le
                have h := congrArg ix h
                rw [ix_nI (by omega), ix_nI (by omega)] at h
                exact e ((pre_all hp).mp h)
              · have := (i_eqm (n := w.length) (by omega)).mp h.symm
                exact this
            rw [if_neg e]
            simp (disch := first | exact am_nl_i _ | exact am_nl_r _ | exact am_nl_0 | (refine vi_nI ?_ ?_ <;> omega) | assumption | omega | exact b2i_01 _ | exact Or.inl rfl | exact Or.inr rfl | (unfold vi; decide)) only [ex_114_0, ex_114_3, ex_114_4, ex_114_5, ex_114_7, ex_114_8, ex_114_12, ex_114_17, ex_114_20, ex_114_22, ex_114_27, ex_114_29, ex_114_31, ex_114_33, ex_114_36, ex_114_38, ex_114_39, ex_114_42, ex_114_43, ex_114_44, ex_114_47, ex_114_48, ex_114_50, ex_114_53, ex_114_55, ex_114_58, ex_114_60, ex_114_61, ex_114_64, ex_114_65, ex_114_66, ex_114_68, ex_114_69, ex_114_72, ex_114_74, ex_114_77, ex_114_79, ex_114_80, ex_114_81, ex_114_84, ex_114_85, ex_114_87, ex_114_90, ex_114_93, ex_114_94, if_true, if_false, and_self, Option.toList_some, Option.toList_none, List.singleton_append, List.cons_append, List.nil_append, List.append_nil, nI_1, nt_e, Int32.le_refl, ex_114_14, ex_114_24, hle, nI_clamp, c2, ea, Bool.true_eq_false, Bool.false_eq_true, ↓reduceIte]
            exact ihs
        | cons x suf ih2 =>
          intro pre i j6 hxs hd
          obtain ⟨c1, c2, c3⟩ := drop_c (c := nI (x + 96)) (r := chE suf ++ 32 :: flatW ws) hd
          have hx1 := hxs x (List.mem_cons_self ..)
          have hle : ¬ Int32.ofNat am_chars.length ≤ nI i := fun e => by
            have := (nI_leI (a := am_chars.length) (b := i) (by omega) (by omega)).mp e
            omega
          have hin : am_in (nI i) am_chars.length = true := vi_in (vi_nI c1 (by omega))
          have n32 : ¬ nI (x + 96) = (32 : Int32) := fun e => by
            have := (eq_lit (x + 96) (by omega)).2.mp e
            omega
          have ih3 := ih2 (pre ++ [x]) (i + 1) (some (.int (nI (x + 96)))) (fun y h => hxs y (List.mem_cons_of_mem _ h)) c3
          rw [List.append_assoc, List.singleton_append] at ih3
          rw [ex_114_10]
          by_cases hp : pre <+: w
          · have hpl := hp.length_le
            have ea : alW w pre = nI pre.length := by unfold alW; rw [if_pos hp]
            have e0 : ¬ nI pre.length < 0 := by rw [i_lt0 (by omega)]; exact id
            by_cases hlt : pre.length < w.length
            · have hnle : ¬ w.length ≤ pre.length := by omega
              have hs2 : q + pre.length < n := by omega
              have hfl := hl pre.length hlt
              by_cases e : w[pre.length] = x
              · have ea2 : alW w (pre ++ [x]) = nI (pre.length + 1) := by
                  unfold alW
                  rw [if_pos (pre_s.mpr ⟨hp, hlt, e⟩), List.length_append, List.length_singleton]
                rw [ea2] at ih3
                rw [e] at hfl
                rw [ea]
                simp (disch := first | exact am_nl_i _ | exact am_nl_r _ | exact am_nl_0 | (refine vi_nI ?_ ?_ <;> omega) | assumption | omega | exact b2i_01 _ | exact Or.inl rfl | exact Or.inr rfl | (unfold vi; decide)) only [ex_114_0, ex_114_3, ex_114_4, ex_114_5, ex_114_7, ex_114_8, ex_114_12, ex_114_17, ex_114_20, ex_114_22, ex_114_27, ex_114_29, ex_114_31, ex_114_33, ex_114_36, ex_114_38, ex_114_39, ex_114_42, ex_114_43, ex_114_44, ex_114_47, ex_114_48, ex_114_50, ex_114_53, ex_114_55, ex_114_58, ex_114_60, ex_114_61, ex_114_64, ex_114_65, ex_114_66, ex_114_68, ex_114_69, ex_114_72, ex_114_74, ex_114_77, ex_114_79, ex_114_80, ex_114_81, ex_114_84, ex_114_85, ex_114_87, ex_114_90, ex_114_93, ex_114_94, if_true, if_false, and_self, Option.toList_some, Option.toList_none, List.singleton_append, List.cons_append, List.nil_append, List.append_nil, nI_1, nt_e, Int32.le_refl, ex_114_14, ex_114_24, hle, nI_clamp, c2, n32, e0, nI_leI, hnle, nI_add, signAt_ok hT, hs2, hfl, Bool.true_eq_false, Bool.false_eq_true, ↓reduceIte]
                exact ih3
              · have ea2 : alW w (pre ++ [x]) = -1 := by
                  unfold alW
                  rw [if_neg (fun h => by obtain ⟨_, _, h⟩ := pre_s.mp h; exact e h)]
                have hwx := hx w[pre.length] (List.getElem_mem hlt)
                have hne : ¬ nI (w[pre.length] + 96) = nI (x + 96) := fun h => by
                  have h := congrArg ix h
                  rw [ix_nI (by omega), ix_nI (by omega)] at h
                  omega
                rw [ea2] at ih3
                rw [ea]
                simp (disch := first | exact am_nl_i _ | exact am_nl_r _ | exact am_nl_0 | (refine vi_nI ?_ ?_ <;> omega) | assumption | omega | exact b2i_01 _ | exact Or.inl rfl | exact Or.inr rfl | (unfold vi; decide)) only [ex_114_0, ex_114_3, ex_114_4, ex_114_5, ex_114_7, ex_114_8, ex_114_12, ex_114_17, ex_114_20, ex_114_22, ex_114_27, ex_114_29, ex_114_31, ex_114_33, ex_114_36, ex_114_38, ex_114_39, ex_114_42, ex_114_43, ex_114_44, ex_114_47, ex_114_48, ex_114_50, ex_114_53, ex_114_55, ex_114_58, ex_114_60, ex_114_61, ex_114_64, ex_114_65, ex_114_66, ex_114_68, ex_114_69, ex_114_72, ex_114_74, ex_114_77, ex_114_79, ex_114_80, ex_114_81, ex_114_84, ex_114_85, ex_114_87, ex_114_90, ex_114_93, ex_114_94, if_true, if_false, and_self, Option.toList_some, Option.toList_none, List.singleton_append, List.cons_append, List.nil_append, List.append_nil, nI_1, nt_e, Int32.le_refl, ex_114_14, ex_114_24, hle, nI_clamp, c2, n32, e0, nI_leI, hnle, nI_add, signAt_ok hT, hs2, hfl, hne, Bool.true_eq_false, Bool.false_eq_true, ↓reduceIte]
                exact ih3
            · have hle2 : w.length ≤ pre.length := by omega
              have ea2 : alW w (pre ++ [x]) = -1 := by
                unfold alW
                rw [if_neg (fun h => by obtain ⟨_, h, _⟩ := pre_s.mp h; omega)]
              rw [ea2] at ih3
              rw [ea]
              simp (disch := first | exact am_nl_i _ | exact am_nl_r _ | exact am_nl_0 | (refine vi_nI ?_ ?_ <;> omega) | assumption | omega | exact b2i_01 _ | exact Or.inl rfl | exact Or.inr rfl | (unfold vi; decide)) only [ex_114_0, ex_114_3, ex_114_4, ex_114_5, ex_114_7, ex_114_8, ex_114_12, ex_114_17, ex_114_20, ex_114_22, ex_114_27, ex_114_29, ex_114_31, ex_114_33, ex_114_36, ex_114_38, ex_114_39, ex_114_42, ex_114_43, ex_114_44, ex_114_47, ex_114_48, ex_114_50, ex_114_53, ex_114_55, ex_114_58, ex_114_60, ex_114_61, ex_114_64, ex_114_65, ex_114_66, ex_114_68, ex_114_69, ex_114_72, ex_114_74, ex_114_77, ex_114_79, ex_114_80, ex_114_81, ex_114_84, ex_114_85, ex_114_87, ex_114_90, ex_114_93, ex_114_94, if_true, if_false, and_self, Option.toList_some, Option.toList_none, List.singleton_append, List.cons_append, List.nil_append, List.append_nil, nI_1, nt_e, Int32.le_refl, ex_114_14, ex_114_24, hle, nI_clamp, c2, n32, e0, nI_leI, hle2, Bool.true_eq_false, Bool.false_eq_true, ↓reduceIte]
              exact ih3
          · have ea : alW w pre = -1 := by unfold alW; rw [if_neg hp]
            have ea2 : alW w (pre ++ [x]) = -1 := by
              unfold alW
              rw [if_neg (fun h => hp (pre_s.mp h).1)]
            rw [ea2] at ih3
            rw [ea]
            simp (disch := first | exact am_nl_i _ | exact am_nl_r _ | exact am_nl_0 | (refine vi_nI ?_ ?_ <;> omega) | assumption | omega | exact b2i_01 _ | exact Or.inl rfl | exact Or.inr rfl | (unfold vi; decide)) only [ex_114_0, ex_114_3, ex_114_4, ex_114_5, ex_114_7, ex_114_8, ex_114_12, ex_114_17, ex_114_20, ex_114_22, ex_114_27, ex_114_29, ex_114_31, ex_114_33, ex_114_36, ex_114_38, ex_114_39, ex_114_42, ex_114_43, ex_114_44, ex_114_47, ex_114_48, ex_114_50, ex_114_53, ex_114_55, ex_114_58, ex_114_60, ex_114_61, ex_114_64, ex_114_65, ex_114_66, ex_114_68, ex_114_69, ex_114_72, ex_114_74, ex_114_77, ex_114_79, ex_114_80, ex_114_81, ex_114_84, ex_114_85, ex_114_87, ex_114_90, ex_114_93, ex_114_94, if_true, if_false, and_self, Option.toList_some, Option.toList_none, List.singleton_append, List.cons_append, List.nil_append, List.append_nil, nI_1, nt_e, Int32.le_refl, ex_114_14, ex_114_24, hle, nI_clamp, c2, n32, show (-1 : Int32) < 0 from by decide, Bool.true_eq_false, Bool.false_eq_true, ↓reduceIte]
            exact ih3
      have := inner x0 [] i j6 (hy x0 (List.mem_cons_self ..)) hd
      rw [List.nil_append] at this
      rw [show alW w [] = 0 from if_pos (List.nil_prefix ..)] at this
      exact this
  simp (disch := first | exact am_nl_i _ | exact am_nl_r _ | exact am_nl_0 | assumption | omega | (refine vi_nI ?_ ?_ <;> omega) | exact b2i_01 _ | exact Or.inl rfl | exact Or.inr rfl | (unfold vi; decide)) only [ex_114_0, ex_114_3, ex_114_4, ex_114_5, ex_114_7, ex_114_8, ex_114_12, ex_114_17, ex_114_20, ex_114_22, ex_114_27, ex_114_29, ex_114_31, ex_114_33, ex_114_36, ex_114_38, ex_114_39, ex_114_42, ex_114_43, ex_114_44, ex_114_47, ex_114_48, ex_114_50, ex_114_53, ex_114_55, ex_114_58, ex_114_60, ex_114_61, ex_114_64, ex_114_65, ex_114_66, ex_114_68, ex_114_69, ex_114_72, ex_114_74, ex_114_77, ex_114_79, ex_114_80, ex_114_81, ex_114_84, ex_114_85, ex_114_87, ex_114_90, ex_114_93, ex_114_94, if_true, if_false, and_self, Option.toList_some, Option.toList_none, List.singleton_append, List.cons_append, List.nil_append, List.append_nil, nI_1, nt_e, Int32.le_refl]
  exact outer kw 200 0 none kw_ok kw_chars (Nat.zero_le _) (by decide)
end Words
