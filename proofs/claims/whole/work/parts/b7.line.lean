/-! A LINE OF A HISTORY: what is read -/
def actN (c : Nat) : Option Nat := if c = 220 then some 0 else if c = 215 then some 1 else if c = 214 then some 2 else if c = 221 then some 3 else if c = 222 then some 4 else none
def lkR (v : LV) (k : Nat) (want : Bool) (T : Nat → Tok) (i : Nat) : Except Nat (Option Nat × Nat) := if want then (match lookR v k (T i) with
  | .error e => .error e
  | .ok p => .ok (some p, i + 1)) else .ok (none, i)
abbrev LN : Type := Nat × Option Nat × Option Nat × Option Nat
def lineR (v : LV) (full : Bool) (T : Nat → Tok) (i : Nat) : Except Nat (LN × Nat) := match actN (csort (T i)) with
  | none => .error (fl 1 (T i))
  | some a => if full then .error (fl 5 (T i)) else (match lkR v 2 (decide (a = 0 ∨ a = 1 ∨ a = 3)) T (i + 1) with
    | .error e => .error e
    | .ok p => match lkR v 2 (decide (a = 1)) T p.2 with
      | .error e => .error e
      | .ok q => match lkR v 1 (decide (a < 3)) T q.2 with
        | .error e => .error e
        | .ok r => match wordR 59 T r.2 with
          | .error e => .error e
          | .ok j => .ok ((a, p.1, q.1, r.1), j))
/-- the lines so far, with one more -/
def addLn (h : HL) (x : LN) : HL := (h.1 + 1, fun j k => if j = h.1 then (if k = 0 then nI x.1 else if k = 1 then oI x.2.1 else if k = 2 then oI x.2.2.1 else oI x.2.2.2) else h.2 j k)
def histS (v : LV) (T : Nat → Tok) : Nat → HL → Nat → Except Nat HL
  | 0, h, _ => .ok h
  | g + 1, h, i => if csort (T i) = 3 then .ok h else (match lineR v (decide (24 ≤ h.1)) T i with
    | .error e => .error e
    | .ok p => histS v T g (addLn h p.1) p.2)
theorem actN_lt {c a : Nat} (h : actN c = some a) : a < 5 ∧ ¬ c = 3 ∧ nI c = tokOf (nI a) := by
  unfold actN at h
  split at h
  · next q => cases h; rw [q]; exact ⟨by decide, by decide, by decide⟩
  split at h
  · next q => cases h; rw [q]; exact ⟨by decide, by decide, by decide⟩
  split at h
  · next q => cases h; rw [q]; exact ⟨by decide, by decide, by decide⟩
  split at h
  · next q => cases h; rw [q]; exact ⟨by decide, by decide, by decide⟩
  split at h
  · next q => cases h; rw [q]; exact ⟨by decide, by decide, by decide⟩
  · cases h
section LineC
variable {d q c : Nat} {u : am_U} {h : HL} {post : Option Value → am_M → Prop}
theorem lfull_ok (hs : sh q 5 5) (hc : FI u q 4 = nI c) (hc2 : c ≤ 24) : Cl d 55 [.ref q] (am_emb u) post ↔ post (some (.int (b2i (decide (24 ≤ c))))) (am_emb u) := by
  rw [op_55]
  have e24 : (24 : Int32) = nI 24 := rfl
  by_cases z : c < 24
  · have z2 : ¬ 24 ≤ c := by omega
    rw [decide_eq_false z2]
    simp (disch := first | exact am_nl_i _ | exact am_nl_r _ | exact am_nl_0 | (refine vi_nI ?_ ?_ <;> omega) | assumption | omega | exact b2i_01 _ | exact Or.inl rfl | exact Or.inr rfl | (unfold vi; decide)) only [ex_55_0, ex_55_1, ex_55_4, ex_55_6, ex_55_9, ex_55_10, ex_55_13, ex_55_14, if_true, if_false, and_self, Option.toList_some, Option.toList_none, List.singleton_append, List.cons_append, List.nil_append, List.append_nil, nI_1, nt_e, Int32.le_refl, hc, e24, nI_ltI, nI_leI, z, z2, Bool.true_eq_false, Bool.false_eq_true, ↓reduceIte]
    exact Iff.rfl
  · have z2 : 24 ≤ c := by omega
    rw [decide_eq_true z2]
    simp (disch := first | exact am_nl_i _ | exact am_nl_r _ | exact am_nl_0 | (refine vi_nI ?_ ?_ <;> omega) | assumption | omega | exact b2i_01 _ | exact Or.inl rfl | exact Or.inr rfl | (unfold vi; decide)) only [ex_55_0, ex_55_1, ex_55_4, ex_55_6, ex_55_9, ex_55_10, ex_55_13, ex_55_14, if_true, if_false, and_self, Option.toList_some, Option.toList_none, List.singleton_append, List.cons_append, List.nil_append, List.append_nil, nI_1, nt_e, Int32.le_refl, hc, e24, nI_ltI, nI_leI, z, z2, Bool.true_eq_false, Bool.false_eq_true, ↓reduceIte]
    exact Iff.rfl
theorem ladd_ok {x1 x2 x3 x4 : Int32} (hs : sh q 5 5) (hc : FI u q 4 = nI c) (hc2 : c < 24) (hp : ∀ u', Only (fun a => q ≤ a ∧ a ≤ q + 4) u u' → FI u' q 4 = nI (c + 1) → AI u' (q + 1) = upd (AI u (q + 1)) c x1 → AI u' (q + 2) = upd (AI u (q + 2)) c x2 → AI u' (q + 3) = upd (AI u (q + 3)) c x3 → AI u' (q + 4) = upd (AI u (q + 4)) c x4 → post none (am_emb u')) : Cl d 56 [.ref q, .int x1, .int x2, .int x3, .int x4] (am_emb u) post := by
  have z2 : ¬ 24 ≤ c := by omega
  have e24 : (24 : Int32) = nI 24 := rfl
  have hfin := hp (sFI (sAI (sAI (sAI (sAI u (q + 1) (upd (AI u (q + 1)) c x1)) (q + 2) (upd (AI u (q + 2)) c x2)) (q + 3) (upd (AI u (q + 3)) c x3)) (q + 4) (upd (AI u (q + 4)) c x4)) q 4 (nI (c + 1))) (of_fi (of_ai (of_ai (of_ai (of_ai (Only.rf _ _) (by omega)) (by omega)) (by omega)) (by omega)) (by omega)) (by rw [FI_sFI, if_pos ⟨rfl, rfl⟩]) (by rw [AI_sFI, AI_sAI, if_neg (by omega), AI_sAI, if_neg (by omega), AI_sAI, if_neg (by omega), AI_sAI, if_pos rfl]) (by rw [AI_sFI, AI_sAI, if_neg (by omega), AI_sAI, if_neg (by omega), AI_sAI, if_pos rfl]) (by rw [AI_sFI, AI_sAI, if_neg (by omega), AI_sAI, if_pos rfl]) (by rw [AI_sFI, AI_sAI, if_pos rfl])
  have n2 : ∀ g : Nat → Int32, AI (sAI u (q + 1) g) (q + 2) = AI u (q + 2) := fun g => by rw [AI_sAI, if_neg (by omega)]
  have n3 : ∀ g g2 : Nat → Int32, AI (sAI (sAI u (q + 1) g) (q + 2) g2) (q + 3) = AI u (q + 3) := fun g g2 => by rw [AI_sAI, if_neg (by omega), AI_sAI, if_neg (by omega)]
  have n4 : ∀ g g2 g3 : Nat → Int32, AI (sAI (sAI (sAI u (q + 1) g) (q + 2) g2) (q + 3) g3) (q + 4) = AI u (q + 4) := fun g g2 g3 => by rw [AI_sAI, if_neg (by omega), AI_sAI, if_neg (by omega), AI_sAI, if_neg (by omega)]
  rw [op_56]
  simp (disch := first | exact am_nl_i _ | exact am_nl_r _ | exact am_nl_0 | (refine vi_nI ?_ ?_ <;> omega) | assumption | omega | exact b2i_01 _ | exact Or.inl rfl | exact Or.inr rfl | (unfold vi; decide)) only [ex_56_0, ex_56_1, ex_56_4, ex_56_7, ex_56_8, ex_56_11, ex_56_13, ex_56_16, ex_56_17, ex_56_20, ex_56_21, ex_56_24, ex_56_25, ex_56_26, ex_56_27, ex_56_30, ex_56_31, ex_56_34, ex_56_35, ex_56_36, ex_56_37, ex_56_40, ex_56_41, ex_56_44, ex_56_45, ex_56_46, ex_56_47, ex_56_50, ex_56_51, ex_56_54, ex_56_56, ex_56_57, ex_56_58, ex_56_59, ex_56_62, ex_56_63, ex_56_64, ex_56_67, if_true, if_false, and_self, Option.toList_some, Option.toList_none, List.singleton_append, List.cons_append, List.nil_append, List.append_nil, nI_1, nt_e, Int32.le_refl, FI_sAI, hc, i_lt0, e24, nI_leI, z2, nI_clamp, nI_1, n2, n3, n4, Bool.true_eq_false, Bool.false_eq_true, ↓reduceIte]
  exact hfin
end LineC
