/-! RESTS, of the reference: the digits laid out; after a hit -/
theorem scan_after {v : LV} {l : LF} {w : Int32} {n m P : Nat} {pp σ : Nat → Nat} {a : Nat} (ha : nI a = w) : ∀ (N k : Nat) (st : FS), a < st.1 → st.1 + N < 2 ^ 31 → (scanF (tryF v l w n pp m σ P) N k st).2 = st.2
  | 0, _, _, _, _ => rfl
  | N + 1, k, st, h1, h2 => by
    rw [scanF]
    by_cases q : restF v l n pp m σ k = true
    · have hne : ¬ nI st.1 = w := fun e => by
        have e2 := congrArg ix (e.trans ha.symm)
        rw [ix_nI (show st.1 < 2 ^ 31 by omega), ix_nI (show a < 2 ^ 31 by omega)] at e2
        omega
      have e : tryF v l w n pp m σ P k st = (st.1 + 1, st.2) := by
        unfold tryF hitS
        rw [if_pos q, if_neg hne]
      rw [e]
      exact scan_after ha N (k + 1) (st.1 + 1, st.2) (show a < st.1 + 1 by omega) (show st.1 + 1 + N < 2 ^ 31 by omega)
    · have e : tryF v l w n pp m σ P k st = st := by
        unfold tryF
        rw [if_neg q]
      rw [e]
      exact scan_after ha N (k + 1) st h1 (by omega)
theorem scan_le {v : LV} {l : LF} {w : Int32} {n m P : Nat} {pp σ : Nat → Nat} : ∀ (N k : Nat) (st : FS), (scanF (tryF v l w n pp m σ P) N k st).1 ≤ st.1 + N
  | 0, _, _ => Nat.le_refl _
  | N + 1, k, st => by
    rw [scanF]
    refine Nat.le_trans (scan_le N (k + 1) _) ?_
    unfold tryF
    split
    · show st.1 + 1 + N ≤ _
      omega
    · omega
theorem dv13 : ∀ c, c < 2197 → nI c / 13 = nI (c / 13) := by decide +kernel
theorem rm13 : ∀ c, c < 2197 → nI c - nI (c / 13) * 13 = nI (c % 13) := by decide +kernel
def alN : Nat → (Nat → Bool) → Bool
  | 0, _ => true
  | n + 1, f => alN n f && f n
theorem alN_iff {f : Nat → Bool} : ∀ {n : Nat}, alN n f = true ↔ ∀ j, j < n → f j = true
  | 0 => ⟨fun _ j h => absurd h (Nat.not_lt_zero j), fun _ => rfl⟩
  | n + 1 => by
    rw [alN, Bool.and_eq_true, alN_iff]
    constructor
    · intro ⟨h1, h2⟩ j hj
      by_cases e : j = n
      · rw [e]; exact h2
      · exact h1 j (by omega)
    · intro h
      exact ⟨fun j hj => h j (by omega), h n (by omega)⟩
section Digits
variable {d n : Nat} {u : am_U} {v : LV} {post : Option Value → am_M → Prop}
theorem digits_ok {L0 L1 L2 L3 L4 : Option Value} {c : Nat} (hn : n ≤ 3) (hc : c < 2197) (hP : nP v ≤ 12) (hlib : AI u 205 1 = nI (nP v))
    (h : ∀ u' j6 j8, Only (is 250) u u' → (∀ k, k < n → AI u' 250 k = nI (c / 13 ^ (n - 1 - k) % 13)) → Ex d 263 194 [some (.ref 203), L1, L2, L3, L4, some (.int (nI c)), j6, some (.int (b2i (alN n (fun j => decide (c / 13 ^ j % 13 ≤ nP v))))), j8] [] (am_emb u') post) :
    ∀ (kz j : Nat), j + kz = n → ∀ u2, Only (is 250) u u2 → (∀ k, n - j ≤ k → k < n → AI u2 250 k = nI (c / 13 ^ (n - 1 - k) % 13)) → Ex d 263 136 [some (.ref 203), L1, L2, L3, L4, some (.int (nI c)), some (.int (nI (c / 13 ^ j))), some (.int (b2i (alN j (fun j => decide (c / 13 ^ j % 13 ≤ nP v))))), some (.int (nI kz + -1))] [] (am_emb u2) post := by
  intro kz
  induction kz with
  | zero =>
    intro j hj u2 o2 f
    obtain rfl : j = n := by omega
    rw [ex_263_136]
    simp (disch := first | exact am_nl_i _ | exact am_nl_r _ | exact am_nl_0 | (refine vi_nI ?_ ?_ <;> omega) | assumption | omega | exact b2i_01 _ | exact Or.inl rfl | exact Or.inr rfl | (unfold vi; decide)) only [ex_263_0, ex_263_1, ex_263_2, ex_263_5, ex_263_6, ex_263_7, ex_263_10, ex_263_11, ex_263_14, ex_263_15, ex_263_17, ex_263_20, ex_263_21, ex_263_22, ex_263_25, ex_263_27, ex_263_28, ex_263_29, ex_263_30, ex_263_31, ex_263_34, ex_263_35, ex_263_36, ex_263_39, ex_263_40, ex_263_43, ex_263_44, ex_263_45, ex_263_48, ex_263_51, ex_263_52, ex_263_53, ex_263_54, ex_263_55, ex_263_56, ex_263_58, ex_263_60, ex_263_62, ex_263_65, ex_263_66, ex_263_68, ex_263_69, ex_263_70, ex_263_71, ex_263_74, ex_263_77, ex_263_78, ex_263_81, ex_263_82, ex_263_85, ex_263_87, ex_263_88, ex_263_89, ex_263_90, ex_263_93, ex_263_94, ex_263_95, ex_263_98, ex_263_99, ex_263_101, ex_263_102, ex_263_103, ex_263_106, ex_263_109, ex_263_110, ex_263_112, ex_263_113, ex_263_115, ex_263_117, ex_263_118, ex_263_121, ex_263_123, ex_263_125, ex_263_126, ex_263_128, ex_263_129, ex_263_132, ex_263_133, ex_263_134, ex_263_138, ex_263_141, ex_263_142, ex_263_145, ex_263_147, ex_263_149, ex_263_151, ex_263_152, ex_263_153, ex_263_155, ex_263_158, ex_263_159, ex_263_162, ex_263_164, ex_263_165, ex_263_166, ex_263_169, ex_263_170, ex_263_171, ex_263_174, ex_263_175, ex_263_178, ex_263_179, ex_263_181, ex_263_183, ex_263_185, ex_263_186, ex_263_188, ex_263_191, ex_263_196, ex_263_199, ex_263_200, ex_263_203, ex_263_206, ex_263_209, ex_263_211, ex_263_212, ex_263_215, ex_263_217, ex_263_218, ex_263_221, ex_263_224, ex_263_227, ex_263_228, ex_263_229, ex_263_232, ex_263_234, ex_263_237, ex_263_238, if_true, if_false, and_self, Option.toList_some, Option.toList_none, List.singleton_append, List.cons_append, List.nil_append, List.append_nil, nI_1, nt_e, Int32.le_refl, show nI 0 + -1 < (0 : Int32) from by decide, Bool.true_eq_false, Bool.false_eq_true, ↓reduceIte]
    exact h u2 _ _ o2 (fun k hk => f k (by omega) hk)
  | succ kz ih =>
    intro j hj u2 o2 f
    have hk : c / 13 ^ j < 2197 := Nat.lt_of_le_of_lt (Nat.div_le_self _ _) hc
    have e2 : nI (kz + 1) + -1 = nI kz := i_pm (by omega)
    have hlib2 : AI u2 205 1 = nI (nP v) := by rw [(o2 205 (by unfold is; omega)).2.2.2.1]; exact hlib
    have e13 : c / 13 ^ j / 13 = c / 13 ^ (j + 1) := by rw [Nat.div_div_eq_div_mul, Nat.pow_succ]
    have ih := ih (j + 1) (by omega)
    have n13 : ¬ (13 : Int32) = 0 := by decide
    rw [e2]
    rw [ex_263_136]
    have hrm : nI (c / 13 ^ j) - nI (c / 13 ^ (j + 1)) * 13 = nI (c / 13 ^ j % 13) := by rw [← e13]; exact rm13 _ hk
    have hdv : nI (c / 13 ^ j) / 13 = nI (c / 13 ^ (j + 1)) := by rw [← e13]; exact dv13 _ hk
    have hup : ∀ k, n - (j + 1) ≤ k → k < n → AI (sAI u2 250 (upd (AI u2 250) kz (nI (c / 13 ^ j % 13)))) 250 k = nI (c / 13 ^ (n - 1 - k) % 13) := fun k q1 q2 => by
      rw [AI_sAI, if_pos rfl]
      by_cases e : k = kz
      · rw [e, upd_s, show n - 1 - kz = j by omega]
      · rw [upd_n e]; exact f k (by omega) q2
    have hown : AI (sAI u2 250 (upd (AI u2 250) kz (nI (c / 13 ^ j % 13)))) 250 kz = nI (c / 13 ^ j % 13) := by rw [AI_sAI, if_pos rfl, upd_s]
    have hlib3 : AI (sAI u2 250 (upd (AI u2 250) kz (nI (c / 13 ^ j % 13)))) 205 1 = nI (nP v) := by rw [AI_sAI, if_neg (by decide)]; exact hlib2
    have hd13 : c / 13 ^ j % 13 < 13 := Nat.mod_lt _ (by omega)
    have ih := ih _ (of_ai o2 rfl) hup
    rw [alN] at ih
    cases q : alN j (fun j => decide (c / 13 ^ j % 13 ≤ nP v))
    · rw [q, Bool.false_and] at ih
      simp (disch := first | exact am_nl_i _ | exact am_nl_r _ | exact am_nl_0 | (refine vi_nI ?_ ?_ <;> omega) | assumption | omega | exact b2i_01 _ | exact Or.inl rfl | exact Or.inr rfl | (unfold vi; decide)) only [ex_263_0, ex_263_1, ex_263_2, ex_263_5, ex_263_6, ex_263_7, ex_263_10, ex_263_11, ex_263_14, ex_263_15, ex_263_17, ex_263_20, ex_263_21, ex_263_22, ex_263_25, ex_263_27, ex_263_28, ex_263_29, ex_263_30, ex_263_31, ex_263_34, ex_263_35, ex_263_36, ex_263_39, ex_263_40, ex_263_43, ex_263_44, ex_263_45, ex_263_48, ex_263_51, ex_263_52, ex_263_53, ex_263_54, ex_263_55, ex_263_56, ex_263_58, ex_263_60, ex_263_62, ex_263_65, ex_263_66, ex_263_68, ex_263_69, ex_263_70, ex_263_71, ex_263_74, ex_263_77, ex_263_78, ex_263_81, ex_263_82, ex_263_85, ex_263_87, ex_263_88, ex_263_89, ex_263_90, ex_263_93, ex_263_94, ex_263_95, ex_263_98, ex_263_99, ex_263_101, ex_263_102, ex_263_103, ex_263_106, ex_263_109, ex_263_110, ex_263_112, ex_263_113, ex_263_115, ex_263_117, ex_263_118, ex_263_121, ex_263_123, ex_263_125, ex_263_126, ex_263_128, ex_263_129, ex_263_132, ex_263_133, ex_263_134, ex_263_138, ex_263_141, ex_263_142, ex_263_145, ex_263_147, ex_263_149, ex_263_151, ex_263_152, ex_263_153, ex_263_155, ex_263_158, ex_263_159, ex_263_162, ex_263_164, ex_263_165, ex_263_166, ex_263_169, ex_263_170, ex_263_171, ex_263_174, ex_263_175, ex_263_178, ex_263_179, ex_263_181, ex_263_183, ex_263_185, ex_263_186, ex_263_188, ex_263_191, ex_263_196, ex_263_199, ex_263_200, ex_263_203, ex_263_206, ex_263_209, ex_263_211, ex_263_212, ex_263_215, ex_263_217, ex_263_218, ex_263_221, ex_263_224, ex_263_227, ex_263_228, ex_263_229, ex_263_232, ex_263_234, ex_263_237, ex_263_238, if_true, if_false, and_self, Option.toList_some, Option.toList_none, List.singleton_append, List.cons_append, List.nil_append, List.append_nil, nI_1, nt_e, Int32.le_refl, i_lt0, nI_clamp, hrm, hdv, c1, b2i_0, q, Bool.true_eq_false, Bool.false_eq_true, ↓reduceIte]
      exact ih
    · by_cases q2 : c / 13 ^ j % 13 ≤ nP v
      · have q3 : ¬ nP v < c / 13 ^ j % 13 := by omega
        rw [q, decide_eq_true q2] at ih
        simp (disch := first | exact am_nl_i _ | exact am_nl_r _ | exact am_nl_0 | (refine vi_nI ?_ ?_ <;> omega) | assumption | omega | exact b2i_01 _ | exact Or.inl rfl | exact Or.inr rfl | (unfold vi; decide)) only [ex_263_0, ex_263_1, ex_263_2, ex_263_5, ex_263_6, ex_263_7, ex_263_10, ex_263_11, ex_263_14, ex_263_15, ex_263_17, ex_263_20, ex_263_21, ex_263_22, ex_263_25, ex_263_27, ex_263_28, ex_263_29, ex_263_30, ex_263_31, ex_263_34, ex_263_35, ex_263_36, ex_263_39, ex_263_40, ex_263_43, ex_263_44, ex_263_45, ex_263_48, ex_263_51, ex_263_52, ex_263_53, ex_263_54, ex_263_55, ex_263_56, ex_263_58, ex_263_60, ex_263_62, ex_263_65, ex_263_66, ex_263_68, ex_263_69, ex_263_70, ex_263_71, ex_263_74, ex_263_77, ex_263_78, ex_263_81, ex_263_82, ex_263_85, ex_263_87, ex_263_88, ex_263_89, ex_263_90, ex_263_93, ex_263_94, ex_263_95, ex_263_98, ex_263_99, ex_263_101, ex_263_102, ex_263_103, ex_263_106, ex_263_109, ex_263_110, ex_263_112, ex_263_113, ex_263_115, ex_263_117, ex_263_118, ex_263_121, ex_263_123, ex_263_125, ex_263_126, ex_263_128, ex_263_129, ex_263_132, ex_263_133, ex_263_134, ex_263_138, ex_263_141, ex_263_142, ex_263_145, ex_263_147, ex_263_149, ex_263_151, ex_263_152, ex_263_153, ex_263_155, ex_263_158, ex_263_159, ex_263_162, ex_263_164, ex_263_165, ex_263_166, ex_263_169, ex_263_170, ex_263_171, ex_263_174, ex_263_175, ex_263_178, ex_263_179, ex_263_181, ex_263_183, ex_263_185, ex_263_186, ex_263_188, ex_263_191, ex_263_196, ex_263_199, ex_263_200, ex_263_203, ex_263_206, ex_263_209, ex_263_211, ex_263_212, ex_263_215, ex_263_217, ex_263_218, ex_263_221, ex_263_224, ex_263_227, ex_263_228, ex_263_229, ex_263_232, ex_263_234, ex_263_237, ex_263_238, if_true, if_false, and_self, Option.toList_some, Option.toList_none, List.singleton_append, List.cons_append, List.nil_append, List.append_nil, nI_1, nt_e, Int32.le_refl, i_lt0, nI_clamp, hrm, hdv, c1, b2i_0, q, hown, hlib3, nI_ltI, nI_leI, q2, q3, show ((1 : Int32) = (0 : Int32)) = False from eq_false (by decide), Bool.true_eq_false, Bool.false_eq_true, ↓reduceIte]
        exact ih
      · have q3 : nP v < c / 13 ^ j % 13 := by omega
        rw [q, decide_eq_false q2, Bool.and_false] at ih
        simp (disch := first | exact am_nl_i _ | exact am_nl_r _ | exact am_nl_0 | (refine vi_nI ?_ ?_ <;> omega) | assumption | omega | exact b2i_01 _ | exact Or.inl rfl | exact Or.inr rfl | (unfold vi; decide)) only [ex_263_0, ex_263_1, ex_263_2, ex_263_5, ex_263_6, ex_263_7, ex_263_10, ex_263_11, ex_263_14, ex_263_15, ex_263_17, ex_263_20, ex_263_21, ex_263_22, ex_263_25, ex_263_27, ex_263_28, ex_263_29, ex_263_30, ex_263_31, ex_263_34, ex_263_35, ex_263_36, ex_263_39, ex_263_40, ex_263_43, ex_263_44, ex_263_45, ex_263_48, ex_263_51, ex_263_52, ex_263_53, ex_263_54, ex_263_55, ex_263_56, ex_263_58, ex_263_60, ex_263_62, ex_263_65, ex_263_66, ex_263_68, ex_263_69, ex_263_70, ex_263_71, ex_263_74, ex_263_77, ex_263_78, ex_263_81, ex_263_82, ex_263_85, ex_263_87, ex_263_88, ex_263_89, ex_263_90, ex_263_93, ex_263_94, ex_263_95, ex_263_98, ex_263_99, ex_263_101, ex_263_102, ex_263_103, ex_263_106, ex_263_109, ex_263_110, ex_263_112, ex_263_113, ex_263_115, ex_263_117, ex_263_118, ex_263_121, ex_263_123, ex_263_125, ex_263_126, ex_263_128, ex_263_129, ex_263_132, ex_263_133, ex_263_134, ex_263_138, ex_263_141, ex_263_142, ex_263_145, ex_263_147, ex_263_149, ex_263_151, ex_263_152, ex_263_153, ex_263_155, ex_263_158, ex_263_159, ex_263_162, ex_263_164, ex_263_165, ex_263_166, ex_263_169, ex_263_170, ex_263_171, ex_263_174, ex_263_175, ex_263_178, ex_263_179, ex_263_181, ex_263_183, ex_263_185, ex_263_186, ex_263_188, ex_263_191, ex_263_196, ex_263_199, ex_263_200, ex_263_203, ex_263_206, ex_263_209, ex_263_211, ex_263_212, ex_263_215, ex_263_217, ex_263_218, ex_263_221, ex_263_224, ex_263_227, ex_263_228, ex_263_229, ex_263_232, ex_263_234, ex_263_237, ex_263_238, if_true, if_false, and_self, Option.toList_some, Option.toList_none, List.singleton_append, List.cons_append, List.nil_append, List.append_nil, nI_1, nt_e, Int32.le_refl, i_lt0, nI_clamp, hrm, hdv, c1, b2i_0, q, hown, hlib3, nI_ltI, nI_leI, q2, q3, show ((1 : Int32) = (0 : Int32)) = False from eq_false (by decide), Bool.true_eq_false, Bool.false_eq_true, ↓reduceIte]
        exact ih
end Digits
