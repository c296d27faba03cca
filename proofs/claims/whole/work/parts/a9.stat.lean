/-! A STATEMENT, of the class -/
abbrev FG : Type := Bool × Bool × Bool
def liftS (r : Except Nat (LV × Nat)) (fg : FG) : Except Nat ((LV × FG) × Nat) := match r with
  | .error e => .error e
  | .ok p => .ok ((p.1, fg), p.2)
def stmS (P : Nat → Nat → Rt) (v : LV) (fg : FG) (T : Nat → Tok) (i : Nat) : Except Nat ((LV × FG) × Nat) :=
  if csort (T i) = 200 then liftS (factR v T i) fg
  else if csort (T i) = 202 then liftS (pageR v T i) fg
  else if csort (T i) = 206 then liftS (clashR v T i) fg
  else if csort (T i) = 207 then liftS (personR v T i) fg
  else if csort (T i) = 211 then liftS (taskR v T i) fg
  else if csort (T i) = 214 then liftS (lawR P v false fg.1 T i) (true, fg.2)
  else if csort (T i) = 215 then liftS (lawR P v true fg.2.1 T i) (fg.1, true, fg.2.2)
  else if csort (T i) = 216 then liftS (burnR v fg.2.2 T i) (fg.1, fg.2.1, true)
  else .error (fl 1 (T i))
theorem st_def : ∀ c, c < 229 → ¬ (c = 200 ∨ c = 202 ∨ c = 206 ∨ c = 207 ∨ c = 211 ∨ c = 214 ∨ c = 215 ∨ c = 216) → am_tgt 4 215 200 216 #[84, 215, 91, 215, 215, 215, 98, 105, 215, 215, 215, 112, 215, 215, 119, 148, 177] (nI c).toInt = 219 := by decide +kernel
def FlgC (u : am_U) (fg : FG) : Prop := FI u 6 6 = b2i fg.1 ∧ FI u 6 7 = b2i fg.2.1 ∧ FI u 6 8 = b2i fg.2.2
theorem FlgC.kp {u u' : am_U} {fg : FG} (h : FlgC u fg) (hk : ∀ k, k = 6 ∨ k = 7 ∨ k = 8 → FI u' 6 k = FI u 6 k) : FlgC u' fg := by
  unfold FlgC
  rw [hk 6 (by omega), hk 7 (by omega), hk 8 (by omega)]
  exact h
def StmT (u : am_U) (n : Nat) (f : Nat → Nat) (m L : Nat) (r : Except Nat ((LV × FG) × Nat)) (post : Option Value → am_M → Prop) : Prop :=
  (∀ e u', r = .error e → Only (bkP L) u u' → most4 u' L → FltC u' e → post none (am_emb u')) ∧
  (∀ v' fg' j u', r = .ok ((v', fg'), j) → Only (bkP L) u u' → FlgC u' fg' → BkC u' L v' → LwC u' L v' → RdC u' n f m j → post none (am_emb u'))
section Stat
variable {d n m i e L : Nat} {u : am_U} {f : Nat → Nat} {v : LV} {fg : FG} {P : Nat → Nat → Rt} {post : Option Value → am_M → Prop}
theorem ad_bk : ∀ x, adP L x → bkP L x := fun x q => by unfold adP at q; unfold bkP; omega
theorem liftC {r : Except Nat (LV × Nat)} (hLL : L = 7 ∨ L = 33) (hw : LwC u L v) (hl : ∀ v' j, r = .ok (v', j) → lawV v' = lawV v) (hF : FlgC u fg) (hp : StmT u n f m L (liftS r fg) post) {pc : Option Value → am_M → Prop} (hpc : ∀ u', post none (am_emb u') → pc none (am_emb u')) : StmC u n f m L r pc := by
  obtain ⟨hb, hg⟩ := hp
  refine ⟨fun e u' hr o m4 F => hpc u' (hb e u' (by rw [hr]; rfl) (o.wk ad_bk) m4 F), fun v' j u' hr o k1 k2 B R => hpc u' (hg v' fg j u' (by rw [hr]; rfl) (o.wk ad_bk) (hF.kp (fun k hk => k1 k (by omega) (by omega))) B ?_ R)⟩
  have w := hw.keep o ⟨by unfold adP; omega, by unfold adP; omega, by unfold adP; omega, by unfold adP; omega⟩
  unfold LwC at *
  rw [hl v' j hr]
  exact w
theorem law_fact {T : Nat → Tok} {v' : LV} {j : Nat} (h : factR v T i = .ok (v', j)) : lawV v' = lawV v := by
  unfold factR at h
  split at h
  · cases h
  split at h
  · cases h
  split at h
  · cases h
  · cases h; rfl
theorem law_page {T : Nat → Tok} {v' : LV} {j : Nat} (h : pageR v T i = .ok (v', j)) : lawV v' = lawV v := by
  unfold pageR at h
  split at h
  · cases h
  split at h
  · cases h
  split at h
  · cases h
  split at h
  · cases h
  split at h
  · cases h
  split at h
  · cases h
  split at h
  · cases h
  · cases h; rfl
theorem law_clash {T : Nat → Tok} {v' : LV} {j : Nat} (h : clashR v T i = .ok (v', j)) : lawV v' = lawV v := by
  unfold clashR at h
  split at h
  · cases h
  split at h
  · cases h
  split at h
  · cases h
  split at h
  · cases h
  · cases h; rfl
theorem law_person {T : Nat → Tok} {v' : LV} {j : Nat} (h : personR v T i = .ok (v', j)) : lawV v' = lawV v := by
  unfold personR at h
  split at h
  · cases h
  split at h
  · cases h
  split at h
  · cases h
  split at h
  · cases h
  split at h
  · cases h
  · cases h; rfl
theorem law_task {T : Nat → Tok} {v' : LV} {j : Nat} (h : taskR v T i = .ok (v', j)) : lawV v' = lawV v := by
  unfold taskR at h
  split at h
  · cases h
  split at h
  · cases h
  split at h
  · cases h
  split at h
  · cases h
  split at h
  · cases h
  · cases h; rfl
theorem isFirst_f : Cl (d + 1) 81 [.ref 6, .int 0] (am_emb u) post ↔ post (some (.int 1)) (am_emb u) := by
  rw [op_81]
  simp (disch := first | exact am_nl_i _ | exact am_nl_r _ | exact am_nl_0 | (refine vi_nI ?_ ?_ <;> omega) | assumption | omega | exact b2i_01 _ | exact Or.inl rfl | exact Or.inr rfl | (unfold vi; decide)) only [ex_81_0, ex_81_1, ex_81_4, ex_81_5, ex_81_6, ex_81_9, ex_81_10, if_true, if_false, and_self, Option.toList_some, Option.toList_none, List.singleton_append, List.cons_append, List.nil_append, List.append_nil, nI_1, nt_e, Int32.le_refl, Bool.true_eq_false, Bool.false_eq_true, ↓reduceIte]
theorem isFirst_t (h : RdC u n f m i) : Cl (d + 1) 81 [.ref 6, .int 1] (am_emb u) post ↔ post (some (.int 1)) (am_emb (sFI u 6 9 (nI (fl 3 (tk n f i))))) := by
  rw [op_81]
  simp (disch := first | exact am_nl_i _ | exact am_nl_r _ | exact am_nl_0 | (refine vi_nI ?_ ?_ <;> omega) | assumption | omega | exact b2i_01 _ | exact Or.inl rfl | exact Or.inr rfl | (unfold vi; decide)) only [ex_81_0, ex_81_1, ex_81_4, ex_81_5, ex_81_6, ex_81_9, ex_81_10, if_true, if_false, and_self, Option.toList_some, Option.toList_none, List.singleton_append, List.cons_append, List.nil_append, List.append_nil, nI_1, nt_e, Int32.le_refl, show ((1 : Int32) = (0 : Int32)) = False from eq_false (by decide), show (3 : Int32) = nI 3 from rfl, fail_ok h, Bool.true_eq_false, Bool.false_eq_true, ↓reduceIte]
theorem BkC.burn {x : Nat} (hB : BkC u L v) : BkC (sFI u L 18 (nI x)) L (setBurnV v x) := by
  obtain ⟨hC, hN, hb, hbd, hLL⟩ := hB
  refine ⟨LibC_mk ⟨?_, ?_, ?_, ?_⟩ ⟨?_, ?_, ?_, ?_⟩ (fun r i hr hD => (LibC_rows hC : RowsG u (L + 9) (fun _ => 0) (fun r i => i < bndC v r) v.2.1) r i hr (r11 (P := fun r => i < bndC (setBurnV v x) r → i < bndC v r) id id id id id id id id id id id r hr hD)) ?_ ?_, hN, hb, hbd, hLL⟩
  · rw [FI_sFI, if_neg (by omega)]; exact hC.1.1
  · rw [FI_sFI, if_neg (by omega)]; exact hC.1.2.1
  · rw [FI_sFI, if_neg (by omega)]; exact hC.1.2.2.1
  · rw [FI_sFI, if_neg (by omega)]; exact hC.1.2.2.2
  · rw [FI_sFI, if_neg (by omega)]; exact hC.2.1.1
  · rw [FI_sFI, if_neg (by omega)]; exact hC.2.1.2.1
  · rw [FI_sFI, if_neg (by omega)]; exact hC.2.1.2.2.1
  · rw [FI_sFI, if_neg (by omega)]; exact hC.2.1.2.2.2
  · rw [FI_sFI, if_neg (by omega)]; exact hC.2.2.2.2.2.2.2.2.2.2.2.2.2.1
  · rw [FI_sFI, if_pos ⟨rfl, rfl⟩]; rfl
theorem FltC.f6 {k : Nat} {x : Int32} (h : FltC u e) (hk : k = 6 ∨ k = 7 ∨ k = 8) : FltC (sFI u 6 k x) e := by
  obtain ⟨h1, h2, h3, i, h4, h5⟩ := h
  exact ⟨by rw [FI_sFI, if_neg (by omega)]; exact h1, h2, h3, i, h4, by rw [FI_sFI, if_neg (by omega)]; exact h5⟩
theorem RdC.f6 {k : Nat} {x : Int32} (h : RdC u n f m i) (hk : k = 6 ∨ k = 7 ∨ k = 8) : RdC (sFI u 6 k x) n f m i := by
  obtain ⟨x1, x2, x3, x4, x5, x6, x7, x8⟩ := h
  exact ⟨by rw [FI_sFI, if_neg (by omega)]; exact x1, x2, by rw [FI_sFI, if_neg (by omega)]; exact x3, by rw [FI_sFI, if_neg (by omega)]; exact x4, x5, x6, x7, x8⟩
theorem BkC.f6 {k : Nat} {x : Int32} (h : BkC u L v) : BkC (sFI u 6 k x) L v := by
  obtain ⟨a, b, c, dd, ee⟩ := h
  have o : Only (is 6) u (sFI u 6 k x) := Only.sFI rfl
  have n : ∀ k, ¬ is 6 (L + k) := fun k q => by unfold is at q; omega
  exact ⟨a.keep2 o (fun k _ => n k), b.keep o ⟨n 2, n 4, n 6, n 8⟩, c, dd, ee⟩
theorem most_f6 {k : Nat} {x : Int32} (hLL : L = 7 ∨ L = 33) (h : most4 u L) : most4 (sFI u 6 k x) L := by
  unfold most4
  rw [FI_sFI, if_neg (by omega), FI_sFI, if_neg (by omega), FI_sFI, if_neg (by omega), FI_sFI, if_neg (by omega)]
  exact h
theorem readStat_ok (hR : RdC u n f m i) (hk : ¬ csort (tk n f i) = 3) (hB : BkC u L v) (hw : LwC u L v) (hW : WF v) (hF : FlgC u fg) (hP : PrsOk P n f m) (hp : StmT u n f m L (stmS P v fg (tk n f) i) post) : Cl (d + 61) 80 [.ref 6] (am_emb u) post := by
  have hLL := hB.2.2.2.2
  have hL := hB.sh
  have hcl := cs_lt (tk_ok (n := n) (f := f) i)
  have rd := fun {dd} {post} => rsort_ok (d := dd) (post := post) hR
  rw [op_80]
  simp (disch := first | exact am_nl_i _ | exact am_nl_r _ | exact am_nl_0 | assumption | omega | (refine vi_nI ?_ ?_ <;> omega) | exact b2i_01 _ | exact Or.inl rfl | exact Or.inr rfl | (unfold vi; decide)) only [ex_80_0, ex_80_4, ex_80_88, ex_80_89, ex_80_92, ex_80_95, ex_80_96, ex_80_99, ex_80_102, ex_80_103, ex_80_106, ex_80_109, ex_80_110, ex_80_113, ex_80_116, ex_80_117, ex_80_120, ex_80_123, ex_80_124, ex_80_125, ex_80_126, ex_80_129, ex_80_132, ex_80_135, ex_80_136, ex_80_137, ex_80_140, ex_80_143, ex_80_146, ex_80_149, ex_80_152, ex_80_153, ex_80_154, ex_80_155, ex_80_158, ex_80_161, ex_80_164, ex_80_165, ex_80_166, ex_80_169, ex_80_172, ex_80_175, ex_80_178, ex_80_181, ex_80_182, ex_80_183, ex_80_184, ex_80_187, ex_80_190, ex_80_193, ex_80_194, ex_80_197, ex_80_198, ex_80_201, ex_80_202, ex_80_203, ex_80_205, ex_80_208, ex_80_211, ex_80_212, ex_80_215, ex_80_216, ex_80_219, ex_80_220, ex_80_221, ex_80_224, if_true, if_false, and_self, Option.toList_some, Option.toList_none, List.singleton_append, List.cons_append, List.nil_append, List.append_nil, nI_1, nt_e, Int32.le_refl]
  rw [ex_80_1, rd]
  simp (disch := first | exact am_nl_i _ | exact am_nl_r _ | exact am_nl_0 | (refine vi_nI ?_ ?_ <;> omega) | assumption | omega | exact b2i_01 _ | exact Or.inl rfl | exact Or.inr rfl | (unfold vi; decide)) only [ex_80_0, ex_80_1, ex_80_88, ex_80_89, ex_80_92, ex_80_95, ex_80_96, ex_80_99, ex_80_102, ex_80_103, ex_80_106, ex_80_109, ex_80_110, ex_80_113, ex_80_116, ex_80_117, ex_80_120, ex_80_123, ex_80_124, ex_80_125, ex_80_126, ex_80_129, ex_80_132, ex_80_135, ex_80_136, ex_80_137, ex_80_140, ex_80_143, ex_80_146, ex_80_149, ex_80_152, ex_80_153, ex_80_154, ex_80_155, ex_80_158, ex_80_161, ex_80_164, ex_80_165, ex_80_166, ex_80_169, ex_80_172, ex_80_175, ex_80_178, ex_80_181, ex_80_182, ex_80_183, ex_80_184, ex_80_187, ex_80_190, ex_80_193, ex_80_194, ex_80_197, ex_80_198, ex_80_201, ex_80_202, ex_80_203, ex_80_205, ex_80_208, ex_80_211, ex_80_212, ex_80_215, ex_80_216, ex_80_219, ex_80_220, ex_80_221, ex_80_224, if_true, if_false, and_self, Option.toList_some, Option.toList_none, List.singleton_append, List.cons_append, List.nil_append, List.append_nil, nI_1, nt_e, Int32.le_refl, Bool.true_eq_false, Bool.false_eq_true, ↓reduceIte]
  rw [ex_80_4]
  by_cases c0 : csort (tk n f i) = 200
  · have hs : stmS P v fg (tk n f) i = liftS (factR v (tk n f) i) fg := if_pos c0
    rw [hs] at hp
    rw [c0, show am_tgt 4 215 200 216 #[84, 215, 91, 215, 215, 215, 98, 105, 215, 215, 215, 112, 215, 215, 119, 148, 177] (nI 200).toInt = 88 by decide]
    simp (disch := first | exact am_nl_i _ | exact am_nl_r _ | exact am_nl_0 | (refine vi_nI ?_ ?_ <;> omega) | assumption | omega | exact b2i_01 _ | exact Or.inl rfl | exact Or.inr rfl | (unfold vi; decide)) only [ex_80_0, ex_80_1, ex_80_88, ex_80_92, ex_80_95, ex_80_96, ex_80_99, ex_80_102, ex_80_103, ex_80_106, ex_80_109, ex_80_110, ex_80_113, ex_80_116, ex_80_117, ex_80_120, ex_80_123, ex_80_124, ex_80_125, ex_80_126, ex_80_129, ex_80_132, ex_80_135, ex_80_136, ex_80_137, ex_80_140, ex_80_143, ex_80_146, ex_80_149, ex_80_152, ex_80_153, ex_80_154, ex_80_155, ex_80_158, ex_80_161, ex_80_164, ex_80_165, ex_80_166, ex_80_169, ex_80_172, ex_80_175, ex_80_178, ex_80_181, ex_80_182, ex_80_183, ex_80_184, ex_80_187, ex_80_190, ex_80_193, ex_80_194, ex_80_197, ex_80_198, ex_80_201, ex_80_202, ex_80_203, ex_80_205, ex_80_208, ex_80_211, ex_80_212, ex_80_215, ex_80_216, ex_80_219, ex_80_220, ex_80_221, ex_80_224, if_true, if_false, and_self, Option.toList_some, Option.toList_none, List.singleton_append, List.cons_append, List.nil_append, List.append_nil, nI_1, nt_e, Int32.le_refl, Bool.true_eq_false, Bool.false_eq_true, ↓reduceIte]
    rw [ex_80_89]
    refine readFact_ok (d := d + 56) hR hk hB (liftC hLL hw (fun v' j h => law_fact h) hF hp (fun u' h => ?_))
    simp (disch := first | exact am_nl_i _ | exact am_nl_r _ | exact am_nl_0 | (refine vi_nI ?_ ?_ <;> omega) | assumption | omega | exact b2i_01 _ | exact Or.inl rfl | exact Or.inr rfl | (unfold vi; decide)) only [ex_80_0, ex_80_1, ex_80_88, ex_80_89, ex_80_92, ex_80_95, ex_80_96, ex_80_99, ex_80_102, ex_80_103, ex_80_106, ex_80_109, ex_80_110, ex_80_113, ex_80_116, ex_80_117, ex_80_120, ex_80_123, ex_80_124, ex_80_125, ex_80_126, ex_80_129, ex_80_132, ex_80_135, ex_80_136, ex_80_137, ex_80_140, ex_80_143, ex_80_146, ex_80_149, ex_80_152, ex_80_153, ex_80_154, ex_80_155, ex_80_158, ex_80_161, ex_80_164, ex_80_165, ex_80_166, ex_80_169, ex_80_172, ex_80_175, ex_80_178, ex_80_181, ex_80_182, ex_80_183, ex_80_184, ex_80_187, ex_80_190, ex_80_193, ex_80_194, ex_80_197, ex_80_198, ex_80_201, ex_80_202, ex_80_203, ex_80_205, ex_80_208, ex_80_211, ex_80_212, ex_80_215, ex_80_216, ex_80_219, ex_80_220, ex_80_221, ex_80_224, if_true, if_false, and_self, Option.toList_some, Option.toList_none, List.singleton_append, List.cons_append, List.nil_append, List.append_nil, nI_1, nt_e, Int32.le_refl, Bool.true_eq_false, Bool.false_eq_true, ↓reduceIte]
    exact h
  by_cases c1 : csort (tk n f i) = 202
  · have hs : stmS P v fg (tk n f) i = liftS (pageR v (tk n f) i) fg := by unfold stmS; rw [if_neg c0, if_pos c1]
    rw [hs] at hp
    rw [c1, show am_tgt 4 215 200 216 #[84, 215, 91, 215, 215, 215, 98, 105, 215, 215, 215, 112, 215, 215, 119, 148, 177] (nI 202).toInt = 95 by decide]
    simp (disch := first | exact am_nl_i _ | exact am_nl_r _ | exact am_nl_0 | (refine vi_nI ?_ ?_ <;> omega) | assumption | omega | exact b2i_01 _ | exact Or.inl rfl | exact Or.inr rfl | (unfold vi; decide)) only [ex_80_0, ex_80_1, ex_80_88, ex_80_89, ex_80_92, ex_80_95, ex_80_99, ex_80_102, ex_80_103, ex_80_106, ex_80_109, ex_80_110, ex_80_113, ex_80_116, ex_80_117, ex_80_120, ex_80_123, ex_80_124, ex_80_125, ex_80_126, ex_80_129, ex_80_132, ex_80_135, ex_80_136, ex_80_137, ex_80_140, ex_80_143, ex_80_146, ex_80_149, ex_80_152, ex_80_153, ex_80_154, ex_80_155, ex_80_158, ex_80_161, ex_80_164, ex_80_165, ex_80_166, ex_80_169, ex_80_172, ex_80_175, ex_80_178, ex_80_181, ex_80_182, ex_80_183, ex_80_184, ex_80_187, ex_80_190, ex_80_193, ex_80_194, ex_80_197, ex_80_198, ex_80_201, ex_80_202, ex_80_203, ex_80_205, ex_80_208, ex_80_211, ex_80_212, ex_80_215, ex_80_216, ex_80_219, ex_80_220, ex_80_221, ex_80_224, if_true, if_false, and_self, Option.toList_some, Option.toList_none, List.singleton_append, List.cons_append, List.nil_append, List.append_nil, nI_1, nt_e, Int32.le_refl, Bool.true_eq_false, Bool.false_eq_true, ↓reduceIte]
    rw [ex_80_96]
    refine readPage_ok (d := d + 56) hR hk hB (liftC hLL hw (fun v' j h => law_page h) hF hp (fun u' h => ?_))
    simp (disch := first | exact am_nl_i _ | exact am_nl_r _ | exact am_nl_0 | (refine vi_nI ?_ ?_ <;> omega) | assumption | omega | exact b2i_01 _ | exact Or.inl rfl | exact Or.inr rfl | (unfold vi; decide)) only [ex_80_0, ex_80_1, ex_80_88, ex_80_89, ex_80_92, ex_80_95, ex_80_96, ex_80_99, ex_80_102, ex_80_103, ex_80_106, ex_80_109, ex_80_110, ex_80_113, ex_80_116, ex_80_117, ex_80_120, ex_80_123, ex_80_124, ex_80_125, ex_80_126, ex_80_129, ex_80_132, ex_80_135, ex_80_136, ex_80_137, ex_80_140, ex_80_143, ex_80_146, ex_80_149, ex_80_152, ex_80_153, ex_80_154, ex_80_155, ex_80_158, ex_80_161, ex_80_164, ex_80_165, ex_80_166, ex_80_169, ex_80_172, ex_80_175, ex_80_178, ex_80_181, ex_80_182, ex_80_183, ex_80_184, ex_80_187, ex_80_190, ex_80_193, ex_80_194, ex_80_197, ex_80_198, ex_80_201, ex_80_202, ex_80_203, ex_80_205, ex_80_208, ex_80_211, ex_80_212, ex_80_215, ex_80_216, ex_80_219, ex_80_220, ex_80_221, ex_80_224, if_true, if_false, and_self, Option.toList_some, Option.toList_none, List.singleton_append, List.cons_append, List.nil_append, List.append_nil, nI_1, nt_e, Int32.le_refl, Bool.true_eq_false, Bool.false_eq_true, ↓reduceIte]
    exact h
  by_cases c2 : csort (tk n f i) = 206
  · have hs : stmS P v fg (tk n f) i = liftS (clashR v (tk n f) i) fg := by unfold stmS; rw [if_neg c0, if_neg c1, if_pos c2]
    rw [hs] at hp
    rw [c2, show am_tgt 4 215 200 216 #[84, 215, 91, 215, 215, 215, 98, 105, 215, 215, 215, 112, 215, 215, 119, 148, 177] (nI 206).toInt = 102 by decide]
    simp (disch := first | exact am_nl_i _ | exact am_nl_r _ | exact am_nl_0 | (refine vi_nI ?_ ?_ <;> omega) | assumption | omega | exact b2i_01 _ | exact Or.inl rfl | exact Or.inr rfl | (unfold vi; decide)) only [ex_80_0, ex_80_1, ex_80_88, ex_80_89, ex_80_92, ex_80_95, ex_80_96, ex_80_99, ex_80_102, ex_80_106, ex_80_109, ex_80_110, ex_80_113, ex_80_116, ex_80_117, ex_80_120, ex_80_123, ex_80_124, ex_80_125, ex_80_126, ex_80_129, ex_80_132, ex_80_135, ex_80_136, ex_80_137, ex_80_140, ex_80_143, ex_80_146, ex_80_149, ex_80_152, ex_80_153, ex_80_154, ex_80_155, ex_80_158, ex_80_161, ex_80_164, ex_80_165, ex_80_166, ex_80_169, ex_80_172, ex_80_175, ex_80_178, ex_80_181, ex_80_182, ex_80_183, ex_80_184, ex_80_187, ex_80_190, ex_80_193, ex_80_194, ex_80_197, ex_80_198, ex_80_201, ex_80_202, ex_80_203, ex_80_205, ex_80_208, ex_80_211, ex_80_212, ex_80_215, ex_80_216, ex_80_219, ex_80_220, ex_80_221, ex_80_224, if_true, if_false, and_self, Option.toList_some, Option.toList_none, List.singleton_append, List.cons_append, List.nil_append, List.append_nil, nI_1, nt_e, Int32.le_refl, Bool.true_eq_false, Bool.false_eq_true, ↓reduceIte]
    rw [ex_80_103]
    refine readClash_ok (d := d + 56) hR hk hB hW (liftC hLL hw (fun v' j h => law_clash h) hF hp (fun u' h => ?_))
    simp (disch := first | exact am_nl_i _ | exact am_nl_r _ | exact am_nl_0 | (refine vi_nI ?_ ?_ <;> omega) | assumption | omega | exact b2i_01 _ | exact Or.inl rfl | exact Or.inr rfl | (unfold vi; decide)) only [ex_80_0, ex_80_1, ex_80_88, ex_80_89, ex_80_92, ex_80_95, ex_80_96, ex_80_99, ex_80_102, ex_80_103, ex_80_106, ex_80_109, ex_80_110, ex_80_113, ex_80_116, ex_80_117, ex_80_120, ex_80_123, ex_80_124, ex_80_125, ex_80_126, ex_80_129, ex_80_132, ex_80_135, ex_80_136, ex_80_137, ex_80_140, ex_80_143, ex_80_146, ex_80_149, ex_80_152, ex_80_153, ex_80_154, ex_80_155, ex_80_158, ex_80_161, ex_80_164, ex_80_165, ex_80_166, ex_80_169, ex_80_172, ex_80_175, ex_80_178, ex_80_181, ex_80_182, ex_80_183, ex_80_184, ex_80_187, ex_80_190, ex_80_193, ex_80_194, ex_80_197, ex_80_198, ex_80_201, ex_80_202, ex_80_203, ex_80_205, ex_80_208, ex_80_211, ex_80_212, ex_80_215, ex_80_216, ex_80_219, ex_80_220, ex_80_221, ex_80_224, if_true, if_false, and_self, Option.toList_some, Option.toList_none, List.singleton_append, List.cons_append, List.nil_append, List.append_nil, nI_1, nt_e, Int32.le_refl, Bool.true_eq_false, Bool.false_eq_true, ↓reduceIte]
    exact h
  by_cases c3 : csort (tk n f i) = 207
  · have hs : stmS P v fg (tk n f) i = liftS (personR v (tk n f) i) fg := by unfold stmS; rw [if_neg c0, if_neg c1, if_neg c2, if_pos c3]
    rw [hs] at hp
    rw [c3, show am_tgt 4 215 200 216 #[84, 215, 91, 215, 215, 215, 98, 105, 215, 215, 215, 112, 215, 215, 119, 148, 177] (nI 207).toInt = 109 by decide]
    simp (disch := first | exact am_nl_i _ | exact am_nl_r _ | exact am_nl_0 | (refine vi_nI ?_ ?_ <;> omega) | assumption | omega | exact b2i_01 _ | exact Or.inl rfl | exact Or.inr rfl | (unfold vi; decide)) only [ex_80_0, ex_80_1, ex_80_88, ex_80_89, ex_80_92, ex_80_95, ex_80_96, ex_80_99, ex_80_102, ex_80_103, ex_80_106, ex_80_109, ex_80_113, ex_80_116, ex_80_117, ex_80_120, ex_80_123, ex_80_124, ex_80_125, ex_80_126, ex_80_129, ex_80_132, ex_80_135, ex_80_136, ex_80_137, ex_80_140, ex_80_143, ex_80_146, ex_80_149, ex_80_152, ex_80_153, ex_80_154, ex_80_155, ex_80_158, ex_80_161, ex_80_164, ex_80_165, ex_80_166, ex_80_169, ex_80_172, ex_80_175, ex_80_178, ex_80_181, ex_80_182, ex_80_183, ex_80_184, ex_80_187, ex_80_190, ex_80_193, ex_80_194, ex_80_197, ex_80_198, ex_80_201, ex_80_202, ex_80_203, ex_80_205, ex_80_208, ex_80_211, ex_80_212, ex_80_215, ex_80_216, ex_80_219, ex_80_220, ex_80_221, ex_80_224, if_true, if_false, and_self, Option.toList_some, Option.toList_none, List.singleton_append, List.cons_append, List.nil_append, List.append_nil, nI_1, nt_e, Int32.le_refl, Bool.true_eq_false, Bool.false_eq_true, ↓reduceIte]
    rw [ex_80_110]
    refine readPerson_ok (d := d + 56) hR hk hB (liftC hLL hw (fun v' j h => law_person h) hF hp (fun u' h => ?_))
    simp (disch := first | exact am_nl_i _ | exact am_nl_r _ | exact am_nl_0 | (refine vi_nI ?_ ?_ <;> omega) | assumption | omega | exact b2i_01 _ | exact Or.inl rfl | exact Or.inr rfl | (unfold vi; decide)) only [ex_80_0, ex_80_1, ex_80_88, ex_80_89, ex_80_92, ex_80_95, ex_80_96, ex_80_99, ex_80_102, ex_80_103, ex_80_106, ex_80_109, ex_80_110, ex_80_113, ex_80_116, ex_80_117, ex_80_120, ex_80_123, ex_80_124, ex_80_125, ex_80_126, ex_80_129, ex_80_132, ex_80_135, ex_80_136, ex_80_137, ex_80_140, ex_80_143, ex_80_146, ex_80_149, ex_80_152, ex_80_153, ex_80_154, ex_80_155, ex_80_158, ex_80_161, ex_80_164, ex_80_165, ex_80_166, ex_80_169, ex_80_172, ex_80_175, ex_80_178, ex_80_181, ex_80_182, ex_80_183, ex_80_184, ex_80_187, ex_80_190, ex_80_193, ex_80_194, ex_80_197, ex_80_198, ex_80_201, ex_80_202, ex_80_203, ex_80_205, ex_80_208, ex_80_211, ex_80_212, ex_80_215, ex_80_216, ex_80_219, ex_80_220, ex_80_221, ex_80_224, if_true, if_false, and_self, Option.toList_some, Option.toList_none, List.singleton_append, List.cons_append, List.nil_append, List.append_nil, nI_1, nt_e, Int32.le_refl, Bool.true_eq_false, Bool.false_eq_true, ↓reduceIte]
    exact h
  by_cases c4 : csort (tk n f i) = 211
  · have hs : stmS P v fg (tk n f) i = liftS (taskR v (tk n f) i) fg := by unfold stmS; rw [if_neg c0, if_neg c1, if_neg c2, if_neg c3, if_pos c4]
    rw [hs] at hp
    rw [c4, show am_tgt 4 215 200 216 #[84, 215, 91, 215, 215, 215, 98, 105, 215, 215, 215, 112, 215, 215, 119, 148, 177] (nI 211).toInt = 116 by decide]
    simp (disch := first | exact am_nl_i _ | exact am_nl_r _ | exact am_nl_0 | (refine vi_nI ?_ ?_ <;> omega) | assumption | omega | exact b2i_01 _ | exact Or.inl rfl | exact Or.inr rfl | (unfold vi; decide)) only [ex_80_0, ex_80_1, ex_80_88, ex_80_89, ex_80_92, ex_80_95, ex_80_96, ex_80_99, ex_80_102, ex_80_103, ex_80_106, ex_80_109, ex_80_110, ex_80_113, ex_80_116, ex_80_120, ex_80_123, ex_80_124, ex_80_125, ex_80_126, ex_80_129, ex_80_132, ex_80_135, ex_80_136, ex_80_137, ex_80_140, ex_80_143, ex_80_146, ex_80_149, ex_80_152, ex_80_153, ex_80_154, ex_80_155, ex_80_158, ex_80_161, ex_80_164, ex_80_165, ex_80_166, ex_80_169, ex_80_172, ex_80_175, ex_80_178, ex_80_181, ex_80_182, ex_80_183, ex_80_184, ex_80_187, ex_80_190, ex_80_193, ex_80_194, ex_80_197, ex_80_198, ex_80_201, ex_80_202, ex_80_203, ex_80_205, ex_80_208, ex_80_211, ex_80_212, ex_80_215, ex_80_216, ex_80_219, ex_80_220, ex_80_221, ex_80_224, if_true, if_false, and_self, Option.toList_some, Option.toList_none, List.singleton_append, List.cons_append, List.nil_append, List.append_nil, nI_1, nt_e, Int32.le_refl, Bool.true_eq_false, Bool.false_eq_true, ↓reduceIte]
    rw [ex_80_117]
    refine readTask_ok (d := d + 56) hR hk hB (liftC hLL hw (fun v' j h => law_task h) hF hp (fun u' h => ?_))
    simp (disch := first | exact am_nl_i _ | exact am_nl_r _ | exact am_nl_0 | (refine vi_nI ?_ ?_ <;> omega) | assumption | omega | exact b2i_01 _ | exact Or.inl rfl | exact Or.inr rfl | (unfold vi; decide)) only [ex_80_0, ex_80_1, ex_80_88, ex_80_89, ex_80_92, ex_80_95, ex_80_96, ex_80_99, ex_80_102, ex_80_103, ex_80_106, ex_80_109, ex_80_110, ex_80_113, ex_80_116, ex_80_117, ex_80_120, ex_80_123, ex_80_124, ex_80_125, ex_80_126, ex_80_129, ex_80_132, ex_80_135, ex_80_136, ex_80_137, ex_80_140, ex_80_143, ex_80_146, ex_80_149, ex_80_152, ex_80_153, ex_80_154, ex_80_155, ex_80_158, ex_80_161, ex_80_164, ex_80_165, ex_80_166, ex_80_169, ex_80_172, ex_80_175, ex_80_178, ex_80_181, ex_80_182, ex_80_183, ex_80_184, ex_80_187, ex_80_190, ex_80_193, ex_80_194, ex_80_197, ex_80_198, ex_80_201, ex_80_202, ex_80_203, ex_80_205, ex_80_208, ex_80_211, ex_80_212, ex_80_215, ex_80_216, ex_80_219, ex_80_220, ex_80_221, ex_80_224, if_true, if_false, and_self, Option.toList_some, Option.toList_none, List.singleton_append, List.cons_append, List.nil_append, List.append_nil, nI_1, nt_e, Int32.le_refl, Bool.true_eq_false, Bool.false_eq_true, ↓reduceIte]
    exact h
  obtain ⟨hb, hg⟩ := hp
  by_cases c5 : csort (tk n f i) = 214
  · have hs : stmS P v fg (tk n f) i = liftS (lawR P v false fg.1 (tk n f) i) (true, fg.2) := by unfold stmS; rw [if_neg c0, if_neg c1, if_neg c2, if_neg c3, if_neg c4, if_pos c5]
    rw [hs] at hb hg
    rw [c5, show am_tgt 4 215 200 216 #[84, 215, 91, 215, 215, 215, 98, 105, 215, 215, 215, 112, 215, 215, 119, 148, 177] (nI 214).toInt = 123 by decide]
    cases hfg : fg.1
    · rw [hfg] at hb hg
      have o6 : Only (bkP L) u (sFI u 6 6 1) := Only.sFI (Or.inl rfl)
      have R6 := hR.f6 (k := 6) (x := 1) (Or.inl rfl)
      have B6 := hB.f6 (k := 6) (x := 1)
      have w6 : LwC (sFI u 6 6 1) L v := hw.keep (P := is 6) (Only.sFI rfl) (by unfold is; omega)
      have hFa : FI u 6 6 = 0 := by rw [hF.1, hfg]; rfl
      have hFc : FlgC (sFI u 6 6 1) (true, fg.2) := ⟨by rw [FI_sFI, if_pos ⟨rfl, rfl⟩]; rfl, by rw [FI_sFI, if_neg (by decide)]; exact hF.2.1, by rw [FI_sFI, if_neg (by decide)]; exact hF.2.2⟩
      simp (disch := first | exact am_nl_i _ | exact am_nl_r _ | exact am_nl_0 | (refine vi_nI ?_ ?_ <;> omega) | assumption | omega | exact b2i_01 _ | exact Or.inl rfl | exact Or.inr rfl | (unfold vi; decide)) only [ex_80_0, ex_80_1, ex_80_88, ex_80_89, ex_80_92, ex_80_95, ex_80_96, ex_80_99, ex_80_102, ex_80_103, ex_80_106, ex_80_109, ex_80_110, ex_80_113, ex_80_116, ex_80_117, ex_80_120, ex_80_123, ex_80_124, ex_80_125, ex_80_126, ex_80_129, ex_80_132, ex_80_135, ex_80_136, ex_80_140, ex_80_143, ex_80_146, ex_80_149, ex_80_152, ex_80_153, ex_80_154, ex_80_155, ex_80_158, ex_80_161, ex_80_164, ex_80_165, ex_80_166, ex_80_169, ex_80_172, ex_80_175, ex_80_178, ex_80_181, ex_80_182, ex_80_183, ex_80_184, ex_80_187, ex_80_190, ex_80_193, ex_80_194, ex_80_197, ex_80_198, ex_80_201, ex_80_202, ex_80_203, ex_80_205, ex_80_208, ex_80_211, ex_80_212, ex_80_215, ex_80_216, ex_80_219, ex_80_220, ex_80_221, ex_80_224, if_true, if_false, and_self, Option.toList_some, Option.toList_none, List.singleton_append, List.cons_append, List.nil_append, List.append_nil, nI_1, nt_e, Int32.le_refl, hFa, isFirst_f, Bool.true_eq_false, Bool.false_eq_true, ↓reduceIte]
      generalize sFI u 6 6 1 = u6 at *
      rw [ex_80_137]
      simp (disch := first | exact am_nl_i _ | exact am_nl_r _ | exact am_nl_0 | (refine vi_nI ?_ ?_ <;> omega) | assumption | omega | exact b2i_01 _ | exact Or.inl rfl | exact Or.inr rfl | (unfold vi; decide)) only [ex_80_0, ex_80_1, ex_80_88, ex_80_89, ex_80_92, ex_80_95, ex_80_96, ex_80_99, ex_80_102, ex_80_103, ex_80_106, ex_80_109, ex_80_110, ex_80_113, ex_80_116, ex_80_117, ex_80_120, ex_80_123, ex_80_124, ex_80_125, ex_80_126, ex_80_129, ex_80_132, ex_80_135, ex_80_136, ex_80_137, ex_80_140, ex_80_143, ex_80_149, ex_80_152, ex_80_153, ex_80_154, ex_80_155, ex_80_158, ex_80_161, ex_80_164, ex_80_165, ex_80_166, ex_80_169, ex_80_172, ex_80_175, ex_80_178, ex_80_181, ex_80_182, ex_80_183, ex_80_184, ex_80_187, ex_80_190, ex_80_193, ex_80_194, ex_80_197, ex_80_198, ex_80_201, ex_80_202, ex_80_203, ex_80_205, ex_80_208, ex_80_211, ex_80_212, ex_80_215, ex_80_216, ex_80_219, ex_80_220, ex_80_221, ex_80_224, if_true, if_false, and_self, Option.toList_some, Option.toList_none, List.singleton_append, List.cons_append, List.nil_append, List.append_nil, nI_1, nt_e, Int32.le_refl, B6.2.2.1, va_rfs, Bool.true_eq_false, Bool.false_eq_true, ↓reduceIte]
      rw [ex_80_146]
      refine readForm_ok (d := d) (b := false) R6 hk B6 w6 hP ⟨fun e u' hr o m4 F => ?_, fun v' j u' hr o k1 B W R => ?_⟩
      · have hfin := hb e u' (by rw [hr]; rfl) (o6.tr o) m4 F
        simp (disch := first | exact am_nl_i _ | exact am_nl_r _ | exact am_nl_0 | (refine vi_nI ?_ ?_ <;> omega) | assumption | omega | exact b2i_01 _ | exact Or.inl rfl | exact Or.inr rfl | (unfold vi; decide)) only [ex_80_0, ex_80_1, ex_80_88, ex_80_89, ex_80_92, ex_80_95, ex_80_96, ex_80_99, ex_80_102, ex_80_103, ex_80_106, ex_80_109, ex_80_110, ex_80_113, ex_80_116, ex_80_117, ex_80_120, ex_80_123, ex_80_124, ex_80_125, ex_80_126, ex_80_129, ex_80_132, ex_80_135, ex_80_136, ex_80_137, ex_80_140, ex_80_143, ex_80_146, ex_80_149, ex_80_152, ex_80_153, ex_80_154, ex_80_155, ex_80_158, ex_80_161, ex_80_164, ex_80_165, ex_80_166, ex_80_169, ex_80_172, ex_80_175, ex_80_178, ex_80_181, ex_80_182, ex_80_183, ex_80_184, ex_80_187, ex_80_190, ex_80_193, ex_80_194, ex_80_197, ex_80_198, ex_80_201, ex_80_202, ex_80_203, ex_80_205, ex_80_208, ex_80_211, ex_80_212, ex_80_215, ex_80_216, ex_80_219, ex_80_220, ex_80_221, ex_80_224, if_true, if_false, and_self, Option.toList_some, Option.toList_none, List.singleton_append, List.cons_append, List.nil_append, List.append_nil, nI_1, nt_e, Int32.le_refl, Bool.true_eq_false, Bool.false_eq_true, ↓reduceIte]
        exact hfin
      · have hfin := hg v' (true, fg.2) j u' (by rw [hr]; rfl) (o6.tr o) (hFc.kp (fun k hk => k1 k (by omega) (by omega) (by omega))) B W R
        simp (disch := first | exact am_nl_i _ | exact am_nl_r _ | exact am_nl_0 | (refine vi_nI ?_ ?_ <;> omega) | assumption | omega | exact b2i_01 _ | exact Or.inl rfl | exact Or.inr rfl | (unfold vi; decide)) only [ex_80_0, ex_80_1, ex_80_88, ex_80_89, ex_80_92, ex_80_95, ex_80_96, ex_80_99, ex_80_102, ex_80_103, ex_80_106, ex_80_109, ex_80_110, ex_80_113, ex_80_116, ex_80_117, ex_80_120, ex_80_123, ex_80_124, ex_80_125, ex_80_126, ex_80_129, ex_80_132, ex_80_135, ex_80_136, ex_80_137, ex_80_140, ex_80_143, ex_80_146, ex_80_149, ex_80_152, ex_80_153, ex_80_154, ex_80_155, ex_80_158, ex_80_161, ex_80_164, ex_80_165, ex_80_166, ex_80_169, ex_80_172, ex_80_175, ex_80_178, ex_80_181, ex_80_182, ex_80_183, ex_80_184, ex_80_187, ex_80_190, ex_80_193, ex_80_194, ex_80_197, ex_80_198, ex_80_201, ex_80_202, ex_80_203, ex_80_205, ex_80_208, ex_80_211, ex_80_212, ex_80_215, ex_80_216, ex_80_219, ex_80_220, ex_80_221, ex_80_224, if_true, if_false, and_self, Option.toList_some, Option.toList_none, List.singleton_append, List.cons_append, List.nil_append, List.append_nil, nI_1, nt_e, Int32.le_refl, Bool.true_eq_false, Bool.false_eq_true, ↓reduceIte]
        exact hfin
      all_goals exact hL
    · rw [hfg] at hb
      have F9 := fail_f (k := 3) hR (by decide) (by decide)
      have hFa : FI u 6 6 = 1 := by rw [hF.1, hfg]; rfl
      have o9 : Only (bkP L) u (sFI (sFI u 6 9 (nI (fl 3 (tk n f i)))) 6 6 1) := of_fi (Only.sFI (Or.inl rfl)) (Or.inl rfl)
      have F6 := F9.f6 (k := 6) (x := 1) (Or.inl rfl)
      have m6 : most4 (sFI (sFI u 6 9 (nI (fl 3 (tk n f i)))) 6 6 1) L := most_f6 hLL (most_f6 hLL hB.most)
      have g2 : FR (sFI (sFI u 6 9 (nI (fl 3 (tk n f i)))) 6 6 1) 6 2 = some L := hB.2.2.1
      simp (disch := first | exact am_nl_i _ | exact am_nl_r _ | exact am_nl_0 | (refine vi_nI ?_ ?_ <;> omega) | assumption | omega | exact b2i_01 _ | exact Or.inl rfl | exact Or.inr rfl | (unfold vi; decide)) only [ex_80_0, ex_80_1, ex_80_88, ex_80_89, ex_80_92, ex_80_95, ex_80_96, ex_80_99, ex_80_102, ex_80_103, ex_80_106, ex_80_109, ex_80_110, ex_80_113, ex_80_116, ex_80_117, ex_80_120, ex_80_123, ex_80_124, ex_80_125, ex_80_126, ex_80_129, ex_80_132, ex_80_135, ex_80_136, ex_80_140, ex_80_143, ex_80_146, ex_80_149, ex_80_152, ex_80_153, ex_80_154, ex_80_155, ex_80_158, ex_80_161, ex_80_164, ex_80_165, ex_80_166, ex_80_169, ex_80_172, ex_80_175, ex_80_178, ex_80_181, ex_80_182, ex_80_183, ex_80_184, ex_80_187, ex_80_190, ex_80_193, ex_80_194, ex_80_197, ex_80_198, ex_80_201, ex_80_202, ex_80_203, ex_80_205, ex_80_208, ex_80_211, ex_80_212, ex_80_215, ex_80_216, ex_80_219, ex_80_220, ex_80_221, ex_80_224, if_true, if_false, and_self, Option.toList_some, Option.toList_none, List.singleton_append, List.cons_append, List.nil_append, List.append_nil, nI_1, nt_e, Int32.le_refl, hFa, isFirst_t hR, Bool.true_eq_false, Bool.false_eq_true, ↓reduceIte]
      generalize sFI (sFI u 6 9 (nI (fl 3 (tk n f i)))) 6 6 1 = u6 at *
      rw [ex_80_137]
      have hfin := hb _ (fmU u6 (L + 20) 227) (by unfold lawR; rw [if_pos rfl]; rfl) (o9.tr (fmU_o.wk (fmP_bk (Or.inl rfl)))) (most_fm hLL (Or.inl rfl) m6 fmU_o) (F6.fmU (by omega))
      have fa : fAt (L + 20) := faB_at (b := false) hLL
      simp (disch := first | exact am_nl_i _ | exact am_nl_r _ | exact am_nl_0 | (refine vi_nI ?_ ?_ <;> omega) | assumption | omega | exact b2i_01 _ | exact Or.inl rfl | exact Or.inr rfl | (unfold vi; decide)) only [ex_80_0, ex_80_1, ex_80_88, ex_80_89, ex_80_92, ex_80_95, ex_80_96, ex_80_99, ex_80_102, ex_80_103, ex_80_106, ex_80_109, ex_80_110, ex_80_113, ex_80_116, ex_80_117, ex_80_120, ex_80_123, ex_80_124, ex_80_125, ex_80_126, ex_80_129, ex_80_132, ex_80_135, ex_80_136, ex_80_137, ex_80_140, ex_80_143, ex_80_149, ex_80_152, ex_80_153, ex_80_154, ex_80_155, ex_80_158, ex_80_161, ex_80_164, ex_80_165, ex_80_166, ex_80_169, ex_80_172, ex_80_175, ex_80_178, ex_80_181, ex_80_182, ex_80_183, ex_80_184, ex_80_187, ex_80_190, ex_80_193, ex_80_194, ex_80_197, ex_80_198, ex_80_201, ex_80_202, ex_80_203, ex_80_205, ex_80_208, ex_80_211, ex_80_212, ex_80_215, ex_80_216, ex_80_219, ex_80_220, ex_80_221, ex_80_224, if_true, if_false, and_self, Option.toList_some, Option.toList_none, List.singleton_append, List.cons_append, List.nil_append, List.append_nil, nI_1, nt_e, Int32.le_refl, g2, va_rfs, Bool.true_eq_false, Bool.false_eq_true, ↓reduceIte]
      rw [ex_80_146, show d + 60 = d + 51 + 9 by omega, readFormX fa F6]
      simp (disch := first | exact am_nl_i _ | exact am_nl_r _ | exact am_nl_0 | (refine vi_nI ?_ ?_ <;> omega) | assumption | omega | exact b2i_01 _ | exact Or.inl rfl | exact Or.inr rfl | (unfold vi; decide)) only [ex_80_0, ex_80_1, ex_80_88, ex_80_89, ex_80_92, ex_80_95, ex_80_96, ex_80_99, ex_80_102, ex_80_103, ex_80_106, ex_80_109, ex_80_110, ex_80_113, ex_80_116, ex_80_117, ex_80_120, ex_80_123, ex_80_124, ex_80_125, ex_80_126, ex_80_129, ex_80_132, ex_80_135, ex_80_136, ex_80_137, ex_80_140, ex_80_143, ex_80_146, ex_80_149, ex_80_152, ex_80_153, ex_80_154, ex_80_155, ex_80_158, ex_80_161, ex_80_164, ex_80_165, ex_80_166, ex_80_169, ex_80_172, ex_80_175, ex_80_178, ex_80_181, ex_80_182, ex_80_183, ex_80_184, ex_80_187, ex_80_190, ex_80_193, ex_80_194, ex_80_197, ex_80_198, ex_80_201, ex_80_202, ex_80_203, ex_80_205, ex_80_208, ex_80_211, ex_80_212, ex_80_215, ex_80_216, ex_80_219, ex_80_220, ex_80_221, ex_80_224, if_true, if_false, and_self, Option.toList_some, Option.toList_none, List.singleton_append, List.cons_append, List.nil_append, List.append_nil, nI_1, nt_e, Int32.le_refl, Bool.true_eq_false, Bool.false_eq_true, ↓reduceIte]
      exact hfin
      all_goals exact hL
  by_cases c6 : csort (tk n f i) = 215
  · have hs : stmS P v fg (tk n f) i = liftS (lawR P v true fg.2.1 (tk n f) i) (fg.1, true, fg.2.2) := by unfold stmS; rw [if_neg c0, if_neg c1, if_neg c2, if_neg c3, if_neg c4, if_neg c5, if_pos c6]
    rw [hs] at hb hg
    rw [c6, show am_tgt 4 215 200 216 #[84, 215, 91, 215, 215, 215, 98, 105, 215, 215, 215, 112, 215, 215, 119, 148, 177] (nI 215).toInt = 152 by decide]
    cases hfg : fg.2.1
    · rw [hfg] at hb hg
      have o6 : Only (bkP L) u (sFI u 6 7 1) := Only.sFI (Or.inl rfl)
      have R6 := hR.f6 (k := 7) (x := 1) (Or.inr (Or.inl rfl))
      have B6 := hB.f6 (k := 7) (x := 1)
      have w6 : LwC (sFI u 6 7 1) L v := hw.keep (P := is 6) (Only.sFI rfl) (by unfold is; omega)
      have hFa : FI u 6 7 = 0 := by rw [hF.2.1, hfg]; rfl
      have hFc : FlgC (sFI u 6 7 1) (fg.1, true, fg.2.2) := ⟨by rw [FI_sFI, if_neg (by decide)]; exact hF.1, by rw [FI_sFI, if_pos ⟨rfl, rfl⟩]; rfl, by rw [FI_sFI, if_neg (by decide)]; exact hF.2.2⟩
      simp (disch := first | exact am_nl_i _ | exact am_nl_r _ | exact am_nl_0 | (refine vi_nI ?_ ?_ <;> omega) | assumption | omega | exact b2i_01 _ | exact Or.inl rfl | exact Or.inr rfl | (unfold vi; decide)) only [ex_80_0, ex_80_1, ex_80_88, ex_80_89, ex_80_92, ex_80_95, ex_80_96, ex_80_99, ex_80_102, ex_80_103, ex_80_106, ex_80_109, ex_80_110, ex_80_113, ex_80_116, ex_80_117, ex_80_120, ex_80_123, ex_80_124, ex_80_125, ex_80_126, ex_80_129, ex_80_132, ex_80_135, ex_80_136, ex_80_137, ex_80_140, ex_80_143, ex_80_146, ex_80_149, ex_80_152, ex_80_153, ex_80_154, ex_80_155, ex_80_158, ex_80_161, ex_80_164, ex_80_165, ex_80_169, ex_80_172, ex_80_175, ex_80_178, ex_80_181, ex_80_182, ex_80_183, ex_80_184, ex_80_187, ex_80_190, ex_80_193, ex_80_194, ex_80_197, ex_80_198, ex_80_201, ex_80_202, ex_80_203, ex_80_205, ex_80_208, ex_80_211, ex_80_212, ex_80_215, ex_80_216, ex_80_219, ex_80_220, ex_80_221, ex_80_224, if_true, if_false, and_self, Option.toList_some, Option.toList_none, List.singleton_append, List.cons_append, List.nil_append, List.append_nil, nI_1, nt_e, Int32.le_refl, hFa, isFirst_f, Bool.true_eq_false, Bool.false_eq_true, ↓reduceIte]
      generalize sFI u 6 7 1 = u6 at *
      rw [ex_80_166]
      simp (disch := first | exact am_nl_i _ | exact am_nl_r _ | exact am_nl_0 | (refine vi_nI ?_ ?_ <;> omega) | assumption | omega | exact b2i_01 _ | exact Or.inl rfl | exact Or.inr rfl | (unfold vi; decide)) only [ex_80_0, ex_80_1, ex_80_88, ex_80_89, ex_80_92, ex_80_95, ex_80_96, ex_80_99, ex_80_102, ex_80_103, ex_80_106, ex_80_109, ex_80_110, ex_80_113, ex_80_116, ex_80_117, ex_80_120, ex_80_123, ex_80_124, ex_80_125, ex_80_126, ex_80_129, ex_80_132, ex_80_135, ex_80_136, ex_80_137, ex_80_140, ex_80_143, ex_80_146, ex_80_149, ex_80_152, ex_80_153, ex_80_154, ex_80_155, ex_80_158, ex_80_161, ex_80_164, ex_80_165, ex_80_166, ex_80_169, ex_80_172, ex_80_178, ex_80_181, ex_80_182, ex_80_183, ex_80_184, ex_80_187, ex_80_190, ex_80_193, ex_80_194, ex_80_197, ex_80_198, ex_80_201, ex_80_202, ex_80_203, ex_80_205, ex_80_208, ex_80_211, ex_80_212, ex_80_215, ex_80_216, ex_80_219, ex_80_220, ex_80_221, ex_80_224, if_true, if_false, and_self, Option.toList_some, Option.toList_none, List.singleton_append, List.cons_append, List.nil_append, List.append_nil, nI_1, nt_e, Int32.le_refl, B6.2.2.1, va_rfs, Bool.true_eq_false, Bool.false_eq_true, ↓reduceIte]
      rw [ex_80_175]
      refine readForm_ok (d := d) (b := true) R6 hk B6 w6 hP ⟨fun e u' hr o m4 F => ?_, fun v' j u' hr o k1 B W R => ?_⟩
      · have hfin := hb e u' (by rw [hr]; rfl) (o6.tr o) m4 F
        simp (disch := first | exact am_nl_i _ | exact am_nl_r _ | exact am_nl_0 | (refine vi_nI ?_ ?_ <;> omega) | assumption | omega | exact b2i_01 _ | exact Or.inl rfl | exact Or.inr rfl | (unfold vi; decide)) only [ex_80_0, ex_80_1, ex_80_88, ex_80_89, ex_80_92, ex_80_95, ex_80_96, ex_80_99, ex_80_102, ex_80_103, ex_80_106, ex_80_109, ex_80_110, ex_80_113, ex_80_116, ex_80_117, ex_80_120, ex_80_123, ex_80_124, ex_80_125, ex_80_126, ex_80_129, ex_80_132, ex_80_135, ex_80_136, ex_80_137, ex_80_140, ex_80_143, ex_80_146, ex_80_149, ex_80_152, ex_80_153, ex_80_154, ex_80_155, ex_80_158, ex_80_161, ex_80_164, ex_80_165, ex_80_166, ex_80_169, ex_80_172, ex_80_175, ex_80_178, ex_80_181, ex_80_182, ex_80_183, ex_80_184, ex_80_187, ex_80_190, ex_80_193, ex_80_194, ex_80_197, ex_80_198, ex_80_201, ex_80_202, ex_80_203, ex_80_205, ex_80_208, ex_80_211, ex_80_212, ex_80_215, ex_80_216, ex_80_219, ex_80_220, ex_80_221, ex_80_224, if_true, if_false, and_self, Option.toList_some, Option.toList_none, List.singleton_append, List.cons_append, List.nil_append, List.append_nil, nI_1, nt_e, Int32.le_refl, Bool.true_eq_false, Bool.false_eq_true, ↓reduceIte]
        exact hfin
      · have hfin := hg v' (fg.1, true, fg.2.2) j u' (by rw [hr]; rfl) (o6.tr o) (hFc.kp (fun k hk => k1 k (by omega) (by omega) (by omega))) B W R
        simp (disch := first | exact am_nl_i _ | exact am_nl_r _ | exact am_nl_0 | (refine vi_nI ?_ ?_ <;> omega) | assumption | omega | exact b2i_01 _ | exact Or.inl rfl | exact Or.inr rfl | (unfold vi; decide)) only [ex_80_0, ex_80_1, ex_80_88, ex_80_89, ex_80_92, ex_80_95, ex_80_96, ex_80_99, ex_80_102, ex_80_103, ex_80_106, ex_80_109, ex_80_110, ex_80_113, ex_80_116, ex_80_117, ex_80_120, ex_80_123, ex_80_124, ex_80_125, ex_80_126, ex_80_129, ex_80_132, ex_80_135, ex_80_136, ex_80_137, ex_80_140, ex_80_143, ex_80_146, ex_80_149, ex_80_152, ex_80_153, ex_80_154, ex_80_155, ex_80_158, ex_80_161, ex_80_164, ex_80_165, ex_80_166, ex_80_169, ex_80_172, ex_80_175, ex_80_178, ex_80_181, ex_80_182, ex_80_183, ex_80_184, ex_80_187, ex_80_190, ex_80_193, ex_80_194, ex_80_197, ex_80_198, ex_80_201, ex_80_202, ex_80_203, ex_80_205, ex_80_208, ex_80_211, ex_80_212, ex_80_215, ex_80_216, ex_80_219, ex_80_220, ex_80_221, ex_80_224, if_true, if_false, and_self, Option.toList_some, Option.toList_none, List.singleton_append, List.cons_append, List.nil_append, List.append_nil, nI_1, nt_e, Int32.le_refl, Bool.true_eq_false, Bool.false_eq_true, ↓reduceIte]
        exact hfin
      all_goals exact hL
    · rw [hfg] at hb
      have F9 := fail_f (k := 3) hR (by decide) (by decide)
      have hFa : FI u 6 7 = 1 := by rw [hF.2.1, hfg]; rfl
      have o9 : Only (bkP L) u (sFI (sFI u 6 9 (nI (fl 3 (tk n f i)))) 6 7 1) := of_fi (Only.sFI (Or.inl rfl)) (Or.inl rfl)
      have F6 := F9.f6 (k := 7) (x := 1) (Or.inr (Or.inl rfl))
      have m6 : most4 (sFI (sFI u 6 9 (nI (fl 3 (tk n f i)))) 6 7 1) L := most_f6 hLL (most_f6 hLL hB.most)
      have g2 : FR (sFI (sFI u 6 9 (nI (fl 3 (tk n f i)))) 6 7 1) 6 2 = some L := hB.2.2.1
      simp (disch := first | exact am_nl_i _ | exact am_nl_r _ | exact am_nl_0 | (refine vi_nI ?_ ?_ <;> omega) | assumption | omega | exact b2i_01 _ | exact Or.inl rfl | exact Or.inr rfl | (unfold vi; decide)) only [ex_80_0, ex_80_1, ex_80_88, ex_80_89, ex_80_92, ex_80_95, ex_80_96, ex_80_99, ex_80_102, ex_80_103, ex_80_106, ex_80_109, ex_80_110, ex_80_113, ex_80_116, ex_80_117, ex_80_120, ex_80_123, ex_80_124, ex_80_125, ex_80_126, ex_80_129, ex_80_132, ex_80_135, ex_80_136, ex_80_137, ex_80_140, ex_80_143, ex_80_146, ex_80_149, ex_80_152, ex_80_153, ex_80_154, ex_80_155, ex_80_158, ex_80_161, ex_80_164, ex_80_165, ex_80_169, ex_80_172, ex_80_175, ex_80_178, ex_80_181, ex_80_182, ex_80_183, ex_80_184, ex_80_187, ex_80_190, ex_80_193, ex_80_194, ex_80_197, ex_80_198, ex_80_201, ex_80_202, ex_80_203, ex_80_205, ex_80_208, ex_80_211, ex_80_212, ex_80_215, ex_80_216, ex_80_219, ex_80_220, ex_80_221, ex_80_224, if_true, if_false, and_self, Option.toList_some, Option.toList_none, List.singleton_append, List.cons_append, List.nil_append, List.append_nil, nI_1, nt_e, Int32.le_refl, hFa, isFirst_t hR, Bool.true_eq_false, Bool.false_eq_true, ↓reduceIte]
      generalize sFI (sFI u 6 9 (nI (fl 3 (tk n f i)))) 6 7 1 = u6 at *
      rw [ex_80_166]
      have hfin := hb _ (fmU u6 (L + 23) 228) (by unfold lawR; rw [if_pos rfl]; rfl) (o9.tr (fmU_o.wk (fmP_bk (Or.inr rfl)))) (most_fm hLL (Or.inr rfl) m6 fmU_o) (F6.fmU (by omega))
      have fa : fAt (L + 23) := faB_at (b := true) hLL
      simp (disch := first | exact am_nl_i _ | exact am_nl_r _ | exact am_nl_0 | (refine vi_nI ?_ ?_ <;> omega) | assumption | omega | exact b2i_01 _ | exact Or.inl rfl | exact Or.inr rfl | (unfold vi; decide)) only [ex_80_0, ex_80_1, ex_80_88, ex_80_89, ex_80_92, ex_80_95, ex_80_96, ex_80_99, ex_80_102, ex_80_103, ex_80_106, ex_80_109, ex_80_110, ex_80_113, ex_80_116, ex_80_117, ex_80_120, ex_80_123, ex_80_124, ex_80_125, ex_80_126, ex_80_129, ex_80_132, ex_80_135, ex_80_136, ex_80_137, ex_80_140, ex_80_143, ex_80_146, ex_80_149, ex_80_152, ex_80_153, ex_80_154, ex_80_155, ex_80_158, ex_80_161, ex_80_164, ex_80_165, ex_80_166, ex_80_169, ex_80_172, ex_80_178, ex_80_181, ex_80_182, ex_80_183, ex_80_184, ex_80_187, ex_80_190, ex_80_193, ex_80_194, ex_80_197, ex_80_198, ex_80_201, ex_80_202, ex_80_203, ex_80_205, ex_80_208, ex_80_211, ex_80_212, ex_80_215, ex_80_216, ex_80_219, ex_80_220, ex_80_221, ex_80_224, if_true, if_false, and_self, Option.toList_some, Option.toList_none, List.singleton_append, List.cons_append, List.nil_append, List.append_nil, nI_1, nt_e, Int32.le_refl, g2, va_rfs, Bool.true_eq_false, Bool.false_eq_true, ↓reduceIte]
      rw [ex_80_175, show d + 60 = d + 51 + 9 by omega, readFormX fa F6]
      simp (disch := first | exact am_nl_i _ | exact am_nl_r _ | exact am_nl_0 | (refine vi_nI ?_ ?_ <;> omega) | assumption | omega | exact b2i_01 _ | exact Or.inl rfl | exact Or.inr rfl | (unfold vi; decide)) only [ex_80_0, ex_80_1, ex_80_88, ex_80_89, ex_80_92, ex_80_95, ex_80_96, ex_80_99, ex_80_102, ex_80_103, ex_80_106, ex_80_109, ex_80_110, ex_80_113, ex_80_116, ex_80_117, ex_80_120, ex_80_123, ex_80_124, ex_80_125, ex_80_126, ex_80_129, ex_80_132, ex_80_135, ex_80_136, ex_80_137, ex_80_140, ex_80_143, ex_80_146, ex_80_149, ex_80_152, ex_80_153, ex_80_154, ex_80_155, ex_80_158, ex_80_161, ex_80_164, ex_80_165, ex_80_166, ex_80_169, ex_80_172, ex_80_175, ex_80_178, ex_80_181, ex_80_182, ex_80_183, ex_80_184, ex_80_187, ex_80_190, ex_80_193, ex_80_194, ex_80_197, ex_80_198, ex_80_201, ex_80_202, ex_80_203, ex_80_205, ex_80_208, ex_80_211, ex_80_212, ex_80_215, ex_80_216, ex_80_219, ex_80_220, ex_80_221, ex_80_224, if_true, if_false, and_self, Option.toList_some, Option.toList_none, List.singleton_append, List.cons_append, List.nil_append, List.append_nil, nI_1, nt_e, Int32.le_refl, Bool.true_eq_false, Bool.false_eq_true, ↓reduceIte]
      exact hfin
      all_goals exact hL
  by_cases c7 : csort (tk n f i) = 216
  · have hs : stmS P v fg (tk n f) i = liftS (burnR v fg.2.2 (tk n f) i) (fg.1, fg.2.1, true) := by unfold stmS; rw [if_neg c0, if_neg c1, if_neg c2, if_neg c3, if_neg c4, if_neg c5, if_neg c6, if_pos c7]
    rw [hs] at hb hg
    rw [c7, show am_tgt 4 215 200 216 #[84, 215, 91, 215, 215, 215, 98, 105, 215, 215, 215, 112, 215, 215, 119, 148, 177] (nI 216).toInt = 181 by decide]
    cases hfg : fg.2.2
    · rw [hfg] at hb hg
      have o6 : Only (bkP L) u (sFI u 6 8 1) := Only.sFI (Or.inl rfl)
      have R6 := hR.f6 (k := 8) (x := 1) (Or.inr (Or.inr rfl))
      have B6 := hB.f6 (k := 8) (x := 1)
      have w6 : LwC (sFI u 6 8 1) L v := hw.keep (P := is 6) (Only.sFI rfl) (by unfold is; omega)
      have hFa : FI u 6 8 = 0 := by rw [hF.2.2, hfg]; rfl
      have hFc : FlgC (sFI u 6 8 1) (fg.1, fg.2.1, true) := ⟨by rw [FI_sFI, if_neg (by decide)]; exact hF.1, by rw [FI_sFI, if_neg (by decide)]; exact hF.2.1, by rw [FI_sFI, if_pos ⟨rfl, rfl⟩]; rfl⟩
      simp (disch := first | exact am_nl_i _ | exact am_nl_r _ | exact am_nl_0 | (refine vi_nI ?_ ?_ <;> omega) | assumption | omega | exact b2i_01 _ | exact Or.inl rfl | exact Or.inr rfl | (unfold vi; decide)) only [ex_80_0, ex_80_1, ex_80_88, ex_80_89, ex_80_92, ex_80_95, ex_80_96, ex_80_99, ex_80_102, ex_80_103, ex_80_106, ex_80_109, ex_80_110, ex_80_113, ex_80_116, ex_80_117, ex_80_120, ex_80_123, ex_80_124, ex_80_125, ex_80_126, ex_80_129, ex_80_132, ex_80_135, ex_80_136, ex_80_137, ex_80_140, ex_80_143, ex_80_146, ex_80_149, ex_80_152, ex_80_153, ex_80_154, ex_80_155, ex_80_158, ex_80_161, ex_80_164, ex_80_165, ex_80_166, ex_80_169, ex_80_172, ex_80_175, ex_80_178, ex_80_181, ex_80_182, ex_80_183, ex_80_184, ex_80_187, ex_80_190, ex_80_194, ex_80_197, ex_80_198, ex_80_201, ex_80_202, ex_80_203, ex_80_205, ex_80_208, ex_80_211, ex_80_212, ex_80_215, ex_80_216, ex_80_219, ex_80_220, ex_80_221, ex_80_224, if_true, if_false, and_self, Option.toList_some, Option.toList_none, List.singleton_append, List.cons_append, List.nil_append, List.append_nil, nI_1, nt_e, Int32.le_refl, hFa, isFirst_f, Bool.true_eq_false, Bool.false_eq_true, ↓reduceIte]
      generalize sFI u 6 8 1 = u6 at *
      have R7 := step_r R6 hk
      have o7 : RdO u6 (sFI u6 6 1 (nI (i + 1))) := (RdO.rf u6).fi (Or.inl rfl)
      have B7 := B6.rd o7
      rw [ex_80_193]
      simp (disch := first | exact am_nl_i _ | exact am_nl_r _ | exact am_nl_0 | (refine vi_nI ?_ ?_ <;> omega) | assumption | omega | exact b2i_01 _ | exact Or.inl rfl | exact Or.inr rfl | (unfold vi; decide)) only [ex_80_0, ex_80_1, ex_80_88, ex_80_89, ex_80_92, ex_80_95, ex_80_96, ex_80_99, ex_80_102, ex_80_103, ex_80_106, ex_80_109, ex_80_110, ex_80_113, ex_80_116, ex_80_117, ex_80_120, ex_80_123, ex_80_124, ex_80_125, ex_80_126, ex_80_129, ex_80_132, ex_80_135, ex_80_136, ex_80_137, ex_80_140, ex_80_143, ex_80_146, ex_80_149, ex_80_152, ex_80_153, ex_80_154, ex_80_155, ex_80_158, ex_80_161, ex_80_164, ex_80_165, ex_80_166, ex_80_169, ex_80_172, ex_80_175, ex_80_178, ex_80_181, ex_80_182, ex_80_183, ex_80_184, ex_80_187, ex_80_190, ex_80_193, ex_80_194, ex_80_198, ex_80_201, ex_80_202, ex_80_203, ex_80_205, ex_80_208, ex_80_211, ex_80_212, ex_80_215, ex_80_216, ex_80_219, ex_80_220, ex_80_221, ex_80_224, if_true, if_false, and_self, Option.toList_some, Option.toList_none, List.singleton_append, List.cons_append, List.nil_append, List.append_nil, nI_1, nt_e, Int32.le_refl, step_ok R6 hk, Bool.true_eq_false, Bool.false_eq_true, ↓reduceIte]
      generalize sFI u6 6 1 (nI (i + 1)) = u7 at *
      rw [ex_80_197]
      simp (disch := first | exact am_nl_i _ | exact am_nl_r _ | exact am_nl_0 | (refine vi_nI ?_ ?_ <;> omega) | assumption | omega | exact b2i_01 _ | exact Or.inl rfl | exact Or.inr rfl | (unfold vi; decide)) only [ex_80_0, ex_80_1, ex_80_88, ex_80_89, ex_80_92, ex_80_95, ex_80_96, ex_80_99, ex_80_102, ex_80_103, ex_80_106, ex_80_109, ex_80_110, ex_80_113, ex_80_116, ex_80_117, ex_80_120, ex_80_123, ex_80_124, ex_80_125, ex_80_126, ex_80_129, ex_80_132, ex_80_135, ex_80_136, ex_80_137, ex_80_140, ex_80_143, ex_80_146, ex_80_149, ex_80_152, ex_80_153, ex_80_154, ex_80_155, ex_80_158, ex_80_161, ex_80_164, ex_80_165, ex_80_166, ex_80_169, ex_80_172, ex_80_175, ex_80_178, ex_80_181, ex_80_182, ex_80_183, ex_80_184, ex_80_187, ex_80_190, ex_80_193, ex_80_194, ex_80_197, ex_80_198, ex_80_201, ex_80_202, ex_80_203, ex_80_208, ex_80_211, ex_80_212, ex_80_215, ex_80_216, ex_80_219, ex_80_220, ex_80_221, ex_80_224, if_true, if_false, and_self, Option.toList_some, Option.toList_none, List.singleton_append, List.cons_append, List.nil_append, List.append_nil, nI_1, nt_e, Int32.le_refl, B7.2.2.1, va_rfs, Bool.true_eq_false, Bool.false_eq_true, ↓reduceIte]
      rw [ex_80_205]
      refine takeN_ok (d := d + 59) (lo := 0) (hi := 10) R7 (by decide) (by decide) (fun e x u8 z8 q8 F => ?_) (fun x j u8 z8 q8 R8 => ?_)
      · have F10 : FltC (sFI u8 L 18 x) e := F.keep (P := is L) (Only.sFI rfl) (by unfold is; omega)
        have hfin := hb e (sFI u8 L 18 x) (by simp only [burnR, Bool.false_eq_true, if_false, z8]; rfl) (of_fi (o6.tr ((o7.tr q8).1.wk (fun y q => Or.inl q))) (Or.inr (by omega))) (by
          have := (B7.rd q8).most
          unfold most4 at *
          rw [FI_sFI, if_neg (by omega), FI_sFI, if_neg (by omega), FI_sFI, if_neg (by omega), FI_sFI, if_neg (by omega)]
          exact this) F10
        simp (disch := first | exact am_nl_i _ | exact am_nl_r _ | exact am_nl_0 | (refine vi_nI ?_ ?_ <;> omega) | assumption | omega | exact b2i_01 _ | exact Or.inl rfl | exact Or.inr rfl | (unfold vi; decide)) only [ex_80_0, ex_80_1, ex_80_88, ex_80_89, ex_80_92, ex_80_95, ex_80_96, ex_80_99, ex_80_102, ex_80_103, ex_80_106, ex_80_109, ex_80_110, ex_80_113, ex_80_116, ex_80_117, ex_80_120, ex_80_123, ex_80_124, ex_80_125, ex_80_126, ex_80_129, ex_80_132, ex_80_135, ex_80_136, ex_80_137, ex_80_140, ex_80_143, ex_80_146, ex_80_149, ex_80_152, ex_80_153, ex_80_154, ex_80_155, ex_80_158, ex_80_161, ex_80_164, ex_80_165, ex_80_166, ex_80_169, ex_80_172, ex_80_175, ex_80_178, ex_80_181, ex_80_182, ex_80_183, ex_80_184, ex_80_187, ex_80_190, ex_80_193, ex_80_194, ex_80_197, ex_80_198, ex_80_201, ex_80_202, ex_80_203, ex_80_205, ex_80_208, ex_80_211, ex_80_212, ex_80_215, ex_80_216, ex_80_219, ex_80_220, ex_80_221, ex_80_224, if_true, if_false, and_self, Option.toList_some, Option.toList_none, List.singleton_append, List.cons_append, List.nil_append, List.append_nil, nI_1, nt_e, Int32.le_refl, endsX F10, Bool.true_eq_false, Bool.false_eq_true, ↓reduceIte]
        exact hfin
        all_goals exact hL
      · have B8 := (B7.rd q8).burn (x := x)
        have R9 : RdC (sFI u8 L 18 (nI x)) n f m j := R8.keep (P := is L) (Only.sFI rfl) (by unfold is; omega) (by unfold is; omega) (by unfold is; omega) (by unfold is; omega) (by unfold is; omega)
        have W9 : LwC (sFI u8 L 18 (nI x)) L v := (w6.keep (o7.tr q8).1 (by unfold is; omega)).keep (P := is L) (Only.sFI rfl) (by unfold is; omega)
        have o9 : Only (bkP L) u (sFI u8 L 18 (nI x)) := of_fi (o6.tr ((o7.tr q8).1.wk (fun y q => Or.inl q))) (Or.inr (by omega))
        have hF9 : FlgC (sFI u8 L 18 (nI x)) (fg.1, fg.2.1, true) := hFc.kp (fun k hk => by rw [FI_sFI, if_neg (by omega)]; exact (o7.tr q8).2.1 k (by omega) (by omega))
        simp (disch := first | exact am_nl_i _ | exact am_nl_r _ | exact am_nl_0 | (refine vi_nI ?_ ?_ <;> omega) | assumption | omega | exact b2i_01 _ | exact Or.inl rfl | exact Or.inr rfl | (unfold vi; decide)) only [ex_80_0, ex_80_1, ex_80_88, ex_80_89, ex_80_92, ex_80_95, ex_80_96, ex_80_99, ex_80_102, ex_80_103, ex_80_106, ex_80_109, ex_80_110, ex_80_113, ex_80_116, ex_80_117, ex_80_120, ex_80_123, ex_80_124, ex_80_125, ex_80_126, ex_80_129, ex_80_132, ex_80_135, ex_80_136, ex_80_137, ex_80_140, ex_80_143, ex_80_146, ex_80_149, ex_80_152, ex_80_153, ex_80_154, ex_80_155, ex_80_158, ex_80_161, ex_80_164, ex_80_165, ex_80_166, ex_80_169, ex_80_172, ex_80_175, ex_80_178, ex_80_181, ex_80_182, ex_80_183, ex_80_184, ex_80_187, ex_80_190, ex_80_193, ex_80_194, ex_80_197, ex_80_198, ex_80_201, ex_80_202, ex_80_203, ex_80_205, ex_80_208, ex_80_211, ex_80_215, ex_80_216, ex_80_219, ex_80_220, ex_80_221, ex_80_224, if_true, if_false, and_self, Option.toList_some, Option.toList_none, List.singleton_append, List.cons_append, List.nil_append, List.append_nil, nI_1, nt_e, Int32.le_refl, Bool.true_eq_false, Bool.false_eq_true, ↓reduceIte]
        generalize sFI u8 L 18 (nI x) = u9 at *
        rw [ex_80_212]
        refine endsW_ok R9 (fun e ua za qa F => ?_) (fun ja ua za qa Ra => ?_)
        · have hfin := hb e ua (by simp only [burnR, Bool.false_eq_true, if_false, z8, za]; rfl) (o9.tr (qa.1.wk (fun y q => Or.inl q))) (B8.rd qa).most F
          simp (disch := first | exact am_nl_i _ | exact am_nl_r _ | exact am_nl_0 | (refine vi_nI ?_ ?_ <;> omega) | assumption | omega | exact b2i_01 _ | exact Or.inl rfl | exact Or.inr rfl | (unfold vi; decide)) only [ex_80_0, ex_80_1, ex_80_88, ex_80_89, ex_80_92, ex_80_95, ex_80_96, ex_80_99, ex_80_102, ex_80_103, ex_80_106, ex_80_109, ex_80_110, ex_80_113, ex_80_116, ex_80_117, ex_80_120, ex_80_123, ex_80_124, ex_80_125, ex_80_126, ex_80_129, ex_80_132, ex_80_135, ex_80_136, ex_80_137, ex_80_140, ex_80_143, ex_80_146, ex_80_149, ex_80_152, ex_80_153, ex_80_154, ex_80_155, ex_80_158, ex_80_161, ex_80_164, ex_80_165, ex_80_166, ex_80_169, ex_80_172, ex_80_175, ex_80_178, ex_80_181, ex_80_182, ex_80_183, ex_80_184, ex_80_187, ex_80_190, ex_80_193, ex_80_194, ex_80_197, ex_80_198, ex_80_201, ex_80_202, ex_80_203, ex_80_205, ex_80_208, ex_80_211, ex_80_212, ex_80_215, ex_80_216, ex_80_219, ex_80_220, ex_80_221, ex_80_224, if_true, if_false, and_self, Option.toList_some, Option.toList_none, List.singleton_append, List.cons_append, List.nil_append, List.append_nil, nI_1, nt_e, Int32.le_refl, Bool.true_eq_false, Bool.false_eq_true, ↓reduceIte]
          exact hfin
        · have hfin := hg (setBurnV v x) (fg.1, fg.2.1, true) ja ua (by simp only [burnR, Bool.false_eq_true, if_false, z8, za]; rfl) (o9.tr (qa.1.wk (fun y q => Or.inl q))) (hF9.kp (fun k hk => qa.2.1 k (by omega) (by omega))) (B8.rd qa) (W9.keep qa.1 (by unfold is; omega)) Ra
          simp (disch := first | exact am_nl_i _ | exact am_nl_r _ | exact am_nl_0 | (refine vi_nI ?_ ?_ <;> omega) | assumption | omega | exact b2i_01 _ | exact Or.inl rfl | exact Or.inr rfl | (unfold vi; decide)) only [ex_80_0, ex_80_1, ex_80_88, ex_80_89, ex_80_92, ex_80_95, ex_80_96, ex_80_99, ex_80_102, ex_80_103, ex_80_106, ex_80_109, ex_80_110, ex_80_113, ex_80_116, ex_80_117, ex_80_120, ex_80_123, ex_80_124, ex_80_125, ex_80_126, ex_80_129, ex_80_132, ex_80_135, ex_80_136, ex_80_137, ex_80_140, ex_80_143, ex_80_146, ex_80_149, ex_80_152, ex_80_153, ex_80_154, ex_80_155, ex_80_158, ex_80_161, ex_80_164, ex_80_165, ex_80_166, ex_80_169, ex_80_172, ex_80_175, ex_80_178, ex_80_181, ex_80_182, ex_80_183, ex_80_184, ex_80_187, ex_80_190, ex_80_193, ex_80_194, ex_80_197, ex_80_198, ex_80_201, ex_80_202, ex_80_203, ex_80_205, ex_80_208, ex_80_211, ex_80_212, ex_80_215, ex_80_216, ex_80_219, ex_80_220, ex_80_221, ex_80_224, if_true, if_false, and_self, Option.toList_some, Option.toList_none, List.singleton_append, List.cons_append, List.nil_append, List.append_nil, nI_1, nt_e, Int32.le_refl, Bool.true_eq_false, Bool.false_eq_true, ↓reduceIte]
          exact hfin
        all_goals exact hL
    · rw [hfg] at hb
      have F9 := fail_f (k := 3) hR (by decide) (by decide)
      have hFa : FI u 6 8 = 1 := by rw [hF.2.2, hfg]; rfl
      have o9 : Only (bkP L) u (sFI (sFI u 6 9 (nI (fl 3 (tk n f i)))) 6 8 1) := of_fi (Only.sFI (Or.inl rfl)) (Or.inl rfl)
      have F6 := F9.f6 (k := 8) (x := 1) (Or.inr (Or.inr rfl))
      have m6 : most4 (sFI (sFI u 6 9 (nI (fl 3 (tk n f i)))) 6 8 1) L := most_f6 hLL (most_f6 hLL hB.most)
      have g2 : FR (sFI (sFI u 6 9 (nI (fl 3 (tk n f i)))) 6 8 1) 6 2 = some L := hB.2.2.1
      simp (disch := first | exact am_nl_i _ | exact am_nl_r _ | exact am_nl_0 | (refine vi_nI ?_ ?_ <;> omega) | assumption | omega | exact b2i_01 _ | exact Or.inl rfl | exact Or.inr rfl | (unfold vi; decide)) only [ex_80_0, ex_80_1, ex_80_88, ex_80_89, ex_80_92, ex_80_95, ex_80_96, ex_80_99, ex_80_102, ex_80_103, ex_80_106, ex_80_109, ex_80_110, ex_80_113, ex_80_116, ex_80_117, ex_80_120, ex_80_123, ex_80_124, ex_80_125, ex_80_126, ex_80_129, ex_80_132, ex_80_135, ex_80_136, ex_80_137, ex_80_140, ex_80_143, ex_80_146, ex_80_149, ex_80_152, ex_80_153, ex_80_154, ex_80_155, ex_80_158, ex_80_161, ex_80_164, ex_80_165, ex_80_166, ex_80_169, ex_80_172, ex_80_175, ex_80_178, ex_80_181, ex_80_182, ex_80_183, ex_80_184, ex_80_187, ex_80_190, ex_80_194, ex_80_197, ex_80_198, ex_80_201, ex_80_202, ex_80_203, ex_80_205, ex_80_208, ex_80_211, ex_80_212, ex_80_215, ex_80_216, ex_80_219, ex_80_220, ex_80_221, ex_80_224, if_true, if_false, and_self, Option.toList_some, Option.toList_none, List.singleton_append, List.cons_append, List.nil_append, List.append_nil, nI_1, nt_e, Int32.le_refl, hFa, isFirst_t hR, Bool.true_eq_false, Bool.false_eq_true, ↓reduceIte]
      generalize sFI (sFI u 6 9 (nI (fl 3 (tk n f i)))) 6 8 1 = u6 at *
      obtain ⟨i1, hi1, h1⟩ := F6.2.2.2
      have F10 : FltC (sFI u6 L 18 ((AJ u6 5 i1).toInt32)) (fl 3 (tk n f i)) := F6.keep (P := is L) (Only.sFI rfl) (by unfold is; omega)
      have hfin := hb _ (sFI u6 L 18 ((AJ u6 5 i1).toInt32)) (by unfold burnR; rw [if_pos rfl]; rfl) (of_fi o9 (Or.inr (by omega))) (by
        unfold most4 at *
        rw [FI_sFI, if_neg (by omega), FI_sFI, if_neg (by omega), FI_sFI, if_neg (by omega), FI_sFI, if_neg (by omega)]
        exact m6) F10
      rw [ex_80_193]
      simp (disch := first | exact am_nl_i _ | exact am_nl_r _ | exact am_nl_0 | (refine vi_nI ?_ ?_ <;> omega) | assumption | omega | exact b2i_01 _ | exact Or.inl rfl | exact Or.inr rfl | (unfold vi; decide)) only [ex_80_0, ex_80_1, ex_80_88, ex_80_89, ex_80_92, ex_80_95, ex_80_96, ex_80_99, ex_80_102, ex_80_103, ex_80_106, ex_80_109, ex_80_110, ex_80_113, ex_80_116, ex_80_117, ex_80_120, ex_80_123, ex_80_124, ex_80_125, ex_80_126, ex_80_129, ex_80_132, ex_80_135, ex_80_136, ex_80_137, ex_80_140, ex_80_143, ex_80_146, ex_80_149, ex_80_152, ex_80_153, ex_80_154, ex_80_155, ex_80_158, ex_80_161, ex_80_164, ex_80_165, ex_80_166, ex_80_169, ex_80_172, ex_80_175, ex_80_178, ex_80_181, ex_80_182, ex_80_183, ex_80_184, ex_80_187, ex_80_190, ex_80_193, ex_80_194, ex_80_197, ex_80_198, ex_80_201, ex_80_202, ex_80_203, ex_80_205, ex_80_208, ex_80_211, ex_80_212, ex_80_215, ex_80_216, ex_80_219, ex_80_220, ex_80_221, ex_80_224, if_true, if_false, and_self, Option.toList_some, Option.toList_none, List.singleton_append, List.cons_append, List.nil_append, List.append_nil, nI_1, nt_e, Int32.le_refl, stepX F6, g2, va_rfs, takeNumXi F6 h1 hi1, endsX F10, Bool.true_eq_false, Bool.false_eq_true, ↓reduceIte]
      exact hfin
      all_goals exact hL
  · have hs : stmS P v fg (tk n f) i = .error (fl 1 (tk n f i)) := by unfold stmS; rw [if_neg c0, if_neg c1, if_neg c2, if_neg c3, if_neg c4, if_neg c5, if_neg c6, if_neg c7]
    have F9 := fail_f (k := 1) hR (by decide) (by decide)
    have hfin := hb _ _ hs (Only.sFI (Or.inl rfl)) (most_f6 hLL hB.most) F9
    rw [st_def _ hcl (by omega)]
    simp (disch := first | exact am_nl_i _ | exact am_nl_r _ | exact am_nl_0 | (refine vi_nI ?_ ?_ <;> omega) | assumption | omega | exact b2i_01 _ | exact Or.inl rfl | exact Or.inr rfl | (unfold vi; decide)) only [ex_80_0, ex_80_1, ex_80_88, ex_80_89, ex_80_92, ex_80_95, ex_80_96, ex_80_99, ex_80_102, ex_80_103, ex_80_106, ex_80_109, ex_80_110, ex_80_113, ex_80_116, ex_80_117, ex_80_120, ex_80_123, ex_80_124, ex_80_125, ex_80_126, ex_80_129, ex_80_132, ex_80_135, ex_80_136, ex_80_137, ex_80_140, ex_80_143, ex_80_146, ex_80_149, ex_80_152, ex_80_153, ex_80_154, ex_80_155, ex_80_158, ex_80_161, ex_80_164, ex_80_165, ex_80_166, ex_80_169, ex_80_172, ex_80_175, ex_80_178, ex_80_181, ex_80_182, ex_80_183, ex_80_184, ex_80_187, ex_80_190, ex_80_193, ex_80_194, ex_80_197, ex_80_198, ex_80_201, ex_80_202, ex_80_203, ex_80_205, ex_80_208, ex_80_211, ex_80_212, ex_80_215, ex_80_216, ex_80_219, ex_80_220, ex_80_221, ex_80_224, if_true, if_false, and_self, Option.toList_some, Option.toList_none, List.singleton_append, List.cons_append, List.nil_append, List.append_nil, nI_1, nt_e, Int32.le_refl, show (1 : Int32) = nI 1 from rfl, fail_ok hR, Bool.true_eq_false, Bool.false_eq_true, ↓reduceIte]
    exact hfin
end Stat
