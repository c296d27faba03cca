/-! A LAW'S STATEMENT, of the reference -/
theorem wRun_cg {cs cs' : Nat → Int32} {kk h o : Int32} {g g' : Nat} {s : WK} : ∀ n, (∀ x, x < n → cs (g + x) = cs' (g' + x)) → wRun cs kk h o g s n = wRun cs' kk h o g' s n
  | 0, _ => rfl
  | n + 1, hc => by rw [wRun, wRun, wRun_cg n (fun x hx => hc x (by omega)), hc n (by omega)]
theorem workP_cg {cs cs' : Nat → Int32} {kk h o : Int32} {g t g' t' : Nat} {q0 : Nat → Nat → Int32} (ht : t - g = t' - g') (hc : ∀ x, x < t - g → cs (g + x) = cs' (g' + x)) : workP cs kk h o g t q0 = workP cs' kk h o g' t' q0 := by
  unfold workP
  rw [← ht, wRun_cg (t - g) hc]
def toldB (fg : FG) (k : Nat) : Bool := if k = 0 then fg.1 else fg.2.1
/-- the laws that the reference has read -/
def LwR (u : am_U) (v : LV) (fg : FG) (i : Nat) : Prop := ∃ (c : Nat) (F t : Nat → Nat), FI u 203 29 = nI (1000 + c) ∧ c ≤ i ∧ FI u 203 31 = b2i fg.2.2 ∧
  (∀ k, k < 2 → AI u 221 (2 + k) = nI (1000 + F k) ∧ AI u 222 (2 + k) = nI (1000 + t k) ∧ F k ≤ t k ∧ t k ≤ c ∧ (toldB fg k = true ↔ F k < t k) ∧ (F k < t k → ∀ h o q0, workP (fun x => AI u 223 (1000 + x)) (nI (2 + k)) h o (F k) (t k) q0 = some (lawV v k h o))) ∧
  (¬ F 0 < t 0 → ∀ h o, lawV v 0 h o = h) ∧ (¬ F 1 < t 1 → ∀ h o, lawV v 1 h o = 0)
theorem LwR.kp {u u' : am_U} {v v' : LV} {fg : FG} {i j : Nat} (h : LwR u v fg i) (hk : LwK u u') (hv : lawV v' = lawV v) (hij : i ≤ j) : LwR u' v' fg j := by
  obtain ⟨c, F, t, h1, h2, h3, h4, h5, h6⟩ := h
  refine ⟨c, F, t, by rw [hk.2.2.2.1]; exact h1, by omega, by rw [hk.2.2.2.2]; exact h3, ?_, by rw [hv]; exact h5, by rw [hv]; exact h6⟩
  rw [hk.1, hk.2.1, hk.2.2.1, hv]
  exact h4
section LawR
variable {D n m i e : Nat} {u : am_U} {f : Nat → Nat} {v : LV} {b : Bool} {P : Nat → Nat → Rt} {post : Option Value → am_M → Prop}
theorem reads_ok {p : Nat} {r : Rt} (hE : EndAt n f m) (hn : n ≤ 1000) (hr : PrL (tk n f) (othB b) 0 0 i r) (hC : CfR u n f m i b p)
    (hb : ∀ e u', (match r with | .error e => Except.error e | .ok q => wordR 59 (tk n f) q.2) = .error e → RfO u u' → FI u' 203 9 = nI e → post (some (.int 0)) (am_emb u'))
    (hg : ∀ e j u', r = .ok (e, j) → wordR 59 (tk n f) j = .ok (j + 1) → RfO u u' → RSt u' n f (j + 1) → j + 1 ≤ m → i ≤ j → FI u' 203 29 = nI (p + (j - i)) → CdS n f u' p i j → (∀ k, k < p → AI u' 223 k = AI u 223 k) → post (some (.int 1)) (am_emb u')) : Cl (D + 4) 172 [.ref 203] (am_emb u) post := by
  have o1 : RfO u (sAI u 225 (upd (AI u 225) 0 0)) := (RfO.rf u).ai (Or.inr (Or.inr rfl))
  have C1 : CfR (sAI u 225 (upd (AI u 225) 0 0)) n f m i b p := ⟨hC.1.ai (by decide), hC.2.1, hC.2.2.1, hC.2.2.2.1, hC.2.2.2.2.1, hC.2.2.2.2.2⟩
  have a0 : AI (sAI u 225 (upd (AI u 225) 0 0)) 225 0 = b2i false := by rw [AI_sAI, if_pos rfl, upd_s]; rfl
  have a3 : AI (sAI u 225 (upd (AI u 225) 0 0)) 223 = AI u 223 := by rw [AI_sAI, if_neg (by decide)]
  rw [op_172]
  simp (disch := first | exact am_nl_i _ | exact am_nl_r _ | exact am_nl_0 | (refine vi_nI ?_ ?_ <;> omega) | assumption | omega | exact b2i_01 _ | exact Or.inl rfl | exact Or.inr rfl | (unfold vi; decide)) only [ex_172_0, ex_172_1, ex_172_2, ex_172_3, ex_172_4, ex_172_5, ex_172_8, ex_172_9, ex_172_10, ex_172_12, ex_172_15, ex_172_16, ex_172_19, ex_172_20, ex_172_21, ex_172_24, ex_172_27, ex_172_29, ex_172_30, ex_172_32, ex_172_35, ex_172_37, ex_172_38, ex_172_41, ex_172_43, ex_172_46, ex_172_48, ex_172_51, ex_172_52, ex_172_55, ex_172_56, ex_172_59, ex_172_60, ex_172_61, ex_172_64, ex_172_65, ex_172_66, ex_172_67, ex_172_70, ex_172_71, ex_172_72, ex_172_75, ex_172_76, ex_172_78, ex_172_81, ex_172_83, ex_172_86, ex_172_87, ex_172_89, ex_172_92, ex_172_94, ex_172_97, ex_172_99, ex_172_102, ex_172_105, ex_172_106, ex_172_109, ex_172_110, ex_172_112, ex_172_115, ex_172_116, ex_172_119, ex_172_120, ex_172_121, ex_172_122, ex_172_125, ex_172_126, ex_172_127, ex_172_128, ex_172_131, ex_172_132, ex_172_133, ex_172_136, ex_172_137, ex_172_140, ex_172_142, ex_172_143, ex_172_146, ex_172_147, ex_172_150, ex_172_151, ex_172_152, ex_172_153, ex_172_156, ex_172_157, ex_172_160, ex_172_161, ex_172_162, ex_172_163, ex_172_166, ex_172_169, ex_172_172, ex_172_173, ex_172_176, ex_172_179, ex_172_180, ex_172_182, ex_172_185, ex_172_188, ex_172_189, ex_172_191, ex_172_194, ex_172_197, ex_172_198, ex_172_200, ex_172_203, ex_172_206, ex_172_207, ex_172_208, ex_172_210, ex_172_213, ex_172_216, ex_172_218, ex_172_221, ex_172_222, ex_172_224, ex_172_227, ex_172_230, ex_172_232, ex_172_235, ex_172_237, ex_172_240, ex_172_241, ex_172_242, ex_172_245, ex_172_246, ex_172_248, ex_172_251, ex_172_254, ex_172_255, ex_172_257, ex_172_260, ex_172_263, ex_172_264, ex_172_267, ex_172_268, ex_172_269, ex_172_272, ex_172_273, ex_172_274, ex_172_276, ex_172_279, ex_172_282, ex_172_284, ex_172_287, ex_172_289, ex_172_292, ex_172_293, ex_172_296, ex_172_297, ex_172_298, ex_172_299, ex_172_300, ex_172_301, ex_172_304, ex_172_305, ex_172_308, ex_172_311, ex_172_314, ex_172_315, ex_172_318, ex_172_321, ex_172_324, ex_172_325, ex_172_326, ex_172_329, ex_172_332, ex_172_335, ex_172_337, ex_172_340, ex_172_342, ex_172_345, ex_172_346, ex_172_349, ex_172_350, ex_172_351, ex_172_352, ex_172_353, ex_172_354, ex_172_357, ex_172_358, ex_172_360, ex_172_363, ex_172_366, ex_172_367, ex_172_370, ex_172_371, ex_172_373, ex_172_376, ex_172_379, ex_172_380, ex_172_383, ex_172_384, ex_172_387, ex_172_388, ex_172_389, ex_172_390, ex_172_393, ex_172_396, ex_172_399, ex_172_400, ex_172_403, ex_172_404, ex_172_406, ex_172_409, ex_172_412, ex_172_413, ex_172_416, ex_172_417, ex_172_418, ex_172_419, ex_172_420, ex_172_423, ex_172_424, ex_172_425, ex_172_428, if_true, if_false, and_self, Option.toList_some, Option.toList_none, List.singleton_append, List.cons_append, List.nil_append, List.append_nil, nI_1, nt_e, Int32.le_refl, show (0 : Int32).toNatClampNeg = 0 from rfl, Bool.true_eq_false, Bool.false_eq_true, ↓reduceIte]
  generalize (sAI u 225 (upd (AI u 225) 0 0)) = u1 at *
  refine hr _ _ _ (formR (m := m) (b := b) (D := D) hE hn) p u1 false none none none post (by omega) rfl a0 (fun _ => rfl) C1 (fun e u2 he o2 z => hb e u2 (by rw [he]) (o1.tr o2) z) (fun e j u2 he o2 C2 hij Cd K2 => ?_)
  intro B4 B5 cmp' hcm _ hex l3 l4 l5
  have nj := noJ_of (fun l' _ h => hex l' (Nat.zero_le _) h)
  by_cases c : csort (tk n f j) = 59
  · have hlt : j < m := lt_cs hE c (by decide)
    refine n_semi C2.1 hcm c (fun u3 o3 S3 => ?_)
    have k3 := (o3.1 223 (by unfold is; omega)).2.2.2.1
    refine hg e j u3 he (if_pos c) ((o1.tr o2).tr o3.rfo) S3 (by omega) hij (by rw [o3.2.1 29 (by decide) (by decide) (by decide) (by decide)]; exact C2.2.2.1) (fun k h1 h2 => by rw [k3]; exact Cd k h1 h2) (fun k hk => by rw [k3, K2 k hk, a3])
  · have hw : wordR 59 (tk n f) j = .error (fl 1 (tk n f j)) := if_neg c
    exact n_bad C2.1 hcm nj (by omega) (fun y => by omega) (fun y => c y.2) (hb _ _ (by rw [he]; exact hw) ((o1.tr o2).fi (by unfold rffP; omega)) (by rw [FI_sFI, if_pos ⟨rfl, rfl⟩]))
theorem lnB_cmp : ∀ b : Bool, (if b then (1 : Nat) else 0) < 2 := by decide
theorem readsLaw_ok {fg : FG} (hS : RSt u n f i) (hB : BkR2 u v) (hL : LwR u v fg i) (hE : EndAt n f m) (him : i ≤ m) (hk : ¬ csort (tk n f i) = 3) (hP : PrsOk P n f m)
    (hb : ∀ e u', lawR P v b (toldB fg (if b then 1 else 0)) (tk n f) i = .error e → LhO u u' → FI u' 203 9 = nI e → post (some (.int 0)) (am_emb u'))
    (hg : ∀ v' j u', lawR P v b (toldB fg (if b then 1 else 0)) (tk n f) i = .ok (v', j) → LhO u u' → BkR2 u' v' → RSt u' n f j → j ≤ m → LwR u' v' (if b then (fg.1, true, fg.2.2) else (true, fg.2)) j → post (some (.int 1)) (am_emb u')) : Cl (D + 6) 193 [.ref 203, .int (nI (if b then 1 else 0))] (am_emb u) post := by
  have hn : n ≤ 1000 := hS.1.2.2.1
  have hm1 : m ≤ 1000 := Nat.le_trans hE.1 hn
  have hlt0 : i < m := end_lt hE (fun q => hk ((cs_0 (tk_ok i)).mp q))
  obtain ⟨c, F, t, h1, h2, h3, h4, h5, h6⟩ := hL
  have hk2 := lnB_cmp b
  obtain ⟨a1, a2, a3, a4, a5, a6⟩ := h4 (if b then 1 else 0) hk2
  have hbk : b = true ↔ (if b then 1 else 0) = 1 := by cases b <;> decide
  have hk01 : (if b then 1 else 0) = 0 ∨ (if b then 1 else 0) = 1 := by cases b; exact Or.inl rfl; exact Or.inr rfl
  have hbb : nI (if b then 1 else 0) = b2i b := by cases b <;> rfl
  generalize hkk : (if b then 1 else 0) = kk at *
  rw [op_193]
  by_cases q : F kk < t kk
  · have ht : toldB fg kk = true := a5.mpr q
    have qle : ¬ nI (1000 + t kk) ≤ nI (1000 + F kk) := by rw [nI_leI (by omega) (by omega)]; omega
    have hfin := hb (fl 3 (tk n f i)) (sFI u 203 9 (nI (fl 3 (tk n f i)))) (by unfold lawR; rw [ht, if_pos rfl]) ((RsO.rf u).fi (Or.inl rfl)).lh (by rw [FI_sFI, if_pos ⟨rfl, rfl⟩])
    simp (disch := first | exact am_nl_i _ | exact am_nl_r _ | exact am_nl_0 | (refine vi_nI ?_ ?_ <;> omega) | assumption | omega | exact b2i_01 _ | exact Or.inl rfl | exact Or.inr rfl | (unfold vi; decide)) only [ex_193_0, ex_193_1, ex_193_4, ex_193_5, ex_193_6, ex_193_7, ex_193_8, ex_193_9, ex_193_12, ex_193_13, ex_193_14, ex_193_15, ex_193_16, ex_193_19, ex_193_20, ex_193_21, ex_193_24, ex_193_25, ex_193_26, ex_193_27, ex_193_28, ex_193_31, ex_193_32, ex_193_35, ex_193_36, ex_193_39, ex_193_40, ex_193_43, ex_193_44, ex_193_47, ex_193_48, ex_193_49, ex_193_50, ex_193_51, ex_193_54, ex_193_55, ex_193_56, ex_193_59, ex_193_62, ex_193_63, ex_193_64, ex_193_65, ex_193_68, ex_193_69, ex_193_70, ex_193_71, ex_193_72, ex_193_75, ex_193_76, ex_193_77, if_true, if_false, and_self, Option.toList_some, Option.toList_none, List.singleton_append, List.cons_append, List.nil_append, List.append_nil, nI_1, nt_e, Int32.le_refl, show (2 : Int32) = nI 2 from rfl, nI_add, nI_clamp, a1, a2, qle, show (3 : Int32) = nI 3 from rfl, fails_ok hS.2, Bool.true_eq_false, Bool.false_eq_true, ↓reduceIte]
    exact hfin
  have ht : toldB fg kk = false := by cases y : toldB fg kk; rfl; exact absurd (a5.mp y) q
  rw [ht] at hb hg
  have qle : nI (1000 + t kk) ≤ nI (1000 + F kk) := by rw [nI_leI (by omega) (by omega)]; omega
  have u0e : ∀ x : Int32, x = b2i b → RSt (sFI u 203 30 x) n f i ∧ LhO u (sFI u 203 30 x) ∧ FI (sFI u 203 30 x) 203 30 = b2i b ∧ FI (sFI u 203 30 x) 203 29 = nI (1000 + c) ∧ FI (sFI u 203 30 x) 203 31 = b2i fg.2.2 ∧ AI (sFI u 203 30 x) = AI u ∧ AJ (sFI u 203 30 x) = AJ u := fun x hx => by
    obtain ⟨⟨r1, r2, r3⟩, r4, r5, r6, r7, r8⟩ := hS
    refine ⟨⟨⟨r1, by rw [FI_sFI, if_neg (by omega)]; exact r2, r3⟩, by rw [FI_sFI, if_neg (by omega)]; exact r4, by rw [FI_sFI, if_neg (by omega)]; exact r5, by rw [FI_sFI, if_neg (by omega)]; exact r6, r7, fun y => by rw [FI_sFI, if_neg (by omega)]; exact r8 y⟩, (LhO.rf u).fi (by unfold ffP; omega), by rw [FI_sFI, if_pos ⟨rfl, rfl⟩, hx], by rw [FI_sFI, if_neg (by omega)]; exact h1, by rw [FI_sFI, if_neg (by omega)]; exact h3, rfl, rfl⟩
  have main : ∀ u0, RSt u0 n f i → LhO u u0 → FI u0 203 30 = b2i b → FI u0 203 29 = nI (1000 + c) → FI u0 203 31 = b2i fg.2.2 → AI u0 = AI u → AJ u0 = AJ u → Ex (D + 6) 193 39 [some (.ref 203), some (.int (nI kk))] [] (am_emb u0) post := by
    intro u0 S0 O0 I0 C0 D0 A0 J0
    rw [ex_193_39, ex_193_40]
    refine nx_ok S0 (fun u1 o1 S1 => ?_)
    have k1 := fun a (ha : ¬ a = 203) => o1.1 a (by unfold is; exact ha)
    have g29 : FI u1 203 29 = nI (1000 + c) := by rw [o1.2.1 29 (by decide) (by decide) (by decide) (by decide)]; exact C0
    have g31 : FI u1 203 31 = b2i fg.2.2 := by rw [o1.2.1 31 (by decide) (by decide) (by decide) (by decide)]; exact D0
    have g30 : FI u1 203 30 = b2i b := by rw [o1.2.1 30 (by decide) (by decide) (by decide) (by decide)]; exact I0
    have O1 : LhO u u1 := O0.tr ((RsO.rf u0).nx o1).lh
    have O2 : LhO u (sAI u1 221 (upd (AI u1 221) (2 + kk) (nI (1000 + c)))) := O1.ai (by unfold lhP; omega) (by unfold fhP; omega)
    have C2 : CfR (sAI u1 221 (upd (AI u1 221) (2 + kk) (nI (1000 + c)))) n f m (i + 1) b (1000 + c) := ⟨S1.ai (by decide), by omega, g29, by omega, by omega, g30⟩
    have A2 : ∀ a, ¬ a = 203 → ¬ a = 221 → AI (sAI u1 221 (upd (AI u1 221) (2 + kk) (nI (1000 + c)))) a = AI u a := fun a ha hb => by rw [AI_sAI, if_neg hb, (k1 a ha).2.2.2.1, A0]
    have A21 : AI (sAI u1 221 (upd (AI u1 221) (2 + kk) (nI (1000 + c)))) 221 = upd (AI u 221) (2 + kk) (nI (1000 + c)) := by rw [AI_sAI, if_pos rfl, (k1 221 (by decide)).2.2.2.1, A0]
    have J2 : ∀ a, ¬ a = 203 → AJ (sAI u1 221 (upd (AI u1 221) (2 + kk) (nI (1000 + c)))) a = AJ u a := fun a ha => by rw [AJ_sAI, (k1 a ha).2.2.2.2.1, J0]
    simp (disch := first | exact am_nl_i _ | exact am_nl_r _ | exact am_nl_0 | (refine vi_nI ?_ ?_ <;> omega) | assumption | omega | exact b2i_01 _ | exact Or.inl rfl | exact Or.inr rfl | (unfold vi; decide)) only [ex_193_0, ex_193_1, ex_193_4, ex_193_5, ex_193_6, ex_193_7, ex_193_8, ex_193_9, ex_193_12, ex_193_13, ex_193_14, ex_193_15, ex_193_16, ex_193_19, ex_193_20, ex_193_21, ex_193_24, ex_193_25, ex_193_26, ex_193_27, ex_193_28, ex_193_31, ex_193_32, ex_193_35, ex_193_36, ex_193_39, ex_193_40, ex_193_43, ex_193_44, ex_193_47, ex_193_48, ex_193_49, ex_193_50, ex_193_51, ex_193_54, ex_193_55, ex_193_59, ex_193_62, ex_193_63, ex_193_64, ex_193_65, ex_193_68, ex_193_69, ex_193_70, ex_193_71, ex_193_72, ex_193_75, ex_193_76, ex_193_77, if_true, if_false, and_self, Option.toList_some, Option.toList_none, List.singleton_append, List.cons_append, List.nil_append, List.append_nil, nI_1, nt_e, Int32.le_refl, show (2 : Int32) = nI 2 from rfl, nI_add, nI_clamp, g29, Bool.true_eq_false, Bool.false_eq_true, ↓reduceIte]
    have g31' : FI (sAI u1 221 (upd (AI u1 221) (2 + kk) (nI (1000 + c)))) 203 31 = b2i fg.2.2 := g31
    generalize (sAI u1 221 (upd (AI u1 221) (2 + kk) (nI (1000 + c)))) = u2 at *
    rw [ex_193_56]
    refine reads_ok (D := D + 1) hE hn (hP b (i + 1) (by omega)) C2 (fun e u3 he o3 z => ?_) (fun e j u3 he hw o3 S3 hjm hij h29 Cd K3 => ?_)
    · have hfin := hb e u3 (by
        unfold lawR
        rw [if_neg (by decide)]
        cases y : P (othB b) (i + 1) with
        | error x =>
          rw [y] at he
          have he2 : (Except.error x : Except Nat Nat) = .error e := he
          have he3 := Except.error.inj he2
          show Except.error x = Except.error e
          rw [he3]
        | ok pp =>
          rw [y] at he
          have he : wordR 59 (tk n f) pp.2 = .error e := he
          simp only [he]) (O2.tr o3.lh) z
      simp (disch := first | exact am_nl_i _ | exact am_nl_r _ | exact am_nl_0 | (refine vi_nI ?_ ?_ <;> omega) | assumption | omega | exact b2i_01 _ | exact Or.inl rfl | exact Or.inr rfl | (unfold vi; decide)) only [ex_193_0, ex_193_1, ex_193_4, ex_193_5, ex_193_6, ex_193_7, ex_193_8, ex_193_9, ex_193_12, ex_193_13, ex_193_14, ex_193_15, ex_193_16, ex_193_19, ex_193_20, ex_193_21, ex_193_24, ex_193_25, ex_193_26, ex_193_27, ex_193_28, ex_193_31, ex_193_32, ex_193_35, ex_193_36, ex_193_39, ex_193_40, ex_193_43, ex_193_44, ex_193_47, ex_193_48, ex_193_49, ex_193_50, ex_193_51, ex_193_54, ex_193_55, ex_193_56, ex_193_59, ex_193_62, ex_193_63, ex_193_64, ex_193_65, ex_193_68, ex_193_69, ex_193_70, ex_193_71, ex_193_72, ex_193_75, ex_193_76, ex_193_77, if_true, if_false, and_self, Option.toList_some, Option.toList_none, List.singleton_append, List.cons_append, List.nil_append, List.append_nil, nI_1, nt_e, Int32.le_refl, Bool.true_eq_false, Bool.false_eq_true, ↓reduceIte]
      exact hfin
    · have k3 := fun a (ha : ¬ rfP a) => o3.1 a ha
      have d1 : nI (1000 + c + (j - (i + 1))) = nI (1000 + (c + (j - (i + 1)))) := by rw [Nat.add_assoc]
      rw [d1] at h29
      have O4 : LhO u (sAI u3 222 (upd (AI u3 222) (2 + kk) (nI (1000 + (c + (j - (i + 1))))))) := (O2.tr o3.lh).ai (by unfold lhP; omega) (by unfold fhP; omega)
      have S4 : RSt (sAI u3 222 (upd (AI u3 222) (2 + kk) (nI (1000 + (c + (j - (i + 1))))))) n f (j + 1) := S3.ai (by decide)
      have W := (hP b (i + 1) (by omega)) _ _ _ (formW (n := n) (f := f) (b := b)) e j he
      have G := (hP b (i + 1) (by omega)) _ _ _ (pr_go (n := n) (f := f) hE (by cases b <;> decide)) e j he (by omega)
      have hij1 : i + 1 < j := G.2.2.1 rfl
      have kkb : kkB b = nI (2 + kk) := by rw [← hkk]; cases b <;> rfl
      have hwork : ∀ (cs : Nat → Int32), (∀ k, i + 1 ≤ k → k < j → cs (c + (k - (i + 1))) = nI (cdF (tk n f k))) → ∀ h o q0, workP cs (nI (2 + kk)) h o c (c + (j - (i + 1))) q0 = some (e.2.1 h o) := by
        intro cs hcs h o q0
        obtain ⟨_, W⟩ := W
        obtain ⟨q2, w1, w2, w3, w4, w5⟩ := W h o (wOpens q0 0) (by omega) (Or.inl rfl) (wOpens_at.1)
        have w4 : wTests q2 0 0 0 = e.2.1 h o := w4 (by omega)
        have e1 := workP_cg (cs := cs) (cs' := fun k => nI (cdF (tk n f k))) (kk := nI (2 + kk)) (h := h) (o := o) (g := c) (t := c + (j - (i + 1))) (g' := i + 1) (t' := j) (q0 := q0) (by omega) (fun x hx => by
          have := hcs (i + 1 + x) (by omega) (by omega)
          rwa [show i + 1 + x - (i + 1) = x by omega] at this)
        rw [e1]
        unfold workP
        unfold Rn at w1
        rw [kkb] at w1
        rw [w1]
        show some (wTests q2 0 0 0) = _
        rw [w4]
      have hv : (if b then 1 else 0) = kk := hkk
      have B4 : BkR2 (sAI u3 222 (upd (AI u3 222) (2 + kk) (nI (1000 + (c + (j - (i + 1))))))) (setLawV v kk e.2.1) := by
        obtain ⟨⟨b1, b2, b3⟩, b4, b5⟩ := hB
        have nr : ∀ a, 205 ≤ a → a ≤ 220 → ¬ rfP a := fun a x y z => by unfold rfP at z; omega
        have kk4 : ∀ a, 205 ≤ a → a ≤ 220 → AI (sAI u3 222 (upd (AI u3 222) (2 + kk) (nI (1000 + (c + (j - (i + 1))))))) a = AI u a := fun a x y => by
          rw [AI_sAI, if_neg (by omega), (k3 a (nr a x y)).2.2.2.1, A2 a (by omega) (by omega)]
        have kj4 : ∀ a, 205 ≤ a → a ≤ 220 → AJ (sAI u3 222 (upd (AI u3 222) (2 + kk) (nI (1000 + (c + (j - (i + 1))))))) a = AJ u a := fun a x y => by
          rw [AJ_sAI, (k3 a (nr a x y)).2.2.2.2.1, J2 a (by omega)]
        refine ⟨⟨by rw [kk4 205 (by decide) (by decide)]; exact b1, ?_, b3⟩, fun r i hr hD => ?_, by rw [kk4 205 (by decide) (by decide)]; exact b5⟩
        · unfold NamesR at *
          rw [kj4 206 (by decide) (by decide), kj4 207 (by decide) (by decide), kj4 208 (by decide) (by decide), kj4 209 (by decide) (by decide)]
          exact b2
        · rw [kk4 (210 + r) (by omega) (by omega)]
          exact b4 r i hr (r11 (P := fun r => i < bndR (setLawV v kk e.2.1) r → i < bndR v r) id id id id id id id id id id id r hr hD)
      have A23 : AI (sAI u3 222 (upd (AI u3 222) (2 + kk) (nI (1000 + (c + (j - (i + 1))))))) 223 = AI u3 223 := by rw [AI_sAI, if_neg (by decide)]
      have A22 : AI (sAI u3 222 (upd (AI u3 222) (2 + kk) (nI (1000 + (c + (j - (i + 1))))))) 222 = upd (AI u 222) (2 + kk) (nI (1000 + (c + (j - (i + 1))))) := by
        rw [AI_sAI, if_pos rfl, (k3 222 (by unfold rfP; omega)).2.2.2.1, A2 222 (by decide) (by decide)]
      have A24 : AI (sAI u3 222 (upd (AI u3 222) (2 + kk) (nI (1000 + (c + (j - (i + 1))))))) 221 = upd (AI u 221) (2 + kk) (nI (1000 + c)) := by
        rw [AI_sAI, if_neg (by decide), (k3 221 (by unfold rfP; omega)).2.2.2.1, A21]
      have L4 : LwR (sAI u3 222 (upd (AI u3 222) (2 + kk) (nI (1000 + (c + (j - (i + 1))))))) (setLawV v kk e.2.1) (if b then (fg.1, true, fg.2.2) else (true, fg.2)) (j + 1) := by
        refine ⟨c + (j - (i + 1)), fun x => if x = kk then c else F x, fun x => if x = kk then c + (j - (i + 1)) else t x, h29, by omega, ?_, fun x hx => ?_, fun y h o => ?_, fun y h o => ?_⟩
        · show FI u3 203 31 = _
          rw [o3.2.2.1 31 (by unfold rffP; omega), g31']
          cases b <;> rfl
        · rw [A22, A24, A23]
          dsimp only
          by_cases ex : x = kk
          · rw [if_pos ex, if_pos ex, ex, upd_s, upd_s]
            refine ⟨rfl, rfl, by omega, by omega, ⟨fun _ => by omega, fun _ => ?_⟩, fun _ h o q0 => ?_⟩
            · rw [← hkk]; cases b <;> rfl
            · rw [show lawV (setLawV v kk e.2.1) kk = e.2.1 from if_pos rfl]
              exact hwork _ (fun k q1 q2 => by
                have := Cd k q1 q2
                rwa [Nat.add_assoc] at this) h o q0
          · obtain ⟨y1, y2, y3, y4, y5, y6⟩ := h4 x hx
            rw [if_neg ex, if_neg ex, upd_n (by omega), upd_n (by omega)]
            refine ⟨y1, y2, y3, by omega, ?_, fun hlt h o q0 => ?_⟩
            · rw [← y5]
              have : toldB (if b then (fg.1, true, fg.2.2) else (true, fg.2)) x = toldB fg x := by
                have hx01 : x = 0 ∨ x = 1 := by omega
                cases b
                · have : kk = 0 := hkk.symm
                  have : x = 1 := by omega
                  rw [this]; rfl
                · have : kk = 1 := hkk.symm
                  have : x = 0 := by omega
                  rw [this]; rfl
              rw [this]
            · rw [show lawV (setLawV v kk e.2.1) x = lawV v x from if_neg ex, ← y6 hlt h o q0]
              refine workP_cg rfl (fun z hz => ?_)
              show AI u3 223 (1000 + (F x + z)) = AI u 223 (1000 + (F x + z))
              rw [K3 _ (by omega), A2 223 (by decide) (by decide)]
        · have y : ¬ (if 0 = kk then c else F 0) < (if 0 = kk then c + (j - (i + 1)) else t 0) := y
          by_cases ex : 0 = kk
          · rw [if_pos ex, if_pos ex] at y; omega
          · rw [if_neg ex, if_neg ex] at y
            rw [show lawV (setLawV v kk e.2.1) 0 = lawV v 0 from if_neg ex]
            exact h5 y h o
        · have y : ¬ (if 1 = kk then c else F 1) < (if 1 = kk then c + (j - (i + 1)) else t 1) := y
          by_cases ex : 1 = kk
          · rw [if_pos ex, if_pos ex] at y; omega
          · rw [if_neg ex, if_neg ex] at y
            rw [show lawV (setLawV v kk e.2.1) 1 = lawV v 1 from if_neg ex]
            exact h6 y h o
      have hfin := hg (setLawV v kk e.2.1) (j + 1) _ (by unfold lawR; rw [if_neg (by decide), he]; simp only [hw]; rw [hkk]) O4 B4 S4 hjm L4
      simp (disch := first | exact am_nl_i _ | exact am_nl_r _ | exact am_nl_0 | (refine vi_nI ?_ ?_ <;> omega) | assumption | omega | exact b2i_01 _ | exact Or.inl rfl | exact Or.inr rfl | (unfold vi; decide)) only [ex_193_0, ex_193_1, ex_193_4, ex_193_5, ex_193_6, ex_193_7, ex_193_8, ex_193_9, ex_193_12, ex_193_13, ex_193_14, ex_193_15, ex_193_16, ex_193_19, ex_193_20, ex_193_21, ex_193_24, ex_193_25, ex_193_26, ex_193_27, ex_193_28, ex_193_31, ex_193_32, ex_193_35, ex_193_36, ex_193_39, ex_193_40, ex_193_43, ex_193_44, ex_193_47, ex_193_48, ex_193_49, ex_193_50, ex_193_51, ex_193_54, ex_193_55, ex_193_56, ex_193_59, ex_193_62, ex_193_63, ex_193_64, ex_193_65, ex_193_68, ex_193_69, ex_193_70, ex_193_71, ex_193_72, ex_193_75, ex_193_76, ex_193_77, if_true, if_false, and_self, Option.toList_some, Option.toList_none, List.singleton_append, List.cons_append, List.nil_append, List.append_nil, nI_1, nt_e, Int32.le_refl, show (2 : Int32) = nI 2 from rfl, nI_add, nI_clamp, h29, show ((1 : Int32) = (0 : Int32)) = False from eq_false (by decide), Bool.true_eq_false, Bool.false_eq_true, ↓reduceIte]
      exact hfin
  by_cases k1 : kk = 1
  · have n1 : nI kk = 1 := by rw [k1]; rfl
    obtain ⟨z1, z2, z3, z4, z5, z6, z7⟩ := u0e 1 (by rw [← hbb]; exact n1.symm)
    have mm := main _ z1 z2 z3 z4 z5 z6 z7
    rw [n1] at mm
    simp (disch := first | exact am_nl_i _ | exact am_nl_r _ | exact am_nl_0 | (refine vi_nI ?_ ?_ <;> omega) | assumption | omega | exact b2i_01 _ | exact Or.inl rfl | exact Or.inr rfl | (unfold vi; decide)) only [ex_193_0, ex_193_1, ex_193_4, ex_193_5, ex_193_6, ex_193_7, ex_193_8, ex_193_9, ex_193_12, ex_193_13, ex_193_14, ex_193_15, ex_193_16, ex_193_19, ex_193_20, ex_193_21, ex_193_24, ex_193_25, ex_193_26, ex_193_27, ex_193_31, ex_193_32, ex_193_35, ex_193_36, ex_193_40, ex_193_43, ex_193_44, ex_193_47, ex_193_48, ex_193_49, ex_193_50, ex_193_51, ex_193_54, ex_193_55, ex_193_56, ex_193_59, ex_193_62, ex_193_63, ex_193_64, ex_193_65, ex_193_68, ex_193_69, ex_193_70, ex_193_71, ex_193_72, ex_193_75, ex_193_76, ex_193_77, if_true, if_false, and_self, Option.toList_some, Option.toList_none, List.singleton_append, List.cons_append, List.nil_append, List.append_nil, nI_1, nt_e, Int32.le_refl, show (2 : Int32) = nI 2 from rfl, nI_add, nI_clamp, a1, a2, qle, Bool.true_eq_false, Bool.false_eq_true, ↓reduceIte]
    rw [ex_193_28]
    simp (disch := first | exact am_nl_i _ | exact am_nl_r _ | exact am_nl_0 | (refine vi_nI ?_ ?_ <;> omega) | assumption | omega | exact b2i_01 _ | exact Or.inl rfl | exact Or.inr rfl | (unfold vi; decide)) only [ex_193_0, ex_193_1, ex_193_4, ex_193_5, ex_193_6, ex_193_7, ex_193_8, ex_193_9, ex_193_12, ex_193_13, ex_193_14, ex_193_15, ex_193_16, ex_193_19, ex_193_20, ex_193_21, ex_193_24, ex_193_25, ex_193_26, ex_193_27, ex_193_28, ex_193_31, ex_193_32, ex_193_35, ex_193_36, ex_193_40, ex_193_43, ex_193_44, ex_193_47, ex_193_48, ex_193_49, ex_193_50, ex_193_51, ex_193_54, ex_193_55, ex_193_56, ex_193_59, ex_193_62, ex_193_63, ex_193_64, ex_193_65, ex_193_68, ex_193_69, ex_193_70, ex_193_71, ex_193_72, ex_193_75, ex_193_76, ex_193_77, if_true, if_false, and_self, Option.toList_some, Option.toList_none, List.singleton_append, List.cons_append, List.nil_append, List.append_nil, nI_1, nt_e, Int32.le_refl, n1, Bool.true_eq_false, Bool.false_eq_true, ↓reduceIte]
    exact mm
  · have k0 : kk = 0 := by omega
    have n1 : ¬ nI kk = 1 := by rw [k0]; decide
    obtain ⟨z1, z2, z3, z4, z5, z6, z7⟩ := u0e 0 (by rw [← hbb, k0]; rfl)
    have mm := main _ z1 z2 z3 z4 z5 z6 z7
    simp (disch := first | exact am_nl_i _ | exact am_nl_r _ | exact am_nl_0 | (refine vi_nI ?_ ?_ <;> omega) | assumption | omega | exact b2i_01 _ | exact Or.inl rfl | exact Or.inr rfl | (unfold vi; decide)) only [ex_193_0, ex_193_1, ex_193_4, ex_193_5, ex_193_6, ex_193_7, ex_193_8, ex_193_9, ex_193_12, ex_193_13, ex_193_14, ex_193_15, ex_193_16, ex_193_19, ex_193_20, ex_193_21, ex_193_24, ex_193_25, ex_193_26, ex_193_27, ex_193_31, ex_193_32, ex_193_35, ex_193_36, ex_193_40, ex_193_43, ex_193_44, ex_193_47, ex_193_48, ex_193_49, ex_193_50, ex_193_51, ex_193_54, ex_193_55, ex_193_56, ex_193_59, ex_193_62, ex_193_63, ex_193_64, ex_193_65, ex_193_68, ex_193_69, ex_193_70, ex_193_71, ex_193_72, ex_193_75, ex_193_76, ex_193_77, if_true, if_false, and_self, Option.toList_some, Option.toList_none, List.singleton_append, List.cons_append, List.nil_append, List.append_nil, nI_1, nt_e, Int32.le_refl, show (2 : Int32) = nI 2 from rfl, nI_add, nI_clamp, a1, a2, qle, Bool.true_eq_false, Bool.false_eq_true, ↓reduceIte]
    rw [ex_193_28]
    simp (disch := first | exact am_nl_i _ | exact am_nl_r _ | exact am_nl_0 | (refine vi_nI ?_ ?_ <;> omega) | assumption | omega | exact b2i_01 _ | exact Or.inl rfl | exact Or.inr rfl | (unfold vi; decide)) only [ex_193_0, ex_193_1, ex_193_4, ex_193_5, ex_193_6, ex_193_7, ex_193_8, ex_193_9, ex_193_12, ex_193_13, ex_193_14, ex_193_15, ex_193_16, ex_193_19, ex_193_20, ex_193_21, ex_193_24, ex_193_25, ex_193_26, ex_193_27, ex_193_28, ex_193_31, ex_193_32, ex_193_35, ex_193_36, ex_193_40, ex_193_43, ex_193_44, ex_193_47, ex_193_48, ex_193_49, ex_193_50, ex_193_51, ex_193_54, ex_193_55, ex_193_56, ex_193_59, ex_193_62, ex_193_63, ex_193_64, ex_193_65, ex_193_68, ex_193_69, ex_193_70, ex_193_71, ex_193_72, ex_193_75, ex_193_76, ex_193_77, if_true, if_false, and_self, Option.toList_some, Option.toList_none, List.singleton_append, List.cons_append, List.nil_append, List.append_nil, nI_1, nt_e, Int32.le_refl, n1, Bool.true_eq_false, Bool.false_eq_true, ↓reduceIte]
    exact mm
end LawR
