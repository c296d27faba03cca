/-! RESTS: what each gets, the choices at rest -/
def tkS (v : LV) (l : LF) (p c : Nat) : Bool := decide (0 < c) && takesB v l (nI p) (nI (c - 1))
def gnS (v : LV) (l : LF) (p c : Nat) : Int32 := if c = 0 then worthOfV v (knowsV v (eatL l p)) else worthOfV v (knowsV v (eatL l p ||| bi (c - 1))) - weighV v (c - 1)
def canS (v : LV) (l : LF) (p : Nat) (σ : Nat → Nat) (c : Nat) : Bool := tkS v l p c && decide (0 < σ (c - 1))
def gainS (v : LV) (l : LF) (p : Nat) (σ : Nat → Nat) (c : Nat) : Int32 := gnS v l p (if canS v l p σ c then c else 0)
def mostN (f : Nat → Int32) : Nat → Int32
  | 0 => f 0
  | n + 1 => if mostN f n < f (n + 1) then f (n + 1) else mostN f n
def mostS (v : LV) (l : LF) (p : Nat) (σ : Nat → Nat) : Int32 := mostN (gainS v l p σ) (nP v)
def useB (v : LV) (l : LF) (p : Nat) (σ : Nat → Nat) (c : Nat) : Bool := canS v l p σ c && !decide (kindV v (c - 1) = 2)
def useS (v : LV) (l : LF) (p : Nat) (σ : Nat → Nat) (c : Nat) : Nat → Nat := if useB v l p σ c then upN σ (c - 1) (σ (c - 1) - 1) else σ
abbrev FS : Type := Nat × Int32
def hitS (w : Int32) (code : Nat) (st : FS) : FS := (st.1 + 1, if nI st.1 = w then nI code else st.2)
def scanF (F : Nat → FS → FS) : Nat → Nat → FS → FS
  | 0, _, st => st
  | n + 1, k, st => scanF F n (k + 1) (F k st)
def chS (v : LV) (l : LF) (w : Int32) (n : Nat) (pp : Nat → Nat) : Nat → (Nat → Nat) → Nat → FS → FS
  | 0, _, P, st => hitS w P st
  | m + 1, σ, P, st => scanF (fun c st => if gainS v l (pp (n - (m + 1))) σ c = mostS v l (pp (n - (m + 1))) σ then chS v l w n pp m (useS v l (pp (n - (m + 1))) σ c) (13 * P + c) st else st) (nP v + 1) 0 st
theorem chS_le {v : LV} {l : LF} {w : Int32} {n : Nat} {pp : Nat → Nat} : ∀ m σ P st, (chS v l w n pp m σ P st).1 ≤ st.1 + 13 ^ m ∨ 12 < nP v
  | 0, σ, P, st => Or.inl (Nat.le_refl _)
  | m + 1, σ, P, st => by
    rcases Nat.lt_or_ge 12 (nP v) with h | h
    · exact Or.inr h
    refine Or.inl ?_
    have key : ∀ kz k st, (scanF (fun c st => if gainS v l (pp (n - (m + 1))) σ c = mostS v l (pp (n - (m + 1))) σ then chS v l w n pp m (useS v l (pp (n - (m + 1))) σ c) (13 * P + c) st else st) kz k st).1 ≤ st.1 + kz * 13 ^ m := by
      intro kz
      induction kz with
      | zero => intro k st; show st.1 ≤ _; omega
      | succ kz ih =>
        intro k st
        rw [scanF]
        refine Nat.le_trans (ih _ _) ?_
        have e : (kz + 1) * 13 ^ m = kz * 13 ^ m + 13 ^ m := Nat.succ_mul _ _
        rw [e]
        split
        · have q := chS_le (v := v) (l := l) (w := w) (n := n) (pp := pp) m (useS v l (pp (n - (m + 1))) σ k) (13 * P + k) st
          generalize chS v l w n pp m (useS v l (pp (n - (m + 1))) σ k) (13 * P + k) st = T at *
          generalize 13 ^ m = X at *
          rcases q with q | q
          · omega
          · omega
        · exact Nat.add_le_add_left (Nat.le_add_right _ _) _
    rw [chS]
    refine Nat.le_trans (key _ _ _) ?_
    rw [Nat.pow_succ]
    have : (nP v + 1) * 13 ^ m ≤ 13 ^ m * 13 := by rw [Nat.mul_comm]; exact Nat.mul_le_mul_left _ (by omega)
    omega
/-- what the class's seats hold -/
def seP (a : Nat) : Prop := 193 ≤ a ∧ a ≤ 197
def chP (a : Nat) : Prop := a = 193 ∨ a = 197
def SeC (u : am_U) (L : Nat) (v : LV) (l : LF) (n : Nat) (pp : Nat → Nat) (w : Int32) (σ : Nat → Nat) : Prop := FR u 193 4 = some L ∧ FI u 193 5 = nI n ∧ FI u 193 6 = w ∧ (∀ k, k < n → ∀ c, c ≤ nP v → AI u 195 (13 * k + c) = gnS v l (pp k) c) ∧ (∀ k, k < n → ∀ c, c ≤ nP v → AI u 196 (13 * k + c) = b2i (tkS v l (pp k) c)) ∧ (∀ k, k < 12 → AI u 197 k = nI (σ k))
def StC (u : am_U) (st : FS) : Prop := FI u 193 7 = nI st.1 ∧ FI u 193 8 = st.2
section Seats
variable {d L n : Nat} {u : am_U} {v : LV} {l : LF} {pp σ : Nat → Nat} {w : Int32} {post : Option Value → am_M → Prop}
theorem sCan_ok {k c : Nat} (hn : n ≤ 3) (hk : k < n) (hc : c ≤ nP v) (hW : WF v) (hσ : ∀ k, σ k ≤ 9) (hS : SeC u L v l n pp w σ) : Cl d 96 [.ref 193, .int (nI k), .int (nI c)] (am_emb u) post ↔ post (some (.int (b2i (canS v l (pp k) σ c)))) (am_emb u) := by
  refine Cl_iff ?_ post
  obtain ⟨h1, h2, h3, h4, h5, h6⟩ := hS
  have h12 := hW.1.2.1
  have g5 := h5 k hk c hc
  have hs9 := hσ (c - 1)
  rw [op_96]
  by_cases c0 : c = 0
  · subst c0
    simp (disch := first | exact am_nl_i _ | exact am_nl_r _ | exact am_nl_0 | (refine vi_nI ?_ ?_ <;> omega) | assumption | omega | exact b2i_01 _ | exact Or.inl rfl | exact Or.inr rfl | (unfold vi; decide)) only [ex_96_0, ex_96_1, ex_96_4, ex_96_5, ex_96_8, ex_96_9, ex_96_11, ex_96_12, ex_96_13, ex_96_14, ex_96_15, ex_96_18, ex_96_19, ex_96_22, ex_96_23, ex_96_24, ex_96_25, ex_96_26, ex_96_29, ex_96_30, ex_96_33, ex_96_34, if_true, if_false, and_self, Option.toList_some, Option.toList_none, List.singleton_append, List.cons_append, List.nil_append, List.append_nil, nI_1, nt_e, Int32.le_refl, i_le0, Bool.true_eq_false, Bool.false_eq_true, ↓reduceIte]
    rw [show canS v l (pp k) σ 0 = false from rfl]
    (try (first | exact ⟨rfl, rfl⟩ | exact ⟨rfl, trivial⟩))
  · have g6 := h6 (c - 1) (by omega)
    have c1 : 1 ≤ c := by omega
    unfold canS
    cases q : tkS v l (pp k) c
    · rw [q] at g5
      simp (disch := first | exact am_nl_i _ | exact am_nl_r _ | exact am_nl_0 | (refine vi_nI ?_ ?_ <;> omega) | assumption | omega | exact b2i_01 _ | exact Or.inl rfl | exact Or.inr rfl | (unfold vi; decide)) only [ex_96_0, ex_96_1, ex_96_4, ex_96_5, ex_96_8, ex_96_9, ex_96_11, ex_96_12, ex_96_13, ex_96_14, ex_96_15, ex_96_18, ex_96_19, ex_96_22, ex_96_23, ex_96_24, ex_96_25, ex_96_26, ex_96_29, ex_96_30, ex_96_33, ex_96_34, if_true, if_false, and_self, Option.toList_some, Option.toList_none, List.singleton_append, List.cons_append, List.nil_append, List.append_nil, nI_1, nt_e, Int32.le_refl, i_le0, c0, lq13, mul_nI, Nat.mul_comm k 13, nI_add, nI_clamp, g5, b2i_0, b2i_f, Bool.true_eq_false, Bool.false_eq_true, ↓reduceIte]
      (try (first | exact ⟨rfl, rfl⟩ | exact ⟨rfl, trivial⟩))
    · rw [q] at g5
      by_cases q2 : σ (c - 1) = 0
      · have q3 : ¬ 0 < σ (c - 1) := by omega
        simp (disch := first | exact am_nl_i _ | exact am_nl_r _ | exact am_nl_0 | (refine vi_nI ?_ ?_ <;> omega) | assumption | omega | exact b2i_01 _ | exact Or.inl rfl | exact Or.inr rfl | (unfold vi; decide)) only [ex_96_0, ex_96_1, ex_96_4, ex_96_5, ex_96_8, ex_96_9, ex_96_11, ex_96_12, ex_96_13, ex_96_14, ex_96_15, ex_96_18, ex_96_19, ex_96_22, ex_96_23, ex_96_24, ex_96_25, ex_96_26, ex_96_29, ex_96_30, ex_96_33, ex_96_34, if_true, if_false, and_self, Option.toList_some, Option.toList_none, List.singleton_append, List.cons_append, List.nil_append, List.append_nil, nI_1, nt_e, Int32.le_refl, i_le0, c0, lq13, mul_nI, Nat.mul_comm k 13, nI_add, nI_clamp, g5, b2i_0, b2i_t, i_sb, g6, q2, q3, Bool.true_eq_false, Bool.false_eq_true, ↓reduceIte]
        (try (first | exact ⟨rfl, rfl⟩ | exact ⟨rfl, trivial⟩))
      · have q3 : 0 < σ (c - 1) := by omega
        simp (disch := first | exact am_nl_i _ | exact am_nl_r _ | exact am_nl_0 | (refine vi_nI ?_ ?_ <;> omega) | assumption | omega | exact b2i_01 _ | exact Or.inl rfl | exact Or.inr rfl | (unfold vi; decide)) only [ex_96_0, ex_96_1, ex_96_4, ex_96_5, ex_96_8, ex_96_9, ex_96_11, ex_96_12, ex_96_13, ex_96_14, ex_96_15, ex_96_18, ex_96_19, ex_96_22, ex_96_23, ex_96_24, ex_96_25, ex_96_26, ex_96_29, ex_96_30, ex_96_33, ex_96_34, if_true, if_false, and_self, Option.toList_some, Option.toList_none, List.singleton_append, List.cons_append, List.nil_append, List.append_nil, nI_1, nt_e, Int32.le_refl, i_le0, c0, lq13, mul_nI, Nat.mul_comm k 13, nI_add, nI_clamp, g5, b2i_0, b2i_t, i_sb, g6, q2, q3, show ((1 : Int32) = (0 : Int32)) = False from eq_false (by decide), Bool.true_eq_false, Bool.false_eq_true, ↓reduceIte]
        (try (first | exact ⟨rfl, rfl⟩ | exact ⟨rfl, trivial⟩))
theorem sGain_ok {k c : Nat} (hn : n ≤ 3) (hk : k < n) (hc : c ≤ nP v) (hW : WF v) (hσ : ∀ k, σ k ≤ 9) (hS : SeC u L v l n pp w σ) : Cl (d + 1) 97 [.ref 193, .int (nI k), .int (nI c)] (am_emb u) post ↔ post (some (.int (gainS v l (pp k) σ c))) (am_emb u) := by
  refine Cl_iff ?_ post
  have h12 := hW.1.2.1
  have g4 := hS.2.2.2.1 k hk c hc
  have g0 : AI u 195 (13 * k) = gnS v l (pp k) 0 := hS.2.2.2.1 k hk 0 (by omega)
  rw [op_97]
  unfold gainS
  cases q : canS v l (pp k) σ c
  · simp (disch := first | exact am_nl_i _ | exact am_nl_r _ | exact am_nl_0 | (refine vi_nI ?_ ?_ <;> omega) | assumption | omega | exact b2i_01 _ | exact Or.inl rfl | exact Or.inr rfl | (unfold vi; decide)) only [ex_97_0, ex_97_1, ex_97_4, ex_97_5, ex_97_7, ex_97_8, ex_97_9, ex_97_10, ex_97_11, ex_97_14, ex_97_17, ex_97_18, ex_97_21, ex_97_22, ex_97_23, ex_97_24, if_true, if_false, and_self, Option.toList_some, Option.toList_none, List.singleton_append, List.cons_append, List.nil_append, List.append_nil, nI_1, nt_e, Int32.le_refl, sCan_ok hn hk hc hW hσ hS, q, b2i_0, lq13, mul_nI, Nat.mul_comm k 13, Int32.add_zero, nI_clamp, g0, Bool.true_eq_false, Bool.false_eq_true, ↓reduceIte]
    (try (first | exact ⟨rfl, rfl⟩ | exact ⟨rfl, trivial⟩))
  · simp (disch := first | exact am_nl_i _ | exact am_nl_r _ | exact am_nl_0 | (refine vi_nI ?_ ?_ <;> omega) | assumption | omega | exact b2i_01 _ | exact Or.inl rfl | exact Or.inr rfl | (unfold vi; decide)) only [ex_97_0, ex_97_1, ex_97_4, ex_97_5, ex_97_7, ex_97_8, ex_97_9, ex_97_10, ex_97_11, ex_97_14, ex_97_17, ex_97_18, ex_97_21, ex_97_22, ex_97_23, ex_97_24, if_true, if_false, and_self, Option.toList_some, Option.toList_none, List.singleton_append, List.cons_append, List.nil_append, List.append_nil, nI_1, nt_e, Int32.le_refl, sCan_ok hn hk hc hW hσ hS, q, b2i_0, lq13, mul_nI, Nat.mul_comm k 13, nI_add, nI_clamp, g4, Bool.true_eq_false, Bool.false_eq_true, ↓reduceIte]
    (try (first | exact ⟨rfl, rfl⟩ | exact ⟨rfl, trivial⟩))
theorem sMost_ok {k : Nat} (hn : n ≤ 3) (hk : k < n) (hL : sh L 3 19) (hC : LibC u L v) (hW : WF v) (hσ : ∀ k, σ k ≤ 9) (hS : SeC u L v l n pp w σ) : Cl (d + 2) 98 [.ref 193, .int (nI k)] (am_emb u) post ↔ post (some (.int (mostS v l (pp k) σ))) (am_emb u) := by
  refine Cl_iff ?_ post
  have h12 := hW.1.2.1
  have hN := hC.1.2.1
  have h1 := hS.1
  have z0 : (0 : Int32) = nI 0 := rfl
  have gn0 := fun {post : Option Value → am_M → Prop} => sGain_ok (d := d) (post := post) (c := 0) hn hk (Nat.zero_le _) hW hσ hS
  have g0 : ∀ {post : Option Value → am_M → Prop}, Cl (d + 1) 97 [.ref 193, .int (nI k), .int 0] (am_emb u) post ↔ post (some (.int (gainS v l (pp k) σ 0))) (am_emb u) := gn0
  rw [op_98]
  have loop : ∀ (kz i : Nat), i + kz = nP v → Ex (d + 2) 98 9 [some (.ref 193), some (.int (nI k)), some (.int (mostN (gainS v l (pp k) σ) i)), some (.int (nI (i + 1)))] [] (am_emb u) (fun w n => w = some (.int (mostS v l (pp k) σ)) ∧ n = am_emb u) := by
    intro kz
    induction kz with
    | zero =>
      intro i hi
      obtain rfl : i = nP v := by omega
      have hlt : ¬ nP v + 1 ≤ nP v := by omega
      rw [ex_98_9]
      simp (disch := first | exact am_nl_i _ | exact am_nl_r _ | exact am_nl_0 | (refine vi_nI ?_ ?_ <;> omega) | assumption | omega | exact b2i_01 _ | exact Or.inl rfl | exact Or.inr rfl | (unfold vi; decide)) only [ex_98_0, ex_98_1, ex_98_2, ex_98_3, ex_98_6, ex_98_7, ex_98_8, ex_98_10, ex_98_11, ex_98_14, ex_98_17, ex_98_20, ex_98_24, ex_98_25, ex_98_26, ex_98_27, ex_98_30, ex_98_33, ex_98_34, ex_98_37, ex_98_40, ex_98_41, if_true, if_false, and_self, Option.toList_some, Option.toList_none, List.singleton_append, List.cons_append, List.nil_append, List.append_nil, nI_1, nt_e, Int32.le_refl, h1, va_rfs, hN, nI_ltI, nI_leI, Nat.lt_succ_self, hlt, Bool.true_eq_false, Bool.false_eq_true, ↓reduceIte]
      (try (first | exact ⟨rfl, rfl⟩ | exact ⟨rfl, trivial⟩))
    | succ kz ih =>
      intro i hi
      have ih := ih (i + 1) (by omega)
      have hnlt : ¬ nP v < i + 1 := by omega
      rw [mostN] at ih
      rw [ex_98_9]
      simp (disch := first | exact am_nl_i _ | exact am_nl_r _ | exact am_nl_0 | (refine vi_nI ?_ ?_ <;> omega) | assumption | omega | exact b2i_01 _ | exact Or.inl rfl | exact Or.inr rfl | (unfold vi; decide)) only [ex_98_0, ex_98_1, ex_98_2, ex_98_3, ex_98_6, ex_98_7, ex_98_8, ex_98_10, ex_98_11, ex_98_14, ex_98_17, ex_98_20, ex_98_23, ex_98_24, ex_98_25, ex_98_26, ex_98_27, ex_98_30, ex_98_33, ex_98_34, ex_98_37, ex_98_41, if_true, if_false, and_self, Option.toList_some, Option.toList_none, List.singleton_append, List.cons_append, List.nil_append, List.append_nil, nI_1, nt_e, Int32.le_refl, h1, va_rfs, hN, nI_ltI, nI_leI, hnlt, sGain_ok hn hk (show i + 1 ≤ nP v by omega) hW hσ hS, max_ok, Bool.true_eq_false, Bool.false_eq_true, ↓reduceIte]
      exact ih
  simp (disch := first | exact am_nl_i _ | exact am_nl_r _ | exact am_nl_0 | assumption | omega | (refine vi_nI ?_ ?_ <;> omega) | exact b2i_01 _ | exact Or.inl rfl | exact Or.inr rfl | (unfold vi; decide)) only [ex_98_0, ex_98_1, ex_98_2, ex_98_3, ex_98_6, ex_98_7, ex_98_8, ex_98_10, ex_98_11, ex_98_14, ex_98_17, ex_98_20, ex_98_23, ex_98_24, ex_98_25, ex_98_26, ex_98_27, ex_98_30, ex_98_33, ex_98_34, ex_98_37, ex_98_40, ex_98_41, if_true, if_false, and_self, Option.toList_some, Option.toList_none, List.singleton_append, List.cons_append, List.nil_append, List.append_nil, nI_1, nt_e, Int32.le_refl, g0]
  exact loop (nP v) 0 (by omega)
theorem sMove_ok {c : Nat} {x : Int32} (hc : c ≤ 12) (h : ∀ u', Only (is 197) u u' → (c = 0 → AI u' 197 = AI u 197) → (0 < c → AI u' 197 = upd (AI u 197) (c - 1) (AI u 197 (c - 1) + x)) → post none (am_emb u')) : Cl d 100 [.ref 193, .int (nI c), .int x] (am_emb u) post := by
  rw [op_100]
  by_cases c0 : c = 0
  · subst c0
    simp (disch := first | exact am_nl_i _ | exact am_nl_r _ | exact am_nl_0 | (refine vi_nI ?_ ?_ <;> omega) | assumption | omega | exact b2i_01 _ | exact Or.inl rfl | exact Or.inr rfl | (unfold vi; decide)) only [ex_100_0, ex_100_1, ex_100_2, ex_100_5, ex_100_6, ex_100_8, ex_100_11, ex_100_12, ex_100_15, ex_100_16, ex_100_17, ex_100_18, ex_100_19, ex_100_20, ex_100_21, ex_100_22, ex_100_23, if_true, if_false, and_self, Option.toList_some, Option.toList_none, List.singleton_append, List.cons_append, List.nil_append, List.append_nil, nI_1, nt_e, Int32.le_refl, show ((0 : Int32) < (1 : Int32)) = True from eq_true (by decide), Bool.true_eq_false, Bool.false_eq_true, ↓reduceIte]
    exact h u (Only.rf _ _) (fun _ => rfl) (fun q => absurd q (Nat.lt_irrefl 0))
  · have c1 : 1 ≤ c := by omega
    have n1 : ¬ c < 1 := by omega
    have n2 : ¬ 12 < c := by omega
    simp (disch := first | exact am_nl_i _ | exact am_nl_r _ | exact am_nl_0 | (refine vi_nI ?_ ?_ <;> omega) | assumption | omega | exact b2i_01 _ | exact Or.inl rfl | exact Or.inr rfl | (unfold vi; decide)) only [ex_100_0, ex_100_1, ex_100_2, ex_100_5, ex_100_6, ex_100_8, ex_100_11, ex_100_12, ex_100_15, ex_100_16, ex_100_17, ex_100_18, ex_100_19, ex_100_20, ex_100_21, ex_100_22, ex_100_23, if_true, if_false, and_self, Option.toList_some, Option.toList_none, List.singleton_append, List.cons_append, List.nil_append, List.append_nil, nI_1, nt_e, Int32.le_refl, i_lt1, c0, n1, lq12, nI_ltI, n2, i_sb, nI_clamp, Bool.true_eq_false, Bool.false_eq_true, ↓reduceIte]
    refine h _ (Only.sAI rfl) (fun q => absurd q c0) (fun _ => ?_)
    rw [AI_sAI, if_pos rfl]
end Seats
