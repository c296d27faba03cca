/-! WHAT TOKENS ARE LIKE; their sorts, as both sides ask them -/
def TokOk (n : Nat) (f : Nat → Nat) (t : Tok) : Prop := (t.1 = 1 → WordOk t.2.2) ∧ (t.1 = 2 → bas 10 t.2.2 < 10000) ∧ (t.1 = 3 → t.2.1 < n ∧ t.2.2 = [f t.2.1] ∧ isM (f t.2.1) = true) ∧ t.1 ≤ 4 ∧ t.2.1 ≤ n
theorem tokQ_ok {n q : Nat} {f : Nat → Nat} (h : q ≤ n) : TokOk n f (tokQ n f q).1 := by
  have h2 := tokQ_le (f := f) h
  refine ⟨?_, ?_, ?_, ?_, by rw [h2.2.2.1]; exact h⟩
  all_goals
    unfold tokQ
    by_cases e : n ≤ q
    · rw [if_pos e]
      first | exact fun h => absurd h (by show ¬ 0 = _; decide) | exact Nat.zero_le _
    rw [if_neg e]
    have l1 := runF_le (p := isL) (f := f) (k := n - q) (s := q)
    have l2 := runF_le (p := isD) (f := f) (k := n - q) (s := q)
    have i1 : ∀ i, i < runF isL f (n - q) q → isL (f (q + i)) = true := fun i hi => runF_in hi
    have i2 : ∀ i, i < runF isD f (n - q) q → isD (f (q + i)) = true := fun i hi => runF_in hi
    by_cases e1 : isL (f q) = true
    · rw [if_pos e1]
      have p1 := runF_pos (f := f) (k := n - q) (by omega) e1
      by_cases e8 : 8 < runF isL f (n - q) q
      · rw [if_pos e8]
        first | exact fun h => absurd h (by show ¬ 4 = _; decide) | exact Nat.le_refl _
      · rw [if_neg e8]
        first
          | exact fun h => absurd h (by show ¬ 1 = _; decide)
          | (intro _; exact ⟨by show 1 ≤ (wordAt _ _ _ _).length; unfold wordAt; rw [List.length_map, List.length_range]; omega, by show (wordAt _ _ _ _).length ≤ 8; unfold wordAt; rw [List.length_map, List.length_range]; omega, fun x hx => by
              obtain ⟨j, hj, rfl⟩ := List.mem_map.mp (show x ∈ List.map _ _ from hx)
              have := of_decide_eq_true (i1 j (List.mem_range.mp hj))
              omega⟩)
          | exact (by decide : 1 ≤ 4)
    rw [if_neg e1]
    by_cases e2 : isD (f q) = true
    · rw [if_pos e2]
      by_cases e4 : 4 < runF isD f (n - q) q
      · rw [if_pos e4]
        first | exact fun h => absurd h (by show ¬ 4 = _; decide) | exact Nat.le_refl _
      · rw [if_neg e4]
        first
          | exact fun h => absurd h (by show ¬ 2 = _; decide)
          | (intro _
             have b1 := bas_lt (b := 10) (by decide) (l := runF isD f (n - q) q) (f := f) (d := 48) (q := q) (fun j hj => by have := of_decide_eq_true (i2 j hj); omega)
             have b2 : 10 ^ (runF isD f (n - q) q) ≤ 10 ^ 4 := Nat.pow_le_pow_right (by decide) (by omega)
             exact Nat.lt_of_lt_of_le b1 b2)
          | exact (by decide : 2 ≤ 4)
    rw [if_neg e2]
    cases eM : isM (f q)
    · rw [if_neg (by decide)]
      first | exact fun h => absurd h (by show ¬ 4 = _; decide) | exact Nat.le_refl _
    · rw [if_pos rfl]
      first
        | exact fun h => absurd h (by show ¬ 3 = _; decide)
        | exact fun _ => ⟨by show q < n; omega, rfl, rfl⟩
        | exact (by decide : 3 ≤ 4)
theorem tk_ok {n : Nat} {f : Nat → Nat} (i : Nat) : TokOk n f (tk n f i) := tokQ_ok (skip_le (posF_le i)).2
def nmB (s : Nat) : Bool := decide (s = 1) || decide (226 ≤ s)
theorem kwI_get {w : List Nat} : ∀ {ws : List (List Nat)} {s k : Nat}, 2 ≤ s → k < ws.length → kwI ws w s = s + k → ws.getD k [] = w
  | [], s, k, _, h, _ => absurd h (Nat.not_lt_zero k)
  | x :: xs, s, k, h2, h, e => by
    rw [kwI] at e
    by_cases q : x = w
    · rw [if_pos q] at e
      obtain rfl : k = 0 := by omega
      exact q
    · rw [if_neg q] at e
      cases k with
      | zero =>
        exfalso
        have key : ∀ (ws : List (List Nat)) (s : Nat), kwI ws w s = 1 ∨ s ≤ kwI ws w s := fun ws => by
          induction ws with
          | nil => exact fun s => Or.inl rfl
          | cons y ys ih =>
            intro s
            rw [kwI]
            split
            · exact Or.inr (Nat.le_refl _)
            · rcases ih (s + 1) with h | h
              · exact Or.inl h
              · exact Or.inr (by omega)
        rcases key xs (s + 1) with h | h <;> omega
      | succ k => exact kwI_get (ws := xs) (s := s + 1) (by omega) (Nat.lt_of_succ_lt_succ h) (by omega)
theorem kwI_rng {w : List Nat} : ∀ (ws : List (List Nat)) (s : Nat), kwI ws w s = 1 ∨ (s ≤ kwI ws w s ∧ kwI ws w s < s + ws.length)
  | [], s => Or.inl rfl
  | x :: xs, s => by
    rw [kwI]
    have hl : (x :: xs).length = xs.length + 1 := rfl
    split
    · exact Or.inr ⟨Nat.le_refl _, by omega⟩
    · rcases kwI_rng xs (s + 1) with h | h
      · exact Or.inl h
      · exact Or.inr (by omega)
theorem sortW_rng (w : List Nat) : sortW w = 1 ∨ (200 ≤ sortW w ∧ sortW w < 229) := kwI_rng kw 200
theorem sortW_kw : ∀ k, k < 29 → sortW (kw.getD k []) = 200 + k := by decide +kernel
theorem kw_wok : ∀ k, k < 29 → 1 ≤ (kw.getD k []).length ∧ (kw.getD k []).length ≤ 8 ∧ ∀ x, x ∈ kw.getD k [] → 1 ≤ x ∧ x ≤ 26 := by decide +kernel
theorem sortW_iff {w : List Nat} {k : Nat} (hk : k < 29) : sortW w = 200 + k ↔ w = kw.getD k [] := by
  constructor
  · intro h
    exact (kwI_get (ws := kw) (s := 200) (by decide) hk h).symm
  · intro h
    rw [h]
    exact sortW_kw k hk
section Sorts
variable {n : Nat} {f : Nat → Nat} {t : Tok}
theorem cs_rng (ht : TokOk n f t) : (t.1 = 0 ∧ csort t = 3) ∨ (t.1 = 1 ∧ (csort t = 1 ∨ (200 ≤ csort t ∧ csort t < 229)) ∧ csort t = sortW t.2.2) ∨ (t.1 = 2 ∧ csort t = 2) ∨ (t.1 = 3 ∧ t.2.2 = [csort t] ∧ isM (csort t) = true ∧ f t.2.1 = csort t) ∨ (t.1 = 4 ∧ csort t = 4) := by
  obtain ⟨h1, h2, h3, h4, h5⟩ := ht
  have : t.1 = 0 ∨ t.1 = 1 ∨ t.1 = 2 ∨ t.1 = 3 ∨ t.1 = 4 := by omega
  unfold csort
  rcases this with e | e | e | e | e
  · rw [e]; exact Or.inl ⟨rfl, rfl⟩
  · rw [e]; exact Or.inr (Or.inl ⟨rfl, sortW_rng _, rfl⟩)
  · rw [e]; exact Or.inr (Or.inr (Or.inl ⟨rfl, rfl⟩))
  · obtain ⟨g1, g2, g3⟩ := h3 e
    rw [e, g2]
    exact Or.inr (Or.inr (Or.inr (Or.inl ⟨rfl, rfl, g3, rfl⟩)))
  · rw [e]; exact Or.inr (Or.inr (Or.inr (Or.inr ⟨rfl, rfl⟩)))
theorem isM_rng {s : Nat} (h : isM s = true) : 40 ≤ s ∧ s ≤ 61 := by
  have := of_decide_eq_true h
  omega
theorem cs_0 (ht : TokOk n f t) : t.1 = 0 ↔ csort t = 3 := by
  rcases cs_rng ht with h | h | h | h | h
  · exact ⟨fun _ => h.2, fun _ => h.1⟩
  · constructor <;> intro q <;> omega
  · constructor <;> intro q <;> omega
  · have := isM_rng h.2.2.1
    constructor <;> intro q <;> omega
  · constructor <;> intro q <;> omega
theorem cs_2 (ht : TokOk n f t) : t.1 = 2 ↔ csort t = 2 := by
  rcases cs_rng ht with h | h | h | h | h
  · constructor <;> intro q <;> omega
  · constructor <;> intro q <;> omega
  · exact ⟨fun _ => h.2, fun _ => h.1⟩
  · have := isM_rng h.2.2.1
    constructor <;> intro q <;> omega
  · constructor <;> intro q <;> omega
theorem cs_s {s : Nat} (ht : TokOk n f t) (hs : isM s = true) : (t.1 = 3 ∧ f t.2.1 = s) ↔ csort t = s := by
  have h0 := isM_rng hs
  rcases cs_rng ht with h | h | h | h | h
  · constructor <;> intro q <;> omega
  · constructor <;> intro q <;> omega
  · constructor <;> intro q <;> omega
  · constructor <;> intro q <;> omega
  · constructor <;> intro q <;> omega
theorem cs_w {k : Nat} (ht : TokOk n f t) (hk : k < 29) : (t.1 = 1 ∧ t.2.2 = kw.getD k []) ↔ csort t = 200 + k := by
  rcases cs_rng ht with h | h | h | h | h
  · constructor <;> intro q <;> omega
  · rw [h.2.2, sortW_iff hk]
    exact ⟨fun q => q.2, fun q => ⟨h.1, q⟩⟩
  · constructor <;> intro q <;> omega
  · have := isM_rng h.2.2.1
    constructor <;> intro q <;> omega
  · constructor <;> intro q <;> omega
theorem nmB_w (ht : TokOk n f t) (h : nmB (csort t) = true) : t.1 = 1 := by
  unfold nmB at h
  rw [Bool.or_eq_true, decide_eq_true_eq, decide_eq_true_eq] at h
  rcases cs_rng ht with q | q | q | q | q
  · omega
  · exact q.1
  · omega
  · have := isM_rng q.2.2.1
    omega
  · omega
end Sorts
theorem ofNat_inj {a b : Nat} (ha : a < 2 ^ 40) (hb : b < 2 ^ 40) (h : Int64.ofNat a = Int64.ofNat b) : a = b := by
  have h := congrArg Int64.toInt h
  rw [Int64.toInt_ofNat_of_lt (by omega), Int64.toInt_ofNat_of_lt (by omega)] at h
  exact Int.ofNat.inj h
/-- words as numbers are alike as the words are -/
theorem word_eq {b : Nat} {w w' : List Nat} (hb : 26 < b) (hb2 : b ≤ 32) (h1 : WordOk w) (h2 : WordOk w') : Int64.ofNat (bas b w) = Int64.ofNat (bas b w') ↔ w = w' :=
  ⟨fun h => bas_inj hb h1.2.2 w' h2.2.2 (ofNat_inj (bas_big h1 hb hb2) (bas_big h2 hb hb2) h), fun h => by rw [h]⟩
def c27L : List Nat := [118928, 6476833, 315851, 12328316, 51339979, 375400, 1831769, 232608281, 365647, 3164, 161370, 394913, 12532058, 7542361, 70441, 46472, 55175, 407354, 8996, 261003578, 3692, 85447, 7622660, 10631, 1111, 423, 4351291, 10790420, 5878]
theorem c27_e : ∀ k, k < 29 → bas 27 (kw.getD k []) = c27L.getD k 0 := by decide +kernel
section RefTok
variable {d n e : Nat} {u : am_U} {f : Nat → Nat} {t : Tok} {post : Option Value → am_M → Prop}
theorem FJ_w (hc : RCur u t e) (ht : TokOk n f t) (h1 : t.1 = 1) {k : Nat} (hk : k < 29) : FJ u 203 7 = Int64.ofNat (c27L.getD k 0) ↔ csort t = 200 + k := by
  rw [hc.2.2.2.1 h1, ← c27_e k hk, word_eq (by decide) (by decide) (ht.1 h1) (kw_wok k hk), ← cs_w ht hk]
  exact ⟨fun q => ⟨h1, q⟩, fun q => q.2⟩
theorem rtok_e (hc : RCur u t e) (ht : TokOk n f t) {k : Nat} (hk : k ≤ 4) : FI u 203 6 = nI k ↔ t.1 = k := by
  rw [hc.2.2.1]
  have := ht.2.2.2.1
  constructor
  · intro h
    have h := congrArg ix h
    rwa [ix_nI (by omega), ix_nI (by omega)] at h
  · intro h; rw [h]
theorem isWord_ok {k : Nat} {w : Int64} (hc : RCur u t e) (ht : TokOk n f t) (hk : k < 29) (hw : w = Int64.ofNat (c27L.getD k 0)) : Cl d 167 [.ref 203, .long w] (am_emb u) post ↔ post (some (.int (b2i (decide (csort t = 200 + k))))) (am_emb u) := by
  rw [op_167]
  have h1 := rtok_e hc ht (k := 1) (by decide)
  have h1' : FI u 203 6 = 1 ↔ t.1 = 1 := h1
  by_cases e1 : t.1 = 1
  · have e2 := FJ_w hc ht e1 hk
    rw [← hw] at e2
    by_cases e3 : csort t = 200 + k
    · rw [decide_eq_true e3]
      simp (disch := first | exact am_nl_i _ | exact am_nl_r _ | exact am_nl_0 | (refine vi_nI ?_ ?_ <;> omega) | assumption | omega | exact b2i_01 _ | exact Or.inl rfl | exact Or.inr rfl | (unfold vi; decide)) only [ex_167_0, ex_167_1, ex_167_4, ex_167_5, ex_167_8, ex_167_9, ex_167_12, ex_167_13, ex_167_14, ex_167_17, ex_167_18, ex_167_21, ex_167_22, if_true, if_false, and_self, Option.toList_some, Option.toList_none, List.singleton_append, List.cons_append, List.nil_append, List.append_nil, nI_1, nt_e, Int32.le_refl, h1', e1, lg_cmp_eq, e2, e3, Bool.true_eq_false, Bool.false_eq_true, ↓reduceIte]
      exact Iff.rfl
    · rw [decide_eq_false e3]
      simp (disch := first | exact am_nl_i _ | exact am_nl_r _ | exact am_nl_0 | (refine vi_nI ?_ ?_ <;> omega) | assumption | omega | exact b2i_01 _ | exact Or.inl rfl | exact Or.inr rfl | (unfold vi; decide)) only [ex_167_0, ex_167_1, ex_167_4, ex_167_5, ex_167_8, ex_167_9, ex_167_12, ex_167_13, ex_167_14, ex_167_17, ex_167_18, ex_167_21, ex_167_22, if_true, if_false, and_self, Option.toList_some, Option.toList_none, List.singleton_append, List.cons_append, List.nil_append, List.append_nil, nI_1, nt_e, Int32.le_refl, h1', e1, lg_cmp_eq, e2, e3, Bool.true_eq_false, Bool.false_eq_true, ↓reduceIte]
      exact Iff.rfl
  · have e3 : ¬ csort t = 200 + k := fun q => e1 ((cs_w ht hk).mpr q).1
    rw [decide_eq_false e3]
    simp (disch := first | exact am_nl_i _ | exact am_nl_r _ | exact am_nl_0 | (refine vi_nI ?_ ?_ <;> omega) | assumption | omega | exact b2i_01 _ | exact Or.inl rfl | exact Or.inr rfl | (unfold vi; decide)) only [ex_167_0, ex_167_1, ex_167_4, ex_167_5, ex_167_8, ex_167_9, ex_167_12, ex_167_13, ex_167_14, ex_167_17, ex_167_18, ex_167_21, ex_167_22, if_true, if_false, and_self, Option.toList_some, Option.toList_none, List.singleton_append, List.cons_append, List.nil_append, List.append_nil, nI_1, nt_e, Int32.le_refl, h1', e1, Bool.true_eq_false, Bool.false_eq_true, ↓reduceIte]
    exact Iff.rfl
theorem isSign_ok {s : Nat} (hR : RdR u n f) (hc : RCur u t e) (ht : TokOk n f t) (hs : isM s = true) : Cl d 168 [.ref 203, .int (nI s)] (am_emb u) post ↔ post (some (.int (b2i (decide (csort t = s))))) (am_emb u) := by
  rw [op_168]
  have h3 : FI u 203 6 = 3 ↔ t.1 = 3 := rtok_e hc ht (k := 3) (by decide)
  have hb := hc.2.1
  have hn := hR.2.2.1
  have h0 := isM_rng hs
  by_cases e1 : t.1 = 3
  · have g := ht.2.2.1 e1
    have hf := hR.1 _ g.1
    have g3 := isM_rng g.2.2
    have g4 := g.1
    by_cases e3 : csort t = s
    · have e4 : f t.2.1 = s := ((cs_s ht hs).mpr e3).2
      rw [e4] at hf
      rw [decide_eq_true e3]
      simp (disch := first | exact am_nl_i _ | exact am_nl_r _ | exact am_nl_0 | (refine vi_nI ?_ ?_ <;> omega) | assumption | omega | exact b2i_01 _ | exact Or.inl rfl | exact Or.inr rfl | (unfold vi; decide)) only [ex_168_0, ex_168_1, ex_168_4, ex_168_5, ex_168_8, ex_168_9, ex_168_12, ex_168_13, ex_168_16, ex_168_17, ex_168_18, ex_168_21, ex_168_22, ex_168_25, ex_168_26, if_true, if_false, and_self, Option.toList_some, Option.toList_none, List.singleton_append, List.cons_append, List.nil_append, List.append_nil, nI_1, nt_e, Int32.le_refl, h3, e1, hb, nI_clamp, hf, Bool.true_eq_false, Bool.false_eq_true, ↓reduceIte]
      exact Iff.rfl
    · have e4 : ¬ nI (f t.2.1) = nI s := fun q => by
        have q := congrArg ix q
        rw [ix_nI (by omega), ix_nI (by omega)] at q
        exact e3 ((cs_s ht hs).mp ⟨e1, q⟩)
      rw [decide_eq_false e3]
      simp (disch := first | exact am_nl_i _ | exact am_nl_r _ | exact am_nl_0 | (refine vi_nI ?_ ?_ <;> omega) | assumption | omega | exact b2i_01 _ | exact Or.inl rfl | exact Or.inr rfl | (unfold vi; decide)) only [ex_168_0, ex_168_1, ex_168_4, ex_168_5, ex_168_8, ex_168_9, ex_168_12, ex_168_13, ex_168_16, ex_168_17, ex_168_18, ex_168_21, ex_168_22, ex_168_25, ex_168_26, if_true, if_false, and_self, Option.toList_some, Option.toList_none, List.singleton_append, List.cons_append, List.nil_append, List.append_nil, nI_1, nt_e, Int32.le_refl, h3, e1, hb, nI_clamp, hf, e4, Bool.true_eq_false, Bool.false_eq_true, ↓reduceIte]
      exact Iff.rfl
  · have e3 : ¬ csort t = s := fun q => e1 ((cs_s ht hs).mpr q).1
    rw [decide_eq_false e3]
    simp (disch := first | exact am_nl_i _ | exact am_nl_r _ | exact am_nl_0 | (refine vi_nI ?_ ?_ <;> omega) | assumption | omega | exact b2i_01 _ | exact Or.inl rfl | exact Or.inr rfl | (unfold vi; decide)) only [ex_168_0, ex_168_1, ex_168_4, ex_168_5, ex_168_8, ex_168_9, ex_168_12, ex_168_13, ex_168_16, ex_168_17, ex_168_18, ex_168_21, ex_168_22, ex_168_25, ex_168_26, if_true, if_false, and_self, Option.toList_some, Option.toList_none, List.singleton_append, List.cons_append, List.nil_append, List.append_nil, nI_1, nt_e, Int32.le_refl, h3, e1, Bool.true_eq_false, Bool.false_eq_true, ↓reduceIte]
    exact Iff.rfl
def fl (k : Nat) (t : Tok) : Nat := k + 16 * t.2.1
theorem fails_ok {k : Nat} (hc : RCur u t e) : Cl d 169 [.ref 203, .int (nI k)] (am_emb u) post ↔ post (some (.int 0)) (am_emb (sFI u 203 9 (nI (fl k t)))) := by
  rw [op_169]
  have e16 : nI k + 16 * nI t.2.1 = nI (fl k t) := by
    rw [show (16 : Int32) = nI 16 from rfl, mul_nI, nI_add]
    rfl
  simp (disch := first | exact am_nl_i _ | exact am_nl_r _ | exact am_nl_0 | (refine vi_nI ?_ ?_ <;> omega) | assumption | omega | exact b2i_01 _ | exact Or.inl rfl | exact Or.inr rfl | (unfold vi; decide)) only [ex_169_0, ex_169_1, ex_169_2, ex_169_4, ex_169_5, ex_169_8, ex_169_9, ex_169_10, ex_169_13, ex_169_14, if_true, if_false, and_self, Option.toList_some, Option.toList_none, List.singleton_append, List.cons_append, List.nil_append, List.append_nil, nI_1, nt_e, Int32.le_refl, hc.2.1, e16, Bool.true_eq_false, Bool.false_eq_true, ↓reduceIte]
theorem isKept_ok (hc : RCur u t e) (ht : TokOk n f t) : Cl d 177 [.ref 203] (am_emb u) post ↔ post (some (.int (b2i (!nmB (csort t))))) (am_emb u) := by
  rw [op_177]
  have h1' : FI u 203 6 = 1 ↔ t.1 = 1 := rtok_e hc ht (k := 1) (by decide)
  by_cases e1 : t.1 = 1
  · have g := fun k (hk : k < 29) => FJ_w hc ht e1 hk
    have x0 := g 0 (by decide)
    have x1 := g 1 (by decide)
    have x2 := g 2 (by decide)
    have x3 := g 3 (by decide)
    have x4 := g 4 (by decide)
    have x5 := g 5 (by decide)
    have x6 := g 6 (by decide)
    have x7 := g 7 (by decide)
    have x8 := g 8 (by decide)
    have x9 := g 9 (by decide)
    have x10 := g 10 (by decide)
    have x11 := g 11 (by decide)
    have x12 := g 12 (by decide)
    have x13 := g 13 (by decide)
    have x14 := g 14 (by decide)
    have x15 := g 15 (by decide)
    have x16 := g 16 (by decide)
    have x17 := g 17 (by decide)
    have x18 := g 18 (by decide)
    have x19 := g 19 (by decide)
    have x20 := g 20 (by decide)
    have x21 := g 21 (by decide)
    have x22 := g 22 (by decide)
    have x23 := g 23 (by decide)
    have x24 := g 24 (by decide)
    have x25 := g 25 (by decide)
    have hr := (show csort t = 1 ∨ (200 ≤ csort t ∧ csort t < 229) by rcases cs_rng ht with q | q | q | q | q <;> omega)
    simp only [show Int64.ofNat (c27L.getD 0 0) = 118928 from rfl, show Int64.ofNat (c27L.getD 1 0) = 6476833 from rfl, show Int64.ofNat (c27L.getD 2 0) = 315851 from rfl, show Int64.ofNat (c27L.getD 3 0) = 12328316 from rfl, show Int64.ofNat (c27L.getD 4 0) = 51339979 from rfl, show Int64.ofNat (c27L.getD 5 0) = 375400 from rfl, show Int64.ofNat (c27L.getD 6 0) = 1831769 from rfl, show Int64.ofNat (c27L.getD 7 0) = 232608281 from rfl, show Int64.ofNat (c27L.getD 8 0) = 365647 from rfl, show Int64.ofNat (c27L.getD 9 0) = 3164 from rfl, show Int64.ofNat (c27L.getD 10 0) = 161370 from rfl, show Int64.ofNat (c27L.getD 11 0) = 394913 from rfl, show Int64.ofNat (c27L.getD 12 0) = 12532058 from rfl, show Int64.ofNat (c27L.getD 13 0) = 7542361 from rfl, show Int64.ofNat (c27L.getD 14 0) = 70441 from rfl, show Int64.ofNat (c27L.getD 15 0) = 46472 from rfl, show Int64.ofNat (c27L.getD 16 0) = 55175 from rfl, show Int64.ofNat (c27L.getD 17 0) = 407354 from rfl, show Int64.ofNat (c27L.getD 18 0) = 8996 from rfl, show Int64.ofNat (c27L.getD 19 0) = 261003578 from rfl, show Int64.ofNat (c27L.getD 20 0) = 3692 from rfl, show Int64.ofNat (c27L.getD 21 0) = 85447 from rfl, show Int64.ofNat (c27L.getD 22 0) = 7622660 from rfl, show Int64.ofNat (c27L.getD 23 0) = 10631 from rfl, show Int64.ofNat (c27L.getD 24 0) = 1111 from rfl, show Int64.ofNat (c27L.getD 25 0) = 423 from rfl] at *
    generalize csort t = a at *
    by_cases hn : nmB a = true
    · have hn2 := hn
      unfold nmB at hn2
      rw [Bool.or_eq_true, decide_eq_true_eq, decide_eq_true_eq] at hn2
      rw [hn]
      have z0 : ¬ a = 200 + 0 := by omega
      have z1 : ¬ a = 200 + 1 := by omega
      have z2 : ¬ a = 200 + 2 := by omega
      have z3 : ¬ a = 200 + 3 := by omega
      have z4 : ¬ a = 200 + 4 := by omega
      have z5 : ¬ a = 200 + 5 := by omega
      have z6 : ¬ a = 200 + 6 := by omega
      have z7 : ¬ a = 200 + 7 := by omega
      have z8 : ¬ a = 200 + 8 := by omega
      have z9 : ¬ a = 200 + 9 := by omega
      have z10 : ¬ a = 200 + 10 := by omega
      have z11 : ¬ a = 200 + 11 := by omega
      have z12 : ¬ a = 200 + 12 := by omega
      have z13 : ¬ a = 200 + 13 := by omega
      have z14 : ¬ a = 200 + 14 := by omega
      have z15 : ¬ a = 200 + 15 := by omega
      have z16 : ¬ a = 200 + 16 := by omega
      have z17 : ¬ a = 200 + 17 := by omega
      have z18 : ¬ a = 200 + 18 := by omega
      have z19 : ¬ a = 200 + 19 := by omega
      have z20 : ¬ a = 200 + 20 := by omega
      have z21 : ¬ a = 200 + 21 := by omega
      have z22 : ¬ a = 200 + 22 := by omega
      have z23 : ¬ a = 200 + 23 := by omega
      have z24 : ¬ a = 200 + 24 := by omega
      have z25 : ¬ a = 200 + 25 := by omega
      simp (disch := first | exact am_nl_i _ | exact am_nl_r _ | exact am_nl_0 | (refine vi_nI ?_ ?_ <;> omega) | assumption | omega | exact b2i_01 _ | exact Or.inl rfl | exact Or.inr rfl | (unfold vi; decide)) only [ex_177_0, ex_177_1, ex_177_4, ex_177_5, ex_177_8, ex_177_9, ex_177_10, ex_177_11, ex_177_14, ex_177_17, ex_177_18, ex_177_21, ex_177_22, ex_177_25, ex_177_28, ex_177_29, ex_177_32, ex_177_33, ex_177_36, ex_177_39, ex_177_40, ex_177_43, ex_177_44, ex_177_47, ex_177_50, ex_177_51, ex_177_54, ex_177_55, ex_177_58, ex_177_61, ex_177_62, ex_177_65, ex_177_66, ex_177_69, ex_177_72, ex_177_73, ex_177_76, ex_177_77, ex_177_80, ex_177_83, ex_177_84, ex_177_87, ex_177_88, ex_177_91, ex_177_94, ex_177_95, ex_177_98, ex_177_99, ex_177_102, ex_177_105, ex_177_106, ex_177_109, ex_177_110, ex_177_113, ex_177_116, ex_177_117, ex_177_120, ex_177_121, ex_177_124, ex_177_127, ex_177_128, ex_177_131, ex_177_132, ex_177_135, ex_177_138, ex_177_139, ex_177_142, ex_177_143, ex_177_146, ex_177_149, ex_177_150, ex_177_153, ex_177_154, ex_177_157, ex_177_160, ex_177_161, ex_177_164, ex_177_165, ex_177_168, ex_177_171, ex_177_172, ex_177_175, ex_177_176, ex_177_179, ex_177_182, ex_177_183, ex_177_186, ex_177_187, ex_177_190, ex_177_193, ex_177_194, ex_177_197, ex_177_198, ex_177_201, ex_177_204, ex_177_205, ex_177_208, ex_177_209, ex_177_212, ex_177_215, ex_177_216, ex_177_219, ex_177_220, ex_177_223, ex_177_226, ex_177_227, ex_177_230, ex_177_231, ex_177_234, ex_177_237, ex_177_238, ex_177_241, ex_177_242, ex_177_245, ex_177_248, ex_177_249, ex_177_252, ex_177_253, ex_177_256, ex_177_259, ex_177_260, ex_177_263, ex_177_264, ex_177_267, ex_177_270, ex_177_271, ex_177_274, ex_177_275, ex_177_278, ex_177_281, ex_177_282, ex_177_285, ex_177_286, ex_177_289, ex_177_292, ex_177_293, ex_177_296, ex_177_297, ex_177_300, ex_177_301, if_true, if_false, and_self, Option.toList_some, Option.toList_none, List.singleton_append, List.cons_append, List.nil_append, List.append_nil, nI_1, nt_e, Int32.le_refl, h1', e1, lg_cmp_eq, x0, x1, x2, x3, x4, x5, x6, x7, x8, x9, x10, x11, x12, x13, x14, x15, x16, x17, x18, x19, x20, x21, x22, x23, x24, x25, z0, z1, z2, z3, z4, z5, z6, z7, z8, z9, z10, z11, z12, z13, z14, z15, z16, z17, z18, z19, z20, z21, z22, z23, z24, z25, Bool.true_eq_false, Bool.false_eq_true, ↓reduceIte]
      exact Iff.rfl
    · have hn1 : nmB a = false := by simpa using hn
      rw [hn1]
      unfold nmB at hn
      rw [Bool.or_eq_true, decide_eq_true_eq, decide_eq_true_eq] at hn
      have hc : a = 200 ∨ a = 201 ∨ a = 202 ∨ a = 203 ∨ a = 204 ∨ a = 205 ∨ a = 206 ∨ a = 207 ∨ a = 208 ∨ a = 209 ∨ a = 210 ∨ a = 211 ∨ a = 212 ∨ a = 213 ∨ a = 214 ∨ a = 215 ∨ a = 216 ∨ a = 217 ∨ a = 218 ∨ a = 219 ∨ a = 220 ∨ a = 221 ∨ a = 222 ∨ a = 223 ∨ a = 224 ∨ a = 225 := by omega
      rcases hc with rfl | rfl | rfl | rfl | rfl | rfl | rfl | rfl | rfl | rfl | rfl | rfl | rfl | rfl | rfl | rfl | rfl | rfl | rfl | rfl | rfl | rfl | rfl | rfl | rfl | rfl
      all_goals
        simp (disch := first | exact am_nl_i _ | exact am_nl_r _ | exact am_nl_0 | (refine vi_nI ?_ ?_ <;> omega) | assumption | omega | exact b2i_01 _ | exact Or.inl rfl | exact Or.inr rfl | (unfold vi; decide)) only [ex_177_0, ex_177_1, ex_177_4, ex_177_5, ex_177_8, ex_177_9, ex_177_10, ex_177_11, ex_177_14, ex_177_17, ex_177_18, ex_177_21, ex_177_22, ex_177_25, ex_177_28, ex_177_29, ex_177_32, ex_177_33, ex_177_36, ex_177_39, ex_177_40, ex_177_43, ex_177_44, ex_177_47, ex_177_50, ex_177_51, ex_177_54, ex_177_55, ex_177_58, ex_177_61, ex_177_62, ex_177_65, ex_177_66, ex_177_69, ex_177_72, ex_177_73, ex_177_76, ex_177_77, ex_177_80, ex_177_83, ex_177_84, ex_177_87, ex_177_88, ex_177_91, ex_177_94, ex_177_95, ex_177_98, ex_177_99, ex_177_102, ex_177_105, ex_177_106, ex_177_109, ex_177_110, ex_177_113, ex_177_116, ex_177_117, ex_177_120, ex_177_121, ex_177_124, ex_177_127, ex_177_128, ex_177_131, ex_177_132, ex_177_135, ex_177_138, ex_177_139, ex_177_142, ex_177_143, ex_177_146, ex_177_149, ex_177_150, ex_177_153, ex_177_154, ex_177_157, ex_177_160, ex_177_161, ex_177_164, ex_177_165, ex_177_168, ex_177_171, ex_177_172, ex_177_175, ex_177_176, ex_177_179, ex_177_182, ex_177_183, ex_177_186, ex_177_187, ex_177_190, ex_177_193, ex_177_194, ex_177_197, ex_177_198, ex_177_201, ex_177_204, ex_177_205, ex_177_208, ex_177_209, ex_177_212, ex_177_215, ex_177_216, ex_177_219, ex_177_220, ex_177_223, ex_177_226, ex_177_227, ex_177_230, ex_177_231, ex_177_234, ex_177_237, ex_177_238, ex_177_241, ex_177_242, ex_177_245, ex_177_248, ex_177_249, ex_177_252, ex_177_253, ex_177_256, ex_177_259, ex_177_260, ex_177_263, ex_177_264, ex_177_267, ex_177_270, ex_177_271, ex_177_274, ex_177_275, ex_177_278, ex_177_281, ex_177_282, ex_177_285, ex_177_286, ex_177_289, ex_177_292, ex_177_293, ex_177_296, ex_177_297, ex_177_300, ex_177_301, if_true, if_false, and_self, Option.toList_some, Option.toList_none, List.singleton_append, List.cons_append, List.nil_append, List.append_nil, nI_1, nt_e, Int32.le_refl, h1', e1, lg_cmp_eq, x0, x1, x2, x3, x4, x5, x6, x7, x8, x9, x10, x11, x12, x13, x14, x15, x16, x17, x18, x19, x20, x21, x22, x23, x24, x25, Nat.reduceAdd, Nat.reduceEqDiff, eq_self, Bool.true_eq_false, Bool.false_eq_true, ↓reduceIte]
        exact Iff.rfl
  · have hn : nmB (csort t) = false := by
      cases q : nmB (csort t)
      · rfl
      · exact absurd (nmB_w ht q) e1
    rw [hn]
    simp (disch := first | exact am_nl_i _ | exact am_nl_r _ | exact am_nl_0 | (refine vi_nI ?_ ?_ <;> omega) | assumption | omega | exact b2i_01 _ | exact Or.inl rfl | exact Or.inr rfl | (unfold vi; decide)) only [ex_177_0, ex_177_1, ex_177_4, ex_177_5, ex_177_8, ex_177_9, ex_177_10, ex_177_11, ex_177_14, ex_177_17, ex_177_18, ex_177_21, ex_177_22, ex_177_25, ex_177_28, ex_177_29, ex_177_32, ex_177_33, ex_177_36, ex_177_39, ex_177_40, ex_177_43, ex_177_44, ex_177_47, ex_177_50, ex_177_51, ex_177_54, ex_177_55, ex_177_58, ex_177_61, ex_177_62, ex_177_65, ex_177_66, ex_177_69, ex_177_72, ex_177_73, ex_177_76, ex_177_77, ex_177_80, ex_177_83, ex_177_84, ex_177_87, ex_177_88, ex_177_91, ex_177_94, ex_177_95, ex_177_98, ex_177_99, ex_177_102, ex_177_105, ex_177_106, ex_177_109, ex_177_110, ex_177_113, ex_177_116, ex_177_117, ex_177_120, ex_177_121, ex_177_124, ex_177_127, ex_177_128, ex_177_131, ex_177_132, ex_177_135, ex_177_138, ex_177_139, ex_177_142, ex_177_143, ex_177_146, ex_177_149, ex_177_150, ex_177_153, ex_177_154, ex_177_157, ex_177_160, ex_177_161, ex_177_164, ex_177_165, ex_177_168, ex_177_171, ex_177_172, ex_177_175, ex_177_176, ex_177_179, ex_177_182, ex_177_183, ex_177_186, ex_177_187, ex_177_190, ex_177_193, ex_177_194, ex_177_197, ex_177_198, ex_177_201, ex_177_204, ex_177_205, ex_177_208, ex_177_209, ex_177_212, ex_177_215, ex_177_216, ex_177_219, ex_177_220, ex_177_223, ex_177_226, ex_177_227, ex_177_230, ex_177_231, ex_177_234, ex_177_237, ex_177_238, ex_177_241, ex_177_242, ex_177_245, ex_177_248, ex_177_249, ex_177_252, ex_177_253, ex_177_256, ex_177_259, ex_177_260, ex_177_263, ex_177_264, ex_177_267, ex_177_270, ex_177_271, ex_177_274, ex_177_275, ex_177_278, ex_177_281, ex_177_282, ex_177_285, ex_177_286, ex_177_289, ex_177_292, ex_177_293, ex_177_296, ex_177_297, ex_177_300, ex_177_301, if_true, if_false, and_self, Option.toList_some, Option.toList_none, List.singleton_append, List.cons_append, List.nil_append, List.append_nil, nI_1, nt_e, Int32.le_refl, h1', e1, Bool.true_eq_false, Bool.false_eq_true, ↓reduceIte]
    exact Iff.rfl
end RefTok
