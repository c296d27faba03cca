/-! A HISTORY: what is read is sound -/
section Hist
variable {n m i j : Nat} {f : Nat → Nat} {v : LV} {h : HL}
theorem lkR_go {k : Nat} {want : Bool} {o : Option Nat} (hE : EndAt n f m) (hi : i ≤ m) (q : lkR v k want (tk n f) i = .ok (o, j)) : i ≤ j ∧ j ≤ m ∧ (want = true → ∃ p, p < v.1 k ∧ o = some p) := by
  unfold lkR at q
  cases want
  · simp only [Bool.false_eq_true, if_false] at q
    cases q
    exact ⟨Nat.le_refl _, hi, fun z => by cases z⟩
  · simp only [if_true] at q
    cases z : lookR v k (tk n f i) with
    | error e => rw [z] at q; cases q
    | ok p =>
      rw [z] at q
      cases q
      have h1 := lookN_nm z
      have h2 : i < m := end_lt hE (fun y => by
        have := (cs_0 (tk_ok i)).mp y
        rw [this] at h1
        exact absurd h1 (by decide))
      exact ⟨by omega, by omega, fun _ => ⟨p, lookR_lt z, rfl⟩⟩
theorem lineR_go {full : Bool} {x : LN} (hE : EndAt n f m) (hi : i ≤ m) (q : lineR v full (tk n f) i = .ok (x, j)) : full = false ∧ i < j ∧ j ≤ m ∧ x.1 < 5 ∧ (x.1 = 0 ∨ x.1 = 1 ∨ x.1 = 3 → ∃ p, p < nE v ∧ x.2.1 = some p) ∧ (x.1 = 1 → ∃ p, p < nE v ∧ x.2.2.1 = some p) ∧ (x.1 < 3 → ∃ p, p < nP v ∧ x.2.2.2 = some p) := by
  unfold lineR at q
  cases za : actN (csort (tk n f i)) with
  | none => rw [za] at q; cases q
  | some a =>
    rw [za] at q
    dsimp only at q
    obtain ⟨a5, a3, _⟩ := actN_lt za
    have him : i < m := end_lt hE (fun y => a3 ((cs_0 (tk_ok i)).mp y))
    cases full
    · simp only [Bool.false_eq_true, if_false] at q
      cases z1 : lkR v 2 (decide (a = 0 ∨ a = 1 ∨ a = 3)) (tk n f) (i + 1) with
      | error e => rw [z1] at q; cases q
      | ok p =>
        rw [z1] at q
        dsimp only at q
        cases z2 : lkR v 2 (decide (a = 1)) (tk n f) p.2 with
        | error e => rw [z2] at q; cases q
        | ok r =>
          rw [z2] at q
          dsimp only at q
          cases z3 : lkR v 1 (decide (a < 3)) (tk n f) r.2 with
          | error e => rw [z3] at q; cases q
          | ok s =>
            rw [z3] at q
            dsimp only at q
            obtain ⟨b1, b2, b3⟩ := lkR_go hE (by omega) z1
            obtain ⟨c1, c2, c3⟩ := lkR_go hE b2 z2
            obtain ⟨d1, d2, d3⟩ := lkR_go hE c2 z3
            cases z4 : wordR 59 (tk n f) s.2 with
            | error e => rw [z4] at q; cases q
            | ok j' =>
              rw [z4] at q
              cases q
              unfold wordR at z4
              by_cases z5 : csort (tk n f s.2) = 59
              · rw [if_pos z5] at z4
                cases z4
                have := lt_cs hE z5 (by decide)
                exact ⟨rfl, by omega, by omega, a5, fun y => b3 (decide_eq_true y), fun y => c3 (decide_eq_true y), fun y => d3 (decide_eq_true y)⟩
              · rw [if_neg z5] at z4; cases z4
    · simp only [if_true] at q; cases q
theorem WH_add {full : Bool} {x : LN} (hE : EndAt n f m) (hi : i ≤ m) (hf : full = decide (24 ≤ h.1)) (q : lineR v full (tk n f) i = .ok (x, j)) (hh : WH v h) : WH v (addLn h x) := by
  obtain ⟨g1, g2, g3, g4, g5, g6, g7⟩ := lineR_go hE hi q
  have h24 : ¬ 24 ≤ h.1 := of_decide_eq_false (hf ▸ g1)
  refine ⟨by show h.1 + 1 ≤ 24; omega, fun k hk => ?_⟩
  have hk : k < h.1 + 1 := hk
  by_cases e : k = h.1
  · have g : ∀ c, (addLn h x).2 k c = if c = 0 then nI x.1 else if c = 1 then oI x.2.1 else if c = 2 then oI x.2.2.1 else oI x.2.2.2 := fun c => by unfold addLn; dsimp only; rw [if_pos e]
    refine ⟨x.1, by omega, g 0, fun y => ?_, fun y => ?_, fun y => ?_⟩
    · obtain ⟨p, p1, p2⟩ := g5 y
      exact ⟨p, p1, by rw [g 1, p2]; rfl⟩
    · obtain ⟨p, p1, p2⟩ := g6 y
      exact ⟨p, p1, by rw [g 2, p2]; rfl⟩
    · obtain ⟨p, p1, p2⟩ := g7 (by omega)
      exact ⟨p, p1, by rw [g 3, p2]; rfl⟩
  · have g : ∀ c, (addLn h x).2 k c = h.2 k c := fun c => by unfold addLn; dsimp only; rw [if_neg e]
    rw [g 0, g 1, g 2, g 3]
    exact hh.2 k (by omega)
theorem hist_wh (hE : EndAt n f m) : ∀ (g i : Nat) (h h' : HL), i ≤ m → histS v (tk n f) g h i = .ok h' → WH v h → WH v h'
  | 0, i, h, h', _, q, hh => by cases q; exact hh
  | g + 1, i, h, h', hi, q, hh => by
    rw [histS] at q
    by_cases c : csort (tk n f i) = 3
    · rw [if_pos c] at q; cases q; exact hh
    · rw [if_neg c] at q
      cases z : lineR v (decide (24 ≤ h.1)) (tk n f) i with
      | error e => rw [z] at q; cases q
      | ok p =>
        rw [z] at q
        exact hist_wh hE g p.2 _ h' (lineR_go hE hi z).2.2.1 q (WH_add hE hi rfl z hh)
end Hist
def historyS (S : ST) (f : Nat → Nat) : ST × Int32 := match histS S.1 (tk S.2.2.2.2.1 f) 1000 (0, fun _ _ => 0) 0 with
  | .error e => (withT S (0, fun _ => 0), nI e)
  | .ok h => (withT (S.1, (S.2.1.1, h, S.2.1.2.2), S.2.2) (0, fun _ => 0), 0)
theorem WS_history {S : ST} {f : Nat → Nat} {m : Nat} (hW : WS S) (hE : EndAt S.2.2.2.2.1 f m) : WS (historyS S f).1 := by
  obtain ⟨h1, h2, h3, h4, h5, h6⟩ := hW
  unfold historyS
  cases z : histS S.1 (tk S.2.2.2.2.1 f) 1000 (0, fun _ _ => 0) 0 with
  | error e => exact ⟨h1, h2, h3, h4, Nat.zero_le _, fun j hj => absurd hj (Nat.not_lt_zero j)⟩
  | ok h => exact ⟨h1, ⟨h2.1, hist_wh hE 1000 0 _ h (Nat.zero_le _) z ⟨Nat.zero_le _, fun j hj => absurd hj (Nat.not_lt_zero j)⟩, h2.2.2⟩, h3, h4, Nat.zero_le _, fun j hj => absurd hj (Nat.not_lt_zero j)⟩
/-! HISTORY, of the reference -/
def hsR (a : Nat) : Prop := a = 203 ∨ a = 236 ∨ a = 237
section HistR
variable {d n m : Nat} {u : am_U} {S : ST} {f : Nat → Nat} {h : HL} {post : Option Value → am_M → Prop}
theorem hs_inv {u' : am_U} (hI : InvR u S) (hW : WS S) (ho : Only hsR u u') (e1 : ∀ k, ¬ k = 5 → AI u' 236 k = AI u 236 k) (e2 : ∀ k, k < 480 → AI u' 237 k = AI u 237 k) (e3 : FI u' 203 55 = FI u 203 55) (e4 : FI u' 203 1 = 0) : InvR u' (withT S (0, fun _ => 0)) := by
  obtain ⟨h1, h2, h3, h4, h5, h6⟩ := hI
  have k := fun a (ha : ¬ hsR a) => (ho a ha).2.2.2.1
  have ln : ∀ o (g : HL), o ≤ 4 → g.1 ≤ 24 → LinesR u o g → LinesR u' o g := fun o g ho hg hl => LinesR_map hg hl (e1 o (by omega)) (fun k hk => e2 _ (by omega))
  have w24 := hW.2.1.2.1.1
  refine ⟨h1.keep ho (fun a q1 q2 => by unfold hsR; omega), h2.keep ho (fun a q1 q2 => by unfold hsR; omega), ⟨h3.1.keep ho (by unfold hsR; omega), ln 0 _ (by decide) w24 h3.2.1, ?_⟩, ?_, fun c hc => ?_, ⟨e4, fun j hj => absurd hj (Nat.not_lt_zero j)⟩⟩
  · unfold ToldR
    rw [k 238 (by unfold hsR; omega), k 239 (by unfold hsR; omega), k 240 (by unfold hsR; omega)]
    exact h3.2.2
  · unfold PastR
    rw [e3, k 244 (by unfold hsR; omega)]
    exact h4
  · obtain ⟨a, b⟩ := h5 c hc
    refine ⟨by rw [k 245 (by unfold hsR; omega)]; exact a, fun s hs => ?_⟩
    obtain ⟨b1, b2, b3⟩ := b s hs
    refine ⟨by rw [k 243 (by unfold hsR; omega)]; exact b1, ln (1 + c) _ (by omega) (hW.2.2.2.1 c s hs).2.1.1 b2, ?_⟩
    unfold ToldR
    rw [k 238 (by unfold hsR; omega), k 239 (by unfold hsR; omega), k 240 (by unfold hsR; omega)]
    exact b3
theorem R_history (hI : InvR u S) (hN : NamesR u 0 S.1) (hW : WS S) (hf : ∀ j, j < S.2.2.2.2.1 → S.2.2.2.2.2 j = nI (f j) ∧ f j ≤ 126) (hE : EndAt S.2.2.2.2.1 f m)
    (h : ∀ u', Only hsR u u' → InvR u' (historyS S f).1 → post (some (.int (historyS S f).2)) (am_emb u')) : Cl (d + 5) 208 [.ref 203] (am_emb u) post := by
  have hI1 : InvR (th u 0) S := th_inv hI
  have hN1 : NamesR (th u 0) 0 S.1 := hN
  have o0 : Only hsR u (th u 0) := Only.sFI (Or.inl rfl)
  have hn := hW.2.2.2.2.1
  unfold historyS at h
  rw [op_208]
  simp (disch := first | exact am_nl_i _ | exact am_nl_r _ | exact am_nl_0 | (refine vi_nI ?_ ?_ <;> omega) | assumption | omega | exact b2i_01 _ | exact Or.inl rfl | exact Or.inr rfl | (unfold vi; decide)) only [ex_208_0, ex_208_1, ex_208_2, ex_208_5, ex_208_6, ex_208_9, ex_208_10, ex_208_11, ex_208_12, ex_208_16, ex_208_17, ex_208_20, ex_208_23, ex_208_24, ex_208_27, ex_208_30, ex_208_31, ex_208_34, ex_208_35, ex_208_36, ex_208_37, ex_208_38, ex_208_41, ex_208_42, if_true, if_false, and_self, Option.toList_some, Option.toList_none, List.singleton_append, List.cons_append, List.nil_append, List.append_nil, nI_1, nt_e, Int32.le_refl, th_e, show (5 : Int32).toNatClampNeg = 5 from rfl, Bool.true_eq_false, Bool.false_eq_true, ↓reduceIte]
  generalize th u 0 = u0 at *
  have a1 : Only hsR u0 (sAI u0 236 (upd (AI u0 236) 5 0)) := Only.sAI (Or.inr (Or.inl rfl))
  have a2 : AI (sAI u0 236 (upd (AI u0 236) 5 0)) 236 5 = 0 := by rw [AI_sAI, if_pos rfl, upd_s]
  have a3 : ∀ k, ¬ k = 5 → AI (sAI u0 236 (upd (AI u0 236) 5 0)) 236 k = AI u0 236 k := fun k hk => by rw [AI_sAI, if_pos rfl, upd_n hk]
  have a4 : AI (sAI u0 236 (upd (AI u0 236) 5 0)) 237 = AI u0 237 := by rw [AI_sAI, if_neg (by decide)]
  have a5 : FI (sAI u0 236 (upd (AI u0 236) 5 0)) 203 = FI u0 203 := rfl
  generalize sAI u0 236 (upd (AI u0 236) 5 0) = u1 at *
  have tp := hI1.2.2.2.2.2
  have nh : ∀ a, ¬ a = 203 → ¬ a = 236 → ¬ a = 237 → ¬ hsR a := fun a x y z q => by unfold hsR at q; omega
  rw [ex_208_13]
  refine starts_ok (d := d + 2) (n := S.2.2.2.2.1) (f := f) (by rw [a5]; exact tp.1) (fun j hj => by rw [(a1 204 (nh _ (by decide) (by decide) (by decide))).2.2.2.1, tp.2 j hj]; exact (hf j hj).1) hn (fun j hj => (hf j hj).2) (fun u2 o2 S2 f2 k2 g2 m2 => ?_)
  have a26 : FI u2 203 55 = FI u0 203 55 := by rw [o2.2.2.2.1 55 (by unfold ffP; omega) (by decide) (by decide), a5]
  have o02 : Only hsR u0 u2 := a1.tr (m2.wk (fun a q => Or.inl q))
  have hLR := hI1.1
  obtain ⟨⟨_, l1, l2, _⟩, _⟩ := hLR
  have B2 : BkL u2 S.1 := ⟨by rw [(o02 205 (nh _ (by decide) (by decide) (by decide))).2.2.2.1]; exact l1, by rw [(o02 205 (nh _ (by decide) (by decide) (by decide))).2.2.2.1]; exact l2, hN1.keep o02 ⟨nh _ (by decide) (by decide) (by decide), nh _ (by decide) (by decide) (by decide), nh _ (by decide) (by decide) (by decide), nh _ (by decide) (by decide) (by decide)⟩, hW.1.1.2.1, hW.1.1.2.2.1⟩
  have L2 : LinesR u2 5 (0, fun _ _ => 0) := ⟨by rw [(k2 236 (by decide)).1, a2]; rfl, fun j hj => absurd hj (Nat.not_lt_zero j)⟩
  generalize hLR : histS S.1 (tk S.2.2.2.2.1 f) 1000 (0, fun _ _ => 0) 0 = LR at h
  have fin : ∀ u3, LnO u2 u3 → InvR u3 (withT S (0, fun _ => 0)) := fun u3 o3 => hs_inv hI1 hW (o02.tr (o3.1.wk (fun a q => q))) (fun k hk => by rw [o3.2.1 k hk, (k2 236 (by decide)).1, a3 k hk]) (fun k hk => by rw [o3.2.2.1 k hk, (k2 237 (by decide)).1, a4]) (by rw [o3.2.2.2.1 55 (by decide) (by decide) (by decide) (by decide) (by decide) (by decide), a26]) (by rw [o3.2.2.2.1 1 (by decide) (by decide) (by decide) (by decide) (by decide) (by decide)]; exact f2)
  -- the end: what was read is now's
  have done : ∀ (g : HL) (u3 : am_U), LR = .ok g → WH S.1 g → LnO u2 u3 → LinesR u3 5 g → Ex (d + 5) 208 35 [some (.ref 203)] [] (am_emb u3) post := fun g u3 he hg o3 l3 => by
    rw [he] at h
    simp (disch := first | exact am_nl_i _ | exact am_nl_r _ | exact am_nl_0 | (refine vi_nI ?_ ?_ <;> omega) | assumption | omega | exact b2i_01 _ | exact Or.inl rfl | exact Or.inr rfl | (unfold vi; decide)) only [ex_208_0, ex_208_1, ex_208_2, ex_208_5, ex_208_6, ex_208_9, ex_208_10, ex_208_11, ex_208_12, ex_208_13, ex_208_16, ex_208_17, ex_208_20, ex_208_23, ex_208_24, ex_208_27, ex_208_30, ex_208_31, ex_208_34, ex_208_35, ex_208_36, ex_208_37, ex_208_41, ex_208_42, if_true, if_false, and_self, Option.toList_some, Option.toList_none, List.singleton_append, List.cons_append, List.nil_append, List.append_nil, nI_1, nt_e, Int32.le_refl, Bool.true_eq_false, Bool.false_eq_true, ↓reduceIte]
    rw [ex_208_38]
    refine laysPast_ok (x := 5) (y := 0) (by decide) (by decide) (by decide) (fun u4 o4 g1 g2 => ?_)
    have i3 := fin u3 o3
    have o34 : Only hsR u3 u4 := o4.wk (fun a q => Or.inr q)
    have i4 : InvR u4 (withT (S.1, (S.2.1.1, g, S.2.1.2.2), S.2.2) (0, fun _ => 0)) := by
      obtain ⟨h1, h2, h3, h4, h5, h6⟩ := i3
      have k := fun a (ha : ¬ hsR a) => (o34 a ha).2.2.2.1
      have kf : FI u4 203 = FI u3 203 := (o4 203 (by unfold lpR; omega)).1
      refine ⟨h1.keep o34 (fun a q1 q2 => by unfold hsR; omega), h2.keep o34 (fun a q1 q2 => by unfold hsR; omega), ⟨h3.1.keep o34 (by unfold hsR; omega), ?_, ?_⟩, ?_, fun c hc => ?_, ⟨by rw [kf]; exact h6.1, fun j hj => absurd hj (Nat.not_lt_zero j)⟩⟩
      · refine LinesR_map hg.1 l3 (by rw [g1, if_pos rfl]) (fun k hk => ?_)
        rw [g2, if_pos (by omega)]
        congr 1
        omega
      · unfold ToldR
        rw [k 238 (by unfold hsR; omega), k 239 (by unfold hsR; omega), k 240 (by unfold hsR; omega)]
        exact h3.2.2
      · unfold PastR
        rw [kf, k 244 (by unfold hsR; omega)]
        exact h4
      · obtain ⟨a, b⟩ := h5 c hc
        refine ⟨by rw [k 245 (by unfold hsR; omega)]; exact a, fun s hs => ?_⟩
        obtain ⟨b1, b2, b3⟩ := b s hs
        refine ⟨by rw [k 243 (by unfold hsR; omega)]; exact b1, LinesR_map (hW.2.2.2.1 c s hs).2.1.1 b2 (by rw [g1, if_neg (by omega)]) (fun k hk => by rw [g2, if_neg (by omega)]), ?_⟩
        unfold ToldR
        rw [k 238 (by unfold hsR; omega), k 239 (by unfold hsR; omega), k 240 (by unfold hsR; omega)]
        exact b3
    have hfin := h u4 (o0.tr (o02.tr ((o3.1.wk (fun a q => q)).tr o34))) i4
    simp (disch := first | exact am_nl_i _ | exact am_nl_r _ | exact am_nl_0 | (refine vi_nI ?_ ?_ <;> omega) | assumption | omega | exact b2i_01 _ | exact Or.inl rfl | exact Or.inr rfl | (unfold vi; decide)) only [ex_208_0, ex_208_1, ex_208_2, ex_208_5, ex_208_6, ex_208_9, ex_208_10, ex_208_11, ex_208_12, ex_208_13, ex_208_16, ex_208_17, ex_208_20, ex_208_23, ex_208_24, ex_208_27, ex_208_30, ex_208_31, ex_208_34, ex_208_35, ex_208_36, ex_208_37, ex_208_38, ex_208_41, ex_208_42, if_true, if_false, and_self, Option.toList_some, Option.toList_none, List.singleton_append, List.cons_append, List.nil_append, List.append_nil, nI_1, nt_e, Int32.le_refl, Bool.true_eq_false, Bool.false_eq_true, ↓reduceIte]
    exact hfin
  have loop : ∀ (g k i : Nat) (h0 : HL) (u3 : am_U), k + g = 1000 → k ≤ i → i ≤ m → LnO u2 u3 → RSt u3 S.2.2.2.2.1 f i → BkL u3 S.1 → LinesR u3 5 h0 → WH S.1 h0 → LR = histS S.1 (tk S.2.2.2.2.1 f) g h0 i → Ex (d + 5) 208 16 [some (.ref 203)] [] (am_emb u3) post := by
    have hm1 : m ≤ 1000 := Nat.le_trans hE.1 hn
    intro g
    induction g with
    | zero =>
      intro k i h0 u3 hk hki him o3 S3 B3 L3 W3 he
      have hmi : i = m := by omega
      have ht0 : FI u3 203 6 = 0 := (rtok_e S3.2 (tk_ok i) (k := 0) (by decide)).mpr (by rw [hmi]; exact hE.2.1)
      rw [ex_208_16]
      simp (disch := first | exact am_nl_i _ | exact am_nl_r _ | exact am_nl_0 | (refine vi_nI ?_ ?_ <;> omega) | assumption | omega | exact b2i_01 _ | exact Or.inl rfl | exact Or.inr rfl | (unfold vi; decide)) only [ex_208_0, ex_208_1, ex_208_2, ex_208_5, ex_208_6, ex_208_9, ex_208_10, ex_208_11, ex_208_12, ex_208_13, ex_208_17, ex_208_20, ex_208_23, ex_208_24, ex_208_27, ex_208_30, ex_208_31, ex_208_34, ex_208_36, ex_208_37, ex_208_38, ex_208_41, ex_208_42, if_true, if_false, and_self, Option.toList_some, Option.toList_none, List.singleton_append, List.cons_append, List.nil_append, List.append_nil, nI_1, nt_e, Int32.le_refl, ht0, Bool.true_eq_false, Bool.false_eq_true, ↓reduceIte]
      exact done h0 u3 (by rw [he]; rfl) W3 o3 L3
    | succ g ih =>
      intro k i h0 u3 hk hki him o3 S3 B3 L3 W3 he
      have ht := tk_ok (n := S.2.2.2.2.1) (f := f) i
      have ht0 : FI u3 203 6 = 0 ↔ (tk S.2.2.2.2.1 f i).1 = 0 := rtok_e S3.2 ht (k := 0) (by decide)
      rw [cs_0 ht] at ht0
      rw [histS] at he
      rw [ex_208_16]
      by_cases c : csort (tk S.2.2.2.2.1 f i) = 3
      · rw [if_pos c] at he
        simp (disch := first | exact am_nl_i _ | exact am_nl_r _ | exact am_nl_0 | (refine vi_nI ?_ ?_ <;> omega) | assumption | omega | exact b2i_01 _ | exact Or.inl rfl | exact Or.inr rfl | (unfold vi; decide)) only [ex_208_0, ex_208_1, ex_208_2, ex_208_5, ex_208_6, ex_208_9, ex_208_10, ex_208_11, ex_208_12, ex_208_13, ex_208_17, ex_208_20, ex_208_23, ex_208_24, ex_208_27, ex_208_30, ex_208_31, ex_208_34, ex_208_36, ex_208_37, ex_208_38, ex_208_41, ex_208_42, if_true, if_false, and_self, Option.toList_some, Option.toList_none, List.singleton_append, List.cons_append, List.nil_append, List.append_nil, nI_1, nt_e, Int32.le_refl, ht0, c, Bool.true_eq_false, Bool.false_eq_true, ↓reduceIte]
        exact done h0 u3 he W3 o3 L3
      · rw [if_neg c] at he
        simp (disch := first | exact am_nl_i _ | exact am_nl_r _ | exact am_nl_0 | (refine vi_nI ?_ ?_ <;> omega) | assumption | omega | exact b2i_01 _ | exact Or.inl rfl | exact Or.inr rfl | (unfold vi; decide)) only [ex_208_0, ex_208_1, ex_208_2, ex_208_5, ex_208_6, ex_208_9, ex_208_10, ex_208_11, ex_208_12, ex_208_13, ex_208_17, ex_208_20, ex_208_23, ex_208_27, ex_208_30, ex_208_31, ex_208_34, ex_208_35, ex_208_36, ex_208_37, ex_208_38, ex_208_41, ex_208_42, if_true, if_false, and_self, Option.toList_some, Option.toList_none, List.singleton_append, List.cons_append, List.nil_append, List.append_nil, nI_1, nt_e, Int32.le_refl, ht0, c, Bool.true_eq_false, Bool.false_eq_true, ↓reduceIte]
        rw [ex_208_24]
        refine readsLine_ok (d := d) S3 B3 L3 W3.1 (fun e u4 z o4 w => ?_) (fun x j u4 z o4 S4 hlt hij L4 => ?_)
        · rw [he, z] at h
          have o24 := o3.tr o4
          have hfin := h u4 (o0.tr (o02.tr (o24.1.wk (fun a q => q)))) (fin u4 o24)
          simp (disch := first | exact am_nl_i _ | exact am_nl_r _ | exact am_nl_0 | (refine vi_nI ?_ ?_ <;> omega) | assumption | omega | exact b2i_01 _ | exact Or.inl rfl | exact Or.inr rfl | (unfold vi; decide)) only [ex_208_0, ex_208_1, ex_208_2, ex_208_5, ex_208_6, ex_208_9, ex_208_10, ex_208_11, ex_208_12, ex_208_13, ex_208_17, ex_208_20, ex_208_23, ex_208_24, ex_208_27, ex_208_30, ex_208_31, ex_208_34, ex_208_35, ex_208_36, ex_208_37, ex_208_38, ex_208_41, ex_208_42, if_true, if_false, and_self, Option.toList_some, Option.toList_none, List.singleton_append, List.cons_append, List.nil_append, List.append_nil, nI_1, nt_e, Int32.le_refl, w, Bool.true_eq_false, Bool.false_eq_true, ↓reduceIte]
          exact hfin
        · rw [z] at he
          simp (disch := first | exact am_nl_i _ | exact am_nl_r _ | exact am_nl_0 | (refine vi_nI ?_ ?_ <;> omega) | assumption | omega | exact b2i_01 _ | exact Or.inl rfl | exact Or.inr rfl | (unfold vi; decide)) only [ex_208_0, ex_208_1, ex_208_2, ex_208_5, ex_208_6, ex_208_9, ex_208_10, ex_208_11, ex_208_12, ex_208_13, ex_208_17, ex_208_20, ex_208_23, ex_208_24, ex_208_27, ex_208_30, ex_208_31, ex_208_34, ex_208_35, ex_208_36, ex_208_37, ex_208_38, ex_208_41, ex_208_42, if_true, if_false, and_self, Option.toList_some, Option.toList_none, List.singleton_append, List.cons_append, List.nil_append, List.append_nil, nI_1, nt_e, Int32.le_refl, show ((1 : Int32) = (0 : Int32)) = False from eq_false (by decide), Bool.true_eq_false, Bool.false_eq_true, ↓reduceIte]
          exact ih (k + 1) j (addLn h0 x) u4 (by omega) (by omega) (lineR_go hE him z).2.2.1 (o3.tr o4) S4 (B3.ln o4) L4 (WH_add hE him rfl z W3) he
  try simp (disch := first | exact am_nl_i _ | exact am_nl_r _ | exact am_nl_0 | (refine vi_nI ?_ ?_ <;> omega) | assumption | omega | exact b2i_01 _ | exact Or.inl rfl | exact Or.inr rfl | (unfold vi; decide)) only [ex_208_0, ex_208_1, ex_208_2, ex_208_5, ex_208_6, ex_208_9, ex_208_10, ex_208_11, ex_208_12, ex_208_13, ex_208_17, ex_208_20, ex_208_23, ex_208_24, ex_208_27, ex_208_30, ex_208_31, ex_208_34, ex_208_35, ex_208_36, ex_208_37, ex_208_38, ex_208_41, ex_208_42, if_true, if_false, and_self, Option.toList_some, Option.toList_none, List.singleton_append, List.cons_append, List.nil_append, List.append_nil, nI_1, nt_e, Int32.le_refl, Bool.true_eq_false, Bool.false_eq_true, ↓reduceIte]
  exact loop 1000 0 0 _ u2 rfl (Nat.le_refl _) (Nat.zero_le _) (LnO.rf u2) S2 B2 L2 ⟨Nat.zero_le _, fun j hj => absurd hj (Nat.not_lt_zero j)⟩ hLR.symm
end HistR
