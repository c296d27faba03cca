/-! THE STATE, and what each side holds of it -/
/-- a formula's postfix steps, worked on a stack: as the class does it -/
def joinP (s a b : Int32) : Int32 := if s = 4 then b2i (!decide (a = 0) && !decide (b = 0)) else if s = 5 then b2i (!decide (a = 0) || !decide (b = 0)) else if s = 6 then b2i (decide (a < b)) else if s = 7 then b2i (decide (a = b)) else if s = 8 then a + b else if s = 9 then a - b else a * b
def stepP (h o : Int32) (w : Int32) (q : (Nat → Int32) × Nat) : (Nat → Int32) × Nat :=
  if w &&& 15 ≤ 2 then (if q.2 < 64 then (upd q.1 q.2 (if w &&& 15 = 0 then w >>> (4 &&& 31) else if w &&& 15 = 1 then h else o), q.2 + 1) else q)
  else if w &&& 15 = 3 then (if 1 ≤ q.2 ∧ q.2 ≤ 64 then (upd q.1 (q.2 - 1) (b2i (decide (q.1 (q.2 - 1) = 0))), q.2) else q)
  else if 2 ≤ q.2 ∧ q.2 ≤ 64 then (upd q.1 (q.2 - 2) (joinP (w &&& 15) (q.1 (q.2 - 2)) (q.1 (q.2 - 1))), q.2 - 1) else q
def runP (st : Nat → Int32) (h o : Int32) (k0 : Nat → Int32) : Nat → (Nat → Int32) × Nat
  | 0 => (k0, 0)
  | n + 1 => stepP h o (st n) (runP st h o k0 n)
def evalP (st : Nat → Int32) (n : Nat) (h o : Int32) (k0 : Nat → Int32) : Int32 := if 1 ≤ (runP st h o k0 n).2 then (runP st h o k0 n).1 0 else 0
def FmC (u : am_U) (f : Nat) (law : Int32 → Int32 → Int32) : Prop := ∃ n : Nat, n ≤ 1000 ∧ FI u f 2 = nI n ∧ ∀ h o k0, evalP (AI u (f + 1)) n h o k0 = law h o
/-- a history: how many lines, of each the act (0 eats, 1 bites, 2 copied, 3 died, 4 night), who, whom, the page -/
abbrev HL : Type := Nat × (Nat → Nat → Int32)
/-- what is told: how often, of which task, that he can or not -/
abbrev TL : Type := Nat × (Nat → Nat) × (Nat → Bool)
abbrev SN : Type := LF × HL × TL
abbrev ST : Type := LV × SN × (Nat × (Nat → LF)) × (Nat → Option SN) × (Nat × (Nat → Int32))
def tokOf (a : Int32) : Int32 := if a = 0 then 220 else if a = 1 then 215 else if a = 2 then 214 else if a = 3 then 221 else 222
def WH (v : LV) (h : HL) : Prop := h.1 ≤ 24 ∧ ∀ j, j < h.1 → ∃ a : Nat, a ≤ 4 ∧ h.2 j 0 = nI a ∧ (a = 0 ∨ a = 1 ∨ a = 3 → ∃ p, p < nE v ∧ h.2 j 1 = nI p) ∧ (a = 1 → ∃ p, p < nE v ∧ h.2 j 2 = nI p) ∧ (a ≤ 2 → ∃ k, k < nP v ∧ h.2 j 3 = nI k)
def WT (v : LV) (t : TL) : Prop := t.1 ≤ 12 ∧ ∀ k, k < t.1 → t.2.1 k < nT v
def WSN (v : LV) (s : SN) : Prop := WL v s.1 ∧ WH v s.2.1 ∧ WT v s.2.2
def WS (S : ST) : Prop := WF S.1 ∧ WSN S.1 S.2.1 ∧ (S.2.2.1.1 ≤ 16 ∧ ∀ j, j < S.2.2.1.1 → WL S.1 (S.2.2.1.2 j)) ∧ (∀ k s, S.2.2.2.1 k = some s → WSN S.1 s) ∧ S.2.2.2.2.1 ≤ 1000 ∧ ∀ j, j < S.2.2.2.2.1 → ∃ c : Nat, c ≤ 126 ∧ S.2.2.2.2.2 j = nI c
def LinesC (u : am_U) (q : Nat) (h : HL) : Prop := FI u q 4 = nI h.1 ∧ ∀ j, j < h.1 → AI u (q + 1) j = tokOf (h.2 j 0) ∧ AI u (q + 2) j = h.2 j 1 ∧ AI u (q + 3) j = h.2 j 2 ∧ AI u (q + 4) j = h.2 j 3
def ToldC (u : am_U) (z : Nat) (t : TL) : Prop := FI u z 2 = nI t.1 ∧ FI u z 3 = orF t.1 (fun k => if t.2.2 k then bi (t.2.1 k) else 0) ∧ FI u z 4 = orF t.1 (fun k => if t.2.2 k then 0 else bi (t.2.1 k))
def StandC (u : am_U) (z : Nat) (s : SN) : Prop := LifeC u (z + 1) s.1 ∧ LinesC u (z + 5) s.2.1 ∧ ToldC u z s.2.2
def LinesR (u : am_U) (o : Nat) (h : HL) : Prop := AI u 236 o = nI h.1 ∧ ∀ j, j < h.1 → AI u 237 (96 * o + 4 * j) = h.2 j 0 ∧ (h.2 j 0 = 0 ∨ h.2 j 0 = 1 ∨ h.2 j 0 = 3 → AI u 237 (96 * o + 4 * j + 1) = h.2 j 1) ∧ (h.2 j 0 = 1 → AI u 237 (96 * o + 4 * j + 2) = h.2 j 2) ∧ (h.2 j 0 = 0 ∨ h.2 j 0 = 1 ∨ h.2 j 0 = 2 → AI u 237 (96 * o + 4 * j + 3) = h.2 j 3)
def ToldR (u : am_U) (o : Nat) (t : TL) : Prop := AI u 238 o = nI t.1 ∧ ∀ k, k < t.1 → AI u 239 (12 * o + k) = nI (t.2.1 k) ∧ AI u 240 (12 * o + k) = b2i (t.2.2 k)
/-- the reference's codes of a law, worked: to be said below (CodeR) -/
def most4 (u : am_U) (L : Nat) : Prop := FI u (L + 1) 1 = nI 12 ∧ FI u (L + 3) 1 = nI 12 ∧ FI u (L + 5) 1 = nI 6 ∧ FI u (L + 7) 1 = nI 5
def RefsC (u : am_U) (L L' : Nat) : Prop := FR u 0 2 = some L ∧ FR u 0 3 = some L' ∧ ((L = 7 ∧ L' = 33) ∨ (L = 33 ∧ L' = 7)) ∧ (∀ j, j < 16 → AR u 82 j = some (83 + 4 * j)) ∧ (∀ k, k < 4 → AR u 147 k = some (148 + 10 * k)) ∧ most4 u L'
def PastC (u : am_U) (p : Nat × (Nat → LF)) : Prop := ∃ pf : Nat, pf < 16 ∧ FI u 0 9 = nI pf ∧ FI u 0 10 = nI p.1 ∧ ∀ j, j < p.1 → LifeC u (83 + 4 * ((pf + j) % 16)) (p.2 j)
def MarksC (u : am_U) (mk : Nat → Option SN) : Prop := ∀ k, k < 4 → FI u (148 + 10 * k) 5 = b2i (mk k).isSome ∧ ∀ s, mk k = some s → StandC u (148 + 10 * k) s
def TapeC (u : am_U) (t : Nat × (Nat → Int32)) : Prop := FI u 1 4 = nI t.1 ∧ ∀ j, j < t.1 → AI u 2 j = t.2 j
def InvC (u : am_U) (S : ST) (L L' : Nat) : Prop := RefsC u L L' ∧ (LibC u L S.1 ∧ FmC u (L + 20) (lawV S.1 0) ∧ FmC u (L + 23) (lawV S.1 1)) ∧ StandC u 64 S.2.1 ∧ PastC u S.2.2.1 ∧ MarksC u S.2.2.2.1 ∧ TapeC u S.2.2.2.2
def PastR (u : am_U) (v : LV) (p : Nat × (Nat → LF)) : Prop := FI u 203 55 = nI p.1 ∧ ∀ j, j < p.1 → RowR v (AI u 244) (27 * j) (p.2 j)
def MarksR (u : am_U) (v : LV) (mk : Nat → Option SN) : Prop := ∀ k, k < 4 → AI u 245 k = b2i (mk k).isSome ∧ ∀ s, mk k = some s → RowR v (AI u 243) (27 * k) s.1 ∧ LinesR u (1 + k) s.2.1 ∧ ToldR u (1 + k) s.2.2
def TapeR (u : am_U) (t : Nat × (Nat → Int32)) : Prop := FI u 203 1 = nI t.1 ∧ ∀ j, j < t.1 → AI u 204 j = t.2 j
def NowR (u : am_U) (v : LV) (s : SN) : Prop := LifeR u v s.1 ∧ LinesR u 0 s.2.1 ∧ ToldR u 0 s.2.2
theorem LinesC.keep {P : Nat → Prop} {u u' : am_U} {q : Nat} {h : HL} (hh : LinesC u q h) (ho : Only P u u') (hp : ∀ k, k < 5 → ¬ P (q + k)) : LinesC u' q h := by
  have e0 := ho q (hp 0 (by omega))
  have e1 := ho (q + 1) (hp 1 (by omega))
  have e2 := ho (q + 2) (hp 2 (by omega))
  have e3 := ho (q + 3) (hp 3 (by omega))
  have e4 := ho (q + 4) (hp 4 (by omega))
  refine ⟨by rw [e0.1]; exact hh.1, ?_⟩
  rw [e1.2.2.2.1, e2.2.2.2.1, e3.2.2.2.1, e4.2.2.2.1]
  exact hh.2
theorem StandC.keep {P : Nat → Prop} {u u' : am_U} {z : Nat} {s : SN} (h : StandC u z s) (ho : Only P u u') (hp : ∀ k, k < 10 → ¬ P (z + k)) : StandC u' z s := by
  have e0 := ho z (hp 0 (by omega))
  refine ⟨h.1.keep ho (fun k hk => by rw [show z + 1 + k = z + (1 + k) by omega]; exact hp _ (by omega)), h.2.1.keep ho (fun k hk => by rw [show z + 5 + k = z + (5 + k) by omega]; exact hp _ (by omega)), ?_⟩
  unfold ToldC
  rw [e0.1]
  exact h.2.2
theorem FmC.keep {P : Nat → Prop} {u u' : am_U} {f : Nat} {law : Int32 → Int32 → Int32} (h : FmC u f law) (ho : Only P u u') (h0 : ¬ P f) (h1 : ¬ P (f + 1)) : FmC u' f law := by
  unfold FmC
  rw [(ho f h0).1, (ho (f + 1) h1).2.2.2.1]
  exact h
theorem InvC.keep {P : Nat → Prop} {u u' : am_U} {S : ST} {L L' : Nat} (h : InvC u S L L') (ho : Only P u u') (hp : ∀ a, a < 203 → ¬ P a) (hpm : S.2.2.1.1 ≤ 16) : InvC u' S L L' := by
  obtain ⟨⟨r1, r2, r3, r4, r5, r6⟩, ⟨l1, l2, l3⟩, st, ⟨pf, p1, p2, p3, p4⟩, mk, tp⟩ := h
  have e := fun a ha => ho a (hp a ha)
  refine ⟨⟨by rw [(e 0 (by omega)).2.2.1]; exact r1, by rw [(e 0 (by omega)).2.2.1]; exact r2, r3, by rw [(e 82 (by omega)).2.2.2.2.2]; exact r4, by rw [(e 147 (by omega)).2.2.2.2.2]; exact r5, ?_⟩, ⟨l1.keep ho (fun k hk => hp _ (by omega)), l2.keep ho (hp _ (by omega)) (hp _ (by omega)), l3.keep ho (hp _ (by omega)) (hp _ (by omega))⟩, st.keep ho (fun k hk => hp _ (by omega)), ⟨pf, p1, by rw [(e 0 (by omega)).1]; exact p2, by rw [(e 0 (by omega)).1]; exact p3, fun j hj => (p4 j hj).keep ho (fun k hk => hp _ (by have := Nat.mod_lt (pf + j) (show 0 < 16 by omega); omega))⟩, fun k hk => ⟨by rw [(e (148 + 10 * k) (by omega)).1]; exact (mk k hk).1, fun s hs => ((mk k hk).2 s hs).keep ho (fun i hi => hp _ (by omega))⟩, ?_⟩
  · unfold most4
    rw [(e (L' + 1) (by omega)).1, (e (L' + 3) (by omega)).1, (e (L' + 5) (by omega)).1, (e (L' + 7) (by omega)).1]
    exact r6
  · unfold TapeC
    rw [(e 1 (by omega)).1, (e 2 (by omega)).2.2.2.1]
    exact tp
