/-! THE REFERENCE'S STATE: its laws worked, the invariant -/
/-- how deep, and nine rows: 0 kept 1 keptBy 2 ahead 3 against 4 sum 5 sumBy 6 term 7 termBy 8 byNot -/
abbrev WK : Type := Nat × (Nat → Nat → Int32)
def w1 (q : Nat → Nat → Int32) (a d : Nat) (x : Int32) : Nat → Nat → Int32 := fun a' d' => if a' = a ∧ d' = d then x else q a' d'
def wOpens (q : Nat → Nat → Int32) (d : Nat) : Nat → Nat → Int32 := w1 (w1 (w1 (w1 (w1 q 1 d 0) 3 d 0) 4 d 0) 5 d 20) 7 d 0
def wSums (q : Nat → Nat → Int32) (d : Nat) : Nat → Nat → Int32 := w1 (w1 q 4 d (if q 5 d = 21 then q 4 d - q 6 d else q 4 d + q 6 d)) 7 d 0
def wVal1 (q : Nat → Nat → Int32) (d : Nat) : Int32 := if q 3 d = 25 then b2i (decide (q 2 d = q 4 d)) else if q 3 d = 24 then b2i (decide (q 2 d < q 4 d)) else q 4 d
def wVal2 (q : Nat → Nat → Int32) (d : Nat) (x : Int32) : Int32 := if q 1 d = 26 then b2i (!decide (q 0 d = 0) && !decide (x = 0)) else if q 1 d = 27 then b2i (!decide (q 0 d = 0) || !decide (x = 0)) else x
def wTests0 (q : Nat → Nat → Int32) (d : Nat) : Nat → Nat → Int32 := w1 (w1 (w1 (w1 q 0 d (wVal2 q d (wVal1 q d))) 3 d 0) 4 d 0) 5 d 20
def wTests (q : Nat → Nat → Int32) (d : Nat) : Nat → Nat → Int32 := wTests0 (wSums q d) d
def wNots (q : Nat → Nat → Int32) : Nat → Int32 → Nat × Int32
  | 0, x => (0, x)
  | d + 1, x => if q 8 (d + 1) = 1 then wNots q d (b2i (decide (x = 0))) else (d + 1, x)
def wTerm (q : Nat → Nat → Int32) (r : Nat × Int32) : WK := (r.1, w1 q 6 r.1 (if q 7 r.1 = 0 then r.2 else q 6 r.1 * r.2))
def wPut (q : Nat → Nat → Int32) (d : Nat) (c : Int32) : Nat → Nat → Int32 := w1 (w1 (w1 (w1 q 2 d (q 4 d)) 3 d c) 4 d 0) 5 d 20
def wStep (kk h o c : Int32) (s : WK) : Option WK :=
  if c = 28 ∨ c = 30 then (if s.1 < 6 then some (s.1 + 1, wOpens (w1 s.2 8 (s.1 + 1) (b2i (decide (c = 30)))) (s.1 + 1)) else none)
  else if c = 20 ∨ c = 21 then some (s.1, w1 (wSums s.2 s.1) 5 s.1 c)
  else if c = 22 then some (s.1, w1 s.2 7 s.1 c)
  else if c = 24 ∨ c = 25 then some (s.1, wPut (wSums s.2 s.1) s.1 c)
  else if c = 26 ∨ c = 27 then some (s.1, w1 (wTests s.2 s.1) 1 s.1 c)
  else if c = 29 then (if 1 ≤ s.1 then some (wTerm (wTests s.2 s.1) (wNots (wTests s.2 s.1) (s.1 - 1) (wTests s.2 s.1 0 s.1))) else none)
  else if 100 ≤ c then some (wTerm s.2 (wNots s.2 s.1 (c - 100)))
  else if c = 1 then some (wTerm s.2 (wNots s.2 s.1 h))
  else if c = kk then some (wTerm s.2 (wNots s.2 s.1 o)) else none
def wRun (cs : Nat → Int32) (kk h o : Int32) (f : Nat) (s0 : WK) : Nat → Option WK
  | 0 => some s0
  | n + 1 => (wRun cs kk h o f s0 n).bind (wStep kk h o (cs (f + n)))
def workP (cs : Nat → Int32) (kk h o : Int32) (f t : Nat) (q0 : Nat → Nat → Int32) : Option Int32 := (wRun cs kk h o f (0, wOpens q0 0) (t - f)).map (fun s => wTests s.2 0 0 0)
def CodeR (u : am_U) (v : LV) : Prop := ∃ f t : Nat → Nat, (∀ k, k < 2 → AI u 221 k = nI (f k) ∧ AI u 222 k = nI (t k) ∧ f k ≤ 1000 ∧ t k ≤ 1000) ∧ (∀ k, k < 2 → f k < t k → ∀ h o q0, workP (AI u 223) (nI (2 + k)) h o (f k) (t k) q0 = some (lawV v k h o)) ∧ (¬ f 0 < t 0 → ∀ h o, lawV v 0 h o = h) ∧ (¬ f 1 < t 1 → ∀ h o, lawV v 1 h o = 0)
def InvR (u : am_U) (S : ST) : Prop := LibR u S.1 ∧ CodeR u S.1 ∧ NowR u S.1 S.2.1 ∧ PastR u S.1 S.2.2.1 ∧ MarksR u S.1 S.2.2.2.1 ∧ TapeR u S.2.2.2.2
/-- the reference's places but the rows of names -/
def inR (a : Nat) : Prop := 203 ≤ a ∧ ¬ a = 206 ∧ ¬ a = 207 ∧ ¬ a = 208 ∧ ¬ a = 209
theorem InvR.keep {P : Nat → Prop} {u u' : am_U} {S : ST} (h : InvR u S) (ho : Only P u u') (hp : ∀ a, 203 ≤ a → ¬ P a) : InvR u' S := by
  have eF : FI u' 203 = FI u 203 := (ho 203 (hp _ (by omega))).1
  have e := fun a ha => (ho a (hp a ha)).2.2.2.1
  obtain ⟨h1, h2, h3, h4, h5, h6⟩ := h
  refine ⟨?_, ?_, ⟨?_, ?_, ?_⟩, ?_, fun k hk => ?_, ?_⟩
  · unfold LibR
    simp only [e, Nat.reduceLeDiff]
    exact h1
  · unfold CodeR
    simp only [e, Nat.reduceLeDiff]
    exact h2
  · unfold LifeR
    simp only [e, Nat.reduceLeDiff]
    exact h3.1
  · unfold LinesR
    simp only [e, Nat.reduceLeDiff]
    exact h3.2.1
  · unfold ToldR
    simp only [e, Nat.reduceLeDiff]
    exact h3.2.2
  · unfold PastR
    simp only [e, eF, Nat.reduceLeDiff]
    exact h4
  · simp only [LinesR, ToldR, e, Nat.reduceLeDiff]
    exact h5 k hk
  · unfold TapeR
    simp only [e, eF, Nat.reduceLeDiff]
    exact h6
