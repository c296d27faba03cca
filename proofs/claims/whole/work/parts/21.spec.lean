/-! THE MATHEMATICAL STATE, and what both sides compute of it -/
theorem nI_lit (n : Nat) : (OfNat.ofNat n : Int32) = nI n := rfl
/-- a library: counts (0 facts, 1 pages, 2 people, 3 tasks); rows (0 leans, 1 clashes, 2 kinds, 3 weights, 4 copies, 5 says, 6 rooms, 7 die, 8 heirs, 9 worths, 10 needs); burn; what copying and biting cost; names by their letters -/
abbrev LV : Type := (Nat → Nat) × (Nat → Nat → Int32) × Int32 × (Nat → Int32 → Int32 → Int32) × (Nat → Nat → List Nat)
def nF (v : LV) : Nat := v.1 0
def nP (v : LV) : Nat := v.1 1
def nE (v : LV) : Nat := v.1 2
def nT (v : LV) : Nat := v.1 3
def leanV (v : LV) : Nat → Int32 := v.2.1 0
def clashV (v : LV) : Nat → Int32 := v.2.1 1
def kindV (v : LV) : Nat → Int32 := v.2.1 2
def weighV (v : LV) : Nat → Int32 := v.2.1 3
def copyV (v : LV) : Nat → Int32 := v.2.1 4
def saysV (v : LV) : Nat → Int32 := v.2.1 5
def roomV (v : LV) : Nat → Int32 := v.2.1 6
def dieV (v : LV) : Nat → Int32 := v.2.1 7
def heirV (v : LV) : Nat → Int32 := v.2.1 8
def worthV (v : LV) : Nat → Int32 := v.2.1 9
def needV (v : LV) : Nat → Int32 := v.2.1 10
def burnV (v : LV) : Int32 := v.2.2.1
def lawV (v : LV) : Nat → Int32 → Int32 → Int32 := v.2.2.2.1
def nameV (v : LV) : Nat → Nat → List Nat := v.2.2.2.2
/-- what holds of every library that is read -/
def WF (v : LV) : Prop := (nF v ≤ 12 ∧ nP v ≤ 12 ∧ nE v ≤ 6 ∧ nT v ≤ 5) ∧ (∀ i, nP v ≤ i → copyV v i = 0) ∧ (∀ i, nE v ≤ i → roomV v i = 0) ∧
  (∀ i, i < nP v → (∃ k : Nat, k ≤ 2 ∧ kindV v i = nI k) ∧ (∃ k : Nat, 1 ≤ k ∧ k ≤ 9 ∧ weighV v i = nI k) ∧ (∃ k : Nat, k ≤ 9 ∧ copyV v i = nI k) ∧ (∀ j, nF v ≤ j → bt (saysV v i) j = false)) ∧
  (∀ i, i < nE v → (∃ k : Nat, k ≤ 40 ∧ roomV v i = nI k) ∧ (∃ k : Nat, k ≤ 10 ∧ dieV v i = nI k) ∧ (heirV v i = -1 ∨ ∃ k : Nat, k < i ∧ heirV v i = nI k)) ∧
  (∀ i, i < nT v → (∃ k : Nat, k ≤ 99 ∧ worthV v i = nI k) ∧ needV v i ≠ 0 ∧ (∀ j, nF v ≤ j → bt (needV v i) j = false)) ∧
  (∀ i, i < nF v → (∀ j, i ≤ j → bt (leanV v i) j = false) ∧ (∀ j, nF v ≤ j → bt (clashV v i) j = false) ∧ (∀ j, j < nF v → bt (clashV v i) j = bt (clashV v j) i)) ∧ (∃ k : Nat, k ≤ 10 ∧ burnV v = nI k)
/-- a life: eaten, room left, copies, alive, day, spent -/
abbrev LF : Type := (Nat → Int32) × (Nat → Int32) × (Nat → Int32) × Int32 × Int32 × Int32
def eatL (l : LF) : Nat → Int32 := l.1
def leftL (l : LF) : Nat → Int32 := l.2.1
def copL (l : LF) : Nat → Int32 := l.2.2.1
def aliveL (l : LF) : Int32 := l.2.2.2.1
def dayL (l : LF) : Int32 := l.2.2.2.2.1
def spentL (l : LF) : Int32 := l.2.2.2.2.2
/-- sums -/
def sumF : Nat → (Nat → Int32) → Int32
  | 0, _ => 0
  | n + 1, f => sumF n f + f n
def lie (v : LV) (i : Nat) : Bool := decide (kindV v i = 1)
def believesV (v : LV) (s : Int32) : Int32 := orF (nP v) (fun i => if bt s i then saysV v i else 0)
def knowsV (v : LV) (s : Int32) : Int32 := orF (nP v) (fun i => if bt s i && !lie v i then saysV v i else 0)
def honestV (v : LV) : Int32 := orF (nP v) (fun i => if lie v i then 0 else bi i)
def underF (lean : Nat → Int32) (known : Int32) : Nat → Int32
  | 0 => 0
  | n + 1 => if bt known n && decide (lean n &&& nt (underF lean known n) = 0) then underF lean known n ||| bi n else underF lean known n
def underV (v : LV) (known : Int32) : Int32 := underF (leanV v) known (nF v)
def canV (v : LV) (known : Int32) (t : Nat) : Bool := decide (needV v t &&& nt (underV v known) = 0)
def tasksV (v : LV) (known : Int32) : Int32 := orF (nT v) (fun t => if canV v known t then bi t else 0)
def worthOfV (v : LV) (known : Int32) : Int32 := sumF (nT v) (fun t => if canV v known t then worthV v t else 0)
def weightV (v : LV) (s : Int32) : Int32 := sumF (nP v) (fun i => if bt s i then weighV v i else 0)
def pagesOfV (v : LV) (f : Int32) : Int32 := orF (nP v) (fun i => ((saysV v i >>> (f &&& 31)) &&& 1) <<< (nI i &&& 31))
def tornF (clash : Nat → Int32) (s : Int32) : Nat → Bool
  | 0 => false
  | n + 1 => tornF clash s n || (bt s n && !decide (clash n &&& s = 0))
def tornV (v : LV) (s : Int32) : Bool := tornF (clashV v) s (nF v)
def livesL (l : LF) (p : Nat) : Bool := bt (aliveL l) p
def inStockL (l : LF) : Int32 := orF 12 (fun i => if 0 < copL l i then bi i else 0)
def knownToSomeV (v : LV) (l : LF) : Int32 := orF 6 (fun p => if livesL l p then knowsV v (eatL l p) else 0)
def allFV (v : LV) : Int32 := bi (nF v) - 1
def goneV (v : LV) (l : LF) : Int32 := (allFV v &&& nt (knownToSomeV v l)) &&& nt (knowsV v (inStockL l))
/-- what a class's library at L holds -/
def LibC (u : am_U) (L : Nat) (v : LV) : Prop :=
  (FI u (L + 1) 2 = nI (nF v) ∧ FI u (L + 3) 2 = nI (nP v) ∧ FI u (L + 5) 2 = nI (nE v) ∧ FI u (L + 7) 2 = nI (nT v)) ∧ (FI u (L + 1) 1 = nI 12 ∧ FI u (L + 3) 1 = nI 12 ∧ FI u (L + 5) 1 = nI 6 ∧ FI u (L + 7) 1 = nI 5) ∧
  (∀ i, i < nF v → AI u (L + 9) i = leanV v i) ∧ (∀ i, i < nF v → AI u (L + 10) i = clashV v i) ∧ (∀ i, i < nP v → AI u (L + 11) i = kindV v i) ∧ (∀ i, i < nP v → AI u (L + 12) i = weighV v i) ∧ (∀ i, i < 12 → AI u (L + 13) i = copyV v i) ∧ (∀ i, i < nP v → AI u (L + 14) i = saysV v i) ∧
  (∀ i, i < 6 → AI u (L + 15) i = roomV v i) ∧ (∀ i, i < nE v → AI u (L + 16) i = dieV v i) ∧ (∀ i, i < nE v → AI u (L + 17) i = heirV v i) ∧ (∀ i, i < nT v → AI u (L + 18) i = worthV v i) ∧ (∀ i, i < nT v → AI u (L + 19) i = needV v i) ∧ FI u L 17 = honestV v ∧ FI u L 18 = burnV v
/-- what a class's life at b holds -/
def LifeC (u : am_U) (b : Nat) (l : LF) : Prop :=
  (∀ p, p < 6 → AI u (b + 1) p = eatL l p) ∧ (∀ p, p < 6 → AI u (b + 2) p = leftL l p) ∧ (∀ k, k < 12 → AI u (b + 3) k = copL l k) ∧ FI u b 3 = aliveL l ∧ FI u b 4 = dayL l ∧ FI u b 5 = spentL l
/-- only places of P have changed -/
def Only (P : Nat → Prop) (u u' : am_U) : Prop := ∀ a, ¬ P a → FI u' a = FI u a ∧ FJ u' a = FJ u a ∧ FR u' a = FR u a ∧ AI u' a = AI u a ∧ AJ u' a = AJ u a ∧ AR u' a = AR u a
theorem Only.rf (P : Nat → Prop) (u : am_U) : Only P u u := fun _ _ => ⟨rfl, rfl, rfl, rfl, rfl, rfl⟩
theorem Only.tr {P : Nat → Prop} {u1 u2 u3 : am_U} (h1 : Only P u1 u2) (h2 : Only P u2 u3) : Only P u1 u3 := fun a ha => by
  obtain ⟨a1, a2, a3, a4, a5, a6⟩ := h1 a ha
  obtain ⟨b1, b2, b3, b4, b5, b6⟩ := h2 a ha
  exact ⟨b1.trans a1, b2.trans a2, b3.trans a3, b4.trans a4, b5.trans a5, b6.trans a6⟩
theorem Only.wk {P Q : Nat → Prop} {u1 u2 : am_U} (h1 : Only P u1 u2) (h : ∀ a, P a → Q a) : Only Q u1 u2 := fun a ha => h1 a (fun p => ha (h a p))
theorem Only.sFI {P : Nat → Prop} {u : am_U} {a k : Nat} {x : Int32} (h : P a) : Only P u (sFI u a k x) := fun b hb => ⟨funext fun k' => by rw [FI_sFI]; simp [show ¬ b = a from fun q => hb (by rw [q]; exact h)], rfl, rfl, rfl, rfl, rfl⟩
theorem Only.sFJ {P : Nat → Prop} {u : am_U} {a k : Nat} {x : Int64} (h : P a) : Only P u (sFJ u a k x) := fun b hb => ⟨rfl, funext fun k' => by rw [FJ_sFJ]; simp [show ¬ b = a from fun q => hb (by rw [q]; exact h)], rfl, rfl, rfl, rfl⟩
theorem Only.sFR {P : Nat → Prop} {u : am_U} {a k : Nat} {x : Option Nat} (h : P a) : Only P u (sFR u a k x) := fun b hb => ⟨rfl, rfl, funext fun k' => by rw [FR_sFR]; simp [show ¬ b = a from fun q => hb (by rw [q]; exact h)], rfl, rfl, rfl⟩
theorem Only.sAI {P : Nat → Prop} {u : am_U} {a : Nat} {g : Nat → Int32} (h : P a) : Only P u (sAI u a g) := fun b hb => ⟨rfl, rfl, rfl, by rw [AI_sAI]; simp [show ¬ b = a from fun q => hb (by rw [q]; exact h)], rfl, rfl⟩
theorem Only.sAJ {P : Nat → Prop} {u : am_U} {a : Nat} {g : Nat → Int64} (h : P a) : Only P u (sAJ u a g) := fun b hb => ⟨rfl, rfl, rfl, rfl, by rw [AJ_sAJ]; simp [show ¬ b = a from fun q => hb (by rw [q]; exact h)], rfl⟩
theorem LifeC.keep {P : Nat → Prop} {u u' : am_U} {b : Nat} {l : LF} (h : LifeC u b l) (ho : Only P u u') (hp : ∀ k, k < 4 → ¬ P (b + k)) : LifeC u' b l := by
  obtain ⟨h1, h2, h3, h4, h5, h6⟩ := h
  have e0 := ho b (hp 0 (by omega))
  have e1 := ho (b + 1) (hp 1 (by omega))
  have e2 := ho (b + 2) (hp 2 (by omega))
  have e3 := ho (b + 3) (hp 3 (by omega))
  exact ⟨by rw [e1.2.2.2.1]; exact h1, by rw [e2.2.2.2.1]; exact h2, by rw [e3.2.2.2.1]; exact h3, by rw [e0.1]; exact h4, by rw [e0.1]; exact h5, by rw [e0.1]; exact h6⟩
theorem LibC.keep {P : Nat → Prop} {u u' : am_U} {L : Nat} {v : LV} (h : LibC u L v) (ho : Only P u u') (hp : ∀ k, k < 26 → ¬ P (L + k)) : LibC u' L v := by
  obtain ⟨⟨a1, a2, a3, a4⟩, ⟨b1, b2, b3, b4⟩, c1, c2, c3, c4, c5, c6, c7, c8, c9, c10, c11, d1, d2⟩ := h
  have e := fun k hk => ho (L + k) (hp k hk)
  have e0 := ho L (hp 0 (by omega))
  exact ⟨⟨by rw [(e 1 (by omega)).1]; exact a1, by rw [(e 3 (by omega)).1]; exact a2, by rw [(e 5 (by omega)).1]; exact a3, by rw [(e 7 (by omega)).1]; exact a4⟩,
    ⟨by rw [(e 1 (by omega)).1]; exact b1, by rw [(e 3 (by omega)).1]; exact b2, by rw [(e 5 (by omega)).1]; exact b3, by rw [(e 7 (by omega)).1]; exact b4⟩,
    by rw [(e 9 (by omega)).2.2.2.1]; exact c1, by rw [(e 10 (by omega)).2.2.2.1]; exact c2, by rw [(e 11 (by omega)).2.2.2.1]; exact c3, by rw [(e 12 (by omega)).2.2.2.1]; exact c4, by rw [(e 13 (by omega)).2.2.2.1]; exact c5, by rw [(e 14 (by omega)).2.2.2.1]; exact c6, by rw [(e 15 (by omega)).2.2.2.1]; exact c7, by rw [(e 16 (by omega)).2.2.2.1]; exact c8, by rw [(e 17 (by omega)).2.2.2.1]; exact c9, by rw [(e 18 (by omega)).2.2.2.1]; exact c10, by rw [(e 19 (by omega)).2.2.2.1]; exact c11, by rw [e0.1]; exact d1, by rw [e0.1]; exact d2⟩
