/-! GUESSED: what is counted -/
def fitB (t : TL) (can : Int32) : Bool := !anyF t.1 (fun k => (bt can (t.2.1 k)) ^^ (t.2.2 k))
def canK (v : LV) (k : Nat) : Int32 := tasksV v (knowsV v (nI k))
def okG (v : LV) (t : TL) (w : Int32) (k : Nat) : Bool := !liesK v k && (decide (weightV v (nI k) ≤ w) && fitB t (canK v k))
def someF : Nat → (Nat → Bool) → Int32
  | 0, _ => 0
  | n + 1, f => if f n then someF n f ||| nI n else someF n f
def ableC (v : LV) (t : TL) (w : Int32) (n i : Nat) : Nat := cntF n (fun j => okG v t w j && bt (canK v j) i)
def tellW (n : Int32) (ab : Nat → Int32) : Nat → Int32 × Int32
  | 0 => (-1, 0)
  | t + 1 => if (tellW n ab t).2 < (if n - ab t < ab t then n - ab t else ab t) then (nI t, if n - ab t < ab t then n - ab t else ab t) else tellW n ab t
def guessN (v : LV) (t : TL) (w : Int32) : Nat := cntF (2 ^ nP v) (okG v t w)
def guessK (v : LV) (t : TL) (w : Int32) : Nat → Int32
  | 0 => nI (guessN v t w)
  | 1 => inF (honestV v) (2 ^ nP v) (okG v t w)
  | 2 => someF (2 ^ nP v) (okG v t w)
  | _ => (tellW (nI (guessN v t w)) (fun i => nI (ableC v t w (2 ^ nP v) i)) 5).1
def guessS (S : ST) (x y : Int32) : Int32 := if okI x 201 && okI y 4 then (if guessN S.1 S.2.1.2.2 x = 0 then -1 else guessK S.1 S.2.1.2.2 x (ix y)) else -1
theorem cntF_ext {f : Nat → Bool} {a : Nat} : ∀ {n : Nat}, a ≤ n → (∀ k, a ≤ k → k < n → f k = false) → cntF n f = cntF a f
  | 0, h, _ => by rw [show a = 0 by omega]
  | n + 1, h, h0 => by
    by_cases e : a = n + 1
    · rw [e]
    · rw [cntF, h0 n (by omega) (by omega), cntF_ext (by omega) (fun k h1 h2 => h0 k h1 (by omega))]
      rfl
theorem inF_ext {x : Int32} {f : Nat → Bool} {a : Nat} : ∀ {n : Nat}, a ≤ n → (∀ k, a ≤ k → k < n → f k = false) → inF x n f = inF x a f
  | 0, h, _ => by rw [show a = 0 by omega]
  | n + 1, h, h0 => by
    by_cases e : a = n + 1
    · rw [e]
    · rw [inF, h0 n (by omega) (by omega), inF_ext (by omega) (fun k h1 h2 => h0 k h1 (by omega))]
      rfl
theorem someF_ext {f : Nat → Bool} {a : Nat} : ∀ {n : Nat}, a ≤ n → (∀ k, a ≤ k → k < n → f k = false) → someF n f = someF a f
  | 0, h, _ => by rw [show a = 0 by omega]
  | n + 1, h, h0 => by
    by_cases e : a = n + 1
    · rw [e]
    · rw [someF, h0 n (by omega) (by omega), someF_ext (by omega) (fun k h1 h2 => h0 k h1 (by omega))]
      rfl
theorem inF_bt (x : Int32) (f : Nat → Bool) (i : Nat) : ∀ n, bt (inF x n f) i = (bt x i && !anyF n (fun k => f k && !bt (nI k) i))
  | 0 => by
    rw [inF, anyF]
    simp
  | n + 1 => by
    have ih := inF_bt x f i n
    rw [inF, anyF]
    cases hf : f n
    · simp only [Bool.false_eq_true, if_false, Bool.false_and, Bool.or_false]
      exact ih
    · simp only [if_true, Bool.true_and]
      rw [b_and, ih]
      cases bt x i <;> cases anyF n (fun k => f k && !bt (nI k) i) <;> cases bt (nI n) i <;> rfl
theorem cntF_pos {f : Nat → Bool} : ∀ {n : Nat}, ¬ cntF n f = 0 → ∃ k, k < n ∧ f k = true
  | 0, h => absurd rfl h
  | n + 1, h => by
    cases hf : f n
    · rw [cntF, hf] at h
      obtain ⟨k, h1, h2⟩ := cntF_pos (f := f) (n := n) (by simpa using h)
      exact ⟨k, by omega, h2⟩
    · exact ⟨n, by omega, hf⟩
theorem anyF_t {n : Nat} {f : Nat → Bool} {k : Nat} (h : k < n) (hf : f k = true) : anyF n f = true := by
  cases q : anyF n f
  · rw [anyF_iff.mp q k h] at hf
    cases hf
  · rfl
theorem honest_b {v : LV} (hW : WF v) {j : Nat} (hj : nP v ≤ j) : bt (honestV v) j = false := by
  have h12 := hW.1.2.1
  cases h : bt (honestV v) j
  · rfl
  · unfold honestV at h
    obtain ⟨k, hk, h2⟩ := orF_bt.mp h
    split at h2
    · rw [b_0] at h2; cases h2
    · rw [bt_bi_f (by omega) (by omega)] at h2; cases h2
/-- begun from either whole, what all have is the same -/
theorem inAll_e {v : LV} (hW : WF v) {f : Nat → Bool} (hf : ∀ k, k < 2 ^ nP v → f k = true → liesK v k = false) (h0 : ¬ cntF (2 ^ nP v) f = 0) : inF 8191 (2 ^ nP v) f = inF (honestV v) (2 ^ nP v) f := by
  have h12 := hW.1.2.1
  obtain ⟨k, hk, hfk⟩ := cntF_pos h0
  apply b_ext
  intro i hi
  rw [inF_bt, inF_bt]
  cases hb : bt (nI k) i
  · rw [anyF_t hk (by rw [hfk, hb]; rfl)]
    simp
  · have h1 := (honest_sub hW hk).mpr (hf k hk hfk) i hi hb
    have h2 : i < nP v := by
      rcases Nat.lt_or_ge i (nP v) with g | g
      · exact g
      · rw [bt_big hk g] at hb; cases hb
    rw [h1, (by decide +kernel : ∀ i, i < 13 → bt 8191 i = true) i (by omega)]
theorem fit_e {v : LV} {t : TL} (hT : WT v t) (h5 : nT v ≤ 5) (can : Int32) : (decide (orF t.1 (fun k => if t.2.2 k then bi (t.2.1 k) else 0) &&& nt can = 0) && decide (orF t.1 (fun k => if t.2.2 k then 0 else bi (t.2.1 k)) &&& can = 0)) = fitB t can := by
  have e1 : orF t.1 (fun k => if t.2.2 k then bi (t.2.1 k) else 0) &&& nt can = 0 ↔ ∀ k, k < t.1 → t.2.2 k = true → bt can (t.2.1 k) = true := by
    rw [sub_iff]
    constructor
    · intro h k hk hc
      have := hT.2 k hk
      refine h (t.2.1 k) (by omega) (orF_bt.mpr ⟨k, hk, ?_⟩)
      rw [if_pos hc, bt_bi (by omega) (by omega), decide_eq_true rfl]
    · intro h i hi hb
      obtain ⟨k, hk, h2⟩ := orF_bt.mp hb
      have := hT.2 k hk
      split at h2
      · next hc =>
        rw [bt_bi (by omega) hi] at h2
        rw [of_decide_eq_true h2]
        exact h k hk hc
      · rw [b_0] at h2; cases h2
  have e2 : orF t.1 (fun k => if t.2.2 k then 0 else bi (t.2.1 k)) &&& can = 0 ↔ ∀ k, k < t.1 → t.2.2 k = false → bt can (t.2.1 k) = false := by
    rw [bt_eq0]
    constructor
    · intro h k hk hc
      have := hT.2 k hk
      have h3 := h (t.2.1 k) (by omega)
      rw [b_and, orF_bt.mpr ⟨k, hk, by rw [hc]; simp only [Bool.false_eq_true, if_false]; rw [bt_bi (by omega) (by omega), decide_eq_true rfl]⟩, Bool.true_and] at h3
      exact h3
    · intro h i hi
      rw [b_and]
      cases hb : bt (orF t.1 (fun k => if t.2.2 k then 0 else bi (t.2.1 k))) i
      · rfl
      · obtain ⟨k, hk, h2⟩ := orF_bt.mp hb
        have := hT.2 k hk
        split at h2
        · rw [b_0] at h2; cases h2
        · next hc =>
          rw [bt_bi (by omega) hi] at h2
          rw [of_decide_eq_true h2, h k hk (by simpa using hc)]
          rfl
  have e3 : fitB t can = true ↔ ∀ k, k < t.1 → bt can (t.2.1 k) = t.2.2 k := by
    unfold fitB
    rw [Bool.not_eq_true', anyF_iff]
    constructor
    · intro h k hk
      have := h k hk
      cases h1 : bt can (t.2.1 k) <;> cases h2 : t.2.2 k <;> rw [h1, h2] at this <;> first | rfl | cases this
    · intro h k hk
      rw [h k hk]
      cases t.2.2 k <;> rfl
  by_cases q : ∀ k, k < t.1 → bt can (t.2.1 k) = t.2.2 k
  · rw [e3.mpr q, decide_eq_true (e1.mpr (fun k hk hc => by rw [q k hk, hc])), decide_eq_true (e2.mpr (fun k hk hc => by rw [q k hk, hc]))]
    rfl
  · have q2 : fitB t can = false := by
      cases z : fitB t can
      · rfl
      · exact absurd (e3.mp z) q
    rw [q2]
    by_cases g1 : orF t.1 (fun k => if t.2.2 k then bi (t.2.1 k) else 0) &&& nt can = 0
    · by_cases g2 : orF t.1 (fun k => if t.2.2 k then 0 else bi (t.2.1 k)) &&& can = 0
      · refine absurd (fun k hk => ?_) q
        cases hc : t.2.2 k
        · exact e2.mp g2 k hk hc
        · exact e1.mp g1 k hk hc
      · rw [decide_eq_false g2, Bool.and_false]
    · rw [decide_eq_false g1, Bool.false_and]
theorem tell_ge (n : Int32) (ab : Nat → Int32) : ∀ t, 0 ≤ (tellW n ab t).2.toInt
  | 0 => by
    show 0 ≤ (0 : Int32).toInt
    decide
  | t + 1 => by
    have ih := tell_ge n ab t
    rw [tellW]
    generalize (if n - ab t < ab t then n - ab t else ab t) = E
    by_cases h : (tellW n ab t).2 < E
    · rw [if_pos h]
      rw [Int32.lt_iff_toInt_lt] at h
      show 0 ≤ E.toInt
      omega
    · rw [if_neg h]
      exact ih
theorem tell_ext {n : Int32} {ab : Nat → Int32} {a : Nat} (h0 : 0 ≤ n.toInt) : ∀ {N : Nat}, a ≤ N → (∀ t, a ≤ t → t < N → ab t = 0) → tellW n ab N = tellW n ab a
  | 0, h, _ => by rw [show a = 0 by omega]
  | N + 1, h, hz => by
    by_cases e : a = N + 1
    · rw [e]
    · have ih := tell_ext (a := a) h0 (N := N) (by omega) (fun t h1 h2 => hz t h1 (by omega))
      have hge := tell_ge n ab N
      rw [tellW, if_neg, ih]
      rw [hz N (by omega) (by omega), Int32.sub_zero, if_neg (by rw [Int32.lt_iff_toInt_lt, Int32.toInt_zero]; omega), Int32.lt_iff_toInt_lt, Int32.toInt_zero]
      omega
theorem tell_congr {n : Int32} {ab ab' : Nat → Int32} : ∀ {N : Nat}, (∀ t, t < N → ab t = ab' t) → tellW n ab N = tellW n ab' N
  | 0, _ => rfl
  | N + 1, h => by
    rw [tellW, tellW, tell_congr (N := N) (fun t ht => h t (by omega)), h N (by omega)]
theorem okG_lies {v : LV} {t : TL} {w : Int32} (k : Nat) (h : okG v t w k = true) : liesK v k = false := by
  unfold okG at h
  rw [Bool.and_eq_true] at h
  simpa using h.1
theorem canK_b {v : LV} (k : Nat) (h5 : nT v ≤ 5) {i : Nat} (hi : nT v ≤ i) : bt (canK v k) i = false := by
  cases h : bt (canK v k) i
  · rfl
  · unfold canK tasksV at h
    obtain ⟨t, ht, h2⟩ := orF_bt.mp h
    split at h2
    · rw [bt_bi_f (by omega) (by omega)] at h2; cases h2
    · rw [b_0] at h2; cases h2
theorem able_0 {v : LV} {t : TL} {w : Int32} (h5 : nT v ≤ 5) {n i : Nat} (hi : nT v ≤ i) : ableC v t w n i = 0 := cntF_0 (fun j _ => by rw [canK_b j h5 hi, Bool.and_false])
