/-! EVENINGS: groups apart, nights -/
def D6 (p g : Nat) : Nat := ix (nI p &&& nt (nI g))
theorem D6_e {k p : Nat} (hk : k ≤ 31) (hp : p < 2 ^ k) (g : Nat) : nI p &&& nt (nI g) = nI (D6 p g) ∧ D6 p g < 2 ^ k := by
  obtain ⟨n, hn, he⟩ := small_nI (x := nI p &&& nt (nI g)) hk (fun j hj => by rw [b_and, bt_big hp hj]; rfl)
  have h31 : n < 2 ^ 31 := Nat.lt_of_lt_of_le hn (Nat.pow_le_pow_right (by omega) hk)
  have : D6 p g = n := by
    unfold D6
    rw [he, ix_nI h31]
  rw [this]
  exact ⟨he, hn⟩
def subB (g p : Nat) : Bool := decide (nI g &&& nt (nI p) = 0)
def lowN (t : Nat) : Nat := if t % 2 = 1 then 0 else if t % 4 = 2 then 1 else if t % 8 = 4 then 2 else if t % 16 = 8 then 3 else 4
def othN (t : Nat) : Nat := t &&& (t - 1)
def pcN (t : Nat) : Nat := cntF 5 (fun i => t.testBit i)
theorem low_dec : ∀ t, t < 32 → ¬ t = 0 → bcV ((nI t &&& (- nI t)) - 1) = nI (lowN t) ∧ lowN t < 5 ∧ nI t &&& (nI t - 1) = nI (othN t) ∧ othN t < t ∧ nI t &&& (- nI t) = bi (lowN t) ∧ nI t &&& nt (nI t &&& (- nI t)) = nI (othN t) ∧ pcN (othN t) < pcN t ∧ pcN t ≤ 5 := by decide +kernel
def sitF (A : Nat → Int32) : Nat → Nat → Nat → Bool
  | 0, t, _ => decide (t = 0)
  | n + 1, t, p => decide (t = 0) || anyF (p + 1) (fun g => subB g p && (bt (A g) (lowN t) && sitF A n (othN t) (D6 p g)))
theorem anyF_congr {n : Nat} {f g : Nat → Bool} (h : ∀ i, i < n → f i = g i) : anyF n f = anyF n g := by
  induction n with
  | zero => rfl
  | succ n ih => rw [anyF, anyF, ih (fun i hi => h i (by omega)), h n (by omega)]
theorem sitF_fuel (A : Nat → Int32) : ∀ n t p, t < 32 → pcN t ≤ n → sitF A (n + 1) t p = sitF A n t p
  | 0, t, p, ht, hp => by
    have h0 : t = 0 := by
      refine Classical.byContradiction (fun q => ?_)
      have := low_dec t ht q
      omega
    rw [h0]
    rfl
  | n + 1, t, p, ht, hp => by
    by_cases h0 : t = 0
    · rw [h0]; rfl
    · obtain ⟨-, -, -, h4, -, -, h7, -⟩ := low_dec t ht h0
      have : ∀ g, sitF A (n + 1) (othN t) (D6 p g) = sitF A n (othN t) (D6 p g) := fun g => sitF_fuel A n (othN t) (D6 p g) (by omega) (by omega)
      rw [sitF]
      conv => rhs; rw [sitF]
      rw [anyF_congr (fun g _ => by rw [this g])]
def sitP (A : Nat → Int32) (t p : Nat) : Bool := sitF A 5 t p
theorem sitP_0 (A : Nat → Int32) (p : Nat) : sitP A 0 p = true := rfl
theorem sitP_e (A : Nat → Int32) {t p : Nat} (ht : t < 32) (h0 : ¬ t = 0) : sitP A t p = anyF (p + 1) (fun g => subB g p && (bt (A g) (lowN t) && sitP A (othN t) (D6 p g))) := by
  obtain ⟨-, -, -, h4, -, -, h7, h8⟩ := low_dec t ht h0
  unfold sitP
  conv => lhs; rw [sitF]
  rw [decide_eq_false h0, Bool.false_or]
  exact anyF_congr (fun g _ => by rw [← sitF_fuel A 4 (othN t) (D6 p g) (by omega) (by omega)])
def minP (init : Nat) (c : Nat → Bool) (val : Nat → Nat) : Nat → Nat
  | 0 => init
  | n + 1 => if c (n + 1) then min (minP init c val n) (val (n + 1)) else minP init c val n
theorem minP_congr {init : Nat} {c c' : Nat → Bool} {val val' : Nat → Nat} : ∀ {n : Nat}, (∀ k, 1 ≤ k → k ≤ n → c k = c' k) → (∀ k, 1 ≤ k → k ≤ n → c k = true → val k = val' k) → minP init c val n = minP init c' val' n
  | 0, _, _ => rfl
  | n + 1, h, h2 => by
    rw [minP, minP, minP_congr (c := c) (c' := c') (val := val) (val' := val') (n := n) (fun k h1 h3 => h k h1 (by omega)) (fun k h1 h3 => h2 k h1 (by omega)), ← h (n + 1) (by omega) (by omega)]
    cases hc : c (n + 1)
    · rfl
    · rw [h2 (n + 1) (by omega) (by omega) hc]
theorem minP_none {init : Nat} {c : Nat → Bool} {val : Nat → Nat} : ∀ {n : Nat}, (∀ k, 1 ≤ k → k ≤ n → c k = false) → minP init c val n = init
  | 0, _ => rfl
  | n + 1, h => by
    rw [minP, h (n + 1) (by omega) (by omega), minP_none (fun k h1 h2 => h k h1 (by omega))]
    rfl
theorem minP_add {init : Nat} {c : Nat → Bool} {val : Nat → Nat} {m : Nat} (h1 : 1 ≤ m) : ∀ {n : Nat}, m ≤ n → minP init (fun k => c k && decide (m ≤ k)) val n = if c m then min (minP init (fun k => c k && decide (m < k)) val n) (val m) else minP init (fun k => c k && decide (m < k)) val n
  | 0, h => by omega
  | n + 1, h => by
    by_cases e : m = n + 1
    · have z1 : minP init (fun k => c k && decide (m ≤ k)) val n = init := minP_none (fun k _ h2 => by rw [decide_eq_false (by omega), Bool.and_false])
      have z2 : minP init (fun k => c k && decide (m < k)) val n = init := minP_none (fun k _ h2 => by rw [decide_eq_false (by omega), Bool.and_false])
      rw [minP, minP, z1, z2, ← e, decide_eq_true (Nat.le_refl m), decide_eq_false (Nat.lt_irrefl m), Bool.and_true, Bool.and_false]
      cases c m <;> simp
    · have ih := minP_add (init := init) (c := c) (val := val) h1 (n := n) (by omega)
      rw [minP, minP, ih, decide_eq_true (show m ≤ n + 1 by omega), decide_eq_true (show m < n + 1 by omega), Bool.and_true]
      cases hc : c (n + 1) <;> cases hm : c m <;> simp only [Bool.false_eq_true, if_false, if_true]
      rw [Nat.min_assoc, Nat.min_assoc, Nat.min_comm (val m)]
theorem minP_le {init : Nat} {c : Nat → Bool} {val : Nat → Nat} : ∀ {n : Nat}, minP init c val n ≤ init ∧ ∀ k, 1 ≤ k → k ≤ n → c k = true → minP init c val n ≤ val k
  | 0 => ⟨Nat.le_refl _, fun k h1 h2 _ => by omega⟩
  | n + 1 => by
    obtain ⟨h1, h2⟩ := minP_le (init := init) (c := c) (val := val) (n := n)
    rw [minP]
    cases hc : c (n + 1)
    · refine ⟨h1, fun k g1 g2 g3 => ?_⟩
      by_cases e : k = n + 1
      · rw [e, hc] at g3; cases g3
      · exact h2 k g1 (by omega) g3
    · refine ⟨Nat.le_trans (Nat.min_le_left _ _) h1, fun k g1 g2 g3 => ?_⟩
      by_cases e : k = n + 1
      · rw [e]; exact Nat.min_le_right _ _
      · exact Nat.le_trans (Nat.min_le_left _ _) (h2 k g1 (by omega) g3)
/-- the fewest nights, as a table of the sets of tasks below n -/
def eTab (init : Nat) (ap : Nat → Bool) : Nat → Nat → Nat
  | 0 => fun _ => 0
  | n + 1 => upN (eTab init ap n) n (minP (if n = 0 then 0 else init) (fun k => subB k n && ap k) (fun k => eTab init ap n (D6 n k) + 1) n)
def eV (init : Nat) (ap : Nat → Bool) (t : Nat) : Nat := eTab init ap (t + 1) t
theorem eTab_e {init : Nat} {ap : Nat → Bool} {t : Nat} : ∀ {n : Nat}, t < n → eTab init ap n t = eV init ap t
  | 0, h => by omega
  | n + 1, h => by
    by_cases e : t = n
    · rw [e]; rfl
    · rw [eTab, upN_n e]
      exact eTab_e (by omega)
theorem D6_lt {k t : Nat} (hk : 1 ≤ k) (hkt : k ≤ t) (ht : t < 2 ^ 5) (hs : subB k t = true) : D6 t k < t := by
  obtain ⟨h1, h2⟩ := D6_e (k := 5) (by omega) ht k
  unfold subB at hs
  rw [decide_eq_true_eq] at hs
  have hle : D6 t k ≤ t := by
    refine sub_le (by omega) (by omega) ?_
    rw [← h1, sub_iff]
    intro i hi hb
    rw [b_and, Bool.and_eq_true] at hb
    exact hb.1
  have hk31 : k < 2 ^ 31 := by omega
  rcases Nat.lt_or_ge (D6 t k) t with q | q
  · exact q
  · exfalso
    have e : D6 t k = t := by omega
    rw [e] at h1
    have : nI k = 0 := by
      rw [bt_eq0]
      intro i hi
      cases hb : bt (nI k) i
      · rfl
      · have h3 := sub_iff.mp hs i hi hb
        have h4 : bt (nI t &&& nt (nI k)) i = bt (nI t) i := by rw [h1]
        rw [b_and, bt_nt _ hi, hb, h3] at h4
        cases h4
    rw [i_eq0 hk31] at this
    omega
theorem eV_e {init : Nat} {ap : Nat → Bool} {t : Nat} (ht : t < 32) : eV init ap t = minP (if t = 0 then 0 else init) (fun k => subB k t && ap k) (fun k => eV init ap (D6 t k) + 1) t := by
  unfold eV
  rw [eTab, upN_s]
  refine minP_congr (fun k _ _ => rfl) (fun k h1 h2 h3 => ?_)
  rw [Bool.and_eq_true] at h3
  rw [eTab_e (D6_lt h1 h2 ht h3.1)]
  rfl
/-- with either bound at first, the same below it -/
theorem eV_min {ap : Nat → Bool} : ∀ n t, t < n → t < 32 → eV 99 ap t = min 99 (eV 100 ap t)
  | 0, t, h, _ => by omega
  | n + 1, t, h, ht => by
    rw [eV_e ht, eV_e ht]
    by_cases h0 : t = 0
    · rw [h0]; rfl
    rw [if_neg h0, if_neg h0]
    have key : ∀ m, m ≤ t → minP 99 (fun k => subB k t && ap k) (fun k => eV 99 ap (D6 t k) + 1) m = min 99 (minP 100 (fun k => subB k t && ap k) (fun k => eV 100 ap (D6 t k) + 1) m) := by
      intro m
      induction m with
      | zero => intro _; rfl
      | succ m ih =>
        intro hm
        rw [minP, minP, ih (by omega)]
        cases hc : subB (m + 1) t && ap (m + 1)
        · rfl
        · rw [Bool.and_eq_true] at hc
          have hlt := D6_lt (show 1 ≤ m + 1 by omega) (by omega) ht hc.1
          have := eV_min (ap := ap) n (D6 t (m + 1)) (by omega) (by omega)
          simp only [if_true]
          rw [this]
          omega
    exact key t (Nat.le_refl t)
theorem eV_le (ap : Nat → Bool) (init t : Nat) (ht : t < 32) : eV init ap t ≤ init := by
  rw [eV_e ht]
  refine Nat.le_trans (minP_le).1 ?_
  split <;> omega
