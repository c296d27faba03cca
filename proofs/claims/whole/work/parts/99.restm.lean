/-! RESTS: the choosing is one scan over all codes -/
theorem scanF_add {F : Nat → FS → FS} : ∀ {a b k : Nat} {st : FS}, scanF F (a + b) k st = scanF F b (k + a) (scanF F a k st)
  | 0, b, k, st => by rw [Nat.zero_add]; rfl
  | a + 1, b, k, st => by
    rw [show a + 1 + b = (a + b) + 1 by omega, scanF, scanF_add, scanF, show k + 1 + a = k + (a + 1) by omega]
theorem scanF_congr {F G : Nat → FS → FS} : ∀ {n k : Nat} {st : FS}, (∀ i, k ≤ i → i < k + n → ∀ st, F i st = G i st) → scanF F n k st = scanF G n k st
  | 0, _, _, _ => rfl
  | n + 1, k, st, h => by
    rw [scanF, scanF, h k (Nat.le_refl _) (by omega)]
    exact scanF_congr (fun i h1 h2 => h i (by omega) (by omega))
theorem scanF_id {F : Nat → FS → FS} : ∀ {n k : Nat} {st : FS}, (∀ i, k ≤ i → i < k + n → ∀ st, F i st = st) → scanF F n k st = st
  | 0, _, _, _ => rfl
  | n + 1, k, st, h => by
    rw [scanF, h k (Nat.le_refl _) (by omega)]
    exact scanF_id (fun i h1 h2 => h i (by omega) (by omega))
theorem scanF_shift {F : Nat → FS → FS} {c : Nat} : ∀ {n k : Nat} {st : FS}, scanF F n (c + k) st = scanF (fun i => F (c + i)) n k st
  | 0, _, _ => rfl
  | n + 1, k, st => by
    rw [scanF, scanF, show c + k + 1 = c + (k + 1) by omega]
    exact scanF_shift
theorem scanF_blocks {F : Nat → FS → FS} {B : Nat} : ∀ {m k : Nat} {st : FS}, scanF F (m * B) (k * B) st = scanF (fun d => scanF F B (d * B)) m k st
  | 0, k, st => by rw [Nat.zero_mul]; rfl
  | m + 1, k, st => by
    rw [show (m + 1) * B = B + m * B by rw [Nat.succ_mul]; omega, scanF_add, scanF, show k * B + B = (k + 1) * B by rw [Nat.succ_mul]]
    exact scanF_blocks
def restF (v : LV) (l : LF) (n : Nat) (pp : Nat → Nat) : Nat → (Nat → Nat) → Nat → Bool
  | 0, _, _ => true
  | m + 1, σ, x => decide (x / 13 ^ m ≤ nP v) && (decide (gainS v l (pp (n - (m + 1))) σ (x / 13 ^ m) = mostS v l (pp (n - (m + 1))) σ) && restF v l n pp m (useS v l (pp (n - (m + 1))) σ (x / 13 ^ m)) (x % 13 ^ m))
def tryF (v : LV) (l : LF) (w : Int32) (n : Nat) (pp : Nat → Nat) (m : Nat) (σ : Nat → Nat) (P x : Nat) (st : FS) : FS := if restF v l n pp m σ x then hitS w (13 ^ m * P + x) st else st
theorem chS_scan {v : LV} {l : LF} {w : Int32} {n : Nat} {pp : Nat → Nat} (h12 : nP v ≤ 12) : ∀ (m : Nat) (σ : Nat → Nat) (P : Nat) (st : FS), chS v l w n pp m σ P st = scanF (tryF v l w n pp m σ P) (13 ^ m) 0 st
  | 0, σ, P, st => by
    show hitS w P st = tryF v l w n pp 0 σ P 0 st
    unfold tryF
    rw [show restF v l n pp 0 σ 0 = true from rfl, if_pos rfl, Nat.pow_zero, Nat.one_mul, Nat.add_zero]
  | m + 1, σ, P, st => by
    have hB : 0 < 13 ^ m := Nat.pow_pos (by omega)
    have hd : ∀ d i, d * 13 ^ m ≤ i → i < d * 13 ^ m + 13 ^ m → i / 13 ^ m = d ∧ i % 13 ^ m = i - d * 13 ^ m := fun d i h1 h2 => by
      have e : i = i - d * 13 ^ m + 13 ^ m * d := by rw [Nat.mul_comm (13 ^ m) d]; omega
      have lt : i - d * 13 ^ m < 13 ^ m := by omega
      constructor
      · rw [e, Nat.add_mul_div_left _ _ hB, Nat.div_eq_of_lt lt, Nat.zero_add]
      · rw [e, Nat.add_mul_mod_self_left, Nat.mod_eq_of_lt lt]; omega
    have split : scanF (tryF v l w n pp (m + 1) σ P) (13 ^ (m + 1)) 0 st = scanF (fun d => scanF (tryF v l w n pp (m + 1) σ P) (13 ^ m) (d * 13 ^ m)) 13 0 st := by
      rw [Nat.pow_succ, Nat.mul_comm (13 ^ m) 13]
      have := scanF_blocks (F := tryF v l w n pp (m + 1) σ P) (B := 13 ^ m) (m := 13) (k := 0) (st := st)
      rwa [Nat.zero_mul] at this
    have e13 : ∀ (G : Nat → FS → FS) (st : FS), scanF G 13 0 st = scanF G (12 - nP v) (nP v + 1) (scanF G (nP v + 1) 0 st) := fun G st => by
      have := scanF_add (F := G) (a := nP v + 1) (b := 12 - nP v) (k := 0) (st := st)
      rwa [show nP v + 1 + (12 - nP v) = 13 by omega, Nat.zero_add] at this
    rw [split, e13, scanF_id (n := 12 - nP v), chS]
    · refine scanF_congr (fun d h1 h2 st => ?_)
      have e0 : scanF (tryF v l w n pp (m + 1) σ P) (13 ^ m) (d * 13 ^ m) st = scanF (fun i => tryF v l w n pp (m + 1) σ P (d * 13 ^ m + i)) (13 ^ m) 0 st := by
        have := scanF_shift (F := tryF v l w n pp (m + 1) σ P) (c := d * 13 ^ m) (n := 13 ^ m) (k := 0) (st := st)
        rwa [Nat.add_zero] at this
      by_cases q : gainS v l (pp (n - (m + 1))) σ d = mostS v l (pp (n - (m + 1))) σ
      · rw [if_pos q, chS_scan h12 m]
        refine Eq.trans ?_ e0.symm
        refine scanF_congr (fun i h3 h4 st => ?_)
        have e := hd d (d * 13 ^ m + i) (by omega) (by omega)
        unfold tryF
        rw [restF, e.1, e.2, decide_eq_true (show d ≤ nP v by omega), decide_eq_true q, show d * 13 ^ m + i - d * 13 ^ m = i by omega, Bool.true_and, Bool.true_and, show 13 ^ m * (13 * P + d) + i = 13 ^ (m + 1) * P + (d * 13 ^ m + i) by rw [Nat.mul_add, Nat.pow_succ, Nat.mul_assoc, Nat.mul_comm (13 ^ m) d, Nat.add_assoc]]
      · rw [if_neg q]
        refine Eq.symm (e0.trans (scanF_id (fun i h3 h4 st => ?_)))
        have e := hd d (d * 13 ^ m + i) (by omega) (by omega)
        unfold tryF
        rw [restF, e.1, decide_eq_false q, Bool.false_and, Bool.and_false, if_neg (by decide)]
    · intro d h1 h2 st
      refine scanF_id (fun i h3 h4 st => ?_)
      have e := hd d i h3 h4
      unfold tryF
      rw [restF, e.1, decide_eq_false (show ¬ d ≤ nP v by omega), Bool.false_and, if_neg (by decide)]
