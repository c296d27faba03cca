/-! RESTS: the code's digits; what is left ahead of each -/
def stAt (v : LV) (l : LF) (pp : Nat → Nat) (σ : Nat → Nat) (ch : Nat → Nat) : Nat → (Nat → Nat)
  | 0 => σ
  | k + 1 => useS v l (pp k) (stAt v l pp σ ch k) (ch k)
theorem stAt_congr {v : LV} {l : LF} {pp σ ch ch' : Nat → Nat} : ∀ {k : Nat}, (∀ j, j < k → ch j = ch' j) → stAt v l pp σ ch k = stAt v l pp σ ch' k
  | 0, _ => rfl
  | k + 1, h => by rw [stAt, stAt, stAt_congr (k := k) (fun j hj => h j (by omega)), h k (by omega)]
theorem mostN_ge {f : Nat → Int32} : ∀ {N c : Nat}, c ≤ N → f c ≤ mostN f N
  | 0, c, h => by rw [show c = 0 by omega]; exact Int32.le_refl _
  | N + 1, c, h => by
    rw [mostN]
    by_cases e : c = N + 1
    · rw [e]
      split
      · exact Int32.le_refl _
      · next q => exact Int32.not_lt.mp q
    · have := mostN_ge (f := f) (N := N) (c := c) (by omega)
      split
      · next q => exact Int32.le_trans this (Int32.le_of_lt q)
      · exact this
theorem mostN_is {f : Nat → Int32} : ∀ N, ∃ c, c ≤ N ∧ mostN f N = f c
  | 0 => ⟨0, Nat.le_refl _, rfl⟩
  | N + 1 => by
    rw [mostN]
    split
    · exact ⟨N + 1, Nat.le_refl _, rfl⟩
    · obtain ⟨c, h1, h2⟩ := mostN_is (f := f) N
      exact ⟨c, by omega, h2⟩
theorem most_iff {f : Nat → Int32} {N d : Nat} (hd : d ≤ N) : f d = mostN f N ↔ ∀ c, c ≤ N → ¬ f d < f c := by
  constructor
  · intro h c hc
    rw [h]
    exact Int32.not_lt.mpr (mostN_ge hc)
  · intro h
    obtain ⟨c, h1, h2⟩ := mostN_is (f := f) N
    rw [h2]
    exact Int32.le_antisymm (h2 ▸ mostN_ge hd) (Int32.not_lt.mp (h c h1))
theorem dig_mod {x m j : Nat} (h : j < m) : x % 13 ^ m / 13 ^ j % 13 = x / 13 ^ j % 13 := by
  have e : 13 ^ m = 13 ^ j * 13 ^ (m - j) := by rw [← Nat.pow_add, show j + (m - j) = m by omega]
  rw [e, Nat.mod_mul_right_div_self]
  refine Nat.mod_mod_of_dvd _ ?_
  rw [show m - j = (m - j - 1) + 1 by omega, Nat.pow_succ]
  exact Nat.dvd_mul_left 13 _
theorem restF_at {v : LV} {l : LF} {n : Nat} {pp σ ch : Nat → Nat} : ∀ (m : Nat), m ≤ n → ∀ x, x < 13 ^ m → (∀ k, n - m ≤ k → k < n → ch k = x / 13 ^ (n - 1 - k) % 13) → (restF v l n pp m (stAt v l pp σ ch (n - m)) x = true ↔ ∀ k, n - m ≤ k → k < n → ch k ≤ nP v ∧ gainS v l (pp k) (stAt v l pp σ ch k) (ch k) = mostS v l (pp k) (stAt v l pp σ ch k))
  | 0, _, x, _, _ => ⟨fun _ k h1 h2 => by omega, fun _ => rfl⟩
  | m + 1, hm, x, hx, hch => by
    have hB : 0 < 13 ^ m := Nat.pow_pos (by omega)
    have hk : n - 1 - (n - (m + 1)) = m := by omega
    have hlt : x / 13 ^ m < 13 := Nat.div_lt_of_lt_mul (by rw [Nat.pow_succ] at hx; exact hx)
    have e0 : ch (n - (m + 1)) = x / 13 ^ m := by
      rw [hch _ (Nat.le_refl _) (by omega), hk, Nat.mod_eq_of_lt hlt]
    have ih := restF_at (v := v) (l := l) (n := n) (pp := pp) (σ := σ) (ch := ch) m (by omega) (x % 13 ^ m) (Nat.mod_lt _ hB) (fun k h1 h2 => by rw [dig_mod (by omega)]; exact hch k (by omega) h2)
    have es : stAt v l pp σ ch (n - m) = useS v l (pp (n - (m + 1))) (stAt v l pp σ ch (n - (m + 1))) (ch (n - (m + 1))) := by
      rw [show n - m = n - (m + 1) + 1 by omega, stAt]
    rw [es, e0] at ih
    rw [restF, Bool.and_eq_true, Bool.and_eq_true, decide_eq_true_eq, decide_eq_true_eq, ih]
    constructor
    · intro ⟨h1, h2, h3⟩ k hk1 hk2
      by_cases e : k = n - (m + 1)
      · rw [e, e0]; exact ⟨h1, h2⟩
      · exact h3 k (by omega) hk2
    · intro h
      have h0 := h (n - (m + 1)) (Nat.le_refl _) (by omega)
      rw [e0] at h0
      exact ⟨h0.1, h0.2, fun k hk1 hk2 => h k (by omega) hk2⟩
