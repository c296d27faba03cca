/-! SETS GONE THROUGH AS NUMBERS -/
def ob : Option Nat → Int32
  | none => -1
  | some k => nI k
def bestF (ok : Nat → Bool) (lt : Nat → Nat → Bool) : Nat → Option Nat
  | 0 => none
  | n + 1 => if ok n && ((bestF ok lt n).all (fun b => lt n b)) then some n else bestF ok lt n
theorem bestF_lt {ok : Nat → Bool} {lt : Nat → Nat → Bool} : ∀ {n b : Nat}, bestF ok lt n = some b → b < n ∧ ok b = true
  | 0, b, h => by cases h
  | n + 1, b, h => by
    rw [bestF] at h
    split at h
    · next q =>
      cases h
      rw [Bool.and_eq_true] at q
      exact ⟨by omega, q.1⟩
    · have := bestF_lt h
      exact ⟨by omega, this.2⟩
theorem bestF_congr {ok ok' : Nat → Bool} {lt lt' : Nat → Nat → Bool} : ∀ {n : Nat}, (∀ k, k < n → ok k = ok' k) → (∀ k b, k < n → b < n → lt k b = lt' k b) → bestF ok lt n = bestF ok' lt' n
  | 0, _, _ => rfl
  | n + 1, h, h2 => by
    have ih := bestF_congr (ok := ok) (ok' := ok') (lt := lt) (lt' := lt') (n := n) (fun k hk => h k (by omega)) (fun k b hk hb => h2 k b (by omega) (by omega))
    rw [bestF, bestF, ih, h n (by omega)]
    cases hb : bestF ok' lt' n with
    | none => rfl
    | some b =>
      have := (bestF_lt hb).1
      have e := h2 n b (by omega) (by omega)
      simp only [Option.all_some, e]
theorem bestF_ext {ok : Nat → Bool} {lt : Nat → Nat → Bool} {a : Nat} : ∀ {n : Nat}, a ≤ n → (∀ k, a ≤ k → k < n → ok k = false) → bestF ok lt n = bestF ok lt a
  | 0, h, _ => by rw [show a = 0 by omega]
  | n + 1, h, h0 => by
    by_cases e : a = n + 1
    · rw [e]
    · rw [bestF, h0 n (by omega) (by omega), Bool.false_and]
      exact bestF_ext (by omega) (fun k h1 h2 => h0 k h1 (by omega))
theorem ob_m {o : Option Nat} (h : ∀ b, o = some b → b < 2 ^ 31) : ob o = -1 ↔ o = none := by
  cases o with
  | none => exact iff_of_true rfl rfl
  | some b =>
    show nI b = -1 ↔ _
    rw [i_eqm (h b rfl)]
    simp
theorem ob_ge {o : Option Nat} (h : ∀ b, o = some b → b < 2 ^ 31) : 0 ≤ ob o ↔ ¬ o = none := by
  cases o with
  | none =>
    show (0 : Int32) ≤ -1 ↔ _
    simp
  | some b =>
    show 0 ≤ nI b ↔ _
    rw [i_0le (h b rfl)]
    simp
/-- fewer -/
def few (k b : Nat) : Bool := decide (bitsV (nI k) < bitsV (nI b))
theorem bt_big {k j n : Nat} (hk : k < 2 ^ n) (hj : n ≤ j) : bt (nI k) j = false := by
  rcases Nat.lt_or_ge j 32 with h | h
  · rw [bt_nI h]
    exact Nat.testBit_lt_two_pow (Nat.lt_of_lt_of_le hk (Nat.pow_le_pow_right (by omega) hj))
  · exact b_big h
theorem bcN {k : Nat} (hk : k < 8192) : bcV (nI k) = bitsV (nI k) := bc_small (fun j hj => bt_big (n := 13) hk hj)
/-- a number as a set: below 2 ^ n, its bits -/
theorem sub_le {k m : Nat} (hk : k < 2 ^ 31) (hm : m < 2 ^ 31) (h : nI k &&& nt (nI m) = 0) : k ≤ m := by
  have hb : ∀ i, k.testBit i = true → m.testBit i = true := fun i hi => by
    rcases Nat.lt_or_ge i 32 with q | q
    · have := bt_eq0.mp h i q
      rw [b_and, bt_nt _ q, bt_nI q, bt_nI q, hi] at this
      simpa using this
    · rw [Nat.testBit_lt_two_pow (Nat.lt_of_lt_of_le hk (Nat.pow_le_pow_right (by omega) (show 31 ≤ i by omega)))] at hi
      cases hi
  have : k &&& m = k := Nat.eq_of_testBit_eq fun i => by
    rw [Nat.testBit_and]
    cases hi : k.testBit i
    · rfl
    · rw [hb i hi]; rfl
  rw [← this]
  exact Nat.and_le_right
theorem set_nat {x : Int32} {n : Nat} (hn : n ≤ 31) (h : ∀ j, n ≤ j → bt x j = false) : ∃ m, m < 2 ^ n ∧ x = nI m := small_nI hn h
theorem pow_nI {n : Nat} (hn : n ≤ 12) : bi n = nI (2 ^ n) := (by decide +kernel : ∀ n, n ≤ 12 → bi n = nI (2 ^ n)) n hn
theorem pow_8192 {n : Nat} (hn : n ≤ 12) : 2 ^ n ≤ 4096 := (by decide +kernel : ∀ n, n ≤ 12 → 2 ^ n ≤ 4096) n hn
theorem pow_64 {n : Nat} (hn : n ≤ 6) : 2 ^ n ≤ 64 := (by decide +kernel : ∀ n, n ≤ 6 → 2 ^ n ≤ 64) n hn
theorem allF_nI {n : Nat} (hn : n ≤ 12) : bi n - 1 = nI (2 ^ n - 1) := (by decide +kernel : ∀ n, n ≤ 12 → bi n - 1 = nI (2 ^ n - 1)) n hn
section Fewer
variable {d : Nat} {m : am_M} {post : Option Value → am_M → Prop}
theorem isFewer_ok {k : Nat} {o : Option Nat} (hk : k < 8192) (ho : ∀ b, o = some b → b < 8192) : Cl (d + 1) 147 [.int (nI k), .int (ob o)] m post ↔ post (some (.int (b2i (o.all (fun b => few k b))))) m := by
  rw [op_147]
  cases o with
  | none =>
    simp (disch := first | exact am_nl_i _ | exact am_nl_r _ | exact am_nl_0 | assumption | omega | (refine vi_nI ?_ ?_ <;> omega) | exact b2i_01 _ | exact Or.inl rfl | exact Or.inr rfl | (unfold vi; decide)) only [ex_147_0, ex_147_1, ex_147_2, ex_147_5, ex_147_6, ex_147_9, ex_147_10, ex_147_13, ex_147_16, ex_147_17, ex_147_20, ex_147_21, if_true, if_false, and_self, Option.toList_some, Option.toList_none, List.singleton_append, List.cons_append, List.nil_append, List.append_nil, nI_1, nt_e, Int32.le_refl, show ob none = -1 from rfl]
    exact Iff.rfl
  | some b =>
    have hb := ho b rfl
    simp (disch := first | exact am_nl_i _ | exact am_nl_r _ | exact am_nl_0 | assumption | omega | (refine vi_nI ?_ ?_ <;> omega) | exact b2i_01 _ | exact Or.inl rfl | exact Or.inr rfl | (unfold vi; decide)) only [ex_147_0, ex_147_1, ex_147_2, ex_147_5, ex_147_6, ex_147_9, ex_147_10, ex_147_13, ex_147_16, ex_147_17, ex_147_20, ex_147_21, if_true, if_false, and_self, Option.toList_some, Option.toList_none, List.singleton_append, List.cons_append, List.nil_append, List.append_nil, nI_1, nt_e, Int32.le_refl, show ob (some b) = nI b from rfl, i_eqm, bc_ok, bcN, hb]
    rw [Option.all_some, few]
    by_cases q : bitsV (nI k) < bitsV (nI b)
    · rw [if_neg (Int32.not_le.mpr q), decide_eq_true q]; rfl
    · rw [if_pos (Int32.not_lt.mp q), decide_eq_false q]; rfl
end Fewer
