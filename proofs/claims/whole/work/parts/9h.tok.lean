/-! TOKENS -/
def isL (c : Nat) : Bool := decide (97 ≤ c ∧ c ≤ 122)
def isD (c : Nat) : Bool := decide (48 ≤ c ∧ c ≤ 57)
def isW (c : Nat) : Bool := decide (c = 32 ∨ c = 10)
def isM (c : Nat) : Bool := decide ((40 ≤ c ∧ c ≤ 43) ∨ c = 45 ∨ (59 ≤ c ∧ c ≤ 61))
def runF (p : Nat → Bool) (f : Nat → Nat) : Nat → Nat → Nat
  | 0, _ => 0
  | k + 1, s => if p (f s) then runF p f k (s + 1) + 1 else 0
theorem runF_le {p : Nat → Bool} {f : Nat → Nat} : ∀ {k s : Nat}, runF p f k s ≤ k
  | 0, _ => Nat.le_refl _
  | k + 1, s => by
    rw [runF]
    have := runF_le (p := p) (f := f) (k := k) (s := s + 1)
    split <;> omega
theorem runF_eq {p : Nat → Bool} {f : Nat → Nat} : ∀ {k s j : Nat}, j ≤ k → (∀ i, i < j → p (f (s + i)) = true) → (j < k → p (f (s + j)) = false) → runF p f k s = j
  | 0, s, j, h, _, _ => by rw [runF]; omega
  | k + 1, s, 0, _, _, h => by
    rw [runF, if_neg (by rw [show p (f s) = false from h (by omega)]; decide)]
  | k + 1, s, j + 1, h0, h1, h2 => by
    rw [runF, if_pos (show p (f s) = true from h1 0 (by omega)), runF_eq (j := j) (by omega) (fun i hi => by rw [show s + 1 + i = s + (i + 1) by omega]; exact h1 (i + 1) (by omega)) (fun hk => by rw [show s + 1 + j = s + (j + 1) by omega]; exact h2 (by omega))]
theorem runF_in {p : Nat → Bool} {f : Nat → Nat} : ∀ {k s i : Nat}, i < runF p f k s → p (f (s + i)) = true
  | 0, s, i, h => absurd h (Nat.not_lt_zero i)
  | k + 1, s, i, h => by
    rw [runF] at h
    by_cases q : p (f s) = true
    · rw [if_pos q] at h
      cases i with
      | zero => exact q
      | succ i =>
        rw [show s + (i + 1) = s + 1 + i by omega]
        exact runF_in (k := k) (by omega)
    · rw [if_neg q] at h
      exact absurd h (Nat.not_lt_zero i)
theorem runF_out {p : Nat → Bool} {f : Nat → Nat} : ∀ {k s : Nat}, runF p f k s < k → p (f (s + runF p f k s)) = false
  | 0, s, h => absurd h (Nat.not_lt_zero _)
  | k + 1, s, h => by
    rw [runF] at h ⊢
    by_cases q : p (f s) = true
    · rw [if_pos q] at h ⊢
      rw [show s + (runF p f k (s + 1) + 1) = s + 1 + runF p f k (s + 1) by omega]
      exact runF_out (by omega)
    · rw [if_neg q]
      simpa using q
/-- what a token is (0 end, 1 word, 2 number, 3 sign, 4 none), its first sign's place, its letters, digits or sign -/
abbrev Tok : Type := Nat × Nat × List Nat
def wordAt (f : Nat → Nat) (d q l : Nat) : List Nat := (List.range l).map (fun j => f (q + j) - d)
theorem wordAt_s {f : Nat → Nat} {d q l : Nat} : wordAt f d q (l + 1) = wordAt f d q l ++ [f (q + l) - d] := by
  unfold wordAt
  rw [List.range_succ, List.map_append]
  rfl
def tokQ (n : Nat) (f : Nat → Nat) (q : Nat) : Tok × Nat :=
  if n ≤ q then ((0, q, []), q)
  else if isL (f q) then ((if 8 < runF isL f (n - q) q then 4 else 1, q, wordAt f 96 q (runF isL f (n - q) q)), q + runF isL f (n - q) q)
  else if isD (f q) then ((if 4 < runF isD f (n - q) q then 4 else 2, q, wordAt f 48 q (runF isD f (n - q) q)), q + runF isD f (n - q) q)
  else ((if isM (f q) then 3 else 4, q, [f q]), q + 1)
def skipF (n : Nat) (f : Nat → Nat) (p : Nat) : Nat := p + runF isW f (n - p) p
def tokP (n : Nat) (f : Nat → Nat) (p : Nat) : Tok × Nat := tokQ n f (skipF n f p)
def posF (n : Nat) (f : Nat → Nat) : Nat → Nat
  | 0 => 0
  | i + 1 => (tokP n f (posF n f i)).2
def tk (n : Nat) (f : Nat → Nat) (i : Nat) : Tok := (tokP n f (posF n f i)).1
theorem skip_le {n p : Nat} {f : Nat → Nat} (h : p ≤ n) : p ≤ skipF n f p ∧ skipF n f p ≤ n := by
  have := runF_le (p := isW) (f := f) (k := n - p) (s := p)
  unfold skipF
  omega
theorem skip_s {n p : Nat} {f : Nat → Nat} (h : p < n) (hw : isW (f p) = true) : skipF n f (p + 1) = skipF n f p := by
  unfold skipF
  rw [show n - p = (n - (p + 1)) + 1 by omega, runF, if_pos hw]
  omega
theorem skip_n {n p : Nat} {f : Nat → Nat} (hw : p < n → isW (f p) = false) : skipF n f p = p := by
  unfold skipF
  rw [runF_eq (j := 0) (Nat.zero_le _) (fun i hi => absurd hi (Nat.not_lt_zero i)) (fun h => hw (by omega))]
  rfl
theorem isL_W {c : Nat} (h : isL c = true) : isW c = false := by
  unfold isL at h
  have := of_decide_eq_true h
  unfold isW
  exact decide_eq_false (by omega)
theorem isD_W {c : Nat} (h : isD c = true) : isW c = false := by
  unfold isD at h
  have := of_decide_eq_true h
  unfold isW
  exact decide_eq_false (by omega)
theorem runF_pos {p : Nat → Bool} {f : Nat → Nat} {k s : Nat} (hk : 0 < k) (h : p (f s) = true) : 0 < runF p f k s := by
  rw [show k = (k - 1) + 1 by omega, runF, if_pos h]
  omega
theorem tokQ_le {n q : Nat} {f : Nat → Nat} (h : q ≤ n) : (tokQ n f q).2 ≤ n ∧ (q < n → q < (tokQ n f q).2) ∧ (tokQ n f q).1.2.1 = q ∧ ((tokQ n f q).1.1 = 0 ↔ q = n) := by
  unfold tokQ
  have h1 := runF_le (p := isL) (f := f) (k := n - q) (s := q)
  have h2 := runF_le (p := isD) (f := f) (k := n - q) (s := q)
  by_cases e : n ≤ q
  · rw [if_pos e]
    exact ⟨h, fun h => by omega, rfl, ⟨fun _ => by omega, fun _ => rfl⟩⟩
  rw [if_neg e]
  by_cases e1 : isL (f q) = true
  · rw [if_pos e1]
    have := runF_pos (f := f) (k := n - q) (by omega) e1
    refine ⟨by show q + _ ≤ n; omega, fun _ => by show q < q + _; omega, rfl, ⟨fun h => ?_, fun h => by omega⟩⟩
    have h : (if 8 < runF isL f (n - q) q then 4 else 1) = 0 := h
    split at h <;> omega
  rw [if_neg e1]
  by_cases e2 : isD (f q) = true
  · rw [if_pos e2]
    have := runF_pos (f := f) (k := n - q) (by omega) e2
    refine ⟨by show q + _ ≤ n; omega, fun _ => by show q < q + _; omega, rfl, ⟨fun h => ?_, fun h => by omega⟩⟩
    have h : (if 4 < runF isD f (n - q) q then 4 else 2) = 0 := h
    split at h <;> omega
  rw [if_neg e2]
  refine ⟨by show q + 1 ≤ n; omega, fun _ => by show q < q + 1; omega, rfl, ⟨fun h => ?_, fun h => by omega⟩⟩
  have h : (if isM (f q) then 3 else 4) = 0 := h
  split at h <;> omega
theorem posF_le {n : Nat} {f : Nat → Nat} : ∀ i, posF n f i ≤ n
  | 0 => Nat.zero_le _
  | i + 1 => by
    rw [posF]
    exact (tokQ_le (skip_le (posF_le i)).2).1
theorem tk_c0 {n i : Nat} {f : Nat → Nat} : (tk n f i).1 = 0 ↔ skipF n f (posF n f i) = n := (tokQ_le (skip_le (posF_le i)).2).2.2.2
theorem tk_b {n i : Nat} {f : Nat → Nat} : (tk n f i).2.1 = skipF n f (posF n f i) := (tokQ_le (skip_le (posF_le i)).2).2.2.1
theorem tk_ble {n i : Nat} {f : Nat → Nat} : (tk n f i).2.1 ≤ n := by rw [tk_b]; exact (skip_le (posF_le i)).2
theorem posF_lt {n i : Nat} {f : Nat → Nat} (h : ¬ (tk n f i).1 = 0) : posF n f i < posF n f (i + 1) := by
  have h1 := skip_le (f := f) (posF_le (n := n) (f := f) i)
  have h2 := tokQ_le (f := f) h1.2
  have h3 : ¬ skipF n f (posF n f i) = n := fun e => h (tk_c0.mpr e)
  have := h2.2.1 (by omega)
  rw [posF]
  exact Nat.lt_of_le_of_lt h1.1 this
theorem posF_end {n i : Nat} {f : Nat → Nat} (h : (tk n f i).1 = 0) : posF n f (i + 1) = n := by
  rw [posF, tokP, tk_c0.mp h]
  unfold tokQ
  rw [if_pos (Nat.le_refl n)]
theorem tk_n {n i : Nat} {f : Nat → Nat} (h : skipF n f (posF n f i) = n) : tk n f i = (0, n, []) := by
  rw [tk, tokP, h]
  unfold tokQ
  rw [if_pos (Nat.le_refl n)]
theorem tk_end {n i : Nat} {f : Nat → Nat} (h : (tk n f i).1 = 0) : tk n f (i + 1) = tk n f i := by
  rw [tk_n (tk_c0.mp h), tk_n (n := n)]
  rw [posF_end h]
  exact skip_n (fun h => absurd h (Nat.lt_irrefl n))
theorem pos_ge {n : Nat} {f : Nat → Nat} : ∀ k, (∀ i, i < k → ¬ (tk n f i).1 = 0) → k ≤ posF n f k
  | 0, _ => Nat.zero_le _
  | k + 1, h => by
    have h1 := pos_ge k (fun i hi => h i (by omega))
    have h2 := posF_lt (h k (by omega))
    omega
theorem least_of {P : Nat → Prop} : ∀ n, (∃ i, i ≤ n ∧ P i) → ∃ m, m ≤ n ∧ P m ∧ ∀ i, i < m → ¬ P i
  | 0, ⟨i, h1, h2⟩ => ⟨0, Nat.le_refl _, by rw [show i = 0 by omega] at h2; exact h2, fun i hi => absurd hi (Nat.not_lt_zero i)⟩
  | n + 1, ⟨i, h1, h2⟩ => by
    by_cases q : ∃ j, j ≤ n ∧ P j
    · obtain ⟨m, a, b, c⟩ := least_of n q
      exact ⟨m, by omega, b, c⟩
    · refine ⟨i, h1, h2, fun j hj hp => q ⟨j, by omega, hp⟩⟩
/-- m tokens stand before the end -/
def EndAt (n : Nat) (f : Nat → Nat) (m : Nat) : Prop := m ≤ n ∧ (tk n f m).1 = 0 ∧ ∀ i, i < m → ¬ (tk n f i).1 = 0
theorem end_ex (n : Nat) (f : Nat → Nat) : ∃ m, EndAt n f m := by
  refine least_of n ?_
  by_cases q : ∃ i, i ≤ n ∧ (tk n f i).1 = 0
  · exact q
  · have := pos_ge (n := n) (f := f) (n + 1) (fun i hi e => q ⟨i, by omega, e⟩)
    have := posF_le (n := n) (f := f) (n + 1)
    omega
theorem end_ge {n m i : Nat} {f : Nat → Nat} (h : EndAt n f m) : m ≤ i → tk n f i = tk n f m := by
  intro hi
  obtain ⟨k, rfl⟩ : ∃ k, i = m + k := ⟨i - m, by omega⟩
  clear hi
  induction k with
  | zero => rfl
  | succ k ih =>
    have e : (tk n f (m + k)).1 = 0 := by rw [ih]; exact h.2.1
    exact (tk_end e).trans ih
theorem end_lt {n m i : Nat} {f : Nat → Nat} (h : EndAt n f m) (hc : ¬ (tk n f i).1 = 0) : i < m := by
  by_cases q : i < m
  · exact q
  · rw [end_ge h (by omega)] at hc
    exact absurd h.2.1 hc
/-! WORDS AS NUMBERS -/
def bas (b : Nat) (w : List Nat) : Nat := w.foldl (fun a x => a * b + x) 0
theorem bas_s {b x : Nat} {w : List Nat} : bas b (w ++ [x]) = bas b w * b + x := by
  unfold bas
  rw [List.foldl_append]
  rfl
theorem bas_lt {b : Nat} (hb : 0 < b) : ∀ {l : Nat} {f : Nat → Nat} {d q : Nat}, (∀ j, j < l → f (q + j) - d < b) → bas b (wordAt f d q l) < b ^ l
  | 0, _, _, _, _ => by show 0 < 1; decide
  | l + 1, f, d, q, h => by
    rw [wordAt_s, bas_s, Nat.pow_succ]
    have h1 := bas_lt hb (l := l) (f := f) (d := d) (q := q) (fun j hj => h j (by omega))
    have h2 := h l (by omega)
    have : (bas b (wordAt f d q l) + 1) * b ≤ b ^ l * b := Nat.mul_le_mul_right b h1
    rw [Nat.succ_mul] at this
    omega
/-- a word that may be a name: one to eight letters -/
def WordOk (w : List Nat) : Prop := 1 ≤ w.length ∧ w.length ≤ 8 ∧ ∀ x, x ∈ w → 1 ≤ x ∧ x ≤ 26
theorem snoc_ind {P : List Nat → Prop} (h0 : P []) (h1 : ∀ w x, P w → P (w ++ [x])) (w : List Nat) : P w := by
  have key : ∀ k (w : List Nat), w.length = k → P w := by
    intro k
    induction k with
    | zero => intro w hw; rw [List.length_eq_zero_iff.mp hw]; exact h0
    | succ k ih =>
      intro w hw
      have hne : w ≠ [] := fun e => by rw [e] at hw; exact absurd hw (by simp)
      rw [← List.dropLast_concat_getLast hne]
      exact h1 _ _ (ih _ (by rw [List.length_dropLast, hw]; rfl))
  exact key _ w rfl
theorem bas_inj {b : Nat} (hb : 26 < b) {w : List Nat} : (∀ x, x ∈ w → 1 ≤ x ∧ x ≤ 26) → ∀ w', (∀ x, x ∈ w' → 1 ≤ x ∧ x ≤ 26) → bas b w = bas b w' → w = w' := by
  refine snoc_ind (P := fun w => (∀ x, x ∈ w → 1 ≤ x ∧ x ≤ 26) → ∀ w', (∀ x, x ∈ w' → 1 ≤ x ∧ x ≤ 26) → bas b w = bas b w' → w = w') ?_ ?_ w
  · intro _ w'
    refine snoc_ind (P := fun w' => (∀ x, x ∈ w' → 1 ≤ x ∧ x ≤ 26) → bas b [] = bas b w' → [] = w') (fun _ _ => rfl) (fun w' x _ h e => ?_) w'
    rw [bas_s] at e
    have := h x (by simp)
    have e : 0 = _ := e
    omega
  · intro w x ih hx w'
    refine snoc_ind (P := fun w' => (∀ x, x ∈ w' → 1 ≤ x ∧ x ≤ 26) → bas b (w ++ [x]) = bas b w' → w ++ [x] = w') (fun _ e => ?_) (fun w' y _ h e => ?_) w'
    · rw [bas_s] at e
      have := hx x (by simp)
      have e : _ = 0 := e
      omega
    · rw [bas_s, bas_s] at e
      have h1 := hx x (by simp)
      have h2 := h y (by simp)
      have e1 : x = y := by
        have := congrArg (· % b) e
        simp only [Nat.mul_comm _ b, Nat.mul_add_mod] at this
        rwa [Nat.mod_eq_of_lt (by omega), Nat.mod_eq_of_lt (by omega)] at this
      have e2 : bas b w = bas b w' := by
        rw [e1] at e
        exact Nat.eq_of_mul_eq_mul_right (by omega) (Nat.add_right_cancel e)
      rw [e1, ih (fun z hz => hx z (by simp [hz])) w' (fun z hz => h z (by simp [hz])) e2]
theorem bas_big {b : Nat} {w : List Nat} (hw : WordOk w) (hb : 26 < b) (hb2 : b ≤ 32) : bas b w < 2 ^ 40 := by
  have key : ∀ w : List Nat, (∀ x, x ∈ w → 1 ≤ x ∧ x ≤ 26) → bas b w < b ^ w.length := fun w => by
    refine snoc_ind (P := fun w => (∀ x, x ∈ w → 1 ≤ x ∧ x ≤ 26) → bas b w < b ^ w.length) (fun _ => by show 0 < 1; decide) (fun w x ih h => ?_) w
    rw [bas_s, List.length_append, List.length_singleton, Nat.pow_succ]
    have h1 := ih (fun z hz => h z (by simp [hz]))
    have h2 := h x (by simp)
    have : (bas b w + 1) * b ≤ b ^ w.length * b := Nat.mul_le_mul_right b h1
    rw [Nat.succ_mul] at this
    omega
  have h1 := key w hw.2.2
  have h2 : b ^ w.length ≤ 32 ^ w.length := Nat.pow_le_pow_left hb2 _
  have h3 : 32 ^ w.length ≤ 32 ^ 8 := Nat.pow_le_pow_right (by decide) hw.2.1
  have h4 : (32 : Nat) ^ 8 = 2 ^ 40 := by decide
  omega
