/-! FORMULAS: how tokens are parsed -/
/-- a formula: its steps, its value, how much of the stack it wants -/
abbrev Fm : Type := List Int32 × (Int32 → Int32 → Int32) × Nat
def fmNum (n : Nat) : Fm := ([nI (n * 16)], fun _ _ => nI n, 1)
def fmHv : Fm := ([1], fun h _ => h, 1)
def fmOt : Fm := ([2], fun _ o => o, 1)
def fmNt (e : Fm) : Fm := (e.1 ++ [3], fun h o => b2i (decide (e.2.1 h o = 0)), e.2.2)
def fmBin (s : Nat) (a b : Fm) : Fm := (a.1 ++ (b.1 ++ [nI s]), fun h o => joinP (nI s) (a.2.1 h o) (b.2.1 h o), max a.2.2 (b.2.2 + 1))
def stB (oth c : Nat) : Bool := decide (c = 2) || decide (c = 223) || decide (c = 40) || decide (c = 226) || decide (c = oth)
def jn (l c : Nat) : Option Nat :=
  if l = 0 then (if c = 224 then some 4 else if c = 225 then some 5 else none)
  else if l = 1 then (if c = 60 then some 6 else if c = 61 then some 7 else none)
  else if l = 2 then (if c = 43 then some 8 else if c = 45 then some 9 else none)
  else if l = 3 then (if c = 42 then some 10 else none) else none
abbrev Rt : Type := Except Nat (Fm × Nat)
/-- the rules of parsing, for three relations: of a PART, of a level, of a level's further steps -/
def PrR (T : Nat → Tok) (oth : Nat) (Qp : Nat → Nat → Rt → Prop) (Ql : Nat → Nat → Nat → Rt → Prop) (Qo : Nat → Nat → Fm → Nat → Bool → Rt → Prop) : Prop :=
  (∀ d i, stB oth (csort (T i)) = false → Qp d i (.error (fl 1 (T i)))) ∧
  (∀ d i, stB oth (csort (T i)) = true → 5 ≤ d → Qp d i (.error (fl 5 (T i)))) ∧
  (∀ d i, csort (T i) = 2 → d < 5 → Qp d i (.ok (fmNum (bas 10 (T i).2.2), i + 1))) ∧
  (∀ d i, csort (T i) = 226 → d < 5 → Qp d i (.ok (fmHv, i + 1))) ∧
  (∀ d i, csort (T i) = oth → d < 5 → Qp d i (.ok (fmOt, i + 1))) ∧
  (∀ d i e, csort (T i) = 223 → d < 5 → Qp (d + 1) (i + 1) (.error e) → Qp d i (.error e)) ∧
  (∀ d i e j, csort (T i) = 223 → d < 5 → Qp (d + 1) (i + 1) (.ok (e, j)) → Qp d i (.ok (fmNt e, j))) ∧
  (∀ d i e, csort (T i) = 40 → d < 5 → Ql 0 (d + 1) (i + 1) (.error e) → Qp d i (.error e)) ∧
  (∀ d i e j, csort (T i) = 40 → d < 5 → Ql 0 (d + 1) (i + 1) (.ok (e, j)) → ¬ csort (T j) = 41 → Qp d i (.error (fl 1 (T j)))) ∧
  (∀ d i e j, csort (T i) = 40 → d < 5 → Ql 0 (d + 1) (i + 1) (.ok (e, j)) → csort (T j) = 41 → Qp d i (.ok (e, j + 1))) ∧
  (∀ d i r, Qp d i r → Ql 4 d i r) ∧
  (∀ l d i e, l < 4 → Ql (l + 1) d i (.error e) → Ql l d i (.error e)) ∧
  (∀ l d i e j r, l < 4 → Ql (l + 1) d i (.ok (e, j)) → Qo l d e j false r → Ql l d i r) ∧
  (∀ l d e j c, l < 4 → (jn l (csort (T j)) = none ∨ (l = 1 ∧ c = true)) → Qo l d e j c (.ok (e, j))) ∧
  (∀ l d e j c s x, l < 4 → jn l (csort (T j)) = some s → ¬ (l = 1 ∧ c = true) → Ql (l + 1) d (j + 1) (.error x) → Qo l d e j c (.error x)) ∧
  (∀ l d e j c s e2 j2 r, l < 4 → jn l (csort (T j)) = some s → ¬ (l = 1 ∧ c = true) → Ql (l + 1) d (j + 1) (.ok (e2, j2)) → Qo l d (fmBin s e e2) j2 true r → Qo l d e j c r)
/-- what all relations that keep the rules have in common -/
def PrP (T : Nat → Tok) (oth : Nat) (d i : Nat) (r : Rt) : Prop := ∀ Qp Ql Qo, PrR T oth Qp Ql Qo → Qp d i r
def PrL (T : Nat → Tok) (oth : Nat) (l d i : Nat) (r : Rt) : Prop := ∀ Qp Ql Qo, PrR T oth Qp Ql Qo → Ql l d i r
def PrO (T : Nat → Tok) (oth : Nat) (l d : Nat) (e : Fm) (j : Nat) (c : Bool) (r : Rt) : Prop := ∀ Qp Ql Qo, PrR T oth Qp Ql Qo → Qo l d e j c r
theorem pr_self (T : Nat → Tok) (oth : Nat) : PrR T oth (PrP T oth) (PrL T oth) (PrO T oth) := by
  refine ⟨?_, ?_, ?_, ?_, ?_, ?_, ?_, ?_, ?_, ?_, ?_, ?_, ?_, ?_, ?_, ?_⟩
  · intro d i h Qp Ql Qo H; exact H.1 d i h
  · intro d i h h2 Qp Ql Qo H; exact H.2.1 d i h h2
  · intro d i h h2 Qp Ql Qo H; exact H.2.2.1 d i h h2
  · intro d i h h2 Qp Ql Qo H; exact H.2.2.2.1 d i h h2
  · intro d i h h2 Qp Ql Qo H; exact H.2.2.2.2.1 d i h h2
  · intro d i e h h2 q Qp Ql Qo H; exact H.2.2.2.2.2.1 d i e h h2 (q Qp Ql Qo H)
  · intro d i e j h h2 q Qp Ql Qo H; exact H.2.2.2.2.2.2.1 d i e j h h2 (q Qp Ql Qo H)
  · intro d i e h h2 q Qp Ql Qo H; exact H.2.2.2.2.2.2.2.1 d i e h h2 (q Qp Ql Qo H)
  · intro d i e j h h2 q h3 Qp Ql Qo H; exact H.2.2.2.2.2.2.2.2.1 d i e j h h2 (q Qp Ql Qo H) h3
  · intro d i e j h h2 q h3 Qp Ql Qo H; exact H.2.2.2.2.2.2.2.2.2.1 d i e j h h2 (q Qp Ql Qo H) h3
  · intro d i r q Qp Ql Qo H; exact H.2.2.2.2.2.2.2.2.2.2.1 d i r (q Qp Ql Qo H)
  · intro l d i e h q Qp Ql Qo H; exact H.2.2.2.2.2.2.2.2.2.2.2.1 l d i e h (q Qp Ql Qo H)
  · intro l d i e j r h q q2 Qp Ql Qo H; exact H.2.2.2.2.2.2.2.2.2.2.2.2.1 l d i e j r h (q Qp Ql Qo H) (q2 Qp Ql Qo H)
  · intro l d e j c h h2 Qp Ql Qo H; exact H.2.2.2.2.2.2.2.2.2.2.2.2.2.1 l d e j c h h2
  · intro l d e j c s x h h2 h3 q Qp Ql Qo H; exact H.2.2.2.2.2.2.2.2.2.2.2.2.2.2.1 l d e j c s x h h2 h3 (q Qp Ql Qo H)
  · intro l d e j c s e2 j2 r h h2 h3 q q2 Qp Ql Qo H; exact H.2.2.2.2.2.2.2.2.2.2.2.2.2.2.2 l d e j c s e2 j2 r h h2 h3 (q Qp Ql Qo H) (q2 Qp Ql Qo H)
theorem jn_ne {l c s : Nat} (h : jn l c = some s) : ¬ c = 3 ∧ 4 ≤ s ∧ s ≤ 10 := by
  unfold jn at h
  split at h
  · split at h
    · cases h; omega
    · split at h
      · cases h; omega
      · cases h
  · split at h
    · split at h
      · cases h; omega
      · split at h
        · cases h; omega
        · cases h
    · split at h
      · split at h
        · cases h; omega
        · split at h
          · cases h; omega
          · cases h
      · split at h
        · split at h
          · cases h; omega
          · cases h
        · cases h
theorem jn_4 {l c : Nat} (h : 4 ≤ l) : jn l c = none := by
  unfold jn
  rw [if_neg (by omega), if_neg (by omega), if_neg (by omega), if_neg (by omega)]
/-! THE CLASS'S POSTFIX, worked -/
def runL (h o : Int32) (l : List Int32) (q : (Nat → Int32) × Nat) : (Nat → Int32) × Nat := l.foldl (fun q w => stepP h o w q) q
theorem runL_app {h o : Int32} {a b : List Int32} {q : (Nat → Int32) × Nat} : runL h o (a ++ b) q = runL h o b (runL h o a q) := List.foldl_append
theorem num_16a : ∀ a, a < 100 → ∀ b, b < 100 → nI ((100 * a + b) * 16) &&& 15 = 0 ∧ nI ((100 * a + b) * 16) >>> ((4 : Int32) &&& 31) = nI (100 * a + b) := by decide +kernel
theorem num_16 (n : Nat) (h : n < 10000) : nI (n * 16) &&& 15 = 0 ∧ nI (n * 16) >>> ((4 : Int32) &&& 31) = nI n := by
  have := num_16a (n / 100) (by omega) (n % 100) (by omega)
  rwa [show 100 * (n / 100) + n % 100 = n by omega] at this
theorem opj_15 : ∀ s, s < 11 → 4 ≤ s → nI s &&& 15 = nI s ∧ ¬ nI s ≤ 2 ∧ ¬ nI s = 3 := by decide +kernel
/-- the steps do what the value says -/
def FmG (e : Fm) : Prop := 1 ≤ e.1.length ∧ 1 ≤ e.2.2 ∧ ∀ (h o : Int32) (q : (Nat → Int32) × Nat), q.2 + e.2.2 ≤ 64 → (runL h o e.1 q).2 = q.2 + 1 ∧ (runL h o e.1 q).1 q.2 = e.2.1 h o ∧ ∀ k, k < q.2 → (runL h o e.1 q).1 k = q.1 k
theorem FmG_num {n : Nat} (hk : n < 10000) : FmG (fmNum n) := by
  refine ⟨Nat.le_refl _, Nat.le_refl _, fun h o q hq => ?_⟩
  obtain ⟨a, b⟩ := num_16 n hk
  have hq : q.2 + 1 ≤ 64 := hq
  have e : runL h o (fmNum n).1 q = (upd q.1 q.2 (nI n), q.2 + 1) := by
    show stepP h o (nI (n * 16)) q = _
    unfold stepP
    rw [a, if_pos (by decide), if_pos (by omega), if_pos rfl, b]
  rw [e]
  exact ⟨rfl, upd_s, fun k hk => upd_n (by omega)⟩
theorem FmG_hv : FmG fmHv := by
  refine ⟨Nat.le_refl _, Nat.le_refl _, fun h o q hq => ?_⟩
  have hq : q.2 + 1 ≤ 64 := hq
  have e : runL h o fmHv.1 q = (upd q.1 q.2 h, q.2 + 1) := by
    show stepP h o 1 q = _
    unfold stepP
    rw [if_pos (by decide), if_pos (by omega), if_neg (by decide), if_pos (by decide)]
  rw [e]
  exact ⟨rfl, upd_s, fun k hk => upd_n (by omega)⟩
theorem FmG_ot : FmG fmOt := by
  refine ⟨Nat.le_refl _, Nat.le_refl _, fun h o q hq => ?_⟩
  have hq : q.2 + 1 ≤ 64 := hq
  have e : runL h o fmOt.1 q = (upd q.1 q.2 o, q.2 + 1) := by
    show stepP h o 2 q = _
    unfold stepP
    rw [if_pos (by decide), if_pos (by omega), if_neg (by decide), if_neg (by decide)]
  rw [e]
  exact ⟨rfl, upd_s, fun k hk => upd_n (by omega)⟩
theorem FmG_nt {e : Fm} (he : FmG e) : FmG (fmNt e) := by
  obtain ⟨l1, l2, l3⟩ := he
  refine ⟨by show 1 ≤ (e.1 ++ [3]).length; rw [List.length_append]; omega, l2, fun h o q hq => ?_⟩
  have hq : q.2 + e.2.2 ≤ 64 := hq
  obtain ⟨a, b, c⟩ := l3 h o q hq
  show (runL h o (e.1 ++ [3]) q).2 = _ ∧ (runL h o (e.1 ++ [3]) q).1 q.2 = _ ∧ ∀ k, k < q.2 → (runL h o (e.1 ++ [3]) q).1 k = _
  rw [runL_app]
  generalize runL h o e.1 q = q1 at *
  have e1 : runL h o [3] q1 = (upd q1.1 (q1.2 - 1) (b2i (decide (q1.1 (q1.2 - 1) = 0))), q1.2) := by
    show stepP h o 3 q1 = _
    unfold stepP
    rw [if_neg (by decide), if_pos (by decide), if_pos (by omega)]
  rw [e1]
  have e2 : q1.2 - 1 = q.2 := by omega
  rw [e2]
  refine ⟨a, ?_, fun k hk => ?_⟩
  · show upd _ _ _ _ = _
    rw [upd_s, b]
    rfl
  · show upd _ _ _ _ = _
    rw [upd_n (by omega)]
    exact c k hk
theorem FmG_bin {s : Nat} {x y : Fm} (k1 : 4 ≤ s) (k2 : s ≤ 10) (hx : FmG x) (hy : FmG y) : FmG (fmBin s x y) := by
  obtain ⟨l1, l2, l3⟩ := hx
  obtain ⟨m1, m2, m3⟩ := hy
  refine ⟨by show 1 ≤ (x.1 ++ (y.1 ++ [nI s])).length; rw [List.length_append]; omega, by show 1 ≤ max _ _; omega, fun h o q hq => ?_⟩
  have hq : q.2 + max x.2.2 (y.2.2 + 1) ≤ 64 := hq
  obtain ⟨a, b, c⟩ := l3 h o q (by omega)
  obtain ⟨s1, s2, s3⟩ := opj_15 s (by omega) k1
  show (runL h o (x.1 ++ (y.1 ++ [nI s])) q).2 = _ ∧ (runL h o (x.1 ++ (y.1 ++ [nI s])) q).1 q.2 = _ ∧ ∀ k, k < q.2 → (runL h o (x.1 ++ (y.1 ++ [nI s])) q).1 k = _
  rw [runL_app, runL_app]
  generalize runL h o x.1 q = q1 at *
  obtain ⟨a2, b2, c2⟩ := m3 h o q1 (by omega)
  generalize runL h o y.1 q1 = q2 at *
  have e1 : runL h o [nI s] q2 = (upd q2.1 (q2.2 - 2) (joinP (nI s) (q2.1 (q2.2 - 2)) (q2.1 (q2.2 - 1))), q2.2 - 1) := by
    show stepP h o (nI s) q2 = _
    unfold stepP
    rw [s1, if_neg s2, if_neg s3, if_pos (by omega)]
  have e2 : q2.2 - 2 = q.2 := by omega
  have e3 : q2.2 - 1 = q1.2 := by omega
  rw [e1, e2, e3]
  refine ⟨a, ?_, fun k hk => ?_⟩
  · show upd _ _ _ _ = _
    rw [upd_s, c2 q.2 (by omega), b, b2]
    rfl
  · show upd _ _ _ _ = _
    rw [upd_n (by omega), c2 k (by omega)]
    exact c k hk
/-- steps that lie in a row -/
def Seg (g : Nat → Int32) (o : Nat) (l : List Int32) : Prop := ∀ k (h : k < l.length), g (o + k) = l[k]
theorem Seg.app {g : Nat → Int32} {o : Nat} {a b : List Int32} (h1 : Seg g o a) (h2 : Seg g (o + a.length) b) : Seg g o (a ++ b) := by
  intro k hk
  by_cases e : k < a.length
  · rw [List.getElem_append_left e]; exact h1 k e
  · rw [List.getElem_append_right (by omega)]
    have := h2 (k - a.length) (by rw [List.length_append] at hk; omega)
    rw [show o + a.length + (k - a.length) = o + k by omega] at this
    exact this
theorem runP_seg {h o : Int32} {g k0 : Nat → Int32} {l : List Int32} (hs : Seg g 0 l) : ∀ k, k ≤ l.length → runP g h o k0 k = runL h o (l.take k) (k0, 0)
  | 0, _ => by rw [List.take_zero]; rfl
  | k + 1, hk => by
    rw [runP, runP_seg hs k (by omega), List.take_succ_eq_append_getElem (by omega), runL_app]
    have := hs k (by omega)
    rw [Nat.zero_add] at this
    rw [this]
    rfl
theorem evalP_seg {h o : Int32} {g k0 : Nat → Int32} {e : Fm} (hs : Seg g 0 e.1) (hk : FmG e) (hn : e.2.2 ≤ 64) : evalP g e.1.length h o k0 = e.2.1 h o := by
  unfold evalP
  rw [runP_seg hs _ (Nat.le_refl _), List.take_length]
  obtain ⟨a, b, _⟩ := hk.2.2 h o (k0, 0) (by show 0 + e.2.2 ≤ 64; omega)
  rw [a, b, if_pos (by show 1 ≤ 0 + 1; omega)]
/-- what holds of a parse that goes well -/
def GoW (m at_ len nd : Nat) (st : Bool) (e : Fm) (j : Nat) : Prop := at_ ≤ j ∧ j ≤ m ∧ (st = true → at_ < j) ∧ e.1.length + at_ ≤ j + len ∧ e.2.2 ≤ nd ∧ FmG e
section Go
variable {n m : Nat} {f : Nat → Nat} {oth : Nat}
theorem pr_go (hE : EndAt n f m) (ho : ¬ oth = 3) : PrR (tk n f) oth (fun d i r => ∀ e j, r = .ok (e, j) → i ≤ m → GoW m i 0 (4 * (5 - d) + 1) true e j) (fun l d i r => ∀ e j, r = .ok (e, j) → i ≤ m → GoW m i 0 (4 * (5 - d) + 1 + (4 - l)) true e j) (fun l d e0 j0 c r => ∀ e j, r = .ok (e, j) → j0 ≤ m → FmG e0 → e0.2.2 ≤ 4 * (5 - d) + 1 + (4 - l) → GoW m j0 e0.1.length (4 * (5 - d) + 1 + (4 - l)) false e j) := by
  have lt : ∀ i, i ≤ m → ¬ csort (tk n f i) = 3 → i < m := fun i hi hc => end_lt hE (fun q => hc ((cs_0 (tk_ok i)).mp q))
  refine ⟨?_, ?_, ?_, ?_, ?_, ?_, ?_, ?_, ?_, ?_, ?_, ?_, ?_, ?_, ?_, ?_⟩
  · intro d i _ e j hr; cases hr
  · intro d i _ _ e j hr; cases hr
  · intro d i hc _ e j hr hi; cases hr
    have := lt _ hi (by omega)
    exact ⟨by omega, by omega, fun _ => by omega, by show 1 + i ≤ _; omega, by show 1 ≤ _; omega, FmG_num ((tk_ok _).2.1 ((cs_2 (tk_ok _)).mpr hc))⟩
  · intro d i hc _ e j hr hi; cases hr
    have := lt _ hi (by omega)
    exact ⟨by omega, by omega, fun _ => by omega, by show 1 + i ≤ _; omega, by show 1 ≤ _; omega, FmG_hv⟩
  · intro d i hc _ e j hr hi; cases hr
    have := lt _ hi (by omega)
    exact ⟨by omega, by omega, fun _ => by omega, by show 1 + i ≤ _; omega, by show 1 ≤ _; omega, FmG_ot⟩
  · intro d i e _ _ _ e j hr; cases hr
  · intro d i e0 j0 hc hd ih e j hr hi; cases hr
    have := lt _ hi (by omega)
    obtain ⟨a1, a2, a3, a4, a5, a6⟩ := ih _ _ rfl (by omega)
    have a3 := a3 rfl
    exact ⟨by omega, a2, fun _ => by omega, by show (e0.1 ++ [3]).length + i ≤ _; rw [List.length_append, List.length_singleton]; omega, by show e0.2.2 ≤ _; omega, FmG_nt a6⟩
  · intro d i e _ _ _ e j hr; cases hr
  · intro d i e j _ _ _ _ e j hr; cases hr
  · intro d i e0 j0 hc hd ih hc2 e j hr hi; cases hr
    have := lt _ hi (by omega)
    obtain ⟨a1, a2, a3, a4, a5, a6⟩ := ih _ _ rfl (by omega)
    have a3 := a3 rfl
    have := lt _ a2 (by omega)
    exact ⟨by omega, by omega, fun _ => by omega, by omega, by omega, a6⟩
  · intro d i r ih e j hr hi
    obtain ⟨a1, a2, a3, a4, a5, a6⟩ := ih e j hr hi
    exact ⟨a1, a2, a3, a4, by omega, a6⟩
  · intro l d i e _ _ e j hr; cases hr
  · intro l d i e0 j0 r hl ih1 ih2 e j hr hi
    obtain ⟨a1, a2, a3, a4, a5, a6⟩ := ih1 _ _ rfl hi
    have a3 := a3 rfl
    obtain ⟨b1, b2, b3, b4, b5, b6⟩ := ih2 e j hr a2 a6 (by omega)
    exact ⟨by omega, b2, fun _ => by omega, by omega, b5, b6⟩
  · intro l d e0 j0 c _ _ e j hr hi h1 h2; cases hr
    exact ⟨Nat.le_refl _, hi, fun h => (by cases h), by omega, h2, h1⟩
  · intro l d e j c s x _ _ _ _ e j hr; cases hr
  · intro l d e0 j0 c s e2 j2 r hl hj _ ih1 ih2 e j hr hi h1 h2
    have := lt _ hi (jn_ne hj).1
    obtain ⟨a1, a2, a3, a4, a5, a6⟩ := ih1 _ _ rfl (by omega)
    have a3 := a3 rfl
    obtain ⟨b1, b2, b3, b4, b5, b6⟩ := ih2 e j hr a2 (FmG_bin (jn_ne hj).2.1 (jn_ne hj).2.2 h1 a6) (by show max _ _ ≤ _; omega)
    have b4 : e.1.length + j2 ≤ j + (e0.1 ++ (e2.1 ++ [nI s])).length := b4
    rw [List.length_append, List.length_append, List.length_singleton] at b4
    exact ⟨by omega, b2, fun h => (by cases h), by omega, b5, b6⟩
theorem pr_ex (hE : EndAt n f m) (ho : ¬ oth = 3) : ∀ (k : Nat), (∀ d i, (m + 1 - i) * 10 < k → i ≤ m → ∃ r, PrP (tk n f) oth d i r) ∧ (∀ l d i, (m + 1 - i) * 10 + (5 - l) < k → l ≤ 4 → i ≤ m → ∃ r, PrL (tk n f) oth l d i r) ∧ (∀ l d e j c, (m + 1 - j) * 10 + 9 < k → l < 4 → j ≤ m → ∃ r, PrO (tk n f) oth l d e j c r) := by
  have lt : ∀ i, i ≤ m → ¬ csort (tk n f i) = 3 → i < m := fun i hi hc => end_lt hE (fun q => hc ((cs_0 (tk_ok i)).mp q))
  have S := pr_self (tk n f) oth
  have G := pr_go (n := n) (f := f) hE ho
  intro k
  induction k with
  | zero => exact ⟨fun d i h => by omega, fun l d i h => by omega, fun l d e j c h => by omega⟩
  | succ k ih =>
    obtain ⟨ihp, ihl, iho⟩ := ih
    refine ⟨fun d i hs hi => ?_, fun l d i hs hw hi => ?_, fun l d e j c hs hw hi => ?_⟩
    · cases q : stB oth (csort (tk n f i))
      · exact ⟨_, S.1 d i q⟩
      · by_cases h5 : 5 ≤ d
        · exact ⟨_, S.2.1 d i q h5⟩
        have h5 : d < 5 := by omega
        by_cases c1 : csort (tk n f i) = 2
        · exact ⟨_, S.2.2.1 d i c1 h5⟩
        by_cases c2 : csort (tk n f i) = 223
        · have := lt i hi (by omega)
          obtain ⟨r, hr⟩ := ihp (d + 1) (i + 1) (by omega) (by omega)
          cases r with
          | error e => exact ⟨_, S.2.2.2.2.2.1 d i e c2 h5 hr⟩
          | ok p => exact ⟨_, S.2.2.2.2.2.2.1 d i p.1 p.2 c2 h5 hr⟩
        by_cases c3 : csort (tk n f i) = 40
        · have := lt i hi (by omega)
          obtain ⟨r, hr⟩ := ihl 0 (d + 1) (i + 1) (by omega) (by omega) (by omega)
          cases r with
          | error e => exact ⟨_, S.2.2.2.2.2.2.2.1 d i e c3 h5 hr⟩
          | ok p =>
            by_cases c4 : csort (tk n f p.2) = 41
            · exact ⟨_, S.2.2.2.2.2.2.2.2.2.1 d i p.1 p.2 c3 h5 hr c4⟩
            · exact ⟨_, S.2.2.2.2.2.2.2.2.1 d i p.1 p.2 c3 h5 hr c4⟩
        by_cases c4 : csort (tk n f i) = 226
        · exact ⟨_, S.2.2.2.1 d i c4 h5⟩
        · refine ⟨_, S.2.2.2.2.1 d i ?_ h5⟩
          unfold stB at q
          simp only [c1, c2, c3, c4, decide_false, Bool.false_or, decide_eq_true_eq] at q
          exact q
    · by_cases h4 : l = 4
      · obtain ⟨r, hr⟩ := ihp d i (by omega) hi
        rw [h4]
        exact ⟨r, S.2.2.2.2.2.2.2.2.2.2.1 d i r hr⟩
      · obtain ⟨r, hr⟩ := ihl (l + 1) d i (by omega) (by omega) hi
        cases r with
        | error e => exact ⟨_, S.2.2.2.2.2.2.2.2.2.2.2.1 l d i e (by omega) hr⟩
        | ok p =>
          have pg := hr _ _ _ G p.1 p.2 rfl hi
          have pg3 : i < p.2 := pg.2.2.1 rfl
          obtain ⟨r2, hr2⟩ := iho l d p.1 p.2 false (by have := pg.2.1; omega) (by omega) pg.2.1
          exact ⟨r2, S.2.2.2.2.2.2.2.2.2.2.2.2.1 l d i p.1 p.2 r2 (by omega) hr hr2⟩
    · by_cases hx : jn l (csort (tk n f j)) = none ∨ (l = 1 ∧ c = true)
      · exact ⟨_, S.2.2.2.2.2.2.2.2.2.2.2.2.2.1 l d e j c hw hx⟩
      · cases hj : jn l (csort (tk n f j)) with
        | none => exact absurd (Or.inl hj) hx
        | some s =>
          have hc : ¬ (l = 1 ∧ c = true) := fun h => hx (Or.inr h)
          have := lt j hi (jn_ne hj).1
          obtain ⟨r, hr⟩ := ihl (l + 1) d (j + 1) (by omega) (by omega) (by omega)
          cases r with
          | error x => exact ⟨_, S.2.2.2.2.2.2.2.2.2.2.2.2.2.2.1 l d e j c s x hw hj hc hr⟩
          | ok p =>
            have pg := hr _ _ _ G p.1 p.2 rfl (by omega)
            have pg3 : j + 1 < p.2 := pg.2.2.1 rfl
            obtain ⟨r2, hr2⟩ := iho l d (fmBin s e p.1) p.2 true (by have := pg.2.1; omega) hw pg.2.1
            exact ⟨r2, S.2.2.2.2.2.2.2.2.2.2.2.2.2.2.2 l d e j c s p.1 p.2 r2 hw hj hc hr hr2⟩
end Go
