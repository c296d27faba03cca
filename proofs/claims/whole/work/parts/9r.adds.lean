/-! WHAT THE STATEMENTS ADD -/
def putR (R : Nat → Nat → Int32) (r i : Nat) (x : Int32) : Nat → Nat → Int32 := fun a => if a = r then upd (R a) i x else R a
def putN (N : Nat → Nat → List Nat) (k i : Nat) (w : List Nat) : Nat → Nat → List Nat := fun a b => if a = k ∧ b = i then w else N a b
def bump (c : Nat → Nat) (k : Nat) : Nat → Nat := fun a => if a = k then c a + 1 else c a
def addV (v : LV) (k : Nat) (w : List Nat) (R : Nat → Nat → Int32) : LV := (bump v.1 k, R, v.2.2.1, v.2.2.2.1, putN v.2.2.2.2 k (v.1 k) w)
def addFactV (v : LV) (w : List Nat) (s : Int32) : LV := addV v 0 w (putR (putR v.2.1 0 (nF v) s) 1 (nF v) 0)
def addPageV (v : LV) (w : List Nat) (k wt cp : Nat) (s : Int32) : LV := addV v 1 w (putR (putR (putR (putR v.2.1 2 (nP v) (nI k)) 3 (nP v) (nI wt)) 4 (nP v) (nI cp)) 5 (nP v) s)
def addPersonV (v : LV) (w : List Nat) (rm die : Nat) (h : Option Nat) : LV := addV v 2 w (putR (putR (putR v.2.1 6 (nE v) (nI rm)) 7 (nE v) (nI die)) 8 (nE v) (oI h))
def addTaskV (v : LV) (w : List Nat) (wo : Nat) (s : Int32) : LV := addV v 3 w (putR (putR v.2.1 9 (nT v) (nI wo)) 10 (nT v) s)
def addClashV (v : LV) (a b : Nat) : LV := (v.1, putR (putR v.2.1 1 a (clashV v a ||| bi b)) 1 b (upd (clashV v) a (clashV v a ||| bi b) b ||| bi a), v.2.2)
def setBurnV (v : LV) (x : Nat) : LV := (v.1, v.2.1, nI x, v.2.2.2)
def setLawV (v : LV) (k : Nat) (g : Int32 → Int32 → Int32) : LV := (v.1, v.2.1, v.2.2.1, fun a => if a = k then g else lawV v a, v.2.2.2.2)
theorem putR_at (R : Nat → Nat → Int32) (r i : Nat) (x : Int32) (a b : Nat) : putR R r i x a b = if a = r ∧ b = i then x else R a b := by
  unfold putR
  by_cases e : a = r
  · rw [if_pos e]
    by_cases e2 : b = i
    · rw [e2, upd_s, if_pos ⟨e, rfl⟩]
    · rw [upd_n e2, if_neg (fun q => e2 q.2)]
  · rw [if_neg e, if_neg (fun q => e q.1)]
theorem factsF_bits {T : Nat → Tok} {v : LV} (hF : nF v ≤ 12) : ∀ {g : Nat} {s : Int32} {i : Nat} {r : Int32} {j : Nat}, (∀ k, nF v ≤ k → bt s k = false) → factsF T v g s i = .ok (r, j) → ¬ r = 0 ∧ ∀ k, nF v ≤ k → bt r k = false
  | 0, _, _, _, _, _, h => by cases h
  | g + 1, s, i, r, j, hs, h => by
    rw [factsF] at h
    by_cases q : ¬ s = 0 ∧ csort (T i) = 59
    · rw [if_pos q] at h
      cases h
      exact ⟨q.1, hs⟩
    · rw [if_neg q] at h
      cases z : lookR v 0 (T i) with
      | error e => rw [z] at h; cases h
      | ok l =>
        simp only [z] at h
        cases b : bt s l
        · simp only [b, Bool.false_eq_true, if_false] at h
          have hl : l < nF v := by
            unfold lookR lookN at z
            split at z
            · cases y : findA (nameV v 0) (T i).2.2 (v.1 0) 0 with
              | none => rw [y] at z; cases z
              | some l2 => rw [y] at z; cases z; exact findV_lt (k := 0) y
            · cases z
          refine factsF_bits hF (fun k hk => ?_) h
          by_cases h32 : 32 ≤ k
          · exact b_big h32
          · rw [b_or, hs k hk, bt_bi (by omega) (by omega), decide_eq_false (by omega)]; rfl
        · simp only [b, if_true] at h
          cases h
theorem factsR_bits {T : Nat → Tok} {v : LV} {i j : Nat} {r : Int32} (hF : nF v ≤ 12) (h : factsR T v i = .ok (r, j)) : ¬ r = 0 ∧ ∀ k, nF v ≤ k → bt r k = false := factsF_bits hF (fun k _ => b_0 k) h
section Adds
variable {v : LV}
theorem WF_fact {w : List Nat} {s : Int32} (hW : WF v) (h : nF v < 12) (hs : ∀ j, nF v ≤ j → bt s j = false) : WF (addFactV v w s) := by
  obtain ⟨⟨a1, a2, a3, a4⟩, b, c, p, q, t, f, z⟩ := hW
  have e1 : nF (addFactV v w s) = nF v + 1 := rfl
  have r0 : ∀ i, leanV (addFactV v w s) i = if i = nF v then s else leanV v i := fun i => by
    show putR (putR v.2.1 0 (nF v) s) 1 (nF v) 0 0 i = _
    rw [putR_at, putR_at, if_neg (by omega)]
    simp [leanV]
  have r1 : ∀ i, clashV (addFactV v w s) i = if i = nF v then 0 else clashV v i := fun i => by
    show putR (putR v.2.1 0 (nF v) s) 1 (nF v) 0 1 i = _
    rw [putR_at, putR_at, if_neg (c := 1 = 0 ∧ i = nF v) (by omega)]
    simp [clashV]
  refine ⟨⟨by rw [e1]; omega, a2, a3, a4⟩, b, c, fun i hi => ?_, q, fun i hi => ?_, fun i hi => ?_, z⟩
  · obtain ⟨x1, x2, x3, x4⟩ := p i hi
    exact ⟨x1, x2, x3, fun j hj => x4 j (by rw [e1] at hj; omega)⟩
  · obtain ⟨x1, x2, x3⟩ := t i hi
    exact ⟨x1, x2, fun j hj => x3 j (by rw [e1] at hj; omega)⟩
  · rw [e1] at hi
    by_cases e : i = nF v
    · rw [r0, r1, if_pos e, if_pos e]
      refine ⟨fun j hj => hs j (by omega), fun j _ => b_0 j, fun j hj => ?_⟩
      rw [e1] at hj
      rw [b_0, r1]
      by_cases e2 : j = nF v
      · rw [if_pos e2, b_0]
      · rw [if_neg e2, e]
        exact ((f j (by omega)).2.1 (nF v) (Nat.le_refl _)).symm
    · obtain ⟨x1, x2, x3⟩ := f i (by omega)
      rw [r0, r1, if_neg e, if_neg e]
      refine ⟨x1, fun j hj => x2 j (by rw [e1] at hj; omega), fun j hj => ?_⟩
      rw [e1] at hj
      rw [r1]
      by_cases e2 : j = nF v
      · rw [if_pos e2, b_0, e2]; exact x2 _ (Nat.le_refl _)
      · rw [if_neg e2]; exact x3 j (by omega)
theorem WF_page {w : List Nat} {k wt cp : Nat} {s : Int32} (hW : WF v) (h : nP v < 12) (h1 : k ≤ 2) (h2 : 1 ≤ wt) (h3 : wt ≤ 9) (h4 : cp ≤ 9) (hs : ∀ j, nF v ≤ j → bt s j = false) : WF (addPageV v w k wt cp s) := by
  obtain ⟨⟨a1, a2, a3, a4⟩, b, c, p, q, t, f, z⟩ := hW
  have e1 : nP (addPageV v w k wt cp s) = nP v + 1 := rfl
  have ro : ∀ r i, (addPageV v w k wt cp s).2.1 r i = if r = 5 ∧ i = nP v then s else if r = 4 ∧ i = nP v then nI cp else if r = 3 ∧ i = nP v then nI wt else if r = 2 ∧ i = nP v then nI k else v.2.1 r i := fun r i => by
    show putR (putR (putR (putR v.2.1 2 (nP v) (nI k)) 3 (nP v) (nI wt)) 4 (nP v) (nI cp)) 5 (nP v) s r i = _
    rw [putR_at, putR_at, putR_at, putR_at]
  have rk : ∀ i, kindV (addPageV v w k wt cp s) i = if i = nP v then nI k else kindV v i := fun i => by
    show (addPageV v w k wt cp s).2.1 2 i = _
    rw [ro]; simp [kindV]
  have rw_ : ∀ i, weighV (addPageV v w k wt cp s) i = if i = nP v then nI wt else weighV v i := fun i => by
    show (addPageV v w k wt cp s).2.1 3 i = _
    rw [ro]; simp [weighV]
  have rc : ∀ i, copyV (addPageV v w k wt cp s) i = if i = nP v then nI cp else copyV v i := fun i => by
    show (addPageV v w k wt cp s).2.1 4 i = _
    rw [ro]; simp [copyV]
  have rs : ∀ i, saysV (addPageV v w k wt cp s) i = if i = nP v then s else saysV v i := fun i => by
    show (addPageV v w k wt cp s).2.1 5 i = _
    rw [ro]; simp [saysV]
  have same : ∀ r i, ¬ (2 ≤ r ∧ r ≤ 5) → (addPageV v w k wt cp s).2.1 r i = v.2.1 r i := fun r i hr => by
    rw [ro, if_neg (by omega), if_neg (by omega), if_neg (by omega), if_neg (by omega)]
  have s0 : leanV (addPageV v w k wt cp s) = leanV v := funext fun i => same 0 i (by omega)
  have s1 : clashV (addPageV v w k wt cp s) = clashV v := funext fun i => same 1 i (by omega)
  have s6 : roomV (addPageV v w k wt cp s) = roomV v := funext fun i => same 6 i (by omega)
  have s7 : dieV (addPageV v w k wt cp s) = dieV v := funext fun i => same 7 i (by omega)
  have s8 : heirV (addPageV v w k wt cp s) = heirV v := funext fun i => same 8 i (by omega)
  have s9 : worthV (addPageV v w k wt cp s) = worthV v := funext fun i => same 9 i (by omega)
  have s10 : needV (addPageV v w k wt cp s) = needV v := funext fun i => same 10 i (by omega)
  refine ⟨⟨a1, by rw [e1]; omega, a3, a4⟩, fun i hi => ?_, by rw [s6]; exact c, fun i hi => ?_, by rw [s6, s7, s8]; exact q, by rw [s9, s10]; exact t, by rw [s0, s1]; exact f, z⟩
  · rw [e1] at hi
    rw [rc, if_neg (by omega)]
    exact b i (by omega)
  · rw [e1] at hi
    rw [rk, rw_, rc, rs]
    by_cases e : i = nP v
    · rw [if_pos e, if_pos e, if_pos e, if_pos e]
      exact ⟨⟨k, h1, rfl⟩, ⟨wt, h2, h3, rfl⟩, ⟨cp, h4, rfl⟩, hs⟩
    · rw [if_neg e, if_neg e, if_neg e, if_neg e]
      exact p i (by omega)
theorem WF_person {w : List Nat} {rm die : Nat} {h : Option Nat} (hW : WF v) (h6 : nE v < 6) (h1 : rm ≤ 40) (h2 : die ≤ 10) (hh : ∀ j, h = some j → j < nE v) : WF (addPersonV v w rm die h) := by
  obtain ⟨⟨a1, a2, a3, a4⟩, b, c, p, q, t, f, z⟩ := hW
  have e1 : nE (addPersonV v w rm die h) = nE v + 1 := rfl
  have ro : ∀ r i, (addPersonV v w rm die h).2.1 r i = if r = 8 ∧ i = nE v then oI h else if r = 7 ∧ i = nE v then nI die else if r = 6 ∧ i = nE v then nI rm else v.2.1 r i := fun r i => by
    show putR (putR (putR v.2.1 6 (nE v) (nI rm)) 7 (nE v) (nI die)) 8 (nE v) (oI h) r i = _
    rw [putR_at, putR_at, putR_at]
  have rr : ∀ i, roomV (addPersonV v w rm die h) i = if i = nE v then nI rm else roomV v i := fun i => by
    show (addPersonV v w rm die h).2.1 6 i = _
    rw [ro]; simp [roomV]
  have rd : ∀ i, dieV (addPersonV v w rm die h) i = if i = nE v then nI die else dieV v i := fun i => by
    show (addPersonV v w rm die h).2.1 7 i = _
    rw [ro]; simp [dieV]
  have rh : ∀ i, heirV (addPersonV v w rm die h) i = if i = nE v then oI h else heirV v i := fun i => by
    show (addPersonV v w rm die h).2.1 8 i = _
    rw [ro]; simp [heirV]
  have same : ∀ r i, ¬ (6 ≤ r ∧ r ≤ 8) → (addPersonV v w rm die h).2.1 r i = v.2.1 r i := fun r i hr => by
    rw [ro, if_neg (by omega), if_neg (by omega), if_neg (by omega)]
  have s0 : leanV (addPersonV v w rm die h) = leanV v := funext fun i => same 0 i (by omega)
  have s1 : clashV (addPersonV v w rm die h) = clashV v := funext fun i => same 1 i (by omega)
  have s2 : kindV (addPersonV v w rm die h) = kindV v := funext fun i => same 2 i (by omega)
  have s3 : weighV (addPersonV v w rm die h) = weighV v := funext fun i => same 3 i (by omega)
  have s4 : copyV (addPersonV v w rm die h) = copyV v := funext fun i => same 4 i (by omega)
  have s5 : saysV (addPersonV v w rm die h) = saysV v := funext fun i => same 5 i (by omega)
  have s9 : worthV (addPersonV v w rm die h) = worthV v := funext fun i => same 9 i (by omega)
  have s10 : needV (addPersonV v w rm die h) = needV v := funext fun i => same 10 i (by omega)
  refine ⟨⟨a1, a2, by rw [e1]; omega, a4⟩, by rw [s4]; exact b, fun i hi => ?_, by rw [s2, s3, s4, s5]; exact p, fun i hi => ?_, by rw [s9, s10]; exact t, by rw [s0, s1]; exact f, z⟩
  · rw [e1] at hi
    rw [rr, if_neg (by omega)]
    exact c i (by omega)
  · rw [e1] at hi
    rw [rr, rd, rh]
    by_cases e : i = nE v
    · rw [if_pos e, if_pos e, if_pos e]
      refine ⟨⟨rm, h1, rfl⟩, ⟨die, h2, rfl⟩, ?_⟩
      cases h with
      | none => exact Or.inl rfl
      | some j => exact Or.inr ⟨j, by rw [e]; exact hh j rfl, rfl⟩
    · rw [if_neg e, if_neg e, if_neg e]
      exact q i (by omega)
theorem WF_task {w : List Nat} {wo : Nat} {s : Int32} (hW : WF v) (h5 : nT v < 5) (h1 : wo ≤ 99) (h2 : ¬ s = 0) (hs : ∀ j, nF v ≤ j → bt s j = false) : WF (addTaskV v w wo s) := by
  obtain ⟨⟨a1, a2, a3, a4⟩, b, c, p, q, t, f, z⟩ := hW
  have e1 : nT (addTaskV v w wo s) = nT v + 1 := rfl
  have ro : ∀ r i, (addTaskV v w wo s).2.1 r i = if r = 10 ∧ i = nT v then s else if r = 9 ∧ i = nT v then nI wo else v.2.1 r i := fun r i => by
    show putR (putR v.2.1 9 (nT v) (nI wo)) 10 (nT v) s r i = _
    rw [putR_at, putR_at]
  have rw_ : ∀ i, worthV (addTaskV v w wo s) i = if i = nT v then nI wo else worthV v i := fun i => by
    show (addTaskV v w wo s).2.1 9 i = _
    rw [ro]; simp [worthV]
  have rn : ∀ i, needV (addTaskV v w wo s) i = if i = nT v then s else needV v i := fun i => by
    show (addTaskV v w wo s).2.1 10 i = _
    rw [ro]; simp [needV]
  have same : ∀ r i, ¬ (9 ≤ r ∧ r ≤ 10) → (addTaskV v w wo s).2.1 r i = v.2.1 r i := fun r i hr => by
    rw [ro, if_neg (by omega), if_neg (by omega)]
  have s0 : leanV (addTaskV v w wo s) = leanV v := funext fun i => same 0 i (by omega)
  have s1 : clashV (addTaskV v w wo s) = clashV v := funext fun i => same 1 i (by omega)
  have s2 : kindV (addTaskV v w wo s) = kindV v := funext fun i => same 2 i (by omega)
  have s3 : weighV (addTaskV v w wo s) = weighV v := funext fun i => same 3 i (by omega)
  have s4 : copyV (addTaskV v w wo s) = copyV v := funext fun i => same 4 i (by omega)
  have s5 : saysV (addTaskV v w wo s) = saysV v := funext fun i => same 5 i (by omega)
  have s6 : roomV (addTaskV v w wo s) = roomV v := funext fun i => same 6 i (by omega)
  have s7 : dieV (addTaskV v w wo s) = dieV v := funext fun i => same 7 i (by omega)
  have s8 : heirV (addTaskV v w wo s) = heirV v := funext fun i => same 8 i (by omega)
  refine ⟨⟨a1, a2, a3, by rw [e1]; omega⟩, by rw [s4]; exact b, by rw [s6]; exact c, by rw [s2, s3, s4, s5]; exact p, by rw [s6, s7, s8]; exact q, fun i hi => ?_, by rw [s0, s1]; exact f, z⟩
  rw [e1] at hi
  rw [rw_, rn]
  by_cases e : i = nT v
  · rw [if_pos e, if_pos e]
    exact ⟨⟨wo, h1, rfl⟩, h2, hs⟩
  · rw [if_neg e, if_neg e]
    exact t i (by omega)
theorem clash_at {a b : Nat} (hab : ¬ a = b) (i : Nat) : clashV (addClashV v a b) i = if i = b then clashV v b ||| bi a else if i = a then clashV v a ||| bi b else clashV v i := by
  show putR (putR v.2.1 1 a (clashV v a ||| bi b)) 1 b (upd (clashV v) a (clashV v a ||| bi b) b ||| bi a) 1 i = _
  rw [putR_at, putR_at, upd_n (show ¬ b = a by omega)]
  simp [clashV]
theorem WF_clash {a b : Nat} (hW : WF v) (ha : a < nF v) (hb : b < nF v) (hab : ¬ a = b) : WF (addClashV v a b) := by
  obtain ⟨⟨a1, a2, a3, a4⟩, b0, c, p, q, t, f, z⟩ := hW
  have cl := fun i => clash_at (v := v) hab i
  have same : ∀ r i, ¬ r = 1 → (addClashV v a b).2.1 r i = v.2.1 r i := fun r i hr => by
    show putR (putR v.2.1 1 a _) 1 b _ r i = _
    rw [putR_at, putR_at, if_neg (by omega), if_neg (by omega)]
  have s0 : leanV (addClashV v a b) = leanV v := funext fun i => same 0 i (by omega)
  have s2 : kindV (addClashV v a b) = kindV v := funext fun i => same 2 i (by omega)
  have s3 : weighV (addClashV v a b) = weighV v := funext fun i => same 3 i (by omega)
  have s4 : copyV (addClashV v a b) = copyV v := funext fun i => same 4 i (by omega)
  have s5 : saysV (addClashV v a b) = saysV v := funext fun i => same 5 i (by omega)
  have s6 : roomV (addClashV v a b) = roomV v := funext fun i => same 6 i (by omega)
  have s7 : dieV (addClashV v a b) = dieV v := funext fun i => same 7 i (by omega)
  have s8 : heirV (addClashV v a b) = heirV v := funext fun i => same 8 i (by omega)
  have s9 : worthV (addClashV v a b) = worthV v := funext fun i => same 9 i (by omega)
  have s10 : needV (addClashV v a b) = needV v := funext fun i => same 10 i (by omega)
  have bits : ∀ i j, i < nF v → j < 32 → bt (clashV (addClashV v a b) i) j = (bt (clashV v i) j || (decide (i = a) && decide (j = b)) || (decide (i = b) && decide (j = a))) := fun i j hi hj => by
    rw [cl]
    by_cases e1 : i = b
    · rw [if_pos e1, b_or, bt_bi (by omega) hj, e1, decide_eq_false (show ¬ b = a by omega), decide_eq_true (show b = b from rfl)]
      simp
    · rw [if_neg e1, decide_eq_false e1]
      by_cases e2 : i = a
      · rw [if_pos e2, b_or, bt_bi (by omega) hj, e2, decide_eq_true (show a = a from rfl)]
        simp
      · rw [if_neg e2, decide_eq_false e2]
        simp
  refine ⟨⟨a1, a2, a3, a4⟩, by rw [s4]; exact b0, by rw [s6]; exact c, by rw [s2, s3, s4, s5]; exact p, by rw [s6, s7, s8]; exact q, by rw [s9, s10]; exact t, fun i hi => ?_, z⟩
  have hi : i < nF v := hi
  obtain ⟨x1, x2, x3⟩ := f i hi
  rw [s0]
  refine ⟨x1, fun j hj => ?_, fun j hj => ?_⟩
  · have hj : nF v ≤ j := hj
    by_cases h32 : 32 ≤ j
    · exact b_big h32
    · rw [bits i j hi (by omega), x2 j hj, decide_eq_false (show ¬ j = b by omega), decide_eq_false (show ¬ j = a by omega)]
      simp
  · have hj : j < nF v := hj
    rw [bits i j hi (by omega), bits j i hj (by omega), x3 j hj]
    cases bt (clashV v j) i <;> by_cases e1 : i = a <;> by_cases e2 : j = b <;> by_cases e3 : i = b <;> by_cases e4 : j = a <;> simp [e1, e2, e3, e4]
theorem WF_burn {x : Nat} (hW : WF v) (hx : x ≤ 10) : WF (setBurnV v x) := by
  obtain ⟨a, b, c, p, q, t, f, z⟩ := hW
  exact ⟨a, b, c, p, q, t, f, x, hx, rfl⟩
theorem WF_law {k : Nat} {g : Int32 → Int32 → Int32} (hW : WF v) : WF (setLawV v k g) := hW
end Adds
