/-! THE MEMORY AFTER THE CONSTRUCTORS (by program, gen15.py): shapes by place; what changes are functions -/
/-- of each place: the class (or 100 + the kind of array) and how many fields or elements -/
def am_shL : List (Nat × Nat) := [(11, 16), (10, 6), (102, 1000), (100, 1001), (100, 1001), (101, 1001), (7, 10), (3, 19), (6, 3), (101, 12), (6, 3), (101, 12), (6, 3), (101, 12), (6, 3), (101, 12), (100, 12), (100, 12), (100, 12), (100, 12), (100, 12), (100, 12), (100, 6), (100, 6), (100, 6), (100, 5), (100, 5), (0, 3), (100, 1000), (100, 64), (0, 3), (100, 1000), (100, 64), (3, 19), (6, 3), (101, 12), (6, 3), (101, 12), (6, 3), (101, 12), (6, 3), (101, 12), (100, 12), (100, 12), (100, 12), (100, 12), (100, 12), (100, 12), (100, 6), (100, 6), (100, 6), (100, 5), (100, 5), (0, 3), (100, 1000), (100, 64), (0, 3), (100, 1000), (100, 64), (5, 5), (100, 24), (100, 24), (100, 24), (100, 24), (9, 6), (4, 6), (100, 6), (100, 6), (100, 12), (5, 5), (100, 24), (100, 24), (100, 24), (100, 24), (4, 6), (100, 6), (100, 6), (100, 12), (4, 6), (100, 6), (100, 6), (100, 12), (104, 16), (4, 6), (100, 6), (100, 6), (100, 12), (4, 6), (100, 6), (100, 6), (100, 12), (4, 6), (100, 6), (100, 6), (100, 12), (4, 6), (100, 6), (100, 6), (100, 12), (4, 6), (100, 6), (100, 6), (100, 12), (4, 6), (100, 6), (100, 6), (100, 12), (4, 6), (100, 6), (100, 6), (100, 12), (4, 6), (100, 6), (100, 6), (100, 12), (4, 6), (100, 6), (100, 6), (100, 12), (4, 6), (100, 6), (100, 6), (100, 12), (4, 6), (100, 6), (100, 6), (100, 12), (4, 6), (100, 6), (100, 6), (100, 12), (4, 6), (100, 6), (100, 6), (100, 12), (4, 6), (100, 6), (100, 6), (100, 12), (4, 6), (100, 6), (100, 6), (100, 12), (4, 6), (100, 6), (100, 6), (100, 12), (105, 4), (9, 6), (4, 6), (100, 6), (100, 6), (100, 12), (5, 5), (100, 24), (100, 24), (100, 24), (100, 24), (9, 6), (4, 6), (100, 6), (100, 6), (100, 12), (5, 5), (100, 24), (100, 24), (100, 24), (100, 24), (9, 6), (4, 6), (100, 6), (100, 6), (100, 12), (5, 5), (100, 24), (100, 24), (100, 24), (100, 24), (9, 6), (4, 6), (100, 6), (100, 6), (100, 12), (5, 5), (100, 24), (100, 24), (100, 24), (100, 24), (100, 5), (1, 4), (100, 64), (103, 2048), (100, 32), (8, 9), (100, 3), (100, 39), (103, 39), (100, 12), (2, 9), (100, 12), (101, 12), (100, 4), (100, 4), (12, 68), (100, 1000), (100, 12), (101, 24), (101, 24), (101, 12), (101, 10), (100, 24), (100, 24), (100, 24), (100, 24), (100, 24), (100, 24), (100, 12), (100, 12), (100, 12), (100, 10), (100, 10), (100, 4), (100, 4), (100, 2000), (100, 7), (103, 7), (100, 7), (100, 7), (100, 7), (100, 7), (100, 7), (100, 7), (100, 7), (100, 7), (100, 7), (100, 20), (100, 6), (100, 576), (100, 6), (100, 72), (103, 72), (100, 27), (100, 54), (100, 108), (100, 432), (103, 4), (103, 2048), (100, 32), (100, 5), (100, 3), (100, 3), (100, 3), (100, 4), (100, 4), (101, 12), (101, 1)]
/-- where final references lead, by place and field -/
def am_rfL : List (List Nat) := [[1, 6, 0, 0, 59, 64, 74, 78, 82, 0, 0, 147, 188, 189, 193, 198], [2, 3, 4, 5, 0, 0], [], [], [], [], [1, 0, 0, 0, 0, 0, 0, 0, 0, 0], [8, 10, 12, 14, 16, 17, 18, 19, 20, 21, 22, 23, 24, 25, 26, 27, 30, 0, 0], [9, 0, 0], [], [11, 0, 0], [], [13, 0, 0], [], [15, 0, 0], [], [], [], [], [], [], [], [], [], [], [], [], [28, 29, 0], [], [], [31, 32, 0], [], [], [34, 36, 38, 40, 42, 43, 44, 45, 46, 47, 48, 49, 50, 51, 52, 53, 56, 0, 0], [35, 0, 0], [], [37, 0, 0], [], [39, 0, 0], [], [41, 0, 0], [], [], [], [], [], [], [], [], [], [], [], [], [54, 55, 0], [], [], [57, 58, 0], [], [], [60, 61, 62, 63, 0], [], [], [], [], [65, 69, 0, 0, 0, 0], [66, 67, 68, 0, 0, 0], [], [], [], [70, 71, 72, 73, 0], [], [], [], [], [75, 76, 77, 0, 0, 0], [], [], [], [79, 80, 81, 0, 0, 0], [], [], [], [], [84, 85, 86, 0, 0, 0], [], [], [], [88, 89, 90, 0, 0, 0], [], [], [], [92, 93, 94, 0, 0, 0], [], [], [], [96, 97, 98, 0, 0, 0], [], [], [], [100, 101, 102, 0, 0, 0], [], [], [], [104, 105, 106, 0, 0, 0], [], [], [], [108, 109, 110, 0, 0, 0], [], [], [], [112, 113, 114, 0, 0, 0], [], [], [], [116, 117, 118, 0, 0, 0], [], [], [], [120, 121, 122, 0, 0, 0], [], [], [], [124, 125, 126, 0, 0, 0], [], [], [], [128, 129, 130, 0, 0, 0], [], [], [], [132, 133, 134, 0, 0, 0], [], [], [], [136, 137, 138, 0, 0, 0], [], [], [], [140, 141, 142, 0, 0, 0], [], [], [], [144, 145, 146, 0, 0, 0], [], [], [], [], [149, 153, 0, 0, 0, 0], [150, 151, 152, 0, 0, 0], [], [], [], [154, 155, 156, 157, 0], [], [], [], [], [159, 163, 0, 0, 0, 0], [160, 161, 162, 0, 0, 0], [], [], [], [164, 165, 166, 167, 0], [], [], [], [], [169, 173, 0, 0, 0, 0], [170, 171, 172, 0, 0, 0], [], [], [], [174, 175, 176, 177, 0], [], [], [], [], [179, 183, 0, 0, 0, 0], [180, 181, 182, 0, 0, 0], [], [], [], [184, 185, 186, 187, 0], [], [], [], [], [], [190, 191, 192, 0], [], [], [], [194, 195, 196, 197, 0, 0, 0, 0, 0], [], [], [], [], [199, 200, 201, 0, 0, 0, 0, 202, 0], [], [], [], [], [0, 0, 204, 0, 0, 0, 0, 0, 0, 0, 205, 206, 207, 208, 209, 210, 211, 212, 213, 214, 215, 216, 217, 218, 219, 220, 221, 222, 223, 0, 0, 0, 224, 225, 226, 227, 228, 229, 230, 231, 232, 233, 234, 235, 0, 236, 237, 238, 239, 240, 241, 242, 243, 244, 245, 0, 246, 247, 248, 249, 250, 251, 0, 252, 253, 254, 0, 0], [], [], [], [], [], [], [], [], [], [], [], [], [], [], [], [], [], [], [], [], [], [], [], [], [], [], [], [], [], [], [], [], [], [], [], [], [], [], [], [], [], [], [], [], [], [], [], [], [], [], [], []]
/-- kinds of fields: 0 int, 1 long, 2 boolean, 3 a final reference, 4 another reference -/
def am_fk3L : List (List Nat) := [[3, 3, 0], [3, 3, 3, 0], [3, 3, 3, 4, 0, 0, 0, 3, 0], [3, 3, 3, 3, 3, 3, 3, 3, 3, 3, 3, 3, 3, 3, 3, 3, 3, 0, 0], [3, 3, 3, 0, 0, 0], [3, 3, 3, 3, 0], [3, 0, 0], [3, 0, 4, 4, 4, 0, 2, 2, 2, 0], [3, 3, 3, 3, 4, 0, 0, 0, 0], [3, 3, 0, 0, 0, 2], [3, 3, 3, 3, 0, 0], [3, 3, 4, 4, 3, 3, 3, 3, 3, 0, 0, 3, 3, 3, 3, 3], [0, 0, 3, 0, 0, 0, 0, 1, 0, 0, 3, 3, 3, 3, 3, 3, 3, 3, 3, 3, 3, 3, 3, 3, 3, 3, 3, 3, 3, 0, 2, 2, 3, 3, 3, 3, 3, 3, 3, 3, 3, 3, 3, 3, 0, 3, 3, 3, 3, 3, 3, 3, 3, 3, 3, 0, 3, 3, 3, 3, 3, 3, 0, 3, 3, 3, 1, 1]]
def am_N : Nat := 256
def am_slots : Nat := 19230
def am_fk3 (ci k : Nat) : Nat := (am_fk3L.getD ci []).getD k 9
def am_fr (a k : Nat) : Nat := (am_rfL.getD a []).getD k 0
abbrev am_U : Type := (Nat → Nat → Int32) × (Nat → Nat → Int64) × (Nat → Nat → Option Nat) × (Nat → Nat → Int32) × (Nat → Nat → Int64) × (Nat → Nat → Option Nat)
def FI (u : am_U) : Nat → Nat → Int32 := u.1
def FJ (u : am_U) : Nat → Nat → Int64 := u.2.1
def FR (u : am_U) : Nat → Nat → Option Nat := u.2.2.1
def AI (u : am_U) : Nat → Nat → Int32 := u.2.2.2.1
def AJ (u : am_U) : Nat → Nat → Int64 := u.2.2.2.2.1
def AR (u : am_U) : Nat → Nat → Option Nat := u.2.2.2.2.2
def sFI (u : am_U) (a k : Nat) (x : Int32) : am_U := (fun a' k' => if a' = a ∧ k' = k then x else u.1 a' k', u.2)
def sFJ (u : am_U) (a k : Nat) (x : Int64) : am_U := (u.1, fun a' k' => if a' = a ∧ k' = k then x else u.2.1 a' k', u.2.2)
def sFR (u : am_U) (a k : Nat) (x : Option Nat) : am_U := (u.1, u.2.1, fun a' k' => if a' = a ∧ k' = k then x else u.2.2.1 a' k', u.2.2.2)
def sAI (u : am_U) (a : Nat) (g : Nat → Int32) : am_U := (u.1, u.2.1, u.2.2.1, fun a' => if a' = a then g else u.2.2.2.1 a', u.2.2.2.2)
def sAJ (u : am_U) (a : Nat) (g : Nat → Int64) : am_U := (u.1, u.2.1, u.2.2.1, u.2.2.2.1, fun a' => if a' = a then g else u.2.2.2.2.1 a', u.2.2.2.2.2)
theorem FI_sFI (u : am_U) (a k : Nat) (x : Int32) (a' k' : Nat) : FI (sFI u a k x) a' k' = if a' = a ∧ k' = k then x else FI u a' k' := rfl
theorem FI_sFJ (u : am_U) (a k : Nat) (x : Int64) : FI (sFJ u a k x) = FI u := rfl
theorem FI_sFR (u : am_U) (a k : Nat) (x : Option Nat) : FI (sFR u a k x) = FI u := rfl
theorem FI_sAI (u : am_U) (a : Nat) (g : Nat → Int32) : FI (sAI u a g) = FI u := rfl
theorem FI_sAJ (u : am_U) (a : Nat) (g : Nat → Int64) : FI (sAJ u a g) = FI u := rfl
theorem FJ_sFI (u : am_U) (a k : Nat) (x : Int32) : FJ (sFI u a k x) = FJ u := rfl
theorem FJ_sFJ (u : am_U) (a k : Nat) (x : Int64) (a' k' : Nat) : FJ (sFJ u a k x) a' k' = if a' = a ∧ k' = k then x else FJ u a' k' := rfl
theorem FJ_sFR (u : am_U) (a k : Nat) (x : Option Nat) : FJ (sFR u a k x) = FJ u := rfl
theorem FJ_sAI (u : am_U) (a : Nat) (g : Nat → Int32) : FJ (sAI u a g) = FJ u := rfl
theorem FJ_sAJ (u : am_U) (a : Nat) (g : Nat → Int64) : FJ (sAJ u a g) = FJ u := rfl
theorem FR_sFI (u : am_U) (a k : Nat) (x : Int32) : FR (sFI u a k x) = FR u := rfl
theorem FR_sFJ (u : am_U) (a k : Nat) (x : Int64) : FR (sFJ u a k x) = FR u := rfl
theorem FR_sFR (u : am_U) (a k : Nat) (x : Option Nat) (a' k' : Nat) : FR (sFR u a k x) a' k' = if a' = a ∧ k' = k then x else FR u a' k' := rfl
theorem FR_sAI (u : am_U) (a : Nat) (g : Nat → Int32) : FR (sAI u a g) = FR u := rfl
theorem FR_sAJ (u : am_U) (a : Nat) (g : Nat → Int64) : FR (sAJ u a g) = FR u := rfl
theorem AI_sFI (u : am_U) (a k : Nat) (x : Int32) : AI (sFI u a k x) = AI u := rfl
theorem AI_sFJ (u : am_U) (a k : Nat) (x : Int64) : AI (sFJ u a k x) = AI u := rfl
theorem AI_sFR (u : am_U) (a k : Nat) (x : Option Nat) : AI (sFR u a k x) = AI u := rfl
theorem AI_sAI (u : am_U) (a : Nat) (g : Nat → Int32) (a' : Nat) : AI (sAI u a g) a' = if a' = a then g else AI u a' := rfl
theorem AI_sAJ (u : am_U) (a : Nat) (g : Nat → Int64) : AI (sAJ u a g) = AI u := rfl
theorem AJ_sFI (u : am_U) (a k : Nat) (x : Int32) : AJ (sFI u a k x) = AJ u := rfl
theorem AJ_sFJ (u : am_U) (a k : Nat) (x : Int64) : AJ (sFJ u a k x) = AJ u := rfl
theorem AJ_sFR (u : am_U) (a k : Nat) (x : Option Nat) : AJ (sFR u a k x) = AJ u := rfl
theorem AJ_sAI (u : am_U) (a : Nat) (g : Nat → Int32) : AJ (sAI u a g) = AJ u := rfl
theorem AJ_sAJ (u : am_U) (a : Nat) (g : Nat → Int64) (a' : Nat) : AJ (sAJ u a g) a' = if a' = a then g else AJ u a' := rfl
theorem AR_sFI (u : am_U) (a k : Nat) (x : Int32) : AR (sFI u a k x) = AR u := rfl
theorem AR_sFJ (u : am_U) (a k : Nat) (x : Int64) : AR (sFJ u a k x) = AR u := rfl
theorem AR_sFR (u : am_U) (a k : Nat) (x : Option Nat) : AR (sFR u a k x) = AR u := rfl
theorem AR_sAI (u : am_U) (a : Nat) (g : Nat → Int32) : AR (sAI u a g) = AR u := rfl
theorem AR_sAJ (u : am_U) (a : Nat) (g : Nat → Int64) : AR (sAJ u a g) = AR u := rfl
/-- a field's value -/
def am_fv (u : am_U) (a ci k : Nat) : Value := match am_fk3 ci k with
  | 0 => .int (FI u a k)
  | 1 => .long (FJ u a k)
  | 2 => .int (FI u a k)
  | 3 => .ref (am_fr a k)
  | _ => va_rf (FR u a k)
def am_row (u : am_U) (a t n : Nat) : va_E := match t with
  | 100 => .inl (0, n, .inl (AI u a))
  | 101 => .inl (1, n, .inr (.inl (AJ u a)))
  | 102 => .inl (2, n, .inl (AI u a))
  | 103 => .inl (3, n, .inl (AI u a))
  | t => .inl (t - 100, n, .inr (.inr (.inr (.inr (AR u a)))))
def am_cell (u : am_U) (a : Nat) : va_E := match am_shL[a]? with
  | none => .inr (99, [])
  | some q => if q.1 < 100 then .inr (q.1, (List.range q.2).map (am_fv u a q.1)) else am_row u a q.1 q.2
def am_emb (u : am_U) : am_M := (am_N, am_slots, am_cell u)
def sh (a t n : Nat) : Prop := am_shL[a]? = some (t, n)
theorem am_shL_len : am_shL.length = am_N := by decide +kernel
theorem sh_lt {a t n : Nat} (h : sh a t n) : a < am_N := by
  rw [← am_shL_len]
  exact (List.getElem?_eq_some_iff.mp h).1
theorem em_g {u : am_U} {a t n : Nat} (h : sh a t n) : am_g (am_emb u) a = some (am_cell u a) := by
  unfold am_g
  exact if_pos (sh_lt h)
theorem em_obj {u : am_U} {a t n : Nat} (h : sh a t n) (ht : t < 100) : am_g (am_emb u) a = some (.inr (t, (List.range n).map (am_fv u a t))) := by
  rw [em_g h]
  unfold am_cell
  rw [show am_shL[a]? = some (t, n) from h]
  simp only [if_pos ht]
theorem em_row {u : am_U} {a t n : Nat} (h : sh a t n) (ht : 100 ≤ t) : am_g (am_emb u) a = some (am_row u a t n) := by
  rw [em_g h]
  unfold am_cell
  rw [show am_shL[a]? = some (t, n) from h]
  simp only [if_neg (Nat.not_lt.mpr ht)]
theorem em_put {u u' : am_U} {a t n : Nat} (h : sh a t n) (ho : ∀ a', a' ≠ a → am_cell u' a' = am_cell u a') : am_p (am_emb u) a (am_cell u' a) = am_emb u' := by
  unfold am_p am_emb
  refine Prod.ext rfl (Prod.ext rfl (funext fun j => ?_))
  show (if j = a then am_cell u' a else am_cell u j) = am_cell u' j
  by_cases hj : j = a
  · rw [if_pos hj, hj]
  · rw [if_neg hj, ho j hj]
theorem em_fld {u : am_U} {a t n k : Nat} (hk : k < n) : ((List.range n).map (am_fv u a t))[k]? = some (am_fv u a t k) := by
  rw [List.getElem?_map, List.getElem?_range hk]
  rfl
theorem em_set {u u' : am_U} {a t n k : Nat} (v : Value) (hv : am_fv u' a t k = v) (ho : ∀ k', k' ≠ k → am_fv u' a t k' = am_fv u a t k') : ((List.range n).map (am_fv u a t)).set k v = (List.range n).map (am_fv u' a t) := by
  apply List.ext_getElem?
  intro j
  by_cases hj : j = k
  · subst hj
    by_cases hl : j < n
    · rw [List.getElem?_set_self (by simpa using hl), em_fld hl, hv]
    · rw [List.getElem?_eq_none (by simp; omega), List.getElem?_eq_none (by simp; omega)]
  · rw [List.getElem?_set_ne (Ne.symm hj)]
    by_cases hl : j < n
    · rw [em_fld hl, em_fld hl, ho j hj]
    · rw [List.getElem?_eq_none (by simp; omega), List.getElem?_eq_none (by simp; omega)]
theorem em_same {u u' : am_U} {a : Nat} (h1 : FI u' a = FI u a) (h2 : FJ u' a = FJ u a) (h3 : FR u' a = FR u a) (h4 : AI u' a = AI u a) (h5 : AJ u' a = AJ u a) (h6 : AR u' a = AR u a) : am_cell u' a = am_cell u a := by
  have hf : ∀ ci k, am_fv u' a ci k = am_fv u a ci k := fun ci k => by unfold am_fv; rw [h1, h2, h3]
  unfold am_cell
  split
  · rfl
  · split
    · congr 2
      exact List.map_congr_left fun k _ => hf _ k
    · unfold am_row
      rw [h4, h5, h6]
