/-! THE START: what the constructors make, run by the kernel -/
def st_veq : Value → Value → Bool
  | .int x, .int y => decide (x = y)
  | .long x, .long y => decide (x = y)
  | .ref a, .ref b => decide (a = b)
  | .null, .null => true
  | _, _ => false
theorem st_veq_eq {v w : Value} (h : st_veq v w = true) : v = w := by
  cases v <;> cases w <;> first | (simp only [st_veq, decide_eq_true_eq] at h; rw [h]) | rfl | (simp [st_veq] at h)
def st_lq : List Value → List Value → Bool
  | [], [] => true
  | a :: x, b :: y => st_veq a b && st_lq x y
  | _, _ => false
theorem st_lq_eq : ∀ {x y : List Value}, st_lq x y = true → x = y
  | [], [], _ => rfl
  | a :: x, b :: y, h => by
    simp only [st_lq, Bool.and_eq_true] at h
    rw [st_veq_eq h.1, st_lq_eq h.2]
  | [], b :: y, h => by simp [st_lq] at h
  | a :: x, [], h => by simp [st_lq] at h
/-- the numbers and references that the fields begin with -/
def st_FI (a k : Nat) : Int32 := match (am_shL.getD a (99, 0)).1, k with
  | 6, 1 => if a = 8 ∨ a = 10 ∨ a = 34 ∨ a = 36 then 12 else if a = 12 ∨ a = 38 then 6 else 5
  | 0, 2 => if a = 27 ∨ a = 30 ∨ a = 53 ∨ a = 56 then 1 else 0
  | _, _ => 0
def st_FR (a k : Nat) : Option Nat := if a = 0 ∧ k = 2 then some 7 else if a = 0 ∧ k = 3 then some 33 else none
def st_AI (m : am_M) (a : Nat) : Nat → Int32 := match m.2.2 a with
  | .inl (_, _, .inl f) => f
  | _ => fun _ => 0
def st_AJ (m : am_M) (a : Nat) : Nat → Int64 := match m.2.2 a with
  | .inl (_, _, .inr (.inl f)) => f
  | _ => fun _ => 0
def st_AR (m : am_M) (a : Nat) : Nat → Option Nat := match m.2.2 a with
  | .inl (_, _, .inr (.inr (.inr (.inr f)))) => f
  | _ => fun _ => none
def st_U (m : am_M) : am_U := (st_FI, fun _ _ => 0, st_FR, st_AI m, st_AJ m, st_AR m)
/-- the class's fields and references do not ask the rows -/
def st_fv (a ci k : Nat) : Value := match am_fk3 ci k with
  | 0 => .int (st_FI a k)
  | 1 => .long 0
  | 2 => .int (st_FI a k)
  | 3 => .ref (am_fr a k)
  | _ => va_rf (st_FR a k)
def st_row0 (a j : Nat) : Int32 := if (a = 28 ∨ a = 54) ∧ j = 0 then 1 else 0
def st_ce (a : Nat) (q : Nat × Nat) : va_E → Bool
  | .inr (ci, fs) => decide (ci = q.1 ∧ ci < 100) && st_lq fs ((List.range q.2).map (st_fv a ci))
  | .inl (t, n, .inl f) => decide (q.1 = 100 + t ∧ (t = 0 ∨ t = 2 ∨ t = 3) ∧ n = q.2) && (List.range (min n 30)).all (fun j => decide (f j = st_row0 a j))
  | .inl (t, n, .inr (.inl _)) => decide (q.1 = 101 ∧ t = 1 ∧ n = q.2)
  | .inl (t, n, .inr (.inr (.inr (.inr f)))) => decide (q.1 = 100 + t ∧ (t = 4 ∨ t = 5) ∧ n = q.2) && (List.range n).all (fun j => decide (f j = some (if t = 4 then 83 + 4 * j else 148 + 10 * j)))
  | _ => false
def st_chk (m : am_M) (from_ n : Nat) : Bool := (List.range n).all (fun k => match am_shL[from_ + k]? with
  | some q => st_ce (from_ + k) q (m.2.2 (from_ + k))
  | none => false)
def st_m0 : am_M := am_new am_zero (.inr (11, (am_dv 11).getD [])) 16
def st_r1 : Option (Option Value × am_M) := am_run true 3000 20 115 0 [some (.ref 0), none] [] st_m0
def st_c1 : Bool := match st_r1 with
  | some (none, m) => decide (m.1 = 203 ∧ m.2.1 = 12303) && st_chk m 0 203
  | _ => false
theorem st_t1 : st_c1 = true := by decide +kernel
def st_m2 : am_M := match st_r1 with
  | some (_, m) => am_new m (.inr (12, (am_dv 12).getD [])) 68
  | none => am_zero
def st_r2 : Option (Option Value × am_M) := am_run true 3000 20 159 0 [some (.ref 203)] [] st_m2
def st_c2 : Bool := match st_r2 with
  | some (none, m) => decide (m.1 = 255 ∧ m.2.1 = 19229) && st_chk m 0 255
  | _ => false
theorem st_t2 : st_c2 = true := by decide +kernel
