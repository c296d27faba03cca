/-! THE RUNS of the abstract machine -/
/-- the one String constant, and what length and charAt say of it -/
def am_text : String := "fact leans page weigh copies says clash person room die heir task worth needs copy bite burn true lie recipe eat dies night not and or heavy there has "
def am_chars : List Int32 := am_text.toList.map (fun c => Int32.ofNat c.toNat)
def am_prim (z : Nat) (as : List Value) (m : am_M) : Option (Option Value × am_M) :=
  if z = 276 then (match as with
    | [.ref a] => if a = am_S then some (some (.int (Int32.ofNat am_chars.length)), m) else none
    | _ => none)
  else if z = 277 then (match as with
    | [.ref a, .int i] => if a = am_S ∧ am_in i am_chars.length then some (some (.int (am_chars.getD i.toNatClampNeg 0)), m) else none
    | _ => none)
  else none
def am_rcv (r : am_Rec) (kd : Nat) (as : List Value) (m : am_M) : Bool := match as with
  | .ref a :: _ => (match am_g m a with
    | some (.inr (ci, _)) => decide (ci = r.2.2.2.2.1.1 ∧ ¬ a = am_S)
    | _ => decide (r.2.2.2.2.1.1 = 15 ∧ a = am_S ∧ kd = 0))
  | _ => false
def am_calls (al : Bool) (rec : Nat → Nat → List Value → am_M → Option (Option Value × am_M)) (d : Nat) (kd : Nat) (z pc : Nat) (ls : am_L) (st : List Value) (m : am_M) : Option am_C :=
  match d with
  | 0 => none
  | d + 1 =>
    if z = 9000 then (match st with
      | .ref a :: t => if a = am_S ∨ 8 < (t.map fun v => v.category).sum then none else some (pc + 3, ls, t, m)
      | _ => none)
    else if z = 9001 then am_copy pc ls st m
    else match am_ms[z]? with
      | none => none
      | some r =>
        let k := r.2.2.2.2.1.2.1 + (if r.2.2.2.2.1.2.2 then 0 else 1)
        if k ≤ st.length ∧ ((st.drop k).map fun v => v.category).sum ≤ 8 ∧ (r.2.2.2.2.1.2.2 = true ∨ am_rcv r kd (st.take k).reverse m = true) then
          (match (if 276 ≤ z then (if 4 ≤ d then am_prim z (st.take k).reverse m else none) else rec d z (st.take k).reverse m) with
          | some (v, m') => some (pc + 3, ls, v.toList ++ st.drop k, m')
          | none => none) else none
def am_step (al : Bool) (rec : Nat → Nat → List Value → am_M → Option (Option Value × am_M)) (d : Nat) (init : Bool) (ins : Instr) (pc : Nat) (ls : am_L) (st : List Value) (m : am_M) : Option am_C := match ins with
  | .invokevirtual z => am_calls al rec d 0 z pc ls st m
  | .invokestatic z => am_calls al rec d 1 z pc ls st m
  | .invokespecial z => am_calls al rec d 2 z pc ls st m
  | ins => match am_s1 ins pc ls st m with
    | some q => some q
    | none => match am_s2 ins pc ls st m with
      | some q => some q
      | none => match am_s3 ins pc ls st m with
        | some q => some q
        | none => match am_s4 am_fk2 init ins pc ls st m with
          | some q => some q
          | none => am_s5 al am_dv ins pc ls st m
def am_isInit (r : am_Rec) : Bool := r.1.name == "<init>"
def am_run (al : Bool) : Nat → Nat → Nat → Nat → am_L → List Value → am_M → Option (Option Value × am_M)
  | 0, _, _, _, _, _, _ => none
  | n + 1, d, i, pc, ls, st, m => match am_ms[i]? with
    | none => none
    | some r => match r.2.2.2.2.2.lookup pc with
      | none => none
      | some q => match am_ret r.2.2.2.1 q.1 st with
        | some v => some (v, m)
        | none => match am_step al (fun d z as m => match am_ms[z]? with
            | some rz => if (am_entry as).length ≤ rz.2.2.1 then am_run al n d z 0 (am_pad rz.2.2.1 (am_entry as)) [] m else none
            | none => none) d (am_isInit r) q.1 pc ls st m with
          | some c => am_run al n d i c.1 c.2.1 c.2.2.1 c.2.2.2
          | none => none
/-- the fresh object, and the fresh reference, by running their constructors -/
def am_zero : am_M := (0, 0, fun _ => .inr (99, []))
