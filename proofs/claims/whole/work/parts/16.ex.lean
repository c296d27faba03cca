/-! WHAT A RUN ANSWERS, said of the rest of the run: Ex; one instruction, one rewriting -/
theorem am_calls_le {al : Bool} {rec rec' : Nat → Nat → List Value → am_M → Option (Option Value × am_M)} (hr : ∀ d z as m x, rec d z as m = some x → rec' d z as m = some x) {d kd z pc : Nat} {ls : am_L} {st : List Value} {m : am_M} {c : am_C} (h : am_calls al rec d kd z pc ls st m = some c) : am_calls al rec' d kd z pc ls st m = some c := by
  unfold am_calls at h ⊢
  split at h
  · cases h
  · split at h
    · next h1 => simp only [if_pos h1]; exact h
    · next h1 =>
      simp only [if_neg h1]
      split at h
      · next h2 => simp only [if_pos h2]; exact h
      · next h2 =>
        simp only [if_neg h2]
        cases hrz : am_ms[z]? with
        | none => rw [hrz] at h; cases h
        | some rz =>
          rw [hrz] at h
          simp only at h ⊢
          generalize hkk : rz.2.2.2.2.1.2.1 + (if rz.2.2.2.2.1.2.2 = true then 0 else 1) = kk at h ⊢
          split at h
          · next hc =>
            rw [if_pos hc]
            by_cases h276 : 276 ≤ z
            · rw [if_pos h276] at h ⊢
              exact h
            · rw [if_neg h276] at h ⊢
              split at h
              · next v m' hres => rw [hr _ _ _ _ _ hres]; exact h
              · cases h
          · cases h
theorem am_step_le {al : Bool} {rec rec' : Nat → Nat → List Value → am_M → Option (Option Value × am_M)} (hr : ∀ d z as m x, rec d z as m = some x → rec' d z as m = some x) {d : Nat} {init : Bool} {ins : Instr} {pc : Nat} {ls : am_L} {st : List Value} {m : am_M} {c : am_C} (h : am_step al rec d init ins pc ls st m = some c) : am_step al rec' d init ins pc ls st m = some c := by
  unfold am_step at h ⊢
  split at h
  · exact am_calls_le hr h
  · exact am_calls_le hr h
  · exact am_calls_le hr h
  · exact h
theorem am_run_le (al : Bool) : ∀ (n k d i pc : Nat) (ls : am_L) (st : List Value) (m : am_M) (x : Option Value × am_M), am_run al n d i pc ls st m = some x → am_run al (n + k) d i pc ls st m = some x
  | 0, _, _, _, _, _, _, _, _, h => by cases h
  | n + 1, k, d, i, pc, ls, st, m, x, h => by
    have hr : ∀ d z as m x, am_rec al n d z as m = some x → am_rec al (n + k) d z as m = some x := by
      intro d z as m x h
      unfold am_rec at h ⊢
      split at h
      · split at h
        · next hl => rw [if_pos hl]; exact am_run_le al n k _ _ _ _ _ _ _ h
        · cases h
      · cases h
    rw [show n + 1 + k = (n + k) + 1 by omega, am_run_eq]
    rw [am_run_eq] at h
    split at h
    · cases h
    · split at h
      · cases h
      · split at h
        · exact h
        · split at h
          · next c hc =>
            rw [am_step_le hr hc]
            exact am_run_le al n k _ _ _ _ _ _ _ h
          · cases h
theorem am_run_det {al : Bool} {n n' d i pc : Nat} {ls : am_L} {st : List Value} {m : am_M} {x y : Option Value × am_M} (h1 : am_run al n d i pc ls st m = some x) (h2 : am_run al n' d i pc ls st m = some y) : x = y := by
  have a := am_run_le al n n' d i pc ls st m x h1
  have b := am_run_le al n' n d i pc ls st m y h2
  rw [Nat.add_comm] at b
  exact Option.some.inj (a.symm.trans b)
def am_code (i pc : Nat) : Option (Instr × Nat) := match am_ms[i]? with
  | none => none
  | some r => r.2.2.2.2.2.lookup pc
/-- the run from here ends, and its answer and memory are as post says -/
def Ex (d i pc : Nat) (ls : am_L) (st : List Value) (m : am_M) (post : Option Value → am_M → Prop) : Prop := ∃ n v m', am_run false n d i pc ls st m = some (v, m') ∧ post v m'
/-- a call -/
def Cl (d z : Nat) (as : List Value) (m : am_M) (post : Option Value → am_M → Prop) : Prop := ∃ n v m', am_rec false n d z as m = some (v, m') ∧ post v m'
theorem Ex_iff {d i pc : Nat} {ls : am_L} {st : List Value} {m : am_M} {v : Option Value} {m' : am_M} (h : Ex d i pc ls st m (fun w n => w = v ∧ n = m')) (post : Option Value → am_M → Prop) : Ex d i pc ls st m post ↔ post v m' := by
  obtain ⟨n, w, k, h1, rfl, rfl⟩ := h
  constructor
  · rintro ⟨n', w', k', h2, h3⟩
    cases am_run_det h1 h2
    exact h3
  · exact fun h2 => ⟨n, w, k, h1, h2⟩
theorem Ex_mono {d i pc : Nat} {ls : am_L} {st : List Value} {m : am_M} {post post' : Option Value → am_M → Prop} (h : Ex d i pc ls st m post) (hp : ∀ v m', post v m' → post' v m') : Ex d i pc ls st m post' := by
  obtain ⟨n, w, k, h1, h2⟩ := h
  exact ⟨n, w, k, h1, hp _ _ h2⟩
theorem Cl_ex {d z : Nat} {rz : am_Rec} {as : List Value} {m : am_M} {post : Option Value → am_M → Prop} (hz : am_ms[z]? = some rz) (hl : (am_entry as).length ≤ rz.2.2.1) : Cl d z as m post ↔ Ex d z 0 (am_pad rz.2.2.1 (am_entry as)) [] m post := by
  unfold Cl Ex am_rec
  simp only [hz, if_pos hl]
theorem Cl_iff {d z : Nat} {as : List Value} {m : am_M} {v : Option Value} {m' : am_M} (h : Cl d z as m (fun w n => w = v ∧ n = m')) (post : Option Value → am_M → Prop) : Cl d z as m post ↔ post v m' := by
  obtain ⟨n, w, k, h1, rfl, rfl⟩ := h
  constructor
  · rintro ⟨n', w', k', h2, h3⟩
    have e : (w, k) = (w', k') := by
      unfold am_rec at h1 h2
      cases hz : am_ms[z]? with
      | none => rw [hz] at h1; cases h1
      | some rz =>
        rw [hz] at h1 h2
        simp only at h1 h2
        by_cases hl : (am_entry as).length ≤ rz.2.2.1
        · rw [if_pos hl] at h1 h2
          exact am_run_det h1 h2
        · rw [if_neg hl] at h1
          cases h1
    cases e
    exact h3
  · exact fun h2 => ⟨n, w, k, h1, h2⟩
theorem Cl_mono {d i : Nat} {as : List Value} {m : am_M} {post post' : Option Value → am_M → Prop} (h : Cl d i as m post) (hp : ∀ v m', post v m' → post' v m') : Cl d i as m post' := by
  obtain ⟨n, w, k, h1, h2⟩ := h
  exact ⟨n, w, k, h1, hp _ _ h2⟩
/-- an instruction that is neither call nor return -/
def am_nx (ins : Instr) (pc : Nat) (ls : am_L) (st : List Value) (m : am_M) : Option am_C := match am_s1 ins pc ls st m with
  | some q => some q
  | none => match am_s2 ins pc ls st m with
    | some q => some q
    | none => match am_s3 ins pc ls st m with
      | some q => some q
      | none => am_s4 am_fk2 false ins pc ls st m
theorem am_s4_init {init : Bool} {ins : Instr} {pc : Nat} {ls : am_L} {st : List Value} {m : am_M} {c : am_C} (h : am_s4 am_fk2 false ins pc ls st m = some c) : am_s4 am_fk2 init ins pc ls st m = some c := by
  cases ins with
  | putfield f =>
    simp only [am_s4] at h ⊢
    split at h
    · split at h
      · next ci fs ha =>
        split at h
        · next hc =>
          rw [if_pos ⟨hc.1, hc.2.1, hc.2.2.1, fun q => by cases hc.2.2.2 q⟩]
          exact h
        · cases h
      · cases h
    · cases h
  | _ => exact h
theorem am_nx_step {ins : Instr} {pc : Nat} {ls : am_L} {st : List Value} {m : am_M} {c : am_C} (h : am_nx ins pc ls st m = some c) (rec : Nat → Nat → List Value → am_M → Option (Option Value × am_M)) (d : Nat) (init : Bool) (rt : Option FieldType) : am_step false rec d init ins pc ls st m = some c ∧ am_ret rt ins st = none := by
  have key : am_step false rec d init ins pc ls st m = some c := by
    cases ins with
    | invokevirtual z => simp [am_nx, am_s1, am_s2, am_s3, am_s4] at h
    | invokestatic z => simp [am_nx, am_s1, am_s2, am_s3, am_s4] at h
    | invokespecial z => simp [am_nx, am_s1, am_s2, am_s3, am_s4] at h
    | _ =>
      simp only [am_step]
      unfold am_nx at h
      split at h
      · next q hq => rw [hq]; exact h
      · next hq =>
        rw [hq]
        split at h
        · next q hq => rw [hq]; exact h
        · next hq =>
          rw [hq]
          split at h
          · next q hq => rw [hq]; exact h
          · next hq =>
            rw [hq]
            simp only
            rw [am_s4_init h]
  refine ⟨key, ?_⟩
  cases ins with
  | ireturn => simp [am_nx, am_s1, am_s2, am_s3, am_s4] at h
  | lreturn => simp [am_nx, am_s1, am_s2, am_s3, am_s4] at h
  | return_ => simp [am_nx, am_s1, am_s2, am_s3, am_s4] at h
  | _ => rfl
theorem Ex_nx {d i pc len : Nat} {ins : Instr} {ls : am_L} {st : List Value} {m : am_M} {c : am_C} {post : Option Value → am_M → Prop} (hc : am_code i pc = some (ins, len)) (hn : am_nx ins pc ls st m = some c) : Ex d i pc ls st m post ↔ Ex d i c.1 c.2.1 c.2.2.1 c.2.2.2 post := by
  unfold am_code at hc
  cases hi : am_ms[i]? with
  | none => rw [hi] at hc; cases hc
  | some r =>
    rw [hi] at hc
    simp only at hc
    have eq : ∀ n, am_run false (n + 1) d i pc ls st m = am_run false n d i c.1 c.2.1 c.2.2.1 c.2.2.2 := by
      intro n
      obtain ⟨h1, h2⟩ := am_nx_step hn (am_rec false n) d (am_isInit r) r.2.2.2.1
      rw [am_run_eq, hi]
      simp only [hc, h2, h1]
    constructor
    · rintro ⟨n, v, m', h1, h2⟩
      match n, h1 with
      | n + 1, h1 => rw [eq] at h1; exact ⟨n, v, m', h1, h2⟩
    · rintro ⟨n, v, m', h1, h2⟩
      exact ⟨n + 1, v, m', by rw [eq]; exact h1, h2⟩
theorem Ex_ret {d i pc len : Nat} {r : am_Rec} {ins : Instr} {ls : am_L} {st : List Value} {m : am_M} {v : Option Value} {post : Option Value → am_M → Prop} (hi : am_ms[i]? = some r) (hc : am_code i pc = some (ins, len)) (hr : am_ret r.2.2.2.1 ins st = some v) : Ex d i pc ls st m post ↔ post v m := by
  unfold am_code at hc
  rw [hi] at hc
  simp only at hc
  have eq : ∀ n, am_run false (n + 1) d i pc ls st m = some (v, m) := by
    intro n
    rw [am_run_eq, hi]
    simp only [hc, hr]
  constructor
  · rintro ⟨n, v', m', h1, h2⟩
    match n, h1 with
    | n + 1, h1 => rw [eq] at h1; cases h1; exact h2
  · exact fun h => ⟨1, v, m, eq 0, h⟩
theorem Ex_call {d i pc len kd z k : Nat} {r rz : am_Rec} {ins : Instr} {ls : am_L} {as rest : List Value} {m : am_M} {post : Option Value → am_M → Prop} (hi : am_ms[i]? = some r) (hc : am_code i pc = some (ins, len))
    (hk : (kd = 0 ∧ ins = .invokevirtual z) ∨ (kd = 1 ∧ ins = .invokestatic z) ∨ (kd = 2 ∧ ins = .invokespecial z)) (hz : am_ms[z]? = some rz) (hz2 : z < 276) (hka : as.length = rz.2.2.2.2.1.2.1 + (if rz.2.2.2.2.1.2.2 = true then 0 else 1)) (hcat : (rest.map fun v => v.category).sum ≤ 8)
    (hrc : rz.2.2.2.2.1.2.2 = true ∨ am_rcv rz kd as m = true) : Ex (d + 1) i pc ls (as.reverse ++ rest) m post ↔ Cl d z as m (fun v m' => Ex (d + 1) i (pc + 3) ls (v.toList ++ rest) m' post) := by
  unfold am_code at hc
  rw [hi] at hc
  simp only at hc
  have hst : ∀ n, am_step false (am_rec false n) (d + 1) (am_isInit r) ins pc ls (as.reverse ++ rest) m = (match am_rec false n d z as m with
      | some (v, m') => some (pc + 3, ls, v.toList ++ rest, m')
      | none => none) := by
    intro n
    have h0 : am_step false (am_rec false n) (d + 1) (am_isInit r) ins pc ls (as.reverse ++ rest) m = am_calls false (am_rec false n) (d + 1) kd z pc ls (as.reverse ++ rest) m := by
      rcases hk with ⟨rfl, rfl⟩ | ⟨rfl, rfl⟩ | ⟨rfl, rfl⟩ <;> rfl
    rw [h0]
    unfold am_calls
    simp only [show ¬ z = 9000 by omega, show ¬ z = 9001 by omega, if_false, hz, ← hka]
    have e1 : (as.reverse ++ rest).take as.length = as.reverse := by rw [List.take_append_of_le_length (by simp), List.take_of_length_le (by simp)]
    have e2 : (as.reverse ++ rest).drop as.length = rest := by rw [List.drop_append_of_le_length (by simp), List.drop_of_length_le (by simp), List.nil_append]
    rw [e1, e2, List.reverse_reverse, if_pos ⟨by simp, hcat, hrc⟩, if_neg (by omega)]
    rfl
  have hrt : am_ret r.2.2.2.1 ins (as.reverse ++ rest) = none := by
    rcases hk with ⟨rfl, rfl⟩ | ⟨rfl, rfl⟩ | ⟨rfl, rfl⟩ <;> rfl
  have eq : ∀ n, am_run false (n + 1) (d + 1) i pc ls (as.reverse ++ rest) m = (match am_rec false n d z as m with
      | some (v, m') => am_run false n (d + 1) i (pc + 3) ls (v.toList ++ rest) m'
      | none => none) := by
    intro n
    rw [am_run_eq, hi]
    simp only [hc, hrt, hst]
    cases am_rec false n d z as m with
    | none => rfl
    | some q => rfl
  have rle : ∀ {n k x}, am_rec false n d z as m = some x → am_rec false (n + k) d z as m = some x := by
    intro n k x h
    unfold am_rec at h ⊢
    split at h
    · split at h
      · next hl => rw [if_pos hl]; exact am_run_le _ _ _ _ _ _ _ _ _ _ h
      · cases h
    · cases h
  constructor
  · rintro ⟨n, v, m', h1, h2⟩
    match n, h1 with
    | n + 1, h1 =>
      rw [eq] at h1
      cases hq : am_rec false n d z as m with
      | none => rw [hq] at h1; cases h1
      | some q => rw [hq] at h1; exact ⟨n, q.1, q.2, hq, n, v, m', h1, h2⟩
  · rintro ⟨n, v, m', h1, n2, v2, m2, h3, h4⟩
    refine ⟨n + n2 + 1, v2, m2, ?_, h4⟩
    rw [eq, rle h1]
    simp only
    rw [Nat.add_comm]
    exact am_run_le _ _ _ _ _ _ _ _ _ _ h3
theorem Ex_copy {d i pc len : Nat} {r : am_Rec} {ls : am_L} {st : List Value} {m : am_M} {c : am_C} {post : Option Value → am_M → Prop} (hi : am_ms[i]? = some r) (hc : am_code i pc = some (.invokestatic 9001, len)) (hn : am_copy pc ls st m = some c) : Ex (d + 1) i pc ls st m post ↔ Ex (d + 1) i c.1 c.2.1 c.2.2.1 c.2.2.2 post := by
  unfold am_code at hc
  rw [hi] at hc
  simp only at hc
  have eq : ∀ n, am_run false (n + 1) (d + 1) i pc ls st m = am_run false n (d + 1) i c.1 c.2.1 c.2.2.1 c.2.2.2 := by
    intro n
    have h0 : am_step false (am_rec false n) (d + 1) (am_isInit r) (.invokestatic 9001) pc ls st m = some c := by
      show am_calls false (am_rec false n) (d + 1) 1 9001 pc ls st m = some c
      unfold am_calls
      simp only [show ¬ (9001 = 9000) by decide, if_false, if_true]
      exact hn
    rw [am_run_eq, hi]
    have hrt : am_ret r.2.2.2.1 (.invokestatic 9001) st = none := rfl
    simp only [hc, hrt, h0]
  constructor
  · rintro ⟨n, v, m', h1, h2⟩
    match n, h1 with
    | n + 1, h1 => rw [eq] at h1; exact ⟨n, v, m', h1, h2⟩
  · rintro ⟨n, v, m', h1, h2⟩
    exact ⟨n + 1, v, m', by rw [eq]; exact h1, h2⟩
