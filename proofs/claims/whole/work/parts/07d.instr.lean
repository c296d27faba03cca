def am_okP (r : am_Rec) : Bool := plainName r.1.cls || decide (r.1 = yJ9_floorMod_7cf53 ∨ r.1 = yJ9_max_7cf53 ∨ r.1 = yJ9_min_7cf53)
theorem am_pF0 : plainFor yJ9_floorMod_7cf53 = true := by decide +kernel
theorem am_pF1 : plainFor yJ9_max_7cf53 = true := by decide +kernel
theorem am_pF2 : plainFor yJ9_min_7cf53 = true := by decide +kernel
theorem am_okP_ok {r : am_Rec} (h : am_okP r = true) : plainFor r.1 = true := by
  unfold am_okP at h
  simp only [Bool.or_eq_true, decide_eq_true_eq] at h
  rcases h with h | h | h | h
  · exact plainFor_of_name h
  · rw [h]; exact am_pF0
  · rw [h]; exact am_pF1
  · rw [h]; exact am_pF2
theorem am_PL0 : am_ms_0.all am_okP = true := by decide +kernel
theorem am_PL1 : am_ms_1.all am_okP = true := by decide +kernel
theorem am_PL2 : am_ms_2.all am_okP = true := by decide +kernel
theorem am_PL3 : am_ms_3.all am_okP = true := by decide +kernel
theorem am_PL4 : am_ms_4.all am_okP = true := by decide +kernel
theorem am_PL5 : am_ms_5.all am_okP = true := by decide +kernel
theorem am_PL6 : am_ms_6.all am_okP = true := by decide +kernel
theorem am_plain : ∀ r ∈ am_ms, plainFor r.1 = true := fun r h => ((List.mem_append.mp h).elim (fun h => am_okP_ok (List.all_eq_true.mp am_PL0 r h)) (fun h => ((List.mem_append.mp h).elim (fun h => am_okP_ok (List.all_eq_true.mp am_PL1 r h)) (fun h => ((List.mem_append.mp h).elim (fun h => am_okP_ok (List.all_eq_true.mp am_PL2 r h)) (fun h => ((List.mem_append.mp h).elim (fun h => am_okP_ok (List.all_eq_true.mp am_PL3 r h)) (fun h => ((List.mem_append.mp h).elim (fun h => am_okP_ok (List.all_eq_true.mp am_PL4 r h)) (fun h => ((List.mem_append.mp h).elim (fun h => am_okP_ok (List.all_eq_true.mp am_PL5 r h)) (fun h => (am_okP_ok (List.all_eq_true.mp am_PL6 r h))))))))))))))
set_option maxRecDepth 100000 in
theorem am_MP_ms : am_MP.map (fun e => e.1) = am_ms := rfl
/-- the lengths that the rows of the kit speak of -/
def am_len (ins : Instr) : Nat := match ins with
  | .bipush _ => 2
  | .sipush _ => 3
  | .iload _ => 2
  | .lload _ => 2
  | .aload _ => 2
  | .istore _ => 2
  | .lstore _ => 2
  | .astore _ => 2
  | .iinc _ _ => 3
  | .goto _ => 3
  | .ifCond _ _ => 3
  | .if_icmp _ _ => 3
  | .newarray _ => 2
  | _ => 1
def am_okI (r : am_Rec) (q : Nat × Instr × Nat) : Bool := match q.2.1 with
  | .getfield f => (match decode r.2.1 q.1 with
    | .ok (.getfield idx, 3) => decide ((am_FT.lookup (r.2.2.2.2.1.1 * 1000 + idx)).map (fun e => e.1) = some f) && decide (idx < 1000)
    | _ => false)
  | .putfield f => (match decode r.2.1 q.1 with
    | .ok (.putfield idx, 3) => decide ((am_FT.lookup (r.2.2.2.2.1.1 * 1000 + idx)).map (fun e => e.1) = some f) && decide (idx < 1000) && decide (f / 100 = r.2.2.2.2.1.1 ∨ (am_fk2 (f / 100) (f % 100)).2 = false)
    | _ => false)
  | .invokevirtual z => (match decode r.2.1 q.1 with
    | .ok (.invokevirtual idx, 3) => decide ((am_MT.lookup (r.2.2.2.2.1.1 * 1000 + idx)).map (fun e => (e.1, e.2.1)) = some (z, 0)) && decide (idx < 1000) && (match am_ms[z]? with
      | some rz => decide (rz.2.2.2.2.1.2.2 = false ∧ rz.1.name ≠ "<init>")
      | none => false)
    | _ => decide (z = 9999))
  | .invokestatic z => (match decode r.2.1 q.1 with
    | .ok (.invokestatic idx, 3) => decide ((am_MT.lookup (r.2.2.2.2.1.1 * 1000 + idx)).map (fun e => e.1) = some z) && decide (idx < 1000) && (if z = 9001 then true else match am_ms[z]? with
      | some rz => decide (rz.2.2.2.2.1.2.2 = true)
      | none => false)
    | _ => false)
  | .invokespecial z => (match decode r.2.1 q.1 with
    | .ok (.invokespecial idx, 3) => if z = 9999 then true else decide ((am_MT.lookup (r.2.2.2.2.1.1 * 1000 + idx)).map (fun e => e.1) = some z) && decide (idx < 1000) && (if z = 9000 then decide ((am_MT.lookup (r.2.2.2.2.1.1 * 1000 + idx)).map (fun e => e.2.1) = some 0) else match am_ms[z]? with
      | some rz => decide (rz.2.2.2.2.1.2.2 = false ∧ rz.1.name = "<init>")
      | none => false)
    | _ => false)
  | .ldc n => (match decode r.2.1 q.1 with
    | .ok (.ldc idx, 2) => decide ((am_CT.lookup (r.2.2.2.2.1.1 * 1000 + idx)).map (fun e => e.1) = some n) && decide (idx < 1000)
    | _ => false)
  | .ldc_w n => (match decode r.2.1 q.1 with
    | .ok (.ldc_w idx, 3) => decide ((am_CT.lookup (r.2.2.2.2.1.1 * 1000 + idx)).map (fun e => e.1) = some n) && decide (idx < 1000)
    | _ => false)
  | .ldc2_w n => (match decode r.2.1 q.1 with
    | .ok (.ldc2_w idx, 3) => decide ((am_LT.lookup (r.2.2.2.2.1.1 * 1000 + idx)).map (fun e => e.1) = some n) && decide (idx < 1000)
    | _ => false)
  | .getstatic _ => (match decode r.2.1 q.1 with
    | .ok (.ldc 72, 2) => decide (r.2.2.2.2.1.1 = 10)
    | _ => false)
  | .new ci => if ci = 99 then true else (match decode r.2.1 q.1 with
    | .ok (.new idx, 3) => decide ((am_KT.lookup (r.2.2.2.2.1.1 * 1000 + idx)).map (fun e => e.1) = some ci) && decide (idx < 1000)
    | _ => false)
  | .anewarray ty => (match decode r.2.1 q.1 with
    | .ok (.anewarray idx, 3) => decide ((am_KT.lookup (r.2.2.2.2.1.1 * 1000 + idx)).map (fun e => e.1) = some (if ty = 4 then 4 else 9)) && decide (idx < 1000) && decide (ty = 4 ∨ ty = 5)
    | _ => false)
  | .tableswitch d lo hi offs => decide (decode r.2.1 q.1 = .ok (.tableswitch d lo hi offs, q.2.2))
  | .lookupswitch d ps => decide (decode r.2.1 q.1 = .ok (.lookupswitch d ps, q.2.2))
  | .athrow => true
  | ins => decide (decode r.2.1 q.1 = .ok (ins, am_len ins))
