def am_okMT (e : Nat × Nat × Nat × Nat) : Bool := match am_cn[e.1 / 1000]? with
  | some C => if e.2.1 = 9000 then am_W e.2.2.2 (.methodLink C (e.1 % 1000) Lib.objectInit) else if e.2.1 = 9001 then am_W e.2.2.2 (.methodLink C (e.1 % 1000) arraycopyName) else (match am_ms[e.2.1]? with
    | some r => if e.2.2.1 = 1 then decide (.methodLinkNest C (e.1 % 1000) r.1 "EatKnown" ∈ am_NW) else am_W e.2.2.2 (.methodLink C (e.1 % 1000) r.1)
    | none => false)
  | none => false

theorem am_MT_ok0 : am_MT_0.all am_okMT = true := by decide +kernel
theorem am_MT_ok1 : am_MT_1.all am_okMT = true := by decide +kernel
theorem am_MT_ok2 : am_MT_2.all am_okMT = true := by decide +kernel
theorem am_MT_ok3 : am_MT_3.all am_okMT = true := by decide +kernel
theorem am_MT_ok4 : am_MT_4.all am_okMT = true := by decide +kernel
theorem am_MT_ok5 : am_MT_5.all am_okMT = true := by decide +kernel
theorem am_MT_ok6 : am_MT_6.all am_okMT = true := by decide +kernel
theorem am_MT_ok7 : am_MT_7.all am_okMT = true := by decide +kernel
theorem am_MT_ok8 : am_MT_8.all am_okMT = true := by decide +kernel
theorem am_MT_ok9 : am_MT_9.all am_okMT = true := by decide +kernel
theorem am_MT_ok10 : am_MT_10.all am_okMT = true := by decide +kernel
theorem am_MT_ok11 : am_MT_11.all am_okMT = true := by decide +kernel
theorem am_MT_ok12 : am_MT_12.all am_okMT = true := by decide +kernel
theorem am_MT_ok13 : am_MT_13.all am_okMT = true := by decide +kernel
theorem am_MT_ok14 : am_MT_14.all am_okMT = true := by decide +kernel
theorem am_MT_ok15 : am_MT_15.all am_okMT = true := by decide +kernel
theorem am_MT_ok16 : am_MT_16.all am_okMT = true := by decide +kernel
theorem am_MT_ok17 : am_MT_17.all am_okMT = true := by decide +kernel
theorem am_MT_ok : am_MT.all am_okMT = true := List.all_eq_true.mpr (fun r h => ((List.mem_append.mp h).elim (fun h => List.all_eq_true.mp am_MT_ok0 r h) (fun h => ((List.mem_append.mp h).elim (fun h => List.all_eq_true.mp am_MT_ok1 r h) (fun h => ((List.mem_append.mp h).elim (fun h => List.all_eq_true.mp am_MT_ok2 r h) (fun h => ((List.mem_append.mp h).elim (fun h => List.all_eq_true.mp am_MT_ok3 r h) (fun h => ((List.mem_append.mp h).elim (fun h => List.all_eq_true.mp am_MT_ok4 r h) (fun h => ((List.mem_append.mp h).elim (fun h => List.all_eq_true.mp am_MT_ok5 r h) (fun h => ((List.mem_append.mp h).elim (fun h => List.all_eq_true.mp am_MT_ok6 r h) (fun h => ((List.mem_append.mp h).elim (fun h => List.all_eq_true.mp am_MT_ok7 r h) (fun h => ((List.mem_append.mp h).elim (fun h => List.all_eq_true.mp am_MT_ok8 r h) (fun h => ((List.mem_append.mp h).elim (fun h => List.all_eq_true.mp am_MT_ok9 r h) (fun h => ((List.mem_append.mp h).elim (fun h => List.all_eq_true.mp am_MT_ok10 r h) (fun h => ((List.mem_append.mp h).elim (fun h => List.all_eq_true.mp am_MT_ok11 r h) (fun h => ((List.mem_append.mp h).elim (fun h => List.all_eq_true.mp am_MT_ok12 r h) (fun h => ((List.mem_append.mp h).elim (fun h => List.all_eq_true.mp am_MT_ok13 r h) (fun h => ((List.mem_append.mp h).elim (fun h => List.all_eq_true.mp am_MT_ok14 r h) (fun h => ((List.mem_append.mp h).elim (fun h => List.all_eq_true.mp am_MT_ok15 r h) (fun h => ((List.mem_append.mp h).elim (fun h => List.all_eq_true.mp am_MT_ok16 r h) (fun h => (List.all_eq_true.mp am_MT_ok17 r h))))))))))))))))))))))))))))))))))))
