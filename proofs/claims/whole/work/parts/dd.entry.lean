/-! THE LAW'S ENTRY: what the start gives -/
def en_tm : Term := .string "EatKnown$Tape" 72
def en_cs : List Int32 := [102, 97, 99, 116, 32, 108, 101, 97, 110, 115, 32, 112, 97, 103, 101, 32, 119, 101, 105, 103, 104, 32, 99, 111, 112, 105, 101, 115, 32, 115, 97, 121, 115, 32, 99, 108, 97, 115, 104, 32, 112, 101, 114, 115, 111, 110, 32, 114, 111, 111, 109, 32, 100, 105, 101, 32, 104, 101, 105, 114, 32, 116, 97, 115, 107, 32, 119, 111, 114, 116, 104, 32, 110, 101, 101, 100, 115, 32, 99, 111, 112, 121, 32, 98, 105, 116, 101, 32, 98, 117, 114, 110, 32, 116, 114, 117, 101, 32, 108, 105, 101, 32, 114, 101, 99, 105, 112, 101, 32, 101, 97, 116, 32, 100, 105, 101, 115, 32, 110, 105, 103, 104, 116, 32, 110, 111, 116, 32, 97, 110, 100, 32, 111, 114, 32, 104, 101, 97, 118, 121, 32, 116, 104, 101, 114, 101, 32, 104, 97, 115, 32]
theorem en_cs_eq : am_chars = en_cs := by decide +kernel
theorem en_el : (flatC (Cond.and given_1 narrow_1)).drop 58 = (List.range 151).map (fun j => Cond.eq (.elem (.field en_tm "java/lang/String" "value" "[B") (.int (Int32.ofNat j))) (.int (en_cs.getD j 0))) := by decide +kernel
theorem en_S {s : State} {args : Array Value} {cs : List Int32} (hs : ∀ c ∈ flatC (Cond.and given_1 narrow_1), c.before args s = true) (hel : ∀ j, j < 151 → (Cond.eq (.elem (.field en_tm "java/lang/String" "value" "[B") (.int (Int32.ofNat j))) (.int (cs.getD j 0))).before args s = true) : ∃ sa av : Nat, vk_S 1 [151] [cs] (fun _ => sa) (fun _ => av) (fun q => s.heap.size ≤ q) s s.heap ∧ en_tm.eval args s none [] s = some (.ref sa) := by
  have hA : ∀ a : Nat, a < s.heap.size → ¬ s.heap.size ≤ a := fun a h => Nat.not_le.mpr h
  have h1 : (Cond.exactly en_tm "java/lang/String").before args s = true := hs _ (by decide +kernel)
  have h2 : (Cond.eq (.field en_tm "java/lang/String" "coder" "B") (.int 0)).before args s = true := hs _ (by decide +kernel)
  have h3 : (Cond.arrayOf (.field en_tm "java/lang/String" "value" "[B") .byte).before args s = true := hs _ (by decide +kernel)
  have h4 : (Cond.eq (.length (.field en_tm "java/lang/String" "value" "[B")) (.int (Int32.ofNat 151))).before args s = true := hs _ (by decide +kernel)
  obtain ⟨adK, adV, hS, hev⟩ := vk_Sof (args := args) (s := s) (N := 1) (tm := fun _ => en_tm) (len := [151]) (byt := [cs]) (A := fun q => s.heap.size ≤ q) (fun i hi => by
    obtain rfl : i = 0 := (by omega)
    decide) (fun i hi => h1) (fun i hi => h2) (fun i hi => h3) (fun i hi => by
    obtain rfl : i = 0 := (by omega)
    exact h4) (fun i hi j hj => by
    obtain rfl : i = 0 := (by omega)
    exact hel j hj) (fun i j hi hj hij => by omega) hA
  exact ⟨adK 0, adV 0, ⟨fun i hi => by
    obtain rfl : i = 0 := (by omega)
    exact hS.1 0 (by decide), fun i j hi hj _ => by omega⟩, hev 0 (by decide)⟩
theorem en_nw : (am_NW.all (fun w => w.onTables && decide (w ∈ lw_tbl))) = true := by decide +kernel
theorem en_px : (px_B.all (fun w => w.onTables && decide (w ∈ lw_tbl))) = true := by decide +kernel
theorem en_arr {s : State} {args : Array Value} {ty : FieldType} (h : (Cond.arrayClass ty).before args s = true) (hp : ∀ C, ty ≠ .object C) : ∃ c : ClassId, ArrOfT s c ty ∧ va_RA s c ty := by
  obtain ⟨c, k, comp, h1, h2, h3⟩ := Cond.arrayClass_spec h
  refine ⟨c, fun N z => ⟨(fun k h => by cases h), k, h2, comp, h3⟩, ?_⟩
  cases ty with
  | object C => exact absurd rfl (hp C)
  | _ => exact h1
theorem en_obj {s : State} {args : Array Value} {C : String} (h : (Cond.arrayOver (.object C)).before args s = true) : ∃ c : ClassId, ArrOfT s c (.object C) ∧ va_RA s c (.object C) := by
  obtain ⟨comp, c, k, h1, h2, h3, h4, h5⟩ := Cond.arrayOver_spec h
  exact ⟨c, fun N z => ⟨(fun k h => by cases h), k, h3, comp, h4⟩, k, comp, h3, h4, h1, h5⟩
theorem en_V {s : State} {args : Array Value} (hts : ∀ w ∈ lw_tbl, w.before args s = true) (hgv : (Cond.and given_1 narrow_1).before args s = true) : ∃ (D : va_G) (dA : Nat → ClassId) (sa av : Nat), am_V D dA (Zs s.heap.size sa av) s := by
  have hs := flat_of_before _ hgv
  have hA : ∀ a : Nat, a < s.heap.size → ¬ s.heap.size ≤ a := fun a h => Nat.not_le.mpr h
  have ts := fun {w : Cond} (h : w ∈ am_WS) => hts w (List.mem_filter.mp h).1
  -- the classes
  have h0 : ∀ k : Nat, ∃ z : ClassId × (Nat → Nat), ∀ q : vw_C, vwCl[k]? = some q → u_Kn s q.1 q.2.1 q.2.2 z.1 z.2 := by
    intro k
    cases hq : vwCl[k]? with
    | none => exact ⟨(0, fun _ => 0), fun q h => by cases h⟩
    | some q =>
      obtain ⟨cC, iS, hk⟩ := u_known (ws := am_WS) (C := q.1) (T := q.2.1) (N := q.2.2) (fun w hw => ts hw) (fun w hw => (am_cl hq).2.2 w hw) (ts (am_cl hq).1)
      exact ⟨(cC, iS), fun q' h => by cases h; exact hk⟩
  obtain ⟨z, hz⟩ := Classical.axiomOfChoice h0
  -- the classes of arrays
  obtain ⟨a0, f0, g0⟩ := en_arr (ts am_arr.1) (fun C h => by cases h)
  obtain ⟨a1, f1, g1⟩ := en_arr (ts am_arr.2.1) (fun C h => by cases h)
  obtain ⟨a2, f2, g2⟩ := en_arr (ts am_arr.2.2.1) (fun C h => by cases h)
  obtain ⟨a3, f3, g3⟩ := en_arr (ts am_arr.2.2.2) (fun C h => by cases h)
  have ho4 : (Cond.arrayOver (.object "EatKnown$Life")).before args s = true := hts _ (List.mem_of_getElem? (i := 487) (by decide +kernel))
  have ho5 : (Cond.arrayOver (.object "EatKnown$Standing")).before args s = true := hts _ (List.mem_of_getElem? (i := 488) (by decide +kernel))
  obtain ⟨a4, f4, g4⟩ := en_obj ho4
  obtain ⟨a5, f5, g5⟩ := en_obj ho5
  have hK : va_K (fun k => (z k).1, fun k => (z k).2) vwCl (am_tys (fun k => if k = 0 then a0 else if k = 1 then a1 else if k = 2 then a2 else if k = 3 then a3 else if k = 4 then a4 else a5)) s := by
    refine ⟨fun k q hq => hz k q hq, fun k q hq => ?_⟩
    match k, hq with
    | 0, hq => cases hq; exact ⟨f0, g0⟩
    | 1, hq => cases hq; exact ⟨f1, g1⟩
    | 2, hq => cases hq; exact ⟨f2, g2⟩
    | 3, hq => cases hq; exact ⟨f3, g3⟩
    | 4, hq => cases hq; exact ⟨f4, g4⟩
    | 5, hq => cases hq; exact ⟨f5, g5⟩
    | n + 6, hq => simp [am_tys] at hq
  -- the text
  obtain ⟨sa, av, hS, hev0⟩ := en_S (cs := am_chars) hs (fun j hj => by
    rw [en_cs_eq]
    have hm := List.mem_map_of_mem (f := fun j => Cond.eq (.elem (.field en_tm "java/lang/String" "value" "[B") (.int (Int32.ofNat j))) (.int (en_cs.getD j 0))) (List.mem_range.mpr hj)
    rw [← en_el] at hm
    exact hs _ (List.mem_of_mem_drop hm))
  have hstr : (Cond.stringRef "EatKnown$Tape" 72 am_text).before args s = true := hts _ (List.mem_of_getElem? (i := 672) (by decide +kernel))
  have hlt : sa < s.heap.size := by
    obtain ⟨cell, h1, -⟩ := (hS.1 0 (by decide)).1
    exact (Array.getElem?_eq_some_iff.mp h1).1
  have hZ1 : (Cond.eq (.static RJ0 "COMPACT_STRINGS" "Z") (.int 1)).before args s = true := hs _ (by decide +kernel)
  have hZ2 : (Cond.isRef (.static RJ3 "SIOOBE_FORMATTER" "Ljava/util/function/BiFunction;")).before args s = true := hs _ (by decide +kernel)
  have hZ3 : (Cond.isRef (.static Bundle.tN "UNASSIGNED_STACK" Bundle.steD)).before args s = true := hs _ (by decide +kernel)
  have hZ4 : (Cond.isRef (.static Bundle.tN "SUPPRESSED_SENTINEL" Bundle.listD)).before args s = true := hs _ (by decide +kernel)
  have hL1 : (Cond.laysStatic RJ0 "COMPACT_STRINGS" "Z").before args s = true := hts _ (List.mem_of_getElem? (i := 682) (by decide +kernel))
  have hL2 : (Cond.laysStatic RJ3 "SIOOBE_FORMATTER" "Ljava/util/function/BiFunction;").before args s = true := hts _ (List.mem_of_getElem? (i := 698) (by decide +kernel))
  have hL3 : (Cond.laysStatic Bundle.tN "UNASSIGNED_STACK" Bundle.steD).before args s = true := hts _ (List.mem_of_getElem? (i := 1344) (by decide +kernel))
  have hL4 : (Cond.laysStatic Bundle.tN "SUPPRESSED_SENTINEL" Bundle.listD).before args s = true := hts _ (List.mem_of_getElem? (i := 1346) (by decide +kernel))
  have hi4 : (Cond.initialized Bundle.tN).before args s = true := hts _ (List.mem_of_getElem? (i := 151) (by decide +kernel))
  have hnw : ∀ {B : List Cond}, (B.all (fun w => w.onTables && decide (w ∈ lw_tbl))) = true → ∀ w ∈ B, va_Nw w s := fun h w hw => by
    have h1 := List.all_eq_true.mp h w hw
    simp only [Bool.and_eq_true, decide_eq_true_eq] at h1
    exact va_Nw.of h1.1 (hts w h1.2)
  exact ⟨_, _, sa, av, hK, hnw en_nw, ⟨va_AO.of ho4, va_AO.of ho5⟩, hlt, vk_R.of hstr hev0, va_Zof hL1 (ts sx_i0) (va_eqt hZ1) hA, va_Zqof hL2 (ts sx_i3) hZ2 hA, hS, vx_Zqof hL3 hi4 hZ3 hA, vx_Zqof hL4 hi4 hZ4 hA, hnw en_px⟩
