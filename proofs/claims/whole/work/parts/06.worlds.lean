/-! THE ABSTRACT MEMORY AS A WORLD of the kit: place k lies at b + k, the String constant at sa, the array classes are dA's -/
def am_ce (b sa : Nat) (dA : Nat → ClassId) : va_E → va_E
  | .inr (ci, fs) => .inr (ci, fs.map (am_cv b sa))
  | .inl (t, n, .inl f) => .inl (dA t, n, .inl f)
  | .inl (t, n, .inr (.inl f)) => .inl (dA t, n, .inr (.inl f))
  | .inl (t, n, .inr (.inr (.inl f))) => .inl (dA t, n, .inr (.inr (.inl f)))
  | .inl (t, n, .inr (.inr (.inr (.inl f)))) => .inl (dA t, n, .inr (.inr (.inr (.inl f))))
  | .inl (t, n, .inr (.inr (.inr (.inr f)))) => .inl (dA t, n, .inr (.inr (.inr (.inr (fun i => (f i).map (fun k => if k = am_S then sa else b + k))))))
def am_ws (b sa : Nat) (dA : Nat → ClassId) (m : am_M) : va_W := (List.range m.1).map (fun k => (b + k, am_ce b sa dA (m.2.2 k)))
theorem am_g_lt {m : am_M} {k : Nat} {c : va_E} (h : am_g m k = some c) : k < m.1 ∧ m.2.2 k = c := by
  unfold am_g at h
  by_cases hk : k < m.1
  · rw [if_pos hk] at h
    exact ⟨hk, Option.some.inj h⟩
  · rw [if_neg hk] at h
    cases h
theorem am_ws_get {b sa : Nat} {dA : Nat → ClassId} {m : am_M} {k : Nat} {c : va_E} (h : am_g m k = some c) : (am_ws b sa dA m)[k]? = some (b + k, am_ce b sa dA c) := by
  obtain ⟨h1, h2⟩ := am_g_lt h
  simp [am_ws, h1, h2]
theorem am_ws_set {b sa : Nat} {dA : Nat → ClassId} {m : am_M} {k : Nat} (c : va_E) (hk : k < m.1) : am_ws b sa dA (am_p m k c) = (am_ws b sa dA m).set k (b + k, am_ce b sa dA c) := by
  apply List.ext_getElem?
  intro j
  by_cases hj : j = k
  · subst hj
    simp [am_ws, am_p, hk]
  · rw [List.getElem?_set_ne (Ne.symm hj)]
    by_cases hl : j < m.1
    · simp [am_ws, am_p, hl, hj]
    · rw [List.getElem?_eq_none (by simp [am_ws, am_p]; omega), List.getElem?_eq_none (by simp [am_ws]; omega)]
theorem am_ws_new {b sa : Nat} {dA : Nat → ClassId} {m : am_M} (c : va_E) (n : Nat) : am_ws b sa dA (am_new m c n) = am_ws b sa dA m ++ [(b + m.1, am_ce b sa dA c)] := by
  simp only [am_ws, am_new, List.range_succ, List.map_append, List.map_cons, List.map_nil, if_true]
  congr 1
  apply List.map_congr_left
  intro k hk
  rw [if_neg (by have := List.mem_range.mp hk; omega)]
theorem am_ws_D (b sa : Nat) (dA : Nat → ClassId) (m : am_M) : va_D (fun q => b ≤ q) (am_ws b sa dA m) := by
  have key : ∀ (i : Nat) (p : Nat × va_E), (am_ws b sa dA m)[i]? = some p → p.1 = b + i ∧ i < m.1 := by
    intro i p h
    unfold am_ws at h
    rw [List.getElem?_map] at h
    cases hr : (List.range m.1)[i]? with
    | none => rw [hr] at h; cases h
    | some k =>
      rw [hr] at h
      obtain ⟨hl, hk⟩ := List.getElem?_eq_some_iff.mp hr
      simp at hk hl
      subst hk
      cases h
      exact ⟨rfl, hl⟩
  refine ⟨fun i j p q hi hj e => ?_, fun k q hk => ?_⟩
  · have a := key i p hi
    have c := key j q hj
    omega
  · have a := key k q hk
    show b ≤ q.1
    omega
def am_tys (dA : Nat → ClassId) : List (ClassId × FieldType) := [(dA 0, .int), (dA 1, .long), (dA 2, .char), (dA 3, .boolean), (dA 4, .object "EatKnown$Life"), (dA 5, .object "EatKnown$Standing")]
/-- the private members' links between nest mates -/
def am_NW : List Cond := [.methodLinkNest "EatKnown" 9 yX10_init "EatKnown", .methodLinkNest "EatKnown$Library" 65 yX0_init "EatKnown", .methodLinkNest "EatKnown" 37 yX5_init "EatKnown", .methodLinkNest "EatKnown" 44 yX9_init "EatKnown", .methodLinkNest "EatKnown$Standing" 9 yX4_init "EatKnown", .methodLinkNest "EatKnown$Standing" 18 yX5_init "EatKnown", .methodLinkNest "EatKnown" 51 yX4_init "EatKnown", .methodLinkNest "EatKnown" 73 yX1_init "EatKnown", .methodLinkNest "EatKnown" 80 yX8_init "EatKnown", .methodLinkNest "EatKnown" 87 yX2_init "EatKnown", .methodLinkNest "EatKnown$Groups" 52 yX11_isFewer "EatKnown"]
/-- what stays of the machine's tables and of what lies below b -/
def am_V (D : va_G) (dA : Nat → ClassId) (Z : State → Prop) (U : State) : Prop := va_K D vwCl (am_tys dA) U ∧ (∀ w ∈ am_NW, va_Nw w U) ∧ (va_AO RX4 U ∧ va_AO RX9 U) ∧ Z U
/-- Z speaks of tables that only grow warmer, and of cells below b -/
def am_Zok (b : Nat) (Z : State → Prop) : Prop := ∀ u U : State, u.WarmedH U.vm → b ≤ u.heap.size → (∀ q : Nat, q < b → U.heap[q]? = u.heap[q]?) → Z u → Z U
theorem am_V_mv {b : Nat} {D : va_G} {dA : Nat → ClassId} {Z : State → Prop} (hZ : am_Zok b Z) {u U : State} (hW : u.WarmedH U.vm) (hb : b ≤ u.heap.size) (hq : ∀ q : Nat, q < b → U.heap[q]? = u.heap[q]?) (h : am_V D dA Z u) : am_V D dA Z U := by
  refine ⟨va_K.moved hW.alike h.1, fun w hw => ?_, ⟨h.2.2.1.1.moved hW.alike, h.2.2.1.2.moved hW.alike⟩, hZ u U hW hb hq h.2.2.2⟩
  have h0 := h.2.1 w hw
  simp only [am_NW, List.mem_cons, List.not_mem_nil, or_false] at hw
  rcases hw with rfl | rfl | rfl | rfl | rfl | rfl | rfl | rfl | rfl | rfl | rfl <;> exact h0.warmM hW
def am_hs (al : Bool) (b : Nat) (m : am_M) (H : Heap) : Prop := if al = true then H.size = b + m.1 else b + m.1 ≤ H.size
theorem am_hs_le {al : Bool} {b : Nat} {m : am_M} {H : Heap} (h : am_hs al b m H) : b + m.1 ≤ H.size := by
  unfold am_hs at h
  split at h <;> omega
def am_WS : List Cond := lw_tbl.filter goodWord
def am_wsR (r : am_Rec) : List Cond := .code r.1 r.2.1 r.2.2.1 r.2.2.2.1 :: am_WS
def am_Pc (al : Bool) (b sa : Nat) (D : va_G) (dA : Nat → ClassId) (Z : State → Prop) (as : List Value) (m : am_M) : Array Value → State → Prop :=
  va_Pc (as.map (am_cv b sa)) (fun U => am_hs al b m U.heap ∧ va_P D vwCl (am_ws b sa dA m) U.heap ∧ am_V D dA Z U)
def am_Qc (al : Bool) (b sa : Nat) (D : va_G) (dA : Nat → ClassId) (v : Option Value) (m : am_M) : Array Value → State → Outcome → State → Prop :=
  fun _ st o t => o = .returned (v.map (am_cv b sa)) ∧ st.heap.size ≤ t.heap.size ∧ am_hs al b m t.heap ∧ va_P D vwCl (am_ws b sa dA m) t.heap ∧ ∀ q : Nat, q < b → t.heap[q]? = st.heap[q]?
def am_rm (d mc ms : Nat) : Room := { frames := d, cells := mc, slots := ms, locals := 64 * d }
/-- a method's contract, from memory m to m' -/
def am_Met (l : Launch) (al : Bool) (b sa : Nat) (D : va_G) (dA : Nat → ClassId) (Z : State → Prop) (d : Nat) (r : am_Rec) (as : List Value) (m : am_M) (v : Option Value) (m' : am_M) : Prop :=
  Met l r.1 (am_wsR r) (am_rm d (m'.1 - m.1) (m'.2.1 - m.2.1)) (am_Pc al b sa D dA Z as m) (am_Qc al b sa D dA v m') (m'.1 - m.1) (m'.2.1 - m.2.1) (fun q => b ≤ q)
theorem am_blind {al : Bool} {b sa : Nat} {D : va_G} {dA : Nat → ClassId} {Z : State → Prop} (hZ : am_Zok b Z) {as : List Value} {m : am_M} : FrameBlind (am_Pc al b sa D dA Z as m) := by
  intro a U g mk ⟨h1, h2, h3, h4⟩
  refine ⟨h1, h2, h3, am_V_mv hZ (u := U) (U := U.calling g mk a) (State.WarmedH.refl U) (by have := am_hs_le h2; omega) (fun q _ => rfl) h4⟩
/-- the abstract locals and the machine's -/
def am_toL (b sa : Nat) (ls : am_L) : List (Nat × Value) := (List.range ls.length).filterMap (fun k => match ls[k]? with
  | some (some v) => some (k, am_cv b sa v)
  | _ => none)
theorem am_toL_mem {b sa : Nat} {ls : am_L} {q : Nat × Value} : q ∈ am_toL b sa ls ↔ ∃ v, ls[q.1]? = some (some v) ∧ q.2 = am_cv b sa v := by
  unfold am_toL
  rw [List.mem_filterMap]
  constructor
  · rintro ⟨k, -, hk⟩
    split at hk
    · next v hv => cases hk; exact ⟨v, hv, rfl⟩
    · cases hk
  · rintro ⟨v, hv, h2⟩
    refine ⟨q.1, List.mem_range.mpr (List.getElem?_eq_some_iff.mp hv).1, ?_⟩
    rw [hv]
    obtain ⟨a, c⟩ := q
    simp only at h2
    rw [h2]
def am_lok (b sa nL : Nat) (ls : am_L) (LS : Array Slot) : Prop := ls.length = nL ∧ lv_has LS nL (am_toL b sa ls)
theorem am_ld_at {b sa nL : Nat} {ls : am_L} {LS : Array Slot} (h : am_lok b sa nL ls LS) {i : Nat} {v : Value} (hv : am_ld ls i = some v) : LS[i]? = some (.val (am_cv b sa v)) := by
  have hv' : ls[i]? = some (some v) := by
    unfold am_ld at hv
    split at hv
    · next w hw => rw [hw, Option.some.inj hv]
    · cases hv
  exact h.2.2.2 (i, am_cv b sa v) (am_toL_mem.mpr ⟨v, hv', rfl⟩)
theorem am_cat (b sa : Nat) (v : Value) : (am_cv b sa v).category = v.category := by
  cases v <;> rfl
theorem am_cats (b sa : Nat) (st : List Value) : ((st.map (am_cv b sa)).map fun v => v.category).sum = (st.map fun v => v.category).sum := by
  rw [List.map_map]
  congr 1
  apply List.map_congr_left
  intro v _
  exact am_cat b sa v
theorem am_kill_len (ls : am_L) (i : Nat) : (am_kill ls i).length = ls.length := by
  unfold am_kill
  split
  · rfl
  · split <;> simp
theorem am_kill_get {ls : am_L} {i j : Nat} {v : Value} (h : (am_kill ls i)[j]? = some (some v)) : ls[j]? = some (some v) ∧ ¬ (j + 1 = i ∧ v.category = 2) := by
  unfold am_kill at h
  split at h
  · exact ⟨h, by omega⟩
  · next k =>
    split at h
    · next x hx =>
      by_cases hj : j = k
      · subst hj
        have hl := (List.getElem?_eq_some_iff.mp hx).1
        rw [List.getElem?_set_self hl] at h
        cases h
      · rw [List.getElem?_set_ne (Ne.symm hj)] at h
        exact ⟨h, by omega⟩
    · next x hx =>
      by_cases hj : j = k
      · subst hj
        have hl := (List.getElem?_eq_some_iff.mp hx).1
        rw [List.getElem?_set_self hl] at h
        cases h
      · rw [List.getElem?_set_ne (Ne.symm hj)] at h
        exact ⟨h, by omega⟩
    · next h1 h2 =>
      refine ⟨h, fun ⟨e, hc⟩ => ?_⟩
      have ej : j = k := by omega
      subst ej
      cases v with
      | long x => exact h1 x h
      | double x => exact h2 x h
      | _ => simp [Value.category] at hc
theorem am_st1_ok {b sa nL : Nat} {ls : am_L} {LS : Array Slot} (h : am_lok b sa nL ls LS) {i : Nat} {v : Value} (hi : i < ls.length) {LS' : Array Slot} (h' : lv_has LS' nL ((i, am_cv b sa v) :: (am_toL b sa ls).filter (fun q => !(q.1 == i) && !(q.1 + 1 == i && q.2.category == 2)))) : am_lok b sa nL (am_st1 ls i v) LS' := by
  refine ⟨by unfold am_st1; rw [List.length_set, am_kill_len]; exact h.1, h'.1, h'.2.1, fun q hq => ?_⟩
  obtain ⟨w, hw, e2⟩ := am_toL_mem.mp hq
  refine h'.2.2 q ?_
  unfold am_st1 at hw
  by_cases hqi : q.1 = i
  · rw [hqi, List.getElem?_set_self (by rw [am_kill_len]; exact hi)] at hw
    cases hw
    obtain ⟨a, c⟩ := q
    simp only at hqi e2
    rw [hqi, e2]
    exact List.mem_cons_self
  · rw [List.getElem?_set_ne (Ne.symm hqi)] at hw
    obtain ⟨g1, g2⟩ := am_kill_get hw
    refine List.mem_cons_of_mem _ (List.mem_filter.mpr ⟨am_toL_mem.mpr ⟨w, g1, e2⟩, ?_⟩)
    rw [e2, am_cat]
    simp only [Bool.and_eq_true, Bool.not_eq_true', beq_eq_false_iff_ne, ne_eq, Bool.and_eq_false_iff]
    refine ⟨hqi, ?_⟩
    by_cases e : q.1 + 1 = i
    · exact Or.inr (fun c => g2 ⟨e, c⟩)
    · exact Or.inl e
theorem am_st2_ok {b sa nL : Nat} {ls : am_L} {LS : Array Slot} (h : am_lok b sa nL ls LS) {i : Nat} {v : Value} (hi : i + 1 < ls.length) {LS' : Array Slot} (h' : lv_has LS' nL ((i, am_cv b sa v) :: (am_toL b sa ls).filter (fun q => !(q.1 == i) && (!(q.1 == i + 1) && !(q.1 + 1 == i && q.2.category == 2))))) : am_lok b sa nL (am_st2 ls i v) LS' := by
  refine ⟨by unfold am_st2; rw [List.length_set, List.length_set, am_kill_len]; exact h.1, h'.1, h'.2.1, fun q hq => ?_⟩
  obtain ⟨w, hw, e2⟩ := am_toL_mem.mp hq
  refine h'.2.2 q ?_
  unfold am_st2 at hw
  by_cases hq1 : q.1 = i + 1
  · rw [hq1, List.getElem?_set_self (by rw [List.length_set, am_kill_len]; exact hi)] at hw
    cases hw
  · rw [List.getElem?_set_ne (Ne.symm hq1)] at hw
    by_cases hqi : q.1 = i
    · rw [hqi, List.getElem?_set_self (by rw [am_kill_len]; omega)] at hw
      cases hw
      obtain ⟨a, c⟩ := q
      simp only at hqi e2
      rw [hqi, e2]
      exact List.mem_cons_self
    · rw [List.getElem?_set_ne (Ne.symm hqi)] at hw
      obtain ⟨g1, g2⟩ := am_kill_get hw
      refine List.mem_cons_of_mem _ (List.mem_filter.mpr ⟨am_toL_mem.mpr ⟨w, g1, e2⟩, ?_⟩)
      rw [e2, am_cat]
      simp only [Bool.and_eq_true, Bool.not_eq_true', beq_eq_false_iff_ne, ne_eq, Bool.and_eq_false_iff]
      refine ⟨hqi, hq1, ?_⟩
      by_cases e : q.1 + 1 = i
      · exact Or.inr (fun c => g2 ⟨e, c⟩)
      · exact Or.inl e
theorem am_entry_args (b sa : Nat) : ∀ (vs : List Value) (i j : Nat) (v : Value), (am_entry vs)[j]? = some (some v) → (i + j, am_cv b sa v) ∈ lv_args i (vs.map (am_cv b sa))
  | [], i, j, v, h => by simp [am_entry] at h
  | w :: vs, i, j, v, h => by
    unfold am_entry at h
    simp only [List.map_cons, lv_args, am_cat]
    by_cases hc : w.category = 2
    · rw [if_pos hc] at h ⊢
      match j, h with
      | 0, h => cases h; exact List.mem_cons_self
      | 1, h => cases h
      | j + 2, h =>
        have := am_entry_args b sa vs (i + 2) j v h
        rw [show i + (j + 2) = i + 2 + j by omega]
        exact List.mem_cons_of_mem _ this
    · rw [if_neg hc] at h ⊢
      match j, h with
      | 0, h => cases h; exact List.mem_cons_self
      | j + 1, h =>
        have := am_entry_args b sa vs (i + 1) j v h
        rw [show i + (j + 1) = i + 1 + j by omega]
        exact List.mem_cons_of_mem _ this
theorem am_entry_len (b sa : Nat) : ∀ (vs : List Value), (lg_sl (vs.map (am_cv b sa))).length = (am_entry vs).length
  | [] => rfl
  | w :: vs => by
    have ih := am_entry_len b sa vs
    unfold am_entry
    by_cases hc : w.category = 2
    · simp only [lg_sl, List.map_cons, List.flatMap_cons, am_cat, hc, if_true] at ih ⊢
      simp [lg_sl] at ih ⊢
      omega
    · have hc1 : w.category = 1 := by rcases lv_cat w with h | h <;> omega
      simp only [lg_sl, List.map_cons, List.flatMap_cons, am_cat, hc, if_false] at ih ⊢
      simp [lg_sl] at ih ⊢
      omega
theorem am_entry_ok {b sa nL : Nat} {vs : List Value} (h : (am_entry vs).length ≤ nL) : am_lok b sa nL (am_pad nL (am_entry vs)) (lg_sl (vs.map (am_cv b sa)) ++ List.replicate (nL - (lg_sl (vs.map (am_cv b sa))).length) Slot.unset).toArray := by
  have h0 := lv_entry (vs.map (am_cv b sa)) (n := nL) (by rw [am_entry_len]; exact h)
  refine ⟨by simp [am_pad]; omega, h0.1, h0.2.1, fun q hq => ?_⟩
  obtain ⟨v, hv, e⟩ := am_toL_mem.mp hq
  unfold am_pad at hv
  by_cases hl : q.1 < (am_entry vs).length
  · rw [List.getElem?_append_left hl] at hv
    have := am_entry_args b sa vs 0 q.1 v hv
    rw [Nat.zero_add] at this
    obtain ⟨a, c⟩ := q
    simp only at e this
    rw [e]
    exact h0.2.2 _ this
  · rw [List.getElem?_append_right (by omega)] at hv
    have := List.eq_of_mem_replicate (List.mem_of_getElem? hv)
    cases this
