/-! THE LAW'S FRAME: what it holds, its script, its calls -/
theorem am_metR {l : Launch} {b sa : Nat} {D : va_G} {dA : Nat → ClassId} {Z : State → Prop} {al : Bool} (hZ : am_Zok b Z) (hZ1 : ∀ U, Z U → vk_R "EatKnown$Tape" 72 am_text sa U) (hstr : ∀ U, Z U → sa < b ∧ ∃ cell : Cell, U.heap[sa]? = some cell ∧ cell.vm.isStatics = false ∧ U.vm.findClass "java/lang/String" = some cell.cls)
    (hprim : ∀ m d' z rz as v m', am_ms[z]? = some rz → 276 ≤ z → 4 ≤ d' → am_prim z as m = some (v, m') → am_Met l al b sa D dA Z d' rz as m v m')
    {n d' z : Nat} {rz : am_Rec} {as : List Value} {v : Option Value} {m m' : am_M} (hrz : am_ms[z]? = some rz) (hm : m.1 ≤ am_S) (hr : am_rec al n d' z as m = some (v, m')) : am_Met l al b sa D dA Z d' rz as m v m' ∧ m'.1 ≤ am_S := by
  unfold am_rec at hr
  rw [hrz] at hr
  simp only at hr
  split at hr
  · next hlen =>
    have hup := am_run_up n _ _ _ _ _ _ _ _ hr
    refine ⟨am_met_of hrz hlen hm hup (fun {p e R s mi args below meth c LS} F A hz L hR => ?_), hup.2.2 hm⟩
    exact am_sound hZ hZ1 hstr hprim n d' z 0 rz _ [] m v m' hrz hr p e R s mi args below meth c s.heap [] 0 0 LS F A hz L hR
  · cases hr
def lw_Fx (p : Program) (s : State) (mi : MethodId) (meth : Method) (c : Code) (bs Ln : Nat) (xs : Nat → Int32) : Prop :=
  p.tables.exec = Jvm.exec ∧ c.code = code ∧ c.maxLocals = 7 ∧ s.vm.findClass RL = some mi.cls ∧ (∀ w ∈ lw_tbl, w.before #[Value.ref bs] s = true) ∧ va_X bs Ln xs s s.heap ∧ bs < s.heap.size ∧ meth.locks = false ∧ meth.sig.returnType = ret ∧ Ln ≤ 3584
section Law
variable {p : Program} {l : Launch} {e : Env} {s : State} {mi : MethodId} {below : List Frame} {meth : Method} {c : Code} {H : Heap} {locs : List Loc} {cells slots : Nat} {Q : State → Prop}
variable {al : Bool} {b sa av bs Ln i : Nat} {D : va_G} {dA : Nat → ClassId} {xs : Nat → Int32} {pc : Nat} {LS : Array Slot} {rest : List Value} {m : am_M}
theorem lw_wsG (F : lw_Fx p s mi meth c bs Ln xs) {z : Nat} {rz : am_Rec} (hrz : am_ms[z]? = some rz) : ∀ w ∈ am_wsR rz, ∀ (a' : Array Value) (U : State), s.WarmedH U.vm → w.before a' U = true := by
  intro w hw a' U hW
  have h1 : w ∈ am_WS := by
    rcases List.mem_cons.mp hw with h | h
    · rw [h]; exact (am_meth hrz).1
    · exact h
  exact word_at hW (good_of_word (List.mem_filter.mp h1).2) (F.2.2.2.2.1 w (List.mem_filter.mp h1).1)
theorem lw_callB {idx z d' mc ms : Nat} {rz : am_Rec} (F : lw_Fx p s mi meth c bs Ln xs) (hd : d' ≤ 1000) (hrz : am_ms[z]? = some rz) (hw : Cond.methodLink RL idx rz.1 ∈ lw_tbl) : CallB room_1 s #[Value.ref bs] RL idx rz.1 rz.2.1 rz.2.2.1 rz.2.2.2.1 (am_wsR rz) (am_rm d' mc ms) mc ms rz.2.2.2.2.1.2.1 := by
  obtain ⟨m1, m2, m3, m4, -, -⟩ := am_meth hrz
  have ts := fun {w : Cond} (h : w ∈ am_WS) => F.2.2.2.2.1 w (List.mem_filter.mp h).1
  refine ⟨rfl, rfl, by show d' + 1 ≤ 2048; omega, by show 8 + (rz.2.2.1 + 11) + 64 * d' ≤ 84000; omega, lw_wsG F hrz, List.mem_cons_self, ts m1, ts m2, ⟨m4.1, m4.2.1⟩, fun sig hs => ?_, F.2.2.2.2.1 _ hw⟩
  have := m4.2.2.1
  rw [hs] at this
  exact (Option.some.inj this).symm
/-- behind a call of the law's -/
theorem lw_backW {st0 : List Value} {as : List Value} {v : Option Value} {m' : am_M} (A : am_At al b sa D dA (Zs b sa av) s m H locs) (hz : am_sz al b m s cells) (hmS : m'.1 ≤ am_S)
    (hrun : am_hs al b m H → va_Run p l e room_1 s mi #[Value.ref bs] below meth c H locs cells slots (m'.1 - m.1) (m'.2.1 - m.2.1) (F0 mi pc LS st0) rest (am_Qc al b sa D dA v m' (as.map (am_cv b sa)).toArray) (fun q => b ≤ q))
    (k : ∀ H' locs', am_At al b sa D dA (Zs b sa av) s m' H' locs' → W p l e room_1 s mi #[Value.ref bs] below meth c H' locs' (cells + (m'.1 - m.1)) (slots + (m'.2.1 - m.2.1)) Q (F0 mi (pc + 3) LS ((v.map (am_cv b sa)).toList ++ rest))) : W p l e room_1 s mi #[Value.ref bs] below meth c H locs cells slots Q (F0 mi pc LS st0) := by
  refine am_W_of fun T hT X => am_runW (hrun (am_At_hs A hz hT X)) (fun v1 st₀ t T' L h0 e1 hW hL hq => ?_)
  obtain ⟨h1, h2, h3, h4, h5⟩ := hq
  have hv : v1 = v.map (am_cv b sa) := Outcome.returned.inj h1
  subst hv
  rw [h0] at h2 h5
  exact k T'.heap (locs ++ L) ⟨by rw [e1]; exact h4, ⟨Nat.le_trans A.2.1.1 (by rw [e1]; exact h2), fun q g1 g2 => by rw [e1, h5 q (by omega)]; exact A.2.1.2.1 q g1 g2, fun q hq => by
    rcases List.mem_append.mp hq with h | h
    · exact A.2.1.2.2 q h
    · exact hL q h⟩, A.2.2.1, A.2.2.2.1, hmS⟩
theorem lw_preW {as : List Value} (A : am_At al b sa D dA (Zs b sa av) s m H locs) (hs : am_hs al b m H) : ∀ U : State, U.heap = H → s.WarmedH U.vm → am_Pc al b sa D dA (Zs b sa av) as m (as.map (am_cv b sa)).toArray U := by
  intro U hU hW
  refine ⟨rfl, by rw [hU]; exact hs, by rw [hU]; exact A.1, am_V_mv (Zs_ok b sa av) hW A.2.2.2.1 (fun q hq => ?_) A.2.2.1⟩
  rw [hU]
  exact A.2.1.2.1 q (by have := A.2.2.2.1; omega) (by omega)
/-- what holds where a call has come back -/
def lw_K (p : Program) (l : Launch) (e : Env) (s : State) (mi : MethodId) (below : List Frame) (meth : Method) (c : Code) (cells slots : Nat) (Q : State → Prop) (b sa av bs : Nat) (D : va_G) (dA : Nat → ClassId) (pc : Nat) (LS : Array Slot) (rest : List Value) : Option Value → am_M → Prop := fun v m' => (m'.1 = am_N ∧ m'.2.1 = am_slots) ∧ ∀ H' locs', am_At false b sa D dA (Zs b sa av) s m' H' locs' → W p l e room_1 s mi #[Value.ref bs] below meth c H' locs' cells slots Q (F0 mi pc LS ((v.map (am_cv b sa)).toList ++ rest))
theorem lw_callV {idx z a ci : Nat} {rz : am_Rec} {As : List Value} {fs : List Value} {u : am_U} (F : lw_Fx p s mi meth c bs Ln xs) (A : am_At false b sa D dA (Zs b sa av) s (am_emb u) H locs) (hrz : am_ms[z]? = some rz) (hst : rz.2.2.2.2.1.2.2 = false) (hni : ¬ rz.1.name = "<init>") (hw : Cond.methodLink RL idx rz.1 ∈ lw_tbl)
    (hga : am_g (am_emb u) a = some (.inr (ci, fs))) (hci : ci = rz.2.2.2.2.1.1) (haS : a < am_S) (hn : As.length = rz.2.2.2.2.1.2.1) (hAs : As.map (am_cv b sa) = As) (hls : LS.size = 7) (hcat : (rest.map fun v => v.category).sum ≤ 8) (hdec : decode code pc = .ok (.invokevirtual idx, 3))
    (hC : Cl 1000 z (.ref a :: As) (am_emb u) (lw_K p l e s mi below meth c cells slots Q b sa av bs D dA (pc + 3) LS rest)) (hR : cells ≤ 601024 ∧ slots ≤ 7293034) : W p l e room_1 s mi #[Value.ref bs] below meth c H locs cells slots Q (F0 mi pc LS (As.reverse ++ .ref (b + a) :: rest)) := by
  obtain ⟨n, v, m', hres, ⟨e1, e2⟩, k⟩ := hC
  have hmN : (am_emb u).1 ≤ am_S := by show am_N ≤ am_S; decide
  obtain ⟨hM, hmS⟩ := am_metR (l := l) (D := D) (dA := dA) (Zs_ok b sa av) (Zs_R b sa av) (Zs_str b sa av) sx_prim hrz hmN hres
  obtain ⟨m1, m2, m3, m4, m5, m6⟩ := am_meth hrz
  obtain ⟨i1, i2, i3⟩ := m6 hst
  have ts := fun {w : Cond} (h : w ∈ am_WS) => F.2.2.2.2.1 w (List.mem_filter.mp h).1
  have d1 : m'.1 - (am_emb u).1 = 0 := by rw [e1]; exact Nat.sub_self _
  have d2 : m'.2.1 - (am_emb u).2.1 = 0 := by rw [e2]; exact Nat.sub_self _
  have hra : am_cv b sa (.ref a) = .ref (b + a) := by
    show Value.ref (if a = am_S then sa else b + a) = _
    rw [if_neg (by omega)]
  have hrec2 : ∃ cellB : Cell, H[b + a]? = some cellB ∧ cellB.vm.isStatics = false ∧ s.vm.findClass rz.1.cls = some cellB.cls := by
    have h7 : ∃ q : vw_C, vwCl[ci]? = some q ∧ q.1 = rz.1.cls := by
      have h8 := m4.2.2.2
      rw [← hci] at h8
      have hP1 := A.1 _ _ (am_ws_get hga)
      obtain ⟨q, hq, -⟩ := hP1
      refine ⟨q, hq, ?_⟩
      have hq' : vwCl[ci]? = some q := hq
      match ci, hq', h8 with
      | 0, hq', h8 => cases hq'; exact Option.some.inj h8
      | 1, hq', h8 => cases hq'; exact Option.some.inj h8
      | 2, hq', h8 => cases hq'; exact Option.some.inj h8
      | 3, hq', h8 => cases hq'; exact Option.some.inj h8
      | 4, hq', h8 => cases hq'; exact Option.some.inj h8
      | 5, hq', h8 => cases hq'; exact Option.some.inj h8
      | 6, hq', h8 => cases hq'; exact Option.some.inj h8
      | 7, hq', h8 => cases hq'; exact Option.some.inj h8
      | 8, hq', h8 => cases hq'; exact Option.some.inj h8
      | 9, hq', h8 => cases hq'; exact Option.some.inj h8
      | 10, hq', h8 => cases hq'; exact Option.some.inj h8
      | 11, hq', h8 => cases hq'; exact Option.some.inj h8
      | 12, hq', h8 => cases hq'; exact Option.some.inj h8
      | n + 13, hq', h8 => cases hq'
    obtain ⟨q, hq, hq1⟩ := h7
    rw [← hq1]
    exact va_recv A.2.2.1.1 A.1 hq (am_ws_get hga)
  refine lw_backW (as := .ref a :: As) (v := v) (m' := m') A (fun h => by cases h) hmS (fun hhs => ?_) (fun H' locs' A' => by
    rw [d1, d2, Nat.add_zero, Nat.add_zero]
    exact k H' locs' A')
  have hAs2 : (Value.ref a :: As).map (am_cv b sa) = .ref (b + a) :: As := by rw [List.map_cons, hra, hAs]
  have hcb := lw_callB (d' := 1000) (mc := m'.1 - (am_emb u).1) (ms := m'.2.1 - (am_emb u).2.1) F (Nat.le_refl _) hrz hw
  have hrun := va_runV (e := e) (below := below) (meth := meth) (locs := locs) (As := As) (rest := rest) (b := b + a) (g := F0 mi pc LS (As.reverse ++ .ref (b + a) :: rest)) (Ts := lw_tbl) ⟨F.1, F.2.1, F.2.2.1, F.2.2.2.1, F.2.2.2.2.1⟩ hM ⟨hcb, ts i1, ts (i3 hni)⟩ ⟨am_blind (Zs_ok b sa av), hrec2, by rw [← hAs2]; exact lw_preW A hhs⟩ rfl hn hls rfl (by show 2 * 0 + _ ≤ 8; omega) hdec (by rw [d1, d2]; exact hR)
  rw [← hAs2] at hrun
  exact hrun
end Law
