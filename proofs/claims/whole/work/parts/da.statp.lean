/-! THE LAW'S STATIC person -/
section Gl
variable {p : Program} {l : Launch} {e : Env} {R : Room} {s : State} {mi : MethodId} {args : Array Value} {below : List Frame} {meth : Method} {c : Code} {H : Heap} {locs : List Loc} {cells slots : Nat} {Q : State → Prop}
variable {b sa av nL pc : Nat} {D : va_G} {dA : Nat → ClassId} {LS : Array Slot} {rest : List Value} {m : am_M} {u u' : am_U} {cc : ByteArray} {own : String}
theorem gl_wsG (hts : ∀ w ∈ am_WS, w.before args s = true) {z : Nat} {rz : am_Rec} (hrz : am_ms[z]? = some rz) : ∀ w ∈ am_wsR rz, ∀ (a' : Array Value) (U : State), s.WarmedH U.vm → w.before a' U = true := by
  intro w hw a' U hW
  have h1 : w ∈ am_WS := by
    rcases List.mem_cons.mp hw with h | h
    · rw [h]; exact (am_meth hrz).1
    · exact h
  exact word_at hW (good_of_word (List.mem_filter.mp h1).2) (hts w h1)
theorem gl_callB {idx z d' mc ms : Nat} {rz : am_Rec} (hts : ∀ w ∈ am_WS, w.before args s = true) (hf : d' + 1 ≤ R.frames) (hlo : 64 * (d' + 1) ≤ R.locals) (hrz : am_ms[z]? = some rz) (hw : Cond.methodLink own idx rz.1 ∈ am_WS) : CallB R s args own idx rz.1 rz.2.1 rz.2.2.1 rz.2.2.2.1 (am_wsR rz) (am_rm d' mc ms) mc ms rz.2.2.2.2.1.2.1 := by
  obtain ⟨m1, m2, m3, m4, -, -⟩ := am_meth hrz
  refine ⟨rfl, rfl, hf, by show 8 + (rz.2.2.1 + 11) + 64 * d' ≤ R.locals; omega, gl_wsG hts hrz, List.mem_cons_self, hts _ m1, hts _ m2, ⟨m4.1, m4.2.1⟩, fun sig hs => ?_, hts _ hw⟩
  have := m4.2.2.1
  rw [hs] at this
  exact (Option.some.inj this).symm
theorem gl_preW {as : List Value} (A : am_At false b sa D dA (Zs b sa av) s m H locs) : ∀ U : State, U.heap = H → s.WarmedH U.vm → am_Pc false b sa D dA (Zs b sa av) as m (as.map (am_cv b sa)).toArray U := by
  intro U hU hW
  have hs : am_hs false b m H := am_At_le A
  refine ⟨rfl, by rw [hU]; exact hs, by rw [hU]; exact A.1, am_V_mv (Zs_ok b sa av) hW A.2.2.2.1 (fun q hq => ?_) A.2.2.1⟩
  rw [hU]
  exact A.2.1.2.1 q (by have := A.2.2.2.1; omega) (by omega)
/-- the class's object and the reference's lie where they were made -/
theorem gl_rcv {ci n0 a : Nat} {C : String} (A : am_At false b sa D dA (Zs b sa av) s (am_emb u) H locs) (hs : sh a ci n0) (hci : ci = 11 ∧ C = RX11 ∨ ci = 12 ∧ C = RX12) : ∃ cellB : Cell, H[b + a]? = some cellB ∧ cellB.vm.isStatics = false ∧ s.vm.findClass C = some cellB.cls := by
  rcases hci with ⟨rfl, rfl⟩ | ⟨rfl, rfl⟩
  · have hga := em_obj (u := u) hs (by decide)
    obtain ⟨q, hq, -⟩ := A.1 _ _ (am_ws_get hga)
    have hq' : vwCl[11]? = some q := hq
    have h9 : q.1 = RX11 := by cases hq'; rfl
    rw [← h9]
    exact va_recv A.2.2.1.1 A.1 hq (am_ws_get hga)
  · have hga := em_obj (u := u) hs (by decide)
    obtain ⟨q, hq, -⟩ := A.1 _ _ (am_ws_get hga)
    have hq' : vwCl[12]? = some q := hq
    have h9 : q.1 = RX12 := by cases hq'; rfl
    rw [← h9]
    exact va_recv A.2.2.1.1 A.1 hq (am_ws_get hga)
end Gl
