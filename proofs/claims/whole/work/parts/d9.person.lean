/-! PERSON: the class's throw, the law's static person that catches it -/
section Px
variable {p : Program} {l : Launch} {e : Env} {R : Room} {s : State} {mi : MethodId} {args : Array Value} {below : List Frame} {meth : Method} {c : Code} {H : Heap} {locs : List Loc} {cells slots : Nat} {Q : State → Prop}
variable {b sa av : Nat} {D : va_G} {dA : Nat → ClassId} {d : Nat} {LS : Array Slot} {m : am_M} {u : am_U} {x y : Int32} {L : Nat} {v : LV}
/-- what the thrown exception leaves -/
def px_XC (b sa : Nat) (D : va_G) (dA : Nat → ClassId) (m : am_M) : String → State → State → Prop := fun E st t => E = px_X ∧ st.heap.size ≤ t.heap.size ∧ b + m.1 ≤ t.heap.size ∧ va_P D vwCl (am_ws b sa dA m) t.heap ∧ ∀ q : Nat, q < b → t.heap[q]? = st.heap[q]?
theorem px_hat (F : am_Fx p s mi args meth c R d am_m121) (hZ : Zs b sa av s) : ∀ w ∈ vx_at0 RX11 172 px_X px_names, w.before args s = true := by
  intro w hw
  have h := List.all_eq_true.mp px_tbl w hw
  simp only [Bool.or_eq_true, Bool.and_eq_true, decide_eq_true_eq] at h
  rcases h with h | h
  · exact F.hts (List.mem_filter.mpr ⟨h.2, h.1⟩)
  · have h1 := hZ.2.2.2.2.2.2.2 w h
    simp only [px_B, List.mem_cons, List.not_mem_nil, or_false] at h
    rcases h with rfl | rfl | rfl | rfl <;> exact va_Nw.use rfl h1
theorem px_throw {Qc : Array Value → State → Outcome → State → Prop} {rest : List Value} {pc : Nat} (F : am_Fx p s mi args meth c R d am_m121) (A : am_At false b sa D dA (Zs b sa av) s m H locs) (hl : l.stackTraces = false) (hsz : LS.size = c.maxLocals) (hout : ∀ z ∈ c.exceptionTable.toList, False) (hd : 10 ≤ d) (hR : 1 ≤ R.cells ∧ 6 ≤ R.slots)
    (hrest : (rest.map fun v => v.category).sum ≤ 8) (d0 : decode cX11_person pc = .ok (.new 170, 3)) (d3 : decode cX11_person (pc + 3) = .ok (.dup, 1)) (d4 : decode cX11_person (pc + 4) = .ok (.invokespecial 172, 3)) (d7 : decode cX11_person (pc + 7) = .ok (.athrow, 1)) :
    W p l e R s mi args below meth c H locs 0 0 (vx_MQ below Qc (px_XC b sa D dA m) args s 1 6 (fun q => b ≤ q)) (F0 mi pc LS rest) := by
  have hZ := A.2.2.1.2.2.2
  have hfr := F.2.2.2.2.2.2.2.2.1
  have hlo := F.2.2.2.2.2.2.2.2.2.1
  have hA := am_At_le A
  have hS := A.2.1
  refine vx_throw0 (cc := cX11_person) (own := RX11) (cls := px_X) (names := px_names) (ik := 170) (ic := 172) (A := fun q => b ≤ q) F.1 F.2.1 hl F.2.2.2.2.1 px_fit.1 px_fit.2 (F.hts px_w1.1) (F.hts px_w1.2) (px_hat F hZ) (fun w hw => List.all_eq_true.mp px_ot w hw) hZ.2.2.2.2.2.1 hZ.2.2.2.2.2.2.1 hS hsz d0 d3 d4 d7 (fun z hz => absurd (hout z hz) id) (by show 2 + 3 < R.frames; omega) (by show _ + (13 * (2 + 1) + 42) ≤ R.locals; omega) (by omega) (by omega) F.2.2.2.2.2.2.1 (fun t hv h1 h2 => ?_) hS.2.2 (by omega) (by omega)
  refine ⟨rfl, Nat.le_trans hS.1 h1, by omega, A.1.kept (fun k q hk => h2 q.1 (A.1 k q hk).lt), fun q hq => ?_⟩
  · rw [h2 q (by omega)]
    exact hS.2.1 q (by have := A.2.2.2.1; omega) (by show ¬ b ≤ q; omega)
theorem px_ok {pc : Nat} {q : Instr × Nat} (h : am_m121.2.2.2.2.2.lookup pc = some q) : am_okI am_m121 (pc, q) = true := List.all_eq_true.mp (am_I_ok am_m121 (List.mem_of_getElem? (rfl : am_ms[121]? = some am_m121))) _ (am_lookup_mem h)
theorem px_get {a f n pc : Nat} {ls : am_L} (F : am_Fx p s mi args meth c R d am_m121) (A : am_At false b sa D dA (Zs b sa av) s (am_emb u) H locs) (Lk : am_lok b sa 4 ls LS) (hok : am_m121.2.2.2.2.2.lookup pc = some (.getfield f, 3)) (h : sh a (f / 100) n) (ht : f / 100 < 100) (hk : f % 100 < n)
    (k : ∀ H' locs', am_At false b sa D dA (Zs b sa av) s (am_emb u) H' locs' → W p l e R s mi args below meth c H' locs' cells slots Q (F0 mi (pc + 3) LS ([am_fv u a (f / 100) (f % 100)].map (am_cv b sa)))) : W p l e R s mi args below meth c H locs cells slots Q (F0 mi pc LS ([Value.ref a].map (am_cv b sa))) :=
  am_s4W (ins := .getfield f) (len := 3) (st := [.ref a]) (c' := (pc + 3, ls, [am_fv u a (f / 100) (f % 100)], am_emb u)) F A Lk (px_ok hok) (by simp only [am_s4, em_obj h ht, if_true, em_fld hk]) k
theorem px_has {w : Int32} {a : Nat} {ls : am_L} (F : am_Fx p s mi args meth c R (d + 1) am_m121) (A : am_At false b sa D dA (Zs b sa av) s (am_emb u) H locs) (Lk : am_lok b sa 4 ls LS) (ha : sh a 6 3) (hC : Cl d 60 [.ref a, .int x] (am_emb u) (fun q n => q = some (.int w) ∧ n = am_emb u)) (hR : cells ≤ R.cells ∧ slots ≤ R.slots)
    (k : ∀ H' locs', am_At false b sa D dA (Zs b sa av) s (am_emb u) H' locs' → W p l e R s mi args below meth c H' locs' cells slots Q (F0 mi 11 LS [.int w])) : W p l e R s mi args below meth c H locs cells slots Q (F0 mi 8 LS ([Value.int x, .ref a].map (am_cv b sa))) := by
  obtain ⟨n, q, m', hr, rfl, rfl⟩ := hC
  have haN : ¬ a = am_S := fun e9 => by have := sh_lt ha; unfold am_S at e9; unfold am_N at this; omega
  have hcat : am_rcv am_m60 0 [.ref a, .int x] (am_emb u) = true := by
    unfold am_rcv
    simp only [em_obj ha (by decide)]
    exact decide_eq_true ⟨rfl, haN⟩
  have hcalls : am_calls false (am_rec false n) (d + 1) 0 60 8 ls [.int x, .ref a] (am_emb u) = some (11, ls, [.int w], am_emb u) := by
    unfold am_calls
    dsimp only
    rw [if_neg (show ¬ (60 : Nat) = 9000 by decide), if_neg (show ¬ (60 : Nat) = 9001 by decide)]
    simp only [show am_ms[60]? = some am_m60 from rfl]
    rw [if_pos ⟨by show 2 ≤ 2; decide, by show 0 ≤ 8; decide, Or.inr hcat⟩, if_neg (show ¬ 276 ≤ (60 : Nat) by decide)]
    rw [show (List.take (am_m60.2.2.2.2.1.2.1 + (if am_m60.2.2.2.2.1.2.2 = true then 0 else 1)) [Value.int x, Value.ref a]).reverse = [.ref a, .int x] from rfl, hr]
    rfl
  refine am_callsW (ins := .invokevirtual 60) (len := 3) (kd := 0) (st := [.int x, .ref a]) (c' := (11, ls, [.int w], am_emb u)) (Or.inl ⟨rfl, rfl⟩) (Zs_ok b sa av) (Zs_str b sa av) (fun d' z rz as v m' hrz hr => am_metR (Zs_ok b sa av) (Zs_R b sa av) (Zs_str b sa av) sx_prim hrz (by show am_N ≤ am_S; decide) hr) (fun d' z rz as v m' h1 h2 h3 h4 => sx_prim _ d' z rz as v m' h1 h2 h3 h4) F A (fun h => by cases h) Lk (px_ok rfl) hcalls ?_ ?_
  · show cells + ((am_emb u).1 - (am_emb u).1) ≤ R.cells ∧ slots + ((am_emb u).2.1 - (am_emb u).2.1) ≤ R.slots
    rw [Nat.sub_self, Nat.sub_self]
    exact hR
  · intro H' locs' A' _
    have := k H' locs' A'
    show W p l e R s mi args below meth c H' locs' (cells + ((am_emb u).1 - (am_emb u).1)) (slots + ((am_emb u).2.1 - (am_emb u).2.1)) Q (F0 mi 11 LS [.int w])
    rw [Nat.sub_self, Nat.sub_self]
    exact this
/-- the class's person, where it throws -/
def px_Pc (b sa av : Nat) (D : va_G) (dA : Nat → ClassId) (as : List Value) (m : am_M) : Array Value → State → Prop := am_Pc false b sa D dA (Zs b sa av) as m
theorem px_met (hlt : l.stackTraces = false) (hr : FR u 0 2 = some L) (hL : sh L 3 19) (hC : LibC u L v) (hW : WF v) (hx : (okI x (nE v) && okI y 9) = false) :
    vx_Met l yX11_person (am_wsR am_m121) (am_rm 20 1 6) (px_Pc b sa av D dA [.ref 0, .int x, .int y] (am_emb u)) (fun _ _ _ _ => False) (px_XC b sa D dA (am_emb u)) 1 6 (fun q => b ≤ q) := by
  refine vx_ofW (cc := cX11_person) (maxL := 4) (ret := some .int) (by decide +kernel) rfl ?_
  intro p e s mi args below meth c s₁ B hml hout hv
  obtain ⟨rfl, hs, hP, hV⟩ := hv
  have hts := atoms_spec (ws := am_wsR am_m121) B.pre
  have hown : s.vm.findClass RX11 = some mi.cls := findClass_of_methodNamed B.named
  rw [lg_entry_eq]
  have hb : b ≤ s.heap.size := by have := am_hs_le hs; omega
  have F : am_Fx p s mi ([Value.ref 0, .int x, .int y].map (am_cv b sa)).toArray meth c (am_rm 20 1 6) 20 am_m121 :=
    ⟨B.exec, B.bytes, B.returns, hml, hown, hts, B.notSynchronized, fun hi => absurd hi (by decide +kernel), rfl, rfl, rfl⟩
  have A : am_At false b sa D dA (Zs b sa av) s (am_emb u) s.heap [] := ⟨hP, va_S.rf, hV, hb, by show am_N ≤ am_S; decide⟩
  have Lk := am_entry_ok (b := b) (sa := sa) (nL := 4) (vs := [.ref 0, .int x, .int y]) (Nat.le_of_ble_eq_true rfl)
  show W p l e (am_rm 20 1 6) s mi _ below meth c s.heap [] 0 0 _ (F0 mi 0 ((lg_sl ([Value.ref 0, .int x, .int y].map (am_cv b sa)) ++ List.replicate (4 - (lg_sl ([Value.ref 0, .int x, .int y].map (am_cv b sa))).length) Slot.unset).toArray) (([] : List Value).map (am_cv b sa)))
  generalize (lg_sl ([Value.ref 0, .int x, .int y].map (am_cv b sa)) ++ List.replicate (4 - (lg_sl ([Value.ref 0, .int x, .int y].map (am_cv b sa))).length) Slot.unset).toArray = LS at Lk ⊢
  have hfv : ∀ Lx, FR u 0 2 = some Lx → am_fv u 0 11 2 = .ref Lx := fun Lx h => by
    show va_rf (FR u 0 2) = _
    rw [h]
    rfl
  have hLL : L = 7 ∨ L = 33 := lib_places hL
  have h5 : am_fv u L 3 2 = .ref (L + 5) := by rcases hLL with e9 | e9 <;> (rw [e9]; rfl)
  refine am_s1W (ins := .aload_n 0) (len := 1) (pc := 0) (c' := (1, _, [.ref 0], am_emb u)) F A.2.2.1 (Zs_R b sa av) Lk (px_ok rfl) rfl (fun LS1 Lk1 => ?_)
  refine px_get (f := 1102) (n := 16) F A Lk1 rfl (show sh 0 11 16 from rfl) (by decide) (by decide) (fun H1 locs1 A1 => ?_)
  rw [show am_fv u 0 (1102 / 100) (1102 % 100) = .ref L from hfv L hr]
  refine px_get (f := 302) (n := 19) F A1 Lk1 rfl hL (by decide) (by decide) (fun H2 locs2 A2 => ?_)
  rw [show am_fv u L (302 / 100) (302 % 100) = .ref (L + 5) from h5]
  refine am_s1W (ins := .iload_n 1) (len := 1) (pc := 7) (st := [.ref (L + 5)]) (c' := (8, _, [.int x, .ref (L + 5)], am_emb u)) F A2.2.2.1 (Zs_R b sa av) Lk1 (px_ok rfl) rfl (fun LS2 Lk2 => ?_)
  have hhas := (has_ok (d := 19) (x := x) (post := fun q n => q = some (.int (b2i (decide (0 ≤ x.toInt ∧ x.toInt < nE v)))) ∧ n = am_emb u) (sh_3_5 hL) hC.1.2.2.1 hC.2.1.2.2.1 (Nat.le_trans hW.1.2.2.1 (by decide)) hW.1.2.2.1 (by decide)).mpr ⟨rfl, rfl⟩
  refine px_has (d := 19) F A2 Lk2 (sh_3_5 hL) hhas ⟨Nat.zero_le _, Nat.zero_le _⟩ (fun H3 locs3 A3 => ?_)
  by_cases hp : okI x (nE v) = true
  · have hp2 : decide (0 ≤ x.toInt ∧ x.toInt < (nE v : Int)) = true := hp
    have hy : okI y 9 = false := by rw [hp, Bool.true_and] at hx; exact hx
    rw [hp2]
    refine lv_if_ne (tgt := 22) F.1 F.2.1 dX11_person_11 rfl (fun _ => ?_) (fun q => absurd q (show ¬ (b2i true) = 0 by decide))
    refine am_s1W (ins := .aload_n 0) (len := 1) (pc := 22) (st := []) (c' := (23, _, [.ref 0], am_emb u)) F A3.2.2.1 (Zs_R b sa av) Lk2 (px_ok rfl) rfl (fun LS3 Lk3 => ?_)
    refine px_get (f := 1105) (n := 16) F A3 Lk3 rfl (show sh 0 11 16 from rfl) (by decide) (by decide) (fun H4 locs4 A4 => ?_)
    rw [show am_fv u 0 (1105 / 100) (1105 % 100) = .ref 64 from rfl]
    refine px_get (f := 900) (n := 6) F A4 Lk3 rfl (show sh 64 9 6 from rfl) (by decide) (by decide) (fun H5 locs5 A5 => ?_)
    rw [show am_fv u 64 (900 / 100) (900 % 100) = .ref 65 from rfl]
    refine am_s1W (ins := .astore_n 3) (len := 1) (pc := 29) (st := [.ref 65]) (c' := (30, [some (.ref 0), some (.int x), some (.int y), some (.ref 65)], [], am_emb u)) F A5.2.2.1 (Zs_R b sa av) Lk3 (px_ok rfl) rfl (fun LS4 Lk4 => ?_)
    refine am_s1W (ins := .iload_n 2) (len := 1) (pc := 30) (st := []) (c' := (31, _, [.int y], am_emb u)) F A5.2.2.1 (Zs_R b sa av) Lk4 (px_ok rfl) rfl (fun LS5 Lk5 => ?_)
    have hy2 : y.toInt < 0 ∨ 8 < y.toInt := by
      have := of_decide_eq_false hy
      omega
    refine lv_tableOut (tgt := 186) F.1 F.2.1 dX11_person_31 hy2 rfl ?_
    exact px_throw F A5 hlt (by rw [hml]; exact Lk5.2.1) (fun z hz => hout z hz) (by decide) ⟨Nat.le_refl _, Nat.le_refl _⟩ (Nat.le_of_ble_eq_true rfl) dX11_person_186 dX11_person_189 dX11_person_190 dX11_person_193
  · have hp2 : decide (0 ≤ x.toInt ∧ x.toInt < (nE v : Int)) = false := decide_eq_false (fun h => hp (decide_eq_true h))
    rw [hp2]
    refine lv_if_ne (tgt := 22) F.1 F.2.1 dX11_person_11 rfl (fun q => absurd rfl q) (fun _ => ?_)
    exact px_throw F A3 hlt (by rw [hml]; exact Lk2.2.1) (fun z hz => hout z hz) (by decide) ⟨Nat.le_refl _, Nat.le_refl _⟩ (Nat.le_of_ble_eq_true rfl) dX11_person_14 dX11_person_17 dX11_person_18 dX11_person_21
end Px
