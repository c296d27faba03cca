/-! THE LAW'S STATIC person, its two contracts -/
def sp_hh : List (Nat × Nat × Nat × Nat) := [(0, 10, 13, 13)]
def sp_ws : List Cond := .codeWith yL_person cL_person 5 (some .int) sp_hh :: am_WS
theorem sp_code : Cond.codeWith yL_person cL_person 5 (some .int) sp_hh ∈ am_WS := am_W_in (j := 1311) (by decide +kernel)
section Sp
variable {l : Launch} {b sa av : Nat} {D : va_G} {dA : Nat → ClassId} {u : am_U} {x y : Int32} {S : ST} {L : Nat} {v : LV} {lf : LF}
def sp_as (x y : Int32) : List Value := [.ref 0, .int x, .int y, .ref 255]
/-- where it starts -/
theorem sp_of {k : Int32} {u' : am_U} (body : ∀ {p : Program} {e : Env} {s : State} {mi : MethodId} {args : Array Value} {below : List Frame} {meth : Method} {c : Code} {LS : Array Slot}, p.tables.exec = Jvm.exec → c.code = cL_person → meth.sig.returnType = some .int → c.maxLocals = 5 → s.vm.findClass RL = some mi.cls → (∀ w ∈ am_WS, w.before args s = true) → meth.locks = false → c.exceptionTable.toList = tableOf sp_hh → am_At false b sa D dA (Zs b sa av) s (am_emb u) s.heap [] → lv_has LS 5 [(0, .ref (b + 0)), (1, .int x), (2, .int y), (3, .ref (b + 255))] →
    W p l e (am_rm 1001 1 6) s mi args below meth c s.heap [] 0 0 (vx_MQ below (am_Qc false b sa D dA (some (.int k)) (am_emb u')) (fun _ _ _ => False) args s 1 6 (fun q => b ≤ q)) (F0 mi 0 LS [])) :
    vx_Met l yL_person sp_ws (am_rm 1001 1 6) (am_Pc false b sa D dA (Zs b sa av) (sp_as x y) (am_emb u)) (am_Qc false b sa D dA (some (.int k)) (am_emb u')) (fun _ _ _ => False) 1 6 (fun q => b ≤ q) := by
  refine vx_ofWH (cc := cL_person) (maxL := 5) (ret := some .int) (hh := sp_hh) (by decide +kernel) rfl ?_
  intro p e s mi args below meth c s₁ B hml hv
  obtain ⟨rfl, hs, hP, hV⟩ := hv
  have hts := atoms_spec (ws := sp_ws) B.pre
  have hown : s.vm.findClass RL = some mi.cls := findClass_of_methodNamed B.named
  have htab := vx_table (x := yL_person) B (hts _ List.mem_cons_self)
  rw [lg_entry_eq]
  have hb : b ≤ s.heap.size := by have := am_hs_le hs; omega
  have A : am_At false b sa D dA (Zs b sa av) s (am_emb u) s.heap [] := ⟨hP, va_S.rf, hV, hb, by show am_N ≤ am_S; decide⟩
  have hl : lv_has _ 5 [(0, .ref (b + 0)), (1, .int x), (2, .int y), (3, .ref (b + 255))] := lv_entry [.ref (b + 0), .int x, .int y, .ref (b + 255)] (n := 5) (Nat.le_of_ble_eq_true rfl)
  exact body B.exec B.bytes B.returns hml hown (fun w hw => hts w (List.mem_cons_of_mem _ hw)) B.notSynchronized htab A hl
theorem sp_good (hr : FR u 0 2 = some L) (hL : sh L 3 19) (hC : LibC u L v) (hW : WF v) (hlf : LifeC u 65 lf) (hx : okI x (nE v) = true) (hy : okI y 9 = true) :
    vx_Met l yL_person sp_ws (am_rm 1001 1 6) (am_Pc false b sa D dA (Zs b sa av) (sp_as x y) (am_emb u)) (am_Qc false b sa D dA (some (.int 0)) (am_emb (sAJ u 255 (vp_updL (AJ u 255) 0 (personV v lf (ix x) (ix y)).toInt64)))) (fun _ _ _ => False) 1 6 (fun q => b ≤ q) := by
  refine sp_of (fun {p e s mi args below meth c LS} hx9 hb hrt hml hown hts hlk htab A hl => ?_)
  have hcl := (C_person (d := 996) (post := fun q n => q = some (.int (personV v lf (ix x) (ix y))) ∧ n = am_emb u) hr hL hC hW hlf hx hy).mpr ⟨rfl, rfl⟩
  obtain ⟨n, q, m', hres, rfl, rfl⟩ := hcl
  have hM := (am_metR (l := l) (D := D) (dA := dA) (Zs_ok b sa av) (Zs_R b sa av) (Zs_str b sa av) sx_prim (rfl : am_ms[121]? = some am_m121) (show am_N ≤ am_S by decide) hres).1
  refine lv_aload_n hx9 hb dL_person_0 rfl (lv_at hl 3 rfl) ?_
  refine lv_iconst (v := 0) hx9 hb dL_person_1 (by decide) ?_
  refine lv_aload_n hx9 hb dL_person_2 rfl (lv_at hl 0 rfl) ?_
  refine lv_iload_n hx9 hb dL_person_3 rfl (lv_at hl 1 rfl) ?_
  refine lv_iload_n hx9 hb dL_person_4 rfl (lv_at hl 2 rfl) ?_
  have d1 : (am_emb u).1 - (am_emb u).1 = 0 := Nat.sub_self _
  have d2 : (am_emb u).2.1 - (am_emb u).2.1 = 0 := Nat.sub_self _
  unfold am_Met at hM
  rw [d1, d2] at hM
  obtain ⟨m1, m2, m3, m4, m5, m6⟩ := am_meth (rfl : am_ms[121]? = some am_m121)
  obtain ⟨i1, i2, i3⟩ := m6 rfl
  refine am_runW (mc := 0) (ms := 0) (va_runV (C := RX11) (As := [.int x, .int y]) (rest := [.int 0, .ref (b + 255)]) (b := b + 0) (g := F0 mi 5 LS [.int y, .int x, .ref (b + 0), .int 0, .ref (b + 255)]) ⟨hx9, hb, hml, hown, hts⟩ hM ⟨gl_callB (z := 121) (rz := am_m121) hts (Nat.le_refl _) (by show 64 * 1001 ≤ 64 * 1001; exact Nat.le_refl _) rfl (am_W_in (j := 1313) (by decide +kernel)), hts _ i1, hts _ (i3 (by decide +kernel))⟩ ⟨am_blind (Zs_ok b sa av), gl_rcv A (show sh 0 11 16 from rfl) (Or.inl ⟨rfl, rfl⟩), gl_preW A⟩ rfl rfl hl.1 rfl (lv_room (Nat.le_of_ble_eq_true rfl)) dL_person_5 ⟨Nat.zero_le _, Nat.zero_le _⟩) (fun v1 st₀ t T' Lo h0 e1 hWm hLo hq => ?_)
  obtain ⟨h1, h2, h3, h4, h5⟩ := hq
  have hv : v1 = some (.int (personV v lf (ix x) (ix y))) := Outcome.returned.inj h1
  subst hv
  rw [h0] at h2 h5
  have hbb : b ≤ s.heap.size := A.2.2.2.1
  have A1 : am_At false b sa D dA (Zs b sa av) s (am_emb u) T'.heap ([] ++ Lo) := ⟨by rw [e1]; exact h4, ⟨by rw [e1]; exact h2, fun q g1 g2 => by rw [e1, h5 q (by omega)], fun q hq => hLo q hq⟩, A.2.2.1, A.2.2.2.1, A.2.2.2.2⟩
  refine lv_i2l hx9 hb dL_person_8 rfl ?_
  have h255 : sh 255 101 1 := rfl
  have ha : (am_ws b sa dA (am_emb u))[255]? = some (b + 255, .inl (dA 1, 1, .inr (.inl (AJ u 255)))) := am_ws_get (em_row (u := u) h255 (by decide))
  refine va_last hx9 hb A1.2.2.1.1 A1.1 (am_ws_D b sa dA (am_emb u)) A1.2.1 255 1 ha rfl (show vp_in 0 1 from fun q => by rcases q with q | q; exact absurd q (by decide); exact absurd q (by decide)) dL_person_9 (fun H1 locs1 hP1 _ hS1 => ?_)
  have e9 : am_p (am_emb u) 255 (am_cell (sAJ u 255 (vp_updL (AJ u 255) 0 (personV v lf (ix x) (ix y)).toInt64)) 255) = am_emb (sAJ u 255 (vp_updL (AJ u 255) 0 (personV v lf (ix x) (ix y)).toInt64)) := em_put h255 (fun a' ha => em_same rfl rfl rfl rfl (by rw [AJ_sAJ, if_neg ha]) rfl)
  rw [em_cell_row h255 (by decide)] at e9
  simp only [am_row, AJ_sAJ, if_true] at e9
  have hP2 : va_P D vwCl (am_ws b sa dA (am_emb (sAJ u 255 (vp_updL (AJ u 255) 0 (personV v lf (ix x) (ix y)).toInt64)))) H1 := by
    rw [← e9, am_ws_set _ (by show 255 < am_N; decide)]
    exact hP1
  refine lv_goto (tgt := 17) hx9 hb dL_person_10 rfl ?_
  refine lv_iconst (v := 0) hx9 hb dL_person_17 (by decide) ?_
  refine vx_ret (W.widen (k := 1) (n := 6) (by omega) (by omega) ?_)
  have hsz : b + 256 ≤ H1.size := by
    have h9 := (hP2 255 _ (am_ws_get (em_row (u := sAJ u 255 (vp_updL (AJ u 255) 0 (personV v lf (ix x) (ix y)).toInt64)) h255 (by decide)))).lt
    simp only at h9
    omega
  exact W.iret hx9 hb hrt (fun t ht _ => ⟨rfl, by rw [ht]; exact hS1.1, by rw [ht]; exact hsz, by rw [ht]; exact hP2, fun q hq => by rw [ht]; exact hS1.2.1 q (by omega) (by show ¬ b ≤ q; omega)⟩) hS1.2.2 dL_person_18 hlk
theorem sp_bad (hlt : l.stackTraces = false) (hr : FR u 0 2 = some L) (hL : sh L 3 19) (hC : LibC u L v) (hW : WF v) (hx : (okI x (nE v) && okI y 9) = false) :
    vx_Met l yL_person sp_ws (am_rm 1001 1 6) (am_Pc false b sa D dA (Zs b sa av) (sp_as x y) (am_emb u)) (am_Qc false b sa D dA (some (.int 1)) (am_emb u)) (fun _ _ _ => False) 1 6 (fun q => b ≤ q) := by
  refine sp_of (fun {p e s mi args below meth c LS} hx9 hb hrt hml hown hts hlk htab A hl => ?_)
  have hM := px_met (l := l) (b := b) (sa := sa) (av := av) (D := D) (dA := dA) hlt hr hL hC hW hx
  refine lv_aload_n hx9 hb dL_person_0 rfl (lv_at hl 3 rfl) ?_
  refine lv_iconst (v := 0) hx9 hb dL_person_1 (by decide) ?_
  refine lv_aload_n hx9 hb dL_person_2 rfl (lv_at hl 0 rfl) ?_
  refine lv_iload_n hx9 hb dL_person_3 rfl (lv_at hl 1 rfl) ?_
  refine lv_iload_n hx9 hb dL_person_4 rfl (lv_at hl 2 rfl) ?_
  obtain ⟨m1, m2, m3, m4, m5, m6⟩ := am_meth (rfl : am_ms[121]? = some am_m121)
  obtain ⟨i1, i2, i3⟩ := m6 rfl
  have hbb : b ≤ s.heap.size := A.2.2.2.1
  have hrun := vx_runV (e := e) (below := below) (meth := meth) (locs := []) (cells := 0) (slots := 0) (C := RX11) (As := [.int x, .int y]) (rest := [.int 0, .ref (b + 255)]) (b := b + 0) (g := F0 mi 5 LS [.int y, .int x, .ref (b + 0), .int 0, .ref (b + 255)]) ⟨hx9, hb, hml, hown, hts⟩ hM ⟨gl_callB (z := 121) (rz := am_m121) (R := am_rm 1001 1 6) hts (by show 21 ≤ 1001; decide) (by show 64 * 21 ≤ 64 * 1001; decide) rfl (am_W_in (j := 1313) (by decide +kernel)), hts _ i1, hts _ (i3 (by decide +kernel))⟩ ⟨am_blind (Zs_ok b sa av), gl_rcv A (show sh 0 11 16 from rfl) (Or.inl ⟨rfl, rfl⟩), gl_preW A⟩ rfl rfl hl.1 rfl (lv_room (Nat.le_of_ble_eq_true rfl)) dL_person_5 ⟨Nat.le_refl _, Nat.le_refl _⟩
  intro T hT X
  rcases hrun T hT X with ⟨v1, st₀, t, T', Lo, h0, X', hLo, e1, e2, hF, st⟩ | ⟨q9, st₀, t, T', Lo, E, ce, h0, X', hLo, e1, e2, hXC, hce, hcv, hcl, st⟩
  · exact absurd hF id
  · obtain ⟨rfl, g1, g2, g3, g4⟩ := hXC
    rw [h0] at g1 g4
    have hcast : (Cond.castable px_X px_X).before args s = true := va_Nw.use rfl (A.2.2.1.2.2.2.2.2.2.2.2.2.2 (.castable px_X px_X) (by unfold px_B; exact List.mem_cons_self))
    have hkk : vx_W p l e (am_rm 1001 1 6) s mi args below meth c T'.heap ([] ++ Lo) (0 + 1) (0 + 6) (vx_MQ below (am_Qc false b sa D dA (some (.int 1)) (am_emb u)) (fun _ _ _ => False) args s 1 6 (fun q => b ≤ q)) (F0 mi 5 LS [.int 0, .ref (b + 255)]) q9 := by
      refine vx_catch (own := RL) (name := px_X) (E := px_X) (ce := ce) hown [] _ [] (htab.trans rfl) (fun z hz => nomatch hz) rfl (by decide) (hts (.classLink RL 13 px_X) (am_W_in (j := 1312) (by decide +kernel))) hcast (by rw [e1]; exact hce) hcv hcl ?_
      refine lv_astore (lv' := [(4, .ref q9), (0, .ref (b + 0)), (1, .int x), (2, .int y), (3, .ref (b + 255))]) hx9 hb dL_person_13 hl (by decide) rfl (fun LS' hl' => ?_)
      refine lv_iconst (v := 1) hx9 hb dL_person_15 (by decide) ?_
      exact vx_ret (W.iret hx9 hb hrt (fun t' ht _ => ⟨rfl, by rw [ht, e1]; exact g1, by rw [ht, e1]; exact g2, by rw [ht, e1]; exact g3, fun q hq => by rw [ht, e1]; exact g4 q hq⟩) (fun q hq => hLo q hq) dL_person_16 hlk)
    obtain ⟨t2, a1, b1⟩ := hkk T' rfl X'
    exact ⟨t2, st.trans a1, b1⟩
end Sp
