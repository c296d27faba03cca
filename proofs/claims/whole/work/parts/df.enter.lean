/-! THE LAW FROM ITS ENTRY to its loop -/
section Enter
variable {p : Program} {l : Launch} {e : Env} {s : State} {mi : MethodId} {below : List Frame} {meth : Method} {c : Code} {H : Heap} {locs : List Loc} {cells slots : Nat} {Q : State → Prop}
variable {b sa av bs Ln i : Nat} {D : va_G} {dA : Nat → ClassId} {xs : Nat → Int32} {pc : Nat} {LS : Array Slot} {rest : List Value} {m m' : am_M}
theorem lw_keyN (A : am_At true b sa D dA (Zs b sa av) s m H locs) (hz : am_sz true b m s cells) (hmS : m.1 < am_S) {x : va_E} {n q pc1 : Nat} {H1 : Heap} (hP1 : va_P D vwCl (am_ws b sa dA m ++ [(q, am_ce b sa dA x)]) H1) (hD1 : va_D (fun q => b ≤ q) (am_ws b sa dA m ++ [(q, am_ce b sa dA x)])) (hS1 : va_S (fun q => b ≤ q) s.heap H1 locs)
    (k : ∀ H' locs', am_At true b sa D dA (Zs b sa av) s (am_new m x n) H' locs' → W p l e room_1 s mi #[Value.ref bs] below meth c H' locs' (cells + 1) (slots + n) Q (F0 mi pc1 LS (.ref (b + m.1) :: rest))) : W p l e room_1 s mi #[Value.ref bs] below meth c H1 locs (cells + 1) (slots + n) Q (F0 mi pc1 LS (.ref q :: rest)) := by
  refine am_W_of fun T hT X => ?_
  have h2 : T.heap.size ≤ s.heap.size + (cells + 1) := X.same.2.2.1
  rw [hT] at h2
  have hq := am_fresh A hz rfl hP1 hD1 h2
  subst hq
  exact k H1 locs (am_At_new A hmS hP1 hS1)
theorem lw_newO {ci idx : Nat} {q : vw_C} {fs : List Value} (F : lw_Fx p s mi meth c bs Ln xs) (A : am_At true b sa D dA (Zs b sa av) s m H locs) (hz : am_sz true b m s cells) (hmS : m.1 < am_S) (hq : vwCl[ci]? = some q) (hw : Cond.classLink RL idx q.1 ∈ lw_tbl) (hfs : am_dv ci = some fs) (hcv : fs.map (am_cv b sa) = fs) (hdec : decode code pc = .ok (.new idx, 3)) (hR : cells + 1 ≤ 601024 ∧ slots + fs.length ≤ 7293034)
    (k : ∀ H' locs', am_At true b sa D dA (Zs b sa av) s (am_new m (.inr (ci, fs)) fs.length) H' locs' → W p l e room_1 s mi #[Value.ref bs] below meth c H' locs' (cells + 1) (slots + fs.length) Q (F0 mi (pc + 3) LS (.ref (b + m.1) :: rest))) : W p l e room_1 s mi #[Value.ref bs] below meth c H locs cells slots Q (F0 mi pc LS rest) := by
  have hx := F.1
  have hb := F.2.1
  have hown := F.2.2.2.1
  have hts := F.2.2.2.2.1
  have ts := fun {w : Cond} (h : w ∈ am_WS) => hts w (List.mem_filter.mp h).1
  obtain ⟨ty0, ht, -, -, fs', e1, e2, e3⟩ := am_fl hq
  rw [hfs] at e1
  cases e1
  have hA : ∀ q : Nat, s.heap.size ≤ q → b ≤ q := fun q h => Nat.le_trans A.2.2.2.1 h
  refine va_new (own := RL) (C := q.1) (T := q.2.1) (N := q.2.2) (fs := fs) (Ts := lw_tbl) hx hb hts (fun w hw => (List.mem_filter.mp ((am_cl hq).2.2 w hw)).1) ty0 ht hown (hts _ hw) (ts (am_cl hq).1) (ts (am_cl hq).2.1) A.2.2.1.1 A.1 (am_ws_D b sa dA m) A.2.1 hA hq e3 hR.1 (by rw [← e2]; exact hR.2) hdec (fun q9 H1 hP1 hD1 hS1 => ?_)
  rw [← e2]
  have e5 : am_ce b sa dA (.inr (ci, fs)) = .inr (ci, fs) := by show Sum.inr (ci, fs.map (am_cv b sa)) = _; rw [hcv]
  exact lw_keyN A hz hmS (by rw [e5]; exact hP1) (by rw [e5]; exact hD1) hS1 k
theorem lw_newL (F : lw_Fx p s mi meth c bs Ln xs) (A : am_At true b sa D dA (Zs b sa av) s m H locs) (hz : am_sz true b m s cells) (hmS : m.1 < am_S) (hdec : decode code pc = .ok (.newarray .long, 2)) (hR : cells + 1 ≤ 601024 ∧ slots + 1 ≤ 7293034)
    (k : ∀ H' locs', am_At true b sa D dA (Zs b sa av) s (am_new m (.inl (1, 1, .inr (.inl (fun _ => 0)))) 1) H' locs' → W p l e room_1 s mi #[Value.ref bs] below meth c H' locs' (cells + 1) (slots + 1) Q (F0 mi (pc + 2) LS (.ref (b + m.1) :: rest))) : W p l e room_1 s mi #[Value.ref bs] below meth c H locs cells slots Q (F0 mi pc LS (.int 1 :: rest)) := by
  have hx := F.1
  have hb := F.2.1
  have ts := fun {w : Cond} (h : w ∈ am_WS) => F.2.2.2.2.1 w (List.mem_filter.mp h).1
  have hA : ∀ q : Nat, s.heap.size ≤ q → b ≤ q := fun q h => Nat.le_trans A.2.2.2.1 h
  refine va_newa (atype := .long) (ty := .long) (N' := 1) (a0 := (1, .inr (.inl (fun _ => 0)))) hx hb (ts am_arr.2.1) rfl A.2.2.1.1 A.1 (am_ws_D b sa dA m) A.2.1 hA (fun cA => rfl) (by decide) rfl (am_tyA.2.1 _ (by decide)) hR.1 hR.2 hdec (fun q cA H1 hK1 hP1 hD1 hS1 => ?_)
  have ec : cA = dA 1 := am_cA A.2.2.1.1 hK1 (i := 1) rfl
  subst ec
  exact lw_keyN (x := .inl (1, 1, .inr (.inl (fun _ => 0)))) A hz hmS hP1 hD1 hS1 k
theorem lw_callI {idx z a n : Nat} {rz : am_Rec} (F : lw_Fx p s mi meth c bs Ln xs) (A : am_At true b sa D dA (Zs b sa av) s m H locs) (hz : am_sz true b m s cells) (hrz : am_ms[z]? = some rz) (hst : rz.2.2.2.2.1.2.2 = false) (hin : rz.1.name = "<init>") (hw : Cond.methodLink RL idx rz.1 ∈ lw_tbl)
    (haS : a < am_S) (hn : rz.2.2.2.2.1.2.1 = 0) (hls : LS.size = 7) (hcat : (rest.map fun v => v.category).sum ≤ 8) (hdec : decode code pc = .ok (.invokespecial idx, 3)) (hres : am_rec true n 20 z [.ref a] m = some (none, m')) (hR : cells + (m'.1 - m.1) ≤ 601024 ∧ slots + (m'.2.1 - m.2.1) ≤ 7293034)
    (k : ∀ H' locs', am_At true b sa D dA (Zs b sa av) s m' H' locs' → W p l e room_1 s mi #[Value.ref bs] below meth c H' locs' (cells + (m'.1 - m.1)) (slots + (m'.2.1 - m.2.1)) Q (F0 mi (pc + 3) LS rest)) : W p l e room_1 s mi #[Value.ref bs] below meth c H locs cells slots Q (F0 mi pc LS (.ref (b + a) :: rest)) := by
  obtain ⟨hM, hmS⟩ := am_metR (l := l) (D := D) (dA := dA) (Zs_ok b sa av) (Zs_R b sa av) (Zs_str b sa av) sx_prim hrz A.2.2.2.2 hres
  obtain ⟨m1, m2, m3, m4, m5, m6⟩ := am_meth hrz
  obtain ⟨i1, i2, i3⟩ := m6 hst
  have ts := fun {w : Cond} (h : w ∈ am_WS) => F.2.2.2.2.1 w (List.mem_filter.mp h).1
  have hret := i2 hin
  have hra : am_cv b sa (.ref a) = .ref (b + a) := by
    show Value.ref (if a = am_S then sa else b + a) = _
    rw [if_neg (by omega)]
  have hAs2 : [Value.ref a].map (am_cv b sa) = [.ref (b + a)] := by rw [List.map_cons, hra]; rfl
  refine lw_backW (as := [.ref a]) (v := none) (m' := m') A hz hmS (fun hhs => ?_) (fun H' locs' A' => k H' locs' A')
  have hcb := lw_callB (d' := 20) (mc := m'.1 - m.1) (ms := m'.2.1 - m.2.1) F (by decide) hrz hw
  rw [hret, hn] at hcb
  have hrun := va_runI (e := e) (below := below) (meth := meth) (locs := locs) (As := []) (rest := rest) (b := b + a) (g := F0 mi pc LS (.ref (b + a) :: rest)) (Ts := lw_tbl) ⟨F.1, F.2.1, F.2.2.1, F.2.2.2.1, F.2.2.2.2.1⟩ hM ⟨hcb, hin, ts i1⟩ ⟨am_blind (Zs_ok b sa av), by rw [← hAs2]; exact lw_preW A hhs⟩ rfl rfl hls rfl (by show 2 * 0 + _ ≤ 8; omega) hdec hR
  rw [← hAs2] at hrun
  exact hrun
theorem lw_enter (hlt : l.stackTraces = false) (F : lw_Fx p s mi meth c bs Ln xs) (hV : am_V D dA (Zs s.heap.size sa av) s) (hl : lv_has LS 7 [(0, .ref bs)])
    (hq : ∀ cells slots H locs u LS, cells ≤ 4000 → slots ≤ 60000 → am_At false s.heap.size sa D dA (Zs s.heap.size sa av) s (am_emb u) H locs → W p l e room_1 s mi #[Value.ref bs] below meth c H locs cells slots Q (F0 mi 1232 LS [])) :
    W p l e room_1 s mi #[Value.ref bs] below meth c s.heap [] 0 0 Q (F0 mi 0 LS []) := by
  have hx := F.1
  have hb := F.2.1
  have hbl := F.2.2.2.2.2.2.1
  obtain ⟨m1, m3, u, h1, h2, h3, h4, h5, h6, h7, hF, hFR, hA, hQ⟩ := st_exists
  unfold st_r1 st_m0 at h1
  have A0 : am_At true s.heap.size sa D dA (Zs s.heap.size sa av) s am_zero s.heap [] := ⟨fun k q h => by simp [am_ws, am_zero] at h, va_S.rf, hV, Nat.le_refl _, Nat.zero_le _⟩
  refine lw_newO (ci := 11) (idx := 8) (fs := (am_dv 11).getD []) F A0 (fun _ => rfl) (by decide) rfl (List.mem_of_getElem? (i := 156) (by decide +kernel)) rfl rfl d_law_0 ⟨by decide, by decide⟩ (fun H1 locs1 A1 => ?_)
  refine lv_dup hx hb d_law_3 rfl ?_
  have r1 : am_rec true 3000 20 115 [.ref 0] (am_new am_zero (.inr (11, (am_dv 11).getD [])) 16) = some (none, m1) := by
    unfold am_rec
    rw [show am_ms[115]? = some am_m115 from rfl]
    dsimp only
    rw [if_pos (by decide)]
    exact h1
  have z1 : am_sz true s.heap.size (am_new am_zero (.inr (11, (am_dv 11).getD [])) 16) s 1 := fun _ => rfl
  refine lw_callI (idx := 15) (z := 115) (a := 0) (n := 3000) (m := am_new am_zero (.inr (11, (am_dv 11).getD [])) 16) (m' := m1) F A1 z1 rfl rfl (by decide +kernel) (List.mem_of_getElem? (i := 158) (by decide +kernel)) (by decide) rfl hl.1 (Nat.le_of_ble_eq_true rfl) d_law_4 r1 ⟨by rw [h2]; decide, by rw [h3]; decide⟩ (fun H2 locs2 A2 => ?_)
  rw [h2, h3]
  refine lv_astore_n (lv' := [(1, .ref (s.heap.size + 0)), (0, .ref bs)]) hx hb d_law_7 rfl hl (by decide) rfl (fun LS2 hl2 => ?_)
  have z2 : am_sz true s.heap.size m1 s 203 := fun _ => by rw [h2]
  refine lw_newO (ci := 12) (idx := 16) (fs := (am_dv 12).getD []) F A2 z2 (by rw [h2]; decide) rfl (List.mem_of_getElem? (i := 1380) (by decide +kernel)) rfl rfl d_law_8 ⟨by decide, by decide⟩ (fun H3 locs3 A3 => ?_)
  rw [h2]
  refine lv_dup hx hb d_law_11 rfl ?_
  have r2 : am_rec true 3000 20 159 [.ref 203] (am_new m1 (.inr (12, (am_dv 12).getD [])) 68) = some (none, m3) := by
    unfold am_rec
    rw [show am_ms[159]? = some am_m159 from rfl]
    dsimp only
    rw [if_pos (by decide)]
    exact h4
  have e1 : (am_new m1 (.inr (12, (am_dv 12).getD [])) 68).1 = 204 := by show m1.1 + 1 = 204; omega
  have e2 : (am_new m1 (.inr (12, (am_dv 12).getD [])) 68).2.1 = 12371 := by show m1.2.1 + 68 = 12371; omega
  have z3 : am_sz true s.heap.size (am_new m1 (.inr (12, (am_dv 12).getD [])) 68) s 204 := fun _ => by rw [e1]
  refine lw_callI (idx := 18) (z := 159) (a := 203) (n := 3000) (m := am_new m1 (.inr (12, (am_dv 12).getD [])) 68) (m' := m3) F A3 z3 rfl rfl (by decide +kernel) (List.mem_of_getElem? (i := 1382) (by decide +kernel)) (by decide) rfl hl2.1 (Nat.le_of_ble_eq_true rfl) d_law_12 r2 ⟨by rw [h5, e1]; decide, by rw [h6, e2]; decide⟩ (fun H4 locs4 A4 => ?_)
  rw [h5, h6, e1, e2]
  refine lv_astore_n (lv' := [(2, .ref (s.heap.size + 203)), (1, .ref (s.heap.size + 0)), (0, .ref bs)]) hx hb d_law_15 rfl hl2 (by decide) rfl (fun LS3 hl3 => ?_)
  refine lv_iconst (v := 1) hx hb d_law_16 (by decide) ?_
  have z4 : am_sz true s.heap.size m3 s 255 := fun _ => by rw [h5]
  refine lw_newL F A4 z4 (by rw [h5]; decide) d_law_17 ⟨by decide, by decide⟩ (fun H5 locs5 A5 => ?_)
  rw [h5]
  refine lv_astore_n (lv' := [(3, .ref (s.heap.size + 255)), (2, .ref (s.heap.size + 203)), (1, .ref (s.heap.size + 0)), (0, .ref bs)]) hx hb d_law_19 rfl hl3 (by decide) rfl (fun LS4 hl4 => ?_)
  refine lv_iconst (v := nI 0) hx hb d_law_20 rfl ?_
  refine lv_istore (lv' := [(4, .int (nI 0)), (3, .ref (s.heap.size + 255)), (2, .ref (s.heap.size + 203)), (1, .ref (s.heap.size + 0)), (0, .ref bs)]) hx hb d_law_21 hl4 (by decide) rfl (fun LS5 hl5 => ?_)
  have hl6 : lv_has LS5 7 (lw_ls s.heap.size bs 0) := lv_sub hl5 [4, 3, 2, 1, 0] rfl
  have A6 : am_At false s.heap.size sa D dA (Zs s.heap.size sa av) s (am_emb u) H5 locs5 := ⟨by rw [← h7]; exact A5.1, A5.2.1, A5.2.2.1, A5.2.2.2.1, by show am_N ≤ am_S; decide⟩
  obtain ⟨iC, iR⟩ := st_inv hF hFR hA hQ
  exact lw_loop hlt F hbl hq (Ln + 1) 0 _ _ H5 locs5 u (newS vE) 7 33 LS5 (by omega) (by omega) (by decide) (by decide) ⟨iC, st_namesC, iR, st_namesR, st_WS⟩ A6 hl6
end Enter
