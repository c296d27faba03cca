/-! THE LAW'S CASE person -/
section Case5
variable {p : Program} {l : Launch} {e : Env} {s : State} {mi : MethodId} {below : List Frame} {meth : Method} {c : Code} {H : Heap} {locs : List Loc} {cells slots : Nat} {Q : State → Prop}
variable {b sa av bs Ln i : Nat} {D : va_G} {dA : Nat → ClassId} {xs : Nat → Int32} {LS : Array Slot} {u u' : am_U} {S : ST} {L L' : Nat} {rest : List Value}
theorem lg_same (x : Int64) : lg_cmp x x = 0 := by simp [lg_cmp]
theorem lw_callP {x y k : Int32} (F : lw_Fx p s mi meth c bs Ln xs) (A : am_At false b sa D dA (Zs b sa av) s (am_emb u) H locs) (hls : LS.size = 7) (hR : cells + 1 ≤ 601024 ∧ slots + 6 ≤ 7293034)
    (hM : vx_Met l yL_person sp_ws (am_rm 1001 1 6) (am_Pc false b sa D dA (Zs b sa av) (sp_as x y) (am_emb u)) (am_Qc false b sa D dA (some (.int k)) (am_emb u')) (fun _ _ _ => False) 1 6 (fun q => b ≤ q))
    (kk : ∀ H' locs', am_At false b sa D dA (Zs b sa av) s (am_emb u') H' locs' → W p l e room_1 s mi #[Value.ref bs] below meth c H' locs' (cells + 1) (slots + 6) Q (F0 mi 436 LS [.int k])) : W p l e room_1 s mi #[Value.ref bs] below meth c H locs cells slots Q (F0 mi 433 LS [.ref (b + 255), .int y, .int x, .ref (b + 0)]) := by
  have hts := F.2.2.2.2.1
  have ts := fun {w : Cond} (h : w ∈ am_WS) => hts w (List.mem_filter.mp h).1
  have hcw : vx_CSW room_1 s #[Value.ref bs] RL 43 yL_person cL_person 5 (some .int) sp_hh sp_ws (am_rm 1001 1 6) 1 6 4 := by
    refine ⟨⟨rfl, rfl, by show 1002 ≤ 2048; decide, by show 8 + (5 + 11) + 64 * 1001 ≤ 84000; decide, ?_, List.mem_cons_self⟩, ts sp_code, ts (am_W_in (j := 131) (by decide +kernel)), by decide +kernel, fun sig hs => ?_, ts (am_W_in (j := 1309) (by decide +kernel)), ts (am_W_in (j := 1310) (by decide +kernel))⟩
    · intro w hw a' U hW
      have h1 : w ∈ am_WS := by
        rcases List.mem_cons.mp hw with h | h
        · rw [h]; exact sp_code
        · exact h
      exact word_at hW (good_of_word (List.mem_filter.mp h1).2) (ts h1)
    · have hd : (parseMethodDescriptor yL_person.desc).map (fun d => d.parameters.length) = some 4 := by decide +kernel
      rw [hs] at hd
      exact (Option.some.inj hd).symm
  have hrun := vx_runSX (e := e) (below := below) (meth := meth) (H := H) (locs := locs) (cells := cells) (slots := slots) (Ts := lw_tbl) (As := [.ref (b + 0), .int x, .int y, .ref (b + 255)]) (rest := []) (g := F0 mi 433 LS [.ref (b + 255), .int y, .int x, .ref (b + 0)]) ⟨F.1, F.2.1, F.2.2.1, F.2.2.2.1, F.2.2.2.2.1⟩ hM hcw ⟨am_blind (Zs_ok b sa av), fun U hU hW => gl_preW (as := sp_as x y) A U hU hW⟩ rfl rfl hls rfl (lv_room (Nat.le_of_ble_eq_true rfl)) d_law_433 hR
  intro T hT X
  rcases hrun T hT X with ⟨v1, st₀, t, T', Lo, h0, X', hLo, e1, e2, hq, st⟩ | ⟨q9, st₀, t, T', Lo, E, ce, h0, X', hLo, e1, e2, hXC, hce, hcv, hcl, st⟩
  · obtain ⟨h1, h2, h3, h4, h5⟩ := hq
    have hv : v1 = some (.int k) := Outcome.returned.inj h1
    subst hv
    rw [h0] at h2 h5
    have A1 : am_At false b sa D dA (Zs b sa av) s (am_emb u') T'.heap (locs ++ Lo) := ⟨by rw [e1]; exact h4, ⟨Nat.le_trans A.2.1.1 (by rw [e1]; exact h2), fun q g1 g2 => by rw [e1, h5 q (by omega)]; exact A.2.1.2.1 q g1 g2, fun q hq => by
      rcases List.mem_append.mp hq with h | h
      · exact A.2.1.2.2 q h
      · exact hLo q h⟩, A.2.2.1, A.2.2.2.1, A.2.2.2.2⟩
    obtain ⟨t2, a1, b1⟩ := kk T'.heap (locs ++ Lo) A1 T' rfl X'
    exact ⟨t2, st t2 a1, b1⟩
  · exact absurd hXC id
theorem lw_c5 (hlt : l.stackTraces = false) (F : lw_Fx p s mi meth c bs Ln xs) (hbb : bs < b) (A : am_At false b sa D dA (Zs b sa av) s (am_emb u) H locs) (hl : lv_has LS 7 (lw_ls b bs i)) (hi : i + 7 ≤ Ln) (hR : cells + 1 ≤ 601024 ∧ slots + 6 ≤ 7293034) (I : lw_Inv u S L L')
    (k : ∀ u' S' L1 L1' H' locs' LS', lv_has LS' 7 (lw_ls b bs i) → lw_Inv u' S' L1 L1' → am_At false b sa D dA (Zs b sa av) s (am_emb u') H' locs' → W p l e room_1 s mi #[Value.ref bs] below meth c H' locs' (cells + 1) (slots + 6) Q (F0 mi 1226 LS' [])) : W p l e room_1 s mi #[Value.ref bs] below meth c H locs cells slots Q (F0 mi 419 LS []) := by
  have hx := F.1
  have hb := F.2.1
  obtain ⟨iC, nC, iR, nR, w⟩ := id I
  have hL := lw_L iC
  refine lv_aload_n hx hb d_law_419 rfl (lv_at hl 1 rfl) ?_
  refine lw_el (k := 1) F A hbb hl (by omega) rfl d_law_420 d_law_421 d_law_423 d_law_424 d_law_425 ?_
  refine lw_el (k := 2) F A hbb hl (by omega) rfl d_law_426 d_law_427 d_law_429 d_law_430 d_law_431 ?_
  refine lv_aload_n hx hb d_law_432 rfl (lv_at hl 3 rfl) ?_
  by_cases hg : (okI (xs (i + 1)) (nE S.1) && okI (xs (i + 2)) 9) = true
  · obtain ⟨g1, g2⟩ := (Bool.and_eq_true _ _).mp hg
    refine lw_callP F A hl.1 hR (sp_good (u := u) (x := xs (i + 1)) (y := xs (i + 2)) iC.1.1 (lw_lib iC) iC.2.1.1 w.1 iC.2.2.1.1 g1 g2) (fun H1 locs1 A1 => ?_)
    generalize hu1 : sAJ u 255 (vp_updL (AJ u 255) 0 (personV S.1 S.2.1.1 (ix (xs (i + 1))) (ix (xs (i + 2)))).toInt64) = u1 at A1
    have o1 : Only (fun a => a = 255) u u1 := by rw [← hu1]; exact Only.sAJ rfl
    have j1 : AJ u1 255 0 = (personV S.1 S.2.1.1 (ix (xs (i + 1))) (ix (xs (i + 2)))).toInt64 := by rw [← hu1, AJ_sAJ, if_pos rfl, updL_s]
    have iR1 : InvR u1 S := by rw [← hu1]; exact iR
    have iC1 := iC.keep o1 (fun a ha q => by omega) w.2.2.1.1
    have nC1 := nC.keep o1 (by omega)
    have nR1 := nR.keep o1 (by omega)
    generalize hr : personV S.1 S.2.1.1 (ix (xs (i + 1))) (ix (xs (i + 2))) = r at *
    refine lv_istore (lv' := (5, .int 0) :: lw_ls b bs i) hx hb d_law_436 hl (by decide) rfl (fun LS1 hl1 => ?_)
    have hl1' : lv_has LS1 7 (lw_ls b bs i) := lv_sub hl1 [1, 2, 3, 4, 5] rfl
    refine lv_aload_n hx hb d_law_438 rfl (lv_at hl1' 2 rfl) ?_
    refine lw_el (k := 1) F A1 hbb hl1' (by omega) rfl d_law_439 d_law_440 d_law_442 d_law_443 d_law_444 ?_
    refine lw_el (k := 2) F A1 hbb hl1' (by omega) rfl d_law_445 d_law_446 d_law_448 d_law_449 d_law_450 ?_
    refine lw_callV (idx := 48) (z := 222) (a := 203) (ci := 12) (As := [.int (xs (i + 1)), .int (xs (i + 2))]) (rest := []) F A1 rfl rfl (by decide +kernel) (List.mem_of_getElem? (i := 1807) (by decide +kernel)) (em_obj (show sh 203 12 68 from rfl) (by decide)) rfl (by decide) rfl rfl hl1.1 (Nat.le_of_ble_eq_true rfl) d_law_451 ?_ hR
    refine (R_person (d := 996) iR1.1 iR1.2.2.1.1 w.1 w.2.1.1 g1 g2).mpr ?_
    rw [hr]
    refine lw_kI (r := r) (fun H2 locs2 A2 => ?_)
    refine lv_istore (lv' := (6, .int r) :: (5, .int 0) :: lw_ls b bs i) hx hb d_law_454 hl1 (by decide) rfl (fun LS2 hl2 => ?_)
    have hl2' : lv_has LS2 7 (lw_ls b bs i) := lv_sub hl2 [2, 3, 4, 5, 6] rfl
    refine lv_aload_n hx hb d_law_456 rfl (lv_at hl2' 2 rfl) ?_
    refine lw_callV (idx := 49) (z := 160) (a := 203) (ci := 12) (As := []) (rest := []) F A2 rfl rfl (by decide +kernel) (List.mem_of_getElem? (i := 1591) (by decide +kernel)) (em_obj (show sh 203 12 68 from rfl) (by decide)) rfl (by decide) rfl rfl hl2.1 (Nat.le_of_ble_eq_true rfl) d_law_457 ?_ hR
    refine R_thrown.mpr (lw_kI (r := FI (th u1 0) 203 0) (fun H3 locs3 A3 => ?_))
    have hth : FI (th u1 0) 203 0 = 0 := by unfold th; rw [FI_sFI, if_pos ⟨rfl, rfl⟩]
    rw [hth]
    refine lv_iload hx hb d_law_460 (lv_at hl2 1 rfl) ?_
    refine lv_icmp_eq (tgt := 467) hx hb d_law_462 rfl (fun _ => ?_) (fun q => absurd rfl q)
    refine lv_iload hx hb d_law_467 (lv_at hl2 1 rfl) ?_
    refine lv_if_ne (tgt := 484) hx hb d_law_469 rfl (fun q => absurd rfl q) (fun _ => ?_)
    refine lv_aload_n hx hb d_law_472 rfl (lv_at hl2' 3 rfl) ?_
    refine lv_iconst (v := 0) hx hb d_law_473 (by decide) ?_
    have ha : (am_ws b sa dA (am_emb (th u1 0)))[255]? = some (b + 255, .inl (dA 1, 1, .inr (.inl (AJ u1 255)))) := am_ws_get (em_row (u := th u1 0) (show sh 255 101 1 from rfl) (by decide))
    refine va_lald hx hb A3.2.2.1.1 A3.1 255 1 ha rfl (show vp_in 0 1 from fun q => by rcases q with q | q; exact absurd q (by decide); exact absurd q (by decide)) d_law_474 ?_
    rw [show AJ u1 255 (Int32.toNatClampNeg 0) = r.toInt64 from j1]
    refine lv_iload hx hb d_law_475 (lv_at hl2 0 rfl) ?_
    refine lv_i2l hx hb d_law_477 rfl ?_
    refine W.lcmp hx hb d_law_478 ?_
    rw [lg_same]
    refine lv_if_eq (tgt := 484) hx hb d_law_479 rfl (fun _ => ?_) (fun q => absurd rfl q)
    refine lv_goto (tgt := 1226) hx hb d_law_484 rfl ?_
    have o2 : Only (fun a => a = 203) u1 (th u1 0) := Only.sFI rfl
    exact k _ S L L' _ _ LS2 hl2' ⟨iC1.keep o2 (fun a ha q => by omega) w.2.2.1.1, nC1.keep o2 (by omega), th_inv iR1, nR1.keep o2 (by omega), w⟩ A3
  · have hg' : (okI (xs (i + 1)) (nE S.1) && okI (xs (i + 2)) 9) = false := by simpa using hg
    refine lw_callP F A hl.1 hR (sp_bad (u := u) (x := xs (i + 1)) (y := xs (i + 2)) hlt iC.1.1 (lw_lib iC) iC.2.1.1 w.1 hg') (fun H1 locs1 A1 => ?_)
    refine lv_istore (lv' := (5, .int 1) :: lw_ls b bs i) hx hb d_law_436 hl (by decide) rfl (fun LS1 hl1 => ?_)
    have hl1' : lv_has LS1 7 (lw_ls b bs i) := lv_sub hl1 [1, 2, 3, 4, 5] rfl
    refine lv_aload_n hx hb d_law_438 rfl (lv_at hl1' 2 rfl) ?_
    refine lw_el (k := 1) F A1 hbb hl1' (by omega) rfl d_law_439 d_law_440 d_law_442 d_law_443 d_law_444 ?_
    refine lw_el (k := 2) F A1 hbb hl1' (by omega) rfl d_law_445 d_law_446 d_law_448 d_law_449 d_law_450 ?_
    refine lw_callV (idx := 48) (z := 222) (a := 203) (ci := 12) (As := [.int (xs (i + 1)), .int (xs (i + 2))]) (rest := []) F A1 rfl rfl (by decide +kernel) (List.mem_of_getElem? (i := 1807) (by decide +kernel)) (em_obj (show sh 203 12 68 from rfl) (by decide)) rfl (by decide) rfl rfl hl1.1 (Nat.le_of_ble_eq_true rfl) d_law_451 ?_ hR
    refine (R_personX (d := 996) iR.1 w.1 hg').mpr ?_
    refine lw_kI (r := 0) (fun H2 locs2 A2 => ?_)
    refine lv_istore (lv' := (6, .int 0) :: (5, .int 1) :: lw_ls b bs i) hx hb d_law_454 hl1 (by decide) rfl (fun LS2 hl2 => ?_)
    have hl2' : lv_has LS2 7 (lw_ls b bs i) := lv_sub hl2 [2, 3, 4, 5, 6] rfl
    refine lv_aload_n hx hb d_law_456 rfl (lv_at hl2' 2 rfl) ?_
    refine lw_callV (idx := 49) (z := 160) (a := 203) (ci := 12) (As := []) (rest := []) F A2 rfl rfl (by decide +kernel) (List.mem_of_getElem? (i := 1591) (by decide +kernel)) (em_obj (show sh 203 12 68 from rfl) (by decide)) rfl (by decide) rfl rfl hl2.1 (Nat.le_of_ble_eq_true rfl) d_law_457 ?_ hR
    refine R_thrown.mpr (lw_kI (r := FI (th u 1) 203 0) (fun H3 locs3 A3 => ?_))
    have hth : FI (th u 1) 203 0 = 1 := by unfold th; rw [FI_sFI, if_pos ⟨rfl, rfl⟩]
    rw [hth]
    refine lv_iload hx hb d_law_460 (lv_at hl2 1 rfl) ?_
    refine lv_icmp_eq (tgt := 467) hx hb d_law_462 rfl (fun _ => ?_) (fun q => absurd rfl q)
    refine lv_iload hx hb d_law_467 (lv_at hl2 1 rfl) ?_
    refine lv_if_ne (tgt := 484) hx hb d_law_469 rfl (fun _ => ?_) (fun q => absurd q (by decide))
    refine lv_goto (tgt := 1226) hx hb d_law_484 rfl ?_
    have o2 : Only (fun a => a = 203) u (th u 1) := Only.sFI rfl
    exact k _ S L L' _ _ LS2 hl2' ⟨iC.keep o2 (fun a ha q => by omega) w.2.2.1.1, nC.keep o2 (by omega), th_inv iR, nR.keep o2 (by omega), w⟩ A3
end Case5
