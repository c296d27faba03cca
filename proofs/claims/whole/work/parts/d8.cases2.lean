/-! THE LAW'S CASES: library, history -/
section Cases2
variable {p : Program} {l : Launch} {e : Env} {s : State} {mi : MethodId} {below : List Frame} {meth : Method} {c : Code} {H : Heap} {locs : List Loc} {cells slots : Nat} {Q : State → Prop}
variable {b sa av bs Ln i : Nat} {D : va_G} {dA : Nat → ClassId} {xs : Nat → Int32} {LS : Array Slot} {u : am_U} {S : ST} {L L' : Nat}
theorem lw_signs (w : WS S) : ∀ j, j < S.2.2.2.2.1 → S.2.2.2.2.2 j = nI (ix (S.2.2.2.2.2 j)) ∧ ix (S.2.2.2.2.2 j) ≤ 126 := fun j hj => by
  obtain ⟨c, hc, e⟩ := w.2.2.2.2.2 j hj
  rw [e, ix_nI (by omega)]
  exact ⟨rfl, hc⟩
theorem lw_c1 (F : lw_Fx p s mi meth c bs Ln xs) (hbb : bs < b) (A : am_At false b sa D dA (Zs b sa av) s (am_emb u) H locs) (hl : lv_has LS 7 (lw_ls b bs i)) (hi : i + 7 ≤ Ln) (hR : cells ≤ 601024 ∧ slots ≤ 7293034) (I : lw_Inv u S L L') : lw_Case p l e s mi below meth c Q b sa av bs D dA 319 LS H locs cells slots := by
  intro k
  have hx := F.1
  have hb := F.2.1
  obtain ⟨iC, nC, iR, nR, w⟩ := id I
  obtain ⟨m, hE⟩ := end_ex S.2.2.2.2.1 (fun j => ix (S.2.2.2.2.2 j))
  obtain ⟨P, hP⟩ := prs_ex hE
  have hf := lw_signs w
  have hn := w.2.2.2.2.1
  refine lv_aload_n hx hb d_law_319 rfl (lv_at hl 1 rfl) ?_
  refine lw_callV (idx := 26) (z := 117) (a := 0) (ci := 11) (As := []) (rest := []) F A rfl rfl (by decide +kernel) (List.mem_of_getElem? (i := 639) (by decide +kernel)) (em_obj (show sh 0 11 16 from rfl) (by decide)) rfl (by decide) rfl rfl hl.1 (Nat.le_of_ble_eq_true rfl) d_law_320 ?_ hR
  refine C_library iC nC hf hn hE hP (fun u1 L1 L1' o1 iC1 nC1 wf => lw_kI (r := (libraryS P S (fun j => ix (S.2.2.2.2.2 j))).2) (fun H1 locs1 A1 => ?_))
  have iR1 : InvR u1 S := iR.keep o1 (fun a ha q => by unfold allC at q; omega)
  have nR1 : NamesR u1 0 S.1 := nR.keep o1 (by unfold allC; omega)
  refine lv_aload_n hx hb d_law_323 rfl (lv_at hl 2 rfl) ?_
  refine lw_callV (idx := 30) (z := 207) (a := 203) (ci := 12) (As := []) (rest := [.int (libraryS P S (fun j => ix (S.2.2.2.2.2 j))).2]) F A1 rfl rfl (by decide +kernel) (List.mem_of_getElem? (i := 1600) (by decide +kernel)) (em_obj (show sh 203 12 68 from rfl) (by decide)) rfl (by decide) rfl rfl hl.1 (Nat.le_of_ble_eq_true rfl) d_law_324 ?_ hR
  refine R_library iR1 nR1 w.1 hf hn hE hP (fun u2 o2 iR2 nR2 => lw_kI (r := (libraryS P S (fun j => ix (S.2.2.2.2.2 j))).2) (fun H2 locs2 A2 => ?_))
  refine lv_icmp_eq (tgt := 1226) hx hb d_law_327 rfl (fun _ => ?_) (fun q => absurd rfl q)
  have w2 := WS_library w wf
  have hL := lw_L iC1
  exact k _ _ _ _ _ _ ⟨iC1.keep o2 (fun a ha q => by unfold allR at q; omega) w2.2.2.1.1, nC1.keep o2 (by unfold allR; omega), iR2, nR2, w2⟩ A2
theorem hist_v (f : Nat → Nat) : (historyS S f).1.1 = S.1 := by unfold historyS; split <;> rfl
theorem lw_c2 (F : lw_Fx p s mi meth c bs Ln xs) (hbb : bs < b) (A : am_At false b sa D dA (Zs b sa av) s (am_emb u) H locs) (hl : lv_has LS 7 (lw_ls b bs i)) (hi : i + 7 ≤ Ln) (hR : cells ≤ 601024 ∧ slots ≤ 7293034) (I : lw_Inv u S L L') : lw_Case p l e s mi below meth c Q b sa av bs D dA 332 LS H locs cells slots := by
  intro k
  have hx := F.1
  have hb := F.2.1
  obtain ⟨iC, nC, iR, nR, w⟩ := id I
  obtain ⟨m, hE⟩ := end_ex S.2.2.2.2.1 (fun j => ix (S.2.2.2.2.2 j))
  have hf := lw_signs w
  refine lv_aload_n hx hb d_law_332 rfl (lv_at hl 1 rfl) ?_
  refine lw_callV (idx := 31) (z := 118) (a := 0) (ci := 11) (As := []) (rest := []) F A rfl rfl (by decide +kernel) (List.mem_of_getElem? (i := 889) (by decide +kernel)) (em_obj (show sh 0 11 16 from rfl) (by decide)) rfl (by decide) rfl rfl hl.1 (Nat.le_of_ble_eq_true rfl) d_law_333 ?_ hR
  refine C_history iC nC w hf hE (fun u1 o1 iC1 => lw_kI (r := (historyS S (fun j => ix (S.2.2.2.2.2 j))).2) (fun H1 locs1 A1 => ?_))
  have hL := lw_L iC
  have iR1 : InvR u1 S := iR.keep o1 (fun a ha q => by unfold hsC hcP at q; omega)
  have nR1 : NamesR u1 0 S.1 := nR.keep o1 (by unfold hsC hcP; omega)
  have nC1 : NamesC u1 L S.1 := nC.keep o1 (by unfold hsC hcP; omega)
  refine lv_aload_n hx hb d_law_336 rfl (lv_at hl 2 rfl) ?_
  refine lw_callV (idx := 34) (z := 208) (a := 203) (ci := 12) (As := []) (rest := [.int (historyS S (fun j => ix (S.2.2.2.2.2 j))).2]) F A1 rfl rfl (by decide +kernel) (List.mem_of_getElem? (i := 1763) (by decide +kernel)) (em_obj (show sh 203 12 68 from rfl) (by decide)) rfl (by decide) rfl rfl hl.1 (Nat.le_of_ble_eq_true rfl) d_law_337 ?_ hR
  refine R_history iR1 nR1 w hf hE (fun u2 o2 iR2 => lw_kI (r := (historyS S (fun j => ix (S.2.2.2.2.2 j))).2) (fun H2 locs2 A2 => ?_))
  refine lv_icmp_eq (tgt := 1226) hx hb d_law_340 rfl (fun _ => ?_) (fun q => absurd rfl q)
  have w2 := WS_history w hE
  have n1 : NamesC u2 L S.1 := nC1.keep o2 (by unfold hsR; omega)
  have n2 : NamesR u2 0 S.1 := nR1.keep o2 (by unfold hsR; omega)
  have hv := hist_v (S := S) (fun j => ix (S.2.2.2.2.2 j))
  exact k _ _ _ _ _ _ ⟨iC1.keep o2 (fun a ha q => by unfold hsR at q; omega) w2.2.2.1.1, by rw [hv]; exact n1, iR2, by rw [hv]; exact n2, w2⟩ A2
end Cases2
