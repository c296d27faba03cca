/-! THE LAW'S LOOP (by program, gende.py) -/
theorem lw_and31 (x : Int32) : ∃ k, k < 32 ∧ x &&& 31 = nI k := by
  have e : (x &&& 31).toBitVec = x.toBitVec &&& 31#32 := Int32.toBitVec_and x 31
  refine ⟨(x &&& 31).toBitVec.toNat, ?_, ?_⟩
  · rw [e, BitVec.toNat_and]
    exact Nat.lt_of_le_of_lt Nat.and_le_right (by decide)
  · apply Int32.toBitVec_inj.mp
    show _ = BitVec.ofNat 32 (x &&& 31).toBitVec.toNat
    rw [BitVec.ofNat_toNat]
    simp
section Loop
variable {p : Program} {l : Launch} {e : Env} {s : State} {mi : MethodId} {below : List Frame} {meth : Method} {c : Code} {Q : State → Prop}
variable {b sa av bs Ln : Nat} {D : va_G} {dA : Nat → ClassId} {xs : Nat → Int32}
theorem lw_loop (hlt : l.stackTraces = false) (F : lw_Fx p s mi meth c bs Ln xs) (hbb : bs < b)
    (hq : ∀ cells slots H locs u LS, cells ≤ 4000 → slots ≤ 60000 → am_At false b sa D dA (Zs b sa av) s (am_emb u) H locs → W p l e room_1 s mi #[Value.ref bs] below meth c H locs cells slots Q (F0 mi 1232 LS [])) :
    ∀ (g i cells slots : Nat) (H : Heap) (locs : List Loc) (u : am_U) (S : ST) (L L' : Nat) (LS : Array Slot), Ln < i + g → i ≤ Ln + 6 → cells ≤ 256 + i → slots ≤ 19230 + 6 * i → lw_Inv u S L L' → am_At false b sa D dA (Zs b sa av) s (am_emb u) H locs → lv_has LS 7 (lw_ls b bs i) → W p l e room_1 s mi #[Value.ref bs] below meth c H locs cells slots Q (F0 mi 23 LS []) := by
  have hx := F.1
  have hb := F.2.1
  have hX := F.2.2.2.2.2.1
  have hbl := F.2.2.2.2.2.2.1
  have hLn := F.2.2.2.2.2.2.2.2.2
  have hbA : ¬ b ≤ bs := by omega
  intro g
  induction g with
  | zero =>
    intro i cells slots H locs u S L L' LS hg hi hc hs I A hl
    refine lv_iload hx hb d_law_23 (lv_at hl 4 rfl) ?_
    refine lv_aload_n hx hb d_law_25 rfl (lv_at hl 0 rfl) ?_
    refine va_slen hx hb hX hbl hbA A.2.1 d_law_26 ?_
    refine lv_bipush (v := nI 7) hx hb d_law_27 rfl ?_
    refine lv_isub hx hb d_law_29 ?_
    have hlt2 : (Int32.ofNat Ln - nI 7) < nI i := by
      rw [Int32.lt_iff_toInt_lt, show Int32.ofNat Ln = nI Ln from rfl, pk_sub_toInt (by omega) (by decide), nI_toInt (by omega)]
      omega
    refine lv_icmp_gt (tgt := 1232) hx hb d_law_30 rfl (fun _ => ?_) (fun q => absurd hlt2 q)
    exact hq cells slots H locs u LS (by omega) (by omega) A
  | succ g ih =>
    intro i cells slots H locs u S L L' LS hg hi hc hs I A hl
    refine lv_iload hx hb d_law_23 (lv_at hl 4 rfl) ?_
    refine lv_aload_n hx hb d_law_25 rfl (lv_at hl 0 rfl) ?_
    refine va_slen hx hb hX hbl hbA A.2.1 d_law_26 ?_
    refine lv_bipush (v := nI 7) hx hb d_law_27 rfl ?_
    refine lv_isub hx hb d_law_29 ?_
    have hcmp : (Int32.ofNat Ln - nI 7) < nI i ↔ Ln < i + 7 := by
      rw [Int32.lt_iff_toInt_lt, show Int32.ofNat Ln = nI Ln from rfl, pk_sub_toInt (by omega) (by decide), nI_toInt (by omega)]
      omega
    refine lv_icmp_gt (tgt := 1232) hx hb d_law_30 rfl (fun _ => ?_) (fun q => ?_)
    · exact hq cells slots H locs u LS (by omega) (by omega) A
    · have hi7 : i + 7 ≤ Ln := by rw [hcmp] at q; omega
      have next : ∀ (cells' slots' : Nat) (LS' : Array Slot), cells' ≤ cells + 1 → slots' ≤ slots + 6 → lv_has LS' 7 (lw_ls b bs i) → ∀ u' S' L1 L1' H' locs', lw_Inv u' S' L1 L1' → am_At false b sa D dA (Zs b sa av) s (am_emb u') H' locs' → W p l e room_1 s mi #[Value.ref bs] below meth c H' locs' cells' slots' Q (F0 mi 1226 LS' []) := fun cells' slots' LS' h1 h2 hl' u' S' L1 L1' H' locs' I' A' =>
        lw_next F hl' (fun LS2 hl2 => ih (i + 7) cells' slots' H' locs' u' S' L1 L1' LS2 (by omega) (by omega) (by omega) (by omega) I' A' hl2)
      have nx := next cells slots LS (by omega) (by omega) hl
      have hR : cells ≤ 601024 ∧ slots ≤ 7293034 := ⟨by omega, by omega⟩
      refine lv_aload_n hx hb d_law_33 rfl (lv_at hl 0 rfl) ?_
      refine lv_iload hx hb d_law_34 (lv_at hl 4 rfl) ?_
      refine va_sld hx hb hX hbl hbA A.2.1 (fun q => by
        rcases q with q | q
        · exact absurd q (by rw [i_lt0 (by omega)]; exact id)
        · rw [nI_clamp (by omega)] at q; omega) d_law_36 ?_
      refine lv_bipush (v := 31) hx hb d_law_37 (by decide) ?_
      refine lv_iand hx hb d_law_39 ?_
      rw [nI_clamp (by omega)]
      obtain ⟨k, hk, e9⟩ := lw_and31 (xs i)
      rw [e9]
      by_cases h28 : 28 < k
      · refine lv_tableOut (tgt := 1226) hx hb d_law_40 (Or.inr (by rw [nI_toInt (by omega)]; omega)) rfl ?_
        exact nx u S L L' H locs I A
      · match k, h28 with
        | 0, _ =>
          refine lv_tableIn (off := 132) (tgt := 172) hx hb d_law_40 (by decide) (by decide) rfl rfl ?_
          exact lw_c0 F hbb A hl hi7 hR I nx
        | 1, _ =>
          refine lv_tableIn (off := 279) (tgt := 319) hx hb d_law_40 (by decide) (by decide) rfl rfl ?_
          exact lw_c1 F hbb A hl hi7 hR I nx
        | 2, _ =>
          refine lv_tableIn (off := 292) (tgt := 332) hx hb d_law_40 (by decide) (by decide) rfl rfl ?_
          exact lw_c2 F hbb A hl hi7 hR I nx
        | 3, _ =>
          refine lv_tableIn (off := 305) (tgt := 345) hx hb d_law_40 (by decide) (by decide) rfl rfl ?_
          exact lw_c3 F hbb A hl hi7 hR I nx
        | 4, _ =>
          refine lv_tableIn (off := 342) (tgt := 382) hx hb d_law_40 (by decide) (by decide) rfl rfl ?_
          exact lw_c4 F hbb A hl hi7 hR I nx
        | 5, _ =>
          refine lv_tableIn (off := 379) (tgt := 419) hx hb d_law_40 (by decide) (by decide) rfl rfl ?_
          exact lw_c5 hlt F hbb A hl hi7 ⟨by omega, by omega⟩ I (fun u' S' L1 L1' H' locs' LS' hl' I' A' => next (cells + 1) (slots + 6) LS' (Nat.le_refl _) (Nat.le_refl _) hl' u' S' L1 L1' H' locs' I' A')
        | 6, _ =>
          refine lv_tableIn (off := 447) (tgt := 487) hx hb d_law_40 (by decide) (by decide) rfl rfl ?_
          exact lw_c6 F hbb A hl hi7 hR I nx
        | 7, _ =>
          refine lv_tableIn (off := 484) (tgt := 524) hx hb d_law_40 (by decide) (by decide) rfl rfl ?_
          exact lw_c7 F hbb A hl hi7 hR I nx
        | 8, _ =>
          refine lv_tableIn (off := 521) (tgt := 561) hx hb d_law_40 (by decide) (by decide) rfl rfl ?_
          exact lw_c8 F hbb A hl hi7 hR I nx
        | 9, _ =>
          refine lv_tableIn (off := 570) (tgt := 610) hx hb d_law_40 (by decide) (by decide) rfl rfl ?_
          exact lw_c9 F hbb A hl hi7 hR I nx
        | 10, _ =>
          refine lv_tableIn (off := 595) (tgt := 635) hx hb d_law_40 (by decide) (by decide) rfl rfl ?_
          exact lw_c10 F hbb A hl hi7 hR I nx
        | 11, _ =>
          refine lv_tableIn (off := 620) (tgt := 660) hx hb d_law_40 (by decide) (by decide) rfl rfl ?_
          exact lw_c11 F hbb A hl hi7 hR I nx
        | 12, _ =>
          refine lv_tableIn (off := 645) (tgt := 685) hx hb d_law_40 (by decide) (by decide) rfl rfl ?_
          exact lw_c12 F hbb A hl hi7 hR I nx
        | 13, _ =>
          refine lv_tableIn (off := 658) (tgt := 698) hx hb d_law_40 (by decide) (by decide) rfl rfl ?_
          exact lw_c13 F hbb A hl hi7 hR I nx
        | 14, _ =>
          refine lv_tableIn (off := 671) (tgt := 711) hx hb d_law_40 (by decide) (by decide) rfl rfl ?_
          exact lw_c14 F hbb A hl hi7 hR I nx
        | 15, _ =>
          refine lv_tableIn (off := 696) (tgt := 736) hx hb d_law_40 (by decide) (by decide) rfl rfl ?_
          exact lw_c15 F hbb A hl hi7 hR I nx
        | 16, _ =>
          refine lv_tableIn (off := 745) (tgt := 785) hx hb d_law_40 (by decide) (by decide) rfl rfl ?_
          exact lw_c16 F hbb A hl hi7 hR I nx
        | 17, _ =>
          refine lv_tableIn (off := 770) (tgt := 810) hx hb d_law_40 (by decide) (by decide) rfl rfl ?_
          exact lw_c17 F hbb A hl hi7 hR I nx
        | 18, _ =>
          refine lv_tableIn (off := 795) (tgt := 835) hx hb d_law_40 (by decide) (by decide) rfl rfl ?_
          exact lw_c18 F hbb A hl hi7 hR I nx
        | 19, _ =>
          refine lv_tableIn (off := 808) (tgt := 848) hx hb d_law_40 (by decide) (by decide) rfl rfl ?_
          exact lw_c19 F hbb A hl hi7 hR I nx
        | 20, _ =>
          refine lv_tableIn (off := 861) (tgt := 901) hx hb d_law_40 (by decide) (by decide) rfl rfl ?_
          exact lw_c20 F hbb A hl hi7 hR I nx
        | 21, _ =>
          refine lv_tableIn (off := 898) (tgt := 938) hx hb d_law_40 (by decide) (by decide) rfl rfl ?_
          exact lw_c21 F hbb A hl hi7 hR I nx
        | 22, _ =>
          refine lv_tableIn (off := 923) (tgt := 963) hx hb d_law_40 (by decide) (by decide) rfl rfl ?_
          exact lw_c22 F hbb A hl hi7 hR I nx
        | 23, _ =>
          refine lv_tableIn (off := 948) (tgt := 988) hx hb d_law_40 (by decide) (by decide) rfl rfl ?_
          exact lw_c23 F hbb A hl hi7 hR I nx
        | 24, _ =>
          refine lv_tableIn (off := 985) (tgt := 1025) hx hb d_law_40 (by decide) (by decide) rfl rfl ?_
          exact lw_c24 F hbb A hl hi7 hR I nx
        | 25, _ =>
          refine lv_tableIn (off := 1022) (tgt := 1062) hx hb d_law_40 (by decide) (by decide) rfl rfl ?_
          exact lw_c25 F hbb A hl hi7 hR I nx
        | 26, _ =>
          refine lv_tableIn (off := 1059) (tgt := 1099) hx hb d_law_40 (by decide) (by decide) rfl rfl ?_
          exact lw_c26 F hbb A hl hi7 hR I nx
        | 27, _ =>
          refine lv_tableIn (off := 1108) (tgt := 1148) hx hb d_law_40 (by decide) (by decide) rfl rfl ?_
          exact lw_c27 F hbb A hl hi7 hR I nx
        | 28, _ =>
          refine lv_tableIn (off := 1161) (tgt := 1201) hx hb d_law_40 (by decide) (by decide) rfl rfl ?_
          exact lw_c28 F hbb A hl hi7 hR I nx
        | n + 29, h => exact absurd (by omega) h
end Loop
