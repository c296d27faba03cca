/-! A TURN OF THE LAW'S LOOP: its pieces -/
def lw_Inv (u : am_U) (S : ST) (L L' : Nat) : Prop := InvC u S L L' ∧ NamesC u L S.1 ∧ InvR u S ∧ NamesR u 0 S.1 ∧ WS S
theorem lw_L {u : am_U} {S : ST} {L L' : Nat} (h : InvC u S L L') : L = 7 ∨ L = 33 := by have := h.1.2.2.1; omega
theorem lw_Inv_of {u u1 u2 : am_U} {S S' : ST} {L L' : Nat} (I : lw_Inv u S L L') (o1 : Only inC u u1) (i1 : InvC u1 S' L L') (o2 : Only inR u1 u2) (i2 : InvR u2 S') (w : WS S') (hv : S'.1 = S.1) : lw_Inv u2 S' L L' := by
  have hL := lw_L I.1
  have n1 : NamesC u2 L S.1 := (I.2.1.keep o1 (by unfold inC; omega)).keep o2 (by unfold inR; omega)
  have n2 : NamesR u2 0 S.1 := (I.2.2.2.1.keep o1 (by unfold inC; omega)).keep o2 (by unfold inR; omega)
  exact ⟨i1.keep o2 (fun a ha q => by unfold inR at q; omega) w.2.2.1.1, by rw [hv]; exact n1, i2, by rw [hv]; exact n2, w⟩
theorem lw_R {u u1 : am_U} {S : ST} {L L' : Nat} (I : lw_Inv u S L L') (o1 : Only inC u u1) : InvR u1 S := I.2.2.1.keep o1 (fun a ha q => by unfold inC at q; omega)
def lw_ls (b bs i : Nat) : List (Nat × Value) := [(0, .ref bs), (1, .ref (b + 0)), (2, .ref (b + 203)), (3, .ref (b + 255)), (4, .int (nI i))]
section Turn
variable {p : Program} {l : Launch} {e : Env} {s : State} {mi : MethodId} {below : List Frame} {meth : Method} {c : Code} {H : Heap} {locs : List Loc} {cells slots : Nat} {Q : State → Prop}
variable {b sa av bs Ln i : Nat} {D : va_G} {dA : Nat → ClassId} {xs : Nat → Int32} {pc : Nat} {LS : Array Slot} {rest : List Value} {m : am_M} {u u' : am_U} {S : ST} {L L' : Nat} {post : Option Value → am_M → Prop}
theorem lw_el {k : Nat} {n : Int} (F : lw_Fx p s mi meth c bs Ln xs) (A : am_At false b sa D dA (Zs b sa av) s m H locs) (hbb : bs < b) (hl : lv_has LS 7 (lw_ls b bs i)) (hk : i + k < Ln) (hn : Int32.ofInt n = nI k) (d0 : decode code pc = .ok (.aload_n 0, 1)) (d1 : decode code (pc + 1) = .ok (.iload 4, 2)) (d2 : decode code (pc + 3) = .ok (.iconst n, 1)) (d3 : decode code (pc + 4) = .ok (.iadd, 1)) (d4 : decode code (pc + 5) = .ok (.iaload, 1))
    (kk : W p l e room_1 s mi #[Value.ref bs] below meth c H locs cells slots Q (F0 mi (pc + 6) LS (.int (xs (i + k)) :: rest))) : W p l e room_1 s mi #[Value.ref bs] below meth c H locs cells slots Q (F0 mi pc LS rest) := by
  obtain ⟨hx, hb, -, hown, hts, hX, hbl, -, -, hLn⟩ := F
  have hbA : ¬ b ≤ bs := by omega
  refine lv_aload_n hx hb d0 rfl (lv_at hl 0 rfl) ?_
  refine lv_iload hx hb d1 (lv_at hl 4 rfl) ?_
  refine lv_iconst (v := nI k) hx hb d2 hn ?_
  refine lv_iadd hx hb d3 ?_
  rw [nI_add]
  refine va_sld hx hb hX hbl hbA A.2.1 (fun q => by
    rcases q with q | q
    · exact absurd q (by rw [i_lt0 (by omega)]; exact id)
    · rw [nI_clamp (by omega)] at q; omega) d4 ?_
  rw [nI_clamp (by omega)]
  exact kk
theorem lw_el6 (F : lw_Fx p s mi meth c bs Ln xs) (A : am_At false b sa D dA (Zs b sa av) s m H locs) (hbb : bs < b) (hl : lv_has LS 7 (lw_ls b bs i)) (hk : i + 6 < Ln) (d0 : decode code pc = .ok (.aload_n 0, 1)) (d1 : decode code (pc + 1) = .ok (.iload 4, 2)) (d2 : decode code (pc + 3) = .ok (.bipush 6, 2)) (d3 : decode code (pc + 5) = .ok (.iadd, 1)) (d4 : decode code (pc + 6) = .ok (.iaload, 1))
    (kk : W p l e room_1 s mi #[Value.ref bs] below meth c H locs cells slots Q (F0 mi (pc + 7) LS (.int (xs (i + 6)) :: rest))) : W p l e room_1 s mi #[Value.ref bs] below meth c H locs cells slots Q (F0 mi pc LS rest) := by
  obtain ⟨hx, hb, -, hown, hts, hX, hbl, -, -, hLn⟩ := F
  have hbA : ¬ b ≤ bs := by omega
  refine lv_aload_n hx hb d0 rfl (lv_at hl 0 rfl) ?_
  refine lv_iload hx hb d1 (lv_at hl 4 rfl) ?_
  refine lv_bipush (v := nI 6) hx hb d2 rfl ?_
  refine lv_iadd hx hb d3 ?_
  rw [nI_add]
  refine va_sld hx hb hX hbl hbA A.2.1 (fun q => by
    rcases q with q | q
    · exact absurd q (by rw [i_lt0 (by omega)]; exact id)
    · rw [nI_clamp (by omega)] at q; omega) d4 ?_
  rw [nI_clamp (by omega)]
  exact kk
/-- two script ints as a long -/
def lw_jn (x y : Int32) : Int64 := (x.toInt64 <<< ((32 : Int32).toInt64 &&& 63)) ||| (y.toInt64 &&& 4294967295)
theorem lw_long {x y : Int32} {pc2 : Nat} (F : lw_Fx p s mi meth c bs Ln xs) (d0 : decode code pc = .ok (.i2l, 1)) (d1 : decode code (pc + 1) = .ok (.bipush 32, 2)) (d2 : decode code (pc + 3) = .ok (.lshl, 1)) (d3 : decode code pc2 = .ok (.i2l, 1)) (d4 : decode code (pc2 + 1) = .ok (.ldc2_w 19, 3)) (d5 : decode code (pc2 + 4) = .ok (.land, 1)) (d6 : decode code (pc2 + 5) = .ok (.lor, 1))
    (el : (W p l e room_1 s mi #[Value.ref bs] below meth c H locs cells slots Q (F0 mi pc2 LS (.int y :: .long (x.toInt64 <<< ((32 : Int32).toInt64 &&& 63)) :: rest))) → W p l e room_1 s mi #[Value.ref bs] below meth c H locs cells slots Q (F0 mi (pc + 4) LS (.long (x.toInt64 <<< ((32 : Int32).toInt64 &&& 63)) :: rest)))
    (kk : W p l e room_1 s mi #[Value.ref bs] below meth c H locs cells slots Q (F0 mi (pc2 + 6) LS (.long (lw_jn x y) :: rest))) : W p l e room_1 s mi #[Value.ref bs] below meth c H locs cells slots Q (F0 mi pc LS (.int x :: rest)) := by
  obtain ⟨hx, hb, -, hown, hts, hX, hbl, -, -, hLn⟩ := F
  refine lv_i2l hx hb d0 rfl ?_
  refine lv_bipush (v := 32) hx hb d1 (by decide) ?_
  refine lv_lshl hx hb d2 rfl ?_
  refine el ?_
  refine lv_i2l hx hb d3 rfl ?_
  refine lv_ldc2 (v := 4294967295) hx hb hown (hts _ (List.mem_of_getElem? (i := 2074) (by decide +kernel))) d4 ?_
  refine lv_land hx hb d5 ?_
  refine lv_lor hx hb d6 ?_
  exact kk
theorem lw_kI {r : Int32} (h : ∀ H' locs', am_At false b sa D dA (Zs b sa av) s (am_emb u') H' locs' → W p l e room_1 s mi #[Value.ref bs] below meth c H' locs' cells slots Q (F0 mi pc LS (.int r :: rest))) : lw_K p l e s mi below meth c cells slots Q b sa av bs D dA pc LS rest (some (.int r)) (am_emb u') := ⟨⟨rfl, rfl⟩, h⟩
theorem lw_next (F : lw_Fx p s mi meth c bs Ln xs) (hl : lv_has LS 7 (lw_ls b bs i)) (k : ∀ LS', lv_has LS' 7 (lw_ls b bs (i + 7)) → W p l e room_1 s mi #[Value.ref bs] below meth c H locs cells slots Q (F0 mi 23 LS' [])) : W p l e room_1 s mi #[Value.ref bs] below meth c H locs cells slots Q (F0 mi 1226 LS []) := by
  have hx := F.1
  have hb := F.2.1
  have e7 : nI i + Int32.ofInt 7 = nI (i + 7) := by rw [show Int32.ofInt 7 = nI 7 from rfl, nI_add]
  refine lv_iinc (lv' := [(4, .int (nI (i + 7))), (0, .ref bs), (1, .ref (b + 0)), (2, .ref (b + 203)), (3, .ref (b + 255))]) hx hb d_law_1226 hl (show (lw_ls b bs i)[4]? = some (4, .int (nI i)) from rfl) e7 (by decide) rfl (fun LS' h' => ?_)
  refine lv_goto (tgt := 23) hx hb d_law_1229 rfl ?_
  exact k LS' (lv_sub h' [1, 2, 3, 4, 0] rfl)
/-! the askers, in the form of the others -/
theorem lw_th {u : am_U} {S : ST} (h : InvR u S) : Only inR u (th u 0) ∧ InvR (th u 0) S := ⟨Only.sFI (by unfold inR; omega), th_inv h⟩
theorem lw_lib {u : am_U} {S : ST} {L L' : Nat} (h : InvC u S L L') : sh L 3 19 := by
  rcases lw_L h with q | q
  · rw [q]; exact shl_7
  · rw [q]; exact shl_33
theorem wC_fact {x y : Int32} (I : InvC u S L L') (w : WS S) (h : ∀ u', Only inC u u' → InvC u' S L L' → post (some (.int (factV S.1 x y))) (am_emb u')) : Cl 1000 119 [.ref 0, .int x, .int y] (am_emb u) post := (C_fact I.1.1 (lw_lib I) I.2.1.1 w.1).mpr (h u (Only.rf _ _) I)
theorem wC_page {x y : Int32} (I : InvC u S L L') (w : WS S) (h : ∀ u', Only inC u u' → InvC u' S L L' → post (some (.int (pageV S.1 S.2.1.1 x y))) (am_emb u')) : Cl 1000 120 [.ref 0, .int x, .int y] (am_emb u) post := (C_page I.1.1 (lw_lib I) I.2.1.1 w.1 I.2.2.1.1).mpr (h u (Only.rf _ _) I)
theorem wC_task {x y : Int32} (I : InvC u S L L') (w : WS S) (h : ∀ u', Only inC u u' → InvC u' S L L' → post (some (.int (taskV S.1 S.2.1.1 x y))) (am_emb u')) : Cl 1000 122 [.ref 0, .int x, .int y] (am_emb u) post := (C_task I.1.1 (lw_lib I) I.2.1.1 w.1 I.2.2.1.1).mpr (h u (Only.rf _ _) I)
theorem wC_lost (I : InvC u S L L') (w : WS S) (h : ∀ u', Only inC u u' → InvC u' S L L' → post (some (.int (goneV S.1 S.2.1.1))) (am_emb u')) : Cl 1000 129 [.ref 0] (am_emb u) post := (C_lost I.1.1 (lw_lib I) I.2.1.1 w.1 I.2.2.1.1).mpr (h u (Only.rf _ _) I)
theorem wC_safe {x : Int32} (I : InvC u S L L') (w : WS S) (h : ∀ u', Only inC u u' → InvC u' S L L' → post (some (.int (safeS S x))) (am_emb u')) : Cl 1000 132 [.ref 0, .int x] (am_emb u) post := (C_safe I w).mpr (h u (Only.rf _ _) I)
theorem wC_meal {x y z : Int32} (I : InvC u S L L') (w : WS S) (h : ∀ u', Only inC u u' → InvC u' S L L' → post (some (.int (mealS S x y z))) (am_emb u')) : Cl 1000 131 [.ref 0, .int x, .int y, .int z] (am_emb u) post := (C_meal I w).mpr (h u (Only.rf _ _) I)
theorem wC_unlearn {x : Int32} (I : InvC u S L L') (w : WS S) (h : ∀ u', Only inC u u' → InvC u' S L L' → post (some (.int (unlearnS S x))) (am_emb u')) : Cl 1000 137 [.ref 0, .int x] (am_emb u) post := (C_unlearn I w).mpr (h u (Only.rf _ _) I)
theorem wC_lies {x : Int32} (I : InvC u S L L') (w : WS S) (h : ∀ u', Only inC u u' → InvC u' S L L' → post (some (.int (liesS S.1 x))) (am_emb u')) : Cl 1000 138 [.ref 0, .int x] (am_emb u) post := (C_lies I w).mpr (h u (Only.rf _ _) I)
theorem wC_price {x y : Int32} (I : InvC u S L L') (w : WS S) (h : ∀ u', Only inC u u' → InvC u' S L L' → post (some (.int (priceS S x y))) (am_emb u')) : Cl 1000 141 [.ref 0, .int x, .int y] (am_emb u) post := (C_price I w).mpr (h u (Only.rf _ _) I)
theorem wC_count {x : Int32} (I : InvC u S L L') (w : WS S) (h : ∀ u', Only inC u u' → InvC u' S L L' → post (some (.int (countS S x))) (am_emb u')) : Cl 1000 144 [.ref 0, .int x] (am_emb u) post := (C_count I w).mpr (h u (Only.rf _ _) I)
theorem wR_fact {x y : Int32} (I : InvR u S) (w : WS S) (h : ∀ u', Only inR u u' → InvR u' S → post (some (.int (factV S.1 x y))) (am_emb u')) : Cl 1000 214 [.ref 203, .int x, .int y] (am_emb u) post := (R_fact I.1 w.1).mpr (h _ (lw_th I).1 (lw_th I).2)
theorem wR_page {x y : Int32} (I : InvR u S) (w : WS S) (h : ∀ u', Only inR u u' → InvR u' S → post (some (.int (pageV S.1 S.2.1.1 x y))) (am_emb u')) : Cl 1000 215 [.ref 203, .int x, .int y] (am_emb u) post := (R_page I.1 I.2.2.1.1 w.1 w.2.1.1).mpr (h _ (lw_th I).1 (lw_th I).2)
theorem wR_task {x y : Int32} (I : InvR u S) (w : WS S) (h : ∀ u', Only inR u u' → InvR u' S → post (some (.int (taskV S.1 S.2.1.1 x y))) (am_emb u')) : Cl 1000 223 [.ref 203, .int x, .int y] (am_emb u) post := (R_task I.1 I.2.2.1.1 w.1 w.2.1.1).mpr (h _ (lw_th I).1 (lw_th I).2)
theorem wR_lost (I : InvR u S) (w : WS S) (h : ∀ u', Only inR u u' → InvR u' S → post (some (.int (goneV S.1 S.2.1.1))) (am_emb u')) : Cl 1000 244 [.ref 203] (am_emb u) post := (R_lost I.1 I.2.2.1.1 w.1 w.2.1.1).mpr (h _ (lw_th I).1 (lw_th I).2)
theorem wR_safe {x : Int32} (I : InvR u S) (w : WS S) (h : ∀ u', Only inR u u' → InvR u' S → post (some (.int (safeS S x))) (am_emb u')) : Cl 1000 249 [.ref 203, .int x] (am_emb u) post := (R_safe I w).mpr (h _ (lw_th I).1 (lw_th I).2)
theorem wR_meal {x y z : Int32} (I : InvR u S) (w : WS S) (h : ∀ u', Only inR u u' → InvR u' S → post (some (.int (mealS S x y z))) (am_emb u')) : Cl 1000 248 [.ref 203, .int x, .int y, .int z] (am_emb u) post := (R_meal I w).mpr (h _ (lw_th I).1 (lw_th I).2)
theorem wR_unlearn {x : Int32} (I : InvR u S) (w : WS S) (h : ∀ u', Only inR u u' → InvR u' S → post (some (.int (unlearnS S x))) (am_emb u')) : Cl 1000 259 [.ref 203, .int x] (am_emb u) post := (R_unlearn I w).mpr (h _ (lw_th I).1 (lw_th I).2)
theorem wR_lies {x : Int32} (I : InvR u S) (w : WS S) (h : ∀ u', Only inR u u' → InvR u' S → post (some (.int (liesS S.1 x))) (am_emb u')) : Cl 1000 260 [.ref 203, .int x] (am_emb u) post := (R_lies I w).mpr (h _ (lw_th I).1 (lw_th I).2)
theorem wR_price {x y : Int32} (I : InvR u S) (w : WS S) (h : ∀ u', Only inR u u' → InvR u' S → post (some (.int (priceS S x y))) (am_emb u')) : Cl 1000 267 [.ref 203, .int x, .int y] (am_emb u) post := (R_price I w).mpr (h _ (lw_th I).1 (lw_th I).2)
theorem wR_count {x : Int32} (I : InvR u S) (w : WS S) (h : ∀ u', Only inR u u' → InvR u' S → post (some (.int (countS S x))) (am_emb u')) : Cl 1000 271 [.ref 203, .int x] (am_emb u) post := (R_count I w).mpr (h _ (lw_th I).1 (lw_th I).2)
theorem wR_sit {x : Int32} (I : InvR u S) (w : WS S) (h : ∀ u', Only inR u u' → InvR u' S → post (some (.int (sitS S x))) (am_emb u')) : Cl 1000 251 [.ref 203, .int x] (am_emb u) post := (R_sit I w).mpr (h _ (lw_th I).1 (lw_th I).2)
end Turn
