/-! THE ONE STRING CONSTANT: String.length and String.charAt, as the JDK has them -/
/-- words of the throw that are not among the good ones -/
def px_X : String := "java/util/NoSuchElementException"
def px_names : List String := ["java/lang/RuntimeException", "java/lang/Exception"]
def px_B : List Cond := [.castable px_X px_X, .declares ⟨"java/lang/RuntimeException", "<init>", "()V"⟩, .declares ⟨"java/lang/Exception", "<init>", "()V"⟩, .declares ⟨"java/lang/Throwable", "<init>", "()V"⟩]
theorem px_warm {u U : State} (hW : u.WarmedH U.vm) (h : ∀ w ∈ px_B, va_Nw w u) : ∀ w ∈ px_B, va_Nw w U := by
  intro w hw
  have h0 := h w hw
  simp only [px_B, List.mem_cons, List.not_mem_nil, or_false] at hw
  rcases hw with rfl | rfl | rfl | rfl
  · exact h0.warmC hW
  · exact h0.warmD hW
  · exact h0.warmD hW
  · exact h0.warmD hW
/-- what is given of the constant and of the JDK's statics, at every state from the law's entry on -/
def Zs (b sa av : Nat) (U : State) : Prop := sa < b ∧ vk_R "EatKnown$Tape" 72 am_text sa U ∧ va_Z RJ0 "COMPACT_STRINGS" "Z" (.int 1) (fun q => b ≤ q) U U.heap ∧ va_Zq RJ3 "SIOOBE_FORMATTER" "Ljava/util/function/BiFunction;" (fun q => b ≤ q) U U.heap ∧ vk_S 1 [151] [am_chars] (fun _ => sa) (fun _ => av) (fun q => b ≤ q) U U.heap ∧
  vx_Zq Bundle.tN "UNASSIGNED_STACK" Bundle.steD (fun q => b ≤ q) U U.heap ∧ vx_Zq Bundle.tN "SUPPRESSED_SENTINEL" Bundle.listD (fun q => b ≤ q) U U.heap ∧ (∀ w ∈ px_B, va_Nw w U)
theorem Zs_ok (b sa av : Nat) : am_Zok b (Zs b sa av) := by
  intro u U hW hb hq ⟨h0, h1, h2, h3, h4, h5, h6, h7⟩
  have k : ∀ a : Nat, a < u.heap.size → ¬ b ≤ a → U.heap[a]? = u.heap[a]? := fun a _ h => hq a (by omega)
  exact ⟨h0, vk_R.warm hW h1, (va_Z.moved hW.alike h2).kept k, (va_Zq.moved hW.alike h3).kept k, (vk_S.moved hW.alike h4).kept k, (vx_Zq.moved hW.alike h5).kept k, (vx_Zq.moved hW.alike h6).kept k, px_warm hW h7⟩
theorem Zs_R (b sa av : Nat) : ∀ U, Zs b sa av U → vk_R "EatKnown$Tape" 72 am_text sa U := fun _ h => h.2.1
theorem Zs_str (b sa av : Nat) : ∀ U, Zs b sa av U → sa < b ∧ ∃ cell : Cell, U.heap[sa]? = some cell ∧ cell.vm.isStatics = false ∧ U.vm.findClass "java/lang/String" = some cell.cls := fun U h => ⟨h.1, vk_recv (i := 0) h.2.2.2.2.1 (by decide) va_S.rf⟩
/-- a small method of the text's: name, bytes, locals, what it answers -/
abbrev sx_Rec : Type := MethodName × ByteArray × Nat × Option FieldType
def sx_ws (r : sx_Rec) : List Cond := .code r.1 r.2.1 r.2.2.1 r.2.2.2 :: am_WS
def sx_Pc (b sa av : Nat) (as : List Value) : Array Value → State → Prop := va_Pc as (fun U => b ≤ U.heap.size ∧ Zs b sa av U)
def sx_Qc (v : Option Value) : Array Value → State → Outcome → State → Prop := fun _ st o t => o = .returned v ∧ t.heap = st.heap
def sx_Met (l : Launch) (b sa av d : Nat) (r : sx_Rec) (as : List Value) (v : Option Value) : Prop := Met l r.1 (sx_ws r) (am_rm d 0 0) (sx_Pc b sa av as) (sx_Qc v) 0 0 (fun q => b ≤ q)
theorem sx_blind {b sa av : Nat} {as : List Value} : FrameBlind (sx_Pc b sa av as) := by
  intro a U g mk ⟨h1, h2, h3⟩
  exact ⟨h1, h2, Zs_ok b sa av U (U.calling g mk a) (State.WarmedH.refl U) h2 (fun q _ => rfl) h3⟩
def sx_coder : sx_Rec := (yJ0_coder_7d493, cJ0_coder_7d493, 1, some .byte)
def sx_isLatin1 : sx_Rec := (yJ0_isLatin1_aae02, cJ0_isLatin1_aae02, 1, some .boolean)
def sx_lcharAt : sx_Rec := (yJ1_charAt_3b067, cJ1_charAt_3b067, 2, some .char)
def sx_check : sx_Rec := (yJ0_checkIndex_df160, cJ0_checkIndex_df160, 2, none)
def sx_pcheck : sx_Rec := (yJ3_checkIndex_8e157, cJ3_checkIndex_8e157, 3, some .int)
/-- what a frame of theirs has -/
def sx_Fx (p : Program) (s : State) (mi : MethodId) (args : Array Value) (meth : Method) (c : Code) (R : Room) (d : Nat) (r : sx_Rec) (b sa av : Nat) : Prop :=
  p.tables.exec = Jvm.exec ∧ c.code = r.2.1 ∧ meth.sig.returnType = r.2.2.2 ∧ c.maxLocals = r.2.2.1 ∧ s.vm.findClass r.1.cls = some mi.cls ∧ (∀ w ∈ am_WS, w.before args s = true) ∧ meth.locks = false ∧ R.frames = d ∧ R.locals = 64 * d ∧ b ≤ s.heap.size ∧ Zs b sa av s
theorem sx_of {l : Launch} {b sa av d : Nat} {r : sx_Rec} {as : List Value} {v : Option Value} (hy : plainFor r.1 = true) (ha : (lg_sl as).length ≤ r.2.2.1)
    (body : ∀ {p : Program} {e : Env} {R : Room} {s : State} {mi : MethodId} {args : Array Value} {below : List Frame} {meth : Method} {c : Code} {LS : Array Slot}, sx_Fx p s mi args meth c R d r b sa av → lv_has LS r.2.2.1 (lv_args 0 as) → W p l e R s mi args below meth c s.heap [] 0 0 (MQ below (sx_Qc v) args s 0 0 (fun q => b ≤ q)) (F0 mi 0 LS [])) : sx_Met l b sa av d r as v := by
  refine am_ofW (cc := r.2.1) (maxL := r.2.2.1) (ret := r.2.2.2) hy rfl ?_
  intro p e s mi args below meth c s₁ B hml hv
  obtain ⟨rfl, hs, hZ⟩ := hv
  have hts := atoms_spec (ws := sx_ws r) B.pre
  rw [lg_entry_eq]
  have hl := lv_entry as (n := r.2.2.1) ha
  exact body ⟨B.exec, B.bytes, B.returns, hml, findClass_of_methodNamed B.named, fun w hw => hts w (List.mem_cons_of_mem _ hw), B.notSynchronized, rfl, rfl, hs, hZ⟩ hl

/-- behind such a call the heap is as it was -/
theorem sx_backW {p : Program} {l : Launch} {e : Env} {R : Room} {s : State} {mi : MethodId} {args : Array Value} {below : List Frame} {meth : Method} {c : Code} {locs : List Loc} {Q : State → Prop} {b pc : Nat} {LS : Array Slot} {st0 rest : List Value} {v : Option Value} {A9 : Array Value} {H : Heap} {cells slots : Nat}
    (hrun : va_Run p l e R s mi args below meth c H locs cells slots 0 0 (F0 mi pc LS st0) rest (sx_Qc v A9) (fun q => b ≤ q)) (hlo : ∀ q ∈ locs, b ≤ q.base)
    (k : ∀ L : List Loc, (∀ q ∈ L, b ≤ q.base) → W p l e R s mi args below meth c H L cells slots Q (F0 mi (pc + 3) LS (v.toList ++ rest))) : W p l e R s mi args below meth c H locs cells slots Q (F0 mi pc LS st0) :=
  am_runW hrun (fun v1 st₀ t T' L h0 e1 hW hL hq => by
    obtain ⟨h1, h2⟩ := hq
    have hv : v1 = v := Outcome.returned.inj h1
    subst hv
    rw [e1, h2, h0]
    exact k (locs ++ L) (fun q hq => by
      rcases List.mem_append.mp hq with h | h
      · exact hlo q h
      · exact hL q h))
theorem sx_wsG {s : State} {args : Array Value} {r : sx_Rec} (hts : ∀ w ∈ am_WS, w.before args s = true) (hc : Cond.code r.1 r.2.1 r.2.2.1 r.2.2.2 ∈ am_WS) : ∀ w ∈ sx_ws r, ∀ (a' : Array Value) (U : State), s.WarmedH U.vm → w.before a' U = true := by
  intro w hw a' U hW
  have h1 : w ∈ am_WS := by
    rcases List.mem_cons.mp hw with h | h
    · rw [h]; exact hc
    · exact h
  exact word_at hW (good_of_word (List.mem_filter.mp h1).2) (hts w h1)
theorem sx_callB {R : Room} {s : State} {args : Array Value} {r : sx_Rec} {own : String} {idx d n : Nat} (hts : ∀ w ∈ am_WS, w.before args s = true) (hf : d + 1 ≤ R.frames) (hlo : 64 * (d + 1) ≤ R.locals) (h45 : r.2.2.1 ≤ 45) (hc : Cond.code r.1 r.2.1 r.2.2.1 r.2.2.2 ∈ am_WS) (hi : Cond.initialized r.1.cls ∈ am_WS) (hw : Cond.methodLink own idx r.1 ∈ am_WS)
    (hn : r.1.cls ≠ "java/lang/invoke/MethodHandle" ∧ r.1.cls ≠ "java/lang/invoke/VarHandle") (hd : (parseMethodDescriptor r.1.desc).map (fun d => d.parameters.length) = some n) : CallB R s args own idx r.1 r.2.1 r.2.2.1 r.2.2.2 (sx_ws r) (am_rm d 0 0) 0 0 n := by
  refine ⟨rfl, rfl, hf, by show 8 + (r.2.2.1 + 11) + 64 * d ≤ R.locals; omega, sx_wsG hts hc, List.mem_cons_self, hts _ hc, hts _ hi, hn, fun sig hs => ?_, hts _ hw⟩
  rw [hs] at hd
  exact (Option.some.inj hd).symm
theorem sx_c_coder : Cond.code sx_coder.1 sx_coder.2.1 sx_coder.2.2.1 sx_coder.2.2.2 ∈ am_WS := am_W_in (j := 680) (by decide +kernel)
theorem sx_c_isLatin1 : Cond.code sx_isLatin1.1 sx_isLatin1.2.1 sx_isLatin1.2.2.1 sx_isLatin1.2.2.2 ∈ am_WS := am_W_in (j := 690) (by decide +kernel)
theorem sx_c_lcharAt : Cond.code sx_lcharAt.1 sx_lcharAt.2.1 sx_lcharAt.2.2.1 sx_lcharAt.2.2.2 ∈ am_WS := am_W_in (j := 693) (by decide +kernel)
theorem sx_c_check : Cond.code sx_check.1 sx_check.2.1 sx_check.2.2.1 sx_check.2.2.2 ∈ am_WS := am_W_in (j := 696) (by decide +kernel)
theorem sx_c_pcheck : Cond.code sx_pcheck.1 sx_pcheck.2.1 sx_pcheck.2.2.1 sx_pcheck.2.2.2 ∈ am_WS := am_W_in (j := 701) (by decide +kernel)
theorem sx_i0 : Cond.initialized RJ0 ∈ am_WS := am_W_in (j := 146) (by decide +kernel)
theorem sx_i1 : Cond.initialized RJ1 ∈ am_WS := am_W_in (j := 147) (by decide +kernel)
theorem sx_i3 : Cond.initialized RJ3 ∈ am_WS := am_W_in (j := 148) (by decide +kernel)
section Sx
variable {l : Launch} {b sa av d : Nat}
theorem sx_coder_ok : sx_Met l b sa av d sx_coder [.ref sa] (some (.int 0)) := by
  refine sx_of (by decide +kernel) (Nat.le_of_ble_eq_true rfl) (fun {p e R s mi args below meth c LS} F hl => ?_)
  obtain ⟨hx, hb, hr, hml, hown, hts, hlk, hfr, hlo, hbz, hZ⟩ := F
  have hl : lv_has LS 1 [(0, .ref sa)] := hl
  have hb : c.code = cJ0_coder_7d493 := hb
  refine va_gets (v := .int 1) hx hb hZ.2.2.1 va_S.rf hown (hts (.fieldLink RJ0 38 RJ0 "COMPACT_STRINGS" "Z") (am_W_in (j := 681) (by decide +kernel))) (fun _ h => h) dJ0_coder_7d493_0 ?_
  refine lv_if_eq (tgt := 13) hx hb dJ0_coder_7d493_3 rfl (fun q => absurd q (by decide)) (fun _ => ?_)
  refine lv_aload_n hx hb dJ0_coder_7d493_6 rfl (lv_at hl 0 rfl) ?_
  refine vk_getf (v := .int 0) hx hb (hZ.2.2.2.2.1.1 0 (by decide)).2.1 va_S.rf hown (hts (.fieldLink RJ0 15 RJ0 "coder" "B") (am_W_in (j := 2093) (by decide +kernel))) (fun _ h => h) dJ0_coder_7d493_7 ?_
  refine lv_goto (tgt := 14) hx hb dJ0_coder_7d493_10 rfl ?_
  exact W.zret hx hb hr rfl (fun t ht _ => ⟨rfl, ht⟩) (fun q hq => nomatch hq) dJ0_coder_7d493_14 hlk
theorem sx_isLatin1_ok : sx_Met l b sa av d sx_isLatin1 [.ref sa] (some (.int 1)) := by
  refine sx_of (by decide +kernel) (Nat.le_of_ble_eq_true rfl) (fun {p e R s mi args below meth c LS} F hl => ?_)
  obtain ⟨hx, hb, hr, hml, hown, hts, hlk, hfr, hlo, hbz, hZ⟩ := F
  have hl : lv_has LS 1 [(0, .ref sa)] := hl
  have hb : c.code = cJ0_isLatin1_aae02 := hb
  refine va_gets (v := .int 1) hx hb hZ.2.2.1 va_S.rf hown (hts (.fieldLink RJ0 38 RJ0 "COMPACT_STRINGS" "Z") (am_W_in (j := 681) (by decide +kernel))) (fun _ h => h) dJ0_isLatin1_aae02_0 ?_
  refine lv_if_eq (tgt := 17) hx hb dJ0_isLatin1_aae02_3 rfl (fun q => absurd q (by decide)) (fun _ => ?_)
  refine lv_aload_n hx hb dJ0_isLatin1_aae02_6 rfl (lv_at hl 0 rfl) ?_
  refine vk_getf (v := .int 0) hx hb (hZ.2.2.2.2.1.1 0 (by decide)).2.1 va_S.rf hown (hts (.fieldLink RJ0 15 RJ0 "coder" "B") (am_W_in (j := 2093) (by decide +kernel))) (fun _ h => h) dJ0_isLatin1_aae02_7 ?_
  refine lv_if_ne (tgt := 17) hx hb dJ0_isLatin1_aae02_10 rfl (fun q => absurd rfl q) (fun _ => ?_)
  refine lv_iconst (v := 1) hx hb dJ0_isLatin1_aae02_13 (by decide) ?_
  refine lv_goto (tgt := 18) hx hb dJ0_isLatin1_aae02_14 rfl ?_
  exact W.zret hx hb hr rfl (fun t ht _ => ⟨rfl, ht⟩) (fun q hq => nomatch hq) dJ0_isLatin1_aae02_18 hlk
theorem sx_pcheck_ok {k n : Nat} {q : Value} (hq : q = .null ∨ ∃ t, q = .ref t) (hk : k < n) (hn : n ≤ 1000) : sx_Met l b sa av d sx_pcheck [.int (nI k), .int (nI n), q] (some (.int (nI k))) := by
  have n0 : ¬ nI k < 0 := by rw [i_lt0 (by omega)]; exact id
  have n1 : nI k < nI n := by rw [nI_ltI (by omega) (by omega)]; exact hk
  refine sx_of (by decide +kernel) (by rcases hq with h | ⟨t, h⟩ <;> (rw [h]; exact Nat.le_refl 3)) (fun {p e R s mi args below meth c LS} F hl => ?_)
  obtain ⟨hx, hb, hr, hml, hown, hts, hlk, hfr, hlo, hbz, hZ⟩ := F
  have hl : lv_has LS 3 [(0, .int (nI k)), (1, .int (nI n)), (2, q)] := by rcases hq with h | ⟨t, h⟩ <;> (rw [h] at hl ⊢; exact hl)
  have hb : c.code = cJ3_checkIndex_8e157 := hb
  refine lv_iload_n hx hb dJ3_checkIndex_8e157_0 rfl (lv_at hl 0 rfl) ?_
  refine lv_if_lt (tgt := 9) hx hb dJ3_checkIndex_8e157_1 rfl (fun q => absurd q n0) (fun _ => ?_)
  refine lv_iload_n hx hb dJ3_checkIndex_8e157_4 rfl (lv_at hl 0 rfl) ?_
  refine lv_iload_n hx hb dJ3_checkIndex_8e157_5 rfl (lv_at hl 1 rfl) ?_
  refine lv_icmp_lt (tgt := 16) hx hb dJ3_checkIndex_8e157_6 rfl (fun _ => ?_) (fun q => absurd n1 q)
  refine lv_iload_n hx hb dJ3_checkIndex_8e157_16 rfl (lv_at hl 0 rfl) ?_
  exact W.iret hx hb hr (fun t ht _ => ⟨rfl, ht⟩) (fun q hq => nomatch hq) dJ3_checkIndex_8e157_17 hlk
theorem sx_check_ok {k n : Nat} (hk : k < n) (hn : n ≤ 1000) : sx_Met l b sa av (d + 1) sx_check [.int (nI k), .int (nI n)] none := by
  refine sx_of (by decide +kernel) (Nat.le_of_ble_eq_true rfl) (fun {p e R s mi args below meth c LS} F hl => ?_)
  obtain ⟨hx, hb, hr, hml, hown, hts, hlk, hfr, hlo, hbz, hZ⟩ := F
  have hl : lv_has LS 2 [(0, .int (nI k)), (1, .int (nI n))] := hl
  have hb : c.code = cJ0_checkIndex_df160 := hb
  have hml : c.maxLocals = 2 := hml
  refine lv_iload_n hx hb dJ0_checkIndex_df160_0 rfl (lv_at hl 0 rfl) ?_
  refine lv_iload_n hx hb dJ0_checkIndex_df160_1 rfl (lv_at hl 1 rfl) ?_
  have hfin : ∀ q : Value, q = .null ∨ (∃ t, q = .ref t) → W p l e R s mi args below meth c s.heap [] 0 0 (MQ below (sx_Qc none) args s 0 0 (fun q => b ≤ q)) (F0 mi 5 LS [q, .int (nI n), .int (nI k)]) := fun q hq => by
    refine sx_backW (v := some (.int (nI k))) (rest := []) (va_runS (As := [.int (nI k), .int (nI n), q]) (rest := []) (g := F0 mi 5 LS [q, .int (nI n), .int (nI k)]) ⟨hx, hb, hml, hown, hts⟩ (sx_pcheck_ok (d := d) hq hk hn) ⟨sx_callB (n := 3) hts (by rw [hfr]; exact Nat.le_refl _) (by rw [hlo]; exact Nat.le_refl _) (by decide) sx_c_pcheck sx_i3 (am_W_in (j := 699) (by decide +kernel)) (by decide +kernel) (by decide +kernel), hts _ (am_W_in (j := 700) (by decide +kernel))⟩ ⟨sx_blind, fun U hU hW => ⟨rfl, by rw [hU]; exact hbz, Zs_ok b sa av s U hW hbz (fun q _ => by rw [hU]) hZ⟩⟩ rfl rfl hl.1 rfl (lv_room (Nat.le_of_ble_eq_true rfl)) dJ0_checkIndex_df160_5 ⟨Nat.zero_le _, Nat.zero_le _⟩) (fun q hq => nomatch hq) (fun L hL => ?_)
    refine lv_pop hx hb dJ0_checkIndex_df160_8 rfl ?_
    exact W.vret hx hb hr (fun t ht _ => ⟨rfl, ht⟩) hL dJ0_checkIndex_df160_9 hlk
  rcases hZ.2.2.2.1 with hn0 | ⟨t, ht⟩
  · exact va_gets (v := .null) hx hb hn0 va_S.rf hown (hts (.fieldLink RJ0 1053 RJ3 "SIOOBE_FORMATTER" "Ljava/util/function/BiFunction;") (am_W_in (j := 697) (by decide +kernel))) (fun _ h => h) dJ0_checkIndex_df160_2 (hfin .null (Or.inl rfl))
  · exact va_gets (v := .ref t) hx hb ht va_S.rf hown (hts (.fieldLink RJ0 1053 RJ3 "SIOOBE_FORMATTER" "Ljava/util/function/BiFunction;") (am_W_in (j := 697) (by decide +kernel))) (fun _ h => h) dJ0_checkIndex_df160_2 (hfin (.ref t) (Or.inr ⟨t, rfl⟩))
theorem sx_ch : ∀ k, k < 151 → (((am_chars.getD k 0) &&& 255).toUInt32 % 65536).toInt32 = am_chars.getD k 0 ∧ ((am_chars.getD k 0).toUInt32 % 65536).toInt32 = am_chars.getD k 0 := by decide +kernel
theorem sx_T {cs : List Int32} {s : State} (h : vk_S 1 [151] [cs] (fun _ => sa) (fun _ => av) (fun q => b ≤ q) s s.heap) : va_T .byte av 151 (fun j => .int (cs.getD j 0)) (fun q => b ≤ q) s s.heap := (h.1 0 (by decide)).2.2.2
theorem sx_lcharAt_ok {k : Nat} (hk : k < 151) : sx_Met l b sa av (d + 2) sx_lcharAt [.ref av, .int (nI k)] (some (.int (am_chars.getD k 0))) := by
  refine sx_of (by decide +kernel) (Nat.le_of_ble_eq_true rfl) (fun {p e R s mi args below meth c LS} F hl => ?_)
  obtain ⟨hx, hb, hr, hml, hown, hts, hlk, hfr, hlo, hbz, hZ⟩ := F
  have hl : lv_has LS 2 [(0, .ref av), (1, .int (nI k))] := hl
  have hb : c.code = cJ1_charAt_3b067 := hb
  have hml : c.maxLocals = 2 := hml
  have hT : va_T .byte av 151 (fun j => .int (am_chars.getD j 0)) (fun q => b ≤ q) s s.heap := sx_T hZ.2.2.2.2.1
  refine lv_iload_n hx hb dJ1_charAt_3b067_0 rfl (lv_at hl 1 rfl) ?_
  refine lv_aload_n hx hb dJ1_charAt_3b067_1 rfl (lv_at hl 0 rfl) ?_
  refine va_tlen (v := nI 151) hx hb hT va_S.rf rfl dJ1_charAt_3b067_2 ?_
  refine sx_backW (v := none) (rest := []) (va_runS (As := [.int (nI k), .int (nI 151)]) (rest := []) (g := F0 mi 3 LS [.int (nI 151), .int (nI k)]) ⟨hx, hb, hml, hown, hts⟩ (sx_check_ok (d := d) hk (by decide)) ⟨sx_callB (n := 2) hts (by rw [hfr]; exact Nat.le_refl _) (by rw [hlo]; exact Nat.le_refl _) (by decide) sx_c_check sx_i0 (am_W_in (j := 694) (by decide +kernel)) (by decide +kernel) (by decide +kernel), hts _ (am_W_in (j := 695) (by decide +kernel))⟩ ⟨sx_blind, fun U hU hW => ⟨rfl, by rw [hU]; exact hbz, Zs_ok b sa av s U hW hbz (fun q _ => by rw [hU]) hZ⟩⟩ rfl rfl hl.1 rfl (lv_room (Nat.le_of_ble_eq_true rfl)) dJ1_charAt_3b067_3 ⟨Nat.zero_le _, Nat.zero_le _⟩) (fun q hq => nomatch hq) (fun L hL => ?_)
  have hS : va_S (fun q => b ≤ q) s.heap s.heap L := ⟨Nat.le_refl _, fun q _ _ => rfl, hL⟩
  refine lv_aload_n hx hb dJ1_charAt_3b067_6 rfl (lv_at hl 0 rfl) ?_
  refine lv_iload_n hx hb dJ1_charAt_3b067_7 rfl (lv_at hl 1 rfl) ?_
  refine va_tb (v := .int (am_chars.getD k 0)) hx hb hT hS (i := nI k) (fun q => by
    rcases q with q | q
    · exact absurd q (by rw [i_lt0 (by omega)]; exact id)
    · rw [nI_clamp (by omega)] at q; omega) (by rw [nI_clamp (by omega)]) dJ1_charAt_3b067_8 ?_
  refine lv_sipush (v := 255) hx hb dJ1_charAt_3b067_9 (by decide) ?_
  refine lv_iand hx hb dJ1_charAt_3b067_12 ?_
  obtain ⟨e1, e2⟩ := sx_ch k hk
  refine lv_i2c (v := am_chars.getD k 0) hx hb dJ1_charAt_3b067_13 e1 ?_
  exact W.zret hx hb hr (congrArg Value.int e2) (fun t ht _ => ⟨rfl, ht⟩) hL dJ1_charAt_3b067_14 hlk
/-- String.length, String.charAt: the contracts that the abstract machine asks -/
theorem sx_as {D : va_G} {dA : Nat → ClassId} {al : Bool} {m : am_M} {as : List Value} {v : Option Value} {s t : State} (hP : am_Pc al b sa D dA (Zs b sa av) as m (as.map (am_cv b sa)).toArray s) (ht : t.heap = s.heap) : am_Qc al b sa D dA v m (as.map (am_cv b sa)).toArray s (.returned (v.map (am_cv b sa))) t := by
  obtain ⟨-, h2, h3, -⟩ := hP
  exact ⟨rfl, by rw [ht]; exact Nat.le_refl _, by rw [ht]; exact h2, by rw [ht]; exact h3, fun q _ => by rw [ht]⟩
theorem sx_length_ok {D : va_G} {dA : Nat → ClassId} {al : Bool} {m : am_M} : am_Met l al b sa D dA (Zs b sa av) (d + 1) am_m276 [.ref am_S] m (some (.int (nI 151))) m := by
  unfold am_Met
  rw [Nat.sub_self, Nat.sub_self]
  refine am_ofW (cc := am_m276.2.1) (maxL := 1) (ret := some .int) (by decide +kernel) rfl ?_
  intro p e s mi args below meth c s₁ B hml hv
  have hv0 := hv
  obtain ⟨rfl, hs, -, hV⟩ := hv
  have hZ : Zs b sa av s := hV.2.2.2
  have hbz : b ≤ s.heap.size := by have := am_hs_le hs; omega
  have hts0 := atoms_spec (ws := am_wsR am_m276) B.pre
  have hts : ∀ w ∈ am_WS, w.before _ s = true := fun w hw => hts0 w (List.mem_cons_of_mem _ hw)
  have hown : s.vm.findClass RJ0 = some mi.cls := findClass_of_methodNamed B.named
  have hx := B.exec
  have hb : c.code = cJ0_length_8abf5 := B.bytes
  have hr := B.returns
  have hlk := B.notSynchronized
  rw [lg_entry_eq]
  have hl : lv_has _ 1 [(0, .ref sa)] := lv_entry [.ref sa] (n := 1) (Nat.le_of_ble_eq_true rfl)
  show W p l e _ s mi _ below meth c s.heap [] 0 0 _ (F0 mi 0 ((lg_sl [.ref sa] ++ List.replicate (1 - (lg_sl [.ref sa]).length) Slot.unset).toArray) [])
  generalize (lg_sl [.ref sa] ++ List.replicate (1 - (lg_sl [.ref sa]).length) Slot.unset).toArray = LS at hl ⊢
  refine lv_aload_n hx hb dJ0_length_8abf5_0 rfl (lv_at hl 0 rfl) ?_
  refine vk_getf (v := .ref av) hx hb (hZ.2.2.2.2.1.1 0 (by decide)).2.2.1 va_S.rf hown (hts (.fieldLink RJ0 9 RJ0 "value" "[B") (am_W_in (j := 2092) (by decide +kernel))) (fun _ h => h) dJ0_length_8abf5_1 ?_
  refine va_tlen (v := nI 151) hx hb (sx_T hZ.2.2.2.2.1) va_S.rf rfl dJ0_length_8abf5_4 ?_
  refine lv_aload_n hx hb dJ0_length_8abf5_5 rfl (lv_at hl 0 rfl) ?_
  refine sx_backW (v := some (.int 0)) (rest := [.int (nI 151)]) (va_runV (C := RJ0) (As := []) (b := sa) (rest := [.int (nI 151)]) (g := F0 mi 6 LS [.ref sa, .int (nI 151)]) ⟨hx, hb, hml, hown, hts⟩ (sx_coder_ok (d := d)) ⟨sx_callB (n := 0) hts (Nat.le_refl _) (Nat.le_refl _) (by decide) sx_c_coder sx_i0 (am_W_in (j := 677) (by decide +kernel)) (by decide +kernel) (by decide +kernel), hts _ (am_W_in (j := 678) (by decide +kernel)), hts _ (am_W_in (j := 679) (by decide +kernel))⟩ ⟨sx_blind, (Zs_str b sa av s hZ).2, fun U hU hW => ⟨rfl, by rw [hU]; exact hbz, Zs_ok b sa av s U hW hbz (fun q _ => by rw [hU]) hZ⟩⟩ rfl rfl hl.1 rfl (lv_room (Nat.le_of_ble_eq_true rfl)) dJ0_length_8abf5_6 ⟨Nat.zero_le _, Nat.zero_le _⟩) (fun q hq => nomatch hq) (fun L hL => ?_)
  refine lv_ishr hx hb dJ0_length_8abf5_9 ?_
  exact W.iret (v := nI 151 >>> ((0 : Int32) &&& 31)) hx hb hr (fun t ht _ => sx_as (v := some (.int (nI 151))) hv0 ht) hL dJ0_length_8abf5_10 hlk
theorem sx_charAt_ok {D : va_G} {dA : Nat → ClassId} {al : Bool} {m : am_M} {k : Nat} (hk : k < 151) : am_Met l al b sa D dA (Zs b sa av) (d + 3) am_m277 [.ref am_S, .int (nI k)] m (some (.int (am_chars.getD k 0))) m := by
  unfold am_Met
  rw [Nat.sub_self, Nat.sub_self]
  refine am_ofW (cc := am_m277.2.1) (maxL := 2) (ret := some .char) (by decide +kernel) rfl ?_
  intro p e s mi args below meth c s₁ B hml hv
  have hv0 := hv
  obtain ⟨rfl, hs, -, hV⟩ := hv
  have hZ : Zs b sa av s := hV.2.2.2
  have hbz : b ≤ s.heap.size := by have := am_hs_le hs; omega
  have hts0 := atoms_spec (ws := am_wsR am_m277) B.pre
  have hts : ∀ w ∈ am_WS, w.before _ s = true := fun w hw => hts0 w (List.mem_cons_of_mem _ hw)
  have hown : s.vm.findClass RJ0 = some mi.cls := findClass_of_methodNamed B.named
  have hx := B.exec
  have hb : c.code = cJ0_charAt_5068e := B.bytes
  have hr := B.returns
  have hlk := B.notSynchronized
  rw [lg_entry_eq]
  have hl : lv_has _ 2 [(0, .ref sa), (1, .int (nI k))] := lv_entry [.ref sa, .int (nI k)] (n := 2) (Nat.le_of_ble_eq_true rfl)
  show W p l e _ s mi _ below meth c s.heap [] 0 0 _ (F0 mi 0 ((lg_sl [.ref sa, .int (nI k)] ++ List.replicate (2 - (lg_sl [.ref sa, .int (nI k)]).length) Slot.unset).toArray) [])
  generalize (lg_sl [.ref sa, .int (nI k)] ++ List.replicate (2 - (lg_sl [.ref sa, .int (nI k)]).length) Slot.unset).toArray = LS at hl ⊢
  refine lv_aload_n hx hb dJ0_charAt_5068e_0 rfl (lv_at hl 0 rfl) ?_
  refine sx_backW (v := some (.int 1)) (rest := []) (va_runV (C := RJ0) (As := []) (b := sa) (rest := []) (g := F0 mi 1 LS [.ref sa]) ⟨hx, hb, hml, hown, hts⟩ (sx_isLatin1_ok (d := d + 2)) ⟨sx_callB (n := 0) hts (Nat.le_refl _) (Nat.le_refl _) (by decide) sx_c_isLatin1 sx_i0 (am_W_in (j := 687) (by decide +kernel)) (by decide +kernel) (by decide +kernel), hts _ (am_W_in (j := 688) (by decide +kernel)), hts _ (am_W_in (j := 689) (by decide +kernel))⟩ ⟨sx_blind, (Zs_str b sa av s hZ).2, fun U hU hW => ⟨rfl, by rw [hU]; exact hbz, Zs_ok b sa av s U hW hbz (fun q _ => by rw [hU]) hZ⟩⟩ rfl rfl hl.1 rfl (lv_room (Nat.le_of_ble_eq_true rfl)) dJ0_charAt_5068e_1 ⟨Nat.zero_le _, Nat.zero_le _⟩) (fun q hq => nomatch hq) (fun L hL => ?_)
  have hS : va_S (fun q => b ≤ q) s.heap s.heap L := ⟨Nat.le_refl _, fun q _ _ => rfl, hL⟩
  refine lv_if_eq (tgt := 16) hx hb dJ0_charAt_5068e_4 rfl (fun q => absurd q (by decide)) (fun _ => ?_)
  refine lv_aload_n hx hb dJ0_charAt_5068e_7 rfl (lv_at hl 0 rfl) ?_
  refine vk_getf (v := .ref av) hx hb (hZ.2.2.2.2.1.1 0 (by decide)).2.2.1 hS hown (hts (.fieldLink RJ0 9 RJ0 "value" "[B") (am_W_in (j := 2092) (by decide +kernel))) (fun _ h => h) dJ0_charAt_5068e_8 ?_
  refine lv_iload_n hx hb dJ0_charAt_5068e_11 rfl (lv_at hl 1 rfl) ?_
  refine sx_backW (v := some (.int (am_chars.getD k 0))) (rest := []) (va_runS (As := [.ref av, .int (nI k)]) (rest := []) (g := F0 mi 12 LS [.int (nI k), .ref av]) ⟨hx, hb, hml, hown, hts⟩ (sx_lcharAt_ok (d := d) hk) ⟨sx_callB (n := 2) hts (Nat.le_refl _) (Nat.le_refl _) (by decide) sx_c_lcharAt sx_i1 (am_W_in (j := 691) (by decide +kernel)) (by decide +kernel) (by decide +kernel), hts _ (am_W_in (j := 692) (by decide +kernel))⟩ ⟨sx_blind, fun U hU hW => ⟨rfl, by rw [hU]; exact hbz, Zs_ok b sa av s U hW hbz (fun q _ => by rw [hU]) hZ⟩⟩ rfl rfl hl.1 rfl (lv_room (Nat.le_of_ble_eq_true rfl)) dJ0_charAt_5068e_12 ⟨Nat.zero_le _, Nat.zero_le _⟩) hL (fun L2 hL2 => ?_)
  obtain ⟨e1, e2⟩ := sx_ch k hk
  exact W.zret hx hb hr (congrArg Value.int e2) (fun t ht _ => sx_as (v := some (.int (am_chars.getD k 0))) hv0 ht) hL2 dJ0_charAt_5068e_15 hlk
theorem sx_prim {D : va_G} {dA : Nat → ClassId} {al : Bool} : ∀ m d' z rz as v m', am_ms[z]? = some rz → 276 ≤ z → 4 ≤ d' → am_prim z as m = some (v, m') → am_Met l al b sa D dA (Zs b sa av) d' rz as m v m' := by
  intro m d' z rz as v m' hrz h276 hd h
  have hlen : am_chars.length = 151 := by decide +kernel
  unfold am_prim at h
  split at h
  · next hz =>
    subst hz
    have : rz = am_m276 := by
      exact Option.some.inj (hrz.symm.trans (rfl : am_ms[276]? = some am_m276))
    subst this
    split at h
    · next a =>
      split at h
      · next ha =>
        cases h
        subst ha
        rw [hlen]
        obtain ⟨d, rfl⟩ : ∃ d, d' = d + 1 := ⟨d' - 1, by omega⟩
        exact sx_length_ok
      · cases h
    · cases h
  · split at h
    · next hz =>
      subst hz
      have : rz = am_m277 := by
        exact Option.some.inj (hrz.symm.trans (rfl : am_ms[277]? = some am_m277))
      subst this
      split at h
      · next a i =>
        split at h
        · next ha =>
          cases h
          obtain ⟨rfl, hin⟩ := ha
          have hin := of_decide_eq_true hin
          rw [hlen] at hin
          have hk : i.toNatClampNeg < 151 := by show i.toInt.toNat < 151; omega
          have hi : i = nI i.toNatClampNeg := by
            apply Int32.toInt_inj.mp
            rw [nI_toInt (by omega)]
            show i.toInt = ((i.toInt.toNat : Nat) : Int)
            omega
          obtain ⟨d, rfl⟩ : ∃ d, d' = d + 3 := ⟨d' - 3, by omega⟩
          have := sx_charAt_ok (l := l) (b := b) (sa := sa) (av := av) (d := d) (D := D) (dA := dA) (al := al) (m := m) hk
          rw [← hi] at this
          exact this
        · cases h
      · cases h
    · cases h
end Sx
