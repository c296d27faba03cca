/-! ONE STEP of the abstract machine is a step of the machine -/
theorem am_lookup_mem {α : Type} : ∀ {l : List (Nat × α)} {k : Nat} {v : α}, l.lookup k = some v → (k, v) ∈ l
  | [], k, v, h => by simp at h
  | (a, w) :: l, k, v, h => by
    rw [List.lookup_cons] at h
    by_cases e : k = a
    · subst e
      simp at h
      subst h
      exact List.mem_cons_self
    · rw [show (k == a) = false from by simpa using e] at h
      exact List.mem_cons_of_mem _ (am_lookup_mem h)
/-- what holds of a method's frame -/
def am_Fx (p : Program) (s : State) (mi : MethodId) (args : Array Value) (meth : Method) (c : Code) (R : Room) (d : Nat) (r : am_Rec) : Prop :=
  p.tables.exec = Jvm.exec ∧ c.code = r.2.1 ∧ meth.sig.returnType = r.2.2.2.1 ∧ c.maxLocals = r.2.2.1 ∧ s.vm.findClass r.1.cls = some mi.cls ∧ (∀ w ∈ am_wsR r, w.before args s = true) ∧ meth.locks = false ∧ (am_isInit r = true → meth.name = "<init>") ∧ R.frames = d ∧ R.locals = 64 * d ∧ am_cn[r.2.2.2.2.1.1]? = some r.1.cls
def am_At (al : Bool) (b sa : Nat) (D : va_G) (dA : Nat → ClassId) (Z : State → Prop) (s : State) (m : am_M) (H : Heap) (locs : List Loc) : Prop :=
  va_P D vwCl (am_ws b sa dA m) H ∧ va_S (fun q => b ≤ q) s.heap H locs ∧ am_V D dA Z s ∧ b ≤ s.heap.size ∧ m.1 ≤ am_S
theorem am_Fx.hts {p : Program} {s : State} {mi : MethodId} {args : Array Value} {meth : Method} {c : Code} {R : Room} {d : Nat} {r : am_Rec} (F : am_Fx p s mi args meth c R d r) {w : Cond} (h : w ∈ am_WS) : w.before args s = true := F.2.2.2.2.2.1 w (List.mem_cons_of_mem _ h)
theorem am_ct {r : am_Rec} {idx n : Nat} (hi : idx < 1000) (h : (am_CT.lookup (r.2.2.2.2.1.1 * 1000 + idx)).map (fun e => e.1) = some n) {C : String} (hC : am_cn[r.2.2.2.2.1.1]? = some C) : .constant C idx (Int32.ofNat n) ∈ am_WS := by
  cases hl : am_CT.lookup (r.2.2.2.2.1.1 * 1000 + idx) with
  | none => rw [hl] at h; cases h
  | some v =>
    rw [hl] at h
    have h1 := Option.some.inj h
    have h2 := List.all_eq_true.mp am_CT_ok _ (am_lookup_mem hl)
    unfold am_okCT at h2
    simp only [show (r.2.2.2.2.1.1 * 1000 + idx) / 1000 = r.2.2.2.2.1.1 by omega, show (r.2.2.2.2.1.1 * 1000 + idx) % 1000 = idx by omega, hC] at h2
    rw [← h1]
    exact am_W_in h2
theorem am_lt {r : am_Rec} {idx n : Nat} (hi : idx < 1000) (h : (am_LT.lookup (r.2.2.2.2.1.1 * 1000 + idx)).map (fun e => e.1) = some n) {C : String} (hC : am_cn[r.2.2.2.2.1.1]? = some C) : .constantLong C idx (Int64.ofNat n) ∈ am_WS := by
  cases hl : am_LT.lookup (r.2.2.2.2.1.1 * 1000 + idx) with
  | none => rw [hl] at h; cases h
  | some v =>
    rw [hl] at h
    have h1 := Option.some.inj h
    have h2 := List.all_eq_true.mp am_LT_ok _ (am_lookup_mem hl)
    unfold am_okLT at h2
    simp only [show (r.2.2.2.2.1.1 * 1000 + idx) / 1000 = r.2.2.2.2.1.1 by omega, show (r.2.2.2.2.1.1 * 1000 + idx) % 1000 = idx by omega, hC] at h2
    rw [← h1]
    exact am_W_in h2
section Steps
variable {p : Program} {l : Launch} {e : Env} {R : Room} {s : State} {mi : MethodId} {args : Array Value} {below : List Frame} {meth : Method} {c : Code} {H : Heap} {locs : List Loc} {cells slots : Nat} {Q : State → Prop}
variable {al : Bool} {b sa : Nat} {D : va_G} {dA : Nat → ClassId} {Z : State → Prop} {d : Nat} {r : am_Rec} {pc len : Nat} {ls : am_L} {LS : Array Slot} {st : List Value} {m : am_M} {c' : am_C}
theorem am_s1_m {ins : Instr} (h : am_s1 ins pc ls st m = some c') : c'.2.2.2 = m := by
  cases ins <;> simp only [am_s1, am_ldI, am_ldL, am_ldA, am_stI, am_stL, am_stA] at h <;> (repeat' split at h) <;> first | (cases h; done) | (cases h; rfl)
theorem am_s2_m {ins : Instr} (h : am_s2 ins pc ls st m = some c') : c'.2.2.2 = m := by
  cases ins <;> simp only [am_s2] at h <;> (repeat' split at h) <;> first | (cases h; done) | (cases h; rfl)
theorem am_s3_m {ins : Instr} (h : am_s3 ins pc ls st m = some c') : c'.2.2.2 = m := by
  cases ins <;> simp only [am_s3, am_br] at h <;> (repeat' split at h) <;> first | (cases h; done) | (cases h; rfl)
theorem am_s1W {ins : Instr} (F : am_Fx p s mi args meth c R d r) (hV : am_V D dA Z s) (hZ1 : ∀ U, Z U → vk_R "EatKnown$Tape" 72 am_text sa U) (L : am_lok b sa r.2.2.1 ls LS) (hok : am_okI r (pc, ins, len) = true) (h : am_s1 ins pc ls st m = some c')
    (k : ∀ LS', am_lok b sa r.2.2.1 c'.2.1 LS' → W p l e R s mi args below meth c H locs cells slots Q (F0 mi c'.1 LS' (c'.2.2.1.map (am_cv b sa)))) : W p l e R s mi args below meth c H locs cells slots Q (F0 mi pc LS (st.map (am_cv b sa))) := by
  have hx := F.1
  have hb := F.2.1
  have hown := F.2.2.2.2.1
  have hC := F.2.2.2.2.2.2.2.2.2.2
  cases ins with
  | iconst n => cases h; exact lv_iconst hx hb (of_decide_eq_true hok) rfl (k LS L)
  | bipush n => cases h; exact lv_bipush hx hb (of_decide_eq_true hok) rfl (k LS L)
  | sipush n => cases h; exact lv_sipush hx hb (of_decide_eq_true hok) rfl (k LS L)
  | lconst n => cases h; exact lv_lconst hx hb (of_decide_eq_true hok) rfl (k LS L)
  | ldc n =>
    cases h
    unfold am_okI at hok
    simp only at hok
    split at hok
    · next idx hdec =>
      simp only [Bool.and_eq_true, decide_eq_true_eq] at hok
      exact lv_ldc hx hb hown (F.hts (am_ct hok.2 hok.1 hC)) hdec (k LS L)
    · cases hok
  | ldc_w n =>
    cases h
    unfold am_okI at hok
    simp only at hok
    split at hok
    · next idx hdec =>
      simp only [Bool.and_eq_true, decide_eq_true_eq] at hok
      exact lv_ldcw hx hb hown (F.hts (am_ct hok.2 hok.1 hC)) hdec (k LS L)
    · cases hok
  | ldc2_w n =>
    cases h
    unfold am_okI at hok
    simp only at hok
    split at hok
    · next idx hdec =>
      simp only [Bool.and_eq_true, decide_eq_true_eq] at hok
      exact lv_ldc2 hx hb hown (F.hts (am_lt hok.2 hok.1 hC)) hdec (k LS L)
    · cases hok
  | getstatic n =>
    cases h
    unfold am_okI at hok
    simp only at hok
    split at hok
    · next hdec =>
      simp only [decide_eq_true_eq] at hok
      rw [hok] at hC
      have hcls : r.1.cls = "EatKnown$Tape" := (Option.some.inj hC).symm
      rw [hcls] at hown
      exact va_ldcS hx hb hown (hZ1 s hV.2.2.2) hdec (k LS L)
    · cases hok
  | iload_n i =>
    simp only [am_s1, am_ldI] at h
    split at h
    · next x hl => cases h; exact lv_iload_n hx hb (of_decide_eq_true hok) rfl (am_ld_at L hl) (k LS L)
    · cases h
  | iload i =>
    simp only [am_s1, am_ldI] at h
    split at h
    · next x hl => cases h; exact lv_iload hx hb (of_decide_eq_true hok) (am_ld_at L hl) (k LS L)
    · cases h
  | lload_n i =>
    simp only [am_s1, am_ldL] at h
    split at h
    · next x hl => cases h; exact lv_lload_n hx hb (of_decide_eq_true hok) rfl (am_ld_at L hl) (k LS L)
    · cases h
  | lload i =>
    simp only [am_s1, am_ldL] at h
    split at h
    · next x hl => cases h; exact lv_lload hx hb (of_decide_eq_true hok) (am_ld_at L hl) (k LS L)
    · cases h
  | aload_n i =>
    simp only [am_s1, am_ldA] at h
    split at h
    · next x hl => cases h; exact lv_aload_n hx hb (of_decide_eq_true hok) rfl (am_ld_at L hl) (k LS L)
    · cases h
  | aload i =>
    simp only [am_s1, am_ldA] at h
    split at h
    · next x hl => cases h; exact lv_aload hx hb (of_decide_eq_true hok) (am_ld_at L hl) (k LS L)
    · cases h
  | istore_n i =>
    simp only [am_s1, am_stI] at h
    split at h
    · split at h
      · next x t hi => cases h; exact lv_istore_n hx hb (of_decide_eq_true hok) rfl L.2 (by rw [← L.1]; exact hi) rfl (fun LS' h' => k LS' (am_st1_ok L hi h'))
      · cases h
    · cases h
  | istore i =>
    simp only [am_s1, am_stI] at h
    split at h
    · split at h
      · next x t hi => cases h; exact lv_istore hx hb (of_decide_eq_true hok) L.2 (by rw [← L.1]; exact hi) rfl (fun LS' h' => k LS' (am_st1_ok L hi h'))
      · cases h
    · cases h
  | lstore_n i =>
    simp only [am_s1, am_stL] at h
    split at h
    · split at h
      · next x t hi => cases h; exact lv_lstore_n hx hb (of_decide_eq_true hok) rfl L.2 (by rw [← L.1]; exact hi) rfl (fun LS' h' => k LS' (am_st2_ok L hi h'))
      · cases h
    · cases h
  | lstore i =>
    simp only [am_s1, am_stL] at h
    split at h
    · split at h
      · next x t hi => cases h; exact lv_lstore hx hb (of_decide_eq_true hok) L.2 (by rw [← L.1]; exact hi) rfl (fun LS' h' => k LS' (am_st2_ok L hi h'))
      · cases h
    · cases h
  | astore_n i =>
    simp only [am_s1, am_stA] at h
    split at h
    · split at h
      · next x t hi => cases h; exact lv_astore_n hx hb (of_decide_eq_true hok) rfl L.2 (by rw [← L.1]; exact hi) rfl (fun LS' h' => k LS' (am_st1_ok L hi h'))
      · cases h
    · cases h
  | astore i =>
    simp only [am_s1, am_stA] at h
    split at h
    · split at h
      · next x t hi => cases h; exact lv_astore hx hb (of_decide_eq_true hok) L.2 (by rw [← L.1]; exact hi) rfl (fun LS' h' => k LS' (am_st1_ok L hi h'))
      · cases h
    · cases h
  | iinc i n =>
    simp only [am_s1] at h
    split at h
    · next x hl =>
      split at h
      · next hi =>
        cases h
        have hl' : ls[i]? = some (some (.int x)) := by
          unfold am_ld at hl
          split at hl
          · next w hw => rw [hw, Option.some.inj hl]
          · cases hl
        obtain ⟨kk, hkk⟩ := List.getElem?_of_mem (am_toL_mem (b := b) (sa := sa) (q := (i, .int x)).mpr ⟨.int x, hl', rfl⟩)
        exact lv_iinc hx hb (of_decide_eq_true hok) L.2 hkk rfl (by rw [← L.1]; exact hi) rfl (fun LS' h' => k LS' (am_st1_ok L hi h'))
      · cases h
    · cases h
  | dup =>
    simp only [am_s1] at h
    split at h
    · split at h
      · next v t hv => cases h; exact lv_dup hx hb (of_decide_eq_true hok) (by rw [am_cat]; exact hv) (k LS L)
      · cases h
    · cases h
  | dup2 =>
    simp only [am_s1] at h
    split at h
    · split at h
      · next v w t hv => cases h; exact lv_dup2_11 hx hb (of_decide_eq_true hok) (by rw [am_cat]; exact hv.1) (by rw [am_cat]; exact hv.2) (k LS L)
      · cases h
    · cases h
  | pop =>
    simp only [am_s1] at h
    split at h
    · split at h
      · next v t hv => cases h; exact lv_pop hx hb (of_decide_eq_true hok) (by rw [am_cat]; exact hv) (k LS L)
      · cases h
    · cases h
  | goto off =>
    simp only [am_s1] at h
    split at h
    · next hj =>
      cases h
      exact lv_goto hx hb (of_decide_eq_true hok) (by unfold am_jok at hj; unfold am_jmp; have := of_decide_eq_true hj; show _ = ((((pc : Int) + off).toNat : Nat) : Int); omega) (k LS L)
    · cases h
  | _ => simp [am_s1] at h
theorem am_s2W {ins : Instr} (F : am_Fx p s mi args meth c R d r) (L : am_lok b sa r.2.2.1 ls LS) (hok : am_okI r (pc, ins, len) = true) (h : am_s2 ins pc ls st m = some c')
    (k : ∀ LS', am_lok b sa r.2.2.1 c'.2.1 LS' → W p l e R s mi args below meth c H locs cells slots Q (F0 mi c'.1 LS' (c'.2.2.1.map (am_cv b sa)))) : W p l e R s mi args below meth c H locs cells slots Q (F0 mi pc LS (st.map (am_cv b sa))) := by
  have hx := F.1
  have hb := F.2.1
  cases ins with
  | iadd =>
    simp only [am_s2] at h
    split at h
    · cases h; exact lv_iadd hx hb (of_decide_eq_true hok) (k LS L)
    · cases h
  | isub =>
    simp only [am_s2] at h
    split at h
    · cases h; exact lv_isub hx hb (of_decide_eq_true hok) (k LS L)
    · cases h
  | imul =>
    simp only [am_s2] at h
    split at h
    · cases h; exact lv_imul hx hb (of_decide_eq_true hok) (k LS L)
    · cases h
  | iand =>
    simp only [am_s2] at h
    split at h
    · cases h; exact lv_iand hx hb (of_decide_eq_true hok) (k LS L)
    · cases h
  | ior =>
    simp only [am_s2] at h
    split at h
    · cases h; exact lv_ior hx hb (of_decide_eq_true hok) (k LS L)
    · cases h
  | ixor =>
    simp only [am_s2] at h
    split at h
    · cases h; exact lv_ixor hx hb (of_decide_eq_true hok) (k LS L)
    · cases h
  | ishl =>
    simp only [am_s2] at h
    split at h
    · cases h; exact lv_ishl hx hb (of_decide_eq_true hok) (k LS L)
    · cases h
  | ishr =>
    simp only [am_s2] at h
    split at h
    · cases h; exact lv_ishr hx hb (of_decide_eq_true hok) (k LS L)
    · cases h
  | ineg =>
    simp only [am_s2] at h
    split at h
    · cases h; exact lv_ineg hx hb (of_decide_eq_true hok) (k LS L)
    · cases h
  | ladd =>
    simp only [am_s2] at h
    split at h
    · cases h; exact lv_ladd hx hb (of_decide_eq_true hok) (k LS L)
    · cases h
  | lsub =>
    simp only [am_s2] at h
    split at h
    · cases h; exact lv_lsub hx hb (of_decide_eq_true hok) (k LS L)
    · cases h
  | lmul =>
    simp only [am_s2] at h
    split at h
    · cases h; exact lv_lmul hx hb (of_decide_eq_true hok) (k LS L)
    · cases h
  | land =>
    simp only [am_s2] at h
    split at h
    · cases h; exact lv_land hx hb (of_decide_eq_true hok) (k LS L)
    · cases h
  | lor =>
    simp only [am_s2] at h
    split at h
    · cases h; exact lv_lor hx hb (of_decide_eq_true hok) (k LS L)
    · cases h
  | iushr =>
    simp only [am_s2] at h
    split at h
    · cases h; exact lv_iushr hx hb (of_decide_eq_true hok) rfl (k LS L)
    · cases h
  | lshl =>
    simp only [am_s2] at h
    split at h
    · cases h; exact lv_lshl hx hb (of_decide_eq_true hok) rfl (k LS L)
    · cases h
  | lushr =>
    simp only [am_s2] at h
    split at h
    · cases h; exact lv_lushr hx hb (of_decide_eq_true hok) rfl (k LS L)
    · cases h
  | i2l =>
    simp only [am_s2] at h
    split at h
    · cases h; exact lv_i2l hx hb (of_decide_eq_true hok) rfl (k LS L)
    · cases h
  | l2i =>
    simp only [am_s2] at h
    split at h
    · cases h; exact lv_l2i hx hb (of_decide_eq_true hok) rfl (k LS L)
    · cases h
  | i2c =>
    simp only [am_s2] at h
    split at h
    · cases h; exact lv_i2c hx hb (of_decide_eq_true hok) rfl (k LS L)
    · cases h
  | idiv =>
    simp only [am_s2] at h
    split at h
    · split at h
      · cases h
      · next hne => cases h; exact lv_idiv hx hb (of_decide_eq_true hok) hne (k LS L)
    · cases h
  | irem =>
    simp only [am_s2] at h
    split at h
    · split at h
      · cases h
      · next hne => cases h; exact lv_irem hx hb (of_decide_eq_true hok) hne (k LS L)
    · cases h
  | ldiv =>
    simp only [am_s2] at h
    split at h
    · split at h
      · cases h
      · next hne => cases h; exact lv_ldiv hx hb (of_decide_eq_true hok) hne (k LS L)
    · cases h
  | lrem =>
    simp only [am_s2] at h
    split at h
    · split at h
      · cases h
      · next hne => cases h; exact lv_lrem hx hb (of_decide_eq_true hok) hne (k LS L)
    · cases h
  | lcmp =>
    simp only [am_s2] at h
    split at h
    · cases h; exact W.lcmp hx hb (of_decide_eq_true hok) (k LS L)
    · cases h
  | _ => simp [am_s2] at h
theorem am_jmp_ok {pc : Nat} {off : Int} (h : am_jok pc off = true) : (pc : Int) + off = ((am_jmp pc off : Nat) : Int) := by
  have := of_decide_eq_true h
  unfold am_jmp
  omega
theorem am_br_ok {off : Int} {cnd : Bool} {t : List Value} (h : am_br pc 3 off cnd ls t m = some c') : (pc : Int) + off = ((am_jmp pc off : Nat) : Int) ∧ ((cnd = true ∧ c' = (am_jmp pc off, ls, t, m)) ∨ (cnd = false ∧ c' = (pc + 3, ls, t, m))) := by
  unfold am_br at h
  split at h
  · next hj =>
    refine ⟨am_jmp_ok hj, ?_⟩
    split at h
    · next hc => cases h; exact Or.inl ⟨hc, rfl⟩
    · next hc => cases h; exact Or.inr ⟨by simpa using hc, rfl⟩
  · cases h
theorem am_s3W {ins : Instr} (F : am_Fx p s mi args meth c R d r) (L : am_lok b sa r.2.2.1 ls LS) (hok : am_okI r (pc, ins, len) = true) (h : am_s3 ins pc ls st m = some c')
    (k : ∀ LS', am_lok b sa r.2.2.1 c'.2.1 LS' → W p l e R s mi args below meth c H locs cells slots Q (F0 mi c'.1 LS' (c'.2.2.1.map (am_cv b sa)))) : W p l e R s mi args below meth c H locs cells slots Q (F0 mi pc LS (st.map (am_cv b sa))) := by
  have hx := F.1
  have hb := F.2.1
  cases ins with
  | ifCond cond off =>
    simp only [am_s3] at h
    split at h
    · cases cond with
      | eq =>
        obtain ⟨ht, ⟨hc, rfl⟩ | ⟨hc, rfl⟩⟩ := am_br_ok h
        · exact lv_if_eq hx hb (of_decide_eq_true hok) ht (fun _ => k LS L) (fun q => absurd q (by simpa using hc))
        · exact lv_if_eq hx hb (of_decide_eq_true hok) ht (fun q => absurd q (by simpa using hc)) (fun _ => k LS L)
      | ne =>
        obtain ⟨ht, ⟨hc, rfl⟩ | ⟨hc, rfl⟩⟩ := am_br_ok h
        · exact lv_if_ne hx hb (of_decide_eq_true hok) ht (fun _ => k LS L) (fun q => absurd q (by simpa using hc))
        · exact lv_if_ne hx hb (of_decide_eq_true hok) ht (fun q => absurd q (by simpa using hc)) (fun _ => k LS L)
      | lt =>
        obtain ⟨ht, ⟨hc, rfl⟩ | ⟨hc, rfl⟩⟩ := am_br_ok h
        · exact lv_if_lt hx hb (of_decide_eq_true hok) ht (fun _ => k LS L) (fun q => absurd q (by simpa using hc))
        · exact lv_if_lt hx hb (of_decide_eq_true hok) ht (fun q => absurd q (by simpa using hc)) (fun _ => k LS L)
      | ge =>
        obtain ⟨ht, ⟨hc, rfl⟩ | ⟨hc, rfl⟩⟩ := am_br_ok h
        · exact lv_if_ge hx hb (of_decide_eq_true hok) ht (fun _ => k LS L) (fun q => absurd q (by simpa using hc))
        · exact lv_if_ge hx hb (of_decide_eq_true hok) ht (fun q => absurd q (by simpa using hc)) (fun _ => k LS L)
      | gt =>
        obtain ⟨ht, ⟨hc, rfl⟩ | ⟨hc, rfl⟩⟩ := am_br_ok h
        · exact lv_if_gt hx hb (of_decide_eq_true hok) ht (fun _ => k LS L) (fun q => absurd q (by simpa using hc))
        · exact lv_if_gt hx hb (of_decide_eq_true hok) ht (fun q => absurd q (by simpa using hc)) (fun _ => k LS L)
      | le =>
        obtain ⟨ht, ⟨hc, rfl⟩ | ⟨hc, rfl⟩⟩ := am_br_ok h
        · exact lv_if_le hx hb (of_decide_eq_true hok) ht (fun _ => k LS L) (fun q => absurd q (by simpa using hc))
        · exact lv_if_le hx hb (of_decide_eq_true hok) ht (fun q => absurd q (by simpa using hc)) (fun _ => k LS L)
    · cases h
  | if_icmp cond off =>
    simp only [am_s3] at h
    split at h
    · cases cond with
      | eq =>
        obtain ⟨ht, ⟨hc, rfl⟩ | ⟨hc, rfl⟩⟩ := am_br_ok h
        · exact lv_icmp_eq hx hb (of_decide_eq_true hok) ht (fun _ => k LS L) (fun q => absurd q (by simpa using hc))
        · exact lv_icmp_eq hx hb (of_decide_eq_true hok) ht (fun q => absurd q (by simpa using hc)) (fun _ => k LS L)
      | ne =>
        obtain ⟨ht, ⟨hc, rfl⟩ | ⟨hc, rfl⟩⟩ := am_br_ok h
        · exact lv_icmp_ne hx hb (of_decide_eq_true hok) ht (fun _ => k LS L) (fun q => absurd q (by simpa using hc))
        · exact lv_icmp_ne hx hb (of_decide_eq_true hok) ht (fun q => absurd q (by simpa using hc)) (fun _ => k LS L)
      | lt =>
        obtain ⟨ht, ⟨hc, rfl⟩ | ⟨hc, rfl⟩⟩ := am_br_ok h
        · exact lv_icmp_lt hx hb (of_decide_eq_true hok) ht (fun _ => k LS L) (fun q => absurd q (by simpa using hc))
        · exact lv_icmp_lt hx hb (of_decide_eq_true hok) ht (fun q => absurd q (by simpa using hc)) (fun _ => k LS L)
      | ge =>
        obtain ⟨ht, ⟨hc, rfl⟩ | ⟨hc, rfl⟩⟩ := am_br_ok h
        · exact lv_icmp_ge hx hb (of_decide_eq_true hok) ht (fun _ => k LS L) (fun q => absurd q (by simpa using hc))
        · exact lv_icmp_ge hx hb (of_decide_eq_true hok) ht (fun q => absurd q (by simpa using hc)) (fun _ => k LS L)
      | gt =>
        obtain ⟨ht, ⟨hc, rfl⟩ | ⟨hc, rfl⟩⟩ := am_br_ok h
        · exact lv_icmp_gt hx hb (of_decide_eq_true hok) ht (fun _ => k LS L) (fun q => absurd q (by simpa using hc))
        · exact lv_icmp_gt hx hb (of_decide_eq_true hok) ht (fun q => absurd q (by simpa using hc)) (fun _ => k LS L)
      | le =>
        obtain ⟨ht, ⟨hc, rfl⟩ | ⟨hc, rfl⟩⟩ := am_br_ok h
        · exact lv_icmp_le hx hb (of_decide_eq_true hok) ht (fun _ => k LS L) (fun q => absurd q (by simpa using hc))
        · exact lv_icmp_le hx hb (of_decide_eq_true hok) ht (fun q => absurd q (by simpa using hc)) (fun _ => k LS L)
    · cases h
  | tableswitch dd lo hi offs =>
    simp only [am_s3] at h
    split at h
    · next x t =>
      split at h
      · next ho =>
        split at h
        · next hj => cases h; exact lv_tableOut hx hb (of_decide_eq_true hok) ho (am_jmp_ok hj) (k LS L)
        · cases h
      · next ho =>
        split at h
        · next off hoff =>
          split at h
          · next hj => cases h; exact lv_tableIn hx hb (of_decide_eq_true hok) (fun q => ho (Or.inl q)) (fun q => ho (Or.inr q)) (by rw [← Array.getElem?_toList]; exact hoff) (am_jmp_ok hj) (k LS L)
          · cases h
        · cases h
    · cases h
  | lookupswitch dd ps =>
    simp only [am_s3] at h
    split at h
    · next x t =>
      split at h
      · next ho =>
        split at h
        · next hj => cases h; exact lv_lookup hx hb (of_decide_eq_true hok) ho rfl (am_jmp_ok hj) (k LS L)
        · cases h
      · cases h
    · cases h
  | _ => simp [am_s3] at h
end Steps
