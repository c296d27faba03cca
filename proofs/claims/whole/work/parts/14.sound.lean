/-! RUNS of the abstract machine are the machine's: the contract of every method -/
def am_rec (al : Bool) (n : Nat) : Nat → Nat → List Value → am_M → Option (Option Value × am_M) := fun d z as m => match am_ms[z]? with
  | some rz => if (am_entry as).length ≤ rz.2.2.1 then am_run al n d z 0 (am_pad rz.2.2.1 (am_entry as)) [] m else none
  | none => none
theorem am_run_eq (al : Bool) (n d i pc : Nat) (ls : am_L) (st : List Value) (m : am_M) : am_run al (n + 1) d i pc ls st m = (match am_ms[i]? with
    | none => none
    | some r => match r.2.2.2.2.2.lookup pc with
      | none => none
      | some q => match am_ret r.2.2.2.1 q.1 st with
        | some v => some (v, m)
        | none => match am_step al (am_rec al n) d (am_isInit r) q.1 pc ls st m with
          | some c => am_run al n d i c.1 c.2.1 c.2.2.1 c.2.2.2
          | none => none) := rfl
def am_up (m m' : am_M) : Prop := m.1 ≤ m'.1 ∧ m.2.1 ≤ m'.2.1 ∧ (m.1 ≤ am_S → m'.1 ≤ am_S)
theorem am_up.rf (m : am_M) : am_up m m := ⟨Nat.le_refl _, Nat.le_refl _, id⟩
theorem am_up.tr {m1 m2 m3 : am_M} (h1 : am_up m1 m2) (h2 : am_up m2 m3) : am_up m1 m3 := ⟨Nat.le_trans h1.1 h2.1, Nat.le_trans h1.2.1 h2.2.1, fun h => h2.2.2 (h1.2.2 h)⟩
theorem am_up.of {m m' : am_M} (h1 : m'.1 = m.1) (h2 : m'.2.1 = m.2.1) : am_up m m' := ⟨Nat.le_of_eq h1.symm, Nat.le_of_eq h2.symm, fun h => by rw [h1]; exact h⟩
theorem am_prim_m {z : Nat} {as : List Value} {m m' : am_M} {v : Option Value} (h : am_prim z as m = some (v, m')) : m' = m := by
  unfold am_prim at h
  (repeat' split at h) <;> first | (cases h; done) | (cases h; rfl)
theorem am_calls_up {al : Bool} {rec : Nat → Nat → List Value → am_M → Option (Option Value × am_M)} {d kd z pc : Nat} {ls : am_L} {st : List Value} {m : am_M} {c' : am_C} (hrec : ∀ d' z as v m', rec d' z as m = some (v, m') → am_up m m') (h : am_calls al rec d kd z pc ls st m = some c') : am_up m c'.2.2.2 ∧ c'.2.1 = ls := by
  unfold am_calls at h
  split at h
  · cases h
  · split at h
    · split at h
      · split at h
        · cases h
        · cases h; exact ⟨am_up.rf m, rfl⟩
      · cases h
    · split at h
      · unfold am_copy at h
        (repeat' split at h) <;> first | (cases h; done) | (cases h; exact ⟨am_up.rf _, rfl⟩)
      · split at h
        · cases h
        next rz hrz =>
        simp only at h
        generalize hkk : rz.2.2.2.2.1.2.1 + (if rz.2.2.2.2.1.2.2 = true then 0 else 1) = kk at h
        split at h
        · split at h
          · next v m' hres =>
            cases h
            refine ⟨?_, rfl⟩
            split at hres
            · split at hres
              · rw [am_prim_m hres]; exact am_up.rf m
              · cases hres
            · exact hrec _ _ _ _ _ hres
          · cases h
        · cases h
theorem am_step_up {al : Bool} {rec : Nat → Nat → List Value → am_M → Option (Option Value × am_M)} {r : am_Rec} {d pc : Nat} {ins : Instr} {ls : am_L} {st : List Value} {m : am_M} {c' : am_C} (hrec : ∀ d' z as v m', rec d' z as m = some (v, m') → am_up m m') (h : am_step al rec d (am_isInit r) ins pc ls st m = some c') : am_up m c'.2.2.2 := by
  unfold am_step at h
  split at h
  · exact (am_calls_up hrec h).1
  · exact (am_calls_up hrec h).1
  · exact (am_calls_up hrec h).1
  · split at h
    · next q hq => cases h; rw [am_s1_m hq]; exact am_up.rf m
    · split at h
      · next q hq => cases h; rw [am_s2_m hq]; exact am_up.rf m
      · split at h
        · next q hq => cases h; rw [am_s3_m hq]; exact am_up.rf m
        · split at h
          · next q hq => cases h; exact am_up.of (am_s4_m hq).1 (am_s4_m hq).2.1
          · obtain ⟨h1, h2, h3, h4, -⟩ := am_s5_m h
            exact ⟨by omega, h4, fun _ => by omega⟩
theorem am_run_up {al : Bool} : ∀ (n d i pc : Nat) (ls : am_L) (st : List Value) (m : am_M) (v : Option Value) (m' : am_M), am_run al n d i pc ls st m = some (v, m') → am_up m m'
  | 0, _, _, _, _, _, _, _, _, h => by cases h
  | n + 1, d, i, pc, ls, st, m, v, m', h => by
    rw [am_run_eq] at h
    split at h
    · cases h
    · split at h
      · cases h
      · split at h
        · cases h; exact am_up.rf m
        · split at h
          · next c hc =>
            refine (am_step_up (fun d' z as v m' hr => ?_) hc).tr (am_run_up n d i _ _ _ _ v m' h)
            unfold am_rec at hr
            split at hr
            · split at hr
              · exact am_run_up n _ _ _ _ _ _ _ _ hr
              · cases hr
            · cases hr
          · cases h
section Sound2
variable {p : Program} {l : Launch} {e : Env} {R : Room} {s : State} {mi : MethodId} {args : Array Value} {below : List Frame} {meth : Method} {c : Code} {H : Heap} {locs : List Loc} {cells slots : Nat} {Q : State → Prop}
variable {al : Bool} {b sa : Nat} {D : va_G} {dA : Nat → ClassId} {Z : State → Prop} {d : Nat} {r : am_Rec} {pc len : Nat} {ls : am_L} {LS : Array Slot} {st : List Value} {m : am_M} {c' : am_C}
theorem am_retW {ins : Instr} {v : Option Value} (F : am_Fx p s mi args meth c R d r) (A : am_At al b sa D dA Z s m H locs) (hz : am_sz al b m s cells) (hok : am_okI r (pc, ins, len) = true) (h : am_ret r.2.2.2.1 ins st = some v) :
    W p l e R s mi args below meth c H locs cells slots (MQ below (am_Qc al b sa D dA v m) args s cells slots (fun q => b ≤ q)) (F0 mi pc LS (st.map (am_cv b sa))) := by
  have hl := F.2.2.2.2.2.2.1
  have hr := F.2.2.1
  have hq : ∀ (hs : am_hs al b m H) (t : State), t.heap = H → s.WarmedH t.vm → am_Qc al b sa D dA v m args s (.returned (v.map (am_cv b sa))) t := by
    intro hs t ht _
    exact ⟨rfl, by rw [ht]; exact A.2.1.1, by rw [ht]; exact hs, by rw [ht]; exact A.1, fun q hq => by rw [ht]; exact A.2.1.2.1 q (by have := A.2.2.2.1; omega) (by omega)⟩
  refine am_W_of fun T hT X => ?_
  have hs := am_At_hs A hz hT X
  cases ins with
  | ireturn =>
    simp only [am_ret] at h
    split at h
    · next x =>
      split at h
      · next hrt => cases h; rw [hrt] at hr; exact W.iret F.1 F.2.1 hr (hq hs) A.2.1.2.2 (of_decide_eq_true hok) hl
      · next hrt =>
        split at h
        · next hx =>
          cases h
          rw [hrt] at hr
          exact W.zret F.1 F.2.1 hr (by rcases hx with rfl | rfl <;> rfl) (hq hs) A.2.1.2.2 (of_decide_eq_true hok) hl
        · cases h
      · cases h
    · cases h
  | lreturn =>
    simp only [am_ret] at h
    split at h
    · next x =>
      split at h
      · next hrt => cases h; rw [hrt] at hr; exact W.lret F.1 F.2.1 hr (hq hs) A.2.1.2.2 (of_decide_eq_true hok) hl
      · cases h
    · cases h
  | return_ =>
    simp only [am_ret] at h
    split at h
    · split at h
      · next hrt => cases h; rw [hrt] at hr; exact W.vret F.1 F.2.1 hr (hq hs) A.2.1.2.2 (of_decide_eq_true hok) hl
      · cases h
    · cases h
  | _ => simp [am_ret] at h
theorem am_ofW {y : MethodName} {ws ws' : List Cond} {rm : Room} {Pc : Array Value → State → Prop} {Qc : Array Value → State → Outcome → State → Prop} {mc ms : Nat} {free : Addr → Prop} {cc : ByteArray} {maxL : Nat} {ret : Option FieldType}
    (hy : plainFor y = true) (hw : ws = Cond.code y cc maxL ret :: ws')
    (body : ∀ p e s m args below meth c s₁, BodyLoose p l y (headSpec ws rm) cc maxL ret e s m args below meth c s₁ → c.maxLocals = maxL → Pc args s →
      W p l e (headSpec ws rm).room s m args below meth c s.heap [] 0 0 (MQ below Qc args s mc ms free) (entryFrame m args maxL)) : Met l y ws rm Pc Qc mc ms free := by
  refine MetFree.of_bodySF (code := cc) (maxLocals := maxL) (ret := ret) hy ?_ ?_
  · intro args s m h hn
    obtain ⟨meth, c, h1, h2, h3, h4, h5, h6, -, -⟩ := Cond.code_spec hn (atoms_spec (ws := ws) h _ (by rw [hw]; exact List.mem_cons_self))
    exact ⟨meth, c, h1, h2, h3, h4, h5, h6⟩
  · intro p e s m args below meth c s₁ B hml hP _
    have hh0 : s₁.heap = s.heap := by rw [B.state]; rfl
    obtain ⟨t, a1, o, b1, b2, b3⟩ := body p e s m args below meth c s₁ B hml hP s₁ hh0 (Stand.of_body B)
    exact ⟨t, o, a1, b1, b2, ⟨b3.1, b3.2⟩⟩
/-- a contract out of a walk of the body -/
theorem am_met_of {z : Nat} {rz : am_Rec} {as : List Value} {v : Option Value} {m' : am_M} (hrz : am_ms[z]? = some rz) (hlen : (am_entry as).length ≤ rz.2.2.1) (hm : m.1 ≤ am_S) (hup : am_up m m')
    (hW : ∀ {p : Program} {e : Env} {R : Room} {s : State} {mi : MethodId} {args : Array Value} {below : List Frame} {meth : Method} {c : Code} {LS : Array Slot}, am_Fx p s mi args meth c R d rz → am_At al b sa D dA Z s m s.heap [] → am_sz al b m s 0 → am_lok b sa rz.2.2.1 (am_pad rz.2.2.1 (am_entry as)) LS → 0 + (m'.1 - m.1) ≤ R.cells ∧ 0 + (m'.2.1 - m.2.1) ≤ R.slots →
      W p l e R s mi args below meth c s.heap [] 0 0 (MQ below (am_Qc al b sa D dA v m') args s (0 + (m'.1 - m.1)) (0 + (m'.2.1 - m.2.1)) (fun q => b ≤ q)) (F0 mi 0 LS [])) : am_Met l al b sa D dA Z d rz as m v m' := by
  have hmem := List.mem_of_getElem? hrz
  refine am_ofW (cc := rz.2.1) (maxL := rz.2.2.1) (ret := rz.2.2.2.1) (am_plain rz hmem) rfl ?_
  intro p e s mi args below meth c s₁ B hml hv
  obtain ⟨rfl, hs, hP, hV⟩ := hv
  have hts := atoms_spec (ws := am_wsR rz) B.pre
  have hown : s.vm.findClass rz.1.cls = some mi.cls := findClass_of_methodNamed B.named
  rw [lg_entry_eq]
  have hb : b ≤ s.heap.size := by have := am_hs_le hs; omega
  have F : am_Fx p s mi (as.map (am_cv b sa)).toArray meth c (headSpec (am_wsR rz) (am_rm d (m'.1 - m.1) (m'.2.1 - m.2.1))).room d rz :=
    ⟨B.exec, B.bytes, B.returns, hml, hown, hts, B.notSynchronized, fun hi => by
      rw [(name_of_methodNamed B.named B.method).1]
      unfold am_isInit at hi
      exact eq_of_beq hi, rfl, rfl, (am_meth hrz).2.2.2.1.2.2.2⟩
  have h0 := hW (e := e) (below := below) F ⟨hP, va_S.rf, hV, hb, hm⟩ (fun hal => by unfold am_hs at hs; rw [if_pos hal] at hs; omega) (am_entry_ok (b := b) (sa := sa) hlen) ⟨by rw [Nat.zero_add]; exact Nat.le_refl _, by rw [Nat.zero_add]; exact Nat.le_refl _⟩
  rw [Nat.zero_add, Nat.zero_add] at h0
  exact h0
theorem am_sound (hZ : am_Zok b Z) (hZ1 : ∀ U, Z U → vk_R "EatKnown$Tape" 72 am_text sa U) (hstr : ∀ U, Z U → sa < b ∧ ∃ cell : Cell, U.heap[sa]? = some cell ∧ cell.vm.isStatics = false ∧ U.vm.findClass "java/lang/String" = some cell.cls)
    (hprim : ∀ m d' z rz as v m', am_ms[z]? = some rz → 276 ≤ z → 4 ≤ d' → am_prim z as m = some (v, m') → am_Met l al b sa D dA Z d' rz as m v m') :
    ∀ (n d i pc : Nat) (r : am_Rec) (ls : am_L) (st : List Value) (m : am_M) (v : Option Value) (m' : am_M), am_ms[i]? = some r → am_run al n d i pc ls st m = some (v, m') →
    ∀ (p : Program) (e : Env) (R : Room) (s : State) (mi : MethodId) (args : Array Value) (below : List Frame) (meth : Method) (c : Code) (H : Heap) (locs : List Loc) (cells slots : Nat) (LS : Array Slot), am_Fx p s mi args meth c R d r → am_At al b sa D dA Z s m H locs → am_sz al b m s cells → am_lok b sa r.2.2.1 ls LS → cells + (m'.1 - m.1) ≤ R.cells ∧ slots + (m'.2.1 - m.2.1) ≤ R.slots →
      W p l e R s mi args below meth c H locs cells slots (MQ below (am_Qc al b sa D dA v m') args s (cells + (m'.1 - m.1)) (slots + (m'.2.1 - m.2.1)) (fun q => b ≤ q)) (F0 mi pc LS (st.map (am_cv b sa)))
  | 0, _, _, _, _, _, _, _, _, _, _, h => by cases h
  | n + 1, d, i, pc, r, ls, st, m, v, m', hi, h => by
    intro p e R s mi args below meth c H locs cells slots LS F A hz L hR
    rw [am_run_eq, hi] at h
    simp only at h
    split at h
    · cases h
    next q hq =>
    have hok : am_okI r (pc, q) = true := List.all_eq_true.mp (am_I_ok r (List.mem_of_getElem? hi)) _ (am_lookup_mem hq)
    obtain ⟨ins, len⟩ := q
    split at h
    · next v1 hv =>
      cases h
      have := am_retW (p := p) (l := l) (e := e) (below := below) (slots := slots) (LS := LS) F A hz hok hv
      rw [Nat.sub_self, Nat.sub_self, Nat.add_zero, Nat.add_zero]
      exact this
    · split at h
      · next c1 hc =>
        have hup1 : am_up m c1.2.2.2 := am_step_up (fun d' z as v m' hr => by
          unfold am_rec at hr
          split at hr
          · split at hr
            · exact am_run_up n _ _ _ _ _ _ _ _ hr
            · cases hr
          · cases hr) hc
        have hup2 := am_run_up n d i _ _ _ _ v m' h
        obtain ⟨u1, u2, u3⟩ := hup1
        obtain ⟨w1, w2, w3⟩ := hup2
        have hm := A.2.2.2.2
        have next : ∀ (H' : Heap) (locs' : List Loc) (LS' : Array Slot), am_At al b sa D dA Z s c1.2.2.2 H' locs' → am_lok b sa r.2.2.1 c1.2.1 LS' → W p l e R s mi args below meth c H' locs' (cells + (c1.2.2.2.1 - m.1)) (slots + (c1.2.2.2.2.1 - m.2.1)) (MQ below (am_Qc al b sa D dA v m') args s (cells + (m'.1 - m.1)) (slots + (m'.2.1 - m.2.1)) (fun q => b ≤ q)) (F0 mi c1.1 LS' (c1.2.2.1.map (am_cv b sa))) := by
          intro H' locs' LS' A' L'
          have h3 := am_sound hZ hZ1 hstr hprim n d i c1.1 r c1.2.1 c1.2.2.1 c1.2.2.2 v m' hi h p e R s mi args below meth c H' locs' (cells + (c1.2.2.2.1 - m.1)) (slots + (c1.2.2.2.2.1 - m.2.1)) LS' F A' (fun hal => by have := hz hal; omega) L' ⟨by omega, by omega⟩
          rw [show cells + (c1.2.2.2.1 - m.1) + (m'.1 - c1.2.2.2.1) = cells + (m'.1 - m.1) by omega, show slots + (c1.2.2.2.2.1 - m.2.1) + (m'.2.1 - c1.2.2.2.2.1) = slots + (m'.2.1 - m.2.1) by omega] at h3
          exact h3
        have same : c1.2.2.2.1 = m.1 → c1.2.2.2.2.1 = m.2.1 → ∀ (H' : Heap) (locs' : List Loc) (LS' : Array Slot), am_At al b sa D dA Z s c1.2.2.2 H' locs' → am_lok b sa r.2.2.1 c1.2.1 LS' → W p l e R s mi args below meth c H' locs' cells slots (MQ below (am_Qc al b sa D dA v m') args s (cells + (m'.1 - m.1)) (slots + (m'.2.1 - m.2.1)) (fun q => b ≤ q)) (F0 mi c1.1 LS' (c1.2.2.1.map (am_cv b sa))) := by
          intro e1 e2 H' locs' LS' A' L'
          have := next H' locs' LS' A' L'
          rw [e1, e2, Nat.sub_self, Nat.sub_self, Nat.add_zero, Nat.add_zero] at this
          exact this
        have hrec : ∀ d' z rz as v m', am_ms[z]? = some rz → am_rec al n d' z as m = some (v, m') → am_Met l al b sa D dA Z d' rz as m v m' ∧ m'.1 ≤ am_S := by
          intro d' z rz as v m' hrz hr
          unfold am_rec at hr
          rw [hrz] at hr
          simp only at hr
          split at hr
          · next hlen =>
            have hup := am_run_up n _ _ _ _ _ _ _ _ hr
            refine ⟨am_met_of hrz hlen hm hup (fun {p e R s mi args below meth c LS} F A hz L hR => ?_), hup.2.2 hm⟩
            exact am_sound hZ hZ1 hstr hprim n d' z 0 rz _ [] m v m' hrz hr p e R s mi args below meth c s.heap [] 0 0 LS F A hz L hR
          · cases hr
        unfold am_step at hc
        dsimp only at hc
        split at hc
        · next z => exact am_callsW (Or.inl ⟨rfl, rfl⟩) hZ hstr hrec (hprim m) F A hz L hok hc ⟨by omega, by omega⟩ (fun H' locs' A' e1 => next H' locs' LS A' (by rw [e1]; exact L))
        · next z => exact am_callsW (Or.inr (Or.inl ⟨rfl, rfl⟩)) hZ hstr hrec (hprim m) F A hz L hok hc ⟨by omega, by omega⟩ (fun H' locs' A' e1 => next H' locs' LS A' (by rw [e1]; exact L))
        · next z => exact am_callsW (Or.inr (Or.inr ⟨rfl, rfl⟩)) hZ hstr hrec (hprim m) F A hz L hok hc ⟨by omega, by omega⟩ (fun H' locs' A' e1 => next H' locs' LS A' (by rw [e1]; exact L))
        · split at hc
          · next q hq =>
            cases hc
            have e0 := am_s1_m hq
            exact am_s1W F A.2.2.1 hZ1 L hok hq (fun LS' L' => same (by rw [e0]) (by rw [e0]) H locs LS' (by rw [e0]; exact A) L')
          · split at hc
            · next q hq =>
              cases hc
              have e0 := am_s2_m hq
              exact am_s2W F L hok hq (fun LS' L' => same (by rw [e0]) (by rw [e0]) H locs LS' (by rw [e0]; exact A) L')
            · split at hc
              · next q hq =>
                cases hc
                have e0 := am_s3_m hq
                exact am_s3W F L hok hq (fun LS' L' => same (by rw [e0]) (by rw [e0]) H locs LS' (by rw [e0]; exact A) L')
              · split at hc
                · next q hq =>
                  cases hc
                  obtain ⟨e1, e2, e3⟩ := am_s4_m hq
                  exact am_s4W F A L hok hq (fun H' locs' A' => same e1 e2 H' locs' LS A' (by rw [e3]; exact L))
                · obtain ⟨-, -, -, -, e3⟩ := am_s5_m hc
                  exact am_s5W F A hz L hok hc ⟨by omega, by omega⟩ (fun H' locs' A' => next H' locs' LS A' (by rw [e3]; exact L))
      · cases h
end Sound2
