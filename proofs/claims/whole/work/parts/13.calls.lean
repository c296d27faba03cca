/-! CALLS of the abstract machine are the machine's -/
section Calls2
variable {p : Program} {l : Launch} {e : Env} {R : Room} {s : State} {mi : MethodId} {args : Array Value} {below : List Frame} {meth : Method} {c : Code} {H : Heap} {locs : List Loc} {cells slots : Nat} {Q : State → Prop}
variable {al : Bool} {b sa : Nat} {D : va_G} {dA : Nat → ClassId} {Z : State → Prop} {d : Nat} {r : am_Rec} {pc len : Nat} {ls : am_L} {LS : Array Slot} {st : List Value} {m : am_M} {c' : am_C}
theorem am_runW {mc ms : Nat} {st0 rest : List Value} {Qa : State → Outcome → State → Prop} {free : Addr → Prop} (hr : va_Run p l e R s mi args below meth c H locs cells slots mc ms (F0 mi pc LS st0) rest Qa free)
    (kk : ∀ (v : Option Value) (st₀ t T' : State) (L : List Loc), st₀.heap = H → T'.heap = t.heap → s.WarmedH T'.vm → (∀ q ∈ L, free q.base) → Qa st₀ (.returned v) t → W p l e R s mi args below meth c T'.heap (locs ++ L) (cells + mc) (slots + ms) Q (F0 mi (pc + 3) LS (v.toList ++ rest))) : W p l e R s mi args below meth c H locs cells slots Q (F0 mi pc LS st0) := by
  intro T hT X
  obtain ⟨v, st₀, t, T', L, h0, X', hL, e1, e2, hq, st⟩ := hr T hT X
  obtain ⟨t2, a1, b1⟩ := kk v st₀ t T' L h0 e1 X'.warmed hL hq T' rfl X'
  exact ⟨t2, st t2 a1, b1⟩
theorem am_copyW {idx : Nat} (F : am_Fx p s mi args meth c R d r) (A : am_At al b sa D dA Z s m H locs) (L : am_lok b sa r.2.2.1 ls LS) (hd : 1 ≤ d) (hdec : decode r.2.1 pc = .ok (.invokestatic idx, 3)) (hw : Cond.methodLink r.1.cls idx arraycopyName ∈ am_WS) (h : am_copy pc ls st m = some c')
    (k : ∀ H' locs', am_At al b sa D dA Z s c'.2.2.2 H' locs' → W p l e R s mi args below meth c H' locs' cells slots Q (F0 mi c'.1 LS (c'.2.2.1.map (am_cv b sa)))) : W p l e R s mi args below meth c H locs cells slots Q (F0 mi pc LS (st.map (am_cv b sa))) := by
  unfold am_copy at h
  split at h
  · next n dp a sp a0 t =>
    split at h
    · next n0 f n1 g ha0 ha =>
      split at h
      · next hh =>
        cases h
        have hm := A.2.2.2.2
        have hfr := F.2.2.2.2.2.2.2.2.1
        have hlo := F.2.2.2.2.2.2.2.2.2.1
        show W p l e R s mi args below meth c H locs cells slots Q (F0 mi pc LS (.int n :: .int dp :: am_cv b sa (.ref a) :: .int sp :: am_cv b sa (.ref a0) :: t.map (am_cv b sa)))
        rw [am_rf ha hm, am_rf ha0 hm]
        have neg : ∀ z : Int32, 0 ≤ z.toInt → ¬ z < 0 := fun z hz => by rw [Int32.lt_iff_toInt_lt, Int32.toInt_zero]; omega
        have hnf : nativeFrameWords "java/lang/System" "arraycopy" 5 ≤ 40 := by decide +kernel
        refine va_copyi (ty := .int) F.1 F.2.1 (by rw [F.2.2.2.1]; exact L.2.1.symm) F.2.2.2.2.1 (F.hts hw) (F.hts am_cpw.1) (F.hts am_cpw.2.1) (F.hts am_cpw.2.2) A.2.2.1.1 A.1 (am_ws_D b sa dA m) A.2.1 a0 a 0 0 (am_ws_get ha0) (am_ws_get ha) rfl rfl rfl (neg sp hh.1) (neg dp hh.2.1) (neg n hh.2.2.1) ?_ ?_ (fun i _ => rfl) (by rw [hfr]; exact hd) ?_ hdec (fun H1 locs1 hP1 _ hS1 => k H1 locs1 (am_At_put A (am_g_lt ha).1 hP1 hS1))
        · show sp.toInt.toNat + n.toInt.toNat ≤ n0
          omega
        · show dp.toInt.toNat + n.toInt.toNat ≤ n1
          omega
        · rw [am_cats, hlo]
          omega
      · cases h
    · cases h
  · cases h
/-- behind a call -/
theorem am_backW {d' : Nat} {rz : am_Rec} {as rest : List Value} {v : Option Value} {m' : am_M} (A : am_At al b sa D dA Z s m H locs) (hz : am_sz al b m s cells) (hmS : m'.1 ≤ am_S)
    (hrun : am_hs al b m H → va_Run p l e R s mi args below meth c H locs cells slots (m'.1 - m.1) (m'.2.1 - m.2.1) (F0 mi pc LS (st.map (am_cv b sa))) (rest.map (am_cv b sa)) (am_Qc al b sa D dA v m' (as.map (am_cv b sa)).toArray) (fun q => b ≤ q))
    (k : ∀ H' locs', am_At al b sa D dA Z s m' H' locs' → W p l e R s mi args below meth c H' locs' (cells + (m'.1 - m.1)) (slots + (m'.2.1 - m.2.1)) Q (F0 mi (pc + 3) LS ((v.toList ++ rest).map (am_cv b sa)))) : W p l e R s mi args below meth c H locs cells slots Q (F0 mi pc LS (st.map (am_cv b sa))) := by
  refine am_W_of fun T hT X => am_runW (hrun (am_At_hs A hz hT X)) (fun v1 st₀ t T' L h0 e1 hW hL hq => ?_)
  obtain ⟨h1, h2, h3, h4, h5⟩ := hq
  have hv : v1 = v.map (am_cv b sa) := Outcome.returned.inj h1
  subst hv
  rw [h0] at h2 h5
  have h6 := k T'.heap (locs ++ L) ⟨by rw [e1]; exact h4, ⟨Nat.le_trans A.2.1.1 (by rw [e1]; exact h2), fun q g1 g2 => by rw [e1, h5 q (by omega)]; exact A.2.1.2.1 q g1 g2, fun q hq => by
    rcases List.mem_append.mp hq with h | h
    · exact A.2.1.2.2 q h
    · exact hL q h⟩, A.2.2.1, A.2.2.2.1, hmS⟩
  have e2 : (v.toList ++ rest).map (am_cv b sa) = (v.map (am_cv b sa)).toList ++ rest.map (am_cv b sa) := by
    cases v <;> simp
  rw [e2] at h6
  exact h6
/-- the start of a callee -/
theorem am_preW {d' : Nat} {rz : am_Rec} {as : List Value} (hZ : am_Zok b Z) (A : am_At al b sa D dA Z s m H locs) (hs : am_hs al b m H) : ∀ U : State, U.heap = H → s.WarmedH U.vm → am_Pc al b sa D dA Z as m (as.map (am_cv b sa)).toArray U := by
  intro U hU hW
  refine ⟨rfl, by rw [hU]; exact hs, by rw [hU]; exact A.1, am_V_mv hZ hW A.2.2.2.1 (fun q hq => ?_) A.2.2.1⟩
  rw [hU]
  exact A.2.1.2.1 q (by have := A.2.2.2.1; omega) (by omega)
theorem am_wsG (F : am_Fx p s mi args meth c R d r) {z : Nat} {rz : am_Rec} (hrz : am_ms[z]? = some rz) : ∀ w ∈ am_wsR rz, ∀ (a' : Array Value) (U : State), s.WarmedH U.vm → w.before a' U = true := by
  intro w hw a' U hW
  have h1 : w ∈ am_WS := by
    rcases List.mem_cons.mp hw with h | h
    · rw [h]; exact (am_meth hrz).1
    · exact h
  exact word_at hW (good_of_word (List.mem_filter.mp h1).2) (F.hts h1)
theorem am_callB {idx z d' mc ms : Nat} {rz : am_Rec} (F : am_Fx p s mi args meth c R d r) (hd : d = d' + 1) (hrz : am_ms[z]? = some rz) (hw : Cond.methodLink r.1.cls idx rz.1 ∈ am_WS) : CallB R s args r.1.cls idx rz.1 rz.2.1 rz.2.2.1 rz.2.2.2.1 (am_wsR rz) (am_rm d' mc ms) mc ms rz.2.2.2.2.1.2.1 := by
  obtain ⟨m1, m2, m3, m4, -, -⟩ := am_meth hrz
  have hfr := F.2.2.2.2.2.2.2.2.1
  have hlo := F.2.2.2.2.2.2.2.2.2.1
  refine ⟨rfl, rfl, by rw [hfr, hd]; exact Nat.le_refl _, by rw [hlo, hd]; show 8 + (rz.2.2.1 + 11) + 64 * d' ≤ 64 * (d' + 1); omega, am_wsG F hrz, List.mem_cons_self, F.hts m1, F.hts m2, ⟨m4.1, m4.2.1⟩, fun sig hs => ?_, F.hts hw⟩
  have := m4.2.2.1
  rw [hs] at this
  exact (Option.some.inj this).symm
theorem am_callBN {idx z d' mc ms : Nat} {rz : am_Rec} (F : am_Fx p s mi args meth c R d r) (A : am_At al b sa D dA Z s m H locs) (hd : d = d' + 1) (hrz : am_ms[z]? = some rz) (hw : Cond.methodLinkNest r.1.cls idx rz.1 "EatKnown" ∈ am_NW) : va_CN R s args r.1.cls idx rz.1 "EatKnown" rz.2.1 rz.2.2.1 rz.2.2.2.1 (am_wsR rz) (am_rm d' mc ms) mc ms rz.2.2.2.2.1.2.1 := by
  obtain ⟨m1, m2, m3, m4, -, -⟩ := am_meth hrz
  have hfr := F.2.2.2.2.2.2.2.2.1
  have hlo := F.2.2.2.2.2.2.2.2.2.1
  refine ⟨⟨rfl, rfl, by rw [hfr, hd]; exact Nat.le_refl _, by rw [hlo, hd]; show 8 + (rz.2.2.1 + 11) + 64 * d' ≤ 64 * (d' + 1); omega, am_wsG F hrz, List.mem_cons_self⟩, F.hts m1, F.hts m2, ⟨m4.1, m4.2.1⟩, fun sig hs => ?_, va_Nw.use rfl (A.2.2.1.2.1 _ hw)⟩
  have := m4.2.2.1
  rw [hs] at this
  exact (Option.some.inj this).symm
theorem am_split {k : Nat} {as : List Value} {b sa : Nat} (h : (st.take k).reverse = as) : st.map (am_cv b sa) = (as.map (am_cv b sa)).reverse ++ (st.drop k).map (am_cv b sa) := by
  rw [← h, List.map_reverse, List.reverse_reverse, ← List.map_append, List.take_append_drop]
theorem am_callsW {kd z : Nat} {rec : Nat → Nat → List Value → am_M → Option (Option Value × am_M)} {ins : Instr} (hkd : (kd = 0 ∧ ins = .invokevirtual z) ∨ (kd = 1 ∧ ins = .invokestatic z) ∨ (kd = 2 ∧ ins = .invokespecial z))
    (hZ : am_Zok b Z) (hstr : ∀ U, Z U → sa < b ∧ ∃ cell : Cell, U.heap[sa]? = some cell ∧ cell.vm.isStatics = false ∧ U.vm.findClass "java/lang/String" = some cell.cls)
    (hrec : ∀ d' z rz as v m', am_ms[z]? = some rz → rec d' z as m = some (v, m') → am_Met l al b sa D dA Z d' rz as m v m' ∧ m'.1 ≤ am_S)
    (hprim : ∀ d' z rz as v m', am_ms[z]? = some rz → 276 ≤ z → 4 ≤ d' → am_prim z as m = some (v, m') → am_Met l al b sa D dA Z d' rz as m v m')
    (F : am_Fx p s mi args meth c R d r) (A : am_At al b sa D dA Z s m H locs) (hz : am_sz al b m s cells) (L : am_lok b sa r.2.2.1 ls LS) (hok : am_okI r (pc, ins, len) = true) (h : am_calls al rec d kd z pc ls st m = some c')
    (hR : cells + (c'.2.2.2.1 - m.1) ≤ R.cells ∧ slots + (c'.2.2.2.2.1 - m.2.1) ≤ R.slots)
    (k : ∀ H' locs', am_At al b sa D dA Z s c'.2.2.2 H' locs' → c'.2.1 = ls → W p l e R s mi args below meth c H' locs' (cells + (c'.2.2.2.1 - m.1)) (slots + (c'.2.2.2.2.1 - m.2.1)) Q (F0 mi c'.1 LS (c'.2.2.1.map (am_cv b sa)))) : W p l e R s mi args below meth c H locs cells slots Q (F0 mi pc LS (st.map (am_cv b sa))) := by
  have hC := F.2.2.2.2.2.2.2.2.2.2
  unfold am_calls at h
  split at h
  · cases h
  next d1 =>
  have same : ∀ {q : am_C}, q.2.2.2 = m → (∀ H' locs', am_At al b sa D dA Z s q.2.2.2 H' locs' → q.2.1 = ls → W p l e R s mi args below meth c H' locs' (cells + (q.2.2.2.1 - m.1)) (slots + (q.2.2.2.2.1 - m.2.1)) Q (F0 mi q.1 LS (q.2.2.1.map (am_cv b sa)))) → (∀ H' locs', am_At al b sa D dA Z s q.2.2.2 H' locs' → q.2.1 = ls → W p l e R s mi args below meth c H' locs' cells slots Q (F0 mi q.1 LS (q.2.2.1.map (am_cv b sa)))) := by
    intro q hq g H' locs' a1 a2
    have := g H' locs' a1 a2
    rw [hq, Nat.sub_self, Nat.sub_self, Nat.add_zero, Nat.add_zero] at this
    exact this
  split at h
  · next hz0 =>
    -- Object.<init>
    subst hz0
    split at h
    · next a t =>
      split at h
      · cases h
      · next hh =>
        cases h
        have hins : ins = .invokespecial 9000 := by
          rcases hkd with ⟨-, rfl⟩ | ⟨-, rfl⟩ | ⟨-, rfl⟩
          · exfalso
            unfold am_okI at hok
            simp only at hok
            split at hok
            · simp only [Bool.and_eq_true] at hok
              have h9 := hok.2
              rw [show am_ms[9000]? = none from by decide +kernel] at h9
              cases h9
            · cases hok
          · exfalso
            unfold am_okI at hok
            simp only at hok
            split at hok
            · simp only [Bool.and_eq_true] at hok
              have h9 := hok.2
              rw [show am_ms[9000]? = none from by decide +kernel] at h9
              simp at h9
            · cases hok
          · rfl
        subst hins
        unfold am_okI at hok
        simp only at hok
        split at hok
        · next idx hdec =>
          rw [if_neg (by decide)] at hok
          simp only [Bool.and_eq_true, decide_eq_true_eq, if_true] at hok
          have hmt : (am_MT.lookup (r.2.2.2.2.1.1 * 1000 + idx)).map (fun e => (e.1, e.2.1)) = some (9000, 0) := by
            cases hl : am_MT.lookup (r.2.2.2.2.1.1 * 1000 + idx) with
            | none => rw [hl] at hok; exact absurd hok.1.1 (by simp)
            | some v =>
              rw [hl] at hok
              simp only [Option.map_some, Option.some.injEq] at hok
              simp only [Option.map_some, hok.1.1, hok.2]
          have hw := (am_mt hok.1.2 hmt hC).1 rfl
          have hfr := F.2.2.2.2.2.2.2.2.1
          have hlo := F.2.2.2.2.2.2.2.2.2.1
          have hk := same (q := (pc + 3, ls, t, m)) rfl k H locs A rfl
          have hra : am_cv b sa (.ref a) = .ref (b + a) := by
            show Value.ref (if a = am_S then sa else b + a) = _
            rw [if_neg (fun q => hh (Or.inl q))]
          show W p l e R s mi args below meth c H locs cells slots Q (F0 mi pc LS (am_cv b sa (.ref a) :: t.map (am_cv b sa)))
          rw [hra]
          refine W.objInit F.1 F.2.1 F.2.2.2.2.1 (F.hts hw) (F.hts am_obw.1) (F.hts am_obw.2) rfl (by rw [F.2.2.2.1]; exact L.2.1) rfl hdec (by rw [hfr]; omega) ?_ hk
          show 2 * 0 + _ + 12 ≤ _
          rw [am_cats, hlo]
          omega
        · cases hok
    · cases h
  next hz0 =>
  split at h
  · next hz1 =>
    subst hz1
    have hins : ins = .invokestatic 9001 := by
      rcases hkd with ⟨-, rfl⟩ | ⟨-, rfl⟩ | ⟨-, rfl⟩
      · exfalso
        unfold am_okI at hok
        simp only at hok
        split at hok
        · simp only [Bool.and_eq_true] at hok
          have h9 := hok.2
          rw [show am_ms[9001]? = none from by decide +kernel] at h9
          cases h9
        · cases hok
      · rfl
      · exfalso
        unfold am_okI at hok
        simp only at hok
        split at hok
        · rw [if_neg (by decide)] at hok
          simp only [Bool.and_eq_true] at hok
          have h9 := hok.2
          rw [if_neg (by decide), show am_ms[9001]? = none from by decide +kernel] at h9
          cases h9
        · cases hok
    subst hins
    unfold am_okI at hok
    simp only at hok
    split at hok
    · next idx hdec =>
      simp only [Bool.and_eq_true, decide_eq_true_eq] at hok
      have hmt : ∃ nest, (am_MT.lookup (r.2.2.2.2.1.1 * 1000 + idx)).map (fun e => (e.1, e.2.1)) = some (9001, nest) := by
        cases hl : am_MT.lookup (r.2.2.2.2.1.1 * 1000 + idx) with
        | none => rw [hl] at hok; exact absurd hok.1.1 (by simp)
        | some v =>
          rw [hl] at hok
          simp only [Option.map_some, Option.some.injEq] at hok
          exact ⟨v.2.1, by simp only [Option.map_some, hok.1.1]⟩
      obtain ⟨nest, hmt⟩ := hmt
      have hw := (am_mt hok.1.2 hmt hC).2.1 rfl
      have hcm : c'.2.2.2.1 = m.1 ∧ c'.2.2.2.2.1 = m.2.1 ∧ c'.2.1 = ls := by
        unfold am_copy at h
        (repeat' split at h) <;> first | (cases h; done) | (cases h; exact ⟨rfl, rfl, rfl⟩)
      refine am_copyW F A L (by omega) hdec hw h (fun H' locs' a1 => ?_)
      have := k H' locs' a1 hcm.2.2
      rw [hcm.1, hcm.2.1, Nat.sub_self, Nat.sub_self, Nat.add_zero, Nat.add_zero] at this
      exact this
    · cases hok
  next hz1 =>
  split at h
  · cases h
  next rz hrz =>
  have hz9 : z < 9000 := by
    have h1 := (List.getElem?_eq_some_iff.mp hrz).1
    have h2 : am_ms.length = 278 := by decide +kernel
    omega
  simp only at h
  generalize hkk : rz.2.2.2.2.1.2.1 + (if rz.2.2.2.2.1.2.2 = true then 0 else 1) = kk at h
  split at h
  · next hcond =>
    obtain ⟨hk1, hk2, hk3⟩ := hcond
    split at h
    · next v m' hres =>
      cases h
      simp only at hR k
      have hM : am_Met l al b sa D dA Z d1 rz (st.take kk).reverse m v m' ∧ m'.1 ≤ am_S := by
        split at hres
        · next h276 =>
          split at hres
          · next h4 =>
            refine ⟨hprim d1 z rz _ v m' hrz h276 h4 hres, ?_⟩
            have hm' : m' = m := by
              unfold am_prim at hres
              (repeat' split at hres) <;> first | (cases hres; done) | (cases hres; rfl)
            rw [hm']
            exact A.2.2.2.2
          · cases hres
        · exact hrec d1 z rz _ v m' hrz hres
      obtain ⟨hM, hmS⟩ := hM
      have hns : (F0 mi pc LS (st.map (am_cv b sa))).locals.size = r.2.2.1 := L.2.1
      have hcat : 2 * (F0 mi pc LS (st.map (am_cv b sa))).monitorRoom + (((st.drop kk).map (am_cv b sa)).map fun v => v.category).sum ≤ 8 := by
        rw [am_cats]
        show 2 * 0 + _ ≤ 8
        omega
      have hspl := am_split (b := b) (sa := sa) (k := kk) (st := st) rfl
      have hfin : ∀ H' locs', am_At al b sa D dA Z s m' H' locs' → W p l e R s mi args below meth c H' locs' (cells + (m'.1 - m.1)) (slots + (m'.2.1 - m.2.1)) Q (F0 mi (pc + 3) LS ((v.toList ++ st.drop kk).map (am_cv b sa))) := fun H' locs' a1 => k H' locs' a1 trivial
      have hS : CallFix p mi c r.2.1 r.2.2.1 s args (am_wsR r) r.1.cls := ⟨F.1, F.2.1, F.2.2.2.1, F.2.2.2.2.1, F.2.2.2.2.2.1⟩
      obtain ⟨m1, m2, m3, m4, m5, m6⟩ := am_meth hrz
      have hlen : (st.take kk).length = kk := by rw [List.length_take]; omega
      refine am_backW (d' := d1) (rz := rz) (as := (st.take kk).reverse) (rest := st.drop kk) A hz hmS (fun hhs => ?_) hfin
      rcases hkd with ⟨rfl, rfl⟩ | ⟨rfl, rfl⟩ | ⟨rfl, rfl⟩
      · -- virtual
        unfold am_okI at hok
        simp only at hok
        split at hok
        · next idx hdec =>
          simp only [Bool.and_eq_true, decide_eq_true_eq] at hok
          have hst := hok.2
          rw [hrz] at hst
          simp only [decide_eq_true_eq] at hst
          have hw := ((am_mt hok.1.2 hok.1.1 hC).2.2 rz hz9 hrz).2 (by decide)
          obtain ⟨i1, i2, i3⟩ := m6 hst.1
          have hk4 : kk = rz.2.2.2.2.1.2.1 + 1 := by rw [← hkk, hst.1]; rfl
          rcases hk3 with hk3 | hk3
          · rw [hst.1] at hk3; cases hk3
          · unfold am_rcv at hk3
            split at hk3
            · next a As hsplit =>
              have hrec2 : ∃ cellB : Cell, H[if a = am_S then sa else b + a]? = some cellB ∧ cellB.vm.isStatics = false ∧ s.vm.findClass rz.1.cls = some cellB.cls := by
                split at hk3
                · next ci fs hga =>
                  obtain ⟨e1, e2⟩ := of_decide_eq_true hk3
                  rw [if_neg e2]
                  have h7 : ∃ q : vw_C, vwCl[ci]? = some q ∧ q.1 = rz.1.cls := by
                    have h8 := m4.2.2.2
                    rw [← e1] at h8
                    have hP1 := A.1 _ _ (am_ws_get hga)
                    obtain ⟨q, hq, -⟩ := hP1
                    refine ⟨q, hq, ?_⟩
                    have hq' : vwCl[ci]? = some q := hq
                    match ci, hq', h8 with
                    | 0, hq', h8 => cases hq'; exact Option.some.inj h8
                    | 1, hq', h8 => cases hq'; exact Option.some.inj h8
                    | 2, hq', h8 => cases hq'; exact Option.some.inj h8
                    | 3, hq', h8 => cases hq'; exact Option.some.inj h8
                    | 4, hq', h8 => cases hq'; exact Option.some.inj h8
                    | 5, hq', h8 => cases hq'; exact Option.some.inj h8
                    | 6, hq', h8 => cases hq'; exact Option.some.inj h8
                    | 7, hq', h8 => cases hq'; exact Option.some.inj h8
                    | 8, hq', h8 => cases hq'; exact Option.some.inj h8
                    | 9, hq', h8 => cases hq'; exact Option.some.inj h8
                    | 10, hq', h8 => cases hq'; exact Option.some.inj h8
                    | 11, hq', h8 => cases hq'; exact Option.some.inj h8
                    | 12, hq', h8 => cases hq'; exact Option.some.inj h8
                    | n + 13, hq', h8 => cases hq'
                  obtain ⟨q, hq, hq1⟩ := h7
                  rw [← hq1]
                  exact va_recv A.2.2.1.1 A.1 hq (am_ws_get hga)
                · next hga =>
                  obtain ⟨e1, e2, -⟩ := of_decide_eq_true hk3
                  rw [if_pos e2]
                  obtain ⟨g1, cell, g2, g3, g4⟩ := hstr s A.2.2.1.2.2.2
                  have h8 := m4.2.2.2
                  rw [e1] at h8
                  have h9 : "java/lang/String" = rz.1.cls := Option.some.inj h8
                  rw [← h9]
                  refine ⟨cell, ?_, g3, g4⟩
                  rw [A.2.1.2.1 sa (by have := A.2.2.2.1; omega) (by omega)]
                  exact g2
              have hAs : ((st.take kk).reverse).map (am_cv b sa) = .ref (if a = am_S then sa else b + a) :: As.map (am_cv b sa) := by rw [hsplit]; rfl
              have hn : (As.map (am_cv b sa)).length = rz.2.2.2.2.1.2.1 := by
                have := congrArg List.length hsplit
                rw [List.length_reverse, hlen, List.length_cons] at this
                rw [List.length_map]
                omega
              have hrun := va_runV (e := e) (below := below) (meth := meth) (locs := locs) (As := As.map (am_cv b sa)) (rest := (st.drop kk).map (am_cv b sa)) (b := if a = am_S then sa else b + a) (g := F0 mi pc LS (st.map (am_cv b sa))) hS hM ⟨am_callB F rfl hrz hw, F.hts i1, F.hts (i3 hst.2)⟩ ⟨am_blind hZ, hrec2, by rw [← hAs]; exact am_preW (d' := d1) (rz := rz) hZ A hhs⟩ rfl hn hns (by show st.map (am_cv b sa) = _; rw [hspl, hAs]; simp) hcat hdec hR
              rw [← hAs] at hrun
              exact hrun
            · cases hk3
        · next hnot =>
          have : z = 9999 := of_decide_eq_true hok
          omega
      · -- static
        unfold am_okI at hok
        simp only at hok
        split at hok
        · next idx hdec =>
          simp only [Bool.and_eq_true, decide_eq_true_eq] at hok
          have hst := hok.2
          rw [if_neg hz1, hrz] at hst
          simp only [decide_eq_true_eq] at hst
          have hmt : ∃ nest, (am_MT.lookup (r.2.2.2.2.1.1 * 1000 + idx)).map (fun e => (e.1, e.2.1)) = some (z, nest) := by
            cases hl : am_MT.lookup (r.2.2.2.2.1.1 * 1000 + idx) with
            | none => rw [hl] at hok; exact absurd hok.1.1 (by simp)
            | some v =>
              rw [hl] at hok
              simp only [Option.map_some, Option.some.injEq] at hok
              exact ⟨v.2.1, by simp only [Option.map_some, hok.1.1]⟩
          obtain ⟨nest, hmt⟩ := hmt
          have hw := (am_mt hok.1.2 hmt hC).2.2 rz hz9 hrz
          have hk4 : kk = rz.2.2.2.2.1.2.1 := by rw [← hkk, hst]; rfl
          have hn : (((st.take kk).reverse).map (am_cv b sa)).length = rz.2.2.2.2.1.2.1 := by rw [List.length_map, List.length_reverse, hlen]; exact hk4
          by_cases hnest : nest = 1
          · exact va_runSN (As := ((st.take kk).reverse).map (am_cv b sa)) (rest := (st.drop kk).map (am_cv b sa)) (g := F0 mi pc LS (st.map (am_cv b sa))) hS hM ⟨am_callBN F A rfl hrz (hw.1 hnest), F.hts (m5 hst).1, trivial⟩ ⟨am_blind hZ, am_preW (d' := d1) (rz := rz) hZ A hhs⟩ rfl hn hns (by show st.map (am_cv b sa) = _; rw [hspl]) hcat hdec hR
          · exact va_runS (As := ((st.take kk).reverse).map (am_cv b sa)) (rest := (st.drop kk).map (am_cv b sa)) (g := F0 mi pc LS (st.map (am_cv b sa))) hS hM ⟨am_callB F rfl hrz (hw.2 hnest), F.hts (m5 hst).1⟩ ⟨am_blind hZ, am_preW (d' := d1) (rz := rz) hZ A hhs⟩ rfl hn hns (by show st.map (am_cv b sa) = _; rw [hspl]) hcat hdec hR
        · cases hok
      · -- special: a constructor
        unfold am_okI at hok
        simp only at hok
        split at hok
        · next idx hdec =>
          rw [if_neg (by omega)] at hok
          simp only [Bool.and_eq_true, decide_eq_true_eq] at hok
          have hst := hok.2
          rw [if_neg hz0, hrz] at hst
          simp only [decide_eq_true_eq] at hst
          have hmt : ∃ nest, (am_MT.lookup (r.2.2.2.2.1.1 * 1000 + idx)).map (fun e => (e.1, e.2.1)) = some (z, nest) := by
            cases hl : am_MT.lookup (r.2.2.2.2.1.1 * 1000 + idx) with
            | none => rw [hl] at hok; exact absurd hok.1.1 (by simp)
            | some v =>
              rw [hl] at hok
              simp only [Option.map_some, Option.some.injEq] at hok
              exact ⟨v.2.1, by simp only [Option.map_some, hok.1.1]⟩
          obtain ⟨nest, hmt⟩ := hmt
          have hw := (am_mt hok.1.2 hmt hC).2.2 rz hz9 hrz
          obtain ⟨i1, i2, i3⟩ := m6 hst.1
          have hret := i2 hst.2
          have hk4 : kk = rz.2.2.2.2.1.2.1 + 1 := by rw [← hkk, hst.1]; rfl
          rcases hk3 with hk3 | hk3
          · rw [hst.1] at hk3; cases hk3
          · unfold am_rcv at hk3
            split at hk3
            · next a As hsplit =>
              have hAs : ((st.take kk).reverse).map (am_cv b sa) = .ref (if a = am_S then sa else b + a) :: As.map (am_cv b sa) := by rw [hsplit]; rfl
              have hn : (As.map (am_cv b sa)).length = rz.2.2.2.2.1.2.1 := by
                have := congrArg List.length hsplit
                rw [List.length_reverse, hlen, List.length_cons] at this
                rw [List.length_map]
                omega
              by_cases hnest : nest = 1
              · have hcb := am_callBN (d' := d1) (mc := m'.1 - m.1) (ms := m'.2.1 - m.2.1) F A rfl hrz (hw.1 hnest)
                rw [hret] at hcb
                have hrun := va_runIN (e := e) (below := below) (meth := meth) (locs := locs) (As := As.map (am_cv b sa)) (rest := (st.drop kk).map (am_cv b sa)) (b := if a = am_S then sa else b + a) (g := F0 mi pc LS (st.map (am_cv b sa))) hS hM ⟨hcb, hst.2, F.hts i1⟩ ⟨am_blind hZ, by rw [← hAs]; exact am_preW (d' := d1) (rz := rz) hZ A hhs⟩ rfl hn hns (by show st.map (am_cv b sa) = _; rw [hspl, hAs]; simp) hcat hdec hR
                rw [← hAs] at hrun
                exact hrun
              · have hcb := am_callB (d' := d1) (mc := m'.1 - m.1) (ms := m'.2.1 - m.2.1) F rfl hrz (hw.2 hnest)
                rw [hret] at hcb
                have hrun := va_runI (e := e) (below := below) (meth := meth) (locs := locs) (As := As.map (am_cv b sa)) (rest := (st.drop kk).map (am_cv b sa)) (b := if a = am_S then sa else b + a) (g := F0 mi pc LS (st.map (am_cv b sa))) hS hM ⟨hcb, hst.2, F.hts i1⟩ ⟨am_blind hZ, by rw [← hAs]; exact am_preW (d' := d1) (rz := rz) hZ A hhs⟩ rfl hn hns (by show st.map (am_cv b sa) = _; rw [hspl, hAs]; simp) hcat hdec hR
                rw [← hAs] at hrun
                exact hrun
            · cases hk3
        · cases hok
    · cases h
  · cases h
end Calls2
