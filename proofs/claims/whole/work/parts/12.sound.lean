/-! NEW CELLS, CALLS, RUNS: what the abstract machine answers, the machine answers -/
theorem am_arr : Cond.arrayClass .int ∈ am_WS ∧ Cond.arrayClass .long ∈ am_WS ∧ Cond.arrayClass .char ∈ am_WS ∧ Cond.arrayClass .boolean ∈ am_WS :=
  ⟨am_W_in (j := 195) (by decide +kernel), am_W_in (j := 196) (by decide +kernel), am_W_in (j := 194) (by decide +kernel), am_W_in (j := 508) (by decide +kernel)⟩
theorem am_cpw : Cond.native arraycopyName ∈ am_WS ∧ Cond.static arraycopyName ∈ am_WS ∧ Cond.initialized "java/lang/System" ∈ am_WS := ⟨am_W_in (j := 915) (by decide +kernel), am_W_in (j := 914) (by decide +kernel), am_W_in (j := 150) (by decide +kernel)⟩
theorem am_obw : Cond.instanceMethod Lib.objectInit ∈ am_WS ∧ Cond.code Lib.objectInit ⟨#[0xb1]⟩ 1 none ∈ am_WS := ⟨am_W_in (j := 162) (by decide +kernel), am_W_in (j := 163) (by decide +kernel)⟩
theorem am_RA_inj {U : State} {cA cB : ClassId} {ty : FieldType} (h1 : va_RA U cA ty) (h2 : va_RA U cB ty) : cA = cB := by
  cases ty with
  | object C =>
    obtain ⟨_, _, _, _, _, a⟩ := h1
    obtain ⟨_, _, _, _, _, c⟩ := h2
    exact Option.some.inj (a.symm.trans c)
  | _ =>
    have a : U.vm.findClass _ = some cA := h1
    have c : U.vm.findClass _ = some cB := h2
    exact Option.some.inj (a.symm.trans c)
theorem am_cA {D : va_G} {dA : Nat → ClassId} {s : State} {cA x : ClassId} {ty : FieldType} {i : Nat} (hK : va_K D vwCl (am_tys dA) s) (hK1 : va_K D vwCl (am_tys dA ++ [(cA, ty)]) s) (hi : (am_tys dA)[i]? = some (x, ty)) : cA = x :=
  am_RA_inj (hK1.2 6 (cA, ty) rfl).2 (hK.2 i (x, ty) hi).2
section Sound
variable {p : Program} {l : Launch} {e : Env} {R : Room} {s : State} {mi : MethodId} {args : Array Value} {below : List Frame} {meth : Method} {c : Code} {H : Heap} {locs : List Loc} {cells slots : Nat} {Q : State → Prop}
variable {al : Bool} {b sa : Nat} {D : va_G} {dA : Nat → ClassId} {Z : State → Prop} {d : Nat} {r : am_Rec} {pc len : Nat} {ls : am_L} {LS : Array Slot} {st : List Value} {m : am_M} {c' : am_C}
/-- with cells made, the heap's size is known -/
def am_sz (al : Bool) (b : Nat) (m : am_M) (s : State) (cells : Nat) : Prop := al = true → b + m.1 = s.heap.size + cells
theorem am_At_le (A : am_At al b sa D dA Z s m H locs) : b + m.1 ≤ H.size := by
  have hS := A.2.1.1
  have hb := A.2.2.2.1
  rcases Nat.eq_zero_or_pos m.1 with h | h
  · omega
  · have h1 : am_g m (m.1 - 1) = some (m.2.2 (m.1 - 1)) := by unfold am_g; rw [if_pos (by omega)]
    have h2 := (A.1 _ _ (am_ws_get h1)).lt
    simp only at h2
    omega
theorem am_At_hs {T : State} (A : am_At al b sa D dA Z s m H locs) (hz : am_sz al b m s cells) (hT : T.heap = H) (X : Stand p l e R s mi args below meth c T locs cells slots) : am_hs al b m H := by
  have h1 := am_At_le A
  have h2 : T.heap.size ≤ s.heap.size + cells := X.same.2.2.1
  rw [hT] at h2
  unfold am_hs
  split
  · next ha => have := hz ha; omega
  · exact h1
theorem am_W_of {g : JFrame} (h : ∀ T : State, T.heap = H → Stand p l e R s mi args below meth c T locs cells slots → W p l e R s mi args below meth c H locs cells slots Q g) : W p l e R s mi args below meth c H locs cells slots Q g := fun T hT X => h T hT X T hT X
theorem am_kt {r : am_Rec} {idx ci : Nat} (hi : idx < 1000) (h : (am_KT.lookup (r.2.2.2.2.1.1 * 1000 + idx)).map (fun e => e.1) = some ci) {C : String} (hC : am_cn[r.2.2.2.2.1.1]? = some C) : ∃ q : vw_C, vwCl[ci]? = some q ∧ Cond.classLink C idx q.1 ∈ am_WS := by
  cases hl : am_KT.lookup (r.2.2.2.2.1.1 * 1000 + idx) with
  | none => rw [hl] at h; cases h
  | some v =>
    rw [hl] at h
    have h1 : v.1 = ci := Option.some.inj h
    have h2 := List.all_eq_true.mp am_KT_ok _ (am_lookup_mem hl)
    unfold am_okKT at h2
    simp only [show (r.2.2.2.2.1.1 * 1000 + idx) / 1000 = r.2.2.2.2.1.1 by omega, show (r.2.2.2.2.1.1 * 1000 + idx) % 1000 = idx by omega, hC, h1] at h2
    cases hq : vwCl[ci]? with
    | none => rw [hq] at h2; cases h2
    | some q =>
      rw [hq] at h2
      exact ⟨q, rfl, am_W_in h2⟩
theorem am_s5_m {ins : Instr} (h : am_s5 al am_dv ins pc ls st m = some c') : al = true ∧ m.1 < am_S ∧ c'.2.2.2.1 = m.1 + 1 ∧ m.2.1 ≤ c'.2.2.2.2.1 ∧ c'.2.1 = ls := by
  unfold am_s5 at h
  split at h
  · next ha =>
    refine ⟨ha.1, ha.2, ?_⟩
    cases ins <;> simp only at h <;> (repeat' split at h) <;> first | (cases h; done) | (cases h; exact ⟨rfl, Nat.le_add_right _ _, rfl⟩)
  · cases h
theorem am_tyA : (∀ n : Nat, n ≤ 1000000 → n * componentBytes .int ≤ 536870912) ∧ (∀ n : Nat, n ≤ 1000000 → n * componentBytes .long ≤ 536870912) ∧ (∀ n : Nat, n ≤ 1000000 → n * componentBytes .char ≤ 536870912) ∧ (∀ n : Nat, n ≤ 1000000 → n * componentBytes .boolean ≤ 536870912) := by
  refine ⟨fun n h => ?_, fun n h => ?_, fun n h => ?_, fun n h => ?_⟩ <;> simp only [componentBytes] <;> omega
/-- a new cell lies at b + m.1 -/
theorem am_fresh (A : am_At al b sa D dA Z s m H locs) (hz : am_sz al b m s cells) (hal : al = true) {q : Nat} {x : va_E} {H1 : Heap} (hP : va_P D vwCl (am_ws b sa dA m ++ [(q, x)]) H1) (hD : va_D (fun q => b ≤ q) (am_ws b sa dA m ++ [(q, x)])) (hs : H1.size ≤ s.heap.size + (cells + 1)) : q = b + m.1 := by
  have hl : (am_ws b sa dA m).length = m.1 := by simp [am_ws]
  have hq : (am_ws b sa dA m ++ [(q, x)])[m.1]? = some (q, x) := by rw [List.getElem?_append_right (by omega), hl, Nat.sub_self]; rfl
  have h1 := (hP _ _ hq).lt
  have h2 : b ≤ q := hD.2 _ _ hq
  have h3 := hz hal
  simp only at h1
  rcases Nat.lt_or_ge q (b + m.1) with h | h
  · exfalso
    have hg : am_g m (q - b) = some (m.2.2 (q - b)) := by unfold am_g; rw [if_pos (by omega)]
    have h4 := am_ws_get (b := b) (sa := sa) (dA := dA) hg
    have h5 : (am_ws b sa dA m ++ [(q, x)])[q - b]? = some (b + (q - b), am_ce b sa dA (m.2.2 (q - b))) := by
      rw [List.getElem?_append_left (List.getElem?_eq_some_iff.mp h4).1]
      exact h4
    have h6 := hD.1 _ _ _ _ h5 hq (by show b + (q - b) = q; omega)
    omega
  · omega
theorem am_At_new {x : va_E} {n : Nat} (A : am_At al b sa D dA Z s m H locs) {H1 : Heap} {locs1 : List Loc} (hm : m.1 < am_S) (hP : va_P D vwCl (am_ws b sa dA m ++ [(b + m.1, am_ce b sa dA x)]) H1) (hS : va_S (fun q => b ≤ q) s.heap H1 locs1) : am_At al b sa D dA Z s (am_new m x n) H1 locs1 :=
  ⟨by rw [am_ws_new]; exact hP, hS, A.2.2.1, A.2.2.2.1, hm⟩
theorem am_s5W {ins : Instr} (F : am_Fx p s mi args meth c R d r) (A : am_At al b sa D dA Z s m H locs) (hz : am_sz al b m s cells) (L : am_lok b sa r.2.2.1 ls LS) (hok : am_okI r (pc, ins, len) = true) (h : am_s5 al am_dv ins pc ls st m = some c')
    (hR : cells + (c'.2.2.2.1 - m.1) ≤ R.cells ∧ slots + (c'.2.2.2.2.1 - m.2.1) ≤ R.slots)
    (k : ∀ H' locs', am_At al b sa D dA Z s c'.2.2.2 H' locs' → W p l e R s mi args below meth c H' locs' (cells + (c'.2.2.2.1 - m.1)) (slots + (c'.2.2.2.2.1 - m.2.1)) Q (F0 mi c'.1 LS (c'.2.2.1.map (am_cv b sa)))) : W p l e R s mi args below meth c H locs cells slots Q (F0 mi pc LS (st.map (am_cv b sa))) := by
  obtain ⟨hal, hmS, hm1, -, -⟩ := am_s5_m h
  unfold am_s5 at h
  rw [if_pos ⟨hal, hmS⟩] at h
  have hx := F.1
  have hb := F.2.1
  have hown := F.2.2.2.2.1
  have hC := F.2.2.2.2.2.2.2.2.2.2
  have hP := A.1
  have hS := A.2.1
  have hK := A.2.2.1.1
  have hD := am_ws_D b sa dA m
  have hts := F.2.2.2.2.2.1
  have hA : ∀ q : Nat, s.heap.size ≤ q → b ≤ q := fun q h => Nat.le_trans A.2.2.2.1 h
  have hrf : am_cv b sa (.ref m.1) = .ref (b + m.1) := by
    show Value.ref (if m.1 = am_S then sa else b + m.1) = _
    rw [if_neg (by omega)]
  have key : ∀ (x : va_E) (n : Nat) (q : Nat) (H1 : Heap) (pc1 : Nat) (t : List Value), c' = (pc1, ls, .ref m.1 :: t, am_new m x n) → va_P D vwCl (am_ws b sa dA m ++ [(q, am_ce b sa dA x)]) H1 → va_D (fun q => b ≤ q) (am_ws b sa dA m ++ [(q, am_ce b sa dA x)]) → va_S (fun q => b ≤ q) s.heap H1 locs → W p l e R s mi args below meth c H1 locs (cells + 1) (slots + n) Q (F0 mi pc1 LS (.ref q :: t.map (am_cv b sa))) := by
    intro x n q H1 pc1 t hc hP1 hD1 hS1
    refine am_W_of fun T hT X => ?_
    have h2 : T.heap.size ≤ s.heap.size + (cells + 1) := X.same.2.2.1
    rw [hT] at h2
    have hq := am_fresh A hz hal hP1 hD1 h2
    subst hq
    have h3 := k H1 locs (by rw [hc]; exact am_At_new A hmS hP1 hS1)
    rw [hc] at h3
    simp only [am_new, Nat.add_sub_cancel_left] at h3
    have e1 : (Value.ref m.1 :: t).map (am_cv b sa) = .ref (b + m.1) :: t.map (am_cv b sa) := by rw [List.map_cons, hrf]
    rw [e1] at h3
    exact h3
  cases ins with
  | new ci =>
    simp only at h
    split at h
    · next fs hfs =>
      cases h
      unfold am_okI at hok
      simp only at hok
      split at hok
      · next h99 => subst h99; cases hfs
      · split at hok
        · next idx hdec =>
          simp only [Bool.and_eq_true, decide_eq_true_eq] at hok
          obtain ⟨q, hq, hw⟩ := am_kt hok.2 hok.1 hC
          obtain ⟨ty0, ht, -, -, fs', e1, e2, e3⟩ := am_fl hq
          rw [hfs] at e1
          cases e1
          have e4 : fs.map (am_cv b sa) = fs := by
            match ci, hfs with
            | 0, hfs => cases hfs; rfl
            | 1, hfs => cases hfs; rfl
            | 2, hfs => cases hfs; rfl
            | 3, hfs => cases hfs; rfl
            | 4, hfs => cases hfs; rfl
            | 5, hfs => cases hfs; rfl
            | 6, hfs => cases hfs; rfl
            | 7, hfs => cases hfs; rfl
            | 8, hfs => cases hfs; rfl
            | 9, hfs => cases hfs; rfl
            | 10, hfs => cases hfs; rfl
            | 11, hfs => cases hfs; rfl
            | 12, hfs => cases hfs; rfl
            | n + 13, hfs => cases hfs
          simp only [am_new, Nat.add_sub_cancel_left] at hR
          have h5 := key (.inr (ci, fs)) fs.length
          refine va_new (own := r.1.cls) (C := q.1) (T := q.2.1) (N := q.2.2) (fs := fs) hx hb hts (fun w hw => List.mem_cons_of_mem _ ((am_cl hq).2.2 w hw)) ty0 ht hown (F.hts hw) (F.hts (am_cl hq).1) (F.hts (am_cl hq).2.1) hK hP hD hS hA hq e3 hR.1 (by rw [← e2]; exact hR.2) hdec (fun q9 H1 hP1 hD1 hS1 => ?_)
          rw [← e2]
          have e5 : am_ce b sa dA (.inr (ci, fs)) = .inr (ci, fs) := by show Sum.inr (ci, fs.map (am_cv b sa)) = _; rw [e4]
          exact h5 q9 H1 (pc + 3) st rfl (by rw [e5]; exact hP1) (by rw [e5]; exact hD1) hS1
        · cases hok
    · cases h
  | newarray ty =>
    simp only at h
    split at h
    · next n t =>
      split at h
      · next hn =>
        have hn0 : ¬ n < 0 := by rw [Int32.lt_iff_toInt_lt, Int32.toInt_zero]; omega
        have hnN : n.toNatClampNeg ≤ 1000000 := by show n.toInt.toNat ≤ 1000000; omega
        split at h
        · cases h
          simp only [am_new, Nat.add_sub_cancel_left] at hR
          refine va_newa (atype := .int) (ty := .int) (a0 := (n.toNatClampNeg, .inl (fun _ => 0))) hx hb (F.hts am_arr.1) rfl hK hP hD hS hA (fun cA => rfl) hn0 rfl (am_tyA.1 _ hnN) hR.1 hR.2 (of_decide_eq_true hok) (fun q cA H1 hK1 hP1 hD1 hS1 => ?_)
          have ec : cA = dA 0 := am_cA hK hK1 (i := 0) rfl
          subst ec
          exact key (.inl (0, n.toNatClampNeg, .inl (fun _ => 0))) _ q H1 (pc + 2) t rfl hP1 hD1 hS1
        · cases h
          simp only [am_new, Nat.add_sub_cancel_left] at hR
          refine va_newa (atype := .long) (ty := .long) (a0 := (n.toNatClampNeg, .inr (.inl (fun _ => 0)))) hx hb (F.hts am_arr.2.1) rfl hK hP hD hS hA (fun cA => rfl) hn0 rfl (am_tyA.2.1 _ hnN) hR.1 hR.2 (of_decide_eq_true hok) (fun q cA H1 hK1 hP1 hD1 hS1 => ?_)
          have ec : cA = dA 1 := am_cA hK hK1 (i := 1) rfl
          subst ec
          exact key (.inl (1, n.toNatClampNeg, .inr (.inl (fun _ => 0)))) _ q H1 (pc + 2) t rfl hP1 hD1 hS1
        · cases h
          simp only [am_new, Nat.add_sub_cancel_left] at hR
          refine va_newa (atype := .char) (ty := .char) (a0 := (n.toNatClampNeg, .inl (fun _ => 0))) hx hb (F.hts am_arr.2.2.1) rfl hK hP hD hS hA (fun cA => rfl) hn0 rfl (am_tyA.2.2.1 _ hnN) hR.1 hR.2 (of_decide_eq_true hok) (fun q cA H1 hK1 hP1 hD1 hS1 => ?_)
          have ec : cA = dA 2 := am_cA hK hK1 (i := 2) rfl
          subst ec
          exact key (.inl (2, n.toNatClampNeg, .inl (fun _ => 0))) _ q H1 (pc + 2) t rfl hP1 hD1 hS1
        · cases h
          simp only [am_new, Nat.add_sub_cancel_left] at hR
          refine va_newa (atype := .boolean) (ty := .boolean) (a0 := (n.toNatClampNeg, .inl (fun _ => 0))) hx hb (F.hts am_arr.2.2.2) rfl hK hP hD hS hA (fun cA => rfl) hn0 rfl (am_tyA.2.2.2 _ hnN) hR.1 hR.2 (of_decide_eq_true hok) (fun q cA H1 hK1 hP1 hD1 hS1 => ?_)
          have ec : cA = dA 3 := am_cA hK hK1 (i := 3) rfl
          subst ec
          exact key (.inl (3, n.toNatClampNeg, .inl (fun _ => 0))) _ q H1 (pc + 2) t rfl hP1 hD1 hS1
        · cases h
      · cases h
    · cases h
  | anewarray ty =>
    simp only at h
    split at h
    · next n t =>
      split at h
      · next hn =>
        have hn0 : ¬ n < 0 := by rw [Int32.lt_iff_toInt_lt, Int32.toInt_zero]; omega
        have hnN : n.toNatClampNeg ≤ 1000000 := by show n.toInt.toNat ≤ 1000000; omega
        cases h
        unfold am_okI at hok
        simp only at hok
        split at hok
        · next idx hdec =>
          simp only [Bool.and_eq_true, decide_eq_true_eq] at hok
          obtain ⟨q, hq, hw⟩ := am_kt hok.1.2 hok.1.1 hC
          simp only [am_new, Nat.add_sub_cancel_left] at hR
          have e1 : am_ce b sa dA (.inl (ty, n.toNatClampNeg, .inr (.inr (.inr (.inr (fun _ => none)))))) = .inl (dA ty, n.toNatClampNeg, .inr (.inr (.inr (.inr (fun _ => none))))) := rfl
          rcases hn.2.2 with rfl | rfl
          · cases hq
            refine va_newq (own := r.1.cls) (C := RX4) hx hb hown (F.hts hw) A.2.2.1.2.2.1.1 hK hP hD hS hA hn0 rfl (by omega) hR.1 hR.2 hdec (fun q cA H1 hK1 hP1 hD1 hS1 => ?_)
            have ec : cA = dA 4 := am_cA hK hK1 (i := 4) rfl
            subst ec
            exact key (.inl (4, n.toNatClampNeg, .inr (.inr (.inr (.inr (fun _ => none)))))) _ q H1 (pc + 3) t rfl hP1 hD1 hS1
          · cases hq
            refine va_newq (own := r.1.cls) (C := RX9) hx hb hown (F.hts hw) A.2.2.1.2.2.1.2 hK hP hD hS hA hn0 rfl (by omega) hR.1 hR.2 hdec (fun q cA H1 hK1 hP1 hD1 hS1 => ?_)
            have ec : cA = dA 5 := am_cA hK hK1 (i := 5) rfl
            subst ec
            exact key (.inl (5, n.toNatClampNeg, .inr (.inr (.inr (.inr (fun _ => none)))))) _ q H1 (pc + 3) t rfl hP1 hD1 hS1
        · cases hok
      · cases h
    · cases h
  | _ => simp at h
end Sound
