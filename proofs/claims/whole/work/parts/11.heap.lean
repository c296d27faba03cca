/-! READS, WRITES, CALLS of the abstract machine are the machine's -/
theorem am_zip_get {α β : Type} : ∀ {l : List α} {k : List β} {i : Nat} {a : α}, l.length = k.length → l[i]? = some a → ∃ c, (a, c) ∈ l.zip k ∧ k[i]? = some c
  | [], k, i, a, _, h => by simp at h
  | x :: l, [], i, a, hl, h => by simp at hl
  | x :: l, y :: k, i, a, hl, h => by
    cases i with
    | zero => cases h; exact ⟨y, by simp, rfl⟩
    | succ i =>
      obtain ⟨c, h1, h2⟩ := am_zip_get (l := l) (k := k) (i := i) (by simpa using hl) (by simpa using h)
      exact ⟨c, by rw [List.zip_cons_cons]; exact List.mem_cons_of_mem _ h1, by simpa using h2⟩
theorem am_cl {ci : Nat} {q : vw_C} (h : vwCl[ci]? = some q) : Cond.instantiable q.1 q.2.2 ∈ am_WS ∧ Cond.initialized q.1 ∈ am_WS ∧ ∀ w ∈ u_ws q.1 q.2.1 q.2.2, w ∈ am_WS := by
  obtain ⟨y, h1, h2⟩ := am_zip_get (k := am_YP) (by decide) h
  have h3 : (vwCl.zip am_YP)[ci]? = some (q, y) := by rw [List.getElem?_zip_eq_some]; exact ⟨h, h2⟩
  obtain ⟨z, h4, -⟩ := am_zip_get (k := am_KP) (by decide) h3
  have h5 := List.all_eq_true.mp am_Cl_ok _ h4
  unfold am_okCl at h5
  simp only [Bool.and_eq_true, decide_eq_true_eq, List.all_eq_true] at h5
  refine ⟨am_W_in h5.1.1.1, am_W_in h5.1.1.2, fun w hw => ?_⟩
  unfold u_ws at hw
  obtain ⟨k, hk, rfl⟩ := List.mem_map.mp hw
  exact am_W_in (h5.2 k hk)
theorem am_ft {r : am_Rec} {idx f : Nat} (hi : idx < 1000) (h : (am_FT.lookup (r.2.2.2.2.1.1 * 1000 + idx)).map (fun e => e.1) = some f) {C : String} (hC : am_cn[r.2.2.2.2.1.1]? = some C) :
    ∃ q : vw_C, vwCl[f / 100]? = some q ∧ f % 100 < q.2.2 ∧ (q.2.1 (f % 100)).1 = q.1 ∧ Cond.fieldLink C idx q.1 (q.2.1 (f % 100)).2.1 (q.2.1 (f % 100)).2.2.1 ∈ am_WS := by
  cases hl : am_FT.lookup (r.2.2.2.2.1.1 * 1000 + idx) with
  | none => rw [hl] at h; cases h
  | some v =>
    rw [hl] at h
    have h1 : v.1 = f := Option.some.inj h
    have h2 := List.all_eq_true.mp am_FT_ok _ (am_lookup_mem hl)
    unfold am_okFT at h2
    simp only [show (r.2.2.2.2.1.1 * 1000 + idx) / 1000 = r.2.2.2.2.1.1 by omega, show (r.2.2.2.2.1.1 * 1000 + idx) % 1000 = idx by omega, hC, h1] at h2
    cases hq : vwCl[f / 100]? with
    | none => rw [hq] at h2; cases h2
    | some q =>
      rw [hq] at h2
      simp only [Bool.and_eq_true, decide_eq_true_eq] at h2
      exact ⟨q, rfl, h2.1.1, h2.1.2, am_W_in h2.2⟩
theorem am_mt {r : am_Rec} {idx z nest : Nat} (hi : idx < 1000) (h : (am_MT.lookup (r.2.2.2.2.1.1 * 1000 + idx)).map (fun e => (e.1, e.2.1)) = some (z, nest)) {C : String} (hC : am_cn[r.2.2.2.2.1.1]? = some C) :
    (z = 9000 → Cond.methodLink C idx Lib.objectInit ∈ am_WS) ∧ (z = 9001 → Cond.methodLink C idx arraycopyName ∈ am_WS) ∧ ∀ rz, z < 9000 → am_ms[z]? = some rz → (nest = 1 → Cond.methodLinkNest C idx rz.1 "EatKnown" ∈ am_NW) ∧ (¬ nest = 1 → Cond.methodLink C idx rz.1 ∈ am_WS) := by
  cases hl : am_MT.lookup (r.2.2.2.2.1.1 * 1000 + idx) with
  | none => rw [hl] at h; cases h
  | some v =>
    rw [hl] at h
    have h1 := Option.some.inj h
    have h2 := List.all_eq_true.mp am_MT_ok _ (am_lookup_mem hl)
    obtain ⟨v1, v2, v3⟩ := v
    simp only [Prod.mk.injEq] at h1
    obtain ⟨rfl, rfl⟩ := h1
    unfold am_okMT at h2
    simp only [show (r.2.2.2.2.1.1 * 1000 + idx) / 1000 = r.2.2.2.2.1.1 by omega, show (r.2.2.2.2.1.1 * 1000 + idx) % 1000 = idx by omega, hC] at h2
    refine ⟨fun e => ?_, fun e => ?_, fun rz hz hrz => ?_⟩
    · rw [if_pos e] at h2; exact am_W_in h2
    · rw [if_neg (by omega), if_pos e] at h2; exact am_W_in h2
    · rw [if_neg (by omega), if_neg (by omega), hrz] at h2
      simp only at h2
      refine ⟨fun e => ?_, fun e => ?_⟩
      · rw [if_pos e] at h2; exact of_decide_eq_true h2
      · rw [if_neg e] at h2; exact am_W_in h2
theorem am_meth {z : Nat} {r : am_Rec} (h : am_ms[z]? = some r) : Cond.code r.1 r.2.1 r.2.2.1 r.2.2.2.1 ∈ am_WS ∧ Cond.initialized r.1.cls ∈ am_WS ∧ r.2.2.1 ≤ 45 ∧ (r.1.cls ≠ "java/lang/invoke/MethodHandle" ∧ r.1.cls ≠ "java/lang/invoke/VarHandle" ∧ (parseMethodDescriptor r.1.desc).map (fun d => d.parameters.length) = some r.2.2.2.2.1.2.1 ∧ am_cn[r.2.2.2.2.1.1]? = some r.1.cls) ∧
    (r.2.2.2.2.1.2.2 = true → Cond.static r.1 ∈ am_WS ∧ r.1.name ≠ "<init>") ∧ (r.2.2.2.2.1.2.2 = false → Cond.instanceMethod r.1 ∈ am_WS ∧ (r.1.name = "<init>" → r.2.2.2.1 = none) ∧ (r.1.name ≠ "<init>" → Cond.selects r.1.cls r.1 r.1 ∈ am_WS)) := by
  rw [← am_MP_ms, List.getElem?_map] at h
  cases he : am_MP[z]? with
  | none => rw [he] at h; cases h
  | some e =>
    rw [he] at h
    have h1 : e.1 = r := Option.some.inj h
    have h2 := List.all_eq_true.mp am_MP_ok _ (List.mem_of_getElem? he)
    have h3 := am_CW _ (List.mem_of_getElem? he)
    obtain ⟨r', jc, ji, js, jn⟩ := e
    simp only at h1 h3
    subst h1
    unfold am_okM at h2
    simp only [Bool.and_eq_true, decide_eq_true_eq] at h2
    refine ⟨List.mem_filter.mpr ⟨List.mem_of_getElem? h3, rfl⟩, am_W_in h2.1.1.1, h2.1.1.2, h2.1.2, fun hs => ?_, fun hs => ?_⟩
    · have h4 := h2.2
      rw [if_pos hs] at h4
      simp only [Bool.and_eq_true, decide_eq_true_eq] at h4
      exact ⟨am_W_in h4.1, h4.2⟩
    · have h4 := h2.2
      rw [if_neg (by rw [hs]; decide)] at h4
      simp only [Bool.and_eq_true] at h4
      refine ⟨am_W_in h4.1, fun hn => ?_, fun hn => ?_⟩
      · have h5 := h4.2
        rw [if_pos hn] at h5
        exact of_decide_eq_true h5
      · have h5 := h4.2
        rw [if_neg hn] at h5
        exact am_W_in h5
/-- of a class: the types of its fields, their names apart, and what the tables of kinds say -/
theorem am_fl {ci : Nat} {q : vw_C} (h : vwCl[ci]? = some q) : ∃ ty0 : Nat → FieldType, (∀ k, k < q.2.2 → parseFieldDescriptor (q.2.1 k).2.2.1 = some (ty0 k)) ∧ (∀ a, a < q.2.2 → ∀ c, c < q.2.2 → a ≠ c → (q.2.1 a).2.1 ≠ (q.2.1 c).2.1) ∧ (∀ k, k < q.2.2 → am_fk2 ci k = (am_fk (ty0 k), (q.2.1 k).2.2.2) ∧ (q.2.1 k).1 = q.1) ∧ (∃ fs, am_dv ci = some fs ∧ fs.length = q.2.2 ∧ ∀ k, k < q.2.2 → defaultValue (ty0 k) = vp_V fs k) := by
  match ci, h with
  | 0, h => cases h; exact ⟨tyX0, tyX0_ok, nmX0, by decide +kernel, _, rfl, rfl, by decide +kernel⟩
  | 1, h => cases h; exact ⟨tyX1, tyX1_ok, nmX1, by decide +kernel, _, rfl, rfl, by decide +kernel⟩
  | 2, h => cases h; exact ⟨tyX2, tyX2_ok, nmX2, by decide +kernel, _, rfl, rfl, by decide +kernel⟩
  | 3, h => cases h; exact ⟨tyX3, tyX3_ok, nmX3, by decide +kernel, _, rfl, rfl, by decide +kernel⟩
  | 4, h => cases h; exact ⟨tyX4, tyX4_ok, nmX4, by decide +kernel, _, rfl, rfl, by decide +kernel⟩
  | 5, h => cases h; exact ⟨tyX5, tyX5_ok, nmX5, by decide +kernel, _, rfl, rfl, by decide +kernel⟩
  | 6, h => cases h; exact ⟨tyX6, tyX6_ok, nmX6, by decide +kernel, _, rfl, rfl, by decide +kernel⟩
  | 7, h => cases h; exact ⟨tyX7, tyX7_ok, nmX7, by decide +kernel, _, rfl, rfl, by decide +kernel⟩
  | 8, h => cases h; exact ⟨tyX8, tyX8_ok, nmX8, by decide +kernel, _, rfl, rfl, by decide +kernel⟩
  | 9, h => cases h; exact ⟨tyX9, tyX9_ok, nmX9, by decide +kernel, _, rfl, rfl, by decide +kernel⟩
  | 10, h => cases h; exact ⟨tyX10, tyX10_ok, nmX10, by decide +kernel, _, rfl, rfl, by decide +kernel⟩
  | 11, h => cases h; exact ⟨tyX11, tyX11_ok, nmX11, by decide +kernel, _, rfl, rfl, by decide +kernel⟩
  | 12, h => cases h; exact ⟨tyX12, tyX12_ok, nmX12, by decide +kernel, _, rfl, rfl, by decide +kernel⟩
  | n + 13, h => cases h
theorem am_fit {ty : FieldType} {v : Value} {b sa : Nat} (h : am_fits (am_fk ty) v = true) : narrow ty (am_cv b sa v) = am_cv b sa v ∧ fits ty (am_cv b sa v) = true := by
  cases ty <;> cases v <;> simp only [am_fk, am_fits, decide_eq_true_eq] at h <;> first | (cases h; done) | exact ⟨rfl, rfl⟩ | (rcases h with rfl | rfl <;> exact ⟨rfl, rfl⟩)
section Steps2
variable {p : Program} {l : Launch} {e : Env} {R : Room} {s : State} {mi : MethodId} {args : Array Value} {below : List Frame} {meth : Method} {c : Code} {H : Heap} {locs : List Loc} {cells slots : Nat} {Q : State → Prop}
variable {al : Bool} {b sa : Nat} {D : va_G} {dA : Nat → ClassId} {Z : State → Prop} {d : Nat} {r : am_Rec} {pc len : Nat} {ls : am_L} {LS : Array Slot} {st : List Value} {m : am_M} {c' : am_C}
theorem am_rf {k : Nat} {x : va_E} (h : am_g m k = some x) (hm : m.1 ≤ am_S) : am_cv b sa (.ref k) = .ref (b + k) := by
  have := (am_g_lt h).1
  show Value.ref (if k = am_S then sa else b + k) = _
  rw [if_neg (by omega)]
theorem am_At_put {k : Nat} {x : va_E} (A : am_At al b sa D dA Z s m H locs) (h : k < m.1) {H' : Heap} {locs' : List Loc} (hP : va_P D vwCl ((am_ws b sa dA m).set k (b + k, am_ce b sa dA x)) H') (hS : va_S (fun q => b ≤ q) s.heap H' locs') : am_At al b sa D dA Z s (am_p m k x) H' locs' :=
  ⟨by rw [am_ws_set x h]; exact hP, hS, A.2.2.1, A.2.2.2.1, A.2.2.2.2⟩
theorem am_in_ok {i : Int32} {n : Nat} (h : am_in i n = true) : vp_in i n := vp_in_iff.mpr (of_decide_eq_true h)
theorem am_s4_m {ins : Instr} (h : am_s4 am_fk2 (am_isInit r) ins pc ls st m = some c') : c'.2.2.2.1 = m.1 ∧ c'.2.2.2.2.1 = m.2.1 ∧ c'.2.1 = ls := by
  cases ins <;> simp only [am_s4] at h <;> (repeat' split at h) <;> first | (cases h; done) | (cases h; exact ⟨rfl, rfl, rfl⟩)
theorem am_s4W {ins : Instr} (F : am_Fx p s mi args meth c R d r) (A : am_At al b sa D dA Z s m H locs) (L : am_lok b sa r.2.2.1 ls LS) (hok : am_okI r (pc, ins, len) = true) (h : am_s4 am_fk2 (am_isInit r) ins pc ls st m = some c')
    (k : ∀ H' locs', am_At al b sa D dA Z s c'.2.2.2 H' locs' → W p l e R s mi args below meth c H' locs' cells slots Q (F0 mi c'.1 LS (c'.2.2.1.map (am_cv b sa)))) : W p l e R s mi args below meth c H locs cells slots Q (F0 mi pc LS (st.map (am_cv b sa))) := by
  have hx := F.1
  have hb := F.2.1
  have hown := F.2.2.2.2.1
  have hC := F.2.2.2.2.2.2.2.2.2.2
  have hP := A.1
  have hS := A.2.1
  have hK := A.2.2.1.1
  have hm := A.2.2.2.2
  have hD := am_ws_D b sa dA m
  have hts := F.2.2.2.2.2.1
  cases ins with
  | getfield f =>
    simp only [am_s4] at h
    split at h
    · next a t =>
      split at h
      · next ci fs ha =>
        split at h
        · next hci =>
          split at h
          · next v hv =>
            cases h
            unfold am_okI at hok
            simp only at hok
            split at hok
            · next idx hdec =>
              simp only [Bool.and_eq_true, decide_eq_true_eq] at hok
              obtain ⟨q, hq, hk, hc1, hw⟩ := am_ft hok.2 hok.1 hC
              rw [← hci] at hq
              show W p l e R s mi args below meth c H locs cells slots Q (F0 mi pc LS (am_cv b sa (.ref a) :: t.map (am_cv b sa)))
              rw [am_rf ha hm]
              exact va_get (own := r.1.cls) (ref := q.1) (C := q.1) (T := q.2.1) (N := q.2.2) hx hb hts (fun w hw => List.mem_cons_of_mem _ ((am_cl hq).2.2 w hw)) hown hK hP a (am_ws_get ha) hq (f % 100) hk (F.hts hw) (fun x h9 => by rw [hc1] at h9; exact h9) (by rw [List.getElem?_map, hv]; rfl) hdec (k H locs A)
            · cases hok
          · cases h
        · cases h
      · cases h
    · cases h
  | putfield f =>
    simp only [am_s4] at h
    split at h
    · next v a t =>
      split at h
      · next ci fs ha =>
        split at h
        · next hci =>
          cases h
          obtain ⟨hci, hl, hfit, hfin⟩ := hci
          unfold am_okI at hok
          simp only at hok
          split at hok
          · next idx hdec =>
            simp only [Bool.and_eq_true, decide_eq_true_eq] at hok
            obtain ⟨q, hq, hk, hc1, hw⟩ := am_ft hok.1.2 hok.1.1 hC
            rw [← hci] at hq
            obtain ⟨ty0, ht, hn, hf, -⟩ := am_fl hq
            obtain ⟨hf1, hf2⟩ := hf (f % 100) hk
            rw [hf1] at hfit hfin
            obtain ⟨hn1, hn2⟩ := am_fit (b := b) (sa := sa) hfit
            have kk : ∀ (H1 : Heap) (locs1 : List Loc), va_P D vwCl ((am_ws b sa dA m).set a (b + a, .inr (ci, (fs.map (am_cv b sa)).set (f % 100) (am_cv b sa v)))) H1 → va_S (fun q => b ≤ q) s.heap H1 locs1 → W p l e R s mi args below meth c H1 locs1 cells slots Q (F0 mi (pc + 3) LS (t.map (am_cv b sa))) := by
              intro H1 locs1 hP1 hS1
              refine k H1 locs1 (am_At_put A (am_g_lt ha).1 ?_ hS1)
              show va_P D vwCl ((am_ws b sa dA m).set a (b + a, .inr (ci, (fs.set (f % 100) v).map (am_cv b sa)))) H1
              rw [List.map_set]
              exact hP1
            show W p l e R s mi args below meth c H locs cells slots Q (F0 mi pc LS (am_cv b sa v :: am_cv b sa (.ref a) :: t.map (am_cv b sa)))
            rw [am_rf ha hm]
            cases hfl : (q.2.1 (f % 100)).2.2.2 with
            | false =>
              exact va_put (own := r.1.cls) (ref := q.1) (C := q.1) (T := q.2.1) (N := q.2.2) hx hb hts (fun w hw => List.mem_cons_of_mem _ ((am_cl hq).2.2 w hw)) ty0 ht hn hown hK hP hD hS a (am_ws_get ha) hq (f % 100) hk (F.hts hw) (fun x h9 => by rw [hc1] at h9; exact h9) hfl (ht _ hk) hn1 hn2 (by rw [List.length_map]; exact hl) hdec (fun H1 locs1 hP1 _ hS1 => kk H1 locs1 hP1 hS1)
            | true =>
              have hinit : meth.name = "<init>" := F.2.2.2.2.2.2.2.1 (hfin hfl)
              have hdecl : (q.2.1 (f % 100)).1 = r.1.cls := by
                rcases hok.2 with h6 | h6
                · rw [← hci] at h6
                  rw [hc1]
                  rw [← h6] at hC
                  have h7 : am_cn[ci]? = some q.1 := by
                    match ci, hq with
                    | 0, hq => cases hq; rfl
                    | 1, hq => cases hq; rfl
                    | 2, hq => cases hq; rfl
                    | 3, hq => cases hq; rfl
                    | 4, hq => cases hq; rfl
                    | 5, hq => cases hq; rfl
                    | 6, hq => cases hq; rfl
                    | 7, hq => cases hq; rfl
                    | 8, hq => cases hq; rfl
                    | 9, hq => cases hq; rfl
                    | 10, hq => cases hq; rfl
                    | 11, hq => cases hq; rfl
                    | 12, hq => cases hq; rfl
                    | n + 13, hq => cases hq
                  rw [h7] at hC
                  exact Option.some.inj hC
                · rw [← hci, hf1, hfl] at h6
                  cases h6
              exact va_putF (own := r.1.cls) (ref := q.1) (C := q.1) (T := q.2.1) (N := q.2.2) hx hb hts (fun w hw => List.mem_cons_of_mem _ ((am_cl hq).2.2 w hw)) ty0 ht hn hown hK hP hD hS a (am_ws_get ha) hq (f % 100) hk (F.hts hw) (fun x h9 => by rw [hc1] at h9; exact h9) hfl hinit hdecl (ht _ hk) hn1 hn2 (by rw [List.length_map]; exact hl) hdec (fun H1 locs1 hP1 _ hS1 => kk H1 locs1 hP1 hS1)
          · cases hok
        · cases h
      · cases h
    · cases h
  | arraylength =>
    simp only [am_s4] at h
    split at h
    · next a t =>
      split at h
      · next ty n x ha =>
        split at h
        · next hty =>
          cases h
          show W p l e R s mi args below meth c H locs cells slots Q (F0 mi pc LS (am_cv b sa (.ref a) :: t.map (am_cv b sa)))
          rw [am_rf ha hm]
          have hce : ∃ x', am_ce b sa dA (.inl (ty, n, x)) = .inl (dA ty, n, x') := by
            rcases x with f | f | f | f | f <;> exact ⟨_, rfl⟩
          obtain ⟨x', hx'⟩ := hce
          have ha' := am_ws_get (b := b) (sa := sa) (dA := dA) ha
          rw [hx'] at ha'
          have htt : ∃ ft, (am_tys dA)[ty]? = some (dA ty, ft) := by
            match ty, hty with
            | 0, _ => exact ⟨_, rfl⟩
            | 1, _ => exact ⟨_, rfl⟩
            | 2, _ => exact ⟨_, rfl⟩
            | 3, _ => exact ⟨_, rfl⟩
            | 4, _ => exact ⟨_, rfl⟩
            | 5, _ => exact ⟨_, rfl⟩
          obtain ⟨ft, hft⟩ := htt
          exact va_alen hx hb hK hP a ty ha' hft rfl (of_decide_eq_true hok) (k H locs A)
        · cases h
      · cases h
    · cases h
  | iaload =>
    simp only [am_s4] at h
    split at h
    · next i a t =>
      split at h
      · next n f ha =>
        split at h
        · next hin =>
          cases h
          show W p l e R s mi args below meth c H locs cells slots Q (F0 mi pc LS (.int i :: am_cv b sa (.ref a) :: t.map (am_cv b sa)))
          rw [am_rf ha hm]
          exact va_iald hx hb hK hP a 0 (am_ws_get ha) rfl (am_in_ok hin) (of_decide_eq_true hok) (k H locs A)
        · cases h
      · cases h
    · cases h
  | laload =>
    simp only [am_s4] at h
    split at h
    · next i a t =>
      split at h
      · next n f ha =>
        split at h
        · next hin =>
          cases h
          show W p l e R s mi args below meth c H locs cells slots Q (F0 mi pc LS (.int i :: am_cv b sa (.ref a) :: t.map (am_cv b sa)))
          rw [am_rf ha hm]
          exact va_lald hx hb hK hP a 1 (am_ws_get ha) rfl (am_in_ok hin) (of_decide_eq_true hok) (k H locs A)
        · cases h
      · cases h
    · cases h
  | caload =>
    simp only [am_s4] at h
    split at h
    · next i a t =>
      split at h
      · next n f ha =>
        split at h
        · next hin =>
          cases h
          show W p l e R s mi args below meth c H locs cells slots Q (F0 mi pc LS (.int i :: am_cv b sa (.ref a) :: t.map (am_cv b sa)))
          rw [am_rf ha hm]
          exact va_cald hx hb hK hP a 2 (am_ws_get ha) rfl (am_in_ok hin) (of_decide_eq_true hok) (k H locs A)
        · cases h
      · cases h
    · cases h
  | baload =>
    simp only [am_s4] at h
    split at h
    · next i a t =>
      split at h
      · next n f ha =>
        split at h
        · next hin =>
          cases h
          show W p l e R s mi args below meth c H locs cells slots Q (F0 mi pc LS (.int i :: am_cv b sa (.ref a) :: t.map (am_cv b sa)))
          rw [am_rf ha hm]
          exact va_zald hx hb hK hP a 3 (am_ws_get ha) rfl (am_in_ok hin) (of_decide_eq_true hok) (k H locs A)
        · cases h
      · cases h
    · cases h
  | aaload =>
    simp only [am_s4] at h
    split at h
    · next i a t =>
      split at h
      · next ty n f ha =>
        split at h
        · next hin =>
          split at h
          · next q hq =>
            split at h
            · cases h
            · next hqS =>
              cases h
              show W p l e R s mi args below meth c H locs cells slots Q (F0 mi pc LS (.int i :: am_cv b sa (.ref a) :: t.map (am_cv b sa)))
              rw [am_rf ha hm]
              have e1 : va_rf ((f i.toNatClampNeg).map (fun k => if k = am_S then sa else b + k)) = am_cv b sa (.ref q) := by rw [hq]; rfl
              rcases hin.2 with rfl | rfl
              · exact va_aldq hx hb hK hP a 4 (am_ws_get ha) rfl (am_in_ok hin.1) (of_decide_eq_true hok) (by rw [e1]; exact k H locs A)
              · exact va_aldq hx hb hK hP a 5 (am_ws_get ha) rfl (am_in_ok hin.1) (of_decide_eq_true hok) (by rw [e1]; exact k H locs A)
          · cases h
        · cases h
      · cases h
    · cases h
  | iastore =>
    simp only [am_s4] at h
    split at h
    · next x i a t =>
      split at h
      · next n f ha =>
        split at h
        · next hin =>
          cases h
          show W p l e R s mi args below meth c H locs cells slots Q (F0 mi pc LS (.int x :: .int i :: am_cv b sa (.ref a) :: t.map (am_cv b sa)))
          rw [am_rf ha hm]
          exact va_iast hx hb hK hP hD hS a 0 (am_ws_get ha) rfl (am_in_ok hin) (of_decide_eq_true hok) (fun H1 locs1 hP1 _ hS1 => k H1 locs1 (am_At_put A (am_g_lt ha).1 hP1 hS1))
        · cases h
      · cases h
    · cases h
  | lastore =>
    simp only [am_s4] at h
    split at h
    · next x i a t =>
      split at h
      · next n f ha =>
        split at h
        · next hin =>
          cases h
          show W p l e R s mi args below meth c H locs cells slots Q (F0 mi pc LS (.long x :: .int i :: am_cv b sa (.ref a) :: t.map (am_cv b sa)))
          rw [am_rf ha hm]
          exact va_last hx hb hK hP hD hS a 1 (am_ws_get ha) rfl (am_in_ok hin) (of_decide_eq_true hok) (fun H1 locs1 hP1 _ hS1 => k H1 locs1 (am_At_put A (am_g_lt ha).1 hP1 hS1))
        · cases h
      · cases h
    · cases h
  | castore =>
    simp only [am_s4] at h
    split at h
    · next x i a t =>
      split at h
      · next n f ha =>
        split at h
        · next hin =>
          cases h
          show W p l e R s mi args below meth c H locs cells slots Q (F0 mi pc LS (.int x :: .int i :: am_cv b sa (.ref a) :: t.map (am_cv b sa)))
          rw [am_rf ha hm]
          exact va_cast hx hb hK hP hD hS a 2 (am_ws_get ha) rfl (am_in_ok hin) (of_decide_eq_true hok) (fun H1 locs1 hP1 _ hS1 => k H1 locs1 (am_At_put A (am_g_lt ha).1 hP1 hS1))
        · cases h
      · cases h
    · cases h
  | bastore =>
    simp only [am_s4] at h
    split at h
    · next x i a t =>
      split at h
      · next n f ha =>
        split at h
        · next hin =>
          cases h
          show W p l e R s mi args below meth c H locs cells slots Q (F0 mi pc LS (.int x :: .int i :: am_cv b sa (.ref a) :: t.map (am_cv b sa)))
          rw [am_rf ha hm]
          exact va_zast hx hb hK hP hD hS a 3 (am_ws_get ha) rfl (am_in_ok hin) (of_decide_eq_true hok) (fun H1 locs1 hP1 _ hS1 => k H1 locs1 (am_At_put A (am_g_lt ha).1 hP1 hS1))
        · cases h
      · cases h
    · cases h
  | aastore =>
    simp only [am_s4] at h
    split at h
    · next q i a t =>
      split at h
      · next ty n f ha =>
        split at h
        · next hin =>
          split at h
          · next ci vs hq =>
            split at h
            · next hty =>
              cases h
              show W p l e R s mi args below meth c H locs cells slots Q (F0 mi pc LS (am_cv b sa (.ref q) :: .int i :: am_cv b sa (.ref a) :: t.map (am_cv b sa)))
              rw [am_rf ha hm, am_rf hq hm]
              have e1 : (fun z => (va_up f i.toNatClampNeg (some q) z).map (fun k => if k = am_S then sa else b + k)) = va_up (fun z => (f z).map (fun k => if k = am_S then sa else b + k)) i.toNatClampNeg (some (b + q)) := by
                funext z
                unfold va_up
                by_cases hz : z = i.toNatClampNeg
                · rw [if_pos hz, if_pos hz]
                  show some (if q = am_S then sa else b + q) = _
                  rw [if_neg hin.2]
                · rw [if_neg hz, if_neg hz]
              rcases hty with ⟨rfl, rfl⟩ | ⟨rfl, rfl⟩
              · refine va_astq (r := (RX4, TX4, 5 + 1)) hx hb hK hP hD hS a 4 q 4 (am_ws_get ha) rfl (am_ws_get hq) rfl (am_in_ok hin.1) (of_decide_eq_true hok) (fun H1 locs1 hP1 _ hS1 => k H1 locs1 (am_At_put A (am_g_lt ha).1 ?_ hS1))
                show va_P D vwCl ((am_ws b sa dA m).set a (b + a, .inl (dA 4, n, .inr (.inr (.inr (.inr (fun z => (va_up f i.toNatClampNeg (some q) z).map (fun k => if k = am_S then sa else b + k)))))))) H1
                rw [e1]
                exact hP1
              · refine va_astq (r := (RX9, TX9, 5 + 1)) hx hb hK hP hD hS a 5 q 9 (am_ws_get ha) rfl (am_ws_get hq) rfl (am_in_ok hin.1) (of_decide_eq_true hok) (fun H1 locs1 hP1 _ hS1 => k H1 locs1 (am_At_put A (am_g_lt ha).1 ?_ hS1))
                show va_P D vwCl ((am_ws b sa dA m).set a (b + a, .inl (dA 5, n, .inr (.inr (.inr (.inr (fun z => (va_up f i.toNatClampNeg (some q) z).map (fun k => if k = am_S then sa else b + k)))))))) H1
                rw [e1]
                exact hP1
            · cases h
          · cases h
        · cases h
      · cases h
    · cases h
  | _ => simp [am_s4] at h
end Steps2
