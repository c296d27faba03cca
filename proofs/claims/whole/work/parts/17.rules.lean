/-! RULES: one instruction of a kind, one rewriting of Ex -/
def vi (i : Int32) (n : Nat) : Prop := 0 ≤ i.toInt ∧ i.toInt < (n : Int)
theorem vi_in {i : Int32} {n : Nat} (h : vi i n) : am_in i n = true := decide_eq_true h
theorem vi_nI {j n : Nat} (hj : j < n) (hn : n < 2 ^ 31) : vi (nI j) n := by
  have := nI_toInt (n := j) (by omega)
  unfold vi
  omega
def am_nl (l : Option Value) : Bool := match l with
  | some (.long _) => false
  | some (.double _) => false
  | _ => true
theorem am_nl_i (x : Int32) : am_nl (some (.int x)) = true := rfl
theorem am_nl_r (x : Nat) : am_nl (some (.ref x)) = true := rfl
theorem am_nl_0 : am_nl none = true := rfl
theorem am_kill_nl {ls : am_L} {k : Nat} {l : Option Value} (h : ls[k]? = some l) (hl : am_nl l = true) : am_kill ls (k + 1) = ls := by
  unfold am_kill
  simp only [h]
  cases l with
  | none => rfl
  | some v => cases v <;> first | rfl | cases hl
section Rules
variable {d i pc : Nat} {ls : am_L} {st : List Value} {m : am_M} {post : Option Value → am_M → Prop} {u : am_U} {x y : Int32} {a : Nat}
theorem nx_istore_n {kf : Fin 4} {k : Nat} {l : Option Value} (hk : (kf : Nat) = k + 1) (h : ls[k]? = some l) (h2 : k + 1 < ls.length) (hl : am_nl l = true) : am_nx (.istore_n kf) pc ls (.int x :: st) m = some (pc + 1, ls.set (k + 1) (some (.int x)), st, m) := by
  simp only [am_nx, am_s1, am_stI, hk, if_pos h2, am_st1, am_kill_nl h hl]
theorem nx_istore {k : Nat} {l : Option Value} (h : ls[k]? = some l) (h2 : k + 1 < ls.length) (hl : am_nl l = true) : am_nx (.istore (k + 1)) pc ls (.int x :: st) m = some (pc + 2, ls.set (k + 1) (some (.int x)), st, m) := by
  simp only [am_nx, am_s1, am_stI, if_pos h2, am_st1, am_kill_nl h hl]
theorem nx_astore_n {kf : Fin 4} {k : Nat} {l : Option Value} (hk : (kf : Nat) = k + 1) (h : ls[k]? = some l) (h2 : k + 1 < ls.length) (hl : am_nl l = true) : am_nx (.astore_n kf) pc ls (.ref a :: st) m = some (pc + 1, ls.set (k + 1) (some (.ref a)), st, m) := by
  simp only [am_nx, am_s1, am_stA, hk, if_pos h2, am_st1, am_kill_nl h hl]
theorem nx_astore {k : Nat} {l : Option Value} (h : ls[k]? = some l) (h2 : k + 1 < ls.length) (hl : am_nl l = true) : am_nx (.astore (k + 1)) pc ls (.ref a :: st) m = some (pc + 2, ls.set (k + 1) (some (.ref a)), st, m) := by
  simp only [am_nx, am_s1, am_stA, if_pos h2, am_st1, am_kill_nl h hl]
theorem nx_lstore_n {kf : Fin 4} {k : Nat} {l : Option Value} {x : Int64} (hk : (kf : Nat) = k + 1) (h : ls[k]? = some l) (h2 : k + 1 + 1 < ls.length) (hl : am_nl l = true) : am_nx (.lstore_n kf) pc ls (.long x :: st) m = some (pc + 1, (ls.set (k + 1) (some (.long x))).set (k + 1 + 1) none, st, m) := by
  simp only [am_nx, am_s1, am_stL, hk, if_pos h2, am_st2, am_kill_nl h hl]
theorem nx_lstore {k : Nat} {l : Option Value} {x : Int64} (h : ls[k]? = some l) (h2 : k + 1 + 1 < ls.length) (hl : am_nl l = true) : am_nx (.lstore (k + 1)) pc ls (.long x :: st) m = some (pc + 2, (ls.set (k + 1) (some (.long x))).set (k + 1 + 1) none, st, m) := by
  simp only [am_nx, am_s1, am_stL, if_pos h2, am_st2, am_kill_nl h hl]
theorem nx_iinc {k : Nat} {n : Int} {l : Option Value} (h : ls[k]? = some l) (hv : ls[k + 1]? = some (some (.int x))) (hl : am_nl l = true) : am_nx (.iinc (k + 1) n) pc ls st m = some (pc + 3, ls.set (k + 1) (some (.int (x + Int32.ofInt n))), st, m) := by
  have h2 : k + 1 < ls.length := (List.getElem?_eq_some_iff.mp hv).1
  have h3 : am_ld ls (k + 1) = some (.int x) := by unfold am_ld; rw [hv]
  simp only [am_nx, am_s1, h3, if_pos h2, am_st1, am_kill_nl h hl]
theorem nx_idiv (hy : ¬ y = 0) : am_nx .idiv pc ls (.int y :: .int x :: st) m = some (pc + 1, ls, .int (x / y) :: st, m) := by
  simp only [am_nx, am_s1, am_s2, if_neg hy]
theorem nx_irem (hy : ¬ y = 0) : am_nx .irem pc ls (.int y :: .int x :: st) m = some (pc + 1, ls, .int (x - x / y * y) :: st, m) := by
  simp only [am_nx, am_s1, am_s2, if_neg hy]
theorem nx_ldiv {x y : Int64} (hy : ¬ y = 0) : am_nx .ldiv pc ls (.long y :: .long x :: st) m = some (pc + 1, ls, .long (x / y) :: st, m) := by
  simp only [am_nx, am_s1, am_s2, if_neg hy]
theorem nx_lrem {x y : Int64} (hy : ¬ y = 0) : am_nx .lrem pc ls (.long y :: .long x :: st) m = some (pc + 1, ls, .long (x - x / y * y) :: st, m) := by
  simp only [am_nx, am_s1, am_s2, if_neg hy]
theorem am_jok_of {off : Int} {tgt : Nat} (h : (pc : Int) + off = (tgt : Int)) : am_jok pc off = true ∧ am_jmp pc off = tgt := by
  unfold am_jok am_jmp
  exact ⟨decide_eq_true (by omega), by omega⟩
theorem nx_goto {off : Int} {tgt : Nat} (h : (pc : Int) + off = (tgt : Int)) : am_nx (.goto off) pc ls st m = some (tgt, ls, st, m) := by
  obtain ⟨h1, h2⟩ := am_jok_of h
  simp only [am_nx, am_s1, h1, h2, if_true]
theorem ex_if_eq {off : Int} {tgt : Nat} (hc : am_code i pc = some (.ifCond .eq off, 3)) (h : (pc : Int) + off = (tgt : Int)) : Ex d i pc ls (.int x :: st) m post ↔ if x = 0 then Ex d i tgt ls st m post else Ex d i (pc + 3) ls st m post := by
  obtain ⟨h1, h2⟩ := am_jok_of h
  by_cases q : x = 0
  · rw [if_pos q]
    exact Ex_nx (c := (tgt, ls, st, m)) hc (by simp only [am_nx, am_s1, am_s2, am_s3, am_br, h1, h2, decide_eq_true q, if_true])
  · rw [if_neg q]
    exact Ex_nx (c := (pc + 3, ls, st, m)) hc (by simp only [am_nx, am_s1, am_s2, am_s3, am_br, h1, decide_eq_false q, if_true]; rfl)
theorem ex_if_ne {off : Int} {tgt : Nat} (hc : am_code i pc = some (.ifCond .ne off, 3)) (h : (pc : Int) + off = (tgt : Int)) : Ex d i pc ls (.int x :: st) m post ↔ if x = 0 then Ex d i (pc + 3) ls st m post else Ex d i tgt ls st m post := by
  obtain ⟨h1, h2⟩ := am_jok_of h
  by_cases q : x = 0
  · rw [if_pos q]
    exact Ex_nx (c := (pc + 3, ls, st, m)) hc (by simp [am_nx, am_s1, am_s2, am_s3, am_br, h1, q])
  · rw [if_neg q]
    exact Ex_nx (c := (tgt, ls, st, m)) hc (by simp [am_nx, am_s1, am_s2, am_s3, am_br, h1, h2, q])
theorem ex_if_lt {off : Int} {tgt : Nat} (hc : am_code i pc = some (.ifCond .lt off, 3)) (h : (pc : Int) + off = (tgt : Int)) : Ex d i pc ls (.int x :: st) m post ↔ if x < 0 then Ex d i tgt ls st m post else Ex d i (pc + 3) ls st m post := by
  obtain ⟨h1, h2⟩ := am_jok_of h
  by_cases q : x < 0
  · rw [if_pos q]
    exact Ex_nx (c := (tgt, ls, st, m)) hc (by simp only [am_nx, am_s1, am_s2, am_s3, am_br, h1, h2, decide_eq_true q, if_true])
  · rw [if_neg q]
    exact Ex_nx (c := (pc + 3, ls, st, m)) hc (by simp only [am_nx, am_s1, am_s2, am_s3, am_br, h1, decide_eq_false q, if_true]; rfl)
theorem ex_if_ge {off : Int} {tgt : Nat} (hc : am_code i pc = some (.ifCond .ge off, 3)) (h : (pc : Int) + off = (tgt : Int)) : Ex d i pc ls (.int x :: st) m post ↔ if 0 ≤ x then Ex d i tgt ls st m post else Ex d i (pc + 3) ls st m post := by
  obtain ⟨h1, h2⟩ := am_jok_of h
  by_cases q : 0 ≤ x
  · rw [if_pos q]
    exact Ex_nx (c := (tgt, ls, st, m)) hc (by simp only [am_nx, am_s1, am_s2, am_s3, am_br, h1, h2, decide_eq_true q, if_true])
  · rw [if_neg q]
    exact Ex_nx (c := (pc + 3, ls, st, m)) hc (by simp only [am_nx, am_s1, am_s2, am_s3, am_br, h1, decide_eq_false q, if_true]; rfl)
theorem ex_if_gt {off : Int} {tgt : Nat} (hc : am_code i pc = some (.ifCond .gt off, 3)) (h : (pc : Int) + off = (tgt : Int)) : Ex d i pc ls (.int x :: st) m post ↔ if 0 < x then Ex d i tgt ls st m post else Ex d i (pc + 3) ls st m post := by
  obtain ⟨h1, h2⟩ := am_jok_of h
  by_cases q : 0 < x
  · rw [if_pos q]
    exact Ex_nx (c := (tgt, ls, st, m)) hc (by simp only [am_nx, am_s1, am_s2, am_s3, am_br, h1, h2, decide_eq_true q, if_true])
  · rw [if_neg q]
    exact Ex_nx (c := (pc + 3, ls, st, m)) hc (by simp only [am_nx, am_s1, am_s2, am_s3, am_br, h1, decide_eq_false q, if_true]; rfl)
theorem ex_if_le {off : Int} {tgt : Nat} (hc : am_code i pc = some (.ifCond .le off, 3)) (h : (pc : Int) + off = (tgt : Int)) : Ex d i pc ls (.int x :: st) m post ↔ if x ≤ 0 then Ex d i tgt ls st m post else Ex d i (pc + 3) ls st m post := by
  obtain ⟨h1, h2⟩ := am_jok_of h
  by_cases q : x ≤ 0
  · rw [if_pos q]
    exact Ex_nx (c := (tgt, ls, st, m)) hc (by simp only [am_nx, am_s1, am_s2, am_s3, am_br, h1, h2, decide_eq_true q, if_true])
  · rw [if_neg q]
    exact Ex_nx (c := (pc + 3, ls, st, m)) hc (by simp only [am_nx, am_s1, am_s2, am_s3, am_br, h1, decide_eq_false q, if_true]; rfl)
theorem ex_ic_eq {off : Int} {tgt : Nat} (hc : am_code i pc = some (.if_icmp .eq off, 3)) (h : (pc : Int) + off = (tgt : Int)) : Ex d i pc ls (.int y :: .int x :: st) m post ↔ if x = y then Ex d i tgt ls st m post else Ex d i (pc + 3) ls st m post := by
  obtain ⟨h1, h2⟩ := am_jok_of h
  by_cases q : x = y
  · rw [if_pos q]
    exact Ex_nx (c := (tgt, ls, st, m)) hc (by simp only [am_nx, am_s1, am_s2, am_s3, am_br, h1, h2, decide_eq_true q, if_true])
  · rw [if_neg q]
    exact Ex_nx (c := (pc + 3, ls, st, m)) hc (by simp only [am_nx, am_s1, am_s2, am_s3, am_br, h1, decide_eq_false q, if_true]; rfl)
theorem ex_ic_ne {off : Int} {tgt : Nat} (hc : am_code i pc = some (.if_icmp .ne off, 3)) (h : (pc : Int) + off = (tgt : Int)) : Ex d i pc ls (.int y :: .int x :: st) m post ↔ if x = y then Ex d i (pc + 3) ls st m post else Ex d i tgt ls st m post := by
  obtain ⟨h1, h2⟩ := am_jok_of h
  by_cases q : x = y
  · rw [if_pos q]
    exact Ex_nx (c := (pc + 3, ls, st, m)) hc (by simp [am_nx, am_s1, am_s2, am_s3, am_br, h1, q])
  · rw [if_neg q]
    exact Ex_nx (c := (tgt, ls, st, m)) hc (by simp [am_nx, am_s1, am_s2, am_s3, am_br, h1, h2, q])
theorem ex_ic_lt {off : Int} {tgt : Nat} (hc : am_code i pc = some (.if_icmp .lt off, 3)) (h : (pc : Int) + off = (tgt : Int)) : Ex d i pc ls (.int y :: .int x :: st) m post ↔ if x < y then Ex d i tgt ls st m post else Ex d i (pc + 3) ls st m post := by
  obtain ⟨h1, h2⟩ := am_jok_of h
  by_cases q : x < y
  · rw [if_pos q]
    exact Ex_nx (c := (tgt, ls, st, m)) hc (by simp only [am_nx, am_s1, am_s2, am_s3, am_br, h1, h2, decide_eq_true q, if_true])
  · rw [if_neg q]
    exact Ex_nx (c := (pc + 3, ls, st, m)) hc (by simp only [am_nx, am_s1, am_s2, am_s3, am_br, h1, decide_eq_false q, if_true]; rfl)
theorem ex_ic_ge {off : Int} {tgt : Nat} (hc : am_code i pc = some (.if_icmp .ge off, 3)) (h : (pc : Int) + off = (tgt : Int)) : Ex d i pc ls (.int y :: .int x :: st) m post ↔ if y ≤ x then Ex d i tgt ls st m post else Ex d i (pc + 3) ls st m post := by
  obtain ⟨h1, h2⟩ := am_jok_of h
  by_cases q : y ≤ x
  · rw [if_pos q]
    exact Ex_nx (c := (tgt, ls, st, m)) hc (by simp only [am_nx, am_s1, am_s2, am_s3, am_br, h1, h2, decide_eq_true q, if_true])
  · rw [if_neg q]
    exact Ex_nx (c := (pc + 3, ls, st, m)) hc (by simp only [am_nx, am_s1, am_s2, am_s3, am_br, h1, decide_eq_false q, if_true]; rfl)
theorem ex_ic_gt {off : Int} {tgt : Nat} (hc : am_code i pc = some (.if_icmp .gt off, 3)) (h : (pc : Int) + off = (tgt : Int)) : Ex d i pc ls (.int y :: .int x :: st) m post ↔ if y < x then Ex d i tgt ls st m post else Ex d i (pc + 3) ls st m post := by
  obtain ⟨h1, h2⟩ := am_jok_of h
  by_cases q : y < x
  · rw [if_pos q]
    exact Ex_nx (c := (tgt, ls, st, m)) hc (by simp only [am_nx, am_s1, am_s2, am_s3, am_br, h1, h2, decide_eq_true q, if_true])
  · rw [if_neg q]
    exact Ex_nx (c := (pc + 3, ls, st, m)) hc (by simp only [am_nx, am_s1, am_s2, am_s3, am_br, h1, decide_eq_false q, if_true]; rfl)
theorem ex_ic_le {off : Int} {tgt : Nat} (hc : am_code i pc = some (.if_icmp .le off, 3)) (h : (pc : Int) + off = (tgt : Int)) : Ex d i pc ls (.int y :: .int x :: st) m post ↔ if x ≤ y then Ex d i tgt ls st m post else Ex d i (pc + 3) ls st m post := by
  obtain ⟨h1, h2⟩ := am_jok_of h
  by_cases q : x ≤ y
  · rw [if_pos q]
    exact Ex_nx (c := (tgt, ls, st, m)) hc (by simp only [am_nx, am_s1, am_s2, am_s3, am_br, h1, h2, decide_eq_true q, if_true])
  · rw [if_neg q]
    exact Ex_nx (c := (pc + 3, ls, st, m)) hc (by simp only [am_nx, am_s1, am_s2, am_s3, am_br, h1, decide_eq_false q, if_true]; rfl)
/-- a tableswitch' target -/
def am_tgt (pc : Nat) (dd lo hi : Int) (offs : Array Int) (z : Int) : Nat := if z < lo ∨ hi < z then am_jmp pc dd else match offs.toList[(z - lo).toNat]? with
  | some off => am_jmp pc off
  | none => 0
def am_tok (pc : Nat) (dd lo hi : Int) (offs : Array Int) : Bool := am_jok pc dd && offs.toList.all (fun o => am_jok pc o) && decide ((offs.toList.length : Int) = hi - lo + 1)
theorem ex_table {dd lo hi : Int} {offs : Array Int} {len : Nat} (hc : am_code i pc = some (.tableswitch dd lo hi offs, len)) (h : am_tok pc dd lo hi offs = true) : Ex d i pc ls (.int x :: st) m post ↔ Ex d i (am_tgt pc dd lo hi offs x.toInt) ls st m post := by
  unfold am_tok at h
  simp only [Bool.and_eq_true, List.all_eq_true, decide_eq_true_eq] at h
  refine Ex_nx (c := (am_tgt pc dd lo hi offs x.toInt, ls, st, m)) hc ?_
  by_cases q : x.toInt < lo ∨ hi < x.toInt
  · simp only [am_nx, am_s1, am_s2, am_s3, am_tgt, if_pos q, h.1.1, if_true]
  · have h3 : (x.toInt - lo).toNat < offs.toList.length := by omega
    have h4 : offs.toList[(x.toInt - lo).toNat]? = some offs.toList[(x.toInt - lo).toNat] := List.getElem?_eq_getElem h3
    have h5 := h.1.2 _ (List.getElem_mem h3)
    simp only [am_nx, am_s1, am_s2, am_s3, am_tgt, if_neg q, h4, h5, if_true]
/-- fields -/
theorem ex_get {f n : Nat} (hc : am_code i pc = some (.getfield f, 3)) (h : sh a (f / 100) n) (ht : f / 100 < 100) (hk : f % 100 < n) : Ex d i pc ls (.ref a :: st) (am_emb u) post ↔ Ex d i (pc + 3) ls (am_fv u a (f / 100) (f % 100) :: st) (am_emb u) post :=
  Ex_nx (c := (pc + 3, ls, am_fv u a (f / 100) (f % 100) :: st, am_emb u)) hc (by simp only [am_nx, am_s1, am_s2, am_s3, am_s4, em_obj h ht, if_true, em_fld hk])
theorem em_cell_obj {u : am_U} {a t n : Nat} (h : sh a t n) (ht : t < 100) : am_cell u a = .inr (t, (List.range n).map (am_fv u a t)) := by
  have h1 := em_obj (u := u) h ht
  rw [em_g h] at h1
  exact Option.some.inj h1
theorem em_cell_row {u : am_U} {a t n : Nat} (h : sh a t n) (ht : 100 ≤ t) : am_cell u a = am_row u a t n := by
  have h1 := em_row (u := u) h ht
  rw [em_g h] at h1
  exact Option.some.inj h1
theorem ex_putv {f n : Nat} {v : Value} {u' : am_U} (hc : am_code i pc = some (.putfield f, 3)) (h : sh a (f / 100) n) (ht : f / 100 < 100) (hk : f % 100 < n) (hfin : (am_fk2 (f / 100) (f % 100)).2 = false) (hfit : am_fits (am_fk2 (f / 100) (f % 100)).1 v = true)
    (hv : am_fv u' a (f / 100) (f % 100) = v) (ho : ∀ k', k' ≠ f % 100 → am_fv u' a (f / 100) k' = am_fv u a (f / 100) k') (hc2 : ∀ a', a' ≠ a → am_cell u' a' = am_cell u a') : Ex d i pc ls (v :: .ref a :: st) (am_emb u) post ↔ Ex d i (pc + 3) ls st (am_emb u') post := by
  refine Ex_nx (c := (pc + 3, ls, st, am_emb u')) hc ?_
  have e1 : am_p (am_emb u) a (.inr (f / 100, ((List.range n).map (am_fv u a (f / 100))).set (f % 100) v)) = am_emb u' := by
    rw [em_set v hv ho, ← em_cell_obj h ht]
    exact em_put h hc2
  have hl : f % 100 < ((List.range n).map (am_fv u a (f / 100))).length := by simpa using hk
  have hnot : ∀ (i9 : Instr), i9 = .putfield f → am_s1 i9 pc ls (v :: .ref a :: st) (am_emb u) = none ∧ am_s2 i9 pc ls (v :: .ref a :: st) (am_emb u) = none ∧ am_s3 i9 pc ls (v :: .ref a :: st) (am_emb u) = none := by
    rintro _ rfl
    exact ⟨rfl, rfl, rfl⟩
  obtain ⟨z1, z2, z3⟩ := hnot _ rfl
  unfold am_nx
  rw [z1, z2, z3]
  simp only [am_s4, em_obj h ht]
  rw [if_pos ⟨trivial, hl, hfit, fun q => by rw [hfin] at q; cases q⟩, e1]
theorem ex_putI {f n : Nat} (hc : am_code i pc = some (.putfield f, 3)) (h : sh a (f / 100) n) (ht : f / 100 < 100) (hk : f % 100 < n) (hfk : am_fk2 (f / 100) (f % 100) = (0, false)) (hf3 : am_fk3 (f / 100) (f % 100) = 0) : Ex d i pc ls (.int x :: .ref a :: st) (am_emb u) post ↔ Ex d i (pc + 3) ls st (am_emb (sFI u a (f % 100) x)) post := by
  refine ex_putv hc h ht hk (by rw [hfk]) (by rw [hfk]; rfl) ?_ (fun k' hk' => ?_) (fun a' ha => ?_)
  · simp only [am_fv, hf3, FI_sFI, and_self, if_true]
  · unfold am_fv
    simp only [FI_sFI, FJ_sFI, FR_sFI, hk', and_false, if_false]
  · refine em_same (funext fun k => ?_) rfl rfl rfl rfl rfl
    simp only [FI_sFI, ha, false_and, if_false]
theorem ex_putZ {f n : Nat} (hc : am_code i pc = some (.putfield f, 3)) (h : sh a (f / 100) n) (ht : f / 100 < 100) (hk : f % 100 < n) (hfk : am_fk2 (f / 100) (f % 100) = (2, false)) (hf3 : am_fk3 (f / 100) (f % 100) = 2) (hx : x = 0 ∨ x = 1) : Ex d i pc ls (.int x :: .ref a :: st) (am_emb u) post ↔ Ex d i (pc + 3) ls st (am_emb (sFI u a (f % 100) x)) post := by
  refine ex_putv hc h ht hk (by rw [hfk]) (by rw [hfk]; exact decide_eq_true hx) ?_ (fun k' hk' => ?_) (fun a' ha => ?_)
  · simp only [am_fv, hf3, FI_sFI, and_self, if_true]
  · unfold am_fv
    simp only [FI_sFI, FJ_sFI, FR_sFI, hk', and_false, if_false]
  · refine em_same (funext fun k => ?_) rfl rfl rfl rfl rfl
    simp only [FI_sFI, ha, false_and, if_false]
theorem ex_putJ {f n : Nat} {x : Int64} (hc : am_code i pc = some (.putfield f, 3)) (h : sh a (f / 100) n) (ht : f / 100 < 100) (hk : f % 100 < n) (hfk : am_fk2 (f / 100) (f % 100) = (1, false)) (hf3 : am_fk3 (f / 100) (f % 100) = 1) : Ex d i pc ls (.long x :: .ref a :: st) (am_emb u) post ↔ Ex d i (pc + 3) ls st (am_emb (sFJ u a (f % 100) x)) post := by
  refine ex_putv hc h ht hk (by rw [hfk]) (by rw [hfk]; rfl) ?_ (fun k' hk' => ?_) (fun a' ha => ?_)
  · simp only [am_fv, hf3, FJ_sFJ, and_self, if_true]
  · unfold am_fv
    simp only [FI_sFJ, FJ_sFJ, FR_sFJ, hk', and_false, if_false]
  · refine em_same rfl (funext fun k => ?_) rfl rfl rfl rfl
    simp only [FJ_sFJ, ha, false_and, if_false]
theorem ex_putR {f n q : Nat} (hc : am_code i pc = some (.putfield f, 3)) (h : sh a (f / 100) n) (ht : f / 100 < 100) (hk : f % 100 < n) (hfk : am_fk2 (f / 100) (f % 100) = (3, false)) (hf3 : am_fk3 (f / 100) (f % 100) = 4) : Ex d i pc ls (.ref q :: .ref a :: st) (am_emb u) post ↔ Ex d i (pc + 3) ls st (am_emb (sFR u a (f % 100) (some q))) post := by
  refine ex_putv hc h ht hk (by rw [hfk]) (by rw [hfk]; rfl) ?_ (fun k' hk' => ?_) (fun a' ha => ?_)
  · simp only [am_fv, hf3, FR_sFR, and_self, if_true, va_rf]
  · unfold am_fv
    simp only [FI_sFR, FJ_sFR, FR_sFR, hk', and_false, if_false]
  · refine em_same rfl rfl (funext fun k => ?_) rfl rfl rfl
    simp only [FR_sFR, ha, false_and, if_false]
/-- rows -/
theorem ex_alen {t n : Nat} (hc : am_code i pc = some (.arraylength, 1)) (h : sh a t n) (ht : t = 100 ∨ t = 101 ∨ t = 102 ∨ t = 103 ∨ t = 104 ∨ t = 105) : Ex d i pc ls (.ref a :: st) (am_emb u) post ↔ Ex d i (pc + 1) ls (.int (Int32.ofNat n) :: st) (am_emb u) post := by
  refine Ex_nx (c := (pc + 1, ls, .int (Int32.ofNat n) :: st, am_emb u)) hc ?_
  rcases ht with rfl | rfl | rfl | rfl | rfl | rfl <;> simp [am_nx, am_s1, am_s2, am_s3, am_s4, em_row h (by decide), am_row]
theorem ex_iald {n : Nat} (hc : am_code i pc = some (.iaload, 1)) (h : sh a 100 n) (hi : vi x n) : Ex d i pc ls (.int x :: .ref a :: st) (am_emb u) post ↔ Ex d i (pc + 1) ls (.int (AI u a x.toNatClampNeg) :: st) (am_emb u) post :=
  Ex_nx (c := (pc + 1, ls, .int (AI u a x.toNatClampNeg) :: st, am_emb u)) hc (by simp [am_nx, am_s1, am_s2, am_s3, am_s4, em_row h (by decide), am_row, vi_in hi])
theorem ex_lald {n : Nat} (hc : am_code i pc = some (.laload, 1)) (h : sh a 101 n) (hi : vi x n) : Ex d i pc ls (.int x :: .ref a :: st) (am_emb u) post ↔ Ex d i (pc + 1) ls (.long (AJ u a x.toNatClampNeg) :: st) (am_emb u) post :=
  Ex_nx (c := (pc + 1, ls, .long (AJ u a x.toNatClampNeg) :: st, am_emb u)) hc (by simp [am_nx, am_s1, am_s2, am_s3, am_s4, em_row h (by decide), am_row, vi_in hi])
theorem ex_cald {n : Nat} (hc : am_code i pc = some (.caload, 1)) (h : sh a 102 n) (hi : vi x n) : Ex d i pc ls (.int x :: .ref a :: st) (am_emb u) post ↔ Ex d i (pc + 1) ls (.int (AI u a x.toNatClampNeg) :: st) (am_emb u) post :=
  Ex_nx (c := (pc + 1, ls, .int (AI u a x.toNatClampNeg) :: st, am_emb u)) hc (by simp [am_nx, am_s1, am_s2, am_s3, am_s4, em_row h (by decide), am_row, vi_in hi])
theorem ex_zald {n : Nat} (hc : am_code i pc = some (.baload, 1)) (h : sh a 103 n) (hi : vi x n) : Ex d i pc ls (.int x :: .ref a :: st) (am_emb u) post ↔ Ex d i (pc + 1) ls (.int (AI u a x.toNatClampNeg) :: st) (am_emb u) post :=
  Ex_nx (c := (pc + 1, ls, .int (AI u a x.toNatClampNeg) :: st, am_emb u)) hc (by simp [am_nx, am_s1, am_s2, am_s3, am_s4, em_row h (by decide), am_row, vi_in hi])
theorem ex_rald {n q : Nat} (hc : am_code i pc = some (.aaload, 1)) (h : sh a 104 n ∨ sh a 105 n) (hi : vi x n) (hq : AR u a x.toNatClampNeg = some q) (hS : q < am_S) : Ex d i pc ls (.int x :: .ref a :: st) (am_emb u) post ↔ Ex d i (pc + 1) ls (.ref q :: st) (am_emb u) post := by
  have hS2 : ¬ q = am_S := by omega
  refine Ex_nx (c := (pc + 1, ls, .ref q :: st, am_emb u)) hc ?_
  rcases h with h | h <;> simp [am_nx, am_s1, am_s2, am_s3, am_s4, em_row h (by decide), am_row, vi_in hi, hq, hS2]
theorem em_putrow {t n : Nat} {g : Nat → Int32} (h : sh a t n) : am_p (am_emb u) a (am_cell (sAI u a g) a) = am_emb (sAI u a g) :=
  em_put h (fun a' ha => em_same rfl rfl rfl (by rw [AI_sAI, if_neg ha]) rfl rfl)
theorem ex_iast {n : Nat} {z : Int32} (hc : am_code i pc = some (.iastore, 1)) (h : sh a 100 n) (hi : vi x n) : Ex d i pc ls (.int z :: .int x :: .ref a :: st) (am_emb u) post ↔ Ex d i (pc + 1) ls st (am_emb (sAI u a (upd (AI u a) x.toNatClampNeg z))) post := by
  have e1 := em_putrow (u := u) (g := upd (AI u a) x.toNatClampNeg z) h
  rw [em_cell_row h (by decide)] at e1
  simp only [am_row, AI_sAI, if_true] at e1
  exact Ex_nx (c := (pc + 1, ls, st, am_emb (sAI u a (upd (AI u a) x.toNatClampNeg z)))) hc (by simp [am_nx, am_s1, am_s2, am_s3, am_s4, em_row h (by decide), am_row, vi_in hi, e1])
theorem ex_zast {n : Nat} {z : Int32} (hc : am_code i pc = some (.bastore, 1)) (h : sh a 103 n) (hi : vi x n) (hz : z = 0 ∨ z = 1) : Ex d i pc ls (.int z :: .int x :: .ref a :: st) (am_emb u) post ↔ Ex d i (pc + 1) ls st (am_emb (sAI u a (upd (AI u a) x.toNatClampNeg z))) post := by
  have e1 := em_putrow (u := u) (g := upd (AI u a) x.toNatClampNeg z) h
  rw [em_cell_row h (by decide)] at e1
  simp only [am_row, AI_sAI, if_true] at e1
  have e2 : vp_nar .boolean z = z := by rcases hz with rfl | rfl <;> rfl
  exact Ex_nx (c := (pc + 1, ls, st, am_emb (sAI u a (upd (AI u a) x.toNatClampNeg z)))) hc (by simp [am_nx, am_s1, am_s2, am_s3, am_s4, em_row h (by decide), am_row, vi_in hi, e1, e2])
theorem ex_cast {n : Nat} {z : Int32} (hc : am_code i pc = some (.castore, 1)) (h : sh a 102 n) (hi : vi x n) (hz : vp_nar .char z = z) : Ex d i pc ls (.int z :: .int x :: .ref a :: st) (am_emb u) post ↔ Ex d i (pc + 1) ls st (am_emb (sAI u a (upd (AI u a) x.toNatClampNeg z))) post := by
  have e1 := em_putrow (u := u) (g := upd (AI u a) x.toNatClampNeg z) h
  rw [em_cell_row h (by decide)] at e1
  simp only [am_row, AI_sAI, if_true] at e1
  exact Ex_nx (c := (pc + 1, ls, st, am_emb (sAI u a (upd (AI u a) x.toNatClampNeg z)))) hc (by simp [am_nx, am_s1, am_s2, am_s3, am_s4, em_row h (by decide), am_row, vi_in hi, e1, hz])
theorem ex_last {n : Nat} {z : Int64} (hc : am_code i pc = some (.lastore, 1)) (h : sh a 101 n) (hi : vi x n) : Ex d i pc ls (.long z :: .int x :: .ref a :: st) (am_emb u) post ↔ Ex d i (pc + 1) ls st (am_emb (sAJ u a (vp_updL (AJ u a) x.toNatClampNeg z))) post := by
  have e1 : am_p (am_emb u) a (am_cell (sAJ u a (vp_updL (AJ u a) x.toNatClampNeg z)) a) = am_emb (sAJ u a (vp_updL (AJ u a) x.toNatClampNeg z)) := em_put h (fun a' ha => em_same rfl rfl rfl rfl (by rw [AJ_sAJ, if_neg ha]) rfl)
  rw [em_cell_row h (by decide)] at e1
  simp only [am_row, AJ_sAJ, if_true] at e1
  exact Ex_nx (c := (pc + 1, ls, st, am_emb (sAJ u a (vp_updL (AJ u a) x.toNatClampNeg z)))) hc (by simp [am_nx, am_s1, am_s2, am_s3, am_s4, em_row h (by decide), am_row, vi_in hi, e1])
theorem ex_copy {r : am_Rec} {n0 n1 : Nat} {a0 : Nat} {sp dp n : Int32} (hi : am_ms[i]? = some r) (hc : am_code i pc = some (.invokestatic 9001, 3)) (h0 : sh a0 100 n0) (h1 : sh a 100 n1) (hh : 0 ≤ sp.toInt ∧ 0 ≤ dp.toInt ∧ 0 ≤ n.toInt ∧ sp.toInt + n.toInt ≤ (n0 : Int) ∧ dp.toInt + n.toInt ≤ (n1 : Int)) :
    Ex (d + 1) i pc ls [.int n, .int dp, .ref a, .int sp, .ref a0] (am_emb u) post ↔ Ex (d + 1) i (pc + 3) ls [] (am_emb (sAI u a (va_cpy (AI u a0) (AI u a) sp.toNatClampNeg dp.toNatClampNeg n.toNatClampNeg))) post := by
  have e1 := em_putrow (u := u) (g := va_cpy (AI u a0) (AI u a) sp.toNatClampNeg dp.toNatClampNeg n.toNatClampNeg) h1
  rw [em_cell_row h1 (by decide)] at e1
  simp only [am_row, AI_sAI, if_true] at e1
  refine Ex_copy (c := (pc + 3, ls, [], am_emb (sAI u a (va_cpy (AI u a0) (AI u a) sp.toNatClampNeg dp.toNatClampNeg n.toNatClampNeg)))) hi hc ?_
  unfold am_copy
  simp only [em_row h0 (Nat.le_refl 100), em_row h1 (Nat.le_refl 100), am_row]
  rw [if_pos ⟨hh.1, hh.2.1, hh.2.2.1, hh.2.2.2.1, hh.2.2.2.2, by decide⟩, e1]
end Rules
