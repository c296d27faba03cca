/-! THE START: the memory that the constructors leave is one of the shapes, and what both sides hold of it -/
theorem st_ce_eq {m : am_M} {a : Nat} {q : Nat × Nat} (hq : am_shL[a]? = some q) (h : st_ce a q (m.2.2 a) = true) : m.2.2 a = am_cell (st_U m) a := by
  have e1 : st_AI m a = (match m.2.2 a with | .inl (_, _, .inl f) => f | _ => fun _ => 0) := rfl
  have e2 : st_AJ m a = (match m.2.2 a with | .inl (_, _, .inr (.inl f)) => f | _ => fun _ => 0) := rfl
  have e3 : st_AR m a = (match m.2.2 a with | .inl (_, _, .inr (.inr (.inr (.inr f)))) => f | _ => fun _ => none) := rfl
  unfold am_cell
  rw [hq]
  dsimp only
  obtain ⟨t, n⟩ := q
  generalize m.2.2 a = c at *
  unfold st_ce at h
  split at h
  · next ci fs =>
    simp only [Bool.and_eq_true, decide_eq_true_eq] at h
    obtain ⟨⟨rfl, h2⟩, h3⟩ := h
    rw [if_pos h2, st_lq_eq h3]
    rfl
  · next ty k f =>
    simp only [Bool.and_eq_true, decide_eq_true_eq] at h
    obtain ⟨⟨h1, h2, rfl⟩, -⟩ := h
    dsimp only at h1 e1
    rw [if_neg (by omega)]
    rcases h2 with rfl | rfl | rfl
    · obtain rfl : t = 100 := h1
      show _ = Sum.inl (0, k, Sum.inl (AI (st_U m) a))
      rw [show AI (st_U m) a = st_AI m a from rfl, e1]
    · obtain rfl : t = 102 := h1
      show _ = Sum.inl (2, k, Sum.inl (AI (st_U m) a))
      rw [show AI (st_U m) a = st_AI m a from rfl, e1]
    · obtain rfl : t = 103 := h1
      show _ = Sum.inl (3, k, Sum.inl (AI (st_U m) a))
      rw [show AI (st_U m) a = st_AI m a from rfl, e1]
  · next ty k f =>
    simp only [decide_eq_true_eq] at h
    obtain ⟨h1, rfl, rfl⟩ := h
    try dsimp only at h1 e2
    subst h1
    rw [if_neg (show ¬ (101 : Nat) < 100 by decide)]
    show _ = Sum.inl (1, k, Sum.inr (Sum.inl (AJ (st_U m) a)))
    rw [show AJ (st_U m) a = st_AJ m a from rfl, e2]
  · next ty k f =>
    simp only [Bool.and_eq_true, decide_eq_true_eq] at h
    obtain ⟨⟨h1, h2, rfl⟩, -⟩ := h
    dsimp only at h1 e3
    rw [if_neg (by omega)]
    rcases h2 with rfl | rfl
    · obtain rfl : t = 104 := h1
      show _ = Sum.inl (4, k, Sum.inr (Sum.inr (Sum.inr (Sum.inr (AR (st_U m) a)))))
      rw [show AR (st_U m) a = st_AR m a from rfl, e3]
    · obtain rfl : t = 105 := h1
      show _ = Sum.inl (5, k, Sum.inr (Sum.inr (Sum.inr (Sum.inr (AR (st_U m) a)))))
      rw [show AR (st_U m) a = st_AR m a from rfl, e3]
  · cases h
theorem st_row {m : am_M} {a t n j : Nat} (hq : sh a t n) (h : st_ce a (t, n) (m.2.2 a) = true) (ht : t = 100 ∨ t = 102 ∨ t = 103) (hj : j < n) (hj2 : j < 30) : AI (st_U m) a j = st_row0 a j := by
  have e1 : AI (st_U m) a = (match m.2.2 a with | .inl (_, _, .inl f) => f | _ => fun _ => 0) := rfl
  rw [e1]
  generalize m.2.2 a = c at *
  unfold st_ce at h
  split at h
  · next ci fs =>
    simp only [Bool.and_eq_true, decide_eq_true_eq] at h
    obtain ⟨⟨h1, h2⟩, h3⟩ := h
    try dsimp only at h1
    omega
  · next ty k f =>
    simp only [Bool.and_eq_true, decide_eq_true_eq] at h
    obtain ⟨⟨h1, h2, rfl⟩, h3⟩ := h
    have h4 := List.all_eq_true.mp h3 j (List.mem_range.mpr (by omega))
    exact of_decide_eq_true h4
  · next ty k f =>
    simp only [decide_eq_true_eq] at h
    obtain ⟨h1, h2, h3⟩ := h
    have h1 : t = 101 := h1
    omega
  · next ty k f =>
    simp only [Bool.and_eq_true, decide_eq_true_eq] at h
    obtain ⟨⟨h1, h2, h4⟩, h3⟩ := h
    rcases h2 with rfl | rfl
    · have h1 : t = 104 := h1
      omega
    · have h1 : t = 105 := h1
      omega
  · cases h
theorem st_ref {m : am_M} {a t n j : Nat} (h : st_ce a (t, n) (m.2.2 a) = true) (ht : t = 104 ∨ t = 105) (hj : j < n) : AR (st_U m) a j = some (if t = 104 then 83 + 4 * j else 148 + 10 * j) := by
  have e1 : AR (st_U m) a = (match m.2.2 a with | .inl (_, _, .inr (.inr (.inr (.inr f)))) => f | _ => fun _ => none) := rfl
  rw [e1]
  generalize m.2.2 a = c at *
  unfold st_ce at h
  split at h
  · next ci fs =>
    simp only [Bool.and_eq_true, decide_eq_true_eq] at h
    obtain ⟨⟨h1, h2⟩, h3⟩ := h
    try dsimp only at h1
    omega
  · next ty k f =>
    simp only [Bool.and_eq_true, decide_eq_true_eq] at h
    obtain ⟨⟨h1, h2, h4⟩, h3⟩ := h
    rcases h2 with rfl | rfl | rfl
    · have h1 : t = 100 := h1
      omega
    · have h1 : t = 102 := h1
      omega
    · have h1 : t = 103 := h1
      omega
  · next ty k f =>
    simp only [decide_eq_true_eq] at h
    obtain ⟨h1, h2, h3⟩ := h
    have h1 : t = 101 := h1
    omega
  · next ty k f =>
    simp only [Bool.and_eq_true, decide_eq_true_eq] at h
    obtain ⟨⟨h1, h2, rfl⟩, h3⟩ := h
    try dsimp only at h1
    have h4 := of_decide_eq_true (List.all_eq_true.mp h3 j (List.mem_range.mpr hj))
    dsimp only
    rw [h4]
    rcases h2 with rfl | rfl
    · rw [if_pos rfl, if_pos h1]
    · rw [if_neg (by decide), if_neg (by omega)]
  · cases h
theorem st_main : ∃ m1 m3 : am_M, st_r1 = some (none, m1) ∧ m1.1 = 203 ∧ m1.2.1 = 12303 ∧ am_run true 3000 20 159 0 [some (.ref 203)] [] (am_new m1 (.inr (12, (am_dv 12).getD [])) 68) = some (none, m3) ∧ m3.1 = 255 ∧ m3.2.1 = 19229 ∧ st_chk m3 0 255 = true := by
  have h := st_t1
  have h2 := st_t2
  have e2 : st_r2 = am_run true 3000 20 159 0 [some (.ref 203)] [] st_m2 := by unfold st_r2; rfl
  have e3 : st_m2 = (match st_r1 with | some (_, m) => am_new m (.inr (12, (am_dv 12).getD [])) 68 | none => am_zero) := by unfold st_m2; rfl
  unfold st_c1 at h
  unfold st_c2 at h2
  generalize st_r1 = r1 at *
  match r1, h, e3 with
  | some (none, m1), h, e3 =>
    simp only [Bool.and_eq_true, decide_eq_true_eq] at h
    dsimp only at e3
    rw [e3] at e2
    generalize hr : am_run true 3000 20 159 0 [some (.ref 203)] [] (am_new m1 (.inr (12, (am_dv 12).getD [])) 68) = r3 at *
    rw [e2] at h2
    match r3, h2, hr with
    | some (none, m3), h2, hr =>
      simp only [Bool.and_eq_true, decide_eq_true_eq] at h2
      exact ⟨m1, m3, rfl, h.1.1, h.1.2, hr, h2.1.1, h2.1.2, h2.2⟩
/-- the memory at the loop's first turn -/
theorem st_exists : ∃ (m1 m3 : am_M) (u : am_U), st_r1 = some (none, m1) ∧ m1.1 = 203 ∧ m1.2.1 = 12303 ∧ am_run true 3000 20 159 0 [some (.ref 203)] [] (am_new m1 (.inr (12, (am_dv 12).getD [])) 68) = some (none, m3) ∧ m3.1 = 255 ∧ m3.2.1 = 19229 ∧
    (∀ b sa dA, am_ws b sa dA (am_new m3 (.inl (1, 1, .inr (.inl (fun _ => 0)))) 1) = am_ws b sa dA (am_emb u)) ∧
    FI u = st_FI ∧ FR u = st_FR ∧ (∀ a t n j, sh a t n → a < 255 → (t = 100 ∨ t = 102 ∨ t = 103) → j < n → j < 30 → AI u a j = st_row0 a j) ∧ (∀ a t n j, sh a t n → a < 255 → (t = 104 ∨ t = 105) → j < n → AR u a j = some (if t = 104 then 83 + 4 * j else 148 + 10 * j)) := by
  obtain ⟨m1, m3, h1, h2, h3, h4, h5, h6, h7⟩ := st_main
  have hc : ∀ k, k < 255 → ∀ q, am_shL[k]? = some q → st_ce k q (m3.2.2 k) = true := fun k hk q hq => by
    have := List.all_eq_true.mp h7 k (List.mem_range.mpr hk)
    rw [Nat.zero_add] at this
    rw [hq] at this
    exact this
  have hlen : am_shL.length = 256 := am_shL_len
  have hsome : ∀ k, k < 256 → ∃ q, am_shL[k]? = some q := fun k hk => ⟨am_shL[k]'(by omega), List.getElem?_eq_getElem (by omega)⟩
  have h255 : am_shL[255]? = some (101, 1) := rfl
  refine ⟨m1, m3, st_U (am_new m3 (.inl (1, 1, .inr (.inl (fun _ => 0)))) 1), h1, h2, h3, h4, h5, h6, ?_, rfl, rfl, ?_, ?_⟩
  · intro b sa dA
    generalize hm : am_new m3 (.inl (1, 1, .inr (.inl (fun _ => 0)))) 1 = m4
    have e4 : ∀ k, k < 255 → m4.2.2 k = m3.2.2 k := fun k hk => by
      rw [← hm]
      show (if k = m3.1 then _ else _) = _
      rw [if_neg (by omega)]
    have e5 : m4.2.2 255 = .inl (1, 1, .inr (.inl (fun _ => 0))) := by
      rw [← hm]
      show (if 255 = m3.1 then _ else _) = _
      rw [if_pos h5.symm]
    have e1 : m4.1 = 256 := by rw [← hm]; show m3.1 + 1 = 256; omega
    unfold am_ws
    rw [e1]
    show List.map _ (List.range 256) = List.map _ (List.range 256)
    refine List.map_congr_left fun k hk => ?_
    have hk := List.mem_range.mp hk
    obtain ⟨q, hq⟩ := hsome k hk
    have e : m4.2.2 k = am_cell (st_U m4) k := by
      refine st_ce_eq hq ?_
      by_cases e : k = 255
      · subst e
        rw [h255] at hq
        cases hq
        rw [e5]
        rfl
      · rw [e4 k (by omega)]
        exact hc k (by omega) q hq
    show (b + k, am_ce b sa dA (m4.2.2 k)) = (b + k, am_ce b sa dA (am_cell (st_U m4) k))
    rw [e]
  · intro a t n j hs ha ht hj hj2
    refine st_row hs ?_ ht hj hj2
    show st_ce a (t, n) (if a = m3.1 then _ else _) = true
    rw [if_neg (by omega)]
    exact hc a ha _ hs
  · intro a t n j hs ha ht hj
    refine st_ref ?_ ht hj
    show st_ce a (t, n) (if a = m3.1 then _ else _) = true
    rw [if_neg (by omega)]
    exact hc a ha _ hs
