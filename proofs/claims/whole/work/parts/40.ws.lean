/-! WHAT HOLDS OF EVERY STATE IS KEPT -/
theorem bt_bi_f {k j : Nat} (hk : k < 32) (h : j ≠ k) : bt (bi k) j = false := by
  rcases Nat.lt_or_ge j 32 with q | q
  · rw [bt_bi hk q, decide_eq_false h]
  · exact b_big q
theorem WL_swallow {v : LV} {l : LF} {p k : Nat} (hW : WF v) (hw : WL v l) (hp : p < nE v) (hk : k < nP v) : WL v (swallowL v l p k) := by
  obtain ⟨a1, a2, a3, a4, a5, a6⟩ := hw
  have h12 := hW.1.2.1
  refine ⟨a1, fun _ => rfl, fun q j hj => ?_, a4, a5, fun q hq => ?_⟩
  · show bt (upd (eatL l) p (eatL l p ||| bi k) q) j = false
    by_cases e : q = p
    · rw [e, upd_s, b_or, a3 p j hj, bt_bi_f (by omega) (by omega)]; rfl
    · rw [upd_n e]; exact a3 q j hj
  · show upd (eatL l) p (eatL l p ||| bi k) q = 0
    rw [upd_n (by omega)]; exact a6 q hq
theorem dec9 : ∀ n, n ≤ 9 → ¬ nI n < 1 → nI n - 1 = nI (n - 1) := by decide +kernel
theorem WL_eats {v : LV} {l : LF} {p k : Nat} (hW : WF v) (hw : WL v l) (hp : p < nE v) (hk : k < nP v) (hc : ¬ copL l k < 1) : WL v (eatsL v l p k) := by
  have h1 := WL_swallow hW hw hp hk
  unfold eatsL dropL
  by_cases q : kindV v k = 2
  · rw [if_pos q]; exact h1
  · rw [if_neg q]
    obtain ⟨a1, a2, a3, a4, a5, a6⟩ := h1
    refine ⟨a1, fun _ => rfl, a3, fun j => ?_, fun j hj => ?_, a6⟩
    · show ∃ n : Nat, n ≤ 9 ∧ upd (copL l) k (copL l k - 1) j = nI n
      by_cases e : j = k
      · obtain ⟨n, hn, hq⟩ := hw.2.2.2.1 k
        rw [e, upd_s]
        rw [hq] at hc
        exact ⟨n - 1, by omega, by rw [hq]; exact dec9 n hn hc⟩
      · rw [upd_n e]; exact hw.2.2.2.1 j
    · show upd (copL l) k (copL l k - 1) j = 0
      rw [upd_n (by omega)]; exact hw.2.2.2.2.1 j hj
theorem WS_act {S : ST} {l : LF} (h : WS S) (hl : WL S.1 l) : WS (withLP S l (pushV S.2.2.1 S.2.1.1)) := by
  obtain ⟨h1, h2, ⟨h3, h4⟩, h5⟩ := h
  refine ⟨h1, ⟨hl, h2.2⟩, ?_, h5⟩
  show (pushV S.2.2.1 S.2.1.1).1 ≤ 16 ∧ ∀ j, j < (pushV S.2.2.1 S.2.1.1).1 → WL S.1 ((pushV S.2.2.1 S.2.1.1).2 j)
  unfold pushV
  by_cases q : S.2.2.1.1 < 16
  · rw [if_pos q]
    refine ⟨q, fun j hj => ?_⟩
    have hj : j < S.2.2.1.1 + 1 := hj
    show WL S.1 (if j = S.2.2.1.1 then S.2.1.1 else S.2.2.1.2 j)
    by_cases e : j = S.2.2.1.1
    · rw [if_pos e]; exact h2.1
    · rw [if_neg e]; exact h4 j (by omega)
  · rw [if_neg q]
    refine ⟨Nat.le_refl 16, fun j hj => ?_⟩
    have hj : j < 16 := hj
    show WL S.1 (if j = 15 then S.2.1.1 else S.2.2.1.2 (j + 1))
    by_cases e : j = 15
    · rw [if_pos e]; exact h2.1
    · rw [if_neg e]; exact h4 (j + 1) (by omega)
theorem WS_eat {S : ST} (h : WS S) (x y : Int32) : WS (eatS S x y).1 := by
  unfold eatS
  cases hq : eatsB S.1 S.2.1.1 x y
  · exact h
  · refine WS_act h ?_
    unfold eatsB takesB at hq
    simp only [Bool.and_eq_true, Bool.not_eq_true', decide_eq_false_iff_not] at hq
    exact WL_eats h.1 h.2.1.1 (alive_ix h.2.1.1 hq.1.1.1.1).1 (okI_ix hq.1.1.1.2).1 hq.2
