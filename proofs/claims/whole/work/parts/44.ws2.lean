/-! what holds of states is kept by tell -/
theorem WS_tell {S : ST} (h : WS S) (x : Int32) (c : Bool) : WS (tellS S x c).1 := by
  unfold tellS
  cases hq : okI x (nT S.1) && decide (S.2.1.2.2.1 < 12)
  · exact h
  · rw [Bool.and_eq_true, decide_eq_true_eq] at hq
    obtain ⟨i1, i2⟩ := okI_ix hq.1
    obtain ⟨h1, ⟨h2, h3, h4⟩, h5⟩ := h
    refine ⟨h1, ⟨h2, h3, ?_, fun k hk => ?_⟩, h5⟩
    · show S.2.1.2.2.1 + 1 ≤ 12
      omega
    · have hk : k < S.2.1.2.2.1 + 1 := hk
      show (if k = S.2.1.2.2.1 then ix x else S.2.1.2.2.2.1 k) < nT S.1
      by_cases e : k = S.2.1.2.2.1
      · rw [if_pos e]; exact i1
      · rw [if_neg e]; exact h4.2 k (by omega)
