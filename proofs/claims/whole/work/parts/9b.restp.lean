/-! RESTS, of the reference: what is played -/
def lfAt (v : LV) (l : LF) (pp : Nat → Nat) (σ : Nat → Nat) (ch : Nat → Nat) : Nat → LF
  | 0 => l
  | k + 1 => if canS v l (pp k) (stAt v l pp σ ch k) (ch k) then eatsL v (lfAt v l pp σ ch k) (pp k) (ch k - 1) else lfAt v l pp σ ch k
theorem can_p {v : LV} {l : LF} {p c : Nat} {σ : Nat → Nat} (h : canS v l p σ c = true) : 1 ≤ c ∧ 0 < σ (c - 1) := by
  unfold canS tkS at h
  simp only [Bool.and_eq_true, decide_eq_true_eq] at h
  exact ⟨h.1.1, h.2⟩
theorem lf_at {v : LV} {l : LF} {n : Nat} {pp ch : Nat → Nat} (hW : WF v) (hw : WL v l) (hpp : ∀ k, k < n → pp k < nE v) (hch : ∀ k, k < n → ch k ≤ nP v) : ∀ k, k ≤ n → WL v (lfAt v l pp (stk0 l) ch k) ∧ aliveL (lfAt v l pp (stk0 l) ch k) = aliveL l ∧ (∀ p, (∀ j, j < k → p ≠ pp j) → eatL (lfAt v l pp (stk0 l) ch k) p = eatL l p ∧ leftL (lfAt v l pp (stk0 l) ch k) p = leftL l p) ∧ (∀ j, copL (lfAt v l pp (stk0 l) ch k) j = nI (stAt v l pp (stk0 l) ch k j) ∧ stAt v l pp (stk0 l) ch k j ≤ 9)
  | 0, _ => ⟨hw, rfl, fun _ _ => ⟨rfl, rfl⟩, fun j => ix_cop hw j⟩
  | k + 1, hk => by
    obtain ⟨h1, h2, h3, h4⟩ := lf_at hW hw hpp hch k (by omega)
    have hp := hpp k (by omega)
    have hc := hch k (by omega)
    rw [lfAt, stAt]
    unfold useS useB
    generalize lfAt v l pp (stk0 l) ch k = lf at *
    generalize stAt v l pp (stk0 l) ch k = σ at *
    cases q : canS v l (pp k) σ (ch k)
    · rw [if_neg (by decide), Bool.false_and, if_neg (by decide)]
      exact ⟨h1, h2, fun p hp => h3 p (fun j hj => hp j (by omega)), h4⟩
    · obtain ⟨c1, c2⟩ := can_p q
      rw [if_pos rfl, Bool.true_and]
      have hcc := h4 (ch k - 1)
      have nlt : ¬ copL lf (ch k - 1) < 1 := by
        rw [hcc.1, i_lt1 (by omega)]
        omega
      refine ⟨WL_eats hW h1 hp (by omega) nlt, ?_, fun p hpj => ?_, fun j => ?_⟩
      · unfold eatsL dropL
        split <;> exact h2
      · have hpk := hpj k (by omega)
        have := h3 p (fun j hj => hpj j (by omega))
        have e1 : eatL (eatsL v lf (pp k) (ch k - 1)) p = upd (eatL lf) (pp k) (eatL lf (pp k) ||| bi (ch k - 1)) p := by unfold eatsL dropL; split <;> rfl
        have e2 : leftL (eatsL v lf (pp k) (ch k - 1)) p = upd (leftL lf) (pp k) (leftL lf (pp k) - weighV v (ch k - 1)) p := by unfold eatsL dropL; split <;> rfl
        rw [e1, e2, upd_n hpk, upd_n hpk]
        exact this
      · by_cases q3 : kindV v (ch k - 1) = 2
        · rw [decide_eq_true q3]
          have e3 : copL (eatsL v lf (pp k) (ch k - 1)) = copL lf := by unfold eatsL dropL; rw [if_pos q3]; rfl
          rw [e3]
          exact h4 j
        · rw [decide_eq_false q3, if_pos (show (!false) = true from rfl)]
          have e3 : copL (eatsL v lf (pp k) (ch k - 1)) = upd (copL lf) (ch k - 1) (copL lf (ch k - 1) - 1) := by unfold eatsL dropL; rw [if_neg q3]; rfl
          rw [e3]
          by_cases e : j = ch k - 1
          · rw [e, upd_s, upN_s, hcc.1, i_sb (by omega)]
            exact ⟨rfl, by omega⟩
          · rw [upd_n e, upN_n e]
            exact h4 j
theorem eats_can {v : LV} {l lf : LF} {p c : Nat} {σ : Nat → Nat} (h12 : nP v ≤ 12) (hp : p < 6) (c1 : 1 ≤ c) (hc : c ≤ nP v) (h2 : aliveL lf = aliveL l) (h3 : eatL lf p = eatL l p ∧ leftL lf p = leftL l p) (h4 : copL lf (c - 1) = nI (σ (c - 1)) ∧ σ (c - 1) ≤ 9) : eatsB v lf (nI p) (nI (c - 1)) = canS v l p σ c := by
  unfold eatsB canS tkS takesB livesI livesL
  rw [ix_nI (show p < 2 ^ 31 by omega), ix_nI (show c - 1 < 2 ^ 31 by omega), h2, h3.1, h3.2, h4.1, decide_eq_true (show 0 < c from c1), Bool.true_and]
  congr 1
  by_cases q : σ (c - 1) = 0
  · rw [decide_eq_true ((i_lt1 (by omega)).mpr q), decide_eq_false (by omega)]
    rfl
  · rw [decide_eq_false (fun z => q ((i_lt1 (by omega)).mp z)), decide_eq_true (by omega)]
    rfl
