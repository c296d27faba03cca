/-! THE REFERENCE READS: only second halves change -/
def lhP (a : Nat) : Prop := a = 203 ∨ (205 ≤ a ∧ a ≤ 225)
def fhP (a k : Nat) : Prop := (a = 205 ∧ k < 6) ∨ (210 ≤ a ∧ a ≤ 215 ∧ k < 12) ∨ (216 ≤ a ∧ a ≤ 218 ∧ k < 6) ∨ (219 ≤ a ∧ a ≤ 220 ∧ k < 5) ∨ ((a = 221 ∨ a = 222) ∧ k < 2) ∨ (a = 223 ∧ k < 1000)
def fnP (a k : Nat) : Prop := ((a = 206 ∨ a = 207) ∧ k < 12) ∨ (a = 208 ∧ k < 6) ∨ (a = 209 ∧ k < 5)
def ffP (k : Nat) : Prop := k = 4 ∨ k = 5 ∨ k = 6 ∨ k = 8 ∨ k = 9 ∨ k = 29 ∨ k = 30 ∨ k = 31 ∨ k = 44
def LhO (u u' : am_U) : Prop := Only lhP u u' ∧ (∀ a k, fhP a k → AI u' a k = AI u a k) ∧ (∀ a k, fnP a k → AJ u' a k = AJ u a k) ∧ (∀ k, ¬ ffP k → FI u' 203 k = FI u 203 k) ∧ ∀ k, ¬ k = 7 → FJ u' 203 k = FJ u 203 k
theorem LhO.rf (u : am_U) : LhO u u := ⟨Only.rf _ _, fun _ _ _ => rfl, fun _ _ _ => rfl, fun _ _ => rfl, fun _ _ => rfl⟩
theorem LhO.tr {u1 u2 u3 : am_U} (h1 : LhO u1 u2) (h2 : LhO u2 u3) : LhO u1 u3 := ⟨h1.1.tr h2.1, fun a k q => (h2.2.1 a k q).trans (h1.2.1 a k q), fun a k q => (h2.2.2.1 a k q).trans (h1.2.2.1 a k q), fun k q => (h2.2.2.2.1 k q).trans (h1.2.2.2.1 k q), fun k q => (h2.2.2.2.2 k q).trans (h1.2.2.2.2 k q)⟩
theorem RsO.lh {u u' : am_U} (h : RsO u u') : LhO u u' := ⟨h.1.wk (fun a q => Or.inl q), fun a k q => by rw [(h.1 a (by unfold is; unfold fhP at q; omega)).2.2.2.1], fun a k q => by rw [(h.1 a (by unfold is; unfold fnP at q; omega)).2.2.2.2.1], fun k q => by unfold ffP at q; exact h.2.1 k (by omega) (by omega) (by omega) (by omega) (by omega) (by omega), h.2.2⟩
theorem LhO.ai {u u1 : am_U} {a i : Nat} {x : Int32} (h : LhO u u1) (ha : lhP a) (hi : ¬ fhP a i) : LhO u (sAI u1 a (upd (AI u1 a) i x)) := ⟨of_ai h.1 ha, fun b k q => by
  rw [AI_sAI]
  by_cases e : b = a
  · rw [if_pos e]
    by_cases e2 : k = i
    · rw [e, e2] at q; exact absurd q hi
    · rw [upd_n e2, ← e]; exact h.2.1 b k q
  · rw [if_neg e]; exact h.2.1 b k q, h.2.2.1, h.2.2.2.1, h.2.2.2.2⟩
theorem LhO.aj {u u1 : am_U} {a i : Nat} {x : Int64} (h : LhO u u1) (ha : lhP a) (hi : ¬ fnP a i) : LhO u (sAJ u1 a (vp_updL (AJ u1 a) i x)) := ⟨of_aj h.1 ha, h.2.1, fun b k q => by
  rw [AJ_sAJ]
  by_cases e : b = a
  · rw [if_pos e]
    by_cases e2 : k = i
    · rw [e, e2] at q; exact absurd q hi
    · rw [updL_n e2, ← e]; exact h.2.2.1 b k q
  · rw [if_neg e]; exact h.2.2.1 b k q, h.2.2.2.1, h.2.2.2.2⟩
theorem LhO.fi {u u1 : am_U} {k : Nat} {x : Int32} (h : LhO u u1) (hk : ffP k) : LhO u (sFI u1 203 k x) := ⟨of_fi h.1 (Or.inl rfl), h.2.1, h.2.2.1, fun j q => by
  rw [FI_sFI, if_neg (fun z => q (by rw [z.2]; exact hk))]; exact h.2.2.2.1 j q, h.2.2.2.2⟩
/-- the laws' rows are as they were -/
def LwK (u u' : am_U) : Prop := AI u' 221 = AI u 221 ∧ AI u' 222 = AI u 222 ∧ AI u' 223 = AI u 223 ∧ FI u' 203 29 = FI u 203 29 ∧ FI u' 203 31 = FI u 203 31
theorem LwK.rf (u : am_U) : LwK u u := ⟨rfl, rfl, rfl, rfl, rfl⟩
theorem LwK.tr {u1 u2 u3 : am_U} (h1 : LwK u1 u2) (h2 : LwK u2 u3) : LwK u1 u3 := ⟨h2.1.trans h1.1, h2.2.1.trans h1.2.1, h2.2.2.1.trans h1.2.2.1, h2.2.2.2.1.trans h1.2.2.2.1, h2.2.2.2.2.trans h1.2.2.2.2⟩
theorem RsO.lw {u u' : am_U} (h : RsO u u') : LwK u u' := ⟨(h.1 221 (by unfold is; omega)).2.2.2.1, (h.1 222 (by unfold is; omega)).2.2.2.1, (h.1 223 (by unfold is; omega)).2.2.2.1, h.2.1 29 (by decide) (by decide) (by decide) (by decide) (by decide) (by decide), h.2.1 31 (by decide) (by decide) (by decide) (by decide) (by decide) (by decide)⟩
def offr : Nat → Nat
  | 0 => 12
  | 1 => 12
  | 2 => 12
  | 3 => 12
  | 4 => 12
  | 5 => 12
  | 6 => 6
  | 7 => 6
  | 8 => 6
  | 9 => 5
  | _ => 5
def bndR (v : LV) : Nat → Nat
  | 0 => nF v
  | 1 => nF v
  | 2 => nP v
  | 3 => nP v
  | 4 => nP v
  | 5 => nP v
  | 6 => nE v
  | 7 => nE v
  | 8 => nE v
  | 9 => nT v
  | _ => nT v
theorem offr_h : ∀ r, r < 11 → ∀ k, ¬ fhP (210 + r) (offr r + k) := by
  refine r11 (P := fun r => ∀ k, ¬ fhP (210 + r) (offr r + k)) ?_ ?_ ?_ ?_ ?_ ?_ ?_ ?_ ?_ ?_ ?_
  all_goals
    intro k q
    unfold fhP at q
    simp only [offr] at q
    omega
/-- the reference's library while it is read -/
def BkR2 (u : am_U) (v : LV) : Prop := BkR u v ∧ RowsG u 210 offr (fun r i => i < bndR v r) v.2.1 ∧ AI u 205 10 = burnV v
/-- while a statement is read: from u on, now u1 -/
def StR (u u1 : am_U) (n : Nat) (f : Nat → Nat) (m i : Nat) (v : LV) (D : Nat → Nat → Prop) (R : Nat → Nat → Int32) : Prop := LhO u u1 ∧ RSt u1 n f i ∧ i ≤ m ∧ BkR u1 v ∧ RowsG u1 210 offr D R ∧ AI u1 205 10 = burnV v ∧ LwK u u1
theorem RowsG.rs {u u' : am_U} {D : Nat → Nat → Prop} {R : Nat → Nat → Int32} (h : RowsG u 210 offr D R) (ho : RsO u u') : RowsG u' 210 offr D R := fun r i hr q => by
  rw [(ho.1 (210 + r) (by unfold is; omega)).2.2.2.1]
  exact h r i hr q
theorem RSt.ai {u : am_U} {n i a : Nat} {f : Nat → Nat} {g : Nat → Int32} (h : RSt u n f i) (ha : ¬ a = 204) : RSt (sAI u a g) n f i := by
  obtain ⟨⟨a1, b, c⟩, d⟩ := h
  exact ⟨⟨by rw [AI_sAI, if_neg (by omega)]; exact a1, b, c⟩, d⟩
section St
variable {u u1 u2 : am_U} {n m i j : Nat} {f : Nat → Nat} {v : LV} {D : Nat → Nat → Prop} {R : Nat → Nat → Int32}
theorem StR.rs (h : StR u u1 n f m i v D R) (ho : RsO u1 u2) (hs : RSt u2 n f j) (hj : j ≤ m) : StR u u2 n f m j v D R := by
  obtain ⟨a, b, c, d, e, g, w⟩ := h
  exact ⟨a.tr ho.lh, hs, hj, d.rs ho, e.rs ho, by rw [(ho.1 205 (by unfold is; omega)).2.2.2.1]; exact g, w.tr ho.lw⟩
theorem StR.nx (h : StR u u1 n f m i v D R) (ho : NxO u1 u2) (hs : RSt u2 n f j) (hj : j ≤ m) : StR u u2 n f m j v D R := h.rs ((RsO.rf u1).nx ho) hs hj
theorem BkR.ai {a : Nat} {g : Nat → Int32} (h : BkR u v) (ha : ¬ a = 205) : BkR (sAI u a g) v := by
  obtain ⟨a1, b, c⟩ := h
  exact ⟨by rw [AI_sAI, if_neg (by omega)]; exact a1, b, c⟩
theorem StR.put (h : StR u u1 n f m i v D R) {r0 : Nat} (hr : r0 < 11) (i0 : Nat) (x : Int32) : StR u (sAI u1 (210 + r0) (upd (AI u1 (210 + r0)) (offr r0 + i0) x)) n f m i v (fun r i => D r i ∨ (r = r0 ∧ i = i0)) (putR R r0 i0 x) := by
  obtain ⟨a, b, c, d, e, g, w1, w2, w3, w4, w5⟩ := h
  refine ⟨a.ai (Or.inr (by omega)) (offr_h r0 hr i0), b.ai (by omega), c, d.ai (by omega), e.put r0 i0 x, ?_, ?_, ?_, ?_, w4, w5⟩
  · rw [AI_sAI, if_neg (by omega)]; exact g
  · rw [AI_sAI, if_neg (by omega)]; exact w1
  · rw [AI_sAI, if_neg (by omega)]; exact w2
  · rw [AI_sAI, if_neg (by omega)]; exact w3
theorem NmRow.addR {g : Nat → Int64} {b cnt o : Nat} {N : Nat → Nat → List Nat} {k : Nat} {w : List Nat} (h : NmRow (fun i => g (o + i)) b cnt (N k)) (hw : WordOk w) : NmRow (fun i => vp_updL g (o + cnt) (Int64.ofNat (bas b w)) (o + i)) b (cnt + 1) (putN N k cnt w k) := by
  intro i hi
  unfold putN
  by_cases e : i = cnt
  · rw [e, if_pos ⟨rfl, rfl⟩]; exact ⟨updL_s, hw⟩
  · rw [if_neg (fun q => e q.2)]
    have := h i (by omega)
    exact ⟨(updL_n (by omega)).trans this.1, this.2⟩
end St
/-- a statement's reading by the reference -/
def StmR (u : am_U) (n : Nat) (f : Nat → Nat) (m : Nat) (r : Except Nat (LV × Nat)) (post : Option Value → am_M → Prop) : Prop :=
  (∀ e u', r = .error e → LhO u u' → FI u' 203 9 = nI e → post (some (.int 0)) (am_emb u')) ∧
  (∀ v' j u', r = .ok (v', j) → LhO u u' → BkR2 u' v' → RSt u' n f j → j ≤ m → LwK u u' → post (some (.int 1)) (am_emb u'))
