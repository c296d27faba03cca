/-! WHAT ACTS MAY TOUCH, wider -/
def actQ (a : Nat) : Prop := a = 0 ∨ inL 65 a ∨ inL 74 a ∨ inL 78 a ∨ (83 ≤ a ∧ a < 147) ∨ a = 29 ∨ a = 32 ∨ a = 55 ∨ a = 58
theorem act_inv2 {u u' : am_U} {S : ST} {L L' : Nat} {l : LF} {p : Nat × (Nat → LF)} (h : InvC u S L L') (ho : Only actQ u u') (hf : FR u' 0 = FR u 0) (hl : LifeC u' 65 l) (hp : PastC u' p) : InvC u' (withLP S l p) L L' := by
  obtain ⟨⟨r1, r2, r3, r4, r5, r6⟩, ⟨l1, l2, l3⟩, st, -, mk, tp⟩ := h
  have n : ∀ a, (1 ≤ a ∧ a ≤ 28 ∨ a = 30 ∨ a = 31 ∨ 33 ≤ a ∧ a ≤ 54 ∨ a = 56 ∨ a = 57 ∨ 59 ≤ a ∧ a ≤ 64 ∨ 69 ≤ a ∧ a ≤ 73 ∨ a = 82 ∨ 147 ≤ a) → ¬ actQ a := fun a ha q => by unfold actQ inL at q; omega
  have e := fun a ha => ho a (n a ha)
  refine ⟨⟨by rw [hf]; exact r1, by rw [hf]; exact r2, r3, by rw [(e 82 (by omega)).2.2.2.2.2]; exact r4, by rw [(e 147 (by omega)).2.2.2.2.2]; exact r5, ?_⟩, ⟨l1.keep2 ho (fun k hk => n _ (by omega)), l2.keep ho (n _ (by omega)) (n _ (by omega)), l3.keep ho (n _ (by omega)) (n _ (by omega))⟩, ⟨hl, st.2.1.keep ho (fun k hk => n _ (by omega)), ?_⟩, hp, fun k hk => ⟨by rw [(e (148 + 10 * k) (by omega)).1]; exact (mk k hk).1, fun s hs => ((mk k hk).2 s hs).keep ho (fun i hi => n _ (by omega))⟩, ?_⟩
  · unfold most4
    rw [(e (L' + 1) (by omega)).1, (e (L' + 3) (by omega)).1, (e (L' + 5) (by omega)).1, (e (L' + 7) (by omega)).1]
    exact r6
  · unfold ToldC
    rw [(e 64 (by omega)).1]
    exact st.2.2
  · unfold TapeC
    rw [(e 1 (by omega)).1, (e 2 (by omega)).2.2.2.1]
    exact tp
theorem inLS_Q {b L L' a : Nat} (hb : b = 65 ∨ b = 74) (hL : (L = 7 ∧ L' = 33) ∨ (L = 33 ∧ L' = 7)) (h : inLS b L a) : actQ a := by
  unfold inLS inL at h
  unfold actQ inL
  omega
theorem actQ_C {a : Nat} (h : actQ a) : inC a := by
  unfold actQ inL at h
  unfold inC
  omega
/-- what the reference's acts touch -/
def actS (a : Nat) : Prop := a = 203 ∨ (226 ≤ a ∧ a ≤ 235) ∨ a = 241 ∨ a = 242 ∨ a = 244
theorem actS_R {a : Nat} (h : actS a) : inR a := by
  unfold actS at h
  unfold inR
  omega
theorem actS_inv {u u' : am_U} {S : ST} {l : LF} {p : Nat × (Nat → LF)} (h : InvR u S) (ho : Only actS u u') (hf : FI u' 203 1 = FI u 203 1) (hl : LifeR u' S.1 l) (hp : PastR u' S.1 p) : InvR u' (withLP S l p) := by
  have n : ∀ a, 204 ≤ a → a ≤ 225 ∨ 236 ≤ a → ¬ a = 241 → ¬ a = 242 → ¬ a = 244 → ¬ actS a := fun a h1 h2 h3 h4 h5 q => by unfold actS at q; omega
  have e := fun a (ha : ¬ actS a) => (ho a ha).2.2.2.1
  obtain ⟨h1, h2, h3, -, h5, h6⟩ := h
  refine ⟨h1.keep ho (fun a q1 q2 => n a (by omega) (by omega) (by omega) (by omega) (by omega)), h2.keep ho (fun a q1 q2 => n a (by omega) (by omega) (by omega) (by omega) (by omega)), ⟨hl, ?_, ?_⟩, hp, fun k hk => ?_, ?_⟩
  · unfold LinesR
    rw [e 236 (n _ (by decide) (by decide) (by decide) (by decide) (by decide)), e 237 (n _ (by decide) (by decide) (by decide) (by decide) (by decide))]
    exact h3.2.1
  · unfold ToldR
    rw [e 238 (n _ (by decide) (by decide) (by decide) (by decide) (by decide)), e 239 (n _ (by decide) (by decide) (by decide) (by decide) (by decide)), e 240 (n _ (by decide) (by decide) (by decide) (by decide) (by decide))]
    exact h3.2.2
  · unfold LinesR ToldR
    rw [e 236 (n _ (by decide) (by decide) (by decide) (by decide) (by decide)), e 237 (n _ (by decide) (by decide) (by decide) (by decide) (by decide)), e 238 (n _ (by decide) (by decide) (by decide) (by decide) (by decide)), e 239 (n _ (by decide) (by decide) (by decide) (by decide) (by decide)), e 240 (n _ (by decide) (by decide) (by decide) (by decide) (by decide)), e 243 (n _ (by decide) (by decide) (by decide) (by decide) (by decide)), e 245 (n _ (by decide) (by decide) (by decide) (by decide) (by decide))]
    exact h5 k hk
  · unfold TapeR
    rw [hf, e 204 (n _ (by decide) (by decide) (by decide) (by decide) (by decide))]
    exact h6
