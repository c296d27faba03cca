/-! THE START: what both sides hold of it -/
section Start3
variable {u : am_U}
theorem st_inv (hF : FI u = st_FI) (hR : FR u = st_FR) (hA : ∀ a t n j, sh a t n → a < 255 → (t = 100 ∨ t = 102 ∨ t = 103) → j < n → j < 30 → AI u a j = st_row0 a j) (hQ : ∀ a t n j, sh a t n → a < 255 → (t = 104 ∨ t = 105) → j < n → AR u a j = some (if t = 104 then 83 + 4 * j else 148 + 10 * j)) :
    InvC u (newS vE) 7 33 ∧ InvR u (newS vE) := by
  have z : ∀ a n j, sh a 100 n → a < 255 → ¬ a = 28 → ¬ a = 54 → j < n → j < 30 → AI u a j = 0 := fun a n j hs ha h1 h2 hj hj2 => by
    rw [hA a 100 n j hs ha (Or.inl rfl) hj hj2]
    unfold st_row0
    rw [if_neg (by omega)]
  have no : ∀ {P : Nat → Prop}, ∀ i, i < 0 → P i := fun i hi => absurd hi (Nat.not_lt_zero i)
  have s20 : sh 20 100 12 := rfl
  have s22 : sh 22 100 6 := rfl
  have s66 : sh 66 100 6 := rfl
  have s67 : sh 67 100 6 := rfl
  have s68 : sh 68 100 12 := rfl
  have s28 : sh 28 100 1000 := rfl
  have s31 : sh 31 100 1000 := rfl
  have s205 : sh 205 100 12 := rfl
  have s221 : sh 221 100 4 := rfl
  have s222 : sh 222 100 4 := rfl
  have s236 : sh 236 100 6 := rfl
  have s238 : sh 238 100 6 := rfl
  have s241 : sh 241 100 27 := rfl
  have s245 : sh 245 103 4 := rfl
  have s82 : sh 82 104 16 := rfl
  have s147 : sh 147 105 4 := rfl
  refine ⟨⟨⟨by rw [hR]; rfl, by rw [hR]; rfl, Or.inl ⟨rfl, rfl⟩, fun j hj => by rw [hQ 82 104 16 j s82 (by decide) (Or.inl rfl) hj]; rfl, fun j hj => by rw [hQ 147 105 4 j s147 (by decide) (Or.inr rfl) hj]; rfl, ⟨by rw [hF]; decide +kernel, by rw [hF]; decide +kernel, by rw [hF]; decide +kernel, by rw [hF]; decide +kernel⟩⟩, ⟨⟨⟨by rw [hF]; decide +kernel, by rw [hF]; decide +kernel, by rw [hF]; decide +kernel, by rw [hF]; decide +kernel⟩, ⟨by rw [hF]; decide +kernel, by rw [hF]; decide +kernel, by rw [hF]; decide +kernel, by rw [hF]; decide +kernel⟩, no, no, no, no, fun i hi => z 20 12 i s20 (by decide) (by decide) (by decide) hi (by omega), no, fun i hi => z 22 6 i s22 (by decide) (by decide) (by decide) hi (by omega), no, no, no, no, by rw [hF]; decide +kernel, by rw [hF]; decide +kernel⟩, ?_, ?_⟩, ⟨⟨fun p hp => z 66 6 p s66 (by decide) (by decide) (by decide) hp (by omega), fun p hp => z 67 6 p s67 (by decide) (by decide) (by decide) hp (by omega), fun p hp => z 68 12 p s68 (by decide) (by decide) (by decide) hp (by omega), by rw [hF]; decide +kernel, by rw [hF]; decide +kernel, by rw [hF]; decide +kernel⟩, ⟨by rw [hF]; decide +kernel, no⟩, ⟨by rw [hF]; decide +kernel, by rw [hF]; decide +kernel, by rw [hF]; decide +kernel⟩⟩, ⟨0, by decide, by rw [hF]; decide +kernel, by rw [hF]; decide +kernel, no⟩, fun k hk => ⟨?_, fun s hs => ?_⟩, ⟨by rw [hF]; decide +kernel, no⟩⟩, ⟨⟨⟨z 205 12 0 s205 (by decide) (by decide) (by decide) (by decide) (by decide), z 205 12 1 s205 (by decide) (by decide) (by decide) (by decide) (by decide), z 205 12 2 s205 (by decide) (by decide) (by decide) (by decide) (by decide), z 205 12 3 s205 (by decide) (by decide) (by decide) (by decide) (by decide), z 205 12 4 s205 (by decide) (by decide) (by decide) (by decide) (by decide)⟩, no, no, no, no, no, no, no, no, no, no, no⟩, ⟨fun _ => 0, fun _ => 0, fun k hk => ⟨z 221 4 k s221 (by decide) (by decide) (by decide) (by omega) (by omega), z 222 4 k s222 (by decide) (by decide) (by decide) (by omega) (by omega), Nat.zero_le _, Nat.zero_le _⟩, fun k hk h => absurd h (Nat.lt_irrefl _), fun _ h o => rfl, fun _ h o => rfl⟩, ⟨⟨fun p hp => z 241 27 (0 + p) s241 (by decide) (by decide) (by decide) (by omega) (by omega), no, z 241 27 (0 + 12) s241 (by decide) (by decide) (by decide) (by decide) (by decide), fun k hk => z 241 27 (0 + (13 + k)) s241 (by decide) (by decide) (by decide) (by omega) (by omega), z 241 27 (0 + 25) s241 (by decide) (by decide) (by decide) (by decide) (by decide), z 241 27 (0 + 26) s241 (by decide) (by decide) (by decide) (by decide) (by decide)⟩, ⟨z 236 6 0 s236 (by decide) (by decide) (by decide) (by decide) (by decide), no⟩, ⟨z 238 6 0 s238 (by decide) (by decide) (by decide) (by decide) (by decide), no⟩⟩, ⟨by rw [hF]; decide +kernel, no⟩, fun k hk => ⟨?_, fun s hs => ?_⟩, ⟨by rw [hF]; decide +kernel, no⟩⟩⟩
  · exact ⟨1, by decide, by rw [hF]; decide +kernel, fun h o k0 => by
      refine evalP_seg (e := fmHv) (Seg.one ?_) FmG_hv (by decide)
      rw [hA 28 100 1000 0 s28 (by decide) (Or.inl rfl) (by decide) (by decide)]
      rfl⟩
  · exact ⟨1, by decide, by rw [hF]; decide +kernel, fun h o k0 => by
      refine evalP_seg (e := fmNum 0) (Seg.one ?_) (FmG_num (by decide)) (by decide)
      rw [hA 31 100 1000 0 s31 (by decide) (Or.inl rfl) (by decide) (by decide)]
      rfl⟩
  · rw [hF]
    have : ∀ k, k < 4 → st_FI (148 + 10 * k) 5 = b2i false := by decide +kernel
    exact this k hk
  · have hs : (none : Option SN) = some s := hs
    cases hs
  · rw [hA 245 103 4 k s245 (by decide) (Or.inr (Or.inr rfl)) hk (by omega)]
    unfold st_row0
    rw [if_neg (by omega)]
    rfl
  · have hs : (none : Option SN) = some s := hs
    cases hs
theorem st_namesC : NamesC u 7 vE := ⟨fun i hi => absurd hi (Nat.not_lt_zero i), fun i hi => absurd hi (Nat.not_lt_zero i), fun i hi => absurd hi (Nat.not_lt_zero i), fun i hi => absurd hi (Nat.not_lt_zero i)⟩
theorem st_namesR : NamesR u 0 vE := ⟨fun i hi => absurd hi (Nat.not_lt_zero i), fun i hi => absurd hi (Nat.not_lt_zero i), fun i hi => absurd hi (Nat.not_lt_zero i), fun i hi => absurd hi (Nat.not_lt_zero i)⟩
theorem st_WS : WS (newS vE) := WS_new WF_E
end Start3
