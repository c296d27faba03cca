/-! LIBRARY keeps what is sound -/
theorem WS_new {v : LV} (hW : WF v) : WS (newS v) :=
  ⟨hW, ⟨WL_begin hW, ⟨Nat.zero_le _, fun j hj => absurd hj (Nat.not_lt_zero j)⟩, ⟨Nat.zero_le _, fun j hj => absurd hj (Nat.not_lt_zero j)⟩⟩, ⟨Nat.zero_le _, fun j hj => absurd hj (Nat.not_lt_zero j)⟩, (fun k s hs => (by have hs : (none : Option SN) = some s := hs; cases hs)), Nat.zero_le _, fun j hj => absurd hj (Nat.not_lt_zero j)⟩
theorem WS_library {P : Nat → Nat → Rt} {S : ST} {f : Nat → Nat} (hW : WS S) (h : WF (libraryS P S f).1.1 ∨ (libraryS P S f).1.1 = S.1) : WS (libraryS P S f).1 := by
  unfold libraryS at *
  cases z : libS P (tk S.2.2.2.2.1 f) 1000 vE (false, false, false) 0 with
  | error e =>
    obtain ⟨h1, h2, h3, h4, h5, h6⟩ := hW
    exact ⟨h1, h2, h3, h4, Nat.zero_le _, fun j hj => absurd hj (Nat.not_lt_zero j)⟩
  | ok v =>
    rw [z] at h
    rcases h with h | h
    · exact WS_new h
    · have h : v = S.1 := h
      rw [h]
      exact WS_new hW.1
