theorem am_I_ok : ∀ r ∈ am_ms, r.2.2.2.2.2.all (am_okI r) = true := sorry
