/-! the words of a throw -/
theorem px_tbl : ((vx_at0 RX11 172 px_X px_names).all (fun w => goodWord w && decide (w ∈ lw_tbl) || decide (w ∈ px_B))) = true := by decide +kernel
theorem px_fit : Bundle.fit px_X = true ∧ ∀ n ∈ px_names, Bundle.fit n = true := by decide +kernel
theorem px_ot : ((Cond.classLink RX11 170 px_X :: Cond.initialized px_X :: vx_at0 RX11 172 px_X px_names).all vx_ot) = true := by decide +kernel
theorem px_w1 : Cond.classLink RX11 170 px_X ∈ am_WS ∧ Cond.initialized px_X ∈ am_WS := ⟨am_W_in (j := 1317) (by decide +kernel), am_W_in (j := 154) (by decide +kernel)⟩
