/-! words of act -/
theorem okL_act : OkS KL_act 5 := ⟨rfl, ⟨lw_gin 234 (by decide +kernel) (by decide +kernel), lw_gin 14 (by decide +kernel) (by decide +kernel), by decide +kernel⟩, lw_gin 233 (by decide +kernel) (by decide +kernel)⟩
