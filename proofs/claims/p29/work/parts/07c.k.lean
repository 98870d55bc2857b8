/-! words of act -/
set_option maxRecDepth 100000 in
theorem tbl_act : lw_tbl[234]? = some (wc KL_act) := by rfl
theorem okL_act : OkS KL_act 5 := ⟨rfl, ⟨lw_gin 234 tbl_act (by decide +kernel), lw_gin 14 (by decide +kernel) (by decide +kernel), by decide +kernel⟩, lw_gin 233 (by decide +kernel) (by decide +kernel)⟩
