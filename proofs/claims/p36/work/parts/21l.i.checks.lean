/-! THE TABLES HOLD: each row by program. -/
theorem ok_Law_law_k20 : (c_Law_law_k20.all fun q => tb_ck m_Law_law q) = true := by decide +kernel
theorem ok_Law_law_k21 : (c_Law_law_k21.all fun q => tb_ck m_Law_law q) = true := by decide +kernel
theorem ok_Law_law_k22 : (c_Law_law_k22.all fun q => tb_ck m_Law_law q) = true := by decide +kernel
theorem ok_Law_law_k23 : (c_Law_law_k23.all fun q => tb_ck m_Law_law q) = true := by decide +kernel
