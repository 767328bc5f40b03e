/-! THE TABLES HOLD: each row by program. -/
theorem ok_Law_law_k4 : (c_Law_law_k4.all fun q => tb_ck m_Law_law q) = true := by decide +kernel
theorem ok_Law_law_k5 : (c_Law_law_k5.all fun q => tb_ck m_Law_law q) = true := by decide +kernel
theorem ok_Law_law_k6 : (c_Law_law_k6.all fun q => tb_ck m_Law_law q) = true := by decide +kernel
theorem ok_Law_law_k7 : (c_Law_law_k7.all fun q => tb_ck m_Law_law q) = true := by decide +kernel
