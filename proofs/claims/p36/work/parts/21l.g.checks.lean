/-! THE TABLES HOLD: each row by program. -/
theorem ok_Law_law_k12 : (c_Law_law_k12.all fun q => tb_ck m_Law_law q) = true := by decide +kernel
theorem ok_Law_law_k13 : (c_Law_law_k13.all fun q => tb_ck m_Law_law q) = true := by decide +kernel
theorem ok_Law_law_k14 : (c_Law_law_k14.all fun q => tb_ck m_Law_law q) = true := by decide +kernel
theorem ok_Law_law_k15 : (c_Law_law_k15.all fun q => tb_ck m_Law_law q) = true := by decide +kernel
