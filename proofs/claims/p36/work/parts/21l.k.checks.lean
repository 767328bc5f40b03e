/-! THE TABLES HOLD: each row by program. -/
theorem ok_Law_law_k28 : (c_Law_law_k28.all fun q => tb_ck m_Law_law q) = true := by decide +kernel
theorem ok_Law_law_k29 : (c_Law_law_k29.all fun q => tb_ck m_Law_law q) = true := by decide +kernel
theorem ok_Law_law_k30 : (c_Law_law_k30.all fun q => tb_ck m_Law_law q) = true := by decide +kernel
theorem ok_Law_law_k31 : (c_Law_law_k31.all fun q => tb_ck m_Law_law q) = true := by decide +kernel
