/-! THE TABLES HOLD: each row by program. -/
theorem ok_Law_law_k24 : (c_Law_law_k24.all fun q => tb_ck m_Law_law q) = true := by decide +kernel
theorem ok_Law_law_k25 : (c_Law_law_k25.all fun q => tb_ck m_Law_law q) = true := by decide +kernel
theorem ok_Law_law_k26 : (c_Law_law_k26.all fun q => tb_ck m_Law_law q) = true := by decide +kernel
theorem ok_Law_law_k27 : (c_Law_law_k27.all fun q => tb_ck m_Law_law q) = true := by decide +kernel
