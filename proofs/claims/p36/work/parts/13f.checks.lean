/-! THE TABLES HOLD: each row by program. -/
theorem ok_Law_law_k6 : (c_Law_law_k6.all fun q => tb_ck m_Law_law q) = true := by decide +kernel
theorem ok_Law_law_k7 : (c_Law_law_k7.all fun q => tb_ck m_Law_law q) = true := by decide +kernel
theorem ok_Law_law_k8 : (c_Law_law_k8.all fun q => tb_ck m_Law_law q) = true := by decide +kernel
