/-! THE TABLES HOLD: each row by program. -/
theorem ok_Law_law_k8 : (c_Law_law_k8.all fun q => tb_ck m_Law_law q) = true := by decide +kernel
theorem ok_Law_law_k9 : (c_Law_law_k9.all fun q => tb_ck m_Law_law q) = true := by decide +kernel
theorem ok_Law_law_k10 : (c_Law_law_k10.all fun q => tb_ck m_Law_law q) = true := by decide +kernel
theorem ok_Law_law_k11 : (c_Law_law_k11.all fun q => tb_ck m_Law_law q) = true := by decide +kernel
