/-! THE TABLES HOLD: each row by program. -/
theorem ok_Law_law_k0 : (c_Law_law_k0.all fun q => tb_ck m_Law_law q) = true := by decide +kernel
theorem ok_Law_law_k1 : (c_Law_law_k1.all fun q => tb_ck m_Law_law q) = true := by decide +kernel
theorem ok_Law_law_k2 : (c_Law_law_k2.all fun q => tb_ck m_Law_law q) = true := by decide +kernel
theorem ok_Law_law_k3 : (c_Law_law_k3.all fun q => tb_ck m_Law_law q) = true := by decide +kernel
