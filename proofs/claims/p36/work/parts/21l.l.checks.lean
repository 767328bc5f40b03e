/-! THE TABLES HOLD: each row by program. -/
theorem ok_Law_law_k32 : (c_Law_law_k32.all fun q => tb_ck m_Law_law q) = true := by decide +kernel
theorem ok_Law_law_k33 : (c_Law_law_k33.all fun q => tb_ck m_Law_law q) = true := by decide +kernel
theorem ok_Law_law_k34 : (c_Law_law_k34.all fun q => tb_ck m_Law_law q) = true := by decide +kernel
theorem ok_Law_law_k35 : (c_Law_law_k35.all fun q => tb_ck m_Law_law q) = true := by decide +kernel
