/-! THE TABLES HOLD: each row by program. -/
theorem ok_Law_law_k16 : (c_Law_law_k16.all fun q => tb_ck m_Law_law q) = true := by decide +kernel
theorem ok_Law_law_k17 : (c_Law_law_k17.all fun q => tb_ck m_Law_law q) = true := by decide +kernel
theorem ok_Law_law_k18 : (c_Law_law_k18.all fun q => tb_ck m_Law_law q) = true := by decide +kernel
theorem ok_Law_law_k19 : (c_Law_law_k19.all fun q => tb_ck m_Law_law q) = true := by decide +kernel
