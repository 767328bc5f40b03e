/-! THE TABLES HOLD: each row by program. -/
theorem ok_Law_law_k12 : (c_Law_law_k12.all fun q => tb_ck m_Law_law q) = true := by decide +kernel
theorem ok_Law_law_k13 : (c_Law_law_k13.all fun q => tb_ck m_Law_law q) = true := by decide +kernel
theorem ok_Law_law : (c_Law_law.all fun q => tb_ck m_Law_law q) = true := by simp only [c_Law_law, List.all_append, ok_Law_law_k0, ok_Law_law_k1, ok_Law_law_k2, ok_Law_law_k3, ok_Law_law_k4, ok_Law_law_k5, ok_Law_law_k6, ok_Law_law_k7, ok_Law_law_k8, ok_Law_law_k9, ok_Law_law_k10, ok_Law_law_k11, ok_Law_law_k12, ok_Law_law_k13, Bool.and_self]
