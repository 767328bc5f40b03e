/-! THE TABLES HOLD: each row by program. -/
theorem ok_Version_kindUsed : (c_Version_kindUsed.all fun q => tb_ck m_Version_kindUsed q) = true := by decide +kernel
theorem ok_Item_new : (c_Item_new.all fun q => tb_ck m_Item_new q) = true := by decide +kernel
theorem ok_Output_keep : (c_Output_keep.all fun q => tb_ck m_Output_keep q) = true := by decide +kernel
theorem ok_ArrayList_new : (c_ArrayList_new.all fun q => tb_ck m_ArrayList_new q) = true := by decide +kernel
theorem ok_ArrayList_add : (c_ArrayList_add.all fun q => tb_ck m_ArrayList_add q) = true := by decide +kernel
theorem ok_ArrayList_size : (c_ArrayList_size.all fun q => tb_ck m_ArrayList_size q) = true := by decide +kernel
theorem ok_AbstractList_new : (c_AbstractList_new.all fun q => tb_ck m_AbstractList_new q) = true := by decide +kernel
theorem ok_Arrays_fill : (c_Arrays_fill.all fun q => tb_ck m_Arrays_fill q) = true := by decide +kernel
theorem ok_ArrayList_add2 : (c_ArrayList_add2.all fun q => tb_ck m_ArrayList_add2 q) = true := by decide +kernel
theorem ok_ArrayList_get : (c_ArrayList_get.all fun q => tb_ck m_ArrayList_get q) = true := by decide +kernel
theorem ok_ArrayList_isEmpty : (c_ArrayList_isEmpty.all fun q => tb_ck m_ArrayList_isEmpty q) = true := by decide +kernel
theorem ok_AbstractCollection_new : (c_AbstractCollection_new.all fun q => tb_ck m_AbstractCollection_new q) = true := by decide +kernel
theorem ok_ArrayList_grow : (c_ArrayList_grow.all fun q => tb_ck m_ArrayList_grow q) = true := by decide +kernel
theorem ok_ArrayList_remove : (c_ArrayList_remove.all fun q => tb_ck m_ArrayList_remove q) = true := by decide +kernel
theorem ok_Objects_checkIndex : (c_Objects_checkIndex.all fun q => tb_ck m_Objects_checkIndex q) = true := by decide +kernel
theorem ok_ArrayList_elementData : (c_ArrayList_elementData.all fun q => tb_ck m_ArrayList_elementData q) = true := by decide +kernel
theorem ok_ArrayList_grow2 : (c_ArrayList_grow2.all fun q => tb_ck m_ArrayList_grow2 q) = true := by decide +kernel
theorem ok_ArrayList_fastRemove : (c_ArrayList_fastRemove.all fun q => tb_ck m_ArrayList_fastRemove q) = true := by decide +kernel
theorem ok_Preconditions_checkIndex : (c_Preconditions_checkIndex.all fun q => tb_ck m_Preconditions_checkIndex q) = true := by decide +kernel
theorem ok_ArraysSupport_newLength : (c_ArraysSupport_newLength.all fun q => tb_ck m_ArraysSupport_newLength q) = true := by decide +kernel
theorem ok_Arrays_copyOf : (c_Arrays_copyOf.all fun q => tb_ck m_Arrays_copyOf q) = true := by decide +kernel
theorem ok_ArrayList_add3 : (c_ArrayList_add3.all fun q => tb_ck m_ArrayList_add3 q) = true := by decide +kernel
theorem ok_Arrays_copyOf2 : (c_Arrays_copyOf2.all fun q => tb_ck m_Arrays_copyOf2 q) = true := by decide +kernel
theorem ok_Arrays_copyOf3 : (c_Arrays_copyOf3.all fun q => tb_ck m_Arrays_copyOf3 q) = true := by decide +kernel
theorem ok_ArrayList_rangeCheckForAdd : (c_ArrayList_rangeCheckForAdd.all fun q => tb_ck m_ArrayList_rangeCheckForAdd q) = true := by decide +kernel
theorem ok_Law_tell : (c_Law_tell.all fun q => tb_ck m_Law_tell q) = true := by decide +kernel
theorem ok_Law_figure : (c_Law_figure.all fun q => tb_ck m_Law_figure q) = true := by decide +kernel
theorem ok_Law_ask : (c_Law_ask.all fun q => tb_ck m_Law_ask q) = true := by decide +kernel
theorem ok_Law_at : (c_Law_at.all fun q => tb_ck m_Law_at q) = true := by decide +kernel
theorem ok_Law_some : (c_Law_some.all fun q => tb_ck m_Law_some q) = true := by decide +kernel
theorem ok_Law_carried : (c_Law_carried.all fun q => tb_ck m_Law_carried q) = true := by decide +kernel
theorem okc_0 : ck_cls lw_tbl ("SwapWhile$Carry", tb_T0, 2) tb_ty0 = true := by decide +kernel
theorem okc_1 : ck_cls lw_tbl ("SwapWhile$Change", tb_T1, 5) tb_ty1 = true := by decide +kernel
theorem okc_2 : ck_cls lw_tbl ("SwapWhile$Frame", tb_T2, 5) tb_ty2 = true := by decide +kernel
theorem okc_3 : ck_cls lw_tbl ("SwapWhile$Item", tb_T3, 3) tb_ty3 = true := by decide +kernel
theorem okc_4 : ck_cls lw_tbl ("SwapWhile$Output", tb_T4, 3) tb_ty4 = true := by decide +kernel
theorem okc_5 : ck_cls lw_tbl ("SwapWhile$Task", tb_T5, 3) tb_ty5 = true := by decide +kernel
theorem okc_6 : ck_cls lw_tbl ("SwapWhile$Version", tb_T6, 7) tb_ty6 = true := by decide +kernel
theorem okc_7 : ck_cls lw_tbl ("SwapWhile", tb_T7, 14) tb_ty7 = true := by decide +kernel
theorem okc_8 : ck_cls lw_tbl ("java/util/ArrayList", tb_T8, 3) tb_ty8 = true := by decide +kernel
