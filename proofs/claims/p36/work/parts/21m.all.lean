/-! ALL OF IT TOGETHER. -/
def tb_d0 : ab_D := (⟨"", "", ""⟩, ⟨#[]⟩, 0, none, [])
theorem tb_zip : ∀ q ∈ tb_MDl.zip tb_CLl, (q.2.all fun r => tb_ck q.1 r) = true := by
  show ∀ q ∈ [(tb_d0, ([] : List ck_Row)), (tb_d0, []), (m_Swap_new, c_Swap_new), (m_Swap_present, c_Swap_present), (m_Swap_versions, c_Swap_versions), (m_Swap_objects, c_Swap_objects), (m_Swap_queued, c_Swap_queued), (m_Swap_isWatched, c_Swap_isWatched), (m_Swap_steps, c_Swap_steps), (m_Output_new, c_Output_new), (m_Version_new, c_Version_new), (m_Version_new2, c_Version_new2), (m_Task_new, c_Task_new), (m_Swap_add, c_Swap_add), (m_Swap_empty, c_Swap_empty), (m_Swap_setFields, c_Swap_setFields), (m_Swap_setCarry, c_Swap_setCarry), (m_Swap_map, c_Swap_map), (m_Swap_publish, c_Swap_publish), (m_Swap_start, c_Swap_start), (m_Swap_step, c_Swap_step), (m_Swap_release, c_Swap_release), (m_Swap_state, c_Swap_state), (m_Swap_frames, c_Swap_frames), (m_Swap_at, c_Swap_at), (m_Swap_local, c_Swap_local), (m_Swap_meanFrames, c_Swap_meanFrames), (m_Swap_carriedShare, c_Swap_carriedShare), (m_Swap_change, c_Swap_change), (m_Swap_changed, c_Swap_changed), (m_Swap_against, c_Swap_against), (m_Swap_shape, c_Swap_shape), (m_Swap_field, c_Swap_field), (m_Swap_fieldIn, c_Swap_fieldIn), (m_Swap_entry, c_Swap_entry), (m_Swap_putAt, c_Swap_putAt), (m_Swap_putIn, c_Swap_putIn), (m_Swap_isTouched, c_Swap_isTouched), (m_Carry_new, c_Carry_new), (m_Version_resetCarry, c_Version_resetCarry), (m_Frame_new, c_Frame_new), (m_Swap_isFunction, c_Swap_isFunction), (m_Swap_isInstruction, c_Swap_isInstruction), (m_Version_append, c_Version_append), (m_Swap_isKind, c_Swap_isKind), (m_Swap_latest, c_Swap_latest), (m_Version_countMapped, c_Version_countMapped), (m_Version_close, c_Version_close), (m_Swap_isThread, c_Swap_isThread), (m_Task_isAlive, c_Task_isAlive), (m_Task_open, c_Task_open), (m_Swap_settleQueue, c_Swap_settleQueue), (m_Swap_makeStep, c_Swap_makeStep), (m_Swap_isLocal, c_Swap_isLocal), (m_Change_new, c_Change_new), (m_Swap_targetOf, c_Swap_targetOf), (m_Swap_countAgainst, c_Swap_countAgainst), (m_Swap_isObject, c_Swap_isObject), (m_Swap_hasField, c_Swap_hasField), (m_Swap_carryRow, c_Swap_carryRow), (m_Swap_isEntry, c_Swap_isEntry), (m_Carry_reset, c_Carry_reset), (m_Swap_isKindWithField, c_Swap_isKindWithField), (m_Swap_isPlace, c_Swap_isPlace), (m_Swap_countMeaningful, c_Swap_countMeaningful), (m_Version_differs, c_Version_differs), (m_Task_fail, c_Task_fail), (m_Frame_begin, c_Frame_begin), (m_Swap_takeEffect, c_Swap_takeEffect), (m_Swap_runInstruction, c_Swap_runInstruction), (m_Swap_giveUp, c_Swap_giveUp), (m_Swap_placeIn, c_Swap_placeIn), (m_Carry_apply, c_Carry_apply), (m_Version_usesChangedKind, c_Version_usesChangedKind), (m_Swap_moveFrames, c_Swap_moveFrames), (m_Swap_carryItem, c_Swap_carryItem), (m_Task_giveBack, c_Task_giveBack), (m_Swap_makeObject, c_Swap_makeObject), (m_Swap_useField, c_Swap_useField), (m_Swap_putOut, c_Swap_putOut), (m_Version_placeAfter, c_Version_placeAfter), (m_Version_placeBefore, c_Version_placeBefore), (m_Version_kindUsed, c_Version_kindUsed), (m_Item_new, c_Item_new), (m_Output_keep, c_Output_keep), (m_ArrayList_new, c_ArrayList_new), (m_ArrayList_add, c_ArrayList_add), (m_ArrayList_size, c_ArrayList_size), (m_AbstractList_new, c_AbstractList_new), (m_Arrays_fill, c_Arrays_fill), (m_ArrayList_add2, c_ArrayList_add2), (m_ArrayList_get, c_ArrayList_get), (m_ArrayList_isEmpty, c_ArrayList_isEmpty), (m_AbstractCollection_new, c_AbstractCollection_new), (m_ArrayList_grow, c_ArrayList_grow), (m_ArrayList_remove, c_ArrayList_remove), (m_Objects_checkIndex, c_Objects_checkIndex), (m_ArrayList_elementData, c_ArrayList_elementData), (m_ArrayList_grow2, c_ArrayList_grow2), (m_ArrayList_fastRemove, c_ArrayList_fastRemove), (m_Preconditions_checkIndex, c_Preconditions_checkIndex), (m_ArraysSupport_newLength, c_ArraysSupport_newLength), (m_Arrays_copyOf, c_Arrays_copyOf), (m_ArrayList_add3, c_ArrayList_add3), (m_Arrays_copyOf2, c_Arrays_copyOf2), (m_Arrays_copyOf3, c_Arrays_copyOf3), (m_ArrayList_rangeCheckForAdd, c_ArrayList_rangeCheckForAdd), (m_Law_tell, c_Law_tell), (m_Law_figure, c_Law_figure), (m_Law_ask, c_Law_ask), (m_Law_at, c_Law_at), (m_Law_some, c_Law_some), (m_Law_carried, c_Law_carried), (m_Law_law, c_Law_law)], (q.2.all fun r => tb_ck q.1 r) = true
  exact List.forall_mem_cons.mpr ⟨rfl, List.forall_mem_cons.mpr ⟨rfl, List.forall_mem_cons.mpr ⟨ok_Swap_new, List.forall_mem_cons.mpr ⟨ok_Swap_present, List.forall_mem_cons.mpr ⟨ok_Swap_versions, List.forall_mem_cons.mpr ⟨ok_Swap_objects, List.forall_mem_cons.mpr ⟨ok_Swap_queued, List.forall_mem_cons.mpr ⟨ok_Swap_isWatched, List.forall_mem_cons.mpr ⟨ok_Swap_steps, List.forall_mem_cons.mpr ⟨ok_Output_new, List.forall_mem_cons.mpr ⟨ok_Version_new, List.forall_mem_cons.mpr ⟨ok_Version_new2, List.forall_mem_cons.mpr ⟨ok_Task_new, List.forall_mem_cons.mpr ⟨ok_Swap_add, List.forall_mem_cons.mpr ⟨ok_Swap_empty, List.forall_mem_cons.mpr ⟨ok_Swap_setFields, List.forall_mem_cons.mpr ⟨ok_Swap_setCarry, List.forall_mem_cons.mpr ⟨ok_Swap_map, List.forall_mem_cons.mpr ⟨ok_Swap_publish, List.forall_mem_cons.mpr ⟨ok_Swap_start, List.forall_mem_cons.mpr ⟨ok_Swap_step, List.forall_mem_cons.mpr ⟨ok_Swap_release, List.forall_mem_cons.mpr ⟨ok_Swap_state, List.forall_mem_cons.mpr ⟨ok_Swap_frames, List.forall_mem_cons.mpr ⟨ok_Swap_at, List.forall_mem_cons.mpr ⟨ok_Swap_local, List.forall_mem_cons.mpr ⟨ok_Swap_meanFrames, List.forall_mem_cons.mpr ⟨ok_Swap_carriedShare, List.forall_mem_cons.mpr ⟨ok_Swap_change, List.forall_mem_cons.mpr ⟨ok_Swap_changed, List.forall_mem_cons.mpr ⟨ok_Swap_against, List.forall_mem_cons.mpr ⟨ok_Swap_shape, List.forall_mem_cons.mpr ⟨ok_Swap_field, List.forall_mem_cons.mpr ⟨ok_Swap_fieldIn, List.forall_mem_cons.mpr ⟨ok_Swap_entry, List.forall_mem_cons.mpr ⟨ok_Swap_putAt, List.forall_mem_cons.mpr ⟨ok_Swap_putIn, List.forall_mem_cons.mpr ⟨ok_Swap_isTouched, List.forall_mem_cons.mpr ⟨ok_Carry_new, List.forall_mem_cons.mpr ⟨ok_Version_resetCarry, List.forall_mem_cons.mpr ⟨ok_Frame_new, List.forall_mem_cons.mpr ⟨ok_Swap_isFunction, List.forall_mem_cons.mpr ⟨ok_Swap_isInstruction, List.forall_mem_cons.mpr ⟨ok_Version_append, List.forall_mem_cons.mpr ⟨ok_Swap_isKind, List.forall_mem_cons.mpr ⟨ok_Swap_latest, List.forall_mem_cons.mpr ⟨ok_Version_countMapped, List.forall_mem_cons.mpr ⟨ok_Version_close, List.forall_mem_cons.mpr ⟨ok_Swap_isThread, List.forall_mem_cons.mpr ⟨ok_Task_isAlive, List.forall_mem_cons.mpr ⟨ok_Task_open, List.forall_mem_cons.mpr ⟨ok_Swap_settleQueue, List.forall_mem_cons.mpr ⟨ok_Swap_makeStep, List.forall_mem_cons.mpr ⟨ok_Swap_isLocal, List.forall_mem_cons.mpr ⟨ok_Change_new, List.forall_mem_cons.mpr ⟨ok_Swap_targetOf, List.forall_mem_cons.mpr ⟨ok_Swap_countAgainst, List.forall_mem_cons.mpr ⟨ok_Swap_isObject, List.forall_mem_cons.mpr ⟨ok_Swap_hasField, List.forall_mem_cons.mpr ⟨ok_Swap_carryRow, List.forall_mem_cons.mpr ⟨ok_Swap_isEntry, List.forall_mem_cons.mpr ⟨ok_Carry_reset, List.forall_mem_cons.mpr ⟨ok_Swap_isKindWithField, List.forall_mem_cons.mpr ⟨ok_Swap_isPlace, List.forall_mem_cons.mpr ⟨ok_Swap_countMeaningful, List.forall_mem_cons.mpr ⟨ok_Version_differs, List.forall_mem_cons.mpr ⟨ok_Task_fail, List.forall_mem_cons.mpr ⟨ok_Frame_begin, List.forall_mem_cons.mpr ⟨ok_Swap_takeEffect, List.forall_mem_cons.mpr ⟨ok_Swap_runInstruction, List.forall_mem_cons.mpr ⟨ok_Swap_giveUp, List.forall_mem_cons.mpr ⟨ok_Swap_placeIn, List.forall_mem_cons.mpr ⟨ok_Carry_apply, List.forall_mem_cons.mpr ⟨ok_Version_usesChangedKind, List.forall_mem_cons.mpr ⟨ok_Swap_moveFrames, List.forall_mem_cons.mpr ⟨ok_Swap_carryItem, List.forall_mem_cons.mpr ⟨ok_Task_giveBack, List.forall_mem_cons.mpr ⟨ok_Swap_makeObject, List.forall_mem_cons.mpr ⟨ok_Swap_useField, List.forall_mem_cons.mpr ⟨ok_Swap_putOut, List.forall_mem_cons.mpr ⟨ok_Version_placeAfter, List.forall_mem_cons.mpr ⟨ok_Version_placeBefore, List.forall_mem_cons.mpr ⟨ok_Version_kindUsed, List.forall_mem_cons.mpr ⟨ok_Item_new, List.forall_mem_cons.mpr ⟨ok_Output_keep, List.forall_mem_cons.mpr ⟨ok_ArrayList_new, List.forall_mem_cons.mpr ⟨ok_ArrayList_add, List.forall_mem_cons.mpr ⟨ok_ArrayList_size, List.forall_mem_cons.mpr ⟨ok_AbstractList_new, List.forall_mem_cons.mpr ⟨ok_Arrays_fill, List.forall_mem_cons.mpr ⟨ok_ArrayList_add2, List.forall_mem_cons.mpr ⟨ok_ArrayList_get, List.forall_mem_cons.mpr ⟨ok_ArrayList_isEmpty, List.forall_mem_cons.mpr ⟨ok_AbstractCollection_new, List.forall_mem_cons.mpr ⟨ok_ArrayList_grow, List.forall_mem_cons.mpr ⟨ok_ArrayList_remove, List.forall_mem_cons.mpr ⟨ok_Objects_checkIndex, List.forall_mem_cons.mpr ⟨ok_ArrayList_elementData, List.forall_mem_cons.mpr ⟨ok_ArrayList_grow2, List.forall_mem_cons.mpr ⟨ok_ArrayList_fastRemove, List.forall_mem_cons.mpr ⟨ok_Preconditions_checkIndex, List.forall_mem_cons.mpr ⟨ok_ArraysSupport_newLength, List.forall_mem_cons.mpr ⟨ok_Arrays_copyOf, List.forall_mem_cons.mpr ⟨ok_ArrayList_add3, List.forall_mem_cons.mpr ⟨ok_Arrays_copyOf2, List.forall_mem_cons.mpr ⟨ok_Arrays_copyOf3, List.forall_mem_cons.mpr ⟨ok_ArrayList_rangeCheckForAdd, List.forall_mem_cons.mpr ⟨ok_Law_tell, List.forall_mem_cons.mpr ⟨ok_Law_figure, List.forall_mem_cons.mpr ⟨ok_Law_ask, List.forall_mem_cons.mpr ⟨ok_Law_at, List.forall_mem_cons.mpr ⟨ok_Law_some, List.forall_mem_cons.mpr ⟨ok_Law_carried, List.forall_mem_cons.mpr ⟨ok_Law_law, fun _ h => absurd h List.not_mem_nil⟩⟩⟩⟩⟩⟩⟩⟩⟩⟩⟩⟩⟩⟩⟩⟩⟩⟩⟩⟩⟩⟩⟩⟩⟩⟩⟩⟩⟩⟩⟩⟩⟩⟩⟩⟩⟩⟩⟩⟩⟩⟩⟩⟩⟩⟩⟩⟩⟩⟩⟩⟩⟩⟩⟩⟩⟩⟩⟩⟩⟩⟩⟩⟩⟩⟩⟩⟩⟩⟩⟩⟩⟩⟩⟩⟩⟩⟩⟩⟩⟩⟩⟩⟩⟩⟩⟩⟩⟩⟩⟩⟩⟩⟩⟩⟩⟩⟩⟩⟩⟩⟩⟩⟩⟩⟩⟩⟩⟩⟩⟩⟩⟩⟩
theorem tb_len : tb_MDl.length = 114 ∧ tb_CLl.length = 114 := by decide +kernel
theorem tb_row (y : Nat) (hy : y < 114) : ((tb_CL y).all fun r => tb_ck (tb_MD y) r) = true := by
  have h1 : y < tb_MDl.length := by rw [tb_len.1]; exact hy
  have h2 : y < tb_CLl.length := by rw [tb_len.2]; exact hy
  have h3 := tb_zip (tb_MDl[y], tb_CLl[y]) (List.mem_of_getElem? (i := y) (by rw [List.getElem?_zip_eq_some]; exact ⟨List.getElem?_eq_getElem h1, List.getElem?_eq_getElem h2⟩))
  have e1 : tb_MD y = tb_MDl[y] := by unfold tb_MD; rw [List.getD_eq_getElem?_getD, List.getElem?_eq_getElem h1]; rfl
  have e2 : tb_CL y = tb_CLl[y] := by unfold tb_CL; rw [List.getD_eq_getElem?_getD, List.getElem?_eq_getElem h2]; rfl
  rw [e1, e2]
  exact h3
/-- what is asked of a callee once, by program: the places of its code word and of its class's 'initialized' -/
def tb_okd (me : ab_D) (i j : Nat) : Bool := decide (me.2.2.1 ≤ 60) && plainName me.1.cls && decide (me.1.cls ≠ "java/lang/invoke/MethodHandle" ∧ me.1.cls ≠ "java/lang/invoke/VarHandle") && ck_w lw_tbl i (ab_cd me) && ck_w lw_tbl j (.initialized me.1.cls)
def tb_dl : List (Nat × Nat) := [(0, 0), (0, 0), (78, 41), (365, 41), (369, 41), (377, 41), (357, 41), (373, 41), (381, 41), (114, 45), (134, 46), (253, 46), (267, 52), (475, 41), (539, 41), (544, 41), (568, 41), (574, 41), (583, 41), (603, 41), (687, 41), (1037, 41), (1043, 41), (1047, 41), (1051, 41), (1058, 41), (1157, 41), (1164, 41), (1070, 41), (1076, 41), (1081, 41), (1105, 41), (1110, 41), (1114, 41), (1120, 41), (1125, 41), (1130, 41), (1134, 41), (142, 47), (258, 46), (274, 53), (478, 41), (481, 41), (532, 46), (487, 41), (549, 41), (579, 46), (588, 46), (606, 41), (611, 52), (616, 52), (629, 41), (692, 41), (484, 41), (759, 65), (634, 41), (638, 41), (731, 41), (735, 41), (678, 41), (496, 41), (263, 47), (490, 41), (493, 41), (535, 41), (592, 46), (620, 52), (624, 53), (665, 41), (696, 41), (1033, 41), (642, 41), (682, 47), (596, 46), (669, 41), (674, 41), (700, 52), (704, 41), (727, 41), (739, 41), (647, 46), (652, 46), (599, 46), (709, 64), (743, 45), (86, 44), (190, 44), (361, 44), (89, 43), (156, 48), (194, 44), (553, 44), (1085, 44), (92, 42), (198, 44), (656, 44), (556, 62), (563, 44), (202, 44), (660, 44), (559, 63), (205, 49), (215, 48), (785, 44), (239, 48), (747, 48), (789, 44), (390, 40), (1139, 40), (1065, 40), (384, 40), (387, 40), (1169, 40)]
theorem okd_Swap_new : tb_okd m_Swap_new 78 41 = true := by decide +kernel
theorem okd_Swap_present : tb_okd m_Swap_present 365 41 = true := by decide +kernel
theorem okd_Swap_versions : tb_okd m_Swap_versions 369 41 = true := by decide +kernel
theorem okd_Swap_objects : tb_okd m_Swap_objects 377 41 = true := by decide +kernel
theorem okd_Swap_queued : tb_okd m_Swap_queued 357 41 = true := by decide +kernel
theorem okd_Swap_isWatched : tb_okd m_Swap_isWatched 373 41 = true := by decide +kernel
theorem okd_Swap_steps : tb_okd m_Swap_steps 381 41 = true := by decide +kernel
theorem okd_Output_new : tb_okd m_Output_new 114 45 = true := by decide +kernel
theorem okd_Version_new : tb_okd m_Version_new 134 46 = true := by decide +kernel
theorem okd_Version_new2 : tb_okd m_Version_new2 253 46 = true := by decide +kernel
theorem okd_Task_new : tb_okd m_Task_new 267 52 = true := by decide +kernel
theorem okd_Swap_add : tb_okd m_Swap_add 475 41 = true := by decide +kernel
theorem okd_Swap_empty : tb_okd m_Swap_empty 539 41 = true := by decide +kernel
theorem okd_Swap_setFields : tb_okd m_Swap_setFields 544 41 = true := by decide +kernel
theorem okd_Swap_setCarry : tb_okd m_Swap_setCarry 568 41 = true := by decide +kernel
theorem okd_Swap_map : tb_okd m_Swap_map 574 41 = true := by decide +kernel
theorem okd_Swap_publish : tb_okd m_Swap_publish 583 41 = true := by decide +kernel
theorem okd_Swap_start : tb_okd m_Swap_start 603 41 = true := by decide +kernel
theorem okd_Swap_step : tb_okd m_Swap_step 687 41 = true := by decide +kernel
theorem okd_Swap_release : tb_okd m_Swap_release 1037 41 = true := by decide +kernel
theorem okd_Swap_state : tb_okd m_Swap_state 1043 41 = true := by decide +kernel
theorem okd_Swap_frames : tb_okd m_Swap_frames 1047 41 = true := by decide +kernel
theorem okd_Swap_at : tb_okd m_Swap_at 1051 41 = true := by decide +kernel
theorem okd_Swap_local : tb_okd m_Swap_local 1058 41 = true := by decide +kernel
theorem okd_Swap_meanFrames : tb_okd m_Swap_meanFrames 1157 41 = true := by decide +kernel
theorem okd_Swap_carriedShare : tb_okd m_Swap_carriedShare 1164 41 = true := by decide +kernel
theorem okd_Swap_change : tb_okd m_Swap_change 1070 41 = true := by decide +kernel
theorem okd_Swap_changed : tb_okd m_Swap_changed 1076 41 = true := by decide +kernel
theorem okd_Swap_against : tb_okd m_Swap_against 1081 41 = true := by decide +kernel
theorem okd_Swap_shape : tb_okd m_Swap_shape 1105 41 = true := by decide +kernel
theorem okd_Swap_field : tb_okd m_Swap_field 1110 41 = true := by decide +kernel
theorem okd_Swap_fieldIn : tb_okd m_Swap_fieldIn 1114 41 = true := by decide +kernel
theorem okd_Swap_entry : tb_okd m_Swap_entry 1120 41 = true := by decide +kernel
theorem okd_Swap_putAt : tb_okd m_Swap_putAt 1125 41 = true := by decide +kernel
theorem okd_Swap_putIn : tb_okd m_Swap_putIn 1130 41 = true := by decide +kernel
theorem okd_Swap_isTouched : tb_okd m_Swap_isTouched 1134 41 = true := by decide +kernel
theorem okd_Carry_new : tb_okd m_Carry_new 142 47 = true := by decide +kernel
theorem okd_Version_resetCarry : tb_okd m_Version_resetCarry 258 46 = true := by decide +kernel
theorem okd_Frame_new : tb_okd m_Frame_new 274 53 = true := by decide +kernel
theorem okd_Swap_isFunction : tb_okd m_Swap_isFunction 478 41 = true := by decide +kernel
theorem okd_Swap_isInstruction : tb_okd m_Swap_isInstruction 481 41 = true := by decide +kernel
theorem okd_Version_append : tb_okd m_Version_append 532 46 = true := by decide +kernel
theorem okd_Swap_isKind : tb_okd m_Swap_isKind 487 41 = true := by decide +kernel
theorem okd_Swap_latest : tb_okd m_Swap_latest 549 41 = true := by decide +kernel
theorem okd_Version_countMapped : tb_okd m_Version_countMapped 579 46 = true := by decide +kernel
theorem okd_Version_close : tb_okd m_Version_close 588 46 = true := by decide +kernel
theorem okd_Swap_isThread : tb_okd m_Swap_isThread 606 41 = true := by decide +kernel
theorem okd_Task_isAlive : tb_okd m_Task_isAlive 611 52 = true := by decide +kernel
theorem okd_Task_open : tb_okd m_Task_open 616 52 = true := by decide +kernel
theorem okd_Swap_settleQueue : tb_okd m_Swap_settleQueue 629 41 = true := by decide +kernel
theorem okd_Swap_makeStep : tb_okd m_Swap_makeStep 692 41 = true := by decide +kernel
theorem okd_Swap_isLocal : tb_okd m_Swap_isLocal 484 41 = true := by decide +kernel
theorem okd_Change_new : tb_okd m_Change_new 759 65 = true := by decide +kernel
theorem okd_Swap_targetOf : tb_okd m_Swap_targetOf 634 41 = true := by decide +kernel
theorem okd_Swap_countAgainst : tb_okd m_Swap_countAgainst 638 41 = true := by decide +kernel
theorem okd_Swap_isObject : tb_okd m_Swap_isObject 731 41 = true := by decide +kernel
theorem okd_Swap_hasField : tb_okd m_Swap_hasField 735 41 = true := by decide +kernel
theorem okd_Swap_carryRow : tb_okd m_Swap_carryRow 678 41 = true := by decide +kernel
theorem okd_Swap_isEntry : tb_okd m_Swap_isEntry 496 41 = true := by decide +kernel
theorem okd_Carry_reset : tb_okd m_Carry_reset 263 47 = true := by decide +kernel
theorem okd_Swap_isKindWithField : tb_okd m_Swap_isKindWithField 490 41 = true := by decide +kernel
theorem okd_Swap_isPlace : tb_okd m_Swap_isPlace 493 41 = true := by decide +kernel
theorem okd_Swap_countMeaningful : tb_okd m_Swap_countMeaningful 535 41 = true := by decide +kernel
theorem okd_Version_differs : tb_okd m_Version_differs 592 46 = true := by decide +kernel
theorem okd_Task_fail : tb_okd m_Task_fail 620 52 = true := by decide +kernel
theorem okd_Frame_begin : tb_okd m_Frame_begin 624 53 = true := by decide +kernel
theorem okd_Swap_takeEffect : tb_okd m_Swap_takeEffect 665 41 = true := by decide +kernel
theorem okd_Swap_runInstruction : tb_okd m_Swap_runInstruction 696 41 = true := by decide +kernel
theorem okd_Swap_giveUp : tb_okd m_Swap_giveUp 1033 41 = true := by decide +kernel
theorem okd_Swap_placeIn : tb_okd m_Swap_placeIn 642 41 = true := by decide +kernel
theorem okd_Carry_apply : tb_okd m_Carry_apply 682 47 = true := by decide +kernel
theorem okd_Version_usesChangedKind : tb_okd m_Version_usesChangedKind 596 46 = true := by decide +kernel
theorem okd_Swap_moveFrames : tb_okd m_Swap_moveFrames 669 41 = true := by decide +kernel
theorem okd_Swap_carryItem : tb_okd m_Swap_carryItem 674 41 = true := by decide +kernel
theorem okd_Task_giveBack : tb_okd m_Task_giveBack 700 52 = true := by decide +kernel
theorem okd_Swap_makeObject : tb_okd m_Swap_makeObject 704 41 = true := by decide +kernel
theorem okd_Swap_useField : tb_okd m_Swap_useField 727 41 = true := by decide +kernel
theorem okd_Swap_putOut : tb_okd m_Swap_putOut 739 41 = true := by decide +kernel
theorem okd_Version_placeAfter : tb_okd m_Version_placeAfter 647 46 = true := by decide +kernel
theorem okd_Version_placeBefore : tb_okd m_Version_placeBefore 652 46 = true := by decide +kernel
theorem okd_Version_kindUsed : tb_okd m_Version_kindUsed 599 46 = true := by decide +kernel
theorem okd_Item_new : tb_okd m_Item_new 709 64 = true := by decide +kernel
theorem okd_Output_keep : tb_okd m_Output_keep 743 45 = true := by decide +kernel
theorem okd_ArrayList_new : tb_okd m_ArrayList_new 86 44 = true := by decide +kernel
theorem okd_ArrayList_add : tb_okd m_ArrayList_add 190 44 = true := by decide +kernel
theorem okd_ArrayList_size : tb_okd m_ArrayList_size 361 44 = true := by decide +kernel
theorem okd_AbstractList_new : tb_okd m_AbstractList_new 89 43 = true := by decide +kernel
theorem okd_Arrays_fill : tb_okd m_Arrays_fill 156 48 = true := by decide +kernel
theorem okd_ArrayList_add2 : tb_okd m_ArrayList_add2 194 44 = true := by decide +kernel
theorem okd_ArrayList_get : tb_okd m_ArrayList_get 553 44 = true := by decide +kernel
theorem okd_ArrayList_isEmpty : tb_okd m_ArrayList_isEmpty 1085 44 = true := by decide +kernel
theorem okd_AbstractCollection_new : tb_okd m_AbstractCollection_new 92 42 = true := by decide +kernel
theorem okd_ArrayList_grow : tb_okd m_ArrayList_grow 198 44 = true := by decide +kernel
theorem okd_ArrayList_remove : tb_okd m_ArrayList_remove 656 44 = true := by decide +kernel
theorem okd_Objects_checkIndex : tb_okd m_Objects_checkIndex 556 62 = true := by decide +kernel
theorem okd_ArrayList_elementData : tb_okd m_ArrayList_elementData 563 44 = true := by decide +kernel
theorem okd_ArrayList_grow2 : tb_okd m_ArrayList_grow2 202 44 = true := by decide +kernel
theorem okd_ArrayList_fastRemove : tb_okd m_ArrayList_fastRemove 660 44 = true := by decide +kernel
theorem okd_Preconditions_checkIndex : tb_okd m_Preconditions_checkIndex 559 63 = true := by decide +kernel
theorem okd_ArraysSupport_newLength : tb_okd m_ArraysSupport_newLength 205 49 = true := by decide +kernel
theorem okd_Arrays_copyOf : tb_okd m_Arrays_copyOf 215 48 = true := by decide +kernel
theorem okd_ArrayList_add3 : tb_okd m_ArrayList_add3 785 44 = true := by decide +kernel
theorem okd_Arrays_copyOf2 : tb_okd m_Arrays_copyOf2 239 48 = true := by decide +kernel
theorem okd_Arrays_copyOf3 : tb_okd m_Arrays_copyOf3 747 48 = true := by decide +kernel
theorem okd_ArrayList_rangeCheckForAdd : tb_okd m_ArrayList_rangeCheckForAdd 789 44 = true := by decide +kernel
theorem okd_Law_tell : tb_okd m_Law_tell 390 40 = true := by decide +kernel
theorem okd_Law_figure : tb_okd m_Law_figure 1139 40 = true := by decide +kernel
theorem okd_Law_ask : tb_okd m_Law_ask 1065 40 = true := by decide +kernel
theorem okd_Law_at : tb_okd m_Law_at 384 40 = true := by decide +kernel
theorem okd_Law_some : tb_okd m_Law_some 387 40 = true := by decide +kernel
theorem okd_Law_carried : tb_okd m_Law_carried 1169 40 = true := by decide +kernel
theorem tb_okD : ab_okD tb_MD (lw_tbl.filter ab_kp) tb_vm := by
  have fin : ∀ (y i j : Nat), tb_okd (tb_MD y) i j = true → (tb_MD y).2.2.1 ≤ 60 ∧ plainName (tb_MD y).1.cls = true ∧ ((tb_MD y).1.cls ≠ "java/lang/invoke/MethodHandle" ∧ (tb_MD y).1.cls ≠ "java/lang/invoke/VarHandle") ∧ ab_cd (tb_MD y) ∈ lw_tbl.filter ab_kp ∧ Jvm.Cond.initialized (tb_MD y).1.cls ∈ lw_tbl.filter ab_kp := by
    intro y i j h
    unfold tb_okd ck_w at h
    simp only [Bool.and_eq_true, decide_eq_true_eq] at h
    obtain ⟨⟨⟨⟨h1, h2⟩, h3⟩, h4, h5⟩, h6, h7⟩ := h
    exact ⟨h1, h2, h3, List.mem_filter.mpr ⟨List.mem_of_getElem? h4, h5⟩, List.mem_filter.mpr ⟨List.mem_of_getElem? h6, h7⟩⟩
  intro y hy
  have hy := of_decide_eq_true hy
  have hn : y < 113 := hy.2
  have h2 : 2 ≤ y := hy.1
  match y, h2, hn with
  | 2, _, _ => exact fin 2 _ _ okd_Swap_new
  | 3, _, _ => exact fin 3 _ _ okd_Swap_present
  | 4, _, _ => exact fin 4 _ _ okd_Swap_versions
  | 5, _, _ => exact fin 5 _ _ okd_Swap_objects
  | 6, _, _ => exact fin 6 _ _ okd_Swap_queued
  | 7, _, _ => exact fin 7 _ _ okd_Swap_isWatched
  | 8, _, _ => exact fin 8 _ _ okd_Swap_steps
  | 9, _, _ => exact fin 9 _ _ okd_Output_new
  | 10, _, _ => exact fin 10 _ _ okd_Version_new
  | 11, _, _ => exact fin 11 _ _ okd_Version_new2
  | 12, _, _ => exact fin 12 _ _ okd_Task_new
  | 13, _, _ => exact fin 13 _ _ okd_Swap_add
  | 14, _, _ => exact fin 14 _ _ okd_Swap_empty
  | 15, _, _ => exact fin 15 _ _ okd_Swap_setFields
  | 16, _, _ => exact fin 16 _ _ okd_Swap_setCarry
  | 17, _, _ => exact fin 17 _ _ okd_Swap_map
  | 18, _, _ => exact fin 18 _ _ okd_Swap_publish
  | 19, _, _ => exact fin 19 _ _ okd_Swap_start
  | 20, _, _ => exact fin 20 _ _ okd_Swap_step
  | 21, _, _ => exact fin 21 _ _ okd_Swap_release
  | 22, _, _ => exact fin 22 _ _ okd_Swap_state
  | 23, _, _ => exact fin 23 _ _ okd_Swap_frames
  | 24, _, _ => exact fin 24 _ _ okd_Swap_at
  | 25, _, _ => exact fin 25 _ _ okd_Swap_local
  | 26, _, _ => exact fin 26 _ _ okd_Swap_meanFrames
  | 27, _, _ => exact fin 27 _ _ okd_Swap_carriedShare
  | 28, _, _ => exact fin 28 _ _ okd_Swap_change
  | 29, _, _ => exact fin 29 _ _ okd_Swap_changed
  | 30, _, _ => exact fin 30 _ _ okd_Swap_against
  | 31, _, _ => exact fin 31 _ _ okd_Swap_shape
  | 32, _, _ => exact fin 32 _ _ okd_Swap_field
  | 33, _, _ => exact fin 33 _ _ okd_Swap_fieldIn
  | 34, _, _ => exact fin 34 _ _ okd_Swap_entry
  | 35, _, _ => exact fin 35 _ _ okd_Swap_putAt
  | 36, _, _ => exact fin 36 _ _ okd_Swap_putIn
  | 37, _, _ => exact fin 37 _ _ okd_Swap_isTouched
  | 38, _, _ => exact fin 38 _ _ okd_Carry_new
  | 39, _, _ => exact fin 39 _ _ okd_Version_resetCarry
  | 40, _, _ => exact fin 40 _ _ okd_Frame_new
  | 41, _, _ => exact fin 41 _ _ okd_Swap_isFunction
  | 42, _, _ => exact fin 42 _ _ okd_Swap_isInstruction
  | 43, _, _ => exact fin 43 _ _ okd_Version_append
  | 44, _, _ => exact fin 44 _ _ okd_Swap_isKind
  | 45, _, _ => exact fin 45 _ _ okd_Swap_latest
  | 46, _, _ => exact fin 46 _ _ okd_Version_countMapped
  | 47, _, _ => exact fin 47 _ _ okd_Version_close
  | 48, _, _ => exact fin 48 _ _ okd_Swap_isThread
  | 49, _, _ => exact fin 49 _ _ okd_Task_isAlive
  | 50, _, _ => exact fin 50 _ _ okd_Task_open
  | 51, _, _ => exact fin 51 _ _ okd_Swap_settleQueue
  | 52, _, _ => exact fin 52 _ _ okd_Swap_makeStep
  | 53, _, _ => exact fin 53 _ _ okd_Swap_isLocal
  | 54, _, _ => exact fin 54 _ _ okd_Change_new
  | 55, _, _ => exact fin 55 _ _ okd_Swap_targetOf
  | 56, _, _ => exact fin 56 _ _ okd_Swap_countAgainst
  | 57, _, _ => exact fin 57 _ _ okd_Swap_isObject
  | 58, _, _ => exact fin 58 _ _ okd_Swap_hasField
  | 59, _, _ => exact fin 59 _ _ okd_Swap_carryRow
  | 60, _, _ => exact fin 60 _ _ okd_Swap_isEntry
  | 61, _, _ => exact fin 61 _ _ okd_Carry_reset
  | 62, _, _ => exact fin 62 _ _ okd_Swap_isKindWithField
  | 63, _, _ => exact fin 63 _ _ okd_Swap_isPlace
  | 64, _, _ => exact fin 64 _ _ okd_Swap_countMeaningful
  | 65, _, _ => exact fin 65 _ _ okd_Version_differs
  | 66, _, _ => exact fin 66 _ _ okd_Task_fail
  | 67, _, _ => exact fin 67 _ _ okd_Frame_begin
  | 68, _, _ => exact fin 68 _ _ okd_Swap_takeEffect
  | 69, _, _ => exact fin 69 _ _ okd_Swap_runInstruction
  | 70, _, _ => exact fin 70 _ _ okd_Swap_giveUp
  | 71, _, _ => exact fin 71 _ _ okd_Swap_placeIn
  | 72, _, _ => exact fin 72 _ _ okd_Carry_apply
  | 73, _, _ => exact fin 73 _ _ okd_Version_usesChangedKind
  | 74, _, _ => exact fin 74 _ _ okd_Swap_moveFrames
  | 75, _, _ => exact fin 75 _ _ okd_Swap_carryItem
  | 76, _, _ => exact fin 76 _ _ okd_Task_giveBack
  | 77, _, _ => exact fin 77 _ _ okd_Swap_makeObject
  | 78, _, _ => exact fin 78 _ _ okd_Swap_useField
  | 79, _, _ => exact fin 79 _ _ okd_Swap_putOut
  | 80, _, _ => exact fin 80 _ _ okd_Version_placeAfter
  | 81, _, _ => exact fin 81 _ _ okd_Version_placeBefore
  | 82, _, _ => exact fin 82 _ _ okd_Version_kindUsed
  | 83, _, _ => exact fin 83 _ _ okd_Item_new
  | 84, _, _ => exact fin 84 _ _ okd_Output_keep
  | 85, _, _ => exact fin 85 _ _ okd_ArrayList_new
  | 86, _, _ => exact fin 86 _ _ okd_ArrayList_add
  | 87, _, _ => exact fin 87 _ _ okd_ArrayList_size
  | 88, _, _ => exact fin 88 _ _ okd_AbstractList_new
  | 89, _, _ => exact fin 89 _ _ okd_Arrays_fill
  | 90, _, _ => exact fin 90 _ _ okd_ArrayList_add2
  | 91, _, _ => exact fin 91 _ _ okd_ArrayList_get
  | 92, _, _ => exact fin 92 _ _ okd_ArrayList_isEmpty
  | 93, _, _ => exact fin 93 _ _ okd_AbstractCollection_new
  | 94, _, _ => exact fin 94 _ _ okd_ArrayList_grow
  | 95, _, _ => exact fin 95 _ _ okd_ArrayList_remove
  | 96, _, _ => exact fin 96 _ _ okd_Objects_checkIndex
  | 97, _, _ => exact fin 97 _ _ okd_ArrayList_elementData
  | 98, _, _ => exact fin 98 _ _ okd_ArrayList_grow2
  | 99, _, _ => exact fin 99 _ _ okd_ArrayList_fastRemove
  | 100, _, _ => exact fin 100 _ _ okd_Preconditions_checkIndex
  | 101, _, _ => exact fin 101 _ _ okd_ArraysSupport_newLength
  | 102, _, _ => exact fin 102 _ _ okd_Arrays_copyOf
  | 103, _, _ => exact fin 103 _ _ okd_ArrayList_add3
  | 104, _, _ => exact fin 104 _ _ okd_Arrays_copyOf2
  | 105, _, _ => exact fin 105 _ _ okd_Arrays_copyOf3
  | 106, _, _ => exact fin 106 _ _ okd_ArrayList_rangeCheckForAdd
  | 107, _, _ => exact fin 107 _ _ okd_Law_tell
  | 108, _, _ => exact fin 108 _ _ okd_Law_figure
  | 109, _, _ => exact fin 109 _ _ okd_Law_ask
  | 110, _, _ => exact fin 110 _ _ okd_Law_at
  | 111, _, _ => exact fin 111 _ _ okd_Law_some
  | 112, _, _ => exact fin 112 _ _ okd_Law_carried
  | n + 113, _, h => exact absurd h (Nat.not_lt.mpr (Nat.le_add_left _ _))
