/-! ALL OF IT TOGETHER. -/
def tb_d0 : ab_D := (⟨"", "", ""⟩, ⟨#[]⟩, 0, none, [])
theorem tb_zip : ∀ q ∈ tb_MDl.zip tb_CLl, (q.2.all fun r => tb_ck q.1 r) = true := by
  show ∀ q ∈ [(tb_d0, ([] : List ck_Row)), (tb_d0, []), (m_Swap_new, c_Swap_new), (m_Swap_queued, c_Swap_queued), (m_Swap_present, c_Swap_present), (m_Swap_versions, c_Swap_versions), (m_Swap_watch, c_Swap_watch), (m_Swap_isWatched, c_Swap_isWatched), (m_Swap_objects, c_Swap_objects), (m_Swap_puts, c_Swap_puts), (m_Swap_steps, c_Swap_steps), (m_Swap_add, c_Swap_add), (m_Swap_empty, c_Swap_empty), (m_Swap_setFields, c_Swap_setFields), (m_Swap_setCarry, c_Swap_setCarry), (m_Swap_map, c_Swap_map), (m_Swap_publish, c_Swap_publish), (m_Swap_isTouched, c_Swap_isTouched), (m_Swap_start, c_Swap_start), (m_Swap_step, c_Swap_step), (m_Swap_release, c_Swap_release), (m_Swap_state, c_Swap_state), (m_Swap_frames, c_Swap_frames), (m_Swap_at, c_Swap_at), (m_Swap_local, c_Swap_local), (m_Swap_change, c_Swap_change), (m_Swap_changed, c_Swap_changed), (m_Swap_against, c_Swap_against), (m_Swap_shape, c_Swap_shape), (m_Swap_field, c_Swap_field), (m_Swap_fieldIn, c_Swap_fieldIn), (m_Swap_entry, c_Swap_entry), (m_Swap_putAt, c_Swap_putAt), (m_Swap_putIn, c_Swap_putIn), (m_Swap_carriedShare, c_Swap_carriedShare), (m_Swap_meanFrames, c_Swap_meanFrames), (m_Output_new, c_Output_new), (m_Version_new, c_Version_new), (m_Version_new2, c_Version_new2), (m_Task_new, c_Task_new), (m_Swap_isFunction, c_Swap_isFunction), (m_Swap_isInstruction, c_Swap_isInstruction), (m_Version_append, c_Version_append), (m_Swap_isKind, c_Swap_isKind), (m_Swap_latest, c_Swap_latest), (m_Version_resetCarry, c_Version_resetCarry), (m_Version_countMapped, c_Version_countMapped), (m_Version_close, c_Version_close), (m_Swap_isThread, c_Swap_isThread), (m_Task_isAlive, c_Task_isAlive), (m_Task_open, c_Task_open), (m_Swap_settleQueue, c_Swap_settleQueue), (m_Swap_makeStep, c_Swap_makeStep), (m_Swap_isLocal, c_Swap_isLocal), (m_Change_new, c_Change_new), (m_Swap_targetOf, c_Swap_targetOf), (m_Swap_countAgainst, c_Swap_countAgainst), (m_Swap_isObject, c_Swap_isObject), (m_Swap_hasField, c_Swap_hasField), (m_Swap_carryRow, c_Swap_carryRow), (m_Swap_isEntry, c_Swap_isEntry), (m_Carry_new, c_Carry_new), (m_Frame_new, c_Frame_new), (m_Swap_isKindWithField, c_Swap_isKindWithField), (m_Swap_isPlace, c_Swap_isPlace), (m_Swap_countMeaningful, c_Swap_countMeaningful), (m_Carry_reset, c_Carry_reset), (m_Version_differs, c_Version_differs), (m_Task_fail, c_Task_fail), (m_Frame_begin, c_Frame_begin), (m_Swap_takeEffect, c_Swap_takeEffect), (m_Swap_runInstruction, c_Swap_runInstruction), (m_Swap_giveUp, c_Swap_giveUp), (m_Swap_placeIn, c_Swap_placeIn), (m_Carry_apply, c_Carry_apply), (m_Version_usesChangedKind, c_Version_usesChangedKind), (m_Swap_moveFrames, c_Swap_moveFrames), (m_Swap_carryItem, c_Swap_carryItem), (m_Task_giveBack, c_Task_giveBack), (m_Swap_makeObject, c_Swap_makeObject), (m_Swap_useField, c_Swap_useField), (m_Swap_putOut, c_Swap_putOut), (m_Version_placeAfter, c_Version_placeAfter), (m_Version_placeBefore, c_Version_placeBefore), (m_Version_kindUsed, c_Version_kindUsed), (m_Item_new, c_Item_new), (m_Output_keep, c_Output_keep), (m_ArrayList_new, c_ArrayList_new), (m_ArrayList_add, c_ArrayList_add), (m_ArrayList_size, c_ArrayList_size), (m_ArrayList_get, c_ArrayList_get), (m_ArrayList_isEmpty, c_ArrayList_isEmpty), (m_AbstractList_new, c_AbstractList_new), (m_Arrays_fill, c_Arrays_fill), (m_ArrayList_add2, c_ArrayList_add2), (m_Objects_checkIndex, c_Objects_checkIndex), (m_ArrayList_elementData, c_ArrayList_elementData), (m_ArrayList_remove, c_ArrayList_remove), (m_AbstractCollection_new, c_AbstractCollection_new), (m_ArrayList_grow, c_ArrayList_grow), (m_Preconditions_checkIndex, c_Preconditions_checkIndex), (m_ArrayList_fastRemove, c_ArrayList_fastRemove), (m_ArrayList_grow2, c_ArrayList_grow2), (m_ArrayList_add3, c_ArrayList_add3), (m_ArraysSupport_newLength, c_ArraysSupport_newLength), (m_Arrays_copyOf, c_Arrays_copyOf), (m_Arrays_copyOf2, c_Arrays_copyOf2), (m_ArrayList_rangeCheckForAdd, c_ArrayList_rangeCheckForAdd), (m_Arrays_copyOf3, c_Arrays_copyOf3)], (q.2.all fun r => tb_ck q.1 r) = true
  exact List.forall_mem_cons.mpr ⟨rfl, List.forall_mem_cons.mpr ⟨rfl, List.forall_mem_cons.mpr ⟨ok_Swap_new, List.forall_mem_cons.mpr ⟨ok_Swap_queued, List.forall_mem_cons.mpr ⟨ok_Swap_present, List.forall_mem_cons.mpr ⟨ok_Swap_versions, List.forall_mem_cons.mpr ⟨ok_Swap_watch, List.forall_mem_cons.mpr ⟨ok_Swap_isWatched, List.forall_mem_cons.mpr ⟨ok_Swap_objects, List.forall_mem_cons.mpr ⟨ok_Swap_puts, List.forall_mem_cons.mpr ⟨ok_Swap_steps, List.forall_mem_cons.mpr ⟨ok_Swap_add, List.forall_mem_cons.mpr ⟨ok_Swap_empty, List.forall_mem_cons.mpr ⟨ok_Swap_setFields, List.forall_mem_cons.mpr ⟨ok_Swap_setCarry, List.forall_mem_cons.mpr ⟨ok_Swap_map, List.forall_mem_cons.mpr ⟨ok_Swap_publish, List.forall_mem_cons.mpr ⟨ok_Swap_isTouched, List.forall_mem_cons.mpr ⟨ok_Swap_start, List.forall_mem_cons.mpr ⟨ok_Swap_step, List.forall_mem_cons.mpr ⟨ok_Swap_release, List.forall_mem_cons.mpr ⟨ok_Swap_state, List.forall_mem_cons.mpr ⟨ok_Swap_frames, List.forall_mem_cons.mpr ⟨ok_Swap_at, List.forall_mem_cons.mpr ⟨ok_Swap_local, List.forall_mem_cons.mpr ⟨ok_Swap_change, List.forall_mem_cons.mpr ⟨ok_Swap_changed, List.forall_mem_cons.mpr ⟨ok_Swap_against, List.forall_mem_cons.mpr ⟨ok_Swap_shape, List.forall_mem_cons.mpr ⟨ok_Swap_field, List.forall_mem_cons.mpr ⟨ok_Swap_fieldIn, List.forall_mem_cons.mpr ⟨ok_Swap_entry, List.forall_mem_cons.mpr ⟨ok_Swap_putAt, List.forall_mem_cons.mpr ⟨ok_Swap_putIn, List.forall_mem_cons.mpr ⟨ok_Swap_carriedShare, List.forall_mem_cons.mpr ⟨ok_Swap_meanFrames, List.forall_mem_cons.mpr ⟨ok_Output_new, List.forall_mem_cons.mpr ⟨ok_Version_new, List.forall_mem_cons.mpr ⟨ok_Version_new2, List.forall_mem_cons.mpr ⟨ok_Task_new, List.forall_mem_cons.mpr ⟨ok_Swap_isFunction, List.forall_mem_cons.mpr ⟨ok_Swap_isInstruction, List.forall_mem_cons.mpr ⟨ok_Version_append, List.forall_mem_cons.mpr ⟨ok_Swap_isKind, List.forall_mem_cons.mpr ⟨ok_Swap_latest, List.forall_mem_cons.mpr ⟨ok_Version_resetCarry, List.forall_mem_cons.mpr ⟨ok_Version_countMapped, List.forall_mem_cons.mpr ⟨ok_Version_close, List.forall_mem_cons.mpr ⟨ok_Swap_isThread, List.forall_mem_cons.mpr ⟨ok_Task_isAlive, List.forall_mem_cons.mpr ⟨ok_Task_open, List.forall_mem_cons.mpr ⟨ok_Swap_settleQueue, List.forall_mem_cons.mpr ⟨ok_Swap_makeStep, List.forall_mem_cons.mpr ⟨ok_Swap_isLocal, List.forall_mem_cons.mpr ⟨ok_Change_new, List.forall_mem_cons.mpr ⟨ok_Swap_targetOf, List.forall_mem_cons.mpr ⟨ok_Swap_countAgainst, List.forall_mem_cons.mpr ⟨ok_Swap_isObject, List.forall_mem_cons.mpr ⟨ok_Swap_hasField, List.forall_mem_cons.mpr ⟨ok_Swap_carryRow, List.forall_mem_cons.mpr ⟨ok_Swap_isEntry, List.forall_mem_cons.mpr ⟨ok_Carry_new, List.forall_mem_cons.mpr ⟨ok_Frame_new, List.forall_mem_cons.mpr ⟨ok_Swap_isKindWithField, List.forall_mem_cons.mpr ⟨ok_Swap_isPlace, List.forall_mem_cons.mpr ⟨ok_Swap_countMeaningful, List.forall_mem_cons.mpr ⟨ok_Carry_reset, List.forall_mem_cons.mpr ⟨ok_Version_differs, List.forall_mem_cons.mpr ⟨ok_Task_fail, List.forall_mem_cons.mpr ⟨ok_Frame_begin, List.forall_mem_cons.mpr ⟨ok_Swap_takeEffect, List.forall_mem_cons.mpr ⟨ok_Swap_runInstruction, List.forall_mem_cons.mpr ⟨ok_Swap_giveUp, List.forall_mem_cons.mpr ⟨ok_Swap_placeIn, List.forall_mem_cons.mpr ⟨ok_Carry_apply, List.forall_mem_cons.mpr ⟨ok_Version_usesChangedKind, List.forall_mem_cons.mpr ⟨ok_Swap_moveFrames, List.forall_mem_cons.mpr ⟨ok_Swap_carryItem, List.forall_mem_cons.mpr ⟨ok_Task_giveBack, List.forall_mem_cons.mpr ⟨ok_Swap_makeObject, List.forall_mem_cons.mpr ⟨ok_Swap_useField, List.forall_mem_cons.mpr ⟨ok_Swap_putOut, List.forall_mem_cons.mpr ⟨ok_Version_placeAfter, List.forall_mem_cons.mpr ⟨ok_Version_placeBefore, List.forall_mem_cons.mpr ⟨ok_Version_kindUsed, List.forall_mem_cons.mpr ⟨ok_Item_new, List.forall_mem_cons.mpr ⟨ok_Output_keep, List.forall_mem_cons.mpr ⟨ok_ArrayList_new, List.forall_mem_cons.mpr ⟨ok_ArrayList_add, List.forall_mem_cons.mpr ⟨ok_ArrayList_size, List.forall_mem_cons.mpr ⟨ok_ArrayList_get, List.forall_mem_cons.mpr ⟨ok_ArrayList_isEmpty, List.forall_mem_cons.mpr ⟨ok_AbstractList_new, List.forall_mem_cons.mpr ⟨ok_Arrays_fill, List.forall_mem_cons.mpr ⟨ok_ArrayList_add2, List.forall_mem_cons.mpr ⟨ok_Objects_checkIndex, List.forall_mem_cons.mpr ⟨ok_ArrayList_elementData, List.forall_mem_cons.mpr ⟨ok_ArrayList_remove, List.forall_mem_cons.mpr ⟨ok_AbstractCollection_new, List.forall_mem_cons.mpr ⟨ok_ArrayList_grow, List.forall_mem_cons.mpr ⟨ok_Preconditions_checkIndex, List.forall_mem_cons.mpr ⟨ok_ArrayList_fastRemove, List.forall_mem_cons.mpr ⟨ok_ArrayList_grow2, List.forall_mem_cons.mpr ⟨ok_ArrayList_add3, List.forall_mem_cons.mpr ⟨ok_ArraysSupport_newLength, List.forall_mem_cons.mpr ⟨ok_Arrays_copyOf, List.forall_mem_cons.mpr ⟨ok_Arrays_copyOf2, List.forall_mem_cons.mpr ⟨ok_ArrayList_rangeCheckForAdd, List.forall_mem_cons.mpr ⟨ok_Arrays_copyOf3, fun _ h => absurd h List.not_mem_nil⟩⟩⟩⟩⟩⟩⟩⟩⟩⟩⟩⟩⟩⟩⟩⟩⟩⟩⟩⟩⟩⟩⟩⟩⟩⟩⟩⟩⟩⟩⟩⟩⟩⟩⟩⟩⟩⟩⟩⟩⟩⟩⟩⟩⟩⟩⟩⟩⟩⟩⟩⟩⟩⟩⟩⟩⟩⟩⟩⟩⟩⟩⟩⟩⟩⟩⟩⟩⟩⟩⟩⟩⟩⟩⟩⟩⟩⟩⟩⟩⟩⟩⟩⟩⟩⟩⟩⟩⟩⟩⟩⟩⟩⟩⟩⟩⟩⟩⟩⟩⟩⟩⟩⟩⟩⟩⟩⟩⟩
theorem tb_len : tb_MDl.length = 109 ∧ tb_CLl.length = 109 := by decide +kernel
theorem tb_row (y : Nat) (hy : y < 109) : ((tb_CL y).all fun r => tb_ck (tb_MD y) r) = true := by
  have h1 : y < tb_MDl.length := by rw [tb_len.1]; exact hy
  have h2 : y < tb_CLl.length := by rw [tb_len.2]; exact hy
  have h3 := tb_zip (tb_MDl[y], tb_CLl[y]) (List.mem_of_getElem? (i := y) (by rw [List.getElem?_zip_eq_some]; exact ⟨List.getElem?_eq_getElem h1, List.getElem?_eq_getElem h2⟩))
  have e1 : tb_MD y = tb_MDl[y] := by unfold tb_MD; rw [List.getD_eq_getElem?_getD, List.getElem?_eq_getElem h1]; rfl
  have e2 : tb_CL y = tb_CLl[y] := by unfold tb_CL; rw [List.getD_eq_getElem?_getD, List.getElem?_eq_getElem h2]; rfl
  rw [e1, e2]
  exact h3
/-- what is asked of a callee once, by program: the places of its code word and of its class's 'initialized' -/
def tb_okd (me : ab_D) (i j : Nat) : Bool := decide (me.2.2.1 ≤ 60) && plainName me.1.cls && decide (me.1.cls ≠ "java/lang/invoke/MethodHandle" ∧ me.1.cls ≠ "java/lang/invoke/VarHandle") && ck_w lw_tbl i (ab_cd me) && ck_w lw_tbl j (.initialized me.1.cls)
def tb_dl : List (Nat × Nat) := [(0, 0), (0, 0), (115, 69), (406, 69), (414, 69), (418, 69), (422, 69), (426, 69), (430, 69), (434, 69), (438, 69), (447, 69), (569, 69), (577, 69), (604, 69), (613, 69), (625, 69), (672, 69), (692, 69), (779, 69), (1122, 69), (1131, 69), (1138, 69), (1145, 69), (1153, 69), (1161, 69), (1170, 69), (1179, 69), (1206, 69), (1214, 69), (1221, 69), (1230, 69), (1238, 69), (1246, 69), (1267, 69), (1277, 69), (154, 73), (174, 74), (302, 74), (316, 80), (450, 69), (453, 69), (559, 74), (459, 69), (582, 69), (307, 74), (618, 74), (630, 74), (695, 69), (700, 80), (705, 80), (718, 69), (784, 69), (456, 69), (851, 101), (723, 69), (727, 69), (823, 69), (827, 69), (767, 69), (468, 69), (182, 75), (323, 81), (462, 69), (465, 69), (562, 69), (312, 75), (634, 74), (709, 80), (713, 81), (754, 69), (788, 69), (1115, 69), (731, 69), (771, 75), (638, 74), (758, 69), (763, 69), (792, 80), (796, 69), (819, 69), (831, 69), (736, 74), (741, 74), (641, 74), (801, 100), (835, 73), (123, 72), (230, 72), (410, 72), (586, 72), (1183, 72), (126, 71), (196, 76), (234, 72), (589, 84), (596, 72), (745, 72), (129, 70), (238, 72), (592, 85), (749, 72), (242, 72), (877, 72), (245, 77), (255, 76), (839, 76), (881, 72), (288, 76)]
theorem okd_Swap_new : tb_okd m_Swap_new 115 69 = true := by decide +kernel
theorem okd_Swap_queued : tb_okd m_Swap_queued 406 69 = true := by decide +kernel
theorem okd_Swap_present : tb_okd m_Swap_present 414 69 = true := by decide +kernel
theorem okd_Swap_versions : tb_okd m_Swap_versions 418 69 = true := by decide +kernel
theorem okd_Swap_watch : tb_okd m_Swap_watch 422 69 = true := by decide +kernel
theorem okd_Swap_isWatched : tb_okd m_Swap_isWatched 426 69 = true := by decide +kernel
theorem okd_Swap_objects : tb_okd m_Swap_objects 430 69 = true := by decide +kernel
theorem okd_Swap_puts : tb_okd m_Swap_puts 434 69 = true := by decide +kernel
theorem okd_Swap_steps : tb_okd m_Swap_steps 438 69 = true := by decide +kernel
theorem okd_Swap_add : tb_okd m_Swap_add 447 69 = true := by decide +kernel
theorem okd_Swap_empty : tb_okd m_Swap_empty 569 69 = true := by decide +kernel
theorem okd_Swap_setFields : tb_okd m_Swap_setFields 577 69 = true := by decide +kernel
theorem okd_Swap_setCarry : tb_okd m_Swap_setCarry 604 69 = true := by decide +kernel
theorem okd_Swap_map : tb_okd m_Swap_map 613 69 = true := by decide +kernel
theorem okd_Swap_publish : tb_okd m_Swap_publish 625 69 = true := by decide +kernel
theorem okd_Swap_isTouched : tb_okd m_Swap_isTouched 672 69 = true := by decide +kernel
theorem okd_Swap_start : tb_okd m_Swap_start 692 69 = true := by decide +kernel
theorem okd_Swap_step : tb_okd m_Swap_step 779 69 = true := by decide +kernel
theorem okd_Swap_release : tb_okd m_Swap_release 1122 69 = true := by decide +kernel
theorem okd_Swap_state : tb_okd m_Swap_state 1131 69 = true := by decide +kernel
theorem okd_Swap_frames : tb_okd m_Swap_frames 1138 69 = true := by decide +kernel
theorem okd_Swap_at : tb_okd m_Swap_at 1145 69 = true := by decide +kernel
theorem okd_Swap_local : tb_okd m_Swap_local 1153 69 = true := by decide +kernel
theorem okd_Swap_change : tb_okd m_Swap_change 1161 69 = true := by decide +kernel
theorem okd_Swap_changed : tb_okd m_Swap_changed 1170 69 = true := by decide +kernel
theorem okd_Swap_against : tb_okd m_Swap_against 1179 69 = true := by decide +kernel
theorem okd_Swap_shape : tb_okd m_Swap_shape 1206 69 = true := by decide +kernel
theorem okd_Swap_field : tb_okd m_Swap_field 1214 69 = true := by decide +kernel
theorem okd_Swap_fieldIn : tb_okd m_Swap_fieldIn 1221 69 = true := by decide +kernel
theorem okd_Swap_entry : tb_okd m_Swap_entry 1230 69 = true := by decide +kernel
theorem okd_Swap_putAt : tb_okd m_Swap_putAt 1238 69 = true := by decide +kernel
theorem okd_Swap_putIn : tb_okd m_Swap_putIn 1246 69 = true := by decide +kernel
theorem okd_Swap_carriedShare : tb_okd m_Swap_carriedShare 1267 69 = true := by decide +kernel
theorem okd_Swap_meanFrames : tb_okd m_Swap_meanFrames 1277 69 = true := by decide +kernel
theorem okd_Output_new : tb_okd m_Output_new 154 73 = true := by decide +kernel
theorem okd_Version_new : tb_okd m_Version_new 174 74 = true := by decide +kernel
theorem okd_Version_new2 : tb_okd m_Version_new2 302 74 = true := by decide +kernel
theorem okd_Task_new : tb_okd m_Task_new 316 80 = true := by decide +kernel
theorem okd_Swap_isFunction : tb_okd m_Swap_isFunction 450 69 = true := by decide +kernel
theorem okd_Swap_isInstruction : tb_okd m_Swap_isInstruction 453 69 = true := by decide +kernel
theorem okd_Version_append : tb_okd m_Version_append 559 74 = true := by decide +kernel
theorem okd_Swap_isKind : tb_okd m_Swap_isKind 459 69 = true := by decide +kernel
theorem okd_Swap_latest : tb_okd m_Swap_latest 582 69 = true := by decide +kernel
theorem okd_Version_resetCarry : tb_okd m_Version_resetCarry 307 74 = true := by decide +kernel
theorem okd_Version_countMapped : tb_okd m_Version_countMapped 618 74 = true := by decide +kernel
theorem okd_Version_close : tb_okd m_Version_close 630 74 = true := by decide +kernel
theorem okd_Swap_isThread : tb_okd m_Swap_isThread 695 69 = true := by decide +kernel
theorem okd_Task_isAlive : tb_okd m_Task_isAlive 700 80 = true := by decide +kernel
theorem okd_Task_open : tb_okd m_Task_open 705 80 = true := by decide +kernel
theorem okd_Swap_settleQueue : tb_okd m_Swap_settleQueue 718 69 = true := by decide +kernel
theorem okd_Swap_makeStep : tb_okd m_Swap_makeStep 784 69 = true := by decide +kernel
theorem okd_Swap_isLocal : tb_okd m_Swap_isLocal 456 69 = true := by decide +kernel
theorem okd_Change_new : tb_okd m_Change_new 851 101 = true := by decide +kernel
theorem okd_Swap_targetOf : tb_okd m_Swap_targetOf 723 69 = true := by decide +kernel
theorem okd_Swap_countAgainst : tb_okd m_Swap_countAgainst 727 69 = true := by decide +kernel
theorem okd_Swap_isObject : tb_okd m_Swap_isObject 823 69 = true := by decide +kernel
theorem okd_Swap_hasField : tb_okd m_Swap_hasField 827 69 = true := by decide +kernel
theorem okd_Swap_carryRow : tb_okd m_Swap_carryRow 767 69 = true := by decide +kernel
theorem okd_Swap_isEntry : tb_okd m_Swap_isEntry 468 69 = true := by decide +kernel
theorem okd_Carry_new : tb_okd m_Carry_new 182 75 = true := by decide +kernel
theorem okd_Frame_new : tb_okd m_Frame_new 323 81 = true := by decide +kernel
theorem okd_Swap_isKindWithField : tb_okd m_Swap_isKindWithField 462 69 = true := by decide +kernel
theorem okd_Swap_isPlace : tb_okd m_Swap_isPlace 465 69 = true := by decide +kernel
theorem okd_Swap_countMeaningful : tb_okd m_Swap_countMeaningful 562 69 = true := by decide +kernel
theorem okd_Carry_reset : tb_okd m_Carry_reset 312 75 = true := by decide +kernel
theorem okd_Version_differs : tb_okd m_Version_differs 634 74 = true := by decide +kernel
theorem okd_Task_fail : tb_okd m_Task_fail 709 80 = true := by decide +kernel
theorem okd_Frame_begin : tb_okd m_Frame_begin 713 81 = true := by decide +kernel
theorem okd_Swap_takeEffect : tb_okd m_Swap_takeEffect 754 69 = true := by decide +kernel
theorem okd_Swap_runInstruction : tb_okd m_Swap_runInstruction 788 69 = true := by decide +kernel
theorem okd_Swap_giveUp : tb_okd m_Swap_giveUp 1115 69 = true := by decide +kernel
theorem okd_Swap_placeIn : tb_okd m_Swap_placeIn 731 69 = true := by decide +kernel
theorem okd_Carry_apply : tb_okd m_Carry_apply 771 75 = true := by decide +kernel
theorem okd_Version_usesChangedKind : tb_okd m_Version_usesChangedKind 638 74 = true := by decide +kernel
theorem okd_Swap_moveFrames : tb_okd m_Swap_moveFrames 758 69 = true := by decide +kernel
theorem okd_Swap_carryItem : tb_okd m_Swap_carryItem 763 69 = true := by decide +kernel
theorem okd_Task_giveBack : tb_okd m_Task_giveBack 792 80 = true := by decide +kernel
theorem okd_Swap_makeObject : tb_okd m_Swap_makeObject 796 69 = true := by decide +kernel
theorem okd_Swap_useField : tb_okd m_Swap_useField 819 69 = true := by decide +kernel
theorem okd_Swap_putOut : tb_okd m_Swap_putOut 831 69 = true := by decide +kernel
theorem okd_Version_placeAfter : tb_okd m_Version_placeAfter 736 74 = true := by decide +kernel
theorem okd_Version_placeBefore : tb_okd m_Version_placeBefore 741 74 = true := by decide +kernel
theorem okd_Version_kindUsed : tb_okd m_Version_kindUsed 641 74 = true := by decide +kernel
theorem okd_Item_new : tb_okd m_Item_new 801 100 = true := by decide +kernel
theorem okd_Output_keep : tb_okd m_Output_keep 835 73 = true := by decide +kernel
theorem okd_ArrayList_new : tb_okd m_ArrayList_new 123 72 = true := by decide +kernel
theorem okd_ArrayList_add : tb_okd m_ArrayList_add 230 72 = true := by decide +kernel
theorem okd_ArrayList_size : tb_okd m_ArrayList_size 410 72 = true := by decide +kernel
theorem okd_ArrayList_get : tb_okd m_ArrayList_get 586 72 = true := by decide +kernel
theorem okd_ArrayList_isEmpty : tb_okd m_ArrayList_isEmpty 1183 72 = true := by decide +kernel
theorem okd_AbstractList_new : tb_okd m_AbstractList_new 126 71 = true := by decide +kernel
theorem okd_Arrays_fill : tb_okd m_Arrays_fill 196 76 = true := by decide +kernel
theorem okd_ArrayList_add2 : tb_okd m_ArrayList_add2 234 72 = true := by decide +kernel
theorem okd_Objects_checkIndex : tb_okd m_Objects_checkIndex 589 84 = true := by decide +kernel
theorem okd_ArrayList_elementData : tb_okd m_ArrayList_elementData 596 72 = true := by decide +kernel
theorem okd_ArrayList_remove : tb_okd m_ArrayList_remove 745 72 = true := by decide +kernel
theorem okd_AbstractCollection_new : tb_okd m_AbstractCollection_new 129 70 = true := by decide +kernel
theorem okd_ArrayList_grow : tb_okd m_ArrayList_grow 238 72 = true := by decide +kernel
theorem okd_Preconditions_checkIndex : tb_okd m_Preconditions_checkIndex 592 85 = true := by decide +kernel
theorem okd_ArrayList_fastRemove : tb_okd m_ArrayList_fastRemove 749 72 = true := by decide +kernel
theorem okd_ArrayList_grow2 : tb_okd m_ArrayList_grow2 242 72 = true := by decide +kernel
theorem okd_ArrayList_add3 : tb_okd m_ArrayList_add3 877 72 = true := by decide +kernel
theorem okd_ArraysSupport_newLength : tb_okd m_ArraysSupport_newLength 245 77 = true := by decide +kernel
theorem okd_Arrays_copyOf : tb_okd m_Arrays_copyOf 255 76 = true := by decide +kernel
theorem okd_Arrays_copyOf2 : tb_okd m_Arrays_copyOf2 839 76 = true := by decide +kernel
theorem okd_ArrayList_rangeCheckForAdd : tb_okd m_ArrayList_rangeCheckForAdd 881 72 = true := by decide +kernel
theorem okd_Arrays_copyOf3 : tb_okd m_Arrays_copyOf3 288 76 = true := by decide +kernel
theorem tb_okD : ab_okD tb_MD (lw_tbl.filter ab_kp) tb_vm := by
  have fin : ∀ (y i j : Nat), tb_okd (tb_MD y) i j = true → (tb_MD y).2.2.1 ≤ 60 ∧ plainName (tb_MD y).1.cls = true ∧ ((tb_MD y).1.cls ≠ "java/lang/invoke/MethodHandle" ∧ (tb_MD y).1.cls ≠ "java/lang/invoke/VarHandle") ∧ ab_cd (tb_MD y) ∈ lw_tbl.filter ab_kp ∧ Jvm.Cond.initialized (tb_MD y).1.cls ∈ lw_tbl.filter ab_kp := by
    intro y i j h
    unfold tb_okd ck_w at h
    simp only [Bool.and_eq_true, decide_eq_true_eq] at h
    obtain ⟨⟨⟨⟨h1, h2⟩, h3⟩, h4, h5⟩, h6, h7⟩ := h
    exact ⟨h1, h2, h3, List.mem_filter.mpr ⟨List.mem_of_getElem? h4, h5⟩, List.mem_filter.mpr ⟨List.mem_of_getElem? h6, h7⟩⟩
  intro y hy
  have hy := of_decide_eq_true hy
  have hn : y < 109 := hy.2
  have h2 : 2 ≤ y := hy.1
  match y, h2, hn with
  | 2, _, _ => exact fin 2 _ _ okd_Swap_new
  | 3, _, _ => exact fin 3 _ _ okd_Swap_queued
  | 4, _, _ => exact fin 4 _ _ okd_Swap_present
  | 5, _, _ => exact fin 5 _ _ okd_Swap_versions
  | 6, _, _ => exact fin 6 _ _ okd_Swap_watch
  | 7, _, _ => exact fin 7 _ _ okd_Swap_isWatched
  | 8, _, _ => exact fin 8 _ _ okd_Swap_objects
  | 9, _, _ => exact fin 9 _ _ okd_Swap_puts
  | 10, _, _ => exact fin 10 _ _ okd_Swap_steps
  | 11, _, _ => exact fin 11 _ _ okd_Swap_add
  | 12, _, _ => exact fin 12 _ _ okd_Swap_empty
  | 13, _, _ => exact fin 13 _ _ okd_Swap_setFields
  | 14, _, _ => exact fin 14 _ _ okd_Swap_setCarry
  | 15, _, _ => exact fin 15 _ _ okd_Swap_map
  | 16, _, _ => exact fin 16 _ _ okd_Swap_publish
  | 17, _, _ => exact fin 17 _ _ okd_Swap_isTouched
  | 18, _, _ => exact fin 18 _ _ okd_Swap_start
  | 19, _, _ => exact fin 19 _ _ okd_Swap_step
  | 20, _, _ => exact fin 20 _ _ okd_Swap_release
  | 21, _, _ => exact fin 21 _ _ okd_Swap_state
  | 22, _, _ => exact fin 22 _ _ okd_Swap_frames
  | 23, _, _ => exact fin 23 _ _ okd_Swap_at
  | 24, _, _ => exact fin 24 _ _ okd_Swap_local
  | 25, _, _ => exact fin 25 _ _ okd_Swap_change
  | 26, _, _ => exact fin 26 _ _ okd_Swap_changed
  | 27, _, _ => exact fin 27 _ _ okd_Swap_against
  | 28, _, _ => exact fin 28 _ _ okd_Swap_shape
  | 29, _, _ => exact fin 29 _ _ okd_Swap_field
  | 30, _, _ => exact fin 30 _ _ okd_Swap_fieldIn
  | 31, _, _ => exact fin 31 _ _ okd_Swap_entry
  | 32, _, _ => exact fin 32 _ _ okd_Swap_putAt
  | 33, _, _ => exact fin 33 _ _ okd_Swap_putIn
  | 34, _, _ => exact fin 34 _ _ okd_Swap_carriedShare
  | 35, _, _ => exact fin 35 _ _ okd_Swap_meanFrames
  | 36, _, _ => exact fin 36 _ _ okd_Output_new
  | 37, _, _ => exact fin 37 _ _ okd_Version_new
  | 38, _, _ => exact fin 38 _ _ okd_Version_new2
  | 39, _, _ => exact fin 39 _ _ okd_Task_new
  | 40, _, _ => exact fin 40 _ _ okd_Swap_isFunction
  | 41, _, _ => exact fin 41 _ _ okd_Swap_isInstruction
  | 42, _, _ => exact fin 42 _ _ okd_Version_append
  | 43, _, _ => exact fin 43 _ _ okd_Swap_isKind
  | 44, _, _ => exact fin 44 _ _ okd_Swap_latest
  | 45, _, _ => exact fin 45 _ _ okd_Version_resetCarry
  | 46, _, _ => exact fin 46 _ _ okd_Version_countMapped
  | 47, _, _ => exact fin 47 _ _ okd_Version_close
  | 48, _, _ => exact fin 48 _ _ okd_Swap_isThread
  | 49, _, _ => exact fin 49 _ _ okd_Task_isAlive
  | 50, _, _ => exact fin 50 _ _ okd_Task_open
  | 51, _, _ => exact fin 51 _ _ okd_Swap_settleQueue
  | 52, _, _ => exact fin 52 _ _ okd_Swap_makeStep
  | 53, _, _ => exact fin 53 _ _ okd_Swap_isLocal
  | 54, _, _ => exact fin 54 _ _ okd_Change_new
  | 55, _, _ => exact fin 55 _ _ okd_Swap_targetOf
  | 56, _, _ => exact fin 56 _ _ okd_Swap_countAgainst
  | 57, _, _ => exact fin 57 _ _ okd_Swap_isObject
  | 58, _, _ => exact fin 58 _ _ okd_Swap_hasField
  | 59, _, _ => exact fin 59 _ _ okd_Swap_carryRow
  | 60, _, _ => exact fin 60 _ _ okd_Swap_isEntry
  | 61, _, _ => exact fin 61 _ _ okd_Carry_new
  | 62, _, _ => exact fin 62 _ _ okd_Frame_new
  | 63, _, _ => exact fin 63 _ _ okd_Swap_isKindWithField
  | 64, _, _ => exact fin 64 _ _ okd_Swap_isPlace
  | 65, _, _ => exact fin 65 _ _ okd_Swap_countMeaningful
  | 66, _, _ => exact fin 66 _ _ okd_Carry_reset
  | 67, _, _ => exact fin 67 _ _ okd_Version_differs
  | 68, _, _ => exact fin 68 _ _ okd_Task_fail
  | 69, _, _ => exact fin 69 _ _ okd_Frame_begin
  | 70, _, _ => exact fin 70 _ _ okd_Swap_takeEffect
  | 71, _, _ => exact fin 71 _ _ okd_Swap_runInstruction
  | 72, _, _ => exact fin 72 _ _ okd_Swap_giveUp
  | 73, _, _ => exact fin 73 _ _ okd_Swap_placeIn
  | 74, _, _ => exact fin 74 _ _ okd_Carry_apply
  | 75, _, _ => exact fin 75 _ _ okd_Version_usesChangedKind
  | 76, _, _ => exact fin 76 _ _ okd_Swap_moveFrames
  | 77, _, _ => exact fin 77 _ _ okd_Swap_carryItem
  | 78, _, _ => exact fin 78 _ _ okd_Task_giveBack
  | 79, _, _ => exact fin 79 _ _ okd_Swap_makeObject
  | 80, _, _ => exact fin 80 _ _ okd_Swap_useField
  | 81, _, _ => exact fin 81 _ _ okd_Swap_putOut
  | 82, _, _ => exact fin 82 _ _ okd_Version_placeAfter
  | 83, _, _ => exact fin 83 _ _ okd_Version_placeBefore
  | 84, _, _ => exact fin 84 _ _ okd_Version_kindUsed
  | 85, _, _ => exact fin 85 _ _ okd_Item_new
  | 86, _, _ => exact fin 86 _ _ okd_Output_keep
  | 87, _, _ => exact fin 87 _ _ okd_ArrayList_new
  | 88, _, _ => exact fin 88 _ _ okd_ArrayList_add
  | 89, _, _ => exact fin 89 _ _ okd_ArrayList_size
  | 90, _, _ => exact fin 90 _ _ okd_ArrayList_get
  | 91, _, _ => exact fin 91 _ _ okd_ArrayList_isEmpty
  | 92, _, _ => exact fin 92 _ _ okd_AbstractList_new
  | 93, _, _ => exact fin 93 _ _ okd_Arrays_fill
  | 94, _, _ => exact fin 94 _ _ okd_ArrayList_add2
  | 95, _, _ => exact fin 95 _ _ okd_Objects_checkIndex
  | 96, _, _ => exact fin 96 _ _ okd_ArrayList_elementData
  | 97, _, _ => exact fin 97 _ _ okd_ArrayList_remove
  | 98, _, _ => exact fin 98 _ _ okd_AbstractCollection_new
  | 99, _, _ => exact fin 99 _ _ okd_ArrayList_grow
  | 100, _, _ => exact fin 100 _ _ okd_Preconditions_checkIndex
  | 101, _, _ => exact fin 101 _ _ okd_ArrayList_fastRemove
  | 102, _, _ => exact fin 102 _ _ okd_ArrayList_grow2
  | 103, _, _ => exact fin 103 _ _ okd_ArrayList_add3
  | 104, _, _ => exact fin 104 _ _ okd_ArraysSupport_newLength
  | 105, _, _ => exact fin 105 _ _ okd_Arrays_copyOf
  | 106, _, _ => exact fin 106 _ _ okd_Arrays_copyOf2
  | 107, _, _ => exact fin 107 _ _ okd_ArrayList_rangeCheckForAdd
  | 108, _, _ => exact fin 108 _ _ okd_Arrays_copyOf3
  | n + 109, _, h => exact absurd h (Nat.not_lt.mpr (Nat.le_add_left _ _))
