/-! THE EXECUTOR'S CODE TABLES HOLD. -/
theorem kx_Swap_new_0 : (x_Swap_new_0.all fun e => e.all fun q => sx_ck c_Swap_new q) = true := by decide +kernel
theorem kx_Swap_new_1 : (x_Swap_new_1.all fun e => e.all fun q => sx_ck c_Swap_new q) = true := by decide +kernel
theorem kx_Swap_new_2 : (x_Swap_new_2.all fun e => e.all fun q => sx_ck c_Swap_new q) = true := by decide +kernel
theorem kx_Swap_new : ∀ t ∈ x_Swap_new, (t.all fun e => e.all fun q => sx_ck c_Swap_new q) = true := by
  show ∀ t ∈ [x_Swap_new_0, x_Swap_new_1, x_Swap_new_2], _
  exact List.forall_mem_cons.mpr ⟨kx_Swap_new_0, List.forall_mem_cons.mpr ⟨kx_Swap_new_1, List.forall_mem_cons.mpr ⟨kx_Swap_new_2, fun _ h => absurd h List.not_mem_nil⟩⟩⟩
theorem kx_Swap_present_0 : (x_Swap_present_0.all fun e => e.all fun q => sx_ck c_Swap_present q) = true := by decide +kernel
theorem kx_Swap_present : ∀ t ∈ x_Swap_present, (t.all fun e => e.all fun q => sx_ck c_Swap_present q) = true := by
  show ∀ t ∈ [x_Swap_present_0], _
  exact List.forall_mem_cons.mpr ⟨kx_Swap_present_0, fun _ h => absurd h List.not_mem_nil⟩
theorem kx_Swap_versions_0 : (x_Swap_versions_0.all fun e => e.all fun q => sx_ck c_Swap_versions q) = true := by decide +kernel
theorem kx_Swap_versions : ∀ t ∈ x_Swap_versions, (t.all fun e => e.all fun q => sx_ck c_Swap_versions q) = true := by
  show ∀ t ∈ [x_Swap_versions_0], _
  exact List.forall_mem_cons.mpr ⟨kx_Swap_versions_0, fun _ h => absurd h List.not_mem_nil⟩
theorem kx_Swap_objects_0 : (x_Swap_objects_0.all fun e => e.all fun q => sx_ck c_Swap_objects q) = true := by decide +kernel
theorem kx_Swap_objects : ∀ t ∈ x_Swap_objects, (t.all fun e => e.all fun q => sx_ck c_Swap_objects q) = true := by
  show ∀ t ∈ [x_Swap_objects_0], _
  exact List.forall_mem_cons.mpr ⟨kx_Swap_objects_0, fun _ h => absurd h List.not_mem_nil⟩
theorem kx_Swap_queued_0 : (x_Swap_queued_0.all fun e => e.all fun q => sx_ck c_Swap_queued q) = true := by decide +kernel
theorem kx_Swap_queued : ∀ t ∈ x_Swap_queued, (t.all fun e => e.all fun q => sx_ck c_Swap_queued q) = true := by
  show ∀ t ∈ [x_Swap_queued_0], _
  exact List.forall_mem_cons.mpr ⟨kx_Swap_queued_0, fun _ h => absurd h List.not_mem_nil⟩
theorem kx_Swap_isWatched_0 : (x_Swap_isWatched_0.all fun e => e.all fun q => sx_ck c_Swap_isWatched q) = true := by decide +kernel
theorem kx_Swap_isWatched : ∀ t ∈ x_Swap_isWatched, (t.all fun e => e.all fun q => sx_ck c_Swap_isWatched q) = true := by
  show ∀ t ∈ [x_Swap_isWatched_0], _
  exact List.forall_mem_cons.mpr ⟨kx_Swap_isWatched_0, fun _ h => absurd h List.not_mem_nil⟩
theorem kx_Swap_steps_0 : (x_Swap_steps_0.all fun e => e.all fun q => sx_ck c_Swap_steps q) = true := by decide +kernel
theorem kx_Swap_steps : ∀ t ∈ x_Swap_steps, (t.all fun e => e.all fun q => sx_ck c_Swap_steps q) = true := by
  show ∀ t ∈ [x_Swap_steps_0], _
  exact List.forall_mem_cons.mpr ⟨kx_Swap_steps_0, fun _ h => absurd h List.not_mem_nil⟩
theorem kx_Output_new_0 : (x_Output_new_0.all fun e => e.all fun q => sx_ck c_Output_new q) = true := by decide +kernel
theorem kx_Output_new : ∀ t ∈ x_Output_new, (t.all fun e => e.all fun q => sx_ck c_Output_new q) = true := by
  show ∀ t ∈ [x_Output_new_0], _
  exact List.forall_mem_cons.mpr ⟨kx_Output_new_0, fun _ h => absurd h List.not_mem_nil⟩
theorem kx_Version_new_0 : (x_Version_new_0.all fun e => e.all fun q => sx_ck c_Version_new q) = true := by decide +kernel
theorem kx_Version_new_1 : (x_Version_new_1.all fun e => e.all fun q => sx_ck c_Version_new q) = true := by decide +kernel
theorem kx_Version_new : ∀ t ∈ x_Version_new, (t.all fun e => e.all fun q => sx_ck c_Version_new q) = true := by
  show ∀ t ∈ [x_Version_new_0, x_Version_new_1], _
  exact List.forall_mem_cons.mpr ⟨kx_Version_new_0, List.forall_mem_cons.mpr ⟨kx_Version_new_1, fun _ h => absurd h List.not_mem_nil⟩⟩
theorem kx_Version_new2_0 : (x_Version_new2_0.all fun e => e.all fun q => sx_ck c_Version_new2 q) = true := by decide +kernel
theorem kx_Version_new2_1 : (x_Version_new2_1.all fun e => e.all fun q => sx_ck c_Version_new2 q) = true := by decide +kernel
theorem kx_Version_new2_2 : (x_Version_new2_2.all fun e => e.all fun q => sx_ck c_Version_new2 q) = true := by decide +kernel
theorem kx_Version_new2 : ∀ t ∈ x_Version_new2, (t.all fun e => e.all fun q => sx_ck c_Version_new2 q) = true := by
  show ∀ t ∈ [x_Version_new2_0, x_Version_new2_1, x_Version_new2_2], _
  exact List.forall_mem_cons.mpr ⟨kx_Version_new2_0, List.forall_mem_cons.mpr ⟨kx_Version_new2_1, List.forall_mem_cons.mpr ⟨kx_Version_new2_2, fun _ h => absurd h List.not_mem_nil⟩⟩⟩
theorem kx_Task_new_0 : (x_Task_new_0.all fun e => e.all fun q => sx_ck c_Task_new q) = true := by decide +kernel
theorem kx_Task_new : ∀ t ∈ x_Task_new, (t.all fun e => e.all fun q => sx_ck c_Task_new q) = true := by
  show ∀ t ∈ [x_Task_new_0], _
  exact List.forall_mem_cons.mpr ⟨kx_Task_new_0, fun _ h => absurd h List.not_mem_nil⟩
theorem kx_Swap_add_0 : (x_Swap_add_0.all fun e => e.all fun q => sx_ck c_Swap_add q) = true := by decide +kernel
theorem kx_Swap_add_1 : (x_Swap_add_1.all fun e => e.all fun q => sx_ck c_Swap_add q) = true := by decide +kernel
theorem kx_Swap_add : ∀ t ∈ x_Swap_add, (t.all fun e => e.all fun q => sx_ck c_Swap_add q) = true := by
  show ∀ t ∈ [x_Swap_add_0, x_Swap_add_1], _
  exact List.forall_mem_cons.mpr ⟨kx_Swap_add_0, List.forall_mem_cons.mpr ⟨kx_Swap_add_1, fun _ h => absurd h List.not_mem_nil⟩⟩
theorem kx_Swap_empty_0 : (x_Swap_empty_0.all fun e => e.all fun q => sx_ck c_Swap_empty q) = true := by decide +kernel
theorem kx_Swap_empty : ∀ t ∈ x_Swap_empty, (t.all fun e => e.all fun q => sx_ck c_Swap_empty q) = true := by
  show ∀ t ∈ [x_Swap_empty_0], _
  exact List.forall_mem_cons.mpr ⟨kx_Swap_empty_0, fun _ h => absurd h List.not_mem_nil⟩
theorem kx_Swap_setFields_0 : (x_Swap_setFields_0.all fun e => e.all fun q => sx_ck c_Swap_setFields q) = true := by decide +kernel
theorem kx_Swap_setFields_1 : (x_Swap_setFields_1.all fun e => e.all fun q => sx_ck c_Swap_setFields q) = true := by decide +kernel
theorem kx_Swap_setFields : ∀ t ∈ x_Swap_setFields, (t.all fun e => e.all fun q => sx_ck c_Swap_setFields q) = true := by
  show ∀ t ∈ [x_Swap_setFields_0, x_Swap_setFields_1], _
  exact List.forall_mem_cons.mpr ⟨kx_Swap_setFields_0, List.forall_mem_cons.mpr ⟨kx_Swap_setFields_1, fun _ h => absurd h List.not_mem_nil⟩⟩
theorem kx_Swap_setCarry_0 : (x_Swap_setCarry_0.all fun e => e.all fun q => sx_ck c_Swap_setCarry q) = true := by decide +kernel
theorem kx_Swap_setCarry_1 : (x_Swap_setCarry_1.all fun e => e.all fun q => sx_ck c_Swap_setCarry q) = true := by decide +kernel
theorem kx_Swap_setCarry_2 : (x_Swap_setCarry_2.all fun e => e.all fun q => sx_ck c_Swap_setCarry q) = true := by decide +kernel
theorem kx_Swap_setCarry : ∀ t ∈ x_Swap_setCarry, (t.all fun e => e.all fun q => sx_ck c_Swap_setCarry q) = true := by
  show ∀ t ∈ [x_Swap_setCarry_0, x_Swap_setCarry_1, x_Swap_setCarry_2], _
  exact List.forall_mem_cons.mpr ⟨kx_Swap_setCarry_0, List.forall_mem_cons.mpr ⟨kx_Swap_setCarry_1, List.forall_mem_cons.mpr ⟨kx_Swap_setCarry_2, fun _ h => absurd h List.not_mem_nil⟩⟩⟩
theorem kx_Swap_map_0 : (x_Swap_map_0.all fun e => e.all fun q => sx_ck c_Swap_map q) = true := by decide +kernel
theorem kx_Swap_map_1 : (x_Swap_map_1.all fun e => e.all fun q => sx_ck c_Swap_map q) = true := by decide +kernel
theorem kx_Swap_map : ∀ t ∈ x_Swap_map, (t.all fun e => e.all fun q => sx_ck c_Swap_map q) = true := by
  show ∀ t ∈ [x_Swap_map_0, x_Swap_map_1], _
  exact List.forall_mem_cons.mpr ⟨kx_Swap_map_0, List.forall_mem_cons.mpr ⟨kx_Swap_map_1, fun _ h => absurd h List.not_mem_nil⟩⟩
theorem kx_Swap_publish_0 : (x_Swap_publish_0.all fun e => e.all fun q => sx_ck c_Swap_publish q) = true := by decide +kernel
theorem kx_Swap_publish_1 : (x_Swap_publish_1.all fun e => e.all fun q => sx_ck c_Swap_publish q) = true := by decide +kernel
theorem kx_Swap_publish : ∀ t ∈ x_Swap_publish, (t.all fun e => e.all fun q => sx_ck c_Swap_publish q) = true := by
  show ∀ t ∈ [x_Swap_publish_0, x_Swap_publish_1], _
  exact List.forall_mem_cons.mpr ⟨kx_Swap_publish_0, List.forall_mem_cons.mpr ⟨kx_Swap_publish_1, fun _ h => absurd h List.not_mem_nil⟩⟩
theorem kx_Swap_start_0 : (x_Swap_start_0.all fun e => e.all fun q => sx_ck c_Swap_start q) = true := by decide +kernel
theorem kx_Swap_start_1 : (x_Swap_start_1.all fun e => e.all fun q => sx_ck c_Swap_start q) = true := by decide +kernel
theorem kx_Swap_start : ∀ t ∈ x_Swap_start, (t.all fun e => e.all fun q => sx_ck c_Swap_start q) = true := by
  show ∀ t ∈ [x_Swap_start_0, x_Swap_start_1], _
  exact List.forall_mem_cons.mpr ⟨kx_Swap_start_0, List.forall_mem_cons.mpr ⟨kx_Swap_start_1, fun _ h => absurd h List.not_mem_nil⟩⟩
theorem kx_Swap_step_0 : (x_Swap_step_0.all fun e => e.all fun q => sx_ck c_Swap_step q) = true := by decide +kernel
theorem kx_Swap_step_1 : (x_Swap_step_1.all fun e => e.all fun q => sx_ck c_Swap_step q) = true := by decide +kernel
theorem kx_Swap_step : ∀ t ∈ x_Swap_step, (t.all fun e => e.all fun q => sx_ck c_Swap_step q) = true := by
  show ∀ t ∈ [x_Swap_step_0, x_Swap_step_1], _
  exact List.forall_mem_cons.mpr ⟨kx_Swap_step_0, List.forall_mem_cons.mpr ⟨kx_Swap_step_1, fun _ h => absurd h List.not_mem_nil⟩⟩
theorem kx_Swap_release_0 : (x_Swap_release_0.all fun e => e.all fun q => sx_ck c_Swap_release q) = true := by decide +kernel
theorem kx_Swap_release : ∀ t ∈ x_Swap_release, (t.all fun e => e.all fun q => sx_ck c_Swap_release q) = true := by
  show ∀ t ∈ [x_Swap_release_0], _
  exact List.forall_mem_cons.mpr ⟨kx_Swap_release_0, fun _ h => absurd h List.not_mem_nil⟩
theorem kx_Swap_state_0 : (x_Swap_state_0.all fun e => e.all fun q => sx_ck c_Swap_state q) = true := by decide +kernel
theorem kx_Swap_state : ∀ t ∈ x_Swap_state, (t.all fun e => e.all fun q => sx_ck c_Swap_state q) = true := by
  show ∀ t ∈ [x_Swap_state_0], _
  exact List.forall_mem_cons.mpr ⟨kx_Swap_state_0, fun _ h => absurd h List.not_mem_nil⟩
theorem kx_Swap_frames_0 : (x_Swap_frames_0.all fun e => e.all fun q => sx_ck c_Swap_frames q) = true := by decide +kernel
theorem kx_Swap_frames : ∀ t ∈ x_Swap_frames, (t.all fun e => e.all fun q => sx_ck c_Swap_frames q) = true := by
  show ∀ t ∈ [x_Swap_frames_0], _
  exact List.forall_mem_cons.mpr ⟨kx_Swap_frames_0, fun _ h => absurd h List.not_mem_nil⟩
theorem kx_Swap_at_0 : (x_Swap_at_0.all fun e => e.all fun q => sx_ck c_Swap_at q) = true := by decide +kernel
theorem kx_Swap_at_1 : (x_Swap_at_1.all fun e => e.all fun q => sx_ck c_Swap_at q) = true := by decide +kernel
theorem kx_Swap_at : ∀ t ∈ x_Swap_at, (t.all fun e => e.all fun q => sx_ck c_Swap_at q) = true := by
  show ∀ t ∈ [x_Swap_at_0, x_Swap_at_1], _
  exact List.forall_mem_cons.mpr ⟨kx_Swap_at_0, List.forall_mem_cons.mpr ⟨kx_Swap_at_1, fun _ h => absurd h List.not_mem_nil⟩⟩
theorem kx_Swap_local_0 : (x_Swap_local_0.all fun e => e.all fun q => sx_ck c_Swap_local q) = true := by decide +kernel
theorem kx_Swap_local_1 : (x_Swap_local_1.all fun e => e.all fun q => sx_ck c_Swap_local q) = true := by decide +kernel
theorem kx_Swap_local : ∀ t ∈ x_Swap_local, (t.all fun e => e.all fun q => sx_ck c_Swap_local q) = true := by
  show ∀ t ∈ [x_Swap_local_0, x_Swap_local_1], _
  exact List.forall_mem_cons.mpr ⟨kx_Swap_local_0, List.forall_mem_cons.mpr ⟨kx_Swap_local_1, fun _ h => absurd h List.not_mem_nil⟩⟩
theorem kx_Swap_meanFrames_0 : (x_Swap_meanFrames_0.all fun e => e.all fun q => sx_ck c_Swap_meanFrames q) = true := by decide +kernel
theorem kx_Swap_meanFrames_1 : (x_Swap_meanFrames_1.all fun e => e.all fun q => sx_ck c_Swap_meanFrames q) = true := by decide +kernel
theorem kx_Swap_meanFrames : ∀ t ∈ x_Swap_meanFrames, (t.all fun e => e.all fun q => sx_ck c_Swap_meanFrames q) = true := by
  show ∀ t ∈ [x_Swap_meanFrames_0, x_Swap_meanFrames_1], _
  exact List.forall_mem_cons.mpr ⟨kx_Swap_meanFrames_0, List.forall_mem_cons.mpr ⟨kx_Swap_meanFrames_1, fun _ h => absurd h List.not_mem_nil⟩⟩
theorem kx_Swap_carriedShare_0 : (x_Swap_carriedShare_0.all fun e => e.all fun q => sx_ck c_Swap_carriedShare q) = true := by decide +kernel
theorem kx_Swap_carriedShare_1 : (x_Swap_carriedShare_1.all fun e => e.all fun q => sx_ck c_Swap_carriedShare q) = true := by decide +kernel
theorem kx_Swap_carriedShare : ∀ t ∈ x_Swap_carriedShare, (t.all fun e => e.all fun q => sx_ck c_Swap_carriedShare q) = true := by
  show ∀ t ∈ [x_Swap_carriedShare_0, x_Swap_carriedShare_1], _
  exact List.forall_mem_cons.mpr ⟨kx_Swap_carriedShare_0, List.forall_mem_cons.mpr ⟨kx_Swap_carriedShare_1, fun _ h => absurd h List.not_mem_nil⟩⟩
theorem kx_Swap_change_0 : (x_Swap_change_0.all fun e => e.all fun q => sx_ck c_Swap_change q) = true := by decide +kernel
theorem kx_Swap_change_1 : (x_Swap_change_1.all fun e => e.all fun q => sx_ck c_Swap_change q) = true := by decide +kernel
theorem kx_Swap_change_2 : (x_Swap_change_2.all fun e => e.all fun q => sx_ck c_Swap_change q) = true := by decide +kernel
theorem kx_Swap_change : ∀ t ∈ x_Swap_change, (t.all fun e => e.all fun q => sx_ck c_Swap_change q) = true := by
  show ∀ t ∈ [x_Swap_change_0, x_Swap_change_1, x_Swap_change_2], _
  exact List.forall_mem_cons.mpr ⟨kx_Swap_change_0, List.forall_mem_cons.mpr ⟨kx_Swap_change_1, List.forall_mem_cons.mpr ⟨kx_Swap_change_2, fun _ h => absurd h List.not_mem_nil⟩⟩⟩
theorem kx_Swap_changed_0 : (x_Swap_changed_0.all fun e => e.all fun q => sx_ck c_Swap_changed q) = true := by decide +kernel
theorem kx_Swap_changed : ∀ t ∈ x_Swap_changed, (t.all fun e => e.all fun q => sx_ck c_Swap_changed q) = true := by
  show ∀ t ∈ [x_Swap_changed_0], _
  exact List.forall_mem_cons.mpr ⟨kx_Swap_changed_0, fun _ h => absurd h List.not_mem_nil⟩
theorem kx_Swap_against_0 : (x_Swap_against_0.all fun e => e.all fun q => sx_ck c_Swap_against q) = true := by decide +kernel
theorem kx_Swap_against : ∀ t ∈ x_Swap_against, (t.all fun e => e.all fun q => sx_ck c_Swap_against q) = true := by
  show ∀ t ∈ [x_Swap_against_0], _
  exact List.forall_mem_cons.mpr ⟨kx_Swap_against_0, fun _ h => absurd h List.not_mem_nil⟩
theorem kx_Swap_shape_0 : (x_Swap_shape_0.all fun e => e.all fun q => sx_ck c_Swap_shape q) = true := by decide +kernel
theorem kx_Swap_shape : ∀ t ∈ x_Swap_shape, (t.all fun e => e.all fun q => sx_ck c_Swap_shape q) = true := by
  show ∀ t ∈ [x_Swap_shape_0], _
  exact List.forall_mem_cons.mpr ⟨kx_Swap_shape_0, fun _ h => absurd h List.not_mem_nil⟩
theorem kx_Swap_field_0 : (x_Swap_field_0.all fun e => e.all fun q => sx_ck c_Swap_field q) = true := by decide +kernel
theorem kx_Swap_field : ∀ t ∈ x_Swap_field, (t.all fun e => e.all fun q => sx_ck c_Swap_field q) = true := by
  show ∀ t ∈ [x_Swap_field_0], _
  exact List.forall_mem_cons.mpr ⟨kx_Swap_field_0, fun _ h => absurd h List.not_mem_nil⟩
theorem kx_Swap_fieldIn_0 : (x_Swap_fieldIn_0.all fun e => e.all fun q => sx_ck c_Swap_fieldIn q) = true := by decide +kernel
theorem kx_Swap_fieldIn_1 : (x_Swap_fieldIn_1.all fun e => e.all fun q => sx_ck c_Swap_fieldIn q) = true := by decide +kernel
theorem kx_Swap_fieldIn : ∀ t ∈ x_Swap_fieldIn, (t.all fun e => e.all fun q => sx_ck c_Swap_fieldIn q) = true := by
  show ∀ t ∈ [x_Swap_fieldIn_0, x_Swap_fieldIn_1], _
  exact List.forall_mem_cons.mpr ⟨kx_Swap_fieldIn_0, List.forall_mem_cons.mpr ⟨kx_Swap_fieldIn_1, fun _ h => absurd h List.not_mem_nil⟩⟩
theorem kx_Swap_entry_0 : (x_Swap_entry_0.all fun e => e.all fun q => sx_ck c_Swap_entry q) = true := by decide +kernel
theorem kx_Swap_entry : ∀ t ∈ x_Swap_entry, (t.all fun e => e.all fun q => sx_ck c_Swap_entry q) = true := by
  show ∀ t ∈ [x_Swap_entry_0], _
  exact List.forall_mem_cons.mpr ⟨kx_Swap_entry_0, fun _ h => absurd h List.not_mem_nil⟩
theorem kx_Swap_putAt_0 : (x_Swap_putAt_0.all fun e => e.all fun q => sx_ck c_Swap_putAt q) = true := by decide +kernel
theorem kx_Swap_putAt : ∀ t ∈ x_Swap_putAt, (t.all fun e => e.all fun q => sx_ck c_Swap_putAt q) = true := by
  show ∀ t ∈ [x_Swap_putAt_0], _
  exact List.forall_mem_cons.mpr ⟨kx_Swap_putAt_0, fun _ h => absurd h List.not_mem_nil⟩
theorem kx_Swap_putIn_0 : (x_Swap_putIn_0.all fun e => e.all fun q => sx_ck c_Swap_putIn q) = true := by decide +kernel
theorem kx_Swap_putIn : ∀ t ∈ x_Swap_putIn, (t.all fun e => e.all fun q => sx_ck c_Swap_putIn q) = true := by
  show ∀ t ∈ [x_Swap_putIn_0], _
  exact List.forall_mem_cons.mpr ⟨kx_Swap_putIn_0, fun _ h => absurd h List.not_mem_nil⟩
theorem kx_Swap_isTouched_0 : (x_Swap_isTouched_0.all fun e => e.all fun q => sx_ck c_Swap_isTouched q) = true := by decide +kernel
theorem kx_Swap_isTouched : ∀ t ∈ x_Swap_isTouched, (t.all fun e => e.all fun q => sx_ck c_Swap_isTouched q) = true := by
  show ∀ t ∈ [x_Swap_isTouched_0], _
  exact List.forall_mem_cons.mpr ⟨kx_Swap_isTouched_0, fun _ h => absurd h List.not_mem_nil⟩
theorem kx_Carry_new_0 : (x_Carry_new_0.all fun e => e.all fun q => sx_ck c_Carry_new q) = true := by decide +kernel
theorem kx_Carry_new : ∀ t ∈ x_Carry_new, (t.all fun e => e.all fun q => sx_ck c_Carry_new q) = true := by
  show ∀ t ∈ [x_Carry_new_0], _
  exact List.forall_mem_cons.mpr ⟨kx_Carry_new_0, fun _ h => absurd h List.not_mem_nil⟩
theorem kx_Version_resetCarry_0 : (x_Version_resetCarry_0.all fun e => e.all fun q => sx_ck c_Version_resetCarry q) = true := by decide +kernel
theorem kx_Version_resetCarry : ∀ t ∈ x_Version_resetCarry, (t.all fun e => e.all fun q => sx_ck c_Version_resetCarry q) = true := by
  show ∀ t ∈ [x_Version_resetCarry_0], _
  exact List.forall_mem_cons.mpr ⟨kx_Version_resetCarry_0, fun _ h => absurd h List.not_mem_nil⟩
theorem kx_Frame_new_0 : (x_Frame_new_0.all fun e => e.all fun q => sx_ck c_Frame_new q) = true := by decide +kernel
theorem kx_Frame_new : ∀ t ∈ x_Frame_new, (t.all fun e => e.all fun q => sx_ck c_Frame_new q) = true := by
  show ∀ t ∈ [x_Frame_new_0], _
  exact List.forall_mem_cons.mpr ⟨kx_Frame_new_0, fun _ h => absurd h List.not_mem_nil⟩
theorem kx_Swap_isFunction_0 : (x_Swap_isFunction_0.all fun e => e.all fun q => sx_ck c_Swap_isFunction q) = true := by decide +kernel
theorem kx_Swap_isFunction : ∀ t ∈ x_Swap_isFunction, (t.all fun e => e.all fun q => sx_ck c_Swap_isFunction q) = true := by
  show ∀ t ∈ [x_Swap_isFunction_0], _
  exact List.forall_mem_cons.mpr ⟨kx_Swap_isFunction_0, fun _ h => absurd h List.not_mem_nil⟩
theorem kx_Swap_isInstruction_0 : (x_Swap_isInstruction_0.all fun e => e.all fun q => sx_ck c_Swap_isInstruction q) = true := by decide +kernel
theorem kx_Swap_isInstruction_1 : (x_Swap_isInstruction_1.all fun e => e.all fun q => sx_ck c_Swap_isInstruction q) = true := by decide +kernel
theorem kx_Swap_isInstruction_2 : (x_Swap_isInstruction_2.all fun e => e.all fun q => sx_ck c_Swap_isInstruction q) = true := by decide +kernel
theorem kx_Swap_isInstruction_3 : (x_Swap_isInstruction_3.all fun e => e.all fun q => sx_ck c_Swap_isInstruction q) = true := by decide +kernel
theorem kx_Swap_isInstruction_4 : (x_Swap_isInstruction_4.all fun e => e.all fun q => sx_ck c_Swap_isInstruction q) = true := by decide +kernel
theorem kx_Swap_isInstruction : ∀ t ∈ x_Swap_isInstruction, (t.all fun e => e.all fun q => sx_ck c_Swap_isInstruction q) = true := by
  show ∀ t ∈ [x_Swap_isInstruction_0, x_Swap_isInstruction_1, x_Swap_isInstruction_2, x_Swap_isInstruction_3, x_Swap_isInstruction_4], _
  exact List.forall_mem_cons.mpr ⟨kx_Swap_isInstruction_0, List.forall_mem_cons.mpr ⟨kx_Swap_isInstruction_1, List.forall_mem_cons.mpr ⟨kx_Swap_isInstruction_2, List.forall_mem_cons.mpr ⟨kx_Swap_isInstruction_3, List.forall_mem_cons.mpr ⟨kx_Swap_isInstruction_4, fun _ h => absurd h List.not_mem_nil⟩⟩⟩⟩⟩
theorem kx_Version_append_0 : (x_Version_append_0.all fun e => e.all fun q => sx_ck c_Version_append q) = true := by decide +kernel
theorem kx_Version_append_1 : (x_Version_append_1.all fun e => e.all fun q => sx_ck c_Version_append q) = true := by decide +kernel
theorem kx_Version_append : ∀ t ∈ x_Version_append, (t.all fun e => e.all fun q => sx_ck c_Version_append q) = true := by
  show ∀ t ∈ [x_Version_append_0, x_Version_append_1], _
  exact List.forall_mem_cons.mpr ⟨kx_Version_append_0, List.forall_mem_cons.mpr ⟨kx_Version_append_1, fun _ h => absurd h List.not_mem_nil⟩⟩
theorem kx_Swap_isKind_0 : (x_Swap_isKind_0.all fun e => e.all fun q => sx_ck c_Swap_isKind q) = true := by decide +kernel
theorem kx_Swap_isKind : ∀ t ∈ x_Swap_isKind, (t.all fun e => e.all fun q => sx_ck c_Swap_isKind q) = true := by
  show ∀ t ∈ [x_Swap_isKind_0], _
  exact List.forall_mem_cons.mpr ⟨kx_Swap_isKind_0, fun _ h => absurd h List.not_mem_nil⟩
theorem kx_Swap_latest_0 : (x_Swap_latest_0.all fun e => e.all fun q => sx_ck c_Swap_latest q) = true := by decide +kernel
theorem kx_Swap_latest : ∀ t ∈ x_Swap_latest, (t.all fun e => e.all fun q => sx_ck c_Swap_latest q) = true := by
  show ∀ t ∈ [x_Swap_latest_0], _
  exact List.forall_mem_cons.mpr ⟨kx_Swap_latest_0, fun _ h => absurd h List.not_mem_nil⟩
theorem kx_Version_countMapped_0 : (x_Version_countMapped_0.all fun e => e.all fun q => sx_ck c_Version_countMapped q) = true := by decide +kernel
theorem kx_Version_countMapped : ∀ t ∈ x_Version_countMapped, (t.all fun e => e.all fun q => sx_ck c_Version_countMapped q) = true := by
  show ∀ t ∈ [x_Version_countMapped_0], _
  exact List.forall_mem_cons.mpr ⟨kx_Version_countMapped_0, fun _ h => absurd h List.not_mem_nil⟩
theorem kx_Version_close_0 : (x_Version_close_0.all fun e => e.all fun q => sx_ck c_Version_close q) = true := by decide +kernel
theorem kx_Version_close_1 : (x_Version_close_1.all fun e => e.all fun q => sx_ck c_Version_close q) = true := by decide +kernel
theorem kx_Version_close : ∀ t ∈ x_Version_close, (t.all fun e => e.all fun q => sx_ck c_Version_close q) = true := by
  show ∀ t ∈ [x_Version_close_0, x_Version_close_1], _
  exact List.forall_mem_cons.mpr ⟨kx_Version_close_0, List.forall_mem_cons.mpr ⟨kx_Version_close_1, fun _ h => absurd h List.not_mem_nil⟩⟩
theorem kx_Swap_isThread_0 : (x_Swap_isThread_0.all fun e => e.all fun q => sx_ck c_Swap_isThread q) = true := by decide +kernel
theorem kx_Swap_isThread : ∀ t ∈ x_Swap_isThread, (t.all fun e => e.all fun q => sx_ck c_Swap_isThread q) = true := by
  show ∀ t ∈ [x_Swap_isThread_0], _
  exact List.forall_mem_cons.mpr ⟨kx_Swap_isThread_0, fun _ h => absurd h List.not_mem_nil⟩
theorem kx_Task_isAlive_0 : (x_Task_isAlive_0.all fun e => e.all fun q => sx_ck c_Task_isAlive q) = true := by decide +kernel
theorem kx_Task_isAlive : ∀ t ∈ x_Task_isAlive, (t.all fun e => e.all fun q => sx_ck c_Task_isAlive q) = true := by
  show ∀ t ∈ [x_Task_isAlive_0], _
  exact List.forall_mem_cons.mpr ⟨kx_Task_isAlive_0, fun _ h => absurd h List.not_mem_nil⟩
theorem kx_Task_open_0 : (x_Task_open_0.all fun e => e.all fun q => sx_ck c_Task_open q) = true := by decide +kernel
theorem kx_Task_open : ∀ t ∈ x_Task_open, (t.all fun e => e.all fun q => sx_ck c_Task_open q) = true := by
  show ∀ t ∈ [x_Task_open_0], _
  exact List.forall_mem_cons.mpr ⟨kx_Task_open_0, fun _ h => absurd h List.not_mem_nil⟩
theorem kx_Swap_settleQueue_0 : (x_Swap_settleQueue_0.all fun e => e.all fun q => sx_ck c_Swap_settleQueue q) = true := by decide +kernel
theorem kx_Swap_settleQueue_1 : (x_Swap_settleQueue_1.all fun e => e.all fun q => sx_ck c_Swap_settleQueue q) = true := by decide +kernel
theorem kx_Swap_settleQueue : ∀ t ∈ x_Swap_settleQueue, (t.all fun e => e.all fun q => sx_ck c_Swap_settleQueue q) = true := by
  show ∀ t ∈ [x_Swap_settleQueue_0, x_Swap_settleQueue_1], _
  exact List.forall_mem_cons.mpr ⟨kx_Swap_settleQueue_0, List.forall_mem_cons.mpr ⟨kx_Swap_settleQueue_1, fun _ h => absurd h List.not_mem_nil⟩⟩
theorem kx_Swap_makeStep_0 : (x_Swap_makeStep_0.all fun e => e.all fun q => sx_ck c_Swap_makeStep q) = true := by decide +kernel
theorem kx_Swap_makeStep : ∀ t ∈ x_Swap_makeStep, (t.all fun e => e.all fun q => sx_ck c_Swap_makeStep q) = true := by
  show ∀ t ∈ [x_Swap_makeStep_0], _
  exact List.forall_mem_cons.mpr ⟨kx_Swap_makeStep_0, fun _ h => absurd h List.not_mem_nil⟩
theorem kx_Swap_isLocal_0 : (x_Swap_isLocal_0.all fun e => e.all fun q => sx_ck c_Swap_isLocal q) = true := by decide +kernel
theorem kx_Swap_isLocal : ∀ t ∈ x_Swap_isLocal, (t.all fun e => e.all fun q => sx_ck c_Swap_isLocal q) = true := by
  show ∀ t ∈ [x_Swap_isLocal_0], _
  exact List.forall_mem_cons.mpr ⟨kx_Swap_isLocal_0, fun _ h => absurd h List.not_mem_nil⟩
theorem kx_Change_new_0 : (x_Change_new_0.all fun e => e.all fun q => sx_ck c_Change_new q) = true := by decide +kernel
theorem kx_Change_new : ∀ t ∈ x_Change_new, (t.all fun e => e.all fun q => sx_ck c_Change_new q) = true := by
  show ∀ t ∈ [x_Change_new_0], _
  exact List.forall_mem_cons.mpr ⟨kx_Change_new_0, fun _ h => absurd h List.not_mem_nil⟩
theorem kx_Swap_targetOf_0 : (x_Swap_targetOf_0.all fun e => e.all fun q => sx_ck c_Swap_targetOf q) = true := by decide +kernel
theorem kx_Swap_targetOf : ∀ t ∈ x_Swap_targetOf, (t.all fun e => e.all fun q => sx_ck c_Swap_targetOf q) = true := by
  show ∀ t ∈ [x_Swap_targetOf_0], _
  exact List.forall_mem_cons.mpr ⟨kx_Swap_targetOf_0, fun _ h => absurd h List.not_mem_nil⟩
theorem kx_Swap_countAgainst_0 : (x_Swap_countAgainst_0.all fun e => e.all fun q => sx_ck c_Swap_countAgainst q) = true := by decide +kernel
theorem kx_Swap_countAgainst_1 : (x_Swap_countAgainst_1.all fun e => e.all fun q => sx_ck c_Swap_countAgainst q) = true := by decide +kernel
theorem kx_Swap_countAgainst : ∀ t ∈ x_Swap_countAgainst, (t.all fun e => e.all fun q => sx_ck c_Swap_countAgainst q) = true := by
  show ∀ t ∈ [x_Swap_countAgainst_0, x_Swap_countAgainst_1], _
  exact List.forall_mem_cons.mpr ⟨kx_Swap_countAgainst_0, List.forall_mem_cons.mpr ⟨kx_Swap_countAgainst_1, fun _ h => absurd h List.not_mem_nil⟩⟩
theorem kx_Swap_isObject_0 : (x_Swap_isObject_0.all fun e => e.all fun q => sx_ck c_Swap_isObject q) = true := by decide +kernel
theorem kx_Swap_isObject : ∀ t ∈ x_Swap_isObject, (t.all fun e => e.all fun q => sx_ck c_Swap_isObject q) = true := by
  show ∀ t ∈ [x_Swap_isObject_0], _
  exact List.forall_mem_cons.mpr ⟨kx_Swap_isObject_0, fun _ h => absurd h List.not_mem_nil⟩
theorem kx_Swap_hasField_0 : (x_Swap_hasField_0.all fun e => e.all fun q => sx_ck c_Swap_hasField q) = true := by decide +kernel
theorem kx_Swap_hasField : ∀ t ∈ x_Swap_hasField, (t.all fun e => e.all fun q => sx_ck c_Swap_hasField q) = true := by
  show ∀ t ∈ [x_Swap_hasField_0], _
  exact List.forall_mem_cons.mpr ⟨kx_Swap_hasField_0, fun _ h => absurd h List.not_mem_nil⟩
theorem kx_Swap_carryRow_0 : (x_Swap_carryRow_0.all fun e => e.all fun q => sx_ck c_Swap_carryRow q) = true := by decide +kernel
theorem kx_Swap_carryRow_1 : (x_Swap_carryRow_1.all fun e => e.all fun q => sx_ck c_Swap_carryRow q) = true := by decide +kernel
theorem kx_Swap_carryRow : ∀ t ∈ x_Swap_carryRow, (t.all fun e => e.all fun q => sx_ck c_Swap_carryRow q) = true := by
  show ∀ t ∈ [x_Swap_carryRow_0, x_Swap_carryRow_1], _
  exact List.forall_mem_cons.mpr ⟨kx_Swap_carryRow_0, List.forall_mem_cons.mpr ⟨kx_Swap_carryRow_1, fun _ h => absurd h List.not_mem_nil⟩⟩
theorem kx_Swap_isEntry_0 : (x_Swap_isEntry_0.all fun e => e.all fun q => sx_ck c_Swap_isEntry q) = true := by decide +kernel
theorem kx_Swap_isEntry : ∀ t ∈ x_Swap_isEntry, (t.all fun e => e.all fun q => sx_ck c_Swap_isEntry q) = true := by
  show ∀ t ∈ [x_Swap_isEntry_0], _
  exact List.forall_mem_cons.mpr ⟨kx_Swap_isEntry_0, fun _ h => absurd h List.not_mem_nil⟩
theorem kx_Carry_reset_0 : (x_Carry_reset_0.all fun e => e.all fun q => sx_ck c_Carry_reset q) = true := by decide +kernel
theorem kx_Carry_reset : ∀ t ∈ x_Carry_reset, (t.all fun e => e.all fun q => sx_ck c_Carry_reset q) = true := by
  show ∀ t ∈ [x_Carry_reset_0], _
  exact List.forall_mem_cons.mpr ⟨kx_Carry_reset_0, fun _ h => absurd h List.not_mem_nil⟩
theorem kx_Swap_isKindWithField_0 : (x_Swap_isKindWithField_0.all fun e => e.all fun q => sx_ck c_Swap_isKindWithField q) = true := by decide +kernel
theorem kx_Swap_isKindWithField : ∀ t ∈ x_Swap_isKindWithField, (t.all fun e => e.all fun q => sx_ck c_Swap_isKindWithField q) = true := by
  show ∀ t ∈ [x_Swap_isKindWithField_0], _
  exact List.forall_mem_cons.mpr ⟨kx_Swap_isKindWithField_0, fun _ h => absurd h List.not_mem_nil⟩
theorem kx_Swap_isPlace_0 : (x_Swap_isPlace_0.all fun e => e.all fun q => sx_ck c_Swap_isPlace q) = true := by decide +kernel
theorem kx_Swap_isPlace : ∀ t ∈ x_Swap_isPlace, (t.all fun e => e.all fun q => sx_ck c_Swap_isPlace q) = true := by
  show ∀ t ∈ [x_Swap_isPlace_0], _
  exact List.forall_mem_cons.mpr ⟨kx_Swap_isPlace_0, fun _ h => absurd h List.not_mem_nil⟩
theorem kx_Swap_countMeaningful_0 : (x_Swap_countMeaningful_0.all fun e => e.all fun q => sx_ck c_Swap_countMeaningful q) = true := by decide +kernel
theorem kx_Swap_countMeaningful_1 : (x_Swap_countMeaningful_1.all fun e => e.all fun q => sx_ck c_Swap_countMeaningful q) = true := by decide +kernel
theorem kx_Swap_countMeaningful : ∀ t ∈ x_Swap_countMeaningful, (t.all fun e => e.all fun q => sx_ck c_Swap_countMeaningful q) = true := by
  show ∀ t ∈ [x_Swap_countMeaningful_0, x_Swap_countMeaningful_1], _
  exact List.forall_mem_cons.mpr ⟨kx_Swap_countMeaningful_0, List.forall_mem_cons.mpr ⟨kx_Swap_countMeaningful_1, fun _ h => absurd h List.not_mem_nil⟩⟩
theorem kx_Version_differs_0 : (x_Version_differs_0.all fun e => e.all fun q => sx_ck c_Version_differs q) = true := by decide +kernel
theorem kx_Version_differs_1 : (x_Version_differs_1.all fun e => e.all fun q => sx_ck c_Version_differs q) = true := by decide +kernel
theorem kx_Version_differs : ∀ t ∈ x_Version_differs, (t.all fun e => e.all fun q => sx_ck c_Version_differs q) = true := by
  show ∀ t ∈ [x_Version_differs_0, x_Version_differs_1], _
  exact List.forall_mem_cons.mpr ⟨kx_Version_differs_0, List.forall_mem_cons.mpr ⟨kx_Version_differs_1, fun _ h => absurd h List.not_mem_nil⟩⟩
theorem kx_Task_fail_0 : (x_Task_fail_0.all fun e => e.all fun q => sx_ck c_Task_fail q) = true := by decide +kernel
theorem kx_Task_fail : ∀ t ∈ x_Task_fail, (t.all fun e => e.all fun q => sx_ck c_Task_fail q) = true := by
  show ∀ t ∈ [x_Task_fail_0], _
  exact List.forall_mem_cons.mpr ⟨kx_Task_fail_0, fun _ h => absurd h List.not_mem_nil⟩
theorem kx_Frame_begin_0 : (x_Frame_begin_0.all fun e => e.all fun q => sx_ck c_Frame_begin q) = true := by decide +kernel
theorem kx_Frame_begin : ∀ t ∈ x_Frame_begin, (t.all fun e => e.all fun q => sx_ck c_Frame_begin q) = true := by
  show ∀ t ∈ [x_Frame_begin_0], _
  exact List.forall_mem_cons.mpr ⟨kx_Frame_begin_0, fun _ h => absurd h List.not_mem_nil⟩
theorem kx_Swap_takeEffect_0 : (x_Swap_takeEffect_0.all fun e => e.all fun q => sx_ck c_Swap_takeEffect q) = true := by decide +kernel
theorem kx_Swap_takeEffect_1 : (x_Swap_takeEffect_1.all fun e => e.all fun q => sx_ck c_Swap_takeEffect q) = true := by decide +kernel
theorem kx_Swap_takeEffect : ∀ t ∈ x_Swap_takeEffect, (t.all fun e => e.all fun q => sx_ck c_Swap_takeEffect q) = true := by
  show ∀ t ∈ [x_Swap_takeEffect_0, x_Swap_takeEffect_1], _
  exact List.forall_mem_cons.mpr ⟨kx_Swap_takeEffect_0, List.forall_mem_cons.mpr ⟨kx_Swap_takeEffect_1, fun _ h => absurd h List.not_mem_nil⟩⟩
theorem kx_Swap_runInstruction_0 : (x_Swap_runInstruction_0.all fun e => e.all fun q => sx_ck c_Swap_runInstruction q) = true := by decide +kernel
theorem kx_Swap_runInstruction_1 : (x_Swap_runInstruction_1.all fun e => e.all fun q => sx_ck c_Swap_runInstruction q) = true := by decide +kernel
theorem kx_Swap_runInstruction_2 : (x_Swap_runInstruction_2.all fun e => e.all fun q => sx_ck c_Swap_runInstruction q) = true := by decide +kernel
theorem kx_Swap_runInstruction_3 : (x_Swap_runInstruction_3.all fun e => e.all fun q => sx_ck c_Swap_runInstruction q) = true := by decide +kernel
theorem kx_Swap_runInstruction_4 : (x_Swap_runInstruction_4.all fun e => e.all fun q => sx_ck c_Swap_runInstruction q) = true := by decide +kernel
theorem kx_Swap_runInstruction_5 : (x_Swap_runInstruction_5.all fun e => e.all fun q => sx_ck c_Swap_runInstruction q) = true := by decide +kernel
theorem kx_Swap_runInstruction : ∀ t ∈ x_Swap_runInstruction, (t.all fun e => e.all fun q => sx_ck c_Swap_runInstruction q) = true := by
  show ∀ t ∈ [x_Swap_runInstruction_0, x_Swap_runInstruction_1, x_Swap_runInstruction_2, x_Swap_runInstruction_3, x_Swap_runInstruction_4, x_Swap_runInstruction_5], _
  exact List.forall_mem_cons.mpr ⟨kx_Swap_runInstruction_0, List.forall_mem_cons.mpr ⟨kx_Swap_runInstruction_1, List.forall_mem_cons.mpr ⟨kx_Swap_runInstruction_2, List.forall_mem_cons.mpr ⟨kx_Swap_runInstruction_3, List.forall_mem_cons.mpr ⟨kx_Swap_runInstruction_4, List.forall_mem_cons.mpr ⟨kx_Swap_runInstruction_5, fun _ h => absurd h List.not_mem_nil⟩⟩⟩⟩⟩⟩
theorem kx_Swap_giveUp_0 : (x_Swap_giveUp_0.all fun e => e.all fun q => sx_ck c_Swap_giveUp q) = true := by decide +kernel
theorem kx_Swap_giveUp_1 : (x_Swap_giveUp_1.all fun e => e.all fun q => sx_ck c_Swap_giveUp q) = true := by decide +kernel
theorem kx_Swap_giveUp : ∀ t ∈ x_Swap_giveUp, (t.all fun e => e.all fun q => sx_ck c_Swap_giveUp q) = true := by
  show ∀ t ∈ [x_Swap_giveUp_0, x_Swap_giveUp_1], _
  exact List.forall_mem_cons.mpr ⟨kx_Swap_giveUp_0, List.forall_mem_cons.mpr ⟨kx_Swap_giveUp_1, fun _ h => absurd h List.not_mem_nil⟩⟩
theorem kx_Swap_placeIn_0 : (x_Swap_placeIn_0.all fun e => e.all fun q => sx_ck c_Swap_placeIn q) = true := by decide +kernel
theorem kx_Swap_placeIn_1 : (x_Swap_placeIn_1.all fun e => e.all fun q => sx_ck c_Swap_placeIn q) = true := by decide +kernel
theorem kx_Swap_placeIn : ∀ t ∈ x_Swap_placeIn, (t.all fun e => e.all fun q => sx_ck c_Swap_placeIn q) = true := by
  show ∀ t ∈ [x_Swap_placeIn_0, x_Swap_placeIn_1], _
  exact List.forall_mem_cons.mpr ⟨kx_Swap_placeIn_0, List.forall_mem_cons.mpr ⟨kx_Swap_placeIn_1, fun _ h => absurd h List.not_mem_nil⟩⟩
theorem kx_Carry_apply_0 : (x_Carry_apply_0.all fun e => e.all fun q => sx_ck c_Carry_apply q) = true := by decide +kernel
theorem kx_Carry_apply : ∀ t ∈ x_Carry_apply, (t.all fun e => e.all fun q => sx_ck c_Carry_apply q) = true := by
  show ∀ t ∈ [x_Carry_apply_0], _
  exact List.forall_mem_cons.mpr ⟨kx_Carry_apply_0, fun _ h => absurd h List.not_mem_nil⟩
theorem kx_Version_usesChangedKind_0 : (x_Version_usesChangedKind_0.all fun e => e.all fun q => sx_ck c_Version_usesChangedKind q) = true := by decide +kernel
theorem kx_Version_usesChangedKind : ∀ t ∈ x_Version_usesChangedKind, (t.all fun e => e.all fun q => sx_ck c_Version_usesChangedKind q) = true := by
  show ∀ t ∈ [x_Version_usesChangedKind_0], _
  exact List.forall_mem_cons.mpr ⟨kx_Version_usesChangedKind_0, fun _ h => absurd h List.not_mem_nil⟩
theorem kx_Swap_moveFrames_0 : (x_Swap_moveFrames_0.all fun e => e.all fun q => sx_ck c_Swap_moveFrames q) = true := by decide +kernel
theorem kx_Swap_moveFrames_1 : (x_Swap_moveFrames_1.all fun e => e.all fun q => sx_ck c_Swap_moveFrames q) = true := by decide +kernel
theorem kx_Swap_moveFrames : ∀ t ∈ x_Swap_moveFrames, (t.all fun e => e.all fun q => sx_ck c_Swap_moveFrames q) = true := by
  show ∀ t ∈ [x_Swap_moveFrames_0, x_Swap_moveFrames_1], _
  exact List.forall_mem_cons.mpr ⟨kx_Swap_moveFrames_0, List.forall_mem_cons.mpr ⟨kx_Swap_moveFrames_1, fun _ h => absurd h List.not_mem_nil⟩⟩
theorem kx_Swap_carryItem_0 : (x_Swap_carryItem_0.all fun e => e.all fun q => sx_ck c_Swap_carryItem q) = true := by decide +kernel
theorem kx_Swap_carryItem : ∀ t ∈ x_Swap_carryItem, (t.all fun e => e.all fun q => sx_ck c_Swap_carryItem q) = true := by
  show ∀ t ∈ [x_Swap_carryItem_0], _
  exact List.forall_mem_cons.mpr ⟨kx_Swap_carryItem_0, fun _ h => absurd h List.not_mem_nil⟩
theorem kx_Task_giveBack_0 : (x_Task_giveBack_0.all fun e => e.all fun q => sx_ck c_Task_giveBack q) = true := by decide +kernel
theorem kx_Task_giveBack : ∀ t ∈ x_Task_giveBack, (t.all fun e => e.all fun q => sx_ck c_Task_giveBack q) = true := by
  show ∀ t ∈ [x_Task_giveBack_0], _
  exact List.forall_mem_cons.mpr ⟨kx_Task_giveBack_0, fun _ h => absurd h List.not_mem_nil⟩
theorem kx_Swap_makeObject_0 : (x_Swap_makeObject_0.all fun e => e.all fun q => sx_ck c_Swap_makeObject q) = true := by decide +kernel
theorem kx_Swap_makeObject : ∀ t ∈ x_Swap_makeObject, (t.all fun e => e.all fun q => sx_ck c_Swap_makeObject q) = true := by
  show ∀ t ∈ [x_Swap_makeObject_0], _
  exact List.forall_mem_cons.mpr ⟨kx_Swap_makeObject_0, fun _ h => absurd h List.not_mem_nil⟩
theorem kx_Swap_useField_0 : (x_Swap_useField_0.all fun e => e.all fun q => sx_ck c_Swap_useField q) = true := by decide +kernel
theorem kx_Swap_useField_1 : (x_Swap_useField_1.all fun e => e.all fun q => sx_ck c_Swap_useField q) = true := by decide +kernel
theorem kx_Swap_useField_2 : (x_Swap_useField_2.all fun e => e.all fun q => sx_ck c_Swap_useField q) = true := by decide +kernel
theorem kx_Swap_useField : ∀ t ∈ x_Swap_useField, (t.all fun e => e.all fun q => sx_ck c_Swap_useField q) = true := by
  show ∀ t ∈ [x_Swap_useField_0, x_Swap_useField_1, x_Swap_useField_2], _
  exact List.forall_mem_cons.mpr ⟨kx_Swap_useField_0, List.forall_mem_cons.mpr ⟨kx_Swap_useField_1, List.forall_mem_cons.mpr ⟨kx_Swap_useField_2, fun _ h => absurd h List.not_mem_nil⟩⟩⟩
theorem kx_Swap_putOut_0 : (x_Swap_putOut_0.all fun e => e.all fun q => sx_ck c_Swap_putOut q) = true := by decide +kernel
theorem kx_Swap_putOut_1 : (x_Swap_putOut_1.all fun e => e.all fun q => sx_ck c_Swap_putOut q) = true := by decide +kernel
theorem kx_Swap_putOut : ∀ t ∈ x_Swap_putOut, (t.all fun e => e.all fun q => sx_ck c_Swap_putOut q) = true := by
  show ∀ t ∈ [x_Swap_putOut_0, x_Swap_putOut_1], _
  exact List.forall_mem_cons.mpr ⟨kx_Swap_putOut_0, List.forall_mem_cons.mpr ⟨kx_Swap_putOut_1, fun _ h => absurd h List.not_mem_nil⟩⟩
theorem kx_Version_placeAfter_0 : (x_Version_placeAfter_0.all fun e => e.all fun q => sx_ck c_Version_placeAfter q) = true := by decide +kernel
theorem kx_Version_placeAfter : ∀ t ∈ x_Version_placeAfter, (t.all fun e => e.all fun q => sx_ck c_Version_placeAfter q) = true := by
  show ∀ t ∈ [x_Version_placeAfter_0], _
  exact List.forall_mem_cons.mpr ⟨kx_Version_placeAfter_0, fun _ h => absurd h List.not_mem_nil⟩
theorem kx_Version_placeBefore_0 : (x_Version_placeBefore_0.all fun e => e.all fun q => sx_ck c_Version_placeBefore q) = true := by decide +kernel
theorem kx_Version_placeBefore : ∀ t ∈ x_Version_placeBefore, (t.all fun e => e.all fun q => sx_ck c_Version_placeBefore q) = true := by
  show ∀ t ∈ [x_Version_placeBefore_0], _
  exact List.forall_mem_cons.mpr ⟨kx_Version_placeBefore_0, fun _ h => absurd h List.not_mem_nil⟩
theorem kx_Version_kindUsed_0 : (x_Version_kindUsed_0.all fun e => e.all fun q => sx_ck c_Version_kindUsed q) = true := by decide +kernel
theorem kx_Version_kindUsed : ∀ t ∈ x_Version_kindUsed, (t.all fun e => e.all fun q => sx_ck c_Version_kindUsed q) = true := by
  show ∀ t ∈ [x_Version_kindUsed_0], _
  exact List.forall_mem_cons.mpr ⟨kx_Version_kindUsed_0, fun _ h => absurd h List.not_mem_nil⟩
theorem kx_Item_new_0 : (x_Item_new_0.all fun e => e.all fun q => sx_ck c_Item_new q) = true := by decide +kernel
theorem kx_Item_new : ∀ t ∈ x_Item_new, (t.all fun e => e.all fun q => sx_ck c_Item_new q) = true := by
  show ∀ t ∈ [x_Item_new_0], _
  exact List.forall_mem_cons.mpr ⟨kx_Item_new_0, fun _ h => absurd h List.not_mem_nil⟩
theorem kx_Output_keep_0 : (x_Output_keep_0.all fun e => e.all fun q => sx_ck c_Output_keep q) = true := by decide +kernel
theorem kx_Output_keep_1 : (x_Output_keep_1.all fun e => e.all fun q => sx_ck c_Output_keep q) = true := by decide +kernel
theorem kx_Output_keep : ∀ t ∈ x_Output_keep, (t.all fun e => e.all fun q => sx_ck c_Output_keep q) = true := by
  show ∀ t ∈ [x_Output_keep_0, x_Output_keep_1], _
  exact List.forall_mem_cons.mpr ⟨kx_Output_keep_0, List.forall_mem_cons.mpr ⟨kx_Output_keep_1, fun _ h => absurd h List.not_mem_nil⟩⟩
theorem kx_ArrayList_new_0 : (x_ArrayList_new_0.all fun e => e.all fun q => sx_ck c_ArrayList_new q) = true := by decide +kernel
theorem kx_ArrayList_new : ∀ t ∈ x_ArrayList_new, (t.all fun e => e.all fun q => sx_ck c_ArrayList_new q) = true := by
  show ∀ t ∈ [x_ArrayList_new_0], _
  exact List.forall_mem_cons.mpr ⟨kx_ArrayList_new_0, fun _ h => absurd h List.not_mem_nil⟩
theorem kx_ArrayList_add_0 : (x_ArrayList_add_0.all fun e => e.all fun q => sx_ck c_ArrayList_add q) = true := by decide +kernel
theorem kx_ArrayList_add : ∀ t ∈ x_ArrayList_add, (t.all fun e => e.all fun q => sx_ck c_ArrayList_add q) = true := by
  show ∀ t ∈ [x_ArrayList_add_0], _
  exact List.forall_mem_cons.mpr ⟨kx_ArrayList_add_0, fun _ h => absurd h List.not_mem_nil⟩
theorem kx_ArrayList_size_0 : (x_ArrayList_size_0.all fun e => e.all fun q => sx_ck c_ArrayList_size q) = true := by decide +kernel
theorem kx_ArrayList_size : ∀ t ∈ x_ArrayList_size, (t.all fun e => e.all fun q => sx_ck c_ArrayList_size q) = true := by
  show ∀ t ∈ [x_ArrayList_size_0], _
  exact List.forall_mem_cons.mpr ⟨kx_ArrayList_size_0, fun _ h => absurd h List.not_mem_nil⟩
theorem kx_AbstractList_new_0 : (x_AbstractList_new_0.all fun e => e.all fun q => sx_ck c_AbstractList_new q) = true := by decide +kernel
theorem kx_AbstractList_new : ∀ t ∈ x_AbstractList_new, (t.all fun e => e.all fun q => sx_ck c_AbstractList_new q) = true := by
  show ∀ t ∈ [x_AbstractList_new_0], _
  exact List.forall_mem_cons.mpr ⟨kx_AbstractList_new_0, fun _ h => absurd h List.not_mem_nil⟩
theorem kx_Arrays_fill_0 : (x_Arrays_fill_0.all fun e => e.all fun q => sx_ck c_Arrays_fill q) = true := by decide +kernel
theorem kx_Arrays_fill : ∀ t ∈ x_Arrays_fill, (t.all fun e => e.all fun q => sx_ck c_Arrays_fill q) = true := by
  show ∀ t ∈ [x_Arrays_fill_0], _
  exact List.forall_mem_cons.mpr ⟨kx_Arrays_fill_0, fun _ h => absurd h List.not_mem_nil⟩
theorem kx_ArrayList_add2_0 : (x_ArrayList_add2_0.all fun e => e.all fun q => sx_ck c_ArrayList_add2 q) = true := by decide +kernel
theorem kx_ArrayList_add2 : ∀ t ∈ x_ArrayList_add2, (t.all fun e => e.all fun q => sx_ck c_ArrayList_add2 q) = true := by
  show ∀ t ∈ [x_ArrayList_add2_0], _
  exact List.forall_mem_cons.mpr ⟨kx_ArrayList_add2_0, fun _ h => absurd h List.not_mem_nil⟩
theorem kx_ArrayList_get_0 : (x_ArrayList_get_0.all fun e => e.all fun q => sx_ck c_ArrayList_get q) = true := by decide +kernel
theorem kx_ArrayList_get : ∀ t ∈ x_ArrayList_get, (t.all fun e => e.all fun q => sx_ck c_ArrayList_get q) = true := by
  show ∀ t ∈ [x_ArrayList_get_0], _
  exact List.forall_mem_cons.mpr ⟨kx_ArrayList_get_0, fun _ h => absurd h List.not_mem_nil⟩
theorem kx_ArrayList_isEmpty_0 : (x_ArrayList_isEmpty_0.all fun e => e.all fun q => sx_ck c_ArrayList_isEmpty q) = true := by decide +kernel
theorem kx_ArrayList_isEmpty : ∀ t ∈ x_ArrayList_isEmpty, (t.all fun e => e.all fun q => sx_ck c_ArrayList_isEmpty q) = true := by
  show ∀ t ∈ [x_ArrayList_isEmpty_0], _
  exact List.forall_mem_cons.mpr ⟨kx_ArrayList_isEmpty_0, fun _ h => absurd h List.not_mem_nil⟩
theorem kx_AbstractCollection_new_0 : (x_AbstractCollection_new_0.all fun e => e.all fun q => sx_ck c_AbstractCollection_new q) = true := by decide +kernel
theorem kx_AbstractCollection_new : ∀ t ∈ x_AbstractCollection_new, (t.all fun e => e.all fun q => sx_ck c_AbstractCollection_new q) = true := by
  show ∀ t ∈ [x_AbstractCollection_new_0], _
  exact List.forall_mem_cons.mpr ⟨kx_AbstractCollection_new_0, fun _ h => absurd h List.not_mem_nil⟩
theorem kx_ArrayList_grow_0 : (x_ArrayList_grow_0.all fun e => e.all fun q => sx_ck c_ArrayList_grow q) = true := by decide +kernel
theorem kx_ArrayList_grow : ∀ t ∈ x_ArrayList_grow, (t.all fun e => e.all fun q => sx_ck c_ArrayList_grow q) = true := by
  show ∀ t ∈ [x_ArrayList_grow_0], _
  exact List.forall_mem_cons.mpr ⟨kx_ArrayList_grow_0, fun _ h => absurd h List.not_mem_nil⟩
theorem kx_ArrayList_remove_0 : (x_ArrayList_remove_0.all fun e => e.all fun q => sx_ck c_ArrayList_remove q) = true := by decide +kernel
theorem kx_ArrayList_remove : ∀ t ∈ x_ArrayList_remove, (t.all fun e => e.all fun q => sx_ck c_ArrayList_remove q) = true := by
  show ∀ t ∈ [x_ArrayList_remove_0], _
  exact List.forall_mem_cons.mpr ⟨kx_ArrayList_remove_0, fun _ h => absurd h List.not_mem_nil⟩
theorem kx_Objects_checkIndex_0 : (x_Objects_checkIndex_0.all fun e => e.all fun q => sx_ck c_Objects_checkIndex q) = true := by decide +kernel
theorem kx_Objects_checkIndex : ∀ t ∈ x_Objects_checkIndex, (t.all fun e => e.all fun q => sx_ck c_Objects_checkIndex q) = true := by
  show ∀ t ∈ [x_Objects_checkIndex_0], _
  exact List.forall_mem_cons.mpr ⟨kx_Objects_checkIndex_0, fun _ h => absurd h List.not_mem_nil⟩
theorem kx_ArrayList_elementData_0 : (x_ArrayList_elementData_0.all fun e => e.all fun q => sx_ck c_ArrayList_elementData q) = true := by decide +kernel
theorem kx_ArrayList_elementData : ∀ t ∈ x_ArrayList_elementData, (t.all fun e => e.all fun q => sx_ck c_ArrayList_elementData q) = true := by
  show ∀ t ∈ [x_ArrayList_elementData_0], _
  exact List.forall_mem_cons.mpr ⟨kx_ArrayList_elementData_0, fun _ h => absurd h List.not_mem_nil⟩
theorem kx_ArrayList_grow2_0 : (x_ArrayList_grow2_0.all fun e => e.all fun q => sx_ck c_ArrayList_grow2 q) = true := by decide +kernel
theorem kx_ArrayList_grow2 : ∀ t ∈ x_ArrayList_grow2, (t.all fun e => e.all fun q => sx_ck c_ArrayList_grow2 q) = true := by
  show ∀ t ∈ [x_ArrayList_grow2_0], _
  exact List.forall_mem_cons.mpr ⟨kx_ArrayList_grow2_0, fun _ h => absurd h List.not_mem_nil⟩
theorem kx_ArrayList_fastRemove_0 : (x_ArrayList_fastRemove_0.all fun e => e.all fun q => sx_ck c_ArrayList_fastRemove q) = true := by decide +kernel
theorem kx_ArrayList_fastRemove : ∀ t ∈ x_ArrayList_fastRemove, (t.all fun e => e.all fun q => sx_ck c_ArrayList_fastRemove q) = true := by
  show ∀ t ∈ [x_ArrayList_fastRemove_0], _
  exact List.forall_mem_cons.mpr ⟨kx_ArrayList_fastRemove_0, fun _ h => absurd h List.not_mem_nil⟩
theorem kx_Preconditions_checkIndex_0 : (x_Preconditions_checkIndex_0.all fun e => e.all fun q => sx_ck c_Preconditions_checkIndex q) = true := by decide +kernel
theorem kx_Preconditions_checkIndex : ∀ t ∈ x_Preconditions_checkIndex, (t.all fun e => e.all fun q => sx_ck c_Preconditions_checkIndex q) = true := by
  show ∀ t ∈ [x_Preconditions_checkIndex_0], _
  exact List.forall_mem_cons.mpr ⟨kx_Preconditions_checkIndex_0, fun _ h => absurd h List.not_mem_nil⟩
theorem kx_ArraysSupport_newLength_0 : (x_ArraysSupport_newLength_0.all fun e => e.all fun q => sx_ck c_ArraysSupport_newLength q) = true := by decide +kernel
theorem kx_ArraysSupport_newLength : ∀ t ∈ x_ArraysSupport_newLength, (t.all fun e => e.all fun q => sx_ck c_ArraysSupport_newLength q) = true := by
  show ∀ t ∈ [x_ArraysSupport_newLength_0], _
  exact List.forall_mem_cons.mpr ⟨kx_ArraysSupport_newLength_0, fun _ h => absurd h List.not_mem_nil⟩
theorem kx_Arrays_copyOf_0 : (x_Arrays_copyOf_0.all fun e => e.all fun q => sx_ck c_Arrays_copyOf q) = true := by decide +kernel
theorem kx_Arrays_copyOf : ∀ t ∈ x_Arrays_copyOf, (t.all fun e => e.all fun q => sx_ck c_Arrays_copyOf q) = true := by
  show ∀ t ∈ [x_Arrays_copyOf_0], _
  exact List.forall_mem_cons.mpr ⟨kx_Arrays_copyOf_0, fun _ h => absurd h List.not_mem_nil⟩
theorem kx_ArrayList_add3_0 : (x_ArrayList_add3_0.all fun e => e.all fun q => sx_ck c_ArrayList_add3 q) = true := by decide +kernel
theorem kx_ArrayList_add3_1 : (x_ArrayList_add3_1.all fun e => e.all fun q => sx_ck c_ArrayList_add3 q) = true := by decide +kernel
theorem kx_ArrayList_add3 : ∀ t ∈ x_ArrayList_add3, (t.all fun e => e.all fun q => sx_ck c_ArrayList_add3 q) = true := by
  show ∀ t ∈ [x_ArrayList_add3_0, x_ArrayList_add3_1], _
  exact List.forall_mem_cons.mpr ⟨kx_ArrayList_add3_0, List.forall_mem_cons.mpr ⟨kx_ArrayList_add3_1, fun _ h => absurd h List.not_mem_nil⟩⟩
theorem kx_Arrays_copyOf2_0 : (x_Arrays_copyOf2_0.all fun e => e.all fun q => sx_ck c_Arrays_copyOf2 q) = true := by decide +kernel
theorem kx_Arrays_copyOf2 : ∀ t ∈ x_Arrays_copyOf2, (t.all fun e => e.all fun q => sx_ck c_Arrays_copyOf2 q) = true := by
  show ∀ t ∈ [x_Arrays_copyOf2_0], _
  exact List.forall_mem_cons.mpr ⟨kx_Arrays_copyOf2_0, fun _ h => absurd h List.not_mem_nil⟩
theorem kx_Arrays_copyOf3_0 : (x_Arrays_copyOf3_0.all fun e => e.all fun q => sx_ck c_Arrays_copyOf3 q) = true := by decide +kernel
theorem kx_Arrays_copyOf3 : ∀ t ∈ x_Arrays_copyOf3, (t.all fun e => e.all fun q => sx_ck c_Arrays_copyOf3 q) = true := by
  show ∀ t ∈ [x_Arrays_copyOf3_0], _
  exact List.forall_mem_cons.mpr ⟨kx_Arrays_copyOf3_0, fun _ h => absurd h List.not_mem_nil⟩
theorem kx_ArrayList_rangeCheckForAdd_0 : (x_ArrayList_rangeCheckForAdd_0.all fun e => e.all fun q => sx_ck c_ArrayList_rangeCheckForAdd q) = true := by decide +kernel
theorem kx_ArrayList_rangeCheckForAdd : ∀ t ∈ x_ArrayList_rangeCheckForAdd, (t.all fun e => e.all fun q => sx_ck c_ArrayList_rangeCheckForAdd q) = true := by
  show ∀ t ∈ [x_ArrayList_rangeCheckForAdd_0], _
  exact List.forall_mem_cons.mpr ⟨kx_ArrayList_rangeCheckForAdd_0, fun _ h => absurd h List.not_mem_nil⟩
theorem kx_Law_tell_0 : (x_Law_tell_0.all fun e => e.all fun q => sx_ck c_Law_tell q) = true := by decide +kernel
theorem kx_Law_tell_1 : (x_Law_tell_1.all fun e => e.all fun q => sx_ck c_Law_tell q) = true := by decide +kernel
theorem kx_Law_tell_2 : (x_Law_tell_2.all fun e => e.all fun q => sx_ck c_Law_tell q) = true := by decide +kernel
theorem kx_Law_tell_3 : (x_Law_tell_3.all fun e => e.all fun q => sx_ck c_Law_tell q) = true := by decide +kernel
theorem kx_Law_tell_4 : (x_Law_tell_4.all fun e => e.all fun q => sx_ck c_Law_tell q) = true := by decide +kernel
theorem kx_Law_tell : ∀ t ∈ x_Law_tell, (t.all fun e => e.all fun q => sx_ck c_Law_tell q) = true := by
  show ∀ t ∈ [x_Law_tell_0, x_Law_tell_1, x_Law_tell_2, x_Law_tell_3, x_Law_tell_4], _
  exact List.forall_mem_cons.mpr ⟨kx_Law_tell_0, List.forall_mem_cons.mpr ⟨kx_Law_tell_1, List.forall_mem_cons.mpr ⟨kx_Law_tell_2, List.forall_mem_cons.mpr ⟨kx_Law_tell_3, List.forall_mem_cons.mpr ⟨kx_Law_tell_4, fun _ h => absurd h List.not_mem_nil⟩⟩⟩⟩⟩
theorem kx_Law_figure_0 : (x_Law_figure_0.all fun e => e.all fun q => sx_ck c_Law_figure q) = true := by decide +kernel
theorem kx_Law_figure : ∀ t ∈ x_Law_figure, (t.all fun e => e.all fun q => sx_ck c_Law_figure q) = true := by
  show ∀ t ∈ [x_Law_figure_0], _
  exact List.forall_mem_cons.mpr ⟨kx_Law_figure_0, fun _ h => absurd h List.not_mem_nil⟩
theorem kx_Law_ask_0 : (x_Law_ask_0.all fun e => e.all fun q => sx_ck c_Law_ask q) = true := by decide +kernel
theorem kx_Law_ask_1 : (x_Law_ask_1.all fun e => e.all fun q => sx_ck c_Law_ask q) = true := by decide +kernel
theorem kx_Law_ask_2 : (x_Law_ask_2.all fun e => e.all fun q => sx_ck c_Law_ask q) = true := by decide +kernel
theorem kx_Law_ask_3 : (x_Law_ask_3.all fun e => e.all fun q => sx_ck c_Law_ask q) = true := by decide +kernel
theorem kx_Law_ask : ∀ t ∈ x_Law_ask, (t.all fun e => e.all fun q => sx_ck c_Law_ask q) = true := by
  show ∀ t ∈ [x_Law_ask_0, x_Law_ask_1, x_Law_ask_2, x_Law_ask_3], _
  exact List.forall_mem_cons.mpr ⟨kx_Law_ask_0, List.forall_mem_cons.mpr ⟨kx_Law_ask_1, List.forall_mem_cons.mpr ⟨kx_Law_ask_2, List.forall_mem_cons.mpr ⟨kx_Law_ask_3, fun _ h => absurd h List.not_mem_nil⟩⟩⟩⟩
theorem kx_Law_at_0 : (x_Law_at_0.all fun e => e.all fun q => sx_ck c_Law_at q) = true := by decide +kernel
theorem kx_Law_at : ∀ t ∈ x_Law_at, (t.all fun e => e.all fun q => sx_ck c_Law_at q) = true := by
  show ∀ t ∈ [x_Law_at_0], _
  exact List.forall_mem_cons.mpr ⟨kx_Law_at_0, fun _ h => absurd h List.not_mem_nil⟩
theorem kx_Law_some_0 : (x_Law_some_0.all fun e => e.all fun q => sx_ck c_Law_some q) = true := by decide +kernel
theorem kx_Law_some : ∀ t ∈ x_Law_some, (t.all fun e => e.all fun q => sx_ck c_Law_some q) = true := by
  show ∀ t ∈ [x_Law_some_0], _
  exact List.forall_mem_cons.mpr ⟨kx_Law_some_0, fun _ h => absurd h List.not_mem_nil⟩
theorem kx_Law_carried_0 : (x_Law_carried_0.all fun e => e.all fun q => sx_ck c_Law_carried q) = true := by decide +kernel
theorem kx_Law_carried : ∀ t ∈ x_Law_carried, (t.all fun e => e.all fun q => sx_ck c_Law_carried q) = true := by
  show ∀ t ∈ [x_Law_carried_0], _
  exact List.forall_mem_cons.mpr ⟨kx_Law_carried_0, fun _ h => absurd h List.not_mem_nil⟩
theorem kx_Law_law_0 : (x_Law_law_0.all fun e => e.all fun q => sx_ck c_Law_law q) = true := by decide +kernel
theorem kx_Law_law_1 : (x_Law_law_1.all fun e => e.all fun q => sx_ck c_Law_law q) = true := by decide +kernel
theorem kx_Law_law_2 : (x_Law_law_2.all fun e => e.all fun q => sx_ck c_Law_law q) = true := by decide +kernel
theorem kx_Law_law_3 : (x_Law_law_3.all fun e => e.all fun q => sx_ck c_Law_law q) = true := by decide +kernel
theorem kx_Law_law_4 : (x_Law_law_4.all fun e => e.all fun q => sx_ck c_Law_law q) = true := by decide +kernel
theorem kx_Law_law_5 : (x_Law_law_5.all fun e => e.all fun q => sx_ck c_Law_law q) = true := by decide +kernel
theorem kx_Law_law_6 : (x_Law_law_6.all fun e => e.all fun q => sx_ck c_Law_law q) = true := by decide +kernel
theorem kx_Law_law_7 : (x_Law_law_7.all fun e => e.all fun q => sx_ck c_Law_law q) = true := by decide +kernel
theorem kx_Law_law_8 : (x_Law_law_8.all fun e => e.all fun q => sx_ck c_Law_law q) = true := by decide +kernel
theorem kx_Law_law_9 : (x_Law_law_9.all fun e => e.all fun q => sx_ck c_Law_law q) = true := by decide +kernel
theorem kx_Law_law_10 : (x_Law_law_10.all fun e => e.all fun q => sx_ck c_Law_law q) = true := by decide +kernel
theorem kx_Law_law_11 : (x_Law_law_11.all fun e => e.all fun q => sx_ck c_Law_law q) = true := by decide +kernel
theorem kx_Law_law_12 : (x_Law_law_12.all fun e => e.all fun q => sx_ck c_Law_law q) = true := by decide +kernel
theorem kx_Law_law_13 : (x_Law_law_13.all fun e => e.all fun q => sx_ck c_Law_law q) = true := by decide +kernel
theorem kx_Law_law_14 : (x_Law_law_14.all fun e => e.all fun q => sx_ck c_Law_law q) = true := by decide +kernel
theorem kx_Law_law_15 : (x_Law_law_15.all fun e => e.all fun q => sx_ck c_Law_law q) = true := by decide +kernel
theorem kx_Law_law_16 : (x_Law_law_16.all fun e => e.all fun q => sx_ck c_Law_law q) = true := by decide +kernel
theorem kx_Law_law_17 : (x_Law_law_17.all fun e => e.all fun q => sx_ck c_Law_law q) = true := by decide +kernel
theorem kx_Law_law_18 : (x_Law_law_18.all fun e => e.all fun q => sx_ck c_Law_law q) = true := by decide +kernel
theorem kx_Law_law_19 : (x_Law_law_19.all fun e => e.all fun q => sx_ck c_Law_law q) = true := by decide +kernel
theorem kx_Law_law_20 : (x_Law_law_20.all fun e => e.all fun q => sx_ck c_Law_law q) = true := by decide +kernel
theorem kx_Law_law_21 : (x_Law_law_21.all fun e => e.all fun q => sx_ck c_Law_law q) = true := by decide +kernel
theorem kx_Law_law_22 : (x_Law_law_22.all fun e => e.all fun q => sx_ck c_Law_law q) = true := by decide +kernel
theorem kx_Law_law_23 : (x_Law_law_23.all fun e => e.all fun q => sx_ck c_Law_law q) = true := by decide +kernel
theorem kx_Law_law_24 : (x_Law_law_24.all fun e => e.all fun q => sx_ck c_Law_law q) = true := by decide +kernel
theorem kx_Law_law_25 : (x_Law_law_25.all fun e => e.all fun q => sx_ck c_Law_law q) = true := by decide +kernel
theorem kx_Law_law_26 : (x_Law_law_26.all fun e => e.all fun q => sx_ck c_Law_law q) = true := by decide +kernel
theorem kx_Law_law_27 : (x_Law_law_27.all fun e => e.all fun q => sx_ck c_Law_law q) = true := by decide +kernel
theorem kx_Law_law_28 : (x_Law_law_28.all fun e => e.all fun q => sx_ck c_Law_law q) = true := by decide +kernel
theorem kx_Law_law_29 : (x_Law_law_29.all fun e => e.all fun q => sx_ck c_Law_law q) = true := by decide +kernel
theorem kx_Law_law_30 : (x_Law_law_30.all fun e => e.all fun q => sx_ck c_Law_law q) = true := by decide +kernel
theorem kx_Law_law_31 : (x_Law_law_31.all fun e => e.all fun q => sx_ck c_Law_law q) = true := by decide +kernel
theorem kx_Law_law_32 : (x_Law_law_32.all fun e => e.all fun q => sx_ck c_Law_law q) = true := by decide +kernel
theorem kx_Law_law_33 : (x_Law_law_33.all fun e => e.all fun q => sx_ck c_Law_law q) = true := by decide +kernel
theorem kx_Law_law_34 : (x_Law_law_34.all fun e => e.all fun q => sx_ck c_Law_law q) = true := by decide +kernel
theorem kx_Law_law_35 : (x_Law_law_35.all fun e => e.all fun q => sx_ck c_Law_law q) = true := by decide +kernel
theorem kx_Law_law_36 : (x_Law_law_36.all fun e => e.all fun q => sx_ck c_Law_law q) = true := by decide +kernel
theorem kx_Law_law_37 : (x_Law_law_37.all fun e => e.all fun q => sx_ck c_Law_law q) = true := by decide +kernel
theorem kx_Law_law_38 : (x_Law_law_38.all fun e => e.all fun q => sx_ck c_Law_law q) = true := by decide +kernel
theorem kx_Law_law_39 : (x_Law_law_39.all fun e => e.all fun q => sx_ck c_Law_law q) = true := by decide +kernel
theorem kx_Law_law_40 : (x_Law_law_40.all fun e => e.all fun q => sx_ck c_Law_law q) = true := by decide +kernel
theorem kx_Law_law_41 : (x_Law_law_41.all fun e => e.all fun q => sx_ck c_Law_law q) = true := by decide +kernel
theorem kx_Law_law_42 : (x_Law_law_42.all fun e => e.all fun q => sx_ck c_Law_law q) = true := by decide +kernel
theorem kx_Law_law_43 : (x_Law_law_43.all fun e => e.all fun q => sx_ck c_Law_law q) = true := by decide +kernel
theorem kx_Law_law_44 : (x_Law_law_44.all fun e => e.all fun q => sx_ck c_Law_law q) = true := by decide +kernel
theorem kx_Law_law_45 : (x_Law_law_45.all fun e => e.all fun q => sx_ck c_Law_law q) = true := by decide +kernel
theorem kx_Law_law_46 : (x_Law_law_46.all fun e => e.all fun q => sx_ck c_Law_law q) = true := by decide +kernel
theorem kx_Law_law : ∀ t ∈ x_Law_law, (t.all fun e => e.all fun q => sx_ck c_Law_law q) = true := by
  show ∀ t ∈ [x_Law_law_0, x_Law_law_1, x_Law_law_2, x_Law_law_3, x_Law_law_4, x_Law_law_5, x_Law_law_6, x_Law_law_7, x_Law_law_8, x_Law_law_9, x_Law_law_10, x_Law_law_11, x_Law_law_12, x_Law_law_13, x_Law_law_14, x_Law_law_15, x_Law_law_16, x_Law_law_17, x_Law_law_18, x_Law_law_19, x_Law_law_20, x_Law_law_21, x_Law_law_22, x_Law_law_23, x_Law_law_24, x_Law_law_25, x_Law_law_26, x_Law_law_27, x_Law_law_28, x_Law_law_29, x_Law_law_30, x_Law_law_31, x_Law_law_32, x_Law_law_33, x_Law_law_34, x_Law_law_35, x_Law_law_36, x_Law_law_37, x_Law_law_38, x_Law_law_39, x_Law_law_40, x_Law_law_41, x_Law_law_42, x_Law_law_43, x_Law_law_44, x_Law_law_45, x_Law_law_46], _
  exact List.forall_mem_cons.mpr ⟨kx_Law_law_0, List.forall_mem_cons.mpr ⟨kx_Law_law_1, List.forall_mem_cons.mpr ⟨kx_Law_law_2, List.forall_mem_cons.mpr ⟨kx_Law_law_3, List.forall_mem_cons.mpr ⟨kx_Law_law_4, List.forall_mem_cons.mpr ⟨kx_Law_law_5, List.forall_mem_cons.mpr ⟨kx_Law_law_6, List.forall_mem_cons.mpr ⟨kx_Law_law_7, List.forall_mem_cons.mpr ⟨kx_Law_law_8, List.forall_mem_cons.mpr ⟨kx_Law_law_9, List.forall_mem_cons.mpr ⟨kx_Law_law_10, List.forall_mem_cons.mpr ⟨kx_Law_law_11, List.forall_mem_cons.mpr ⟨kx_Law_law_12, List.forall_mem_cons.mpr ⟨kx_Law_law_13, List.forall_mem_cons.mpr ⟨kx_Law_law_14, List.forall_mem_cons.mpr ⟨kx_Law_law_15, List.forall_mem_cons.mpr ⟨kx_Law_law_16, List.forall_mem_cons.mpr ⟨kx_Law_law_17, List.forall_mem_cons.mpr ⟨kx_Law_law_18, List.forall_mem_cons.mpr ⟨kx_Law_law_19, List.forall_mem_cons.mpr ⟨kx_Law_law_20, List.forall_mem_cons.mpr ⟨kx_Law_law_21, List.forall_mem_cons.mpr ⟨kx_Law_law_22, List.forall_mem_cons.mpr ⟨kx_Law_law_23, List.forall_mem_cons.mpr ⟨kx_Law_law_24, List.forall_mem_cons.mpr ⟨kx_Law_law_25, List.forall_mem_cons.mpr ⟨kx_Law_law_26, List.forall_mem_cons.mpr ⟨kx_Law_law_27, List.forall_mem_cons.mpr ⟨kx_Law_law_28, List.forall_mem_cons.mpr ⟨kx_Law_law_29, List.forall_mem_cons.mpr ⟨kx_Law_law_30, List.forall_mem_cons.mpr ⟨kx_Law_law_31, List.forall_mem_cons.mpr ⟨kx_Law_law_32, List.forall_mem_cons.mpr ⟨kx_Law_law_33, List.forall_mem_cons.mpr ⟨kx_Law_law_34, List.forall_mem_cons.mpr ⟨kx_Law_law_35, List.forall_mem_cons.mpr ⟨kx_Law_law_36, List.forall_mem_cons.mpr ⟨kx_Law_law_37, List.forall_mem_cons.mpr ⟨kx_Law_law_38, List.forall_mem_cons.mpr ⟨kx_Law_law_39, List.forall_mem_cons.mpr ⟨kx_Law_law_40, List.forall_mem_cons.mpr ⟨kx_Law_law_41, List.forall_mem_cons.mpr ⟨kx_Law_law_42, List.forall_mem_cons.mpr ⟨kx_Law_law_43, List.forall_mem_cons.mpr ⟨kx_Law_law_44, List.forall_mem_cons.mpr ⟨kx_Law_law_45, List.forall_mem_cons.mpr ⟨kx_Law_law_46, fun _ h => absurd h List.not_mem_nil⟩⟩⟩⟩⟩⟩⟩⟩⟩⟩⟩⟩⟩⟩⟩⟩⟩⟩⟩⟩⟩⟩⟩⟩⟩⟩⟩⟩⟩⟩⟩⟩⟩⟩⟩⟩⟩⟩⟩⟩⟩⟩⟩⟩⟩⟩⟩
theorem tx_zip : ∀ q ∈ tx_l.zip tb_CLl, ∀ t ∈ q.1, (t.all fun e => e.all fun r => sx_ck q.2 r) = true := by
  show ∀ q ∈ [(([] : List (List (List (Nat × sx_X)))), ([] : List ck_Row)), (([] : List (List (List (Nat × sx_X)))), ([] : List ck_Row)), (x_Swap_new, c_Swap_new), (x_Swap_present, c_Swap_present), (x_Swap_versions, c_Swap_versions), (x_Swap_objects, c_Swap_objects), (x_Swap_queued, c_Swap_queued), (x_Swap_isWatched, c_Swap_isWatched), (x_Swap_steps, c_Swap_steps), (x_Output_new, c_Output_new), (x_Version_new, c_Version_new), (x_Version_new2, c_Version_new2), (x_Task_new, c_Task_new), (x_Swap_add, c_Swap_add), (x_Swap_empty, c_Swap_empty), (x_Swap_setFields, c_Swap_setFields), (x_Swap_setCarry, c_Swap_setCarry), (x_Swap_map, c_Swap_map), (x_Swap_publish, c_Swap_publish), (x_Swap_start, c_Swap_start), (x_Swap_step, c_Swap_step), (x_Swap_release, c_Swap_release), (x_Swap_state, c_Swap_state), (x_Swap_frames, c_Swap_frames), (x_Swap_at, c_Swap_at), (x_Swap_local, c_Swap_local), (x_Swap_meanFrames, c_Swap_meanFrames), (x_Swap_carriedShare, c_Swap_carriedShare), (x_Swap_change, c_Swap_change), (x_Swap_changed, c_Swap_changed), (x_Swap_against, c_Swap_against), (x_Swap_shape, c_Swap_shape), (x_Swap_field, c_Swap_field), (x_Swap_fieldIn, c_Swap_fieldIn), (x_Swap_entry, c_Swap_entry), (x_Swap_putAt, c_Swap_putAt), (x_Swap_putIn, c_Swap_putIn), (x_Swap_isTouched, c_Swap_isTouched), (x_Carry_new, c_Carry_new), (x_Version_resetCarry, c_Version_resetCarry), (x_Frame_new, c_Frame_new), (x_Swap_isFunction, c_Swap_isFunction), (x_Swap_isInstruction, c_Swap_isInstruction), (x_Version_append, c_Version_append), (x_Swap_isKind, c_Swap_isKind), (x_Swap_latest, c_Swap_latest), (x_Version_countMapped, c_Version_countMapped), (x_Version_close, c_Version_close), (x_Swap_isThread, c_Swap_isThread), (x_Task_isAlive, c_Task_isAlive), (x_Task_open, c_Task_open), (x_Swap_settleQueue, c_Swap_settleQueue), (x_Swap_makeStep, c_Swap_makeStep), (x_Swap_isLocal, c_Swap_isLocal), (x_Change_new, c_Change_new), (x_Swap_targetOf, c_Swap_targetOf), (x_Swap_countAgainst, c_Swap_countAgainst), (x_Swap_isObject, c_Swap_isObject), (x_Swap_hasField, c_Swap_hasField), (x_Swap_carryRow, c_Swap_carryRow), (x_Swap_isEntry, c_Swap_isEntry), (x_Carry_reset, c_Carry_reset), (x_Swap_isKindWithField, c_Swap_isKindWithField), (x_Swap_isPlace, c_Swap_isPlace), (x_Swap_countMeaningful, c_Swap_countMeaningful), (x_Version_differs, c_Version_differs), (x_Task_fail, c_Task_fail), (x_Frame_begin, c_Frame_begin), (x_Swap_takeEffect, c_Swap_takeEffect), (x_Swap_runInstruction, c_Swap_runInstruction), (x_Swap_giveUp, c_Swap_giveUp), (x_Swap_placeIn, c_Swap_placeIn), (x_Carry_apply, c_Carry_apply), (x_Version_usesChangedKind, c_Version_usesChangedKind), (x_Swap_moveFrames, c_Swap_moveFrames), (x_Swap_carryItem, c_Swap_carryItem), (x_Task_giveBack, c_Task_giveBack), (x_Swap_makeObject, c_Swap_makeObject), (x_Swap_useField, c_Swap_useField), (x_Swap_putOut, c_Swap_putOut), (x_Version_placeAfter, c_Version_placeAfter), (x_Version_placeBefore, c_Version_placeBefore), (x_Version_kindUsed, c_Version_kindUsed), (x_Item_new, c_Item_new), (x_Output_keep, c_Output_keep), (x_ArrayList_new, c_ArrayList_new), (x_ArrayList_add, c_ArrayList_add), (x_ArrayList_size, c_ArrayList_size), (x_AbstractList_new, c_AbstractList_new), (x_Arrays_fill, c_Arrays_fill), (x_ArrayList_add2, c_ArrayList_add2), (x_ArrayList_get, c_ArrayList_get), (x_ArrayList_isEmpty, c_ArrayList_isEmpty), (x_AbstractCollection_new, c_AbstractCollection_new), (x_ArrayList_grow, c_ArrayList_grow), (x_ArrayList_remove, c_ArrayList_remove), (x_Objects_checkIndex, c_Objects_checkIndex), (x_ArrayList_elementData, c_ArrayList_elementData), (x_ArrayList_grow2, c_ArrayList_grow2), (x_ArrayList_fastRemove, c_ArrayList_fastRemove), (x_Preconditions_checkIndex, c_Preconditions_checkIndex), (x_ArraysSupport_newLength, c_ArraysSupport_newLength), (x_Arrays_copyOf, c_Arrays_copyOf), (x_ArrayList_add3, c_ArrayList_add3), (x_Arrays_copyOf2, c_Arrays_copyOf2), (x_Arrays_copyOf3, c_Arrays_copyOf3), (x_ArrayList_rangeCheckForAdd, c_ArrayList_rangeCheckForAdd), (x_Law_tell, c_Law_tell), (x_Law_figure, c_Law_figure), (x_Law_ask, c_Law_ask), (x_Law_at, c_Law_at), (x_Law_some, c_Law_some), (x_Law_carried, c_Law_carried), (x_Law_law, c_Law_law)], ∀ t ∈ q.1, _
  exact List.forall_mem_cons.mpr ⟨fun _ h => absurd h List.not_mem_nil, List.forall_mem_cons.mpr ⟨fun _ h => absurd h List.not_mem_nil, List.forall_mem_cons.mpr ⟨kx_Swap_new, List.forall_mem_cons.mpr ⟨kx_Swap_present, List.forall_mem_cons.mpr ⟨kx_Swap_versions, List.forall_mem_cons.mpr ⟨kx_Swap_objects, List.forall_mem_cons.mpr ⟨kx_Swap_queued, List.forall_mem_cons.mpr ⟨kx_Swap_isWatched, List.forall_mem_cons.mpr ⟨kx_Swap_steps, List.forall_mem_cons.mpr ⟨kx_Output_new, List.forall_mem_cons.mpr ⟨kx_Version_new, List.forall_mem_cons.mpr ⟨kx_Version_new2, List.forall_mem_cons.mpr ⟨kx_Task_new, List.forall_mem_cons.mpr ⟨kx_Swap_add, List.forall_mem_cons.mpr ⟨kx_Swap_empty, List.forall_mem_cons.mpr ⟨kx_Swap_setFields, List.forall_mem_cons.mpr ⟨kx_Swap_setCarry, List.forall_mem_cons.mpr ⟨kx_Swap_map, List.forall_mem_cons.mpr ⟨kx_Swap_publish, List.forall_mem_cons.mpr ⟨kx_Swap_start, List.forall_mem_cons.mpr ⟨kx_Swap_step, List.forall_mem_cons.mpr ⟨kx_Swap_release, List.forall_mem_cons.mpr ⟨kx_Swap_state, List.forall_mem_cons.mpr ⟨kx_Swap_frames, List.forall_mem_cons.mpr ⟨kx_Swap_at, List.forall_mem_cons.mpr ⟨kx_Swap_local, List.forall_mem_cons.mpr ⟨kx_Swap_meanFrames, List.forall_mem_cons.mpr ⟨kx_Swap_carriedShare, List.forall_mem_cons.mpr ⟨kx_Swap_change, List.forall_mem_cons.mpr ⟨kx_Swap_changed, List.forall_mem_cons.mpr ⟨kx_Swap_against, List.forall_mem_cons.mpr ⟨kx_Swap_shape, List.forall_mem_cons.mpr ⟨kx_Swap_field, List.forall_mem_cons.mpr ⟨kx_Swap_fieldIn, List.forall_mem_cons.mpr ⟨kx_Swap_entry, List.forall_mem_cons.mpr ⟨kx_Swap_putAt, List.forall_mem_cons.mpr ⟨kx_Swap_putIn, List.forall_mem_cons.mpr ⟨kx_Swap_isTouched, List.forall_mem_cons.mpr ⟨kx_Carry_new, List.forall_mem_cons.mpr ⟨kx_Version_resetCarry, List.forall_mem_cons.mpr ⟨kx_Frame_new, List.forall_mem_cons.mpr ⟨kx_Swap_isFunction, List.forall_mem_cons.mpr ⟨kx_Swap_isInstruction, List.forall_mem_cons.mpr ⟨kx_Version_append, List.forall_mem_cons.mpr ⟨kx_Swap_isKind, List.forall_mem_cons.mpr ⟨kx_Swap_latest, List.forall_mem_cons.mpr ⟨kx_Version_countMapped, List.forall_mem_cons.mpr ⟨kx_Version_close, List.forall_mem_cons.mpr ⟨kx_Swap_isThread, List.forall_mem_cons.mpr ⟨kx_Task_isAlive, List.forall_mem_cons.mpr ⟨kx_Task_open, List.forall_mem_cons.mpr ⟨kx_Swap_settleQueue, List.forall_mem_cons.mpr ⟨kx_Swap_makeStep, List.forall_mem_cons.mpr ⟨kx_Swap_isLocal, List.forall_mem_cons.mpr ⟨kx_Change_new, List.forall_mem_cons.mpr ⟨kx_Swap_targetOf, List.forall_mem_cons.mpr ⟨kx_Swap_countAgainst, List.forall_mem_cons.mpr ⟨kx_Swap_isObject, List.forall_mem_cons.mpr ⟨kx_Swap_hasField, List.forall_mem_cons.mpr ⟨kx_Swap_carryRow, List.forall_mem_cons.mpr ⟨kx_Swap_isEntry, List.forall_mem_cons.mpr ⟨kx_Carry_reset, List.forall_mem_cons.mpr ⟨kx_Swap_isKindWithField, List.forall_mem_cons.mpr ⟨kx_Swap_isPlace, List.forall_mem_cons.mpr ⟨kx_Swap_countMeaningful, List.forall_mem_cons.mpr ⟨kx_Version_differs, List.forall_mem_cons.mpr ⟨kx_Task_fail, List.forall_mem_cons.mpr ⟨kx_Frame_begin, List.forall_mem_cons.mpr ⟨kx_Swap_takeEffect, List.forall_mem_cons.mpr ⟨kx_Swap_runInstruction, List.forall_mem_cons.mpr ⟨kx_Swap_giveUp, List.forall_mem_cons.mpr ⟨kx_Swap_placeIn, List.forall_mem_cons.mpr ⟨kx_Carry_apply, List.forall_mem_cons.mpr ⟨kx_Version_usesChangedKind, List.forall_mem_cons.mpr ⟨kx_Swap_moveFrames, List.forall_mem_cons.mpr ⟨kx_Swap_carryItem, List.forall_mem_cons.mpr ⟨kx_Task_giveBack, List.forall_mem_cons.mpr ⟨kx_Swap_makeObject, List.forall_mem_cons.mpr ⟨kx_Swap_useField, List.forall_mem_cons.mpr ⟨kx_Swap_putOut, List.forall_mem_cons.mpr ⟨kx_Version_placeAfter, List.forall_mem_cons.mpr ⟨kx_Version_placeBefore, List.forall_mem_cons.mpr ⟨kx_Version_kindUsed, List.forall_mem_cons.mpr ⟨kx_Item_new, List.forall_mem_cons.mpr ⟨kx_Output_keep, List.forall_mem_cons.mpr ⟨kx_ArrayList_new, List.forall_mem_cons.mpr ⟨kx_ArrayList_add, List.forall_mem_cons.mpr ⟨kx_ArrayList_size, List.forall_mem_cons.mpr ⟨kx_AbstractList_new, List.forall_mem_cons.mpr ⟨kx_Arrays_fill, List.forall_mem_cons.mpr ⟨kx_ArrayList_add2, List.forall_mem_cons.mpr ⟨kx_ArrayList_get, List.forall_mem_cons.mpr ⟨kx_ArrayList_isEmpty, List.forall_mem_cons.mpr ⟨kx_AbstractCollection_new, List.forall_mem_cons.mpr ⟨kx_ArrayList_grow, List.forall_mem_cons.mpr ⟨kx_ArrayList_remove, List.forall_mem_cons.mpr ⟨kx_Objects_checkIndex, List.forall_mem_cons.mpr ⟨kx_ArrayList_elementData, List.forall_mem_cons.mpr ⟨kx_ArrayList_grow2, List.forall_mem_cons.mpr ⟨kx_ArrayList_fastRemove, List.forall_mem_cons.mpr ⟨kx_Preconditions_checkIndex, List.forall_mem_cons.mpr ⟨kx_ArraysSupport_newLength, List.forall_mem_cons.mpr ⟨kx_Arrays_copyOf, List.forall_mem_cons.mpr ⟨kx_ArrayList_add3, List.forall_mem_cons.mpr ⟨kx_Arrays_copyOf2, List.forall_mem_cons.mpr ⟨kx_Arrays_copyOf3, List.forall_mem_cons.mpr ⟨kx_ArrayList_rangeCheckForAdd, List.forall_mem_cons.mpr ⟨kx_Law_tell, List.forall_mem_cons.mpr ⟨kx_Law_figure, List.forall_mem_cons.mpr ⟨kx_Law_ask, List.forall_mem_cons.mpr ⟨kx_Law_at, List.forall_mem_cons.mpr ⟨kx_Law_some, List.forall_mem_cons.mpr ⟨kx_Law_carried, List.forall_mem_cons.mpr ⟨kx_Law_law, fun _ h => absurd h List.not_mem_nil⟩⟩⟩⟩⟩⟩⟩⟩⟩⟩⟩⟩⟩⟩⟩⟩⟩⟩⟩⟩⟩⟩⟩⟩⟩⟩⟩⟩⟩⟩⟩⟩⟩⟩⟩⟩⟩⟩⟩⟩⟩⟩⟩⟩⟩⟩⟩⟩⟩⟩⟩⟩⟩⟩⟩⟩⟩⟩⟩⟩⟩⟩⟩⟩⟩⟩⟩⟩⟩⟩⟩⟩⟩⟩⟩⟩⟩⟩⟩⟩⟩⟩⟩⟩⟩⟩⟩⟩⟩⟩⟩⟩⟩⟩⟩⟩⟩⟩⟩⟩⟩⟩⟩⟩⟩⟩⟩⟩⟩⟩⟩⟩⟩⟩
theorem sx_lk_mem {pc : Nat} {X : sx_X} : ∀ {c : List (Nat × sx_X)}, sx_lk pc c = some X → (pc, X) ∈ c
  | [], h => by cases h
  | q :: r, h => by
    unfold sx_lk at h
    split at h
    · rename_i hb
      cases h
      rw [show pc = q.1 from (Nat.eq_of_beq_eq_true hb).symm]
      exact List.mem_cons_self
    · exact List.mem_cons_of_mem _ (sx_lk_mem h)
theorem tx_ok (y pc : Nat) (X : sx_X) (h : tx_cd y pc = some X) : ∃ i, (tb_mt y).1 pc = some i ∧ sx_tr pc i = some X := by
  unfold tx_cd at h
  split at h
  · rename_i t ht
    rw [sx_nth_get] at ht
    split at h
    · rename_i c hc
      rw [sx_nth_get] at hc
      split at h
      case h_2 => cases h
      rename_i ee hee
      rw [sx_nth_get] at hee
      have hy : y < tb_CLl.length := by
        have h1 := (List.getElem?_eq_some_iff.mp ht).1
        rw [show tb_CLl.length = tx_l.length by decide +kernel]
        exact h1
      have h2 := tx_zip (t, tb_CLl[y]) (List.mem_of_getElem? (i := y) (by rw [List.getElem?_zip_eq_some]; exact ⟨ht, List.getElem?_eq_getElem hy⟩)) c (List.mem_of_getElem? hc)
      have h3 := List.all_eq_true.mp (List.all_eq_true.mp h2 _ (List.mem_of_getElem? hee)) _ (sx_lk_mem h)
      unfold sx_ck at h3
      have e : tb_CL y = tb_CLl[y] := by unfold tb_CL; rw [List.getD_eq_getElem?_getD, List.getElem?_eq_getElem hy]; rfl
      cases hq : ck_code tb_CLl[y] pc with
      | none => rw [show ck_code (tb_CLl[y]) (pc, X).1 = none from hq] at h3; cases h3
      | some i =>
        rw [show ck_code (tb_CLl[y]) (pc, X).1 = some i from hq] at h3
        refine ⟨i, by show ck_code (tb_CL y) pc = some i; rw [e]; exact hq, ?_⟩
        have h3 : (match sx_tr pc i with
          | some X' => decide (X'.1 = X.1) && (decide (X'.2.1 = X.2.1) && (decide (X'.2.2.1 = X.2.2.1) && decide (X'.2.2.2 = X.2.2.2)))
          | none => false) = true := h3
        split at h3
        · rename_i X' hX'
          rw [Bool.and_eq_true, Bool.and_eq_true, Bool.and_eq_true] at h3
          obtain ⟨a1, a2, a3, a4⟩ := h3
          rw [hX']
          exact congrArg some (Prod.ext (of_decide_eq_true a1) (Prod.ext (of_decide_eq_true a2) (Prod.ext (of_decide_eq_true a3) (of_decide_eq_true a4))))
        · cases h3
    · cases h
  · cases h
theorem tx_mlk : (fun y => (tb_mt y).2) = tx_ml := by
  funext y
  show (tb_MD y).2.2.1 = tx_ml y
  unfold tb_MD tx_ml
  rw [sx_nth_get, List.getD_eq_getElem?_getD]
  have e : tb_MDl.map (fun q => q.2.2.1) = tx_mll := by decide +kernel
  rw [← e, List.getElem?_map]
  cases tb_MDl[y]? <;> rfl
