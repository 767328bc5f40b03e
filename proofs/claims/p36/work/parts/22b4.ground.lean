/-! THE GROUND OF THE WALK: the machine of the tables. (draft: never compiled) -/
theorem lw_u1 (xs : Nat → Int32) (L : Nat) (J : Nat → Int32) {i : Nat} (hi : i < 1000) : lx_r xs L J (1000 + i) = xs i := by
  unfold lx_r
  rw [if_neg (by omega), if_pos (by omega), Nat.add_sub_cancel_left]
theorem lw_u2 (xs : Nat → Int32) (L : Nat) (J : Nat → Int32) {k : Nat} (hk : k < 1000) : lx_r xs L J (2000 + k) = lx_a xs L k := by
  unfold lx_r
  rw [if_neg (by omega), if_neg (by omega), if_pos (by omega), Nat.add_sub_cancel_left]
theorem lw_Wi {sv : Nat → Value} {xs : Nat → Int32} {L : Nat} {lam : Nat → Int64} {dd : Nat} (hdd : 60 ≤ dd) (hL : (lam 0).toNatClampNeg = L) (hL2 : L ≤ 900) : lw_W sv tb_mt xs L lam dd := by
  refine ⟨tx_ok, tx_mlk, hdd, fun J α k => ?_, fun E j n i h0 hn hi => ?_⟩
  · unfold lw_ats
    split
    · rename_i hk
      have hk : k ≤ 900 := Nat.le_of_ble_eq_true hk
      intro e he h Q inj hpre hQ
      obtain ⟨d, rfl⟩ : ∃ d, e = d + 1 := ⟨e - 1, by omega⟩
      have h1 := (hpre (1, (3, 0, [])) List.mem_cons_self).2 _ rfl
      have h2 : h.1 (α 1) = some (.inl (1000, ((List.range (lam 0).toNatClampNeg).map fun i => lx_r xs L J (1000 + i)).map Value.int)) := by
        rw [List.map_map]
        exact h1
      refine sp_at (a := α 1) (k := k) h2 (by omega) (by simp; omega) ?_
      have h3 := hQ h rfl fun _ _ => rfl
      have e1 : ((List.range (lam 0).toNatClampNeg).map fun i => lx_r xs L J (1000 + i)).getD k (iN 0) = lx_r xs L J (2000 + k) := by
        rw [lw_u2 xs L J (by omega), List.getD_eq_getElem?_getD, List.getElem?_map, hL]
        unfold lx_a
        by_cases hk2 : k < L
        · rw [List.getElem?_range hk2, if_pos hk2]
          exact lw_u1 xs L J (by omega)
        · rw [List.getElem?_eq_none (by simp; omega), if_neg hk2]
          rfl
      rw [e1]
      exact h3
    · intro e he h Q inj hpre hQ
      have h1 := (hpre (1, (0, 0, [])) List.mem_cons_self).2 _ rfl
      have h2 := (hpre (1, (1, 0, [])) (List.mem_cons_of_mem _ List.mem_cons_self)).2 _ rfl
      rw [h1] at h2
      cases h2
  · intro e he h Q inj hpre hQ
    obtain ⟨d, rfl⟩ : ∃ d, e = d + 1 := ⟨e - 1, by omega⟩
    have h3 := hQ h rfl fun _ _ => rfl
    refine sp_some (x := E.1 j) h0 hn ?_
    rw [← hi]
    exact h3
