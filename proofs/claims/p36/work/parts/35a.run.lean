/-! THE LAW'S RUN ON THE MACHINE OF THE TABLES. -/
def lw_lam (xs : Nat → Int32) (L i : Nat) : Int64 := if i = 0 then Int64.ofNat L else if i = 1 then Int64.ofNat (2 * lx_nf xs L 1 + 2) else if i = 2 then Int64.ofNat (2 * lx_nf xs L 1 + 2) + Int64.ofNat 9 else Int64.ofNat (2 * lx_nf xs L 1 + 2) + Int64.ofNat 1
theorem lw_lam0 {xs : Nat → Int32} {L : Nat} (hL : L ≤ 260) : (lw_lam xs L 0).toNatClampNeg = L := by
  show (Int64.ofNat L).toNatClampNeg = L
  exact Int64.toNatClampNeg_ofNat_of_lt (by omega)
def lw_al (a0 b n k : Nat) : Nat := if k = 0 then a0 else if k = 1 then b else n + (k - 2)
theorem law_run {sv : Nat → Value} {xs : Nat → Int32} {L b a0 d : Nat} {h0 : ab_H} (hsv : sv 0 = .ref a0) (hL : L ≤ 260) (hscr : h0.1 b = some (.inl (1000, (List.range L).map fun i => .int (xs i)))) (hcap : h0.1 a0 = some (.inl (1006, []))) (hb : b < h0.2.1) (ha : a0 < h0.2.1) (hd : 60 ≤ d) :
    ab_run sv tb_mt (d + 1) y_Law_law [.ref b] h0 (fun r h' => r = .inl (some (.int 1)) ∧ h'.2.1 - h0.2.1 ≤ 600258 ∧ h'.2.2 - h0.2.2 ≤ 7293130) := by
  have hne : a0 ≠ b := fun e => by
    subst e
    rw [hcap] at hscr
    cases hscr
  have hlam := lw_lam0 (xs := xs) hL
  have hw := hWalk (sv := sv) (mt := tb_mt) (xs := xs) (L := L) (lam := lw_lam xs L) (dd := d) (n0 := h0.2.1) (s0 := h0.2.2) (Q := fun r h' => r = .inl (some (.int 1)) ∧ h'.2.1 - h0.2.1 ≤ 600258 ∧ h'.2.2 - h0.2.2 ≤ 7293130) (lw_Wi hd hlam (by omega)) rfl ⟨rfl, rfl⟩ (by rw [hlam]; omega) (fun h g1 g2 => ⟨rfl, by omega, by omega⟩)
  refine ⟨Nat.le_of_ble_eq_true rfl, ?_⟩
  have hx := hw (lw_al a0 b h0.2.1) h0 ⟨⟨fun k hk => ?_, fun j k hj hk e => ?_, fun k hk => ?_⟩, ⟨⟨Nat.le_refl _, by rw [Nat.sub_self]; rfl, rfl, fun k c hk => ?_⟩, fun k c q hk hq => ?_, fun _ _ _ => rfl⟩⟩ hsv (Nat.le_refl _) (Nat.le_refl _)
  · exact hx
  · have hk : k < 2 := hk
    show lw_al a0 b h0.2.1 k < h0.2.1
    unfold lw_al
    split
    · exact ha
    · split
      · exact hb
      · omega
  · have hj : j < 2 := hj
    have hk : k < 2 := hk
    have e : lw_al a0 b h0.2.1 j = lw_al a0 b h0.2.1 k := e
    have j2 : j = 0 ∨ j = 1 := by omega
    have k2 : k = 0 ∨ k = 1 := by omega
    rcases j2 with z | z <;> rcases k2 with w | w <;> subst z <;> subst w
    · rfl
    · exact absurd (show a0 = b from e) hne
    · exact absurd (show b = a0 from e).symm hne
    · rfl
  · have hk : 2 ≤ k := hk
    show lw_al a0 b h0.2.1 k = h0.2.1 + (k - 2)
    unfold lw_al
    rw [if_neg (by omega), if_neg (by omega)]
  · have hk : sx_get (2, [[(0, 1006, []), (3, 0, [])]]) k = some c := hk
    have := (List.getElem?_eq_some_iff.mp (ge1 hk)).1
    exact this
  · have hk : sx_get (2, [[(0, 1006, []), (3, 0, [])]]) k = some c := hk
    have h9 := ge1 hk
    have hlt : k < 2 := (List.getElem?_eq_some_iff.mp h9).1
    have k2 : k = 0 ∨ k = 1 := by omega
    rcases k2 with w | w <;> subst w
    · cases h9
      cases hq
      exact hcap
    · cases h9
      have hq : some (Sum.inl ((1000 : Nat), (List.range (lw_lam xs L 0).toNatClampNeg).map fun i => Value.int (lx_r xs L (lz_J xs L) (1000 + i)))) = some q := hq
      rw [hlam] at hq
      show h0.1 b = some q
      rw [hscr, ← hq]
      refine congrArg (fun l : List Value => some (Sum.inl ((1000 : Nat), l))) (List.map_congr_left fun i hi => ?_)
      have := List.mem_range.mp hi
      rw [lw_u1 xs L (lz_J xs L) (by omega)]
