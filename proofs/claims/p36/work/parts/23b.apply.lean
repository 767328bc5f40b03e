/-! A CARRYING APPLIED. -/
/-- of five: a field, or none -/
def ap_u (k : Nat) : sx_V := match k with
  | 4 => (0, 4294967295)
  | k => (0, k)
def ap_x (k : Nat) : sx_V := match k with
  | 4 => (0, 0)
  | k => (3, k)
def ap_F (k0 k1 k2 k3 : Nat) : sx_F := [(0, ap_x k0, (3, 4), (3, 8)), (0, ap_x k1, (3, 5), (3, 9)), (0, ap_x k2, (3, 6), (3, 10)), (0, ap_x k3, (3, 7), (3, 11))]
def ap_g (u0 u1 u2 u3 : sx_V) : List sx_C := [(1, 0, [(1, 1), (1, 5)]), (0, 14, [(1, 2), (1, 3), (1, 4)]), (0, 0, [u0, u1, u2, u3]), (0, 0, [(0, 0), (0, 4294967295), (0, 4294967295), (0, 4294967295)]), (0, 0, [(0, 0), (0, 4294967295), (0, 4294967295), (0, 4294967295)]), (0, 14, [(1, 6), (1, 7), (1, 8)]), (0, 0, [(3, 4), (3, 5), (3, 6), (3, 7)]), (0, 0, [(0, 0), (0, 0), (0, 0), (0, 0)]), (0, 0, [(0, 0), (0, 0), (0, 0), (0, 0)]), (0, 0, [(3, 0), (3, 1), (3, 2), (3, 3)]), (0, 0, [(3, 12), (3, 13), (3, 14), (3, 15)])]
def ap_h (u0 u1 u2 u3 : sx_V) : List sx_C := [(1, 0, [(1, 1), (1, 5)]), (0, 14, [(1, 2), (1, 3), (1, 4)]), (0, 0, [u0, u1, u2, u3]), (0, 0, [(0, 0), (0, 4294967295), (0, 4294967295), (0, 4294967295)]), (0, 0, [(0, 0), (0, 4294967295), (0, 4294967295), (0, 4294967295)]), (0, 14, [(1, 6), (1, 7), (1, 8)]), (0, 0, [(3, 4), (3, 5), (3, 6), (3, 7)]), (0, 0, [(0, 0), (0, 0), (0, 0), (0, 0)]), (0, 0, [(0, 0), (0, 0), (0, 0), (0, 0)]), (0, 0, [(3, 8), (3, 9), (3, 10), (3, 11)]), (0, 0, [(3, 8), (3, 9), (3, 10), (3, 11)])]
def ap_c (k0 k1 k2 k3 : Nat) : Bool := sm_eq (.inl none) 11 (ap_h (ap_u k0) (ap_u k1) (ap_u k2) (ap_u k3)) (sx_run [] (ap_F k0 k1 k2 k3) tx_cd tx_ml (fun _ _ _ _ => none) 200 4 72 [(1, 0), (0, 0), (1, 9), (1, 10)] (11, [ap_g (ap_u k0) (ap_u k1) (ap_u k2) (ap_u k3)]) 0)
theorem ap_ok0 : ((List.range 5).all fun k1 => (List.range 5).all fun k2 => (List.range 5).all fun k3 => ap_c 0 k1 k2 k3) = true := by decide +kernel
theorem ap_ok1 : ((List.range 5).all fun k1 => (List.range 5).all fun k2 => (List.range 5).all fun k3 => ap_c 1 k1 k2 k3) = true := by decide +kernel
theorem ap_ok2 : ((List.range 5).all fun k1 => (List.range 5).all fun k2 => (List.range 5).all fun k3 => ap_c 2 k1 k2 k3) = true := by decide +kernel
theorem ap_ok3 : ((List.range 5).all fun k1 => (List.range 5).all fun k2 => (List.range 5).all fun k3 => ap_c 3 k1 k2 k3) = true := by decide +kernel
theorem ap_ok4 : ((List.range 5).all fun k1 => (List.range 5).all fun k2 => (List.range 5).all fun k3 => ap_c 4 k1 k2 k3) = true := by decide +kernel
theorem ap_ok (k0 k1 k2 k3 : Nat) (h0 : k0 < 5) (h1 : k1 < 5) (h2 : k2 < 5) (h3 : k3 < 5) : ap_c k0 k1 k2 k3 = true := by
  have key : ∀ k, ((List.range 5).all fun k1 => (List.range 5).all fun k2 => (List.range 5).all fun k3 => ap_c k k1 k2 k3) = true → ap_c k k1 k2 k3 = true := fun k h => List.all_eq_true.mp (List.all_eq_true.mp (List.all_eq_true.mp h k1 (List.mem_range.mpr h1)) k2 (List.mem_range.mpr h2)) k3 (List.mem_range.mpr h3)
  have h : k0 = 0 ∨ k0 = 1 ∨ k0 = 2 ∨ k0 = 3 ∨ k0 = 4 := by omega
  rcases h with e | e | e | e | e <;> subst e
  · exact key 0 ap_ok0
  · exact key 1 ap_ok1
  · exact key 2 ap_ok2
  · exact key 3 ap_ok3
  · exact key 4 ap_ok4
def ct_applyT (a0 a1 a2 a3 a4 a5 a6 a7 a8 a9 a10 f0 f1 f2 f3 n0 n1 n2 n3 x0 x1 x2 x3 y0 y1 y2 y3 : Nat) (w0 w1 w2 w3 : sx_V) : sg_T := (72, [(1, a0), (0, 0), (1, a9), (1, a10)], [a0, a1, a2, a3, a4, a5, a6, a7, a8, a9, a10].zip [(1, 0, [(1, a1), (1, a5)]), (0, 14, [(1, a2), (1, a3), (1, a4)]), (0, 0, [(3, f0), (3, f1), (3, f2), (3, f3)]), (0, 0, [(0, 0), (0, 4294967295), (0, 4294967295), (0, 4294967295)]), (0, 0, [(0, 0), (0, 4294967295), (0, 4294967295), (0, 4294967295)]), (0, 14, [(1, a6), (1, a7), (1, a8)]), (0, 0, [(3, n0), (3, n1), (3, n2), (3, n3)]), (0, 0, [(0, 0), (0, 0), (0, 0), (0, 0)]), (0, 0, [(0, 0), (0, 0), (0, 0), (0, 0)]), (0, 0, [(3, x0), (3, x1), (3, x2), (3, x3)]), (0, 0, [w0, w1, w2, w3])], [a0, a1, a2, a3, a4, a5, a6, a7, a8, a9, a10].zip [(1, 0, [(1, a1), (1, a5)]), (0, 14, [(1, a2), (1, a3), (1, a4)]), (0, 0, [(3, f0), (3, f1), (3, f2), (3, f3)]), (0, 0, [(0, 0), (0, 4294967295), (0, 4294967295), (0, 4294967295)]), (0, 0, [(0, 0), (0, 4294967295), (0, 4294967295), (0, 4294967295)]), (0, 14, [(1, a6), (1, a7), (1, a8)]), (0, 0, [(3, n0), (3, n1), (3, n2), (3, n3)]), (0, 0, [(0, 0), (0, 0), (0, 0), (0, 0)]), (0, 0, [(0, 0), (0, 0), (0, 0), (0, 0)]), (0, 0, [(3, y0), (3, y1), (3, y2), (3, y3)]), (0, 0, [(3, y0), (3, y1), (3, y2), (3, y3)])], .inl none)
theorem ct_apply {sv : Nat → Value} {mt : Nat → (Nat → Option ab_I) × Nat} (hcd : ∀ y pc X, tx_cd y pc = some X → ∃ i, (mt y).1 pc = some i ∧ sx_tr pc i = some X) (hml : (fun y => (mt y).2) = tx_ml)
    {E : sx_E} {a0 a1 a2 a3 a4 a5 a6 a7 a8 a9 a10 f0 f1 f2 f3 n0 n1 n2 n3 x0 x1 x2 x3 y0 y1 y2 y3 : Nat} {w0 w1 w2 w3 : sx_V} {z0 z1 z2 z3 : Int32} {src : Nat → Int32} (hs : [a0, a1, a2, a3, a4, a5, a6, a7, a8, a9, a10].Nodup)
    (r0 : E.1 f0 = lx_m1 ∨ ∃ j, j < 4 ∧ E.1 f0 = iN j) (r1 : E.1 f1 = lx_m1 ∨ ∃ j, j < 4 ∧ E.1 f1 = iN j) (r2 : E.1 f2 = lx_m1 ∨ ∃ j, j < 4 ∧ E.1 f2 = iN j) (r3 : E.1 f3 = lx_m1 ∨ ∃ j, j < 4 ∧ E.1 f3 = iN j)
    (s0 : E.1 x0 = src 0) (s1 : E.1 x1 = src 1) (s2 : E.1 x2 = src 2) (s3 : E.1 x3 = src 3)
    (q0 : E.1 y0 = lx_cr src (E.1 f0) (E.1 n0)) (q1 : E.1 y1 = lx_cr src (E.1 f1) (E.1 n1)) (q2 : E.1 y2 = lx_cr src (E.1 f2) (E.1 n2)) (q3 : E.1 y3 = lx_cr src (E.1 f3) (E.1 n3))
    (e0 : sx_ev E w0 = .int z0) (e1 : sx_ev E w1 = .int z1) (e2 : sx_ev E w2 = .int z2) (e3 : sx_ev E w3 = .int z3) :
    sg_ct sv mt 20 E (ct_applyT a0 a1 a2 a3 a4 a5 a6 a7 a8 a9 a10 f0 f1 f2 f3 n0 n1 n2 n3 x0 x1 x2 x3 y0 y1 y2 y3 w0 w1 w2 w3) := by
  have ex : ∀ (f : Nat), (E.1 f = lx_m1 ∨ ∃ j, j < 4 ∧ E.1 f = iN j) → ∃ k, k < 5 ∧ (∀ (ρ : Nat → Int32) (a : Nat → Nat), sx_ev (ρ, E.2.1, a) (ap_u k) = .int (E.1 f)) ∧ ∀ (ρ : Nat → Int32) (a : Nat → Nat), (∀ j, j < 4 → ρ j = src j) → ∃ u, sx_ev (ρ, E.2.1, a) (ap_x k) = .int u ∧ ∀ n, lx_cr src (E.1 f) n = u + n := by
    intro f hf
    rcases hf with e | ⟨j, hj, e⟩
    · exact ⟨4, by decide, fun ρ a => by rw [e]; rfl, fun ρ a _ => ⟨iN 0, rfl, fun n => by rw [e]; rfl⟩⟩
    · have h4 : j = 0 ∨ j = 1 ∨ j = 2 ∨ j = 3 := by omega
      rcases h4 with d | d | d | d <;> subst d
      · exact ⟨0, by decide, fun ρ a => by rw [e]; rfl, fun ρ a h => ⟨src 0, congrArg Value.int (h 0 (by decide)), fun n => by rw [e]; rfl⟩⟩
      · exact ⟨1, by decide, fun ρ a => by rw [e]; rfl, fun ρ a h => ⟨src 1, congrArg Value.int (h 1 (by decide)), fun n => by rw [e]; rfl⟩⟩
      · exact ⟨2, by decide, fun ρ a => by rw [e]; rfl, fun ρ a h => ⟨src 2, congrArg Value.int (h 2 (by decide)), fun n => by rw [e]; rfl⟩⟩
      · exact ⟨3, by decide, fun ρ a => by rw [e]; rfl, fun ρ a h => ⟨src 3, congrArg Value.int (h 3 (by decide)), fun n => by rw [e]; rfl⟩⟩
  obtain ⟨k0, l0, u0, v0⟩ := ex f0 r0
  obtain ⟨k1, l1, u1, v1⟩ := ex f1 r1
  obtain ⟨k2, l2, u2, v2⟩ := ex f2 r2
  obtain ⟨k3, l3, u3, v3⟩ := ex f3 r3
  let ρs : Nat → Int32 := fun i => match i with
    | 4 => E.1 n0
    | 5 => E.1 n1
    | 6 => E.1 n2
    | 7 => E.1 n3
    | 8 => E.1 y0
    | 9 => E.1 y1
    | 10 => E.1 y2
    | 11 => E.1 y3
    | 12 => z0
    | 13 => z1
    | 14 => z2
    | 15 => z3
    | i => src i
  have hρ : ∀ j, j < 4 → ρs j = src j := fun j hj => by
    have h4 : j = 0 ∨ j = 1 ∨ j = 2 ∨ j = 3 := by omega
    rcases h4 with d | d | d | d <;> subst d <;> rfl
  have fa : ∀ (αs : Nat → Nat) (k n y : Nat) (N Y : Int32) (u : Int32), sx_ev (ρs, E.2.1, αs) (ap_x k) = .int u → ρs n = N → ρs y = Y → Y = u + N → lk (ρs, E.2.1, αs) (0, ap_x k, (3, n), (3, y)) := fun αs k n y N Y u hx hn hy h => by
    show sx_sem 0 (sx_ev (ρs, E.2.1, αs) (ap_x k)) (.int (ρs n)) = some (.int (ρs y))
    rw [hx, hn, hy, h]
    rfl
  show sg_ct sv mt 20 E (72, [(1, a0), (0, 0), (1, a9), (1, a10)], [a0, a1, a2, a3, a4, a5, a6, a7, a8, a9, a10].zip [(1, 0, [(1, a1), (1, a5)]), (0, 14, [(1, a2), (1, a3), (1, a4)]), (0, 0, [(3, f0), (3, f1), (3, f2), (3, f3)]), (0, 0, [(0, 0), (0, 4294967295), (0, 4294967295), (0, 4294967295)]), (0, 0, [(0, 0), (0, 4294967295), (0, 4294967295), (0, 4294967295)]), (0, 14, [(1, a6), (1, a7), (1, a8)]), (0, 0, [(3, n0), (3, n1), (3, n2), (3, n3)]), (0, 0, [(0, 0), (0, 0), (0, 0), (0, 0)]), (0, 0, [(0, 0), (0, 0), (0, 0), (0, 0)]), (0, 0, [(3, x0), (3, x1), (3, x2), (3, x3)]), (0, 0, [w0, w1, w2, w3])], [a0, a1, a2, a3, a4, a5, a6, a7, a8, a9, a10].zip [(1, 0, [(1, a1), (1, a5)]), (0, 14, [(1, a2), (1, a3), (1, a4)]), (0, 0, [(3, f0), (3, f1), (3, f2), (3, f3)]), (0, 0, [(0, 0), (0, 4294967295), (0, 4294967295), (0, 4294967295)]), (0, 0, [(0, 0), (0, 4294967295), (0, 4294967295), (0, 4294967295)]), (0, 14, [(1, a6), (1, a7), (1, a8)]), (0, 0, [(3, n0), (3, n1), (3, n2), (3, n3)]), (0, 0, [(0, 0), (0, 0), (0, 0), (0, 0)]), (0, 0, [(0, 0), (0, 0), (0, 0), (0, 0)]), (0, 0, [(3, y0), (3, y1), (3, y2), (3, y3)]), (0, 0, [(3, y0), (3, y1), (3, y2), (3, y3)])], .inl none)
  refine sg_small hcd hml (s := [a0, a1, a2, a3, a4, a5, a6, a7, a8, a9, a10]) (gs := ap_g (ap_u k0) (ap_u k1) (ap_u k2) (ap_u k3)) (gs' := ap_h (ap_u k0) (ap_u k1) (ap_u k2) (ap_u k3)) (ρs := ρs) (Fs := ap_F k0 k1 k2 k3) (fuel := 200) (d := 4) (rS := .inl none) (argsS := [(1, 0), (0, 0), (1, 9), (1, 10)]) (by omega) hs rfl (Nat.le_of_ble_eq_true rfl) rfl rfl rfl (fun αs => ?_) (sm_eq_ok (ap_ok k0 k1 k2 k3 l0 l1 l2 l3)) (fun αs h => ⟨?_, rfl, ?_, ?_⟩) ?_
  · obtain ⟨c0, d0, m0⟩ := v0 ρs αs hρ
    obtain ⟨c1, d1, m1⟩ := v1 ρs αs hρ
    obtain ⟨c2, d2, m2⟩ := v2 ρs αs hρ
    obtain ⟨c3, d3, m3⟩ := v3 ρs αs hρ
    exact lk_cons (fa αs k0 4 8 _ _ c0 d0 rfl rfl (q0.trans (m0 _))) (lk_cons (fa αs k1 5 9 _ _ c1 d1 rfl rfl (q1.trans (m1 _))) (lk_cons (fa αs k2 6 10 _ _ c2 d2 rfl rfl (q2.trans (m2 _))) (lk_cons (fa αs k3 7 11 _ _ c3 d3 rfl rfl (q3.trans (m3 _))) lk_nil)))
  · show [Value.ref (αs 0), .int (iN 0), .ref (αs 9), .ref (αs 10)] = [Value.ref (E.2.2 a0), .int (iN 0), .ref (E.2.2 a9), .ref (E.2.2 a10)]
    rw [h 0 a0 rfl, h 9 a9 rfl, h 10 a10 rfl]
  · have g1 := h 1 a1 rfl
    have g2 := h 2 a2 rfl
    have g3 := h 3 a3 rfl
    have g4 := h 4 a4 rfl
    have g5 := h 5 a5 rfl
    have g6 := h 6 a6 rfl
    have g7 := h 7 a7 rfl
    have g8 := h 8 a8 rfl
    have p0 := u0 ρs αs
    have p1 := u1 ρs αs
    have p2 := u2 ρs αs
    have p3 := u3 ρs αs
    show [some (Sum.inr (0, [Value.ref (αs 1), .ref (αs 5)])), some (Sum.inl (14, [.ref (αs 2), .ref (αs 3), .ref (αs 4)])), some (Sum.inl (0, [sx_ev (ρs, E.2.1, αs) (ap_u k0), sx_ev (ρs, E.2.1, αs) (ap_u k1), sx_ev (ρs, E.2.1, αs) (ap_u k2), sx_ev (ρs, E.2.1, αs) (ap_u k3)])), some (Sum.inl (0, [.int (iN 0), .int (iN 4294967295), .int (iN 4294967295), .int (iN 4294967295)])), some (Sum.inl (0, [.int (iN 0), .int (iN 4294967295), .int (iN 4294967295), .int (iN 4294967295)])), some (Sum.inl (14, [.ref (αs 6), .ref (αs 7), .ref (αs 8)])), some (Sum.inl (0, [.int (E.1 n0), .int (E.1 n1), .int (E.1 n2), .int (E.1 n3)])), some (Sum.inl (0, [.int (iN 0), .int (iN 0), .int (iN 0), .int (iN 0)])), some (Sum.inl (0, [.int (iN 0), .int (iN 0), .int (iN 0), .int (iN 0)])), some (Sum.inl (0, [.int (src 0), .int (src 1), .int (src 2), .int (src 3)])), some (Sum.inl (0, [.int z0, .int z1, .int z2, .int z3]))] = [some (Sum.inr (0, [Value.ref (E.2.2 a1), .ref (E.2.2 a5)])), some (Sum.inl (14, [.ref (E.2.2 a2), .ref (E.2.2 a3), .ref (E.2.2 a4)])), some (Sum.inl (0, [Value.int (E.1 f0), Value.int (E.1 f1), Value.int (E.1 f2), Value.int (E.1 f3)])), some (Sum.inl (0, [.int (iN 0), .int (iN 4294967295), .int (iN 4294967295), .int (iN 4294967295)])), some (Sum.inl (0, [.int (iN 0), .int (iN 4294967295), .int (iN 4294967295), .int (iN 4294967295)])), some (Sum.inl (14, [.ref (E.2.2 a6), .ref (E.2.2 a7), .ref (E.2.2 a8)])), some (Sum.inl (0, [.int (E.1 n0), .int (E.1 n1), .int (E.1 n2), .int (E.1 n3)])), some (Sum.inl (0, [.int (iN 0), .int (iN 0), .int (iN 0), .int (iN 0)])), some (Sum.inl (0, [.int (iN 0), .int (iN 0), .int (iN 0), .int (iN 0)])), some (Sum.inl (0, [.int (E.1 x0), .int (E.1 x1), .int (E.1 x2), .int (E.1 x3)])), some (Sum.inl (0, [sx_ev E w0, sx_ev E w1, sx_ev E w2, sx_ev E w3]))]
    rw [g1, g2, g3, g4, g5, g6, g7, g8, p0, p1, p2, p3, s0, s1, s2, s3, e0, e1, e2, e3]
  · have g1 := h 1 a1 rfl
    have g2 := h 2 a2 rfl
    have g3 := h 3 a3 rfl
    have g4 := h 4 a4 rfl
    have g5 := h 5 a5 rfl
    have g6 := h 6 a6 rfl
    have g7 := h 7 a7 rfl
    have g8 := h 8 a8 rfl
    have p0 := u0 ρs αs
    have p1 := u1 ρs αs
    have p2 := u2 ρs αs
    have p3 := u3 ρs αs
    show [some (Sum.inr (0, [Value.ref (αs 1), .ref (αs 5)])), some (Sum.inl (14, [.ref (αs 2), .ref (αs 3), .ref (αs 4)])), some (Sum.inl (0, [sx_ev (ρs, E.2.1, αs) (ap_u k0), sx_ev (ρs, E.2.1, αs) (ap_u k1), sx_ev (ρs, E.2.1, αs) (ap_u k2), sx_ev (ρs, E.2.1, αs) (ap_u k3)])), some (Sum.inl (0, [.int (iN 0), .int (iN 4294967295), .int (iN 4294967295), .int (iN 4294967295)])), some (Sum.inl (0, [.int (iN 0), .int (iN 4294967295), .int (iN 4294967295), .int (iN 4294967295)])), some (Sum.inl (14, [.ref (αs 6), .ref (αs 7), .ref (αs 8)])), some (Sum.inl (0, [.int (E.1 n0), .int (E.1 n1), .int (E.1 n2), .int (E.1 n3)])), some (Sum.inl (0, [.int (iN 0), .int (iN 0), .int (iN 0), .int (iN 0)])), some (Sum.inl (0, [.int (iN 0), .int (iN 0), .int (iN 0), .int (iN 0)])), some (Sum.inl (0, [.int (E.1 y0), .int (E.1 y1), .int (E.1 y2), .int (E.1 y3)])), some (Sum.inl (0, [.int (E.1 y0), .int (E.1 y1), .int (E.1 y2), .int (E.1 y3)]))] = [some (Sum.inr (0, [Value.ref (E.2.2 a1), .ref (E.2.2 a5)])), some (Sum.inl (14, [.ref (E.2.2 a2), .ref (E.2.2 a3), .ref (E.2.2 a4)])), some (Sum.inl (0, [Value.int (E.1 f0), Value.int (E.1 f1), Value.int (E.1 f2), Value.int (E.1 f3)])), some (Sum.inl (0, [.int (iN 0), .int (iN 4294967295), .int (iN 4294967295), .int (iN 4294967295)])), some (Sum.inl (0, [.int (iN 0), .int (iN 4294967295), .int (iN 4294967295), .int (iN 4294967295)])), some (Sum.inl (14, [.ref (E.2.2 a6), .ref (E.2.2 a7), .ref (E.2.2 a8)])), some (Sum.inl (0, [.int (E.1 n0), .int (E.1 n1), .int (E.1 n2), .int (E.1 n3)])), some (Sum.inl (0, [.int (iN 0), .int (iN 0), .int (iN 0), .int (iN 0)])), some (Sum.inl (0, [.int (iN 0), .int (iN 0), .int (iN 0), .int (iN 0)])), some (Sum.inl (0, [.int (E.1 y0), .int (E.1 y1), .int (E.1 y2), .int (E.1 y3)])), some (Sum.inl (0, [.int (E.1 y0), .int (E.1 y1), .int (E.1 y2), .int (E.1 y3)]))]
    rw [g1, g2, g3, g4, g5, g6, g7, g8, p0, p1, p2, p3]
  · intro c hc
    unfold ap_h at hc
    simp only [List.mem_cons, List.not_mem_nil, or_false] at hc
    rcases hc with e | e | e | e | e | e | e | e | e | e | e <;> rw [e] <;> exact Nat.le_of_ble_eq_true rfl
