/-! THE EXECUTOR IS SOUND: runs. -/
abbrev sx_K : Type := Nat → List sx_V → sx_G → Nat → Option (sx_R × sx_G × Nat)
abbrev sx_Z : Type := (Nat × sx_L × List sx_V × sx_G × Nat) ⊕ (sx_R × sx_G × Nat)
def sx_one (vs : List sx_V) (F : sx_F) (cd : Nat → Option sx_X) (K : sx_K) (rec : Nat → sx_L → List sx_V → sx_G → Nat → Option sx_Z) (pc : Nat) (l : sx_L) (st : List sx_V) (G : sx_G) (sl : Nat) : Option sx_Z := match cd pc with
  | none => none
  | some X => match sx_f vs F X l st G sl with
    | some (.inl (pc', l', st', G', sl')) => rec pc' l' st' G' sl'
    | some (.inr (.inl q)) => some (.inr q)
    | some (.inr (.inr (y, as, pc', l', st', hs))) => match K y as G sl with
      | some (.inl v, G', sl') => rec pc' l' (v.toList ++ st') G' sl'
      | some (.inr e, G', sl') => match hs.lookup e with
        | some pk => rec pk.1 ((sx_sto l' pk.2 (2, 0)).set pk.2 none) [] G' sl'
        | none => none
      | none => none
    | none => none
def sx_go (vs : List sx_V) (F : sx_F) (cd : Nat → Option sx_X) (K : sx_K) (stop : Nat → Bool) : Nat → Nat → sx_L → List sx_V → sx_G → Nat → Option sx_Z
  | 0 => fun _ _ _ _ _ => none
  | n + 1 => fun pc l st G sl => match stop pc with
    | true => some (.inl (pc, l, st, G, sl))
    | false => sx_one vs F cd K (sx_go vs F cd K stop n) pc l st G sl
def sx_run (vs : List sx_V) (F : sx_F) (cd : Nat → Nat → Option sx_X) (ml : Nat → Nat) (K0 : sx_K) (fuel : Nat) : Nat → sx_K
  | 0 => fun _ _ _ _ => none
  | d + 1 => fun y as G sl => match K0 y as G sl with
    | some r => some r
    | none => match Nat.ble (sx_in as).length (ml y) with
      | true => match sx_go vs F (cd y) (sx_run vs F cd ml K0 fuel d) (fun _ => false) fuel 0 (sx_init as (ml y)) [] G sl with
        | some (.inr q) => some q
        | _ => none
      | false => none
def sx_P (E : sx_E) (h0 : ab_H) (m : Nat) (nx : ab_N) (Q : ab_Q) (z : sx_Z) : Prop := match z with
  | .inl (pc, l, st, G, sl) => ∀ h, sx_Rl E h0 m G sl h → nx pc (sx_eL E l) (sx_eS E st) h
  | .inr (r, G, sl) => ∀ h, sx_Rl E h0 m G sl h → Q (sx_eR E r) h
def sx_KS (E : sx_E) (h0 : ab_H) (m : Nat) (C : ab_Y) (K : sx_K) : Prop := ∀ y as G sl r G' sl' h Q, K y as G sl = some (r, G', sl') → sx_Rl E h0 m G sl h → (∀ h', sx_Rl E h0 m G' sl' h' → Q (sx_eR E r) h') → C y (sx_eS E as) h Q
section SXU
variable {E : sx_E} {h0 : ab_H} {m : Nat} {F : sx_F} {vs : List sx_V} {sv : Nat → Value}
theorem sx_one_ok (hvs : ∀ i v, vs[i]? = some v → sx_ev E v = sv i) (A : sx_A E h0 m) (H : sx_ok E F) {C : ab_Y} (hm : ab_mon C) (hd : ab_det C) {k : Nat → Option ab_I} {cd : Nat → Option sx_X} (hcd : ∀ pc X, cd pc = some X → ∃ i, k pc = some i ∧ sx_tr pc i = some X) {K : sx_K} (hK : sx_KS E h0 m C K) {Q : ab_Q}
    {rec : Nat → sx_L → List sx_V → sx_G → Nat → Option sx_Z} (hrec : ∀ pc l st G sl z h, rec pc l st G sl = some z → sx_Rl E h0 m G sl h → sx_P E h0 m (ab_WP sv C k Q) Q z → ab_WP sv C k Q pc (sx_eL E l) (sx_eS E st) h)
    {pc sl : Nat} {l : sx_L} {st : List sx_V} {G : sx_G} {z : sx_Z} {h : ab_H} (hz : sx_one vs F cd K rec pc l st G sl = some z) (R : sx_Rl E h0 m G sl h) (hP : sx_P E h0 m (ab_WP sv C k Q) Q z) : ab_WP sv C k Q pc (sx_eL E l) (sx_eS E st) h := by
  unfold sx_one at hz
  split at hz
  · cases hz
  · rename_i X hX
    obtain ⟨i, hi, hT⟩ := hcd pc X hX
    rw [ab_WP_eq hm hd hi]
    unfold ab_x
    split at hz
    · rename_i pc' l' st' G' sl' hf
      obtain ⟨h', e, R'⟩ := sx_f_ok hvs hT hf R A H
      rw [e]
      exact hrec _ _ _ _ _ _ _ hz R' hP
    · rename_i q hf
      obtain ⟨r, G', sl'⟩ := q
      obtain ⟨h', e, R'⟩ := sx_f_ok hvs hT hf R A H
      rw [e]
      cases hz
      exact hP h' R'
    · rename_i y as pc' l' st' hs hf
      have e := sx_f_ok (h := h) hvs hT hf R A H
      rw [show ab_f sv i pc (sx_eL E l) (sx_eS E st) h = some (.inr (.inr (y, sx_eS E as, pc', sx_eL E l', sx_eS E st', hs))) from e]
      dsimp only
      split at hz
      · rename_i v G' sl' hk
        refine hK _ _ _ _ _ _ _ _ _ hk R fun h' R' => ?_
        have h9 := hrec _ _ _ _ _ _ _ hz R' hP
        show ab_WP sv C k Q pc' (sx_eL E l') ((v.map (sx_ev E)).toList ++ sx_eS E st') h'
        cases v <;> exact h9
      · rename_i e G' sl' hk
        split at hz
        · rename_i pk hpk
          refine hK _ _ _ _ _ _ _ _ _ hk R fun h' R' => ?_
          have h9 := hrec _ _ _ _ _ _ _ hz R' hP
          show ab_hd (ab_WP sv C k Q) (sx_eL E l') h' (hs.lookup e)
          rw [hpk]
          show ab_WP sv C k Q pk.1 ((ab_sto (sx_eL E l') pk.2 (sx_ev E (2, 0))).set pk.2 none) [] h'
          rw [← sx_sto_ok]
          have e2 : sx_eL E ((sx_sto l' pk.2 (2, 0)).set pk.2 none) = (sx_eL E (sx_sto l' pk.2 (2, 0))).set pk.2 none := by simp [sx_eL]
          rw [← e2]
          exact h9
        · cases hz
      · cases hz
    · cases hz
theorem sx_go_ok (hvs : ∀ i v, vs[i]? = some v → sx_ev E v = sv i) (A : sx_A E h0 m) (H : sx_ok E F) {C : ab_Y} (hm : ab_mon C) (hd : ab_det C) {k : Nat → Option ab_I} {cd : Nat → Option sx_X} (hcd : ∀ pc X, cd pc = some X → ∃ i, k pc = some i ∧ sx_tr pc i = some X) {K : sx_K} (hK : sx_KS E h0 m C K) {Q : ab_Q} {stop : Nat → Bool} :
    ∀ (n pc : Nat) (l : sx_L) (st : List sx_V) (G : sx_G) (sl : Nat) (z : sx_Z) (h : ab_H), sx_go vs F cd K stop n pc l st G sl = some z → sx_Rl E h0 m G sl h → sx_P E h0 m (ab_WP sv C k Q) Q z → ab_WP sv C k Q pc (sx_eL E l) (sx_eS E st) h
  | 0, pc, l, st, G, sl, z, h, hz, _, _ => by cases hz
  | n + 1, pc, l, st, G, sl, z, h, hz, R, hP => by
    have hz : (match stop pc with
      | true => some (.inl (pc, l, st, G, sl))
      | false => sx_one vs F cd K (sx_go vs F cd K stop n) pc l st G sl) = some z := hz
    split at hz
    · cases hz
      exact hP h R
    · exact sx_one_ok hvs A H hm hd hcd hK (sx_go_ok hvs A H hm hd hcd hK n) hz R hP
theorem sx_run_ok (hvs : ∀ i v, vs[i]? = some v → sx_ev E v = sv i) (A : sx_A E h0 m) (H : sx_ok E F) {mt : Nat → (Nat → Option ab_I) × Nat} {cd : Nat → Nat → Option sx_X} (hcd : ∀ y pc X, cd y pc = some X → ∃ i, (mt y).1 pc = some i ∧ sx_tr pc i = some X) {K0 : sx_K} {d0 fuel : Nat} (hK0 : ∀ dd, d0 ≤ dd → sx_KS E h0 m (ab_run sv mt dd) K0) :
    ∀ d dd, d0 + d ≤ dd → sx_KS E h0 m (ab_run sv mt dd) (sx_run vs F cd (fun y => (mt y).2) K0 fuel d)
  | 0, dd, _ => fun y as G sl r G' sl' h Q hk _ _ => by cases hk
  | d + 1, dd, hdd => fun y as G sl r G' sl' h Q hk R hQ => by
    have hk : (match K0 y as G sl with
      | some r => some r
      | none => match Nat.ble (sx_in as).length (mt y).2 with
        | true => match sx_go vs F (cd y) (sx_run vs F cd (fun y => (mt y).2) K0 fuel d) (fun _ => false) fuel 0 (sx_init as (mt y).2) [] G sl with
          | some (.inr q) => some q
          | _ => none
        | false => none) = some (r, G', sl') := hk
    split at hk
    · rename_i q hq
      cases hk
      exact hK0 dd (by omega) _ _ _ _ _ _ _ _ _ hq R hQ
    · split at hk
      · rename_i hb
        split at hk
        · rename_i q hq
          cases hk
          obtain ⟨dd, rfl⟩ : ∃ e, dd = e + 1 := ⟨dd - 1, by omega⟩
          refine ⟨?_, ?_⟩
          · rw [← sx_in_ok, List.length_map]
            exact Nat.le_of_ble_eq_true hb
          · rw [← sx_init_ok]
            exact sx_go_ok hvs A H (ab_run_mon sv mt dd) (ab_run_det sv mt dd) (hcd y) (sx_run_ok hvs A H hcd hK0 d dd (by omega)) fuel 0 _ [] G sl _ h hq R hQ
        · cases hk
      · cases hk
end SXU
