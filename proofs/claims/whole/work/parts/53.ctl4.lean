/-- all controllers, on both sides -/
theorem controls_loop {S T0 T : St} (hT : LX12_tick_29_S T0 0 = T) (hb : ¬ S.1 0 8 ≤ 0) (hI : Inv S) (hR : Rel S T) (hC : RngC S) {B : Int} (hD : RngD S B) : ∀ k, k ≤ cN S → Rel (LX3_control_2_S S k) (LX12_tick_29_S T0 k) ∧ RngC (LX3_control_2_S S k) ∧ RngD (LX3_control_2_S S k) B ∧ QD S (LX3_control_2_S S k) ∧ (LX12_tick_29_S T0 k).2 17 = T.2 17 := by
  intro k
  induction k with
  | zero =>
    intro _
    rw [hT]
    exact ⟨hR, hC, hD, QD.refl S, rfl⟩
  | succ k ih =>
    intro hk
    obtain ⟨r, c, d, q, e⟩ := ih (by omega)
    have hk2 : k < cN (LX3_control_2_S S k) := by rw [q.cN_eq]; omega
    have x := ctl_step (q.inv hI) hk2 r c d
    have e1 : LX3_control_2_S S (k + 1) = ctlC (LX3_control_2_S S k) k := rfl
    have hb2 : ¬ (LX12_tick_29_S T0 k).2 11 50 ≤ 0 := by
      have g := r.2.1.2.2.1
      rw [g, q.2 0 (by decide)]
      exact fun z => hb (i2z_le (y := 0).mp z)
    have e2 : LX12_tick_29_S T0 (k + 1) = sX12_controls_S (LX12_tick_29_S T0 k) k := by
      show (if _ then _ else _) = _
      rw [if_neg hb2]
    rw [e1, e2]
    exact ⟨x.1, x.2.1, x.2.2.1, q.trans x.2.2.2.1, (x.2.2.2.2.row (by decide)).trans e⟩
theorem control_sim {S T0 T : St} (hT : LX12_tick_29_S T0 0 = T) (hI : Inv S) (hR : Rel S T) (hC : RngC S) {B : Int} (hD : RngD S B) (S' : St) (hS' : S' = if S.1 0 8 ≤ 0 then S else sX3_control_S S) : Rel S' (LX12_tick_29_S T0 (cN S)) ∧ RngC S' ∧ RngD S' B ∧ QD S S' := by
  by_cases hb : S.1 0 8 ≤ 0
  · rw [if_pos hb] at hS'
    subst hS'
    have e : ∀ k, LX12_tick_29_S T0 k = T := by
      intro k
      induction k with
      | zero => exact hT
      | succ k ih =>
        show (if (LX12_tick_29_S T0 k).2 11 50 ≤ 0 then _ else _) = _
        rw [ih, if_pos]
        rw [hR.2.1.2.2.1]
        exact (i2z_le (y := 0)).mpr hb
    rw [e]
    exact ⟨hR, hC, hD, QD.refl S'⟩
  · rw [if_neg hb] at hS'
    subst hS'
    obtain ⟨r, c, d, q, -⟩ := controls_loop hT hb hI hR hC hD (cN S) (Nat.le_refl _)
    exact ⟨r, c, d, q⟩
