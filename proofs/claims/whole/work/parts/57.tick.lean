/-! ===== the whole tick ===== -/
theorem inspect_loop {S T0 : St} (hI : Inv S) (hR : Rel S (LX12_tick_29_S T0 (cN T0))) (hC : RngC S) {B : Int} (hB : 0 ≤ B ∧ B ≤ 199999) (hD : RngD S (B + 1)) (hbud : cM S + cQ S ≤ 512) (hs : ∀ i, i < cN S → rI (S.1 7 i) 0 B) : ∀ k, k ≤ cN S → Rel (LX3_inspect_17_S S k) (LX12_tick_66_S T0 k) ∧ RngC (LX3_inspect_17_S S k) ∧ RngD (LX3_inspect_17_S S k) (B + 1) ∧ Inv (LX3_inspect_17_S S k) ∧ cN (LX3_inspect_17_S S k) = cN S ∧ cM (LX3_inspect_17_S S k) + cQ (LX3_inspect_17_S S k) ≤ cM S + cQ S ∧ (∀ i, k ≤ i → (LX3_inspect_17_S S k).1 7 i = S.1 7 i) := by
  intro k
  induction k with
  | zero =>
    intro _
    obtain ⟨r, c, d, n, m, s⟩ := drop_sim (by omega) hI hR hC hD hbud _ rfl
    exact ⟨r, c, d, inv_X5_dropUpTo S _ hI, n, m, fun i _ => congrFun s i⟩
  | succ k ih =>
    intro hk
    obtain ⟨r, c, d, J, n, m, s⟩ := ih (by omega)
    have w := watch_sim (n := cN S) J (k := k) (by rw [n]; omega) r c hB d (by omega) (by rw [s k (Nat.le_refl _)]; exact hs k (by omega))
    have e1 : LX3_inspect_17_S S (k + 1) = inC (LX3_inspect_17_S S k) k (cN S) (cM (LX3_inspect_17_S S k)) := rfl
    have e2 : LX12_tick_66_S T0 (k + 1) = sX12_watch_S (LX12_tick_66_S T0 k) k := rfl
    rw [e1, e2]
    exact ⟨w.1, w.2.1, w.2.2.1, w.2.2.2.1, w.2.2.2.2.2.1.trans n, by rw [w.2.2.2.2.2.2.1, w.2.2.2.2.2.2.2]; exact m, fun i hi => (w.2.2.2.2.1 i (by omega)).trans (s i (by omega))⟩
theorem tick_sim {S T : St} (hI : Inv S) (hR : Rel S T) (hC : RngC S) {B : Int} (hB : 0 ≤ B ∧ B ≤ 199999) (hD : RngD S B) (hbud : cM S + cQ S ≤ 512) (h2 : S.1 0 2 = 0) :
    Rel (sX3_tick_S S) (sX12_tick_S T) ∧ RngC (sX3_tick_S S) ∧ RngD (sX3_tick_S S) (B + 1) ∧ cN (sX3_tick_S S) = cN S ∧ cM (sX3_tick_S S) + cQ (sX3_tick_S S) ≤ cM S + cQ S ∧ OKT T := by
  obtain ⟨f1, f2, f3, f4, f5⟩ := relM_facts hI hR hbud
  obtain ⟨b, hb, R2, D2, s1, sr, am, am0, ok1, ok2⟩ := half_sim hI hR hC hB hD hbud
  have I2 : Inv (sX3_passWeb_S (hS1 S b)) := inv_X3_passWeb (hS1 S b) hI
  have C2 : RngC (sX3_passWeb_S (hS1 S b)) := RngC.congr (S := hS1 S b) s1 hC
  have n2 : cN (sX3_passWeb_S (hS1 S b)) = cN S := by unfold cN; rw [s1]; rfl
  have m2 : cM (sX3_passWeb_S (hS1 S b)) = cM S := by unfold cM; rw [s1]; rfl
  have q2 : cQ (sX3_passWeb_S (hS1 S b)) = cQ S := by unfold cQ; rw [s1]; rfl
  have ok3 : ∀ j, j < cN T → ¬ (sX12_feed_S (mPre T)).2 11 (8 * j) = 0 := by
    intro j hj hz
    rw [f2] at hj
    have g := (R2.2.2.2.1 j (by rw [n2]; exact hj)).1.1
    have p := (D2.2.1 j (by rw [n2]; exact hj)).1
    rw [← g, hz, c0z] at p
    omega
  have ok4 : ∀ j, j < cN T → T.1 1 j = 1 → ¬ T.2 5 j = 0 := by
    intro j hj h1 hz
    rw [f2] at hj
    have c := hR.1.2 j hj
    have h6 : S.1 6 j = 1 := c.1.1.symm.trans h1
    have g := ((hC.2.2 j hj).2.2.2.1 h6).2.2.1.1
    rw [(c.2.1 h6).2.2.1, zeq, i2z, c0z] at hz
    omega
  obtain ⟨R3, C3, D3, n3, mq3, r3, r01, s73, s83, s15⟩ := unwind_sim I2 R2 C2 hB D2 (by rw [m2, q2]; exact hbud) (am 0 (by omega)) am0 (by rw [sr 0 (by decide) (by decide) (by decide)]; exact hD.1.2.2.2.2.1)
  have I3 := inv_X3_unwind _ I2
  have m2T : mQ (sX12_feed_S (mPre T)) ≤ 4 := by
    have g := relM_facts I2 R2 (by rw [m2, q2]; exact hbud)
    rw [g.2.2.1, q2]
    exact hI.2.1.2
  have a17 := unw17 _ m2T
  obtain ⟨R4, C4, D4, n4, mq4, r4, s74⟩ := wind_sim (T := sX12_unwind_S (sX12_feed_S (mPre T))) I3 R3 C3 hB D3 (by rw [mq3, m2, q2]; exact hbud) (by rw [a17, n3, n2, am (cN S) (Nat.le_refl _), r3 2 (by decide) (by decide)]) (by rw [s15, s1]; exact hD.1.2.2.1)
  have I4 := inv_X3_wind _ I3
  have t0 : LX12_tick_29_S T 0 = sX12_rewind_S (sX12_unwind_S (sX12_feed_S (mPre T))) := rfl
  obtain ⟨R5, C5, D5, Q5⟩ := control_sim t0 I4 R4 C4 D4 _ rfl
  have hn4 : cN (sX3_wind_S (sX3_unwind_S (sX3_passWeb_S (hS1 S b)))) = cN S := n4.trans (n3.trans n2)
  have eC : sX3_tick_S S = sX3_inspect_S (if (sX3_wind_S (sX3_unwind_S (sX3_passWeb_S (hS1 S b)))).1 0 8 ≤ 0 then sX3_wind_S (sX3_unwind_S (sX3_passWeb_S (hS1 S b))) else sX3_control_S (sX3_wind_S (sX3_unwind_S (sX3_passWeb_S (hS1 S b))))) := by
    unfold sX3_tick_S
    rw [if_pos h2, hb]
    split <;> rfl
  have s74' : ∀ i, (sX3_wind_S (sX3_unwind_S (sX3_passWeb_S (hS1 S b)))).1 7 i = S.1 7 i := fun i => by
    rw [s74, s73, s1]
    rfl
  rw [eC]
  generalize (if (sX3_wind_S (sX3_unwind_S (sX3_passWeb_S (hS1 S b)))).1 0 8 ≤ 0 then sX3_wind_S (sX3_unwind_S (sX3_passWeb_S (hS1 S b))) else sX3_control_S (sX3_wind_S (sX3_unwind_S (sX3_passWeb_S (hS1 S b))))) = S5 at R5 C5 D5 Q5 ⊢
  have n5 : cN S5 = cN S := Q5.cN_eq.trans hn4
  have mq5 : cM S5 + cQ S5 = cM S + cQ S := by rw [Q5.cM_eq, Q5.cQ_eq, mq4, mq3, m2, q2]
  rw [hn4, ← f2] at R5
  obtain ⟨r, c, d, J, n, m, -⟩ := inspect_loop (Q5.inv I4) R5 C5 hB D5 (by rw [mq5]; exact hbud) (fun i hi => by rw [Q5.2 7 (by decide), s74' i]; exact (hD.2.1 i (by rw [← n5]; exact hi)).2.2.1) (cN S5) (Nat.le_refl _)
  have eT : sX12_tick_S T = LX12_tick_66_S T (cN S5) := by
    unfold sX12_tick_S
    rw [n5, f2]
  rw [eT]
  exact ⟨r, c, d, n.trans n5, by rw [← mq5]; exact m, ⟨ok1, ok2, ok3, ok4⟩⟩
