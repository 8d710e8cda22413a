/-- the class's controller of one span -/
def ctlC (S : St) (k : Nat) : St := (if (S.1 6 k) = 1 then (sI (sX0_move_S S k (sX8_tensionAt S k (S.1 0 4))) 18 (k + 1) (sX0_trim (sX0_move_S S k (sX8_tensionAt S k (S.1 0 4))) k)) else (if (S.1 6 k) = 2 then (sI S 18 (k + 1) (sX4_trimAfter S k (S.1 18 (k + 1)) (sX8_tensionAt S k (S.1 0 4)))) else S))
theorem dancer_sim {S T : St} {k : Nat} (hc : S.1 6 k = 1) (hk1 : T.1 1 k = S.1 6 k) (hten : sX12_tension T k = sX8_tensionAt S k (S.1 0 4)) (h13 : T.2 11 (8 * k + 1) = (S.1 13 k).toInt64) (h14 : T.2 11 (8 * k + 2) = (S.1 14 k).toInt64) (h3 : T.2 3 k = (S.1 8 k).toInt64) (h4 : T.2 4 k = (S.1 9 k).toInt64) (h5 : T.2 5 k = (S.1 10 k).toInt64) (h6 : T.2 6 k = (S.1 11 k).toInt64) (h7 : T.2 7 k = (S.1 12 k).toInt64) (r8 : rI (S.1 8 k) 2 100000) (r10 : rI (S.1 10 k) 1 100000) :
    ∃ p q w : Int32, ctlC S k = sI (sI (sI S 13 k p) 14 k q) 18 (k + 1) w ∧ sX12_controls_S T k = sJ (sJ (sJ T 11 (8 * k + 1) p.toInt64) 11 (8 * k + 2) q.toInt64) 11 (8 * k + 3) w.toInt64 ∧ (0 ≤ p.toInt ∧ p.toInt ≤ (S.1 8 k).toInt) ∧ rI q (-1000000) 1000000 ∧ rI w (-2000) 2000 := by
  unfold rI at r8 r10
  generalize ht : sX8_tensionAt S k (S.1 0 4) = t at hten
  have e1 : sX11_limit (sX11_quotient ((S.1 9 k).toInt64 - (2 * t)) ((S.1 10 k).toInt64)) (-500) 500 = sX12_kept (sX12_down ((S.1 9 k).toInt64 - (2 * t)) ((S.1 10 k).toInt64)) (-500) 500 := by
    rw [limit_kept (by decide), quot_down (by rw [i2z]; omega)]
  obtain ⟨p, hpC, hpM, hp1, hp2⟩ : ∃ p : Int32, (sX11_limit (((S.1 13 k).toInt64) + (sX11_limit (sX11_quotient (((S.1 9 k).toInt64) - (2 * t)) ((S.1 10 k).toInt64)) (-500) 500)) 0 ((S.1 8 k).toInt64)).toInt32 = p ∧ sX12_kept ((S.1 13 k).toInt64 + sX12_kept (sX12_down ((S.1 9 k).toInt64 - (2 * t)) ((S.1 10 k).toInt64)) (-500) 500) 0 ((S.1 8 k).toInt64) = p.toInt64 ∧ 0 ≤ p.toInt ∧ p.toInt ≤ (S.1 8 k).toInt := by
    have g := lim_eq (((S.1 13 k).toInt64) + (sX11_limit (sX11_quotient (((S.1 9 k).toInt64) - (2 * t)) ((S.1 10 k).toInt64)) (-500) 500)) (a := 0) (b := (S.1 8 k).toInt64) (by rw [i2z, c0z]; omega) (by decide) (by rw [i2z]; omega)
    refine ⟨_, rfl, ?_, g.2.1, by have := g.2.2; rw [i2z] at this; exact this⟩
    rw [g.1, e1]
  obtain ⟨er1, er2⟩ := err_sim (p := p) (x := S.1 8 k) ⟨hp1, by omega⟩ ⟨by omega, r8.2⟩
  obtain ⟨q, hqC, hqM, hq⟩ : ∃ q : Int32, (sX11_limit (((S.1 14 k).toInt64) + ((p - (S.1 8 k) / 2).toInt64)) (-1000000) 1000000).toInt32 = q ∧ sX12_kept ((S.1 14 k).toInt64 + (p.toInt64 - (S.1 8 k).toInt64 / 2)) (-1000000) 1000000 = q.toInt64 ∧ rI q (-1000000) 1000000 := by
    have g := lim_eq (((S.1 14 k).toInt64) + ((p - (S.1 8 k) / 2).toInt64)) (a := -1000000) (b := 1000000) (by decide) (by decide) (by decide)
    refine ⟨_, rfl, ?_, g.2⟩
    rw [g.1, er1]
  obtain ⟨w, hwC, hwM, hw⟩ : ∃ w : Int32, (sX11_limit ((sJ9_floorDiv_f86c9 (((S.1 11 k).toInt64) * ((p - (S.1 8 k) / 2).toInt64)) 1000) + (sJ9_floorDiv_f86c9 (((S.1 12 k).toInt64) * (q.toInt64)) 1000000)) (-2000) 2000).toInt32 = w ∧ sX12_kept (sX12_down ((S.1 11 k).toInt64 * (p.toInt64 - (S.1 8 k).toInt64 / 2)) 1000 + sX12_down ((S.1 12 k).toInt64 * q.toInt64) 1000000) (-2000) 2000 = w.toInt64 ∧ rI w (-2000) 2000 := by
    have g := lim_eq ((sJ9_floorDiv_f86c9 (((S.1 11 k).toInt64) * ((p - (S.1 8 k) / 2).toInt64)) 1000) + (sJ9_floorDiv_f86c9 (((S.1 12 k).toInt64) * (q.toInt64)) 1000000)) (a := -2000) (b := 2000) (by decide) (by decide) (by decide)
    refine ⟨_, rfl, ?_, g.2⟩
    rw [g.1, er1, floorDiv_down (by decide), floorDiv_down (by decide)]
  refine ⟨p, q, w, ?_, ?_, ⟨hp1, hp2⟩, hq, hw⟩
  · have m : sX0_move_S S k t = sI (sI S 13 k p) 14 k q := by
      unfold sX0_move_S
      rw [hpC]
      have er : sX0_error (sI S 13 k p) k = p - S.1 8 k / 2 := by
        unfold sX0_error
        rw [rI_at, rI_sk _ _ _ _ _ _ (by omega)]
      rw [er, hqC]
    unfold ctlC
    rw [if_pos hc, ht, m]
    have tr : sX0_trim (sI (sI S 13 k p) 14 k q) k = w := by
      unfold sX0_trim sX0_error
      rw [rI_at, rI_sk _ 14 _ _ 13 _ (by omega), rI_at, rI_sk _ 14 _ _ 8 _ (by omega), rI_sk _ 13 _ _ 8 _ (by omega), rI_sk _ 14 _ _ 11 _ (by omega), rI_sk _ 13 _ _ 11 _ (by omega), rI_sk _ 14 _ _ 12 _ (by omega), rI_sk _ 13 _ _ 12 _ (by omega)]
      exact hwC
    rw [tr]
  · unfold sX12_controls_S
    rw [hk1, hc, if_pos rfl, if_neg (by decide), hten, h13, h14, h3, h4, h5, h6, h7, hpM, hqM, hwM]
theorem cell_sim {S T : St} {k : Nat} (hc : S.1 6 k = 2) (hk1 : T.1 1 k = S.1 6 k) (hten : sX12_tension T k = sX8_tensionAt S k (S.1 0 4)) (h18 : T.2 11 (8 * k + 3) = (S.1 18 (k + 1)).toInt64) (h8 : T.2 8 k = (S.1 15 k).toInt64) (h9 : T.2 9 k = (S.1 16 k).toInt64) :
    ∃ w : Int32, ctlC S k = sI S 18 (k + 1) w ∧ sX12_controls_S T k = sJ T 11 (8 * k + 3) w.toInt64 ∧ rI w (-2000) 2000 := by
  have g := lim_eq (((S.1 18 (k + 1)).toInt64) + (sJ9_floorDiv_f86c9 (((S.1 16 k).toInt64) * (((S.1 15 k).toInt64) - (sX8_tensionAt S k (S.1 0 4)))) 1000000)) (a := -2000) (b := 2000) (by decide) (by decide) (by decide)
  refine ⟨_, ?_, ?_, g.2⟩
  · unfold ctlC sX4_trimAfter
    rw [if_neg (by rw [hc]; decide), if_pos hc]
  · unfold sX12_controls_S
    rw [hk1, hc, if_neg (by decide), if_pos rfl, hten, h18, h8, h9, g.1, floorDiv_down (by decide)]
