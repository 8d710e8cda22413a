/-! ===== the best draw: one trial ===== -/
theorem nomM_draw {T L : St} {j : Nat} (h : ∀ b, ¬ b = j → L.2 10 b = T.2 10 b) (r : Nat) (x : Int64) : ∀ k, k ≤ j → LX12_nominalSpeed_6_4 L r x k = LX12_nominalSpeed_6_4 T j x k := by
  intro k
  induction k with
  | zero => intro _; rfl
  | succ k ih =>
    intro hk
    unfold LX12_nominalSpeed_6_4
    rw [ih (by omega), h k (by omega)]
theorem best_step {S T L : St} (hI : Inv S) (hR : RelC S T) (hC : RngC S) (j : Nat) (hj : j < cN S) (h0 : ¬ S.1 0 9 = 0) (hL : ∀ a b, ¬ (a = 10 ∧ b = j) → L.2 a b = T.2 a b) (d : Int32) : sX12_steady (sJ L 10 j d.toInt64) j = sX10_steadyTensionAt S (sX11_drawn (sX3_nominalSpeed S j (S.1 0 9) (cN S)) d) ((S.1 0 9).toInt64) := by
  have g := hC.1.2.2.2.2.1
  have hp : 0 < ((S.1 0 9).toInt64).toInt := by
    unfold rI at g
    have : ¬ (S.1 0 9).toInt = 0 := fun z => h0 (ieq.mpr z)
    rw [i2z]
    omega
  obtain ⟨e, -, -⟩ := nom_sim (r := j) hR hC (S.1 0 9) g hI.1.2.2 (cN S) j (by omega)
  have r0 : ∀ b, (sJ L 10 j d.toInt64).2 0 b = T.2 0 b := fun b => by rw [rJ_sk _ _ _ _ _ _ (by omega), hL 0 b (by omega)]
  have n : sX12_nominalSpeed (sJ L 10 j d.toInt64) (j + 1) ((S.1 0 9).toInt64) = sX11_drawn (sX3_nominalSpeed S j (S.1 0 9) (cN S)) d := by
    unfold sX12_nominalSpeed sX3_nominalSpeed sX11_drawn
    rw [floorDiv_down (by decide)]
    show sX12_down (LX12_nominalSpeed_6_4 (sJ L 10 j d.toInt64) (j + 1) (S.1 0 9).toInt64 j * (1000000 + (sJ L 10 j d.toInt64).2 10 j)) 1000000 = _
    rw [rJ_at, nomM_draw (T := T) (L := sJ L 10 j d.toInt64) (fun b hb => by rw [rJ_ne _ _ _ _ _ hb, hL 10 b (by omega)]) (j + 1) _ j (Nat.le_refl _), e]
  unfold sX10_steadyTensionAt sX12_steady
  rw [r0, r0, r0, hR.1.2.1, hR.1.2.2.1, hR.1.2.2.2.2.2.1, n, quot_down hp, max0]
