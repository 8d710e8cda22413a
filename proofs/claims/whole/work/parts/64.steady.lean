/-! ===== the steady tension ===== -/
theorem steady_sim {S T : St} (hI : Inv S) (hR : RelC S T) (hC : RngC S) (j : Nat) (hj : j < cN S) (h0 : ¬ S.1 0 9 = 0) : sX10_steadyTensionAt S (sX3_nominalSpeed S (j + 1) (S.1 0 9) (cN S)) ((S.1 0 9).toInt64) = sX12_steady T j := by
  have g := hC.1.2.2.2.2.1
  have hp : 0 < ((S.1 0 9).toInt64).toInt := by
    unfold rI at g
    have : ¬ (S.1 0 9).toInt = 0 := fun z => h0 (ieq.mpr z)
    rw [i2z]
    omega
  obtain ⟨e, -, -⟩ := nom_sim hR hC (j + 1) (S.1 0 9) g hI.1.2.2 (cN S) (j + 1) (by omega)
  unfold sX10_steadyTensionAt sX12_steady sX12_nominalSpeed sX3_nominalSpeed
  rw [hR.1.2.1, hR.1.2.2.1, hR.1.2.2.2.2.2.1, e, quot_down hp, max0]
theorem op_steadyTension {S T : St} {B : Int} {m : Nat} (h : J S T B m) (S2 : St) (j : Nat) (hj : j < cN S) : sX11_steadyTension S S2 j = sX12_steadyTension T j := by
  obtain ⟨hI, hR, hC, hD, hm⟩ := h
  unfold sX11_steadyTension sX12_steadyTension
  have z : T.2 0 4 = 0 ↔ S.1 0 9 = 0 := by
    rw [hR.1.1.2.2.2.2.2.1]
    exact i2z_eq (y := 0)
  by_cases h0 : S.1 0 9 = 0
  · rw [if_pos h0, if_pos (z.mpr h0)]
  · rw [if_neg h0, if_neg (fun y => h0 (z.mp y)), steady_sim hI hR.1 hC j hj h0]
