theorem steady_bound {S : St} (hC : RngC S) {u v : Int64} (hu : 0 ≤ u.toInt ∧ u.toInt ≤ 24000) (hv : 0 < v.toInt ∧ v.toInt ≤ 20000) : 0 ≤ (sX10_steadyTensionAt S u v).toInt ∧ (sX10_steadyTensionAt S u v).toInt ≤ 300000000000 := by
  obtain ⟨r1, r2, -⟩ := hC.1
  unfold rI at r1 r2
  unfold sX10_steadyTensionAt
  rw [max0]
  have e1 : ((S.1 0 4).toInt64 + (S.1 0 5).toInt64).toInt = (S.1 0 4).toInt + (S.1 0 5).toInt := by rw [zadd (by rw [i2z, i2z]; omega), i2z, i2z]
  have b1 : 0 ≤ ((S.1 0 4).toInt + (S.1 0 5).toInt) * u.toInt := Int.mul_nonneg (by omega) hu.1
  have b2 : ((S.1 0 4).toInt + (S.1 0 5).toInt) * u.toInt ≤ ((S.1 0 4).toInt + (S.1 0 5).toInt) * 24000 := Int.mul_le_mul_of_nonneg_left hu.2 (by omega)
  have b3 : 0 ≤ (S.1 0 4).toInt * v.toInt := Int.mul_nonneg (by omega) (by omega)
  have b4 : (S.1 0 4).toInt * v.toInt ≤ (S.1 0 4).toInt * 20000 := Int.mul_le_mul_of_nonneg_left hv.2 (by omega)
  have e2 : (((S.1 0 4).toInt64 + (S.1 0 5).toInt64) * u).toInt = ((S.1 0 4).toInt + (S.1 0 5).toInt) * u.toInt := by rw [zmul (by rw [e1]; omega), e1]
  have e3 : ((S.1 0 4).toInt64 * v).toInt = (S.1 0 4).toInt * v.toInt := by rw [zmul (by rw [i2z]; omega), i2z]
  have e4 : (((S.1 0 4).toInt64 + (S.1 0 5).toInt64) * u - (S.1 0 4).toInt64 * v).toInt = ((S.1 0 4).toInt + (S.1 0 5).toInt) * u.toInt - (S.1 0 4).toInt * v.toInt := by rw [zsub (by rw [e2, e3]; omega), e2, e3]
  refine max0_bounds ?_ (by decide)
  rw [quot_down hv.1, down_toInt hv.1, e4]
  exact Int.ediv_le_of_le_mul hv.1 (by omega)
theorem best_keep (T : St) (j : Nat) (y : Int32) : ∀ k a b, ¬ (a = 10 ∧ b = j) → (LX12_bestDraw_58_S T j y k).2 a b = T.2 a b := by
  intro k
  induction k with
  | zero => exact fun _ _ _ => rfl
  | succ k ih =>
    intro a b hab
    show (sJ (LX12_bestDraw_58_S T j y k) 10 j ((xDr k).toInt64)).2 a b = _
    rw [rJ_sk _ _ _ _ _ _ (by omega)]
    exact ih a b hab
theorem best_turn {S T : St} (hI : Inv S) (hR : RelC S T) (hC : RngC S) (j : Nat) (hj : j < cN S) (h0 : ¬ S.1 0 9 = 0) (y : Int32) (hy : rI y 0 1000000) (k : Nat) (hk : k < 801) : ∃ G : Int64, G = sX10_steadyGap S y (sX11_drawn (sX3_nominalSpeed S j (S.1 0 9) (cN S)) (xDr k)) ((S.1 0 9).toInt64) ∧ 0 ≤ G.toInt ∧ LX12_bestDraw_58_6 T j y (k + 1) = (if LX12_bestDraw_58_6 T j y k < 0 then G else if LX12_bestDraw_58_6 T j y k ≤ G then LX12_bestDraw_58_6 T j y k else G) ∧ LX12_bestDraw_58_5 T j y (k + 1) = (if LX12_bestDraw_58_6 T j y k < 0 then xDr k else if LX12_bestDraw_58_6 T j y k ≤ G then LX12_bestDraw_58_5 T j y k else xDr k) := by
  have st := best_step hI hR hC j hj h0 (best_keep T j y k) (xDr k)
  have g := hC.1.2.2.2.2.1
  have g2 := g
  unfold rI at g2
  have g3 : ¬ (S.1 0 9).toInt = 0 := fun z => h0 (ieq.mpr z)
  obtain ⟨-, n1, n2⟩ := nom_sim (r := j) hR hC (S.1 0 9) g hI.1.2.2 (cN S) j (by omega)
  have hn := hI.1.2.2
  have dx := xDr_toInt k (by omega)
  have dr := drawn_bounds (v := LX3_nominalSpeed_6_3 S j (S.1 0 9) (cN S) j) (d := xDr k) (a := 22760) ⟨n1, by omega⟩ (by decide) ⟨by rw [dx]; omega, by rw [dx]; omega⟩
  have dE : sX11_drawn (sX3_nominalSpeed S j (S.1 0 9) (cN S)) (xDr k) = sX12_down (LX3_nominalSpeed_6_3 S j (S.1 0 9) (cN S) j * (1000000 + (xDr k).toInt64)) 1000000 := by
    unfold sX11_drawn sX3_nominalSpeed
    rw [floorDiv_down (by decide)]
  have sb := steady_bound hC (u := sX11_drawn (sX3_nominalSpeed S j (S.1 0 9) (cN S)) (xDr k)) (v := (S.1 0 9).toInt64) (by rw [dE]; omega) (by rw [i2z]; omega)
  generalize hA : LX12_bestDraw_58_6 T j y k = a6
  generalize hB : LX12_bestDraw_58_5 T j y k = a5
  unfold LX12_bestDraw_58_6 LX12_bestDraw_58_5 sX10_steadyGap
  rw [st, hA, hB]
  generalize sX10_steadyTensionAt S (sX11_drawn (sX3_nominalSpeed S j (S.1 0 9) (cN S)) (xDr k)) ((S.1 0 9).toInt64) = s at sb ⊢
  unfold rI at hy
  have ed : (s - y.toInt64).toInt = s.toInt - y.toInt := by rw [zsub (by rw [i2z]; omega), i2z]
  have en : (-(s - y.toInt64)).toInt = -(s.toInt - y.toInt) := by rw [zneg (by rw [ed]; omega), ed]
  have ea : (sJ9_abs_067f4 (s - y.toInt64)) = if 0 ≤ s - y.toInt64 then s - y.toInt64 else -(s - y.toInt64) := rfl
  by_cases z : 0 ≤ s - y.toInt64
  · have z2 := z
    rw [zle, c0z] at z2
    rw [if_pos z] at ea
    refine ⟨_, ea.symm, by omega, ?_, ?_⟩
    · exact if_pos z
    · exact if_pos z
  · have z2 := z
    rw [zle, c0z] at z2
    rw [if_neg z] at ea
    refine ⟨_, ea.symm, by omega, ?_, ?_⟩
    · exact if_neg z
    · exact if_neg z
theorem best_loop {S T : St} (hI : Inv S) (hR : RelC S T) (hC : RngC S) (S2 : St) (j : Nat) (hj : j < cN S) (h0 : ¬ S.1 0 9 = 0) (y : Int32) (hy : rI y 0 1000000) : ∀ k, k ≤ 800 → LX12_bestDraw_58_6 T j y (k + 1) = LX11_bestDraw_88_7 S S2 j y k ∧ LX12_bestDraw_58_5 T j y (k + 1) = LX11_bestDraw_88_6 S S2 j y k ∧ 0 ≤ (LX11_bestDraw_88_7 S S2 j y k).toInt := by
  intro k
  induction k with
  | zero =>
    intro _
    obtain ⟨G, eG, pG, e6, e5⟩ := best_turn hI hR hC j hj h0 y hy 0 (by decide)
    have q1 : LX12_bestDraw_58_6 T j y 0 < 0 := by show (-1 : Int64) < 0; decide
    rw [if_pos q1] at e6 e5
    have c7 : LX11_bestDraw_88_7 S S2 j y 0 = G := eG.symm
    rw [c7]
    exact ⟨e6, e5, pG⟩
  | succ k ih =>
    intro hk
    obtain ⟨i1, i2, i3⟩ := ih (by omega)
    obtain ⟨G, eG, pG, e6, e5⟩ := best_turn hI hR hC j hj h0 y hy (k + 1) (by omega)
    have q1 : ¬ LX12_bestDraw_58_6 T j y (k + 1) < 0 := by rw [i1, zlt, c0z]; omega
    rw [if_neg q1, i1] at e6
    rw [if_neg q1, i1, i2] at e5
    have c7 : LX11_bestDraw_88_7 S S2 j y (k + 1) = if LX11_bestDraw_88_7 S S2 j y k ≤ G then LX11_bestDraw_88_7 S S2 j y k else G := by rw [eG]; rfl
    have c6 : LX11_bestDraw_88_6 S S2 j y (k + 1) = if LX11_bestDraw_88_7 S S2 j y k ≤ G then LX11_bestDraw_88_6 S S2 j y k else xDr (k + 1) := by rw [eG]; rfl
    rw [e6, e5, c7, c6]
    exact ⟨rfl, rfl, by split <;> omega⟩
