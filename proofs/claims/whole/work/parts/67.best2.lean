theorem steady_bound {S : St} (hC : RngC S) {u v : Int64} (hu : 0 ≤ u.toInt ∧ u.toInt ≤ 24000) (hv : 0 < v.toInt ∧ v.toInt ≤ 20000) : 0 ≤ (sX10_steadyTensionAt S u v).toInt ∧ (sX10_steadyTensionAt S u v).toInt ≤ 300000000000 := by
  obtain ⟨r1, r2, -⟩ := hC.1
  unfold rI at r1 r2
  unfold sX10_steadyTensionAt
  rw [max0]
  have e1 : ((S.1 0 4).toInt64 + (S.1 0 5).toInt64).toInt = (S.1 0 4).toInt + (S.1 0 5).toInt := by rw [zadd (by rw [i2z, i2z]; omega), i2z, i2z]
  have b1 : 0 ≤ ((S.1 0 4).toInt + (S.1 0 5).toInt) * u.toInt := Int.mul_nonneg (by omega) hu.1
  have b2 : ((S.1 0 4).toInt + (S.1 0 5).toInt) * u.toInt ≤ ((S.1 0 4).toInt + (S.1 0 5).toInt) * 24000 := Int.mul_le_mul_of_nonneg_left hu.2 (by omega)
  have b3 : 0 ≤ (S.1 0 4).toInt * v.toInt := Int.mul_nonneg (by omega) (by omega)
  have b4 : (S.1 0 4).toInt * v.toInt ≤ (S.1 0 4).toInt * 20000 := Int.mul_le_mul_of_nonneg_left hv.2 (by omega)
  have e2 : (((S.1 0 4).toInt64 + (S.1 0 5).toInt64) * u).toInt = ((S.1 0 4).toInt + (S.1 0 5).toInt) * u.toInt := by rw [zmul (by rw [e1]; omega), e1]
  have e3 : ((S.1 0 4).toInt64 * v).toInt = (S.1 0 4).toInt * v.toInt := by rw [zmul (by rw [i2z]; omega), i2z]
  have e4 : (((S.1 0 4).toInt64 + (S.1 0 5).toInt64) * u - (S.1 0 4).toInt64 * v).toInt = ((S.1 0 4).toInt + (S.1 0 5).toInt) * u.toInt - (S.1 0 4).toInt * v.toInt := by rw [zsub (by rw [e2, e3]; omega), e2, e3]
  refine max0_bounds ?_ (by decide)
  rw [quot_down hv.1, down_toInt hv.1, e4]
  exact Int.ediv_le_of_le_mul hv.1 (by omega)
theorem best_loop {S T : St} (hI : Inv S) (hR : RelC S T) (hC : RngC S) (S2 : St) (j : Nat) (hj : j < cN S) (h0 : ¬ S.1 0 9 = 0) (y : Int32) (hy : rI y 0 1000000) : ∀ k, k ≤ 801 → (∀ a b, ¬ (a = 10 ∧ b = j) → (LX12_bestDraw_58_S T j y k).2 a b = T.2 a b) ∧ (k = 0 ∨ (LX12_bestDraw_58_6 T j y k = LX11_bestDraw_71_7 S S2 j y k ∧ LX12_bestDraw_58_5 T j y k = LX11_bestDraw_71_6 S S2 j y k ∧ 0 ≤ (LX11_bestDraw_71_7 S S2 j y k).toInt)) := by
  intro k
  induction k with
  | zero => intro _; exact ⟨fun _ _ _ => rfl, Or.inl rfl⟩
  | succ k ih =>
    intro hk
    obtain ⟨hL, ih2⟩ := ih (by omega)
    refine ⟨fun a b hab => ?_, Or.inr ?_⟩
    · show (sJ (LX12_bestDraw_58_S T j y k) 10 j ((xDr k).toInt64)).2 a b = _
      rw [rJ_sk _ _ _ _ _ _ (by omega)]
      exact hL a b hab
    have st := best_step hI hR hC j hj h0 hL (xDr k)
    have g := hC.1.2.2.2.2.1
    have g2 := g
    unfold rI at g2
    have g3 : ¬ (S.1 0 9).toInt = 0 := fun z => h0 (ieq.mpr z)
    obtain ⟨-, n1, n2⟩ := nom_sim (r := j) hR hC (S.1 0 9) g hI.1.2.2 (cN S) j (by omega)
    have hn := hI.1.2.2
    have dx := xDr_toInt k (by omega)
    have dr := drawn_bounds (v := LX3_nominalSpeed_6_3 S j (S.1 0 9) (cN S) j) (d := xDr k) (a := 22760) ⟨n1, by omega⟩ (by decide) ⟨by rw [dx]; omega, by rw [dx]; omega⟩
    have dE : sX11_drawn (sX3_nominalSpeed S j (S.1 0 9) (cN S)) (xDr k) = sX12_down (LX3_nominalSpeed_6_3 S j (S.1 0 9) (cN S) j * (1000000 + (xDr k).toInt64)) 1000000 := by
      unfold sX11_drawn sX3_nominalSpeed
      rw [floorDiv_down (by decide)]
    have sb := steady_bound hC (u := sX11_drawn (sX3_nominalSpeed S j (S.1 0 9) (cN S)) (xDr k)) (v := (S.1 0 9).toInt64) (by rw [dE]; omega) (by rw [i2z]; omega)
    unfold LX12_bestDraw_58_6 LX12_bestDraw_58_5 LX11_bestDraw_71_7 LX11_bestDraw_71_6
    rw [st]
    generalize sX10_steadyTensionAt S (sX11_drawn (sX3_nominalSpeed S j (S.1 0 9) (cN S)) (xDr k)) ((S.1 0 9).toInt64) = s at sb ⊢
    unfold rI at hy
    have ed : (s - y.toInt64).toInt = s.toInt - y.toInt := by rw [zsub (by rw [i2z]; omega), i2z]
    have en : (-(s - y.toInt64)).toInt = -(s.toInt - y.toInt) := by rw [zneg (by rw [ed]; omega), ed]
    have ea : (sJ9_abs_067f4 (s - y.toInt64)) = if 0 ≤ s - y.toInt64 then s - y.toInt64 else -(s - y.toInt64) := rfl
    have ab : 0 ≤ (sJ9_abs_067f4 (s - y.toInt64)).toInt ∧ (sJ9_abs_067f4 (s - y.toInt64)).toInt ≤ 400000000000 := by
      rw [ea]
      by_cases z : 0 ≤ s - y.toInt64
      · rw [if_pos z]
        rw [zle, c0z] at z
        omega
      · rw [if_neg z]
        rw [zle, c0z] at z
        omega
    rw [show ∀ (α : Type) (p q : α), (if 0 ≤ s - y.toInt64 then p else q) = (if 0 ≤ s - y.toInt64 then p else q) from fun _ _ _ => rfl]
    generalize hA : sJ9_abs_067f4 (s - y.toInt64) = A at ea ab ⊢
    have m1 : (9223372036854775807 : Int64).toInt = 9223372036854775807 := rfl
    rcases ih2 with hk0 | ⟨i1, i2, i3⟩
    · subst hk0
      have q1 : LX12_bestDraw_58_6 T j y 0 < 0 := by show (-1 : Int64) < 0; decide
      have q2 : ¬ LX11_bestDraw_71_7 S S2 j y 0 ≤ A := by
        show ¬ (9223372036854775807 : Int64) ≤ A
        rw [zle, m1]
        omega
      rw [if_pos q1, if_pos q1, if_pos q1, if_pos q1, if_neg q2, if_neg q2]
      refine ⟨ea.symm, by split <;> rfl, ab.1⟩
    · have q1 : ¬ LX11_bestDraw_71_7 S S2 j y k < 0 := by rw [zlt, c0z]; omega
      rw [i1, i2]
      simp only [if_neg q1]
      by_cases z : 0 ≤ s - y.toInt64
      · rw [if_pos z] at ea
        simp only [if_pos z]
        rw [← ea]
        exact ⟨rfl, rfl, by split <;> omega⟩
      · rw [if_neg z] at ea
        simp only [if_neg z, ← ea]
        exact ⟨trivial, trivial, by split <;> omega⟩
