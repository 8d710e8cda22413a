/-! ===== setDancer ===== -/
theorem half_eq {x : Int32} (h : rI x 0 100000) : x.toInt64 / 2 = (x / 2).toInt64 := by
  rw [zeq, half_z h, i2z, half_int h]
def cls4 (a : Nat) : Prop := a = 6 ∨ a = 8 ∨ a = 9 ∨ a = 10 ∨ a = 11 ∨ a = 12 ∨ a = 13 ∨ a = 14
theorem begin0_ne {S : St} {j : Nat} {x1 x2 x3 x4 x5 : Int32} (a b : Nat) (h : ¬ b = j ∨ ¬ kRow a) : (sX0_begin_S S j x1 x2 x3 x4 x5).1 a b = S.1 a b := by
  unfold kRow at h
  unfold sX0_begin_S sX0_centre_S
  rw [rI_sk _ _ _ _ _ _ (by omega), rI_sk _ _ _ _ _ _ (by omega), rI_sk _ _ _ _ _ _ (by omega), rI_sk _ _ _ _ _ _ (by omega), rI_sk _ _ _ _ _ _ (by omega), rI_sk _ _ _ _ _ _ (by omega), rI_sk _ _ _ _ _ _ (by omega)]
theorem op_setDancer {S T : St} {B : Int} {m : Nat} (h : J S T B m) (hz : Z0 S) (hB : 0 ≤ B) (S2 : St) (j : Nat) (hj : j < cN S) (x1 x2 x3 x4 x5 : Int32) : sX11_setDancer S S2 j x1 x2 x3 x4 x5 = sX12_setDancer T j x1 x2 x3 x4 x5 ∧ J (sX11_setDancer_S S S2 j x1 x2 x3 x4 x5) (sX12_setDancer_S T j x1 x2 x3 x4 x5) B m ∧ Z0 (sX11_setDancer_S S S2 j x1 x2 x3 x4 x5) := by
  unfold sX11_setDancer sX12_setDancer sX11_setDancer_S sX12_setDancer_S
  rw [in_eq x1 2 100000 2 100000 rfl rfl, in_eq x2 0 1000000 0 1000000 rfl rfl, in_eq x3 1 100000 1 100000 rfl rfl, in_eq x4 (-1000) 1000 (-1000) 1000 rfl rfl, in_eq x5 (-1000) 1000 (-1000) 1000 rfl rfl]
  by_cases h1 : sX11_isWithin x1 2 100000 = 0
  · simp only [if_pos h1]
    exact ⟨trivial, h, hz⟩
  simp only [if_neg h1]
  by_cases h2 : sX11_isWithin x2 0 1000000 = 0
  · simp only [if_pos h2]
    exact ⟨trivial, h, hz⟩
  simp only [if_neg h2]
  by_cases h3 : sX11_isWithin x3 1 100000 = 0
  · simp only [if_pos h3]
    exact ⟨trivial, h, hz⟩
  simp only [if_neg h3]
  by_cases h4 : sX11_isWithin x4 (-1000) 1000 = 0
  · simp only [if_pos h4]
    exact ⟨trivial, h, hz⟩
  simp only [if_neg h4]
  by_cases h5 : sX11_isWithin x5 (-1000) 1000 = 0
  · simp only [if_pos h5]
    exact ⟨trivial, h, hz⟩
  simp only [if_neg h5]
  have ht := h.time
  by_cases h6 : S.1 0 1 = 0
  · simp only [if_pos h6, if_pos (ht.mpr h6)]
    have r1 := within_rI h1
    have r2 := within_rI h2
    have r3 := within_rI h3
    have r4 := within_rI h4
    have r5 := within_rI h5
    have r1' : rI x1 0 100000 := ⟨by have := r1.1; show (0 : Int) ≤ _; have e : (2 : Int32).toInt = 2 := rfl; omega, r1.2⟩
    have hh := half_int r1'
    obtain ⟨hI, hR, hC, hD, hm⟩ := h
    have hn : cN S ≤ 6 := hI.1.2.2
    refine ⟨?_, ?_⟩
    · unfold sX8_equip sX12_equip
      rw [show (sX0_begin_S S j x1 x2 x3 x4 x5).1 6 j = S.1 6 j from by unfold sX0_begin_S sX0_centre_S; rw [rI_sk _ _ _ _ _ _ (by omega), rI_sk _ _ _ _ _ _ (by omega), rI_sk _ _ _ _ _ _ (by omega), rI_sk _ _ _ _ _ _ (by omega), rI_sk _ _ _ _ _ _ (by omega), rI_sk _ _ _ _ _ _ (by omega), rI_sk _ _ _ _ _ _ (by omega)]]
      show (if S.1 6 j = 0 then _ else _) = (if T.1 1 j = 0 then _ else _)
      rw [(hR.1.2 j hj).1.1]
    · unfold sX8_equip_S sX12_equip_S
      rw [if_pos rfl]
      have e6 : (sI (sX0_begin_S S j x1 x2 x3 x4 x5) 6 j 1).1 6 j = 1 := rI_at _ _ _ _
      have e13 : (sI (sX0_begin_S S j x1 x2 x3 x4 x5) 6 j 1).1 13 j = x1 / 2 := by
        unfold sX0_begin_S sX0_centre_S
        rw [rI_sk _ _ _ _ _ _ (by omega), rI_sk _ _ _ _ _ _ (by omega), rI_at, rI_sk _ _ _ _ _ _ (by omega), rI_sk _ _ _ _ _ _ (by omega), rI_sk _ _ _ _ _ _ (by omega), rI_sk _ _ _ _ _ _ (by omega), rI_at]
      have e14 : (sI (sX0_begin_S S j x1 x2 x3 x4 x5) 6 j 1).1 14 j = 0 := by
        unfold sX0_begin_S sX0_centre_S
        rw [rI_sk _ _ _ _ _ _ (by omega), rI_at]
      have e8 : (sI (sX0_begin_S S j x1 x2 x3 x4 x5) 6 j 1).1 8 j = x1 := by
        unfold sX0_begin_S sX0_centre_S
        rw [rI_sk _ _ _ _ _ _ (by omega), rI_sk _ _ _ _ _ _ (by omega), rI_sk _ _ _ _ _ _ (by omega), rI_sk _ _ _ _ _ _ (by omega), rI_sk _ _ _ _ _ _ (by omega), rI_sk _ _ _ _ _ _ (by omega), rI_sk _ _ _ _ _ _ (by omega), rI_at]
      have e9 : (sI (sX0_begin_S S j x1 x2 x3 x4 x5) 6 j 1).1 9 j = x2 := by
        unfold sX0_begin_S sX0_centre_S
        rw [rI_sk _ _ _ _ _ _ (by omega), rI_sk _ _ _ _ _ _ (by omega), rI_sk _ _ _ _ _ _ (by omega), rI_sk _ _ _ _ _ _ (by omega), rI_sk _ _ _ _ _ _ (by omega), rI_sk _ _ _ _ _ _ (by omega), rI_at]
      have e10 : (sI (sX0_begin_S S j x1 x2 x3 x4 x5) 6 j 1).1 10 j = x3 := by
        unfold sX0_begin_S sX0_centre_S
        rw [rI_sk _ _ _ _ _ _ (by omega), rI_sk _ _ _ _ _ _ (by omega), rI_sk _ _ _ _ _ _ (by omega), rI_sk _ _ _ _ _ _ (by omega), rI_sk _ _ _ _ _ _ (by omega), rI_at]
      have e11 : (sI (sX0_begin_S S j x1 x2 x3 x4 x5) 6 j 1).1 11 j = x4 := by
        unfold sX0_begin_S sX0_centre_S
        rw [rI_sk _ _ _ _ _ _ (by omega), rI_sk _ _ _ _ _ _ (by omega), rI_sk _ _ _ _ _ _ (by omega), rI_sk _ _ _ _ _ _ (by omega), rI_at]
      have e12 : (sI (sX0_begin_S S j x1 x2 x3 x4 x5) 6 j 1).1 12 j = x5 := by
        unfold sX0_begin_S sX0_centre_S
        rw [rI_sk _ _ _ _ _ _ (by omega), rI_sk _ _ _ _ _ _ (by omega), rI_sk _ _ _ _ _ _ (by omega), rI_at]
      have n2 : ¬ (1 : Int32) = 2 := by decide
      have t3 : (sJ (sJ (sJ (sJ (sJ T 3 j x1.toInt64) 4 j x2.toInt64) 5 j x3.toInt64) 6 j x4.toInt64) 7 j x5.toInt64).2 3 j = x1.toInt64 := by
        rw [rJ_sk _ _ _ _ _ _ (by omega), rJ_sk _ _ _ _ _ _ (by omega), rJ_sk _ _ _ _ _ _ (by omega), rJ_sk _ _ _ _ _ _ (by omega), rJ_at]
      have k := kind_rel (S := S) (S' := sI (sX0_begin_S S j x1 x2 x3 x4 x5) 6 j 1) (T := T) (T' := sJ (sJ (sI (sJ (sJ (sJ (sJ (sJ T 3 j x1.toInt64) 4 j x2.toInt64) 5 j x3.toInt64) 6 j x4.toInt64) 7 j x5.toInt64) 1 j 1) 11 (8 * j + 1) (x1.toInt64 / 2)) 11 (8 * j + 2) 0) hI hj hR hC hD rfl
        (fun a ha => by
          have ha' := ha
          unfold kRow at ha
          funext b
          rw [rI_sk _ _ _ _ _ _ (by omega), begin0_ne a b (Or.inr ha')])
        (fun a i hi => by
          rw [rI_sk _ _ _ _ _ _ (by omega), begin0_ne a i (Or.inl hi)])
        rfl
        (fun i hi => by
          show (sI (sJ (sJ (sJ (sJ (sJ T 3 j x1.toInt64) 4 j x2.toInt64) 5 j x3.toInt64) 6 j x4.toInt64) 7 j x5.toInt64) 1 j 1).1 1 i = _
          rw [rI_ne _ _ _ _ _ hi]
          rfl)
        (fun a i h3 h9 hi => by
          rw [rJ_sk _ _ _ _ _ _ (by omega), rJ_sk _ _ _ _ _ _ (by omega)]
          show (sJ (sJ (sJ (sJ (sJ T 3 j x1.toInt64) 4 j x2.toInt64) 5 j x3.toInt64) 6 j x4.toInt64) 7 j x5.toInt64).2 a i = _
          rw [rJ_sk _ _ _ _ _ _ (by omega), rJ_sk _ _ _ _ _ _ (by omega), rJ_sk _ _ _ _ _ _ (by omega), rJ_sk _ _ _ _ _ _ (by omega), rJ_sk _ _ _ _ _ _ (by omega)])
        (fun a h3 h11 => by
          funext b
          rw [rJ_sk _ _ _ _ _ _ (by omega), rJ_sk _ _ _ _ _ _ (by omega)]
          show (sJ (sJ (sJ (sJ (sJ T 3 j x1.toInt64) 4 j x2.toInt64) 5 j x3.toInt64) 6 j x4.toInt64) 7 j x5.toInt64).2 a b = _
          rw [rJ_sk _ _ _ _ _ _ (by omega), rJ_sk _ _ _ _ _ _ (by omega), rJ_sk _ _ _ _ _ _ (by omega), rJ_sk _ _ _ _ _ _ (by omega), rJ_sk _ _ _ _ _ _ (by omega)])
        (fun b b1 b2 => by
          rw [rJ_sk _ _ _ _ _ _ (by omega), rJ_sk _ _ _ _ _ _ (by omega)]
          show (sJ (sJ (sJ (sJ (sJ T 3 j x1.toInt64) 4 j x2.toInt64) 5 j x3.toInt64) 6 j x4.toInt64) 7 j x5.toInt64).2 11 b = _
          rw [rJ_sk _ _ _ _ _ _ (by omega), rJ_sk _ _ _ _ _ _ (by omega), rJ_sk _ _ _ _ _ _ (by omega), rJ_sk _ _ _ _ _ _ (by omega), rJ_sk _ _ _ _ _ _ (by omega)])
        (by
          rw [e6]
          show (sI (sJ (sJ (sJ (sJ (sJ T 3 j x1.toInt64) 4 j x2.toInt64) 5 j x3.toInt64) 6 j x4.toInt64) 7 j x5.toInt64) 1 j 1).1 1 j = _
          rw [rI_at])
        (fun _ => by
          rw [e8, e9, e10, e11, e12]
          refine ⟨?_, ?_, ?_, ?_, ?_⟩
          · rw [rJ_sk _ _ _ _ _ _ (by omega), rJ_sk _ _ _ _ _ _ (by omega)]
            exact t3
          · rw [rJ_sk _ _ _ _ _ _ (by omega), rJ_sk _ _ _ _ _ _ (by omega)]
            show (sJ (sJ (sJ (sJ (sJ T 3 j x1.toInt64) 4 j x2.toInt64) 5 j x3.toInt64) 6 j x4.toInt64) 7 j x5.toInt64).2 4 j = _
            rw [rJ_sk _ _ _ _ _ _ (by omega), rJ_sk _ _ _ _ _ _ (by omega), rJ_sk _ _ _ _ _ _ (by omega), rJ_at]
          · rw [rJ_sk _ _ _ _ _ _ (by omega), rJ_sk _ _ _ _ _ _ (by omega)]
            show (sJ (sJ (sJ (sJ (sJ T 3 j x1.toInt64) 4 j x2.toInt64) 5 j x3.toInt64) 6 j x4.toInt64) 7 j x5.toInt64).2 5 j = _
            rw [rJ_sk _ _ _ _ _ _ (by omega), rJ_sk _ _ _ _ _ _ (by omega), rJ_at]
          · rw [rJ_sk _ _ _ _ _ _ (by omega), rJ_sk _ _ _ _ _ _ (by omega)]
            show (sJ (sJ (sJ (sJ (sJ T 3 j x1.toInt64) 4 j x2.toInt64) 5 j x3.toInt64) 6 j x4.toInt64) 7 j x5.toInt64).2 6 j = _
            rw [rJ_sk _ _ _ _ _ _ (by omega), rJ_at]
          · rw [rJ_sk _ _ _ _ _ _ (by omega), rJ_sk _ _ _ _ _ _ (by omega)]
            show (sJ (sJ (sJ (sJ (sJ T 3 j x1.toInt64) 4 j x2.toInt64) 5 j x3.toInt64) 6 j x4.toInt64) 7 j x5.toInt64).2 7 j = _
            rw [rJ_at])
        (fun z => absurd (e6.symm.trans z) n2)
        (fun _ => by
          rw [e13, e14]
          refine ⟨?_, ?_⟩
          · rw [rJ_sk _ _ _ _ _ _ (by omega), rJ_at]
            exact half_eq r1'
          · rw [rJ_at]
            rfl)
        (Or.inr (Or.inl e6))
        (fun _ => by
          rw [e8, e9, e10, e11, e12]
          exact ⟨r1, r2, r3, r4, r5⟩)
        (fun z => absurd (e6.symm.trans z) n2)
        (fun _ => by
          rw [e13, e14, e8, hh]
          unfold rI at r1'
          refine ⟨by omega, by omega, by decide, by decide⟩)
      rw [t3]
      exact kind_end hB hj k hm (hz h6)
  · simp only [if_neg h6, if_neg (fun z => h6 (ht.mp z))]
    exact ⟨trivial, h, hz⟩
