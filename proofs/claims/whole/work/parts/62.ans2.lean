theorem op_roller {S T : St} {B : Int} {m : Nat} (h : J S T B m) (hm5 : m ≤ 512) (S2 : St) (r : Nat) (hr : r ≤ cN S) (y : Int32) : sX11_roller S S2 r y = sX12_roller T r y := by
  obtain ⟨hI, hR, hC, hD, hm⟩ := h
  obtain ⟨v1, -⟩ := speed_sim hI hR.1 hR.2.1.2.2.1 (fun i hi => (hR.2.2.2.1 i hi).1.2.1) hC hD.1.2.1 (fun i hi => (hD.2.1 i hi).2.1) r hr
  by_cases h1 : y = 1
  · subst h1
    exact v1.symm
  by_cases h0 : y = 0
  · subst h0
    show S.2 5 r = if r = 0 then T.2 11 61 else T.2 11 (((8 * r) - 8) + 4)
    by_cases z : r = 0
    · subst z
      exact hR.2.1.2.2.2.2.2.2.symm
    · obtain ⟨i, rfl⟩ : ∃ i, r = i + 1 := ⟨r - 1, by omega⟩
      rw [if_neg z, show 8 * (i + 1) - 8 = 8 * i by omega]
      exact (hR.2.2.2.1 i (by omega)).1.2.2.1.symm
  by_cases h2 : y = 2
  · subst h2
    show (S.1 17 r).toInt64 = if r = 0 then 0 else T.2 10 (r - 1)
    by_cases z : r = 0
    · subst z
      rw [if_pos rfl, hC.2.1.1]
      rfl
    · obtain ⟨i, rfl⟩ : ∃ i, r = i + 1 := ⟨r - 1, by omega⟩
      rw [if_neg z, show i + 1 - 1 = i by omega]
      exact (hR.1.2 i (by omega)).1.2.2.symm
  by_cases h3 : y = 3
  · subst h3
    show (S.1 18 r).toInt64 = if r = 0 then 0 else T.2 11 (((8 * r) - 8) + 3)
    by_cases z : r = 0
    · subst z
      rw [if_pos rfl, hC.2.1.2]
      rfl
    · obtain ⟨i, rfl⟩ : ∃ i, r = i + 1 := ⟨r - 1, by omega⟩
      rw [if_neg z, show 8 * (i + 1) - 8 = 8 * i by omega]
      exact (hR.2.2.2.1 i (by omega)).1.2.1.symm
  unfold sX11_roller sX12_roller
  rw [if_neg h0, if_neg h1, if_neg h2, if_neg h3, in_eq y 0 3 0 3 rfl rfl, if_pos]
  · rfl
  · by_cases z : sX11_isWithin y 0 3 = 0
    · exact z
    · have r := within_rI z
      exfalso
      have r1 : 0 ≤ y.toInt := r.1
      have r2 : y.toInt ≤ 3 := r.2
      have k : ∀ n : Int32, ¬ y = n → ¬ y.toInt = n.toInt := fun n hn e => hn (ieq.mpr e)
      have k0 : ¬ y.toInt = 0 := k 0 h0
      have k1 : ¬ y.toInt = 1 := k 1 h1
      have k2 : ¬ y.toInt = 2 := k 2 h2
      have k3 : ¬ y.toInt = 3 := k 3 h3
      omega
theorem op_markDistance {S T : St} {B : Int} {m : Nat} (h : J S T B m) (hB : 0 ≤ B ∧ B ≤ 200000) (hm5 : m ≤ 512) (S2 : St) (j : Nat) (hj : j < cM S) : sX11_markDistance S S2 j = sX12_markDistance T j := by
  obtain ⟨hI, hR, hC, hD, hm⟩ := h
  obtain ⟨f1, f2, f3, f4, f5⟩ := relM_facts hI hR (Nat.le_trans hm hm5)
  have m1 := mSum_mono (fun i hi => (hD.2.1 i hi).1) 0 (cN S) (by omega)
  have b := hD.2.2.1
  have p := hD.1.2.2.2.1
  have d := hD.2.2.2.1 j hj
  have e1 := place_int hB hD (cN S) (cN S) (cN S) (Nat.le_refl _)
  have e2 := mat_int hB hD hR.2.2.2.1 (cN S) (cN S) (Nat.le_refl _)
  have e61 : T.2 11 61 = S.2 5 0 := hR.2.1.2.2.2.2.2.2
  unfold sX11_markDistance sX12_markDistance sX3_placeAtRoller sX12_materialTo
  rw [f2, e61, hR.2.2.2.2.1.2 j hj, zeq]
  have e3 : (LX12_materialTo_5_2 T (cN S) (cN S) - S.2 5 0).toInt = mSum S (cN S) - (S.2 5 0).toInt := by rw [zsub (by omega), e2]
  rw [zsub (by omega), e1, zadd (by omega), e3]
  omega
theorem op_event {S T : St} {B : Int} {m : Nat} (h : J S T B m) (S2 : St) (j : Nat) (hj : j < cC S) (w : Nat) (hw : w ≤ 2) : sX11_event S S2 j (nI w) = sX12_event T j w := by
  obtain ⟨hI, hR, hC, hD, hm⟩ := h
  have e := hR.2.2.2.2.2.1.2 j hj
  unfold sX12_event
  obtain rfl | rfl | rfl : w = 0 ∨ w = 1 ∨ w = 2 := by omega
  · show S.1 2 ((cO S + j) % 30) = (T.2 13 (3 * j)).toInt32
    rw [e.1, i2z2i]
  · show S.1 3 ((cO S + j) % 30) = (T.2 13 (3 * j + 1)).toInt32
    rw [e.2.1, i2z2i]
  · show S.1 4 ((cO S + j) % 30) = (T.2 13 (3 * j + 2)).toInt32
    rw [e.2.2, i2z2i]
theorem op_event_no (S T S2 : St) (x y : Int32) : sX11_event_no S S2 x y = sX12_event_no T x y := by
  unfold sX11_event_no sX12_event_no
  rw [in_eq y 0 2 0 2 rfl rfl]
theorem op_event_w {S S2 : St} (j : Nat) (y : Int32) (T : St) (x : Int32) (h : sX11_isWithin y 0 2 = 0) : sX11_event S S2 j y = sX12_event_w T x y := by
  unfold sX11_event sX12_event_w
  rw [if_pos h]
