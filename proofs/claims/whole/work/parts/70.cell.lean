/-! ===== setLoadCell ===== -/
/-- after a controller is set the material is the span's length -/
theorem kind_end {S T : St} {j : Nat} {B : Int} (hB : 0 ≤ B) {m : Nat} (hj : j < cN S) (h : Inv S ∧ Rel S T ∧ RngC S ∧ RngD S B) (hm : cM S + cQ S ≤ m) (hz : ∀ i, i < cN S → (S.2 3 i).toInt ≤ 10200000) : J (sJ S 3 j (sX8_length S j)) (sJ T 11 (8 * j) (sX12_length T j)) B m ∧ Z0 (sJ S 3 j (sX8_length S j)) := by
  obtain ⟨hI, hR, hC, hD⟩ := h
  have c := hR.1.2 j hj
  have s := hR.2.2.2.1 j hj
  have g := hC.2.2 j hj
  have d := hD.2.1 j hj
  obtain ⟨l1, l2, l3⟩ := len_sim c.1.1 c.1.2.1 (fun z => (s.2 z).1) g.1 (fun z => ⟨(d.2.2.2 z).1, by have x1 := (d.2.2.2 z).2.1; have x2 := (g.2.2.2.1 z).1.2; exact Int.le_trans x1 x2⟩)
  rw [l1]
  obtain ⟨r, d', z⟩ := mat_rel hI hj hR hB hD hz (sX8_length S j) ⟨by omega, l3⟩
  exact ⟨⟨hI, r, hC, d', hm⟩, fun _ => z⟩
theorem op_setLoadCell {S T : St} {B : Int} {m : Nat} (h : J S T B m) (hz : Z0 S) (hB : 0 ≤ B) (S2 : St) (j : Nat) (hj : j < cN S) (x y : Int32) : sX11_setLoadCell S S2 j x y = sX12_setLoadCell T j x y ∧ J (sX11_setLoadCell_S S S2 j x y) (sX12_setLoadCell_S T j x y) B m ∧ Z0 (sX11_setLoadCell_S S S2 j x y) := by
  unfold sX11_setLoadCell sX12_setLoadCell sX11_setLoadCell_S sX12_setLoadCell_S
  rw [in_eq x 0 1000000 0 1000000 rfl rfl, in_eq y (-10000) 10000 (-10000) 10000 rfl rfl]
  by_cases h1 : sX11_isWithin x 0 1000000 = 0
  · simp only [if_pos h1]
    exact ⟨trivial, h, hz⟩
  · simp only [if_neg h1]
    by_cases h2 : sX11_isWithin y (-10000) 10000 = 0
    · simp only [if_pos h2]
      exact ⟨trivial, h, hz⟩
    · simp only [if_neg h2]
      have ht := h.time
      by_cases h3 : S.1 0 1 = 0
      · simp only [if_pos h3, if_pos (ht.mpr h3)]
        have r1 := within_rI h1
        have r2 := within_rI h2
        obtain ⟨hI, hR, hC, hD, hm⟩ := h
        have hn : cN S ≤ 6 := hI.1.2.2
        refine ⟨?_, ?_⟩
        · unfold sX8_equip sX12_equip
          show (if S.1 6 j = 0 then _ else _) = (if T.1 1 j = 0 then _ else _)
          rw [(hR.1.2 j hj).1.1]
        · unfold sX8_equip_S sX12_equip_S
          rw [if_neg (show ¬ ((2 : Int32) = 1) by decide)]
          have e6 : (sI (sX4_begin_S S j x y) 6 j 2).1 6 j = 2 := rI_at _ _ _ _
          have n1 : ¬ (2 : Int32) = 1 := by decide
          have k := kind_rel (S := S) (S' := sI (sX4_begin_S S j x y) 6 j 2) (T := T) (T' := sJ (sJ (sI (sJ (sJ T 8 j x.toInt64) 9 j y.toInt64) 1 j 2) 11 (8 * j + 1) 0) 11 (8 * j + 2) 0) hI hj hR hC hD rfl
            (fun a ha => by
              unfold kRow at ha
              funext b
              unfold sX4_begin_S
              rw [rI_sk _ _ _ _ _ _ (by omega), rI_sk _ _ _ _ _ _ (by omega), rI_sk _ _ _ _ _ _ (by omega)])
            (fun a i hi => by
              unfold sX4_begin_S
              rw [rI_sk _ _ _ _ _ _ (by omega), rI_sk _ _ _ _ _ _ (by omega), rI_sk _ _ _ _ _ _ (by omega)])
            rfl
            (fun i hi => by
              show (sI (sJ (sJ T 8 j x.toInt64) 9 j y.toInt64) 1 j 2).1 1 i = _
              rw [rI_ne _ _ _ _ _ hi]
              rfl)
            (fun a i h3 h9 hi => by
              rw [rJ_sk _ _ _ _ _ _ (by omega), rJ_sk _ _ _ _ _ _ (by omega)]
              show (sJ (sJ T 8 j x.toInt64) 9 j y.toInt64).2 a i = _
              rw [rJ_sk _ _ _ _ _ _ (by omega), rJ_sk _ _ _ _ _ _ (by omega)])
            (fun a h3 h11 => by
              funext b
              rw [rJ_sk _ _ _ _ _ _ (by omega), rJ_sk _ _ _ _ _ _ (by omega)]
              show (sJ (sJ T 8 j x.toInt64) 9 j y.toInt64).2 a b = _
              rw [rJ_sk _ _ _ _ _ _ (by omega), rJ_sk _ _ _ _ _ _ (by omega)])
            (fun b b1 b2 => by
              rw [rJ_sk _ _ _ _ _ _ (by omega), rJ_sk _ _ _ _ _ _ (by omega)]
              show (sJ (sJ T 8 j x.toInt64) 9 j y.toInt64).2 11 b = _
              rw [rJ_sk _ _ _ _ _ _ (by omega), rJ_sk _ _ _ _ _ _ (by omega)])
            (by
              rw [e6]
              show (sI (sJ (sJ T 8 j x.toInt64) 9 j y.toInt64) 1 j 2).1 1 j = _
              rw [rI_at])
            (fun z => absurd (e6.symm.trans z) n1)
            (fun _ => by
              refine ⟨?_, ?_⟩
              · rw [rJ_sk _ _ _ _ _ _ (by omega), rJ_sk _ _ _ _ _ _ (by omega)]
                show (sJ (sJ T 8 j x.toInt64) 9 j y.toInt64).2 8 j = _
                unfold sX4_begin_S
                rw [rJ_sk _ _ _ _ _ _ (by omega), rJ_at, rI_sk _ _ _ _ _ _ (by omega), rI_sk _ _ _ _ _ _ (by omega), rI_at]
              · rw [rJ_sk _ _ _ _ _ _ (by omega), rJ_sk _ _ _ _ _ _ (by omega)]
                show (sJ (sJ T 8 j x.toInt64) 9 j y.toInt64).2 9 j = _
                unfold sX4_begin_S
                rw [rJ_at, rI_sk _ _ _ _ _ _ (by omega), rI_at])
            (fun z => absurd (e6.symm.trans z) n1)
            (Or.inr (Or.inr e6))
            (fun z => absurd (e6.symm.trans z) n1)
            (fun _ => by
              unfold sX4_begin_S
              rw [rI_sk _ _ _ _ 15 _ (by omega), rI_sk _ _ _ _ 15 _ (by omega), rI_at, rI_sk _ _ _ _ 16 _ (by omega), rI_at]
              exact ⟨r1, r2⟩)
            (fun z => absurd (e6.symm.trans z) n1)
          exact kind_end hB hj k hm (hz h3)
      · simp only [if_neg h3, if_neg (fun z => h3 (ht.mp z))]
        exact ⟨trivial, h, hz⟩
