theorem best_end {S T : St} (hI : Inv S) (hR : RelC S T) (hC : RngC S) (S2 : St) (j : Nat) (hj : j < cN S) (h0 : ¬ S.1 0 9 = 0) (y : Int32) (hy : rI y 0 1000000) (n : Nat) (hn : n ≤ 800) : LX11_bestDraw_88_6 S S2 j y n = LX12_bestDraw_58_5 T j y (n + 1) ∧ sJ (LX12_bestDraw_58_S T j y (n + 1)) 10 j (T.2 10 j) = T := by
  refine ⟨(best_loop hI hR hC S2 j hj h0 y hy n hn).2.1.symm, ?_⟩
  have i1 : ∀ k, (LX12_bestDraw_58_S T j y k).1 = T.1 := by
    intro k
    induction k with
    | zero => rfl
    | succ k ih => exact ih
  refine Prod.ext (i1 (n + 1)) ?_
  funext a b
  by_cases w : a = 10 ∧ b = j
  · rw [w.1, w.2, rJ_at]
  · rw [rJ_sk _ _ _ _ _ _ w]
    exact best_keep T j y (n + 1) a b w
theorem op_bestDraw {S T : St} {B : Int} {m : Nat} (h : J S T B m) (S2 : St) (j : Nat) (hj : j < cN S) (y : Int32) : sX11_bestDraw S S2 j y = sX12_bestDraw T j y ∧ J S (sX12_bestDraw_S T j y) B m := by
  have hJ := h
  obtain ⟨hI, hR, hC, hD, hm⟩ := h
  have z : T.2 0 4 = 0 ↔ S.1 0 9 = 0 := by
    rw [hR.1.1.2.2.2.2.2.1]
    exact i2z_eq (y := 0)
  unfold sX11_bestDraw sX12_bestDraw sX12_bestDraw_S
  have main : ¬ S.1 0 9 = 0 → rI y 0 1000000 → LX11_bestDraw_88_6 S S2 j y 800 = LX12_bestDraw_58_5 T j y 801 ∧ sJ (LX12_bestDraw_58_S T j y 801) 10 j (T.2 10 j) = T := fun h0 hy => best_end hI hR.1 hC S2 j hj h0 y hy 800 (Nat.le_refl _)
  rw [in_eq y 0 1000000 0 1000000 rfl rfl]
  generalize LX11_bestDraw_88_6 S S2 j y 800 = a1 at main ⊢
  generalize LX12_bestDraw_58_5 T j y 801 = a2 at main ⊢
  generalize sJ (LX12_bestDraw_58_S T j y 801) 10 j (T.2 10 j) = a3 at main ⊢
  by_cases h1 : sX11_isWithin y 0 1000000 = 0
  · rw [if_pos h1, if_pos h1, if_pos h1]
    exact ⟨rfl, hJ⟩
  · rw [if_neg h1, if_neg h1, if_neg h1]
    by_cases h0 : S.1 0 9 = 0
    · rw [if_pos h0, if_pos (z.mpr h0), if_pos (z.mpr h0)]
      exact ⟨rfl, hJ⟩
    · rw [if_neg h0, if_neg (fun w => h0 (z.mp w)), if_neg (fun w => h0 (z.mp w))]
      obtain ⟨e1, e2⟩ := main h0 (within_rI h1)
      rw [e2]
      exact ⟨e1, hJ⟩
