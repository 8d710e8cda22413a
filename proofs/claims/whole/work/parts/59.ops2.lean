/-! ===== more operations ===== -/
theorem op_setSpeed {S T : St} {B : Int} {m : Nat} (h : J S T B m) (S2 : St) (x y : Int32) : sX11_setSpeed S S2 x y = sX12_setSpeed T x y ∧ J (sX11_setSpeed_S S S2 x y) (sX12_setSpeed_S T x y) B m := by
  unfold sX11_setSpeed sX12_setSpeed sX11_setSpeed_S sX12_setSpeed_S
  rw [in_eq x 0 20000 0 20000 rfl rfl, in_eq y 1 5000 1 5000 rfl rfl]
  by_cases h1 : sX11_isWithin x 0 20000 = 0
  · rw [if_pos h1, if_pos h1, if_pos h1, if_pos h1]
    exact ⟨rfl, h⟩
  · rw [if_neg h1, if_neg h1, if_neg h1, if_neg h1]
    by_cases h2 : sX11_isWithin y 1 5000 = 0
    · rw [if_pos h2, if_pos h2, if_pos h2, if_pos h2]
      exact ⟨rfl, h⟩
    · rw [if_neg h2, if_neg h2, if_neg h2, if_neg h2]
      have r := within_rI h1
      have r2 := within_rI h2
      obtain ⟨hI, ⟨rc, rt, rq, rs, rm, re, rb⟩, hC, hD, hm⟩ := h
      refine ⟨?_, hI, ⟨?_, rt, rq, rs, rm, re, rb⟩, ?_, hD.of rfl (fun a h0 _ => ?_) (fun b hb => (rI_sk _ _ _ _ _ _ (by omega)).trans (rI_sk _ _ _ _ _ _ (by omega))), hm⟩
      · unfold sX1_changeTarget
        simp only [rc.1.2.2.2.2.2.1, rc.1.2.2.2.2.2.2.1, i2z_eq]
      · exact ⟨⟨rc.1.1, rc.1.2.1, rc.1.2.2.1, rc.1.2.2.2.1, rc.1.2.2.2.2.1, rfl, rfl, rc.1.2.2.2.2.2.2.2.1, rc.1.2.2.2.2.2.2.2.2.1, rc.1.2.2.2.2.2.2.2.2.2⟩, rc.2⟩
      · exact ⟨⟨hC.1.1, hC.1.2.1, hC.1.2.2.1, hC.1.2.2.2.1, r, r2, hC.1.2.2.2.2.2.2.1, hC.1.2.2.2.2.2.2.2.1, hC.1.2.2.2.2.2.2.2.2⟩, hC.2⟩
      · funext b
        exact (rI_sk _ _ _ _ _ _ (by omega)).trans (rI_sk _ _ _ _ _ _ (by omega))
theorem op_setSplicing {S T : St} {B : Int} {m : Nat} (h : J S T B m) (S2 : St) (x y : Int32) : sX11_setSplicing S S2 x y = sX12_setSplicing T x y ∧ J (sX11_setSplicing_S S S2 x y) (sX12_setSplicing_S T x y) B m := by
  unfold sX11_setSplicing sX12_setSplicing sX11_setSplicing_S sX12_setSplicing_S
  rw [in_eq x 0 20000 0 20000 rfl rfl, in_eq y 0 100000000 0 100000000 rfl rfl]
  by_cases h1 : sX11_isWithin x 0 20000 = 0
  · rw [if_pos h1, if_pos h1, if_pos h1, if_pos h1]
    exact ⟨rfl, h⟩
  · rw [if_neg h1, if_neg h1, if_neg h1, if_neg h1]
    by_cases h2 : sX11_isWithin y 0 100000000 = 0
    · rw [if_pos h2, if_pos h2, if_pos h2, if_pos h2]
      exact ⟨rfl, h⟩
    · rw [if_neg h2, if_neg h2, if_neg h2, if_neg h2]
      have r := within_rI h1
      have r2 := within_rI h2
      obtain ⟨hI, ⟨rc, rt, rq, rs, rm, re, rb⟩, hC, hD, hm⟩ := h
      refine ⟨?_, hI, ⟨?_, rt, rq, rs, rm, re, rb⟩, ?_, hD.of rfl (fun a h0 _ => ?_) (fun b hb => (rI_sk _ _ _ _ _ _ (by omega)).trans (rI_sk _ _ _ _ _ _ (by omega))), hm⟩
      · unfold sX1_changeSplicing
        simp only [rc.1.2.2.2.2.2.2.2.1, rc.1.2.2.2.2.2.2.2.2.1, i2z_eq]
      · exact ⟨⟨rc.1.1, rc.1.2.1, rc.1.2.2.1, rc.1.2.2.2.1, rc.1.2.2.2.2.1, rc.1.2.2.2.2.2.1, rc.1.2.2.2.2.2.2.1, rfl, rfl, rc.1.2.2.2.2.2.2.2.2.2⟩, rc.2⟩
      · exact ⟨⟨hC.1.1, hC.1.2.1, hC.1.2.2.1, hC.1.2.2.2.1, hC.1.2.2.2.2.1, hC.1.2.2.2.2.2.1, r, r2, hC.1.2.2.2.2.2.2.2.2⟩, hC.2⟩
      · funext b
        exact (rI_sk _ _ _ _ _ _ (by omega)).trans (rI_sk _ _ _ _ _ _ (by omega))
theorem op_setDraw {S T : St} {B : Int} {m : Nat} (h : J S T B m) (S2 : St) (r : Nat) (hr1 : 1 ≤ r) (hr : r ≤ cN S) (y : Int32) : sX11_setDraw S S2 r y = sX12_setDraw T r y ∧ J (sX11_setDraw_S S S2 r y) (sX12_setDraw_S T r y) B m := by
  unfold sX11_setDraw sX12_setDraw sX11_setDraw_S sX12_setDraw_S
  rw [in_eq y (-20000) 20000 (-20000) 20000 rfl rfl]
  by_cases h1 : sX11_isWithin y (-20000) 20000 = 0
  · rw [if_pos h1, if_pos h1, if_pos h1, if_pos h1]
    exact ⟨rfl, h⟩
  · rw [if_neg h1, if_neg h1, if_neg h1, if_neg h1]
    have r2 := within_rI h1
    obtain ⟨k, rfl⟩ : ∃ k, r = k + 1 := ⟨r - 1, by omega⟩
    rw [show k + 1 - 1 = k by omega]
    obtain ⟨hI, ⟨rc, rt, rq, rs, rm, re, rb⟩, hC, hD, hm⟩ := h
    refine ⟨?_, hI, ⟨⟨rc.1, fun i hi => ?_⟩, rt, rq, rs, rm, re, rb⟩, ⟨hC.1, ⟨?_, hC.2.1.2⟩, fun i hi => ?_⟩, hD.of rfl (fun a h0 h17 => ?_) (fun b hb => rI_sk _ _ _ _ _ _ (by omega)), hm⟩
    · rw [(rc.2 k (by omega)).1.2.2, i2z2i]
    · have g := rc.2 i hi
      refine ⟨⟨g.1.1, g.1.2.1, ?_⟩, g.2⟩
      by_cases e : i = k
      · subst e
        rw [rJ_at, rI_at]
      · rw [rJ_ne _ _ _ _ _ e, rI_ne _ _ _ _ _ (by omega)]
        exact g.1.2.2
    · rw [rI_ne _ _ _ _ _ (by omega)]
      exact hC.2.1.1
    · have g := hC.2.2 i hi
      refine ⟨g.1, ?_, g.2.2⟩
      by_cases e : i = k
      · subst e
        rw [rI_at]
        exact r2
      · rw [rI_ne _ _ _ _ _ (by omega)]
        exact g.2.1
    · funext b
      exact rI_sk _ _ _ _ _ _ (by omega)
theorem op_breakAt {S T : St} {B : Int} {m : Nat} (h : J S T B m) (S2 : St) : sX11_breakAt S S2 = sX12_breakAt T := by
  obtain ⟨-, ⟨-, -, -, -, -, -, rb⟩, -⟩ := h
  unfold sX11_breakAt sX12_breakAt
  rcases rb with ⟨a, b⟩ | ⟨a, b⟩
  · rw [if_pos a, b]
  · rw [if_neg a, b, i2z2i]
