/-! ===== the operations, on both sides ===== -/
/-- what holds between calls: B bounds the time, m the rolls that were loaded -/
def J (S T : St) (B : Int) (m : Nat) : Prop := Inv S ∧ Rel S T ∧ RngC S ∧ RngD S B ∧ cM S + cQ S ≤ m
theorem in_eq (x a b : Int32) (a' b' : Int64) (ha : a.toInt64 = a') (hb : b.toInt64 = b') : sX12_in x.toInt64 a' b' = sX11_isWithin x a b := by rw [← ha, ← hb, within_in]
theorem within_rI {x a b : Int32} (h : ¬ sX11_isWithin x a b = 0) : rI x a.toInt b.toInt := by
  unfold sX11_isWithin at h
  unfold rI
  by_cases h1 : x < a
  · rw [if_pos h1] at h
    exact absurd rfl h
  · rw [if_neg h1] at h
    by_cases h2 : b < x
    · rw [if_pos h2] at h
      exact absurd rfl h
    · rw [ilt] at h1 h2
      omega
theorem RngD.of {S S' : St} {B : Int} (h : RngD S B) (h1 : S'.2 = S.2) (h2 : ∀ a, ¬ a = 0 → ¬ a = 17 → S'.1 a = S.1 a) (h3 : ∀ b, b = 0 ∨ b = 1 ∨ b = 8 ∨ b = 13 ∨ b = 15 ∨ b = 16 → S'.1 0 b = S.1 0 b) : RngD S' B := by
  have n : cN S' = cN S := by unfold cN; rw [h3 0 (by omega)]
  have m : cM S' = cM S := by unfold cM; rw [h3 16 (by omega)]
  have q : cQ S' = cQ S := by unfold cQ; rw [h3 13 (by omega)]
  refine ⟨?_, ?_, ?_, ?_, ?_⟩
  · rw [h3 1 (by omega), h3 8 (by omega), h3 15 (by omega), h1]
    exact h.1
  · rw [n, h1, h2 18 (by omega) (by omega), h2 7 (by omega) (by omega), h2 6 (by omega) (by omega), h2 13 (by omega) (by omega), h2 8 (by omega) (by omega), h2 14 (by omega) (by omega)]
    exact h.2.1
  · rw [n, mSum_congr (S := S) (S' := S') (by rw [h1])]
    exact h.2.2.1
  · rw [m, h1]
    exact h.2.2.2.1
  · rw [q, h2 1 (by omega) (by omega)]
    exact h.2.2.2.2
theorem J.time {S T : St} {B : Int} {m : Nat} (h : J S T B m) : T.2 11 48 ≤ 0 ↔ S.1 0 1 = 0 := by
  obtain ⟨-, hR, -, hD, -⟩ := h
  have t := hD.1.1.1
  rw [hR.2.1.1, zle, i2z, c0z, ieq, show (0 : Int32).toInt = 0 from rfl]
  omega
theorem op_setRollLength {S T : St} {B : Int} {m : Nat} (h : J S T B m) (S2 : St) (x : Int32) : sX11_setRollLength S S2 x = sX12_setRollLength T x ∧ J (sX11_setRollLength_S S S2 x) (sX12_setRollLength_S T x) B m := by
  unfold sX11_setRollLength sX12_setRollLength sX11_setRollLength_S sX12_setRollLength_S
  rw [in_eq x 100000 1000000000 100000 1000000000 rfl rfl]
  by_cases h1 : sX11_isWithin x 100000 1000000000 = 0
  · rw [if_pos h1, if_pos h1, if_pos h1, if_pos h1]
    exact ⟨rfl, h⟩
  · rw [if_neg h1, if_neg h1, if_neg h1, if_neg h1]
    have r := within_rI h1
    obtain ⟨hI, ⟨rc, rt, rq, rs, rm, re, rb⟩, hC, hD, hm⟩ := h
    refine ⟨?_, hI, ⟨?_, rt, rq, rs, rm, re, rb⟩, ?_, hD.of rfl (fun a h0 _ => ?_) (fun b hb => rI_sk _ _ _ _ _ _ (by omega)), hm⟩
    · rw [rc.1.2.2.2.2.2.2.2.2.2, i2z2i]
    · exact ⟨⟨rc.1.1, rc.1.2.1, rc.1.2.2.1, rc.1.2.2.2.1, rc.1.2.2.2.2.1, rc.1.2.2.2.2.2.1, rc.1.2.2.2.2.2.2.1, rc.1.2.2.2.2.2.2.2.1, rc.1.2.2.2.2.2.2.2.2.1, rfl⟩, rc.2⟩
    · exact ⟨⟨hC.1.1, hC.1.2.1, hC.1.2.2.1, hC.1.2.2.2.1, hC.1.2.2.2.2.1, hC.1.2.2.2.2.2.1, hC.1.2.2.2.2.2.2.1, hC.1.2.2.2.2.2.2.2.1, r⟩, hC.2⟩
    · funext b
      exact rI_sk _ _ _ _ _ _ (by omega)
theorem op_setWeb {S T : St} {B : Int} {m : Nat} (h : J S T B m) (S2 : St) (x y : Int32) : sX11_setWeb S S2 x y = sX12_setWeb T x y ∧ J (sX11_setWeb_S S S2 x y) (sX12_setWeb_S T x y) B m := by
  unfold sX11_setWeb sX12_setWeb sX11_setWeb_S sX12_setWeb_S
  rw [in_eq x 1000 10000000 1000 10000000 rfl rfl, in_eq y 0 100000 0 100000 rfl rfl]
  by_cases h1 : sX11_isWithin x 1000 10000000 = 0
  · rw [if_pos h1, if_pos h1, if_pos h1, if_pos h1]
    exact ⟨rfl, h⟩
  · rw [if_neg h1, if_neg h1, if_neg h1, if_neg h1]
    by_cases h2 : sX11_isWithin y 0 100000 = 0
    · rw [if_pos h2, if_pos h2, if_pos h2, if_pos h2]
      exact ⟨rfl, h⟩
    · rw [if_neg h2, if_neg h2, if_neg h2, if_neg h2]
      have ht := h.time
      by_cases h3 : S.1 0 1 = 0
      · rw [if_pos h3, if_pos h3, if_pos (ht.mpr h3), if_pos (ht.mpr h3)]
        have r := within_rI h1
        have r2 := within_rI h2
        obtain ⟨hI, ⟨rc, rt, rq, rs, rm, re, rb⟩, hC, hD, hm⟩ := h
        refine ⟨?_, hI, ⟨?_, rt, rq, rs, rm, re, rb⟩, ?_, hD.of rfl (fun a h0 _ => ?_) (fun b hb => (rI_sk _ _ _ _ _ _ (by omega)).trans (rI_sk _ _ _ _ _ _ (by omega))), hm⟩
        · unfold sX10_changeStiffness
          simp only [rc.1.2.1, rc.1.2.2.1, i2z_eq]
        · exact ⟨⟨rc.1.1, rfl, rfl, rc.1.2.2.2.1, rc.1.2.2.2.2.1, rc.1.2.2.2.2.2.1, rc.1.2.2.2.2.2.2.1, rc.1.2.2.2.2.2.2.2.1, rc.1.2.2.2.2.2.2.2.2.1, rc.1.2.2.2.2.2.2.2.2.2⟩, rc.2⟩
        · exact ⟨⟨r, r2, hC.1.2.2.1, hC.1.2.2.2.1, hC.1.2.2.2.2.1, hC.1.2.2.2.2.2.1, hC.1.2.2.2.2.2.2.1, hC.1.2.2.2.2.2.2.2.1, hC.1.2.2.2.2.2.2.2.2⟩, hC.2⟩
        · funext b
          exact (rI_sk _ _ _ _ _ _ (by omega)).trans (rI_sk _ _ _ _ _ _ (by omega))
      · rw [if_neg h3, if_neg h3, if_neg (fun z => h3 (ht.mp z)), if_neg (fun z => h3 (ht.mp z))]
        exact ⟨rfl, h⟩
theorem op_setStrength {S T : St} {B : Int} {m : Nat} (h : J S T B m) (S2 : St) (x y : Int32) : sX11_setStrength S S2 x y = sX12_setStrength T x y ∧ J (sX11_setStrength_S S S2 x y) (sX12_setStrength_S T x y) B m := by
  unfold sX11_setStrength sX12_setStrength sX11_setStrength_S sX12_setStrength_S
  rw [in_eq x 1000 10000000 1000 10000000 rfl rfl, in_eq y 1 1000 1 1000 rfl rfl]
  by_cases h1 : sX11_isWithin x 1000 10000000 = 0
  · rw [if_pos h1, if_pos h1, if_pos h1, if_pos h1]
    exact ⟨rfl, h⟩
  · rw [if_neg h1, if_neg h1, if_neg h1, if_neg h1]
    by_cases h2 : sX11_isWithin y 1 1000 = 0
    · rw [if_pos h2, if_pos h2, if_pos h2, if_pos h2]
      exact ⟨rfl, h⟩
    · rw [if_neg h2, if_neg h2, if_neg h2, if_neg h2]
      have r := within_rI h1
      have r2 := within_rI h2
      obtain ⟨hI, ⟨rc, rt, rq, rs, rm, re, rb⟩, hC, hD, hm⟩ := h
      refine ⟨?_, hI, ⟨?_, rt, rq, rs, rm, re, rb⟩, ?_, hD.of rfl (fun a h0 _ => ?_) (fun b hb => (rI_sk _ _ _ _ _ _ (by omega)).trans (rI_sk _ _ _ _ _ _ (by omega))), hm⟩
      · unfold sX10_changeStrength
        simp only [rc.1.2.2.2.1, rc.1.2.2.2.2.1, i2z_eq]
      · exact ⟨⟨rc.1.1, rc.1.2.1, rc.1.2.2.1, rfl, rfl, rc.1.2.2.2.2.2.1, rc.1.2.2.2.2.2.2.1, rc.1.2.2.2.2.2.2.2.1, rc.1.2.2.2.2.2.2.2.2.1, rc.1.2.2.2.2.2.2.2.2.2⟩, rc.2⟩
      · exact ⟨⟨hC.1.1, hC.1.2.1, r, r2, hC.1.2.2.2.2.1, hC.1.2.2.2.2.2.1, hC.1.2.2.2.2.2.2.1, hC.1.2.2.2.2.2.2.2.1, hC.1.2.2.2.2.2.2.2.2⟩, hC.2⟩
      · funext b
        exact (rI_sk _ _ _ _ _ _ (by omega)).trans (rI_sk _ _ _ _ _ _ (by omega))
