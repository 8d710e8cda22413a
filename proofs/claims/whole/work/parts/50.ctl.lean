/-! ===== tension and the controllers ===== -/
theorem lim_eq (z : Int64) {a b : Int64} (h : a.toInt ≤ b.toInt) (ha : -2147483648 ≤ a.toInt) (hb : b.toInt < 2147483648) : ((sX11_limit z a b).toInt32).toInt64 = sX12_kept z a b ∧ a.toInt ≤ ((sX11_limit z a b).toInt32).toInt ∧ ((sX11_limit z a b).toInt32).toInt ≤ b.toInt := by
  rw [limit_kept h]
  have k := kept_toInt z a b
  have r : a.toInt ≤ (sX12_kept z a b).toInt ∧ (sX12_kept z a b).toInt ≤ b.toInt := by
    rw [k]
    split
    · split <;> omega
    · omega
  refine ⟨z2i2z (by omega), ?_⟩
  rw [z2i (by omega)]
  exact r
theorem c2Z : (2 : Int64).toInt = 2 := rfl
theorem c2I : (2 : Int32).toInt = 2 := rfl
theorem half_int {x : Int32} (h : rI x 0 100000) : (x / 2).toInt = x.toInt / 2 := by
  unfold rI at h
  rw [Int32.toInt_div, c2I, Int.tdiv_eq_ediv_of_nonneg h.1, ibm (by omega)]
theorem half_z {x : Int32} (h : rI x 0 100000) : (x.toInt64 / 2).toInt = x.toInt / 2 := by
  unfold rI at h
  rw [zdiv (by rw [i2z]; exact h.1) (by decide), i2z, c2Z]
theorem err_sim {p x : Int32} (hp : rI p 0 100000) (hx : rI x 0 100000) : (p - x / 2).toInt64 = p.toInt64 - x.toInt64 / 2 ∧ rI (p - x / 2) (-100000) 100000 := by
  have h1 := half_int hx
  have h2 := half_z hx
  unfold rI at *
  have e : (p - x / 2).toInt = p.toInt - x.toInt / 2 := by rw [isub (by omega), h1]
  refine ⟨?_, by omega⟩
  rw [zeq, i2z, e, zsub (by rw [i2z, h2]; omega), i2z, h2]
/-- the tension of a span -/
theorem ten_sim {S T : St} {i : Nat} (hl : sX12_length T i = sX8_length S i) (hm : T.2 11 (8 * i) = S.2 3 i) (hk : T.2 0 0 = (S.1 0 4).toInt64) (l2 : 100000 ≤ (sX8_length S i).toInt) (l3 : (sX8_length S i).toInt ≤ 10200000) (hu : 0 < (S.2 3 i).toInt) (hK : rI (S.1 0 4) 1000 10000000) :
    sX12_tension T i = sX8_tensionAt S i (S.1 0 4) ∧ 0 ≤ (sX8_tensionAt S i (S.1 0 4)).toInt ∧ (sX8_tensionAt S i (S.1 0 4)).toInt ≤ 102000000000000 := by
  unfold rI at hK
  unfold sX12_tension sX8_tensionAt
  rw [hl, hm, hk]
  by_cases h : sX8_length S i ≤ S.2 3 i
  · rw [if_pos h, if_pos h, c0z]
    exact ⟨rfl, by decide, by decide⟩
  · rw [if_neg h, if_neg h]
    rw [zle] at h
    have e1 : (sX8_length S i - S.2 3 i).toInt = (sX8_length S i).toInt - (S.2 3 i).toInt := zsub (by omega)
    have h1 : 0 ≤ (S.1 0 4).toInt * ((sX8_length S i).toInt - (S.2 3 i).toInt) := Int.mul_nonneg (by omega) (by omega)
    have h2 : (S.1 0 4).toInt * ((sX8_length S i).toInt - (S.2 3 i).toInt) ≤ 10000000 * ((sX8_length S i).toInt - (S.2 3 i).toInt) := Int.mul_le_mul_of_nonneg_right (by omega) (by omega)
    have e2 : ((S.1 0 4).toInt64 * (sX8_length S i - S.2 3 i)).toInt = (S.1 0 4).toInt * ((sX8_length S i).toInt - (S.2 3 i).toInt) := by rw [zmul (by rw [i2z, e1]; omega), i2z, e1]
    have hn : 0 ≤ ((S.1 0 4).toInt64 * (sX8_length S i - S.2 3 i)).toInt := by rw [e2]; exact h1
    rw [quo_eq hn hu, zdiv hn hu, e2]
    refine ⟨rfl, Int.ediv_nonneg h1 (by omega), ?_⟩
    exact Int.ediv_le_of_le_mul hu (by
      have : (102000000000000 : Int) * 1 ≤ 102000000000000 * (S.2 3 i).toInt := Int.mul_le_mul_of_nonneg_left (by omega) (by decide)
      omega)
