/-! ===== a tick's second part: how much passes ===== -/
theorem c1M : (1000000 : Int64).toInt = 1000000 := rfl
theorem nomC_congr {S S' : St} (h : S'.1 = S.1) (r : Nat) (x : Int32) (n k : Nat) : LX3_nominalSpeed_6_3 S' r x n k = LX3_nominalSpeed_6_3 S r x n k := by
  induction k with
  | zero => rfl
  | succ k ih => unfold LX3_nominalSpeed_6_3; rw [ih, h]
theorem nomM_congr {T T' : St} (h : T'.2 10 = T.2 10) (r : Nat) (x : Int64) (k : Nat) : LX12_nominalSpeed_6_4 T' r x k = LX12_nominalSpeed_6_4 T r x k := by
  induction k with
  | zero => rfl
  | succ k ih => unfold LX12_nominalSpeed_6_4; rw [ih, h]
theorem drawn_bounds {v : Int64} {d : Int32} {a : Int} (hv : 0 ≤ v.toInt ∧ v.toInt ≤ a) (ha : a ≤ 22760) (hd : rI d (-20000) 20000) : 0 ≤ (sX12_down (v * (1000000 + d.toInt64)) 1000000).toInt ∧ (sX12_down (v * (1000000 + d.toInt64)) 1000000).toInt ≤ a + 460 := by
  unfold rI at hd
  have e1 : ((1000000 : Int64) + d.toInt64).toInt = 1000000 + d.toInt := by rw [zadd (by rw [i2z, c1M]; omega), i2z, c1M]
  have h1 : 0 ≤ v.toInt * (1000000 + d.toInt) := Int.mul_nonneg hv.1 (by omega)
  have h2 : v.toInt * (1000000 + d.toInt) ≤ v.toInt * 1020000 := Int.mul_le_mul_of_nonneg_left (by omega) hv.1
  have e2 : (v * (1000000 + d.toInt64)).toInt = v.toInt * (1000000 + d.toInt) := by rw [zmul (by rw [e1]; omega), e1]
  rw [down_toInt (by decide), e2, c1M]
  omega
theorem nom_sim {S T : St} (hR : RelC S T) (hC : RngC S) (r : Nat) (x : Int32) (hx : rI x 0 20000) (hn : cN S ≤ 6) (n : Nat) : ∀ k, k ≤ cN S → LX12_nominalSpeed_6_4 T r x.toInt64 k = LX3_nominalSpeed_6_3 S r x n k ∧ 0 ≤ (LX3_nominalSpeed_6_3 S r x n k).toInt ∧ (LX3_nominalSpeed_6_3 S r x n k).toInt ≤ 20000 + 460 * k := by
  intro k
  induction k with
  | zero =>
    intro _
    refine ⟨rfl, ?_, ?_⟩
    · show 0 ≤ (x.toInt64).toInt
      rw [i2z]; exact hx.1
    · show (x.toInt64).toInt ≤ _
      rw [i2z]
      have := hx.2
      omega
  | succ k ih =>
    intro hk
    obtain ⟨e, b1, b2⟩ := ih (by omega)
    have d := (hR.2 k (by omega)).1.2.2
    have dr := (hC.2.2 k (by omega)).2.1
    have e2 : LX3_nominalSpeed_6_3 S r x n (k + 1) = sX12_down (LX3_nominalSpeed_6_3 S r x n k * (1000000 + (S.1 17 (k + 1)).toInt64)) 1000000 := by
      show sX11_drawn _ _ = _
      unfold sX11_drawn
      rw [floorDiv_down (by decide)]
    have bb := drawn_bounds (v := LX3_nominalSpeed_6_3 S r x n k) (a := 20000 + 460 * k) ⟨b1, b2⟩ (by omega) dr
    rw [e2]
    refine ⟨?_, bb.1, by omega⟩
    show sX12_down (LX12_nominalSpeed_6_4 T r x.toInt64 k * (1000000 + T.2 10 k)) 1000000 = _
    rw [e, d]
theorem max0 (z : Int64) : sJ9_max_f86c9 0 z = if 0 ≤ z then z else 0 := by
  unfold sJ9_max_f86c9
  by_cases h : 0 < z
  · rw [if_pos h, if_pos (Int64.le_of_lt h)]
  · rw [if_neg h]
    by_cases h2 : 0 ≤ z
    · rw [if_pos h2]
      rw [zle] at h2
      rw [zlt] at h
      rw [zeq]
      omega
    · rw [if_neg h2]
theorem c0z : (0 : Int64).toInt = 0 := rfl
theorem max0_bounds {z : Int64} {a : Int} (h : z.toInt ≤ a) (ha : 0 ≤ a) : 0 ≤ (if 0 ≤ z then z else 0 : Int64).toInt ∧ (if 0 ≤ z then z else 0 : Int64).toInt ≤ a := by
  by_cases h2 : 0 ≤ z
  · rw [if_pos h2]
    rw [zle, c0z] at h2
    exact ⟨h2, h⟩
  · rw [if_neg h2, c0z]
    omega
/-- the speeds -/
theorem speed_sim {S T : St} (hI : Inv S) (hC0 : RelC S T) (hb : T.2 11 50 = (S.1 0 8).toInt64) (hS : ∀ i, i < cN S → T.2 11 (8 * i + 3) = (S.1 18 (i + 1)).toInt64) (hC : RngC S) (hb2 : rI (S.1 0 8) 0 20000) (ht : ∀ i, i < cN S → rI (S.1 18 (i + 1)) (-2000) 2000) (r : Nat) (hr : r ≤ cN S) :
    sX12_speed T r = sX3_speedOf S r (cN S) ∧ 0 ≤ (sX3_speedOf S r (cN S)).toInt ∧ (sX3_speedOf S r (cN S)).toInt ≤ 24760 ∧ (r = 0 → (sX3_speedOf S r (cN S)).toInt ≤ 20000) := by
  obtain ⟨⟨-, -, b2⟩, -⟩ := hI
  unfold sX12_speed sX3_speedOf sX12_nominalSpeed sX3_nominalSpeed
  have z0 : T.2 11 50 = 0 ↔ S.1 0 8 = 0 := by
    rw [hb]
    exact i2z_eq (y := 0)
  by_cases h0 : S.1 0 8 = 0
  · rw [if_pos h0, if_pos (z0.mpr h0), c0z]
    exact ⟨rfl, by decide, by decide, fun _ => by decide⟩
  · rw [if_neg h0, if_neg (fun z => h0 (z0.mp z)), hb]
    obtain ⟨e, b1, b3⟩ := nom_sim hC0 hC r (S.1 0 8) hb2 b2 (cN S) r hr
    rw [e, max0]
    by_cases hr0 : r = 0
    · subst hr0
      have k0 : (S.1 18 0).toInt64 = 0 := by rw [hC.2.1.2]; rfl
      rw [if_pos rfl, k0]
      have e0 : (LX3_nominalSpeed_6_3 S 0 (S.1 0 8) (cN S) 0) = (S.1 0 8).toInt64 := rfl
      have e1 : (LX3_nominalSpeed_6_3 S 0 (S.1 0 8) (cN S) 0 + 0).toInt ≤ 20000 := by
        rw [Int64.add_zero, e0, i2z]
        exact hb2.2
      have bb := max0_bounds e1 (by decide)
      exact ⟨rfl, bb.1, by omega, fun _ => bb.2⟩
    · rw [if_neg hr0]
      obtain ⟨i, rfl⟩ : ∃ i, r = i + 1 := ⟨r - 1, by omega⟩
      have t1 := hS i (by omega)
      have t2 := ht i (by omega)
      unfold rI at t2
      rw [show 8 * (i + 1) - 8 + 3 = 8 * i + 3 by omega, t1]
      have e1 : (LX3_nominalSpeed_6_3 S (i + 1) (S.1 0 8) (cN S) (i + 1) + (S.1 18 (i + 1)).toInt64).toInt ≤ 24760 := by
        rw [zadd (by rw [i2z]; omega), i2z]
        omega
      have bb := max0_bounds e1 (by decide)
      exact ⟨rfl, bb.1, bb.2, fun z => absurd z hr0⟩
/-- the lengths -/
theorem len_sim {S T : St} {i : Nat} (h1 : T.1 1 i = S.1 6 i) (h2 : T.2 1 i = (S.1 5 i).toInt64) (h3 : S.1 6 i = 1 → T.2 11 (8 * i + 1) = (S.1 13 i).toInt64) (r1 : rI (S.1 5 i) 100000 10000000) (r2 : S.1 6 i = 1 → 0 ≤ (S.1 13 i).toInt ∧ (S.1 13 i).toInt ≤ 100000) :
    sX12_length T i = sX8_length S i ∧ 100000 ≤ (sX8_length S i).toInt ∧ (sX8_length S i).toInt ≤ 10200000 := by
  unfold rI at r1
  unfold sX12_length sX8_length
  rw [h1, h2]
  by_cases hc : S.1 6 i = 1
  · rw [if_pos hc, if_pos hc, h3 hc]
    have := r2 hc
    have c2 : (2 : Int64).toInt = 2 := rfl
    have e1 : ((2 : Int64) * (S.1 13 i).toInt64).toInt = 2 * (S.1 13 i).toInt := by rw [zmul (by rw [i2z, c2]; omega), i2z, c2]
    have e2 : ((S.1 5 i).toInt64 + 2 * (S.1 13 i).toInt64).toInt = (S.1 5 i).toInt + 2 * (S.1 13 i).toInt := by rw [zadd (by rw [e1, i2z]; omega), e1, i2z]
    rw [e2]
    exact ⟨rfl, by omega, by omega⟩
  · rw [if_neg hc, if_neg hc, i2z, Int64.add_zero]
    exact ⟨rfl, by omega, by omega⟩
def amC (S : St) : Nat → Int64
  | 0 => sX11_quotient (sX3_speedOf S 0 (cN S) * (S.1 0 4).toInt64) ((S.1 0 4).toInt64 + (S.1 0 5).toInt64)
  | k + 1 => sX11_quotient (sX3_speedOf S (k + 1) (cN S) * S.2 3 k) (sX8_length S k)
def amM (T : St) : Nat → Int64
  | 0 => sX12_speed T 0 * T.2 0 0 / (T.2 0 0 + T.2 0 1)
  | k + 1 => sX12_speed T (k + 1) * T.2 11 (8 * k) / sX12_length T k
