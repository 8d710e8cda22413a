/-! ===== the amounts of a tick: both sides alike, and how large ===== -/
theorem quo_eq {x y : Int64} (hx : 0 ≤ x.toInt) (hy : 0 < y.toInt) : sX11_quotient x y = x / y := by rw [quot_down hy, down_div hx hy]
/-- what leaves a span: less than a quarter of its material -/
theorem am_part {v U L : Int64} (hv : 0 ≤ v.toInt ∧ v.toInt ≤ 24760) (hU : 0 ≤ U.toInt ∧ U.toInt ≤ 10000000000) (hL : 100000 ≤ L.toInt) :
    sX11_quotient (v * U) L = v * U / L ∧ 0 ≤ (v * U / L).toInt ∧ 4 * (v * U / L).toInt ≤ U.toInt := by
  have h1 : 0 ≤ v.toInt * U.toInt := Int.mul_nonneg hv.1 hU.1
  have h2 : v.toInt * U.toInt ≤ 24760 * U.toInt := Int.mul_le_mul_of_nonneg_right hv.2 hU.1
  have e1 : (v * U).toInt = v.toInt * U.toInt := zmul (by omega)
  have hL0 : 0 < L.toInt := by omega
  have e2 : (v * U / L).toInt = v.toInt * U.toInt / L.toInt := by rw [zdiv (by rw [e1]; exact h1) hL0, e1]
  have n1 : 0 ≤ v.toInt * U.toInt / L.toInt := Int.ediv_nonneg h1 (by omega)
  have n2 : v.toInt * U.toInt / L.toInt * L.toInt ≤ v.toInt * U.toInt := Int.ediv_mul_le _ (by omega)
  have n3 : v.toInt * U.toInt / L.toInt * 100000 ≤ v.toInt * U.toInt / L.toInt * L.toInt := Int.mul_le_mul_of_nonneg_left hL n1
  refine ⟨quo_eq (by rw [e1]; exact h1) hL0, by rw [e2]; exact n1, ?_⟩
  rw [e2]
  generalize v.toInt * U.toInt / L.toInt = q at n1 n2 n3 ⊢
  omega
/-- what enters at the unwinder -/
theorem am_first {v : Int64} {K W : Int32} (hv : 0 ≤ v.toInt ∧ v.toInt ≤ 20000) (hK : rI K 1000 10000000) (hW : rI W 0 100000) :
    sX11_quotient (v * K.toInt64) (K.toInt64 + W.toInt64) = v * K.toInt64 / (K.toInt64 + W.toInt64) ∧ 0 ≤ (v * K.toInt64 / (K.toInt64 + W.toInt64)).toInt ∧ (v * K.toInt64 / (K.toInt64 + W.toInt64)).toInt ≤ 20000 := by
  unfold rI at hK hW
  have h1 : 0 ≤ v.toInt * K.toInt := Int.mul_nonneg hv.1 (by omega)
  have h2 : v.toInt * K.toInt ≤ 20000 * K.toInt := Int.mul_le_mul_of_nonneg_right hv.2 (by omega)
  have e1 : (v * K.toInt64).toInt = v.toInt * K.toInt := by rw [zmul (by rw [i2z]; omega), i2z]
  have e3 : (K.toInt64 + W.toInt64).toInt = K.toInt + W.toInt := by rw [zadd (by rw [i2z, i2z]; omega), i2z, i2z]
  have hL0 : 0 < (K.toInt64 + W.toInt64).toInt := by omega
  have e2 : (v * K.toInt64 / (K.toInt64 + W.toInt64)).toInt = v.toInt * K.toInt / (K.toInt + W.toInt) := by rw [zdiv (by rw [e1]; exact h1) hL0, e1, e3]
  refine ⟨quo_eq (by rw [e1]; exact h1) hL0, by rw [e2]; exact Int.ediv_nonneg h1 (by omega), ?_⟩
  rw [e2]
  exact Int.ediv_le_of_le_mul (by omega) (by omega)
theorem mSum_le {S : St} : ∀ n : Nat, (∀ i, i < n → 0 < (S.2 3 i).toInt) → 0 ≤ mSum S n ∧ ∀ i, i < n → (S.2 3 i).toInt ≤ mSum S n := by
  intro n
  induction n with
  | zero => intro _; exact ⟨Int.le_refl 0, fun i hi => by omega⟩
  | succ n ih =>
    intro h
    obtain ⟨a, b⟩ := ih (fun i hi => h i (by omega))
    have c := h n (by omega)
    have e : mSum S (n + 1) = mSum S n + (S.2 3 n).toInt := rfl
    rw [e]
    refine ⟨by omega, fun i hi => ?_⟩
    by_cases z : i = n
    · subst z; omega
    · have := b i (by omega)
      omega
/-- all amounts -/
theorem am_sim {S T : St} (hI : Inv S) (hc : cN T = cN S) (hC0 : RelC S T) (hb : T.2 11 50 = (S.1 0 8).toInt64) (hS : RelS S T) (hC : RngC S) (hb2 : rI (S.1 0 8) 0 20000) {B : Int} (hB : 0 ≤ B ∧ B ≤ 200000) (hD : RngD S B) (r : Nat) (hr : r ≤ cN S) :
    amM T r = amC S r ∧ 0 ≤ (amC S r).toInt ∧ (r = 0 → (amC S r).toInt ≤ 20000) ∧ (∀ i, r = i + 1 → 4 * (amC S r).toInt ≤ (S.2 3 i).toInt) := by
  obtain ⟨-, d2, d3, -⟩ := hD
  obtain ⟨v1, v2, v3, v4⟩ := speed_sim hI hC0 hb (fun i hi => (hS i hi).1.2.1) hC hb2 (fun i hi => (d2 i hi).2.1) r hr
  cases r with
  | zero =>
    obtain ⟨a1, a2, a3⟩ := am_first ⟨v2, v4 rfl⟩ hC.1.1 hC.1.2.1
    refine ⟨?_, ?_, fun _ => ?_, fun i hi => by omega⟩
    · show sX12_speed T 0 * T.2 0 0 / (T.2 0 0 + T.2 0 1) = sX11_quotient _ _
      rw [v1, hC0.1.2.1, hC0.1.2.2.1, a1]
    · show 0 ≤ (sX11_quotient _ _).toInt
      rw [a1]; exact a2
    · show (sX11_quotient _ _).toInt ≤ _
      rw [a1]; exact a3
  | succ i =>
    have hi : i < cN S := by omega
    have c := hC0.2 i hi
    have s := hS i hi
    have g := hC.2.2 i hi
    have d := d2 i hi
    obtain ⟨l1, l2, l3⟩ := len_sim c.1.1 c.1.2.1 (fun z => (s.2 z).1) g.1 (fun z => ⟨(d.2.2.2 z).1, by have := (d.2.2.2 z).2.1; have := (g.2.2.2.1 z).1.2; omega⟩)
    have m := mSum_le (cN S) (fun i hi => (d2 i hi).1)
    have m2 := m.2 i hi
    obtain ⟨a1, a2, a3⟩ := am_part (v := sX3_speedOf S (i + 1) (cN S)) (U := S.2 3 i) (L := sX8_length S i) ⟨v2, v3⟩ ⟨by omega, by omega⟩ l2
    refine ⟨?_, ?_, fun z => by omega, fun j hj => ?_⟩
    · show sX12_speed T (i + 1) * T.2 11 (8 * i) / sX12_length T i = sX11_quotient _ _
      rw [v1, s.1.1, l1, a1]
    · show 0 ≤ (sX11_quotient _ _).toInt
      rw [a1]; exact a2
    · have : j = i := by omega
      subst this
      show 4 * (sX11_quotient _ _).toInt ≤ _
      rw [a1]; exact a3
/-- the materials after the amounts have moved -/
theorem mSum_step {S S2 : St} (n : Nat) (a : Nat → Int64) (h : ∀ i, i < n → S2.2 3 i = S.2 3 i + (a i - a (i + 1))) (hp : ∀ i, i < n → 0 < (S.2 3 i).toInt ∧ (S.2 3 i).toInt ≤ 10000000000) (ha : ∀ r, r ≤ n → 0 ≤ (a r).toInt) (h0 : (a 0).toInt ≤ 20000) (hq : ∀ i, i < n → 4 * (a (i + 1)).toInt ≤ (S.2 3 i).toInt) :
    ∀ k, k ≤ n → mSum S2 k = mSum S k + (a 0).toInt - (a k).toInt ∧ ∀ i, i < k → 0 < (S2.2 3 i).toInt := by
  intro k
  induction k with
  | zero => intro _; exact ⟨by show (0 : Int) = 0 + _ - _; omega, fun i hi => by omega⟩
  | succ k ih =>
    intro hk
    obtain ⟨e, b⟩ := ih (by omega)
    have p := hp k (by omega)
    have a1 := ha k (by omega)
    have a2 := ha (k + 1) (by omega)
    have q := hq k (by omega)
    have u : (a k).toInt ≤ 10000000000 := by
      cases k with
      | zero => omega
      | succ j => have := hq j (by omega); have := hp j (by omega); omega
    have e1 : (a k - a (k + 1)).toInt = (a k).toInt - (a (k + 1)).toInt := zsub (by omega)
    have e2 : (S2.2 3 k).toInt = (S.2 3 k).toInt + ((a k).toInt - (a (k + 1)).toInt) := by rw [h k (by omega), zadd (by rw [e1]; omega), e1]
    refine ⟨?_, fun i hi => ?_⟩
    · show mSum S2 k + (S2.2 3 k).toInt = mSum S k + (S.2 3 k).toInt + _ - _
      rw [e, e2]
      omega
    · by_cases z : i = k
      · subst z; rw [e2]; omega
      · exact b i (by omega)
