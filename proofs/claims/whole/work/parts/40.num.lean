/-! ===== numbers: what the machine's arithmetic is in ranges ===== -/
theorem zlt {x y : Int64} : x < y ↔ x.toInt < y.toInt := Int64.lt_iff_toInt_lt
theorem zle {x y : Int64} : x ≤ y ↔ x.toInt ≤ y.toInt := Int64.le_iff_toInt_le
theorem ilt {x y : Int32} : x < y ↔ x.toInt < y.toInt := Int32.lt_iff_toInt_lt
theorem ile {x y : Int32} : x ≤ y ↔ x.toInt ≤ y.toInt := Int32.le_iff_toInt_le
theorem zeq {x y : Int64} : x = y ↔ x.toInt = y.toInt := Int64.toInt_inj.symm
theorem ieq {x y : Int32} : x = y ↔ x.toInt = y.toInt := Int32.toInt_inj.symm
theorem zr (x : Int64) : -9223372036854775808 ≤ x.toInt ∧ x.toInt < 9223372036854775808 := ⟨Int64.le_toInt x, Int64.toInt_lt x⟩
theorem ir (x : Int32) : -2147483648 ≤ x.toInt ∧ x.toInt < 2147483648 := ⟨Int32.le_toInt x, Int32.toInt_lt x⟩
theorem zbm {a : Int} (h : -9223372036854775808 ≤ a ∧ a < 9223372036854775808) : a.bmod (2 ^ 64) = a := Int.bmod_eq_of_le (by omega) (by omega)
theorem ibm {a : Int} (h : -2147483648 ≤ a ∧ a < 2147483648) : a.bmod (2 ^ 32) = a := Int.bmod_eq_of_le (by omega) (by omega)
theorem zadd {x y : Int64} (h : -9223372036854775808 ≤ x.toInt + y.toInt ∧ x.toInt + y.toInt < 9223372036854775808) : (x + y).toInt = x.toInt + y.toInt := by rw [Int64.toInt_add, zbm h]
theorem zsub {x y : Int64} (h : -9223372036854775808 ≤ x.toInt - y.toInt ∧ x.toInt - y.toInt < 9223372036854775808) : (x - y).toInt = x.toInt - y.toInt := by rw [Int64.toInt_sub, zbm h]
theorem zmul {x y : Int64} (h : -9223372036854775808 ≤ x.toInt * y.toInt ∧ x.toInt * y.toInt < 9223372036854775808) : (x * y).toInt = x.toInt * y.toInt := by rw [Int64.toInt_mul, zbm h]
theorem zneg {x : Int64} (h : -9223372036854775808 < x.toInt) : (-x).toInt = -x.toInt := by
  have := zr x
  rw [Int64.toInt_neg, zbm (by omega)]
theorem iadd {x y : Int32} (h : -2147483648 ≤ x.toInt + y.toInt ∧ x.toInt + y.toInt < 2147483648) : (x + y).toInt = x.toInt + y.toInt := by rw [Int32.toInt_add, ibm h]
theorem isub {x y : Int32} (h : -2147483648 ≤ x.toInt - y.toInt ∧ x.toInt - y.toInt < 2147483648) : (x - y).toInt = x.toInt - y.toInt := by rw [Int32.toInt_sub, ibm h]
theorem ineg {x : Int32} (h : -2147483648 < x.toInt) : (-x).toInt = -x.toInt := by
  have := ir x
  rw [Int32.toInt_neg, ibm (by omega)]
theorem i2z (x : Int32) : (x.toInt64).toInt = x.toInt := Int32.toInt_toInt64 x
theorem z2i {x : Int64} (h : -2147483648 ≤ x.toInt ∧ x.toInt < 2147483648) : (x.toInt32).toInt = x.toInt := by rw [Int64.toInt_toInt32, ibm h]
theorem i2z2i (x : Int32) : (x.toInt64).toInt32 = x := by rw [ieq, z2i (by rw [i2z]; exact ir x), i2z]
theorem z2i2z {x : Int64} (h : -2147483648 ≤ x.toInt ∧ x.toInt < 2147483648) : (x.toInt32).toInt64 = x := by rw [zeq, i2z, z2i h]
theorem i2z_inj {x y : Int32} (h : x.toInt64 = y.toInt64) : x = y := by rw [← i2z2i x, h, i2z2i]
theorem i2z_eq {x y : Int32} : x.toInt64 = y.toInt64 ↔ x = y := ⟨i2z_inj, fun h => by rw [h]⟩
theorem i2z_lt {x y : Int32} : x.toInt64 < y.toInt64 ↔ x < y := by rw [zlt, ilt, i2z, i2z]
theorem i2z_le {x y : Int32} : x.toInt64 ≤ y.toInt64 ↔ x ≤ y := by rw [zle, ile, i2z, i2z]
theorem zdivT {x y : Int64} (hy : 0 < y.toInt) : (x / y).toInt = x.toInt.tdiv y.toInt := by
  rw [Int64.toInt_div]
  have hx := zr x
  apply zbm
  have h1 : (x.toInt.tdiv y.toInt).natAbs ≤ x.toInt.natAbs := by
    rw [Int.natAbs_tdiv]
    exact Nat.div_le_self _ _
  have h2 : 0 ≤ x.toInt → 0 ≤ x.toInt.tdiv y.toInt := fun h => Int.tdiv_nonneg h (by omega)
  by_cases h3 : 0 ≤ x.toInt
  · have := h2 h3
    omega
  · have h4 : (-x.toInt).tdiv y.toInt = -(x.toInt.tdiv y.toInt) := Int.neg_tdiv _ _
    have h5 : 0 ≤ (-x.toInt).tdiv y.toInt := Int.tdiv_nonneg (by omega) (by omega)
    omega
theorem zdiv {x y : Int64} (hx : 0 ≤ x.toInt) (hy : 0 < y.toInt) : (x / y).toInt = x.toInt / y.toInt := by rw [zdivT hy, Int.tdiv_eq_ediv_of_nonneg hx]
/-- a quotient q that is off by less than one divisor is the floor -/
theorem fl_unique {a b q : Int} (hb : 0 < b) (h1 : q * b ≤ a) (h2 : a < q * b + b) : a / b = q := by
  have h3 := Int.emod_add_mul_ediv a b
  have h4 := Int.emod_nonneg a (show b ≠ 0 by omega)
  have h5 := Int.emod_lt_of_pos a hb
  have h6 : b * (a / b) = (a / b) * b := Int.mul_comm _ _
  have h7 : (a / b - q) * b < 1 * b := by rw [Int.sub_mul]; omega
  have h8 : (-1) * b < (a / b - q) * b := by rw [Int.sub_mul]; omega
  have h9 := Int.lt_of_mul_lt_mul_right h7 (by omega)
  have h10 := Int.lt_of_mul_lt_mul_right h8 (by omega)
  omega
theorem tdiv_facts (a : Int) {b : Int} (hb : 0 < b) : (0 ≤ a → a.tdiv b * b ≤ a ∧ a < a.tdiv b * b + b) ∧ (a < 0 → a ≤ a.tdiv b * b ∧ a.tdiv b * b < a + b) := by
  constructor
  · intro h
    rw [Int.tdiv_eq_ediv_of_nonneg h]
    have h3 := Int.emod_add_mul_ediv a b
    have h4 := Int.emod_nonneg a (show b ≠ 0 by omega)
    have h5 := Int.emod_lt_of_pos a hb
    have h6 : b * (a / b) = (a / b) * b := Int.mul_comm _ _
    omega
  · intro h
    have e : a.tdiv b = -((-a) / b) := by
      have h1 : (-a).tdiv b = -(a.tdiv b) := Int.neg_tdiv _ _
      rw [Int.tdiv_eq_ediv_of_nonneg (by omega)] at h1
      omega
    rw [e, Int.neg_mul]
    have h3 := Int.emod_add_mul_ediv (-a) b
    have h4 := Int.emod_nonneg (-a) (show b ≠ 0 by omega)
    have h5 := Int.emod_lt_of_pos (-a) hb
    have h6 : b * (-a / b) = (-a / b) * b := Int.mul_comm _ _
    omega
theorem zqm {x y : Int64} (hy : 0 < y.toInt) : (x / y * y).toInt = x.toInt.tdiv y.toInt * y.toInt := by
  have hx := zr x
  have h := tdiv_facts x.toInt hy
  have hyr := zr y
  have e := zdivT (x := x) hy
  rw [zmul, e]
  rw [e]
  by_cases h0 : 0 ≤ x.toInt
  · have := h.1 h0
    have hn : 0 ≤ x.toInt.tdiv y.toInt * y.toInt := Int.mul_nonneg (Int.tdiv_nonneg h0 (by omega)) (by omega)
    omega
  · have := h.2 (by omega)
    have hn : x.toInt.tdiv y.toInt * y.toInt ≤ 0 := by
      have h1 : (-x.toInt).tdiv y.toInt = -(x.toInt.tdiv y.toInt) := Int.neg_tdiv _ _
      have h2 : 0 ≤ (-x.toInt).tdiv y.toInt * y.toInt := Int.mul_nonneg (Int.tdiv_nonneg (by omega) (by omega)) (by omega)
      rw [h1, Int.neg_mul] at h2
      omega
    omega
theorem down_toInt {x y : Int64} (hy : 0 < y.toInt) : (sX12_down x y).toInt = x.toInt / y.toInt := by
  unfold sX12_down
  have e := zqm (x := x) hy
  have q := zdivT (x := x) hy
  have f := tdiv_facts x.toInt hy
  have hx := zr x
  by_cases c : x / y * y ≤ x
  · rw [if_pos c, q]
    rw [zle, e] at c
    symm
    apply fl_unique hy c
    by_cases h0 : 0 ≤ x.toInt
    · exact (f.1 h0).2
    · have := f.2 (by omega)
      omega
  · rw [if_neg c]
    rw [zle, e] at c
    have h0 : x.toInt < 0 := by
      by_cases h0 : 0 ≤ x.toInt
      · have := (f.1 h0).1
        omega
      · omega
    have := f.2 h0
    have hq : -9223372036854775808 ≤ x.toInt.tdiv y.toInt - 1 := by
      by_cases h1 : y.toInt = 1
      · rw [h1, Int.tdiv_one] at c
        omega
      · have h1 : (-x.toInt).tdiv y.toInt = -(x.toInt.tdiv y.toInt) := Int.neg_tdiv _ _
        have h2 : 0 ≤ (-x.toInt).tdiv y.toInt := Int.tdiv_nonneg (by omega) (by omega)
        have h3 : 0 ≤ (-(x.toInt.tdiv y.toInt)) * (y.toInt - 2) := Int.mul_nonneg (by omega) (by omega)
        rw [Int.neg_mul, Int.mul_sub] at h3
        omega
    have hqr := zr (x / y)
    rw [q] at hqr
    have h1 : (1 : Int64).toInt = 1 := rfl
    rw [zsub (by rw [q, h1]; omega), q, h1]
    symm
    apply fl_unique hy
    · rw [Int.sub_mul]
      omega
    · rw [Int.sub_mul]
      omega
theorem zxor_sign {x y : Int64} (hy : 0 < y.toInt) : 0 ≤ x ^^^ y ↔ 0 ≤ x.toInt := by
  have h1 : (0 ≤ x ^^^ y) ↔ (x ^^^ y).toBitVec.msb = false := by
    rw [zle]
    show (0 : Int) ≤ (x ^^^ y).toBitVec.toInt ↔ _
    rw [BitVec.msb_eq_toInt]
    simp
  have h2 : (x ^^^ y).toBitVec.msb = (x.toBitVec.msb ^^ y.toBitVec.msb) := by
    show (x.toBitVec ^^^ y.toBitVec).msb = _
    simp
  have h3 : y.toBitVec.msb = false := by
    rw [BitVec.msb_eq_toInt]
    have : y.toBitVec.toInt = y.toInt := rfl
    simp [this]
    omega
  have h4 : x.toBitVec.msb = decide (x.toInt < 0) := BitVec.msb_eq_toInt
  rw [h1, h2, h3, h4]
  simp
theorem floorDiv_down {x y : Int64} (hy : 0 < y.toInt) : sJ9_floorDiv_f86c9 x y = sX12_down x y := by
  rw [zeq, down_toInt hy]
  have e := zqm (x := x) hy
  have q := zdivT (x := x) hy
  have f := tdiv_facts x.toInt hy
  have d := down_toInt (x := x) hy
  unfold sX12_down at d
  unfold sJ9_floorDiv_f86c9
  by_cases h0 : 0 ≤ x.toInt
  · rw [if_pos ((zxor_sign hy).mpr h0)]
    rw [q, Int.tdiv_eq_ediv_of_nonneg h0]
  · rw [if_neg (fun z => h0 ((zxor_sign hy).mp z))]
    by_cases c : x / y * y = x
    · rw [if_pos c]
      rw [if_pos (by rw [c]; exact Int64.le_refl x)] at d
      exact d
    · rw [if_neg c]
      have c2 : ¬ x / y * y ≤ x := by
        intro z
        rw [zle, e] at z
        have := f.2 (by omega)
        apply c
        rw [zeq, e]
        omega
      rw [if_neg c2] at d
      exact d
theorem quot_down {x y : Int64} (hy : 0 < y.toInt) : sX11_quotient x y = sX12_down x y := by
  unfold sX11_quotient
  rw [if_pos (by rw [zlt]; exact hy), floorDiv_down hy]
theorem down_div {x y : Int64} (hx : 0 ≤ x.toInt) (hy : 0 < y.toInt) : sX12_down x y = x / y := by
  rw [zeq, down_toInt hy, zdiv hx hy]
theorem kept_toInt (x y z : Int64) : (sX12_kept x y z).toInt = if y.toInt ≤ x.toInt then (if x.toInt ≤ z.toInt then x.toInt else z.toInt) else y.toInt := by
  unfold sX12_kept
  simp only [zle]
  split
  · split <;> rfl
  · rfl
theorem limit_kept {x y z : Int64} (h : y.toInt ≤ z.toInt) : sX11_limit x y z = sX12_kept x y z := by
  rw [zeq, kept_toInt]
  unfold sX11_limit sJ9_max_f86c9 sJ9_min_f86c9
  simp only [zlt]
  repeat' split
  all_goals omega
theorem within_in (x a b : Int32) : sX12_in x.toInt64 a.toInt64 b.toInt64 = sX11_isWithin x a b := by
  unfold sX12_in sX11_isWithin
  simp only [i2z_lt]
