/-! ===== reset and addSpan ===== -/
theorem begin_zero (T : St) (x : Int32) : ∀ k b : Nat, b < k → (LX12_begin_2_S T x k).2 11 b = 0 := by
  intro k
  induction k with
  | zero => intro b hb; omega
  | succ k ih =>
    intro b hb
    unfold LX12_begin_2_S
    by_cases e : b = k
    · rw [e, rJ_at]
    · rw [rJ_ne _ _ _ _ _ e]
      exact ih b (by omega)
theorem isLen_eq (x : Int32) : sX12_isLength x = sX11_isWithin x 100000 10000000 := in_eq x 100000 10000000 100000 10000000 rfl rfl
theorem append_now (T : St) (x : Int32) (n : Nat) (b : Nat) : (sX12_append_S T x n).2 11 b = if b = 8 * n then x.toInt64 else if 8 * n ≤ b ∧ b ≤ 8 * n + 7 then 0 else T.2 11 b := by
  unfold sX12_append_S
  show (sJ (LX12_append_33_S T x n 8) 11 (8 * n) x.toInt64).2 11 b = _
  by_cases e : b = 8 * n
  · rw [if_pos e, e, rJ_at]
  · rw [if_neg e, rJ_ne _ _ _ _ _ e]
    have h : ∀ k, (LX12_append_33_S T x n k).2 11 b = if 8 * n ≤ b ∧ b < 8 * n + k then 0 else T.2 11 b := by
      intro k
      induction k with
      | zero =>
        unfold LX12_append_33_S
        rw [rJ_sk _ _ _ _ _ _ (by omega), if_neg (by omega)]
        show (sJ T 1 n x.toInt64).2 11 b = _
        rw [rJ_sk _ _ _ _ _ _ (by omega)]
      | succ k ih =>
        unfold LX12_append_33_S
        by_cases e2 : b = 8 * n + k
        · rw [e2, rJ_at, if_pos (by omega)]
        · rw [rJ_ne _ _ _ _ _ e2, ih]
          by_cases e3 : 8 * n ≤ b ∧ b < 8 * n + k
          · rw [if_pos e3, if_pos (by omega)]
          · rw [if_neg e3, if_neg (by omega)]
    rw [h 8]
    by_cases e3 : 8 * n ≤ b ∧ b ≤ 8 * n + 7
    · rw [if_pos e3, if_pos (by omega)]
    · rw [if_neg e3, if_neg (by omega)]
theorem append_other (T : St) (x : Int32) (n : Nat) (a b : Nat) (ha : ¬ a = 11) : (sX12_append_S T x n).2 a b = if a = 1 ∧ b = n then x.toInt64 else if a = 10 ∧ b = n then 0 else T.2 a b := by
  unfold sX12_append_S
  show (sJ (LX12_append_33_S T x n 8) 11 (8 * n) x.toInt64).2 a b = _
  rw [rJ_sk _ _ _ _ _ _ (by omega)]
  have h : ∀ k, (LX12_append_33_S T x n k).2 a b = (LX12_append_33_S T x n 0).2 a b := by
    intro k
    induction k with
    | zero => rfl
    | succ k ih =>
      rw [← ih]
      show (sJ (LX12_append_33_S T x n k) 11 (8 * n + k) 0).2 a b = _
      rw [rJ_sk _ _ _ _ _ _ (by omega)]
  rw [h 8]
  show (sJ (sI (sJ T 1 n x.toInt64) 1 n 0) 10 n 0).2 a b = _
  by_cases e : a = 10 ∧ b = n
  · rw [if_neg (by omega), if_pos e, e.1, e.2, rJ_at]
  · rw [rJ_sk _ _ _ _ _ _ (by omega), if_neg e]
    show (sJ T 1 n x.toInt64).2 a b = _
    by_cases e2 : a = 1 ∧ b = n
    · rw [if_pos e2, e2.1, e2.2, rJ_at]
    · rw [if_neg e2, rJ_sk _ _ _ _ _ _ (by omega)]
theorem append_int (T : St) (x : Int32) (n : Nat) (a b : Nat) : (sX12_append_S T x n).1 a b = if a = 0 ∧ b = 0 then nI (n + 1) else if a = 1 ∧ b = n then 0 else T.1 a b := by
  have h : ∀ k, (LX12_append_33_S T x n k).1 = (LX12_append_33_S T x n 0).1 := by
    intro k
    induction k with
    | zero => rfl
    | succ k ih => exact ih
  unfold sX12_append_S
  by_cases e : a = 0 ∧ b = 0
  · rw [if_pos e, e.1, e.2, rI_at]
  · rw [rI_sk _ _ _ _ _ _ (by omega), if_neg e]
    show (LX12_append_33_S T x n 8).1 a b = _
    rw [h 8]
    show (sI (sJ T 1 n x.toInt64) 1 n 0).1 a b = _
    by_cases e2 : a = 1 ∧ b = n
    · rw [if_pos e2, e2.1, e2.2, rI_at]
    · rw [if_neg e2, rI_sk _ _ _ _ _ _ (by omega)]
      rfl
theorem begin_J (S T : St) {x : Int32} (hx : rI x 100000 10000000) {B : Int} (hB : 0 ≤ B) (m : Nat) : J (sX3_begin_S S x) (sX12_begin_S T x) B m ∧ Z0 (sX3_begin_S S x) := by
  have z : (0 : Int32).toInt = 0 := rfl
  have z' : (0 : Int64).toInt = 0 := rfl
  have n1 : (sX3_begin_S S x).1 0 0 = nI 1 := rfl
  have cn : cN (sX3_begin_S S x) = 1 := cK n1 (by decide)
  have q1 : (sX3_begin_S S x).1 0 13 = nI 0 := rfl
  have cq : cQ (sX3_begin_S S x) = 0 := cK q1 (by decide)
  have m1 : (sX3_begin_S S x).1 0 16 = nI 0 := rfl
  have cm : cM (sX3_begin_S S x) = 0 := cK m1 (by decide)
  have o1 : (sX3_begin_S S x).1 0 17 = nI 0 := rfl
  have co : cO (sX3_begin_S S x) = 0 := cK o1 (by decide)
  have l1 : (sX3_begin_S S x).1 0 18 = nI 0 := rfl
  have cl : cC (sX3_begin_S S x) = 0 := cK l1 (by decide)
  have xz : x.toInt64.toInt = x.toInt := i2z x
  have u : ∀ b, (sX12_begin_S T x).2 11 b = if b = 0 then x.toInt64 else if b ≤ 7 then 0 else (LX12_begin_2_S T x 64).2 11 b := by
    intro b
    unfold sX12_begin_S
    rw [append_now]
    by_cases e : b = 0
    · rw [if_pos (by omega), if_pos e]
    · rw [if_neg (by omega), if_neg e]
      by_cases e2 : b ≤ 7
      · rw [if_pos (by omega), if_pos e2]
      · rw [if_neg (by omega), if_neg e2]
        rw [rJ_sk _ _ _ _ _ _ (by omega), rJ_sk _ _ _ _ _ _ (by omega), rJ_sk _ _ _ _ _ _ (by omega), rJ_sk _ _ _ _ _ _ (by omega), rJ_sk _ _ _ _ _ _ (by omega), rJ_sk _ _ _ _ _ _ (by omega), rJ_sk _ _ _ _ _ _ (by omega), rJ_sk _ _ _ _ _ _ (by omega), rJ_sk _ _ _ _ _ _ (by omega)]
        rfl
  have u0 : (sX12_begin_S T x).2 11 0 = x.toInt64 := by rw [u, if_pos rfl]
  have v : ∀ b, 0 < b → b < 64 → (sX12_begin_S T x).2 11 b = 0 := by
    intro b h1 h2
    rw [u, if_neg (by omega)]
    by_cases e2 : b ≤ 7
    · rw [if_pos e2]
    · rw [if_neg e2, begin_zero T x 64 b h2]
  have w : ∀ b, (sX12_begin_S T x).2 0 b = (sJ (sJ (sJ (sJ (sJ (sJ (sJ (sJ (sJ (sI (LX12_begin_2_S T x 64) 0 0 0) 0 0 1000000) 0 1 0) 0 2 1000000) 0 3 500) 0 4 0) 0 5 100) 0 6 1000) 0 7 0) 0 8 1000000000).2 0 b := by
    intro b
    unfold sX12_begin_S
    rw [append_other _ _ _ _ _ (by omega), if_neg (by omega), if_neg (by omega)]
  refine ⟨⟨?_, ⟨⟨⟨?_, ?_, ?_, ?_, ?_, ?_, ?_, ?_, ?_, ?_⟩, ?_⟩, ⟨?_, ?_, ?_, ?_, ?_, ?_, ?_⟩, ⟨?_, ?_⟩, ?_, ⟨?_, ?_⟩, ⟨?_, ?_⟩, ?_⟩, ⟨⟨show rI (1000000 : Int32) 1000 10000000 from ⟨by decide, by decide⟩, show rI (0 : Int32) 0 100000 from ⟨by decide, by decide⟩, show rI (1000000 : Int32) 1000 10000000 from ⟨by decide, by decide⟩, show rI (500 : Int32) 1 1000 from ⟨by decide, by decide⟩, show rI (0 : Int32) 0 20000 from ⟨by decide, by decide⟩, show rI (100 : Int32) 1 5000 from ⟨by decide, by decide⟩, show rI (1000 : Int32) 0 20000 from ⟨by decide, by decide⟩, show rI (0 : Int32) 0 100000000 from ⟨by decide, by decide⟩, show rI (1000000000 : Int32) 100000 1000000000 from ⟨by decide, by decide⟩⟩, ⟨rfl, rfl⟩, ?_⟩, ⟨⟨⟨?_, ?_⟩, (show rI (0 : Int32) 0 20000 from ⟨by decide, by decide⟩), ⟨?_, ?_⟩, ⟨?_, ?_⟩, ?_, ?_⟩, ?_, ?_, ?_, ?_⟩, ?_⟩, ?_⟩
  · unfold Inv
    rw [cn, cq, cm, co, cl]
    exact ⟨⟨n1, by decide, by decide⟩, ⟨q1, by decide⟩, ⟨m1, by decide⟩, ⟨o1, by decide⟩, l1, by decide⟩
  · unfold sX12_begin_S; rw [append_int]; rfl
  · rw [w]; rfl
  · rw [w]; rfl
  · rw [w]; rfl
  · rw [w]; rfl
  · rw [w]; rfl
  · rw [w]; rfl
  · rw [w]; rfl
  · rw [w]; rfl
  · rw [w]; rfl
  · intro i hi
    rw [cn] at hi
    obtain rfl : i = 0 := by omega
    refine ⟨⟨?_, ?_, ?_⟩, fun h => absurd (show (0 : Int32) = 1 from h) (by decide), fun h => absurd (show (0 : Int32) = 2 from h) (by decide)⟩
    · unfold sX12_begin_S
      rw [append_int, if_neg (by omega), if_pos (by omega)]
      rfl
    · unfold sX12_begin_S
      rw [append_other _ _ _ _ _ (by omega), if_pos (by omega)]
      rfl
    · unfold sX12_begin_S
      rw [append_other _ _ _ _ _ (by omega), if_neg (by omega), if_pos (by omega)]
      rfl
  · rw [v 48 (by omega) (by omega)]; rfl
  · rw [v 49 (by omega) (by omega)]; rfl
  · rw [v 50 (by omega) (by omega)]; rfl
  · rw [v 51 (by omega) (by omega)]; rfl
  · rw [v 57 (by omega) (by omega)]; rfl
  · rw [v 58 (by omega) (by omega)]; rfl
  · rw [v 61 (by omega) (by omega)]; rfl
  · rw [v 52 (by omega) (by omega), cq]; rfl
  · intro j hj
    rw [cq] at hj
    omega
  · intro i hi
    rw [cn] at hi
    obtain rfl : i = 0 := by omega
    refine ⟨⟨?_, ?_, ?_, ?_, ?_⟩, fun h => absurd (show (0 : Int32) = 1 from h) (by decide)⟩
    · rw [show 8 * 0 = 0 from rfl, u0]; rfl
    · rw [v _ (by omega) (by omega)]; rfl
    · rw [v _ (by omega) (by omega)]; rfl
    · rw [v _ (by omega) (by omega)]; rfl
    · rw [v _ (by omega) (by omega)]; rfl
  · rw [v 62 (by omega) (by omega), cm]; rfl
  · intro j hj
    rw [cm] at hj
    omega
  · rw [v 63 (by omega) (by omega), cl]; rfl
  · intro j hj
    rw [cl] at hj
    omega
  · exact Or.inl ⟨v 59 (by omega) (by omega), rfl⟩
  · intro i hi
    rw [cn] at hi
    obtain rfl : i = 0 := by omega
    exact ⟨hx, (show rI (0 : Int32) (-20000) 20000 from ⟨by decide, by decide⟩), Or.inl rfl, fun h => absurd (show (0 : Int32) = 1 from h) (by decide), fun h => absurd (show (0 : Int32) = 2 from h) (by decide)⟩
  · show (0 : Int) ≤ (0 : Int32).toInt
    omega
  · show (0 : Int32).toInt ≤ B
    omega
  · show (0 : Int) ≤ (0 : Int32).toInt
    omega
  · show (0 : Int32).toInt ≤ B
    omega
  · show (0 : Int) ≤ (0 : Int64).toInt
    omega
  · show (0 : Int64).toInt ≤ 20000 * B
    omega
  · show -20000 * B ≤ (0 : Int64).toInt
    omega
  · show (0 : Int64).toInt ≤ 1000000000
    omega
  · intro i hi
    rw [cn] at hi
    obtain rfl : i = 0 := by omega
    refine ⟨?_, (show rI (0 : Int32) (-2000) 2000 from ⟨by decide, by decide⟩), ⟨(show (0 : Int) ≤ (0 : Int32).toInt from by decide), ?_⟩, fun h => absurd (show (0 : Int32) = 1 from h) (by decide)⟩
    · show 0 < x.toInt64.toInt
      have := hx.1
      omega
    · show (0 : Int32).toInt ≤ B
      omega
  · rw [cn]
    show 0 + x.toInt64.toInt ≤ _
    have := hx.2
    omega
  · intro k hk
    rw [cm] at hk
    omega
  · intro k hk
    rw [cq] at hk
    omega
  · rw [cm, cq]
    omega
  · intro _ i hi
    rw [cn] at hi
    obtain rfl : i = 0 := by omega
    show x.toInt64.toInt ≤ _
    have := hx.2
    omega
theorem op_reset {S T : St} {B : Int} {m : Nat} (h : J S T B m) (hz : Z0 S) (hB : 0 ≤ B) (S2 : St) (x : Int32) : sX11_reset S S2 x = sX12_reset T x ∧ J (sX11_reset_S S S2 x) (sX12_reset_S T x) B m ∧ Z0 (sX11_reset_S S S2 x) := by
  unfold sX11_reset sX12_reset sX11_reset_S sX12_reset_S
  rw [isLen_eq]
  by_cases h1 : sX11_isWithin x 100000 10000000 = 0
  · simp only [if_pos h1]
    exact ⟨trivial, h, hz⟩
  · simp only [if_neg h1]
    refine ⟨?_, begin_J S T (within_rI h1) hB m⟩
    rw [h.2.1.2.1.1, i2z2i]
theorem append_J {S T : St} {B : Int} {m : Nat} (h : J S T B m) (hz : ∀ i, i < cN S → (S.2 3 i).toInt ≤ 10200000) (hB : 0 ≤ B) (hn : cN S < 6) {x : Int32} (hx : rI x 100000 10000000) : J (sX3_append_S S x (cN S)) (sX12_append_S T x (cN S)) B m ∧ Z0 (sX3_append_S S x (cN S)) := by
  obtain ⟨hI, ⟨⟨rc1, rc2⟩, rt, rq, rs, rm, re, rb⟩, hC, hD, hm⟩ := h
  have hq : cQ S ≤ 4 := hI.2.1.2
  have z : (0 : Int32).toInt = 0 := rfl
  have xz : x.toInt64.toInt = x.toInt := i2z x
  have eS : sX3_append_S S x (cN S) = sI (sX7_begin_S (sX8_begin_S S (cN S) x) (cN S + 1)) 0 0 (nI (cN S + 1)) := by
    unfold sX3_append_S
    rw [if_pos hn]
  have sI1 : ∀ a b, ¬ ((a = 5 ∨ a = 6 ∨ a = 7) ∧ b = cN S) → ¬ ((a = 17 ∨ a = 18) ∧ b = cN S + 1) → ¬ (a = 0 ∧ b = 0) → (sX3_append_S S x (cN S)).1 a b = S.1 a b := by
    intro a b h1 h2 h3
    rw [eS]
    unfold sX7_begin_S sX8_begin_S
    rw [rI_sk _ _ _ _ _ _ (by omega), rI_sk _ _ _ _ _ _ (by omega), rI_sk _ _ _ _ _ _ (by omega)]
    show (sI (sI (sI S 5 (cN S) x) 6 (cN S) 0) 7 (cN S) 0).1 a b = _
    rw [rI_sk _ _ _ _ _ _ (by omega), rI_sk _ _ _ _ _ _ (by omega), rI_sk _ _ _ _ _ _ (by omega)]
  have sJ1 : ∀ a b, ¬ ((a = 3 ∨ a = 4) ∧ b = cN S) → ¬ (a = 5 ∧ b = cN S + 1) → (sX3_append_S S x (cN S)).2 a b = S.2 a b := by
    intro a b h1 h2
    rw [eS]
    unfold sX7_begin_S sX8_begin_S
    show (sJ (sJ (sJ S 3 (cN S) x.toInt64) 4 (cN S) 0) 5 (cN S + 1) 0).2 a b = _
    rw [rJ_sk _ _ _ _ _ _ (by omega), rJ_sk _ _ _ _ _ _ (by omega), rJ_sk _ _ _ _ _ _ (by omega)]
  have n1 : (sX3_append_S S x (cN S)).1 0 0 = nI (cN S + 1) := by rw [eS]; rfl
  have v5 : (sX3_append_S S x (cN S)).1 5 (cN S) = x := by
    rw [eS]
    unfold sX7_begin_S sX8_begin_S
    rw [rI_sk _ _ _ _ _ _ (by omega), rI_sk _ _ _ _ _ _ (by omega), rI_sk _ _ _ _ _ _ (by omega)]
    show (sI (sI (sI S 5 (cN S) x) 6 (cN S) 0) 7 (cN S) 0).1 5 (cN S) = _
    rw [rI_sk _ _ _ _ _ _ (by omega), rI_sk _ _ _ _ _ _ (by omega), rI_at]
  have v6 : (sX3_append_S S x (cN S)).1 6 (cN S) = 0 := by
    rw [eS]
    unfold sX7_begin_S sX8_begin_S
    rw [rI_sk _ _ _ _ _ _ (by omega), rI_sk _ _ _ _ _ _ (by omega), rI_sk _ _ _ _ _ _ (by omega)]
    show (sI (sI (sI S 5 (cN S) x) 6 (cN S) 0) 7 (cN S) 0).1 6 (cN S) = _
    rw [rI_sk _ _ _ _ _ _ (by omega), rI_at]
  have v7 : (sX3_append_S S x (cN S)).1 7 (cN S) = 0 := by
    rw [eS]
    unfold sX7_begin_S sX8_begin_S
    rw [rI_sk _ _ _ _ _ _ (by omega), rI_sk _ _ _ _ _ _ (by omega), rI_sk _ _ _ _ _ _ (by omega)]
    show (sI (sI (sI S 5 (cN S) x) 6 (cN S) 0) 7 (cN S) 0).1 7 (cN S) = _
    rw [rI_at]
  have v17 : (sX3_append_S S x (cN S)).1 17 (cN S + 1) = 0 := by
    rw [eS]
    unfold sX7_begin_S
    rw [rI_sk _ _ _ _ _ _ (by omega), rI_sk _ _ _ _ _ _ (by omega), rI_at]
  have v18 : (sX3_append_S S x (cN S)).1 18 (cN S + 1) = 0 := by
    rw [eS]
    unfold sX7_begin_S
    rw [rI_sk _ _ _ _ _ _ (by omega), rI_at]
  have w3 : (sX3_append_S S x (cN S)).2 3 (cN S) = x.toInt64 := by
    rw [eS]
    unfold sX7_begin_S sX8_begin_S
    show (sJ (sJ (sJ S 3 (cN S) x.toInt64) 4 (cN S) 0) 5 (cN S + 1) 0).2 3 (cN S) = _
    rw [rJ_sk _ _ _ _ _ _ (by omega), rJ_sk _ _ _ _ _ _ (by omega), rJ_at]
  have w4 : (sX3_append_S S x (cN S)).2 4 (cN S) = 0 := by
    rw [eS]
    unfold sX7_begin_S sX8_begin_S
    show (sJ (sJ (sJ S 3 (cN S) x.toInt64) 4 (cN S) 0) 5 (cN S + 1) 0).2 4 (cN S) = _
    rw [rJ_sk _ _ _ _ _ _ (by omega), rJ_at]
  have w5 : (sX3_append_S S x (cN S)).2 5 (cN S + 1) = 0 := by
    rw [eS]
    unfold sX7_begin_S sX8_begin_S
    show (sJ (sJ (sJ S 3 (cN S) x.toInt64) 4 (cN S) 0) 5 (cN S + 1) 0).2 5 (cN S + 1) = _
    rw [rJ_at]
  have tI1 : ∀ a b, ¬ (a = 1 ∧ b = cN S) → ¬ (a = 0 ∧ b = 0) → (sX12_append_S T x (cN S)).1 a b = T.1 a b := by
    intro a b h1 h2
    rw [append_int, if_neg h2, if_neg h1]
  have tJ1 : ∀ a b, ¬ ((a = 1 ∨ a = 10) ∧ b = cN S) → ¬ (a = 11 ∧ 8 * cN S ≤ b ∧ b ≤ 8 * cN S + 7) → (sX12_append_S T x (cN S)).2 a b = T.2 a b := by
    intro a b h1 h2
    by_cases e : a = 11
    · subst e
      rw [append_now, if_neg (by omega), if_neg (by omega)]
    · rw [append_other _ _ _ _ _ e, if_neg (by omega), if_neg (by omega)]
  have t0 : (sX12_append_S T x (cN S)).1 0 0 = nI (cN S + 1) := by rw [append_int, if_pos (by omega)]
  have t1 : (sX12_append_S T x (cN S)).1 1 (cN S) = 0 := by rw [append_int, if_neg (by omega), if_pos (by omega)]
  have u1 : (sX12_append_S T x (cN S)).2 1 (cN S) = x.toInt64 := by rw [append_other _ _ _ _ _ (by omega), if_pos (by omega)]
  have u10 : (sX12_append_S T x (cN S)).2 10 (cN S) = 0 := by rw [append_other _ _ _ _ _ (by omega), if_neg (by omega), if_pos (by omega)]
  have u11 : (sX12_append_S T x (cN S)).2 11 (8 * cN S) = x.toInt64 := by rw [append_now, if_pos rfl]
  have u12 : ∀ k, 1 ≤ k → k ≤ 7 → (sX12_append_S T x (cN S)).2 11 (8 * cN S + k) = 0 := by
    intro k h1 h2
    rw [append_now, if_neg (by omega), if_pos (by omega)]
  generalize hS' : sX3_append_S S x (cN S) = S' at *
  generalize hT' : sX12_append_S T x (cN S) = T' at *
  have cn : cN S' = cN S + 1 := cK n1 (by omega)
  have cq : cQ S' = cQ S := by unfold cQ; rw [sI1 _ _ (by omega) (by omega) (by omega)]
  have cm : cM S' = cM S := by unfold cM; rw [sI1 _ _ (by omega) (by omega) (by omega)]
  have co : cO S' = cO S := by unfold cO; rw [sI1 _ _ (by omega) (by omega) (by omega)]
  have cl : cC S' = cC S := by unfold cC; rw [sI1 _ _ (by omega) (by omega) (by omega)]
  have no1 : ¬ (0 : Int32) = 1 := by decide
  have no2 : ¬ (0 : Int32) = 2 := by decide
  have cap : ∀ i, i < cN S' → (S'.2 3 i).toInt ≤ 10200000 := by
    intro i hi
    rw [cn] at hi
    by_cases e : i = cN S
    · rw [e, w3]
      have := hx.2
      omega
    · rw [sJ1 _ _ (by omega) (by omega)]
      exact hz i (by omega)
  have hmm : ∀ b, ¬ b = 0 → S'.1 0 b = S.1 0 b := fun b hb => sI1 _ _ (by omega) (by omega) (by omega)
  refine ⟨⟨?_, ⟨⟨⟨?_, ?_⟩, ?_⟩, ?_, ⟨?_, ?_⟩, ?_, ⟨?_, ?_⟩, ⟨?_, ?_⟩, ?_⟩, ⟨?_, ⟨?_, ?_⟩, ?_⟩, ⟨?_, ?_, ?_, ?_, ?_⟩, ?_⟩, fun _ => cap⟩
  · unfold Inv
    rw [cn, cq, cm, co, cl, hmm 13 (by omega), hmm 16 (by omega), hmm 17 (by omega), hmm 18 (by omega)]
    exact ⟨⟨n1, by omega, by omega⟩, hI.2⟩
  · rw [t0, n1]
  · rw [tJ1 0 0 (by omega) (by omega), tJ1 0 1 (by omega) (by omega), tJ1 0 2 (by omega) (by omega), tJ1 0 3 (by omega) (by omega), tJ1 0 4 (by omega) (by omega), tJ1 0 5 (by omega) (by omega), tJ1 0 6 (by omega) (by omega), tJ1 0 7 (by omega) (by omega), tJ1 0 8 (by omega) (by omega), hmm 4 (by omega), hmm 5 (by omega), hmm 6 (by omega), hmm 7 (by omega), hmm 9 (by omega), hmm 10 (by omega), hmm 11 (by omega), hmm 12 (by omega), hmm 14 (by omega)]
    exact rc1.2
  · intro i hi
    rw [cn] at hi
    by_cases e : i = cN S
    · subst e
      rw [v6]
      refine ⟨⟨t1, ?_, ?_⟩, fun h => absurd h no1, fun h => absurd h no2⟩
      · rw [u1, v5]
      · rw [u10, v17]; rfl
    · rw [tI1 1 i (by omega) (by omega), tJ1 1 i (by omega) (by omega), tJ1 10 i (by omega) (by omega), tJ1 3 i (by omega) (by omega), tJ1 4 i (by omega) (by omega), tJ1 5 i (by omega) (by omega), tJ1 6 i (by omega) (by omega), tJ1 7 i (by omega) (by omega), tJ1 8 i (by omega) (by omega), tJ1 9 i (by omega) (by omega), sI1 6 i (by omega) (by omega) (by omega), sI1 5 i (by omega) (by omega) (by omega), sI1 17 (i + 1) (by omega) (by omega) (by omega), sI1 8 i (by omega) (by omega) (by omega), sI1 9 i (by omega) (by omega) (by omega), sI1 10 i (by omega) (by omega) (by omega), sI1 11 i (by omega) (by omega) (by omega), sI1 12 i (by omega) (by omega) (by omega), sI1 15 i (by omega) (by omega) (by omega), sI1 16 i (by omega) (by omega) (by omega)]
      exact rc2 i (by omega)
  · unfold RelT
    rw [tJ1 11 48 (by omega) (by omega), tJ1 11 49 (by omega) (by omega), tJ1 11 50 (by omega) (by omega), tJ1 11 51 (by omega) (by omega), tJ1 11 57 (by omega) (by omega), tJ1 11 58 (by omega) (by omega), tJ1 11 61 (by omega) (by omega), hmm 1 (by omega), hmm 2 (by omega), hmm 8 (by omega), hmm 15 (by omega), sJ1 0 0 (by omega) (by omega), sJ1 0 1 (by omega) (by omega), sJ1 5 0 (by omega) (by omega)]
    exact rt
  · rw [tJ1 _ _ (by omega) (by omega), cq]
    exact rq.1
  · intro j hj
    rw [cq] at hj
    rw [tJ1 _ _ (by omega) (by omega), sI1 1 j (by omega) (by omega) (by omega)]
    exact rq.2 j hj
  · intro i hi
    rw [cn] at hi
    by_cases e : i = cN S
    · subst e
      rw [v6, u11, w3, u12 3 (by omega) (by omega), u12 4 (by omega) (by omega), u12 5 (by omega) (by omega), u12 6 (by omega) (by omega), v18, w5, v7, w4]
      exact ⟨⟨rfl, rfl, rfl, rfl, rfl⟩, fun h => absurd h no1⟩
    · rw [tJ1 11 (8 * i) (by omega) (by omega), tJ1 11 (8 * i + 1) (by omega) (by omega), tJ1 11 (8 * i + 2) (by omega) (by omega), tJ1 11 (8 * i + 3) (by omega) (by omega), tJ1 11 (8 * i + 4) (by omega) (by omega), tJ1 11 (8 * i + 5) (by omega) (by omega), tJ1 11 (8 * i + 6) (by omega) (by omega), sI1 6 i (by omega) (by omega) (by omega), sI1 7 i (by omega) (by omega) (by omega), sI1 18 (i + 1) (by omega) (by omega) (by omega), sI1 13 i (by omega) (by omega) (by omega), sI1 14 i (by omega) (by omega) (by omega), sJ1 3 i (by omega) (by omega), sJ1 4 i (by omega) (by omega), sJ1 5 (i + 1) (by omega) (by omega)]
      exact rs i (by omega)
  · rw [tJ1 _ _ (by omega) (by omega), cm]
    exact rm.1
  · intro j hj
    rw [cm] at hj
    rw [tJ1 _ _ (by omega) (by omega), sJ1 1 j (by omega) (by omega)]
    exact rm.2 j hj
  · rw [tJ1 _ _ (by omega) (by omega), cl]
    exact re.1
  · intro j hj
    rw [cl] at hj
    rw [co, tJ1 13 _ (by omega) (by omega), tJ1 13 _ (by omega) (by omega), tJ1 13 _ (by omega) (by omega), sI1 2 _ (by omega) (by omega) (by omega), sI1 3 _ (by omega) (by omega) (by omega), sI1 4 _ (by omega) (by omega) (by omega)]
    exact re.2 j hj
  · unfold RelB
    rw [tJ1 11 59 (by omega) (by omega), tJ1 11 60 (by omega) (by omega), hmm 3 (by omega)]
    exact rb
  · rw [hmm 4 (by omega), hmm 5 (by omega), hmm 6 (by omega), hmm 7 (by omega), hmm 9 (by omega), hmm 10 (by omega), hmm 11 (by omega), hmm 12 (by omega), hmm 14 (by omega)]
    exact hC.1
  · rw [sI1 17 0 (by omega) (by omega) (by omega)]
    exact hC.2.1.1
  · rw [sI1 18 0 (by omega) (by omega) (by omega)]
    exact hC.2.1.2
  · intro i hi
    rw [cn] at hi
    by_cases e : i = cN S
    · subst e
      rw [v5, v6, v17]
      exact ⟨hx, ⟨by decide, by decide⟩, Or.inl rfl, fun h => absurd h no1, fun h => absurd h no2⟩
    · rw [sI1 6 i (by omega) (by omega) (by omega), sI1 5 i (by omega) (by omega) (by omega), sI1 17 (i + 1) (by omega) (by omega) (by omega), sI1 8 i (by omega) (by omega) (by omega), sI1 9 i (by omega) (by omega) (by omega), sI1 10 i (by omega) (by omega) (by omega), sI1 11 i (by omega) (by omega) (by omega), sI1 12 i (by omega) (by omega) (by omega), sI1 15 i (by omega) (by omega) (by omega), sI1 16 i (by omega) (by omega) (by omega)]
      exact hC.2.2 i (by omega)
  · rw [hmm 1 (by omega), hmm 8 (by omega), hmm 15 (by omega), sJ1 5 0 (by omega) (by omega), sJ1 0 0 (by omega) (by omega)]
    exact hD.1
  · intro i hi
    rw [cn] at hi
    by_cases e : i = cN S
    · subst e
      rw [w3, v18, v7, v6]
      refine ⟨?_, ⟨by decide, by decide⟩, ⟨by decide, ?_⟩, fun h => absurd h no1⟩
      · have := hx.1
        omega
      · omega
    · rw [sJ1 3 i (by omega) (by omega), sI1 18 (i + 1) (by omega) (by omega) (by omega), sI1 7 i (by omega) (by omega) (by omega), sI1 6 i (by omega) (by omega) (by omega), sI1 13 i (by omega) (by omega) (by omega), sI1 14 i (by omega) (by omega) (by omega), sI1 8 i (by omega) (by omega) (by omega)]
      exact hD.2.1 i (by omega)
  · have c := mSum_cap (S := S') (cN S') cap
    have e : (10200000 : Int) * (cN S' : Int) ≤ 61200000 := by omega
    omega
  · intro k hk
    rw [cm] at hk
    rw [sJ1 1 k (by omega) (by omega)]
    exact hD.2.2.2.1 k hk
  · intro k hk
    rw [cq] at hk
    rw [sI1 1 k (by omega) (by omega) (by omega)]
    exact hD.2.2.2.2 k hk
  · rw [cm, cq]
    exact hm
theorem op_addSpan {S T : St} {B : Int} {m : Nat} (h : J S T B m) (hz : Z0 S) (hB : 0 ≤ B) (S2 : St) (x : Int32) : sX11_addSpan S S2 x = sX12_addSpan T x ∧ J (sX11_addSpan_S S S2 x) (sX12_addSpan_S T x) B m ∧ Z0 (sX11_addSpan_S S S2 x) := by
  unfold sX11_addSpan sX12_addSpan sX11_addSpan_S sX12_addSpan_S
  rw [isLen_eq]
  by_cases h1 : sX11_isWithin x 100000 10000000 = 0
  · simp only [if_pos h1]
    exact ⟨trivial, h, hz⟩
  · simp only [if_neg h1]
    have ht := h.time
    have cn : cN T = cN S := by unfold cN; rw [h.2.1.1.1.1]
    have hn : cN S ≤ 6 := h.1.1.2.2
    by_cases h6 : S.1 0 1 = 0
    · simp only [if_pos h6, if_pos (ht.mpr h6), cn]
      by_cases h7 : cN S = 6
      · simp only [if_pos h7]
        unfold sX3_append sX3_append_S
        rw [if_neg (by omega), if_neg (by omega)]
        exact ⟨rfl, h, hz⟩
      · simp only [if_neg h7]
        refine ⟨?_, append_J h (hz h6) hB (by omega) (within_rI h1)⟩
        unfold sX3_append
        rw [if_pos (by omega), append_int, if_pos (by omega), ieq, isub (by rw [nI_toInt (by omega)]; show _ ∧ _; have e1 : (1 : Int32).toInt = 1 := rfl; omega), nI_toInt (by omega), nI_toInt (by omega)]
        have e1 : (1 : Int32).toInt = 1 := rfl
        omega
    · simp only [if_neg h6, if_neg (fun z => h6 (ht.mp z))]
      exact ⟨trivial, h, hz⟩
