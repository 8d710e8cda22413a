/-! ===== thread ===== -/
def thH (T : St) (i : Nat) : Int64 := if T.1 1 i = 1 then T.2 3 i / 2 else 0
def thW (T : St) (i : Nat) : Int64 := if T.1 1 i = 1 then T.2 1 i + 2 * thH T i else T.2 1 i + 0
def thV (S : St) (i : Nat) : Int64 := if S.1 6 i = 1 then (S.1 5 i).toInt64 + 2 * (S.1 8 i / 2).toInt64 else (S.1 5 i).toInt64
theorem thB_int (S : St) (a b : Nat) : (LX3_threadAnew_40_S S 0).1 a b = if a = 0 ∧ (b = 16 ∨ b = 8 ∨ b = 2) then 0 else S.1 a b := by
  show (sI (sI (sI S 0 2 0) 0 8 0) 0 16 0).1 a b = _
  rw [rI_sI, rI_sI, rI_sI]
  by_cases h1 : a = 0 ∧ b = 16
  · rw [if_pos h1, if_pos (by omega)]
  · rw [if_neg h1]
    by_cases h2 : a = 0 ∧ b = 8
    · rw [if_pos h2, if_pos (by omega)]
    · rw [if_neg h2]
      by_cases h3 : a = 0 ∧ b = 2
      · rw [if_pos h3, if_pos (by omega)]
      · rw [if_neg h3, if_neg (by omega)]
theorem thB_long (S : St) (a b : Nat) : (LX3_threadAnew_40_S S 0).2 a b = if a = 0 ∧ b = 0 then sJ9_max_f86c9 0 (S.2 0 0) else S.2 a b := by
  show (sJ S 0 0 (sJ9_max_f86c9 0 (S.2 0 0))).2 a b = _
  rw [rJ_sJ]
theorem thS_int (S : St) : ∀ k a b : Nat, (LX3_threadAnew_40_S S k).1 a b = if (a = 18 ∧ 1 ≤ b ∧ b ≤ k) ∨ (a = 7 ∧ b < k) ∨ (a = 14 ∧ b < k) then 0 else if a = 13 ∧ b < k then S.1 8 b / 2 else (LX3_threadAnew_40_S S 0).1 a b := by
  intro k
  induction k with
  | zero => intro a b; rw [if_neg (by omega), if_neg (by omega)]
  | succ k ih =>
    intro a b
    show (sI (sJ (sI (sI (sI (LX3_threadAnew_40_S S k) 18 (k + 1) 0) 13 k ((sI (LX3_threadAnew_40_S S k) 18 (k + 1) 0).1 8 k / 2)) 14 k 0) 3 k (sX8_length (sI (sI (sI (LX3_threadAnew_40_S S k) 18 (k + 1) 0) 13 k ((sI (LX3_threadAnew_40_S S k) 18 (k + 1) 0).1 8 k / 2)) 14 k 0) k)) 7 k 0).1 a b = _
    rw [rI_sI]
    by_cases e1 : a = 7 ∧ b = k
    · rw [if_pos e1, if_pos (by omega)]
    rw [if_neg e1]
    show (sI (sI (sI (LX3_threadAnew_40_S S k) 18 (k + 1) 0) 13 k ((sI (LX3_threadAnew_40_S S k) 18 (k + 1) 0).1 8 k / 2)) 14 k 0).1 a b = _
    rw [rI_sI]
    by_cases e2 : a = 14 ∧ b = k
    · rw [if_pos e2, if_pos (by omega)]
    rw [if_neg e2, rI_sI]
    by_cases e3 : a = 13 ∧ b = k
    · rw [if_pos e3, if_neg (by omega), if_pos (by omega), rI_sk _ _ _ _ _ _ (by omega), ih, if_neg (by omega), if_neg (by omega), thB_int, if_neg (by omega), e3.2]
    rw [if_neg e3, rI_sI]
    by_cases e4 : a = 18 ∧ b = k + 1
    · rw [if_pos e4, if_pos (by omega)]
    rw [if_neg e4, ih]
    by_cases c1 : (a = 18 ∧ 1 ≤ b ∧ b ≤ k) ∨ (a = 7 ∧ b < k) ∨ (a = 14 ∧ b < k)
    · rw [if_pos c1, if_pos (by omega)]
    rw [if_neg c1, if_neg (show ¬ ((a = 18 ∧ 1 ≤ b ∧ b ≤ k + 1) ∨ (a = 7 ∧ b < k + 1) ∨ (a = 14 ∧ b < k + 1)) by omega)]
    by_cases c2 : a = 13 ∧ b < k
    · rw [if_pos c2, if_pos (by omega)]
    · rw [if_neg c2, if_neg (by omega)]
theorem thS_long (S : St) : ∀ k a b : Nat, (LX3_threadAnew_40_S S k).2 a b = if a = 3 ∧ b < k then thV S b else (LX3_threadAnew_40_S S 0).2 a b := by
  intro k
  induction k with
  | zero => intro a b; rw [if_neg (by omega)]
  | succ k ih =>
    intro a b
    show (sJ (LX3_threadAnew_40_S S k) 3 k (sX8_length (sI (sI (sI (LX3_threadAnew_40_S S k) 18 (k + 1) 0) 13 k ((sI (LX3_threadAnew_40_S S k) 18 (k + 1) 0).1 8 k / 2)) 14 k 0) k)).2 a b = _
    rw [rJ_sJ]
    by_cases e : a = 3 ∧ b = k
    · rw [if_pos e, if_pos (by omega), e.2]
      unfold sX8_length thV
      have f8 : (sI (LX3_threadAnew_40_S S k) 18 (k + 1) 0).1 8 k = S.1 8 k := by rw [rI_sk _ _ _ _ _ _ (by omega), thS_int, if_neg (by omega), if_neg (by omega), thB_int, if_neg (by omega)]
      rw [f8]
      have f6 : (sI (sI (sI (LX3_threadAnew_40_S S k) 18 (k + 1) 0) 13 k (S.1 8 k / 2)) 14 k 0).1 6 k = S.1 6 k := by rw [rI_sk _ _ _ _ _ _ (by omega), rI_sk _ _ _ _ _ _ (by omega), rI_sk _ _ _ _ _ _ (by omega), thS_int, if_neg (by omega), if_neg (by omega), thB_int, if_neg (by omega)]
      have f5 : (sI (sI (sI (LX3_threadAnew_40_S S k) 18 (k + 1) 0) 13 k (S.1 8 k / 2)) 14 k 0).1 5 k = S.1 5 k := by rw [rI_sk _ _ _ _ _ _ (by omega), rI_sk _ _ _ _ _ _ (by omega), rI_sk _ _ _ _ _ _ (by omega), thS_int, if_neg (by omega), if_neg (by omega), thB_int, if_neg (by omega)]
      have f13 : (sI (sI (sI (LX3_threadAnew_40_S S k) 18 (k + 1) 0) 13 k (S.1 8 k / 2)) 14 k 0).1 13 k = S.1 8 k / 2 := by rw [rI_sk _ _ _ _ _ _ (by omega), rI_at]
      rw [f6, f5, f13]
    · rw [if_neg e, ih]
      by_cases c : a = 3 ∧ b < k
      · rw [if_pos c, if_pos (by omega)]
      · rw [if_neg c, if_neg (by omega)]
theorem thK_int (T : St) : (KX12_thread_69_S T).1 = T.1 := by
  unfold KX12_thread_69_S
  split <;> rfl
theorem thK_long (T : St) (a b : Nat) : (KX12_thread_69_S T).2 a b = if a = 11 ∧ b = 51 then (if 0 ≤ T.2 11 51 then T.2 11 51 else 0) else if a = 11 ∧ (b = 49 ∨ b = 50 ∨ b = 62) then 0 else T.2 a b := by
  have h : ∀ v, (sJ (sJ (sJ (sJ T 11 49 0) 11 50 0) 11 62 0) 11 51 v).2 a b = if a = 11 ∧ b = 51 then v else if a = 11 ∧ (b = 49 ∨ b = 50 ∨ b = 62) then 0 else T.2 a b := by
    intro v
    rw [rJ_sJ, rJ_sJ, rJ_sJ, rJ_sJ]
    by_cases e1 : a = 11 ∧ b = 51
    · rw [if_pos e1, if_pos e1]
    rw [if_neg e1, if_neg e1]
    by_cases e2 : a = 11 ∧ b = 62
    · rw [if_pos e2, if_pos (by omega)]
    rw [if_neg e2]
    by_cases e3 : a = 11 ∧ b = 50
    · rw [if_pos e3, if_pos (by omega)]
    rw [if_neg e3]
    by_cases e4 : a = 11 ∧ b = 49
    · rw [if_pos e4, if_pos (by omega)]
    · rw [if_neg e4, if_neg (by omega)]
  unfold KX12_thread_69_S
  by_cases c : 0 ≤ T.2 11 51
  · rw [if_pos c, if_pos c, h]
  · rw [if_neg c, if_neg c, h]
theorem equip_int (X : St) (k : Nat) (y : Int32) (hy : X.1 1 k = y) : (sX12_equip_S X k y).1 = X.1 := by
  have e : (sI X 1 k y).1 = X.1 := by
    funext a b
    rw [rI_sI]
    by_cases h : a = 1 ∧ b = k
    · rw [if_pos h, h.1, h.2, hy]
    · rw [if_neg h]
  unfold sX12_equip_S
  split
  · exact e
  · exact e
theorem equip_long (X : St) (k : Nat) (y : Int32) (hy : X.1 1 k = y) : (sX12_equip_S X k y).2 = (sJ (sJ (sJ X 11 (8 * k + 1) (thH X k)) 11 (8 * k + 2) 0) 11 (8 * k) (thW X k)).2 := by
  have e : (sI X 1 k y).1 = X.1 := by
    funext a b
    rw [rI_sI]
    by_cases h : a = 1 ∧ b = k
    · rw [if_pos h, h.1, h.2, hy]
    · rw [if_neg h]
  unfold sX12_equip_S thW thH
  rw [hy]
  by_cases c : y = 1
  · rw [if_pos c, if_pos c, if_pos c]
    unfold sX12_length
    rw [show (sJ (sJ (sI X 1 k y) 11 (8 * k + 1) (X.2 3 k / 2)) 11 (8 * k + 2) 0).1 1 k = y from rI_at X 1 k y, if_pos c, rJ_sk _ _ _ _ 1 _ (by omega), rJ_sk _ _ _ _ 1 _ (by omega), rJ_sk _ _ _ _ 11 (8 * k + 1) (by omega), rJ_at]
    rfl
  · rw [if_neg c, if_neg c]
    unfold sX12_length
    rw [show (sJ (sJ (sI X 1 k y) 11 (8 * k + 1) 0) 11 (8 * k + 2) 0).1 1 k = y from rI_at X 1 k y, if_neg c, rJ_sk _ _ _ _ 1 _ (by omega), rJ_sk _ _ _ _ 1 _ (by omega), if_neg c]
    rfl
theorem thT_int (T : St) : ∀ k, (LX12_thread_71_S T k).1 = T.1 := by
  intro k
  induction k with
  | zero => exact thK_int T
  | succ k ih =>
    unfold LX12_thread_71_S
    rw [equip_int (sJ (sJ (LX12_thread_71_S T k) 11 (8 * k + 3) 0) 11 (8 * k + 5) 0) k ((LX12_thread_71_S T k).1 1 k) rfl]
    exact ih
theorem thT_long (T : St) : ∀ k a b : Nat, (LX12_thread_71_S T k).2 a b = if a = 11 ∧ b < 8 * k ∧ ¬ b % 8 = 4 ∧ b % 8 < 6 then (if b % 8 = 0 then thW T (b / 8) else if b % 8 = 1 then thH T (b / 8) else 0) else (KX12_thread_69_S T).2 a b := by
  intro k
  induction k with
  | zero => intro a b; rw [if_neg (by omega)]; rfl
  | succ k ih =>
    intro a b
    unfold LX12_thread_71_S
    rw [equip_long (sJ (sJ (LX12_thread_71_S T k) 11 (8 * k + 3) 0) 11 (8 * k + 5) 0) k ((LX12_thread_71_S T k).1 1 k) rfl]
    have i1 : (sJ (sJ (LX12_thread_71_S T k) 11 (8 * k + 3) 0) 11 (8 * k + 5) 0).1 = T.1 := thT_int T k
    have i2 : ∀ a, ¬ a = 11 → (sJ (sJ (LX12_thread_71_S T k) 11 (8 * k + 3) 0) 11 (8 * k + 5) 0).2 a k = T.2 a k := by
      intro a ha
      rw [rJ_sk _ _ _ _ _ _ (by omega), rJ_sk _ _ _ _ _ _ (by omega), ih, if_neg (by omega), thK_long, if_neg (by omega), if_neg (by omega)]
    have h1 : thH (sJ (sJ (LX12_thread_71_S T k) 11 (8 * k + 3) 0) 11 (8 * k + 5) 0) k = thH T k := by
      unfold thH
      rw [i1, i2 3 (by omega)]
    have h2 : thW (sJ (sJ (LX12_thread_71_S T k) 11 (8 * k + 3) 0) 11 (8 * k + 5) 0) k = thW T k := by
      unfold thW
      rw [h1, i1, i2 1 (by omega)]
    rw [h1, h2, rJ_sJ]
    by_cases e1 : a = 11 ∧ b = 8 * k
    · rw [if_pos e1, if_pos (by omega), if_pos (by omega), show b / 8 = k by omega]
    rw [if_neg e1, rJ_sJ]
    by_cases e2 : a = 11 ∧ b = 8 * k + 2
    · rw [if_pos e2, if_pos (by omega), if_neg (by omega), if_neg (by omega)]
    rw [if_neg e2, rJ_sJ]
    by_cases e3 : a = 11 ∧ b = 8 * k + 1
    · rw [if_pos e3, if_pos (by omega), if_neg (by omega), if_pos (by omega), show b / 8 = k by omega]
    rw [if_neg e3, rJ_sJ]
    by_cases e4 : a = 11 ∧ b = 8 * k + 5
    · rw [if_pos e4, if_pos (by omega), if_neg (by omega), if_neg (by omega)]
    rw [if_neg e4, rJ_sJ]
    by_cases e5 : a = 11 ∧ b = 8 * k + 3
    · rw [if_pos e5, if_pos (by omega), if_neg (by omega), if_neg (by omega)]
    rw [if_neg e5, ih]
    by_cases c : a = 11 ∧ b < 8 * k ∧ ¬ b % 8 = 4 ∧ b % 8 < 6
    · rw [if_pos c, if_pos (show a = 11 ∧ b < 8 * (k + 1) ∧ ¬ b % 8 = 4 ∧ b % 8 < 6 by omega)]
    · rw [if_neg c, if_neg (show ¬ (a = 11 ∧ b < 8 * (k + 1) ∧ ¬ b % 8 = 4 ∧ b % 8 < 6) by omega)]
theorem rem_max (r : Int64) : sJ9_max_f86c9 0 r = if 0 ≤ r then r else 0 := by
  unfold sJ9_max_f86c9
  have z : (0 : Int64).toInt = 0 := rfl
  by_cases h : (0 : Int64) < r
  · rw [if_pos h, if_pos (by rw [zlt] at h; rw [zle]; omega)]
  · rw [if_neg h]
    by_cases h2 : (0 : Int64) ≤ r
    · rw [if_pos h2, zeq]
      rw [zlt] at h
      rw [zle] at h2
      omega
    · rw [if_neg h2]
theorem op_thread {S T : St} {B : Int} {m : Nat} (h : J S T B m) (hB : 0 ≤ B) : J (LX3_threadAnew_40_S S (cN S)) (LX12_thread_71_S T (cN S)) B m ∧ Z0 (LX3_threadAnew_40_S S (cN S)) := by
  obtain ⟨hI, ⟨⟨rc1, rc2⟩, rt, rq, rs, rm, re, rb⟩, hC, hD, hm⟩ := h
  have hq : cQ S ≤ 4 := hI.2.1.2
  have hn : cN S ≤ 6 := hI.1.2.2
  have z : (0 : Int32).toInt = 0 := rfl
  have z' : (0 : Int64).toInt = 0 := rfl
  have s0 : ∀ b, (LX3_threadAnew_40_S S (cN S)).1 0 b = if b = 16 ∨ b = 8 ∨ b = 2 then 0 else S.1 0 b := by
    intro b
    rw [thS_int, if_neg (by omega), if_neg (by omega), thB_int]
    by_cases e : b = 16 ∨ b = 8 ∨ b = 2
    · rw [if_pos ⟨rfl, e⟩, if_pos e]
    · rw [if_neg (by omega), if_neg e]
  have sk : ∀ a b, ¬ a = 0 → ¬ a = 18 → ¬ a = 7 → ¬ a = 14 → ¬ a = 13 → (LX3_threadAnew_40_S S (cN S)).1 a b = S.1 a b := by
    intro a b h0 h1 h2 h3 h4
    rw [thS_int, if_neg (by omega), if_neg (by omega), thB_int, if_neg (by omega)]
  have s18 : ∀ i, i < cN S → (LX3_threadAnew_40_S S (cN S)).1 18 (i + 1) = 0 := fun i hi => by rw [thS_int, if_pos (by omega)]
  have s180 : (LX3_threadAnew_40_S S (cN S)).1 18 0 = S.1 18 0 := by rw [thS_int, if_neg (by omega), if_neg (by omega), thB_int, if_neg (by omega)]
  have s7 : ∀ i, i < cN S → (LX3_threadAnew_40_S S (cN S)).1 7 i = 0 := fun i hi => by rw [thS_int, if_pos (by omega)]
  have s14 : ∀ i, i < cN S → (LX3_threadAnew_40_S S (cN S)).1 14 i = 0 := fun i hi => by rw [thS_int, if_pos (by omega)]
  have s13 : ∀ i, i < cN S → (LX3_threadAnew_40_S S (cN S)).1 13 i = S.1 8 i / 2 := fun i hi => by rw [thS_int, if_neg (by omega), if_pos (by omega)]
  have j3 : ∀ i, i < cN S → (LX3_threadAnew_40_S S (cN S)).2 3 i = thV S i := fun i hi => by rw [thS_long, if_pos (by omega)]
  have j0 : (LX3_threadAnew_40_S S (cN S)).2 0 0 = if 0 ≤ S.2 0 0 then S.2 0 0 else 0 := by rw [thS_long, if_neg (by omega), thB_long, if_pos (by omega), rem_max]
  have jk : ∀ a b, ¬ a = 3 → ¬ (a = 0 ∧ b = 0) → (LX3_threadAnew_40_S S (cN S)).2 a b = S.2 a b := fun a b h1 h2 => by rw [thS_long, if_neg (by omega), thB_long, if_neg h2]
  have ti : (LX12_thread_71_S T (cN S)).1 = T.1 := thT_int T (cN S)
  have tk : ∀ a b, ¬ a = 11 → (LX12_thread_71_S T (cN S)).2 a b = T.2 a b := fun a b h1 => by rw [thT_long, if_neg (by omega), thK_long, if_neg (by omega), if_neg (by omega)]
  have th : ∀ b, 48 ≤ b → (LX12_thread_71_S T (cN S)).2 11 b = if b = 51 then (if 0 ≤ T.2 11 51 then T.2 11 51 else 0) else if b = 49 ∨ b = 50 ∨ b = 62 then 0 else T.2 11 b := by
    intro b hb
    rw [thT_long, if_neg (by omega), thK_long]
    by_cases e : b = 51
    · rw [if_pos ⟨rfl, e⟩, if_pos e]
    rw [if_neg (by omega), if_neg e]
    by_cases e2 : b = 49 ∨ b = 50 ∨ b = 62
    · rw [if_pos ⟨rfl, e2⟩, if_pos e2]
    · rw [if_neg (by omega), if_neg e2]
  have n0 : ∀ i, i < cN S → (LX12_thread_71_S T (cN S)).2 11 (8 * i) = thW T i := fun i hi => by rw [thT_long, if_pos (by omega), if_pos (by omega), show 8 * i / 8 = i by omega]
  have n1 : ∀ i, i < cN S → (LX12_thread_71_S T (cN S)).2 11 (8 * i + 1) = thH T i := fun i hi => by rw [thT_long, if_pos (by omega), if_neg (by omega), if_pos (by omega), show (8 * i + 1) / 8 = i by omega]
  have n2 : ∀ i, i < cN S → (LX12_thread_71_S T (cN S)).2 11 (8 * i + 2) = 0 := fun i hi => by rw [thT_long, if_pos (by omega), if_neg (by omega), if_neg (by omega)]
  have n3 : ∀ i, i < cN S → (LX12_thread_71_S T (cN S)).2 11 (8 * i + 3) = 0 := fun i hi => by rw [thT_long, if_pos (by omega), if_neg (by omega), if_neg (by omega)]
  have n5 : ∀ i, i < cN S → (LX12_thread_71_S T (cN S)).2 11 (8 * i + 5) = 0 := fun i hi => by rw [thT_long, if_pos (by omega), if_neg (by omega), if_neg (by omega)]
  have n4 : ∀ i, i < cN S → (LX12_thread_71_S T (cN S)).2 11 (8 * i + 4) = T.2 11 (8 * i + 4) := fun i hi => by rw [thT_long, if_neg (by omega), thK_long, if_neg (by omega), if_neg (by omega)]
  have n6 : ∀ i, i < cN S → (LX12_thread_71_S T (cN S)).2 11 (8 * i + 6) = T.2 11 (8 * i + 6) := fun i hi => by rw [thT_long, if_neg (by omega), thK_long, if_neg (by omega), if_neg (by omega)]
  have wv : ∀ i, i < cN S → thW T i = thV S i ∧ 0 < (thV S i).toInt ∧ (thV S i).toInt ≤ 10200000 := by
    intro i hi
    have c := rc2 i hi
    have g := hC.2.2 i hi
    have g5 := g.1
    unfold rI at g5
    have f5 := i2z (S.1 5 i)
    unfold thW thV thH
    rw [c.1.1, c.1.2.1]
    by_cases k : S.1 6 i = 1
    · simp only [if_pos k]
      have c1 := (c.2.1 k).1
      have g1 := (g.2.2.2.1 k).1
      have g1' : rI (S.1 8 i) 0 100000 := ⟨Int.le_trans (by decide) g1.1, g1.2⟩
      rw [c1, half_eq g1']
      have hh := half_int g1'
      have f := i2z (S.1 8 i / 2)
      have two : (2 : Int64).toInt = 2 := rfl
      unfold rI at g1
      have m1 : (2 * (S.1 8 i / 2).toInt64).toInt = 2 * (S.1 8 i / 2).toInt := by rw [zmul (by rw [two, f]; omega), two, f]
      have m2 : ((S.1 5 i).toInt64 + 2 * (S.1 8 i / 2).toInt64).toInt = (S.1 5 i).toInt + 2 * (S.1 8 i / 2).toInt := by rw [zadd (by rw [m1, f5]; omega), m1, f5]
      exact ⟨rfl, by omega, by omega⟩
    · simp only [if_neg k]
      refine ⟨?_, by omega, by omega⟩
      rw [zeq, zadd (by rw [f5, z']; omega), z']
      omega
  generalize LX3_threadAnew_40_S S (cN S) = S' at *
  generalize LX12_thread_71_S T (cN S) = T' at *
  have cn : cN S' = cN S := by unfold cN; rw [s0, if_neg (by omega)]
  have cq : cQ S' = cQ S := by unfold cQ; rw [s0, if_neg (by omega)]
  have m1 : S'.1 0 16 = nI 0 := by rw [s0, if_pos (by omega)]; rfl
  have cm : cM S' = 0 := cK m1 (by decide)
  have co : cO S' = cO S := by unfold cO; rw [s0, if_neg (by omega)]
  have cl : cC S' = cC S := by unfold cC; rw [s0, if_neg (by omega)]
  have cap : ∀ i, i < cN S' → (S'.2 3 i).toInt ≤ 10200000 := by
    intro i hi
    rw [cn] at hi
    rw [j3 i hi]
    exact (wv i hi).2.2
  have s00 : ∀ b, ¬ (b = 16 ∨ b = 8 ∨ b = 2) → S'.1 0 b = S.1 0 b := fun b hb => by rw [s0, if_neg hb]
  refine ⟨⟨?_, ⟨⟨?_, ?_⟩, ⟨?_, ?_, ?_, ?_, ?_, ?_, ?_⟩, ⟨?_, ?_⟩, ?_, ⟨?_, ?_⟩, ⟨?_, ?_⟩, ?_⟩, ⟨?_, ⟨?_, ?_⟩, ?_⟩, ⟨⟨?_, ?_, ?_, ?_, ?_⟩, ?_, ?_, ?_, ?_⟩, ?_⟩, fun _ => cap⟩
  · unfold Inv
    rw [cn, cq, cm, co, cl, s00 0 (by omega), s00 13 (by omega), s00 17 (by omega), s00 18 (by omega)]
    exact ⟨hI.1, hI.2.1, ⟨m1, by decide⟩, hI.2.2.2⟩
  · rw [ti, tk 0 0 (by omega), tk 0 1 (by omega), tk 0 2 (by omega), tk 0 3 (by omega), tk 0 4 (by omega), tk 0 5 (by omega), tk 0 6 (by omega), tk 0 7 (by omega), tk 0 8 (by omega), s00 0 (by omega), s00 4 (by omega), s00 5 (by omega), s00 6 (by omega), s00 7 (by omega), s00 9 (by omega), s00 10 (by omega), s00 11 (by omega), s00 12 (by omega), s00 14 (by omega)]
    exact rc1
  · intro i hi
    rw [cn] at hi
    rw [ti, tk 1 i (by omega), tk 10 i (by omega), tk 3 i (by omega), tk 4 i (by omega), tk 5 i (by omega), tk 6 i (by omega), tk 7 i (by omega), tk 8 i (by omega), tk 9 i (by omega), sk 6 i (by omega) (by omega) (by omega) (by omega) (by omega), sk 5 i (by omega) (by omega) (by omega) (by omega) (by omega), sk 17 (i + 1) (by omega) (by omega) (by omega) (by omega) (by omega), sk 8 i (by omega) (by omega) (by omega) (by omega) (by omega), sk 9 i (by omega) (by omega) (by omega) (by omega) (by omega), sk 10 i (by omega) (by omega) (by omega) (by omega) (by omega), sk 11 i (by omega) (by omega) (by omega) (by omega) (by omega), sk 12 i (by omega) (by omega) (by omega) (by omega) (by omega), sk 15 i (by omega) (by omega) (by omega) (by omega) (by omega), sk 16 i (by omega) (by omega) (by omega) (by omega) (by omega)]
    exact rc2 i hi
  · rw [th 48 (by omega), if_neg (by omega), if_neg (by omega), s00 1 (by omega)]
    exact rt.1
  · rw [th 49 (by omega), if_neg (by omega), if_pos (by omega), s0, if_pos (by omega)]
    rfl
  · rw [th 50 (by omega), if_neg (by omega), if_pos (by omega), s0, if_pos (by omega)]
    rfl
  · rw [th 51 (by omega), if_pos rfl, j0, rt.2.2.2.1]
  · rw [th 57 (by omega), if_neg (by omega), if_neg (by omega), jk 0 1 (by omega) (by omega)]
    exact rt.2.2.2.2.1
  · rw [th 58 (by omega), if_neg (by omega), if_neg (by omega), s00 15 (by omega)]
    exact rt.2.2.2.2.2.1
  · rw [th 61 (by omega), if_neg (by omega), if_neg (by omega), jk 5 0 (by omega) (by omega)]
    exact rt.2.2.2.2.2.2
  · rw [th 52 (by omega), if_neg (by omega), if_neg (by omega), cq]
    exact rq.1
  · intro j hj
    rw [cq] at hj
    rw [th _ (by omega), if_neg (by omega), if_neg (by omega), sk 1 j (by omega) (by omega) (by omega) (by omega) (by omega)]
    exact rq.2 j hj
  · intro i hi
    rw [cn] at hi
    have g := rs i hi
    rw [n0 i hi, n1 i hi, n2 i hi, n3 i hi, n4 i hi, n5 i hi, n6 i hi, j3 i hi, s18 i hi, jk 5 (i + 1) (by omega) (by omega), s7 i hi, jk 4 i (by omega) (by omega), sk 6 i (by omega) (by omega) (by omega) (by omega) (by omega), s13 i hi, s14 i hi]
    refine ⟨⟨(wv i hi).1, rfl, g.1.2.2.1, rfl, g.1.2.2.2.2⟩, fun k => ⟨?_, rfl⟩⟩
    have c := rc2 i hi
    unfold thH
    rw [c.1.1, if_pos k, (c.2.1 k).1]
    have g1 := ((hC.2.2 i hi).2.2.2.1 k).1
    exact half_eq ⟨Int.le_trans (by decide) g1.1, g1.2⟩
  · rw [th 62 (by omega), if_neg (by omega), if_pos (by omega), cm]
    rfl
  · intro j hj
    rw [cm] at hj
    omega
  · rw [th 63 (by omega), if_neg (by omega), if_neg (by omega), cl]
    exact re.1
  · intro j hj
    rw [cl] at hj
    rw [co, tk 13 _ (by omega), tk 13 _ (by omega), tk 13 _ (by omega), sk 2 _ (by omega) (by omega) (by omega) (by omega) (by omega), sk 3 _ (by omega) (by omega) (by omega) (by omega) (by omega), sk 4 _ (by omega) (by omega) (by omega) (by omega) (by omega)]
    exact re.2 j hj
  · unfold RelB
    rw [th 59 (by omega), if_neg (by omega), if_neg (by omega), th 60 (by omega), if_neg (by omega), if_neg (by omega), s00 3 (by omega)]
    exact rb
  · rw [s00 4 (by omega), s00 5 (by omega), s00 6 (by omega), s00 7 (by omega), s00 9 (by omega), s00 10 (by omega), s00 11 (by omega), s00 12 (by omega), s00 14 (by omega)]
    exact hC.1
  · rw [sk 17 0 (by omega) (by omega) (by omega) (by omega) (by omega)]
    exact hC.2.1.1
  · rw [s180]
    exact hC.2.1.2
  · intro i hi
    rw [cn] at hi
    rw [sk 6 i (by omega) (by omega) (by omega) (by omega) (by omega), sk 5 i (by omega) (by omega) (by omega) (by omega) (by omega), sk 17 (i + 1) (by omega) (by omega) (by omega) (by omega) (by omega), sk 8 i (by omega) (by omega) (by omega) (by omega) (by omega), sk 9 i (by omega) (by omega) (by omega) (by omega) (by omega), sk 10 i (by omega) (by omega) (by omega) (by omega) (by omega), sk 11 i (by omega) (by omega) (by omega) (by omega) (by omega), sk 12 i (by omega) (by omega) (by omega) (by omega) (by omega), sk 15 i (by omega) (by omega) (by omega) (by omega) (by omega), sk 16 i (by omega) (by omega) (by omega) (by omega) (by omega)]
    exact hC.2.2 i hi
  · rw [s00 1 (by omega)]
    exact hD.1.1
  · rw [s0, if_pos (by omega)]
    exact ⟨by decide, by decide⟩
  · rw [s00 15 (by omega)]
    exact hD.1.2.2.1
  · rw [jk 5 0 (by omega) (by omega)]
    exact hD.1.2.2.2.1
  · rw [j0]
    have d := hD.1.2.2.2.2
    by_cases e : (0 : Int64) ≤ S.2 0 0
    · rw [if_pos e]
      exact d
    · rw [if_neg e]
      rw [z']
      omega
  · intro i hi
    rw [cn] at hi
    rw [j3 i hi, s18 i hi, s7 i hi, sk 6 i (by omega) (by omega) (by omega) (by omega) (by omega), s13 i hi, s14 i hi, sk 8 i (by omega) (by omega) (by omega) (by omega) (by omega)]
    refine ⟨(wv i hi).2.1, ⟨by decide, by decide⟩, ⟨by decide, ?_⟩, fun k => ?_⟩
    · rw [z]
      exact hB
    · have g1 := ((hC.2.2 i hi).2.2.2.1 k).1
      have g1' : rI (S.1 8 i) 0 100000 := ⟨Int.le_trans (by decide) g1.1, g1.2⟩
      have hh := half_int g1'
      unfold rI at g1
      rw [hh]
      exact ⟨by omega, by omega, by decide, by decide⟩
  · have c := mSum_cap (S := S') (cN S') cap
    rw [cn] at c ⊢
    have e : (10200000 : Int) * (cN S : Int) ≤ 61200000 := by omega
    omega
  · intro k hk
    rw [cm] at hk
    omega
  · intro k hk
    rw [cq] at hk
    rw [sk 1 k (by omega) (by omega) (by omega) (by omega) (by omega)]
    exact hD.2.2.2.2 k hk
  · rw [cm, cq]
    omega
