theorem speedC_congr {S S' : St} (h : S'.1 = S.1) (r n : Nat) : sX3_speedOf S' r n = sX3_speedOf S r n := by
  unfold sX3_speedOf sX3_nominalSpeed
  rw [nomC_congr h, h]
theorem lenC_congr {S S' : St} (h : S'.1 = S.1) (i : Nat) : sX8_length S' i = sX8_length S i := by
  unfold sX8_length
  rw [h]
theorem speedM_congr {T T' : St} (h : T'.2 10 = T.2 10) (h2 : T'.2 11 = T.2 11) (r : Nat) : sX12_speed T' r = sX12_speed T r := by
  unfold sX12_speed sX12_nominalSpeed
  rw [nomM_congr h, h2]
theorem L42_rows (S : St) (k a : Nat) (ha : ¬ a = 2) : (LX3_passWeb_42_S S k).2 a = S.2 a := by
  induction k with
  | zero => funext b; exact rJ_sk _ _ _ _ _ _ (by omega)
  | succ k ih =>
    rw [← ih]
    funext b
    show (sJ _ 2 _ _).2 a b = _
    exact rJ_sk _ _ _ _ _ _ (by omega)
theorem L42_am (S : St) : ∀ k r : Nat, r ≤ k → (LX3_passWeb_42_S S k).2 2 r = amC S r := by
  intro k
  induction k with
  | zero =>
    intro r hr
    have : r = 0 := by omega
    subst this
    exact rJ_at _ _ _ _
  | succ k ih =>
    intro r hr
    show (sJ (LX3_passWeb_42_S S k) 2 (k + 1) _).2 2 r = _
    by_cases h : r = k + 1
    · subst h
      rw [rJ_at, speedC_congr (L1_passWeb S k), lenC_congr (L1_passWeb S k), L42_rows S k 3 (by decide)]
      rfl
    · rw [rJ_ne _ _ _ _ _ h]
      exact ih r (by omega)
theorem passWeb_end (S : St) : ∀ k : Nat, k ≤ cN S → (∀ a, ¬ a = 2 → ¬ a = 3 → ¬ a = 5 → (LX3_passWeb_115_S S k).2 a = S.2 a) ∧ (∀ r, r ≤ cN S → (LX3_passWeb_115_S S k).2 2 r = amC S r) ∧ (∀ r, (LX3_passWeb_115_S S k).2 5 r = if r ≤ k then S.2 5 r + amC S r else S.2 5 r) ∧ (∀ i, (LX3_passWeb_115_S S k).2 3 i = if i < k then S.2 3 i + (amC S i - amC S (i + 1)) else S.2 3 i) := by
  intro k
  induction k with
  | zero =>
    intro hk
    have e : LX3_passWeb_115_S S 0 = sJ (LX3_passWeb_42_S S (cN S)) 5 0 ((LX3_passWeb_42_S S (cN S)).2 5 0 + (LX3_passWeb_42_S S (cN S)).2 2 0) := rfl
    rw [e]
    refine ⟨fun a h2 h3 h5 => ?_, fun r hr => ?_, fun r => ?_, fun i => ?_⟩
    · rw [← L42_rows S (cN S) a h2]
      funext b
      exact rJ_sk _ _ _ _ _ _ (by omega)
    · rw [rJ_sk _ _ _ _ _ _ (by omega)]
      exact L42_am S (cN S) r hr
    · by_cases hr : r = 0
      · subst hr
        rw [rJ_at, if_pos (by omega), L42_am S (cN S) 0 (by omega), L42_rows S _ 5 (by decide)]
      · rw [rJ_ne _ _ _ _ _ hr, if_neg (by omega), L42_rows S _ 5 (by decide)]
    · rw [rJ_sk _ _ _ _ _ _ (by omega), if_neg (by omega), L42_rows S _ 3 (by decide)]
  | succ k ih =>
    intro hk
    obtain ⟨g1, g2, g3, g4⟩ := ih (by omega)
    have e : LX3_passWeb_115_S S (k + 1) = sJ (sJ (LX3_passWeb_115_S S k) 5 (k + 1) ((LX3_passWeb_115_S S k).2 5 (k + 1) + (LX3_passWeb_115_S S k).2 2 (k + 1))) 3 k ((LX3_passWeb_115_S S k).2 3 k + ((LX3_passWeb_115_S S k).2 2 k - (LX3_passWeb_115_S S k).2 2 (k + 1))) := rfl
    rw [e]
    refine ⟨fun a h2 h3 h5 => ?_, fun r hr => ?_, fun r => ?_, fun i => ?_⟩
    · rw [← g1 a h2 h3 h5]
      funext b
      rw [rJ_sk _ _ _ _ _ _ (by omega), rJ_sk _ _ _ _ _ _ (by omega)]
    · rw [rJ_sk _ _ _ _ _ _ (by omega), rJ_sk _ _ _ _ _ _ (by omega)]
      exact g2 r hr
    · rw [rJ_sk _ _ _ _ _ _ (by omega)]
      by_cases hr : r = k + 1
      · subst hr
        rw [rJ_at, if_pos (by omega), g3, if_neg (by omega), g2 _ hk]
      · rw [rJ_ne _ _ _ _ _ hr, g3]
        by_cases h : r ≤ k
        · rw [if_pos h, if_pos (by omega)]
        · rw [if_neg h, if_neg (by omega)]
    · by_cases hi : i = k
      · subst hi
        rw [rJ_at, if_pos (by omega), g4, if_neg (by omega), g2 _ (by omega), g2 _ hk]
      · rw [rJ_ne _ _ _ _ _ hi, rJ_sk _ _ _ _ _ _ (by omega), g4]
        by_cases h : i < k
        · rw [if_pos h, if_pos (by omega)]
        · rw [if_neg h, if_neg (by omega)]
theorem L2M_row (T : St) (k a : Nat) (ha : ¬ a = 17) : (LX12_feed_2_S T k).2 a = T.2 a := by
  funext b
  exact L2_feed T k a b ha
theorem L2M_am (T : St) : ∀ k r : Nat, r < k → (LX12_feed_2_S T k).2 17 r = amM T r := by
  intro k
  induction k with
  | zero => intro r hr; omega
  | succ k ih =>
    intro r hr
    unfold LX12_feed_2_S
    rw [speedM_congr (L2M_row T k 10 (by decide)) (L2M_row T k 11 (by decide))]
    by_cases h : r = k
    · subst h
      by_cases h0 : r = 0
      · subst h0
        rw [if_pos rfl, rJ_at]
        rfl
      · rw [if_neg h0, rJ_at, len_feed]
        obtain ⟨i, rfl⟩ : ∃ i, r = i + 1 := ⟨r - 1, by omega⟩
        rw [show 8 * (i + 1) - 8 = 8 * i by omega, show i + 1 - 1 = i by omega]
        rfl
    · split <;> (rw [rJ_ne _ _ _ _ _ h]; exact ih r (by omega))
theorem feed_end (T : St) (hn : cN T ≤ 6) : ∀ k : Nat, k ≤ cN T → (∀ a, ¬ a = 11 → ¬ a = 17 → (LX12_feed_93_S T k).2 a = T.2 a) ∧ (∀ r, r ≤ cN T → (LX12_feed_93_S T k).2 17 r = amM T r) ∧ ((LX12_feed_93_S T k).2 11 61 = T.2 11 61 + amM T 0) ∧ (∀ i, i < 6 → (LX12_feed_93_S T k).2 11 (8 * i) = if i < k then T.2 11 (8 * i) + (amM T i - amM T (i + 1)) else T.2 11 (8 * i)) ∧ (∀ i, i < 6 → (LX12_feed_93_S T k).2 11 (8 * i + 4) = if i < k then T.2 11 (8 * i + 4) + amM T (i + 1) else T.2 11 (8 * i + 4)) ∧ (∀ b, ¬ b = 61 → (48 ≤ b ∨ (¬ b % 8 = 0 ∧ ¬ b % 8 = 4)) → (LX12_feed_93_S T k).2 11 b = T.2 11 b) := by
  intro k
  have am := L2M_am T (cN T + 1)
  induction k with
  | zero =>
    intro hk
    have e : LX12_feed_93_S T 0 = sJ (LX12_feed_2_S T (cN T + 1)) 11 61 (T.2 11 61 + (LX12_feed_2_S T (cN T + 1)).2 17 0) := rfl
    rw [e]
    refine ⟨fun a h1 h2 => ?_, fun r hr => ?_, ?_, fun i hi => ?_, fun i hi => ?_, fun b h1 h2 => ?_⟩
    · rw [← L2M_row T (cN T + 1) a h2]
      funext b
      exact rJ_sk _ _ _ _ _ _ (by omega)
    · rw [rJ_sk _ _ _ _ _ _ (by omega)]
      exact am r (by omega)
    · rw [rJ_at, am 0 (by omega)]
    · rw [rJ_sk _ _ _ _ _ _ (by omega), L2M_row T _ 11 (by decide), if_neg (by omega)]
    · rw [rJ_sk _ _ _ _ _ _ (by omega), L2M_row T _ 11 (by decide), if_neg (by omega)]
    · rw [rJ_sk _ _ _ _ _ _ (by omega), L2M_row T _ 11 (by decide)]
  | succ k ih =>
    intro hk
    obtain ⟨g1, g2, g3, g4, g5, g6⟩ := ih (by omega)
    have e : LX12_feed_93_S T (k + 1) = sJ (sJ (LX12_feed_93_S T k) 11 (8 * k + 4) ((LX12_feed_93_S T k).2 11 (8 * k + 4) + (LX12_feed_2_S T (cN T + 1)).2 17 (k + 1))) 11 (8 * k) ((LX12_feed_93_S T k).2 11 (8 * k) + ((LX12_feed_2_S T (cN T + 1)).2 17 k - (LX12_feed_2_S T (cN T + 1)).2 17 (k + 1))) := rfl
    rw [e]
    refine ⟨fun a h1 h2 => ?_, fun r hr => ?_, ?_, fun i hi => ?_, fun i hi => ?_, fun b h1 h2 => ?_⟩
    · rw [← g1 a h1 h2]
      funext b
      rw [rJ_sk _ _ _ _ _ _ (by omega), rJ_sk _ _ _ _ _ _ (by omega)]
    · rw [rJ_sk _ _ _ _ _ _ (by omega), rJ_sk _ _ _ _ _ _ (by omega)]
      exact g2 r hr
    · rw [rJ_sk _ _ _ _ _ _ (by omega), rJ_sk _ _ _ _ _ _ (by omega)]
      exact g3
    · by_cases h : i = k
      · subst h
        rw [rJ_at, if_pos (by omega), g4 i hi, if_neg (by omega), am i (by omega), am (i + 1) (by omega)]
      · rw [rJ_sk _ _ _ _ _ _ (by omega), rJ_sk _ _ _ _ _ _ (by omega), g4 i hi]
        by_cases h2 : i < k
        · rw [if_pos h2, if_pos (by omega)]
        · rw [if_neg h2, if_neg (by omega)]
    · rw [rJ_sk _ _ _ _ _ _ (by omega)]
      by_cases h : i = k
      · subst h
        rw [rJ_at, if_pos (by omega), g5 i hi, if_neg (by omega), am (i + 1) (by omega)]
      · rw [rJ_ne _ _ _ _ _ (by omega), g5 i hi]
        by_cases h2 : i < k
        · rw [if_pos h2, if_pos (by omega)]
        · rw [if_neg h2, if_neg (by omega)]
    · rw [rJ_sk _ _ _ _ _ _ (by omega), rJ_sk _ _ _ _ _ _ (by omega)]
      exact g6 b h1 h2
