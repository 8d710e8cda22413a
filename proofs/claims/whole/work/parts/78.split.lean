/-! ===== which arguments are legal, on both sides ===== -/
theorem nI_nonneg78 {x : Int32} (h : 0 ≤ x.toInt) : x = nI x.toInt.toNat ∧ ((x.toInt.toNat : Nat) : Int) = x.toInt := by
  have e : ((x.toInt.toNat : Nat) : Int) = x.toInt := Int.toNat_of_nonneg h
  have b := x.toInt_lt
  refine ⟨?_, e⟩
  rw [ieq, nN (by omega), e]
theorem within0 {x a b : Int32} : sX11_isWithin x a b = 0 ↔ x.toInt < a.toInt ∨ b.toInt < x.toInt := by
  unfold sX11_isWithin
  rw [← ilt, ← ilt]
  by_cases h1 : x < a
  · rw [if_pos h1]
    exact ⟨fun _ => Or.inl h1, fun _ => rfl⟩
  · rw [if_neg h1]
    by_cases h2 : b < x
    · rw [if_pos h2]
      exact ⟨fun _ => Or.inr h2, fun _ => rfl⟩
    · rw [if_neg h2]
      exact ⟨fun z => absurd z (by decide), fun z => by rcases z with z | z <;> contradiction⟩
theorem within1 {x a b : Int32} (h : ¬ sX11_isWithin x a b = 0) : sX11_isWithin x a b = 1 := by
  unfold sX11_isWithin at h ⊢
  by_cases h1 : x < a
  · rw [if_pos h1] at h
    exact absurd rfl h
  · rw [if_neg h1] at h ⊢
    by_cases h2 : b < x
    · rw [if_pos h2] at h
      exact absurd rfl h
    · rw [if_neg h2]
theorem in0 {x a b : Int64} : sX12_in x a b = 0 ↔ x.toInt < a.toInt ∨ b.toInt < x.toInt := by
  unfold sX12_in
  rw [← zlt, ← zlt]
  by_cases h1 : x < a
  · rw [if_pos h1]
    exact ⟨fun _ => Or.inl h1, fun _ => rfl⟩
  · rw [if_neg h1]
    by_cases h2 : b < x
    · rw [if_pos h2]
      exact ⟨fun _ => Or.inr h2, fun _ => rfl⟩
    · rw [if_neg h2]
      exact ⟨fun z => absurd z (by decide), fun z => by rcases z with z | z <;> contradiction⟩
theorem span_split {S T : St} {B : Int} {m : Nat} (h : J S T B m) (x : Int32) : (∃ j, x = nI j ∧ j < cN S ∧ sX12_noSpan T x = 0) ∨ (sX3_hasSpan S x = 0 ∧ sX12_noSpan T x = 1) := by
  have hn := h.1.1
  have e : T.1 0 0 = nI (cN S) := h.2.1.1.1.1.trans hn.1
  have e1 : (nI (cN S)).toInt = cN S := nN (by omega)
  have z0 : (0 : Int32).toInt = 0 := rfl
  have z1 : (1 : Int64).toInt = 1 := rfl
  have z2 : (0 : Int64).toInt = 0 := rfl
  have b : ((nI (cN S)).toInt64 - 1).toInt = (cN S : Int) - 1 := by rw [zsub (by rw [i2z, e1, z1]; omega), i2z, e1, z1]
  have q : sX12_in x.toInt64 0 ((T.1 0 0).toInt64 - 1) = 0 ↔ x.toInt < 0 ∨ (cN S : Int) - 1 < x.toInt := by rw [in0, e, b, i2z, z2]
  by_cases c : x.toInt < 0 ∨ (cN S : Int) - 1 < x.toInt
  · refine Or.inr ⟨?_, ?_⟩
    · unfold sX3_hasSpan
      rcases c with c | c
      · rw [if_pos (by rw [ilt, z0]; exact c)]
      · rw [ite_eq_left_iff]
        intro _
        rw [if_pos (by rw [ile, hn.1, e1]; omega)]
    · unfold sX12_noSpan
      rw [if_pos (q.mpr c)]
  · obtain ⟨k1, k2⟩ := nI_nonneg78 (x := x) (by omega)
    refine Or.inl ⟨x.toInt.toNat, k1, by omega, ?_⟩
    unfold sX12_noSpan
    rw [if_neg (fun z => c (q.mp z))]
theorem roller_split {S T : St} {B : Int} {m : Nat} (h : J S T B m) (x : Int32) : (∃ r, x = nI r ∧ r ≤ cN S) ∨ (sX3_hasRoller S x = 0 ∧ sX12_in x.toInt64 0 (T.1 0 0).toInt64 = 0) := by
  have hn := h.1.1
  have e : T.1 0 0 = nI (cN S) := h.2.1.1.1.1.trans hn.1
  have e1 : (nI (cN S)).toInt = cN S := nN (by omega)
  have z0 : (0 : Int32).toInt = 0 := rfl
  have z2 : (0 : Int64).toInt = 0 := rfl
  have q : sX12_in x.toInt64 0 (T.1 0 0).toInt64 = 0 ↔ x.toInt < 0 ∨ (cN S : Int) < x.toInt := by rw [in0, e, i2z, i2z, e1, z2]
  by_cases c : x.toInt < 0 ∨ (cN S : Int) < x.toInt
  · refine Or.inr ⟨?_, q.mpr c⟩
    unfold sX3_hasRoller
    rcases c with c | c
    · rw [if_pos (by rw [ilt, z0]; exact c)]
    · rw [ite_eq_left_iff]
      intro _
      rw [if_pos (by rw [ilt, hn.1, e1]; omega)]
  · obtain ⟨k1, k2⟩ := nI_nonneg78 (x := x) (by omega)
    exact Or.inl ⟨x.toInt.toNat, k1, by omega⟩
theorem draw_split {S T : St} {B : Int} {m : Nat} (h : J S T B m) (x : Int32) : (∃ r, x = nI r ∧ 1 ≤ r ∧ r ≤ cN S) ∨ ((x = 0 ∨ sX3_hasRoller S x = 0) ∧ sX12_in x.toInt64 1 (T.1 0 0).toInt64 = 0) := by
  have hn := h.1.1
  have e : T.1 0 0 = nI (cN S) := h.2.1.1.1.1.trans hn.1
  have e1 : (nI (cN S)).toInt = cN S := nN (by omega)
  have z0 : (0 : Int32).toInt = 0 := rfl
  have z2 : (1 : Int64).toInt = 1 := rfl
  have q : sX12_in x.toInt64 1 (T.1 0 0).toInt64 = 0 ↔ x.toInt < 1 ∨ (cN S : Int) < x.toInt := by rw [in0, e, i2z, i2z, e1, z2]
  by_cases c : x.toInt < 1 ∨ (cN S : Int) < x.toInt
  · refine Or.inr ⟨?_, q.mpr c⟩
    by_cases c0 : x = 0
    · exact Or.inl c0
    · have c1 : ¬ x.toInt = 0 := fun z => c0 (by rw [ieq, z0]; exact z)
      refine Or.inr ?_
      unfold sX3_hasRoller
      rcases c with c | c
      · rw [if_pos (by rw [ilt, z0]; omega)]
      · rw [ite_eq_left_iff]
        intro _
        rw [if_pos (by rw [ilt, hn.1, e1]; omega)]
  · obtain ⟨k1, k2⟩ := nI_nonneg78 (x := x) (by omega)
    exact Or.inl ⟨x.toInt.toNat, k1, by omega, by omega⟩
theorem tick_split (x : Int32) : (∃ t, x = nI t ∧ 1 ≤ t ∧ t ≤ 300 ∧ sX11_isWithin (nI t) 1 300 = 1) ∨ (sX11_isWithin x 1 300 = 0 ∧ sX12_in x.toInt64 1 300 = 0) := by
  have z1 : (1 : Int32).toInt = 1 := rfl
  have z3 : (300 : Int32).toInt = 300 := rfl
  by_cases c : sX11_isWithin x 1 300 = 0
  · exact Or.inr ⟨c, by rw [in_eq x 1 300 1 300 rfl rfl]; exact c⟩
  · have c2 : ¬ (x.toInt < (1 : Int32).toInt ∨ (300 : Int32).toInt < x.toInt) := fun z => c (within0.mpr z)
    rw [z1, z3] at c2
    obtain ⟨k1, k2⟩ := nI_nonneg78 (x := x) (by omega)
    refine Or.inl ⟨x.toInt.toNat, k1, by omega, by omega, ?_⟩
    rw [← k1]
    exact within1 c
theorem mark_split {S T : St} {B : Int} {m : Nat} (h : J S T B m) (hm : m ≤ 512) (x : Int32) : (∃ j, x = nI j ∧ j < cM S) ∨ ((x < 0 ∨ nI (cM S) ≤ x) ∧ sX12_in x.toInt64 0 (lN (mM T) - 1) = 0) := by
  have hn := h.1.2.2.1
  obtain ⟨-, -, -, f, -⟩ := relM_facts h.1 h.2.1 (Nat.le_trans h.2.2.2.2 hm)
  have e1 : (nI (cM S)).toInt = cM S := nN (by omega)
  have z0 : (0 : Int32).toInt = 0 := rfl
  have z1 : (1 : Int64).toInt = 1 := rfl
  have z2 : (0 : Int64).toInt = 0 := rfl
  have b : (lN (cM S) - 1).toInt = (cM S : Int) - 1 := by rw [zsub (by rw [lN_toInt (by omega), z1]; omega), lN_toInt (by omega), z1]
  have q : sX12_in x.toInt64 0 (lN (mM T) - 1) = 0 ↔ x.toInt < 0 ∨ (cM S : Int) - 1 < x.toInt := by rw [in0, f, b, i2z, z2]
  by_cases c : x.toInt < 0 ∨ (cM S : Int) - 1 < x.toInt
  · refine Or.inr ⟨?_, q.mpr c⟩
    rw [ilt, ile, z0, e1]
    omega
  · obtain ⟨k1, k2⟩ := nI_nonneg78 (x := x) (by omega)
    exact Or.inl ⟨x.toInt.toNat, k1, by omega⟩
theorem event_split {S T : St} {B : Int} {m : Nat} (h : J S T B m) (hm : m ≤ 512) (x : Int32) : (∃ j, x = nI j ∧ j < cC S) ∨ ((x < 0 ∨ nI (cC S) ≤ x) ∧ (x < 0 ∨ lN (mH T) ≤ x.toInt64)) := by
  have hn := h.1.2.2.2.2
  obtain ⟨-, -, -, -, f⟩ := relM_facts h.1 h.2.1 (Nat.le_trans h.2.2.2.2 hm)
  have e1 : (nI (cC S)).toInt = cC S := nN (by omega)
  have z0 : (0 : Int32).toInt = 0 := rfl
  by_cases c : x.toInt < 0 ∨ (cC S : Int) ≤ x.toInt
  · refine Or.inr ⟨?_, ?_⟩
    · rw [ilt, ile, z0, e1]
      exact c
    · rw [ilt, z0, zle, f, lN_toInt (by omega), i2z]
      exact c
  · obtain ⟨k1, k2⟩ := nI_nonneg78 (x := x) (by omega)
    exact Or.inl ⟨x.toInt.toNat, k1, by omega⟩
theorem which_split (y : Int32) : (∃ w, y = nI w ∧ w ≤ 2) ∨ (sX11_isWithin y 0 2 = 0 ∧ sX12_in y.toInt64 0 2 = 0) := by
  have z1 : (0 : Int32).toInt = 0 := rfl
  have z3 : (2 : Int32).toInt = 2 := rfl
  by_cases c : sX11_isWithin y 0 2 = 0
  · exact Or.inr ⟨c, by rw [in_eq y 0 2 0 2 rfl rfl]; exact c⟩
  · have c2 : ¬ (y.toInt < (0 : Int32).toInt ∨ (2 : Int32).toInt < y.toInt) := fun z => c (within0.mpr z)
    rw [z1, z3] at c2
    obtain ⟨k1, k2⟩ := nI_nonneg78 (x := y) (by omega)
    exact Or.inl ⟨y.toInt.toNat, k1, by omega⟩
