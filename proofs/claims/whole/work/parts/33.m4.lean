theorem I_X12_happens (S : St) (x : Int32) (y : Int64) (mh : Nat) : (sX12_happens_S S x y mh).1 = S.1 := by
  funext a b
  exact t1_X12_happens S x y mh a b
theorem I_X12_breaks (S : St) (x : Int32) : (sX12_breaks_S S x).1 = S.1 := I_X12_happens _ _ _ _
theorem I_X12_unwind (S : St) : (sX12_unwind_S S).1 = S.1 := by
  unfold sX12_unwind_S
  repeat' split
  all_goals first | rfl | exact I_X12_happens _ _ _ _ | exact I_X12_breaks _ _ | (funext a b; exact (L1_unwind S _ a b).trans (t1_X12_happens _ _ _ _ a b))
theorem I_X12_rewind (S : St) : (sX12_rewind_S S).1 = S.1 := by
  unfold sX12_rewind_S
  repeat' split
  all_goals first | rfl | exact I_X12_happens _ _ _ _
theorem I_X12_controls (S : St) (i : Nat) : (sX12_controls_S S i).1 = S.1 := by
  unfold sX12_controls_S
  repeat' split
  all_goals rfl
theorem I_X12_removeMarks (S : St) : (sX12_removeMarks_S S).1 = S.1 := by
  funext a b
  exact L1_removeMarks S _ _ a b
theorem I_X12_watch (S : St) (i : Nat) : (sX12_watch_S S i).1 = S.1 := by
  have h47 : (KX12_watch_47_S S i).1 = S.1 := by unfold KX12_watch_47_S; repeat' split <;> rfl
  have h79 : (KX12_watch_79_S S i).1 = S.1 := by unfold KX12_watch_79_S; split <;> exact h47
  have h101 : (KX12_watch_101_S S i).1 = S.1 := by
    unfold KX12_watch_101_S
    split
    · exact (I_X12_happens _ _ _ _).trans h79
    · exact h79
  have h123 : (KX12_watch_123_S S i).1 = S.1 := by
    unfold KX12_watch_123_S
    repeat' split
    all_goals first | exact h101 | exact (I_X12_happens _ _ _ _).trans h101
  unfold sX12_watch_S
  repeat' split
  all_goals first | exact h123 | exact (I_X12_breaks _ _).trans h123
theorem I_X12_hurry (S : St) : (sX12_hurry_S S).1 = S.1 := by
  unfold sX12_hurry_S
  repeat' split
  all_goals rfl
/-- rows and places that a part of a tick leaves alone -/
def okK (a b : Nat) : Prop := (¬ a = 11 ∧ ¬ a = 13 ∧ ¬ a = 15 ∧ ¬ a = 17) ∨ (a = 11 ∧ b < 48 ∧ b % 8 = 0)
theorem K_X12_happens (S : St) (x : Int32) (y : Int64) (mh a b : Nat) (h : okK a b) : (sX12_happens_S S x y mh).2 a b = S.2 a b := t2_X12_happens S x y mh a b (by unfold okK at h; omega)
theorem K_X12_breaks (S : St) (x : Int32) (a b : Nat) (h : okK a b) : (sX12_breaks_S S x).2 a b = S.2 a b := by
  unfold sX12_breaks_S
  rw [K_X12_happens _ _ _ _ _ _ h, rJ_sk _ _ _ _ _ _ (by unfold okK at h; omega), rJ_sk _ _ _ _ _ _ (by unfold okK at h; omega), rJ_sk _ _ _ _ _ _ (by unfold okK at h; omega)]
theorem K_X12_unwind (S : St) (a b : Nat) (h : okK a b) (hq : mQ S ≤ 4) : (sX12_unwind_S S).2 a b = S.2 a b := by
  have h2 := h
  unfold okK at h2
  unfold sX12_unwind_S
  repeat' split
  · rw [K_X12_happens _ _ _ _ _ _ h, rJ_sk _ _ _ _ _ _ (by omega), rJ_sk _ _ _ _ _ _ (by omega)]
  · refine (L2_unwind S _ a b (by omega) (by omega)).trans ?_
    conv => lhs; unfold LX12_unwind_158_S
    rw [rJ_sk _ _ _ _ _ _ (by omega), rJ_sk _ _ _ _ _ _ (by omega), rJ_sk _ _ _ _ _ _ (by omega), rJ_sk _ _ _ _ _ _ (by omega), K_X12_happens _ _ _ _ _ _ h, rJ_sk _ _ _ _ _ _ (by omega)]
  · rw [K_X12_breaks _ _ _ _ h, rJ_sk _ _ _ _ _ _ (by omega)]
  · rw [rJ_sk _ _ _ _ _ _ (by omega)]
theorem K_X12_rewind (S : St) (a b : Nat) (h : okK a b) : (sX12_rewind_S S).2 a b = S.2 a b := by
  have h2 := h
  unfold okK at h2
  unfold sX12_rewind_S
  split
  · rw [rJ_sk _ _ _ _ _ _ (by omega)]
  · rw [K_X12_happens _ _ _ _ _ _ h, rJ_sk _ _ _ _ _ _ (by omega), rJ_sk _ _ _ _ _ _ (by omega), rJ_sk _ _ _ _ _ _ (by omega)]
theorem K_X12_controls (S : St) (i a b : Nat) (h : okK a b) : (sX12_controls_S S i).2 a b = S.2 a b := by
  have h2 := h
  unfold okK at h2
  unfold sX12_controls_S
  repeat' split
  all_goals ((repeat rw [rJ_sk _ _ _ _ _ _ (by omega)]); try rfl)
theorem K_X12_removeMarks (S : St) (a b : Nat) (h : okK a b) : (sX12_removeMarks_S S).2 a b = S.2 a b := by
  have h2 := h
  unfold okK at h2
  unfold sX12_removeMarks_S
  refine (L2_removeMarks S _ _ a b (by omega)).trans ?_
  rw [rJ_sk _ _ _ _ _ _ (by omega)]
theorem K_X12_watch (S : St) (i a b : Nat) (h : okK a b) : (sX12_watch_S S i).2 a b = S.2 a b := by
  have h2 := h
  unfold okK at h2
  have h47 : (KX12_watch_47_S S i).2 a b = S.2 a b := by
    unfold KX12_watch_47_S
    repeat' split
    all_goals rw [rJ_sk _ _ _ _ _ _ (by omega)]
  have h79 : (KX12_watch_79_S S i).2 a b = S.2 a b := by
    unfold KX12_watch_79_S
    split <;> (rw [rJ_sk _ _ _ _ _ _ (by omega)]; exact h47)
  have h101 : (KX12_watch_101_S S i).2 a b = S.2 a b := by
    unfold KX12_watch_101_S
    split
    · exact (K_X12_happens _ _ _ _ _ _ h).trans h79
    · exact h79
  have h123 : (KX12_watch_123_S S i).2 a b = S.2 a b := by
    unfold KX12_watch_123_S
    repeat' split
    all_goals first | exact h101 | exact (K_X12_happens _ _ _ _ _ _ h).trans h101
  unfold sX12_watch_S
  repeat' split
  all_goals first | exact h123 | exact (K_X12_breaks _ _ _ _ h).trans h123
theorem inv_X12_unwind (S : St) (hI : InvM S) : InvM (sX12_unwind_S S) := by
  obtain ⟨⟨h1, b1⟩, ⟨h2, b2⟩, h3, ⟨h4, b4⟩, b5⟩ := id hI
  unfold sX12_unwind_S
  repeat' split
  · exact inv_X12_happens (sJ (sJ S 11 51 _) 11 49 2) _ _ (mH S) h4 b4 hI
  · rename_i hq _
    have t1 := t1_X12_happens (sJ S 11 51 (S.2 11 51 - S.2 17 0)) 0 0 (mH S) 0 0
    refine InvM.of (n := cN S) (q := mQ S - 1) (mc := mM S + 1) (mh := if mH S = 30 then 30 else mH S + 1) ((L1_unwind S _ 0 0).trans (t1.trans h1)) (L2_unwind S _ 11 52 (by omega) (by omega)) (L2_unwind S _ 11 62 (by omega) (by omega)) ((L2_unwind S _ 11 63 (by omega) (by omega)).trans (h_X12_happens _ _ _ _)) ⟨b1, by omega, by split <;> omega, by omega⟩
  · exact inv_X12_breaks (sJ S 11 51 _) _ hI
  · exact hI
theorem inv_X12_rewind (S : St) (hI : InvM S) : InvM (sX12_rewind_S S) := by
  unfold sX12_rewind_S
  split
  · exact hI
  · exact inv_X12_happens (sJ (sJ (sJ S 11 57 _) 11 57 _) 11 58 _) _ _ (mH S) hI.2.2.2.1.1 hI.2.2.2.1.2 hI
theorem inv_X12_controls (S : St) (i : Nat) (hI : InvM S) : InvM (sX12_controls_S S i) := by
  unfold sX12_controls_S
  repeat' split
  all_goals first | exact hI | exact invM_now hI (by omega) | exact invM_now (invM_now (invM_now hI (by omega)) (by omega)) (by omega) | exact invM_now (invM_now (invM_now (invM_now hI (by omega)) (by omega)) (by omega)) (by omega)
theorem inv_X12_watch (S : St) (i : Nat) (hi : i < 6) (hI : InvM S) : InvM (sX12_watch_S S i) := by
  have h := invK123_watch S i hi hI
  unfold sX12_watch_S
  repeat' split
  all_goals first | exact h | exact inv_X12_breaks _ _ h
/-- the state ahead of feed in a tick; what a tick of the reference needs of its divisors -/
def mPre (S : St) : St := sX12_hurry_S (sJ S 11 48 (S.2 11 48 + 1))
def OKT (S : St) : Prop := (¬ (mPre S).2 0 0 + (mPre S).2 0 1 = 0) ∧ (∀ j, j < cN (mPre S) → ¬ sX12_length (mPre S) j = 0) ∧ (∀ j, j < cN S → ¬ (sX12_feed_S (mPre S)).2 11 (8 * j) = 0) ∧ (∀ j, j < cN S → S.1 1 j = 1 → ¬ S.2 5 j = 0)
