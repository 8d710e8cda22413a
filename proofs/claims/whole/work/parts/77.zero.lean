/-! ===== the time grows with every tick; Z0 is kept ===== -/
theorem tm_add (S : St) (x y z : Int32) (o c : Nat) : (sX2_add_S S x y z o c).1 0 1 = S.1 0 1 := (QC_add S x y z o c).2 0 1 (by omega)
theorem tm_break (S : St) (x : Int32) : (sX3_breakWeb_S S x).1 0 1 = S.1 0 1 := by
  unfold sX3_breakWeb_S
  rw [tm_add]
  rfl
theorem tm_pass (S : St) : (sX3_passWeb_S S).1 = S.1 := by
  have a : ∀ k, (LX3_passWeb_42_S S k).1 = S.1 := by
    intro k
    induction k with
    | zero => rfl
    | succ k ih => exact ih
  have b : ∀ k, (LX3_passWeb_115_S S k).1 = S.1 := by
    intro k
    induction k with
    | zero => exact a _
    | succ k ih => exact ih
  exact b _
theorem tm_wanted (S : St) (x : Int32) : (sX1_approachWanted_S S x).1 0 1 = S.1 0 1 := by
  unfold sX1_approachWanted_S
  split <;> rfl
theorem tm_takeNext (S : St) (q : Nat) : (sX9_takeNext_S S q).1 0 1 = S.1 0 1 := by
  unfold sX9_takeNext_S
  split <;> rfl
theorem tm_mark (S : St) (x : Int64) (q : Nat) : (sX5_add_S S x q).1 0 1 = S.1 0 1 := by
  unfold sX5_add_S
  split <;> rfl
theorem tm_unwind (S : St) : (sX3_unwind_S S).1 0 1 = S.1 0 1 := by
  unfold sX3_unwind_S
  split
  · split
    · rw [tm_add]
      rfl
    · split
      · rw [tm_takeNext, tm_mark, tm_add]
        rfl
      · rw [tm_break]
        rfl
  · rfl
theorem tm_takes (S : St) (x : Int64) : (sX6_takes_S S x).1 0 1 = S.1 0 1 := by
  unfold sX6_takes_S
  split <;> rfl
theorem tm_wind (S : St) : (sX3_wind_S S).1 0 1 = S.1 0 1 := by
  unfold sX3_wind_S
  split
  · exact tm_takes _ _
  · rw [tm_add]
    exact tm_takes _ _
theorem tm_control (S : St) : (sX3_control_S S).1 0 1 = S.1 0 1 := by
  have a : ∀ k, (LX3_control_2_S S k).1 0 1 = S.1 0 1 := by
    intro k
    induction k with
    | zero => rfl
    | succ k ih =>
      unfold LX3_control_2_S
      split
      · exact ih
      · split
        · exact ih
        · exact ih
  exact a _
theorem tm_slack (S : St) (i : Nat) (x : Int64) : (sX3_countSlack_S S i x).1 0 1 = S.1 0 1 := by
  unfold sX3_countSlack_S
  split
  · split
    · rw [tm_add]
      rfl
    · rfl
  · split
    · rfl
    · rw [tm_add]
      rfl
theorem tm_inC (S : St) (k n mc : Nat) : (inC S k n mc).1 0 1 = S.1 0 1 := by
  unfold inC
  simp only []
  split
  · rw [tm_slack]
    rfl
  · split
    · rw [tm_slack]
      rfl
    · rw [tm_break, tm_slack]
      rfl
theorem tm_inspect (S : St) : (sX3_inspect_S S).1 0 1 = S.1 0 1 := by
  have a : ∀ k, (LX3_inspect_17_S S k).1 0 1 = S.1 0 1 := by
    intro k
    induction k with
    | zero => rfl
    | succ k ih => exact (tm_inC (LX3_inspect_17_S S k) k (cN S) (cM (LX3_inspect_17_S S k))).trans ih
  exact a _
theorem tm_tick (S : St) (h : S.1 0 2 = 0) : (sX3_tick_S S).1 0 1 = S.1 0 1 + 1 := by
  have e : (sX3_wind_S (sX3_unwind_S (sX3_passWeb_S (sX1_approachWanted_S (sI S 0 1 (S.1 0 1 + 1)) (sX9_isSplicePending (sI S 0 1 (S.1 0 1 + 1)) (S.1 0 12)))))).1 0 1 = S.1 0 1 + 1 := by
    rw [tm_wind, tm_unwind, tm_pass, tm_wanted]
    rfl
  unfold sX3_tick_S
  rw [if_pos h]
  split
  · rw [tm_inspect]
    exact e
  · rw [tm_inspect, tm_control]
    exact e
theorem Z0.kI {S : St} (h : Z0 S) (a b : Nat) (v : Int32) (n : ¬ (a = 0 ∧ (b = 0 ∨ b = 1))) : Z0 (sI S a b v) := by
  intro z i hi
  have e0 : cN (sI S a b v) = cN S := by
    unfold cN
    rw [rI_sk _ _ _ _ _ _ (by omega)]
  rw [rI_sk _ _ _ _ _ _ (by omega)] at z
  exact h z i (by rw [← e0]; exact hi)
theorem Z0.kRI {S : St} (h : Z0 S) (a : Nat) (v : Nat → Int32) (n : ¬ a = 0) : Z0 (sRI S a v) := by
  have e : (sRI S a v).1 0 = S.1 0 := by rw [rI_sRI, if_neg (by omega)]
  intro z i hi
  have e0 : cN (sRI S a v) = cN S := by
    unfold cN
    rw [e]
  rw [e] at z
  exact h z i (by rw [← e0]; exact hi)
theorem Z0.kJ {S : St} (h : Z0 S) (a b : Nat) (v : Int64) (n : ¬ a = 3) : Z0 (sJ S a b v) := by
  intro z i hi
  rw [rJ_sk _ _ _ _ _ _ (by omega)]
  exact h z i hi
theorem Z0.tick {S T : St} {B : Int} {m : Nat} (hJ : J S T B m) (hB : B ≤ 2000000000) (h : Z0 S) : Z0 (sX3_tick_S S) := by
  by_cases c : S.1 0 2 = 0
  · intro z
    rw [tm_tick S c, ieq] at z
    have t := hJ.2.2.2.1.1.1
    unfold rI at t
    have e1 : (1 : Int32).toInt = 1 := rfl
    have e0 : (0 : Int32).toInt = 0 := rfl
    rw [iadd (by rw [e1]; omega), e1, e0] at z
    omega
  · unfold sX3_tick_S
    rw [if_neg c]
    exact h
theorem Z0.run {S T : St} {B : Int} {m : Nat} (hJ : J S T B m) (hz : Z0 S) (S2 : St) (t : Nat) (hB : 0 ≤ B ∧ B + t ≤ 199999) (hm : m ≤ 512) : ∀ k, k ≤ t → Z0 (LX11_run_16_S S S2 t k) := by
  intro k
  induction k with
  | zero => intro _; exact hz
  | succ k ih =>
    intro hk
    exact Z0.tick ((hJ.run S2 t hB hm k (by omega)).1) (by omega) (ih (by omega))
