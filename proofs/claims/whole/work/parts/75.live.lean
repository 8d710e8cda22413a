/-! ===== the trial line and the reference's list that is put aside ===== -/
theorem frozen_tick {T : St} (hI : InvM T) (a b : Nat) (h11 : ¬ a = 11) (h13 : ¬ a = 13) (h15 : ¬ a = 15) (h17 : ¬ a = 17) : (sX12_tick_S T).2 a b = T.2 a b := by
  have ip := inv_pre T hI
  show (LX12_tick_66_S T (cN T)).2 a b = _
  rw [K66_tick T (cN T) a b (by unfold okK; omega) hI]
  show (LX12_feed_93_S (mPre T) (cN (mPre T))).2 a b = _
  rw [congrFun ((feed_end (mPre T) ip.1.2.2 (cN (mPre T)) (Nat.le_refl _)).1 a h11 h17) b]
  unfold mPre sX12_hurry_S
  repeat' split
  all_goals rw [rJ_sk _ _ _ _ _ _ (by omega), rJ_sk _ _ _ _ _ _ (by omega)]
/-- the relation reads no more of the reference than this -/
theorem J.same {S T R : St} {B : Int} {m : Nat} (h : J S T B m) (h1 : R.1 = T.1) (h2 : ∀ a b, a ≤ 10 → R.2 a b = T.2 a b) (h3 : ∀ b, b < 64 → R.2 11 b = T.2 11 b) (h4 : ∀ b, b < 90 → R.2 13 b = T.2 13 b) (h5 : ∀ b, b < 512 → R.2 15 b = T.2 15 b) : J S R B m := by
  obtain ⟨hI, ⟨⟨rc1, rc2⟩, rt, rq, rs, rm, re, rb⟩, hC, hD, hm⟩ := h
  have hq : cQ S ≤ 4 := hI.2.1.2
  have hn : cN S ≤ 6 := hI.1.2.2
  have hmk : cM S ≤ 512 := hI.2.2.1.2
  have hl : cC S ≤ 30 := hI.2.2.2.2.2
  refine ⟨hI, ⟨⟨?_, ?_⟩, ?_, ⟨?_, ?_⟩, ?_, ⟨?_, ?_⟩, ⟨?_, ?_⟩, ?_⟩, hC, hD, hm⟩
  · rw [h1, h2 0 0 (by omega), h2 0 1 (by omega), h2 0 2 (by omega), h2 0 3 (by omega), h2 0 4 (by omega), h2 0 5 (by omega), h2 0 6 (by omega), h2 0 7 (by omega), h2 0 8 (by omega)]
    exact rc1
  · intro i hi
    rw [h1, h2 1 i (by omega), h2 10 i (by omega), h2 3 i (by omega), h2 4 i (by omega), h2 5 i (by omega), h2 6 i (by omega), h2 7 i (by omega), h2 8 i (by omega), h2 9 i (by omega)]
    exact rc2 i hi
  · unfold RelT
    rw [h3 48 (by omega), h3 49 (by omega), h3 50 (by omega), h3 51 (by omega), h3 57 (by omega), h3 58 (by omega), h3 61 (by omega)]
    exact rt
  · rw [h3 52 (by omega)]
    exact rq.1
  · intro j hj
    rw [h3 _ (by omega)]
    exact rq.2 j hj
  · intro i hi
    rw [h3 (8 * i) (by omega), h3 (8 * i + 1) (by omega), h3 (8 * i + 2) (by omega), h3 (8 * i + 3) (by omega), h3 (8 * i + 4) (by omega), h3 (8 * i + 5) (by omega), h3 (8 * i + 6) (by omega)]
    exact rs i hi
  · rw [h3 62 (by omega)]
    exact rm.1
  · intro k hk
    rw [h5 k (by omega)]
    exact rm.2 k hk
  · rw [h3 63 (by omega)]
    exact re.1
  · intro k hk
    rw [h4 (3 * k) (by omega), h4 (3 * k + 1) (by omega), h4 (3 * k + 2) (by omega)]
    exact re.2 k hk
  · unfold RelB
    rw [h3 59 (by omega), h3 60 (by omega)]
    exact rb
theorem mSum_live {S H : St} : ∀ n : Nat, (∀ i, i < n → H.2 3 i = S.2 3 i) → mSum H n = mSum S n := by
  intro n
  induction n with
  | zero => intro _; rfl
  | succ n ih =>
    intro h
    show mSum H n + (H.2 3 n).toInt = mSum S n + (S.2 3 n).toInt
    rw [ih (fun i hi => h i (by omega)), h n (by omega)]
/-- and no more of the class's line than this -/
theorem J.live {S H T : St} {B : Int} {m : Nat} (h : J S T B m) (l0 : ∀ b, b ≤ 18 → H.1 0 b = S.1 0 b) (l1 : ∀ j, j < 4 → H.1 1 j = S.1 1 j) (le : ∀ a b, 2 ≤ a → a ≤ 4 → H.1 a b = S.1 a b) (ls : ∀ a i, 5 ≤ a → a ≤ 16 → i < cN S → H.1 a i = S.1 a i) (lr : ∀ a i, a = 17 ∨ a = 18 → i ≤ cN S → H.1 a i = S.1 a i) (j0 : H.2 0 0 = S.2 0 0 ∧ H.2 0 1 = S.2 0 1) (j1 : ∀ k, k < cM S → H.2 1 k = S.2 1 k) (j3 : ∀ i, i < cN S → H.2 3 i = S.2 3 i ∧ H.2 4 i = S.2 4 i) (j5 : ∀ i, i ≤ cN S → H.2 5 i = S.2 5 i) : J H T B m := by
  obtain ⟨hI, ⟨⟨rc1, rc2⟩, rt, rq, rs, rm, re, rb⟩, hC, hD, hm⟩ := h
  have hq : cQ S ≤ 4 := hI.2.1.2
  have cn : cN H = cN S := by unfold cN; rw [l0 _ (by omega)]
  have cq : cQ H = cQ S := by unfold cQ; rw [l0 _ (by omega)]
  have cm : cM H = cM S := by unfold cM; rw [l0 _ (by omega)]
  have co : cO H = cO S := by unfold cO; rw [l0 _ (by omega)]
  have cl : cC H = cC S := by unfold cC; rw [l0 _ (by omega)]
  refine ⟨?_, ⟨⟨?_, ?_⟩, ?_, ⟨?_, ?_⟩, ?_, ⟨?_, ?_⟩, ⟨?_, ?_⟩, ?_⟩, ⟨?_, ⟨?_, ?_⟩, ?_⟩, ⟨?_, ?_, ?_, ?_, ?_⟩, ?_⟩
  · unfold Inv
    rw [cn, cq, cm, co, cl, l0 0 (by omega), l0 13 (by omega), l0 16 (by omega), l0 17 (by omega), l0 18 (by omega)]
    exact hI
  · rw [l0 0 (by omega), l0 4 (by omega), l0 5 (by omega), l0 6 (by omega), l0 7 (by omega), l0 9 (by omega), l0 10 (by omega), l0 11 (by omega), l0 12 (by omega), l0 14 (by omega)]
    exact rc1
  · intro i hi
    rw [cn] at hi
    rw [ls 6 i (by omega) (by omega) hi, ls 5 i (by omega) (by omega) hi, lr 17 (i + 1) (by omega) (by omega), ls 8 i (by omega) (by omega) hi, ls 9 i (by omega) (by omega) hi, ls 10 i (by omega) (by omega) hi, ls 11 i (by omega) (by omega) hi, ls 12 i (by omega) (by omega) hi, ls 15 i (by omega) (by omega) hi, ls 16 i (by omega) (by omega) hi]
    exact rc2 i hi
  · unfold RelT
    rw [l0 1 (by omega), l0 2 (by omega), l0 8 (by omega), l0 15 (by omega), j0.1, j0.2, j5 0 (by omega)]
    exact rt
  · rw [cq]
    exact rq.1
  · intro j hj
    rw [cq] at hj
    rw [l1 j (by omega)]
    exact rq.2 j hj
  · intro i hi
    rw [cn] at hi
    rw [(j3 i hi).1, (j3 i hi).2, lr 18 (i + 1) (by omega) (by omega), j5 (i + 1) (by omega), ls 7 i (by omega) (by omega) hi, ls 6 i (by omega) (by omega) hi, ls 13 i (by omega) (by omega) hi, ls 14 i (by omega) (by omega) hi]
    exact rs i hi
  · rw [cm]
    exact rm.1
  · intro k hk
    rw [cm] at hk
    rw [j1 k hk]
    exact rm.2 k hk
  · rw [cl]
    exact re.1
  · intro k hk
    rw [cl] at hk
    rw [co, le 2 _ (by omega) (by omega), le 3 _ (by omega) (by omega), le 4 _ (by omega) (by omega)]
    exact re.2 k hk
  · unfold RelB
    rw [l0 3 (by omega)]
    exact rb
  · rw [l0 4 (by omega), l0 5 (by omega), l0 6 (by omega), l0 7 (by omega), l0 9 (by omega), l0 10 (by omega), l0 11 (by omega), l0 12 (by omega), l0 14 (by omega)]
    exact hC.1
  · rw [lr 17 0 (by omega) (by omega)]
    exact hC.2.1.1
  · rw [lr 18 0 (by omega) (by omega)]
    exact hC.2.1.2
  · intro i hi
    rw [cn] at hi
    rw [ls 6 i (by omega) (by omega) hi, ls 5 i (by omega) (by omega) hi, lr 17 (i + 1) (by omega) (by omega), ls 8 i (by omega) (by omega) hi, ls 9 i (by omega) (by omega) hi, ls 10 i (by omega) (by omega) hi, ls 11 i (by omega) (by omega) hi, ls 12 i (by omega) (by omega) hi, ls 15 i (by omega) (by omega) hi, ls 16 i (by omega) (by omega) hi]
    exact hC.2.2 i hi
  · rw [l0 1 (by omega), l0 8 (by omega), l0 15 (by omega), j5 0 (by omega), j0.1]
    exact hD.1
  · intro i hi
    rw [cn] at hi
    rw [(j3 i hi).1, lr 18 (i + 1) (by omega) (by omega), ls 7 i (by omega) (by omega) hi, ls 6 i (by omega) (by omega) hi, ls 13 i (by omega) (by omega) hi, ls 14 i (by omega) (by omega) hi, ls 8 i (by omega) (by omega) hi]
    exact hD.2.1 i hi
  · rw [cn, mSum_live (S := S) (H := H) (cN S) (fun i hi => (j3 i hi).1)]
    exact hD.2.2.1
  · intro k hk
    rw [cm] at hk
    rw [j1 k hk]
    exact hD.2.2.2.1 k hk
  · intro k hk
    rw [cq] at hk
    rw [l1 k (by omega)]
    exact hD.2.2.2.2 k hk
  · rw [cm, cq]
    exact hm
/-! ===== the trial line is a copy ===== -/
theorem copy_step_int (So L : St) (k a b : Nat) : (sX7_copyFrom_S So (sX8_copyFrom_S So L k) (k + 1)).1 a b = if b = k ∧ 5 ≤ a ∧ a ≤ 16 then So.1 a k else if b = k + 1 ∧ (a = 17 ∨ a = 18) then So.1 a (k + 1) else L.1 a b := by
  have e : (sX7_copyFrom_S So (sX8_copyFrom_S So L k) (k + 1)).1 = (sI (sI (sI (sI (sI (sI (sI (sI (sI (sI (sI (sI (sI (sI L 8 k (So.1 8 k)) 9 k (So.1 9 k)) 10 k (So.1 10 k)) 11 k (So.1 11 k)) 12 k (So.1 12 k)) 13 k (So.1 13 k)) 14 k (So.1 14 k)) 15 k (So.1 15 k)) 16 k (So.1 16 k)) 5 k (So.1 5 k)) 6 k (So.1 6 k)) 7 k (So.1 7 k)) 17 (k + 1) (So.1 17 (k + 1))) 18 (k + 1) (So.1 18 (k + 1))).1 := rfl
  rw [e]
  clear e
  by_cases c : b = k ∧ 5 ≤ a ∧ a ≤ 16
  · rw [if_pos c]
    have ha : a = 5 ∨ a = 6 ∨ a = 7 ∨ a = 8 ∨ a = 9 ∨ a = 10 ∨ a = 11 ∨ a = 12 ∨ a = 13 ∨ a = 14 ∨ a = 15 ∨ a = 16 := by omega
    rw [c.1]
    rcases ha with h | h | h | h | h | h | h | h | h | h | h | h <;> subst h <;> simp [rI_sI]
  · rw [if_neg c]
    by_cases c2 : b = k + 1 ∧ (a = 17 ∨ a = 18)
    · rw [if_pos c2, c2.1]
      rcases c2.2 with h | h <;> subst h <;> simp [rI_sI]
    · rw [if_neg c2]
      rw [rI_sk _ _ _ _ _ _ (by omega), rI_sk _ _ _ _ _ _ (by omega), rI_sk _ _ _ _ _ _ (by omega), rI_sk _ _ _ _ _ _ (by omega), rI_sk _ _ _ _ _ _ (by omega), rI_sk _ _ _ _ _ _ (by omega), rI_sk _ _ _ _ _ _ (by omega), rI_sk _ _ _ _ _ _ (by omega), rI_sk _ _ _ _ _ _ (by omega), rI_sk _ _ _ _ _ _ (by omega), rI_sk _ _ _ _ _ _ (by omega), rI_sk _ _ _ _ _ _ (by omega), rI_sk _ _ _ _ _ _ (by omega), rI_sk _ _ _ _ _ _ (by omega)]
theorem copy_step_long (So L : St) (k a b : Nat) : (sX7_copyFrom_S So (sX8_copyFrom_S So L k) (k + 1)).2 a b = if b = k ∧ (a = 3 ∨ a = 4) then So.2 a k else if b = k + 1 ∧ a = 5 then So.2 a (k + 1) else L.2 a b := by
  have e : (sX7_copyFrom_S So (sX8_copyFrom_S So L k) (k + 1)).2 = (sJ (sJ (sJ L 3 k (So.2 3 k)) 4 k (So.2 4 k)) 5 (k + 1) (So.2 5 (k + 1))).2 := rfl
  rw [e]
  clear e
  by_cases c : b = k ∧ (a = 3 ∨ a = 4)
  · rw [if_pos c, c.1]
    rcases c.2 with h | h <;> subst h <;> simp [rJ_sJ]
  · rw [if_neg c]
    by_cases c2 : b = k + 1 ∧ a = 5
    · rw [if_pos c2, c2.1, c2.2, rJ_at]
    · rw [if_neg c2, rJ_sk _ _ _ _ _ _ (by omega), rJ_sk _ _ _ _ _ _ (by omega), rJ_sk _ _ _ _ _ _ (by omega)]
theorem copy_loop (S S2 : St) : ∀ k, (∀ a b, a ≤ 4 → (LX3_copyFrom_104_S S S2 k).1 a b = (LX3_copyFrom_104_S S S2 0).1 a b) ∧ (∀ a i, 5 ≤ a → a ≤ 16 → i < k → (LX3_copyFrom_104_S S S2 k).1 a i = S.1 a i) ∧ (∀ a i, a = 17 ∨ a = 18 → i ≤ k → (LX3_copyFrom_104_S S S2 k).1 a i = S.1 a i) ∧ (∀ a b, a ≤ 2 → (LX3_copyFrom_104_S S S2 k).2 a b = (LX3_copyFrom_104_S S S2 0).2 a b) ∧ (∀ i, i < k → (LX3_copyFrom_104_S S S2 k).2 3 i = S.2 3 i ∧ (LX3_copyFrom_104_S S S2 k).2 4 i = S.2 4 i) ∧ (∀ i, i ≤ k → (LX3_copyFrom_104_S S S2 k).2 5 i = S.2 5 i) := by
  intro k
  induction k with
  | zero =>
    refine ⟨fun _ _ _ => rfl, fun a i _ _ h => by omega, fun a i ha hi => ?_, fun _ _ _ => rfl, fun i h => by omega, fun i hi => ?_⟩
    · obtain rfl : i = 0 := by omega
      rcases ha with h | h <;> subst h <;> rfl
    · obtain rfl : i = 0 := by omega
      rfl
  | succ k ih =>
    obtain ⟨i1, i2, i3, i4, i5, i6⟩ := ih
    have e1 : ∀ a b, (LX3_copyFrom_104_S S S2 (k + 1)).1 a b = _ := copy_step_int S (LX3_copyFrom_104_S S S2 k) k
    have e2 : ∀ a b, (LX3_copyFrom_104_S S S2 (k + 1)).2 a b = _ := copy_step_long S (LX3_copyFrom_104_S S S2 k) k
    refine ⟨fun a b h => ?_, fun a i h1 h2 h => ?_, fun a i ha hi => ?_, fun a b h => ?_, fun i h => ⟨?_, ?_⟩, fun i hi => ?_⟩
    · rw [e1, if_neg (by omega), if_neg (by omega), i1 a b h]
    · rw [e1]
      by_cases c : i = k
      · rw [if_pos (by omega), c]
      · rw [if_neg (by omega), if_neg (by omega), i2 a i h1 h2 (by omega)]
    · rw [e1]
      by_cases c : i = k + 1
      · rw [if_neg (by omega), if_pos (by omega), c]
      · rw [if_neg (by omega), if_neg (by omega), i3 a i ha (by omega)]
    · rw [e2, if_neg (by omega), if_neg (by omega), i4 a b h]
    · rw [e2]
      by_cases c : i = k
      · rw [if_pos (by omega), c]
      · rw [if_neg (by omega), if_neg (by omega), (i5 i (by omega)).1]
    · rw [e2]
      by_cases c : i = k
      · rw [if_pos (by omega), c]
      · rw [if_neg (by omega), if_neg (by omega), (i5 i (by omega)).2]
    · rw [e2]
      by_cases c : i = k + 1
      · rw [if_neg (by omega), if_pos (by omega), c]
      · rw [if_neg (by omega), if_neg (by omega), i6 i (by omega)]
/-- the trial line with the line's own events -/
def hyb (S S2 : St) : St := (fun a b => if a = 2 ∨ a = 3 ∨ a = 4 ∨ (a = 0 ∧ (b = 17 ∨ b = 18)) then S.1 a b else (sX3_copyFrom_S S S2).1 a b, (sX3_copyFrom_S S S2).2)
theorem hyb_QC (S S2 : St) : QC (sX3_copyFrom_S S S2) (hyb S S2) := by
  refine ⟨rfl, fun a b h => ?_⟩
  show (if a = 2 ∨ a = 3 ∨ a = 4 ∨ (a = 0 ∧ (b = 17 ∨ b = 18)) then S.1 a b else (sX3_copyFrom_S S S2).1 a b) = _
  rw [if_neg h]
theorem hyb_J {S T : St} {B : Int} {m : Nat} (h : J S T B m) (S2 : St) : J (hyb S S2) T B m := by
  have hI := h.1
  obtain ⟨i1, i2, i3, i4, i5, i6⟩ := copy_loop S S2 (cN S)
  have hh : ∀ a b, ¬ (a = 2 ∨ a = 3 ∨ a = 4 ∨ (a = 0 ∧ (b = 17 ∨ b = 18))) → (hyb S S2).1 a b = (LX3_copyFrom_104_S S S2 (cN S)).1 a b := fun a b n => (hyb_QC S S2).2 a b n
  have hm : ∀ a b, a = 2 ∨ a = 3 ∨ a = 4 ∨ (a = 0 ∧ (b = 17 ∨ b = 18)) → (hyb S S2).1 a b = S.1 a b := by
    intro a b n
    show (if a = 2 ∨ a = 3 ∨ a = 4 ∨ (a = 0 ∧ (b = 17 ∨ b = 18)) then S.1 a b else (sX3_copyFrom_S S S2).1 a b) = _
    rw [if_pos n]
  have h2 : (hyb S S2).2 = (LX3_copyFrom_104_S S S2 (cN S)).2 := rfl
  refine h.live ?_ ?_ ?_ ?_ ?_ ?_ ?_ ?_ ?_
  · intro b hb
    by_cases c : b = 17 ∨ b = 18
    · rw [hm 0 b (by omega)]
    · rw [hh 0 b (by omega), i1 0 b (by omega)]
      have hb2 : b = 0 ∨ b = 1 ∨ b = 2 ∨ b = 3 ∨ b = 4 ∨ b = 5 ∨ b = 6 ∨ b = 7 ∨ b = 8 ∨ b = 9 ∨ b = 10 ∨ b = 11 ∨ b = 12 ∨ b = 13 ∨ b = 14 ∨ b = 15 ∨ b = 16 := by omega
      rcases hb2 with h | h | h | h | h | h | h | h | h | h | h | h | h | h | h | h | h <;> subst h
      · exact hI.1.1.symm
      all_goals first | rfl | exact hI.2.2.1.1.symm
  · intro j hj
    rw [hh 1 j (by omega), i1 1 j (by omega)]
    show va_cpy (S.1 1) (S2.1 1) 0 0 4 j = _
    unfold va_cpy
    rw [if_pos (by omega), show 0 + (j - 0) = j by omega]
  · intro a b h1 h2
    exact hm a b (by omega)
  · intro a i h1 h2 h3
    rw [hh a i (by omega), i2 a i h1 h2 h3]
  · intro a i h1 h3
    rw [hh a i (by omega), i3 a i h1 h3]
  · rw [h2, i4 0 0 (by omega), i4 0 1 (by omega)]
    exact ⟨rfl, rfl⟩
  · intro k hk
    rw [h2, i4 1 k (by omega)]
    show va_cpy (S.2 1) (S2.2 1) 0 0 (cM S) k = _
    unfold va_cpy
    rw [if_pos (by omega), show 0 + (k - 0) = k by omega]
  · intro i hi
    rw [h2]
    exact i5 i hi
  · intro i hi
    rw [h2]
    exact i6 i hi
