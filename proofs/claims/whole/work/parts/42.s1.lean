/-! ===== a tick, part by part: what both sides do ===== -/
theorem nN {a : Nat} (h : a < 2 ^ 31) : (nI a).toInt = (a : Int) := nI_toInt h
theorem i2zI {x : Int32} {n : Nat} (h : x = nI n) (hn : n < 2 ^ 31) : x.toInt64 = lN n := by rw [h, nI_l hn]
/-- the reference's counters are the class's -/
theorem relM_facts {S T : St} (hI : Inv S) (hR : Rel S T) (hB : cM S + cQ S ≤ 512) : InvM T ∧ cN T = cN S ∧ mQ T = cQ S ∧ mM T = cM S ∧ mH T = cC S := by
  obtain ⟨⟨h1, b1⟩, ⟨h2, b2⟩, ⟨h3, b3⟩, ⟨h4, b4⟩, ⟨h5, b5⟩⟩ := hI
  obtain ⟨⟨⟨c0, -⟩, -⟩, -, ⟨q1, -⟩, -, ⟨m1, -⟩, ⟨e1, -⟩, -⟩ := hR
  have k1 : T.1 0 0 = nI (cN S) := c0.trans h1
  refine ⟨InvM.of k1 q1 m1 e1 ⟨b1, b2, b5, hB⟩, cK k1 (by omega), lNN q1 (by omega), lNN m1 (by omega), lNN e1 (by omega)⟩
theorem RelQ.now {S T : St} (h : RelQ S T) (b : Nat) (v : Int64) (hq : cQ S ≤ 4) (hb : b < 52 ∨ 57 ≤ b) : RelQ S (sJ T 11 b v) := ⟨by rw [rJ_sk _ _ _ _ _ _ (by omega)]; exact h.1, fun j hj => by rw [rJ_sk _ _ _ _ _ _ (by omega)]; exact h.2 j hj⟩
theorem RelS.now {S T : St} (h : RelS S T) (b : Nat) (v : Int64) (hn : cN S ≤ 6) (hb : 48 ≤ b) : RelS S (sJ T 11 b v) := by
  intro i hi
  have g := h i hi
  refine ⟨⟨?_, ?_, ?_, ?_, ?_⟩, fun hc => ⟨?_, ?_⟩⟩
  · rw [rJ_sk _ _ _ _ _ _ (by omega)]; exact g.1.1
  · rw [rJ_sk _ _ _ _ _ _ (by omega)]; exact g.1.2.1
  · rw [rJ_sk _ _ _ _ _ _ (by omega)]; exact g.1.2.2.1
  · rw [rJ_sk _ _ _ _ _ _ (by omega)]; exact g.1.2.2.2.1
  · rw [rJ_sk _ _ _ _ _ _ (by omega)]; exact g.1.2.2.2.2
  · rw [rJ_sk _ _ _ _ _ _ (by omega)]; exact (g.2 hc).1
  · rw [rJ_sk _ _ _ _ _ _ (by omega)]; exact (g.2 hc).2
theorem RelM.now {S T : St} (h : RelM S T) (b : Nat) (v : Int64) (hb : ¬ b = 62) : RelM S (sJ T 11 b v) := ⟨by rw [rJ_sk _ _ _ _ _ _ (by omega)]; exact h.1, h.2⟩
theorem RelE.now {S T : St} (h : RelE S T) (b : Nat) (v : Int64) (hb : ¬ b = 63) : RelE S (sJ T 11 b v) := ⟨by rw [rJ_sk _ _ _ _ _ _ (by omega)]; exact h.1, h.2⟩
theorem RelB.now {S T : St} (h : RelB S T) (b : Nat) (v : Int64) (hb : ¬ b = 59 ∧ ¬ b = 60) : RelB S (sJ T 11 b v) := by
  unfold RelB
  rw [rJ_sk _ _ _ _ _ _ (by omega), rJ_sk _ _ _ _ _ _ (by omega)]
  exact h
/-- the base speed's step, on both sides -/
theorem step_sim {w b r : Int32} (hw : rI w 0 20000) (hb : rI b 0 20000) (hr : rI r 1 5000) :
    (b + (sX11_limit ((w - b).toInt64) ((-r).toInt64) (r.toInt64)).toInt32).toInt64 = b.toInt64 + sX12_kept (w.toInt64 - b.toInt64) (-(r.toInt64)) (r.toInt64) ∧ rI (b + (sX11_limit ((w - b).toInt64) ((-r).toInt64) (r.toInt64)).toInt32) 0 20000 := by
  unfold rI at *
  have e1 : (w - b).toInt64 = w.toInt64 - b.toInt64 := by rw [zeq, i2z, isub (by omega), zsub (by rw [i2z, i2z]; omega), i2z, i2z]
  have e2 : (-r).toInt64 = -(r.toInt64) := by rw [zeq, i2z, ineg (by omega), zneg (by rw [i2z]; omega), i2z]
  rw [e1, e2]
  have e3 : (w.toInt64 - b.toInt64).toInt = w.toInt - b.toInt := by rw [zsub (by rw [i2z, i2z]; omega), i2z, i2z]
  have e4 : (-(r.toInt64)).toInt = -r.toInt := by rw [zneg (by rw [i2z]; omega), i2z]
  have e5 : (r.toInt64).toInt = r.toInt := i2z r
  rw [limit_kept (by rw [e4, e5]; omega)]
  have k := kept_toInt (w.toInt64 - b.toInt64) (-(r.toInt64)) (r.toInt64)
  rw [e3, e4, e5] at k
  have hk : (sX12_kept (w.toInt64 - b.toInt64) (-(r.toInt64)) (r.toInt64)).toInt ≤ 20000 - b.toInt ∧ 0 - b.toInt ≤ (sX12_kept (w.toInt64 - b.toInt64) (-(r.toInt64)) (r.toInt64)).toInt := by
    rw [k]
    split
    · split <;> omega
    · omega
  generalize sX12_kept (w.toInt64 - b.toInt64) (-(r.toInt64)) (r.toInt64) = z at hk ⊢
  have e6 : (b + z.toInt32).toInt = b.toInt + z.toInt := by rw [iadd (by rw [z2i (by omega)]; omega), z2i (by omega)]
  refine ⟨?_, by omega⟩
  rw [zeq, i2z, e6, zadd (by rw [i2z]; omega), i2z]
theorem s1_sim {S T : St} (hI : Inv S) (hR : Rel S T) (hC : RngC S) {B : Int} (hD : RngD S B) :
    ∃ b : Int32, sX1_approachWanted_S (sI S 0 1 (S.1 0 1 + 1)) (sX9_isSplicePending (sI S 0 1 (S.1 0 1 + 1)) (S.1 0 12)) = sI (sI S 0 1 (S.1 0 1 + 1)) 0 8 b ∧ mPre T = sJ (sJ T 11 48 (T.2 11 48 + 1)) 11 50 b.toInt64 ∧ rI b 0 20000 := by
  obtain ⟨⟨⟨c0, c1, c2, c3, c4, c5, c6, c7, c8, c9⟩, -⟩, ⟨t1, t2, t3, t4, -⟩, ⟨q1, -⟩, -⟩ := hR
  obtain ⟨⟨-, -, -, -, g5, g6, g7, g8, -⟩, -, -⟩ := hC
  obtain ⟨⟨-, d2, -⟩, -⟩ := hD
  obtain ⟨-, ⟨i2, b2⟩, -⟩ := hI
  have p1 : T.2 0 7 < T.2 11 51 ↔ (S.1 0 12).toInt64 < S.2 0 0 := by rw [c8, t4]
  have p2 : T.2 11 52 ≤ 0 ↔ S.1 0 13 ≤ 0 := by
    rw [q1, i2, zle, ile, lN_toInt (by omega), nN (by omega)]
    exact Iff.rfl
  have p3 : T.2 0 4 ≤ T.2 0 6 ↔ S.1 0 9 ≤ S.1 0 11 := by rw [c5, c7, i2z_le]
  have st := fun w hw => step_sim (w := w) (b := S.1 0 8) (r := S.1 0 10) hw d2 g6
  by_cases k1 : (S.1 0 12).toInt64 < S.2 0 0
  · obtain ⟨s1, s2⟩ := st (S.1 0 9) g5
    refine ⟨_, ?_, ?_, s2⟩
    · unfold sX1_approachWanted_S sX9_isSplicePending
      rw [if_pos (show (S.1 0 12).toInt64 < (sI S 0 1 (S.1 0 1 + 1)).2 0 0 from k1), if_pos rfl]
      rfl
    · unfold mPre sX12_hurry_S
      rw [if_pos (show (sJ T 11 48 (T.2 11 48 + 1)).2 0 7 < (sJ T 11 48 (T.2 11 48 + 1)).2 11 51 from p1.mpr k1)]
      show sJ _ 11 50 (T.2 11 50 + sX12_kept (T.2 0 4 - T.2 11 50) (-(T.2 0 5)) (T.2 0 5)) = _
      rw [t3, c5, c6, ← s1]
  · by_cases k2 : S.1 0 13 ≤ 0
    · obtain ⟨s1, s2⟩ := st (S.1 0 9) g5
      refine ⟨_, ?_, ?_, s2⟩
      · unfold sX1_approachWanted_S sX9_isSplicePending
        rw [if_neg (show ¬ (S.1 0 12).toInt64 < (sI S 0 1 (S.1 0 1 + 1)).2 0 0 from k1), if_pos (show (sI S 0 1 (S.1 0 1 + 1)).1 0 13 ≤ 0 from k2), if_pos rfl]
        rfl
      · unfold mPre sX12_hurry_S
        rw [if_neg (show ¬ (sJ T 11 48 (T.2 11 48 + 1)).2 0 7 < (sJ T 11 48 (T.2 11 48 + 1)).2 11 51 from fun z => k1 (p1.mp z)), if_pos (show (sJ T 11 48 (T.2 11 48 + 1)).2 11 52 ≤ 0 from p2.mpr k2)]
        show sJ _ 11 50 (T.2 11 50 + sX12_kept (T.2 0 4 - T.2 11 50) (-(T.2 0 5)) (T.2 0 5)) = _
        rw [t3, c5, c6, ← s1]
    · have hmin : sJ9_min_7cf53 (S.1 0 9) (S.1 0 11) = if S.1 0 9 ≤ S.1 0 11 then S.1 0 9 else S.1 0 11 := by
        unfold sJ9_min_7cf53
        by_cases z : S.1 0 9 ≤ S.1 0 11
        · rw [if_pos z, if_neg (Int32.not_lt.mpr z)]
        · rw [if_neg z, if_pos (Int32.not_le.mp z)]
      obtain ⟨s1, s2⟩ := st (sJ9_min_7cf53 (S.1 0 9) (S.1 0 11)) (by rw [hmin]; split; exact g5; exact g7)
      refine ⟨_, ?_, ?_, s2⟩
      · unfold sX1_approachWanted_S sX9_isSplicePending
        rw [if_neg (show ¬ (S.1 0 12).toInt64 < (sI S 0 1 (S.1 0 1 + 1)).2 0 0 from k1), if_neg (show ¬ (sI S 0 1 (S.1 0 1 + 1)).1 0 13 ≤ 0 from k2), if_neg (by decide)]
        rfl
      · unfold mPre sX12_hurry_S
        rw [if_neg (show ¬ (sJ T 11 48 (T.2 11 48 + 1)).2 0 7 < (sJ T 11 48 (T.2 11 48 + 1)).2 11 51 from fun z => k1 (p1.mp z)), if_neg (show ¬ (sJ T 11 48 (T.2 11 48 + 1)).2 11 52 ≤ 0 from fun z => k2 (p2.mp z)), hmin]
        rw [hmin] at s1
        by_cases z : S.1 0 9 ≤ S.1 0 11
        · rw [if_pos (show (sJ T 11 48 (T.2 11 48 + 1)).2 0 4 ≤ (sJ T 11 48 (T.2 11 48 + 1)).2 0 6 from p3.mpr z), if_pos z]
          rw [if_pos z] at s1
          show sJ _ 11 50 (T.2 11 50 + sX12_kept (T.2 0 4 - T.2 11 50) (-(T.2 0 5)) (T.2 0 5)) = _
          rw [t3, c5, c6, ← s1]
        · rw [if_neg (show ¬ (sJ T 11 48 (T.2 11 48 + 1)).2 0 4 ≤ (sJ T 11 48 (T.2 11 48 + 1)).2 0 6 from fun y => z (p3.mp y)), if_neg z]
          rw [if_neg z] at s1
          show sJ _ 11 50 (T.2 11 50 + sX12_kept (T.2 0 6 - T.2 11 50) (-(T.2 0 5)) (T.2 0 5)) = _
          rw [t3, c7, c6, ← s1]
