/-! ===== the answers that change nothing ===== -/
theorem J.span {S T : St} {B : Int} {m : Nat} (h : J S T B m) (j : Nat) (hj : j < cN S) : sX12_length T j = sX8_length S j ∧ sX12_tension T j = sX8_tensionAt S j (S.1 0 4) ∧ ¬ T.2 11 (8 * j) = 0 := by
  obtain ⟨hI, hR, hC, hD, hm⟩ := h
  have c := hR.1.2 j hj
  have s := hR.2.2.2.1 j hj
  have g := hC.2.2 j hj
  have d := hD.2.1 j hj
  obtain ⟨l1, l2, l3⟩ := len_sim c.1.1 c.1.2.1 (fun z => (s.2 z).1) g.1 (fun z => ⟨(d.2.2.2 z).1, by have x1 := (d.2.2.2 z).2.1; have x2 := (g.2.2.2.1 z).1.2; exact Int.le_trans x1 x2⟩)
  obtain ⟨t1, t2, -⟩ := ten_sim l1 s.1.1 hR.1.1.2.1 l2 l3 d.1 hC.1.1
  refine ⟨l1, t1, fun hz => ?_⟩
  have p := d.1
  rw [← s.1.1, hz, c0z] at p
  omega
theorem op_measure {S T : St} {B : Int} {m : Nat} (h : J S T B m) (hB : 0 ≤ B ∧ B ≤ 200000) (hm5 : m ≤ 512) (S2 : St) (j : Nat) (hj : j < cN S) (y : Int32) : sX11_measure S S2 j y = sX12_measure T j y := by
  obtain ⟨a1, a2, -⟩ := h.span j hj
  obtain ⟨hI, hR, hC, hD, hm⟩ := h
  obtain ⟨f1, f2, f3, f4, f5⟩ := relM_facts hI hR (Nat.le_trans hm hm5)
  have c := hR.1.2 j hj
  have s := hR.2.2.2.1 j hj
  by_cases h0 : y = 0
  · subst h0
    exact a2.symm
  by_cases h1 : y = 1
  · subst h1
    exact s.1.1.symm
  by_cases h2 : y = 2
  · subst h2
    exact a1.symm
  by_cases h3 : y = 3
  · subst h3
    exact s.1.2.2.2.2.symm
  by_cases h4 : y = 4
  · subst h4
    exact s.1.2.2.2.1.symm
  by_cases h5 : y = 5
  · subst h5
    have mk := marks_sim hB hD hR j (cN S) hj hI.2.2.1.2 (cM S) (cM S) (Nat.le_refl _)
    show (sX3_marksIn S j (cN S) (cM S)).toInt64 = (sX12_marksIn T j (mM T)).toInt64
    rw [f4]
    exact congrArg Int32.toInt64 mk.1.symm
  by_cases h6 : y = 6
  · subst h6
    show (if S.1 6 j = 1 then (S.1 13 j).toInt64 else (-9223372036854775808)) = (if T.1 1 j = 1 then T.2 11 (8 * j + 1) else sX12_lost)
    rw [c.1.1]
    by_cases z : S.1 6 j = 1
    · rw [if_pos z, if_pos z, (s.2 z).1]
    · rw [if_neg z, if_neg z]
      rfl
  by_cases h7 : y = 7
  · subst h7
    show (if S.1 6 j = 1 then (S.1 14 j).toInt64 else (-9223372036854775808)) = (if T.1 1 j = 1 then T.2 11 (8 * j + 2) else sX12_lost)
    rw [c.1.1]
    by_cases z : S.1 6 j = 1
    · rw [if_pos z, if_pos z, (s.2 z).2]
    · rw [if_neg z, if_neg z]
      rfl
  unfold sX11_measure sX12_measure
  rw [if_neg h0, if_neg h1, if_neg h2, if_neg h3, if_neg h4, if_neg h5, if_neg h6, if_neg h7, in_eq y 0 7 0 7 rfl rfl, if_pos]
  · rfl
  · by_cases z : sX11_isWithin y 0 7 = 0
    · exact z
    · have r := within_rI z
      exfalso
      have r1 : 0 ≤ y.toInt := r.1
      have r2 : y.toInt ≤ 7 := r.2
      have k : ∀ n : Int32, ¬ y = n → ¬ y.toInt = n.toInt := fun n hn e => hn (ieq.mpr e)
      have k0 : ¬ y.toInt = 0 := k 0 h0
      have k1 : ¬ y.toInt = 1 := k 1 h1
      have k2 : ¬ y.toInt = 2 := k 2 h2
      have k3 : ¬ y.toInt = 3 := k 3 h3
      have k4 : ¬ y.toInt = 4 := k 4 h4
      have k5 : ¬ y.toInt = 5 := k 5 h5
      have k6 : ¬ y.toInt = 6 := k 6 h6
      have k7 : ¬ y.toInt = 7 := k 7 h7
      omega
theorem op_web {S T : St} {B : Int} {m : Nat} (h : J S T B m) (hm5 : m ≤ 512) (S2 : St) (x : Int32) : sX11_web S S2 x = sX12_web T x := by
  obtain ⟨hI, hR, hC, hD, hm⟩ := h
  obtain ⟨f1, f2, f3, f4, f5⟩ := relM_facts hI hR (Nat.le_trans hm hm5)
  by_cases h0 : x = 0
  · subst h0
    exact hR.2.1.2.2.2.1.symm
  by_cases h1 : x = 1
  · subst h1
    show sX9_queuedLength S (cQ S) = LX12_web_21_2 T 1 (mQ T)
    rw [f3]
    have g : ∀ k, k ≤ cQ S → LX9_queuedLength_4_1 S (cQ S) k = LX12_web_21_2 T 1 k := by
      intro k
      induction k with
      | zero => intro _; rfl
      | succ k ih =>
        intro hk
        unfold LX9_queuedLength_4_1 LX12_web_21_2
        rw [ih (by omega), hR.2.2.1.2 k (by omega)]
    exact g (cQ S) (Nat.le_refl _)
  by_cases h2 : x = 2
  · subst h2
    exact hR.2.1.2.2.2.2.1.symm
  unfold sX11_web sX12_web
  rw [if_neg h0, if_neg h1, if_neg h2, in_eq x 0 2 0 2 rfl rfl, if_pos]
  · rfl
  · by_cases z : sX11_isWithin x 0 2 = 0
    · exact z
    · have r := within_rI z
      exfalso
      have r1 : 0 ≤ x.toInt := r.1
      have r2 : x.toInt ≤ 2 := r.2
      have k : ∀ n : Int32, ¬ x = n → ¬ x.toInt = n.toInt := fun n hn e => hn (ieq.mpr e)
      have k0 : ¬ x.toInt = 0 := k 0 h0
      have k1 : ¬ x.toInt = 1 := k 1 h1
      have k2 : ¬ x.toInt = 2 := k 2 h2
      omega
theorem op_slackSpans {S T : St} {B : Int} {m : Nat} (h : J S T B m) (hm5 : m ≤ 512) (S2 : St) : sX11_slackSpans S S2 = sX12_slackSpans T := by
  obtain ⟨hI, hR, hC, hD, hm⟩ := h
  obtain ⟨f1, f2, f3, f4, f5⟩ := relM_facts hI hR (Nat.le_trans hm hm5)
  unfold sX11_slackSpans sX12_slackSpans
  rw [f2]
  have g : ∀ k, k ≤ cN S → LX11_slackSpans_4_1 S S2 k = LX12_slackSpans_4_1 T k := by
    intro k
    induction k with
    | zero => intro _; rfl
    | succ k ih =>
      intro hk
      unfold LX11_slackSpans_4_1 LX12_slackSpans_4_1
      rw [ih (by omega), (hR.2.2.2.1 k (by omega)).1.2.2.2.1, Int32.or_zero]
      have e : (S.1 7 k).toInt64 < 20 ↔ S.1 7 k < 20 := i2z_lt (y := 20)
      by_cases z : S.1 7 k < 20
      · rw [if_pos z, if_pos (e.mpr z)]
      · rw [if_neg z, if_neg (fun y => z (e.mp y))]
  exact g (cN S) (Nat.le_refl _)
