/-! ===== loading a roll ===== -/
theorem load_push {S T : St} {B : Int} {m : Nat} (h : J S T B m) (hm5 : m ≤ 511) (hq4 : cQ S < 4) (x : Int32) (hx : rI x 1 1000000000) : J (sI (sI S 1 (cQ S) x) 0 13 (nI (cQ S + 1))) (sJ (sJ T 11 (53 + cQ S) x.toInt64) 11 52 ((sJ T 11 (53 + cQ S) x.toInt64).2 11 52 + 1)) B (m + 1) := by
  obtain ⟨hI, ⟨rc, rt, rq, rs, rm, re, rb⟩, hC, hD, hm⟩ := h
  have hn : cN S ≤ 6 := hI.1.2.2
  generalize hS' : sI (sI S 1 (cQ S) x) 0 13 (nI (cQ S + 1)) = S'
  have k13 : S'.1 0 13 = nI (cQ S + 1) := by subst hS'; rfl
  have cq' : cQ S' = cQ S + 1 := cK k13 (by omega)
  have cm' : cM S' = cM S := by subst hS'; rfl
  have cn' : cN S' = cN S := by subst hS'; rfl
  have e52 : (sJ T 11 (53 + cQ S) x.toInt64).2 11 52 + 1 = lN (cQ S + 1) := by
    rw [rJ_ne _ _ _ _ _ (by omega), rq.1]
    rw [zeq, zadd (by rw [lN_toInt (by omega), c1Z]; omega), lN_toInt (by omega), lN_toInt (by omega), c1Z]
    omega
  rw [e52]
  have t2 : ∀ a b, ¬ (a = 11 ∧ (b = 52 ∨ b = 53 + cQ S)) → (sJ (sJ T 11 (53 + cQ S) x.toInt64) 11 52 (lN (cQ S + 1))).2 a b = T.2 a b := fun a b h => by rw [rJ_sk _ _ _ _ _ _ (by omega), rJ_sk _ _ _ _ _ _ (by omega)]
  have q52 : (sJ (sJ T 11 (53 + cQ S) x.toInt64) 11 52 (lN (cQ S + 1))).2 11 52 = lN (cQ S + 1) := rJ_at _ _ _ _
  have q53 : (sJ (sJ T 11 (53 + cQ S) x.toInt64) 11 52 (lN (cQ S + 1))).2 11 (53 + cQ S) = x.toInt64 := by rw [rJ_ne _ _ _ _ _ (by omega), rJ_at]
  have t1 : (sJ (sJ T 11 (53 + cQ S) x.toInt64) 11 52 (lN (cQ S + 1))).1 = T.1 := rfl
  generalize sJ (sJ T 11 (53 + cQ S) x.toInt64) 11 52 (lN (cQ S + 1)) = T' at t1 t2 q52 q53 ⊢
  have row1 : ∀ j, S'.1 1 j = if j = cQ S then x else S.1 1 j := fun j => by
    subst hS'
    rw [rI_sk _ 0 _ _ 1 _ (by omega)]
    by_cases z : j = cQ S
    · rw [if_pos z, z, rI_at]
    · rw [if_neg z, rI_ne _ _ _ _ _ z]
  have hI' : Inv S' := ⟨by subst hS'; exact hI.1, ⟨by rw [cq']; exact k13, by omega⟩, by subst hS'; exact hI.2.2⟩
  have rc' : RelC S' T := by subst hS'; exact rc
  have rt' : RelT S' T := by subst hS'; exact rt
  have rs' : RelS S' T := by subst hS'; exact rs
  have rm' : RelM S' T := by subst hS'; exact rm
  have re' : RelE S' T := by subst hS'; exact re
  have rb' : RelB S' T := by subst hS'; exact rb
  have hC' : RngC S' := by subst hS'; exact hC
  have r2 : S'.2 = S.2 := by subst hS'; rfl
  refine ⟨hI', ⟨RelC.congr rfl t1 (fun a h1 _ _ _ => by funext b; exact t2 a b (by omega)) rc', ?_, ?_, ?_, ?_, ?_, ?_⟩, hC', ⟨?_, ?_, ?_, ?_, ?_⟩, by rw [cm', cq']; omega⟩
  · unfold RelT
    rw [t2 11 48 (by omega), t2 11 49 (by omega), t2 11 50 (by omega), t2 11 51 (by omega), t2 11 57 (by omega), t2 11 58 (by omega), t2 11 61 (by omega)]
    exact rt'
  · refine ⟨by rw [q52, cq'], fun j hj => ?_⟩
    rw [cq'] at hj
    rw [row1 j]
    by_cases z : j = cQ S
    · rw [if_pos z, z, q53]
    · rw [if_neg z, t2 _ _ (by omega)]
      exact rq.2 j (by omega)
  · intro i hi
    have g := rs' i hi
    rw [cn'] at hi
    rw [t2 11 (8 * i) (by omega), t2 11 (8 * i + 1) (by omega), t2 11 (8 * i + 2) (by omega), t2 11 (8 * i + 3) (by omega), t2 11 (8 * i + 4) (by omega), t2 11 (8 * i + 5) (by omega), t2 11 (8 * i + 6) (by omega)]
    exact g
  · exact ⟨by rw [t2 _ _ (by omega)]; exact rm'.1, fun j hj => by rw [t2 15 _ (by omega)]; exact rm'.2 j hj⟩
  · exact ⟨by rw [t2 _ _ (by omega)]; exact re'.1, fun j hj => by rw [t2 13 _ (by omega), t2 13 _ (by omega), t2 13 _ (by omega)]; exact re'.2 j hj⟩
  · unfold RelB
    rw [t2 11 59 (by omega), t2 11 60 (by omega)]
    exact rb'
  · have g := hD.1
    subst hS'
    exact g
  · have g := hD.2.1
    subst hS'
    exact g
  · rw [cn', mSum_congr (S := S) (S' := S') (by rw [r2])]
    exact hD.2.2.1
  · rw [cm', r2]
    exact hD.2.2.2.1
  · intro j hj
    rw [cq'] at hj
    rw [row1 j]
    by_cases z : j = cQ S
    · rw [if_pos z]
      exact hx
    · rw [if_neg z]
      exact hD.2.2.2.2 j (by omega)
theorem op_loadRoll {S T : St} {B : Int} {m : Nat} (h : J S T B m) (hB : 0 ≤ B) (hm5 : m ≤ 511) (S2 : St) (x : Int32) : sX11_loadRoll S S2 x = sX12_loadRoll T x ∧ J (sX11_loadRoll_S S S2 x) (sX12_loadRoll_S T x) B (m + 1) := by
  obtain ⟨f1, f2, f3, f4, f5⟩ := relM_facts h.1 h.2.1 (Nat.le_trans h.2.2.2.2 (by omega))
  have h51 : T.2 11 51 = S.2 0 0 := h.2.1.2.1.2.2.2.1
  have hq4 : cQ S ≤ 4 := h.1.2.1.2
  unfold sX11_loadRoll sX12_loadRoll sX11_loadRoll_S sX12_loadRoll_S sX9_put sX9_put_S
  rw [in_eq x 1 1000000000 1 1000000000 rfl rfl, f3, h51]
  by_cases h1 : sX11_isWithin x 1 1000000000 = 0
  · rw [if_pos h1, if_pos h1, if_pos h1, if_pos h1]
    exact ⟨rfl, h.mono (Int.le_refl _) (by omega)⟩
  · rw [if_neg h1, if_neg h1, if_neg h1, if_neg h1]
    have r : rI x 1 1000000000 := within_rI h1
    by_cases h2 : cQ S < 4
    · rw [if_pos h2, if_pos h2, if_neg (show ¬ cQ S = 4 by omega), if_neg (show ¬ cQ S = 4 by omega)]
      have p := load_push h hm5 h2 x r
      by_cases h3 : S.2 0 0 = 0
      · simp only [if_pos h3]
        by_cases h4 : cQ S = 0
        · simp only [if_pos h4]
          refine ⟨trivial, h.1, h.2.1.remaining h.1 _, h.2.2.1, h.2.2.2.1.remaining _ ?_, by have := h.2.2.2.2; exact Nat.le_succ_of_le this⟩
          rw [i2z]
          unfold rI at r
          omega
        · simp only [if_neg h4]
          exact ⟨trivial, p⟩
      · simp only [if_neg h3]
        exact ⟨trivial, p⟩
    · rw [if_neg h2, if_neg h2, if_pos (show cQ S = 4 by omega), if_pos (show cQ S = 4 by omega), if_neg (show ¬ cQ S = 0 by omega), if_neg (show ¬ cQ S = 0 by omega)]
      refine ⟨by split <;> rfl, ?_⟩
      split <;> exact h.mono (Int.le_refl _) (by omega)
