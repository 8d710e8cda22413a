/-! ===== a span's controller is set ===== -/
def kRow (a : Nat) : Prop := a = 6 ∨ (8 ≤ a ∧ a ≤ 16)
theorem kind_rel {S S' T T' : St} {j : Nat} (hI : Inv S) (hj : j < cN S) (hR : Rel S T) (hC : RngC S) {B : Int} (hD : RngD S B)
    (s2 : S'.2 = S.2) (s1 : ∀ a, ¬ kRow a → S'.1 a = S.1 a) (si : ∀ a i, ¬ i = j → S'.1 a i = S.1 a i)
    (t0 : T'.1 0 = T.1 0) (ti : ∀ i, ¬ i = j → T'.1 1 i = T.1 1 i) (tk : ∀ a i, 3 ≤ a → a ≤ 9 → ¬ i = j → T'.2 a i = T.2 a i) (tr : ∀ a, ¬ (3 ≤ a ∧ a ≤ 9) → ¬ a = 11 → T'.2 a = T.2 a) (tb : ∀ b, ¬ b = 8 * j + 1 → ¬ b = 8 * j + 2 → T'.2 11 b = T.2 11 b)
    (k0 : T'.1 1 j = S'.1 6 j)
    (k1 : S'.1 6 j = 1 → T'.2 3 j = (S'.1 8 j).toInt64 ∧ T'.2 4 j = (S'.1 9 j).toInt64 ∧ T'.2 5 j = (S'.1 10 j).toInt64 ∧ T'.2 6 j = (S'.1 11 j).toInt64 ∧ T'.2 7 j = (S'.1 12 j).toInt64)
    (k2 : S'.1 6 j = 2 → T'.2 8 j = (S'.1 15 j).toInt64 ∧ T'.2 9 j = (S'.1 16 j).toInt64)
    (k3 : S'.1 6 j = 1 → T'.2 11 (8 * j + 1) = (S'.1 13 j).toInt64 ∧ T'.2 11 (8 * j + 2) = (S'.1 14 j).toInt64)
    (c0 : S'.1 6 j = 0 ∨ S'.1 6 j = 1 ∨ S'.1 6 j = 2)
    (c1 : S'.1 6 j = 1 → rI (S'.1 8 j) 2 100000 ∧ rI (S'.1 9 j) 0 1000000 ∧ rI (S'.1 10 j) 1 100000 ∧ rI (S'.1 11 j) (-1000) 1000 ∧ rI (S'.1 12 j) (-1000) 1000)
    (c2 : S'.1 6 j = 2 → rI (S'.1 15 j) 0 1000000 ∧ rI (S'.1 16 j) (-10000) 10000)
    (d1 : S'.1 6 j = 1 → 0 ≤ (S'.1 13 j).toInt ∧ (S'.1 13 j).toInt ≤ (S'.1 8 j).toInt ∧ rI (S'.1 14 j) (-1000000) 1000000) :
    Inv S' ∧ Rel S' T' ∧ RngC S' ∧ RngD S' B := by
  obtain ⟨⟨rc1, rc2⟩, rt, rq, rs, rm, re, rb⟩ := hR
  have hn : cN S ≤ 6 := hI.1.2.2
  have hq : cQ S ≤ 4 := hI.2.1.2
  have z0 : S'.1 0 = S.1 0 := s1 0 (by unfold kRow; omega)
  have z1 : S'.1 1 = S.1 1 := s1 1 (by unfold kRow; omega)
  have z2 : S'.1 2 = S.1 2 := s1 2 (by unfold kRow; omega)
  have z3 : S'.1 3 = S.1 3 := s1 3 (by unfold kRow; omega)
  have z4 : S'.1 4 = S.1 4 := s1 4 (by unfold kRow; omega)
  have z5 : S'.1 5 = S.1 5 := s1 5 (by unfold kRow; omega)
  have z7 : S'.1 7 = S.1 7 := s1 7 (by unfold kRow; omega)
  have z17 : S'.1 17 = S.1 17 := s1 17 (by unfold kRow; omega)
  have z18 : S'.1 18 = S.1 18 := s1 18 (by unfold kRow; omega)
  have cn : cN S' = cN S := by unfold cN; rw [z0]
  have cq : cQ S' = cQ S := by unfold cQ; rw [z0]
  have cm : cM S' = cM S := by unfold cM; rw [z0]
  have co : cO S' = cO S := by unfold cO; rw [z0]
  have cc : cC S' = cC S := by unfold cC; rw [z0]
  have t2 : T'.2 0 = T.2 0 := tr 0 (by omega) (by omega)
  refine ⟨?_, ⟨⟨?_, ?_⟩, ?_, ?_, ?_, ?_, ?_, ?_⟩, ⟨?_, ?_, ?_⟩, ⟨?_, ?_, ?_, ?_, ?_⟩⟩
  · unfold Inv
    rw [cn, cq, cm, co, cc, z0]
    exact hI
  · rw [t0, t2, z0]
    exact rc1
  · intro i hi
    rw [cn] at hi
    have g := rc2 i hi
    rw [tr 1 (by omega) (by omega), tr 10 (by omega) (by omega), z5, z17]
    by_cases e : i = j
    · subst e
      exact ⟨⟨k0, g.1.2.1, g.1.2.2⟩, k1, k2⟩
    · rw [ti i e, si 6 i e, tk 3 i (by omega) (by omega) e, tk 4 i (by omega) (by omega) e, tk 5 i (by omega) (by omega) e, tk 6 i (by omega) (by omega) e, tk 7 i (by omega) (by omega) e, tk 8 i (by omega) (by omega) e, tk 9 i (by omega) (by omega) e, si 8 i e, si 9 i e, si 10 i e, si 11 i e, si 12 i e, si 15 i e, si 16 i e]
      exact g
  · unfold RelT
    rw [tb 48 (by omega) (by omega), tb 49 (by omega) (by omega), tb 50 (by omega) (by omega), tb 51 (by omega) (by omega), tb 57 (by omega) (by omega), tb 58 (by omega) (by omega), tb 61 (by omega) (by omega), z0, s2]
    exact rt
  · refine ⟨by rw [tb _ (by omega) (by omega), cq]; exact rq.1, fun i hi => ?_⟩
    rw [cq] at hi
    rw [tb _ (by omega) (by omega), z1]
    exact rq.2 i hi
  · intro i hi
    rw [cn] at hi
    have g := rs i hi
    rw [tb (8 * i) (by omega) (by omega), tb (8 * i + 3) (by omega) (by omega), tb (8 * i + 4) (by omega) (by omega), tb (8 * i + 5) (by omega) (by omega), tb (8 * i + 6) (by omega) (by omega), z18, z7, s2]
    refine ⟨g.1, ?_⟩
    by_cases e : i = j
    · subst e
      exact k3
    · rw [tb (8 * i + 1) (by omega) (by omega), tb (8 * i + 2) (by omega) (by omega), si 6 i e, si 13 i e, si 14 i e]
      exact g.2
  · refine ⟨by rw [tb _ (by omega) (by omega), cm]; exact rm.1, fun i hi => ?_⟩
    rw [cm] at hi
    rw [tr 15 (by omega) (by omega), s2]
    exact rm.2 i hi
  · refine ⟨by rw [tb _ (by omega) (by omega), cc]; exact re.1, fun i hi => ?_⟩
    rw [cc] at hi
    rw [tr 13 (by omega) (by omega), co, z2, z3, z4]
    exact re.2 i hi
  · unfold RelB
    rw [tb 59 (by omega) (by omega), tb 60 (by omega) (by omega), z0]
    exact rb
  · rw [z0]
    exact hC.1
  · rw [z17, z18]
    exact hC.2.1
  · intro i hi
    rw [cn] at hi
    have g := hC.2.2 i hi
    rw [z5, z17]
    by_cases e : i = j
    · subst e
      exact ⟨g.1, g.2.1, c0, c1, c2⟩
    · rw [si 6 i e, si 8 i e, si 9 i e, si 10 i e, si 11 i e, si 12 i e, si 15 i e, si 16 i e]
      exact g
  · rw [z0, s2]
    exact hD.1
  · intro i hi
    rw [cn] at hi
    have g := hD.2.1 i hi
    rw [s2, z18, z7]
    by_cases e : i = j
    · subst e
      exact ⟨g.1, g.2.1, g.2.2.1, d1⟩
    · rw [si 6 i e, si 8 i e, si 13 i e, si 14 i e]
      exact g
  · rw [cn, mSum_congr (S := S) (S' := S') (by rw [s2])]
    exact hD.2.2.1
  · rw [cm, s2]
    exact hD.2.2.2.1
  · rw [cq, z1]
    exact hD.2.2.2.2
