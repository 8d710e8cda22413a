/-! ===== how the reference's state answers to the class's ===== -/
/-- what does not change in a tick -/
def RelC (S T : St) : Prop :=
  (T.1 0 0 = S.1 0 0 ∧ T.2 0 0 = (S.1 0 4).toInt64 ∧ T.2 0 1 = (S.1 0 5).toInt64 ∧ T.2 0 2 = (S.1 0 6).toInt64 ∧ T.2 0 3 = (S.1 0 7).toInt64 ∧ T.2 0 4 = (S.1 0 9).toInt64 ∧ T.2 0 5 = (S.1 0 10).toInt64 ∧ T.2 0 6 = (S.1 0 11).toInt64 ∧ T.2 0 7 = (S.1 0 12).toInt64 ∧ T.2 0 8 = (S.1 0 14).toInt64) ∧
  ∀ i, i < cN S → (T.1 1 i = S.1 6 i ∧ T.2 1 i = (S.1 5 i).toInt64 ∧ T.2 10 i = (S.1 17 (i + 1)).toInt64) ∧ (S.1 6 i = 1 → T.2 3 i = (S.1 8 i).toInt64 ∧ T.2 4 i = (S.1 9 i).toInt64 ∧ T.2 5 i = (S.1 10 i).toInt64 ∧ T.2 6 i = (S.1 11 i).toInt64 ∧ T.2 7 i = (S.1 12 i).toInt64) ∧ (S.1 6 i = 2 → T.2 8 i = (S.1 15 i).toInt64 ∧ T.2 9 i = (S.1 16 i).toInt64)
/-- time, state, base speed, remaining length, rewinder, finished rolls, the first roller's passage -/
def RelT (S T : St) : Prop := T.2 11 48 = (S.1 0 1).toInt64 ∧ T.2 11 49 = (S.1 0 2).toInt64 ∧ T.2 11 50 = (S.1 0 8).toInt64 ∧ T.2 11 51 = S.2 0 0 ∧ T.2 11 57 = S.2 0 1 ∧ T.2 11 58 = (S.1 0 15).toInt64 ∧ T.2 11 61 = S.2 5 0
def RelQ (S T : St) : Prop := T.2 11 52 = lN (cQ S) ∧ ∀ j, j < cQ S → T.2 11 (53 + j) = (S.1 1 j).toInt64
def RelS (S T : St) : Prop := ∀ i, i < cN S → (T.2 11 (8 * i) = S.2 3 i ∧ T.2 11 (8 * i + 3) = (S.1 18 (i + 1)).toInt64 ∧ T.2 11 (8 * i + 4) = S.2 5 (i + 1) ∧ T.2 11 (8 * i + 5) = (S.1 7 i).toInt64 ∧ T.2 11 (8 * i + 6) = S.2 4 i) ∧ (S.1 6 i = 1 → T.2 11 (8 * i + 1) = (S.1 13 i).toInt64 ∧ T.2 11 (8 * i + 2) = (S.1 14 i).toInt64)
def RelM (S T : St) : Prop := T.2 11 62 = lN (cM S) ∧ ∀ k, k < cM S → T.2 15 k = S.2 1 k
def RelE (S T : St) : Prop := T.2 11 63 = lN (cC S) ∧ ∀ k, k < cC S → T.2 13 (3 * k) = (S.1 2 ((cO S + k) % 30)).toInt64 ∧ T.2 13 (3 * k + 1) = (S.1 3 ((cO S + k) % 30)).toInt64 ∧ T.2 13 (3 * k + 2) = (S.1 4 ((cO S + k) % 30)).toInt64
def RelB (S T : St) : Prop := (T.2 11 59 = 0 ∧ S.1 0 3 = -1000005) ∨ (¬ T.2 11 59 = 0 ∧ T.2 11 60 = (S.1 0 3).toInt64)
def Rel (S T : St) : Prop := RelC S T ∧ RelT S T ∧ RelQ S T ∧ RelS S T ∧ RelM S T ∧ RelE S T ∧ RelB S T
/-- the sum of the materials -/
def mSum (S : St) : Nat → Int
  | 0 => 0
  | k + 1 => mSum S k + (S.2 3 k).toInt
def rI (x : Int32) (a b : Int) : Prop := a ≤ x.toInt ∧ x.toInt ≤ b
/-- the ranges of what does not change in a tick -/
def RngC (S : St) : Prop :=
  (rI (S.1 0 4) 1000 10000000 ∧ rI (S.1 0 5) 0 100000 ∧ rI (S.1 0 6) 1000 10000000 ∧ rI (S.1 0 7) 1 1000 ∧ rI (S.1 0 9) 0 20000 ∧ rI (S.1 0 10) 1 5000 ∧ rI (S.1 0 11) 0 20000 ∧ rI (S.1 0 12) 0 100000000 ∧ rI (S.1 0 14) 100000 1000000000) ∧
  (S.1 17 0 = 0 ∧ S.1 18 0 = 0) ∧
  ∀ i, i < cN S → rI (S.1 5 i) 100000 10000000 ∧ rI (S.1 17 (i + 1)) (-20000) 20000 ∧ (S.1 6 i = 0 ∨ S.1 6 i = 1 ∨ S.1 6 i = 2) ∧ (S.1 6 i = 1 → rI (S.1 8 i) 2 100000 ∧ rI (S.1 9 i) 0 1000000 ∧ rI (S.1 10 i) 1 100000 ∧ rI (S.1 11 i) (-1000) 1000 ∧ rI (S.1 12 i) (-1000) 1000) ∧ (S.1 6 i = 2 → rI (S.1 15 i) 0 1000000 ∧ rI (S.1 16 i) (-10000) 10000)
/-- the ranges of the rest; B bounds the time -/
def RngD (S : St) (B : Int) : Prop :=
  (rI (S.1 0 1) 0 B ∧ rI (S.1 0 8) 0 20000 ∧ rI (S.1 0 15) 0 B ∧ (0 ≤ (S.2 5 0).toInt ∧ (S.2 5 0).toInt ≤ 20000 * B) ∧ (-20000 * B ≤ (S.2 0 0).toInt ∧ (S.2 0 0).toInt ≤ 1000000000)) ∧
  (∀ i, i < cN S → 0 < (S.2 3 i).toInt ∧ rI (S.1 18 (i + 1)) (-2000) 2000 ∧ rI (S.1 7 i) 0 B ∧ (S.1 6 i = 1 → 0 ≤ (S.1 13 i).toInt ∧ (S.1 13 i).toInt ≤ (S.1 8 i).toInt ∧ rI (S.1 14 i) (-1000000) 1000000)) ∧
  mSum S (cN S) ≤ 62000000 + 20000 * B ∧
  (∀ k, k < cM S → -20000 * B ≤ (S.2 1 k).toInt ∧ (S.2 1 k).toInt ≤ 20000 * B) ∧ (∀ j, j < cQ S → rI (S.1 1 j) 1 1000000000)
theorem happens_shift (T : St) (x : Int32) (y : Int64) (mh : Nat) : ∀ k b : Nat, (LX12_happens_23_S T x y mh k).2 13 b = if b < k then T.2 13 (b + 3) else T.2 13 b := by
  intro k
  induction k with
  | zero => intro b; rfl
  | succ k ih =>
    intro b
    unfold LX12_happens_23_S
    rw [rJ_sJ]
    by_cases hb : b = k
    · subst hb
      rw [if_pos ⟨rfl, rfl⟩, ih, if_neg (by omega), if_pos (by omega)]
    · rw [if_neg (by omega), ih]
      by_cases h2 : b < k
      · rw [if_pos h2, if_pos (by omega)]
      · rw [if_neg h2, if_neg (by omega)]
theorem cC_of {S : St} {n : Nat} (h : S.1 0 18 = nI n) (hn : n ≤ 600) : cC S = n := cK h hn
theorem cO_of {S : St} {n : Nat} (h : S.1 0 17 = nI n) (hn : n ≤ 600) : cO S = n := cK h hn
/-- an event on both sides -/
theorem ev_sim {S T : St} (hI : Inv S) (hE : RelE S T) (x kind place : Int32) (hx : T.2 11 48 = x.toInt64) : RelE (sX2_add_S S x kind place (cO S) (cC S)) (sX12_happens_S T kind place.toInt64 (cC S)) := by
  obtain ⟨⟨h1, b1⟩, ⟨h2, b2⟩, ⟨h3, b3⟩, ⟨h4, b4⟩, ⟨h5, b5⟩⟩ := hI
  obtain ⟨e1, e2⟩ := hE
  by_cases hc : 30 ≤ cC S
  · have hc30 : cC S = 30 := by omega
    have s1 : sX2_add_S S x kind place (cO S) (cC S) = sI (sI (sI (sI S 2 ((cO S + cC S) % 30) x) 3 ((cO S + cC S) % 30) kind) 4 ((cO S + cC S) % 30) place) 0 17 (nI ((cO S + 1) % 30)) := by
      unfold sX2_add_S
      rw [if_pos hc]
    have t1 : sX12_happens_S T kind place.toInt64 (cC S) = (sJ (sJ (sJ (sJ (LX12_happens_23_S T kind place.toInt64 30 (3 * (30 - 1))) 13 (3 * (30 - 1)) (T.2 11 48)) 13 (3 * (30 - 1) + 1) kind.toInt64) 13 (3 * (30 - 1) + 2) place.toInt64) 11 63 (lN (30 - 1 + 1))) := by
      rw [hc30]
      unfold sX12_happens_S
      rw [if_pos rfl]
    have c1 : cC (sX2_add_S S x kind place (cO S) (cC S)) = 30 := cC_of (by rw [s1]; exact h5.trans (by rw [hc30])) (by decide)
    have c2 : cO (sX2_add_S S x kind place (cO S) (cC S)) = (cO S + 1) % 30 := cO_of (by rw [s1]; rfl) (by omega)
    refine ⟨by rw [c1, t1]; rfl, fun k hk => ?_⟩
    rw [c1] at hk
    rw [c2, t1, s1]
    simp only [rJ_sJ, rI_sI, happens_shift]
    by_cases hk2 : k < 29
    · have g := e2 (k + 1) (by omega)
      have i1 : ((cO S + 1) % 30 + k) % 30 = (cO S + (k + 1)) % 30 := by omega
      have i2 : ¬ (cO S + (k + 1)) % 30 = (cO S + cC S) % 30 := by omega
      simp only [i1, i2, and_false, if_false, show (2 : Nat) = 0 ↔ False from by decide, show (3 : Nat) = 0 ↔ False from by decide, show (4 : Nat) = 0 ↔ False from by decide, false_and, show (2 : Nat) = 4 ↔ False from by decide, show (2 : Nat) = 3 ↔ False from by decide, show (3 : Nat) = 4 ↔ False from by decide, show (3 : Nat) = 2 ↔ False from by decide, show (4 : Nat) = 3 ↔ False from by decide, show (4 : Nat) = 2 ↔ False from by decide, show (13 : Nat) = 11 ↔ False from by decide]
      rw [if_neg (by omega), if_neg (by omega), if_neg (by omega), if_pos (by omega), if_neg (by omega), if_neg (by omega), if_neg (by omega), if_pos (by omega), if_neg (by omega), if_neg (by omega), if_neg (by omega), if_pos (by omega)]
      exact ⟨g.1, g.2.1, g.2.2⟩
    · have hk3 : k = 29 := by omega
      subst hk3
      have i1 : ((cO S + 1) % 30 + 29) % 30 = (cO S + cC S) % 30 := by omega
      simp [i1, hx]
  · have s1 : sX2_add_S S x kind place (cO S) (cC S) = sI (sI (sI (sI S 2 ((cO S + cC S) % 30) x) 3 ((cO S + cC S) % 30) kind) 4 ((cO S + cC S) % 30) place) 0 18 (nI (cC S + 1)) := by
      unfold sX2_add_S
      rw [if_neg hc]
    have t1 : sX12_happens_S T kind place.toInt64 (cC S) = (sJ (sJ (sJ (sJ T 13 (3 * cC S) (T.2 11 48)) 13 (3 * cC S + 1) kind.toInt64) 13 (3 * cC S + 2) place.toInt64) 11 63 (lN (cC S + 1))) := by
      unfold sX12_happens_S
      rw [if_neg (by omega)]
    have c1 : cC (sX2_add_S S x kind place (cO S) (cC S)) = cC S + 1 := cC_of (by rw [s1]; rfl) (by omega)
    have c2 : cO (sX2_add_S S x kind place (cO S) (cC S)) = cO S := cO_of (by rw [s1]; exact h4) (by omega)
    refine ⟨by rw [c1, t1]; rfl, fun k hk => ?_⟩
    rw [c1] at hk
    rw [c2, t1, s1]
    simp only [rJ_sJ, rI_sI]
    by_cases hk2 : k < cC S
    · have g := e2 k hk2
      have i2 : ¬ (cO S + k) % 30 = (cO S + cC S) % 30 := by omega
      simp only [i2, and_false, if_false]
      rw [if_neg (by omega), if_neg (by omega), if_neg (by omega), if_neg (by omega), if_neg (by omega), if_neg (by omega), if_neg (by omega), if_neg (by omega), if_neg (by omega), if_neg (by omega), if_neg (by omega), if_neg (by omega)]
      simp [g]
      rw [if_neg (by omega), if_neg (by omega)]
    · have hk3 : k = cC S := by omega
      subst hk3
      simp [hx]
