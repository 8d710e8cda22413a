/-! ===== the inspection of all spans ===== -/
theorem marks_sim {S T : St} {B : Int} (hB : 0 ≤ B ∧ B ≤ 200000) (hD : RngD S B) (hR : Rel S T) (i n : Nat) (hi : i < cN S) (hm : cM S ≤ 512) (mc : Nat) : ∀ k, k ≤ cM S → LX12_marksIn_4_2 T i mc k = LX5_countBetween_6_5 S (sX3_placeAtRoller S (i + 1) n) (sX3_placeAtRoller S i n) mc k ∧ 0 ≤ (LX12_marksIn_4_2 T i mc k).toInt ∧ (LX12_marksIn_4_2 T i mc k).toInt ≤ k := by
  intro k
  induction k with
  | zero => intro _; exact ⟨rfl, Int.le_refl 0, Int.le_refl 0⟩
  | succ k ih =>
    intro hk
    obtain ⟨e, b1, b2⟩ := ih (by omega)
    have m1 := mark_sim hB hD hR.2.2.2.1 hR.2.1.2.2.2.2.2.2 hR.2.2.2.2.1 i n (by omega) k (by omega)
    have m2 := mark_sim hB hD hR.2.2.2.1 hR.2.1.2.2.2.2.2.2 hR.2.2.2.2.1 (i + 1) n (by omega) k (by omega)
    have a1 : (LX12_marksIn_4_2 T i mc k + 1).toInt = (LX12_marksIn_4_2 T i mc k).toInt + 1 := by rw [iadd (by rw [c1I]; omega), c1I]
    unfold LX12_marksIn_4_2 LX5_countBetween_6_5 sX12_isMarkIn
    rw [← e]
    by_cases h1 : T.2 11 61 - T.2 15 k < sX12_materialTo T i
    · rw [if_pos h1, if_pos rfl, if_pos (m1.mp h1), ite_self, Int32.add_zero]
      exact ⟨rfl, b1, by omega⟩
    · rw [if_neg h1, if_neg (fun z => h1 (m1.mpr z))]
      by_cases h2 : sX12_materialTo T (i + 1) ≤ T.2 11 61 - T.2 15 k
      · have h2' : S.2 1 k ≤ sX3_placeAtRoller S (i + 1) n := Int64.not_lt.mp (fun z => Int64.not_le.mpr (m2.mpr z) h2)
        rw [if_pos h2, if_pos rfl, if_pos h2', Int32.add_zero]
        exact ⟨rfl, b1, by omega⟩
      · have h2' : ¬ S.2 1 k ≤ sX3_placeAtRoller S (i + 1) n := fun z => Int64.not_lt.mpr z (m2.mp (Int64.not_le.mp h2))
        rw [if_neg h2, if_neg (by decide), if_neg h2']
        exact ⟨rfl, by omega, by omega⟩
theorem strength_sim {S T : St} (hR : RelC S T) (hC : RngC S) (x : Int32) (hx : 0 ≤ x.toInt) : (if x ≤ 0 then T.2 0 2 else T.2 0 2 * T.2 0 3 / 1000) = sX10_strengthWith S x := by
  obtain ⟨-, -, r6, r7, -⟩ := hC.1
  unfold rI at r6 r7
  unfold sX10_strengthWith
  rw [hR.1.2.2.2.1, hR.1.2.2.2.2.1]
  have c0I : (0 : Int32).toInt = 0 := rfl
  by_cases h : x = 0
  · rw [if_pos h, if_pos (by rw [h]; decide)]
  · rw [if_neg h, if_neg (fun z => h (by rw [ile, c0I] at z; rw [ieq, c0I]; omega))]
    have h1 : 0 ≤ (S.1 0 6).toInt * (S.1 0 7).toInt := Int.mul_nonneg (by omega) (by omega)
    have h2 : (S.1 0 6).toInt * (S.1 0 7).toInt ≤ (S.1 0 6).toInt * 1000 := Int.mul_le_mul_of_nonneg_left (by omega) (by omega)
    have e : ((S.1 0 6).toInt64 * (S.1 0 7).toInt64).toInt = (S.1 0 6).toInt * (S.1 0 7).toInt := by rw [zmul (by rw [i2z, i2z]; omega), i2z, i2z]
    rw [floorDiv_down (by decide), down_div (by rw [e]; exact h1) (by decide)]
/-- one span's inspection -/
def inC (S : St) (k n mc : Nat) : St :=
  let P2 := sX3_countSlack_S (sJ S 4 k (sJ9_max_f86c9 (S.2 4 k) (sX8_tensionAt S k (S.1 0 4)))) k (sX8_tensionAt S k (S.1 0 4))
  if (sX8_tensionAt S k (S.1 0 4)) ≤ (sX10_strengthWith P2 (sX3_marksIn P2 k n mc)) then P2 else (if (P2.1 0 2) = 1 then P2 else sX3_breakWeb_S P2 (nI k))
theorem watch_sim {S T : St} {k n : Nat} (hI : Inv S) (hk : k < cN S) (hR : Rel S T) (hC : RngC S) {B : Int} (hB : 0 ≤ B ∧ B ≤ 199999) (hD : RngD S (B + 1)) (hbud : cM S + cQ S ≤ 512) (hs : rI (S.1 7 k) 0 B) :
    Rel (inC S k n (cM S)) (sX12_watch_S T k) ∧ RngC (inC S k n (cM S)) ∧ RngD (inC S k n (cM S)) (B + 1) ∧ Inv (inC S k n (cM S)) ∧ (∀ i, ¬ i = k → (inC S k n (cM S)).1 7 i = S.1 7 i) ∧ cN (inC S k n (cM S)) = cN S ∧ cM (inC S k n (cM S)) = cM S ∧ cQ (inC S k n (cM S)) = cQ S := by
  have c := hR.1.2 k hk
  have s := hR.2.2.2.1 k hk
  have g := hC.2.2 k hk
  have d := hD.2.1 k hk
  obtain ⟨l1, l2, l3⟩ := len_sim c.1.1 c.1.2.1 (fun z => (s.2 z).1) g.1 (fun z => ⟨(d.2.2.2 z).1, by have x1 := (d.2.2.2 z).2.1; have x2 := (g.2.2.2.1 z).1.2; exact Int.le_trans x1 x2⟩)
  obtain ⟨t1, t2, -⟩ := ten_sim l1 s.1.1 hR.1.1.2.1 l2 l3 d.1 hC.1.1
  unfold inC
  generalize sX8_tensionAt S k (S.1 0 4) = t at t1 t2 ⊢
  obtain ⟨R2, C2, D2, I2, k2, n2, m2, q2⟩ := count_sim hI hk hR hC hB hD hbud hs t t1 t2 _ rfl
  show (Rel (if _ then _ else _) _ ∧ _)
  simp only []
  generalize sX3_countSlack_S (sJ S 4 k (sJ9_max_f86c9 (S.2 4 k) t)) k t = P2 at R2 C2 D2 I2 k2 n2 m2 q2 ⊢
  obtain ⟨f1, f2, f3, f4, f5⟩ := relM_facts I2 R2 (by rw [m2, q2]; exact hbud)
  have hm : cM P2 ≤ 512 := I2.2.2.1.2
  have mk := marks_sim (by omega) D2 R2 k n (by rw [n2]; exact hk) hm (cM S) (cM P2) (Nat.le_refl _)
  rw [m2] at mk
  have mk1 : sX12_marksIn (KX12_watch_123_S T k) k (mM (KX12_watch_123_S T k)) = sX3_marksIn P2 k n (cM S) := by
    unfold sX12_marksIn sX3_marksIn sX5_countBetween
    rw [f4, m2]
    exact mk.1
  have mk2 : 0 ≤ (sX3_marksIn P2 k n (cM S)).toInt := by
    have := mk.2.1
    rw [mk.1] at this
    exact this
  have st := strength_sim R2.1 C2 _ mk2
  have h49 : (KX12_watch_123_S T k).2 11 49 = 1 ↔ P2.1 0 2 = 1 := by
    rw [R2.2.1.2.1]
    exact i2z_eq (y := 1)
  have eW : sX12_watch_S T k = if t ≤ sX10_strengthWith P2 (sX3_marksIn P2 k n (cM S)) then KX12_watch_123_S T k else (if (KX12_watch_123_S T k).2 11 49 = 1 then KX12_watch_123_S T k else sX12_breaks_S (KX12_watch_123_S T k) (nI k)) := by
    rw [← st]
    unfold sX12_watch_S
    rw [mk1, t1]
    by_cases z : sX3_marksIn P2 k n (cM S) ≤ 0
    · rw [if_pos z, if_pos z]
    · rw [if_neg z, if_neg z]
  rw [eW]
  by_cases h1 : t ≤ sX10_strengthWith P2 (sX3_marksIn P2 k n (cM S))
  · rw [if_pos h1, if_pos h1]
    exact ⟨R2, C2, D2, I2, k2, n2, m2, q2⟩
  · rw [if_neg h1, if_neg h1]
    by_cases h2 : P2.1 0 2 = 1
    · rw [if_pos h2, if_pos (h49.mpr h2)]
      exact ⟨R2, C2, D2, I2, k2, n2, m2, q2⟩
    · rw [if_neg h2, if_neg (fun z => h2 (h49.mp z))]
      have q : QC (sI (sI P2 0 2 1) 0 3 (nI k)) (sX3_breakWeb_S P2 (nI k)) := QC_add (sI (sI P2 0 2 1) 0 3 (nI k)) (P2.1 0 1) 1 (nI k) (cO P2) (cC P2)
      exact ⟨break_rel I2 R2 f5 (nI k), RngC.evS q C2, RngD.evS q ((D2.st 1).brk (nI k)), inv_X3_breakWeb P2 (nI k) I2, fun i hi => (q.2 7 i (by omega)).trans (k2 i hi), q.cN_eq.trans n2, q.cM_eq.trans m2, q.cQ_eq.trans q2⟩
