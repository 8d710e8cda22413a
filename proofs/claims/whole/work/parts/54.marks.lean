/-! ===== the marks ===== -/
theorem mSum_mono {S : St} {n : Nat} (h : ∀ i, i < n → 0 < (S.2 3 i).toInt) : ∀ d k : Nat, k + d = n → 0 ≤ mSum S k ∧ mSum S k ≤ mSum S n := by
  intro d
  induction d with
  | zero =>
    intro k hk
    have : k = n := by omega
    subst this
    exact ⟨(mSum_le k h).1, Int.le_refl _⟩
  | succ d ih =>
    intro k hk
    have g := ih (k + 1) (by omega)
    have e : mSum S (k + 1) = mSum S k + (S.2 3 k).toInt := rfl
    have p := h k (by omega)
    exact ⟨(mSum_le k (fun i hi => h i (by omega))).1, by omega⟩
theorem place_int {S : St} {B : Int} (hB : 0 ≤ B ∧ B ≤ 200000) (hD : RngD S B) (r n : Nat) : ∀ k, k ≤ cN S → (LX3_placeAtRoller_13_2 S r n k).toInt = (S.2 5 0).toInt - mSum S k := by
  intro k
  induction k with
  | zero => intro _; show (S.2 5 0).toInt = _ - 0; omega
  | succ k ih =>
    intro hk
    have m1 := mSum_mono (fun i hi => (hD.2.1 i hi).1) (cN S - k) k (by omega)
    have m2 := mSum_mono (fun i hi => (hD.2.1 i hi).1) (cN S - (k + 1)) (k + 1) (by omega)
    have e : mSum S (k + 1) = mSum S k + (S.2 3 k).toInt := rfl
    have b := hD.2.2.1
    have p := hD.1.2.2.2.1
    show (LX3_placeAtRoller_13_2 S r n k - S.2 3 k).toInt = _
    rw [zsub (by rw [ih (by omega)]; omega), ih (by omega)]
    omega
theorem mat_int {S T : St} {B : Int} (hB : 0 ≤ B ∧ B ≤ 200000) (hD : RngD S B) (hR : RelS S T) (r : Nat) : ∀ k, k ≤ cN S → (LX12_materialTo_5_2 T r k).toInt = mSum S k := by
  intro k
  induction k with
  | zero => intro _; rfl
  | succ k ih =>
    intro hk
    have m1 := mSum_mono (fun i hi => (hD.2.1 i hi).1) (cN S - k) k (by omega)
    have m2 := mSum_mono (fun i hi => (hD.2.1 i hi).1) (cN S - (k + 1)) (k + 1) (by omega)
    have e : mSum S (k + 1) = mSum S k + (S.2 3 k).toInt := rfl
    have b := hD.2.2.1
    show (LX12_materialTo_5_2 T r k + T.2 11 (8 * k)).toInt = _
    rw [(hR k (by omega)).1.1, zadd (by rw [ih (by omega)]; omega), ih (by omega)]
    rfl
/-- where a mark is, on both sides -/
theorem mark_sim {S T : St} {B : Int} (hB : 0 ≤ B ∧ B ≤ 200000) (hD : RngD S B) (hR : RelS S T) (h61 : T.2 11 61 = S.2 5 0) (hM : RelM S T) (r n : Nat) (hr : r ≤ cN S) (k : Nat) (hk : k < cM S) : T.2 11 61 - T.2 15 k < sX12_materialTo T r ↔ sX3_placeAtRoller S r n < S.2 1 k := by
  have m1 := mSum_mono (fun i hi => (hD.2.1 i hi).1) (cN S - r) r (by omega)
  have b := hD.2.2.1
  have p := hD.1.2.2.2.1
  have d := hD.2.2.2.1 k hk
  unfold sX12_materialTo sX3_placeAtRoller
  rw [h61, hM.2 k hk, zlt, zlt, mat_int hB hD hR r r hr, place_int hB hD r n r hr, zsub (by omega)]
  omega
theorem gone_sim {f g : Nat → Int64} {x w : Int64} {m : Nat} (h : ∀ k, k < m → (g k < w ↔ x < f k)) : ∀ n k : Nat, k + n ≤ m → xGone g w n k = xLead f x n k := by
  intro n
  induction n with
  | zero => intro k _; rfl
  | succ n ih =>
    intro k hk
    unfold xGone xLead
    have e := h k (by omega)
    by_cases z : x < f k
    · rw [if_pos z, if_pos (e.mpr z)]
    · rw [if_neg z, if_neg (fun y => z (e.mp y))]
      exact ih (k + 1) (by omega)
theorem rem_row (T : St) (E : Nat) : ∀ k j : Nat, (LX12_removeMarks_64_S T E k).2 15 j = if j < k then T.2 15 (j + E) else T.2 15 j := by
  intro k
  induction k with
  | zero =>
    intro j
    rw [if_neg (by omega)]
    exact rJ_sk _ _ _ _ _ _ (by omega)
  | succ k ih =>
    intro j
    show (sJ (LX12_removeMarks_64_S T E k) 15 k ((LX12_removeMarks_64_S T E k).2 15 (k + E))).2 15 j = _
    by_cases z : j = k
    · subst z
      rw [rJ_at, ih, if_neg (by omega), if_pos (by omega)]
    · rw [rJ_ne _ _ _ _ _ z, ih]
      by_cases y : j < k
      · rw [if_pos y, if_pos (by omega)]
      · rw [if_neg y, if_neg (by omega)]
/-- the marks that have left go, on both sides -/
theorem drop_sim {S T : St} {B : Int} (hB : 0 ≤ B ∧ B ≤ 200000) (hI : Inv S) (hR : Rel S T) (hC : RngC S) (hD : RngD S B) (hbud : cM S + cQ S ≤ 512) (S' : St) (hS' : S' = sX5_dropUpTo_S S (sX3_placeAtRoller S (cN S) (cN S)) (cM S)) :
    Rel S' (sX12_removeMarks_S T) ∧ RngC S' ∧ RngD S' B ∧ cN S' = cN S ∧ cM S' + cQ S' ≤ cM S + cQ S ∧ S'.1 7 = S.1 7 := by
  obtain ⟨f1, f2, f3, f4, f5⟩ := relM_facts hI hR hbud
  obtain ⟨rc, rt, rq, rs, rm, re, rb⟩ := hR
  have hq : cQ S ≤ 4 := hI.2.1.2
  have hn : cN S ≤ 6 := hI.1.2.2
  have hm : cM S ≤ 512 := hI.2.2.1.2
  have hE : xGone (fun i => T.2 11 61 - T.2 15 i) (sX12_materialTo T (cN S)) (cM S) 0 = xLead (S.2 1) (sX3_placeAtRoller S (cN S) (cN S)) (cM S) 0 :=
    gone_sim (m := cM S) (fun k hk => mark_sim hB hD rs rt.2.2.2.2.2.2 rm (cN S) (cN S) (Nat.le_refl _) k hk) (cM S) 0 (by omega)
  have hT' : sX12_removeMarks_S T = LX12_removeMarks_64_S T (xLead (S.2 1) (sX3_placeAtRoller S (cN S) (cN S)) (cM S) 0) (cM S - xLead (S.2 1) (sX3_placeAtRoller S (cN S) (cN S)) (cM S) 0) := by
    unfold sX12_removeMarks_S
    rw [f2, f4, hE]
  have hle := (xLead_le (S.2 1) (sX3_placeAtRoller S (cN S) (cN S)) (cM S) 0).2
  unfold sX5_dropUpTo_S at hS'
  rw [hT']
  generalize xLead (S.2 1) (sX3_placeAtRoller S (cN S) (cN S)) (cM S) 0 = E at hle hS'
  have cm' : cM S' = cM S - E := cK (by subst hS'; rfl) (by omega)
  have cq' : cQ S' = cQ S := by subst hS'; rfl
  have cn' : cN S' = cN S := by subst hS'; rfl
  have row : ∀ k, k < cM S - E → S'.2 1 k = S.2 1 (k + E) := fun k hk => by
    subst hS'
    show va_cpy (S.2 1) (S.2 1) E 0 (cM S - E) k = _
    unfold va_cpy
    rw [if_pos (by omega), show E + (k - 0) = k + E by omega]
  have t1 : (LX12_removeMarks_64_S T E (cM S - E)).1 = T.1 := by funext a b; exact L1_removeMarks T E _ a b
  have t2 : ∀ a b, ¬ a = 15 → (LX12_removeMarks_64_S T E (cM S - E)).2 a b = (sJ T 11 62 (lN (cM S - E))).2 a b := fun a b h => by rw [L2_removeMarks T E _ a b h, f4]
  have t15 := rem_row T E (cM S - E)
  generalize LX12_removeMarks_64_S T E (cM S - E) = T' at t1 t2 t15 ⊢
  have t3 : ∀ a b, ¬ a = 15 → ¬ (a = 11 ∧ b = 62) → T'.2 a b = T.2 a b := fun a b h1 h2 => by rw [t2 a b h1, rJ_sk _ _ _ _ _ _ h2]
  have rc' : RelC S' T := by subst hS'; exact rc
  have rt' : RelT S' T := by subst hS'; exact rt
  have rq' : RelQ S' T := by subst hS'; exact rq
  have rs' : RelS S' T := by subst hS'; exact rs
  have re' : RelE S' T := by subst hS'; exact re
  have rb' : RelB S' T := by subst hS'; exact rb
  have hC' : RngC S' := by subst hS'; exact hC
  refine ⟨⟨RelC.congr rfl t1 (fun a h1 _ h3 _ => by funext b; exact t3 a b h3 (by omega)) rc', ?_, ?_, ?_, ?_, ?_, ?_⟩, hC', ⟨?_, ?_, ?_, ?_, ?_⟩, cn', by rw [cm', cq']; omega, by subst hS'; rfl⟩
  · unfold RelT
    rw [t3 11 48 (by omega) (by omega), t3 11 49 (by omega) (by omega), t3 11 50 (by omega) (by omega), t3 11 51 (by omega) (by omega), t3 11 57 (by omega) (by omega), t3 11 58 (by omega) (by omega), t3 11 61 (by omega) (by omega)]
    exact rt'
  · refine ⟨by rw [t3 _ _ (by omega) (by omega)]; exact rq'.1, fun j hj => ?_⟩
    have hj4 : j < 4 := by rw [cq'] at hj; omega
    rw [t3 _ _ (by omega) (by omega)]
    exact rq'.2 j hj
  · intro i hi
    have g := rs' i hi
    rw [cn'] at hi
    rw [t3 11 (8 * i) (by omega) (by omega), t3 11 (8 * i + 1) (by omega) (by omega), t3 11 (8 * i + 2) (by omega) (by omega), t3 11 (8 * i + 3) (by omega) (by omega), t3 11 (8 * i + 4) (by omega) (by omega), t3 11 (8 * i + 5) (by omega) (by omega), t3 11 (8 * i + 6) (by omega) (by omega)]
    exact g
  · refine ⟨by rw [t2 _ _ (by omega), rJ_at, cm'], fun k hk => ?_⟩
    rw [cm'] at hk
    rw [t15, if_pos hk, row k hk]
    exact rm.2 (k + E) (by omega)
  · refine ⟨by rw [t3 _ _ (by omega) (by omega)]; exact re'.1, fun j hj => ?_⟩
    rw [t3 _ _ (by omega) (by omega), t3 _ _ (by omega) (by omega), t3 _ _ (by omega) (by omega)]
    exact re'.2 j hj
  · unfold RelB
    rw [t3 11 59 (by omega) (by omega), t3 11 60 (by omega) (by omega)]
    exact rb'
  · have g := hD.1
    subst hS'
    exact g
  · have g := hD.2.1
    subst hS'
    exact g
  · rw [cn', mSum_congr (S := S) (S' := S') (by subst hS'; rfl)]
    exact hD.2.2.1
  · intro k hk
    rw [cm'] at hk
    rw [row k hk]
    exact hD.2.2.2.1 (k + E) (by omega)
  · have g := hD.2.2.2.2
    subst hS'
    exact g
