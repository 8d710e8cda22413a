/-! ===== forecast and outlook ===== -/
theorem aside2 (T : St) : ∀ k : Nat, (LX12_putAside_2_S T k).1 = T.1 ∧ (∀ a b, ¬ a = 12 → (LX12_putAside_2_S T k).2 a b = T.2 a b) ∧ (∀ b, b < k → (LX12_putAside_2_S T k).2 12 b = T.2 11 b) := by
  intro k
  induction k with
  | zero => exact ⟨rfl, fun _ _ _ => rfl, fun b h => by omega⟩
  | succ k ih =>
    refine ⟨ih.1, fun a b h => ?_, fun b h => ?_⟩
    · unfold LX12_putAside_2_S
      rw [rJ_sk _ _ _ _ _ _ (by omega), ih.2.1 a b h]
    · unfold LX12_putAside_2_S
      by_cases c : b = k
      · rw [c, rJ_at, ih.2.1 11 k (by omega)]
      · rw [rJ_sk _ _ _ _ _ _ (by omega), ih.2.2 b (by omega)]
theorem aside28 (T : St) : ∀ k : Nat, (LX12_putAside_28_S T k).1 = T.1 ∧ (∀ a b, ¬ a = 12 → ¬ a = 14 → (LX12_putAside_28_S T k).2 a b = T.2 a b) ∧ (∀ b, b < 64 → (LX12_putAside_28_S T k).2 12 b = T.2 11 b) ∧ (∀ b, b < k → (LX12_putAside_28_S T k).2 14 b = T.2 13 b) := by
  have h0 := aside2 T 64
  intro k
  induction k with
  | zero => exact ⟨h0.1, fun a b h _ => h0.2.1 a b h, h0.2.2, fun b h => by omega⟩
  | succ k ih =>
    refine ⟨ih.1, fun a b h1 h2 => ?_, fun b h => ?_, fun b h => ?_⟩
    · unfold LX12_putAside_28_S
      rw [rJ_sk _ _ _ _ _ _ (by omega), ih.2.1 a b h1 h2]
    · unfold LX12_putAside_28_S
      rw [rJ_sk _ _ _ _ _ _ (by omega), ih.2.2.1 b h]
    · unfold LX12_putAside_28_S
      by_cases c : b = k
      · rw [c, rJ_at, ih.2.1 13 k (by omega) (by omega)]
      · rw [rJ_sk _ _ _ _ _ _ (by omega), ih.2.2.2 b (by omega)]
theorem aside54 (T : St) : ∀ k : Nat, (LX12_putAside_54_S T k).1 = T.1 ∧ (∀ a b, ¬ a = 12 → ¬ a = 14 → ¬ a = 16 → (LX12_putAside_54_S T k).2 a b = T.2 a b) ∧ (∀ b, b < 64 → (LX12_putAside_54_S T k).2 12 b = T.2 11 b) ∧ (∀ b, b < 90 → (LX12_putAside_54_S T k).2 14 b = T.2 13 b) ∧ (∀ b, b < k → (LX12_putAside_54_S T k).2 16 b = T.2 15 b) := by
  have h0 := aside28 T 90
  intro k
  induction k with
  | zero => exact ⟨h0.1, fun a b h1 h2 _ => h0.2.1 a b h1 h2, h0.2.2.1, h0.2.2.2, fun b h => by omega⟩
  | succ k ih =>
    refine ⟨ih.1, fun a b h1 h2 h3 => ?_, fun b h => ?_, fun b h => ?_, fun b h => ?_⟩
    · unfold LX12_putAside_54_S
      rw [rJ_sk _ _ _ _ _ _ (by omega), ih.2.1 a b h1 h2 h3]
    · unfold LX12_putAside_54_S
      rw [rJ_sk _ _ _ _ _ _ (by omega), ih.2.2.1 b h]
    · unfold LX12_putAside_54_S
      rw [rJ_sk _ _ _ _ _ _ (by omega), ih.2.2.2.1 b h]
    · unfold LX12_putAside_54_S
      by_cases c : b = k
      · rw [c, rJ_at, ih.2.1 15 k (by omega) (by omega) (by omega)]
      · rw [rJ_sk _ _ _ _ _ _ (by omega), ih.2.2.2.2 b (by omega)]
theorem back2 (T : St) : ∀ k : Nat, (LX12_takeBack_2_S T k).1 = T.1 ∧ (∀ a b, ¬ a = 11 → (LX12_takeBack_2_S T k).2 a b = T.2 a b) ∧ (∀ b, b < k → (LX12_takeBack_2_S T k).2 11 b = T.2 12 b) := by
  intro k
  induction k with
  | zero => exact ⟨rfl, fun _ _ _ => rfl, fun b h => by omega⟩
  | succ k ih =>
    refine ⟨ih.1, fun a b h => ?_, fun b h => ?_⟩
    · unfold LX12_takeBack_2_S
      rw [rJ_sk _ _ _ _ _ _ (by omega), ih.2.1 a b h]
    · unfold LX12_takeBack_2_S
      by_cases c : b = k
      · rw [c, rJ_at, ih.2.1 12 k (by omega)]
      · rw [rJ_sk _ _ _ _ _ _ (by omega), ih.2.2 b (by omega)]
theorem back28 (T : St) : ∀ k : Nat, (LX12_takeBack_28_S T k).1 = T.1 ∧ (∀ a b, ¬ a = 11 → ¬ a = 13 → (LX12_takeBack_28_S T k).2 a b = T.2 a b) ∧ (∀ b, b < 64 → (LX12_takeBack_28_S T k).2 11 b = T.2 12 b) ∧ (∀ b, b < k → (LX12_takeBack_28_S T k).2 13 b = T.2 14 b) := by
  have h0 := back2 T 64
  intro k
  induction k with
  | zero => exact ⟨h0.1, fun a b h _ => h0.2.1 a b h, h0.2.2, fun b h => by omega⟩
  | succ k ih =>
    refine ⟨ih.1, fun a b h1 h2 => ?_, fun b h => ?_, fun b h => ?_⟩
    · unfold LX12_takeBack_28_S
      rw [rJ_sk _ _ _ _ _ _ (by omega), ih.2.1 a b h1 h2]
    · unfold LX12_takeBack_28_S
      rw [rJ_sk _ _ _ _ _ _ (by omega), ih.2.2.1 b h]
    · unfold LX12_takeBack_28_S
      by_cases c : b = k
      · rw [c, rJ_at, ih.2.1 14 k (by omega) (by omega)]
      · rw [rJ_sk _ _ _ _ _ _ (by omega), ih.2.2.2 b (by omega)]
theorem back54 (T : St) : ∀ k : Nat, (LX12_takeBack_54_S T k).1 = T.1 ∧ (∀ a b, ¬ a = 11 → ¬ a = 13 → ¬ a = 15 → (LX12_takeBack_54_S T k).2 a b = T.2 a b) ∧ (∀ b, b < 64 → (LX12_takeBack_54_S T k).2 11 b = T.2 12 b) ∧ (∀ b, b < 90 → (LX12_takeBack_54_S T k).2 13 b = T.2 14 b) ∧ (∀ b, b < k → (LX12_takeBack_54_S T k).2 15 b = T.2 16 b) := by
  have h0 := back28 T 90
  intro k
  induction k with
  | zero => exact ⟨h0.1, fun a b h1 h2 _ => h0.2.1 a b h1 h2, h0.2.2.1, h0.2.2.2, fun b h => by omega⟩
  | succ k ih =>
    refine ⟨ih.1, fun a b h1 h2 h3 => ?_, fun b h => ?_, fun b h => ?_, fun b h => ?_⟩
    · unfold LX12_takeBack_54_S
      rw [rJ_sk _ _ _ _ _ _ (by omega), ih.2.1 a b h1 h2 h3]
    · unfold LX12_takeBack_54_S
      rw [rJ_sk _ _ _ _ _ _ (by omega), ih.2.2.1 b h]
    · unfold LX12_takeBack_54_S
      rw [rJ_sk _ _ _ _ _ _ (by omega), ih.2.2.2.1 b h]
    · unfold LX12_takeBack_54_S
      by_cases c : b = k
      · rw [c, rJ_at, ih.2.1 16 k (by omega) (by omega) (by omega)]
      · rw [rJ_sk _ _ _ _ _ _ (by omega), ih.2.2.2.2 b (by omega)]
/-- the class's trial with the line's own events, tick by tick -/
def hybR (S S2 : St) : Nat → St
  | 0 => hyb S S2
  | k + 1 => sX3_tick_S (hybR S S2 k)
/-- the reference's trial, tick by tick -/
def asR (T : St) : Nat → St
  | 0 => sX12_putAside_S T
  | k + 1 => if (asR T k).2 11 49 = 0 then sX12_tick_S (asR T k) else asR T k
theorem fore_asR (T : St) (j t : Nat) : ∀ k, LX12_forecast_51_S T j t k = asR T k := by
  intro k
  induction k with
  | zero => rfl
  | succ k ih =>
    unfold LX12_forecast_51_S asR
    rw [ih]
theorem out_asR (T : St) (t : Nat) : ∀ k, LX12_outlook_42_S T t k = asR T k := by
  intro k
  induction k with
  | zero => rfl
  | succ k ih =>
    unfold LX12_outlook_42_S asR
    rw [ih]
theorem fore_hyb (S S2 : St) (j t : Nat) : ∀ k, QC (LX11_forecast_75_S S S2 j t k) (hybR S S2 k) := by
  intro k
  induction k with
  | zero => exact hyb_QC S S2
  | succ k ih => exact ih.tick
theorem out_hyb (S S2 : St) (t : Nat) : ∀ k, QC (LX11_outlook_45_S S S2 t k) (hybR S S2 k) := by
  intro k
  induction k with
  | zero => exact hyb_QC S S2
  | succ k ih => exact ih.tick
theorem J.aside {S T : St} {B : Int} {m : Nat} (h : J S T B m) : J S (sX12_putAside_S T) B m := by
  have a := aside54 T 512
  exact h.same a.1 (fun x b hx => a.2.1 x b (by omega) (by omega) (by omega)) (fun b _ => a.2.1 11 b (by omega) (by omega) (by omega)) (fun b _ => a.2.1 13 b (by omega) (by omega) (by omega)) (fun b _ => a.2.1 15 b (by omega) (by omega) (by omega))
theorem J.trial {S T : St} {B : Int} {m : Nat} (h : J S T B m) (S2 : St) (t : Nat) (hB : 0 ≤ B ∧ B + t ≤ 199999) (hm : m ≤ 512) : ∀ k, k ≤ t → J (hybR S S2 k) (asR T k) (B + k) m ∧ (asR T k).1 = T.1 ∧ (∀ a b, a ≤ 10 ∨ a = 12 ∨ a = 14 ∨ a = 16 → (asR T k).2 a b = (sX12_putAside_S T).2 a b) := by
  intro k
  induction k with
  | zero =>
    intro _
    exact ⟨(hyb_J h.aside S2).mono (by omega) (Nat.le_refl _), (aside54 T 512).1, fun _ _ _ => rfl⟩
  | succ k ih =>
    intro hk
    obtain ⟨i1, i2, i3⟩ := ih (by omega)
    have g := (i1.tick (by omega) hm).1
    have e : B + ((k + 1 : Nat) : Int) = B + (k : Int) + 1 := by omega
    rw [e]
    refine ⟨g, ?_, fun a b ha => ?_⟩
    · show (if (asR T k).2 11 49 = 0 then sX12_tick_S (asR T k) else asR T k).1 = _
      split
      · rw [I_X12_tick, i2]
      · exact i2
    · show (if (asR T k).2 11 49 = 0 then sX12_tick_S (asR T k) else asR T k).2 a b = _
      split
      · rw [frozen_tick (relM_facts i1.1 i1.2.1 (Nat.le_trans i1.2.2.2.2 hm)).1 a b (by omega) (by omega) (by omega) (by omega), i3 a b ha]
      · exact i3 a b ha
theorem J.trialOK {S T : St} {B : Int} {m : Nat} (h : J S T B m) (S2 : St) (t : Nat) (hB : 0 ≤ B ∧ B + t ≤ 199999) (hm : m ≤ 512) (k : Nat) (hk : k < t) : (asR T k).2 11 49 = 0 → OKT (asR T k) := ((h.trial S2 t hB hm k (by omega)).1.tick (by omega) hm).2
theorem J.back {S T : St} {B : Int} {m : Nat} (h : J S T B m) (t : Nat) (hB : 0 ≤ B ∧ B + t ≤ 199999) (hm : m ≤ 512) : J S (sX12_takeBack_S (asR T t)) B m := by
  obtain ⟨-, g1, g2⟩ := h.trial S t hB hm t (Nat.le_refl _)
  have a := aside54 T 512
  have b := back54 (asR T t) 512
  refine h.same (b.1.trans g1) ?_ ?_ ?_ ?_
  · intro x y hx
    exact (b.2.1 x y (by omega) (by omega) (by omega)).trans ((g2 x y (Or.inl hx)).trans (a.2.1 x y (by omega) (by omega) (by omega)))
  · intro y hy
    exact (b.2.2.1 y hy).trans ((g2 12 y (by omega)).trans (a.2.2.1 y hy))
  · intro y hy
    exact (b.2.2.2.1 y hy).trans ((g2 14 y (by omega)).trans (a.2.2.2.1 y hy))
  · intro y hy
    exact (b.2.2.2.2 y hy).trans ((g2 16 y (by omega)).trans (a.2.2.2.2 y hy))
theorem J.cN_T {S T : St} {B : Int} {m : Nat} (h : J S T B m) : cN T = cN S := by
  unfold cN
  rw [h.2.1.1.1.1]
theorem max_le (p q : Int64) : sJ9_max_f86c9 p q = if q ≤ p then p else q := by
  unfold sJ9_max_f86c9
  by_cases h : p < q
  · rw [if_pos h, if_neg (Int64.not_le.mpr h)]
  · rw [if_neg h, if_pos (Int64.not_lt.mp h)]
theorem op_forecast {S T : St} {B : Int} {m : Nat} (h : J S T B m) (S2 : St) (j : Nat) (hj : j < cN S) (t : Nat) (hB : 0 ≤ B ∧ B + t ≤ 199999) (hm : m ≤ 512) : sX11_forecast S S2 j t = sX12_forecast T j t ∧ J S (sX12_forecast_S T j t) B m ∧ (∀ k, k < t → (LX12_forecast_51_S T j t k).2 11 49 = 0 → OKT (LX12_forecast_51_S T j t k)) := by
  have hs := h.state
  refine ⟨?_, ?_, fun k hk => ?_⟩
  · unfold sX11_forecast sX12_forecast
    by_cases h2 : S.1 0 2 = 0
    · rw [if_pos h2, if_pos (hs.mpr h2)]
      have tr := h.trial S2 t hB hm
      have span : ∀ k, k ≤ t → sX12_tension (asR T k) j = sX8_tensionAt (LX11_forecast_75_S S S2 j t k) j ((LX11_forecast_75_S S S2 j t k).1 0 4) := by
        intro k hk
        obtain ⟨i1, i2, i3⟩ := tr k hk
        have n : cN (hybR S S2 k) = cN S := by rw [← i1.cN_T, ← h.cN_T]; unfold cN; rw [i2]
        have q := fore_hyb S S2 j t k
        rw [(i1.span j (by rw [n]; exact hj)).2.1, q.ten, q.i 0 4 (by omega)]
      have main : ∀ k, k ≤ t → LX11_forecast_75_3 S S2 j t k = LX12_forecast_51_3 T j t k ∧ (¬ (asR T k).2 11 49 = 0 → sX12_tension (asR T k) j ≤ LX12_forecast_51_3 T j t k) := by
        intro k
        induction k with
        | zero =>
          intro _
          refine ⟨rfl, fun z => absurd ?_ z⟩
          show (sX12_putAside_S T).2 11 49 = 0
          rw [show (sX12_putAside_S T).2 11 49 = T.2 11 49 from (aside54 T 512).2.1 11 49 (by omega) (by omega) (by omega)]
          exact hs.mpr h2
        | succ k ih =>
          intro hk
          obtain ⟨e1, e2⟩ := ih (by omega)
          have sp := span (k + 1) hk
          have c1 : LX11_forecast_75_3 S S2 j t (k + 1) = sJ9_max_f86c9 (LX11_forecast_75_3 S S2 j t k) (sX12_tension (asR T (k + 1)) j) := by rw [sp]; rfl
          have c2 : LX12_forecast_51_3 T j t (k + 1) = (if (asR T k).2 11 49 = 0 then (if (sX12_tension (sX12_tick_S (asR T k)) j) ≤ (LX12_forecast_51_3 T j t k) then (LX12_forecast_51_3 T j t k) else (sX12_tension (sX12_tick_S (asR T k)) j)) else (LX12_forecast_51_3 T j t k)) := by rw [← fore_asR T j t k]; rfl
          by_cases hz : (asR T k).2 11 49 = 0
          · have c3 : asR T (k + 1) = sX12_tick_S (asR T k) := if_pos hz
            rw [if_pos hz] at c2
            rw [c1, c2, c3, max_le, e1]
            refine ⟨rfl, fun _ => ?_⟩
            by_cases hc : sX12_tension (sX12_tick_S (asR T k)) j ≤ LX12_forecast_51_3 T j t k
            · rw [if_pos hc]
              exact hc
            · rw [if_neg hc]
              exact Int64.le_refl _
          · have c3 : asR T (k + 1) = asR T k := if_neg hz
            rw [if_neg hz] at c2
            have e3 := e2 hz
            rw [c1, c2, c3, max_le, e1, if_pos e3]
            exact ⟨rfl, fun _ => e3⟩
      exact (main t (Nat.le_refl _)).1
    · rw [if_neg h2, if_neg (fun z => h2 (hs.mp z))]
      exact (h.span j hj).2.1.symm
  · unfold sX12_forecast_S
    split
    · rw [fore_asR]
      exact h.back t hB hm
    · exact h
  · rw [fore_asR]
    exact h.trialOK S2 t hB hm k hk
theorem inv_forecast {S S2 : St} (hI : Inv S) (hJ : Inv S2) (j t : Nat) : Inv (sX11_forecast_S S S2 j t) := by
  unfold sX11_forecast_S
  split
  · exact invL_forecast S S2 j t t hI hJ
  · exact hJ
theorem inv_outlook {S S2 : St} (hI : Inv S) (hJ : Inv S2) (t : Nat) : Inv (sX11_outlook_S S S2 t) := by
  have g : ∀ k, Inv (LX11_outlook_45_S S S2 t k) := by
    intro k
    induction k with
    | zero => exact inv_X3_copyFrom _ _ hI hJ
    | succ k ih => exact inv_X3_tick _ ih
  have x : ∀ n k, Inv (xOutS (LX11_outlook_45_S S S2 t) n k) := by
    intro n
    induction n with
    | zero => intro k; exact g k
    | succ n ih =>
      intro k
      unfold xOutS
      split
      · exact ih _
      · exact g _
  unfold sX11_outlook_S
  split
  · exact x t 0
  · exact hJ
theorem stop_eq (f : Nat → St) (g : Nat → Int64) (u : Nat → Int32) (n : Nat) : ∀ r k, k + r = n → (∀ i, i ≤ n → (f i).1 0 2 = u i ∧ (g i = 0 ↔ u i = 0)) → (∀ i, i < n → ¬ u i = 0 → u (i + 1) = u i) → u k = 0 → xOutR f r k = if u n = 0 then 0 else nI (10 * xStop g r k) + u n := by
  intro r
  induction r with
  | zero =>
    intro k hk hf hst h0
    have : k = n := by omega
    subst this
    rw [if_pos h0]
    rfl
  | succ r ih =>
    intro k hk hf hst h0
    unfold xOutR xStop
    rw [(hf (k + 1) (by omega)).1, if_pos ((hf k (by omega)).2.mpr h0)]
    by_cases c : u (k + 1) = 0
    · rw [if_pos c]
      exact ih (k + 1) (by omega) hf hst c
    · rw [if_neg c]
      have st : ∀ d, k + 1 + d ≤ n → u (k + 1 + d) = u (k + 1) := by
        intro d
        induction d with
        | zero => intro _; rfl
        | succ d ihd =>
          intro hd
          have e := ihd (by omega)
          have := hst (k + 1 + d) (by omega) (by rw [e]; exact c)
          rw [show k + 1 + (d + 1) = k + 1 + d + 1 from rfl, this, e]
      have en : u n = u (k + 1) := by rw [show n = k + 1 + r by omega]; exact st r (by omega)
      have xs : xStop g r (k + 1) = k + 1 := by
        cases r with
        | zero => rfl
        | succ r =>
          unfold xStop
          rw [if_neg (fun z => c ((hf (k + 1) (by omega)).2.mp z))]
      rw [en, if_neg c, xs]
theorem op_outlook {S T : St} {B : Int} {m : Nat} (h : J S T B m) (S2 : St) (t : Nat) (hB : 0 ≤ B ∧ B + t ≤ 199999) (hm : m ≤ 512) : sX11_outlook S S2 t = sX12_outlook T t ∧ J S (sX12_outlook_S T t) B m ∧ (∀ k, k < t → (LX12_outlook_42_S T t k).2 11 49 = 0 → OKT (LX12_outlook_42_S T t k)) := by
  have hs := h.state
  refine ⟨?_, ?_, fun k hk => ?_⟩
  · unfold sX11_outlook sX12_outlook
    by_cases h2 : S.1 0 2 = 0
    · rw [if_pos h2, if_pos (hs.mpr h2)]
      have tr := h.trial S2 t hB hm
      have e := stop_eq (LX11_outlook_45_S S S2 t) (fun i => (LX12_outlook_42_S T t i).2 11 49) (fun i => (hybR S S2 i).1 0 2) t t 0 (by omega)
        (fun i hi => ⟨((out_hyb S S2 t i).i 0 2 (by omega)).symm, by
          show (LX12_outlook_42_S T t i).2 11 49 = 0 ↔ _
          rw [out_asR]
          exact (tr i hi).1.state⟩)
        (fun i hi z => by
          show (sX3_tick_S (hybR S S2 i)).1 0 2 = _
          unfold sX3_tick_S
          rw [if_neg z])
        (by
          have := (tr 0 (by omega)).1.state
          refine this.mp ?_
          show (sX12_putAside_S T).2 11 49 = 0
          rw [show (sX12_putAside_S T).2 11 49 = T.2 11 49 from (aside54 T 512).2.1 11 49 (by omega) (by omega) (by omega)]
          exact hs.mpr h2)
      rw [e]
      have g := (tr t (Nat.le_refl _)).1.2.1.2.1.2.1
      have g2 : ((LX12_outlook_42_S T t t).2 11 49).toInt32 = (hybR S S2 t).1 0 2 := by rw [out_asR, g, i2z2i]
      rw [g2]
    · rw [if_neg h2, if_neg (fun z => h2 (hs.mp z)), h.2.1.2.1.2.1, i2z2i]
  · unfold sX12_outlook_S
    split
    · rw [out_asR]
      exact h.back t hB hm
    · exact h
  · rw [out_asR]
    exact h.trialOK S2 t hB hm k hk
