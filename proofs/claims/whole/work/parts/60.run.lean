/-! ===== run, value, the small answers ===== -/
theorem J.state {S T : St} {B : Int} {m : Nat} (h : J S T B m) : T.2 11 49 = 0 ↔ S.1 0 2 = 0 := by
  obtain ⟨-, hR, -⟩ := h
  rw [hR.2.1.2.1]
  exact i2z_eq (y := 0)
theorem RngD.mono {S : St} {B B' : Int} (h : RngD S B) (hB : B ≤ B') : RngD S B' := by
  obtain ⟨n, hn⟩ : ∃ n : Nat, B' = B + n := ⟨(B' - B).toNat, by omega⟩
  subst hn
  clear hB
  induction n with
  | zero => simpa using h
  | succ n ih =>
    have g := ih.up
    have e : B + ((n + 1 : Nat) : Int) = B + (n : Int) + 1 := by omega
    rw [e]
    exact g
theorem J.mono {S T : St} {B B' : Int} {m m' : Nat} (h : J S T B m) (hB : B ≤ B') (hm : m ≤ m') : J S T B' m' := ⟨h.1, h.2.1, h.2.2.1, h.2.2.2.1.mono hB, Nat.le_trans h.2.2.2.2 hm⟩
/-- one tick of both sides, whatever the state -/
theorem J.tick {S T : St} {B : Int} {m : Nat} (h : J S T B m) (hB : 0 ≤ B ∧ B ≤ 199999) (hm : m ≤ 512) : J (sX3_tick_S S) (if T.2 11 49 = 0 then sX12_tick_S T else T) (B + 1) m ∧ (T.2 11 49 = 0 → OKT T) := by
  have hs := h.state
  by_cases h2 : S.1 0 2 = 0
  · rw [if_pos (hs.mpr h2)]
    obtain ⟨r, c, d, n, q, o⟩ := tick_sim h.1 h.2.1 h.2.2.1 hB h.2.2.2.1 (Nat.le_trans h.2.2.2.2 hm) h2
    exact ⟨⟨inv_X3_tick S h.1, r, c, d, Nat.le_trans q h.2.2.2.2⟩, fun _ => o⟩
  · rw [if_neg (fun z => h2 (hs.mp z))]
    have e : sX3_tick_S S = S := by
      unfold sX3_tick_S
      rw [if_neg h2]
    rw [e]
    exact ⟨h.mono (by omega) (Nat.le_refl _), fun z => absurd (hs.mp z) h2⟩
theorem J.run {S T : St} {B : Int} {m : Nat} (h : J S T B m) (S2 : St) (t : Nat) (hB : 0 ≤ B ∧ B + t ≤ 199999) (hm : m ≤ 512) : ∀ k, k ≤ t → J (LX11_run_16_S S S2 t k) (LX12_run_17_S T t k) (B + k) m ∧ (k < t → (LX12_run_17_S T t k).2 11 49 = 0 → OKT (LX12_run_17_S T t k)) := by
  have main : ∀ k, k ≤ t → J (LX11_run_16_S S S2 t k) (LX12_run_17_S T t k) (B + k) m := by
    intro k
    induction k with
    | zero => intro _; exact h.mono (by omega) (Nat.le_refl _)
    | succ k ih =>
      intro hk
      have g := (ih (by omega)).tick (by omega) hm
      have e : B + ((k + 1 : Nat) : Int) = B + (k : Int) + 1 := by omega
      rw [e]
      exact g.1
  exact fun k hk => ⟨main k hk, fun hk2 => ((main k hk).tick (by omega) hm).2⟩
theorem op_run {S T : St} {B : Int} {m : Nat} (h : J S T B m) (S2 : St) (t : Nat) (hB : 0 ≤ B ∧ B + t ≤ 199999) (hm : m ≤ 512) : sX11_run S S2 t = sX12_run T t ∧ J (sX11_run_S S S2 t) (sX12_run_S T t) (B + t) m ∧ (∀ k, k < t → (LX12_run_17_S T t k).2 11 49 = 0 → OKT (LX12_run_17_S T t k)) := by
  have g := h.run S2 t hB hm
  have e := (g t (Nat.le_refl _)).1
  refine ⟨?_, e, fun k hk => (g k (by omega)).2 hk⟩
  unfold sX11_run sX12_run
  rw [e.2.1.2.1.2.1, i2z2i]
theorem op_value {S T : St} {B : Int} {m : Nat} (h : J S T B m) (S2 : St) (x : Int32) : sX11_value S S2 x = sX12_value T x := by
  obtain ⟨hI, ⟨rc, rt, rq, rs, rm, re, rb⟩, hC, hD, hm⟩ := h
  have a1 : (lN (cM S)).toInt32 = S.1 0 16 := by
    rw [hI.2.2.1.1, ← i2zI rfl (by have := hI.2.2.1.2; omega), i2z2i]
  have a2 : (lN (cQ S)).toInt32 = S.1 0 13 := by
    rw [hI.2.1.1, ← i2zI rfl (by have := hI.2.1.2; omega), i2z2i]
  have a3 : (lN (cC S)).toInt32 = S.1 0 18 := by
    rw [hI.2.2.2.2.1, ← i2zI rfl (by have := hI.2.2.2.2.2; omega), i2z2i]
  unfold sX11_value sX12_value
  rw [rt.1, rt.2.1, rt.2.2.1, rc.1.1, rm.1, rt.2.2.2.2.2.1, rq.1, re.1, i2z2i, i2z2i, i2z2i, i2z2i, a1, a2, a3]
