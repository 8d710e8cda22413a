/-! ===== a span's material is set (before the first tick) ===== -/
/-- before the first tick no span holds more than its greatest length -/
def Z0 (S : St) : Prop := S.1 0 1 = 0 → ∀ i, i < cN S → (S.2 3 i).toInt ≤ 10200000
theorem mSum_cap {S : St} : ∀ n : Nat, (∀ i, i < n → (S.2 3 i).toInt ≤ 10200000) → mSum S n ≤ 10200000 * n := by
  intro n
  induction n with
  | zero => intro _; exact Int.le_refl 0
  | succ n ih =>
    intro h
    have a := ih (fun i hi => h i (by omega))
    have b := h n (by omega)
    show mSum S n + (S.2 3 n).toInt ≤ _
    omega
theorem mat_rel {S T : St} {k : Nat} (hI : Inv S) (hk : k < cN S) (hR : Rel S T) {B : Int} (hB : 0 ≤ B) (hD : RngD S B) (hz : ∀ i, i < cN S → (S.2 3 i).toInt ≤ 10200000) (v : Int64) (hv : 0 < v.toInt ∧ v.toInt ≤ 10200000) : Rel (sJ S 3 k v) (sJ T 11 (8 * k) v) ∧ RngD (sJ S 3 k v) B ∧ (∀ i, i < cN S → ((sJ S 3 k v).2 3 i).toInt ≤ 10200000) := by
  obtain ⟨rc, rt, rq, rs, rm, re, rb⟩ := hR
  have hq : cQ S ≤ 4 := hI.2.1.2
  have hn : cN S ≤ 6 := hI.1.2.2
  have row : ∀ i, (sJ S 3 k v).2 3 i = if i = k then v else S.2 3 i := fun i => by
    by_cases e : i = k
    · rw [if_pos e, e, rJ_at]
    · rw [if_neg e, rJ_ne _ _ _ _ _ e]
  have cap : ∀ i, i < cN S → ((sJ S 3 k v).2 3 i).toInt ≤ 10200000 := fun i hi => by
    rw [row i]
    by_cases e : i = k
    · rw [if_pos e]; exact hv.2
    · rw [if_neg e]; exact hz i hi
  refine ⟨⟨RelC.congr (S := sJ S 3 k v) (T := T) rfl rfl (fun a h1 _ _ _ => by funext b; rw [rJ_sk _ _ _ _ _ _ (by omega)]) rc, ?_, ?_, ?_, ?_, ?_, ?_⟩, ⟨hD.1, ?_, ?_, hD.2.2.2⟩, cap⟩
  · unfold RelT
    rw [rJ_sk _ _ _ _ 11 48 (by omega), rJ_sk _ _ _ _ 11 49 (by omega), rJ_sk _ _ _ _ 11 50 (by omega), rJ_sk _ _ _ _ 11 51 (by omega), rJ_sk _ _ _ _ 11 57 (by omega), rJ_sk _ _ _ _ 11 58 (by omega), rJ_sk _ _ _ _ 11 61 (by omega)]
    exact rt
  · refine ⟨by rw [rJ_sk _ _ _ _ _ _ (by omega)]; exact rq.1, fun j hj => by rw [rJ_sk _ _ _ _ _ _ (by omega)]; exact rq.2 j hj⟩
  · intro i hi
    have g := rs i hi
    rw [rJ_sk _ _ _ _ 11 (8 * i + 1) (by omega), rJ_sk _ _ _ _ 11 (8 * i + 2) (by omega), rJ_sk _ _ _ _ 11 (8 * i + 3) (by omega), rJ_sk _ _ _ _ 11 (8 * i + 4) (by omega), rJ_sk _ _ _ _ 11 (8 * i + 5) (by omega), rJ_sk _ _ _ _ 11 (8 * i + 6) (by omega)]
    refine ⟨⟨?_, g.1.2.1, g.1.2.2.1, g.1.2.2.2.1, g.1.2.2.2.2⟩, g.2⟩
    rw [row i]
    by_cases e : i = k
    · rw [if_pos e, e, rJ_at]
    · rw [if_neg e, rJ_ne _ _ _ _ _ (by omega)]
      exact g.1.1
  · exact ⟨by rw [rJ_sk _ _ _ _ _ _ (by omega)]; exact rm.1, fun j hj => by rw [rJ_sk _ 11 _ _ 15 _ (by omega)]; exact rm.2 j hj⟩
  · exact ⟨by rw [rJ_sk _ _ _ _ _ _ (by omega)]; exact re.1, fun j hj => by rw [rJ_sk _ _ _ _ 13 _ (by omega), rJ_sk _ _ _ _ 13 _ (by omega), rJ_sk _ _ _ _ 13 _ (by omega)]; exact re.2 j hj⟩
  · unfold RelB
    rw [rJ_sk _ _ _ _ 11 59 (by omega), rJ_sk _ _ _ _ 11 60 (by omega)]
    exact rb
  · intro i hi
    have g := hD.2.1 i hi
    refine ⟨?_, g.2⟩
    rw [row i]
    by_cases e : i = k
    · rw [if_pos e]; exact hv.1
    · rw [if_neg e]; exact g.1
  · have c := mSum_cap (S := sJ S 3 k v) (cN S) cap
    have e : (10200000 : Int) * (cN S : Int) ≤ 61200000 := by omega
    show mSum (sJ S 3 k v) (cN S) ≤ _
    omega
