/-! ===== watching one span ===== -/
theorem great_rel {S T : St} {k : Nat} (hI : Inv S) (hk : k < cN S) (hR : Rel S T) {B : Int} (hD : RngD S B) (v : Int64) : Rel (sJ S 4 k v) (sJ T 11 (8 * k + 6) v) ∧ RngD (sJ S 4 k v) B := by
  obtain ⟨rc, rt, rq, rs, rm, re, rb⟩ := hR
  have hq : cQ S ≤ 4 := hI.2.1.2
  have hn : cN S ≤ 6 := hI.1.2.2
  refine ⟨⟨RelC.congr (S := sJ S 4 k v) (T := T) rfl rfl (fun a h1 _ _ _ => by funext b; rw [rJ_sk _ _ _ _ _ _ (by omega)]) rc, ?_, ?_, ?_, ?_, ?_, ?_⟩, ⟨hD.1, hD.2.1, ?_, hD.2.2.2⟩⟩
  · unfold RelT
    rw [rJ_sk _ _ _ _ 11 48 (by omega), rJ_sk _ _ _ _ 11 49 (by omega), rJ_sk _ _ _ _ 11 50 (by omega), rJ_sk _ _ _ _ 11 51 (by omega), rJ_sk _ _ _ _ 11 57 (by omega), rJ_sk _ _ _ _ 11 58 (by omega), rJ_sk _ _ _ _ 11 61 (by omega)]
    exact rt
  · refine ⟨by rw [rJ_sk _ _ _ _ _ _ (by omega)]; exact rq.1, fun j hj => by rw [rJ_sk _ _ _ _ _ _ (by omega)]; exact rq.2 j hj⟩
  · intro i hi
    have g := rs i hi
    rw [rJ_sk _ _ _ _ 11 (8 * i) (by omega), rJ_sk _ _ _ _ 11 (8 * i + 1) (by omega), rJ_sk _ _ _ _ 11 (8 * i + 2) (by omega), rJ_sk _ _ _ _ 11 (8 * i + 3) (by omega), rJ_sk _ _ _ _ 11 (8 * i + 4) (by omega), rJ_sk _ _ _ _ 11 (8 * i + 5) (by omega)]
    refine ⟨⟨g.1.1, g.1.2.1, g.1.2.2.1, g.1.2.2.2.1, ?_⟩, g.2⟩
    by_cases e : i = k
    · subst e
      rw [rJ_at, rJ_at]
    · rw [rJ_ne _ _ _ _ _ (by omega), rJ_ne _ _ _ _ _ e]
      exact g.1.2.2.2.2
  · exact ⟨by rw [rJ_sk _ _ _ _ _ _ (by omega)]; exact rm.1, fun j hj => by rw [rJ_sk _ 11 _ _ 15 _ (by omega)]; exact rm.2 j hj⟩
  · exact ⟨by rw [rJ_sk _ _ _ _ _ _ (by omega)]; exact re.1, fun j hj => by rw [rJ_sk _ _ _ _ 13 _ (by omega), rJ_sk _ _ _ _ 13 _ (by omega), rJ_sk _ _ _ _ 13 _ (by omega)]; exact re.2 j hj⟩
  · unfold RelB
    rw [rJ_sk _ _ _ _ 11 59 (by omega), rJ_sk _ _ _ _ 11 60 (by omega)]
    exact rb
  · have e := mSum_congr (S := S) (S' := sJ S 4 k v) (by funext b; rw [rJ_sk _ _ _ _ _ _ (by omega)]) (cN S)
    have g := hD.2.2.1
    rw [← e] at g
    exact g
theorem slack_rel {S T : St} {k : Nat} (hI : Inv S) (hk : k < cN S) (hR : Rel S T) {B : Int} (hD : RngD S B) (v : Int32) (hv : rI v 0 B) : Rel (sI S 7 k v) (sJ T 11 (8 * k + 5) v.toInt64) ∧ RngD (sI S 7 k v) B := by
  obtain ⟨rc, rt, rq, rs, rm, re, rb⟩ := hR
  have hq : cQ S ≤ 4 := hI.2.1.2
  have hn : cN S ≤ 6 := hI.1.2.2
  have rc' : RelC (sI S 7 k v) T := rc
  refine ⟨⟨RelC.congr (S := sI S 7 k v) (T := T) rfl rfl (fun a h1 _ _ _ => by funext b; rw [rJ_sk _ _ _ _ _ _ (by omega)]) rc', ?_, ?_, ?_, ?_, ?_, ?_⟩, ⟨hD.1, ?_, ?_, hD.2.2.2⟩⟩
  · unfold RelT
    rw [rJ_sk _ _ _ _ 11 48 (by omega), rJ_sk _ _ _ _ 11 49 (by omega), rJ_sk _ _ _ _ 11 50 (by omega), rJ_sk _ _ _ _ 11 51 (by omega), rJ_sk _ _ _ _ 11 57 (by omega), rJ_sk _ _ _ _ 11 58 (by omega), rJ_sk _ _ _ _ 11 61 (by omega)]
    exact rt
  · refine ⟨by rw [rJ_sk _ _ _ _ _ _ (by omega)]; exact rq.1, fun j hj => ?_⟩
    have hj4 : j < 4 := by
      have : j < cQ S := hj
      omega
    rw [rJ_sk _ _ _ _ _ _ (by omega)]; exact rq.2 j hj
  · intro i hi
    have hi' : i < cN S := hi
    have g := rs i hi'
    rw [rJ_sk _ _ _ _ 11 (8 * i) (by omega), rJ_sk _ _ _ _ 11 (8 * i + 1) (by omega), rJ_sk _ _ _ _ 11 (8 * i + 2) (by omega), rJ_sk _ _ _ _ 11 (8 * i + 3) (by omega), rJ_sk _ _ _ _ 11 (8 * i + 4) (by omega), rJ_sk _ _ _ _ 11 (8 * i + 6) (by omega)]
    refine ⟨⟨g.1.1, g.1.2.1, g.1.2.2.1, ?_, g.1.2.2.2.2⟩, g.2⟩
    by_cases e : i = k
    · subst e
      rw [rJ_at, rI_at]
    · rw [rJ_ne _ _ _ _ _ (by omega), rI_ne _ _ _ _ _ e]
      exact g.1.2.2.2.1
  · exact ⟨by rw [rJ_sk _ _ _ _ _ _ (by omega)]; exact rm.1, fun j hj => by rw [rJ_sk _ 11 _ _ 15 _ (by omega)]; exact rm.2 j hj⟩
  · exact ⟨by rw [rJ_sk _ _ _ _ _ _ (by omega)]; exact re.1, fun j hj => by rw [rJ_sk _ _ _ _ 13 _ (by omega), rJ_sk _ _ _ _ 13 _ (by omega), rJ_sk _ _ _ _ 13 _ (by omega)]; exact re.2 j hj⟩
  · unfold RelB
    rw [rJ_sk _ _ _ _ 11 59 (by omega), rJ_sk _ _ _ _ 11 60 (by omega)]
    exact rb
  · intro i hi
    have g := hD.2.1 i hi
    refine ⟨g.1, g.2.1, ?_, g.2.2.2⟩
    by_cases e : i = k
    · subst e
      rw [rI_at]
      exact hv
    · rw [rI_ne _ _ _ _ _ e]
      exact g.2.2.1
  · have e := mSum_congr (S := S) (S' := sI S 7 k v) rfl (cN S)
    have g := hD.2.2.1
    rw [← e] at g
    exact g
theorem great_eq (g t : Int64) : (if t ≤ g then g else t) = sJ9_max_f86c9 g t := by
  unfold sJ9_max_f86c9
  by_cases h : t ≤ g
  · rw [if_pos h, if_neg (Int64.not_lt.mpr h)]
  · rw [if_neg h, if_pos (Int64.not_le.mp h)]
/-- slack, on both sides -/
theorem count_sim {S T : St} {k : Nat} (hI : Inv S) (hk : k < cN S) (hR : Rel S T) (hC : RngC S) {B : Int} (hB : 0 ≤ B ∧ B ≤ 199999) (hD : RngD S (B + 1)) (hbud : cM S + cQ S ≤ 512) (hs : rI (S.1 7 k) 0 B) (t : Int64) (ht : sX12_tension T k = t) (ht0 : 0 ≤ t.toInt) (S2 : St) (hS2 : S2 = sX3_countSlack_S (sJ S 4 k (sJ9_max_f86c9 (S.2 4 k) t)) k t) :
    Rel S2 (KX12_watch_123_S T k) ∧ RngC S2 ∧ RngD S2 (B + 1) ∧ Inv S2 ∧ (∀ i, ¬ i = k → S2.1 7 i = S.1 7 i) ∧ cN S2 = cN S ∧ cM S2 = cM S ∧ cQ S2 = cQ S := by
  obtain ⟨f1, f2, f3, f4, f5⟩ := relM_facts hI hR hbud
  have e47 : KX12_watch_47_S T k = sJ T 11 (8 * k + 6) (sJ9_max_f86c9 (S.2 4 k) t) := by
    have g := (hR.2.2.2.1 k hk).1.2.2.2.2
    rw [← great_eq, ← g]
    unfold KX12_watch_47_S
    rw [ht]
    split <;> rfl
  obtain ⟨R1, D1⟩ := great_rel hI hk hR hD (sJ9_max_f86c9 (S.2 4 k) t)
  have s47 : (KX12_watch_47_S T k).2 11 (8 * k + 5) = (S.1 7 k).toInt64 := by
    rw [e47, rJ_ne _ _ _ _ _ (by omega)]
    exact (hR.2.2.2.1 k hk).1.2.2.2.1
  generalize hS1 : sJ S 4 k (sJ9_max_f86c9 (S.2 4 k) t) = S1 at hS2 R1 D1
  have s1 : S1.1 = S.1 := by subst hS1; rfl
  have hI1 : Inv S1 := hI.congr s1
  have hC1 : RngC S1 := hC.congr s1
  have cn1 : cN S1 = cN S := by unfold cN; rw [s1]
  have cm1 : cM S1 = cM S := by unfold cM; rw [s1]
  have cq1 : cQ S1 = cQ S := by unfold cQ; rw [s1]
  have hmh : mH (KX12_watch_47_S T k) = cC S1 := by
    have : mH (KX12_watch_47_S T k) = mH T := by
      unfold mH
      rw [e47, rJ_sk _ _ _ _ _ _ (by omega)]
    rw [this, f5]
    unfold cC
    rw [s1]
  rw [← e47] at R1
  have lk : (nI k).toInt64 = lN k := i2zI rfl (by have := hI.1.2.2; omega)
  obtain ⟨v1, v2⟩ := time_step (by omega) hs
  have sl := fun v hv => slack_rel hI1 (by rw [cn1]; exact hk) R1 D1 v hv
  have mhs : ∀ v, mH (sJ (KX12_watch_47_S T k) 11 (8 * k + 5) v) = cC S1 := fun v => by
    rw [← hmh]
    unfold mH
    have := hI.1.2.2
    rw [rJ_sk _ _ _ _ _ _ (by omega)]
  have k7 : ∀ v i, ¬ i = k → (sI S1 7 k v).1 7 i = S.1 7 i := fun v i h => by rw [rI_ne _ _ _ _ _ h, s1]
  have s7 : S1.1 7 k = S.1 7 k := by rw [s1]
  have ev : ∀ (v kind : Int32) (T' : St), Rel (sI S1 7 k v) T' → mH T' = cC S1 → RngD (sI S1 7 k v) (B + 1) → ∀ S2, S2 = sX2_add_S (sI S1 7 k v) (S1.1 0 1) kind (nI k) (cO S1) (cC S1) → Rel S2 (sX12_happens_S T' kind (nI k).toInt64 (mH T')) ∧ RngC S2 ∧ RngD S2 (B + 1) ∧ Inv S2 ∧ (∀ i, ¬ i = k → S2.1 7 i = S.1 7 i) ∧ cN S2 = cN S ∧ cM S2 = cM S ∧ cQ S2 = cQ S := by
    intro v kind T' r h d S2 e
    have E : Rel (sX2_add_S (sI S1 7 k v) (S1.1 0 1) kind (nI k) (cO S1) (cC S1)) (sX12_happens_S T' kind (nI k).toInt64 (mH T')) := ev_rel (S := sI S1 7 k v) (T := T') hI1 r h kind (nI k)
    have q := QC_add (sI S1 7 k v) (S1.1 0 1) kind (nI k) (cO S1) (cC S1)
    have J : Inv (sX2_add_S (sI S1 7 k v) (S1.1 0 1) kind (nI k) (cO S1) (cC S1)) := inv_X2_add (sI S1 7 k v) (S1.1 0 1) kind (nI k) hI1
    subst e
    exact ⟨E, RngC.evS q hC1, RngD.evS q d, J, fun i hi => (q.2 7 i (by omega)).trans (k7 v i hi), q.cN_eq.trans cn1, q.cM_eq.trans cm1, q.cQ_eq.trans cq1⟩
  unfold sX3_countSlack_S at hS2
  rw [s7] at hS2
  by_cases h0 : t = 0
  · rw [if_pos h0] at hS2
    have hle : t ≤ 0 := by rw [h0]; decide
    have e79 : KX12_watch_79_S T k = sJ (KX12_watch_47_S T k) 11 (8 * k + 5) (S.1 7 k + 1).toInt64 := by
      unfold KX12_watch_79_S
      rw [ht, if_pos h0, s47, v1]
    obtain ⟨R2, D2⟩ := sl (S.1 7 k + 1) v2
    have e123 : KX12_watch_123_S T k = KX12_watch_101_S T k := by
      unfold KX12_watch_123_S
      rw [ht, if_pos hle]
    have c20 : (KX12_watch_79_S T k).2 11 (8 * k + 5) = 20 ↔ S.1 7 k + 1 = 20 := by
      rw [e79, rJ_at]
      exact i2z_eq (y := 20)
    by_cases h20 : S.1 7 k + 1 = 20
    · rw [if_pos h20] at hS2
      have e101 : KX12_watch_101_S T k = sX12_happens_S (KX12_watch_79_S T k) 2 (nI k).toInt64 (mH (KX12_watch_79_S T k)) := by
        unfold KX12_watch_101_S
        rw [if_pos (c20.mpr h20), lk]
      rw [e123, e101]
      exact ev _ 2 _ (by rw [e79]; exact R2) (by rw [e79]; exact mhs _) D2 S2 hS2
    · rw [if_neg h20] at hS2
      have e101 : KX12_watch_101_S T k = KX12_watch_79_S T k := by
        unfold KX12_watch_101_S
        rw [if_neg (fun z => h20 (c20.mp z))]
      rw [e123, e101, e79, hS2]
      exact ⟨R2, hC1, D2, hI1, k7 _, cn1, cm1, cq1⟩
  · rw [if_neg h0] at hS2
    have hle : ¬ t ≤ 0 := fun z => h0 (by rw [zle, c0z] at z; rw [zeq, c0z]; omega)
    have e79 : KX12_watch_79_S T k = sJ (KX12_watch_47_S T k) 11 (8 * k + 5) (0 : Int32).toInt64 := by
      unfold KX12_watch_79_S
      rw [ht, if_neg h0]
      rfl
    obtain ⟨R2, D2⟩ := sl 0 ⟨by decide, by show (0 : Int) ≤ _; omega⟩
    have e101 : KX12_watch_101_S T k = KX12_watch_79_S T k := by
      unfold KX12_watch_101_S
      rw [if_neg (by rw [e79, rJ_at]; decide)]
    have c20 : (KX12_watch_47_S T k).2 11 (8 * k + 5) < 20 ↔ S.1 7 k < 20 := by
      rw [s47]
      exact i2z_lt (y := 20)
    by_cases h20 : S.1 7 k < 20
    · rw [if_pos h20] at hS2
      have e123 : KX12_watch_123_S T k = KX12_watch_101_S T k := by
        unfold KX12_watch_123_S
        rw [ht, if_neg hle, if_pos (c20.mpr h20)]
      rw [e123, e101, e79, hS2]
      exact ⟨R2, hC1, D2, hI1, k7 _, cn1, cm1, cq1⟩
    · rw [if_neg h20] at hS2
      have e123 : KX12_watch_123_S T k = sX12_happens_S (KX12_watch_79_S T k) 3 (nI k).toInt64 (mH (KX12_watch_79_S T k)) := by
        unfold KX12_watch_123_S
        rw [ht, if_neg hle, if_neg (fun z => h20 (c20.mp z)), e101, lk]
      rw [e123]
      exact ev _ 3 _ (by rw [e79]; exact R2) (by rw [e79]; exact mhs _) D2 S2 hS2
