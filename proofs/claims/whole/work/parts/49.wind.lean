/-- the amounts stay as the unwinder works -/
theorem unw17 (T : St) (hq : mQ T ≤ 4) : (sX12_unwind_S T).2 17 = T.2 17 := by
  funext b
  unfold sX12_unwind_S
  split
  · split
    · rw [(QM_happens _ _ _ _).2 17 b (by omega), rJ_sk _ _ _ _ _ _ (by omega), rJ_sk _ _ _ _ _ _ (by omega)]
    · split
      · rw [L2_unwind T _ 17 b (by omega) (by omega)]
        unfold LX12_unwind_158_S
        rw [rJ_sk _ _ _ _ _ _ (by omega), rJ_sk _ _ _ _ _ _ (by omega), rJ_sk _ _ _ _ _ _ (by omega), rJ_sk _ _ _ _ _ _ (by omega), (QM_happens _ _ _ _).2 17 b (by omega), rJ_sk _ _ _ _ _ _ (by omega)]
      · unfold sX12_breaks_S
        rw [(QM_happens _ _ _ _).2 17 b (by omega), rJ_sk _ _ _ _ _ _ (by omega), rJ_sk _ _ _ _ _ _ (by omega), rJ_sk _ _ _ _ _ _ (by omega), rJ_sk _ _ _ _ _ _ (by omega)]
  · rw [rJ_sk _ _ _ _ _ _ (by omega)]
theorem wind_sim {S T : St} (hI : Inv S) (hR : Rel S T) (hC : RngC S) {B : Int} (hB : 0 ≤ B ∧ B ≤ 199999) (hD : RngD S (B + 1)) (hbud : cM S + cQ S ≤ 512) (ha : T.2 17 (cN S) = S.2 2 (cN S)) (hf : rI (S.1 0 15) 0 B) :
    Rel (sX3_wind_S S) (sX12_rewind_S T) ∧ RngC (sX3_wind_S S) ∧ RngD (sX3_wind_S S) (B + 1) ∧ cN (sX3_wind_S S) = cN S ∧ cM (sX3_wind_S S) + cQ (sX3_wind_S S) = cM S + cQ S ∧ (∀ a, ¬ a = 0 → (sX3_wind_S S).2 a = S.2 a) ∧ (sX3_wind_S S).1 7 = S.1 7 := by
  obtain ⟨f1, f2, f3, f4, f5⟩ := relM_facts hI hR hbud
  obtain ⟨rc, rt, rq, rs, rm, re, rb⟩ := hR
  have hq : cQ S ≤ 4 := hI.2.1.2
  have hn : cN S ≤ 6 := hI.1.2.2
  have h57 : T.2 11 57 = S.2 0 1 := rt.2.2.2.2.1
  have h58 : T.2 11 58 = (S.1 0 15).toInt64 := rt.2.2.2.2.2.1
  have h8 : T.2 0 8 = (S.1 0 14).toInt64 := rc.1.2.2.2.2.2.2.2.2.2
  obtain ⟨t1, t2⟩ := time_step (by omega) hf
  have ms : ∀ S' : St, S'.2 3 = S.2 3 → mSum S' (cN S) ≤ 62000000 + 20000 * (B + 1) := fun S' h => by
    rw [mSum_congr h]
    exact hD.2.2.1
  unfold sX3_wind_S sX6_takes sX6_takes_S sX12_rewind_S
  rw [h57, h58, h8, f2, ha]
  by_cases h1 : (S.1 0 14).toInt64 ≤ S.2 0 1 + S.2 2 (cN S)
  · rw [if_pos h1, if_pos h1, if_neg (Int64.not_lt.mpr h1), if_neg (by decide)]
    have R2 : Rel (sI (sJ (sJ S 0 1 (S.2 0 1 + S.2 2 (cN S))) 0 1 (S.2 0 1 + S.2 2 (cN S) - (S.1 0 14).toInt64)) 0 15 (S.1 0 15 + 1)) (sJ (sJ (sJ T 11 57 (S.2 0 1 + S.2 2 (cN S))) 11 57 (S.2 0 1 + S.2 2 (cN S) - (S.1 0 14).toInt64)) 11 58 ((S.1 0 15).toInt64 + 1)) := by
      refine ⟨RelC.congr (S := sI (sJ (sJ S 0 1 (S.2 0 1 + S.2 2 (cN S))) 0 1 (S.2 0 1 + S.2 2 (cN S) - (S.1 0 14).toInt64)) 0 15 (S.1 0 15 + 1)) (T := T) rfl rfl (fun a h1 _ _ _ => ?_) rc, ⟨rt.1, rt.2.1, rt.2.2.1, rt.2.2.2.1, rfl, t1.symm, rt.2.2.2.2.2.2⟩, ((rq.now 57 _ hq (by decide)).now 57 _ hq (by decide)).now 58 _ hq (by decide), ((rs.now 57 _ hn (by decide)).now 57 _ hn (by decide)).now 58 _ hn (by decide), ((rm.now 57 _ (by decide)).now 57 _ (by decide)).now 58 _ (by decide), ((re.now 57 _ (by decide)).now 57 _ (by decide)).now 58 _ (by decide), ((rb.now 57 _ (by decide)).now 57 _ (by decide)).now 58 _ (by decide)⟩
      funext b
      rw [rJ_sk _ _ _ _ _ _ (by omega), rJ_sk _ _ _ _ _ _ (by omega), rJ_sk _ _ _ _ _ _ (by omega)]
    have D2 : RngD (sI (sJ (sJ S 0 1 (S.2 0 1 + S.2 2 (cN S))) 0 1 (S.2 0 1 + S.2 2 (cN S) - (S.1 0 14).toInt64)) 0 15 (S.1 0 15 + 1)) (B + 1) := ⟨⟨hD.1.1, hD.1.2.1, t2, hD.1.2.2.2.1, hD.1.2.2.2.2⟩, hD.2.1, ms _ rfl, hD.2.2.2⟩
    have q := QC_add (sI (sJ (sJ S 0 1 (S.2 0 1 + S.2 2 (cN S))) 0 1 (S.2 0 1 + S.2 2 (cN S) - (S.1 0 14).toInt64)) 0 15 (S.1 0 15 + 1)) (S.1 0 1) 5 (S.1 0 15 + 1) (cO S) (cC S)
    have E := ev_rel (S := sI (sJ (sJ S 0 1 (S.2 0 1 + S.2 2 (cN S))) 0 1 (S.2 0 1 + S.2 2 (cN S) - (S.1 0 14).toInt64)) 0 15 (S.1 0 15 + 1)) (T := sJ (sJ (sJ T 11 57 (S.2 0 1 + S.2 2 (cN S))) 11 57 (S.2 0 1 + S.2 2 (cN S) - (S.1 0 14).toInt64)) 11 58 ((S.1 0 15).toInt64 + 1)) hI R2 f5 5 (S.1 0 15 + 1)
    rw [t1] at E
    refine ⟨E, RngC.evS q hC, RngD.evS q D2, q.cN_eq, ?_, fun a h => ?_, ?_⟩
    · exact (congr (congrArg HAdd.hAdd q.cM_eq) q.cQ_eq)
    · refine (congrFun q.1 a).trans ?_
      funext b
      show (sJ (sJ S 0 1 _) 0 1 _).2 a b = _
      rw [rJ_sk _ _ _ _ _ _ (by omega), rJ_sk _ _ _ _ _ _ (by omega)]
    · funext b
      exact q.2 7 b (by omega)
  · rw [if_neg h1, if_neg h1, if_pos (Int64.not_le.mp h1), if_pos rfl]
    refine ⟨⟨RelC.congr (S := sJ S 0 1 (S.2 0 1 + S.2 2 (cN S))) (T := T) rfl rfl (fun a h1 _ _ _ => ?_) rc, ⟨rt.1, rt.2.1, rt.2.2.1, rt.2.2.2.1, rfl, rt.2.2.2.2.2.1, rt.2.2.2.2.2.2⟩, rq.now 57 _ hq (by decide), rs.now 57 _ hn (by decide), rm.now 57 _ (by decide), re.now 57 _ (by decide), rb.now 57 _ (by decide)⟩, hC, ⟨⟨hD.1.1, hD.1.2.1, hD.1.2.2.1, hD.1.2.2.2.1, hD.1.2.2.2.2⟩, hD.2.1, ms _ rfl, hD.2.2.2⟩, rfl, rfl, fun a h => ?_, rfl⟩
    · funext b
      rw [rJ_sk _ _ _ _ _ _ (by omega)]
    · funext b
      exact rJ_sk _ _ _ _ _ _ (by omega)
