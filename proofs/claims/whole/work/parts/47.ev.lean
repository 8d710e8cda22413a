/-! ===== an event changes nothing else ===== -/
theorem rI_sk (S : St) (a b : Nat) (v : Int32) (x y : Nat) (h : ¬ (x = a ∧ y = b)) : (sI S a b v).1 x y = S.1 x y := by rw [rI_sI, if_neg h]
/-- the class's states that differ in their events alone -/
def QC (S S' : St) : Prop := S'.2 = S.2 ∧ ∀ a b, ¬ (a = 2 ∨ a = 3 ∨ a = 4 ∨ (a = 0 ∧ (b = 17 ∨ b = 18))) → S'.1 a b = S.1 a b
def QM (T T' : St) : Prop := T'.1 = T.1 ∧ ∀ a b, ¬ (a = 13 ∨ (a = 11 ∧ b = 63)) → T'.2 a b = T.2 a b
theorem QC_add (S : St) (x y z : Int32) (o c : Nat) : QC S (sX2_add_S S x y z o c) := by
  refine ⟨by unfold sX2_add_S; split <;> rfl, fun a b h => ?_⟩
  unfold sX2_add_S
  split <;> rw [rI_sk _ _ _ _ _ _ (by omega), rI_sk _ _ _ _ _ _ (by omega), rI_sk _ _ _ _ _ _ (by omega), rI_sk _ _ _ _ _ _ (by omega)]
theorem QM_happens (T : St) (x : Int32) (y : Int64) (mh : Nat) : QM T (sX12_happens_S T x y mh) := ⟨I_X12_happens T x y mh, fun a b h => t2_X12_happens T x y mh a b (by omega)⟩
def mkC (S : St) : St := (fun a b => if a = 2 ∨ a = 3 ∨ a = 4 ∨ (a = 0 ∧ (b = 17 ∨ b = 18)) then 0 else S.1 a b, S.2)
theorem mkC_eq {S S' : St} (h : QC S S') : mkC S' = mkC S := by
  unfold mkC
  rw [h.1]
  congr 1
  funext a b
  by_cases z : a = 2 ∨ a = 3 ∨ a = 4 ∨ (a = 0 ∧ (b = 17 ∨ b = 18))
  · rw [if_pos z, if_pos z]
  · rw [if_neg z, if_neg z, h.2 a b z]
theorem QC.cN_eq {S S' : St} (h : QC S S') : cN S' = cN S := by
  have e : cN (mkC S') = cN (mkC S) := by rw [mkC_eq h]
  exact e
theorem QC.cQ_eq {S S' : St} (h : QC S S') : cQ S' = cQ S := by
  have e : cQ (mkC S') = cQ (mkC S) := by rw [mkC_eq h]
  exact e
theorem QC.cM_eq {S S' : St} (h : QC S S') : cM S' = cM S := by
  have e : cM (mkC S') = cM (mkC S) := by rw [mkC_eq h]
  exact e
theorem RelC.evS {S S' T : St} (h : QC S S') (r : RelC S T) : RelC S' T := by
  have : RelC (mkC S') T := by rw [mkC_eq h]; exact r
  exact this
theorem RelT.evS {S S' T : St} (h : QC S S') (r : RelT S T) : RelT S' T := by
  have : RelT (mkC S') T := by rw [mkC_eq h]; exact r
  exact this
theorem RelQ.evS {S S' T : St} (h : QC S S') (r : RelQ S T) : RelQ S' T := by
  have : RelQ (mkC S') T := by rw [mkC_eq h]; exact r
  exact this
theorem RelS.evS {S S' T : St} (h : QC S S') (r : RelS S T) : RelS S' T := by
  have : RelS (mkC S') T := by rw [mkC_eq h]; exact r
  exact this
theorem RelM.evS {S S' T : St} (h : QC S S') (r : RelM S T) : RelM S' T := by
  have : RelM (mkC S') T := by rw [mkC_eq h]; exact r
  exact this
theorem RelB.evS {S S' T : St} (h : QC S S') (r : RelB S T) : RelB S' T := by
  have : RelB (mkC S') T := by rw [mkC_eq h]; exact r
  exact this
theorem RngC.evS {S S' : St} (h : QC S S') (r : RngC S) : RngC S' := by
  have : RngC (mkC S') := by rw [mkC_eq h]; exact r
  exact this
theorem RngD.evS {S S' : St} {B : Int} (h : QC S S') (r : RngD S B) : RngD S' B := by
  have e : RngD (mkC S') B := by
    rw [mkC_eq h]
    refine ⟨r.1, r.2.1, ?_, r.2.2.2⟩
    rw [mSum_congr (S := S) (S' := mkC S) rfl]
    exact r.2.2.1
  refine ⟨e.1, e.2.1, ?_, e.2.2.2⟩
  have e3 := e.2.2.1
  rw [mSum_congr (S := S') (S' := mkC S') rfl] at e3
  exact e3
theorem RelC.evT {S T T' : St} (h : QM T T') (r : RelC S T) : RelC S T' := RelC.congr rfl h.1 (fun a h1 h2 _ _ => by funext b; exact h.2 a b (by omega)) r
theorem RelT.evT {S T T' : St} (h : QM T T') (r : RelT S T) : RelT S T' := by
  unfold RelT
  rw [h.2 11 48 (by decide), h.2 11 49 (by decide), h.2 11 50 (by decide), h.2 11 51 (by decide), h.2 11 57 (by decide), h.2 11 58 (by decide), h.2 11 61 (by decide)]
  exact r
theorem RelQ.evT {S T T' : St} (h : QM T T') (hq : cQ S ≤ 4) (r : RelQ S T) : RelQ S T' := ⟨by rw [h.2 _ _ (by omega)]; exact r.1, fun j hj => by rw [h.2 _ _ (by omega)]; exact r.2 j hj⟩
theorem RelS.evT {S T T' : St} (h : QM T T') (hn : cN S ≤ 6) (r : RelS S T) : RelS S T' := by
  intro i hi
  have g := r i hi
  rw [h.2 _ _ (by omega), h.2 _ _ (by omega), h.2 _ _ (by omega), h.2 _ _ (by omega), h.2 _ _ (by omega), h.2 _ _ (by omega), h.2 _ _ (by omega)]
  exact g
theorem RelM.evT {S T T' : St} (h : QM T T') (r : RelM S T) : RelM S T' := ⟨by rw [h.2 _ _ (by omega)]; exact r.1, fun k hk => by rw [h.2 _ _ (by omega)]; exact r.2 k hk⟩
theorem RelB.evT {S T T' : St} (h : QM T T') (r : RelB S T) : RelB S T' := by
  unfold RelB
  rw [h.2 11 59 (by decide), h.2 11 60 (by decide)]
  exact r
/-- an event on both sides keeps the relation -/
theorem ev_rel {S T : St} (hI : Inv S) (hR : Rel S T) (hmh : mH T = cC S) (kind place : Int32) : Rel (sX2_add_S S (S.1 0 1) kind place (cO S) (cC S)) (sX12_happens_S T kind place.toInt64 (mH T)) := by
  obtain ⟨rc, rt, rq, rs, rm, re, rb⟩ := hR
  have hE := ev_sim hI re (S.1 0 1) kind place rt.1
  rw [hmh]
  have q := QC_add S (S.1 0 1) kind place (cO S) (cC S)
  have p := QM_happens T kind place.toInt64 (cC S)
  exact ⟨(rc.evS q).evT p, (rt.evS q).evT p, (rq.evS q).evT p (by rw [q.cQ_eq]; exact hI.2.1.2), (rs.evS q).evT p (by rw [q.cN_eq]; exact hI.1.2.2), (rm.evS q).evT p, hE, (rb.evS q).evT p⟩
/-- the web breaks -/
theorem break_rel {S T : St} (hI : Inv S) (hR : Rel S T) (hmh : mH T = cC S) (x : Int32) : Rel (sX3_breakWeb_S S x) (sX12_breaks_S T x) := by
  obtain ⟨rc, rt, rq, rs, rm, re, rb⟩ := hR
  have hq : cQ S ≤ 4 := hI.2.1.2
  have hn : cN S ≤ 6 := hI.1.2.2
  have hR' : Rel (sI (sI S 0 2 1) 0 3 x) (sJ (sJ (sJ T 11 49 1) 11 59 1) 11 60 x.toInt64) := by
    refine ⟨RelC.congr (S := sI (sI S 0 2 1) 0 3 x) (T := T) rfl rfl (fun a h1 _ _ _ => ?_) rc, ?_, ((rq.now 49 1 hq (by decide)).now 59 1 hq (by decide)).now 60 _ hq (by decide), ((rs.now 49 1 hn (by decide)).now 59 1 hn (by decide)).now 60 _ hn (by decide), ((rm.now 49 1 (by decide)).now 59 1 (by decide)).now 60 _ (by decide), ((re.now 49 1 (by decide)).now 59 1 (by decide)).now 60 _ (by decide), Or.inr ⟨show ¬ ((1 : Int64) = 0) from by decide, rfl⟩⟩
    · funext b
      rw [rJ_sk _ _ _ _ _ _ (by omega), rJ_sk _ _ _ _ _ _ (by omega), rJ_sk _ _ _ _ _ _ (by omega)]
    · exact ⟨rt.1, rfl, rt.2.2.1, rt.2.2.2.1, rt.2.2.2.2.1, rt.2.2.2.2.2.1, rt.2.2.2.2.2.2⟩
  exact ev_rel (S := sI (sI S 0 2 1) 0 3 x) hI hR' hmh 1 x
