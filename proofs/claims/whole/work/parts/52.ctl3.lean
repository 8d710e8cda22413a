/-- states that differ in the controllers' values alone -/
def QD (S S' : St) : Prop := S'.2 = S.2 ∧ ∀ a, ¬ (a = 13 ∨ a = 14 ∨ a = 18) → S'.1 a = S.1 a
def mkD (S : St) : St := (fun a b => if a = 13 ∨ a = 14 ∨ a = 18 then 0 else S.1 a b, S.2)
theorem mkD_eq {S S' : St} (h : QD S S') : mkD S' = mkD S := by
  unfold mkD
  rw [h.1]
  congr 1
  funext a b
  by_cases z : a = 13 ∨ a = 14 ∨ a = 18
  · rw [if_pos z, if_pos z]
  · rw [if_neg z, if_neg z, h.2 a z]
def QN (T T' : St) (k : Nat) : Prop := T'.1 = T.1 ∧ ∀ a b, ¬ (a = 11 ∧ (b = 8 * k + 1 ∨ b = 8 * k + 2 ∨ b = 8 * k + 3)) → T'.2 a b = T.2 a b
theorem QD.refl (S : St) : QD S S := ⟨rfl, fun _ _ => rfl⟩
theorem QD.trans {S S' S2 : St} (h : QD S S') (h2 : QD S' S2) : QD S S2 := ⟨h2.1.trans h.1, fun a z => (h2.2 a z).trans (h.2 a z)⟩
theorem QD.inv {S S' : St} (h : QD S S') (hI : Inv S) : Inv S' := by
  have e : Inv (mkD S') := by rw [mkD_eq h]; exact hI
  exact e
theorem QD.cN_eq {S S' : St} (h : QD S S') : cN S' = cN S := by
  have e : cN (mkD S') = cN (mkD S) := by rw [mkD_eq h]
  exact e
theorem QD.cM_eq {S S' : St} (h : QD S S') : cM S' = cM S := by
  have e : cM (mkD S') = cM (mkD S) := by rw [mkD_eq h]
  exact e
theorem QD.cQ_eq {S S' : St} (h : QD S S') : cQ S' = cQ S := by
  have e : cQ (mkD S') = cQ (mkD S) := by rw [mkD_eq h]
  exact e
theorem QN.row {T T' : St} {k : Nat} (h : QN T T' k) {a : Nat} (ha : ¬ a = 11) : T'.2 a = T.2 a := by
  funext b
  exact h.2 a b (by omega)
/-- what is left of the relation when the controllers move -/
theorem ctl_rest {S S' T T' : St} {k : Nat} (hI : Inv S) (hk : k < cN S) (hR : Rel S T) (hC : RngC S) {B : Int} (hD : RngD S B) (h : QD S S') (h' : QN T T' k)
    (hz : S'.1 18 0 = S.1 18 0)
    (hS : ∀ i, i < cN S → T'.2 11 (8 * i + 3) = (S'.1 18 (i + 1)).toInt64 ∧ (S.1 6 i = 1 → T'.2 11 (8 * i + 1) = (S'.1 13 i).toInt64 ∧ T'.2 11 (8 * i + 2) = (S'.1 14 i).toInt64))
    (hr : ∀ i, i < cN S → rI (S'.1 18 (i + 1)) (-2000) 2000 ∧ (S.1 6 i = 1 → 0 ≤ (S'.1 13 i).toInt ∧ (S'.1 13 i).toInt ≤ (S.1 8 i).toInt ∧ rI (S'.1 14 i) (-1000000) 1000000)) :
    Rel S' T' ∧ RngC S' ∧ RngD S' B := by
  obtain ⟨rc, rt, rq, rs, rm, re, rb⟩ := hR
  have hn : cN S ≤ 6 := hI.1.2.2
  have hq : cQ S ≤ 4 := hI.2.1.2
  have cn := h.cN_eq
  have e := mkD_eq h
  have rc' : RelC S' T := by
    have x : RelC (mkD S') T := by rw [e]; exact rc
    exact x
  have rt' : RelT S' T := by
    have x : RelT (mkD S') T := by rw [e]; exact rt
    exact x
  have rq' : RelQ S' T := by
    have x : RelQ (mkD S') T := by rw [e]; exact rq
    exact x
  have rm' : RelM S' T := by
    have x : RelM (mkD S') T := by rw [e]; exact rm
    exact x
  have re' : RelE S' T := by
    have x : RelE (mkD S') T := by rw [e]; exact re
    exact x
  have rb' : RelB S' T := by
    have x : RelB (mkD S') T := by rw [e]; exact rb
    exact x
  have hC' : RngC S' := by
    have x : RngC (mkD S') := by
      rw [e]
      exact ⟨hC.1, ⟨hC.2.1.1, rfl⟩, hC.2.2⟩
    exact ⟨x.1, ⟨x.2.1.1, hz.trans hC.2.1.2⟩, x.2.2⟩
  refine ⟨⟨RelC.congr rfl h'.1 (fun a h1 _ _ _ => h'.row h1) rc', ?_, ?_, ?_, ?_, ?_, ?_⟩, hC', ⟨?_, ?_, ?_, ?_, ?_⟩⟩
  · unfold RelT
    rw [h'.2 11 48 (by omega), h'.2 11 49 (by omega), h'.2 11 50 (by omega), h'.2 11 51 (by omega), h'.2 11 57 (by omega), h'.2 11 58 (by omega), h'.2 11 61 (by omega)]
    exact rt'
  · refine ⟨by rw [h'.2 _ _ (by omega)]; exact rq'.1, fun j hj => ?_⟩
    have hj4 : j < 4 := by
      have g := h.cQ_eq
      omega
    rw [h'.2 _ _ (by omega)]
    exact rq'.2 j hj
  · intro i hi
    rw [cn] at hi
    have g := rs i hi
    have s := hS i hi
    rw [h'.2 11 (8 * i) (by omega), h'.2 11 (8 * i + 4) (by omega), h'.2 11 (8 * i + 5) (by omega), h'.2 11 (8 * i + 6) (by omega), h.1, h.2 7 (by decide), h.2 6 (by decide)]
    exact ⟨⟨g.1.1, s.1, g.1.2.2.1, g.1.2.2.2.1, g.1.2.2.2.2⟩, s.2⟩
  · refine ⟨by rw [h'.2 _ _ (by omega)]; exact rm'.1, fun j hj => ?_⟩
    rw [h'.2 _ _ (by omega)]
    exact rm'.2 j hj
  · refine ⟨by rw [h'.2 _ _ (by omega)]; exact re'.1, fun j hj => ?_⟩
    rw [h'.2 _ _ (by omega), h'.2 _ _ (by omega), h'.2 _ _ (by omega)]
    exact re'.2 j hj
  · unfold RelB
    rw [h'.2 11 59 (by omega), h'.2 11 60 (by omega)]
    exact rb'
  · rw [h.1, h.2 0 (by decide)]
    exact hD.1
  · intro i hi
    rw [cn] at hi
    have g := hD.2.1 i hi
    have s := hr i hi
    rw [h.1, h.2 7 (by decide), h.2 6 (by decide), h.2 8 (by decide)]
    exact ⟨g.1, s.1, g.2.2.1, s.2⟩
  · rw [cn, mSum_congr (S := S) (S' := S') (by rw [h.1])]
    exact hD.2.2.1
  · rw [h.cM_eq, h.1]
    exact hD.2.2.2.1
  · rw [h.cQ_eq, h.2 1 (by decide)]
    exact hD.2.2.2.2
/-- one controller, on both sides -/
theorem ctl_step {S T : St} {k : Nat} (hI : Inv S) (hk : k < cN S) (hR : Rel S T) (hC : RngC S) {B : Int} (hD : RngD S B) : Rel (ctlC S k) (sX12_controls_S T k) ∧ RngC (ctlC S k) ∧ RngD (ctlC S k) B ∧ QD S (ctlC S k) ∧ QN T (sX12_controls_S T k) k := by
  have c := hR.1.2 k hk
  have s := hR.2.2.2.1 k hk
  have g := hC.2.2 k hk
  have d := hD.2.1 k hk
  obtain ⟨l1, l2, l3⟩ := len_sim c.1.1 c.1.2.1 (fun z => (s.2 z).1) g.1 (fun z => ⟨(d.2.2.2 z).1, by have x1 := (d.2.2.2 z).2.1; have x2 := (g.2.2.2.1 z).1.2; exact Int.le_trans x1 x2⟩)
  obtain ⟨t1, -, -⟩ := ten_sim l1 s.1.1 hR.1.1.2.1 l2 l3 d.1 hC.1.1
  by_cases h1 : S.1 6 k = 1
  · have x := c.2.1 h1
    have y := s.2 h1
    have z := g.2.2.2.1 h1
    obtain ⟨p, q, w, e1, e2, p1, q1, w1⟩ := dancer_sim h1 c.1.1 t1 y.1 y.2 x.1 x.2.1 x.2.2.1 x.2.2.2.1 x.2.2.2.2 z.1 z.2.2.1
    rw [e1, e2]
    have qd : QD S (sI (sI (sI S 13 k p) 14 k q) 18 (k + 1) w) := ⟨rfl, fun a h => by
      funext b
      rw [rI_sk _ _ _ _ _ _ (by omega), rI_sk _ _ _ _ _ _ (by omega), rI_sk _ _ _ _ _ _ (by omega)]⟩
    have qn : QN T (sJ (sJ (sJ T 11 (8 * k + 1) p.toInt64) 11 (8 * k + 2) q.toInt64) 11 (8 * k + 3) w.toInt64) k := ⟨rfl, fun a b h => by rw [rJ_sk _ _ _ _ _ _ (by omega), rJ_sk _ _ _ _ _ _ (by omega), rJ_sk _ _ _ _ _ _ (by omega)]⟩
    have r := ctl_rest hI hk hR hC hD qd qn (by rw [rI_sk _ _ _ _ _ _ (by omega), rI_sk _ _ _ _ _ _ (by omega), rI_sk _ _ _ _ _ _ (by omega)]) (fun i hi => ?_) (fun i hi => ?_)
    · exact ⟨r.1, r.2.1, r.2.2, qd, qn⟩
    · by_cases e : i = k
      · subst e
        rw [rJ_at, rI_at, rJ_ne _ _ _ _ _ (by omega), rJ_ne _ _ _ _ _ (by omega), rJ_at, rJ_ne _ _ _ _ _ (by omega), rJ_at, rI_sk _ 18 _ _ 13 _ (by omega), rI_sk _ 14 _ _ 13 _ (by omega), rI_at, rI_sk _ 18 _ _ 14 _ (by omega), rI_at]
        exact ⟨rfl, fun _ => ⟨rfl, rfl⟩⟩
      · have s' := hR.2.2.2.1 i hi
        rw [qn.2 _ _ (by omega), qn.2 _ _ (by omega), qn.2 _ _ (by omega), rI_ne _ _ _ _ _ (by omega), rI_sk _ 18 _ _ 13 _ (by omega), rI_sk _ 14 _ _ 13 _ (by omega), rI_ne _ _ _ _ _ e, rI_sk _ 18 _ _ 14 _ (by omega), rI_ne _ _ _ _ _ e, rI_sk _ 14 _ _ 18 _ (by omega), rI_sk _ 13 _ _ 18 _ (by omega), rI_sk _ 13 _ _ 14 _ (by omega)]
        exact ⟨s'.1.2.1, s'.2⟩
    · by_cases e : i = k
      · subst e
        rw [rI_at, rI_sk _ 18 _ _ 13 _ (by omega), rI_sk _ 14 _ _ 13 _ (by omega), rI_at, rI_sk _ 18 _ _ 14 _ (by omega), rI_at]
        exact ⟨w1, fun _ => ⟨p1.1, p1.2, q1⟩⟩
      · have d' := hD.2.1 i hi
        rw [rI_ne _ _ _ _ _ (by omega), rI_sk _ 18 _ _ 13 _ (by omega), rI_sk _ 14 _ _ 13 _ (by omega), rI_ne _ _ _ _ _ e, rI_sk _ 18 _ _ 14 _ (by omega), rI_ne _ _ _ _ _ e, rI_sk _ 14 _ _ 18 _ (by omega), rI_sk _ 13 _ _ 18 _ (by omega), rI_sk _ 13 _ _ 14 _ (by omega)]
        exact ⟨d'.2.1, d'.2.2.2⟩
  · by_cases h2 : S.1 6 k = 2
    · have x := c.2.2 h2
      obtain ⟨w, e1, e2, w1⟩ := cell_sim h2 c.1.1 t1 s.1.2.1 x.1 x.2
      rw [e1, e2]
      have qd : QD S (sI S 18 (k + 1) w) := ⟨rfl, fun a h => by
        funext b
        rw [rI_sk _ _ _ _ _ _ (by omega)]⟩
      have qn : QN T (sJ T 11 (8 * k + 3) w.toInt64) k := ⟨rfl, fun a b h => by rw [rJ_sk _ _ _ _ _ _ (by omega)]⟩
      have r := ctl_rest hI hk hR hC hD qd qn (by rw [rI_sk _ _ _ _ _ _ (by omega)]) (fun i hi => ?_) (fun i hi => ?_)
      · exact ⟨r.1, r.2.1, r.2.2, qd, qn⟩
      · by_cases e : i = k
        · subst e
          rw [rJ_at, rI_at]
          exact ⟨rfl, fun z => absurd (z.symm.trans h2) (by decide)⟩
        · have s' := hR.2.2.2.1 i hi
          rw [qn.2 _ _ (by omega), qn.2 _ _ (by omega), qn.2 _ _ (by omega), rI_ne _ _ _ _ _ (by omega)]
          exact ⟨s'.1.2.1, s'.2⟩
      · have d' := hD.2.1 i hi
        by_cases e : i = k
        · subst e
          rw [rI_at]
          exact ⟨w1, fun z => absurd (z.symm.trans h2) (by decide)⟩
        · rw [rI_ne _ _ _ _ _ (by omega)]
          exact ⟨d'.2.1, d'.2.2.2⟩
    · have e1 : ctlC S k = S := by
        unfold ctlC
        rw [if_neg h1, if_neg h2]
      have e2 : sX12_controls_S T k = T := by
        unfold sX12_controls_S
        rw [c.1.1, if_neg h1, if_neg h2]
      rw [e1, e2]
      exact ⟨hR, hC, hD, QD.refl S, rfl, fun _ _ _ => rfl⟩
