/-! ===== the unwinder's and the rewinder's part of a tick ===== -/
theorem unw_row (T : St) : ∀ k j : Nat, (LX12_unwind_158_S T k).2 11 (53 + j) = if j < k then (LX12_unwind_158_S T 0).2 11 (53 + j + 1) else (LX12_unwind_158_S T 0).2 11 (53 + j) := by
  intro k
  induction k with
  | zero => intro j; rw [if_neg (by omega)]
  | succ k ih =>
    intro j
    have e : LX12_unwind_158_S T (k + 1) = sJ (LX12_unwind_158_S T k) 11 (53 + k) ((LX12_unwind_158_S T k).2 11 ((53 + k) + 1)) := rfl
    rw [e]
    by_cases z : j = k
    · subst z
      rw [rJ_at, if_pos (by omega), show 53 + j + 1 = 53 + (j + 1) by omega, ih (j + 1), if_neg (by omega)]
    · rw [rJ_ne _ _ _ _ _ (by omega), ih j]
      by_cases y : j < k
      · rw [if_pos y, if_pos (by omega)]
      · rw [if_neg y, if_neg (by omega)]
/-- remaining length on both sides -/
theorem Rel.remaining {S T : St} (hR : Rel S T) (hI : Inv S) (v : Int64) : Rel (sJ S 0 0 v) (sJ T 11 51 v) := by
  obtain ⟨rc, rt, rq, rs, rm, re, rb⟩ := hR
  have hq : cQ S ≤ 4 := hI.2.1.2
  have hn : cN S ≤ 6 := hI.1.2.2
  refine ⟨RelC.congr (S := sJ S 0 0 v) (T := T) rfl rfl (fun a h1 _ _ _ => ?_) rc, ⟨rt.1, rt.2.1, rt.2.2.1, rfl, rt.2.2.2.2.1, rt.2.2.2.2.2.1, rt.2.2.2.2.2.2⟩, rq.now 51 v hq (by decide), rs.now 51 v hn (by decide), rm.now 51 v (by decide), re.now 51 v (by decide), rb.now 51 v (by decide)⟩
  funext b
  rw [rJ_sk _ _ _ _ _ _ (by omega)]
theorem RngD.remaining {S : St} {B : Int} (h : RngD S B) (v : Int64) (hv : -20000 * B ≤ v.toInt ∧ v.toInt ≤ 1000000000) : RngD (sJ S 0 0 v) B := by
  refine ⟨⟨h.1.1, h.1.2.1, h.1.2.2.1, h.1.2.2.2.1, hv⟩, h.2.1, ?_, h.2.2.2⟩
  have e := mSum_congr (S := S) (S' := sJ S 0 0 v) rfl (cN S)
  have g := h.2.2.1
  rw [← e] at g
  exact g
theorem RngD.st {S : St} {B : Int} (h : RngD S B) (x : Int32) : RngD (sI S 0 2 x) B := by
  refine ⟨h.1, h.2.1, ?_, h.2.2.2⟩
  have e := mSum_congr (S := S) (S' := sI S 0 2 x) rfl (cN S)
  have g := h.2.2.1
  rw [← e] at g
  exact g
theorem RngD.brk {S : St} {B : Int} (h : RngD S B) (x : Int32) : RngD (sI S 0 3 x) B := by
  refine ⟨h.1, h.2.1, ?_, h.2.2.2⟩
  have e := mSum_congr (S := S) (S' := sI S 0 3 x) rfl (cN S)
  have g := h.2.2.1
  rw [← e] at g
  exact g
/-- what the unwinder's part keeps -/
def KpC (S S' : St) : Prop := cN S' = cN S ∧ cM S' + cQ S' = cM S + cQ S ∧ (∀ a, ¬ a = 0 → ¬ a = 1 → S'.2 a = S.2 a) ∧ S'.2 0 1 = S.2 0 1 ∧ S'.1 7 = S.1 7 ∧ S'.1 0 8 = S.1 0 8 ∧ S'.1 0 15 = S.1 0 15
theorem KpC.ev {S S' S2 : St} (k : KpC S S') (h : QC S' S2) : KpC S S2 := by
  obtain ⟨k1, k2, k3, k4, k5, k6, k7⟩ := k
  refine ⟨h.cN_eq.trans k1, by rw [h.cM_eq, h.cQ_eq]; exact k2, fun a x y => by rw [h.1]; exact k3 a x y, by rw [h.1]; exact k4, ?_, by rw [h.2 _ _ (by decide)]; exact k6, by rw [h.2 _ _ (by decide)]; exact k7⟩
  rw [← k5]
  funext b
  exact h.2 7 b (by omega)
theorem unwind_sim {S T : St} (hI : Inv S) (hR : Rel S T) (hC : RngC S) {B : Int} (hB : 0 ≤ B ∧ B ≤ 199999) (hD : RngD S (B + 1)) (hbud : cM S + cQ S ≤ 512) (ha : T.2 17 0 = S.2 2 0) (ha0 : 0 ≤ (S.2 2 0).toInt ∧ (S.2 2 0).toInt ≤ 20000) (hr : -20000 * B ≤ (S.2 0 0).toInt) :
    Rel (sX3_unwind_S S) (sX12_unwind_S T) ∧ RngC (sX3_unwind_S S) ∧ RngD (sX3_unwind_S S) (B + 1) ∧ KpC S (sX3_unwind_S S) := by
  obtain ⟨f1, f2, f3, f4, f5⟩ := relM_facts hI hR hbud
  have hrem : T.2 11 51 = S.2 0 0 := hR.2.1.2.2.2.1
  have hbase : T.2 11 50 = (S.1 0 8).toInt64 := hR.2.1.2.2.1
  have hspl : T.2 0 6 = (S.1 0 11).toInt64 := hR.1.1.2.2.2.2.2.2.2.1
  have hD1 := hD.1.2.2.2.2
  have e : (S.2 0 0 - S.2 2 0).toInt = (S.2 0 0).toInt - (S.2 2 0).toInt := zsub (by omega)
  have hv : -20000 * (B + 1) ≤ (S.2 0 0 - S.2 2 0).toInt ∧ (S.2 0 0 - S.2 2 0).toInt ≤ 1000000000 := by omega
  have R1 := hR.remaining hI (S.2 0 0 - S.2 2 0)
  have D1 := hD.remaining (S.2 0 0 - S.2 2 0) hv
  have K1 : KpC S (sJ S 0 0 (S.2 0 0 - S.2 2 0)) := by
    refine ⟨rfl, rfl, fun a x _ => ?_, rfl, rfl, rfl, rfl⟩
    funext b
    exact rJ_sk _ _ _ _ _ _ (by omega)
  unfold sX3_unwind_S sX12_unwind_S
  rw [hrem, ha, hbase, hspl, f3]
  by_cases h1 : S.2 0 0 - S.2 2 0 < 0
  · rw [if_pos h1, if_pos h1]
    by_cases h2 : cQ S = 0
    · rw [if_pos h2, if_pos h2]
      have R2 : Rel (sI (sJ S 0 0 (S.2 0 0 - S.2 2 0)) 0 2 2) (sJ (sJ T 11 51 (S.2 0 0 - S.2 2 0)) 11 49 2) := by
        obtain ⟨rc, rt, rq, rs, rm, re, rb⟩ := R1
        refine ⟨RelC.congr (S := sI (sJ S 0 0 (S.2 0 0 - S.2 2 0)) 0 2 2) (T := sJ T 11 51 (S.2 0 0 - S.2 2 0)) rfl rfl (fun a h1 _ _ _ => ?_) rc, ⟨rt.1, rfl, rt.2.2.1, rt.2.2.2.1, rt.2.2.2.2.1, rt.2.2.2.2.2.1, rt.2.2.2.2.2.2⟩, rq.now 49 2 hI.2.1.2 (by decide), rs.now 49 2 hI.1.2.2 (by decide), rm.now 49 2 (by decide), re.now 49 2 (by decide), rb.now 49 2 (by decide)⟩
        funext b
        rw [rJ_sk _ _ _ _ _ _ (by omega)]
      have q := QC_add (sI (sJ S 0 0 (S.2 0 0 - S.2 2 0)) 0 2 2) (S.1 0 1) 4 0 (cO S) (cC S)
      exact ⟨ev_rel (S := sI (sJ S 0 0 (S.2 0 0 - S.2 2 0)) 0 2 2) (T := sJ (sJ T 11 51 (S.2 0 0 - S.2 2 0)) 11 49 2) hI R2 f5 4 0, RngC.evS q hC, RngD.evS q (S := sI (sJ S 0 0 (S.2 0 0 - S.2 2 0)) 0 2 2) (D1.st 2), KpC.ev (S' := sI (sJ S 0 0 (S.2 0 0 - S.2 2 0)) 0 2 2) K1 q⟩
    · rw [if_neg h2, if_neg h2]
      by_cases h3 : S.1 0 8 ≤ S.1 0 11
      · rw [if_pos h3, if_pos (i2z_le.mpr h3)]
        have hq4 : cQ S ≤ 4 := hI.2.1.2
        have hn : cN S ≤ 6 := hI.1.2.2
        have E : Rel (sX2_add_S (sJ S 0 0 (S.2 0 0 - S.2 2 0)) (S.1 0 1) 0 0 (cO S) (cC S)) (sX12_happens_S (sJ T 11 51 (S.2 0 0 - S.2 2 0)) 0 (0 : Int32).toInt64 (mH (sJ T 11 51 (S.2 0 0 - S.2 2 0)))) := ev_rel (S := sJ S 0 0 (S.2 0 0 - S.2 2 0)) (T := sJ T 11 51 (S.2 0 0 - S.2 2 0)) hI R1 f5 0 0
        have q := QC_add (sJ S 0 0 (S.2 0 0 - S.2 2 0)) (S.1 0 1) 0 0 (cO S) (cC S)
        have DE := RngD.evS q D1
        have CE := RngC.evS q (S := sJ S 0 0 (S.2 0 0 - S.2 2 0)) hC
        have KE := KpC.ev K1 q
        have mE : cM (sX2_add_S (sJ S 0 0 (S.2 0 0 - S.2 2 0)) (S.1 0 1) 0 0 (cO S) (cC S)) = cM S := q.cM_eq
        have qE : cQ (sX2_add_S (sJ S 0 0 (S.2 0 0 - S.2 2 0)) (S.1 0 1) 0 0 (cO S) (cC S)) = cQ S := q.cQ_eq
        have r0 : (sX2_add_S (sJ S 0 0 (S.2 0 0 - S.2 2 0)) (S.1 0 1) 0 0 (cO S) (cC S)).2 0 0 = S.2 0 0 - S.2 2 0 := by rw [q.1]; rfl
        have e0 : LX12_unwind_158_S T 0 = (sJ (sJ (sJ (sJ (sX12_happens_S (sJ T 11 51 (S.2 0 0 - S.2 2 0)) 0 (0 : Int32).toInt64 (mH (sJ T 11 51 (S.2 0 0 - S.2 2 0)))) 15 (cM S) (T.2 11 61 + (S.2 0 0 - S.2 2 0))) 11 62 (lN (cM S + 1))) 11 51 ((S.2 0 0 - S.2 2 0) + T.2 11 53)) 11 52 (lN (cQ S - 1))) := by
          rw [← f4, ← f3, ← hrem, ← ha]
          rfl
        have w1 := fun a b h => L2_unwind T (cQ S - 1) a b h (by omega)
        have w2 := unw_row T (cQ S - 1)
        have w3 : (LX12_unwind_158_S T (cQ S - 1)).1 = (sX12_happens_S (sJ T 11 51 (S.2 0 0 - S.2 2 0)) 0 (0 : Int32).toInt64 (mH (sJ T 11 51 (S.2 0 0 - S.2 2 0)))).1 := by
          funext a b
          rw [L1_unwind, e0]
          rfl
        have pass : (sX2_add_S (sJ S 0 0 (S.2 0 0 - S.2 2 0)) (S.1 0 1) 0 0 (cO S) (cC S)).2 5 0 = T.2 11 61 := by rw [q.1]; exact hR.2.1.2.2.2.2.2.2.symm
        rw [pass, r0]
        have p53 : (sX12_happens_S (sJ T 11 51 (S.2 0 0 - S.2 2 0)) 0 (0 : Int32).toInt64 (mH (sJ T 11 51 (S.2 0 0 - S.2 2 0)))).2 11 53 = T.2 11 53 := (QM_happens _ _ _ _).2 11 53 (by decide)
        generalize sX2_add_S (sJ S 0 0 (S.2 0 0 - S.2 2 0)) (S.1 0 1) 0 0 (cO S) (cC S) = S4 at E q DE CE KE mE qE r0 pass ⊢
        generalize sX12_happens_S (sJ T 11 51 (S.2 0 0 - S.2 2 0)) 0 (0 : Int32).toInt64 (mH (sJ T 11 51 (S.2 0 0 - S.2 2 0))) = T4 at E e0 w3 p53
        generalize LX12_unwind_158_S T (cQ S - 1) = T5 at w1 w2 w3 ⊢
        generalize LX12_unwind_158_S T 0 = T6 at e0 w1 w2
        have t4 := E.2.1
        have n4 : cN S4 = cN S := KE.1
        have c53 : T.2 11 53 = (S.1 1 0).toInt64 := hR.2.2.1.2 0 (by omega)
        have s10 : S4.1 1 = S.1 1 := by funext b; exact q.2 1 b (by omega)
        have hmc : ¬ 512 ≤ cM S := by omega
        unfold sX5_add_S sX9_takeNext_S
        rw [if_neg hmc, if_neg h2]
        have fin : ∀ a b, (¬ a = 11 ∨ b < 53 ∨ 57 < b) → ¬ (a = 15 ∧ b = cM S) → ¬ (a = 11 ∧ (b = 62 ∨ b = 51 ∨ b = 52)) → T5.2 a b = T4.2 a b := fun a b h1 h2 h3 => by
          rw [w1 a b h1, e0, rJ_sk _ _ _ _ _ _ (by omega), rJ_sk _ _ _ _ _ _ (by omega), rJ_sk _ _ _ _ _ _ (by omega), rJ_sk _ _ _ _ _ _ (by omega)]
        generalize hS5 : sI (sJ S4 1 (cM S) (T.2 11 61 + (S.2 0 0 - S.2 2 0))) 0 16 (nI (cM S + 1)) = S5
        generalize hS6 : sRI (sI (sJ S5 0 0 (S5.2 0 0 + (S5.1 1 0).toInt64)) 0 13 (nI (cQ S - 1))) 1 (va_cpy ((sI (sJ S5 0 0 (S5.2 0 0 + (S5.1 1 0).toInt64)) 0 13 (nI (cQ S - 1))).1 1) ((sI (sJ S5 0 0 (S5.2 0 0 + (S5.1 1 0).toInt64)) 0 13 (nI (cQ S - 1))).1 1) 1 0 (cQ S - 1)) = S6
        have w51 : T5.2 11 51 = (S.2 0 0 - S.2 2 0) + T.2 11 53 := by rw [w1 11 51 (by omega), e0, rJ_sk _ _ _ _ _ _ (by omega), rJ_at]
        have w52 : T5.2 11 52 = lN (cQ S - 1) := by rw [w1 11 52 (by omega), e0, rJ_at]
        have w62 : T5.2 11 62 = lN (cM S + 1) := by rw [w1 11 62 (by omega), e0, rJ_sk _ _ _ _ _ _ (by omega), rJ_sk _ _ _ _ _ _ (by omega), rJ_at]
        have w15 : T5.2 15 (cM S) = T.2 11 61 + (S.2 0 0 - S.2 2 0) := by rw [w1 15 _ (by omega), e0, rJ_sk _ _ _ _ _ _ (by omega), rJ_sk _ _ _ _ _ _ (by omega), rJ_sk _ _ _ _ _ _ (by omega), rJ_at]
        have w53 : ∀ j, j < cQ S - 1 → T5.2 11 (53 + j) = T4.2 11 (53 + (j + 1)) := fun j hj => by
          rw [w2 j, if_pos hj, e0, rJ_sk _ _ _ _ _ _ (by omega), rJ_sk _ _ _ _ _ _ (by omega), rJ_sk _ _ _ _ _ _ (by omega), rJ_sk _ _ _ _ _ _ (by omega)]
          rfl
        obtain ⟨rc4, rt4, rq4, rs4, rm4, re4, rb4⟩ := E
        have k13 : S6.1 0 13 = nI (cQ S - 1) := by subst hS6; rfl
        have k16 : S6.1 0 16 = nI (cM S + 1) := by subst hS6; subst hS5; rfl
        have cq6 : cQ S6 = cQ S - 1 := cK k13 (by omega)
        have cm6 : cM S6 = cM S + 1 := cK k16 (by omega)
        have cn6 : cN S6 = cN S := by rw [← n4]; subst hS6; subst hS5; rfl
        have x00 : S6.2 0 0 = (S.2 0 0 - S.2 2 0) + (S.1 1 0).toInt64 := by
          rw [← s10, ← r0]
          subst hS6; subst hS5; rfl
        have x1 : ∀ k, S6.2 1 k = if k = cM S then T.2 11 61 + (S.2 0 0 - S.2 2 0) else S4.2 1 k := fun k => by
          by_cases z : k = cM S
          · rw [if_pos z, z]
            subst hS6; subst hS5
            exact rJ_at S4 1 (cM S) _
          · rw [if_neg z]
            subst hS6; subst hS5
            exact rJ_ne S4 1 (cM S) _ k z
        have xq : ∀ j, j < cQ S - 1 → S6.1 1 j = S.1 1 (j + 1) := fun j hj => by
          rw [← s10]
          subst hS6; subst hS5
          show va_cpy (S4.1 1) (S4.1 1) 1 0 (cQ S - 1) j = _
          unfold va_cpy
          rw [if_pos (by omega), show 1 + (j - 0) = j + 1 by omega]
        have rows6 : ∀ a, ¬ a = 0 → ¬ a = 1 → S6.2 a = S4.2 a := fun a z0 z1 => by
          funext b
          subst hS6; subst hS5
          show (sJ (sJ S4 1 (cM S) _) 0 0 _).2 a b = _
          rw [rJ_sk _ _ _ _ _ _ (by omega), rJ_sk _ _ _ _ _ _ (by omega)]
        have C6 : RngC S6 := by subst hS6; subst hS5; exact CE
        have rc6 : RelC S6 T4 := by subst hS6; subst hS5; exact rc4
        have rs6 : RelS S6 T4 := by subst hS6; subst hS5; exact rs4
        have re6 : RelE S6 T4 := by subst hS6; subst hS5; exact re4
        have rb6 : RelB S6 T4 := by subst hS6; subst hS5; exact rb4
        have rt6 : T4.2 11 48 = (S6.1 0 1).toInt64 ∧ T4.2 11 49 = (S6.1 0 2).toInt64 ∧ T4.2 11 50 = (S6.1 0 8).toInt64 ∧ T4.2 11 57 = S6.2 0 1 ∧ T4.2 11 58 = (S6.1 0 15).toInt64 ∧ T4.2 11 61 = S6.2 5 0 := by
          subst hS6; subst hS5; exact ⟨rt4.1, rt4.2.1, rt4.2.2.1, rt4.2.2.2.2.1, rt4.2.2.2.2.2.1, rt4.2.2.2.2.2.2⟩
        have qr := hD.2.2.2.2 0 (by omega)
        unfold rI at qr
        have pb := hD.1.2.2.2.1
        have e61 : T.2 11 61 = S.2 5 0 := hR.2.1.2.2.2.2.2.2
        have hneg : (S.2 0 0 - S.2 2 0).toInt < 0 := by rw [zlt, c0z] at h1; exact h1
        refine ⟨⟨?_, ?_, ?_, ?_, ?_, ?_, ?_⟩, C6, ⟨?_, ?_, ?_, ?_, ?_⟩, ?_⟩
        · exact RelC.congr rfl w3 (fun a h1 h2 h3 h4 => by funext b; exact fin a b (by omega) (by omega) (by omega)) rc6
        · refine ⟨?_, ?_, ?_, ?_, ?_, ?_, ?_⟩
          · rw [fin _ _ (by omega) (by omega) (by omega)]; exact rt6.1
          · rw [fin _ _ (by omega) (by omega) (by omega)]; exact rt6.2.1
          · rw [fin _ _ (by omega) (by omega) (by omega)]; exact rt6.2.2.1
          · rw [w51, x00, c53]
          · have g := w2 4
            rw [if_neg (by omega), e0, rJ_sk _ _ _ _ _ _ (by omega), rJ_sk _ _ _ _ _ _ (by omega), rJ_sk _ _ _ _ _ _ (by omega), rJ_sk _ _ _ _ _ _ (by omega)] at g
            exact g.trans rt6.2.2.2.1
          · rw [fin _ _ (by omega) (by omega) (by omega)]; exact rt6.2.2.2.2.1
          · rw [fin _ _ (by omega) (by omega) (by omega)]; exact rt6.2.2.2.2.2
        · refine ⟨by rw [w52, cq6], fun j hj => ?_⟩
          rw [cq6] at hj
          rw [w53 j hj, xq j hj, ← s10]
          exact rq4.2 (j + 1) (by omega)
        · intro i hi
          have g := rs6 i hi
          rw [cn6] at hi
          rw [fin _ _ (by omega) (by omega) (by omega), fin _ _ (by omega) (by omega) (by omega), fin _ _ (by omega) (by omega) (by omega), fin _ _ (by omega) (by omega) (by omega), fin _ _ (by omega) (by omega) (by omega), fin _ _ (by omega) (by omega) (by omega), fin _ _ (by omega) (by omega) (by omega)]
          exact g
        · refine ⟨by rw [w62, cm6], fun k hk => ?_⟩
          rw [cm6] at hk
          rw [x1 k]
          by_cases z : k = cM S
          · rw [if_pos z, z, w15]
          · rw [if_neg z, fin _ _ (by omega) (by omega) (by omega)]
            exact rm4.2 k (by omega)
        · refine ⟨by rw [fin _ _ (by omega) (by omega) (by omega)]; exact re6.1, fun k hk => ?_⟩
          rw [fin _ _ (by omega) (by omega) (by omega), fin _ _ (by omega) (by omega) (by omega), fin _ _ (by omega) (by omega) (by omega)]
          exact re6.2 k hk
        · unfold RelB
          rw [fin _ _ (by omega) (by omega) (by omega), fin _ _ (by omega) (by omega) (by omega)]
          exact rb6
        · have g : rI (S6.1 0 1) 0 (B + 1) ∧ rI (S6.1 0 8) 0 20000 ∧ rI (S6.1 0 15) 0 (B + 1) := by subst hS6; subst hS5; exact ⟨DE.1.1, DE.1.2.1, DE.1.2.2.1⟩
          refine ⟨g.1, g.2.1, g.2.2, ?_, ?_⟩
          · rw [rows6 5 (by decide) (by decide)]; exact DE.1.2.2.2.1
          · have : (S.2 0 0 - S.2 2 0 + (S.1 1 0).toInt64).toInt = (S.2 0 0 - S.2 2 0).toInt + (S.1 1 0).toInt := by rw [zadd (by rw [i2z]; omega), i2z]
            rw [x00, this]
            omega
        · have g := DE.2.1
          subst hS6; subst hS5
          exact g
        · rw [cn6, ← n4, mSum_congr (rows6 3 (by decide) (by decide))]
          exact DE.2.2.1
        · intro k hk
          rw [cm6] at hk
          rw [x1 k]
          by_cases z : k = cM S
          · have : (S.2 5 0 + (S.2 0 0 - S.2 2 0)).toInt = (S.2 5 0).toInt + (S.2 0 0 - S.2 2 0).toInt := zadd (by omega)
            rw [if_pos z, e61, this]
            omega
          · rw [if_neg z]
            exact DE.2.2.2.1 k (by omega)
        · intro j hj
          rw [cq6] at hj
          rw [xq j hj]
          exact hD.2.2.2.2 (j + 1) (by omega)
        · refine ⟨cn6, by rw [cm6, cq6]; omega, fun a z0 z1 => by rw [rows6 a z0 z1]; exact KE.2.2.1 a z0 z1, ?_, ?_, ?_, ?_⟩
          · rw [← KE.2.2.2.1]; subst hS6; subst hS5; rfl
          · rw [← KE.2.2.2.2.1]; subst hS6; subst hS5; rfl
          · rw [← KE.2.2.2.2.2.1]; subst hS6; subst hS5; rfl
          · rw [← KE.2.2.2.2.2.2]; subst hS6; subst hS5; rfl
      · rw [if_neg h3, if_neg (fun z => h3 (i2z_le.mp z))]
        have q : QC (sI (sI (sJ S 0 0 (S.2 0 0 - S.2 2 0)) 0 2 1) 0 3 (-1)) (sX3_breakWeb_S (sJ S 0 0 (S.2 0 0 - S.2 2 0)) (-1)) := QC_add (sI (sI (sJ S 0 0 (S.2 0 0 - S.2 2 0)) 0 2 1) 0 3 (-1)) (S.1 0 1) 1 (-1) (cO S) (cC S)
        exact ⟨break_rel (S := sJ S 0 0 (S.2 0 0 - S.2 2 0)) (T := sJ T 11 51 (S.2 0 0 - S.2 2 0)) hI R1 f5 (-1), RngC.evS q hC, RngD.evS q (S := sI (sI (sJ S 0 0 (S.2 0 0 - S.2 2 0)) 0 2 1) 0 3 (-1)) ((D1.st 1).brk (-1)), KpC.ev (S' := sI (sI (sJ S 0 0 (S.2 0 0 - S.2 2 0)) 0 2 1) 0 3 (-1)) K1 q⟩
  · rw [if_neg h1, if_neg h1]
    exact ⟨R1, hC, D1, K1⟩
