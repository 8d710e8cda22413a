/-! ===== the tick up to the moving of the web ===== -/
theorem RelC.congr {S S' T T' : St} (h1 : S'.1 = S.1) (h2 : T'.1 = T.1) (h3 : ∀ a, ¬ a = 11 → ¬ a = 13 → ¬ a = 15 → ¬ a = 17 → T'.2 a = T.2 a) (h : RelC S T) : RelC S' T' := by
  unfold RelC cN at *
  rw [h1, h2, h3 0 (by decide) (by decide) (by decide) (by decide), h3 1 (by decide) (by decide) (by decide) (by decide), h3 3 (by decide) (by decide) (by decide) (by decide), h3 4 (by decide) (by decide) (by decide) (by decide), h3 5 (by decide) (by decide) (by decide) (by decide), h3 6 (by decide) (by decide) (by decide) (by decide), h3 7 (by decide) (by decide) (by decide) (by decide), h3 8 (by decide) (by decide) (by decide) (by decide), h3 9 (by decide) (by decide) (by decide) (by decide), h3 10 (by decide) (by decide) (by decide) (by decide)]
  exact h
theorem RngC.congr {S S' : St} (h1 : S'.1 = S.1) (h : RngC S) : RngC S' := by
  unfold RngC cN at *
  rw [h1]
  exact h
theorem mSum_congr {S S' : St} (h : S'.2 3 = S.2 3) (n : Nat) : mSum S' n = mSum S n := by
  induction n with
  | zero => rfl
  | succ n ih => unfold mSum; rw [ih, h]
/-- the class's state after the base speed's step -/
def hS1 (S : St) (b : Int32) : St := sI (sI S 0 1 (S.1 0 1 + 1)) 0 8 b
theorem c1I : (1 : Int32).toInt = 1 := rfl
theorem c1Z : (1 : Int64).toInt = 1 := rfl
theorem time_step {x : Int32} {B : Int} (hB : 0 ≤ B ∧ B ≤ 200000) (h : rI x 0 B) : (x + 1).toInt64 = x.toInt64 + 1 ∧ rI (x + 1) 0 (B + 1) := by
  unfold rI at *
  have e : (x + 1).toInt = x.toInt + 1 := by rw [iadd (by rw [c1I]; omega), c1I]
  refine ⟨?_, by omega⟩
  rw [zeq, i2z, e, zadd (by rw [i2z, c1Z]; omega), i2z, c1Z]
theorem RngD.up {S : St} {B : Int} (h : RngD S B) : RngD S (B + 1) := by
  obtain ⟨⟨⟨a1, a2⟩, b, ⟨c1, c2⟩, ⟨e1, e2⟩, f1, f2⟩, d2, d3, d4, d5⟩ := h
  refine ⟨⟨⟨a1, by omega⟩, b, ⟨c1, by omega⟩, ⟨e1, by omega⟩, by omega, f2⟩, fun i hi => ?_, by omega, fun k hk => ?_, d5⟩
  · have g := d2 i hi
    exact ⟨g.1, g.2.1, ⟨g.2.2.1.1, by have := g.2.2.1.2; omega⟩, g.2.2.2⟩
  · have g := d4 k hk
    omega
theorem half_sim {S T : St} (hI : Inv S) (hR : Rel S T) (hC : RngC S) {B : Int} (hB : 0 ≤ B ∧ B ≤ 199999) (hD : RngD S B) (hbud : cM S + cQ S ≤ 512) :
    ∃ b : Int32, sX1_approachWanted_S (sI S 0 1 (S.1 0 1 + 1)) (sX9_isSplicePending (sI S 0 1 (S.1 0 1 + 1)) (S.1 0 12)) = hS1 S b ∧
      Rel (sX3_passWeb_S (hS1 S b)) (sX12_feed_S (mPre T)) ∧ RngD (sX3_passWeb_S (hS1 S b)) (B + 1) ∧ (sX3_passWeb_S (hS1 S b)).1 = (hS1 S b).1 ∧
      (∀ a, ¬ a = 2 → ¬ a = 3 → ¬ a = 5 → (sX3_passWeb_S (hS1 S b)).2 a = S.2 a) ∧
      (∀ r, r ≤ cN S → (sX12_feed_S (mPre T)).2 17 r = (sX3_passWeb_S (hS1 S b)).2 2 r) ∧
      (0 ≤ ((sX3_passWeb_S (hS1 S b)).2 2 0).toInt ∧ ((sX3_passWeb_S (hS1 S b)).2 2 0).toInt ≤ 20000) ∧
      (¬ (mPre T).2 0 0 + (mPre T).2 0 1 = 0) ∧ (∀ j, j < cN (mPre T) → ¬ sX12_length (mPre T) j = 0) := by
  obtain ⟨f1, f2, f3, f4, f5⟩ := relM_facts hI hR hbud
  obtain ⟨b, hb1, hb2, hb3⟩ := s1_sim hI hR hC hD
  obtain ⟨rc, rt, rq, rs, rm, re, rb⟩ := hR
  have hDu := hD.up
  obtain ⟨⟨e1, e2, e3, ⟨e4, e5⟩, e6⟩, d2, d3, d4, d5⟩ := hD
  obtain ⟨t1, t2⟩ := time_step (by omega) e1
  have hI1 : Inv (hS1 S b) := hI
  obtain ⟨⟨n0, n1, n2⟩, ⟨q0, q1⟩, -⟩ := hI
  have hn : cN (hS1 S b) = cN S := rfl
  have hT1 : (mPre T).1 = T.1 := by rw [hb2]; rfl
  have hT2 : ∀ a, ¬ a = 11 → (mPre T).2 a = T.2 a := fun a ha => by
    rw [hb2]
    funext c
    rw [rJ_sk _ _ _ _ _ _ (by omega), rJ_sk _ _ _ _ _ _ (by omega)]
  have hT3 : ∀ c, ¬ c = 48 → ¬ c = 50 → (mPre T).2 11 c = T.2 11 c := fun c h1 h2 => by
    rw [hb2, rJ_sk _ _ _ _ _ _ (by omega), rJ_sk _ _ _ _ _ _ (by omega)]
  have hT48 : (mPre T).2 11 48 = T.2 11 48 + 1 := by rw [hb2]; rfl
  have hT50 : (mPre T).2 11 50 = b.toInt64 := by rw [hb2]; rfl
  have hTn : cN (mPre T) = cN S := by
    unfold cN at *
    rw [hT1]; exact f2
  have rc1 : RelC (hS1 S b) (mPre T) := RelC.congr (S := hS1 S b) (T := T) rfl hT1 (fun a h _ _ _ => hT2 a h) rc
  have rs1 : RelS (hS1 S b) (mPre T) := by
    rw [hb2]
    exact (rs.now 48 _ n2 (by decide)).now 50 _ n2 (by decide)
  have hC1 : RngC (hS1 S b) := hC
  have hD1 : RngD (hS1 S b) (B + 1) := by
    refine ⟨⟨t2, hb3, hDu.1.2.2.1, hDu.1.2.2.2.1, hDu.1.2.2.2.2⟩, hDu.2.1, ?_, hDu.2.2.2.1, d5⟩
    rw [hn, mSum_congr (S := S) (S' := hS1 S b) rfl (cN S)]
    exact hDu.2.2.1
  have am := fun r hr => am_sim hI1 hTn rc1 hT50 rs1 hC1 hb3 (by omega) hD1 r hr
  obtain ⟨p1, p2, p3, p4⟩ := passWeb_end (hS1 S b) (cN S) (Nat.le_refl _)
  obtain ⟨q1', q2, q3, q4, q5, q6⟩ := feed_end (mPre T) (by rw [hTn]; exact n2) (cN S) (by rw [hTn]; exact Nat.le_refl _)
  have eS : sX3_passWeb_S (hS1 S b) = LX3_passWeb_115_S (hS1 S b) (cN S) := rfl
  have eT : sX12_feed_S (mPre T) = LX12_feed_93_S (mPre T) (cN S) := by unfold sX12_feed_S; rw [hTn]
  have h1 : (sX3_passWeb_S (hS1 S b)).1 = (hS1 S b).1 := L2_passWeb (hS1 S b) (cN S)
  rw [← eS] at p1 p2 p3 p4
  rw [← eT] at q1' q2 q3 q4 q5 q6
  have hT' : (sX12_feed_S (mPre T)).1 = (mPre T).1 := I_X12_feed _
  refine ⟨b, hb1, ?_⟩
  generalize hS2 : sX3_passWeb_S (hS1 S b) = S2 at *
  generalize hT2' : sX12_feed_S (mPre T) = T2 at *
  have k11 : ∀ c, ¬ c = 61 → ¬ c = 48 → ¬ c = 50 → (48 ≤ c ∨ (¬ c % 8 = 0 ∧ ¬ c % 8 = 4)) → T2.2 11 c = T.2 11 c := fun c h1 h2 h3 h4 => by rw [q6 c h1 h4, hT3 c h2 h3]
  have cn2 : cN S2 = cN S := by unfold cN; rw [h1]; rfl
  have cq2 : cQ S2 = cQ S := by unfold cQ; rw [h1]; rfl
  have cm2 : cM S2 = cM S := by unfold cM; rw [h1]; rfl
  have co2 : cO S2 = cO S := by unfold cO; rw [h1]; rfl
  have cc2 : cC S2 = cC S := by unfold cC; rw [h1]; rfl
  have a0 := am 0 (by omega)
  have a0b := a0.2.2.1 rfl
  have ms := mSum_step (S := S) (S2 := S2) (cN S) (amC (hS1 S b)) (fun i hi => by rw [p4 i, if_pos hi]; rfl) (fun i hi => ⟨(d2 i hi).1, by have := (mSum_le (cN S) (fun i hi => (d2 i hi).1)).2 i hi; omega⟩) (fun r hr => (am r hr).2.1) a0b (fun i hi => (am (i + 1) (by omega)).2.2.2 i rfl) (cN S) (Nat.le_refl _)
  have an := (am (cN S) (Nat.le_refl _)).2.1
  refine ⟨⟨RelC.congr h1 hT' (fun a h _ _ h4 => q1' a h h4) rc1, ?_, ?_, ?_, ?_, ?_, ?_⟩, ⟨?_, ?_, ?_, ?_, ?_⟩, h1, fun a x y z => p1 a x y z, fun r hr => by rw [q2 r (by rw [hTn]; exact hr), p2 r hr, (am r hr).1], by rw [p2 0 (by omega)]; exact ⟨a0.2.1, a0b⟩, ?_, ?_⟩
  · obtain ⟨r1, r2, r3, r4, r5, r6, r7⟩ := rt
    refine ⟨?_, ?_, ?_, ?_, ?_, ?_, ?_⟩
    · rw [q6 48 (by decide) (by omega), hT48, r1, h1]; exact t1.symm
    · rw [k11 49 (by decide) (by decide) (by decide) (by omega), r2, h1]; rfl
    · rw [q6 50 (by decide) (by omega), hT50, h1]; rfl
    · rw [k11 51 (by decide) (by decide) (by decide) (by omega), r4, p1 0 (by decide) (by decide) (by decide)]; rfl
    · rw [k11 57 (by decide) (by decide) (by decide) (by omega), r5, p1 0 (by decide) (by decide) (by decide)]; rfl
    · rw [k11 58 (by decide) (by decide) (by decide) (by omega), r6, h1]; rfl
    · rw [q3, hT3 61 (by decide) (by decide), r7, p3, if_pos (by omega), a0.1]; rfl
  · refine ⟨by rw [k11 52 (by decide) (by decide) (by decide) (by omega), cq2]; exact rq.1, fun j hj => ?_⟩
    rw [cq2] at hj
    rw [k11 (53 + j) (by omega) (by omega) (by omega) (by omega), h1]
    exact rq.2 j hj
  · intro i hi
    rw [cn2] at hi
    have g := rs i hi
    have a1 := am i (by omega)
    have a2 := am (i + 1) (by omega)
    refine ⟨⟨?_, ?_, ?_, ?_, ?_⟩, fun hc => ⟨?_, ?_⟩⟩
    · rw [q4 i (by omega), if_pos hi, hT3 _ (by omega) (by omega), g.1.1, p4, if_pos hi, a1.1, a2.1]; rfl
    · rw [k11 _ (by omega) (by omega) (by omega) (by omega), g.1.2.1, h1]; rfl
    · rw [q5 i (by omega), if_pos hi, hT3 _ (by omega) (by omega), g.1.2.2.1, p3, if_pos (by omega), a2.1]; rfl
    · rw [k11 _ (by omega) (by omega) (by omega) (by omega), g.1.2.2.2.1, h1]; rfl
    · rw [k11 _ (by omega) (by omega) (by omega) (by omega), g.1.2.2.2.2, p1 4 (by decide) (by decide) (by decide)]; rfl
    · rw [k11 _ (by omega) (by omega) (by omega) (by omega), h1]
      rw [h1] at hc
      exact (g.2 hc).1
    · rw [k11 _ (by omega) (by omega) (by omega) (by omega), h1]
      rw [h1] at hc
      exact (g.2 hc).2
  · refine ⟨by rw [k11 62 (by decide) (by decide) (by decide) (by omega), cm2]; exact rm.1, fun k hk => ?_⟩
    rw [cm2] at hk
    rw [q1' 15 (by decide) (by decide), hT2 15 (by decide), p1 1 (by decide) (by decide) (by decide)]
    exact rm.2 k hk
  · refine ⟨by rw [k11 63 (by decide) (by decide) (by decide) (by omega), cc2]; exact re.1, fun k hk => ?_⟩
    rw [cc2] at hk
    rw [q1' 13 (by decide) (by decide), hT2 13 (by decide), co2, h1]
    exact re.2 k hk
  · unfold RelB
    rw [k11 59 (by decide) (by decide) (by decide) (by omega), k11 60 (by decide) (by decide) (by decide) (by omega), h1]
    exact rb
  · rw [h1, p1 0 (by decide) (by decide) (by decide), p3, if_pos (by omega)]
    refine ⟨t2, hb3, ⟨e3.1, by have := e3.2; show (S.1 0 15).toInt ≤ _; omega⟩, ?_, ?_⟩
    · have e : ((hS1 S b).2 5 0 + amC (hS1 S b) 0).toInt = (S.2 5 0).toInt + (amC (hS1 S b) 0).toInt := zadd (x := S.2 5 0) (by omega)
      rw [e]
      omega
    · show _ ≤ (S.2 0 0).toInt ∧ (S.2 0 0).toInt ≤ _
      omega
  · intro i hi
    rw [cn2] at hi
    have g := d2 i hi
    rw [h1]
    exact ⟨ms.2 i hi, g.2.1, ⟨g.2.2.1.1, by have := g.2.2.1.2; show (S.1 7 i).toInt ≤ _; omega⟩, g.2.2.2⟩
  · rw [cn2, ms.1]
    omega
  · intro k hk
    rw [cm2] at hk
    have g := d4 k hk
    rw [p1 1 (by decide) (by decide) (by decide)]
    show _ ≤ (S.2 1 k).toInt ∧ (S.2 1 k).toInt ≤ _
    omega
  · intro j hj
    rw [cq2] at hj
    rw [h1]
    exact d5 j hj
  · intro hz
    rw [rc1.1.2.1, rc1.1.2.2.1, zeq] at hz
    have g1 := hC1.1.1
    have g2 := hC1.1.2.1
    unfold rI at g1 g2
    rw [zadd (by rw [i2z, i2z]; omega), i2z, i2z, c0z] at hz
    omega
  · intro j hj hz
    rw [hTn] at hj
    have c := rc1.2 j hj
    have s := rs1 j hj
    have g := hC1.2.2 j hj
    have d := d2 j hj
    obtain ⟨l1, l2, l3⟩ := len_sim c.1.1 c.1.2.1 (fun z => (s.2 z).1) g.1 (fun z => ⟨(d.2.2.2 z).1, by have x1 := (d.2.2.2 z).2.1; have x2 := (g.2.2.2.1 z).1.2; exact Int.le_trans x1 x2⟩)
    rw [← l1, hz, c0z] at l2
    omega
