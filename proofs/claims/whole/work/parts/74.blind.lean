/-! ===== a tick of the class's line does not read its events ===== -/
theorem QC.symm {X Y : St} (h : QC X Y) : QC Y X := ⟨h.1.symm, fun a b n => (h.2 a b n).symm⟩
theorem QC.trans {X Y Z : St} (h : QC X Y) (g : QC Y Z) : QC X Z := ⟨g.1.trans h.1, fun a b n => (g.2 a b n).trans (h.2 a b n)⟩
theorem QC.cI {X Y : St} (h : QC X Y) (a b : Nat) {v w : Int32} (e : w = v) : QC (sI X a b v) (sI Y a b w) := by
  subst e
  refine ⟨h.1, fun x y n => ?_⟩
  rw [rI_sI, rI_sI, h.2 x y n]
theorem QC.cJ {X Y : St} (h : QC X Y) (a b : Nat) {v w : Int64} (e : w = v) : QC (sJ X a b v) (sJ Y a b w) := by
  subst e
  refine ⟨?_, h.2⟩
  show va_up Y.2 a (va_up (Y.2 a) b w) = va_up X.2 a (va_up (X.2 a) b w)
  rw [h.1]
theorem QC.cRJ {X Y : St} (h : QC X Y) (a : Nat) {v w : Nat → Int64} (e : w = v) : QC (sRJ X a v) (sRJ Y a w) := by
  subst e
  refine ⟨?_, h.2⟩
  show va_up Y.2 a w = va_up X.2 a w
  rw [h.1]
theorem QC.cRI {X Y : St} (h : QC X Y) (a : Nat) {v w : Nat → Int32} (e : w = v) : QC (sRI X a v) (sRI Y a w) := by
  subst e
  refine ⟨h.1, fun x y n => ?_⟩
  show (va_up Y.1 a w) x y = (va_up X.1 a w) x y
  unfold va_up
  by_cases c : x = a
  · rw [if_pos c, if_pos c]
  · rw [if_neg c, if_neg c]
    exact h.2 x y n
theorem QC.add2 {X Y : St} (h : QC X Y) (x y z x' y' z' : Int32) (o c o' c' : Nat) : QC (sX2_add_S X x y z o c) (sX2_add_S Y x' y' z' o' c') := ((QC_add X x y z o c).symm.trans h).trans (QC_add Y x' y' z' o' c')
theorem QC.ite {X Y X' Y' : St} {p q : Prop} [Decidable p] [Decidable q] (e : p ↔ q) (h1 : QC X Y) (h2 : QC X' Y') : QC (if p then X else X') (if q then Y else Y') := by
  by_cases c : p
  · rw [if_pos c, if_pos (e.mp c)]
    exact h1
  · rw [if_neg c, if_neg (fun z => c (e.mpr z))]
    exact h2
theorem QC.i {X Y : St} (h : QC X Y) (a b : Nat) (n : ¬ (a = 2 ∨ a = 3 ∨ a = 4 ∨ (a = 0 ∧ (b = 17 ∨ b = 18)))) : Y.1 a b = X.1 a b := h.2 a b n
theorem QC.len {X Y : St} (h : QC X Y) (i : Nat) : sX8_length Y i = sX8_length X i := by
  have e : sX8_length (mkC Y) i = sX8_length (mkC X) i := by rw [mkC_eq h]
  exact e
theorem QC.ten {X Y : St} (h : QC X Y) (i : Nat) (x : Int32) : sX8_tensionAt Y i x = sX8_tensionAt X i x := by
  unfold sX8_tensionAt
  rw [h.len, h.1]
theorem QC.nom {X Y : St} (h : QC X Y) (r : Nat) (x : Int32) (n : Nat) : sX3_nominalSpeed Y r x n = sX3_nominalSpeed X r x n := by
  have g : ∀ k, LX3_nominalSpeed_6_3 Y r x n k = LX3_nominalSpeed_6_3 X r x n k := by
    intro k
    induction k with
    | zero => rfl
    | succ k ih =>
      unfold LX3_nominalSpeed_6_3
      rw [ih, h.i 17 (k + 1) (by omega)]
  exact g r
theorem QC.speed {X Y : St} (h : QC X Y) (r n : Nat) : sX3_speedOf Y r n = sX3_speedOf X r n := by
  unfold sX3_speedOf
  rw [h.i 0 8 (by omega), h.nom, h.i 18 r (by omega)]
theorem QC.place {X Y : St} (h : QC X Y) (r n : Nat) : sX3_placeAtRoller Y r n = sX3_placeAtRoller X r n := by
  have g : ∀ k, LX3_placeAtRoller_13_2 Y r n k = LX3_placeAtRoller_13_2 X r n k := by
    intro k
    induction k with
    | zero => unfold LX3_placeAtRoller_13_2; rw [h.1]
    | succ k ih =>
      unfold LX3_placeAtRoller_13_2
      rw [ih, h.1]
  exact g r
theorem QC.marks {X Y : St} (h : QC X Y) (i n mc : Nat) : sX3_marksIn Y i n mc = sX3_marksIn X i n mc := by
  unfold sX3_marksIn sX5_countBetween
  rw [h.place, h.place]
  have g : ∀ x y k, LX5_countBetween_6_5 Y x y mc k = LX5_countBetween_6_5 X x y mc k := by
    intro x y k
    induction k with
    | zero => rfl
    | succ k ih =>
      unfold LX5_countBetween_6_5
      rw [ih, h.1]
  exact g _ _ mc
theorem QC.pass42 {X Y : St} (h : QC X Y) : ∀ k, QC (LX3_passWeb_42_S X k) (LX3_passWeb_42_S Y k) := by
  intro k
  induction k with
  | zero => exact h.cJ _ _ (by rw [h.speed, h.cN_eq, h.i 0 4 (by omega), h.i 0 5 (by omega)])
  | succ k ih => exact ih.cJ _ _ (by rw [ih.speed, h.cN_eq, ih.1, ih.len])
theorem QC.pass {X Y : St} (h : QC X Y) : QC (sX3_passWeb_S X) (sX3_passWeb_S Y) := by
  have g : ∀ k, QC (LX3_passWeb_115_S X k) (LX3_passWeb_115_S Y k) := by
    intro k
    induction k with
    | zero =>
      have p := h.pass42 (cN X)
      unfold LX3_passWeb_115_S
      rw [h.cN_eq]
      exact p.cJ _ _ (by rw [p.1])
    | succ k ih =>
      have p := h.pass42 (cN X)
      unfold LX3_passWeb_115_S
      exact (ih.cJ _ _ (by rw [ih.1])).cJ _ _ (by rw [ih.1])
  unfold sX3_passWeb_S
  rw [h.cN_eq]
  exact g _
theorem QC.wanted {X Y : St} (h : QC X Y) (x : Int32) : QC (sX1_approachWanted_S X x) (sX1_approachWanted_S Y x) := by
  unfold sX1_approachWanted_S
  exact QC.ite Iff.rfl (h.cI _ _ (by rw [h.i 0 8 (by omega), h.i 0 9 (by omega), h.i 0 10 (by omega)])) (h.cI _ _ (by rw [h.i 0 8 (by omega), h.i 0 9 (by omega), h.i 0 10 (by omega), h.i 0 11 (by omega)]))
theorem QC.pending {X Y : St} (h : QC X Y) (x : Int32) : sX9_isSplicePending Y x = sX9_isSplicePending X x := by
  unfold sX9_isSplicePending
  rw [h.1, h.i 0 13 (by omega)]
theorem QC.breakW {X Y : St} (h : QC X Y) (x : Int32) : QC (sX3_breakWeb_S X x) (sX3_breakWeb_S Y x) := by
  unfold sX3_breakWeb_S
  exact ((h.cI 0 2 rfl).cI 0 3 rfl).add2 _ _ _ _ _ _ _ _ _ _
theorem QC.takeNext {X Y : St} (h : QC X Y) (q : Nat) : QC (sX9_takeNext_S X q) (sX9_takeNext_S Y q) := by
  have e1 : Y.1 1 = X.1 1 := by funext b; exact h.i 1 b (by omega)
  unfold sX9_takeNext_S
  refine QC.ite Iff.rfl h ?_
  have g : QC (sI (sJ X 0 0 (X.2 0 0 + (X.1 1 0).toInt64)) 0 13 (nI (q - 1))) (sI (sJ Y 0 0 (Y.2 0 0 + (Y.1 1 0).toInt64)) 0 13 (nI (q - 1))) := (h.cJ _ _ (by rw [h.1, e1])).cI _ _ rfl
  refine g.cRI _ ?_
  show va_cpy (Y.1 1) (Y.1 1) 1 0 (q - 1) = va_cpy (X.1 1) (X.1 1) 1 0 (q - 1)
  rw [e1]
theorem QC.addMark {X Y : St} (h : QC X Y) (mc : Nat) {x y : Int64} (e : y = x) : QC (sX5_add_S X x mc) (sX5_add_S Y y mc) := by
  unfold sX5_add_S
  exact QC.ite Iff.rfl h ((h.cJ _ _ e).cI _ _ rfl)
theorem QC.unwind {X Y : St} (h : QC X Y) : QC (sX3_unwind_S X) (sX3_unwind_S Y) := by
  have g : QC (sJ X 0 0 (X.2 0 0 - X.2 2 0)) (sJ Y 0 0 (Y.2 0 0 - Y.2 2 0)) := h.cJ _ _ (by rw [h.1])
  unfold sX3_unwind_S
  rw [h.cQ_eq, h.cM_eq]
  refine QC.ite (by rw [h.1]) ?_ g
  refine QC.ite Iff.rfl ((g.cI 0 2 rfl).add2 _ _ _ _ _ _ _ _ _ _) ?_
  refine QC.ite (by rw [h.i 0 8 (by omega), h.i 0 11 (by omega)]) ?_ (g.breakW _)
  have a := g.add2 (X.1 0 1) 0 0 (Y.1 0 1) 0 0 (cO X) (cC X) (cO Y) (cC Y)
  exact (a.addMark _ (by rw [a.1])).takeNext _
theorem QC.takes {X Y : St} (h : QC X Y) {x y : Int64} (e : y = x) : QC (sX6_takes_S X x) (sX6_takes_S Y y) ∧ sX6_takes Y y = sX6_takes X x := by
  subst e
  unfold sX6_takes_S sX6_takes
  refine ⟨QC.ite (by rw [h.1, h.i 0 14 (by omega)]) (((h.cJ _ _ (by rw [h.1])).cJ _ _ (by rw [h.1, h.i 0 14 (by omega)])).cI _ _ (by rw [h.i 0 15 (by omega)])) (h.cJ _ _ (by rw [h.1])), ?_⟩
  rw [h.1, h.i 0 14 (by omega)]
theorem QC.wind {X Y : St} (h : QC X Y) : QC (sX3_wind_S X) (sX3_wind_S Y) := by
  obtain ⟨t1, t2⟩ := h.takes (x := X.2 2 (cN X)) (y := Y.2 2 (cN Y)) (by rw [h.1, h.cN_eq])
  unfold sX3_wind_S
  exact QC.ite (by rw [t2]) t1 (t1.add2 _ _ _ _ _ _ _ _ _ _)
theorem QC.move {X Y : St} (h : QC X Y) (k : Nat) {x y : Int64} (e : y = x) : QC (sX0_move_S X k x) (sX0_move_S Y k y) := by
  subst e
  have g : QC (sI X 13 k ((sX11_limit (((X.1 13 k).toInt64) + (sX11_limit (sX11_quotient (((X.1 9 k).toInt64) - (2 * y)) ((X.1 10 k).toInt64)) (-500) 500)) 0 ((X.1 8 k).toInt64)).toInt32)) (sI Y 13 k ((sX11_limit (((Y.1 13 k).toInt64) + (sX11_limit (sX11_quotient (((Y.1 9 k).toInt64) - (2 * y)) ((Y.1 10 k).toInt64)) (-500) 500)) 0 ((Y.1 8 k).toInt64)).toInt32)) := h.cI _ _ (by rw [h.i 13 k (by omega), h.i 9 k (by omega), h.i 10 k (by omega), h.i 8 k (by omega)])
  unfold sX0_move_S
  refine g.cI _ _ ?_
  unfold sX0_error
  rw [g.i 13 k (by omega), g.i 8 k (by omega), h.i 14 k (by omega)]
theorem QC.control {X Y : St} (h : QC X Y) : QC (sX3_control_S X) (sX3_control_S Y) := by
  have g : ∀ k, QC (LX3_control_2_S X k) (LX3_control_2_S Y k) := by
    intro k
    induction k with
    | zero => exact h
    | succ k ih =>
      unfold LX3_control_2_S
      refine QC.ite (by rw [ih.i 6 k (by omega)]) ?_ (QC.ite (by rw [ih.i 6 k (by omega)]) ?_ ih)
      · have m := ih.move k (x := sX8_tensionAt (LX3_control_2_S X k) k ((LX3_control_2_S X k).1 0 4)) (y := sX8_tensionAt (LX3_control_2_S Y k) k ((LX3_control_2_S Y k).1 0 4)) (by rw [ih.ten, ih.i 0 4 (by omega)])
        refine m.cI _ _ ?_
        unfold sX0_trim sX0_error
        rw [m.i 11 k (by omega), m.i 12 k (by omega), m.i 13 k (by omega), m.i 14 k (by omega), m.i 8 k (by omega)]
      · refine ih.cI _ _ ?_
        unfold sX4_trimAfter
        rw [ih.ten, ih.i 0 4 (by omega), ih.i 18 (k + 1) (by omega), ih.i 16 k (by omega), ih.i 15 k (by omega)]
  unfold sX3_control_S
  rw [h.cN_eq]
  exact g _
theorem QC.slack {X Y : St} (h : QC X Y) (i : Nat) (x : Int64) : QC (sX3_countSlack_S X i x) (sX3_countSlack_S Y i x) := by
  have e : Y.1 7 i = X.1 7 i := h.i 7 i (by omega)
  unfold sX3_countSlack_S
  rw [e]
  refine QC.ite Iff.rfl (QC.ite Iff.rfl ((h.cI _ _ rfl).add2 _ _ _ _ _ _ _ _ _ _) (h.cI _ _ rfl)) (QC.ite Iff.rfl (h.cI _ _ rfl) ((h.cI _ _ rfl).add2 _ _ _ _ _ _ _ _ _ _))
theorem QC.strength {X Y : St} (h : QC X Y) (x : Int32) : sX10_strengthWith Y x = sX10_strengthWith X x := by
  unfold sX10_strengthWith
  rw [h.i 0 6 (by omega), h.i 0 7 (by omega)]
theorem QC.inOne {X Y : St} (h : QC X Y) (k n mc : Nat) : QC (inC X k n mc) (inC Y k n mc) := by
  have t : sX8_tensionAt Y k (Y.1 0 4) = sX8_tensionAt X k (X.1 0 4) := by rw [h.ten, h.i 0 4 (by omega)]
  unfold inC
  simp only [t]
  generalize sX8_tensionAt X k (X.1 0 4) = z
  have p := (h.cJ 4 k (v := sJ9_max_f86c9 (X.2 4 k) z) (w := sJ9_max_f86c9 (Y.2 4 k) z) (by rw [h.1])).slack k z
  refine QC.ite (by rw [p.strength, p.marks]) p (QC.ite (by rw [p.i 0 2 (by omega)]) p (p.breakW _))
theorem QC.drop {X Y : St} (h : QC X Y) {x y : Int64} (e : y = x) (mc : Nat) : QC (sX5_dropUpTo_S X x mc) (sX5_dropUpTo_S Y y mc) := by
  subst e
  unfold sX5_dropUpTo_S
  exact (h.cI _ _ (by rw [h.1])).cRJ _ (by rw [h.1])
theorem QC.inspect {X Y : St} (h : QC X Y) : QC (sX3_inspect_S X) (sX3_inspect_S Y) := by
  have g : ∀ k, QC (LX3_inspect_17_S X k) (LX3_inspect_17_S Y k) := by
    intro k
    induction k with
    | zero =>
      unfold LX3_inspect_17_S
      rw [h.cM_eq]
      exact h.drop (by rw [h.place, h.cN_eq]) _
    | succ k ih =>
      show QC (inC (LX3_inspect_17_S X k) k (cN X) (cM (LX3_inspect_17_S X k))) (inC (LX3_inspect_17_S Y k) k (cN Y) (cM (LX3_inspect_17_S Y k)))
      rw [ih.cM_eq, h.cN_eq]
      exact ih.inOne _ _ _
  unfold sX3_inspect_S
  rw [h.cN_eq]
  exact g _
theorem QC.tick {X Y : St} (h : QC X Y) : QC (sX3_tick_S X) (sX3_tick_S Y) := by
  have e1 : QC (sI X 0 1 (X.1 0 1 + 1)) (sI Y 0 1 (Y.1 0 1 + 1)) := h.cI _ _ (by rw [h.i 0 1 (by omega)])
  have e2 : QC (sX1_approachWanted_S (sI X 0 1 (X.1 0 1 + 1)) (sX9_isSplicePending (sI X 0 1 (X.1 0 1 + 1)) (X.1 0 12))) (sX1_approachWanted_S (sI Y 0 1 (Y.1 0 1 + 1)) (sX9_isSplicePending (sI Y 0 1 (Y.1 0 1 + 1)) (Y.1 0 12))) := by
    rw [e1.pending, h.i 0 12 (by omega)]
    exact e1.wanted _
  have e3 := ((e2.pass).unwind).wind
  unfold sX3_tick_S
  generalize sX3_wind_S (sX3_unwind_S (sX3_passWeb_S (sX1_approachWanted_S (sI X 0 1 (X.1 0 1 + 1)) (sX9_isSplicePending (sI X 0 1 (X.1 0 1 + 1)) (X.1 0 12))))) = P at e3 ⊢
  generalize sX3_wind_S (sX3_unwind_S (sX3_passWeb_S (sX1_approachWanted_S (sI Y 0 1 (Y.1 0 1 + 1)) (sX9_isSplicePending (sI Y 0 1 (Y.1 0 1 + 1)) (Y.1 0 12))))) = Q at e3 ⊢
  exact QC.ite (by rw [h.i 0 2 (by omega)]) (QC.ite (by rw [e3.i 0 8 (by omega)]) e3.inspect e3.control.inspect) h
