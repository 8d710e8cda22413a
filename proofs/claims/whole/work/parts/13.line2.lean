theorem Inv.congr {S S' : St} (h : S'.1 = S.1) (hI : Inv S) : Inv S' := by
  unfold Inv cN cQ cM cO cC at *
  rw [h]
  exact hI
theorem inv_X1_approachWanted (S : St) (x : Int32) (hI : Inv S) : Inv (sX1_approachWanted_S S x) := by
  unfold sX1_approachWanted_S
  repeat' split
  all_goals exact hI
theorem inv_X6_takes (S : St) (x : Int64) (hI : Inv S) : Inv (sX6_takes_S S x) := by
  unfold sX6_takes_S
  repeat' split
  all_goals exact hI
theorem inv_X5_dropUpTo (S : St) (x : Int64) (hI : Inv S) : Inv (sX5_dropUpTo_S S x (cM S)) := by
  obtain ⟨⟨h1, b1, b2⟩, ⟨h2, b3⟩, ⟨h3, b4⟩, ⟨h4, b5⟩, ⟨h5, b6⟩⟩ := id hI
  exact Inv.of (mc := cM S - xLead (S.2 1) x (cM S) 0) h1 h2 rfl h4 h5 ⟨⟨b1, b2⟩, b3, by omega, b5, b6⟩
theorem inv_X5_add (S : St) (x : Int64) (hI : Inv S) : Inv (sX5_add_S S x (cM S)) := by
  obtain ⟨⟨h1, b1, b2⟩, ⟨h2, b3⟩, ⟨h3, b4⟩, ⟨h4, b5⟩, ⟨h5, b6⟩⟩ := id hI
  unfold sX5_add_S
  split
  · first | exact hI | exact Inv.of (mc := cM S + 1) h1 h2 rfl h4 h5 ⟨⟨b1, b2⟩, b3, by omega, b5, b6⟩
  · first | exact hI | exact Inv.of (mc := cM S + 1) h1 h2 rfl h4 h5 ⟨⟨b1, b2⟩, b3, by omega, b5, b6⟩
theorem inv_X9_takeNext (S : St) (hI : Inv S) : Inv (sX9_takeNext_S S (cQ S)) := by
  obtain ⟨⟨h1, b1, b2⟩, ⟨h2, b3⟩, ⟨h3, b4⟩, ⟨h4, b5⟩, ⟨h5, b6⟩⟩ := id hI
  unfold sX9_takeNext_S
  split
  · first | exact hI | exact Inv.of (q := cQ S - 1) h1 rfl h3 h4 h5 ⟨⟨b1, b2⟩, by omega, b4, b5, b6⟩
  · first | exact hI | exact Inv.of (q := cQ S - 1) h1 rfl h3 h4 h5 ⟨⟨b1, b2⟩, by omega, b4, b5, b6⟩
def sX3_append (S : St) (x : Int32) (n : Nat) : Int32 := (if n < 6 then (nI n) else (-1000004))
def sX3_append_S (S : St) (x : Int32) (n : Nat) : St := (if n < 6 then (sI (sX7_begin_S (sX8_begin_S S n x) (n + 1)) 0 0 (nI (n + 1))) else S)
set_option maxHeartbeats 4000000 in
set_option maxRecDepth 100000 in
theorem c_X3_append (l : Launch) (D : va_G) (cc : Nat → ClassId) (ad : Nat → Nat) (S : St) (x : Int32) (n : Nat) (hn : S.1 0 0 = nI n) (hn6 : n ≤ 6) : CtI l D cc yX3_append cX3_append 2 .int 1 [.ref (ad 0), .int x] (LW cc ad S) (sX3_append S x n) (LW cc ad (sX3_append_S S x n)) := by
  refine CtI.of (plainFor_of_name (by decide +kernel)) rfl (Nat.le_of_ble_eq_true rfl) ?_
  intro p e s m args below meth c A Q hC hW hend ls hl
  obtain ⟨⟨hx, hb, hml, hown, hts⟩, hNW⟩ := id hC
  have hl : lv_has ls 2 [(0, .ref (ad 0)), (1, .int x)] := hl
  refine lv_aload_n hx hb dX3_append_0 rfl (lv_at hl 0 rfl) ?_
  refine q_get hC hW kX3_86 0 (Lg0 cc ad S) (v := .int (nI n)) (congrArg (fun z => some (Value.int z)) hn) dX3_append_1 ?_
  refine lv_bipush (v := 6) hx hb dX3_append_4 (by decide) ?_
  refine q_icmp_lt_n (tgt := 12) hx hb (a := n) (b := 6) rfl rfl (by omega) (by omega) dX3_append_6 (by decide) (fun c_6 => ?_) (fun c_6 => ?_)
  · skip
    refine lv_aload_n hx hb dX3_append_12 rfl (lv_at hl 0 rfl) ?_
    refine q_get hC hW kX3_55 0 (Lg0 cc ad S) (v := .ref (ad 12)) rfl dX3_append_13 ?_
    refine lv_aload_n hx hb dX3_append_16 rfl (lv_at hl 0 rfl) ?_
    refine q_get hC hW kX3_86 0 (Lg0 cc ad S) (v := .int (nI n)) (congrArg (fun z => some (Value.int z)) hn) dX3_append_17 ?_
    refine q_aald hC hW 12 3 (Lg12 cc ad S) rfl (v := ad (n + 15)) n rfl (by omega) (by decide) rfl dX3_append_20 ?_
    refine lv_iload_n hx hb dX3_append_21 rfl (lv_at hl 1 rfl) ?_
    refine q_VV hC hW (c_X8_begin l D cc ad S n x (by omega)) mX3_105 (n + 15) (Lg_f8 cc ad S n (by omega)) rfl (by decide) rfl hl.1 rfl (Nat.le_of_ble_eq_true rfl) (by decide) dX3_append_22 (fun H locs hW => ?_)
    refine lv_aload_n hx hb dX3_append_25 rfl (lv_at hl 0 rfl) ?_
    refine q_get hC hW kX3_61 0 (Lg0 cc ad (sX8_begin_S S n x)) (v := .ref (ad 13)) rfl dX3_append_26 ?_
    refine lv_aload_n hx hb dX3_append_29 rfl (lv_at hl 0 rfl) ?_
    refine q_get hC hW kX3_86 0 (Lg0 cc ad (sX8_begin_S S n x)) (v := .int (nI n)) (congrArg (fun z => some (Value.int z)) ((n_X8_begin S n x).trans hn)) dX3_append_30 ?_
    refine lv_iconst (v := 1) hx hb dX3_append_33 (by decide) ?_
    refine lv_iadd hx hb dX3_append_34 ?_
    refine q_ri (v := nI (n + 1)) (nq_add (a := n) (b := 1) rfl rfl) ?_
    refine q_aald hC hW 13 2 (Lg13 cc ad (sX8_begin_S S n x)) rfl (v := ad (n + 1 + 33)) (n + 1) rfl (by omega) (by decide) rfl dX3_append_35 ?_
    refine q_VV hC hW (c_X7_begin l D cc ad (sX8_begin_S S n x) (n + 1) (by omega)) mX3_85 (n + 1 + 33) (Lg_f7 cc ad (sX8_begin_S S n x) (n + 1) (by omega)) rfl (by decide) rfl hl.1 rfl (Nat.le_of_ble_eq_true rfl) (by decide) dX3_append_36 (fun H locs hW => ?_)
    refine lv_aload_n hx hb dX3_append_39 rfl (lv_at hl 0 rfl) ?_
    refine lv_dup hx hb dX3_append_40 rfl ?_
    refine q_get hC hW kX3_86 0 (Lg0 cc ad (sX7_begin_S (sX8_begin_S S n x) (n + 1))) (v := .int (nI n)) (congrArg (fun z => some (Value.int z)) ((n_X7_begin (sX8_begin_S S n x) (n + 1)).trans ((n_X8_begin S n x).trans hn))) dX3_append_41 ?_
    refine lv_iconst (v := 1) hx hb dX3_append_44 (by decide) ?_
    refine lv_iadd hx hb dX3_append_45 ?_
    refine q_ri (v := nI (n + 1)) (nq_add (a := n) (b := 1) rfl rfl) ?_
    refine q_putI hC hW kX3_86 0 (Lg0 cc ad (sX7_begin_S (sX8_begin_S S n x) (n + 1))) (Ls0_9 cc ad (sX7_begin_S (sX8_begin_S S n x) (n + 1)) (nI (n + 1))) (Nat.le_of_ble_eq_true rfl) dX3_append_46 (fun H locs hW => ?_)
    refine lv_aload_n hx hb dX3_append_49 rfl (lv_at hl 0 rfl) ?_
    refine q_get hC hW kX3_86 0 (Lg0 cc ad (sI (sX7_begin_S (sX8_begin_S S n x) (n + 1)) 0 0 (nI (n + 1)))) (v := .int (nI (n + 1))) rfl dX3_append_50 ?_
    refine lv_iconst (v := 1) hx hb dX3_append_53 (by decide) ?_
    refine lv_isub hx hb dX3_append_54 ?_
    refine q_ri (v := nI n) ((nq_sub (a := (n + 1)) (b := 1) rfl rfl (by omega)).trans (congrArg nI (by omega))) ?_
    exact hend _ _ _ _ _ _ (by simp only [sX3_append, if_pos c_6]) (by simp only [sX3_append_S, if_pos c_6]) hW dX3_append_55
  · skip
    refine q_ldc hC nX3_104 dX3_append_9 ?_
    exact hend _ _ _ _ _ _ (by simp only [sX3_append, if_neg (Nat.not_lt.mpr c_6)]) (by simp only [sX3_append_S, if_neg (Nat.not_lt.mpr c_6)]) hW dX3_append_11
def sX3_begin_S (S : St) (x : Int32) : St := (sI (sI (sI (sX3_append_S (sI (sX7_begin_S (sX2_begin_S (sX5_clearAll_S (sX6_begin_S (sX9_begin_S (sX1_begin_S (sX10_begin_S S)))))) 0) 0 0 0) x 0) 0 1 0) 0 2 0) 0 3 (-1000005))
set_option maxHeartbeats 4000000 in
set_option maxRecDepth 100000 in
theorem c_X3_begin (l : Launch) (D : va_G) (cc : Nat → ClassId) (ad : Nat → Nat) (S : St) (x : Int32) : CtV l D cc yX3_begin cX3_begin 2 2 [.ref (ad 0), .int x] (LW cc ad S) (LW cc ad (sX3_begin_S S x)) := by
  refine CtV.of (plainFor_of_name (by decide +kernel)) (Nat.le_of_ble_eq_true rfl) ?_
  intro p e s m args below meth c A Q hC hW hend ls hl
  obtain ⟨⟨hx, hb, hml, hown, hts⟩, hNW⟩ := id hC
  have hl : lv_has ls 2 [(0, .ref (ad 0)), (1, .int x)] := hl
  refine lv_aload_n hx hb dX3_begin_0 rfl (lv_at hl 0 rfl) ?_
  refine q_get hC hW kX3_12 0 (Lg0 cc ad S) (v := .ref (ad 1)) rfl dX3_begin_1 ?_
  refine q_VV hC hW (c_X10_begin l D cc ad S) mX3_76 1 (Lg1 cc ad S) rfl (by decide) rfl hl.1 rfl (Nat.le_of_ble_eq_true rfl) (by decide) dX3_begin_4 (fun H locs hW => ?_)
  refine lv_aload_n hx hb dX3_begin_7 rfl (lv_at hl 0 rfl) ?_
  refine q_get hC hW kX3_21 0 (Lg0 cc ad (sX10_begin_S S)) (v := .ref (ad 2)) rfl dX3_begin_8 ?_
  refine q_VV hC hW (c_X1_begin l D cc ad (sX10_begin_S S)) mX3_78 2 (Lg2 cc ad (sX10_begin_S S)) rfl (by decide) rfl hl.1 rfl (Nat.le_of_ble_eq_true rfl) (by decide) dX3_begin_11 (fun H locs hW => ?_)
  refine lv_aload_n hx hb dX3_begin_14 rfl (lv_at hl 0 rfl) ?_
  refine q_get hC hW kX3_28 0 (Lg0 cc ad (sX1_begin_S (sX10_begin_S S))) (v := .ref (ad 3)) rfl dX3_begin_15 ?_
  refine q_VV hC hW (c_X9_begin l D cc ad (sX1_begin_S (sX10_begin_S S))) mX3_79 3 (Lg3 cc ad (sX1_begin_S (sX10_begin_S S))) rfl (by decide) rfl hl.1 rfl (Nat.le_of_ble_eq_true rfl) (by decide) dX3_begin_18 (fun H locs hW => ?_)
  refine lv_aload_n hx hb dX3_begin_21 rfl (lv_at hl 0 rfl) ?_
  refine q_get hC hW kX3_35 0 (Lg0 cc ad (sX9_begin_S (sX1_begin_S (sX10_begin_S S)))) (v := .ref (ad 5)) rfl dX3_begin_22 ?_
  refine q_VV hC hW (c_X6_begin l D cc ad (sX9_begin_S (sX1_begin_S (sX10_begin_S S)))) mX3_80 5 (Lg5 cc ad (sX9_begin_S (sX1_begin_S (sX10_begin_S S)))) rfl (by decide) rfl hl.1 rfl (Nat.le_of_ble_eq_true rfl) (by decide) dX3_begin_25 (fun H locs hW => ?_)
  refine lv_aload_n hx hb dX3_begin_28 rfl (lv_at hl 0 rfl) ?_
  refine q_get hC hW kX3_42 0 (Lg0 cc ad (sX6_begin_S (sX9_begin_S (sX1_begin_S (sX10_begin_S S))))) (v := .ref (ad 6)) rfl dX3_begin_29 ?_
  refine q_VV hC hW (c_X5_clearAll l D cc ad (sX6_begin_S (sX9_begin_S (sX1_begin_S (sX10_begin_S S))))) mX3_81 6 (Lg6 cc ad (sX6_begin_S (sX9_begin_S (sX1_begin_S (sX10_begin_S S))))) rfl (by decide) rfl hl.1 rfl (Nat.le_of_ble_eq_true rfl) (by decide) dX3_begin_32 (fun H locs hW => ?_)
  refine lv_aload_n hx hb dX3_begin_35 rfl (lv_at hl 0 rfl) ?_
  refine q_get hC hW kX3_49 0 (Lg0 cc ad (sX5_clearAll_S (sX6_begin_S (sX9_begin_S (sX1_begin_S (sX10_begin_S S)))))) (v := .ref (ad 8)) rfl dX3_begin_36 ?_
  refine q_VV hC hW (c_X2_begin l D cc ad (sX5_clearAll_S (sX6_begin_S (sX9_begin_S (sX1_begin_S (sX10_begin_S S)))))) mX3_84 8 (Lg8 cc ad (sX5_clearAll_S (sX6_begin_S (sX9_begin_S (sX1_begin_S (sX10_begin_S S)))))) rfl (by decide) rfl hl.1 rfl (Nat.le_of_ble_eq_true rfl) (by decide) dX3_begin_39 (fun H locs hW => ?_)
  refine lv_aload_n hx hb dX3_begin_42 rfl (lv_at hl 0 rfl) ?_
  refine q_get hC hW kX3_61 0 (Lg0 cc ad (sX2_begin_S (sX5_clearAll_S (sX6_begin_S (sX9_begin_S (sX1_begin_S (sX10_begin_S S))))))) (v := .ref (ad 13)) rfl dX3_begin_43 ?_
  refine lv_iconst (v := 0) hx hb dX3_begin_46 (by decide) ?_
  refine q_aald hC hW 13 2 (Lg13 cc ad (sX2_begin_S (sX5_clearAll_S (sX6_begin_S (sX9_begin_S (sX1_begin_S (sX10_begin_S S))))))) rfl (v := ad (0 + 33)) 0 rfl (by omega) (by decide) rfl dX3_begin_47 ?_
  refine q_VV hC hW (c_X7_begin l D cc ad (sX2_begin_S (sX5_clearAll_S (sX6_begin_S (sX9_begin_S (sX1_begin_S (sX10_begin_S S)))))) 0 (by omega)) mX3_85 (0 + 33) (Lg_f7 cc ad (sX2_begin_S (sX5_clearAll_S (sX6_begin_S (sX9_begin_S (sX1_begin_S (sX10_begin_S S)))))) 0 (by omega)) rfl (by decide) rfl hl.1 rfl (Nat.le_of_ble_eq_true rfl) (by decide) dX3_begin_48 (fun H locs hW => ?_)
  refine lv_aload_n hx hb dX3_begin_51 rfl (lv_at hl 0 rfl) ?_
  refine lv_iconst (v := 0) hx hb dX3_begin_52 (by decide) ?_
  refine q_putI hC hW kX3_86 0 (Lg0 cc ad (sX7_begin_S (sX2_begin_S (sX5_clearAll_S (sX6_begin_S (sX9_begin_S (sX1_begin_S (sX10_begin_S S)))))) 0)) (Ls0_9 cc ad (sX7_begin_S (sX2_begin_S (sX5_clearAll_S (sX6_begin_S (sX9_begin_S (sX1_begin_S (sX10_begin_S S)))))) 0) 0) (Nat.le_of_ble_eq_true rfl) dX3_begin_53 (fun H locs hW => ?_)
  refine lv_aload_n hx hb dX3_begin_56 rfl (lv_at hl 0 rfl) ?_
  refine lv_iload_n hx hb dX3_begin_57 rfl (lv_at hl 1 rfl) ?_
  refine q_VI hC hW (c_X3_append l D cc ad (sI (sX7_begin_S (sX2_begin_S (sX5_clearAll_S (sX6_begin_S (sX9_begin_S (sX1_begin_S (sX10_begin_S S)))))) 0) 0 0 0) x 0 rfl (by omega)) mX3_90 0 (Lg0 cc ad (sI (sX7_begin_S (sX2_begin_S (sX5_clearAll_S (sX6_begin_S (sX9_begin_S (sX1_begin_S (sX10_begin_S S)))))) 0) 0 0 0)) rfl (by decide) rfl hl.1 rfl (Nat.le_of_ble_eq_true rfl) (by decide) dX3_begin_58 (fun H locs hW => ?_)
  refine lv_pop hx hb dX3_begin_61 rfl ?_
  refine lv_aload_n hx hb dX3_begin_62 rfl (lv_at hl 0 rfl) ?_
  refine lv_iconst (v := 0) hx hb dX3_begin_63 (by decide) ?_
  refine q_putI hC hW kX3_94 0 (Lg0 cc ad (sX3_append_S (sI (sX7_begin_S (sX2_begin_S (sX5_clearAll_S (sX6_begin_S (sX9_begin_S (sX1_begin_S (sX10_begin_S S)))))) 0) 0 0 0) x 0)) (Ls0_10 cc ad (sX3_append_S (sI (sX7_begin_S (sX2_begin_S (sX5_clearAll_S (sX6_begin_S (sX9_begin_S (sX1_begin_S (sX10_begin_S S)))))) 0) 0 0 0) x 0) 0) (Nat.le_of_ble_eq_true rfl) dX3_begin_64 (fun H locs hW => ?_)
  refine lv_aload_n hx hb dX3_begin_67 rfl (lv_at hl 0 rfl) ?_
  refine lv_iconst (v := 0) hx hb dX3_begin_68 (by decide) ?_
  refine q_putI hC hW kX3_97 0 (Lg0 cc ad (sI (sX3_append_S (sI (sX7_begin_S (sX2_begin_S (sX5_clearAll_S (sX6_begin_S (sX9_begin_S (sX1_begin_S (sX10_begin_S S)))))) 0) 0 0 0) x 0) 0 1 0)) (Ls0_11 cc ad (sI (sX3_append_S (sI (sX7_begin_S (sX2_begin_S (sX5_clearAll_S (sX6_begin_S (sX9_begin_S (sX1_begin_S (sX10_begin_S S)))))) 0) 0 0 0) x 0) 0 1 0) 0) (Nat.le_of_ble_eq_true rfl) dX3_begin_69 (fun H locs hW => ?_)
  refine lv_aload_n hx hb dX3_begin_72 rfl (lv_at hl 0 rfl) ?_
  refine q_ldc hC nX3_100 dX3_begin_73 ?_
  refine q_putI hC hW kX3_101 0 (Lg0 cc ad (sI (sI (sX3_append_S (sI (sX7_begin_S (sX2_begin_S (sX5_clearAll_S (sX6_begin_S (sX9_begin_S (sX1_begin_S (sX10_begin_S S)))))) 0) 0 0 0) x 0) 0 1 0) 0 2 0)) (Ls0_12 cc ad (sI (sI (sX3_append_S (sI (sX7_begin_S (sX2_begin_S (sX5_clearAll_S (sX6_begin_S (sX9_begin_S (sX1_begin_S (sX10_begin_S S)))))) 0) 0 0 0) x 0) 0 1 0) 0 2 0) (-1000005)) (Nat.le_of_ble_eq_true rfl) dX3_begin_75 (fun H locs hW => ?_)
  exact hend _ _ _ _ _ (by unfold sX3_begin_S; rfl) hW dX3_begin_78
def LX3_threadAnew_40_S (S : St)  : Nat → St
  | 0 => (sJ (sX5_clearAll_S (sI (sI S 0 2 0) 0 8 0)) 0 0 (sJ9_max_f86c9 0 ((sX5_clearAll_S (sI (sI S 0 2 0) 0 8 0)).2 0 0)))
  | k + 1 => (sX8_threadAnew_S (sI (LX3_threadAnew_40_S S k) 18 (k + 1) 0) k)
theorem nL_threadAnew (S : St) (k : Nat) : (LX3_threadAnew_40_S S k).1 0 0 = S.1 0 0 := by
  induction k with
  | zero => rfl
  | succ k ih => exact (n_X8_threadAnew _ _).trans ih
def sX3_threadAnew_S (S : St)  : St := (LX3_threadAnew_40_S S (cN S))
set_option maxHeartbeats 4000000 in
set_option maxRecDepth 100000 in
theorem c_X3_threadAnew (l : Launch) (D : va_G) (cc : Nat → ClassId) (ad : Nat → Nat) (S : St) (hI : Inv S) : CtV l D cc yX3_threadAnew cX3_threadAnew 2 2 [.ref (ad 0)] (LW cc ad S) (LW cc ad (sX3_threadAnew_S S )) := by
  refine CtV.of (plainFor_of_name (by decide +kernel)) (Nat.le_of_ble_eq_true rfl) ?_
  intro p e s m args below meth c A Q hC hW hend ls hl
  obtain ⟨⟨hx, hb, hml, hown, hts⟩, hNW⟩ := id hC
  have hl : lv_has ls 2 [(0, .ref (ad 0))] := hl
  obtain ⟨⟨-, hb1_hI, hb2_hI⟩, ⟨-, hq_hI⟩, ⟨-, hm_hI⟩, ⟨-, ho_hI⟩, ⟨-, hc_hI⟩⟩ := id hI
  refine lv_aload_n hx hb dX3_threadAnew_0 rfl (lv_at hl 0 rfl) ?_
  refine lv_iconst (v := 0) hx hb dX3_threadAnew_1 (by decide) ?_
  refine q_putI hC hW kX3_97 0 (Lg0 cc ad S) (Ls0_11 cc ad S 0) (Nat.le_of_ble_eq_true rfl) dX3_threadAnew_2 (fun H locs hW => ?_)
  refine lv_aload_n hx hb dX3_threadAnew_5 rfl (lv_at hl 0 rfl) ?_
  refine q_get hC hW kX3_21 0 (Lg0 cc ad (sI S 0 2 0)) (v := .ref (ad 2)) rfl dX3_threadAnew_6 ?_
  refine lv_iconst (v := 0) hx hb dX3_threadAnew_9 (by decide) ?_
  refine q_putI hC hW kX3_135 2 (Lg2 cc ad (sI S 0 2 0)) (Ls2_0 cc ad (sI S 0 2 0) 0) (Nat.le_of_ble_eq_true rfl) dX3_threadAnew_10 (fun H locs hW => ?_)
  refine lv_aload_n hx hb dX3_threadAnew_13 rfl (lv_at hl 0 rfl) ?_
  refine q_get hC hW kX3_42 0 (Lg0 cc ad (sI (sI S 0 2 0) 0 8 0)) (v := .ref (ad 6)) rfl dX3_threadAnew_14 ?_
  refine q_VV hC hW (c_X5_clearAll l D cc ad (sI (sI S 0 2 0) 0 8 0)) mX3_81 6 (Lg6 cc ad (sI (sI S 0 2 0) 0 8 0)) rfl (by decide) rfl hl.1 rfl (Nat.le_of_ble_eq_true rfl) (by decide) dX3_threadAnew_17 (fun H locs hW => ?_)
  refine lv_aload_n hx hb dX3_threadAnew_20 rfl (lv_at hl 0 rfl) ?_
  refine q_get hC hW kX3_28 0 (Lg0 cc ad (sX5_clearAll_S (sI (sI S 0 2 0) 0 8 0))) (v := .ref (ad 3)) rfl dX3_threadAnew_21 ?_
  refine lv_lconst (v := 0) hx hb dX3_threadAnew_24 rfl ?_
  refine lv_aload_n hx hb dX3_threadAnew_25 rfl (lv_at hl 0 rfl) ?_
  refine q_get hC hW kX3_28 0 (Lg0 cc ad (sX5_clearAll_S (sI (sI S 0 2 0) 0 8 0))) (v := .ref (ad 3)) rfl dX3_threadAnew_26 ?_
  refine q_get hC hW kX3_170 3 (Lg3 cc ad (sX5_clearAll_S (sI (sI S 0 2 0) 0 8 0))) (v := .long ((sX5_clearAll_S (sI (sI S 0 2 0) 0 8 0)).2 0 0)) rfl dX3_threadAnew_29 ?_
  refine q_SL hC hW (c_J9_max_f86c9 l D cc _ 0 ((sX5_clearAll_S (sI (sI S 0 2 0) 0 8 0)).2 0 0)) mX3_149 (by decide) rfl hl.1 rfl (Nat.le_of_ble_eq_true rfl) (by decide) dX3_threadAnew_32 (fun H locs hW => ?_)
  refine q_putL hC hW kX3_170 3 (Lg3 cc ad (sX5_clearAll_S (sI (sI S 0 2 0) 0 8 0))) (Ls3_2 cc ad (sX5_clearAll_S (sI (sI S 0 2 0) 0 8 0)) (sJ9_max_f86c9 0 ((sX5_clearAll_S (sI (sI S 0 2 0) 0 8 0)).2 0 0))) (Nat.le_of_ble_eq_true rfl) dX3_threadAnew_35 (fun H locs hW => ?_)
  refine lv_iconst (v := 0) hx hb dX3_threadAnew_38 (by decide) ?_
  refine lv_istore_n (lv' := [(1, .int 0), (0, .ref (ad 0))]) hx hb dX3_threadAnew_39 rfl hl (by decide) rfl (fun ls hl => ?_)
  have loop1 : ∀ (rn k : Nat), k + rn = (cN S) → ∀ (H : Heap) (locs : List Loc) (ls : Array Slot), Wd D cc (LW cc ad (LX3_threadAnew_40_S S k)) A s.heap H locs s → lv_has ls 2 [(0, .ref (ad 0)), (1, .int (nI k))] → W p l e (rmD 2) s m args below meth c H locs 0 0 Q (F0 m 40 ls []) := by
    intro rn
    induction rn with
    | zero =>
      intro k hk H locs ls hW hl
      obtain rfl : (cN S) = k := by omega
      refine lv_iload_n hx hb dX3_threadAnew_40 rfl (lv_at hl 1 rfl) ?_
      refine lv_aload_n hx hb dX3_threadAnew_41 rfl (lv_at hl 0 rfl) ?_
      refine q_get hC hW kX3_86 0 (Lg0 cc ad (LX3_threadAnew_40_S S (cN S))) (v := .int (nI (cN S))) (congrArg (fun z => some (Value.int z)) ((nL_threadAnew S (cN S)).trans ((n_X5_clearAll (sI (sI S 0 2 0) 0 8 0)).trans hI.1.1))) dX3_threadAnew_42 ?_
      refine q_icmp_ge_n (tgt := 75) hx hb (a := (cN S)) (b := (cN S)) rfl rfl (by omega) (by omega) dX3_threadAnew_45 (by decide) (fun c_45 => ?_) (fun c_45 => by exfalso; omega)
      exact hend _ _ _ _ _ (by unfold sX3_threadAnew_S; rfl) hW dX3_threadAnew_75
    | succ rn ih =>
      intro k hk H locs ls hW hl
      have hkN : k < (cN S) := by omega
      refine lv_iload_n hx hb dX3_threadAnew_40 rfl (lv_at hl 1 rfl) ?_
      refine lv_aload_n hx hb dX3_threadAnew_41 rfl (lv_at hl 0 rfl) ?_
      refine q_get hC hW kX3_86 0 (Lg0 cc ad (LX3_threadAnew_40_S S k)) (v := .int (nI (cN S))) (congrArg (fun z => some (Value.int z)) ((nL_threadAnew S k).trans ((n_X5_clearAll (sI (sI S 0 2 0) 0 8 0)).trans hI.1.1))) dX3_threadAnew_42 ?_
      refine q_icmp_ge_n (tgt := 75) hx hb (a := k) (b := (cN S)) rfl rfl (by omega) (by omega) dX3_threadAnew_45 (by decide) (fun c_45 => by exfalso; omega) (fun c_45 => ?_)
      refine lv_aload_n hx hb dX3_threadAnew_48 rfl (lv_at hl 0 rfl) ?_
      refine q_get hC hW kX3_61 0 (Lg0 cc ad (LX3_threadAnew_40_S S k)) (v := .ref (ad 13)) rfl dX3_threadAnew_49 ?_
      refine lv_iload_n hx hb dX3_threadAnew_52 rfl (lv_at hl 1 rfl) ?_
      refine lv_iconst (v := 1) hx hb dX3_threadAnew_53 (by decide) ?_
      refine lv_iadd hx hb dX3_threadAnew_54 ?_
      refine q_ri (v := nI (k + 1)) (nq_add (a := k) (b := 1) rfl rfl) ?_
      refine q_aald hC hW 13 2 (Lg13 cc ad (LX3_threadAnew_40_S S k)) rfl (v := ad (k + 1 + 33)) (k + 1) rfl (by omega) (by decide) rfl dX3_threadAnew_55 ?_
      refine lv_iconst (v := 0) hx hb dX3_threadAnew_56 (by decide) ?_
      refine q_putI hC hW kX3_146 (k + 1 + 33) (Lg_f7 cc ad (LX3_threadAnew_40_S S k) (k + 1) (by omega)) (Ls_f7_2 cc ad (LX3_threadAnew_40_S S k) (k + 1) (by omega) 0) (Nat.le_of_ble_eq_true rfl) dX3_threadAnew_57 (fun H locs hW => ?_)
      refine lv_aload_n hx hb dX3_threadAnew_60 rfl (lv_at hl 0 rfl) ?_
      refine q_get hC hW kX3_55 0 (Lg0 cc ad (sI (LX3_threadAnew_40_S S k) 18 (k + 1) 0)) (v := .ref (ad 12)) rfl dX3_threadAnew_61 ?_
      refine lv_iload_n hx hb dX3_threadAnew_64 rfl (lv_at hl 1 rfl) ?_
      refine q_aald hC hW 12 3 (Lg12 cc ad (sI (LX3_threadAnew_40_S S k) 18 (k + 1) 0)) rfl (v := ad (k + 15)) k rfl (by omega) (by decide) rfl dX3_threadAnew_65 ?_
      refine q_VV hC hW (c_X8_threadAnew l D cc ad (sI (LX3_threadAnew_40_S S k) 18 (k + 1) 0) k (by omega)) mX3_173 (k + 15) (Lg_f8 cc ad (sI (LX3_threadAnew_40_S S k) 18 (k + 1) 0) k (by omega)) rfl (by decide) rfl hl.1 rfl (Nat.le_of_ble_eq_true rfl) (by decide) dX3_threadAnew_66 (fun H locs hW => ?_)
      refine lv_iinc (v := (nI (k + 1))) (lv' := [(1, .int (nI (k + 1))), (0, .ref (ad 0))]) hx hb dX3_threadAnew_69 hl (k := 1) rfl (nq_inc k 1) (by decide) rfl (fun ls hl => ?_)
      refine lv_goto (tgt := 40) hx hb dX3_threadAnew_72 (by decide) ?_
      exact ih (k + 1) (by omega) _ _ _ (by simp only [LX3_threadAnew_40_S]; exact hW) (lv_sub hl [1, 0] rfl)
  exact loop1 (cN S) 0 (by omega) _ _ _ hW (lv_sub hl [1, 0] rfl)
def LX3_passWeb_42_S (S : St)  : Nat → St
  | 0 => (sJ S 2 0 (sX11_quotient ((sX3_speedOf S 0 (cN S)) * ((S.1 0 4).toInt64)) (((S.1 0 4).toInt64) + ((S.1 0 5).toInt64))))
  | k + 1 => (sJ (LX3_passWeb_42_S S k) 2 (k + 1) (sX11_quotient ((sX3_speedOf (LX3_passWeb_42_S S k) (k + 1) (cN S)) * ((LX3_passWeb_42_S S k).2 3 k)) (sX8_length (LX3_passWeb_42_S S k) k)))
def LX3_passWeb_115_S (S : St)  : Nat → St
  | 0 => (sJ (LX3_passWeb_42_S S (cN S)) 5 0 (((LX3_passWeb_42_S S (cN S)).2 5 0) + ((LX3_passWeb_42_S S (cN S)).2 2 0)))
  | k + 1 => (sJ (sJ (LX3_passWeb_115_S S k) 5 (k + 1) (((LX3_passWeb_115_S S k).2 5 (k + 1)) + ((LX3_passWeb_115_S S k).2 2 (k + 1)))) 3 k (((LX3_passWeb_115_S S k).2 3 k) + (((LX3_passWeb_115_S S k).2 2 k) - ((LX3_passWeb_115_S S k).2 2 (k + 1)))))
theorem L1_passWeb (S : St) (k : Nat) : (LX3_passWeb_42_S S k).1 = S.1 := by
  induction k with
  | zero => rfl
  | succ k ih => exact ih
theorem L2_passWeb (S : St) (k : Nat) : (LX3_passWeb_115_S S k).1 = S.1 := by
  induction k with
  | zero => exact L1_passWeb S (cN S)
  | succ k ih => exact ih
theorem nL_passWeb1 (S : St) (k : Nat) : (LX3_passWeb_42_S S k).1 0 0 = S.1 0 0 := by rw [L1_passWeb]
theorem nL_passWeb2 (S : St) (k : Nat) : (LX3_passWeb_115_S S k).1 0 0 = (LX3_passWeb_42_S S (cN S)).1 0 0 := by rw [L2_passWeb, L1_passWeb]
def sX3_passWeb_S (S : St)  : St := (LX3_passWeb_115_S S (cN S))
set_option maxHeartbeats 4000000 in
set_option maxRecDepth 100000 in
theorem c_X3_passWeb (l : Launch) (D : va_G) (cc : Nat → ClassId) (ad : Nat → Nat) (S : St) (hI : Inv S) : CtV l D cc yX3_passWeb cX3_passWeb 2 4 [.ref (ad 0)] (LW cc ad S) (LW cc ad (sX3_passWeb_S S )) := by
  refine CtV.of (plainFor_of_name (by decide +kernel)) (Nat.le_of_ble_eq_true rfl) ?_
  intro p e s m args below meth c A Q hC hW hend ls hl
  obtain ⟨⟨hx, hb, hml, hown, hts⟩, hNW⟩ := id hC
  have hl : lv_has ls 2 [(0, .ref (ad 0))] := hl
  obtain ⟨⟨-, hb1_hI, hb2_hI⟩, ⟨-, hq_hI⟩, ⟨-, hm_hI⟩, ⟨-, ho_hI⟩, ⟨-, hc_hI⟩⟩ := id hI
  refine lv_aload_n hx hb dX3_passWeb_0 rfl (lv_at hl 0 rfl) ?_
  refine q_get hC hW kX3_65 0 (Lg0 cc ad S) (v := .ref (ad 14)) rfl dX3_passWeb_1 ?_
  refine lv_iconst (v := 0) hx hb dX3_passWeb_4 (by decide) ?_
  refine lv_aload_n hx hb dX3_passWeb_5 rfl (lv_at hl 0 rfl) ?_
  refine lv_iconst (v := 0) hx hb dX3_passWeb_6 (by decide) ?_
  refine q_VL hC hW (c_X3_speedOf l D cc ad S 0 (cN S) hI.1.1 (by omega) (by omega)) mX3_201 0 (Lg0 cc ad S) rfl (by decide) rfl hl.1 rfl (Nat.le_of_ble_eq_true rfl) (by decide) dX3_passWeb_7 (fun H locs hW => ?_)
  refine lv_aload_n hx hb dX3_passWeb_10 rfl (lv_at hl 0 rfl) ?_
  refine q_get hC hW kX3_12 0 (Lg0 cc ad S) (v := .ref (ad 1)) rfl dX3_passWeb_11 ?_
  refine q_get hC hW kX3_204 1 (Lg1 cc ad S) (v := .int (S.1 0 4)) rfl dX3_passWeb_14 ?_
  refine lv_i2l hx hb dX3_passWeb_17 rfl ?_
  refine lv_lmul hx hb dX3_passWeb_18 ?_
  refine lv_aload_n hx hb dX3_passWeb_19 rfl (lv_at hl 0 rfl) ?_
  refine q_get hC hW kX3_12 0 (Lg0 cc ad S) (v := .ref (ad 1)) rfl dX3_passWeb_20 ?_
  refine q_get hC hW kX3_204 1 (Lg1 cc ad S) (v := .int (S.1 0 4)) rfl dX3_passWeb_23 ?_
  refine lv_i2l hx hb dX3_passWeb_26 rfl ?_
  refine lv_aload_n hx hb dX3_passWeb_27 rfl (lv_at hl 0 rfl) ?_
  refine q_get hC hW kX3_12 0 (Lg0 cc ad S) (v := .ref (ad 1)) rfl dX3_passWeb_28 ?_
  refine q_get hC hW kX3_207 1 (Lg1 cc ad S) (v := .int (S.1 0 5)) rfl dX3_passWeb_31 ?_
  refine lv_i2l hx hb dX3_passWeb_34 rfl ?_
  refine lv_ladd hx hb dX3_passWeb_35 ?_
  refine q_SL hC hW (c_X11_quotient l D cc _ ((sX3_speedOf S 0 (cN S)) * ((S.1 0 4).toInt64)) (((S.1 0 4).toInt64) + ((S.1 0 5).toInt64))) mX3_210 (by decide) rfl hl.1 rfl (Nat.le_of_ble_eq_true rfl) (by decide) dX3_passWeb_36 (fun H locs hW => ?_)
  refine q_last hC hW 14 (Lg14 cc ad S) 0 rfl (by omega) (by decide) (Ls14 cc ad S 0 (sX11_quotient ((sX3_speedOf S 0 (cN S)) * ((S.1 0 4).toInt64)) (((S.1 0 4).toInt64) + ((S.1 0 5).toInt64)))) dX3_passWeb_39 (fun H locs hW => ?_)
  refine lv_iconst (v := 0) hx hb dX3_passWeb_40 (by decide) ?_
  refine lv_istore_n (lv' := [(1, .int 0), (0, .ref (ad 0))]) hx hb dX3_passWeb_41 rfl hl (by decide) rfl (fun ls hl => ?_)
  have loop1 : ∀ (rn k : Nat), k + rn = (cN S) → ∀ (H : Heap) (locs : List Loc) (ls : Array Slot), Wd D cc (LW cc ad (LX3_passWeb_42_S S k)) A s.heap H locs s → lv_has ls 2 [(0, .ref (ad 0)), (1, .int (nI k))] → W p l e (rmD 4) s m args below meth c H locs 0 0 Q (F0 m 42 ls []) := by
    intro rn
    induction rn with
    | zero =>
      intro k hk H locs ls hW hl
      obtain rfl : (cN S) = k := by omega
      refine lv_iload_n hx hb dX3_passWeb_42 rfl (lv_at hl 1 rfl) ?_
      refine lv_aload_n hx hb dX3_passWeb_43 rfl (lv_at hl 0 rfl) ?_
      refine q_get hC hW kX3_86 0 (Lg0 cc ad (LX3_passWeb_42_S S (cN S))) (v := .int (nI (cN S))) (congrArg (fun z => some (Value.int z)) ((nL_passWeb1 S (cN S)).trans hI.1.1)) dX3_passWeb_44 ?_
      refine q_icmp_ge_n (tgt := 93) hx hb (a := (cN S)) (b := (cN S)) rfl rfl (by omega) (by omega) dX3_passWeb_47 (by decide) (fun c_47 => ?_) (fun c_47 => by exfalso; omega)
      refine lv_aload_n hx hb dX3_passWeb_93 rfl (lv_at hl 0 rfl) ?_
      refine q_get hC hW kX3_61 0 (Lg0 cc ad (LX3_passWeb_42_S S (cN S))) (v := .ref (ad 13)) rfl dX3_passWeb_94 ?_
      refine lv_iconst (v := 0) hx hb dX3_passWeb_97 (by decide) ?_
      refine q_aald hC hW 13 2 (Lg13 cc ad (LX3_passWeb_42_S S (cN S))) rfl (v := ad (0 + 33)) 0 rfl (by omega) (by decide) rfl dX3_passWeb_98 ?_
      refine lv_dup hx hb dX3_passWeb_99 rfl ?_
      refine q_get hC hW kX3_155 (0 + 33) (Lg_f7 cc ad (LX3_passWeb_42_S S (cN S)) 0 (by omega)) (v := .long ((LX3_passWeb_42_S S (cN S)).2 5 0)) rfl dX3_passWeb_100 ?_
      refine lv_aload_n hx hb dX3_passWeb_103 rfl (lv_at hl 0 rfl) ?_
      refine q_get hC hW kX3_65 0 (Lg0 cc ad (LX3_passWeb_42_S S (cN S))) (v := .ref (ad 14)) rfl dX3_passWeb_104 ?_
      refine lv_iconst (v := 0) hx hb dX3_passWeb_107 (by decide) ?_
      refine q_lald hC hW 14 (Lg14 cc ad (LX3_passWeb_42_S S (cN S))) (v := ((LX3_passWeb_42_S S (cN S)).2 2 0)) 0 rfl (by omega) (by decide) rfl dX3_passWeb_108 ?_
      refine lv_ladd hx hb dX3_passWeb_109 ?_
      refine q_putL hC hW kX3_155 (0 + 33) (Lg_f7 cc ad (LX3_passWeb_42_S S (cN S)) 0 (by omega)) (Ls_f7_0 cc ad (LX3_passWeb_42_S S (cN S)) 0 (by omega) (((LX3_passWeb_42_S S (cN S)).2 5 0) + ((LX3_passWeb_42_S S (cN S)).2 2 0))) (Nat.le_of_ble_eq_true rfl) dX3_passWeb_110 (fun H locs hW => ?_)
      refine lv_iconst (v := 0) hx hb dX3_passWeb_113 (by decide) ?_
      refine lv_istore_n (lv' := [(1, .int 0), (0, .ref (ad 0))]) hx hb dX3_passWeb_114 rfl hl (by decide) rfl (fun ls hl => ?_)
      have loop2 : ∀ (rn k : Nat), k + rn = (cN S) → ∀ (H : Heap) (locs : List Loc) (ls : Array Slot), Wd D cc (LW cc ad (LX3_passWeb_115_S S k)) A s.heap H locs s → lv_has ls 2 [(0, .ref (ad 0)), (1, .int (nI k))] → W p l e (rmD 4) s m args below meth c H locs 0 0 Q (F0 m 115 ls []) := by
        intro rn
        induction rn with
        | zero =>
          intro k hk H locs ls hW hl
          obtain rfl : (cN S) = k := by omega
          refine lv_iload_n hx hb dX3_passWeb_115 rfl (lv_at hl 1 rfl) ?_
          refine lv_aload_n hx hb dX3_passWeb_116 rfl (lv_at hl 0 rfl) ?_
          refine q_get hC hW kX3_86 0 (Lg0 cc ad (LX3_passWeb_115_S S (cN S))) (v := .int (nI (cN S))) (congrArg (fun z => some (Value.int z)) ((nL_passWeb2 S (cN S)).trans ((nL_passWeb1 S (cN S)).trans hI.1.1))) dX3_passWeb_117 ?_
          refine q_icmp_ge_n (tgt := 182) hx hb (a := (cN S)) (b := (cN S)) rfl rfl (by omega) (by omega) dX3_passWeb_120 (by decide) (fun c_120 => ?_) (fun c_120 => by exfalso; omega)
          exact hend _ _ _ _ _ (by unfold sX3_passWeb_S; rfl) hW dX3_passWeb_182
        | succ rn ih =>
          intro k hk H locs ls hW hl
          have hkN : k < (cN S) := by omega
          refine lv_iload_n hx hb dX3_passWeb_115 rfl (lv_at hl 1 rfl) ?_
          refine lv_aload_n hx hb dX3_passWeb_116 rfl (lv_at hl 0 rfl) ?_
          refine q_get hC hW kX3_86 0 (Lg0 cc ad (LX3_passWeb_115_S S k)) (v := .int (nI (cN S))) (congrArg (fun z => some (Value.int z)) ((nL_passWeb2 S k).trans ((nL_passWeb1 S (cN S)).trans hI.1.1))) dX3_passWeb_117 ?_
          refine q_icmp_ge_n (tgt := 182) hx hb (a := k) (b := (cN S)) rfl rfl (by omega) (by omega) dX3_passWeb_120 (by decide) (fun c_120 => by exfalso; omega) (fun c_120 => ?_)
          refine lv_aload_n hx hb dX3_passWeb_123 rfl (lv_at hl 0 rfl) ?_
          refine q_get hC hW kX3_61 0 (Lg0 cc ad (LX3_passWeb_115_S S k)) (v := .ref (ad 13)) rfl dX3_passWeb_124 ?_
          refine lv_iload_n hx hb dX3_passWeb_127 rfl (lv_at hl 1 rfl) ?_
          refine lv_iconst (v := 1) hx hb dX3_passWeb_128 (by decide) ?_
          refine lv_iadd hx hb dX3_passWeb_129 ?_
          refine q_ri (v := nI (k + 1)) (nq_add (a := k) (b := 1) rfl rfl) ?_
          refine q_aald hC hW 13 2 (Lg13 cc ad (LX3_passWeb_115_S S k)) rfl (v := ad (k + 1 + 33)) (k + 1) rfl (by omega) (by decide) rfl dX3_passWeb_130 ?_
          refine lv_dup hx hb dX3_passWeb_131 rfl ?_
          refine q_get hC hW kX3_155 (k + 1 + 33) (Lg_f7 cc ad (LX3_passWeb_115_S S k) (k + 1) (by omega)) (v := .long ((LX3_passWeb_115_S S k).2 5 (k + 1))) rfl dX3_passWeb_132 ?_
          refine lv_aload_n hx hb dX3_passWeb_135 rfl (lv_at hl 0 rfl) ?_
          refine q_get hC hW kX3_65 0 (Lg0 cc ad (LX3_passWeb_115_S S k)) (v := .ref (ad 14)) rfl dX3_passWeb_136 ?_
          refine lv_iload_n hx hb dX3_passWeb_139 rfl (lv_at hl 1 rfl) ?_
          refine lv_iconst (v := 1) hx hb dX3_passWeb_140 (by decide) ?_
          refine lv_iadd hx hb dX3_passWeb_141 ?_
          refine q_ri (v := nI (k + 1)) (nq_add (a := k) (b := 1) rfl rfl) ?_
          refine q_lald hC hW 14 (Lg14 cc ad (LX3_passWeb_115_S S k)) (v := ((LX3_passWeb_115_S S k).2 2 (k + 1))) (k + 1) rfl (by omega) (by decide) rfl dX3_passWeb_142 ?_
          refine lv_ladd hx hb dX3_passWeb_143 ?_
          refine q_putL hC hW kX3_155 (k + 1 + 33) (Lg_f7 cc ad (LX3_passWeb_115_S S k) (k + 1) (by omega)) (Ls_f7_0 cc ad (LX3_passWeb_115_S S k) (k + 1) (by omega) (((LX3_passWeb_115_S S k).2 5 (k + 1)) + ((LX3_passWeb_115_S S k).2 2 (k + 1)))) (Nat.le_of_ble_eq_true rfl) dX3_passWeb_144 (fun H locs hW => ?_)
          refine lv_aload_n hx hb dX3_passWeb_147 rfl (lv_at hl 0 rfl) ?_
          refine q_get hC hW kX3_55 0 (Lg0 cc ad (sJ (LX3_passWeb_115_S S k) 5 (k + 1) (((LX3_passWeb_115_S S k).2 5 (k + 1)) + ((LX3_passWeb_115_S S k).2 2 (k + 1))))) (v := .ref (ad 12)) rfl dX3_passWeb_148 ?_
          refine lv_iload_n hx hb dX3_passWeb_151 rfl (lv_at hl 1 rfl) ?_
          refine q_aald hC hW 12 3 (Lg12 cc ad (sJ (LX3_passWeb_115_S S k) 5 (k + 1) (((LX3_passWeb_115_S S k).2 5 (k + 1)) + ((LX3_passWeb_115_S S k).2 2 (k + 1))))) rfl (v := ad (k + 15)) k rfl (by omega) (by decide) rfl dX3_passWeb_152 ?_
          refine lv_dup hx hb dX3_passWeb_153 rfl ?_
          refine q_get hC hW kX3_159 (k + 15) (Lg_f8 cc ad (sJ (LX3_passWeb_115_S S k) 5 (k + 1) (((LX3_passWeb_115_S S k).2 5 (k + 1)) + ((LX3_passWeb_115_S S k).2 2 (k + 1)))) k (by omega)) (v := .long ((LX3_passWeb_115_S S k).2 3 k)) rfl dX3_passWeb_154 ?_
          refine lv_aload_n hx hb dX3_passWeb_157 rfl (lv_at hl 0 rfl) ?_
          refine q_get hC hW kX3_65 0 (Lg0 cc ad (sJ (LX3_passWeb_115_S S k) 5 (k + 1) (((LX3_passWeb_115_S S k).2 5 (k + 1)) + ((LX3_passWeb_115_S S k).2 2 (k + 1))))) (v := .ref (ad 14)) rfl dX3_passWeb_158 ?_
          refine lv_iload_n hx hb dX3_passWeb_161 rfl (lv_at hl 1 rfl) ?_
          refine q_lald hC hW 14 (Lg14 cc ad (sJ (LX3_passWeb_115_S S k) 5 (k + 1) (((LX3_passWeb_115_S S k).2 5 (k + 1)) + ((LX3_passWeb_115_S S k).2 2 (k + 1))))) (v := ((LX3_passWeb_115_S S k).2 2 k)) k rfl (by omega) (by decide) rfl dX3_passWeb_162 ?_
          refine lv_aload_n hx hb dX3_passWeb_163 rfl (lv_at hl 0 rfl) ?_
          refine q_get hC hW kX3_65 0 (Lg0 cc ad (sJ (LX3_passWeb_115_S S k) 5 (k + 1) (((LX3_passWeb_115_S S k).2 5 (k + 1)) + ((LX3_passWeb_115_S S k).2 2 (k + 1))))) (v := .ref (ad 14)) rfl dX3_passWeb_164 ?_
          refine lv_iload_n hx hb dX3_passWeb_167 rfl (lv_at hl 1 rfl) ?_
          refine lv_iconst (v := 1) hx hb dX3_passWeb_168 (by decide) ?_
          refine lv_iadd hx hb dX3_passWeb_169 ?_
          refine q_ri (v := nI (k + 1)) (nq_add (a := k) (b := 1) rfl rfl) ?_
          refine q_lald hC hW 14 (Lg14 cc ad (sJ (LX3_passWeb_115_S S k) 5 (k + 1) (((LX3_passWeb_115_S S k).2 5 (k + 1)) + ((LX3_passWeb_115_S S k).2 2 (k + 1))))) (v := ((LX3_passWeb_115_S S k).2 2 (k + 1))) (k + 1) rfl (by omega) (by decide) rfl dX3_passWeb_170 ?_
          refine lv_lsub hx hb dX3_passWeb_171 ?_
          refine lv_ladd hx hb dX3_passWeb_172 ?_
          refine q_putL hC hW kX3_159 (k + 15) (Lg_f8 cc ad (sJ (LX3_passWeb_115_S S k) 5 (k + 1) (((LX3_passWeb_115_S S k).2 5 (k + 1)) + ((LX3_passWeb_115_S S k).2 2 (k + 1)))) k (by omega)) (Ls_f8_4 cc ad (sJ (LX3_passWeb_115_S S k) 5 (k + 1) (((LX3_passWeb_115_S S k).2 5 (k + 1)) + ((LX3_passWeb_115_S S k).2 2 (k + 1)))) k (by omega) (((LX3_passWeb_115_S S k).2 3 k) + (((LX3_passWeb_115_S S k).2 2 k) - ((LX3_passWeb_115_S S k).2 2 (k + 1))))) (Nat.le_of_ble_eq_true rfl) dX3_passWeb_173 (fun H locs hW => ?_)
          refine lv_iinc (v := (nI (k + 1))) (lv' := [(1, .int (nI (k + 1))), (0, .ref (ad 0))]) hx hb dX3_passWeb_176 hl (k := 1) rfl (nq_inc k 1) (by decide) rfl (fun ls hl => ?_)
          refine lv_goto (tgt := 115) hx hb dX3_passWeb_179 (by decide) ?_
          exact ih (k + 1) (by omega) _ _ _ (by simp only [LX3_passWeb_115_S]; exact hW) (lv_sub hl [1, 0] rfl)
      exact loop2 (cN S) 0 (by omega) _ _ _ hW (lv_sub hl [1, 0] rfl)
    | succ rn ih =>
      intro k hk H locs ls hW hl
      have hkN : k < (cN S) := by omega
      refine lv_iload_n hx hb dX3_passWeb_42 rfl (lv_at hl 1 rfl) ?_
      refine lv_aload_n hx hb dX3_passWeb_43 rfl (lv_at hl 0 rfl) ?_
      refine q_get hC hW kX3_86 0 (Lg0 cc ad (LX3_passWeb_42_S S k)) (v := .int (nI (cN S))) (congrArg (fun z => some (Value.int z)) ((nL_passWeb1 S k).trans hI.1.1)) dX3_passWeb_44 ?_
      refine q_icmp_ge_n (tgt := 93) hx hb (a := k) (b := (cN S)) rfl rfl (by omega) (by omega) dX3_passWeb_47 (by decide) (fun c_47 => by exfalso; omega) (fun c_47 => ?_)
      refine lv_aload_n hx hb dX3_passWeb_50 rfl (lv_at hl 0 rfl) ?_
      refine q_get hC hW kX3_65 0 (Lg0 cc ad (LX3_passWeb_42_S S k)) (v := .ref (ad 14)) rfl dX3_passWeb_51 ?_
      refine lv_iload_n hx hb dX3_passWeb_54 rfl (lv_at hl 1 rfl) ?_
      refine lv_iconst (v := 1) hx hb dX3_passWeb_55 (by decide) ?_
      refine lv_iadd hx hb dX3_passWeb_56 ?_
      refine q_ri (v := nI (k + 1)) (nq_add (a := k) (b := 1) rfl rfl) ?_
      refine lv_aload_n hx hb dX3_passWeb_57 rfl (lv_at hl 0 rfl) ?_
      refine lv_iload_n hx hb dX3_passWeb_58 rfl (lv_at hl 1 rfl) ?_
      refine lv_iconst (v := 1) hx hb dX3_passWeb_59 (by decide) ?_
      refine lv_iadd hx hb dX3_passWeb_60 ?_
      refine q_ri (v := nI (k + 1)) (nq_add (a := k) (b := 1) rfl rfl) ?_
      refine q_VL hC hW (c_X3_speedOf l D cc ad (LX3_passWeb_42_S S k) (k + 1) (cN S) ((nL_passWeb1 S k).trans hI.1.1) (by omega) (by omega)) mX3_201 0 (Lg0 cc ad (LX3_passWeb_42_S S k)) rfl (by decide) rfl hl.1 rfl (Nat.le_of_ble_eq_true rfl) (by decide) dX3_passWeb_61 (fun H locs hW => ?_)
      refine lv_aload_n hx hb dX3_passWeb_64 rfl (lv_at hl 0 rfl) ?_
      refine q_get hC hW kX3_55 0 (Lg0 cc ad (LX3_passWeb_42_S S k)) (v := .ref (ad 12)) rfl dX3_passWeb_65 ?_
      refine lv_iload_n hx hb dX3_passWeb_68 rfl (lv_at hl 1 rfl) ?_
      refine q_aald hC hW 12 3 (Lg12 cc ad (LX3_passWeb_42_S S k)) rfl (v := ad (k + 15)) k rfl (by omega) (by decide) rfl dX3_passWeb_69 ?_
      refine q_get hC hW kX3_159 (k + 15) (Lg_f8 cc ad (LX3_passWeb_42_S S k) k (by omega)) (v := .long ((LX3_passWeb_42_S S k).2 3 k)) rfl dX3_passWeb_70 ?_
      refine lv_lmul hx hb dX3_passWeb_73 ?_
      refine lv_aload_n hx hb dX3_passWeb_74 rfl (lv_at hl 0 rfl) ?_
      refine q_get hC hW kX3_55 0 (Lg0 cc ad (LX3_passWeb_42_S S k)) (v := .ref (ad 12)) rfl dX3_passWeb_75 ?_
      refine lv_iload_n hx hb dX3_passWeb_78 rfl (lv_at hl 1 rfl) ?_
      refine q_aald hC hW 12 3 (Lg12 cc ad (LX3_passWeb_42_S S k)) rfl (v := ad (k + 15)) k rfl (by omega) (by decide) rfl dX3_passWeb_79 ?_
      refine q_VL hC hW (c_X8_length l D cc ad (LX3_passWeb_42_S S k) k (by omega)) mX3_213 (k + 15) (Lg_f8 cc ad (LX3_passWeb_42_S S k) k (by omega)) rfl (by decide) rfl hl.1 rfl (Nat.le_of_ble_eq_true rfl) (by decide) dX3_passWeb_80 (fun H locs hW => ?_)
      refine q_SL hC hW (c_X11_quotient l D cc _ ((sX3_speedOf (LX3_passWeb_42_S S k) (k + 1) (cN S)) * ((LX3_passWeb_42_S S k).2 3 k)) (sX8_length (LX3_passWeb_42_S S k) k)) mX3_210 (by decide) rfl hl.1 rfl (Nat.le_of_ble_eq_true rfl) (by decide) dX3_passWeb_83 (fun H locs hW => ?_)
      refine q_last hC hW 14 (Lg14 cc ad (LX3_passWeb_42_S S k)) (k + 1) rfl (by omega) (by decide) (Ls14 cc ad (LX3_passWeb_42_S S k) (k + 1) (sX11_quotient ((sX3_speedOf (LX3_passWeb_42_S S k) (k + 1) (cN S)) * ((LX3_passWeb_42_S S k).2 3 k)) (sX8_length (LX3_passWeb_42_S S k) k))) dX3_passWeb_86 (fun H locs hW => ?_)
      refine lv_iinc (v := (nI (k + 1))) (lv' := [(1, .int (nI (k + 1))), (0, .ref (ad 0))]) hx hb dX3_passWeb_87 hl (k := 1) rfl (nq_inc k 1) (by decide) rfl (fun ls hl => ?_)
      refine lv_goto (tgt := 42) hx hb dX3_passWeb_90 (by decide) ?_
      exact ih (k + 1) (by omega) _ _ _ (by simp only [LX3_passWeb_42_S]; exact hW) (lv_sub hl [1, 0] rfl)
  exact loop1 (cN S) 0 (by omega) _ _ _ hW (lv_sub hl [1, 0] rfl)
theorem inv_X3_passWeb (S : St) (hI : Inv S) : Inv (sX3_passWeb_S S) := hI.congr (L2_passWeb S (cN S))
def sX3_breakWeb_S (S : St) (x : Int32) : St := (sX2_add_S (sI (sI S 0 2 1) 0 3 x) (S.1 0 1) 1 x (cO S) (cC S))
set_option maxHeartbeats 4000000 in
set_option maxRecDepth 100000 in
theorem c_X3_breakWeb (l : Launch) (D : va_G) (cc : Nat → ClassId) (ad : Nat → Nat) (S : St) (x : Int32) (hI : Inv S) : CtV l D cc yX3_breakWeb cX3_breakWeb 2 3 [.ref (ad 0), .int x] (LW cc ad S) (LW cc ad (sX3_breakWeb_S S x)) := by
  refine CtV.of (plainFor_of_name (by decide +kernel)) (Nat.le_of_ble_eq_true rfl) ?_
  intro p e s m args below meth c A Q hC hW hend ls hl
  obtain ⟨⟨hx, hb, hml, hown, hts⟩, hNW⟩ := id hC
  have hl : lv_has ls 2 [(0, .ref (ad 0)), (1, .int x)] := hl
  obtain ⟨⟨-, hb1_hI, hb2_hI⟩, ⟨-, hq_hI⟩, ⟨-, hm_hI⟩, ⟨-, ho_hI⟩, ⟨-, hc_hI⟩⟩ := id hI
  refine lv_aload_n hx hb dX3_breakWeb_0 rfl (lv_at hl 0 rfl) ?_
  refine lv_iconst (v := 1) hx hb dX3_breakWeb_1 (by decide) ?_
  refine q_putI hC hW kX3_97 0 (Lg0 cc ad S) (Ls0_11 cc ad S 1) (Nat.le_of_ble_eq_true rfl) dX3_breakWeb_2 (fun H locs hW => ?_)
  refine lv_aload_n hx hb dX3_breakWeb_5 rfl (lv_at hl 0 rfl) ?_
  refine lv_iload_n hx hb dX3_breakWeb_6 rfl (lv_at hl 1 rfl) ?_
  refine q_putI hC hW kX3_101 0 (Lg0 cc ad (sI S 0 2 1)) (Ls0_12 cc ad (sI S 0 2 1) x) (Nat.le_of_ble_eq_true rfl) dX3_breakWeb_7 (fun H locs hW => ?_)
  refine lv_aload_n hx hb dX3_breakWeb_10 rfl (lv_at hl 0 rfl) ?_
  refine q_get hC hW kX3_49 0 (Lg0 cc ad (sI (sI S 0 2 1) 0 3 x)) (v := .ref (ad 8)) rfl dX3_breakWeb_11 ?_
  refine lv_aload_n hx hb dX3_breakWeb_14 rfl (lv_at hl 0 rfl) ?_
  refine q_get hC hW kX3_94 0 (Lg0 cc ad (sI (sI S 0 2 1) 0 3 x)) (v := .int (S.1 0 1)) rfl dX3_breakWeb_15 ?_
  refine lv_iconst (v := 1) hx hb dX3_breakWeb_18 (by decide) ?_
  refine lv_iload_n hx hb dX3_breakWeb_19 rfl (lv_at hl 1 rfl) ?_
  refine q_VV hC hW (c_X2_add l D cc ad (sI (sI S 0 2 1) 0 3 x) (S.1 0 1) 1 x (cO S) (cC S) hI.2.2.2.1.1 hI.2.2.2.2.1 (by omega) (by omega)) mX3_220 8 (Lg8 cc ad (sI (sI S 0 2 1) 0 3 x)) rfl (by decide) rfl hl.1 rfl (Nat.le_of_ble_eq_true rfl) (by decide) dX3_breakWeb_20 (fun H locs hW => ?_)
  have hI_1 : Inv (sX2_add_S (sI (sI S 0 2 1) 0 3 x) (S.1 0 1) 1 x (cO S) (cC S)) := inv_X2_add (sI (sI S 0 2 1) 0 3 x) (S.1 0 1) 1 x hI
  obtain ⟨⟨-, -, -⟩, ⟨-, hq_hI_1⟩, ⟨-, hm_hI_1⟩, ⟨-, ho_hI_1⟩, ⟨-, hc_hI_1⟩⟩ := id hI_1
  exact hend _ _ _ _ _ (by unfold sX3_breakWeb_S; rfl) hW dX3_breakWeb_23
theorem inv_X3_breakWeb (S : St) (x : Int32) (hI : Inv S) : Inv (sX3_breakWeb_S S x) := inv_X2_add (sI (sI S 0 2 1) 0 3 x) _ _ _ hI
theorem n_X3_breakWeb (S : St) (x : Int32) : (sX3_breakWeb_S S x).1 0 0 = S.1 0 0 := n_X2_add _ _ _ _ _ _
def sX3_unwind_S (S : St)  : St := (if ((S.2 0 0) - (S.2 2 0)) < 0 then (if (cQ S) = 0 then (sX2_add_S (sI (sJ S 0 0 ((S.2 0 0) - (S.2 2 0))) 0 2 2) (S.1 0 1) 4 0 (cO S) (cC S)) else (if (S.1 0 8) ≤ (S.1 0 11) then (sX9_takeNext_S (sX5_add_S (sX2_add_S (sJ S 0 0 ((S.2 0 0) - (S.2 2 0))) (S.1 0 1) 0 0 (cO S) (cC S)) (((sX2_add_S (sJ S 0 0 ((S.2 0 0) - (S.2 2 0))) (S.1 0 1) 0 0 (cO S) (cC S)).2 5 0) + ((sX2_add_S (sJ S 0 0 ((S.2 0 0) - (S.2 2 0))) (S.1 0 1) 0 0 (cO S) (cC S)).2 0 0)) (cM S)) (cQ S)) else (sX3_breakWeb_S (sJ S 0 0 ((S.2 0 0) - (S.2 2 0))) (-1)))) else (sJ S 0 0 ((S.2 0 0) - (S.2 2 0))))
set_option maxHeartbeats 4000000 in
set_option maxRecDepth 100000 in
theorem c_X3_unwind (l : Launch) (D : va_G) (cc : Nat → ClassId) (ad : Nat → Nat) (S : St) (hI : Inv S) : CtV l D cc yX3_unwind cX3_unwind 1 4 [.ref (ad 0)] (LW cc ad S) (LW cc ad (sX3_unwind_S S )) := by
  refine CtV.of (plainFor_of_name (by decide +kernel)) (Nat.le_of_ble_eq_true rfl) ?_
  intro p e s m args below meth c A Q hC hW hend ls hl
  obtain ⟨⟨hx, hb, hml, hown, hts⟩, hNW⟩ := id hC
  have hl : lv_has ls 1 [(0, .ref (ad 0))] := hl
  obtain ⟨⟨-, hb1_hI, hb2_hI⟩, ⟨-, hq_hI⟩, ⟨-, hm_hI⟩, ⟨-, ho_hI⟩, ⟨-, hc_hI⟩⟩ := id hI
  refine lv_aload_n hx hb dX3_unwind_0 rfl (lv_at hl 0 rfl) ?_
  refine q_get hC hW kX3_28 0 (Lg0 cc ad S) (v := .ref (ad 3)) rfl dX3_unwind_1 ?_
  refine lv_dup hx hb dX3_unwind_4 rfl ?_
  refine q_get hC hW kX3_170 3 (Lg3 cc ad S) (v := .long (S.2 0 0)) rfl dX3_unwind_5 ?_
  refine lv_aload_n hx hb dX3_unwind_8 rfl (lv_at hl 0 rfl) ?_
  refine q_get hC hW kX3_65 0 (Lg0 cc ad S) (v := .ref (ad 14)) rfl dX3_unwind_9 ?_
  refine lv_iconst (v := 0) hx hb dX3_unwind_12 (by decide) ?_
  refine q_lald hC hW 14 (Lg14 cc ad S) (v := (S.2 2 0)) 0 rfl (by omega) (by decide) rfl dX3_unwind_13 ?_
  refine lv_lsub hx hb dX3_unwind_14 ?_
  refine q_putL hC hW kX3_170 3 (Lg3 cc ad S) (Ls3_2 cc ad S ((S.2 0 0) - (S.2 2 0))) (Nat.le_of_ble_eq_true rfl) dX3_unwind_15 (fun H locs hW => ?_)
  refine lv_aload_n hx hb dX3_unwind_18 rfl (lv_at hl 0 rfl) ?_
  refine q_get hC hW kX3_28 0 (Lg0 cc ad (sJ S 0 0 ((S.2 0 0) - (S.2 2 0)))) (v := .ref (ad 3)) rfl dX3_unwind_19 ?_
  refine q_get hC hW kX3_170 3 (Lg3 cc ad (sJ S 0 0 ((S.2 0 0) - (S.2 2 0)))) (v := .long ((S.2 0 0) - (S.2 2 0))) rfl dX3_unwind_22 ?_
  refine lv_lconst (v := 0) hx hb dX3_unwind_25 rfl ?_
  refine q_jlt (tgt := 31) hC dX3_unwind_26 dX3_unwind_27 (by decide) (fun c_26 => ?_) (fun c_26 => ?_)
  · skip
    refine lv_aload_n hx hb dX3_unwind_31 rfl (lv_at hl 0 rfl) ?_
    refine q_get hC hW kX3_28 0 (Lg0 cc ad (sJ S 0 0 ((S.2 0 0) - (S.2 2 0)))) (v := .ref (ad 3)) rfl dX3_unwind_32 ?_
    refine q_get hC hW kX3_217 3 (Lg3 cc ad (sJ S 0 0 ((S.2 0 0) - (S.2 2 0)))) (v := .int (nI (cQ S))) (congrArg (fun z => some (Value.int z)) hI.2.1.1) dX3_unwind_35 ?_
    refine q_if_ne_n (tgt := 62) hx hb (a := (cQ S)) rfl (by omega) dX3_unwind_38 (by decide) (fun c_38 => ?_) (fun c_38 => ?_)
    · skip
      refine lv_aload_n hx hb dX3_unwind_62 rfl (lv_at hl 0 rfl) ?_
      refine q_get hC hW kX3_21 0 (Lg0 cc ad (sJ S 0 0 ((S.2 0 0) - (S.2 2 0)))) (v := .ref (ad 2)) rfl dX3_unwind_63 ?_
      refine q_get hC hW kX3_135 2 (Lg2 cc ad (sJ S 0 0 ((S.2 0 0) - (S.2 2 0)))) (v := .int (S.1 0 8)) rfl dX3_unwind_66 ?_
      refine lv_aload_n hx hb dX3_unwind_69 rfl (lv_at hl 0 rfl) ?_
      refine q_get hC hW kX3_21 0 (Lg0 cc ad (sJ S 0 0 ((S.2 0 0) - (S.2 2 0)))) (v := .ref (ad 2)) rfl dX3_unwind_70 ?_
      refine q_get hC hW kX3_224 2 (Lg2 cc ad (sJ S 0 0 ((S.2 0 0) - (S.2 2 0)))) (v := .int (S.1 0 11)) rfl dX3_unwind_73 ?_
      refine lv_icmp_le (tgt := 87) hx hb dX3_unwind_76 (by decide) (fun c_76 => ?_) (fun c_76 => ?_)
      · skip
        refine lv_aload_n hx hb dX3_unwind_87 rfl (lv_at hl 0 rfl) ?_
        refine q_get hC hW kX3_49 0 (Lg0 cc ad (sJ S 0 0 ((S.2 0 0) - (S.2 2 0)))) (v := .ref (ad 8)) rfl dX3_unwind_88 ?_
        refine lv_aload_n hx hb dX3_unwind_91 rfl (lv_at hl 0 rfl) ?_
        refine q_get hC hW kX3_94 0 (Lg0 cc ad (sJ S 0 0 ((S.2 0 0) - (S.2 2 0)))) (v := .int (S.1 0 1)) rfl dX3_unwind_92 ?_
        refine lv_iconst (v := 0) hx hb dX3_unwind_95 (by decide) ?_
        refine lv_iconst (v := 0) hx hb dX3_unwind_96 (by decide) ?_
        refine q_VV hC hW (c_X2_add l D cc ad (sJ S 0 0 ((S.2 0 0) - (S.2 2 0))) (S.1 0 1) 0 0 (cO S) (cC S) hI.2.2.2.1.1 hI.2.2.2.2.1 (by omega) (by omega)) mX3_220 8 (Lg8 cc ad (sJ S 0 0 ((S.2 0 0) - (S.2 2 0)))) rfl (by decide) rfl hl.1 rfl (Nat.le_of_ble_eq_true rfl) (by decide) dX3_unwind_97 (fun H locs hW => ?_)
        have hI_1 : Inv (sX2_add_S (sJ S 0 0 ((S.2 0 0) - (S.2 2 0))) (S.1 0 1) 0 0 (cO S) (cC S)) := inv_X2_add (sJ S 0 0 ((S.2 0 0) - (S.2 2 0))) (S.1 0 1) 0 0 hI
        obtain ⟨⟨-, -, -⟩, ⟨-, hq_hI_1⟩, ⟨-, hm_hI_1⟩, ⟨-, ho_hI_1⟩, ⟨-, hc_hI_1⟩⟩ := id hI_1
        refine lv_aload_n hx hb dX3_unwind_100 rfl (lv_at hl 0 rfl) ?_
        refine q_get hC hW kX3_42 0 (Lg0 cc ad (sX2_add_S (sJ S 0 0 ((S.2 0 0) - (S.2 2 0))) (S.1 0 1) 0 0 (cO S) (cC S))) (v := .ref (ad 6)) rfl dX3_unwind_101 ?_
        refine lv_aload_n hx hb dX3_unwind_104 rfl (lv_at hl 0 rfl) ?_
        refine q_get hC hW kX3_61 0 (Lg0 cc ad (sX2_add_S (sJ S 0 0 ((S.2 0 0) - (S.2 2 0))) (S.1 0 1) 0 0 (cO S) (cC S))) (v := .ref (ad 13)) rfl dX3_unwind_105 ?_
        refine lv_iconst (v := 0) hx hb dX3_unwind_108 (by decide) ?_
        refine q_aald hC hW 13 2 (Lg13 cc ad (sX2_add_S (sJ S 0 0 ((S.2 0 0) - (S.2 2 0))) (S.1 0 1) 0 0 (cO S) (cC S))) rfl (v := ad (0 + 33)) 0 rfl (by omega) (by decide) rfl dX3_unwind_109 ?_
        refine q_get hC hW kX3_155 (0 + 33) (Lg_f7 cc ad (sX2_add_S (sJ S 0 0 ((S.2 0 0) - (S.2 2 0))) (S.1 0 1) 0 0 (cO S) (cC S)) 0 (by omega)) (v := .long ((sX2_add_S (sJ S 0 0 ((S.2 0 0) - (S.2 2 0))) (S.1 0 1) 0 0 (cO S) (cC S)).2 5 0)) rfl dX3_unwind_110 ?_
        refine lv_aload_n hx hb dX3_unwind_113 rfl (lv_at hl 0 rfl) ?_
        refine q_get hC hW kX3_28 0 (Lg0 cc ad (sX2_add_S (sJ S 0 0 ((S.2 0 0) - (S.2 2 0))) (S.1 0 1) 0 0 (cO S) (cC S))) (v := .ref (ad 3)) rfl dX3_unwind_114 ?_
        refine q_get hC hW kX3_170 3 (Lg3 cc ad (sX2_add_S (sJ S 0 0 ((S.2 0 0) - (S.2 2 0))) (S.1 0 1) 0 0 (cO S) (cC S))) (v := .long ((sX2_add_S (sJ S 0 0 ((S.2 0 0) - (S.2 2 0))) (S.1 0 1) 0 0 (cO S) (cC S)).2 0 0)) rfl dX3_unwind_117 ?_
        refine lv_ladd hx hb dX3_unwind_120 ?_
        refine q_VV hC hW (c_X5_add l D cc ad (sX2_add_S (sJ S 0 0 ((S.2 0 0) - (S.2 2 0))) (S.1 0 1) 0 0 (cO S) (cC S)) (((sX2_add_S (sJ S 0 0 ((S.2 0 0) - (S.2 2 0))) (S.1 0 1) 0 0 (cO S) (cC S)).2 5 0) + ((sX2_add_S (sJ S 0 0 ((S.2 0 0) - (S.2 2 0))) (S.1 0 1) 0 0 (cO S) (cC S)).2 0 0)) (cM S) ((m_X2_add (sJ S 0 0 ((S.2 0 0) - (S.2 2 0))) (S.1 0 1) 0 0 (cO S) (cC S)).trans hI.2.2.1.1) (by omega)) mX3_230 6 (Lg6 cc ad (sX2_add_S (sJ S 0 0 ((S.2 0 0) - (S.2 2 0))) (S.1 0 1) 0 0 (cO S) (cC S))) rfl (by decide) rfl hl.1 rfl (Nat.le_of_ble_eq_true rfl) (by decide) dX3_unwind_121 (fun H locs hW => ?_)
        refine lv_aload_n hx hb dX3_unwind_124 rfl (lv_at hl 0 rfl) ?_
        refine q_get hC hW kX3_28 0 (Lg0 cc ad (sX5_add_S (sX2_add_S (sJ S 0 0 ((S.2 0 0) - (S.2 2 0))) (S.1 0 1) 0 0 (cO S) (cC S)) (((sX2_add_S (sJ S 0 0 ((S.2 0 0) - (S.2 2 0))) (S.1 0 1) 0 0 (cO S) (cC S)).2 5 0) + ((sX2_add_S (sJ S 0 0 ((S.2 0 0) - (S.2 2 0))) (S.1 0 1) 0 0 (cO S) (cC S)).2 0 0)) (cM S))) (v := .ref (ad 3)) rfl dX3_unwind_125 ?_
        refine q_VV hC hW (c_X9_takeNext l D cc ad (sX5_add_S (sX2_add_S (sJ S 0 0 ((S.2 0 0) - (S.2 2 0))) (S.1 0 1) 0 0 (cO S) (cC S)) (((sX2_add_S (sJ S 0 0 ((S.2 0 0) - (S.2 2 0))) (S.1 0 1) 0 0 (cO S) (cC S)).2 5 0) + ((sX2_add_S (sJ S 0 0 ((S.2 0 0) - (S.2 2 0))) (S.1 0 1) 0 0 (cO S) (cC S)).2 0 0)) (cM S)) (cQ S) ((q_X5_add (sX2_add_S (sJ S 0 0 ((S.2 0 0) - (S.2 2 0))) (S.1 0 1) 0 0 (cO S) (cC S)) (((sX2_add_S (sJ S 0 0 ((S.2 0 0) - (S.2 2 0))) (S.1 0 1) 0 0 (cO S) (cC S)).2 5 0) + ((sX2_add_S (sJ S 0 0 ((S.2 0 0) - (S.2 2 0))) (S.1 0 1) 0 0 (cO S) (cC S)).2 0 0)) (cM S)).trans ((q_X2_add (sJ S 0 0 ((S.2 0 0) - (S.2 2 0))) (S.1 0 1) 0 0 (cO S) (cC S)).trans hI.2.1.1)) (by omega)) mX3_233 3 (Lg3 cc ad (sX5_add_S (sX2_add_S (sJ S 0 0 ((S.2 0 0) - (S.2 2 0))) (S.1 0 1) 0 0 (cO S) (cC S)) (((sX2_add_S (sJ S 0 0 ((S.2 0 0) - (S.2 2 0))) (S.1 0 1) 0 0 (cO S) (cC S)).2 5 0) + ((sX2_add_S (sJ S 0 0 ((S.2 0 0) - (S.2 2 0))) (S.1 0 1) 0 0 (cO S) (cC S)).2 0 0)) (cM S))) rfl (by decide) rfl hl.1 rfl (Nat.le_of_ble_eq_true rfl) (by decide) dX3_unwind_128 (fun H locs hW => ?_)
        exact hend _ _ _ _ _ (by simp only [sX3_unwind_S, if_pos c_26, if_neg c_38, if_pos c_76]) hW dX3_unwind_131
      · skip
        refine lv_aload_n hx hb dX3_unwind_79 rfl (lv_at hl 0 rfl) ?_
        refine lv_iconst (v := (-1)) hx hb dX3_unwind_80 (by decide) ?_
        refine q_VV hC hW (c_X3_breakWeb l D cc ad (sJ S 0 0 ((S.2 0 0) - (S.2 2 0))) (-1) hI) mX3_227 0 (Lg0 cc ad (sJ S 0 0 ((S.2 0 0) - (S.2 2 0)))) rfl (by decide) rfl hl.1 rfl (Nat.le_of_ble_eq_true rfl) (by decide) dX3_unwind_81 (fun H locs hW => ?_)
        have hI_2 : Inv (sX3_breakWeb_S (sJ S 0 0 ((S.2 0 0) - (S.2 2 0))) (-1)) := inv_X3_breakWeb (sJ S 0 0 ((S.2 0 0) - (S.2 2 0))) (-1) hI
        obtain ⟨⟨-, -, -⟩, ⟨-, hq_hI_2⟩, ⟨-, hm_hI_2⟩, ⟨-, ho_hI_2⟩, ⟨-, hc_hI_2⟩⟩ := id hI_2
        refine lv_goto (tgt := 131) hx hb dX3_unwind_84 (by decide) ?_
        exact hend _ _ _ _ _ (by simp only [sX3_unwind_S, if_pos c_26, if_neg c_38, if_neg c_76]) hW dX3_unwind_131
    · skip
      refine lv_aload_n hx hb dX3_unwind_41 rfl (lv_at hl 0 rfl) ?_
      refine lv_iconst (v := 2) hx hb dX3_unwind_42 (by decide) ?_
      refine q_putI hC hW kX3_97 0 (Lg0 cc ad (sJ S 0 0 ((S.2 0 0) - (S.2 2 0)))) (Ls0_11 cc ad (sJ S 0 0 ((S.2 0 0) - (S.2 2 0))) 2) (Nat.le_of_ble_eq_true rfl) dX3_unwind_43 (fun H locs hW => ?_)
      refine lv_aload_n hx hb dX3_unwind_46 rfl (lv_at hl 0 rfl) ?_
      refine q_get hC hW kX3_49 0 (Lg0 cc ad (sI (sJ S 0 0 ((S.2 0 0) - (S.2 2 0))) 0 2 2)) (v := .ref (ad 8)) rfl dX3_unwind_47 ?_
      refine lv_aload_n hx hb dX3_unwind_50 rfl (lv_at hl 0 rfl) ?_
      refine q_get hC hW kX3_94 0 (Lg0 cc ad (sI (sJ S 0 0 ((S.2 0 0) - (S.2 2 0))) 0 2 2)) (v := .int (S.1 0 1)) rfl dX3_unwind_51 ?_
      refine lv_iconst (v := 4) hx hb dX3_unwind_54 (by decide) ?_
      refine lv_iconst (v := 0) hx hb dX3_unwind_55 (by decide) ?_
      refine q_VV hC hW (c_X2_add l D cc ad (sI (sJ S 0 0 ((S.2 0 0) - (S.2 2 0))) 0 2 2) (S.1 0 1) 4 0 (cO S) (cC S) hI.2.2.2.1.1 hI.2.2.2.2.1 (by omega) (by omega)) mX3_220 8 (Lg8 cc ad (sI (sJ S 0 0 ((S.2 0 0) - (S.2 2 0))) 0 2 2)) rfl (by decide) rfl hl.1 rfl (Nat.le_of_ble_eq_true rfl) (by decide) dX3_unwind_56 (fun H locs hW => ?_)
      have hI_3 : Inv (sX2_add_S (sI (sJ S 0 0 ((S.2 0 0) - (S.2 2 0))) 0 2 2) (S.1 0 1) 4 0 (cO S) (cC S)) := inv_X2_add (sI (sJ S 0 0 ((S.2 0 0) - (S.2 2 0))) 0 2 2) (S.1 0 1) 4 0 hI
      obtain ⟨⟨-, -, -⟩, ⟨-, hq_hI_3⟩, ⟨-, hm_hI_3⟩, ⟨-, ho_hI_3⟩, ⟨-, hc_hI_3⟩⟩ := id hI_3
      refine lv_goto (tgt := 131) hx hb dX3_unwind_59 (by decide) ?_
      exact hend _ _ _ _ _ (by simp only [sX3_unwind_S, if_pos c_26, if_pos c_38]) hW dX3_unwind_131
  · skip
    exact hend _ _ _ _ _ (by simp only [sX3_unwind_S, if_neg c_26]) hW dX3_unwind_30
def sX3_wind_S (S : St)  : St := (if (sX6_takes S (S.2 2 (cN S))) = 0 then (sX6_takes_S S (S.2 2 (cN S))) else (sX2_add_S (sX6_takes_S S (S.2 2 (cN S))) ((sX6_takes_S S (S.2 2 (cN S))).1 0 1) 5 ((sX6_takes_S S (S.2 2 (cN S))).1 0 15) (cO (sX6_takes_S S (S.2 2 (cN S)))) (cC (sX6_takes_S S (S.2 2 (cN S))))))
set_option maxHeartbeats 4000000 in
set_option maxRecDepth 100000 in
theorem c_X3_wind (l : Launch) (D : va_G) (cc : Nat → ClassId) (ad : Nat → Nat) (S : St) (hI : Inv S) : CtV l D cc yX3_wind cX3_wind 1 3 [.ref (ad 0)] (LW cc ad S) (LW cc ad (sX3_wind_S S )) := by
  refine CtV.of (plainFor_of_name (by decide +kernel)) (Nat.le_of_ble_eq_true rfl) ?_
  intro p e s m args below meth c A Q hC hW hend ls hl
  obtain ⟨⟨hx, hb, hml, hown, hts⟩, hNW⟩ := id hC
  have hl : lv_has ls 1 [(0, .ref (ad 0))] := hl
  obtain ⟨⟨-, hb1_hI, hb2_hI⟩, ⟨-, hq_hI⟩, ⟨-, hm_hI⟩, ⟨-, ho_hI⟩, ⟨-, hc_hI⟩⟩ := id hI
  refine lv_aload_n hx hb dX3_wind_0 rfl (lv_at hl 0 rfl) ?_
  refine q_get hC hW kX3_35 0 (Lg0 cc ad S) (v := .ref (ad 5)) rfl dX3_wind_1 ?_
  refine lv_aload_n hx hb dX3_wind_4 rfl (lv_at hl 0 rfl) ?_
  refine q_get hC hW kX3_65 0 (Lg0 cc ad S) (v := .ref (ad 14)) rfl dX3_wind_5 ?_
  refine lv_aload_n hx hb dX3_wind_8 rfl (lv_at hl 0 rfl) ?_
  refine q_get hC hW kX3_86 0 (Lg0 cc ad S) (v := .int (nI (cN S))) (congrArg (fun z => some (Value.int z)) hI.1.1) dX3_wind_9 ?_
  refine q_lald hC hW 14 (Lg14 cc ad S) (v := (S.2 2 (cN S))) (cN S) rfl (by omega) (by decide) rfl dX3_wind_12 ?_
  refine q_VI hC hW (c_X6_takes l D cc ad S (S.2 2 (cN S))) mX3_236 5 (Lg5 cc ad S) rfl (by decide) rfl hl.1 rfl (Nat.le_of_ble_eq_true rfl) (by decide) dX3_wind_13 (fun H locs hW => ?_)
  have hI_1 : Inv (sX6_takes_S S (S.2 2 (cN S))) := inv_X6_takes S (S.2 2 (cN S)) hI
  obtain ⟨⟨-, -, -⟩, ⟨-, hq_hI_1⟩, ⟨-, hm_hI_1⟩, ⟨-, ho_hI_1⟩, ⟨-, hc_hI_1⟩⟩ := id hI_1
  refine lv_if_eq (tgt := 38) hx hb dX3_wind_16 (by decide) (fun c_16 => ?_) (fun c_16 => ?_)
  · skip
    exact hend _ _ _ _ _ (by simp only [sX3_wind_S, if_pos c_16]) hW dX3_wind_38
  · skip
    refine lv_aload_n hx hb dX3_wind_19 rfl (lv_at hl 0 rfl) ?_
    refine q_get hC hW kX3_49 0 (Lg0 cc ad (sX6_takes_S S (S.2 2 (cN S)))) (v := .ref (ad 8)) rfl dX3_wind_20 ?_
    refine lv_aload_n hx hb dX3_wind_23 rfl (lv_at hl 0 rfl) ?_
    refine q_get hC hW kX3_94 0 (Lg0 cc ad (sX6_takes_S S (S.2 2 (cN S)))) (v := .int ((sX6_takes_S S (S.2 2 (cN S))).1 0 1)) rfl dX3_wind_24 ?_
    refine lv_iconst (v := 5) hx hb dX3_wind_27 (by decide) ?_
    refine lv_aload_n hx hb dX3_wind_28 rfl (lv_at hl 0 rfl) ?_
    refine q_get hC hW kX3_35 0 (Lg0 cc ad (sX6_takes_S S (S.2 2 (cN S)))) (v := .ref (ad 5)) rfl dX3_wind_29 ?_
    refine q_get hC hW kX3_240 5 (Lg5 cc ad (sX6_takes_S S (S.2 2 (cN S)))) (v := .int ((sX6_takes_S S (S.2 2 (cN S))).1 0 15)) rfl dX3_wind_32 ?_
    refine q_VV hC hW (c_X2_add l D cc ad (sX6_takes_S S (S.2 2 (cN S))) ((sX6_takes_S S (S.2 2 (cN S))).1 0 1) 5 ((sX6_takes_S S (S.2 2 (cN S))).1 0 15) (cO (sX6_takes_S S (S.2 2 (cN S)))) (cC (sX6_takes_S S (S.2 2 (cN S)))) hI_1.2.2.2.1.1 hI_1.2.2.2.2.1 (by omega) (by omega)) mX3_220 8 (Lg8 cc ad (sX6_takes_S S (S.2 2 (cN S)))) rfl (by decide) rfl hl.1 rfl (Nat.le_of_ble_eq_true rfl) (by decide) dX3_wind_35 (fun H locs hW => ?_)
    have hI_2 : Inv (sX2_add_S (sX6_takes_S S (S.2 2 (cN S))) ((sX6_takes_S S (S.2 2 (cN S))).1 0 1) 5 ((sX6_takes_S S (S.2 2 (cN S))).1 0 15) (cO (sX6_takes_S S (S.2 2 (cN S)))) (cC (sX6_takes_S S (S.2 2 (cN S))))) := inv_X2_add (sX6_takes_S S (S.2 2 (cN S))) ((sX6_takes_S S (S.2 2 (cN S))).1 0 1) 5 ((sX6_takes_S S (S.2 2 (cN S))).1 0 15) hI_1
    obtain ⟨⟨-, -, -⟩, ⟨-, hq_hI_2⟩, ⟨-, hm_hI_2⟩, ⟨-, ho_hI_2⟩, ⟨-, hc_hI_2⟩⟩ := id hI_2
    exact hend _ _ _ _ _ (by simp only [sX3_wind_S, if_neg c_16]) hW dX3_wind_38
def LX3_control_2_S (S : St)  : Nat → St
  | 0 => S
  | k + 1 => (if ((LX3_control_2_S S k).1 6 k) = 1 then (sI (sX0_move_S (LX3_control_2_S S k) k (sX8_tensionAt (LX3_control_2_S S k) k ((LX3_control_2_S S k).1 0 4))) 18 (k + 1) (sX0_trim (sX0_move_S (LX3_control_2_S S k) k (sX8_tensionAt (LX3_control_2_S S k) k ((LX3_control_2_S S k).1 0 4))) k)) else (if ((LX3_control_2_S S k).1 6 k) = 2 then (sI (LX3_control_2_S S k) 18 (k + 1) (sX4_trimAfter (LX3_control_2_S S k) k ((LX3_control_2_S S k).1 18 (k + 1)) (sX8_tensionAt (LX3_control_2_S S k) k ((LX3_control_2_S S k).1 0 4)))) else (LX3_control_2_S S k)))
theorem nL_control (S : St) (k : Nat) : (LX3_control_2_S S k).1 0 0 = S.1 0 0 := by
  induction k with
  | zero => rfl
  | succ k ih =>
    unfold LX3_control_2_S
    repeat' split
    all_goals exact ih
def sX3_control_S (S : St)  : St := (LX3_control_2_S S (cN S))
set_option maxHeartbeats 4000000 in
set_option maxRecDepth 100000 in
theorem c_X3_control (l : Launch) (D : va_G) (cc : Nat → ClassId) (ad : Nat → Nat) (S : St) (hI : Inv S) : CtV l D cc yX3_control cX3_control 6 3 [.ref (ad 0)] (LW cc ad S) (LW cc ad (sX3_control_S S )) := by
  refine CtV.of (plainFor_of_name (by decide +kernel)) (Nat.le_of_ble_eq_true rfl) ?_
  intro p e s m args below meth c A Q hC hW hend ls hl
  obtain ⟨⟨hx, hb, hml, hown, hts⟩, hNW⟩ := id hC
  have hl : lv_has ls 6 [(0, .ref (ad 0))] := hl
  obtain ⟨⟨-, hb1_hI, hb2_hI⟩, ⟨-, hq_hI⟩, ⟨-, hm_hI⟩, ⟨-, ho_hI⟩, ⟨-, hc_hI⟩⟩ := id hI
  refine lv_iconst (v := 0) hx hb dX3_control_0 (by decide) ?_
  refine lv_istore_n (lv' := [(1, .int 0), (0, .ref (ad 0))]) hx hb dX3_control_1 rfl hl (by decide) rfl (fun ls hl => ?_)
  have loop1 : ∀ (rn k : Nat), k + rn = (cN S) → ∀ (H : Heap) (locs : List Loc) (ls : Array Slot), Wd D cc (LW cc ad (LX3_control_2_S S k)) A s.heap H locs s → lv_has ls 6 [(0, .ref (ad 0)), (1, .int (nI k))] → W p l e (rmD 3) s m args below meth c H locs 0 0 Q (F0 m 2 ls []) := by
    intro rn
    induction rn with
    | zero =>
      intro k hk H locs ls hW hl
      obtain rfl : (cN S) = k := by omega
      refine lv_iload_n hx hb dX3_control_2 rfl (lv_at hl 1 rfl) ?_
      refine lv_aload_n hx hb dX3_control_3 rfl (lv_at hl 0 rfl) ?_
      refine q_get hC hW kX3_86 0 (Lg0 cc ad (LX3_control_2_S S (cN S))) (v := .int (nI (cN S))) (congrArg (fun z => some (Value.int z)) ((nL_control S (cN S)).trans hI.1.1)) dX3_control_4 ?_
      refine q_icmp_ge_n (tgt := 101) hx hb (a := (cN S)) (b := (cN S)) rfl rfl (by omega) (by omega) dX3_control_7 (by decide) (fun c_7 => ?_) (fun c_7 => by exfalso; omega)
      exact hend _ _ _ _ _ (by unfold sX3_control_S; rfl) hW dX3_control_101
    | succ rn ih =>
      intro k hk H locs ls hW hl
      have hkN : k < (cN S) := by omega
      refine lv_iload_n hx hb dX3_control_2 rfl (lv_at hl 1 rfl) ?_
      refine lv_aload_n hx hb dX3_control_3 rfl (lv_at hl 0 rfl) ?_
      refine q_get hC hW kX3_86 0 (Lg0 cc ad (LX3_control_2_S S k)) (v := .int (nI (cN S))) (congrArg (fun z => some (Value.int z)) ((nL_control S k).trans hI.1.1)) dX3_control_4 ?_
      refine q_icmp_ge_n (tgt := 101) hx hb (a := k) (b := (cN S)) rfl rfl (by omega) (by omega) dX3_control_7 (by decide) (fun c_7 => by exfalso; omega) (fun c_7 => ?_)
      refine lv_aload_n hx hb dX3_control_10 rfl (lv_at hl 0 rfl) ?_
      refine q_get hC hW kX3_55 0 (Lg0 cc ad (LX3_control_2_S S k)) (v := .ref (ad 12)) rfl dX3_control_11 ?_
      refine lv_iload_n hx hb dX3_control_14 rfl (lv_at hl 1 rfl) ?_
      refine q_aald hC hW 12 3 (Lg12 cc ad (LX3_control_2_S S k)) rfl (v := ad (k + 15)) k rfl (by omega) (by decide) rfl dX3_control_15 ?_
      refine lv_astore_n (lv' := [(2, .ref (ad (k + 15))), (0, .ref (ad 0)), (1, .int (nI k))]) hx hb dX3_control_16 rfl hl (by decide) rfl (fun ls hl => ?_)
      refine lv_aload_n hx hb dX3_control_17 rfl (lv_at hl 1 rfl) ?_
      refine q_get hC hW kX3_61 0 (Lg0 cc ad (LX3_control_2_S S k)) (v := .ref (ad 13)) rfl dX3_control_18 ?_
      refine lv_iload_n hx hb dX3_control_21 rfl (lv_at hl 2 rfl) ?_
      refine lv_iconst (v := 1) hx hb dX3_control_22 (by decide) ?_
      refine lv_iadd hx hb dX3_control_23 ?_
      refine q_ri (v := nI (k + 1)) (nq_add (a := k) (b := 1) rfl rfl) ?_
      refine q_aald hC hW 13 2 (Lg13 cc ad (LX3_control_2_S S k)) rfl (v := ad (k + 1 + 33)) (k + 1) rfl (by omega) (by decide) rfl dX3_control_24 ?_
      refine lv_astore_n (lv' := [(3, .ref (ad (k + 1 + 33))), (2, .ref (ad (k + 15))), (0, .ref (ad 0)), (1, .int (nI k))]) hx hb dX3_control_25 rfl hl (by decide) rfl (fun ls hl => ?_)
      refine lv_aload_n hx hb dX3_control_26 rfl (lv_at hl 1 rfl) ?_
      refine lv_aload_n hx hb dX3_control_27 rfl (lv_at hl 2 rfl) ?_
      refine q_get hC hW kX3_12 0 (Lg0 cc ad (LX3_control_2_S S k)) (v := .ref (ad 1)) rfl dX3_control_28 ?_
      refine q_get hC hW kX3_204 1 (Lg1 cc ad (LX3_control_2_S S k)) (v := .int ((LX3_control_2_S S k).1 0 4)) rfl dX3_control_31 ?_
      refine q_VL hC hW (c_X8_tensionAt l D cc ad (LX3_control_2_S S k) k ((LX3_control_2_S S k).1 0 4) (by omega)) mX3_243 (k + 15) (Lg_f8 cc ad (LX3_control_2_S S k) k (by omega)) rfl (by decide) rfl hl.1 rfl (Nat.le_of_ble_eq_true rfl) (by decide) dX3_control_34 (fun H locs hW => ?_)
      refine lv_lstore (lv' := [(4, .long (sX8_tensionAt (LX3_control_2_S S k) k ((LX3_control_2_S S k).1 0 4))), (3, .ref (ad (k + 1 + 33))), (2, .ref (ad (k + 15))), (0, .ref (ad 0)), (1, .int (nI k))]) hx hb dX3_control_37 hl (by decide) rfl (fun ls hl => ?_)
      refine lv_aload_n hx hb dX3_control_39 rfl (lv_at hl 2 rfl) ?_
      refine q_get hC hW kX3_246 (k + 15) (Lg_f8 cc ad (LX3_control_2_S S k) k (by omega)) (v := .int ((LX3_control_2_S S k).1 6 k)) rfl dX3_control_40 ?_
      refine lv_iconst (v := 1) hx hb dX3_control_43 (by decide) ?_
      refine lv_icmp_ne (tgt := 70) hx hb dX3_control_44 (by decide) (fun c_44 => ?_) (fun c_44 => ?_)
      · skip
        refine lv_aload_n hx hb dX3_control_70 rfl (lv_at hl 2 rfl) ?_
        refine q_get hC hW kX3_246 (k + 15) (Lg_f8 cc ad (LX3_control_2_S S k) k (by omega)) (v := .int ((LX3_control_2_S S k).1 6 k)) rfl dX3_control_71 ?_
        refine lv_iconst (v := 2) hx hb dX3_control_74 (by decide) ?_
        refine lv_icmp_ne (tgt := 95) hx hb dX3_control_75 (by decide) (fun c_75 => ?_) (fun c_75 => ?_)
        · skip
          refine lv_iinc (v := (nI (k + 1))) (lv' := [(1, .int (nI (k + 1))), (4, .long (sX8_tensionAt (LX3_control_2_S S k) k ((LX3_control_2_S S k).1 0 4))), (3, .ref (ad (k + 1 + 33))), (2, .ref (ad (k + 15))), (0, .ref (ad 0))]) hx hb dX3_control_95 hl (k := 4) rfl (nq_inc k 1) (by decide) rfl (fun ls hl => ?_)
          refine lv_goto (tgt := 2) hx hb dX3_control_98 (by decide) ?_
          exact ih (k + 1) (by omega) _ _ _ (by simp only [LX3_control_2_S, if_neg c_44, if_neg c_75]; exact hW) (lv_sub hl [4, 0] rfl)
        · skip
          refine lv_aload_n hx hb dX3_control_78 rfl (lv_at hl 1 rfl) ?_
          refine lv_aload_n hx hb dX3_control_79 rfl (lv_at hl 2 rfl) ?_
          refine q_get hC hW kX3_261 (k + 15) (Lg_f8 cc ad (LX3_control_2_S S k) k (by omega)) (v := .ref (ad (k + 27))) rfl dX3_control_80 ?_
          refine lv_aload_n hx hb dX3_control_83 rfl (lv_at hl 1 rfl) ?_
          refine q_get hC hW kX3_146 (k + 1 + 33) (Lg_f7 cc ad (LX3_control_2_S S k) (k + 1) (by omega)) (v := .int ((LX3_control_2_S S k).1 18 (k + 1))) rfl dX3_control_84 ?_
          refine lv_lload hx hb dX3_control_87 (lv_at hl 0 rfl) ?_
          refine q_VI hC hW (c_X4_trimAfter l D cc ad (LX3_control_2_S S k) k ((LX3_control_2_S S k).1 18 (k + 1)) (sX8_tensionAt (LX3_control_2_S S k) k ((LX3_control_2_S S k).1 0 4)) (by omega)) mX3_265 (k + 27) (Lg_f4 cc ad (LX3_control_2_S S k) k (by omega)) rfl (by decide) rfl hl.1 rfl (Nat.le_of_ble_eq_true rfl) (by decide) dX3_control_89 (fun H locs hW => ?_)
          refine q_putI hC hW kX3_146 (k + 1 + 33) (Lg_f7 cc ad (LX3_control_2_S S k) (k + 1) (by omega)) (Ls_f7_2 cc ad (LX3_control_2_S S k) (k + 1) (by omega) (sX4_trimAfter (LX3_control_2_S S k) k ((LX3_control_2_S S k).1 18 (k + 1)) (sX8_tensionAt (LX3_control_2_S S k) k ((LX3_control_2_S S k).1 0 4)))) (Nat.le_of_ble_eq_true rfl) dX3_control_92 (fun H locs hW => ?_)
          refine lv_iinc (v := (nI (k + 1))) (lv' := [(1, .int (nI (k + 1))), (4, .long (sX8_tensionAt (LX3_control_2_S S k) k ((LX3_control_2_S S k).1 0 4))), (3, .ref (ad (k + 1 + 33))), (2, .ref (ad (k + 15))), (0, .ref (ad 0))]) hx hb dX3_control_95 hl (k := 4) rfl (nq_inc k 1) (by decide) rfl (fun ls hl => ?_)
          refine lv_goto (tgt := 2) hx hb dX3_control_98 (by decide) ?_
          exact ih (k + 1) (by omega) _ _ _ (by simp only [LX3_control_2_S, if_neg c_44, if_pos c_75]; exact hW) (lv_sub hl [4, 0] rfl)
      · skip
        refine lv_aload_n hx hb dX3_control_47 rfl (lv_at hl 2 rfl) ?_
        refine q_get hC hW kX3_249 (k + 15) (Lg_f8 cc ad (LX3_control_2_S S k) k (by omega)) (v := .ref (ad (k + 21))) rfl dX3_control_48 ?_
        refine lv_lload hx hb dX3_control_51 (lv_at hl 0 rfl) ?_
        refine q_VV hC hW (c_X0_move l D cc ad (LX3_control_2_S S k) k (sX8_tensionAt (LX3_control_2_S S k) k ((LX3_control_2_S S k).1 0 4)) (by omega)) mX3_253 (k + 21) (Lg_f0 cc ad (LX3_control_2_S S k) k (by omega)) rfl (by decide) rfl hl.1 rfl (Nat.le_of_ble_eq_true rfl) (by decide) dX3_control_53 (fun H locs hW => ?_)
        refine lv_aload_n hx hb dX3_control_56 rfl (lv_at hl 1 rfl) ?_
        refine lv_aload_n hx hb dX3_control_57 rfl (lv_at hl 2 rfl) ?_
        refine q_get hC hW kX3_249 (k + 15) (Lg_f8 cc ad (sX0_move_S (LX3_control_2_S S k) k (sX8_tensionAt (LX3_control_2_S S k) k ((LX3_control_2_S S k).1 0 4))) k (by omega)) (v := .ref (ad (k + 21))) rfl dX3_control_58 ?_
        refine q_VI hC hW (c_X0_trim l D cc ad (sX0_move_S (LX3_control_2_S S k) k (sX8_tensionAt (LX3_control_2_S S k) k ((LX3_control_2_S S k).1 0 4))) k (by omega)) mX3_258 (k + 21) (Lg_f0 cc ad (sX0_move_S (LX3_control_2_S S k) k (sX8_tensionAt (LX3_control_2_S S k) k ((LX3_control_2_S S k).1 0 4))) k (by omega)) rfl (by decide) rfl hl.1 rfl (Nat.le_of_ble_eq_true rfl) (by decide) dX3_control_61 (fun H locs hW => ?_)
        refine q_putI hC hW kX3_146 (k + 1 + 33) (Lg_f7 cc ad (sX0_move_S (LX3_control_2_S S k) k (sX8_tensionAt (LX3_control_2_S S k) k ((LX3_control_2_S S k).1 0 4))) (k + 1) (by omega)) (Ls_f7_2 cc ad (sX0_move_S (LX3_control_2_S S k) k (sX8_tensionAt (LX3_control_2_S S k) k ((LX3_control_2_S S k).1 0 4))) (k + 1) (by omega) (sX0_trim (sX0_move_S (LX3_control_2_S S k) k (sX8_tensionAt (LX3_control_2_S S k) k ((LX3_control_2_S S k).1 0 4))) k)) (Nat.le_of_ble_eq_true rfl) dX3_control_64 (fun H locs hW => ?_)
        refine lv_goto (tgt := 95) hx hb dX3_control_67 (by decide) ?_
        refine lv_iinc (v := (nI (k + 1))) (lv' := [(1, .int (nI (k + 1))), (4, .long (sX8_tensionAt (LX3_control_2_S S k) k ((LX3_control_2_S S k).1 0 4))), (3, .ref (ad (k + 1 + 33))), (2, .ref (ad (k + 15))), (0, .ref (ad 0))]) hx hb dX3_control_95 hl (k := 4) rfl (nq_inc k 1) (by decide) rfl (fun ls hl => ?_)
        refine lv_goto (tgt := 2) hx hb dX3_control_98 (by decide) ?_
        exact ih (k + 1) (by omega) _ _ _ (by simp only [LX3_control_2_S, if_pos c_44]; exact hW) (lv_sub hl [4, 0] rfl)
  exact loop1 (cN S) 0 (by omega) _ _ _ hW (lv_sub hl [1, 0] rfl)
def sX3_countSlack_S (S : St) (i : Nat) (x : Int64) : St := (if x = 0 then (if ((S.1 7 i) + 1) = 20 then (sX2_add_S (sI S 7 i ((S.1 7 i) + 1)) (S.1 0 1) 2 (nI i) (cO S) (cC S)) else (sI S 7 i ((S.1 7 i) + 1))) else (if (S.1 7 i) < 20 then (sI S 7 i 0) else (sX2_add_S (sI S 7 i 0) (S.1 0 1) 3 (nI i) (cO S) (cC S))))
set_option maxHeartbeats 4000000 in
set_option maxRecDepth 100000 in
theorem c_X3_countSlack (l : Launch) (D : va_G) (cc : Nat → ClassId) (ad : Nat → Nat) (S : St) (i : Nat) (x : Int64) (hI : Inv S) (hi : i < 6) : CtV l D cc yX3_countSlack cX3_countSlack 5 3 [.ref (ad 0), .int (nI i), .long x] (LW cc ad S) (LW cc ad (sX3_countSlack_S S i x)) := by
  refine CtV.of (plainFor_of_name (by decide +kernel)) (Nat.le_of_ble_eq_true rfl) ?_
  intro p e s m args below meth c A Q hC hW hend ls hl
  obtain ⟨⟨hx, hb, hml, hown, hts⟩, hNW⟩ := id hC
  have hl : lv_has ls 5 [(0, .ref (ad 0)), (1, .int (nI i)), (2, .long x)] := hl
  obtain ⟨⟨-, hb1_hI, hb2_hI⟩, ⟨-, hq_hI⟩, ⟨-, hm_hI⟩, ⟨-, ho_hI⟩, ⟨-, hc_hI⟩⟩ := id hI
  refine lv_aload_n hx hb dX3_countSlack_0 rfl (lv_at hl 0 rfl) ?_
  refine q_get hC hW kX3_55 0 (Lg0 cc ad S) (v := .ref (ad 12)) rfl dX3_countSlack_1 ?_
  refine lv_iload_n hx hb dX3_countSlack_4 rfl (lv_at hl 1 rfl) ?_
  refine q_aald hC hW 12 3 (Lg12 cc ad S) rfl (v := ad (i + 15)) i rfl (by omega) (by decide) rfl dX3_countSlack_5 ?_
  refine q_get hC hW kX3_287 (i + 15) (Lg_f8 cc ad S i (by omega)) (v := .int (S.1 7 i)) rfl dX3_countSlack_6 ?_
  refine lv_istore (lv' := [(4, .int (S.1 7 i)), (0, .ref (ad 0)), (1, .int (nI i)), (2, .long x)]) hx hb dX3_countSlack_9 hl (by decide) rfl (fun ls hl => ?_)
  refine lv_aload_n hx hb dX3_countSlack_11 rfl (lv_at hl 1 rfl) ?_
  refine q_get hC hW kX3_55 0 (Lg0 cc ad S) (v := .ref (ad 12)) rfl dX3_countSlack_12 ?_
  refine lv_iload_n hx hb dX3_countSlack_15 rfl (lv_at hl 2 rfl) ?_
  refine q_aald hC hW 12 3 (Lg12 cc ad S) rfl (v := ad (i + 15)) i rfl (by omega) (by decide) rfl dX3_countSlack_16 ?_
  refine lv_lload_n hx hb dX3_countSlack_17 rfl (lv_at hl 3 rfl) ?_
  refine lv_lconst (v := 0) hx hb dX3_countSlack_18 rfl ?_
  refine q_jne (tgt := 30) hC dX3_countSlack_19 dX3_countSlack_20 (by decide) (fun c_19 => ?_) (fun c_19 => ?_)
  · skip
    refine lv_iconst (v := 0) hx hb dX3_countSlack_30 (by decide) ?_
    refine q_putI hC hW kX3_287 (i + 15) (Lg_f8 cc ad S i (by omega)) (Ls_f8_6 cc ad S i (by omega) 0) (Nat.le_of_ble_eq_true rfl) dX3_countSlack_31 (fun H locs hW => ?_)
    refine lv_aload_n hx hb dX3_countSlack_34 rfl (lv_at hl 1 rfl) ?_
    refine q_get hC hW kX3_55 0 (Lg0 cc ad (sI S 7 i 0)) (v := .ref (ad 12)) rfl dX3_countSlack_35 ?_
    refine lv_iload_n hx hb dX3_countSlack_38 rfl (lv_at hl 2 rfl) ?_
    refine q_aald hC hW 12 3 (Lg12 cc ad (sI S 7 i 0)) rfl (v := ad (i + 15)) i rfl (by omega) (by decide) rfl dX3_countSlack_39 ?_
    refine q_get hC hW kX3_287 (i + 15) (Lg_f8 cc ad (sI S 7 i 0) i (by omega)) (v := .int 0) (congrArg (fun z => some (Value.int z)) (rI_at S 7 i 0)) dX3_countSlack_40 ?_
    refine lv_bipush (v := 20) hx hb dX3_countSlack_43 (by decide) ?_
    refine lv_icmp_ne (tgt := 64) hx hb dX3_countSlack_45 (by decide) (fun c_45 => ?_) (fun c_45 => by exfalso; revert c_45; decide)
    refine lv_lload_n hx hb dX3_countSlack_64 rfl (lv_at hl 3 rfl) ?_
    refine lv_lconst (v := 0) hx hb dX3_countSlack_65 rfl ?_
    refine q_jeq (tgt := 90) hC dX3_countSlack_66 dX3_countSlack_67 (by decide) (fun c_66 => by exfalso; exact c_19 c_66) (fun c_66 => ?_)
    refine lv_iload hx hb dX3_countSlack_70 (lv_at hl 0 rfl) ?_
    refine lv_bipush (v := 20) hx hb dX3_countSlack_72 (by decide) ?_
    refine lv_icmp_lt (tgt := 90) hx hb dX3_countSlack_74 (by decide) (fun c_74 => ?_) (fun c_74 => ?_)
    · skip
      exact hend _ _ _ _ _ (by simp only [sX3_countSlack_S, if_neg c_19, if_pos c_74]) hW dX3_countSlack_90
    · skip
      refine lv_aload_n hx hb dX3_countSlack_77 rfl (lv_at hl 1 rfl) ?_
      refine q_get hC hW kX3_49 0 (Lg0 cc ad (sI S 7 i 0)) (v := .ref (ad 8)) rfl dX3_countSlack_78 ?_
      refine lv_aload_n hx hb dX3_countSlack_81 rfl (lv_at hl 1 rfl) ?_
      refine q_get hC hW kX3_94 0 (Lg0 cc ad (sI S 7 i 0)) (v := .int (S.1 0 1)) rfl dX3_countSlack_82 ?_
      refine lv_iconst (v := 3) hx hb dX3_countSlack_85 (by decide) ?_
      refine lv_iload_n hx hb dX3_countSlack_86 rfl (lv_at hl 2 rfl) ?_
      refine q_VV hC hW (c_X2_add l D cc ad (sI S 7 i 0) (S.1 0 1) 3 (nI i) (cO S) (cC S) hI.2.2.2.1.1 hI.2.2.2.2.1 (by omega) (by omega)) mX3_220 8 (Lg8 cc ad (sI S 7 i 0)) rfl (by decide) rfl hl.1 rfl (Nat.le_of_ble_eq_true rfl) (by decide) dX3_countSlack_87 (fun H locs hW => ?_)
      have hI_1 : Inv (sX2_add_S (sI S 7 i 0) (S.1 0 1) 3 (nI i) (cO S) (cC S)) := inv_X2_add (sI S 7 i 0) (S.1 0 1) 3 (nI i) hI
      obtain ⟨⟨-, -, -⟩, ⟨-, hq_hI_1⟩, ⟨-, hm_hI_1⟩, ⟨-, ho_hI_1⟩, ⟨-, hc_hI_1⟩⟩ := id hI_1
      exact hend _ _ _ _ _ (by simp only [sX3_countSlack_S, if_neg c_19, if_neg c_74]) hW dX3_countSlack_90
  · skip
    refine lv_iload hx hb dX3_countSlack_23 (lv_at hl 0 rfl) ?_
    refine lv_iconst (v := 1) hx hb dX3_countSlack_25 (by decide) ?_
    refine lv_iadd hx hb dX3_countSlack_26 ?_
    refine lv_goto (tgt := 31) hx hb dX3_countSlack_27 (by decide) ?_
    refine q_putI hC hW kX3_287 (i + 15) (Lg_f8 cc ad S i (by omega)) (Ls_f8_6 cc ad S i (by omega) ((S.1 7 i) + 1)) (Nat.le_of_ble_eq_true rfl) dX3_countSlack_31 (fun H locs hW => ?_)
    refine lv_aload_n hx hb dX3_countSlack_34 rfl (lv_at hl 1 rfl) ?_
    refine q_get hC hW kX3_55 0 (Lg0 cc ad (sI S 7 i ((S.1 7 i) + 1))) (v := .ref (ad 12)) rfl dX3_countSlack_35 ?_
    refine lv_iload_n hx hb dX3_countSlack_38 rfl (lv_at hl 2 rfl) ?_
    refine q_aald hC hW 12 3 (Lg12 cc ad (sI S 7 i ((S.1 7 i) + 1))) rfl (v := ad (i + 15)) i rfl (by omega) (by decide) rfl dX3_countSlack_39 ?_
    refine q_get hC hW kX3_287 (i + 15) (Lg_f8 cc ad (sI S 7 i ((S.1 7 i) + 1)) i (by omega)) (v := .int ((S.1 7 i) + 1)) (congrArg (fun z => some (Value.int z)) (rI_at S 7 i ((S.1 7 i) + 1))) dX3_countSlack_40 ?_
    refine lv_bipush (v := 20) hx hb dX3_countSlack_43 (by decide) ?_
    refine lv_icmp_ne (tgt := 64) hx hb dX3_countSlack_45 (by decide) (fun c_45 => ?_) (fun c_45 => ?_)
    · skip
      refine lv_lload_n hx hb dX3_countSlack_64 rfl (lv_at hl 3 rfl) ?_
      refine lv_lconst (v := 0) hx hb dX3_countSlack_65 rfl ?_
      refine q_jeq (tgt := 90) hC dX3_countSlack_66 dX3_countSlack_67 (by decide) (fun c_66 => ?_) (fun c_66 => by exfalso; exact c_66 c_19)
      exact hend _ _ _ _ _ (by simp only [sX3_countSlack_S, if_pos c_19, if_neg c_45]) hW dX3_countSlack_90
    · skip
      refine lv_aload_n hx hb dX3_countSlack_48 rfl (lv_at hl 1 rfl) ?_
      refine q_get hC hW kX3_49 0 (Lg0 cc ad (sI S 7 i ((S.1 7 i) + 1))) (v := .ref (ad 8)) rfl dX3_countSlack_49 ?_
      refine lv_aload_n hx hb dX3_countSlack_52 rfl (lv_at hl 1 rfl) ?_
      refine q_get hC hW kX3_94 0 (Lg0 cc ad (sI S 7 i ((S.1 7 i) + 1))) (v := .int (S.1 0 1)) rfl dX3_countSlack_53 ?_
      refine lv_iconst (v := 2) hx hb dX3_countSlack_56 (by decide) ?_
      refine lv_iload_n hx hb dX3_countSlack_57 rfl (lv_at hl 2 rfl) ?_
      refine q_VV hC hW (c_X2_add l D cc ad (sI S 7 i ((S.1 7 i) + 1)) (S.1 0 1) 2 (nI i) (cO S) (cC S) hI.2.2.2.1.1 hI.2.2.2.2.1 (by omega) (by omega)) mX3_220 8 (Lg8 cc ad (sI S 7 i ((S.1 7 i) + 1))) rfl (by decide) rfl hl.1 rfl (Nat.le_of_ble_eq_true rfl) (by decide) dX3_countSlack_58 (fun H locs hW => ?_)
      have hI_2 : Inv (sX2_add_S (sI S 7 i ((S.1 7 i) + 1)) (S.1 0 1) 2 (nI i) (cO S) (cC S)) := inv_X2_add (sI S 7 i ((S.1 7 i) + 1)) (S.1 0 1) 2 (nI i) hI
      obtain ⟨⟨-, -, -⟩, ⟨-, hq_hI_2⟩, ⟨-, hm_hI_2⟩, ⟨-, ho_hI_2⟩, ⟨-, hc_hI_2⟩⟩ := id hI_2
      refine lv_goto (tgt := 90) hx hb dX3_countSlack_61 (by decide) ?_
      exact hend _ _ _ _ _ (by simp only [sX3_countSlack_S, if_pos c_19, if_pos c_45]) hW dX3_countSlack_90
