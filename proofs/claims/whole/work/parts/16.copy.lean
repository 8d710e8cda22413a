def sX10_copyFrom_S (So S : St)  : St := (sI (sI (sI (sI S 0 4 (So.1 0 4)) 0 5 (So.1 0 5)) 0 6 (So.1 0 6)) 0 7 (So.1 0 7))
set_option maxHeartbeats 4000000 in
set_option maxRecDepth 100000 in
theorem c_X10_copyFrom (l : Launch) (D : va_G) (cc : Nat → ClassId) (ao ad : Nat → Nat) (So S : St) : CtV l D cc yX10_copyFrom cX10_copyFrom 2 0 [.ref (ad 1), .ref (ao 1)] (LW cc ao So ++ LW cc ad S) (LW cc ao So ++ LW cc ad (sX10_copyFrom_S So S )) := by
  refine CtV.of (plainFor_of_name (by decide +kernel)) (Nat.le_of_ble_eq_true rfl) ?_
  intro p e s m args below meth c A Q hC hW hend ls hl
  obtain ⟨⟨hx, hb, hml, hown, hts⟩, hNW⟩ := id hC
  have hl : lv_has ls 2 [(0, .ref (ad 1)), (1, .ref (ao 1))] := hl
  refine lv_aload_n hx hb dX10_copyFrom_0 rfl (lv_at hl 0 rfl) ?_
  refine lv_aload_n hx hb dX10_copyFrom_1 rfl (lv_at hl 1 rfl) ?_
  refine q_get hC hW kX10_10 1 (ap_g1 (Lg1 cc ao So)) (v := .int (So.1 0 4)) rfl dX10_copyFrom_2 ?_
  refine q_putI hC hW kX10_10 (40 + 1) (ap_g2 (LW_len _ _ _) (Lg1 cc ad S)) (ap_s2 (LW_len _ _ _) (Ls1_0 cc ad S (So.1 0 4))) (Nat.le_of_ble_eq_true rfl) dX10_copyFrom_5 (fun H locs hW => ?_)
  refine lv_aload_n hx hb dX10_copyFrom_8 rfl (lv_at hl 0 rfl) ?_
  refine lv_aload_n hx hb dX10_copyFrom_9 rfl (lv_at hl 1 rfl) ?_
  refine q_get hC hW kX10_16 1 (ap_g1 (Lg1 cc ao So)) (v := .int (So.1 0 5)) rfl dX10_copyFrom_10 ?_
  refine q_putI hC hW kX10_16 (40 + 1) (ap_g2 (LW_len _ _ _) (Lg1 cc ad (sI S 0 4 (So.1 0 4)))) (ap_s2 (LW_len _ _ _) (Ls1_1 cc ad (sI S 0 4 (So.1 0 4)) (So.1 0 5))) (Nat.le_of_ble_eq_true rfl) dX10_copyFrom_13 (fun H locs hW => ?_)
  refine lv_aload_n hx hb dX10_copyFrom_16 rfl (lv_at hl 0 rfl) ?_
  refine lv_aload_n hx hb dX10_copyFrom_17 rfl (lv_at hl 1 rfl) ?_
  refine q_get hC hW kX10_19 1 (ap_g1 (Lg1 cc ao So)) (v := .int (So.1 0 6)) rfl dX10_copyFrom_18 ?_
  refine q_putI hC hW kX10_19 (40 + 1) (ap_g2 (LW_len _ _ _) (Lg1 cc ad (sI (sI S 0 4 (So.1 0 4)) 0 5 (So.1 0 5)))) (ap_s2 (LW_len _ _ _) (Ls1_2 cc ad (sI (sI S 0 4 (So.1 0 4)) 0 5 (So.1 0 5)) (So.1 0 6))) (Nat.le_of_ble_eq_true rfl) dX10_copyFrom_21 (fun H locs hW => ?_)
  refine lv_aload_n hx hb dX10_copyFrom_24 rfl (lv_at hl 0 rfl) ?_
  refine lv_aload_n hx hb dX10_copyFrom_25 rfl (lv_at hl 1 rfl) ?_
  refine q_get hC hW kX10_22 1 (ap_g1 (Lg1 cc ao So)) (v := .int (So.1 0 7)) rfl dX10_copyFrom_26 ?_
  refine q_putI hC hW kX10_22 (40 + 1) (ap_g2 (LW_len _ _ _) (Lg1 cc ad (sI (sI (sI S 0 4 (So.1 0 4)) 0 5 (So.1 0 5)) 0 6 (So.1 0 6)))) (ap_s2 (LW_len _ _ _) (Ls1_3 cc ad (sI (sI (sI S 0 4 (So.1 0 4)) 0 5 (So.1 0 5)) 0 6 (So.1 0 6)) (So.1 0 7))) (Nat.le_of_ble_eq_true rfl) dX10_copyFrom_29 (fun H locs hW => ?_)
  exact hend _ _ _ _ _ (by unfold sX10_copyFrom_S; rfl) hW dX10_copyFrom_32
def sX1_copyFrom_S (So S : St)  : St := (sI (sI (sI (sI (sI S 0 8 (So.1 0 8)) 0 9 (So.1 0 9)) 0 10 (So.1 0 10)) 0 11 (So.1 0 11)) 0 12 (So.1 0 12))
set_option maxHeartbeats 4000000 in
set_option maxRecDepth 100000 in
theorem c_X1_copyFrom (l : Launch) (D : va_G) (cc : Nat → ClassId) (ao ad : Nat → Nat) (So S : St) : CtV l D cc yX1_copyFrom cX1_copyFrom 2 0 [.ref (ad 2), .ref (ao 2)] (LW cc ao So ++ LW cc ad S) (LW cc ao So ++ LW cc ad (sX1_copyFrom_S So S )) := by
  refine CtV.of (plainFor_of_name (by decide +kernel)) (Nat.le_of_ble_eq_true rfl) ?_
  intro p e s m args below meth c A Q hC hW hend ls hl
  obtain ⟨⟨hx, hb, hml, hown, hts⟩, hNW⟩ := id hC
  have hl : lv_has ls 2 [(0, .ref (ad 2)), (1, .ref (ao 2))] := hl
  refine lv_aload_n hx hb dX1_copyFrom_0 rfl (lv_at hl 0 rfl) ?_
  refine lv_aload_n hx hb dX1_copyFrom_1 rfl (lv_at hl 1 rfl) ?_
  refine q_get hC hW kX1_7 2 (ap_g1 (Lg2 cc ao So)) (v := .int (So.1 0 8)) rfl dX1_copyFrom_2 ?_
  refine q_putI hC hW kX1_7 (40 + 2) (ap_g2 (LW_len _ _ _) (Lg2 cc ad S)) (ap_s2 (LW_len _ _ _) (Ls2_0 cc ad S (So.1 0 8))) (Nat.le_of_ble_eq_true rfl) dX1_copyFrom_5 (fun H locs hW => ?_)
  refine lv_aload_n hx hb dX1_copyFrom_8 rfl (lv_at hl 0 rfl) ?_
  refine lv_aload_n hx hb dX1_copyFrom_9 rfl (lv_at hl 1 rfl) ?_
  refine q_get hC hW kX1_13 2 (ap_g1 (Lg2 cc ao So)) (v := .int (So.1 0 9)) rfl dX1_copyFrom_10 ?_
  refine q_putI hC hW kX1_13 (40 + 2) (ap_g2 (LW_len _ _ _) (Lg2 cc ad (sI S 0 8 (So.1 0 8)))) (ap_s2 (LW_len _ _ _) (Ls2_1 cc ad (sI S 0 8 (So.1 0 8)) (So.1 0 9))) (Nat.le_of_ble_eq_true rfl) dX1_copyFrom_13 (fun H locs hW => ?_)
  refine lv_aload_n hx hb dX1_copyFrom_16 rfl (lv_at hl 0 rfl) ?_
  refine lv_aload_n hx hb dX1_copyFrom_17 rfl (lv_at hl 1 rfl) ?_
  refine q_get hC hW kX1_16 2 (ap_g1 (Lg2 cc ao So)) (v := .int (So.1 0 10)) rfl dX1_copyFrom_18 ?_
  refine q_putI hC hW kX1_16 (40 + 2) (ap_g2 (LW_len _ _ _) (Lg2 cc ad (sI (sI S 0 8 (So.1 0 8)) 0 9 (So.1 0 9)))) (ap_s2 (LW_len _ _ _) (Ls2_2 cc ad (sI (sI S 0 8 (So.1 0 8)) 0 9 (So.1 0 9)) (So.1 0 10))) (Nat.le_of_ble_eq_true rfl) dX1_copyFrom_21 (fun H locs hW => ?_)
  refine lv_aload_n hx hb dX1_copyFrom_24 rfl (lv_at hl 0 rfl) ?_
  refine lv_aload_n hx hb dX1_copyFrom_25 rfl (lv_at hl 1 rfl) ?_
  refine q_get hC hW kX1_19 2 (ap_g1 (Lg2 cc ao So)) (v := .int (So.1 0 11)) rfl dX1_copyFrom_26 ?_
  refine q_putI hC hW kX1_19 (40 + 2) (ap_g2 (LW_len _ _ _) (Lg2 cc ad (sI (sI (sI S 0 8 (So.1 0 8)) 0 9 (So.1 0 9)) 0 10 (So.1 0 10)))) (ap_s2 (LW_len _ _ _) (Ls2_3 cc ad (sI (sI (sI S 0 8 (So.1 0 8)) 0 9 (So.1 0 9)) 0 10 (So.1 0 10)) (So.1 0 11))) (Nat.le_of_ble_eq_true rfl) dX1_copyFrom_29 (fun H locs hW => ?_)
  refine lv_aload_n hx hb dX1_copyFrom_32 rfl (lv_at hl 0 rfl) ?_
  refine lv_aload_n hx hb dX1_copyFrom_33 rfl (lv_at hl 1 rfl) ?_
  refine q_get hC hW kX1_22 2 (ap_g1 (Lg2 cc ao So)) (v := .int (So.1 0 12)) rfl dX1_copyFrom_34 ?_
  refine q_putI hC hW kX1_22 (40 + 2) (ap_g2 (LW_len _ _ _) (Lg2 cc ad (sI (sI (sI (sI S 0 8 (So.1 0 8)) 0 9 (So.1 0 9)) 0 10 (So.1 0 10)) 0 11 (So.1 0 11)))) (ap_s2 (LW_len _ _ _) (Ls2_4 cc ad (sI (sI (sI (sI S 0 8 (So.1 0 8)) 0 9 (So.1 0 9)) 0 10 (So.1 0 10)) 0 11 (So.1 0 11)) (So.1 0 12))) (Nat.le_of_ble_eq_true rfl) dX1_copyFrom_37 (fun H locs hW => ?_)
  exact hend _ _ _ _ _ (by unfold sX1_copyFrom_S; rfl) hW dX1_copyFrom_40
def sX6_copyFrom_S (So S : St)  : St := (sI (sI (sJ S 0 1 (So.2 0 1)) 0 14 (So.1 0 14)) 0 15 (So.1 0 15))
set_option maxHeartbeats 4000000 in
set_option maxRecDepth 100000 in
theorem c_X6_copyFrom (l : Launch) (D : va_G) (cc : Nat → ClassId) (ao ad : Nat → Nat) (So S : St) : CtV l D cc yX6_copyFrom cX6_copyFrom 2 0 [.ref (ad 5), .ref (ao 5)] (LW cc ao So ++ LW cc ad S) (LW cc ao So ++ LW cc ad (sX6_copyFrom_S So S )) := by
  refine CtV.of (plainFor_of_name (by decide +kernel)) (Nat.le_of_ble_eq_true rfl) ?_
  intro p e s m args below meth c A Q hC hW hend ls hl
  obtain ⟨⟨hx, hb, hml, hown, hts⟩, hNW⟩ := id hC
  have hl : lv_has ls 2 [(0, .ref (ad 5)), (1, .ref (ao 5))] := hl
  refine lv_aload_n hx hb dX6_copyFrom_0 rfl (lv_at hl 0 rfl) ?_
  refine lv_aload_n hx hb dX6_copyFrom_1 rfl (lv_at hl 1 rfl) ?_
  refine q_get hC hW kX6_9 5 (ap_g1 (Lg5 cc ao So)) (v := .long (So.2 0 1)) rfl dX6_copyFrom_2 ?_
  refine q_putL hC hW kX6_9 (40 + 5) (ap_g2 (LW_len _ _ _) (Lg5 cc ad S)) (ap_s2 (LW_len _ _ _) (Ls5_0 cc ad S (So.2 0 1))) (Nat.le_of_ble_eq_true rfl) dX6_copyFrom_5 (fun H locs hW => ?_)
  refine lv_aload_n hx hb dX6_copyFrom_8 rfl (lv_at hl 0 rfl) ?_
  refine lv_aload_n hx hb dX6_copyFrom_9 rfl (lv_at hl 1 rfl) ?_
  refine q_get hC hW kX6_16 5 (ap_g1 (Lg5 cc ao So)) (v := .int (So.1 0 14)) rfl dX6_copyFrom_10 ?_
  refine q_putI hC hW kX6_16 (40 + 5) (ap_g2 (LW_len _ _ _) (Lg5 cc ad (sJ S 0 1 (So.2 0 1)))) (ap_s2 (LW_len _ _ _) (Ls5_1 cc ad (sJ S 0 1 (So.2 0 1)) (So.1 0 14))) (Nat.le_of_ble_eq_true rfl) dX6_copyFrom_13 (fun H locs hW => ?_)
  refine lv_aload_n hx hb dX6_copyFrom_16 rfl (lv_at hl 0 rfl) ?_
  refine lv_aload_n hx hb dX6_copyFrom_17 rfl (lv_at hl 1 rfl) ?_
  refine q_get hC hW kX6_20 5 (ap_g1 (Lg5 cc ao So)) (v := .int (So.1 0 15)) rfl dX6_copyFrom_18 ?_
  refine q_putI hC hW kX6_20 (40 + 5) (ap_g2 (LW_len _ _ _) (Lg5 cc ad (sI (sJ S 0 1 (So.2 0 1)) 0 14 (So.1 0 14)))) (ap_s2 (LW_len _ _ _) (Ls5_2 cc ad (sI (sJ S 0 1 (So.2 0 1)) 0 14 (So.1 0 14)) (So.1 0 15))) (Nat.le_of_ble_eq_true rfl) dX6_copyFrom_21 (fun H locs hW => ?_)
  exact hend _ _ _ _ _ (by unfold sX6_copyFrom_S; rfl) hW dX6_copyFrom_24
def sX7_copyFrom_S (So S : St) (i : Nat) : St := (sI (sI (sJ S 5 i (So.2 5 i)) 17 i (So.1 17 i)) 18 i (So.1 18 i))
set_option maxHeartbeats 4000000 in
set_option maxRecDepth 100000 in
theorem c_X7_copyFrom (l : Launch) (D : va_G) (cc : Nat → ClassId) (ao ad : Nat → Nat) (So S : St) (i : Nat) (hi : i < 7) : CtV l D cc yX7_copyFrom cX7_copyFrom 2 0 [.ref (ad (i + 33)), .ref (ao (i + 33))] (LW cc ao So ++ LW cc ad S) (LW cc ao So ++ LW cc ad (sX7_copyFrom_S So S i)) := by
  refine CtV.of (plainFor_of_name (by decide +kernel)) (Nat.le_of_ble_eq_true rfl) ?_
  intro p e s m args below meth c A Q hC hW hend ls hl
  obtain ⟨⟨hx, hb, hml, hown, hts⟩, hNW⟩ := id hC
  have hl : lv_has ls 2 [(0, .ref (ad (i + 33))), (1, .ref (ao (i + 33)))] := hl
  refine lv_aload_n hx hb dX7_copyFrom_0 rfl (lv_at hl 0 rfl) ?_
  refine lv_aload_n hx hb dX7_copyFrom_1 rfl (lv_at hl 1 rfl) ?_
  refine q_get hC hW kX7_7 (i + 33) (ap_g1 (Lg_f7 cc ao So i (by omega))) (v := .long (So.2 5 i)) rfl dX7_copyFrom_2 ?_
  refine q_putL hC hW kX7_7 (40 + (i + 33)) (ap_g2 (LW_len _ _ _) (Lg_f7 cc ad S i (by omega))) (ap_s2 (LW_len _ _ _) (Ls_f7_0 cc ad S i (by omega) (So.2 5 i))) (Nat.le_of_ble_eq_true rfl) dX7_copyFrom_5 (fun H locs hW => ?_)
  refine lv_aload_n hx hb dX7_copyFrom_8 rfl (lv_at hl 0 rfl) ?_
  refine lv_aload_n hx hb dX7_copyFrom_9 rfl (lv_at hl 1 rfl) ?_
  refine q_get hC hW kX7_13 (i + 33) (ap_g1 (Lg_f7 cc ao So i (by omega))) (v := .int (So.1 17 i)) rfl dX7_copyFrom_10 ?_
  refine q_putI hC hW kX7_13 (40 + (i + 33)) (ap_g2 (LW_len _ _ _) (Lg_f7 cc ad (sJ S 5 i (So.2 5 i)) i (by omega))) (ap_s2 (LW_len _ _ _) (Ls_f7_1 cc ad (sJ S 5 i (So.2 5 i)) i (by omega) (So.1 17 i))) (Nat.le_of_ble_eq_true rfl) dX7_copyFrom_13 (fun H locs hW => ?_)
  refine lv_aload_n hx hb dX7_copyFrom_16 rfl (lv_at hl 0 rfl) ?_
  refine lv_aload_n hx hb dX7_copyFrom_17 rfl (lv_at hl 1 rfl) ?_
  refine q_get hC hW kX7_17 (i + 33) (ap_g1 (Lg_f7 cc ao So i (by omega))) (v := .int (So.1 18 i)) rfl dX7_copyFrom_18 ?_
  refine q_putI hC hW kX7_17 (40 + (i + 33)) (ap_g2 (LW_len _ _ _) (Lg_f7 cc ad (sI (sJ S 5 i (So.2 5 i)) 17 i (So.1 17 i)) i (by omega))) (ap_s2 (LW_len _ _ _) (Ls_f7_2 cc ad (sI (sJ S 5 i (So.2 5 i)) 17 i (So.1 17 i)) i (by omega) (So.1 18 i))) (Nat.le_of_ble_eq_true rfl) dX7_copyFrom_21 (fun H locs hW => ?_)
  exact hend _ _ _ _ _ (by unfold sX7_copyFrom_S; rfl) hW dX7_copyFrom_24
theorem n_X7_copyFrom (So S : St) (i : Nat) : (sX7_copyFrom_S So S i).1 0 0 = S.1 0 0 := rfl
def sX4_copyFrom_S (So S : St) (i : Nat) : St := (sI (sI S 15 i (So.1 15 i)) 16 i (So.1 16 i))
set_option maxHeartbeats 4000000 in
set_option maxRecDepth 100000 in
theorem c_X4_copyFrom (l : Launch) (D : va_G) (cc : Nat → ClassId) (ao ad : Nat → Nat) (So S : St) (i : Nat) (hi : i < 6) : CtV l D cc yX4_copyFrom cX4_copyFrom 2 0 [.ref (ad (i + 27)), .ref (ao (i + 27))] (LW cc ao So ++ LW cc ad S) (LW cc ao So ++ LW cc ad (sX4_copyFrom_S So S i)) := by
  refine CtV.of (plainFor_of_name (by decide +kernel)) (Nat.le_of_ble_eq_true rfl) ?_
  intro p e s m args below meth c A Q hC hW hend ls hl
  obtain ⟨⟨hx, hb, hml, hown, hts⟩, hNW⟩ := id hC
  have hl : lv_has ls 2 [(0, .ref (ad (i + 27))), (1, .ref (ao (i + 27)))] := hl
  refine lv_aload_n hx hb dX4_copyFrom_0 rfl (lv_at hl 0 rfl) ?_
  refine lv_aload_n hx hb dX4_copyFrom_1 rfl (lv_at hl 1 rfl) ?_
  refine q_get hC hW kX4_9 (i + 27) (ap_g1 (Lg_f4 cc ao So i (by omega))) (v := .int (So.1 15 i)) rfl dX4_copyFrom_2 ?_
  refine q_putI hC hW kX4_9 (40 + (i + 27)) (ap_g2 (LW_len _ _ _) (Lg_f4 cc ad S i (by omega))) (ap_s2 (LW_len _ _ _) (Ls_f4_0 cc ad S i (by omega) (So.1 15 i))) (Nat.le_of_ble_eq_true rfl) dX4_copyFrom_5 (fun H locs hW => ?_)
  refine lv_aload_n hx hb dX4_copyFrom_8 rfl (lv_at hl 0 rfl) ?_
  refine lv_aload_n hx hb dX4_copyFrom_9 rfl (lv_at hl 1 rfl) ?_
  refine q_get hC hW kX4_15 (i + 27) (ap_g1 (Lg_f4 cc ao So i (by omega))) (v := .int (So.1 16 i)) rfl dX4_copyFrom_10 ?_
  refine q_putI hC hW kX4_15 (40 + (i + 27)) (ap_g2 (LW_len _ _ _) (Lg_f4 cc ad (sI S 15 i (So.1 15 i)) i (by omega))) (ap_s2 (LW_len _ _ _) (Ls_f4_1 cc ad (sI S 15 i (So.1 15 i)) i (by omega) (So.1 16 i))) (Nat.le_of_ble_eq_true rfl) dX4_copyFrom_13 (fun H locs hW => ?_)
  exact hend _ _ _ _ _ (by unfold sX4_copyFrom_S; rfl) hW dX4_copyFrom_16
theorem n_X4_copyFrom (So S : St) (i : Nat) : (sX4_copyFrom_S So S i).1 0 0 = S.1 0 0 := rfl
def sX0_copyFrom_S (So S : St) (i : Nat) : St := (sI (sI (sI (sI (sI (sI (sI S 8 i (So.1 8 i)) 9 i (So.1 9 i)) 10 i (So.1 10 i)) 11 i (So.1 11 i)) 12 i (So.1 12 i)) 13 i (So.1 13 i)) 14 i (So.1 14 i))
set_option maxHeartbeats 4000000 in
set_option maxRecDepth 100000 in
theorem c_X0_copyFrom (l : Launch) (D : va_G) (cc : Nat → ClassId) (ao ad : Nat → Nat) (So S : St) (i : Nat) (hi : i < 6) : CtV l D cc yX0_copyFrom cX0_copyFrom 2 0 [.ref (ad (i + 21)), .ref (ao (i + 21))] (LW cc ao So ++ LW cc ad S) (LW cc ao So ++ LW cc ad (sX0_copyFrom_S So S i)) := by
  refine CtV.of (plainFor_of_name (by decide +kernel)) (Nat.le_of_ble_eq_true rfl) ?_
  intro p e s m args below meth c A Q hC hW hend ls hl
  obtain ⟨⟨hx, hb, hml, hown, hts⟩, hNW⟩ := id hC
  have hl : lv_has ls 2 [(0, .ref (ad (i + 21))), (1, .ref (ao (i + 21)))] := hl
  refine lv_aload_n hx hb dX0_copyFrom_0 rfl (lv_at hl 0 rfl) ?_
  refine lv_aload_n hx hb dX0_copyFrom_1 rfl (lv_at hl 1 rfl) ?_
  refine q_get hC hW kX0_9 (i + 21) (ap_g1 (Lg_f0 cc ao So i (by omega))) (v := .int (So.1 8 i)) rfl dX0_copyFrom_2 ?_
  refine q_putI hC hW kX0_9 (40 + (i + 21)) (ap_g2 (LW_len _ _ _) (Lg_f0 cc ad S i (by omega))) (ap_s2 (LW_len _ _ _) (Ls_f0_0 cc ad S i (by omega) (So.1 8 i))) (Nat.le_of_ble_eq_true rfl) dX0_copyFrom_5 (fun H locs hW => ?_)
  refine lv_aload_n hx hb dX0_copyFrom_8 rfl (lv_at hl 0 rfl) ?_
  refine lv_aload_n hx hb dX0_copyFrom_9 rfl (lv_at hl 1 rfl) ?_
  refine q_get hC hW kX0_15 (i + 21) (ap_g1 (Lg_f0 cc ao So i (by omega))) (v := .int (So.1 9 i)) rfl dX0_copyFrom_10 ?_
  refine q_putI hC hW kX0_15 (40 + (i + 21)) (ap_g2 (LW_len _ _ _) (Lg_f0 cc ad (sI S 8 i (So.1 8 i)) i (by omega))) (ap_s2 (LW_len _ _ _) (Ls_f0_1 cc ad (sI S 8 i (So.1 8 i)) i (by omega) (So.1 9 i))) (Nat.le_of_ble_eq_true rfl) dX0_copyFrom_13 (fun H locs hW => ?_)
  refine lv_aload_n hx hb dX0_copyFrom_16 rfl (lv_at hl 0 rfl) ?_
  refine lv_aload_n hx hb dX0_copyFrom_17 rfl (lv_at hl 1 rfl) ?_
  refine q_get hC hW kX0_18 (i + 21) (ap_g1 (Lg_f0 cc ao So i (by omega))) (v := .int (So.1 10 i)) rfl dX0_copyFrom_18 ?_
  refine q_putI hC hW kX0_18 (40 + (i + 21)) (ap_g2 (LW_len _ _ _) (Lg_f0 cc ad (sI (sI S 8 i (So.1 8 i)) 9 i (So.1 9 i)) i (by omega))) (ap_s2 (LW_len _ _ _) (Ls_f0_2 cc ad (sI (sI S 8 i (So.1 8 i)) 9 i (So.1 9 i)) i (by omega) (So.1 10 i))) (Nat.le_of_ble_eq_true rfl) dX0_copyFrom_21 (fun H locs hW => ?_)
  refine lv_aload_n hx hb dX0_copyFrom_24 rfl (lv_at hl 0 rfl) ?_
  refine lv_aload_n hx hb dX0_copyFrom_25 rfl (lv_at hl 1 rfl) ?_
  refine q_get hC hW kX0_21 (i + 21) (ap_g1 (Lg_f0 cc ao So i (by omega))) (v := .int (So.1 11 i)) rfl dX0_copyFrom_26 ?_
  refine q_putI hC hW kX0_21 (40 + (i + 21)) (ap_g2 (LW_len _ _ _) (Lg_f0 cc ad (sI (sI (sI S 8 i (So.1 8 i)) 9 i (So.1 9 i)) 10 i (So.1 10 i)) i (by omega))) (ap_s2 (LW_len _ _ _) (Ls_f0_3 cc ad (sI (sI (sI S 8 i (So.1 8 i)) 9 i (So.1 9 i)) 10 i (So.1 10 i)) i (by omega) (So.1 11 i))) (Nat.le_of_ble_eq_true rfl) dX0_copyFrom_29 (fun H locs hW => ?_)
  refine lv_aload_n hx hb dX0_copyFrom_32 rfl (lv_at hl 0 rfl) ?_
  refine lv_aload_n hx hb dX0_copyFrom_33 rfl (lv_at hl 1 rfl) ?_
  refine q_get hC hW kX0_24 (i + 21) (ap_g1 (Lg_f0 cc ao So i (by omega))) (v := .int (So.1 12 i)) rfl dX0_copyFrom_34 ?_
  refine q_putI hC hW kX0_24 (40 + (i + 21)) (ap_g2 (LW_len _ _ _) (Lg_f0 cc ad (sI (sI (sI (sI S 8 i (So.1 8 i)) 9 i (So.1 9 i)) 10 i (So.1 10 i)) 11 i (So.1 11 i)) i (by omega))) (ap_s2 (LW_len _ _ _) (Ls_f0_4 cc ad (sI (sI (sI (sI S 8 i (So.1 8 i)) 9 i (So.1 9 i)) 10 i (So.1 10 i)) 11 i (So.1 11 i)) i (by omega) (So.1 12 i))) (Nat.le_of_ble_eq_true rfl) dX0_copyFrom_37 (fun H locs hW => ?_)
  refine lv_aload_n hx hb dX0_copyFrom_40 rfl (lv_at hl 0 rfl) ?_
  refine lv_aload_n hx hb dX0_copyFrom_41 rfl (lv_at hl 1 rfl) ?_
  refine q_get hC hW kX0_30 (i + 21) (ap_g1 (Lg_f0 cc ao So i (by omega))) (v := .int (So.1 13 i)) rfl dX0_copyFrom_42 ?_
  refine q_putI hC hW kX0_30 (40 + (i + 21)) (ap_g2 (LW_len _ _ _) (Lg_f0 cc ad (sI (sI (sI (sI (sI S 8 i (So.1 8 i)) 9 i (So.1 9 i)) 10 i (So.1 10 i)) 11 i (So.1 11 i)) 12 i (So.1 12 i)) i (by omega))) (ap_s2 (LW_len _ _ _) (Ls_f0_5 cc ad (sI (sI (sI (sI (sI S 8 i (So.1 8 i)) 9 i (So.1 9 i)) 10 i (So.1 10 i)) 11 i (So.1 11 i)) 12 i (So.1 12 i)) i (by omega) (So.1 13 i))) (Nat.le_of_ble_eq_true rfl) dX0_copyFrom_45 (fun H locs hW => ?_)
  refine lv_aload_n hx hb dX0_copyFrom_48 rfl (lv_at hl 0 rfl) ?_
  refine lv_aload_n hx hb dX0_copyFrom_49 rfl (lv_at hl 1 rfl) ?_
  refine q_get hC hW kX0_33 (i + 21) (ap_g1 (Lg_f0 cc ao So i (by omega))) (v := .int (So.1 14 i)) rfl dX0_copyFrom_50 ?_
  refine q_putI hC hW kX0_33 (40 + (i + 21)) (ap_g2 (LW_len _ _ _) (Lg_f0 cc ad (sI (sI (sI (sI (sI (sI S 8 i (So.1 8 i)) 9 i (So.1 9 i)) 10 i (So.1 10 i)) 11 i (So.1 11 i)) 12 i (So.1 12 i)) 13 i (So.1 13 i)) i (by omega))) (ap_s2 (LW_len _ _ _) (Ls_f0_6 cc ad (sI (sI (sI (sI (sI (sI S 8 i (So.1 8 i)) 9 i (So.1 9 i)) 10 i (So.1 10 i)) 11 i (So.1 11 i)) 12 i (So.1 12 i)) 13 i (So.1 13 i)) i (by omega) (So.1 14 i))) (Nat.le_of_ble_eq_true rfl) dX0_copyFrom_53 (fun H locs hW => ?_)
  exact hend _ _ _ _ _ (by unfold sX0_copyFrom_S; rfl) hW dX0_copyFrom_56
theorem n_X0_copyFrom (So S : St) (i : Nat) : (sX0_copyFrom_S So S i).1 0 0 = S.1 0 0 := rfl
def sX9_copyFrom_S (So S : St)  : St := (sJ (sI (sRI S 1 (va_cpy (So.1 1) (S.1 1) 0 0 4)) 0 13 (So.1 0 13)) 0 0 (So.2 0 0))
set_option maxHeartbeats 4000000 in
set_option maxRecDepth 100000 in
theorem c_X9_copyFrom (l : Launch) (D : va_G) (cc : Nat → ClassId) (ao ad : Nat → Nat) (So S : St) : CtV l D cc yX9_copyFrom cX9_copyFrom 2 1 [.ref (ad 3), .ref (ao 3)] (LW cc ao So ++ LW cc ad S) (LW cc ao So ++ LW cc ad (sX9_copyFrom_S So S )) := by
  refine CtV.of (plainFor_of_name (by decide +kernel)) (Nat.le_of_ble_eq_true rfl) ?_
  intro p e s m args below meth c A Q hC hW hend ls hl
  obtain ⟨⟨hx, hb, hml, hown, hts⟩, hNW⟩ := id hC
  have hl : lv_has ls 2 [(0, .ref (ad 3)), (1, .ref (ao 3))] := hl
  refine lv_aload_n hx hb dX9_copyFrom_0 rfl (lv_at hl 1 rfl) ?_
  refine q_get hC hW kX9_9 3 (ap_g1 (Lg3 cc ao So)) (v := .ref (ao 4)) rfl dX9_copyFrom_1 ?_
  refine lv_iconst (v := 0) hx hb dX9_copyFrom_4 (by decide) ?_
  refine lv_aload_n hx hb dX9_copyFrom_5 rfl (lv_at hl 0 rfl) ?_
  refine q_get hC hW kX9_9 (40 + 3) (ap_g2 (LW_len _ _ _) (Lg3 cc ad S)) (v := .ref (ad 4)) rfl dX9_copyFrom_6 ?_
  refine lv_iconst (v := 0) hx hb dX9_copyFrom_9 (by decide) ?_
  refine lv_aload_n hx hb dX9_copyFrom_10 rfl (lv_at hl 0 rfl) ?_
  refine q_get hC hW kX9_9 (40 + 3) (ap_g2 (LW_len _ _ _) (Lg3 cc ad S)) (v := .ref (ad 4)) rfl dX9_copyFrom_11 ?_
  refine q_alen hC hW (40 + 4) 0 (ap_g2 (LW_len _ _ _) (Lg4 cc ad S)) rfl (v := 4) rfl dX9_copyFrom_14 ?_
  refine q_copyI hC hW yX9_acopy_23 4 (40 + 4) (ap_g1 (Lg4 cc ao So)) (ap_g2 (LW_len _ _ _) (Lg4 cc ad S)) (sp := 0) (dp := 0) (n := 4) rfl rfl rfl (by omega) (by omega) (by omega) (by omega) (by omega) (ap_s2 (LW_len _ _ _) (Lr4 cc ad S (va_cpy (So.1 1) (S.1 1) 0 0 4))) hl.1 (by decide) (Nat.le_of_ble_eq_true rfl) dX9_copyFrom_15 (fun H locs hW => ?_)
  refine lv_aload_n hx hb dX9_copyFrom_18 rfl (lv_at hl 0 rfl) ?_
  refine lv_aload_n hx hb dX9_copyFrom_19 rfl (lv_at hl 1 rfl) ?_
  refine q_get hC hW kX9_15 3 (ap_g1 (Lg3 cc ao So)) (v := .int (So.1 0 13)) rfl dX9_copyFrom_20 ?_
  refine q_putI hC hW kX9_15 (40 + 3) (ap_g2 (LW_len _ _ _) (Lg3 cc ad (sRI S 1 (va_cpy (So.1 1) (S.1 1) 0 0 4)))) (ap_s2 (LW_len _ _ _) (Ls3_1 cc ad (sRI S 1 (va_cpy (So.1 1) (S.1 1) 0 0 4)) (So.1 0 13))) (Nat.le_of_ble_eq_true rfl) dX9_copyFrom_23 (fun H locs hW => ?_)
  refine lv_aload_n hx hb dX9_copyFrom_26 rfl (lv_at hl 0 rfl) ?_
  refine lv_aload_n hx hb dX9_copyFrom_27 rfl (lv_at hl 1 rfl) ?_
  refine q_get hC hW kX9_19 3 (ap_g1 (Lg3 cc ao So)) (v := .long (So.2 0 0)) rfl dX9_copyFrom_28 ?_
  refine q_putL hC hW kX9_19 (40 + 3) (ap_g2 (LW_len _ _ _) (Lg3 cc ad (sI (sRI S 1 (va_cpy (So.1 1) (S.1 1) 0 0 4)) 0 13 (So.1 0 13)))) (ap_s2 (LW_len _ _ _) (Ls3_2 cc ad (sI (sRI S 1 (va_cpy (So.1 1) (S.1 1) 0 0 4)) 0 13 (So.1 0 13)) (So.2 0 0))) (Nat.le_of_ble_eq_true rfl) dX9_copyFrom_31 (fun H locs hW => ?_)
  exact hend _ _ _ _ _ (by unfold sX9_copyFrom_S; rfl) hW dX9_copyFrom_34
def sX5_copyFrom_S (So S : St) (mc : Nat) : St := (sI (sRJ S 1 (va_cpy (So.2 1) (S.2 1) 0 0 mc)) 0 16 (nI mc))
set_option maxHeartbeats 4000000 in
set_option maxRecDepth 100000 in
theorem c_X5_copyFrom (l : Launch) (D : va_G) (cc : Nat → ClassId) (ao ad : Nat → Nat) (So S : St) (mc : Nat) (hm : So.1 0 16 = nI mc) (hm5 : mc ≤ 512) : CtV l D cc yX5_copyFrom cX5_copyFrom 2 1 [.ref (ad 6), .ref (ao 6)] (LW cc ao So ++ LW cc ad S) (LW cc ao So ++ LW cc ad (sX5_copyFrom_S So S mc)) := by
  refine CtV.of (plainFor_of_name (by decide +kernel)) (Nat.le_of_ble_eq_true rfl) ?_
  intro p e s m args below meth c A Q hC hW hend ls hl
  obtain ⟨⟨hx, hb, hml, hown, hts⟩, hNW⟩ := id hC
  have hl : lv_has ls 2 [(0, .ref (ad 6)), (1, .ref (ao 6))] := hl
  refine lv_aload_n hx hb dX5_copyFrom_0 rfl (lv_at hl 1 rfl) ?_
  refine q_get hC hW kX5_9 6 (ap_g1 (Lg6 cc ao So)) (v := .ref (ao 7)) rfl dX5_copyFrom_1 ?_
  refine lv_iconst (v := 0) hx hb dX5_copyFrom_4 (by decide) ?_
  refine lv_aload_n hx hb dX5_copyFrom_5 rfl (lv_at hl 0 rfl) ?_
  refine q_get hC hW kX5_9 (40 + 6) (ap_g2 (LW_len _ _ _) (Lg6 cc ad S)) (v := .ref (ad 7)) rfl dX5_copyFrom_6 ?_
  refine lv_iconst (v := 0) hx hb dX5_copyFrom_9 (by decide) ?_
  refine lv_aload_n hx hb dX5_copyFrom_10 rfl (lv_at hl 1 rfl) ?_
  refine q_get hC hW kX5_15 6 (ap_g1 (Lg6 cc ao So)) (v := .int (nI mc)) (congrArg (fun z => some (Value.int z)) hm) dX5_copyFrom_11 ?_
  refine q_copyL hC hW yX5_acopy_19 7 (40 + 7) (ap_g1 (Lg7 cc ao So)) (ap_g2 (LW_len _ _ _) (Lg7 cc ad S)) (sp := 0) (dp := 0) (n := mc) rfl rfl rfl (by omega) (by omega) (by omega) (by omega) (by omega) (ap_s2 (LW_len _ _ _) (Lr7 cc ad S (va_cpy (So.2 1) (S.2 1) 0 0 mc))) hl.1 (by decide) (Nat.le_of_ble_eq_true rfl) dX5_copyFrom_14 (fun H locs hW => ?_)
  refine lv_aload_n hx hb dX5_copyFrom_17 rfl (lv_at hl 0 rfl) ?_
  refine lv_aload_n hx hb dX5_copyFrom_18 rfl (lv_at hl 1 rfl) ?_
  refine q_get hC hW kX5_15 6 (ap_g1 (Lg6 cc ao So)) (v := .int (nI mc)) (congrArg (fun z => some (Value.int z)) hm) dX5_copyFrom_19 ?_
  refine q_putI hC hW kX5_15 (40 + 6) (ap_g2 (LW_len _ _ _) (Lg6 cc ad (sRJ S 1 (va_cpy (So.2 1) (S.2 1) 0 0 mc)))) (ap_s2 (LW_len _ _ _) (Ls6_1 cc ad (sRJ S 1 (va_cpy (So.2 1) (S.2 1) 0 0 mc)) (nI mc))) (Nat.le_of_ble_eq_true rfl) dX5_copyFrom_22 (fun H locs hW => ?_)
  exact hend _ _ _ _ _ (by unfold sX5_copyFrom_S; rfl) hW dX5_copyFrom_25
def sX8_copyFrom_S (So S : St) (i : Nat) : St := (sI (sJ (sJ (sI (sI (sX4_copyFrom_S So (sX0_copyFrom_S So S i) i) 5 i (So.1 5 i)) 6 i (So.1 6 i)) 3 i (So.2 3 i)) 4 i (So.2 4 i)) 7 i (So.1 7 i))
set_option maxHeartbeats 4000000 in
set_option maxRecDepth 100000 in
theorem c_X8_copyFrom (l : Launch) (D : va_G) (cc : Nat → ClassId) (ao ad : Nat → Nat) (So S : St) (i : Nat) (hi : i < 6) : CtV l D cc yX8_copyFrom cX8_copyFrom 2 1 [.ref (ad (i + 15)), .ref (ao (i + 15))] (LW cc ao So ++ LW cc ad S) (LW cc ao So ++ LW cc ad (sX8_copyFrom_S So S i)) := by
  refine CtV.of (plainFor_of_name (by decide +kernel)) (Nat.le_of_ble_eq_true rfl) ?_
  intro p e s m args below meth c A Q hC hW hend ls hl
  obtain ⟨⟨hx, hb, hml, hown, hts⟩, hNW⟩ := id hC
  have hl : lv_has ls 2 [(0, .ref (ad (i + 15))), (1, .ref (ao (i + 15)))] := hl
  refine lv_aload_n hx hb dX8_copyFrom_0 rfl (lv_at hl 0 rfl) ?_
  refine q_get hC hW kX8_12 (40 + (i + 15)) (ap_g2 (LW_len _ _ _) (Lg_f8 cc ad S i (by omega))) (v := .ref (ad (i + 21))) rfl dX8_copyFrom_1 ?_
  refine lv_aload_n hx hb dX8_copyFrom_4 rfl (lv_at hl 1 rfl) ?_
  refine q_get hC hW kX8_12 (i + 15) (ap_g1 (Lg_f8 cc ao So i (by omega))) (v := .ref (ao (i + 21))) rfl dX8_copyFrom_5 ?_
  refine q_VV hC hW (c_X0_copyFrom l D cc ao ad So S i (by omega)) mX8_42 (40 + (i + 21)) (ap_g2 (LW_len _ _ _) (Lg_f0 cc ad S i (by omega))) rfl (by decide) rfl hl.1 rfl (Nat.le_of_ble_eq_true rfl) (by decide) dX8_copyFrom_8 (fun H locs hW => ?_)
  refine lv_aload_n hx hb dX8_copyFrom_11 rfl (lv_at hl 0 rfl) ?_
  refine q_get hC hW kX8_21 (40 + (i + 15)) (ap_g2 (LW_len _ _ _) (Lg_f8 cc ad (sX0_copyFrom_S So S i) i (by omega))) (v := .ref (ad (i + 27))) rfl dX8_copyFrom_12 ?_
  refine lv_aload_n hx hb dX8_copyFrom_15 rfl (lv_at hl 1 rfl) ?_
  refine q_get hC hW kX8_21 (i + 15) (ap_g1 (Lg_f8 cc ao So i (by omega))) (v := .ref (ao (i + 27))) rfl dX8_copyFrom_16 ?_
  refine q_VV hC hW (c_X4_copyFrom l D cc ao ad So (sX0_copyFrom_S So S i) i (by omega)) mX8_46 (40 + (i + 27)) (ap_g2 (LW_len _ _ _) (Lg_f4 cc ad (sX0_copyFrom_S So S i) i (by omega))) rfl (by decide) rfl hl.1 rfl (Nat.le_of_ble_eq_true rfl) (by decide) dX8_copyFrom_19 (fun H locs hW => ?_)
  refine lv_aload_n hx hb dX8_copyFrom_22 rfl (lv_at hl 0 rfl) ?_
  refine lv_aload_n hx hb dX8_copyFrom_23 rfl (lv_at hl 1 rfl) ?_
  refine q_get hC hW kX8_25 (i + 15) (ap_g1 (Lg_f8 cc ao So i (by omega))) (v := .int (So.1 5 i)) rfl dX8_copyFrom_24 ?_
  refine q_putI hC hW kX8_25 (40 + (i + 15)) (ap_g2 (LW_len _ _ _) (Lg_f8 cc ad (sX4_copyFrom_S So (sX0_copyFrom_S So S i) i) i (by omega))) (ap_s2 (LW_len _ _ _) (Ls_f8_2 cc ad (sX4_copyFrom_S So (sX0_copyFrom_S So S i) i) i (by omega) (So.1 5 i))) (Nat.le_of_ble_eq_true rfl) dX8_copyFrom_27 (fun H locs hW => ?_)
  refine lv_aload_n hx hb dX8_copyFrom_30 rfl (lv_at hl 0 rfl) ?_
  refine lv_aload_n hx hb dX8_copyFrom_31 rfl (lv_at hl 1 rfl) ?_
  refine q_get hC hW kX8_29 (i + 15) (ap_g1 (Lg_f8 cc ao So i (by omega))) (v := .int (So.1 6 i)) rfl dX8_copyFrom_32 ?_
  refine q_putI hC hW kX8_29 (40 + (i + 15)) (ap_g2 (LW_len _ _ _) (Lg_f8 cc ad (sI (sX4_copyFrom_S So (sX0_copyFrom_S So S i) i) 5 i (So.1 5 i)) i (by omega))) (ap_s2 (LW_len _ _ _) (Ls_f8_3 cc ad (sI (sX4_copyFrom_S So (sX0_copyFrom_S So S i) i) 5 i (So.1 5 i)) i (by omega) (So.1 6 i))) (Nat.le_of_ble_eq_true rfl) dX8_copyFrom_35 (fun H locs hW => ?_)
  refine lv_aload_n hx hb dX8_copyFrom_38 rfl (lv_at hl 0 rfl) ?_
  refine lv_aload_n hx hb dX8_copyFrom_39 rfl (lv_at hl 1 rfl) ?_
  refine q_get hC hW kX8_32 (i + 15) (ap_g1 (Lg_f8 cc ao So i (by omega))) (v := .long (So.2 3 i)) rfl dX8_copyFrom_40 ?_
  refine q_putL hC hW kX8_32 (40 + (i + 15)) (ap_g2 (LW_len _ _ _) (Lg_f8 cc ad (sI (sI (sX4_copyFrom_S So (sX0_copyFrom_S So S i) i) 5 i (So.1 5 i)) 6 i (So.1 6 i)) i (by omega))) (ap_s2 (LW_len _ _ _) (Ls_f8_4 cc ad (sI (sI (sX4_copyFrom_S So (sX0_copyFrom_S So S i) i) 5 i (So.1 5 i)) 6 i (So.1 6 i)) i (by omega) (So.2 3 i))) (Nat.le_of_ble_eq_true rfl) dX8_copyFrom_43 (fun H locs hW => ?_)
  refine lv_aload_n hx hb dX8_copyFrom_46 rfl (lv_at hl 0 rfl) ?_
  refine lv_aload_n hx hb dX8_copyFrom_47 rfl (lv_at hl 1 rfl) ?_
  refine q_get hC hW kX8_36 (i + 15) (ap_g1 (Lg_f8 cc ao So i (by omega))) (v := .long (So.2 4 i)) rfl dX8_copyFrom_48 ?_
  refine q_putL hC hW kX8_36 (40 + (i + 15)) (ap_g2 (LW_len _ _ _) (Lg_f8 cc ad (sJ (sI (sI (sX4_copyFrom_S So (sX0_copyFrom_S So S i) i) 5 i (So.1 5 i)) 6 i (So.1 6 i)) 3 i (So.2 3 i)) i (by omega))) (ap_s2 (LW_len _ _ _) (Ls_f8_5 cc ad (sJ (sI (sI (sX4_copyFrom_S So (sX0_copyFrom_S So S i) i) 5 i (So.1 5 i)) 6 i (So.1 6 i)) 3 i (So.2 3 i)) i (by omega) (So.2 4 i))) (Nat.le_of_ble_eq_true rfl) dX8_copyFrom_51 (fun H locs hW => ?_)
  refine lv_aload_n hx hb dX8_copyFrom_54 rfl (lv_at hl 0 rfl) ?_
  refine lv_aload_n hx hb dX8_copyFrom_55 rfl (lv_at hl 1 rfl) ?_
  refine q_get hC hW kX8_39 (i + 15) (ap_g1 (Lg_f8 cc ao So i (by omega))) (v := .int (So.1 7 i)) rfl dX8_copyFrom_56 ?_
  refine q_putI hC hW kX8_39 (40 + (i + 15)) (ap_g2 (LW_len _ _ _) (Lg_f8 cc ad (sJ (sJ (sI (sI (sX4_copyFrom_S So (sX0_copyFrom_S So S i) i) 5 i (So.1 5 i)) 6 i (So.1 6 i)) 3 i (So.2 3 i)) 4 i (So.2 4 i)) i (by omega))) (ap_s2 (LW_len _ _ _) (Ls_f8_6 cc ad (sJ (sJ (sI (sI (sX4_copyFrom_S So (sX0_copyFrom_S So S i) i) 5 i (So.1 5 i)) 6 i (So.1 6 i)) 3 i (So.2 3 i)) 4 i (So.2 4 i)) i (by omega) (So.1 7 i))) (Nat.le_of_ble_eq_true rfl) dX8_copyFrom_59 (fun H locs hW => ?_)
  exact hend _ _ _ _ _ (by unfold sX8_copyFrom_S; rfl) hW dX8_copyFrom_62
theorem n_X8_copyFrom (So S : St) (i : Nat) : (sX8_copyFrom_S So S i).1 0 0 = S.1 0 0 := rfl
def LX3_copyFrom_104_S (So S : St)  : Nat → St
  | 0 => (sX7_copyFrom_S So (sI (sI (sI (sI (sX5_copyFrom_S So (sX6_copyFrom_S So (sX9_copyFrom_S So (sX1_copyFrom_S So (sX10_copyFrom_S So S)))) (cM So)) 0 0 (nI (cN So))) 0 1 (So.1 0 1)) 0 2 (So.1 0 2)) 0 3 (So.1 0 3)) 0)
  | k + 1 => (sX7_copyFrom_S So (sX8_copyFrom_S So (LX3_copyFrom_104_S So S k) k) (k + 1))
theorem nL_copyFrom (So S : St) (k : Nat) : (LX3_copyFrom_104_S So S k).1 0 0 = nI (cN So) := by
  induction k with
  | zero => rfl
  | succ k ih => exact (n_X7_copyFrom _ _ _).trans ((n_X8_copyFrom _ _ _).trans ih)
def sX3_copyFrom_S (So S : St)  : St := (LX3_copyFrom_104_S So S (cN So))
set_option maxHeartbeats 4000000 in
set_option maxRecDepth 100000 in
theorem c_X3_copyFrom (l : Launch) (D : va_G) (cc : Nat → ClassId) (ao ad : Nat → Nat) (So S : St) (hJ : Inv So) : CtV l D cc yX3_copyFrom cX3_copyFrom 3 2 [.ref (ad 0), .ref (ao 0)] (LW cc ao So ++ LW cc ad S) (LW cc ao So ++ LW cc ad (sX3_copyFrom_S So S )) := by
  refine CtV.of (plainFor_of_name (by decide +kernel)) (Nat.le_of_ble_eq_true rfl) ?_
  intro p e s m args below meth c A Q hC hW hend ls hl
  obtain ⟨⟨hx, hb, hml, hown, hts⟩, hNW⟩ := id hC
  have hl : lv_has ls 3 [(0, .ref (ad 0)), (1, .ref (ao 0))] := hl
  obtain ⟨⟨-, hb1_hJ, hb2_hJ⟩, ⟨-, hq_hJ⟩, ⟨-, hm_hJ⟩, ⟨-, ho_hJ⟩, ⟨-, hc_hJ⟩⟩ := id hJ
  refine lv_aload_n hx hb dX3_copyFrom_0 rfl (lv_at hl 0 rfl) ?_
  refine q_get hC hW kX3_12 (40 + 0) (ap_g2 (LW_len _ _ _) (Lg0 cc ad S)) (v := .ref (ad 1)) rfl dX3_copyFrom_1 ?_
  refine lv_aload_n hx hb dX3_copyFrom_4 rfl (lv_at hl 1 rfl) ?_
  refine q_get hC hW kX3_12 0 (ap_g1 (Lg0 cc ao So)) (v := .ref (ao 1)) rfl dX3_copyFrom_5 ?_
  refine q_VV hC hW (c_X10_copyFrom l D cc ao ad So S) mX3_106 (40 + 1) (ap_g2 (LW_len _ _ _) (Lg1 cc ad S)) rfl (by decide) rfl hl.1 rfl (Nat.le_of_ble_eq_true rfl) (by decide) dX3_copyFrom_8 (fun H locs hW => ?_)
  refine lv_aload_n hx hb dX3_copyFrom_11 rfl (lv_at hl 0 rfl) ?_
  refine q_get hC hW kX3_21 (40 + 0) (ap_g2 (LW_len _ _ _) (Lg0 cc ad (sX10_copyFrom_S So S))) (v := .ref (ad 2)) rfl dX3_copyFrom_12 ?_
  refine lv_aload_n hx hb dX3_copyFrom_15 rfl (lv_at hl 1 rfl) ?_
  refine q_get hC hW kX3_21 0 (ap_g1 (Lg0 cc ao So)) (v := .ref (ao 2)) rfl dX3_copyFrom_16 ?_
  refine q_VV hC hW (c_X1_copyFrom l D cc ao ad So (sX10_copyFrom_S So S)) mX3_110 (40 + 2) (ap_g2 (LW_len _ _ _) (Lg2 cc ad (sX10_copyFrom_S So S))) rfl (by decide) rfl hl.1 rfl (Nat.le_of_ble_eq_true rfl) (by decide) dX3_copyFrom_19 (fun H locs hW => ?_)
  refine lv_aload_n hx hb dX3_copyFrom_22 rfl (lv_at hl 0 rfl) ?_
  refine q_get hC hW kX3_28 (40 + 0) (ap_g2 (LW_len _ _ _) (Lg0 cc ad (sX1_copyFrom_S So (sX10_copyFrom_S So S)))) (v := .ref (ad 3)) rfl dX3_copyFrom_23 ?_
  refine lv_aload_n hx hb dX3_copyFrom_26 rfl (lv_at hl 1 rfl) ?_
  refine q_get hC hW kX3_28 0 (ap_g1 (Lg0 cc ao So)) (v := .ref (ao 3)) rfl dX3_copyFrom_27 ?_
  refine q_VV hC hW (c_X9_copyFrom l D cc ao ad So (sX1_copyFrom_S So (sX10_copyFrom_S So S))) mX3_113 (40 + 3) (ap_g2 (LW_len _ _ _) (Lg3 cc ad (sX1_copyFrom_S So (sX10_copyFrom_S So S)))) rfl (by decide) rfl hl.1 rfl (Nat.le_of_ble_eq_true rfl) (by decide) dX3_copyFrom_30 (fun H locs hW => ?_)
  refine lv_aload_n hx hb dX3_copyFrom_33 rfl (lv_at hl 0 rfl) ?_
  refine q_get hC hW kX3_35 (40 + 0) (ap_g2 (LW_len _ _ _) (Lg0 cc ad (sX9_copyFrom_S So (sX1_copyFrom_S So (sX10_copyFrom_S So S))))) (v := .ref (ad 5)) rfl dX3_copyFrom_34 ?_
  refine lv_aload_n hx hb dX3_copyFrom_37 rfl (lv_at hl 1 rfl) ?_
  refine q_get hC hW kX3_35 0 (ap_g1 (Lg0 cc ao So)) (v := .ref (ao 5)) rfl dX3_copyFrom_38 ?_
  refine q_VV hC hW (c_X6_copyFrom l D cc ao ad So (sX9_copyFrom_S So (sX1_copyFrom_S So (sX10_copyFrom_S So S)))) mX3_116 (40 + 5) (ap_g2 (LW_len _ _ _) (Lg5 cc ad (sX9_copyFrom_S So (sX1_copyFrom_S So (sX10_copyFrom_S So S))))) rfl (by decide) rfl hl.1 rfl (Nat.le_of_ble_eq_true rfl) (by decide) dX3_copyFrom_41 (fun H locs hW => ?_)
  refine lv_aload_n hx hb dX3_copyFrom_44 rfl (lv_at hl 0 rfl) ?_
  refine q_get hC hW kX3_42 (40 + 0) (ap_g2 (LW_len _ _ _) (Lg0 cc ad (sX6_copyFrom_S So (sX9_copyFrom_S So (sX1_copyFrom_S So (sX10_copyFrom_S So S)))))) (v := .ref (ad 6)) rfl dX3_copyFrom_45 ?_
  refine lv_aload_n hx hb dX3_copyFrom_48 rfl (lv_at hl 1 rfl) ?_
  refine q_get hC hW kX3_42 0 (ap_g1 (Lg0 cc ao So)) (v := .ref (ao 6)) rfl dX3_copyFrom_49 ?_
  refine q_VV hC hW (c_X5_copyFrom l D cc ao ad So (sX6_copyFrom_S So (sX9_copyFrom_S So (sX1_copyFrom_S So (sX10_copyFrom_S So S)))) (cM So) hJ.2.2.1.1 (by omega)) mX3_119 (40 + 6) (ap_g2 (LW_len _ _ _) (Lg6 cc ad (sX6_copyFrom_S So (sX9_copyFrom_S So (sX1_copyFrom_S So (sX10_copyFrom_S So S)))))) rfl (by decide) rfl hl.1 rfl (Nat.le_of_ble_eq_true rfl) (by decide) dX3_copyFrom_52 (fun H locs hW => ?_)
  refine lv_aload_n hx hb dX3_copyFrom_55 rfl (lv_at hl 0 rfl) ?_
  refine lv_aload_n hx hb dX3_copyFrom_56 rfl (lv_at hl 1 rfl) ?_
  refine q_get hC hW kX3_86 0 (ap_g1 (Lg0 cc ao So)) (v := .int (nI (cN So))) (congrArg (fun z => some (Value.int z)) hJ.1.1) dX3_copyFrom_57 ?_
  refine q_putI hC hW kX3_86 (40 + 0) (ap_g2 (LW_len _ _ _) (Lg0 cc ad (sX5_copyFrom_S So (sX6_copyFrom_S So (sX9_copyFrom_S So (sX1_copyFrom_S So (sX10_copyFrom_S So S)))) (cM So)))) (ap_s2 (LW_len _ _ _) (Ls0_9 cc ad (sX5_copyFrom_S So (sX6_copyFrom_S So (sX9_copyFrom_S So (sX1_copyFrom_S So (sX10_copyFrom_S So S)))) (cM So)) (nI (cN So)))) (Nat.le_of_ble_eq_true rfl) dX3_copyFrom_60 (fun H locs hW => ?_)
  refine lv_aload_n hx hb dX3_copyFrom_63 rfl (lv_at hl 0 rfl) ?_
  refine lv_aload_n hx hb dX3_copyFrom_64 rfl (lv_at hl 1 rfl) ?_
  refine q_get hC hW kX3_94 0 (ap_g1 (Lg0 cc ao So)) (v := .int (So.1 0 1)) rfl dX3_copyFrom_65 ?_
  refine q_putI hC hW kX3_94 (40 + 0) (ap_g2 (LW_len _ _ _) (Lg0 cc ad (sI (sX5_copyFrom_S So (sX6_copyFrom_S So (sX9_copyFrom_S So (sX1_copyFrom_S So (sX10_copyFrom_S So S)))) (cM So)) 0 0 (nI (cN So))))) (ap_s2 (LW_len _ _ _) (Ls0_10 cc ad (sI (sX5_copyFrom_S So (sX6_copyFrom_S So (sX9_copyFrom_S So (sX1_copyFrom_S So (sX10_copyFrom_S So S)))) (cM So)) 0 0 (nI (cN So))) (So.1 0 1))) (Nat.le_of_ble_eq_true rfl) dX3_copyFrom_68 (fun H locs hW => ?_)
  refine lv_aload_n hx hb dX3_copyFrom_71 rfl (lv_at hl 0 rfl) ?_
  refine lv_aload_n hx hb dX3_copyFrom_72 rfl (lv_at hl 1 rfl) ?_
  refine q_get hC hW kX3_97 0 (ap_g1 (Lg0 cc ao So)) (v := .int (So.1 0 2)) rfl dX3_copyFrom_73 ?_
  refine q_putI hC hW kX3_97 (40 + 0) (ap_g2 (LW_len _ _ _) (Lg0 cc ad (sI (sI (sX5_copyFrom_S So (sX6_copyFrom_S So (sX9_copyFrom_S So (sX1_copyFrom_S So (sX10_copyFrom_S So S)))) (cM So)) 0 0 (nI (cN So))) 0 1 (So.1 0 1)))) (ap_s2 (LW_len _ _ _) (Ls0_11 cc ad (sI (sI (sX5_copyFrom_S So (sX6_copyFrom_S So (sX9_copyFrom_S So (sX1_copyFrom_S So (sX10_copyFrom_S So S)))) (cM So)) 0 0 (nI (cN So))) 0 1 (So.1 0 1)) (So.1 0 2))) (Nat.le_of_ble_eq_true rfl) dX3_copyFrom_76 (fun H locs hW => ?_)
  refine lv_aload_n hx hb dX3_copyFrom_79 rfl (lv_at hl 0 rfl) ?_
  refine lv_aload_n hx hb dX3_copyFrom_80 rfl (lv_at hl 1 rfl) ?_
  refine q_get hC hW kX3_101 0 (ap_g1 (Lg0 cc ao So)) (v := .int (So.1 0 3)) rfl dX3_copyFrom_81 ?_
  refine q_putI hC hW kX3_101 (40 + 0) (ap_g2 (LW_len _ _ _) (Lg0 cc ad (sI (sI (sI (sX5_copyFrom_S So (sX6_copyFrom_S So (sX9_copyFrom_S So (sX1_copyFrom_S So (sX10_copyFrom_S So S)))) (cM So)) 0 0 (nI (cN So))) 0 1 (So.1 0 1)) 0 2 (So.1 0 2)))) (ap_s2 (LW_len _ _ _) (Ls0_12 cc ad (sI (sI (sI (sX5_copyFrom_S So (sX6_copyFrom_S So (sX9_copyFrom_S So (sX1_copyFrom_S So (sX10_copyFrom_S So S)))) (cM So)) 0 0 (nI (cN So))) 0 1 (So.1 0 1)) 0 2 (So.1 0 2)) (So.1 0 3))) (Nat.le_of_ble_eq_true rfl) dX3_copyFrom_84 (fun H locs hW => ?_)
  refine lv_aload_n hx hb dX3_copyFrom_87 rfl (lv_at hl 0 rfl) ?_
  refine q_get hC hW kX3_61 (40 + 0) (ap_g2 (LW_len _ _ _) (Lg0 cc ad (sI (sI (sI (sI (sX5_copyFrom_S So (sX6_copyFrom_S So (sX9_copyFrom_S So (sX1_copyFrom_S So (sX10_copyFrom_S So S)))) (cM So)) 0 0 (nI (cN So))) 0 1 (So.1 0 1)) 0 2 (So.1 0 2)) 0 3 (So.1 0 3)))) (v := .ref (ad 13)) rfl dX3_copyFrom_88 ?_
  refine lv_iconst (v := 0) hx hb dX3_copyFrom_91 (by decide) ?_
  refine q_aald hC hW (40 + 13) 2 (ap_g2 (LW_len _ _ _) (Lg13 cc ad (sI (sI (sI (sI (sX5_copyFrom_S So (sX6_copyFrom_S So (sX9_copyFrom_S So (sX1_copyFrom_S So (sX10_copyFrom_S So S)))) (cM So)) 0 0 (nI (cN So))) 0 1 (So.1 0 1)) 0 2 (So.1 0 2)) 0 3 (So.1 0 3)))) rfl (v := ad (0 + 33)) 0 rfl (by omega) (by decide) rfl dX3_copyFrom_92 ?_
  refine lv_aload_n hx hb dX3_copyFrom_93 rfl (lv_at hl 1 rfl) ?_
  refine q_get hC hW kX3_61 0 (ap_g1 (Lg0 cc ao So)) (v := .ref (ao 13)) rfl dX3_copyFrom_94 ?_
  refine lv_iconst (v := 0) hx hb dX3_copyFrom_97 (by decide) ?_
  refine q_aald hC hW 13 2 (ap_g1 (Lg13 cc ao So)) rfl (v := ao (0 + 33)) 0 rfl (by omega) (by decide) rfl dX3_copyFrom_98 ?_
  refine q_VV hC hW (c_X7_copyFrom l D cc ao ad So (sI (sI (sI (sI (sX5_copyFrom_S So (sX6_copyFrom_S So (sX9_copyFrom_S So (sX1_copyFrom_S So (sX10_copyFrom_S So S)))) (cM So)) 0 0 (nI (cN So))) 0 1 (So.1 0 1)) 0 2 (So.1 0 2)) 0 3 (So.1 0 3)) 0 (by omega)) mX3_122 (40 + (0 + 33)) (ap_g2 (LW_len _ _ _) (Lg_f7 cc ad (sI (sI (sI (sI (sX5_copyFrom_S So (sX6_copyFrom_S So (sX9_copyFrom_S So (sX1_copyFrom_S So (sX10_copyFrom_S So S)))) (cM So)) 0 0 (nI (cN So))) 0 1 (So.1 0 1)) 0 2 (So.1 0 2)) 0 3 (So.1 0 3)) 0 (by omega))) rfl (by decide) rfl hl.1 rfl (Nat.le_of_ble_eq_true rfl) (by decide) dX3_copyFrom_99 (fun H locs hW => ?_)
  refine lv_iconst (v := 0) hx hb dX3_copyFrom_102 (by decide) ?_
  refine lv_istore_n (lv' := [(2, .int 0), (0, .ref (ad 0)), (1, .ref (ao 0))]) hx hb dX3_copyFrom_103 rfl hl (by decide) rfl (fun ls hl => ?_)
  have loop1 : ∀ (rn k : Nat), k + rn = (cN So) → ∀ (H : Heap) (locs : List Loc) (ls : Array Slot), Wd D cc (LW cc ao So ++ LW cc ad (LX3_copyFrom_104_S So S k)) A s.heap H locs s → lv_has ls 3 [(0, .ref (ad 0)), (1, .ref (ao 0)), (2, .int (nI k))] → W p l e (rmD 2) s m args below meth c H locs 0 0 Q (F0 m 104 ls []) := by
    intro rn
    induction rn with
    | zero =>
      intro k hk H locs ls hW hl
      obtain rfl : (cN So) = k := by omega
      refine lv_iload_n hx hb dX3_copyFrom_104 rfl (lv_at hl 2 rfl) ?_
      refine lv_aload_n hx hb dX3_copyFrom_105 rfl (lv_at hl 0 rfl) ?_
      refine q_get hC hW kX3_86 (40 + 0) (ap_g2 (LW_len _ _ _) (Lg0 cc ad (LX3_copyFrom_104_S So S (cN So)))) (v := .int (nI (cN So))) (congrArg (fun z => some (Value.int z)) ((nL_copyFrom So S (cN So)).trans (n_X7_copyFrom So (sI (sI (sI (sI (sX5_copyFrom_S So (sX6_copyFrom_S So (sX9_copyFrom_S So (sX1_copyFrom_S So (sX10_copyFrom_S So S)))) (cM So)) 0 0 (nI (cN So))) 0 1 (So.1 0 1)) 0 2 (So.1 0 2)) 0 3 (So.1 0 3)) 0))) dX3_copyFrom_106 ?_
      refine q_icmp_ge_n (tgt := 152) hx hb (a := (cN So)) (b := (cN So)) rfl rfl (by omega) (by omega) dX3_copyFrom_109 (by decide) (fun c_109 => ?_) (fun c_109 => by exfalso; omega)
      exact hend _ _ _ _ _ (by unfold sX3_copyFrom_S; rfl) hW dX3_copyFrom_152
    | succ rn ih =>
      intro k hk H locs ls hW hl
      have hkN : k < (cN So) := by omega
      refine lv_iload_n hx hb dX3_copyFrom_104 rfl (lv_at hl 2 rfl) ?_
      refine lv_aload_n hx hb dX3_copyFrom_105 rfl (lv_at hl 0 rfl) ?_
      refine q_get hC hW kX3_86 (40 + 0) (ap_g2 (LW_len _ _ _) (Lg0 cc ad (LX3_copyFrom_104_S So S k))) (v := .int (nI (cN So))) (congrArg (fun z => some (Value.int z)) ((nL_copyFrom So S k).trans (n_X7_copyFrom So (sI (sI (sI (sI (sX5_copyFrom_S So (sX6_copyFrom_S So (sX9_copyFrom_S So (sX1_copyFrom_S So (sX10_copyFrom_S So S)))) (cM So)) 0 0 (nI (cN So))) 0 1 (So.1 0 1)) 0 2 (So.1 0 2)) 0 3 (So.1 0 3)) 0))) dX3_copyFrom_106 ?_
      refine q_icmp_ge_n (tgt := 152) hx hb (a := k) (b := (cN So)) rfl rfl (by omega) (by omega) dX3_copyFrom_109 (by decide) (fun c_109 => by exfalso; omega) (fun c_109 => ?_)
      refine lv_aload_n hx hb dX3_copyFrom_112 rfl (lv_at hl 0 rfl) ?_
      refine q_get hC hW kX3_55 (40 + 0) (ap_g2 (LW_len _ _ _) (Lg0 cc ad (LX3_copyFrom_104_S So S k))) (v := .ref (ad 12)) rfl dX3_copyFrom_113 ?_
      refine lv_iload_n hx hb dX3_copyFrom_116 rfl (lv_at hl 2 rfl) ?_
      refine q_aald hC hW (40 + 12) 3 (ap_g2 (LW_len _ _ _) (Lg12 cc ad (LX3_copyFrom_104_S So S k))) rfl (v := ad (k + 15)) k rfl (by omega) (by decide) rfl dX3_copyFrom_117 ?_
      refine lv_aload_n hx hb dX3_copyFrom_118 rfl (lv_at hl 1 rfl) ?_
      refine q_get hC hW kX3_55 0 (ap_g1 (Lg0 cc ao So)) (v := .ref (ao 12)) rfl dX3_copyFrom_119 ?_
      refine lv_iload_n hx hb dX3_copyFrom_122 rfl (lv_at hl 2 rfl) ?_
      refine q_aald hC hW 12 3 (ap_g1 (Lg12 cc ao So)) rfl (v := ao (k + 15)) k rfl (by omega) (by decide) rfl dX3_copyFrom_123 ?_
      refine q_VV hC hW (c_X8_copyFrom l D cc ao ad So (LX3_copyFrom_104_S So S k) k (by omega)) mX3_125 (40 + (k + 15)) (ap_g2 (LW_len _ _ _) (Lg_f8 cc ad (LX3_copyFrom_104_S So S k) k (by omega))) rfl (by decide) rfl hl.1 rfl (Nat.le_of_ble_eq_true rfl) (by decide) dX3_copyFrom_124 (fun H locs hW => ?_)
      refine lv_aload_n hx hb dX3_copyFrom_127 rfl (lv_at hl 0 rfl) ?_
      refine q_get hC hW kX3_61 (40 + 0) (ap_g2 (LW_len _ _ _) (Lg0 cc ad (sX8_copyFrom_S So (LX3_copyFrom_104_S So S k) k))) (v := .ref (ad 13)) rfl dX3_copyFrom_128 ?_
      refine lv_iload_n hx hb dX3_copyFrom_131 rfl (lv_at hl 2 rfl) ?_
      refine lv_iconst (v := 1) hx hb dX3_copyFrom_132 (by decide) ?_
      refine lv_iadd hx hb dX3_copyFrom_133 ?_
      refine q_ri (v := nI (k + 1)) (nq_add (a := k) (b := 1) rfl rfl) ?_
      refine q_aald hC hW (40 + 13) 2 (ap_g2 (LW_len _ _ _) (Lg13 cc ad (sX8_copyFrom_S So (LX3_copyFrom_104_S So S k) k))) rfl (v := ad (k + 1 + 33)) (k + 1) rfl (by omega) (by decide) rfl dX3_copyFrom_134 ?_
      refine lv_aload_n hx hb dX3_copyFrom_135 rfl (lv_at hl 1 rfl) ?_
      refine q_get hC hW kX3_61 0 (ap_g1 (Lg0 cc ao So)) (v := .ref (ao 13)) rfl dX3_copyFrom_136 ?_
      refine lv_iload_n hx hb dX3_copyFrom_139 rfl (lv_at hl 2 rfl) ?_
      refine lv_iconst (v := 1) hx hb dX3_copyFrom_140 (by decide) ?_
      refine lv_iadd hx hb dX3_copyFrom_141 ?_
      refine q_ri (v := nI (k + 1)) (nq_add (a := k) (b := 1) rfl rfl) ?_
      refine q_aald hC hW 13 2 (ap_g1 (Lg13 cc ao So)) rfl (v := ao (k + 1 + 33)) (k + 1) rfl (by omega) (by decide) rfl dX3_copyFrom_142 ?_
      refine q_VV hC hW (c_X7_copyFrom l D cc ao ad So (sX8_copyFrom_S So (LX3_copyFrom_104_S So S k) k) (k + 1) (by omega)) mX3_122 (40 + (k + 1 + 33)) (ap_g2 (LW_len _ _ _) (Lg_f7 cc ad (sX8_copyFrom_S So (LX3_copyFrom_104_S So S k) k) (k + 1) (by omega))) rfl (by decide) rfl hl.1 rfl (Nat.le_of_ble_eq_true rfl) (by decide) dX3_copyFrom_143 (fun H locs hW => ?_)
      refine lv_iinc (v := (nI (k + 1))) (lv' := [(2, .int (nI (k + 1))), (0, .ref (ad 0)), (1, .ref (ao 0))]) hx hb dX3_copyFrom_146 hl (k := 2) rfl (nq_inc k 1) (by decide) rfl (fun ls hl => ?_)
      refine lv_goto (tgt := 104) hx hb dX3_copyFrom_149 (by decide) ?_
      exact ih (k + 1) (by omega) _ _ _ (by simp only [LX3_copyFrom_104_S]; exact hW) (lv_sub hl [1, 2, 0] rfl)
  exact loop1 (cN So) 0 (by omega) _ _ _ hW (lv_sub hl [1, 2, 0] rfl)
